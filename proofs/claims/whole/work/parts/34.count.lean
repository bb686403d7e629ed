/-! small things of the numbers' paths -/
theorem xge_c {x y : Int32} {n : Int} (hx : x.toInt = n) (hy : y.toInt = n) : x = y := Int32.toInt_inj.mp (hx.trans hy.symm)
theorem xneg_i {x : Int32} (h : -2147483648 < x.toInt) : (-x).toInt = -x.toInt := by
  have := Int32.toInt_lt x
  rw [Int32.toInt_neg, Int.bmod_eq_of_le (by omega) (by omega)]
def xus (x k : Int32) : Int32 := (x.toUInt32 >>> (k.toUInt32 &&& Int32.toUInt32 31)).toInt32
theorem xus_n {x k : Int32} {j : Nat} (hj : ((k.toUInt32 &&& Int32.toUInt32 31) : UInt32).toNat = j) (hk : j < 32) : xun (xus x k) = xun x / 2 ^ j := by
  show (x.toUInt32 >>> (k.toUInt32 &&& Int32.toUInt32 31)).toNat = _
  rw [UInt32.toNat_shiftRight, hj, Nat.shiftRight_eq_div_pow, Nat.mod_eq_of_lt hk]
  rfl
theorem xus_i {x k : Int32} {j : Nat} (h : 0 ≤ x.toInt) (hj : ((k.toUInt32 &&& Int32.toUInt32 31) : UInt32).toNat = j) (hk : j < 32) : (xus x k).toInt = x.toInt / 2 ^ j := by
  have h1 := xus_n (x := x) hj hk
  have h2 := xun_i h
  have h3 := Int32.toInt_lt x
  have h4 : xun (xus x k) ≤ xun x := by rw [h1]; exact Nat.div_le_self _ _
  rw [xun_p (by omega), h1, ← h2]
  simp
theorem xus_16 {x : Int32} (h : 0 ≤ x.toInt) : (xus x 16).toInt = x.toInt / 65536 := xus_i (j := 16) h rfl (by decide)
theorem xus_8 {x : Int32} (h : 0 ≤ x.toInt) : (xus x 8).toInt = x.toInt / 256 := xus_i (j := 8) h rfl (by decide)
theorem xus_4 {x : Int32} (h : 0 ≤ x.toInt) : (xus x 4).toInt = x.toInt / 16 := xus_i (j := 4) h rfl (by decide)
theorem xus_2 {x : Int32} (h : 0 ≤ x.toInt) : (xus x 2).toInt = x.toInt / 4 := xus_i (j := 2) h rfl (by decide)
theorem xus_1 {x : Int32} (h : 0 ≤ x.toInt) : (xus x 1).toInt = x.toInt / 2 := xus_i (j := 1) h rfl (by decide)
theorem xnm_p {v : Int64} (h : (lg_cmp v (0 : Int64)).toInt ≠ 0) : v ≠ 0 := fun e => h (lg_cmp_z.mpr e)
theorem xnm_n {v : Int64} (h : (lg_cmp v (0 : Int64)).toInt ≠ 0) : -v ≠ 0 := by
  intro e
  apply h
  apply lg_cmp_z.mpr
  have : -(-v) = -0 := by rw [e]
  rw [Int64.neg_neg] at this
  exact this
def xvv (xs : Nat → Int32) : Int64 := xsh (xs 2) (32 : Int32) ||| ((xs 3).toInt64 &&& (4294967295 : Int64))
def xfr (v : Int64) : Int64 := v &&& (4503599627370495 : Int64)
def xfo (v : Int64) : Int64 := xfr v ||| (4503599627370496 : Int64)
theorem xfo_nz (v : Int64) : xfo v ≠ 0 := by
  intro e
  have h := congrArg xul e
  have h1 : xul (xfo v) = xul (xfr v) ||| 4503599627370496 := rfl
  rw [h1] at h
  have : (4503599627370496 : Nat) ≤ xul (xfr v) ||| 4503599627370496 := Nat.right_le_or
  have h0 : xul (0 : Int64) = 0 := rfl
  omega
def xfd (v : Int64) : Int32 := (xsr v 52).toInt32 &&& (2047 : Int32)
def xfe (v : Int64) : Int32 := (v >>> ((52 : Int32).toInt64 &&& 63)).toInt32 &&& (2047 : Int32)
theorem xfd_n (v : Int64) : xun (xfd v) = xul v / 4503599627370496 % 2048 := by
  have h : xul (xsr v 52) = xul v / 4503599627370496 := by
    unfold xul xsr
    rw [UInt64.toUInt64_toInt64, UInt64.toNat_shiftRight]
    show v.toUInt64.toNat >>> 52 = _
    rw [Nat.shiftRight_eq_div_pow]
  have h1 := xlo_n (xsr v 52)
  unfold xlo at h1
  have h2 : xun (xfd v) = xun (xsr v 52).toInt32 &&& 2047 := rfl
  rw [h2, h1, Nat.and_two_pow_sub_one_eq_mod _ 11, h]
  omega
theorem xfd_b (v : Int64) : 0 ≤ (xfd v).toInt ∧ (xfd v).toInt ≤ 2047 := by
  have h := xfd_n v
  have h1 := xun_p (x := xfd v) (by omega)
  omega
theorem xfe_eq (v : Int64) : xfe v = xfd v := by
  apply Int32.toBitVec_inj.mp
  show (BitVec.signExtend 32 (v.toBitVec.sshiftRight' (((52 : Int32).toInt64 &&& 63).toBitVec.smod 64))) &&& 2047#32 = (BitVec.signExtend 32 (v.toBitVec >>> (52 % 64))) &&& 2047#32
  have : ((52 : Int32).toInt64 &&& 63).toBitVec.smod 64 = BitVec.ofNat 64 52 := by decide
  rw [this, BitVec.sshiftRight_eq', BitVec.signExtend_eq_setWidth_of_le _ (by omega), BitVec.signExtend_eq_setWidth_of_le _ (by omega)]
  apply BitVec.eq_of_getLsbD_eq
  intro i hi
  rw [BitVec.getLsbD_and, BitVec.getLsbD_and, BitVec.getLsbD_setWidth, BitVec.getLsbD_setWidth, BitVec.getLsbD_sshiftRight]
  by_cases h : i < 12
  · have e1 : 52 + i < 64 := by omega
    have e2 : ¬ (64 ≤ i) := by omega
    have e3 : decide (64 ≤ i) = false := by simp [e2]
    have e4 : (52#64).toNat + i < 64 := e1
    rw [e3, if_pos e4]
    show (decide (i < 32) && (!false && v.toBitVec.getLsbD (52 + i)) && _) = (decide (i < 32) && (v.toBitVec >>> 52).getLsbD i && _)
    rw [BitVec.getLsbD_ushiftRight]
    rfl
  · have : (2047#32).getLsbD i = false := by
      have : i = 12 ∨ i = 13 ∨ i = 14 ∨ i = 15 ∨ i = 16 ∨ i = 17 ∨ i = 18 ∨ i = 19 ∨ i = 20 ∨ i = 21 ∨ i = 22 ∨ i = 23 ∨ i = 24 ∨ i = 25 ∨ i = 26 ∨ i = 27 ∨ i = 28 ∨ i = 29 ∨ i = 30 ∨ i = 31 := by omega
      rcases this with h|h|h|h|h|h|h|h|h|h|h|h|h|h|h|h|h|h|h|h <;> subst h <;> rfl
    rw [this, Bool.and_false, Bool.and_false]
theorem xadd_g {x y : Int32} {a b : Int} (hx : x.toInt = a) (hy : y.toInt = b) (h0 : -2147483648 ≤ a + b) (h1 : a + b < 2147483648) : (x + y).toInt = a + b := by
  subst hx; subst hy; exact xadd_i h0 h1
theorem xsub_g {x y : Int32} {a b : Int} (hx : x.toInt = a) (hy : y.toInt = b) (h0 : -2147483648 ≤ a - b) (h1 : a - b < 2147483648) : (x - y).toInt = a - b := by
  subst hx; subst hy; exact xsub_i h0 h1
theorem xcp_i {f g : Nat → Value} {sp dp n j : Nat} {v : Value} (hc : (Nat.ble dp j && Nat.blt j (dp + n)) = true) (hf : f (sp + (j - dp)) = v) : xcp f g sp dp n j = v := by unfold xcp; rw [hc]; exact hf
theorem xcp_o {f g : Nat → Value} {sp dp n j : Nat} {v : Value} (hc : (Nat.ble dp j && Nat.blt j (dp + n)) = false) (hg : g j = v) : xcp f g sp dp n j = v := by unfold xcp; rw [hc]; exact hg
theorem xci1 {f : Nat → Value} {a : Int32} (h0 : f (0 : Int32).toInt.toNat = .int a) : ∀ k, k < (1 : Int32).toInt.toNat → ∃ z, f ((0 : Int32).toInt.toNat + k) = .int z := fun k hk => match k, hk with
  | 0, _ => ⟨a, h0⟩
  | k + 1, h => absurd h (by show ¬ (k + 1 < 1); omega)
theorem xci2 {f : Nat → Value} {a b : Int32} (h0 : f (0 : Int32).toInt.toNat = .int a) (h1 : f (1 : Int32).toInt.toNat = .int b) : ∀ k, k < (2 : Int32).toInt.toNat → ∃ z, f ((0 : Int32).toInt.toNat + k) = .int z := fun k hk => match k, hk with
  | 0, _ => ⟨a, h0⟩
  | 1, _ => ⟨b, h1⟩
  | k + 2, h => absurd h (by show ¬ (k + 2 < 2); omega)
theorem xci3 {f : Nat → Value} {a b c : Int32} (h0 : f (0 : Int32).toInt.toNat = .int a) (h1 : f (1 : Int32).toInt.toNat = .int b) (h2 : f (2 : Int32).toInt.toNat = .int c) : ∀ k, k < (3 : Int32).toInt.toNat → ∃ z, f ((0 : Int32).toInt.toNat + k) = .int z := fun k hk => match k, hk with
  | 0, _ => ⟨a, h0⟩
  | 1, _ => ⟨b, h1⟩
  | 2, _ => ⟨c, h2⟩
  | k + 3, h => absurd h (by show ¬ (k + 3 < 3); omega)
theorem xun_inj {a b : Int32} (h : xun a = xun b) : a = b := by
  have h1 : a.toUInt32 = b.toUInt32 := UInt32.toNat_inj.mp h
  have h2 := congrArg UInt32.toInt32 h1
  simpa using h2
theorem xbl_half (n : Nat) : xbl (n / 2) = xbl n - 1 := by
  by_cases h : n / 2 = 0
  · have : n = 0 ∨ n = 1 := by omega
    rcases this with rfl | rfl
    · rfl
    · have : xbl 1 = 1 := xbl_eq (k := 0) (by decide) (by decide)
      rw [this]; rfl
  · have := xbl_hi (N := n) (k := 1) h
    have e : n / 2 ^ 1 = n / 2 := rfl
    rw [e] at this
    omega
theorem xsr1 {v : Int32} (h : 0 ≤ v.toInt) : xun (v >>> ((1 : Int32) &&& 31)) = xun v / 2 ∧ 0 ≤ (v >>> ((1 : Int32) &&& 31)).toInt := by
  have h1 := xun_i h
  have h2 := Int32.toInt_lt v
  have e : xun (v >>> ((1 : Int32) &&& 31)) = xun v / 2 := by
    show (v.toBitVec.sshiftRight' (((1 : Int32) &&& 31).toBitVec.smod 32)).toNat = _
    have : ((1 : Int32) &&& 31).toBitVec.smod 32 = BitVec.ofNat 32 1 := by decide
    rw [this, BitVec.sshiftRight_eq']
    have hm : v.toBitVec.msb = false := BitVec.msb_eq_false_iff_two_mul_lt.mpr (by show 2 * xun v < _; omega)
    rw [BitVec.toNat_sshiftRight_of_msb_false hm]
    show xun v >>> 1 = _
    rw [Nat.shiftRight_eq_div_pow]
  refine ⟨e, ?_⟩
  rw [xun_p (by omega)]
  omega
theorem xntz_w {x : Int32} (h : x.toInt ≠ 0) : ∃ t : Nat, t < 32 ∧ xun ((x ^^^ (-1 : Int32)) &&& (x - (1 : Int32))) = 2 ^ t - 1 ∧ xntz x = Int32.ofNat t := by
  have h1 : xbl (xun ((x ^^^ (-1 : Int32)) &&& (x - (1 : Int32)))) ≤ 32 := xbl_le (xun_lt _)
  obtain ⟨t, q, e, ht, hb⟩ := xntz_n h
  have hx : xbl (xun x) ≤ 32 := xbl_le (xun_lt _)
  have ho := xbl_of (n := 2 * q + 1) (by omega)
  refine ⟨t, by omega, ?_, ?_⟩
  · have hl := xun_lt x
    have e2 : xun (x ^^^ (-1 : Int32)) = 2 ^ 32 - (xun x + 1) := by
      have : x ^^^ (-1 : Int32) = ~~~x := by
        apply Int32.toBitVec_inj.mp
        show x.toBitVec ^^^ BitVec.allOnes 32 = ~~~ x.toBitVec
        rw [BitVec.xor_allOnes]
      rw [this]
      show (~~~ x.toBitVec).toNat = _
      rw [BitVec.toNat_not]
      show 2 ^ 32 - 1 - xun x = _
      omega
    have e3 : xun (x - (1 : Int32)) = xun x - 1 := by
      have h0 : xun x ≠ 0 := fun e => h (xun_z.mp e)
      show (x.toBitVec - 1#32).toNat = _
      rw [BitVec.toNat_sub]
      show (2 ^ 32 - 1 + xun x) % 2 ^ 32 = _
      omega
    show xun (x ^^^ (-1 : Int32)) &&& xun (x - (1 : Int32)) = _
    rw [e2, e3, e, xlow (by omega)]
  · apply Int32.toInt_inj.mp
    rw [ht, Int32.toInt_ofNat_of_lt (by omega)]
theorem xnlz_b (x : Int32) : 0 ≤ (xnlz x).toInt ∧ (xnlz x).toInt ≤ 32 := by
  have h : xbl (xun x) ≤ 32 := xbl_le (xun_lt x)
  rw [xnlz_i]
  omega
theorem xntz_b (x : Int32) : 0 ≤ (xntz x).toInt ∧ (xntz x).toInt ≤ 32 := by
  unfold xntz
  have h : xbl (xun ((x ^^^ (-1 : Int32)) &&& (x - (1 : Int32)))) ≤ 32 := xbl_le (xun_lt _)
  rw [xbn_i]
  omega
theorem xbw_o {s u0 u1 a : Int32} (h : a.toInt < 0 ∨ s.toInt ≤ a.toInt) : xbw s u0 u1 a = 0 := if_pos h
theorem xsr5 (p : Int32) : -67108864 ≤ (p >>> ((5 : Int32) &&& 31)).toInt ∧ (p >>> ((5 : Int32) &&& 31)).toInt ≤ 67108863 := by
  have h1 := Int32.toInt_lt p
  have h2 := Int32.le_toInt p
  have e : (p >>> ((5 : Int32) &&& 31)).toInt = p.toInt >>> 5 := by
    show (p.toBitVec.sshiftRight' (((5 : Int32) &&& 31).toBitVec.smod 32)).toInt = _
    have : ((5 : Int32) &&& 31).toBitVec.smod 32 = BitVec.ofNat 32 5 := by decide
    rw [this, BitVec.sshiftRight_eq', BitVec.toInt_sshiftRight]
    rfl
  rw [e, Int.shiftRight_eq_div_pow]
  omega
theorem nlz_0 {d : Nat} {w : xW} {x : Int32} (c0 : 1 ≤ x.toInt) (c1 : x.toInt < 2) : xRun d 277 [Value.int x] w (.inl (some (Value.int 31))) w := by
  have f0 : (xus x 1).toInt = x.toInt / 2 := xus_1 (by omega)
  refine xRun.of ?_
  refine i_277_0 (x := x) rfl ?_
  refine i_277_1 (fun _ => ?_) (fun h => absurd (show 0 < x.toInt by omega) (Int.not_lt.mpr h))
  refine i_277_15 ?_
  refine i_277_17 (lv2 := [(1, Value.int 31), (0, Value.int x)]) rfl ?_
  refine i_277_18 (x := x) rfl ?_
  refine i_277_19 ?_
  refine i_277_22 (fun _ => ?_) (fun h => absurd (show x.toInt < 65536 by omega) (Int.not_lt.mpr h))
  refine i_277_33 (x := x) rfl ?_
  refine i_277_34 ?_
  refine i_277_37 (fun _ => ?_) (fun h => absurd (show x.toInt < 256 by omega) (Int.not_lt.mpr h))
  refine i_277_48 (x := x) rfl ?_
  refine i_277_49 ?_
  refine i_277_51 (fun _ => ?_) (fun h => absurd (show x.toInt < 16 by omega) (Int.not_lt.mpr h))
  refine i_277_61 (x := x) rfl ?_
  refine i_277_62 ?_
  refine i_277_63 (fun _ => ?_) (fun h => absurd (show x.toInt < 4 by omega) (Int.not_lt.mpr h))
  refine i_277_73 (x := 31) rfl ?_
  refine i_277_74 (x := x) rfl ?_
  refine i_277_75 ?_
  refine i_277_76 (c := 0) (show (xus x 1) = 0 from (xge_c (n := 0) (by omega) rfl)) ?_
  refine i_277_77 (c := 31) (by decide) ?_
  exact i_277_78 ⟨rfl, rfl⟩
theorem nlz_1 {d : Nat} {w : xW} {x : Int32} (c0 : 2 ≤ x.toInt) (c1 : x.toInt < 4) : xRun d 277 [Value.int x] w (.inl (some (Value.int 30))) w := by
  have f0 : (xus x 1).toInt = x.toInt / 2 := xus_1 (by omega)
  refine xRun.of ?_
  refine i_277_0 (x := x) rfl ?_
  refine i_277_1 (fun _ => ?_) (fun h => absurd (show 0 < x.toInt by omega) (Int.not_lt.mpr h))
  refine i_277_15 ?_
  refine i_277_17 (lv2 := [(1, Value.int 31), (0, Value.int x)]) rfl ?_
  refine i_277_18 (x := x) rfl ?_
  refine i_277_19 ?_
  refine i_277_22 (fun _ => ?_) (fun h => absurd (show x.toInt < 65536 by omega) (Int.not_lt.mpr h))
  refine i_277_33 (x := x) rfl ?_
  refine i_277_34 ?_
  refine i_277_37 (fun _ => ?_) (fun h => absurd (show x.toInt < 256 by omega) (Int.not_lt.mpr h))
  refine i_277_48 (x := x) rfl ?_
  refine i_277_49 ?_
  refine i_277_51 (fun _ => ?_) (fun h => absurd (show x.toInt < 16 by omega) (Int.not_lt.mpr h))
  refine i_277_61 (x := x) rfl ?_
  refine i_277_62 ?_
  refine i_277_63 (fun _ => ?_) (fun h => absurd (show x.toInt < 4 by omega) (Int.not_lt.mpr h))
  refine i_277_73 (x := 31) rfl ?_
  refine i_277_74 (x := x) rfl ?_
  refine i_277_75 ?_
  refine i_277_76 (c := 1) (show (xus x 1) = 1 from (xge_c (n := 1) (by omega) rfl)) ?_
  refine i_277_77 (c := 30) (by decide) ?_
  exact i_277_78 ⟨rfl, rfl⟩
theorem nlz_2 {d : Nat} {w : xW} {x : Int32} (c0 : 4 ≤ x.toInt) (c1 : x.toInt < 8) : xRun d 277 [Value.int x] w (.inl (some (Value.int 29))) w := by
  have f0 : (xus x 2).toInt = x.toInt / 4 := xus_2 (by omega)
  refine xRun.of ?_
  refine i_277_0 (x := x) rfl ?_
  refine i_277_1 (fun _ => ?_) (fun h => absurd (show 0 < x.toInt by omega) (Int.not_lt.mpr h))
  refine i_277_15 ?_
  refine i_277_17 (lv2 := [(1, Value.int 31), (0, Value.int x)]) rfl ?_
  refine i_277_18 (x := x) rfl ?_
  refine i_277_19 ?_
  refine i_277_22 (fun _ => ?_) (fun h => absurd (show x.toInt < 65536 by omega) (Int.not_lt.mpr h))
  refine i_277_33 (x := x) rfl ?_
  refine i_277_34 ?_
  refine i_277_37 (fun _ => ?_) (fun h => absurd (show x.toInt < 256 by omega) (Int.not_lt.mpr h))
  refine i_277_48 (x := x) rfl ?_
  refine i_277_49 ?_
  refine i_277_51 (fun _ => ?_) (fun h => absurd (show x.toInt < 16 by omega) (Int.not_lt.mpr h))
  refine i_277_61 (x := x) rfl ?_
  refine i_277_62 ?_
  refine i_277_63 (fun h => absurd (show 4 ≤ x.toInt by omega) (Int.not_le.mpr h)) (fun _ => ?_)
  refine i_277_66 (x := 31) (c := 29) (lv2 := [(1, Value.int 29), (0, Value.int x)]) rfl (by decide) rfl ?_
  refine i_277_69 (x := x) rfl ?_
  refine i_277_70 ?_
  refine i_277_71 (c := 1) (show (xus x 2) = 1 from (xge_c (n := 1) (by omega) rfl)) ?_
  refine i_277_72 (lv2 := [(0, Value.int 1), (1, Value.int 29)]) rfl ?_
  refine i_277_73 (x := 29) rfl ?_
  refine i_277_74 (x := 1) rfl ?_
  refine i_277_75 ?_
  refine i_277_76 (c := 0) (by decide) ?_
  refine i_277_77 (c := 29) (by decide) ?_
  exact i_277_78 ⟨rfl, rfl⟩
theorem nlz_3 {d : Nat} {w : xW} {x : Int32} (c0 : 8 ≤ x.toInt) (c1 : x.toInt < 16) : xRun d 277 [Value.int x] w (.inl (some (Value.int 28))) w := by
  have f0 : (xus x 2).toInt = x.toInt / 4 := xus_2 (by omega)
  have f1 : (xus (xus x 2) 1).toInt = (xus x 2).toInt / 2 := xus_1 (by omega)
  refine xRun.of ?_
  refine i_277_0 (x := x) rfl ?_
  refine i_277_1 (fun _ => ?_) (fun h => absurd (show 0 < x.toInt by omega) (Int.not_lt.mpr h))
  refine i_277_15 ?_
  refine i_277_17 (lv2 := [(1, Value.int 31), (0, Value.int x)]) rfl ?_
  refine i_277_18 (x := x) rfl ?_
  refine i_277_19 ?_
  refine i_277_22 (fun _ => ?_) (fun h => absurd (show x.toInt < 65536 by omega) (Int.not_lt.mpr h))
  refine i_277_33 (x := x) rfl ?_
  refine i_277_34 ?_
  refine i_277_37 (fun _ => ?_) (fun h => absurd (show x.toInt < 256 by omega) (Int.not_lt.mpr h))
  refine i_277_48 (x := x) rfl ?_
  refine i_277_49 ?_
  refine i_277_51 (fun _ => ?_) (fun h => absurd (show x.toInt < 16 by omega) (Int.not_lt.mpr h))
  refine i_277_61 (x := x) rfl ?_
  refine i_277_62 ?_
  refine i_277_63 (fun h => absurd (show 4 ≤ x.toInt by omega) (Int.not_le.mpr h)) (fun _ => ?_)
  refine i_277_66 (x := 31) (c := 29) (lv2 := [(1, Value.int 29), (0, Value.int x)]) rfl (by decide) rfl ?_
  refine i_277_69 (x := x) rfl ?_
  refine i_277_70 ?_
  refine i_277_71 (c := (xus x 2)) rfl ?_
  refine i_277_72 (lv2 := [(0, Value.int (xus x 2)), (1, Value.int 29)]) rfl ?_
  refine i_277_73 (x := 29) rfl ?_
  refine i_277_74 (x := (xus x 2)) rfl ?_
  refine i_277_75 ?_
  refine i_277_76 (c := 1) (show (xus (xus x 2) 1) = 1 from (xge_c (n := 1) (by omega) rfl)) ?_
  refine i_277_77 (c := 28) (by decide) ?_
  exact i_277_78 ⟨rfl, rfl⟩
theorem nlz_4 {d : Nat} {w : xW} {x : Int32} (c0 : 16 ≤ x.toInt) (c1 : x.toInt < 32) : xRun d 277 [Value.int x] w (.inl (some (Value.int 27))) w := by
  have f0 : (xus x 4).toInt = x.toInt / 16 := xus_4 (by omega)
  refine xRun.of ?_
  refine i_277_0 (x := x) rfl ?_
  refine i_277_1 (fun _ => ?_) (fun h => absurd (show 0 < x.toInt by omega) (Int.not_lt.mpr h))
  refine i_277_15 ?_
  refine i_277_17 (lv2 := [(1, Value.int 31), (0, Value.int x)]) rfl ?_
  refine i_277_18 (x := x) rfl ?_
  refine i_277_19 ?_
  refine i_277_22 (fun _ => ?_) (fun h => absurd (show x.toInt < 65536 by omega) (Int.not_lt.mpr h))
  refine i_277_33 (x := x) rfl ?_
  refine i_277_34 ?_
  refine i_277_37 (fun _ => ?_) (fun h => absurd (show x.toInt < 256 by omega) (Int.not_lt.mpr h))
  refine i_277_48 (x := x) rfl ?_
  refine i_277_49 ?_
  refine i_277_51 (fun h => absurd (show 16 ≤ x.toInt by omega) (Int.not_le.mpr h)) (fun _ => ?_)
  refine i_277_54 (x := 31) (c := 27) (lv2 := [(1, Value.int 27), (0, Value.int x)]) rfl (by decide) rfl ?_
  refine i_277_57 (x := x) rfl ?_
  refine i_277_58 ?_
  refine i_277_59 (c := 1) (show (xus x 4) = 1 from (xge_c (n := 1) (by omega) rfl)) ?_
  refine i_277_60 (lv2 := [(0, Value.int 1), (1, Value.int 27)]) rfl ?_
  refine i_277_61 (x := 1) rfl ?_
  refine i_277_62 ?_
  refine i_277_63 (fun _ => ?_) (fun h => absurd h (by decide))
  refine i_277_73 (x := 27) rfl ?_
  refine i_277_74 (x := 1) rfl ?_
  refine i_277_75 ?_
  refine i_277_76 (c := 0) (by decide) ?_
  refine i_277_77 (c := 27) (by decide) ?_
  exact i_277_78 ⟨rfl, rfl⟩
theorem nlz_5 {d : Nat} {w : xW} {x : Int32} (c0 : 32 ≤ x.toInt) (c1 : x.toInt < 64) : xRun d 277 [Value.int x] w (.inl (some (Value.int 26))) w := by
  have f0 : (xus x 4).toInt = x.toInt / 16 := xus_4 (by omega)
  have f1 : (xus (xus x 4) 1).toInt = (xus x 4).toInt / 2 := xus_1 (by omega)
  refine xRun.of ?_
  refine i_277_0 (x := x) rfl ?_
  refine i_277_1 (fun _ => ?_) (fun h => absurd (show 0 < x.toInt by omega) (Int.not_lt.mpr h))
  refine i_277_15 ?_
  refine i_277_17 (lv2 := [(1, Value.int 31), (0, Value.int x)]) rfl ?_
  refine i_277_18 (x := x) rfl ?_
  refine i_277_19 ?_
  refine i_277_22 (fun _ => ?_) (fun h => absurd (show x.toInt < 65536 by omega) (Int.not_lt.mpr h))
  refine i_277_33 (x := x) rfl ?_
  refine i_277_34 ?_
  refine i_277_37 (fun _ => ?_) (fun h => absurd (show x.toInt < 256 by omega) (Int.not_lt.mpr h))
  refine i_277_48 (x := x) rfl ?_
  refine i_277_49 ?_
  refine i_277_51 (fun h => absurd (show 16 ≤ x.toInt by omega) (Int.not_le.mpr h)) (fun _ => ?_)
  refine i_277_54 (x := 31) (c := 27) (lv2 := [(1, Value.int 27), (0, Value.int x)]) rfl (by decide) rfl ?_
  refine i_277_57 (x := x) rfl ?_
  refine i_277_58 ?_
  refine i_277_59 (c := (xus x 4)) rfl ?_
  refine i_277_60 (lv2 := [(0, Value.int (xus x 4)), (1, Value.int 27)]) rfl ?_
  refine i_277_61 (x := (xus x 4)) rfl ?_
  refine i_277_62 ?_
  refine i_277_63 (fun _ => ?_) (fun h => absurd (show (xus x 4).toInt < 4 by omega) (Int.not_lt.mpr h))
  refine i_277_73 (x := 27) rfl ?_
  refine i_277_74 (x := (xus x 4)) rfl ?_
  refine i_277_75 ?_
  refine i_277_76 (c := 1) (show (xus (xus x 4) 1) = 1 from (xge_c (n := 1) (by omega) rfl)) ?_
  refine i_277_77 (c := 26) (by decide) ?_
  exact i_277_78 ⟨rfl, rfl⟩
theorem nlz_6 {d : Nat} {w : xW} {x : Int32} (c0 : 64 ≤ x.toInt) (c1 : x.toInt < 128) : xRun d 277 [Value.int x] w (.inl (some (Value.int 25))) w := by
  have f0 : (xus x 4).toInt = x.toInt / 16 := xus_4 (by omega)
  have f1 : (xus (xus x 4) 2).toInt = (xus x 4).toInt / 4 := xus_2 (by omega)
  refine xRun.of ?_
  refine i_277_0 (x := x) rfl ?_
  refine i_277_1 (fun _ => ?_) (fun h => absurd (show 0 < x.toInt by omega) (Int.not_lt.mpr h))
  refine i_277_15 ?_
  refine i_277_17 (lv2 := [(1, Value.int 31), (0, Value.int x)]) rfl ?_
  refine i_277_18 (x := x) rfl ?_
  refine i_277_19 ?_
  refine i_277_22 (fun _ => ?_) (fun h => absurd (show x.toInt < 65536 by omega) (Int.not_lt.mpr h))
  refine i_277_33 (x := x) rfl ?_
  refine i_277_34 ?_
  refine i_277_37 (fun _ => ?_) (fun h => absurd (show x.toInt < 256 by omega) (Int.not_lt.mpr h))
  refine i_277_48 (x := x) rfl ?_
  refine i_277_49 ?_
  refine i_277_51 (fun h => absurd (show 16 ≤ x.toInt by omega) (Int.not_le.mpr h)) (fun _ => ?_)
  refine i_277_54 (x := 31) (c := 27) (lv2 := [(1, Value.int 27), (0, Value.int x)]) rfl (by decide) rfl ?_
  refine i_277_57 (x := x) rfl ?_
  refine i_277_58 ?_
  refine i_277_59 (c := (xus x 4)) rfl ?_
  refine i_277_60 (lv2 := [(0, Value.int (xus x 4)), (1, Value.int 27)]) rfl ?_
  refine i_277_61 (x := (xus x 4)) rfl ?_
  refine i_277_62 ?_
  refine i_277_63 (fun h => absurd (show 4 ≤ (xus x 4).toInt by omega) (Int.not_le.mpr h)) (fun _ => ?_)
  refine i_277_66 (x := 27) (c := 25) (lv2 := [(1, Value.int 25), (0, Value.int (xus x 4))]) rfl (by decide) rfl ?_
  refine i_277_69 (x := (xus x 4)) rfl ?_
  refine i_277_70 ?_
  refine i_277_71 (c := 1) (show (xus (xus x 4) 2) = 1 from (xge_c (n := 1) (by omega) rfl)) ?_
  refine i_277_72 (lv2 := [(0, Value.int 1), (1, Value.int 25)]) rfl ?_
  refine i_277_73 (x := 25) rfl ?_
  refine i_277_74 (x := 1) rfl ?_
  refine i_277_75 ?_
  refine i_277_76 (c := 0) (by decide) ?_
  refine i_277_77 (c := 25) (by decide) ?_
  exact i_277_78 ⟨rfl, rfl⟩
theorem nlz_7 {d : Nat} {w : xW} {x : Int32} (c0 : 128 ≤ x.toInt) (c1 : x.toInt < 256) : xRun d 277 [Value.int x] w (.inl (some (Value.int 24))) w := by
  have f0 : (xus x 4).toInt = x.toInt / 16 := xus_4 (by omega)
  have f1 : (xus (xus x 4) 2).toInt = (xus x 4).toInt / 4 := xus_2 (by omega)
  have f2 : (xus (xus (xus x 4) 2) 1).toInt = (xus (xus x 4) 2).toInt / 2 := xus_1 (by omega)
  refine xRun.of ?_
  refine i_277_0 (x := x) rfl ?_
  refine i_277_1 (fun _ => ?_) (fun h => absurd (show 0 < x.toInt by omega) (Int.not_lt.mpr h))
  refine i_277_15 ?_
  refine i_277_17 (lv2 := [(1, Value.int 31), (0, Value.int x)]) rfl ?_
  refine i_277_18 (x := x) rfl ?_
  refine i_277_19 ?_
  refine i_277_22 (fun _ => ?_) (fun h => absurd (show x.toInt < 65536 by omega) (Int.not_lt.mpr h))
  refine i_277_33 (x := x) rfl ?_
  refine i_277_34 ?_
  refine i_277_37 (fun _ => ?_) (fun h => absurd (show x.toInt < 256 by omega) (Int.not_lt.mpr h))
  refine i_277_48 (x := x) rfl ?_
  refine i_277_49 ?_
  refine i_277_51 (fun h => absurd (show 16 ≤ x.toInt by omega) (Int.not_le.mpr h)) (fun _ => ?_)
  refine i_277_54 (x := 31) (c := 27) (lv2 := [(1, Value.int 27), (0, Value.int x)]) rfl (by decide) rfl ?_
  refine i_277_57 (x := x) rfl ?_
  refine i_277_58 ?_
  refine i_277_59 (c := (xus x 4)) rfl ?_
  refine i_277_60 (lv2 := [(0, Value.int (xus x 4)), (1, Value.int 27)]) rfl ?_
  refine i_277_61 (x := (xus x 4)) rfl ?_
  refine i_277_62 ?_
  refine i_277_63 (fun h => absurd (show 4 ≤ (xus x 4).toInt by omega) (Int.not_le.mpr h)) (fun _ => ?_)
  refine i_277_66 (x := 27) (c := 25) (lv2 := [(1, Value.int 25), (0, Value.int (xus x 4))]) rfl (by decide) rfl ?_
  refine i_277_69 (x := (xus x 4)) rfl ?_
  refine i_277_70 ?_
  refine i_277_71 (c := (xus (xus x 4) 2)) rfl ?_
  refine i_277_72 (lv2 := [(0, Value.int (xus (xus x 4) 2)), (1, Value.int 25)]) rfl ?_
  refine i_277_73 (x := 25) rfl ?_
  refine i_277_74 (x := (xus (xus x 4) 2)) rfl ?_
  refine i_277_75 ?_
  refine i_277_76 (c := 1) (show (xus (xus (xus x 4) 2) 1) = 1 from (xge_c (n := 1) (by omega) rfl)) ?_
  refine i_277_77 (c := 24) (by decide) ?_
  exact i_277_78 ⟨rfl, rfl⟩
theorem nlz_8 {d : Nat} {w : xW} {x : Int32} (c0 : 256 ≤ x.toInt) (c1 : x.toInt < 512) : xRun d 277 [Value.int x] w (.inl (some (Value.int 23))) w := by
  have f0 : (xus x 8).toInt = x.toInt / 256 := xus_8 (by omega)
  refine xRun.of ?_
  refine i_277_0 (x := x) rfl ?_
  refine i_277_1 (fun _ => ?_) (fun h => absurd (show 0 < x.toInt by omega) (Int.not_lt.mpr h))
  refine i_277_15 ?_
  refine i_277_17 (lv2 := [(1, Value.int 31), (0, Value.int x)]) rfl ?_
  refine i_277_18 (x := x) rfl ?_
  refine i_277_19 ?_
  refine i_277_22 (fun _ => ?_) (fun h => absurd (show x.toInt < 65536 by omega) (Int.not_lt.mpr h))
  refine i_277_33 (x := x) rfl ?_
  refine i_277_34 ?_
  refine i_277_37 (fun h => absurd (show 256 ≤ x.toInt by omega) (Int.not_le.mpr h)) (fun _ => ?_)
  refine i_277_40 (x := 31) (c := 23) (lv2 := [(1, Value.int 23), (0, Value.int x)]) rfl (by decide) rfl ?_
  refine i_277_43 (x := x) rfl ?_
  refine i_277_44 ?_
  refine i_277_46 (c := 1) (show (xus x 8) = 1 from (xge_c (n := 1) (by omega) rfl)) ?_
  refine i_277_47 (lv2 := [(0, Value.int 1), (1, Value.int 23)]) rfl ?_
  refine i_277_48 (x := 1) rfl ?_
  refine i_277_49 ?_
  refine i_277_51 (fun _ => ?_) (fun h => absurd h (by decide))
  refine i_277_61 (x := 1) rfl ?_
  refine i_277_62 ?_
  refine i_277_63 (fun _ => ?_) (fun h => absurd h (by decide))
  refine i_277_73 (x := 23) rfl ?_
  refine i_277_74 (x := 1) rfl ?_
  refine i_277_75 ?_
  refine i_277_76 (c := 0) (by decide) ?_
  refine i_277_77 (c := 23) (by decide) ?_
  exact i_277_78 ⟨rfl, rfl⟩
theorem nlz_9 {d : Nat} {w : xW} {x : Int32} (c0 : 512 ≤ x.toInt) (c1 : x.toInt < 1024) : xRun d 277 [Value.int x] w (.inl (some (Value.int 22))) w := by
  have f0 : (xus x 8).toInt = x.toInt / 256 := xus_8 (by omega)
  have f1 : (xus (xus x 8) 1).toInt = (xus x 8).toInt / 2 := xus_1 (by omega)
  refine xRun.of ?_
  refine i_277_0 (x := x) rfl ?_
  refine i_277_1 (fun _ => ?_) (fun h => absurd (show 0 < x.toInt by omega) (Int.not_lt.mpr h))
  refine i_277_15 ?_
  refine i_277_17 (lv2 := [(1, Value.int 31), (0, Value.int x)]) rfl ?_
  refine i_277_18 (x := x) rfl ?_
  refine i_277_19 ?_
  refine i_277_22 (fun _ => ?_) (fun h => absurd (show x.toInt < 65536 by omega) (Int.not_lt.mpr h))
  refine i_277_33 (x := x) rfl ?_
  refine i_277_34 ?_
  refine i_277_37 (fun h => absurd (show 256 ≤ x.toInt by omega) (Int.not_le.mpr h)) (fun _ => ?_)
  refine i_277_40 (x := 31) (c := 23) (lv2 := [(1, Value.int 23), (0, Value.int x)]) rfl (by decide) rfl ?_
  refine i_277_43 (x := x) rfl ?_
  refine i_277_44 ?_
  refine i_277_46 (c := (xus x 8)) rfl ?_
  refine i_277_47 (lv2 := [(0, Value.int (xus x 8)), (1, Value.int 23)]) rfl ?_
  refine i_277_48 (x := (xus x 8)) rfl ?_
  refine i_277_49 ?_
  refine i_277_51 (fun _ => ?_) (fun h => absurd (show (xus x 8).toInt < 16 by omega) (Int.not_lt.mpr h))
  refine i_277_61 (x := (xus x 8)) rfl ?_
  refine i_277_62 ?_
  refine i_277_63 (fun _ => ?_) (fun h => absurd (show (xus x 8).toInt < 4 by omega) (Int.not_lt.mpr h))
  refine i_277_73 (x := 23) rfl ?_
  refine i_277_74 (x := (xus x 8)) rfl ?_
  refine i_277_75 ?_
  refine i_277_76 (c := 1) (show (xus (xus x 8) 1) = 1 from (xge_c (n := 1) (by omega) rfl)) ?_
  refine i_277_77 (c := 22) (by decide) ?_
  exact i_277_78 ⟨rfl, rfl⟩
theorem nlz_10 {d : Nat} {w : xW} {x : Int32} (c0 : 1024 ≤ x.toInt) (c1 : x.toInt < 2048) : xRun d 277 [Value.int x] w (.inl (some (Value.int 21))) w := by
  have f0 : (xus x 8).toInt = x.toInt / 256 := xus_8 (by omega)
  have f1 : (xus (xus x 8) 2).toInt = (xus x 8).toInt / 4 := xus_2 (by omega)
  refine xRun.of ?_
  refine i_277_0 (x := x) rfl ?_
  refine i_277_1 (fun _ => ?_) (fun h => absurd (show 0 < x.toInt by omega) (Int.not_lt.mpr h))
  refine i_277_15 ?_
  refine i_277_17 (lv2 := [(1, Value.int 31), (0, Value.int x)]) rfl ?_
  refine i_277_18 (x := x) rfl ?_
  refine i_277_19 ?_
  refine i_277_22 (fun _ => ?_) (fun h => absurd (show x.toInt < 65536 by omega) (Int.not_lt.mpr h))
  refine i_277_33 (x := x) rfl ?_
  refine i_277_34 ?_
  refine i_277_37 (fun h => absurd (show 256 ≤ x.toInt by omega) (Int.not_le.mpr h)) (fun _ => ?_)
  refine i_277_40 (x := 31) (c := 23) (lv2 := [(1, Value.int 23), (0, Value.int x)]) rfl (by decide) rfl ?_
  refine i_277_43 (x := x) rfl ?_
  refine i_277_44 ?_
  refine i_277_46 (c := (xus x 8)) rfl ?_
  refine i_277_47 (lv2 := [(0, Value.int (xus x 8)), (1, Value.int 23)]) rfl ?_
  refine i_277_48 (x := (xus x 8)) rfl ?_
  refine i_277_49 ?_
  refine i_277_51 (fun _ => ?_) (fun h => absurd (show (xus x 8).toInt < 16 by omega) (Int.not_lt.mpr h))
  refine i_277_61 (x := (xus x 8)) rfl ?_
  refine i_277_62 ?_
  refine i_277_63 (fun h => absurd (show 4 ≤ (xus x 8).toInt by omega) (Int.not_le.mpr h)) (fun _ => ?_)
  refine i_277_66 (x := 23) (c := 21) (lv2 := [(1, Value.int 21), (0, Value.int (xus x 8))]) rfl (by decide) rfl ?_
  refine i_277_69 (x := (xus x 8)) rfl ?_
  refine i_277_70 ?_
  refine i_277_71 (c := 1) (show (xus (xus x 8) 2) = 1 from (xge_c (n := 1) (by omega) rfl)) ?_
  refine i_277_72 (lv2 := [(0, Value.int 1), (1, Value.int 21)]) rfl ?_
  refine i_277_73 (x := 21) rfl ?_
  refine i_277_74 (x := 1) rfl ?_
  refine i_277_75 ?_
  refine i_277_76 (c := 0) (by decide) ?_
  refine i_277_77 (c := 21) (by decide) ?_
  exact i_277_78 ⟨rfl, rfl⟩
theorem nlz_11 {d : Nat} {w : xW} {x : Int32} (c0 : 2048 ≤ x.toInt) (c1 : x.toInt < 4096) : xRun d 277 [Value.int x] w (.inl (some (Value.int 20))) w := by
  have f0 : (xus x 8).toInt = x.toInt / 256 := xus_8 (by omega)
  have f1 : (xus (xus x 8) 2).toInt = (xus x 8).toInt / 4 := xus_2 (by omega)
  have f2 : (xus (xus (xus x 8) 2) 1).toInt = (xus (xus x 8) 2).toInt / 2 := xus_1 (by omega)
  refine xRun.of ?_
  refine i_277_0 (x := x) rfl ?_
  refine i_277_1 (fun _ => ?_) (fun h => absurd (show 0 < x.toInt by omega) (Int.not_lt.mpr h))
  refine i_277_15 ?_
  refine i_277_17 (lv2 := [(1, Value.int 31), (0, Value.int x)]) rfl ?_
  refine i_277_18 (x := x) rfl ?_
  refine i_277_19 ?_
  refine i_277_22 (fun _ => ?_) (fun h => absurd (show x.toInt < 65536 by omega) (Int.not_lt.mpr h))
  refine i_277_33 (x := x) rfl ?_
  refine i_277_34 ?_
  refine i_277_37 (fun h => absurd (show 256 ≤ x.toInt by omega) (Int.not_le.mpr h)) (fun _ => ?_)
  refine i_277_40 (x := 31) (c := 23) (lv2 := [(1, Value.int 23), (0, Value.int x)]) rfl (by decide) rfl ?_
  refine i_277_43 (x := x) rfl ?_
  refine i_277_44 ?_
  refine i_277_46 (c := (xus x 8)) rfl ?_
  refine i_277_47 (lv2 := [(0, Value.int (xus x 8)), (1, Value.int 23)]) rfl ?_
  refine i_277_48 (x := (xus x 8)) rfl ?_
  refine i_277_49 ?_
  refine i_277_51 (fun _ => ?_) (fun h => absurd (show (xus x 8).toInt < 16 by omega) (Int.not_lt.mpr h))
  refine i_277_61 (x := (xus x 8)) rfl ?_
  refine i_277_62 ?_
  refine i_277_63 (fun h => absurd (show 4 ≤ (xus x 8).toInt by omega) (Int.not_le.mpr h)) (fun _ => ?_)
  refine i_277_66 (x := 23) (c := 21) (lv2 := [(1, Value.int 21), (0, Value.int (xus x 8))]) rfl (by decide) rfl ?_
  refine i_277_69 (x := (xus x 8)) rfl ?_
  refine i_277_70 ?_
  refine i_277_71 (c := (xus (xus x 8) 2)) rfl ?_
  refine i_277_72 (lv2 := [(0, Value.int (xus (xus x 8) 2)), (1, Value.int 21)]) rfl ?_
  refine i_277_73 (x := 21) rfl ?_
  refine i_277_74 (x := (xus (xus x 8) 2)) rfl ?_
  refine i_277_75 ?_
  refine i_277_76 (c := 1) (show (xus (xus (xus x 8) 2) 1) = 1 from (xge_c (n := 1) (by omega) rfl)) ?_
  refine i_277_77 (c := 20) (by decide) ?_
  exact i_277_78 ⟨rfl, rfl⟩
theorem nlz_12 {d : Nat} {w : xW} {x : Int32} (c0 : 4096 ≤ x.toInt) (c1 : x.toInt < 8192) : xRun d 277 [Value.int x] w (.inl (some (Value.int 19))) w := by
  have f0 : (xus x 8).toInt = x.toInt / 256 := xus_8 (by omega)
  have f1 : (xus (xus x 8) 4).toInt = (xus x 8).toInt / 16 := xus_4 (by omega)
  refine xRun.of ?_
  refine i_277_0 (x := x) rfl ?_
  refine i_277_1 (fun _ => ?_) (fun h => absurd (show 0 < x.toInt by omega) (Int.not_lt.mpr h))
  refine i_277_15 ?_
  refine i_277_17 (lv2 := [(1, Value.int 31), (0, Value.int x)]) rfl ?_
  refine i_277_18 (x := x) rfl ?_
  refine i_277_19 ?_
  refine i_277_22 (fun _ => ?_) (fun h => absurd (show x.toInt < 65536 by omega) (Int.not_lt.mpr h))
  refine i_277_33 (x := x) rfl ?_
  refine i_277_34 ?_
  refine i_277_37 (fun h => absurd (show 256 ≤ x.toInt by omega) (Int.not_le.mpr h)) (fun _ => ?_)
  refine i_277_40 (x := 31) (c := 23) (lv2 := [(1, Value.int 23), (0, Value.int x)]) rfl (by decide) rfl ?_
  refine i_277_43 (x := x) rfl ?_
  refine i_277_44 ?_
  refine i_277_46 (c := (xus x 8)) rfl ?_
  refine i_277_47 (lv2 := [(0, Value.int (xus x 8)), (1, Value.int 23)]) rfl ?_
  refine i_277_48 (x := (xus x 8)) rfl ?_
  refine i_277_49 ?_
  refine i_277_51 (fun h => absurd (show 16 ≤ (xus x 8).toInt by omega) (Int.not_le.mpr h)) (fun _ => ?_)
  refine i_277_54 (x := 23) (c := 19) (lv2 := [(1, Value.int 19), (0, Value.int (xus x 8))]) rfl (by decide) rfl ?_
  refine i_277_57 (x := (xus x 8)) rfl ?_
  refine i_277_58 ?_
  refine i_277_59 (c := 1) (show (xus (xus x 8) 4) = 1 from (xge_c (n := 1) (by omega) rfl)) ?_
  refine i_277_60 (lv2 := [(0, Value.int 1), (1, Value.int 19)]) rfl ?_
  refine i_277_61 (x := 1) rfl ?_
  refine i_277_62 ?_
  refine i_277_63 (fun _ => ?_) (fun h => absurd h (by decide))
  refine i_277_73 (x := 19) rfl ?_
  refine i_277_74 (x := 1) rfl ?_
  refine i_277_75 ?_
  refine i_277_76 (c := 0) (by decide) ?_
  refine i_277_77 (c := 19) (by decide) ?_
  exact i_277_78 ⟨rfl, rfl⟩
theorem nlz_13 {d : Nat} {w : xW} {x : Int32} (c0 : 8192 ≤ x.toInt) (c1 : x.toInt < 16384) : xRun d 277 [Value.int x] w (.inl (some (Value.int 18))) w := by
  have f0 : (xus x 8).toInt = x.toInt / 256 := xus_8 (by omega)
  have f1 : (xus (xus x 8) 4).toInt = (xus x 8).toInt / 16 := xus_4 (by omega)
  have f2 : (xus (xus (xus x 8) 4) 1).toInt = (xus (xus x 8) 4).toInt / 2 := xus_1 (by omega)
  refine xRun.of ?_
  refine i_277_0 (x := x) rfl ?_
  refine i_277_1 (fun _ => ?_) (fun h => absurd (show 0 < x.toInt by omega) (Int.not_lt.mpr h))
  refine i_277_15 ?_
  refine i_277_17 (lv2 := [(1, Value.int 31), (0, Value.int x)]) rfl ?_
  refine i_277_18 (x := x) rfl ?_
  refine i_277_19 ?_
  refine i_277_22 (fun _ => ?_) (fun h => absurd (show x.toInt < 65536 by omega) (Int.not_lt.mpr h))
  refine i_277_33 (x := x) rfl ?_
  refine i_277_34 ?_
  refine i_277_37 (fun h => absurd (show 256 ≤ x.toInt by omega) (Int.not_le.mpr h)) (fun _ => ?_)
  refine i_277_40 (x := 31) (c := 23) (lv2 := [(1, Value.int 23), (0, Value.int x)]) rfl (by decide) rfl ?_
  refine i_277_43 (x := x) rfl ?_
  refine i_277_44 ?_
  refine i_277_46 (c := (xus x 8)) rfl ?_
  refine i_277_47 (lv2 := [(0, Value.int (xus x 8)), (1, Value.int 23)]) rfl ?_
  refine i_277_48 (x := (xus x 8)) rfl ?_
  refine i_277_49 ?_
  refine i_277_51 (fun h => absurd (show 16 ≤ (xus x 8).toInt by omega) (Int.not_le.mpr h)) (fun _ => ?_)
  refine i_277_54 (x := 23) (c := 19) (lv2 := [(1, Value.int 19), (0, Value.int (xus x 8))]) rfl (by decide) rfl ?_
  refine i_277_57 (x := (xus x 8)) rfl ?_
  refine i_277_58 ?_
  refine i_277_59 (c := (xus (xus x 8) 4)) rfl ?_
  refine i_277_60 (lv2 := [(0, Value.int (xus (xus x 8) 4)), (1, Value.int 19)]) rfl ?_
  refine i_277_61 (x := (xus (xus x 8) 4)) rfl ?_
  refine i_277_62 ?_
  refine i_277_63 (fun _ => ?_) (fun h => absurd (show (xus (xus x 8) 4).toInt < 4 by omega) (Int.not_lt.mpr h))
  refine i_277_73 (x := 19) rfl ?_
  refine i_277_74 (x := (xus (xus x 8) 4)) rfl ?_
  refine i_277_75 ?_
  refine i_277_76 (c := 1) (show (xus (xus (xus x 8) 4) 1) = 1 from (xge_c (n := 1) (by omega) rfl)) ?_
  refine i_277_77 (c := 18) (by decide) ?_
  exact i_277_78 ⟨rfl, rfl⟩
theorem nlz_14 {d : Nat} {w : xW} {x : Int32} (c0 : 16384 ≤ x.toInt) (c1 : x.toInt < 32768) : xRun d 277 [Value.int x] w (.inl (some (Value.int 17))) w := by
  have f0 : (xus x 8).toInt = x.toInt / 256 := xus_8 (by omega)
  have f1 : (xus (xus x 8) 4).toInt = (xus x 8).toInt / 16 := xus_4 (by omega)
  have f2 : (xus (xus (xus x 8) 4) 2).toInt = (xus (xus x 8) 4).toInt / 4 := xus_2 (by omega)
  refine xRun.of ?_
  refine i_277_0 (x := x) rfl ?_
  refine i_277_1 (fun _ => ?_) (fun h => absurd (show 0 < x.toInt by omega) (Int.not_lt.mpr h))
  refine i_277_15 ?_
  refine i_277_17 (lv2 := [(1, Value.int 31), (0, Value.int x)]) rfl ?_
  refine i_277_18 (x := x) rfl ?_
  refine i_277_19 ?_
  refine i_277_22 (fun _ => ?_) (fun h => absurd (show x.toInt < 65536 by omega) (Int.not_lt.mpr h))
  refine i_277_33 (x := x) rfl ?_
  refine i_277_34 ?_
  refine i_277_37 (fun h => absurd (show 256 ≤ x.toInt by omega) (Int.not_le.mpr h)) (fun _ => ?_)
  refine i_277_40 (x := 31) (c := 23) (lv2 := [(1, Value.int 23), (0, Value.int x)]) rfl (by decide) rfl ?_
  refine i_277_43 (x := x) rfl ?_
  refine i_277_44 ?_
  refine i_277_46 (c := (xus x 8)) rfl ?_
  refine i_277_47 (lv2 := [(0, Value.int (xus x 8)), (1, Value.int 23)]) rfl ?_
  refine i_277_48 (x := (xus x 8)) rfl ?_
  refine i_277_49 ?_
  refine i_277_51 (fun h => absurd (show 16 ≤ (xus x 8).toInt by omega) (Int.not_le.mpr h)) (fun _ => ?_)
  refine i_277_54 (x := 23) (c := 19) (lv2 := [(1, Value.int 19), (0, Value.int (xus x 8))]) rfl (by decide) rfl ?_
  refine i_277_57 (x := (xus x 8)) rfl ?_
  refine i_277_58 ?_
  refine i_277_59 (c := (xus (xus x 8) 4)) rfl ?_
  refine i_277_60 (lv2 := [(0, Value.int (xus (xus x 8) 4)), (1, Value.int 19)]) rfl ?_
  refine i_277_61 (x := (xus (xus x 8) 4)) rfl ?_
  refine i_277_62 ?_
  refine i_277_63 (fun h => absurd (show 4 ≤ (xus (xus x 8) 4).toInt by omega) (Int.not_le.mpr h)) (fun _ => ?_)
  refine i_277_66 (x := 19) (c := 17) (lv2 := [(1, Value.int 17), (0, Value.int (xus (xus x 8) 4))]) rfl (by decide) rfl ?_
  refine i_277_69 (x := (xus (xus x 8) 4)) rfl ?_
  refine i_277_70 ?_
  refine i_277_71 (c := 1) (show (xus (xus (xus x 8) 4) 2) = 1 from (xge_c (n := 1) (by omega) rfl)) ?_
  refine i_277_72 (lv2 := [(0, Value.int 1), (1, Value.int 17)]) rfl ?_
  refine i_277_73 (x := 17) rfl ?_
  refine i_277_74 (x := 1) rfl ?_
  refine i_277_75 ?_
  refine i_277_76 (c := 0) (by decide) ?_
  refine i_277_77 (c := 17) (by decide) ?_
  exact i_277_78 ⟨rfl, rfl⟩
theorem nlz_15 {d : Nat} {w : xW} {x : Int32} (c0 : 32768 ≤ x.toInt) (c1 : x.toInt < 65536) : xRun d 277 [Value.int x] w (.inl (some (Value.int 16))) w := by
  have f0 : (xus x 8).toInt = x.toInt / 256 := xus_8 (by omega)
  have f1 : (xus (xus x 8) 4).toInt = (xus x 8).toInt / 16 := xus_4 (by omega)
  have f2 : (xus (xus (xus x 8) 4) 2).toInt = (xus (xus x 8) 4).toInt / 4 := xus_2 (by omega)
  have f3 : (xus (xus (xus (xus x 8) 4) 2) 1).toInt = (xus (xus (xus x 8) 4) 2).toInt / 2 := xus_1 (by omega)
  refine xRun.of ?_
  refine i_277_0 (x := x) rfl ?_
  refine i_277_1 (fun _ => ?_) (fun h => absurd (show 0 < x.toInt by omega) (Int.not_lt.mpr h))
  refine i_277_15 ?_
  refine i_277_17 (lv2 := [(1, Value.int 31), (0, Value.int x)]) rfl ?_
  refine i_277_18 (x := x) rfl ?_
  refine i_277_19 ?_
  refine i_277_22 (fun _ => ?_) (fun h => absurd (show x.toInt < 65536 by omega) (Int.not_lt.mpr h))
  refine i_277_33 (x := x) rfl ?_
  refine i_277_34 ?_
  refine i_277_37 (fun h => absurd (show 256 ≤ x.toInt by omega) (Int.not_le.mpr h)) (fun _ => ?_)
  refine i_277_40 (x := 31) (c := 23) (lv2 := [(1, Value.int 23), (0, Value.int x)]) rfl (by decide) rfl ?_
  refine i_277_43 (x := x) rfl ?_
  refine i_277_44 ?_
  refine i_277_46 (c := (xus x 8)) rfl ?_
  refine i_277_47 (lv2 := [(0, Value.int (xus x 8)), (1, Value.int 23)]) rfl ?_
  refine i_277_48 (x := (xus x 8)) rfl ?_
  refine i_277_49 ?_
  refine i_277_51 (fun h => absurd (show 16 ≤ (xus x 8).toInt by omega) (Int.not_le.mpr h)) (fun _ => ?_)
  refine i_277_54 (x := 23) (c := 19) (lv2 := [(1, Value.int 19), (0, Value.int (xus x 8))]) rfl (by decide) rfl ?_
  refine i_277_57 (x := (xus x 8)) rfl ?_
  refine i_277_58 ?_
  refine i_277_59 (c := (xus (xus x 8) 4)) rfl ?_
  refine i_277_60 (lv2 := [(0, Value.int (xus (xus x 8) 4)), (1, Value.int 19)]) rfl ?_
  refine i_277_61 (x := (xus (xus x 8) 4)) rfl ?_
  refine i_277_62 ?_
  refine i_277_63 (fun h => absurd (show 4 ≤ (xus (xus x 8) 4).toInt by omega) (Int.not_le.mpr h)) (fun _ => ?_)
  refine i_277_66 (x := 19) (c := 17) (lv2 := [(1, Value.int 17), (0, Value.int (xus (xus x 8) 4))]) rfl (by decide) rfl ?_
  refine i_277_69 (x := (xus (xus x 8) 4)) rfl ?_
  refine i_277_70 ?_
  refine i_277_71 (c := (xus (xus (xus x 8) 4) 2)) rfl ?_
  refine i_277_72 (lv2 := [(0, Value.int (xus (xus (xus x 8) 4) 2)), (1, Value.int 17)]) rfl ?_
  refine i_277_73 (x := 17) rfl ?_
  refine i_277_74 (x := (xus (xus (xus x 8) 4) 2)) rfl ?_
  refine i_277_75 ?_
  refine i_277_76 (c := 1) (show (xus (xus (xus (xus x 8) 4) 2) 1) = 1 from (xge_c (n := 1) (by omega) rfl)) ?_
  refine i_277_77 (c := 16) (by decide) ?_
  exact i_277_78 ⟨rfl, rfl⟩
theorem nlz_16 {d : Nat} {w : xW} {x : Int32} (c0 : 65536 ≤ x.toInt) (c1 : x.toInt < 131072) : xRun d 277 [Value.int x] w (.inl (some (Value.int 15))) w := by
  have f0 : (xus x 16).toInt = x.toInt / 65536 := xus_16 (by omega)
  refine xRun.of ?_
  refine i_277_0 (x := x) rfl ?_
  refine i_277_1 (fun _ => ?_) (fun h => absurd (show 0 < x.toInt by omega) (Int.not_lt.mpr h))
  refine i_277_15 ?_
  refine i_277_17 (lv2 := [(1, Value.int 31), (0, Value.int x)]) rfl ?_
  refine i_277_18 (x := x) rfl ?_
  refine i_277_19 ?_
  refine i_277_22 (fun h => absurd (show 65536 ≤ x.toInt by omega) (Int.not_le.mpr h)) (fun _ => ?_)
  refine i_277_25 (x := 31) (c := 15) (lv2 := [(1, Value.int 15), (0, Value.int x)]) rfl (by decide) rfl ?_
  refine i_277_28 (x := x) rfl ?_
  refine i_277_29 ?_
  refine i_277_31 (c := 1) (show (xus x 16) = 1 from (xge_c (n := 1) (by omega) rfl)) ?_
  refine i_277_32 (lv2 := [(0, Value.int 1), (1, Value.int 15)]) rfl ?_
  refine i_277_33 (x := 1) rfl ?_
  refine i_277_34 ?_
  refine i_277_37 (fun _ => ?_) (fun h => absurd h (by decide))
  refine i_277_48 (x := 1) rfl ?_
  refine i_277_49 ?_
  refine i_277_51 (fun _ => ?_) (fun h => absurd h (by decide))
  refine i_277_61 (x := 1) rfl ?_
  refine i_277_62 ?_
  refine i_277_63 (fun _ => ?_) (fun h => absurd h (by decide))
  refine i_277_73 (x := 15) rfl ?_
  refine i_277_74 (x := 1) rfl ?_
  refine i_277_75 ?_
  refine i_277_76 (c := 0) (by decide) ?_
  refine i_277_77 (c := 15) (by decide) ?_
  exact i_277_78 ⟨rfl, rfl⟩
theorem nlz_17 {d : Nat} {w : xW} {x : Int32} (c0 : 131072 ≤ x.toInt) (c1 : x.toInt < 262144) : xRun d 277 [Value.int x] w (.inl (some (Value.int 14))) w := by
  have f0 : (xus x 16).toInt = x.toInt / 65536 := xus_16 (by omega)
  have f1 : (xus (xus x 16) 1).toInt = (xus x 16).toInt / 2 := xus_1 (by omega)
  refine xRun.of ?_
  refine i_277_0 (x := x) rfl ?_
  refine i_277_1 (fun _ => ?_) (fun h => absurd (show 0 < x.toInt by omega) (Int.not_lt.mpr h))
  refine i_277_15 ?_
  refine i_277_17 (lv2 := [(1, Value.int 31), (0, Value.int x)]) rfl ?_
  refine i_277_18 (x := x) rfl ?_
  refine i_277_19 ?_
  refine i_277_22 (fun h => absurd (show 65536 ≤ x.toInt by omega) (Int.not_le.mpr h)) (fun _ => ?_)
  refine i_277_25 (x := 31) (c := 15) (lv2 := [(1, Value.int 15), (0, Value.int x)]) rfl (by decide) rfl ?_
  refine i_277_28 (x := x) rfl ?_
  refine i_277_29 ?_
  refine i_277_31 (c := (xus x 16)) rfl ?_
  refine i_277_32 (lv2 := [(0, Value.int (xus x 16)), (1, Value.int 15)]) rfl ?_
  refine i_277_33 (x := (xus x 16)) rfl ?_
  refine i_277_34 ?_
  refine i_277_37 (fun _ => ?_) (fun h => absurd (show (xus x 16).toInt < 256 by omega) (Int.not_lt.mpr h))
  refine i_277_48 (x := (xus x 16)) rfl ?_
  refine i_277_49 ?_
  refine i_277_51 (fun _ => ?_) (fun h => absurd (show (xus x 16).toInt < 16 by omega) (Int.not_lt.mpr h))
  refine i_277_61 (x := (xus x 16)) rfl ?_
  refine i_277_62 ?_
  refine i_277_63 (fun _ => ?_) (fun h => absurd (show (xus x 16).toInt < 4 by omega) (Int.not_lt.mpr h))
  refine i_277_73 (x := 15) rfl ?_
  refine i_277_74 (x := (xus x 16)) rfl ?_
  refine i_277_75 ?_
  refine i_277_76 (c := 1) (show (xus (xus x 16) 1) = 1 from (xge_c (n := 1) (by omega) rfl)) ?_
  refine i_277_77 (c := 14) (by decide) ?_
  exact i_277_78 ⟨rfl, rfl⟩
theorem nlz_18 {d : Nat} {w : xW} {x : Int32} (c0 : 262144 ≤ x.toInt) (c1 : x.toInt < 524288) : xRun d 277 [Value.int x] w (.inl (some (Value.int 13))) w := by
  have f0 : (xus x 16).toInt = x.toInt / 65536 := xus_16 (by omega)
  have f1 : (xus (xus x 16) 2).toInt = (xus x 16).toInt / 4 := xus_2 (by omega)
  refine xRun.of ?_
  refine i_277_0 (x := x) rfl ?_
  refine i_277_1 (fun _ => ?_) (fun h => absurd (show 0 < x.toInt by omega) (Int.not_lt.mpr h))
  refine i_277_15 ?_
  refine i_277_17 (lv2 := [(1, Value.int 31), (0, Value.int x)]) rfl ?_
  refine i_277_18 (x := x) rfl ?_
  refine i_277_19 ?_
  refine i_277_22 (fun h => absurd (show 65536 ≤ x.toInt by omega) (Int.not_le.mpr h)) (fun _ => ?_)
  refine i_277_25 (x := 31) (c := 15) (lv2 := [(1, Value.int 15), (0, Value.int x)]) rfl (by decide) rfl ?_
  refine i_277_28 (x := x) rfl ?_
  refine i_277_29 ?_
  refine i_277_31 (c := (xus x 16)) rfl ?_
  refine i_277_32 (lv2 := [(0, Value.int (xus x 16)), (1, Value.int 15)]) rfl ?_
  refine i_277_33 (x := (xus x 16)) rfl ?_
  refine i_277_34 ?_
  refine i_277_37 (fun _ => ?_) (fun h => absurd (show (xus x 16).toInt < 256 by omega) (Int.not_lt.mpr h))
  refine i_277_48 (x := (xus x 16)) rfl ?_
  refine i_277_49 ?_
  refine i_277_51 (fun _ => ?_) (fun h => absurd (show (xus x 16).toInt < 16 by omega) (Int.not_lt.mpr h))
  refine i_277_61 (x := (xus x 16)) rfl ?_
  refine i_277_62 ?_
  refine i_277_63 (fun h => absurd (show 4 ≤ (xus x 16).toInt by omega) (Int.not_le.mpr h)) (fun _ => ?_)
  refine i_277_66 (x := 15) (c := 13) (lv2 := [(1, Value.int 13), (0, Value.int (xus x 16))]) rfl (by decide) rfl ?_
  refine i_277_69 (x := (xus x 16)) rfl ?_
  refine i_277_70 ?_
  refine i_277_71 (c := 1) (show (xus (xus x 16) 2) = 1 from (xge_c (n := 1) (by omega) rfl)) ?_
  refine i_277_72 (lv2 := [(0, Value.int 1), (1, Value.int 13)]) rfl ?_
  refine i_277_73 (x := 13) rfl ?_
  refine i_277_74 (x := 1) rfl ?_
  refine i_277_75 ?_
  refine i_277_76 (c := 0) (by decide) ?_
  refine i_277_77 (c := 13) (by decide) ?_
  exact i_277_78 ⟨rfl, rfl⟩
theorem nlz_19 {d : Nat} {w : xW} {x : Int32} (c0 : 524288 ≤ x.toInt) (c1 : x.toInt < 1048576) : xRun d 277 [Value.int x] w (.inl (some (Value.int 12))) w := by
  have f0 : (xus x 16).toInt = x.toInt / 65536 := xus_16 (by omega)
  have f1 : (xus (xus x 16) 2).toInt = (xus x 16).toInt / 4 := xus_2 (by omega)
  have f2 : (xus (xus (xus x 16) 2) 1).toInt = (xus (xus x 16) 2).toInt / 2 := xus_1 (by omega)
  refine xRun.of ?_
  refine i_277_0 (x := x) rfl ?_
  refine i_277_1 (fun _ => ?_) (fun h => absurd (show 0 < x.toInt by omega) (Int.not_lt.mpr h))
  refine i_277_15 ?_
  refine i_277_17 (lv2 := [(1, Value.int 31), (0, Value.int x)]) rfl ?_
  refine i_277_18 (x := x) rfl ?_
  refine i_277_19 ?_
  refine i_277_22 (fun h => absurd (show 65536 ≤ x.toInt by omega) (Int.not_le.mpr h)) (fun _ => ?_)
  refine i_277_25 (x := 31) (c := 15) (lv2 := [(1, Value.int 15), (0, Value.int x)]) rfl (by decide) rfl ?_
  refine i_277_28 (x := x) rfl ?_
  refine i_277_29 ?_
  refine i_277_31 (c := (xus x 16)) rfl ?_
  refine i_277_32 (lv2 := [(0, Value.int (xus x 16)), (1, Value.int 15)]) rfl ?_
  refine i_277_33 (x := (xus x 16)) rfl ?_
  refine i_277_34 ?_
  refine i_277_37 (fun _ => ?_) (fun h => absurd (show (xus x 16).toInt < 256 by omega) (Int.not_lt.mpr h))
  refine i_277_48 (x := (xus x 16)) rfl ?_
  refine i_277_49 ?_
  refine i_277_51 (fun _ => ?_) (fun h => absurd (show (xus x 16).toInt < 16 by omega) (Int.not_lt.mpr h))
  refine i_277_61 (x := (xus x 16)) rfl ?_
  refine i_277_62 ?_
  refine i_277_63 (fun h => absurd (show 4 ≤ (xus x 16).toInt by omega) (Int.not_le.mpr h)) (fun _ => ?_)
  refine i_277_66 (x := 15) (c := 13) (lv2 := [(1, Value.int 13), (0, Value.int (xus x 16))]) rfl (by decide) rfl ?_
  refine i_277_69 (x := (xus x 16)) rfl ?_
  refine i_277_70 ?_
  refine i_277_71 (c := (xus (xus x 16) 2)) rfl ?_
  refine i_277_72 (lv2 := [(0, Value.int (xus (xus x 16) 2)), (1, Value.int 13)]) rfl ?_
  refine i_277_73 (x := 13) rfl ?_
  refine i_277_74 (x := (xus (xus x 16) 2)) rfl ?_
  refine i_277_75 ?_
  refine i_277_76 (c := 1) (show (xus (xus (xus x 16) 2) 1) = 1 from (xge_c (n := 1) (by omega) rfl)) ?_
  refine i_277_77 (c := 12) (by decide) ?_
  exact i_277_78 ⟨rfl, rfl⟩
theorem nlz_20 {d : Nat} {w : xW} {x : Int32} (c0 : 1048576 ≤ x.toInt) (c1 : x.toInt < 2097152) : xRun d 277 [Value.int x] w (.inl (some (Value.int 11))) w := by
  have f0 : (xus x 16).toInt = x.toInt / 65536 := xus_16 (by omega)
  have f1 : (xus (xus x 16) 4).toInt = (xus x 16).toInt / 16 := xus_4 (by omega)
  refine xRun.of ?_
  refine i_277_0 (x := x) rfl ?_
  refine i_277_1 (fun _ => ?_) (fun h => absurd (show 0 < x.toInt by omega) (Int.not_lt.mpr h))
  refine i_277_15 ?_
  refine i_277_17 (lv2 := [(1, Value.int 31), (0, Value.int x)]) rfl ?_
  refine i_277_18 (x := x) rfl ?_
  refine i_277_19 ?_
  refine i_277_22 (fun h => absurd (show 65536 ≤ x.toInt by omega) (Int.not_le.mpr h)) (fun _ => ?_)
  refine i_277_25 (x := 31) (c := 15) (lv2 := [(1, Value.int 15), (0, Value.int x)]) rfl (by decide) rfl ?_
  refine i_277_28 (x := x) rfl ?_
  refine i_277_29 ?_
  refine i_277_31 (c := (xus x 16)) rfl ?_
  refine i_277_32 (lv2 := [(0, Value.int (xus x 16)), (1, Value.int 15)]) rfl ?_
  refine i_277_33 (x := (xus x 16)) rfl ?_
  refine i_277_34 ?_
  refine i_277_37 (fun _ => ?_) (fun h => absurd (show (xus x 16).toInt < 256 by omega) (Int.not_lt.mpr h))
  refine i_277_48 (x := (xus x 16)) rfl ?_
  refine i_277_49 ?_
  refine i_277_51 (fun h => absurd (show 16 ≤ (xus x 16).toInt by omega) (Int.not_le.mpr h)) (fun _ => ?_)
  refine i_277_54 (x := 15) (c := 11) (lv2 := [(1, Value.int 11), (0, Value.int (xus x 16))]) rfl (by decide) rfl ?_
  refine i_277_57 (x := (xus x 16)) rfl ?_
  refine i_277_58 ?_
  refine i_277_59 (c := 1) (show (xus (xus x 16) 4) = 1 from (xge_c (n := 1) (by omega) rfl)) ?_
  refine i_277_60 (lv2 := [(0, Value.int 1), (1, Value.int 11)]) rfl ?_
  refine i_277_61 (x := 1) rfl ?_
  refine i_277_62 ?_
  refine i_277_63 (fun _ => ?_) (fun h => absurd h (by decide))
  refine i_277_73 (x := 11) rfl ?_
  refine i_277_74 (x := 1) rfl ?_
  refine i_277_75 ?_
  refine i_277_76 (c := 0) (by decide) ?_
  refine i_277_77 (c := 11) (by decide) ?_
  exact i_277_78 ⟨rfl, rfl⟩
theorem nlz_21 {d : Nat} {w : xW} {x : Int32} (c0 : 2097152 ≤ x.toInt) (c1 : x.toInt < 4194304) : xRun d 277 [Value.int x] w (.inl (some (Value.int 10))) w := by
  have f0 : (xus x 16).toInt = x.toInt / 65536 := xus_16 (by omega)
  have f1 : (xus (xus x 16) 4).toInt = (xus x 16).toInt / 16 := xus_4 (by omega)
  have f2 : (xus (xus (xus x 16) 4) 1).toInt = (xus (xus x 16) 4).toInt / 2 := xus_1 (by omega)
  refine xRun.of ?_
  refine i_277_0 (x := x) rfl ?_
  refine i_277_1 (fun _ => ?_) (fun h => absurd (show 0 < x.toInt by omega) (Int.not_lt.mpr h))
  refine i_277_15 ?_
  refine i_277_17 (lv2 := [(1, Value.int 31), (0, Value.int x)]) rfl ?_
  refine i_277_18 (x := x) rfl ?_
  refine i_277_19 ?_
  refine i_277_22 (fun h => absurd (show 65536 ≤ x.toInt by omega) (Int.not_le.mpr h)) (fun _ => ?_)
  refine i_277_25 (x := 31) (c := 15) (lv2 := [(1, Value.int 15), (0, Value.int x)]) rfl (by decide) rfl ?_
  refine i_277_28 (x := x) rfl ?_
  refine i_277_29 ?_
  refine i_277_31 (c := (xus x 16)) rfl ?_
  refine i_277_32 (lv2 := [(0, Value.int (xus x 16)), (1, Value.int 15)]) rfl ?_
  refine i_277_33 (x := (xus x 16)) rfl ?_
  refine i_277_34 ?_
  refine i_277_37 (fun _ => ?_) (fun h => absurd (show (xus x 16).toInt < 256 by omega) (Int.not_lt.mpr h))
  refine i_277_48 (x := (xus x 16)) rfl ?_
  refine i_277_49 ?_
  refine i_277_51 (fun h => absurd (show 16 ≤ (xus x 16).toInt by omega) (Int.not_le.mpr h)) (fun _ => ?_)
  refine i_277_54 (x := 15) (c := 11) (lv2 := [(1, Value.int 11), (0, Value.int (xus x 16))]) rfl (by decide) rfl ?_
  refine i_277_57 (x := (xus x 16)) rfl ?_
  refine i_277_58 ?_
  refine i_277_59 (c := (xus (xus x 16) 4)) rfl ?_
  refine i_277_60 (lv2 := [(0, Value.int (xus (xus x 16) 4)), (1, Value.int 11)]) rfl ?_
  refine i_277_61 (x := (xus (xus x 16) 4)) rfl ?_
  refine i_277_62 ?_
  refine i_277_63 (fun _ => ?_) (fun h => absurd (show (xus (xus x 16) 4).toInt < 4 by omega) (Int.not_lt.mpr h))
  refine i_277_73 (x := 11) rfl ?_
  refine i_277_74 (x := (xus (xus x 16) 4)) rfl ?_
  refine i_277_75 ?_
  refine i_277_76 (c := 1) (show (xus (xus (xus x 16) 4) 1) = 1 from (xge_c (n := 1) (by omega) rfl)) ?_
  refine i_277_77 (c := 10) (by decide) ?_
  exact i_277_78 ⟨rfl, rfl⟩
theorem nlz_22 {d : Nat} {w : xW} {x : Int32} (c0 : 4194304 ≤ x.toInt) (c1 : x.toInt < 8388608) : xRun d 277 [Value.int x] w (.inl (some (Value.int 9))) w := by
  have f0 : (xus x 16).toInt = x.toInt / 65536 := xus_16 (by omega)
  have f1 : (xus (xus x 16) 4).toInt = (xus x 16).toInt / 16 := xus_4 (by omega)
  have f2 : (xus (xus (xus x 16) 4) 2).toInt = (xus (xus x 16) 4).toInt / 4 := xus_2 (by omega)
  refine xRun.of ?_
  refine i_277_0 (x := x) rfl ?_
  refine i_277_1 (fun _ => ?_) (fun h => absurd (show 0 < x.toInt by omega) (Int.not_lt.mpr h))
  refine i_277_15 ?_
  refine i_277_17 (lv2 := [(1, Value.int 31), (0, Value.int x)]) rfl ?_
  refine i_277_18 (x := x) rfl ?_
  refine i_277_19 ?_
  refine i_277_22 (fun h => absurd (show 65536 ≤ x.toInt by omega) (Int.not_le.mpr h)) (fun _ => ?_)
  refine i_277_25 (x := 31) (c := 15) (lv2 := [(1, Value.int 15), (0, Value.int x)]) rfl (by decide) rfl ?_
  refine i_277_28 (x := x) rfl ?_
  refine i_277_29 ?_
  refine i_277_31 (c := (xus x 16)) rfl ?_
  refine i_277_32 (lv2 := [(0, Value.int (xus x 16)), (1, Value.int 15)]) rfl ?_
  refine i_277_33 (x := (xus x 16)) rfl ?_
  refine i_277_34 ?_
  refine i_277_37 (fun _ => ?_) (fun h => absurd (show (xus x 16).toInt < 256 by omega) (Int.not_lt.mpr h))
  refine i_277_48 (x := (xus x 16)) rfl ?_
  refine i_277_49 ?_
  refine i_277_51 (fun h => absurd (show 16 ≤ (xus x 16).toInt by omega) (Int.not_le.mpr h)) (fun _ => ?_)
  refine i_277_54 (x := 15) (c := 11) (lv2 := [(1, Value.int 11), (0, Value.int (xus x 16))]) rfl (by decide) rfl ?_
  refine i_277_57 (x := (xus x 16)) rfl ?_
  refine i_277_58 ?_
  refine i_277_59 (c := (xus (xus x 16) 4)) rfl ?_
  refine i_277_60 (lv2 := [(0, Value.int (xus (xus x 16) 4)), (1, Value.int 11)]) rfl ?_
  refine i_277_61 (x := (xus (xus x 16) 4)) rfl ?_
  refine i_277_62 ?_
  refine i_277_63 (fun h => absurd (show 4 ≤ (xus (xus x 16) 4).toInt by omega) (Int.not_le.mpr h)) (fun _ => ?_)
  refine i_277_66 (x := 11) (c := 9) (lv2 := [(1, Value.int 9), (0, Value.int (xus (xus x 16) 4))]) rfl (by decide) rfl ?_
  refine i_277_69 (x := (xus (xus x 16) 4)) rfl ?_
  refine i_277_70 ?_
  refine i_277_71 (c := 1) (show (xus (xus (xus x 16) 4) 2) = 1 from (xge_c (n := 1) (by omega) rfl)) ?_
  refine i_277_72 (lv2 := [(0, Value.int 1), (1, Value.int 9)]) rfl ?_
  refine i_277_73 (x := 9) rfl ?_
  refine i_277_74 (x := 1) rfl ?_
  refine i_277_75 ?_
  refine i_277_76 (c := 0) (by decide) ?_
  refine i_277_77 (c := 9) (by decide) ?_
  exact i_277_78 ⟨rfl, rfl⟩
theorem nlz_23 {d : Nat} {w : xW} {x : Int32} (c0 : 8388608 ≤ x.toInt) (c1 : x.toInt < 16777216) : xRun d 277 [Value.int x] w (.inl (some (Value.int 8))) w := by
  have f0 : (xus x 16).toInt = x.toInt / 65536 := xus_16 (by omega)
  have f1 : (xus (xus x 16) 4).toInt = (xus x 16).toInt / 16 := xus_4 (by omega)
  have f2 : (xus (xus (xus x 16) 4) 2).toInt = (xus (xus x 16) 4).toInt / 4 := xus_2 (by omega)
  have f3 : (xus (xus (xus (xus x 16) 4) 2) 1).toInt = (xus (xus (xus x 16) 4) 2).toInt / 2 := xus_1 (by omega)
  refine xRun.of ?_
  refine i_277_0 (x := x) rfl ?_
  refine i_277_1 (fun _ => ?_) (fun h => absurd (show 0 < x.toInt by omega) (Int.not_lt.mpr h))
  refine i_277_15 ?_
  refine i_277_17 (lv2 := [(1, Value.int 31), (0, Value.int x)]) rfl ?_
  refine i_277_18 (x := x) rfl ?_
  refine i_277_19 ?_
  refine i_277_22 (fun h => absurd (show 65536 ≤ x.toInt by omega) (Int.not_le.mpr h)) (fun _ => ?_)
  refine i_277_25 (x := 31) (c := 15) (lv2 := [(1, Value.int 15), (0, Value.int x)]) rfl (by decide) rfl ?_
  refine i_277_28 (x := x) rfl ?_
  refine i_277_29 ?_
  refine i_277_31 (c := (xus x 16)) rfl ?_
  refine i_277_32 (lv2 := [(0, Value.int (xus x 16)), (1, Value.int 15)]) rfl ?_
  refine i_277_33 (x := (xus x 16)) rfl ?_
  refine i_277_34 ?_
  refine i_277_37 (fun _ => ?_) (fun h => absurd (show (xus x 16).toInt < 256 by omega) (Int.not_lt.mpr h))
  refine i_277_48 (x := (xus x 16)) rfl ?_
  refine i_277_49 ?_
  refine i_277_51 (fun h => absurd (show 16 ≤ (xus x 16).toInt by omega) (Int.not_le.mpr h)) (fun _ => ?_)
  refine i_277_54 (x := 15) (c := 11) (lv2 := [(1, Value.int 11), (0, Value.int (xus x 16))]) rfl (by decide) rfl ?_
  refine i_277_57 (x := (xus x 16)) rfl ?_
  refine i_277_58 ?_
  refine i_277_59 (c := (xus (xus x 16) 4)) rfl ?_
  refine i_277_60 (lv2 := [(0, Value.int (xus (xus x 16) 4)), (1, Value.int 11)]) rfl ?_
  refine i_277_61 (x := (xus (xus x 16) 4)) rfl ?_
  refine i_277_62 ?_
  refine i_277_63 (fun h => absurd (show 4 ≤ (xus (xus x 16) 4).toInt by omega) (Int.not_le.mpr h)) (fun _ => ?_)
  refine i_277_66 (x := 11) (c := 9) (lv2 := [(1, Value.int 9), (0, Value.int (xus (xus x 16) 4))]) rfl (by decide) rfl ?_
  refine i_277_69 (x := (xus (xus x 16) 4)) rfl ?_
  refine i_277_70 ?_
  refine i_277_71 (c := (xus (xus (xus x 16) 4) 2)) rfl ?_
  refine i_277_72 (lv2 := [(0, Value.int (xus (xus (xus x 16) 4) 2)), (1, Value.int 9)]) rfl ?_
  refine i_277_73 (x := 9) rfl ?_
  refine i_277_74 (x := (xus (xus (xus x 16) 4) 2)) rfl ?_
  refine i_277_75 ?_
  refine i_277_76 (c := 1) (show (xus (xus (xus (xus x 16) 4) 2) 1) = 1 from (xge_c (n := 1) (by omega) rfl)) ?_
  refine i_277_77 (c := 8) (by decide) ?_
  exact i_277_78 ⟨rfl, rfl⟩
theorem nlz_24 {d : Nat} {w : xW} {x : Int32} (c0 : 16777216 ≤ x.toInt) (c1 : x.toInt < 33554432) : xRun d 277 [Value.int x] w (.inl (some (Value.int 7))) w := by
  have f0 : (xus x 16).toInt = x.toInt / 65536 := xus_16 (by omega)
  have f1 : (xus (xus x 16) 8).toInt = (xus x 16).toInt / 256 := xus_8 (by omega)
  refine xRun.of ?_
  refine i_277_0 (x := x) rfl ?_
  refine i_277_1 (fun _ => ?_) (fun h => absurd (show 0 < x.toInt by omega) (Int.not_lt.mpr h))
  refine i_277_15 ?_
  refine i_277_17 (lv2 := [(1, Value.int 31), (0, Value.int x)]) rfl ?_
  refine i_277_18 (x := x) rfl ?_
  refine i_277_19 ?_
  refine i_277_22 (fun h => absurd (show 65536 ≤ x.toInt by omega) (Int.not_le.mpr h)) (fun _ => ?_)
  refine i_277_25 (x := 31) (c := 15) (lv2 := [(1, Value.int 15), (0, Value.int x)]) rfl (by decide) rfl ?_
  refine i_277_28 (x := x) rfl ?_
  refine i_277_29 ?_
  refine i_277_31 (c := (xus x 16)) rfl ?_
  refine i_277_32 (lv2 := [(0, Value.int (xus x 16)), (1, Value.int 15)]) rfl ?_
  refine i_277_33 (x := (xus x 16)) rfl ?_
  refine i_277_34 ?_
  refine i_277_37 (fun h => absurd (show 256 ≤ (xus x 16).toInt by omega) (Int.not_le.mpr h)) (fun _ => ?_)
  refine i_277_40 (x := 15) (c := 7) (lv2 := [(1, Value.int 7), (0, Value.int (xus x 16))]) rfl (by decide) rfl ?_
  refine i_277_43 (x := (xus x 16)) rfl ?_
  refine i_277_44 ?_
  refine i_277_46 (c := 1) (show (xus (xus x 16) 8) = 1 from (xge_c (n := 1) (by omega) rfl)) ?_
  refine i_277_47 (lv2 := [(0, Value.int 1), (1, Value.int 7)]) rfl ?_
  refine i_277_48 (x := 1) rfl ?_
  refine i_277_49 ?_
  refine i_277_51 (fun _ => ?_) (fun h => absurd h (by decide))
  refine i_277_61 (x := 1) rfl ?_
  refine i_277_62 ?_
  refine i_277_63 (fun _ => ?_) (fun h => absurd h (by decide))
  refine i_277_73 (x := 7) rfl ?_
  refine i_277_74 (x := 1) rfl ?_
  refine i_277_75 ?_
  refine i_277_76 (c := 0) (by decide) ?_
  refine i_277_77 (c := 7) (by decide) ?_
  exact i_277_78 ⟨rfl, rfl⟩
theorem nlz_25 {d : Nat} {w : xW} {x : Int32} (c0 : 33554432 ≤ x.toInt) (c1 : x.toInt < 67108864) : xRun d 277 [Value.int x] w (.inl (some (Value.int 6))) w := by
  have f0 : (xus x 16).toInt = x.toInt / 65536 := xus_16 (by omega)
  have f1 : (xus (xus x 16) 8).toInt = (xus x 16).toInt / 256 := xus_8 (by omega)
  have f2 : (xus (xus (xus x 16) 8) 1).toInt = (xus (xus x 16) 8).toInt / 2 := xus_1 (by omega)
  refine xRun.of ?_
  refine i_277_0 (x := x) rfl ?_
  refine i_277_1 (fun _ => ?_) (fun h => absurd (show 0 < x.toInt by omega) (Int.not_lt.mpr h))
  refine i_277_15 ?_
  refine i_277_17 (lv2 := [(1, Value.int 31), (0, Value.int x)]) rfl ?_
  refine i_277_18 (x := x) rfl ?_
  refine i_277_19 ?_
  refine i_277_22 (fun h => absurd (show 65536 ≤ x.toInt by omega) (Int.not_le.mpr h)) (fun _ => ?_)
  refine i_277_25 (x := 31) (c := 15) (lv2 := [(1, Value.int 15), (0, Value.int x)]) rfl (by decide) rfl ?_
  refine i_277_28 (x := x) rfl ?_
  refine i_277_29 ?_
  refine i_277_31 (c := (xus x 16)) rfl ?_
  refine i_277_32 (lv2 := [(0, Value.int (xus x 16)), (1, Value.int 15)]) rfl ?_
  refine i_277_33 (x := (xus x 16)) rfl ?_
  refine i_277_34 ?_
  refine i_277_37 (fun h => absurd (show 256 ≤ (xus x 16).toInt by omega) (Int.not_le.mpr h)) (fun _ => ?_)
  refine i_277_40 (x := 15) (c := 7) (lv2 := [(1, Value.int 7), (0, Value.int (xus x 16))]) rfl (by decide) rfl ?_
  refine i_277_43 (x := (xus x 16)) rfl ?_
  refine i_277_44 ?_
  refine i_277_46 (c := (xus (xus x 16) 8)) rfl ?_
  refine i_277_47 (lv2 := [(0, Value.int (xus (xus x 16) 8)), (1, Value.int 7)]) rfl ?_
  refine i_277_48 (x := (xus (xus x 16) 8)) rfl ?_
  refine i_277_49 ?_
  refine i_277_51 (fun _ => ?_) (fun h => absurd (show (xus (xus x 16) 8).toInt < 16 by omega) (Int.not_lt.mpr h))
  refine i_277_61 (x := (xus (xus x 16) 8)) rfl ?_
  refine i_277_62 ?_
  refine i_277_63 (fun _ => ?_) (fun h => absurd (show (xus (xus x 16) 8).toInt < 4 by omega) (Int.not_lt.mpr h))
  refine i_277_73 (x := 7) rfl ?_
  refine i_277_74 (x := (xus (xus x 16) 8)) rfl ?_
  refine i_277_75 ?_
  refine i_277_76 (c := 1) (show (xus (xus (xus x 16) 8) 1) = 1 from (xge_c (n := 1) (by omega) rfl)) ?_
  refine i_277_77 (c := 6) (by decide) ?_
  exact i_277_78 ⟨rfl, rfl⟩
theorem nlz_26 {d : Nat} {w : xW} {x : Int32} (c0 : 67108864 ≤ x.toInt) (c1 : x.toInt < 134217728) : xRun d 277 [Value.int x] w (.inl (some (Value.int 5))) w := by
  have f0 : (xus x 16).toInt = x.toInt / 65536 := xus_16 (by omega)
  have f1 : (xus (xus x 16) 8).toInt = (xus x 16).toInt / 256 := xus_8 (by omega)
  have f2 : (xus (xus (xus x 16) 8) 2).toInt = (xus (xus x 16) 8).toInt / 4 := xus_2 (by omega)
  refine xRun.of ?_
  refine i_277_0 (x := x) rfl ?_
  refine i_277_1 (fun _ => ?_) (fun h => absurd (show 0 < x.toInt by omega) (Int.not_lt.mpr h))
  refine i_277_15 ?_
  refine i_277_17 (lv2 := [(1, Value.int 31), (0, Value.int x)]) rfl ?_
  refine i_277_18 (x := x) rfl ?_
  refine i_277_19 ?_
  refine i_277_22 (fun h => absurd (show 65536 ≤ x.toInt by omega) (Int.not_le.mpr h)) (fun _ => ?_)
  refine i_277_25 (x := 31) (c := 15) (lv2 := [(1, Value.int 15), (0, Value.int x)]) rfl (by decide) rfl ?_
  refine i_277_28 (x := x) rfl ?_
  refine i_277_29 ?_
  refine i_277_31 (c := (xus x 16)) rfl ?_
  refine i_277_32 (lv2 := [(0, Value.int (xus x 16)), (1, Value.int 15)]) rfl ?_
  refine i_277_33 (x := (xus x 16)) rfl ?_
  refine i_277_34 ?_
  refine i_277_37 (fun h => absurd (show 256 ≤ (xus x 16).toInt by omega) (Int.not_le.mpr h)) (fun _ => ?_)
  refine i_277_40 (x := 15) (c := 7) (lv2 := [(1, Value.int 7), (0, Value.int (xus x 16))]) rfl (by decide) rfl ?_
  refine i_277_43 (x := (xus x 16)) rfl ?_
  refine i_277_44 ?_
  refine i_277_46 (c := (xus (xus x 16) 8)) rfl ?_
  refine i_277_47 (lv2 := [(0, Value.int (xus (xus x 16) 8)), (1, Value.int 7)]) rfl ?_
  refine i_277_48 (x := (xus (xus x 16) 8)) rfl ?_
  refine i_277_49 ?_
  refine i_277_51 (fun _ => ?_) (fun h => absurd (show (xus (xus x 16) 8).toInt < 16 by omega) (Int.not_lt.mpr h))
  refine i_277_61 (x := (xus (xus x 16) 8)) rfl ?_
  refine i_277_62 ?_
  refine i_277_63 (fun h => absurd (show 4 ≤ (xus (xus x 16) 8).toInt by omega) (Int.not_le.mpr h)) (fun _ => ?_)
  refine i_277_66 (x := 7) (c := 5) (lv2 := [(1, Value.int 5), (0, Value.int (xus (xus x 16) 8))]) rfl (by decide) rfl ?_
  refine i_277_69 (x := (xus (xus x 16) 8)) rfl ?_
  refine i_277_70 ?_
  refine i_277_71 (c := 1) (show (xus (xus (xus x 16) 8) 2) = 1 from (xge_c (n := 1) (by omega) rfl)) ?_
  refine i_277_72 (lv2 := [(0, Value.int 1), (1, Value.int 5)]) rfl ?_
  refine i_277_73 (x := 5) rfl ?_
  refine i_277_74 (x := 1) rfl ?_
  refine i_277_75 ?_
  refine i_277_76 (c := 0) (by decide) ?_
  refine i_277_77 (c := 5) (by decide) ?_
  exact i_277_78 ⟨rfl, rfl⟩
theorem nlz_27 {d : Nat} {w : xW} {x : Int32} (c0 : 134217728 ≤ x.toInt) (c1 : x.toInt < 268435456) : xRun d 277 [Value.int x] w (.inl (some (Value.int 4))) w := by
  have f0 : (xus x 16).toInt = x.toInt / 65536 := xus_16 (by omega)
  have f1 : (xus (xus x 16) 8).toInt = (xus x 16).toInt / 256 := xus_8 (by omega)
  have f2 : (xus (xus (xus x 16) 8) 2).toInt = (xus (xus x 16) 8).toInt / 4 := xus_2 (by omega)
  have f3 : (xus (xus (xus (xus x 16) 8) 2) 1).toInt = (xus (xus (xus x 16) 8) 2).toInt / 2 := xus_1 (by omega)
  refine xRun.of ?_
  refine i_277_0 (x := x) rfl ?_
  refine i_277_1 (fun _ => ?_) (fun h => absurd (show 0 < x.toInt by omega) (Int.not_lt.mpr h))
  refine i_277_15 ?_
  refine i_277_17 (lv2 := [(1, Value.int 31), (0, Value.int x)]) rfl ?_
  refine i_277_18 (x := x) rfl ?_
  refine i_277_19 ?_
  refine i_277_22 (fun h => absurd (show 65536 ≤ x.toInt by omega) (Int.not_le.mpr h)) (fun _ => ?_)
  refine i_277_25 (x := 31) (c := 15) (lv2 := [(1, Value.int 15), (0, Value.int x)]) rfl (by decide) rfl ?_
  refine i_277_28 (x := x) rfl ?_
  refine i_277_29 ?_
  refine i_277_31 (c := (xus x 16)) rfl ?_
  refine i_277_32 (lv2 := [(0, Value.int (xus x 16)), (1, Value.int 15)]) rfl ?_
  refine i_277_33 (x := (xus x 16)) rfl ?_
  refine i_277_34 ?_
  refine i_277_37 (fun h => absurd (show 256 ≤ (xus x 16).toInt by omega) (Int.not_le.mpr h)) (fun _ => ?_)
  refine i_277_40 (x := 15) (c := 7) (lv2 := [(1, Value.int 7), (0, Value.int (xus x 16))]) rfl (by decide) rfl ?_
  refine i_277_43 (x := (xus x 16)) rfl ?_
  refine i_277_44 ?_
  refine i_277_46 (c := (xus (xus x 16) 8)) rfl ?_
  refine i_277_47 (lv2 := [(0, Value.int (xus (xus x 16) 8)), (1, Value.int 7)]) rfl ?_
  refine i_277_48 (x := (xus (xus x 16) 8)) rfl ?_
  refine i_277_49 ?_
  refine i_277_51 (fun _ => ?_) (fun h => absurd (show (xus (xus x 16) 8).toInt < 16 by omega) (Int.not_lt.mpr h))
  refine i_277_61 (x := (xus (xus x 16) 8)) rfl ?_
  refine i_277_62 ?_
  refine i_277_63 (fun h => absurd (show 4 ≤ (xus (xus x 16) 8).toInt by omega) (Int.not_le.mpr h)) (fun _ => ?_)
  refine i_277_66 (x := 7) (c := 5) (lv2 := [(1, Value.int 5), (0, Value.int (xus (xus x 16) 8))]) rfl (by decide) rfl ?_
  refine i_277_69 (x := (xus (xus x 16) 8)) rfl ?_
  refine i_277_70 ?_
  refine i_277_71 (c := (xus (xus (xus x 16) 8) 2)) rfl ?_
  refine i_277_72 (lv2 := [(0, Value.int (xus (xus (xus x 16) 8) 2)), (1, Value.int 5)]) rfl ?_
  refine i_277_73 (x := 5) rfl ?_
  refine i_277_74 (x := (xus (xus (xus x 16) 8) 2)) rfl ?_
  refine i_277_75 ?_
  refine i_277_76 (c := 1) (show (xus (xus (xus (xus x 16) 8) 2) 1) = 1 from (xge_c (n := 1) (by omega) rfl)) ?_
  refine i_277_77 (c := 4) (by decide) ?_
  exact i_277_78 ⟨rfl, rfl⟩
theorem nlz_28 {d : Nat} {w : xW} {x : Int32} (c0 : 268435456 ≤ x.toInt) (c1 : x.toInt < 536870912) : xRun d 277 [Value.int x] w (.inl (some (Value.int 3))) w := by
  have f0 : (xus x 16).toInt = x.toInt / 65536 := xus_16 (by omega)
  have f1 : (xus (xus x 16) 8).toInt = (xus x 16).toInt / 256 := xus_8 (by omega)
  have f2 : (xus (xus (xus x 16) 8) 4).toInt = (xus (xus x 16) 8).toInt / 16 := xus_4 (by omega)
  refine xRun.of ?_
  refine i_277_0 (x := x) rfl ?_
  refine i_277_1 (fun _ => ?_) (fun h => absurd (show 0 < x.toInt by omega) (Int.not_lt.mpr h))
  refine i_277_15 ?_
  refine i_277_17 (lv2 := [(1, Value.int 31), (0, Value.int x)]) rfl ?_
  refine i_277_18 (x := x) rfl ?_
  refine i_277_19 ?_
  refine i_277_22 (fun h => absurd (show 65536 ≤ x.toInt by omega) (Int.not_le.mpr h)) (fun _ => ?_)
  refine i_277_25 (x := 31) (c := 15) (lv2 := [(1, Value.int 15), (0, Value.int x)]) rfl (by decide) rfl ?_
  refine i_277_28 (x := x) rfl ?_
  refine i_277_29 ?_
  refine i_277_31 (c := (xus x 16)) rfl ?_
  refine i_277_32 (lv2 := [(0, Value.int (xus x 16)), (1, Value.int 15)]) rfl ?_
  refine i_277_33 (x := (xus x 16)) rfl ?_
  refine i_277_34 ?_
  refine i_277_37 (fun h => absurd (show 256 ≤ (xus x 16).toInt by omega) (Int.not_le.mpr h)) (fun _ => ?_)
  refine i_277_40 (x := 15) (c := 7) (lv2 := [(1, Value.int 7), (0, Value.int (xus x 16))]) rfl (by decide) rfl ?_
  refine i_277_43 (x := (xus x 16)) rfl ?_
  refine i_277_44 ?_
  refine i_277_46 (c := (xus (xus x 16) 8)) rfl ?_
  refine i_277_47 (lv2 := [(0, Value.int (xus (xus x 16) 8)), (1, Value.int 7)]) rfl ?_
  refine i_277_48 (x := (xus (xus x 16) 8)) rfl ?_
  refine i_277_49 ?_
  refine i_277_51 (fun h => absurd (show 16 ≤ (xus (xus x 16) 8).toInt by omega) (Int.not_le.mpr h)) (fun _ => ?_)
  refine i_277_54 (x := 7) (c := 3) (lv2 := [(1, Value.int 3), (0, Value.int (xus (xus x 16) 8))]) rfl (by decide) rfl ?_
  refine i_277_57 (x := (xus (xus x 16) 8)) rfl ?_
  refine i_277_58 ?_
  refine i_277_59 (c := 1) (show (xus (xus (xus x 16) 8) 4) = 1 from (xge_c (n := 1) (by omega) rfl)) ?_
  refine i_277_60 (lv2 := [(0, Value.int 1), (1, Value.int 3)]) rfl ?_
  refine i_277_61 (x := 1) rfl ?_
  refine i_277_62 ?_
  refine i_277_63 (fun _ => ?_) (fun h => absurd h (by decide))
  refine i_277_73 (x := 3) rfl ?_
  refine i_277_74 (x := 1) rfl ?_
  refine i_277_75 ?_
  refine i_277_76 (c := 0) (by decide) ?_
  refine i_277_77 (c := 3) (by decide) ?_
  exact i_277_78 ⟨rfl, rfl⟩
theorem nlz_29 {d : Nat} {w : xW} {x : Int32} (c0 : 536870912 ≤ x.toInt) (c1 : x.toInt < 1073741824) : xRun d 277 [Value.int x] w (.inl (some (Value.int 2))) w := by
  have f0 : (xus x 16).toInt = x.toInt / 65536 := xus_16 (by omega)
  have f1 : (xus (xus x 16) 8).toInt = (xus x 16).toInt / 256 := xus_8 (by omega)
  have f2 : (xus (xus (xus x 16) 8) 4).toInt = (xus (xus x 16) 8).toInt / 16 := xus_4 (by omega)
  have f3 : (xus (xus (xus (xus x 16) 8) 4) 1).toInt = (xus (xus (xus x 16) 8) 4).toInt / 2 := xus_1 (by omega)
  refine xRun.of ?_
  refine i_277_0 (x := x) rfl ?_
  refine i_277_1 (fun _ => ?_) (fun h => absurd (show 0 < x.toInt by omega) (Int.not_lt.mpr h))
  refine i_277_15 ?_
  refine i_277_17 (lv2 := [(1, Value.int 31), (0, Value.int x)]) rfl ?_
  refine i_277_18 (x := x) rfl ?_
  refine i_277_19 ?_
  refine i_277_22 (fun h => absurd (show 65536 ≤ x.toInt by omega) (Int.not_le.mpr h)) (fun _ => ?_)
  refine i_277_25 (x := 31) (c := 15) (lv2 := [(1, Value.int 15), (0, Value.int x)]) rfl (by decide) rfl ?_
  refine i_277_28 (x := x) rfl ?_
  refine i_277_29 ?_
  refine i_277_31 (c := (xus x 16)) rfl ?_
  refine i_277_32 (lv2 := [(0, Value.int (xus x 16)), (1, Value.int 15)]) rfl ?_
  refine i_277_33 (x := (xus x 16)) rfl ?_
  refine i_277_34 ?_
  refine i_277_37 (fun h => absurd (show 256 ≤ (xus x 16).toInt by omega) (Int.not_le.mpr h)) (fun _ => ?_)
  refine i_277_40 (x := 15) (c := 7) (lv2 := [(1, Value.int 7), (0, Value.int (xus x 16))]) rfl (by decide) rfl ?_
  refine i_277_43 (x := (xus x 16)) rfl ?_
  refine i_277_44 ?_
  refine i_277_46 (c := (xus (xus x 16) 8)) rfl ?_
  refine i_277_47 (lv2 := [(0, Value.int (xus (xus x 16) 8)), (1, Value.int 7)]) rfl ?_
  refine i_277_48 (x := (xus (xus x 16) 8)) rfl ?_
  refine i_277_49 ?_
  refine i_277_51 (fun h => absurd (show 16 ≤ (xus (xus x 16) 8).toInt by omega) (Int.not_le.mpr h)) (fun _ => ?_)
  refine i_277_54 (x := 7) (c := 3) (lv2 := [(1, Value.int 3), (0, Value.int (xus (xus x 16) 8))]) rfl (by decide) rfl ?_
  refine i_277_57 (x := (xus (xus x 16) 8)) rfl ?_
  refine i_277_58 ?_
  refine i_277_59 (c := (xus (xus (xus x 16) 8) 4)) rfl ?_
  refine i_277_60 (lv2 := [(0, Value.int (xus (xus (xus x 16) 8) 4)), (1, Value.int 3)]) rfl ?_
  refine i_277_61 (x := (xus (xus (xus x 16) 8) 4)) rfl ?_
  refine i_277_62 ?_
  refine i_277_63 (fun _ => ?_) (fun h => absurd (show (xus (xus (xus x 16) 8) 4).toInt < 4 by omega) (Int.not_lt.mpr h))
  refine i_277_73 (x := 3) rfl ?_
  refine i_277_74 (x := (xus (xus (xus x 16) 8) 4)) rfl ?_
  refine i_277_75 ?_
  refine i_277_76 (c := 1) (show (xus (xus (xus (xus x 16) 8) 4) 1) = 1 from (xge_c (n := 1) (by omega) rfl)) ?_
  refine i_277_77 (c := 2) (by decide) ?_
  exact i_277_78 ⟨rfl, rfl⟩
theorem nlz_30 {d : Nat} {w : xW} {x : Int32} (c0 : 1073741824 ≤ x.toInt) (c1 : x.toInt < 2147483648) : xRun d 277 [Value.int x] w (.inl (some (Value.int 1))) w := by
  have f0 : (xus x 16).toInt = x.toInt / 65536 := xus_16 (by omega)
  have f1 : (xus (xus x 16) 8).toInt = (xus x 16).toInt / 256 := xus_8 (by omega)
  have f2 : (xus (xus (xus x 16) 8) 4).toInt = (xus (xus x 16) 8).toInt / 16 := xus_4 (by omega)
  have f3 : (xus (xus (xus (xus x 16) 8) 4) 2).toInt = (xus (xus (xus x 16) 8) 4).toInt / 4 := xus_2 (by omega)
  refine xRun.of ?_
  refine i_277_0 (x := x) rfl ?_
  refine i_277_1 (fun _ => ?_) (fun h => absurd (show 0 < x.toInt by omega) (Int.not_lt.mpr h))
  refine i_277_15 ?_
  refine i_277_17 (lv2 := [(1, Value.int 31), (0, Value.int x)]) rfl ?_
  refine i_277_18 (x := x) rfl ?_
  refine i_277_19 ?_
  refine i_277_22 (fun h => absurd (show 65536 ≤ x.toInt by omega) (Int.not_le.mpr h)) (fun _ => ?_)
  refine i_277_25 (x := 31) (c := 15) (lv2 := [(1, Value.int 15), (0, Value.int x)]) rfl (by decide) rfl ?_
  refine i_277_28 (x := x) rfl ?_
  refine i_277_29 ?_
  refine i_277_31 (c := (xus x 16)) rfl ?_
  refine i_277_32 (lv2 := [(0, Value.int (xus x 16)), (1, Value.int 15)]) rfl ?_
  refine i_277_33 (x := (xus x 16)) rfl ?_
  refine i_277_34 ?_
  refine i_277_37 (fun h => absurd (show 256 ≤ (xus x 16).toInt by omega) (Int.not_le.mpr h)) (fun _ => ?_)
  refine i_277_40 (x := 15) (c := 7) (lv2 := [(1, Value.int 7), (0, Value.int (xus x 16))]) rfl (by decide) rfl ?_
  refine i_277_43 (x := (xus x 16)) rfl ?_
  refine i_277_44 ?_
  refine i_277_46 (c := (xus (xus x 16) 8)) rfl ?_
  refine i_277_47 (lv2 := [(0, Value.int (xus (xus x 16) 8)), (1, Value.int 7)]) rfl ?_
  refine i_277_48 (x := (xus (xus x 16) 8)) rfl ?_
  refine i_277_49 ?_
  refine i_277_51 (fun h => absurd (show 16 ≤ (xus (xus x 16) 8).toInt by omega) (Int.not_le.mpr h)) (fun _ => ?_)
  refine i_277_54 (x := 7) (c := 3) (lv2 := [(1, Value.int 3), (0, Value.int (xus (xus x 16) 8))]) rfl (by decide) rfl ?_
  refine i_277_57 (x := (xus (xus x 16) 8)) rfl ?_
  refine i_277_58 ?_
  refine i_277_59 (c := (xus (xus (xus x 16) 8) 4)) rfl ?_
  refine i_277_60 (lv2 := [(0, Value.int (xus (xus (xus x 16) 8) 4)), (1, Value.int 3)]) rfl ?_
  refine i_277_61 (x := (xus (xus (xus x 16) 8) 4)) rfl ?_
  refine i_277_62 ?_
  refine i_277_63 (fun h => absurd (show 4 ≤ (xus (xus (xus x 16) 8) 4).toInt by omega) (Int.not_le.mpr h)) (fun _ => ?_)
  refine i_277_66 (x := 3) (c := 1) (lv2 := [(1, Value.int 1), (0, Value.int (xus (xus (xus x 16) 8) 4))]) rfl (by decide) rfl ?_
  refine i_277_69 (x := (xus (xus (xus x 16) 8) 4)) rfl ?_
  refine i_277_70 ?_
  refine i_277_71 (c := 1) (show (xus (xus (xus (xus x 16) 8) 4) 2) = 1 from (xge_c (n := 1) (by omega) rfl)) ?_
  refine i_277_72 (lv2 := [(0, Value.int 1), (1, Value.int 1)]) rfl ?_
  refine i_277_73 (x := 1) rfl ?_
  refine i_277_74 (x := 1) rfl ?_
  refine i_277_75 ?_
  refine i_277_76 (c := 0) (by decide) ?_
  refine i_277_77 (c := 1) (by decide) ?_
  exact i_277_78 ⟨rfl, rfl⟩
theorem nlz_n {d : Nat} {w : xW} {x : Int32} (c0 : x.toInt < 0) : xRun d 277 [Value.int x] w (.inl (some (Value.int 0))) w := by
  refine xRun.of ?_
  refine i_277_0 (x := x) rfl ?_
  refine i_277_1 (fun h => absurd (show x.toInt ≤ 0 by omega) (Int.not_le.mpr h)) (fun _ => ?_)
  refine i_277_4 (x := x) rfl ?_
  refine i_277_5 (fun _ => ?_) (fun h => absurd (show x.toInt ≠ 0 by omega) (fun g => g h))
  refine i_277_13 ?_
  exact i_277_14 ⟨rfl, rfl⟩
theorem nlz_z {d : Nat} {w : xW} : xRun d 277 [Value.int 0] w (.inl (some (Value.int 32))) w := by
  refine xRun.of ?_
  refine i_277_0 (x := 0) rfl ?_
  refine i_277_1 (fun h => absurd h (by decide)) (fun _ => ?_)
  refine i_277_4 (x := 0) rfl ?_
  refine i_277_5 (fun h => absurd h (by decide)) (fun _ => ?_)
  refine i_277_8 ?_
  refine i_277_10 ?_
  exact i_277_14 ⟨rfl, rfl⟩
theorem nlz_run {d : Nat} {w : xW} {x : Int32} : xRun d 277 [Value.int x] w (.inl (some (Value.int (xnlz x)))) w := by
  by_cases hz : x.toInt = 0
  · have e : x = 0 := Int32.toInt_inj.mp hz
    subst e
    exact nlz_z
  · have hne : xun x ≠ 0 := fun h => hz (xun_z.mp h)
    have ho := xbl_of hne
    have hi := xun_int x
    have hl := xun_lt x
    by_cases hn : x.toInt < 0
    · have hb : xbl (xun x) = 32 := xbl_eq (k := 31) (by split at hi <;> omega) (by omega)
      have e : xnlz x = 0 := by unfold xnlz; rw [hb]; rfl
      rw [e]; exact nlz_n hn
    · have hp := xun_i (show 0 ≤ x.toInt by omega)
      have hx := Int32.toInt_lt x
      have h31 : xbl (xun x) ≤ 31 := xbl_le (by omega)
      have hc : xbl (xun x) = 1 ∨ xbl (xun x) = 2 ∨ xbl (xun x) = 3 ∨ xbl (xun x) = 4 ∨ xbl (xun x) = 5 ∨ xbl (xun x) = 6 ∨ xbl (xun x) = 7 ∨ xbl (xun x) = 8 ∨ xbl (xun x) = 9 ∨ xbl (xun x) = 10 ∨ xbl (xun x) = 11 ∨ xbl (xun x) = 12 ∨ xbl (xun x) = 13 ∨ xbl (xun x) = 14 ∨ xbl (xun x) = 15 ∨ xbl (xun x) = 16 ∨ xbl (xun x) = 17 ∨ xbl (xun x) = 18 ∨ xbl (xun x) = 19 ∨ xbl (xun x) = 20 ∨ xbl (xun x) = 21 ∨ xbl (xun x) = 22 ∨ xbl (xun x) = 23 ∨ xbl (xun x) = 24 ∨ xbl (xun x) = 25 ∨ xbl (xun x) = 26 ∨ xbl (xun x) = 27 ∨ xbl (xun x) = 28 ∨ xbl (xun x) = 29 ∨ xbl (xun x) = 30 ∨ xbl (xun x) = 31 := by omega
      rcases hc with hb | hb | hb | hb | hb | hb | hb | hb | hb | hb | hb | hb | hb | hb | hb | hb | hb | hb | hb | hb | hb | hb | hb | hb | hb | hb | hb | hb | hb | hb | hb
      · have e : xnlz x = 31 := by unfold xnlz; rw [hb]; rfl
        rw [hb] at ho
        rw [e]; exact nlz_0 (by omega) (by omega)
      · have e : xnlz x = 30 := by unfold xnlz; rw [hb]; rfl
        rw [hb] at ho
        rw [e]; exact nlz_1 (by omega) (by omega)
      · have e : xnlz x = 29 := by unfold xnlz; rw [hb]; rfl
        rw [hb] at ho
        rw [e]; exact nlz_2 (by omega) (by omega)
      · have e : xnlz x = 28 := by unfold xnlz; rw [hb]; rfl
        rw [hb] at ho
        rw [e]; exact nlz_3 (by omega) (by omega)
      · have e : xnlz x = 27 := by unfold xnlz; rw [hb]; rfl
        rw [hb] at ho
        rw [e]; exact nlz_4 (by omega) (by omega)
      · have e : xnlz x = 26 := by unfold xnlz; rw [hb]; rfl
        rw [hb] at ho
        rw [e]; exact nlz_5 (by omega) (by omega)
      · have e : xnlz x = 25 := by unfold xnlz; rw [hb]; rfl
        rw [hb] at ho
        rw [e]; exact nlz_6 (by omega) (by omega)
      · have e : xnlz x = 24 := by unfold xnlz; rw [hb]; rfl
        rw [hb] at ho
        rw [e]; exact nlz_7 (by omega) (by omega)
      · have e : xnlz x = 23 := by unfold xnlz; rw [hb]; rfl
        rw [hb] at ho
        rw [e]; exact nlz_8 (by omega) (by omega)
      · have e : xnlz x = 22 := by unfold xnlz; rw [hb]; rfl
        rw [hb] at ho
        rw [e]; exact nlz_9 (by omega) (by omega)
      · have e : xnlz x = 21 := by unfold xnlz; rw [hb]; rfl
        rw [hb] at ho
        rw [e]; exact nlz_10 (by omega) (by omega)
      · have e : xnlz x = 20 := by unfold xnlz; rw [hb]; rfl
        rw [hb] at ho
        rw [e]; exact nlz_11 (by omega) (by omega)
      · have e : xnlz x = 19 := by unfold xnlz; rw [hb]; rfl
        rw [hb] at ho
        rw [e]; exact nlz_12 (by omega) (by omega)
      · have e : xnlz x = 18 := by unfold xnlz; rw [hb]; rfl
        rw [hb] at ho
        rw [e]; exact nlz_13 (by omega) (by omega)
      · have e : xnlz x = 17 := by unfold xnlz; rw [hb]; rfl
        rw [hb] at ho
        rw [e]; exact nlz_14 (by omega) (by omega)
      · have e : xnlz x = 16 := by unfold xnlz; rw [hb]; rfl
        rw [hb] at ho
        rw [e]; exact nlz_15 (by omega) (by omega)
      · have e : xnlz x = 15 := by unfold xnlz; rw [hb]; rfl
        rw [hb] at ho
        rw [e]; exact nlz_16 (by omega) (by omega)
      · have e : xnlz x = 14 := by unfold xnlz; rw [hb]; rfl
        rw [hb] at ho
        rw [e]; exact nlz_17 (by omega) (by omega)
      · have e : xnlz x = 13 := by unfold xnlz; rw [hb]; rfl
        rw [hb] at ho
        rw [e]; exact nlz_18 (by omega) (by omega)
      · have e : xnlz x = 12 := by unfold xnlz; rw [hb]; rfl
        rw [hb] at ho
        rw [e]; exact nlz_19 (by omega) (by omega)
      · have e : xnlz x = 11 := by unfold xnlz; rw [hb]; rfl
        rw [hb] at ho
        rw [e]; exact nlz_20 (by omega) (by omega)
      · have e : xnlz x = 10 := by unfold xnlz; rw [hb]; rfl
        rw [hb] at ho
        rw [e]; exact nlz_21 (by omega) (by omega)
      · have e : xnlz x = 9 := by unfold xnlz; rw [hb]; rfl
        rw [hb] at ho
        rw [e]; exact nlz_22 (by omega) (by omega)
      · have e : xnlz x = 8 := by unfold xnlz; rw [hb]; rfl
        rw [hb] at ho
        rw [e]; exact nlz_23 (by omega) (by omega)
      · have e : xnlz x = 7 := by unfold xnlz; rw [hb]; rfl
        rw [hb] at ho
        rw [e]; exact nlz_24 (by omega) (by omega)
      · have e : xnlz x = 6 := by unfold xnlz; rw [hb]; rfl
        rw [hb] at ho
        rw [e]; exact nlz_25 (by omega) (by omega)
      · have e : xnlz x = 5 := by unfold xnlz; rw [hb]; rfl
        rw [hb] at ho
        rw [e]; exact nlz_26 (by omega) (by omega)
      · have e : xnlz x = 4 := by unfold xnlz; rw [hb]; rfl
        rw [hb] at ho
        rw [e]; exact nlz_27 (by omega) (by omega)
      · have e : xnlz x = 3 := by unfold xnlz; rw [hb]; rfl
        rw [hb] at ho
        rw [e]; exact nlz_28 (by omega) (by omega)
      · have e : xnlz x = 2 := by unfold xnlz; rw [hb]; rfl
        rw [hb] at ho
        rw [e]; exact nlz_29 (by omega) (by omega)
      · have e : xnlz x = 1 := by unfold xnlz; rw [hb]; rfl
        rw [hb] at ho
        rw [e]; exact nlz_30 (by omega) (by omega)
theorem ntz_0 {d : Nat} {w : xW} {x : Int32} (c0 : (x ^^^ ((-1) : Int32)) &&& (x - (1 : Int32)) = 0) : xRun d 278 [Value.int x] w (.inl (some (Value.int 0))) w := by
  refine xRun.of ?_
  refine i_278_0 (x := x) rfl ?_
  refine i_278_1 ?_
  refine i_278_2 (c := (x ^^^ ((-1) : Int32))) rfl ?_
  refine i_278_3 (x := x) rfl ?_
  refine i_278_4 ?_
  refine i_278_5 (c := (x - (1 : Int32))) rfl ?_
  refine i_278_6 (c := 0) (show ((x ^^^ ((-1) : Int32)) &&& (x - (1 : Int32))) = 0 from c0) ?_
  refine i_278_7 (lv2 := [(0, Value.int 0)]) rfl ?_
  refine i_278_8 (x := 0) rfl ?_
  refine i_278_9 (fun h => absurd h (by decide)) (fun _ => ?_)
  refine i_278_12 (x := 0) rfl ?_
  refine i_278_13 ?_
  refine i_278_15 (c := 0) (by decide) ?_
  exact i_278_16 ⟨rfl, rfl⟩
theorem ntz_1 {d : Nat} {w : xW} {x : Int32} (c0 : (x ^^^ ((-1) : Int32)) &&& (x - (1 : Int32)) = 1) : xRun d 278 [Value.int x] w (.inl (some (Value.int 1))) w := by
  refine xRun.of ?_
  refine i_278_0 (x := x) rfl ?_
  refine i_278_1 ?_
  refine i_278_2 (c := (x ^^^ ((-1) : Int32))) rfl ?_
  refine i_278_3 (x := x) rfl ?_
  refine i_278_4 ?_
  refine i_278_5 (c := (x - (1 : Int32))) rfl ?_
  refine i_278_6 (c := 1) (show ((x ^^^ ((-1) : Int32)) &&& (x - (1 : Int32))) = 1 from c0) ?_
  refine i_278_7 (lv2 := [(0, Value.int 1)]) rfl ?_
  refine i_278_8 (x := 1) rfl ?_
  refine i_278_9 (fun _ => ?_) (fun h => absurd h (by decide))
  refine i_278_17 ?_
  refine i_278_18 (lv2 := [(1, Value.int 1), (0, Value.int 1)]) rfl ?_
  refine i_278_19 (x := 1) rfl ?_
  refine i_278_20 ?_
  refine i_278_23 (fun _ => ?_) (fun h => absurd h (by decide))
  refine i_278_34 (x := 1) rfl ?_
  refine i_278_35 ?_
  refine i_278_38 (fun _ => ?_) (fun h => absurd h (by decide))
  refine i_278_49 (x := 1) rfl ?_
  refine i_278_50 ?_
  refine i_278_52 (fun _ => ?_) (fun h => absurd h (by decide))
  refine i_278_62 (x := 1) rfl ?_
  refine i_278_63 ?_
  refine i_278_64 (fun _ => ?_) (fun h => absurd h (by decide))
  refine i_278_74 (x := 1) rfl ?_
  refine i_278_75 (x := 1) rfl ?_
  refine i_278_76 ?_
  refine i_278_77 (c := 0) (by decide) ?_
  refine i_278_78 (c := 1) (by decide) ?_
  exact i_278_79 ⟨rfl, rfl⟩
theorem ntz_2 {d : Nat} {w : xW} {x : Int32} (c0 : (x ^^^ ((-1) : Int32)) &&& (x - (1 : Int32)) = 3) : xRun d 278 [Value.int x] w (.inl (some (Value.int 2))) w := by
  refine xRun.of ?_
  refine i_278_0 (x := x) rfl ?_
  refine i_278_1 ?_
  refine i_278_2 (c := (x ^^^ ((-1) : Int32))) rfl ?_
  refine i_278_3 (x := x) rfl ?_
  refine i_278_4 ?_
  refine i_278_5 (c := (x - (1 : Int32))) rfl ?_
  refine i_278_6 (c := 3) (show ((x ^^^ ((-1) : Int32)) &&& (x - (1 : Int32))) = 3 from c0) ?_
  refine i_278_7 (lv2 := [(0, Value.int 3)]) rfl ?_
  refine i_278_8 (x := 3) rfl ?_
  refine i_278_9 (fun _ => ?_) (fun h => absurd h (by decide))
  refine i_278_17 ?_
  refine i_278_18 (lv2 := [(1, Value.int 1), (0, Value.int 3)]) rfl ?_
  refine i_278_19 (x := 3) rfl ?_
  refine i_278_20 ?_
  refine i_278_23 (fun _ => ?_) (fun h => absurd h (by decide))
  refine i_278_34 (x := 3) rfl ?_
  refine i_278_35 ?_
  refine i_278_38 (fun _ => ?_) (fun h => absurd h (by decide))
  refine i_278_49 (x := 3) rfl ?_
  refine i_278_50 ?_
  refine i_278_52 (fun _ => ?_) (fun h => absurd h (by decide))
  refine i_278_62 (x := 3) rfl ?_
  refine i_278_63 ?_
  refine i_278_64 (fun _ => ?_) (fun h => absurd h (by decide))
  refine i_278_74 (x := 1) rfl ?_
  refine i_278_75 (x := 3) rfl ?_
  refine i_278_76 ?_
  refine i_278_77 (c := 1) (by decide) ?_
  refine i_278_78 (c := 2) (by decide) ?_
  exact i_278_79 ⟨rfl, rfl⟩
theorem ntz_3 {d : Nat} {w : xW} {x : Int32} (c0 : (x ^^^ ((-1) : Int32)) &&& (x - (1 : Int32)) = 7) : xRun d 278 [Value.int x] w (.inl (some (Value.int 3))) w := by
  refine xRun.of ?_
  refine i_278_0 (x := x) rfl ?_
  refine i_278_1 ?_
  refine i_278_2 (c := (x ^^^ ((-1) : Int32))) rfl ?_
  refine i_278_3 (x := x) rfl ?_
  refine i_278_4 ?_
  refine i_278_5 (c := (x - (1 : Int32))) rfl ?_
  refine i_278_6 (c := 7) (show ((x ^^^ ((-1) : Int32)) &&& (x - (1 : Int32))) = 7 from c0) ?_
  refine i_278_7 (lv2 := [(0, Value.int 7)]) rfl ?_
  refine i_278_8 (x := 7) rfl ?_
  refine i_278_9 (fun _ => ?_) (fun h => absurd h (by decide))
  refine i_278_17 ?_
  refine i_278_18 (lv2 := [(1, Value.int 1), (0, Value.int 7)]) rfl ?_
  refine i_278_19 (x := 7) rfl ?_
  refine i_278_20 ?_
  refine i_278_23 (fun _ => ?_) (fun h => absurd h (by decide))
  refine i_278_34 (x := 7) rfl ?_
  refine i_278_35 ?_
  refine i_278_38 (fun _ => ?_) (fun h => absurd h (by decide))
  refine i_278_49 (x := 7) rfl ?_
  refine i_278_50 ?_
  refine i_278_52 (fun _ => ?_) (fun h => absurd h (by decide))
  refine i_278_62 (x := 7) rfl ?_
  refine i_278_63 ?_
  refine i_278_64 (fun h => absurd h (by decide)) (fun _ => ?_)
  refine i_278_67 (x := 1) (c := 3) (lv2 := [(1, Value.int 3), (0, Value.int 7)]) rfl (by decide) rfl ?_
  refine i_278_70 (x := 7) rfl ?_
  refine i_278_71 ?_
  refine i_278_72 (c := 1) (by decide) ?_
  refine i_278_73 (lv2 := [(0, Value.int 1), (1, Value.int 3)]) rfl ?_
  refine i_278_74 (x := 3) rfl ?_
  refine i_278_75 (x := 1) rfl ?_
  refine i_278_76 ?_
  refine i_278_77 (c := 0) (by decide) ?_
  refine i_278_78 (c := 3) (by decide) ?_
  exact i_278_79 ⟨rfl, rfl⟩
theorem ntz_4 {d : Nat} {w : xW} {x : Int32} (c0 : (x ^^^ ((-1) : Int32)) &&& (x - (1 : Int32)) = 15) : xRun d 278 [Value.int x] w (.inl (some (Value.int 4))) w := by
  refine xRun.of ?_
  refine i_278_0 (x := x) rfl ?_
  refine i_278_1 ?_
  refine i_278_2 (c := (x ^^^ ((-1) : Int32))) rfl ?_
  refine i_278_3 (x := x) rfl ?_
  refine i_278_4 ?_
  refine i_278_5 (c := (x - (1 : Int32))) rfl ?_
  refine i_278_6 (c := 15) (show ((x ^^^ ((-1) : Int32)) &&& (x - (1 : Int32))) = 15 from c0) ?_
  refine i_278_7 (lv2 := [(0, Value.int 15)]) rfl ?_
  refine i_278_8 (x := 15) rfl ?_
  refine i_278_9 (fun _ => ?_) (fun h => absurd h (by decide))
  refine i_278_17 ?_
  refine i_278_18 (lv2 := [(1, Value.int 1), (0, Value.int 15)]) rfl ?_
  refine i_278_19 (x := 15) rfl ?_
  refine i_278_20 ?_
  refine i_278_23 (fun _ => ?_) (fun h => absurd h (by decide))
  refine i_278_34 (x := 15) rfl ?_
  refine i_278_35 ?_
  refine i_278_38 (fun _ => ?_) (fun h => absurd h (by decide))
  refine i_278_49 (x := 15) rfl ?_
  refine i_278_50 ?_
  refine i_278_52 (fun _ => ?_) (fun h => absurd h (by decide))
  refine i_278_62 (x := 15) rfl ?_
  refine i_278_63 ?_
  refine i_278_64 (fun h => absurd h (by decide)) (fun _ => ?_)
  refine i_278_67 (x := 1) (c := 3) (lv2 := [(1, Value.int 3), (0, Value.int 15)]) rfl (by decide) rfl ?_
  refine i_278_70 (x := 15) rfl ?_
  refine i_278_71 ?_
  refine i_278_72 (c := 3) (by decide) ?_
  refine i_278_73 (lv2 := [(0, Value.int 3), (1, Value.int 3)]) rfl ?_
  refine i_278_74 (x := 3) rfl ?_
  refine i_278_75 (x := 3) rfl ?_
  refine i_278_76 ?_
  refine i_278_77 (c := 1) (by decide) ?_
  refine i_278_78 (c := 4) (by decide) ?_
  exact i_278_79 ⟨rfl, rfl⟩
theorem ntz_5 {d : Nat} {w : xW} {x : Int32} (c0 : (x ^^^ ((-1) : Int32)) &&& (x - (1 : Int32)) = 31) : xRun d 278 [Value.int x] w (.inl (some (Value.int 5))) w := by
  refine xRun.of ?_
  refine i_278_0 (x := x) rfl ?_
  refine i_278_1 ?_
  refine i_278_2 (c := (x ^^^ ((-1) : Int32))) rfl ?_
  refine i_278_3 (x := x) rfl ?_
  refine i_278_4 ?_
  refine i_278_5 (c := (x - (1 : Int32))) rfl ?_
  refine i_278_6 (c := 31) (show ((x ^^^ ((-1) : Int32)) &&& (x - (1 : Int32))) = 31 from c0) ?_
  refine i_278_7 (lv2 := [(0, Value.int 31)]) rfl ?_
  refine i_278_8 (x := 31) rfl ?_
  refine i_278_9 (fun _ => ?_) (fun h => absurd h (by decide))
  refine i_278_17 ?_
  refine i_278_18 (lv2 := [(1, Value.int 1), (0, Value.int 31)]) rfl ?_
  refine i_278_19 (x := 31) rfl ?_
  refine i_278_20 ?_
  refine i_278_23 (fun _ => ?_) (fun h => absurd h (by decide))
  refine i_278_34 (x := 31) rfl ?_
  refine i_278_35 ?_
  refine i_278_38 (fun _ => ?_) (fun h => absurd h (by decide))
  refine i_278_49 (x := 31) rfl ?_
  refine i_278_50 ?_
  refine i_278_52 (fun h => absurd h (by decide)) (fun _ => ?_)
  refine i_278_55 (x := 1) (c := 5) (lv2 := [(1, Value.int 5), (0, Value.int 31)]) rfl (by decide) rfl ?_
  refine i_278_58 (x := 31) rfl ?_
  refine i_278_59 ?_
  refine i_278_60 (c := 1) (by decide) ?_
  refine i_278_61 (lv2 := [(0, Value.int 1), (1, Value.int 5)]) rfl ?_
  refine i_278_62 (x := 1) rfl ?_
  refine i_278_63 ?_
  refine i_278_64 (fun _ => ?_) (fun h => absurd h (by decide))
  refine i_278_74 (x := 5) rfl ?_
  refine i_278_75 (x := 1) rfl ?_
  refine i_278_76 ?_
  refine i_278_77 (c := 0) (by decide) ?_
  refine i_278_78 (c := 5) (by decide) ?_
  exact i_278_79 ⟨rfl, rfl⟩
theorem ntz_6 {d : Nat} {w : xW} {x : Int32} (c0 : (x ^^^ ((-1) : Int32)) &&& (x - (1 : Int32)) = 63) : xRun d 278 [Value.int x] w (.inl (some (Value.int 6))) w := by
  refine xRun.of ?_
  refine i_278_0 (x := x) rfl ?_
  refine i_278_1 ?_
  refine i_278_2 (c := (x ^^^ ((-1) : Int32))) rfl ?_
  refine i_278_3 (x := x) rfl ?_
  refine i_278_4 ?_
  refine i_278_5 (c := (x - (1 : Int32))) rfl ?_
  refine i_278_6 (c := 63) (show ((x ^^^ ((-1) : Int32)) &&& (x - (1 : Int32))) = 63 from c0) ?_
  refine i_278_7 (lv2 := [(0, Value.int 63)]) rfl ?_
  refine i_278_8 (x := 63) rfl ?_
  refine i_278_9 (fun _ => ?_) (fun h => absurd h (by decide))
  refine i_278_17 ?_
  refine i_278_18 (lv2 := [(1, Value.int 1), (0, Value.int 63)]) rfl ?_
  refine i_278_19 (x := 63) rfl ?_
  refine i_278_20 ?_
  refine i_278_23 (fun _ => ?_) (fun h => absurd h (by decide))
  refine i_278_34 (x := 63) rfl ?_
  refine i_278_35 ?_
  refine i_278_38 (fun _ => ?_) (fun h => absurd h (by decide))
  refine i_278_49 (x := 63) rfl ?_
  refine i_278_50 ?_
  refine i_278_52 (fun h => absurd h (by decide)) (fun _ => ?_)
  refine i_278_55 (x := 1) (c := 5) (lv2 := [(1, Value.int 5), (0, Value.int 63)]) rfl (by decide) rfl ?_
  refine i_278_58 (x := 63) rfl ?_
  refine i_278_59 ?_
  refine i_278_60 (c := 3) (by decide) ?_
  refine i_278_61 (lv2 := [(0, Value.int 3), (1, Value.int 5)]) rfl ?_
  refine i_278_62 (x := 3) rfl ?_
  refine i_278_63 ?_
  refine i_278_64 (fun _ => ?_) (fun h => absurd h (by decide))
  refine i_278_74 (x := 5) rfl ?_
  refine i_278_75 (x := 3) rfl ?_
  refine i_278_76 ?_
  refine i_278_77 (c := 1) (by decide) ?_
  refine i_278_78 (c := 6) (by decide) ?_
  exact i_278_79 ⟨rfl, rfl⟩
theorem ntz_7 {d : Nat} {w : xW} {x : Int32} (c0 : (x ^^^ ((-1) : Int32)) &&& (x - (1 : Int32)) = 127) : xRun d 278 [Value.int x] w (.inl (some (Value.int 7))) w := by
  refine xRun.of ?_
  refine i_278_0 (x := x) rfl ?_
  refine i_278_1 ?_
  refine i_278_2 (c := (x ^^^ ((-1) : Int32))) rfl ?_
  refine i_278_3 (x := x) rfl ?_
  refine i_278_4 ?_
  refine i_278_5 (c := (x - (1 : Int32))) rfl ?_
  refine i_278_6 (c := 127) (show ((x ^^^ ((-1) : Int32)) &&& (x - (1 : Int32))) = 127 from c0) ?_
  refine i_278_7 (lv2 := [(0, Value.int 127)]) rfl ?_
  refine i_278_8 (x := 127) rfl ?_
  refine i_278_9 (fun _ => ?_) (fun h => absurd h (by decide))
  refine i_278_17 ?_
  refine i_278_18 (lv2 := [(1, Value.int 1), (0, Value.int 127)]) rfl ?_
  refine i_278_19 (x := 127) rfl ?_
  refine i_278_20 ?_
  refine i_278_23 (fun _ => ?_) (fun h => absurd h (by decide))
  refine i_278_34 (x := 127) rfl ?_
  refine i_278_35 ?_
  refine i_278_38 (fun _ => ?_) (fun h => absurd h (by decide))
  refine i_278_49 (x := 127) rfl ?_
  refine i_278_50 ?_
  refine i_278_52 (fun h => absurd h (by decide)) (fun _ => ?_)
  refine i_278_55 (x := 1) (c := 5) (lv2 := [(1, Value.int 5), (0, Value.int 127)]) rfl (by decide) rfl ?_
  refine i_278_58 (x := 127) rfl ?_
  refine i_278_59 ?_
  refine i_278_60 (c := 7) (by decide) ?_
  refine i_278_61 (lv2 := [(0, Value.int 7), (1, Value.int 5)]) rfl ?_
  refine i_278_62 (x := 7) rfl ?_
  refine i_278_63 ?_
  refine i_278_64 (fun h => absurd h (by decide)) (fun _ => ?_)
  refine i_278_67 (x := 5) (c := 7) (lv2 := [(1, Value.int 7), (0, Value.int 7)]) rfl (by decide) rfl ?_
  refine i_278_70 (x := 7) rfl ?_
  refine i_278_71 ?_
  refine i_278_72 (c := 1) (by decide) ?_
  refine i_278_73 (lv2 := [(0, Value.int 1), (1, Value.int 7)]) rfl ?_
  refine i_278_74 (x := 7) rfl ?_
  refine i_278_75 (x := 1) rfl ?_
  refine i_278_76 ?_
  refine i_278_77 (c := 0) (by decide) ?_
  refine i_278_78 (c := 7) (by decide) ?_
  exact i_278_79 ⟨rfl, rfl⟩
theorem ntz_8 {d : Nat} {w : xW} {x : Int32} (c0 : (x ^^^ ((-1) : Int32)) &&& (x - (1 : Int32)) = 255) : xRun d 278 [Value.int x] w (.inl (some (Value.int 8))) w := by
  refine xRun.of ?_
  refine i_278_0 (x := x) rfl ?_
  refine i_278_1 ?_
  refine i_278_2 (c := (x ^^^ ((-1) : Int32))) rfl ?_
  refine i_278_3 (x := x) rfl ?_
  refine i_278_4 ?_
  refine i_278_5 (c := (x - (1 : Int32))) rfl ?_
  refine i_278_6 (c := 255) (show ((x ^^^ ((-1) : Int32)) &&& (x - (1 : Int32))) = 255 from c0) ?_
  refine i_278_7 (lv2 := [(0, Value.int 255)]) rfl ?_
  refine i_278_8 (x := 255) rfl ?_
  refine i_278_9 (fun _ => ?_) (fun h => absurd h (by decide))
  refine i_278_17 ?_
  refine i_278_18 (lv2 := [(1, Value.int 1), (0, Value.int 255)]) rfl ?_
  refine i_278_19 (x := 255) rfl ?_
  refine i_278_20 ?_
  refine i_278_23 (fun _ => ?_) (fun h => absurd h (by decide))
  refine i_278_34 (x := 255) rfl ?_
  refine i_278_35 ?_
  refine i_278_38 (fun _ => ?_) (fun h => absurd h (by decide))
  refine i_278_49 (x := 255) rfl ?_
  refine i_278_50 ?_
  refine i_278_52 (fun h => absurd h (by decide)) (fun _ => ?_)
  refine i_278_55 (x := 1) (c := 5) (lv2 := [(1, Value.int 5), (0, Value.int 255)]) rfl (by decide) rfl ?_
  refine i_278_58 (x := 255) rfl ?_
  refine i_278_59 ?_
  refine i_278_60 (c := 15) (by decide) ?_
  refine i_278_61 (lv2 := [(0, Value.int 15), (1, Value.int 5)]) rfl ?_
  refine i_278_62 (x := 15) rfl ?_
  refine i_278_63 ?_
  refine i_278_64 (fun h => absurd h (by decide)) (fun _ => ?_)
  refine i_278_67 (x := 5) (c := 7) (lv2 := [(1, Value.int 7), (0, Value.int 15)]) rfl (by decide) rfl ?_
  refine i_278_70 (x := 15) rfl ?_
  refine i_278_71 ?_
  refine i_278_72 (c := 3) (by decide) ?_
  refine i_278_73 (lv2 := [(0, Value.int 3), (1, Value.int 7)]) rfl ?_
  refine i_278_74 (x := 7) rfl ?_
  refine i_278_75 (x := 3) rfl ?_
  refine i_278_76 ?_
  refine i_278_77 (c := 1) (by decide) ?_
  refine i_278_78 (c := 8) (by decide) ?_
  exact i_278_79 ⟨rfl, rfl⟩
theorem ntz_9 {d : Nat} {w : xW} {x : Int32} (c0 : (x ^^^ ((-1) : Int32)) &&& (x - (1 : Int32)) = 511) : xRun d 278 [Value.int x] w (.inl (some (Value.int 9))) w := by
  refine xRun.of ?_
  refine i_278_0 (x := x) rfl ?_
  refine i_278_1 ?_
  refine i_278_2 (c := (x ^^^ ((-1) : Int32))) rfl ?_
  refine i_278_3 (x := x) rfl ?_
  refine i_278_4 ?_
  refine i_278_5 (c := (x - (1 : Int32))) rfl ?_
  refine i_278_6 (c := 511) (show ((x ^^^ ((-1) : Int32)) &&& (x - (1 : Int32))) = 511 from c0) ?_
  refine i_278_7 (lv2 := [(0, Value.int 511)]) rfl ?_
  refine i_278_8 (x := 511) rfl ?_
  refine i_278_9 (fun _ => ?_) (fun h => absurd h (by decide))
  refine i_278_17 ?_
  refine i_278_18 (lv2 := [(1, Value.int 1), (0, Value.int 511)]) rfl ?_
  refine i_278_19 (x := 511) rfl ?_
  refine i_278_20 ?_
  refine i_278_23 (fun _ => ?_) (fun h => absurd h (by decide))
  refine i_278_34 (x := 511) rfl ?_
  refine i_278_35 ?_
  refine i_278_38 (fun h => absurd h (by decide)) (fun _ => ?_)
  refine i_278_41 (x := 1) (c := 9) (lv2 := [(1, Value.int 9), (0, Value.int 511)]) rfl (by decide) rfl ?_
  refine i_278_44 (x := 511) rfl ?_
  refine i_278_45 ?_
  refine i_278_47 (c := 1) (by decide) ?_
  refine i_278_48 (lv2 := [(0, Value.int 1), (1, Value.int 9)]) rfl ?_
  refine i_278_49 (x := 1) rfl ?_
  refine i_278_50 ?_
  refine i_278_52 (fun _ => ?_) (fun h => absurd h (by decide))
  refine i_278_62 (x := 1) rfl ?_
  refine i_278_63 ?_
  refine i_278_64 (fun _ => ?_) (fun h => absurd h (by decide))
  refine i_278_74 (x := 9) rfl ?_
  refine i_278_75 (x := 1) rfl ?_
  refine i_278_76 ?_
  refine i_278_77 (c := 0) (by decide) ?_
  refine i_278_78 (c := 9) (by decide) ?_
  exact i_278_79 ⟨rfl, rfl⟩
theorem ntz_10 {d : Nat} {w : xW} {x : Int32} (c0 : (x ^^^ ((-1) : Int32)) &&& (x - (1 : Int32)) = 1023) : xRun d 278 [Value.int x] w (.inl (some (Value.int 10))) w := by
  refine xRun.of ?_
  refine i_278_0 (x := x) rfl ?_
  refine i_278_1 ?_
  refine i_278_2 (c := (x ^^^ ((-1) : Int32))) rfl ?_
  refine i_278_3 (x := x) rfl ?_
  refine i_278_4 ?_
  refine i_278_5 (c := (x - (1 : Int32))) rfl ?_
  refine i_278_6 (c := 1023) (show ((x ^^^ ((-1) : Int32)) &&& (x - (1 : Int32))) = 1023 from c0) ?_
  refine i_278_7 (lv2 := [(0, Value.int 1023)]) rfl ?_
  refine i_278_8 (x := 1023) rfl ?_
  refine i_278_9 (fun _ => ?_) (fun h => absurd h (by decide))
  refine i_278_17 ?_
  refine i_278_18 (lv2 := [(1, Value.int 1), (0, Value.int 1023)]) rfl ?_
  refine i_278_19 (x := 1023) rfl ?_
  refine i_278_20 ?_
  refine i_278_23 (fun _ => ?_) (fun h => absurd h (by decide))
  refine i_278_34 (x := 1023) rfl ?_
  refine i_278_35 ?_
  refine i_278_38 (fun h => absurd h (by decide)) (fun _ => ?_)
  refine i_278_41 (x := 1) (c := 9) (lv2 := [(1, Value.int 9), (0, Value.int 1023)]) rfl (by decide) rfl ?_
  refine i_278_44 (x := 1023) rfl ?_
  refine i_278_45 ?_
  refine i_278_47 (c := 3) (by decide) ?_
  refine i_278_48 (lv2 := [(0, Value.int 3), (1, Value.int 9)]) rfl ?_
  refine i_278_49 (x := 3) rfl ?_
  refine i_278_50 ?_
  refine i_278_52 (fun _ => ?_) (fun h => absurd h (by decide))
  refine i_278_62 (x := 3) rfl ?_
  refine i_278_63 ?_
  refine i_278_64 (fun _ => ?_) (fun h => absurd h (by decide))
  refine i_278_74 (x := 9) rfl ?_
  refine i_278_75 (x := 3) rfl ?_
  refine i_278_76 ?_
  refine i_278_77 (c := 1) (by decide) ?_
  refine i_278_78 (c := 10) (by decide) ?_
  exact i_278_79 ⟨rfl, rfl⟩
theorem ntz_11 {d : Nat} {w : xW} {x : Int32} (c0 : (x ^^^ ((-1) : Int32)) &&& (x - (1 : Int32)) = 2047) : xRun d 278 [Value.int x] w (.inl (some (Value.int 11))) w := by
  refine xRun.of ?_
  refine i_278_0 (x := x) rfl ?_
  refine i_278_1 ?_
  refine i_278_2 (c := (x ^^^ ((-1) : Int32))) rfl ?_
  refine i_278_3 (x := x) rfl ?_
  refine i_278_4 ?_
  refine i_278_5 (c := (x - (1 : Int32))) rfl ?_
  refine i_278_6 (c := 2047) (show ((x ^^^ ((-1) : Int32)) &&& (x - (1 : Int32))) = 2047 from c0) ?_
  refine i_278_7 (lv2 := [(0, Value.int 2047)]) rfl ?_
  refine i_278_8 (x := 2047) rfl ?_
  refine i_278_9 (fun _ => ?_) (fun h => absurd h (by decide))
  refine i_278_17 ?_
  refine i_278_18 (lv2 := [(1, Value.int 1), (0, Value.int 2047)]) rfl ?_
  refine i_278_19 (x := 2047) rfl ?_
  refine i_278_20 ?_
  refine i_278_23 (fun _ => ?_) (fun h => absurd h (by decide))
  refine i_278_34 (x := 2047) rfl ?_
  refine i_278_35 ?_
  refine i_278_38 (fun h => absurd h (by decide)) (fun _ => ?_)
  refine i_278_41 (x := 1) (c := 9) (lv2 := [(1, Value.int 9), (0, Value.int 2047)]) rfl (by decide) rfl ?_
  refine i_278_44 (x := 2047) rfl ?_
  refine i_278_45 ?_
  refine i_278_47 (c := 7) (by decide) ?_
  refine i_278_48 (lv2 := [(0, Value.int 7), (1, Value.int 9)]) rfl ?_
  refine i_278_49 (x := 7) rfl ?_
  refine i_278_50 ?_
  refine i_278_52 (fun _ => ?_) (fun h => absurd h (by decide))
  refine i_278_62 (x := 7) rfl ?_
  refine i_278_63 ?_
  refine i_278_64 (fun h => absurd h (by decide)) (fun _ => ?_)
  refine i_278_67 (x := 9) (c := 11) (lv2 := [(1, Value.int 11), (0, Value.int 7)]) rfl (by decide) rfl ?_
  refine i_278_70 (x := 7) rfl ?_
  refine i_278_71 ?_
  refine i_278_72 (c := 1) (by decide) ?_
  refine i_278_73 (lv2 := [(0, Value.int 1), (1, Value.int 11)]) rfl ?_
  refine i_278_74 (x := 11) rfl ?_
  refine i_278_75 (x := 1) rfl ?_
  refine i_278_76 ?_
  refine i_278_77 (c := 0) (by decide) ?_
  refine i_278_78 (c := 11) (by decide) ?_
  exact i_278_79 ⟨rfl, rfl⟩
theorem ntz_12 {d : Nat} {w : xW} {x : Int32} (c0 : (x ^^^ ((-1) : Int32)) &&& (x - (1 : Int32)) = 4095) : xRun d 278 [Value.int x] w (.inl (some (Value.int 12))) w := by
  refine xRun.of ?_
  refine i_278_0 (x := x) rfl ?_
  refine i_278_1 ?_
  refine i_278_2 (c := (x ^^^ ((-1) : Int32))) rfl ?_
  refine i_278_3 (x := x) rfl ?_
  refine i_278_4 ?_
  refine i_278_5 (c := (x - (1 : Int32))) rfl ?_
  refine i_278_6 (c := 4095) (show ((x ^^^ ((-1) : Int32)) &&& (x - (1 : Int32))) = 4095 from c0) ?_
  refine i_278_7 (lv2 := [(0, Value.int 4095)]) rfl ?_
  refine i_278_8 (x := 4095) rfl ?_
  refine i_278_9 (fun _ => ?_) (fun h => absurd h (by decide))
  refine i_278_17 ?_
  refine i_278_18 (lv2 := [(1, Value.int 1), (0, Value.int 4095)]) rfl ?_
  refine i_278_19 (x := 4095) rfl ?_
  refine i_278_20 ?_
  refine i_278_23 (fun _ => ?_) (fun h => absurd h (by decide))
  refine i_278_34 (x := 4095) rfl ?_
  refine i_278_35 ?_
  refine i_278_38 (fun h => absurd h (by decide)) (fun _ => ?_)
  refine i_278_41 (x := 1) (c := 9) (lv2 := [(1, Value.int 9), (0, Value.int 4095)]) rfl (by decide) rfl ?_
  refine i_278_44 (x := 4095) rfl ?_
  refine i_278_45 ?_
  refine i_278_47 (c := 15) (by decide) ?_
  refine i_278_48 (lv2 := [(0, Value.int 15), (1, Value.int 9)]) rfl ?_
  refine i_278_49 (x := 15) rfl ?_
  refine i_278_50 ?_
  refine i_278_52 (fun _ => ?_) (fun h => absurd h (by decide))
  refine i_278_62 (x := 15) rfl ?_
  refine i_278_63 ?_
  refine i_278_64 (fun h => absurd h (by decide)) (fun _ => ?_)
  refine i_278_67 (x := 9) (c := 11) (lv2 := [(1, Value.int 11), (0, Value.int 15)]) rfl (by decide) rfl ?_
  refine i_278_70 (x := 15) rfl ?_
  refine i_278_71 ?_
  refine i_278_72 (c := 3) (by decide) ?_
  refine i_278_73 (lv2 := [(0, Value.int 3), (1, Value.int 11)]) rfl ?_
  refine i_278_74 (x := 11) rfl ?_
  refine i_278_75 (x := 3) rfl ?_
  refine i_278_76 ?_
  refine i_278_77 (c := 1) (by decide) ?_
  refine i_278_78 (c := 12) (by decide) ?_
  exact i_278_79 ⟨rfl, rfl⟩
theorem ntz_13 {d : Nat} {w : xW} {x : Int32} (c0 : (x ^^^ ((-1) : Int32)) &&& (x - (1 : Int32)) = 8191) : xRun d 278 [Value.int x] w (.inl (some (Value.int 13))) w := by
  refine xRun.of ?_
  refine i_278_0 (x := x) rfl ?_
  refine i_278_1 ?_
  refine i_278_2 (c := (x ^^^ ((-1) : Int32))) rfl ?_
  refine i_278_3 (x := x) rfl ?_
  refine i_278_4 ?_
  refine i_278_5 (c := (x - (1 : Int32))) rfl ?_
  refine i_278_6 (c := 8191) (show ((x ^^^ ((-1) : Int32)) &&& (x - (1 : Int32))) = 8191 from c0) ?_
  refine i_278_7 (lv2 := [(0, Value.int 8191)]) rfl ?_
  refine i_278_8 (x := 8191) rfl ?_
  refine i_278_9 (fun _ => ?_) (fun h => absurd h (by decide))
  refine i_278_17 ?_
  refine i_278_18 (lv2 := [(1, Value.int 1), (0, Value.int 8191)]) rfl ?_
  refine i_278_19 (x := 8191) rfl ?_
  refine i_278_20 ?_
  refine i_278_23 (fun _ => ?_) (fun h => absurd h (by decide))
  refine i_278_34 (x := 8191) rfl ?_
  refine i_278_35 ?_
  refine i_278_38 (fun h => absurd h (by decide)) (fun _ => ?_)
  refine i_278_41 (x := 1) (c := 9) (lv2 := [(1, Value.int 9), (0, Value.int 8191)]) rfl (by decide) rfl ?_
  refine i_278_44 (x := 8191) rfl ?_
  refine i_278_45 ?_
  refine i_278_47 (c := 31) (by decide) ?_
  refine i_278_48 (lv2 := [(0, Value.int 31), (1, Value.int 9)]) rfl ?_
  refine i_278_49 (x := 31) rfl ?_
  refine i_278_50 ?_
  refine i_278_52 (fun h => absurd h (by decide)) (fun _ => ?_)
  refine i_278_55 (x := 9) (c := 13) (lv2 := [(1, Value.int 13), (0, Value.int 31)]) rfl (by decide) rfl ?_
  refine i_278_58 (x := 31) rfl ?_
  refine i_278_59 ?_
  refine i_278_60 (c := 1) (by decide) ?_
  refine i_278_61 (lv2 := [(0, Value.int 1), (1, Value.int 13)]) rfl ?_
  refine i_278_62 (x := 1) rfl ?_
  refine i_278_63 ?_
  refine i_278_64 (fun _ => ?_) (fun h => absurd h (by decide))
  refine i_278_74 (x := 13) rfl ?_
  refine i_278_75 (x := 1) rfl ?_
  refine i_278_76 ?_
  refine i_278_77 (c := 0) (by decide) ?_
  refine i_278_78 (c := 13) (by decide) ?_
  exact i_278_79 ⟨rfl, rfl⟩
theorem ntz_14 {d : Nat} {w : xW} {x : Int32} (c0 : (x ^^^ ((-1) : Int32)) &&& (x - (1 : Int32)) = 16383) : xRun d 278 [Value.int x] w (.inl (some (Value.int 14))) w := by
  refine xRun.of ?_
  refine i_278_0 (x := x) rfl ?_
  refine i_278_1 ?_
  refine i_278_2 (c := (x ^^^ ((-1) : Int32))) rfl ?_
  refine i_278_3 (x := x) rfl ?_
  refine i_278_4 ?_
  refine i_278_5 (c := (x - (1 : Int32))) rfl ?_
  refine i_278_6 (c := 16383) (show ((x ^^^ ((-1) : Int32)) &&& (x - (1 : Int32))) = 16383 from c0) ?_
  refine i_278_7 (lv2 := [(0, Value.int 16383)]) rfl ?_
  refine i_278_8 (x := 16383) rfl ?_
  refine i_278_9 (fun _ => ?_) (fun h => absurd h (by decide))
  refine i_278_17 ?_
  refine i_278_18 (lv2 := [(1, Value.int 1), (0, Value.int 16383)]) rfl ?_
  refine i_278_19 (x := 16383) rfl ?_
  refine i_278_20 ?_
  refine i_278_23 (fun _ => ?_) (fun h => absurd h (by decide))
  refine i_278_34 (x := 16383) rfl ?_
  refine i_278_35 ?_
  refine i_278_38 (fun h => absurd h (by decide)) (fun _ => ?_)
  refine i_278_41 (x := 1) (c := 9) (lv2 := [(1, Value.int 9), (0, Value.int 16383)]) rfl (by decide) rfl ?_
  refine i_278_44 (x := 16383) rfl ?_
  refine i_278_45 ?_
  refine i_278_47 (c := 63) (by decide) ?_
  refine i_278_48 (lv2 := [(0, Value.int 63), (1, Value.int 9)]) rfl ?_
  refine i_278_49 (x := 63) rfl ?_
  refine i_278_50 ?_
  refine i_278_52 (fun h => absurd h (by decide)) (fun _ => ?_)
  refine i_278_55 (x := 9) (c := 13) (lv2 := [(1, Value.int 13), (0, Value.int 63)]) rfl (by decide) rfl ?_
  refine i_278_58 (x := 63) rfl ?_
  refine i_278_59 ?_
  refine i_278_60 (c := 3) (by decide) ?_
  refine i_278_61 (lv2 := [(0, Value.int 3), (1, Value.int 13)]) rfl ?_
  refine i_278_62 (x := 3) rfl ?_
  refine i_278_63 ?_
  refine i_278_64 (fun _ => ?_) (fun h => absurd h (by decide))
  refine i_278_74 (x := 13) rfl ?_
  refine i_278_75 (x := 3) rfl ?_
  refine i_278_76 ?_
  refine i_278_77 (c := 1) (by decide) ?_
  refine i_278_78 (c := 14) (by decide) ?_
  exact i_278_79 ⟨rfl, rfl⟩
theorem ntz_15 {d : Nat} {w : xW} {x : Int32} (c0 : (x ^^^ ((-1) : Int32)) &&& (x - (1 : Int32)) = 32767) : xRun d 278 [Value.int x] w (.inl (some (Value.int 15))) w := by
  refine xRun.of ?_
  refine i_278_0 (x := x) rfl ?_
  refine i_278_1 ?_
  refine i_278_2 (c := (x ^^^ ((-1) : Int32))) rfl ?_
  refine i_278_3 (x := x) rfl ?_
  refine i_278_4 ?_
  refine i_278_5 (c := (x - (1 : Int32))) rfl ?_
  refine i_278_6 (c := 32767) (show ((x ^^^ ((-1) : Int32)) &&& (x - (1 : Int32))) = 32767 from c0) ?_
  refine i_278_7 (lv2 := [(0, Value.int 32767)]) rfl ?_
  refine i_278_8 (x := 32767) rfl ?_
  refine i_278_9 (fun _ => ?_) (fun h => absurd h (by decide))
  refine i_278_17 ?_
  refine i_278_18 (lv2 := [(1, Value.int 1), (0, Value.int 32767)]) rfl ?_
  refine i_278_19 (x := 32767) rfl ?_
  refine i_278_20 ?_
  refine i_278_23 (fun _ => ?_) (fun h => absurd h (by decide))
  refine i_278_34 (x := 32767) rfl ?_
  refine i_278_35 ?_
  refine i_278_38 (fun h => absurd h (by decide)) (fun _ => ?_)
  refine i_278_41 (x := 1) (c := 9) (lv2 := [(1, Value.int 9), (0, Value.int 32767)]) rfl (by decide) rfl ?_
  refine i_278_44 (x := 32767) rfl ?_
  refine i_278_45 ?_
  refine i_278_47 (c := 127) (by decide) ?_
  refine i_278_48 (lv2 := [(0, Value.int 127), (1, Value.int 9)]) rfl ?_
  refine i_278_49 (x := 127) rfl ?_
  refine i_278_50 ?_
  refine i_278_52 (fun h => absurd h (by decide)) (fun _ => ?_)
  refine i_278_55 (x := 9) (c := 13) (lv2 := [(1, Value.int 13), (0, Value.int 127)]) rfl (by decide) rfl ?_
  refine i_278_58 (x := 127) rfl ?_
  refine i_278_59 ?_
  refine i_278_60 (c := 7) (by decide) ?_
  refine i_278_61 (lv2 := [(0, Value.int 7), (1, Value.int 13)]) rfl ?_
  refine i_278_62 (x := 7) rfl ?_
  refine i_278_63 ?_
  refine i_278_64 (fun h => absurd h (by decide)) (fun _ => ?_)
  refine i_278_67 (x := 13) (c := 15) (lv2 := [(1, Value.int 15), (0, Value.int 7)]) rfl (by decide) rfl ?_
  refine i_278_70 (x := 7) rfl ?_
  refine i_278_71 ?_
  refine i_278_72 (c := 1) (by decide) ?_
  refine i_278_73 (lv2 := [(0, Value.int 1), (1, Value.int 15)]) rfl ?_
  refine i_278_74 (x := 15) rfl ?_
  refine i_278_75 (x := 1) rfl ?_
  refine i_278_76 ?_
  refine i_278_77 (c := 0) (by decide) ?_
  refine i_278_78 (c := 15) (by decide) ?_
  exact i_278_79 ⟨rfl, rfl⟩
theorem ntz_16 {d : Nat} {w : xW} {x : Int32} (c0 : (x ^^^ ((-1) : Int32)) &&& (x - (1 : Int32)) = 65535) : xRun d 278 [Value.int x] w (.inl (some (Value.int 16))) w := by
  refine xRun.of ?_
  refine i_278_0 (x := x) rfl ?_
  refine i_278_1 ?_
  refine i_278_2 (c := (x ^^^ ((-1) : Int32))) rfl ?_
  refine i_278_3 (x := x) rfl ?_
  refine i_278_4 ?_
  refine i_278_5 (c := (x - (1 : Int32))) rfl ?_
  refine i_278_6 (c := 65535) (show ((x ^^^ ((-1) : Int32)) &&& (x - (1 : Int32))) = 65535 from c0) ?_
  refine i_278_7 (lv2 := [(0, Value.int 65535)]) rfl ?_
  refine i_278_8 (x := 65535) rfl ?_
  refine i_278_9 (fun _ => ?_) (fun h => absurd h (by decide))
  refine i_278_17 ?_
  refine i_278_18 (lv2 := [(1, Value.int 1), (0, Value.int 65535)]) rfl ?_
  refine i_278_19 (x := 65535) rfl ?_
  refine i_278_20 ?_
  refine i_278_23 (fun _ => ?_) (fun h => absurd h (by decide))
  refine i_278_34 (x := 65535) rfl ?_
  refine i_278_35 ?_
  refine i_278_38 (fun h => absurd h (by decide)) (fun _ => ?_)
  refine i_278_41 (x := 1) (c := 9) (lv2 := [(1, Value.int 9), (0, Value.int 65535)]) rfl (by decide) rfl ?_
  refine i_278_44 (x := 65535) rfl ?_
  refine i_278_45 ?_
  refine i_278_47 (c := 255) (by decide) ?_
  refine i_278_48 (lv2 := [(0, Value.int 255), (1, Value.int 9)]) rfl ?_
  refine i_278_49 (x := 255) rfl ?_
  refine i_278_50 ?_
  refine i_278_52 (fun h => absurd h (by decide)) (fun _ => ?_)
  refine i_278_55 (x := 9) (c := 13) (lv2 := [(1, Value.int 13), (0, Value.int 255)]) rfl (by decide) rfl ?_
  refine i_278_58 (x := 255) rfl ?_
  refine i_278_59 ?_
  refine i_278_60 (c := 15) (by decide) ?_
  refine i_278_61 (lv2 := [(0, Value.int 15), (1, Value.int 13)]) rfl ?_
  refine i_278_62 (x := 15) rfl ?_
  refine i_278_63 ?_
  refine i_278_64 (fun h => absurd h (by decide)) (fun _ => ?_)
  refine i_278_67 (x := 13) (c := 15) (lv2 := [(1, Value.int 15), (0, Value.int 15)]) rfl (by decide) rfl ?_
  refine i_278_70 (x := 15) rfl ?_
  refine i_278_71 ?_
  refine i_278_72 (c := 3) (by decide) ?_
  refine i_278_73 (lv2 := [(0, Value.int 3), (1, Value.int 15)]) rfl ?_
  refine i_278_74 (x := 15) rfl ?_
  refine i_278_75 (x := 3) rfl ?_
  refine i_278_76 ?_
  refine i_278_77 (c := 1) (by decide) ?_
  refine i_278_78 (c := 16) (by decide) ?_
  exact i_278_79 ⟨rfl, rfl⟩
theorem ntz_17 {d : Nat} {w : xW} {x : Int32} (c0 : (x ^^^ ((-1) : Int32)) &&& (x - (1 : Int32)) = 131071) : xRun d 278 [Value.int x] w (.inl (some (Value.int 17))) w := by
  refine xRun.of ?_
  refine i_278_0 (x := x) rfl ?_
  refine i_278_1 ?_
  refine i_278_2 (c := (x ^^^ ((-1) : Int32))) rfl ?_
  refine i_278_3 (x := x) rfl ?_
  refine i_278_4 ?_
  refine i_278_5 (c := (x - (1 : Int32))) rfl ?_
  refine i_278_6 (c := 131071) (show ((x ^^^ ((-1) : Int32)) &&& (x - (1 : Int32))) = 131071 from c0) ?_
  refine i_278_7 (lv2 := [(0, Value.int 131071)]) rfl ?_
  refine i_278_8 (x := 131071) rfl ?_
  refine i_278_9 (fun _ => ?_) (fun h => absurd h (by decide))
  refine i_278_17 ?_
  refine i_278_18 (lv2 := [(1, Value.int 1), (0, Value.int 131071)]) rfl ?_
  refine i_278_19 (x := 131071) rfl ?_
  refine i_278_20 ?_
  refine i_278_23 (fun h => absurd h (by decide)) (fun _ => ?_)
  refine i_278_26 (x := 1) (c := 17) (lv2 := [(1, Value.int 17), (0, Value.int 131071)]) rfl (by decide) rfl ?_
  refine i_278_29 (x := 131071) rfl ?_
  refine i_278_30 ?_
  refine i_278_32 (c := 1) (by decide) ?_
  refine i_278_33 (lv2 := [(0, Value.int 1), (1, Value.int 17)]) rfl ?_
  refine i_278_34 (x := 1) rfl ?_
  refine i_278_35 ?_
  refine i_278_38 (fun _ => ?_) (fun h => absurd h (by decide))
  refine i_278_49 (x := 1) rfl ?_
  refine i_278_50 ?_
  refine i_278_52 (fun _ => ?_) (fun h => absurd h (by decide))
  refine i_278_62 (x := 1) rfl ?_
  refine i_278_63 ?_
  refine i_278_64 (fun _ => ?_) (fun h => absurd h (by decide))
  refine i_278_74 (x := 17) rfl ?_
  refine i_278_75 (x := 1) rfl ?_
  refine i_278_76 ?_
  refine i_278_77 (c := 0) (by decide) ?_
  refine i_278_78 (c := 17) (by decide) ?_
  exact i_278_79 ⟨rfl, rfl⟩
theorem ntz_18 {d : Nat} {w : xW} {x : Int32} (c0 : (x ^^^ ((-1) : Int32)) &&& (x - (1 : Int32)) = 262143) : xRun d 278 [Value.int x] w (.inl (some (Value.int 18))) w := by
  refine xRun.of ?_
  refine i_278_0 (x := x) rfl ?_
  refine i_278_1 ?_
  refine i_278_2 (c := (x ^^^ ((-1) : Int32))) rfl ?_
  refine i_278_3 (x := x) rfl ?_
  refine i_278_4 ?_
  refine i_278_5 (c := (x - (1 : Int32))) rfl ?_
  refine i_278_6 (c := 262143) (show ((x ^^^ ((-1) : Int32)) &&& (x - (1 : Int32))) = 262143 from c0) ?_
  refine i_278_7 (lv2 := [(0, Value.int 262143)]) rfl ?_
  refine i_278_8 (x := 262143) rfl ?_
  refine i_278_9 (fun _ => ?_) (fun h => absurd h (by decide))
  refine i_278_17 ?_
  refine i_278_18 (lv2 := [(1, Value.int 1), (0, Value.int 262143)]) rfl ?_
  refine i_278_19 (x := 262143) rfl ?_
  refine i_278_20 ?_
  refine i_278_23 (fun h => absurd h (by decide)) (fun _ => ?_)
  refine i_278_26 (x := 1) (c := 17) (lv2 := [(1, Value.int 17), (0, Value.int 262143)]) rfl (by decide) rfl ?_
  refine i_278_29 (x := 262143) rfl ?_
  refine i_278_30 ?_
  refine i_278_32 (c := 3) (by decide) ?_
  refine i_278_33 (lv2 := [(0, Value.int 3), (1, Value.int 17)]) rfl ?_
  refine i_278_34 (x := 3) rfl ?_
  refine i_278_35 ?_
  refine i_278_38 (fun _ => ?_) (fun h => absurd h (by decide))
  refine i_278_49 (x := 3) rfl ?_
  refine i_278_50 ?_
  refine i_278_52 (fun _ => ?_) (fun h => absurd h (by decide))
  refine i_278_62 (x := 3) rfl ?_
  refine i_278_63 ?_
  refine i_278_64 (fun _ => ?_) (fun h => absurd h (by decide))
  refine i_278_74 (x := 17) rfl ?_
  refine i_278_75 (x := 3) rfl ?_
  refine i_278_76 ?_
  refine i_278_77 (c := 1) (by decide) ?_
  refine i_278_78 (c := 18) (by decide) ?_
  exact i_278_79 ⟨rfl, rfl⟩
theorem ntz_19 {d : Nat} {w : xW} {x : Int32} (c0 : (x ^^^ ((-1) : Int32)) &&& (x - (1 : Int32)) = 524287) : xRun d 278 [Value.int x] w (.inl (some (Value.int 19))) w := by
  refine xRun.of ?_
  refine i_278_0 (x := x) rfl ?_
  refine i_278_1 ?_
  refine i_278_2 (c := (x ^^^ ((-1) : Int32))) rfl ?_
  refine i_278_3 (x := x) rfl ?_
  refine i_278_4 ?_
  refine i_278_5 (c := (x - (1 : Int32))) rfl ?_
  refine i_278_6 (c := 524287) (show ((x ^^^ ((-1) : Int32)) &&& (x - (1 : Int32))) = 524287 from c0) ?_
  refine i_278_7 (lv2 := [(0, Value.int 524287)]) rfl ?_
  refine i_278_8 (x := 524287) rfl ?_
  refine i_278_9 (fun _ => ?_) (fun h => absurd h (by decide))
  refine i_278_17 ?_
  refine i_278_18 (lv2 := [(1, Value.int 1), (0, Value.int 524287)]) rfl ?_
  refine i_278_19 (x := 524287) rfl ?_
  refine i_278_20 ?_
  refine i_278_23 (fun h => absurd h (by decide)) (fun _ => ?_)
  refine i_278_26 (x := 1) (c := 17) (lv2 := [(1, Value.int 17), (0, Value.int 524287)]) rfl (by decide) rfl ?_
  refine i_278_29 (x := 524287) rfl ?_
  refine i_278_30 ?_
  refine i_278_32 (c := 7) (by decide) ?_
  refine i_278_33 (lv2 := [(0, Value.int 7), (1, Value.int 17)]) rfl ?_
  refine i_278_34 (x := 7) rfl ?_
  refine i_278_35 ?_
  refine i_278_38 (fun _ => ?_) (fun h => absurd h (by decide))
  refine i_278_49 (x := 7) rfl ?_
  refine i_278_50 ?_
  refine i_278_52 (fun _ => ?_) (fun h => absurd h (by decide))
  refine i_278_62 (x := 7) rfl ?_
  refine i_278_63 ?_
  refine i_278_64 (fun h => absurd h (by decide)) (fun _ => ?_)
  refine i_278_67 (x := 17) (c := 19) (lv2 := [(1, Value.int 19), (0, Value.int 7)]) rfl (by decide) rfl ?_
  refine i_278_70 (x := 7) rfl ?_
  refine i_278_71 ?_
  refine i_278_72 (c := 1) (by decide) ?_
  refine i_278_73 (lv2 := [(0, Value.int 1), (1, Value.int 19)]) rfl ?_
  refine i_278_74 (x := 19) rfl ?_
  refine i_278_75 (x := 1) rfl ?_
  refine i_278_76 ?_
  refine i_278_77 (c := 0) (by decide) ?_
  refine i_278_78 (c := 19) (by decide) ?_
  exact i_278_79 ⟨rfl, rfl⟩
theorem ntz_20 {d : Nat} {w : xW} {x : Int32} (c0 : (x ^^^ ((-1) : Int32)) &&& (x - (1 : Int32)) = 1048575) : xRun d 278 [Value.int x] w (.inl (some (Value.int 20))) w := by
  refine xRun.of ?_
  refine i_278_0 (x := x) rfl ?_
  refine i_278_1 ?_
  refine i_278_2 (c := (x ^^^ ((-1) : Int32))) rfl ?_
  refine i_278_3 (x := x) rfl ?_
  refine i_278_4 ?_
  refine i_278_5 (c := (x - (1 : Int32))) rfl ?_
  refine i_278_6 (c := 1048575) (show ((x ^^^ ((-1) : Int32)) &&& (x - (1 : Int32))) = 1048575 from c0) ?_
  refine i_278_7 (lv2 := [(0, Value.int 1048575)]) rfl ?_
  refine i_278_8 (x := 1048575) rfl ?_
  refine i_278_9 (fun _ => ?_) (fun h => absurd h (by decide))
  refine i_278_17 ?_
  refine i_278_18 (lv2 := [(1, Value.int 1), (0, Value.int 1048575)]) rfl ?_
  refine i_278_19 (x := 1048575) rfl ?_
  refine i_278_20 ?_
  refine i_278_23 (fun h => absurd h (by decide)) (fun _ => ?_)
  refine i_278_26 (x := 1) (c := 17) (lv2 := [(1, Value.int 17), (0, Value.int 1048575)]) rfl (by decide) rfl ?_
  refine i_278_29 (x := 1048575) rfl ?_
  refine i_278_30 ?_
  refine i_278_32 (c := 15) (by decide) ?_
  refine i_278_33 (lv2 := [(0, Value.int 15), (1, Value.int 17)]) rfl ?_
  refine i_278_34 (x := 15) rfl ?_
  refine i_278_35 ?_
  refine i_278_38 (fun _ => ?_) (fun h => absurd h (by decide))
  refine i_278_49 (x := 15) rfl ?_
  refine i_278_50 ?_
  refine i_278_52 (fun _ => ?_) (fun h => absurd h (by decide))
  refine i_278_62 (x := 15) rfl ?_
  refine i_278_63 ?_
  refine i_278_64 (fun h => absurd h (by decide)) (fun _ => ?_)
  refine i_278_67 (x := 17) (c := 19) (lv2 := [(1, Value.int 19), (0, Value.int 15)]) rfl (by decide) rfl ?_
  refine i_278_70 (x := 15) rfl ?_
  refine i_278_71 ?_
  refine i_278_72 (c := 3) (by decide) ?_
  refine i_278_73 (lv2 := [(0, Value.int 3), (1, Value.int 19)]) rfl ?_
  refine i_278_74 (x := 19) rfl ?_
  refine i_278_75 (x := 3) rfl ?_
  refine i_278_76 ?_
  refine i_278_77 (c := 1) (by decide) ?_
  refine i_278_78 (c := 20) (by decide) ?_
  exact i_278_79 ⟨rfl, rfl⟩
theorem ntz_21 {d : Nat} {w : xW} {x : Int32} (c0 : (x ^^^ ((-1) : Int32)) &&& (x - (1 : Int32)) = 2097151) : xRun d 278 [Value.int x] w (.inl (some (Value.int 21))) w := by
  refine xRun.of ?_
  refine i_278_0 (x := x) rfl ?_
  refine i_278_1 ?_
  refine i_278_2 (c := (x ^^^ ((-1) : Int32))) rfl ?_
  refine i_278_3 (x := x) rfl ?_
  refine i_278_4 ?_
  refine i_278_5 (c := (x - (1 : Int32))) rfl ?_
  refine i_278_6 (c := 2097151) (show ((x ^^^ ((-1) : Int32)) &&& (x - (1 : Int32))) = 2097151 from c0) ?_
  refine i_278_7 (lv2 := [(0, Value.int 2097151)]) rfl ?_
  refine i_278_8 (x := 2097151) rfl ?_
  refine i_278_9 (fun _ => ?_) (fun h => absurd h (by decide))
  refine i_278_17 ?_
  refine i_278_18 (lv2 := [(1, Value.int 1), (0, Value.int 2097151)]) rfl ?_
  refine i_278_19 (x := 2097151) rfl ?_
  refine i_278_20 ?_
  refine i_278_23 (fun h => absurd h (by decide)) (fun _ => ?_)
  refine i_278_26 (x := 1) (c := 17) (lv2 := [(1, Value.int 17), (0, Value.int 2097151)]) rfl (by decide) rfl ?_
  refine i_278_29 (x := 2097151) rfl ?_
  refine i_278_30 ?_
  refine i_278_32 (c := 31) (by decide) ?_
  refine i_278_33 (lv2 := [(0, Value.int 31), (1, Value.int 17)]) rfl ?_
  refine i_278_34 (x := 31) rfl ?_
  refine i_278_35 ?_
  refine i_278_38 (fun _ => ?_) (fun h => absurd h (by decide))
  refine i_278_49 (x := 31) rfl ?_
  refine i_278_50 ?_
  refine i_278_52 (fun h => absurd h (by decide)) (fun _ => ?_)
  refine i_278_55 (x := 17) (c := 21) (lv2 := [(1, Value.int 21), (0, Value.int 31)]) rfl (by decide) rfl ?_
  refine i_278_58 (x := 31) rfl ?_
  refine i_278_59 ?_
  refine i_278_60 (c := 1) (by decide) ?_
  refine i_278_61 (lv2 := [(0, Value.int 1), (1, Value.int 21)]) rfl ?_
  refine i_278_62 (x := 1) rfl ?_
  refine i_278_63 ?_
  refine i_278_64 (fun _ => ?_) (fun h => absurd h (by decide))
  refine i_278_74 (x := 21) rfl ?_
  refine i_278_75 (x := 1) rfl ?_
  refine i_278_76 ?_
  refine i_278_77 (c := 0) (by decide) ?_
  refine i_278_78 (c := 21) (by decide) ?_
  exact i_278_79 ⟨rfl, rfl⟩
theorem ntz_22 {d : Nat} {w : xW} {x : Int32} (c0 : (x ^^^ ((-1) : Int32)) &&& (x - (1 : Int32)) = 4194303) : xRun d 278 [Value.int x] w (.inl (some (Value.int 22))) w := by
  refine xRun.of ?_
  refine i_278_0 (x := x) rfl ?_
  refine i_278_1 ?_
  refine i_278_2 (c := (x ^^^ ((-1) : Int32))) rfl ?_
  refine i_278_3 (x := x) rfl ?_
  refine i_278_4 ?_
  refine i_278_5 (c := (x - (1 : Int32))) rfl ?_
  refine i_278_6 (c := 4194303) (show ((x ^^^ ((-1) : Int32)) &&& (x - (1 : Int32))) = 4194303 from c0) ?_
  refine i_278_7 (lv2 := [(0, Value.int 4194303)]) rfl ?_
  refine i_278_8 (x := 4194303) rfl ?_
  refine i_278_9 (fun _ => ?_) (fun h => absurd h (by decide))
  refine i_278_17 ?_
  refine i_278_18 (lv2 := [(1, Value.int 1), (0, Value.int 4194303)]) rfl ?_
  refine i_278_19 (x := 4194303) rfl ?_
  refine i_278_20 ?_
  refine i_278_23 (fun h => absurd h (by decide)) (fun _ => ?_)
  refine i_278_26 (x := 1) (c := 17) (lv2 := [(1, Value.int 17), (0, Value.int 4194303)]) rfl (by decide) rfl ?_
  refine i_278_29 (x := 4194303) rfl ?_
  refine i_278_30 ?_
  refine i_278_32 (c := 63) (by decide) ?_
  refine i_278_33 (lv2 := [(0, Value.int 63), (1, Value.int 17)]) rfl ?_
  refine i_278_34 (x := 63) rfl ?_
  refine i_278_35 ?_
  refine i_278_38 (fun _ => ?_) (fun h => absurd h (by decide))
  refine i_278_49 (x := 63) rfl ?_
  refine i_278_50 ?_
  refine i_278_52 (fun h => absurd h (by decide)) (fun _ => ?_)
  refine i_278_55 (x := 17) (c := 21) (lv2 := [(1, Value.int 21), (0, Value.int 63)]) rfl (by decide) rfl ?_
  refine i_278_58 (x := 63) rfl ?_
  refine i_278_59 ?_
  refine i_278_60 (c := 3) (by decide) ?_
  refine i_278_61 (lv2 := [(0, Value.int 3), (1, Value.int 21)]) rfl ?_
  refine i_278_62 (x := 3) rfl ?_
  refine i_278_63 ?_
  refine i_278_64 (fun _ => ?_) (fun h => absurd h (by decide))
  refine i_278_74 (x := 21) rfl ?_
  refine i_278_75 (x := 3) rfl ?_
  refine i_278_76 ?_
  refine i_278_77 (c := 1) (by decide) ?_
  refine i_278_78 (c := 22) (by decide) ?_
  exact i_278_79 ⟨rfl, rfl⟩
theorem ntz_23 {d : Nat} {w : xW} {x : Int32} (c0 : (x ^^^ ((-1) : Int32)) &&& (x - (1 : Int32)) = 8388607) : xRun d 278 [Value.int x] w (.inl (some (Value.int 23))) w := by
  refine xRun.of ?_
  refine i_278_0 (x := x) rfl ?_
  refine i_278_1 ?_
  refine i_278_2 (c := (x ^^^ ((-1) : Int32))) rfl ?_
  refine i_278_3 (x := x) rfl ?_
  refine i_278_4 ?_
  refine i_278_5 (c := (x - (1 : Int32))) rfl ?_
  refine i_278_6 (c := 8388607) (show ((x ^^^ ((-1) : Int32)) &&& (x - (1 : Int32))) = 8388607 from c0) ?_
  refine i_278_7 (lv2 := [(0, Value.int 8388607)]) rfl ?_
  refine i_278_8 (x := 8388607) rfl ?_
  refine i_278_9 (fun _ => ?_) (fun h => absurd h (by decide))
  refine i_278_17 ?_
  refine i_278_18 (lv2 := [(1, Value.int 1), (0, Value.int 8388607)]) rfl ?_
  refine i_278_19 (x := 8388607) rfl ?_
  refine i_278_20 ?_
  refine i_278_23 (fun h => absurd h (by decide)) (fun _ => ?_)
  refine i_278_26 (x := 1) (c := 17) (lv2 := [(1, Value.int 17), (0, Value.int 8388607)]) rfl (by decide) rfl ?_
  refine i_278_29 (x := 8388607) rfl ?_
  refine i_278_30 ?_
  refine i_278_32 (c := 127) (by decide) ?_
  refine i_278_33 (lv2 := [(0, Value.int 127), (1, Value.int 17)]) rfl ?_
  refine i_278_34 (x := 127) rfl ?_
  refine i_278_35 ?_
  refine i_278_38 (fun _ => ?_) (fun h => absurd h (by decide))
  refine i_278_49 (x := 127) rfl ?_
  refine i_278_50 ?_
  refine i_278_52 (fun h => absurd h (by decide)) (fun _ => ?_)
  refine i_278_55 (x := 17) (c := 21) (lv2 := [(1, Value.int 21), (0, Value.int 127)]) rfl (by decide) rfl ?_
  refine i_278_58 (x := 127) rfl ?_
  refine i_278_59 ?_
  refine i_278_60 (c := 7) (by decide) ?_
  refine i_278_61 (lv2 := [(0, Value.int 7), (1, Value.int 21)]) rfl ?_
  refine i_278_62 (x := 7) rfl ?_
  refine i_278_63 ?_
  refine i_278_64 (fun h => absurd h (by decide)) (fun _ => ?_)
  refine i_278_67 (x := 21) (c := 23) (lv2 := [(1, Value.int 23), (0, Value.int 7)]) rfl (by decide) rfl ?_
  refine i_278_70 (x := 7) rfl ?_
  refine i_278_71 ?_
  refine i_278_72 (c := 1) (by decide) ?_
  refine i_278_73 (lv2 := [(0, Value.int 1), (1, Value.int 23)]) rfl ?_
  refine i_278_74 (x := 23) rfl ?_
  refine i_278_75 (x := 1) rfl ?_
  refine i_278_76 ?_
  refine i_278_77 (c := 0) (by decide) ?_
  refine i_278_78 (c := 23) (by decide) ?_
  exact i_278_79 ⟨rfl, rfl⟩
theorem ntz_24 {d : Nat} {w : xW} {x : Int32} (c0 : (x ^^^ ((-1) : Int32)) &&& (x - (1 : Int32)) = 16777215) : xRun d 278 [Value.int x] w (.inl (some (Value.int 24))) w := by
  refine xRun.of ?_
  refine i_278_0 (x := x) rfl ?_
  refine i_278_1 ?_
  refine i_278_2 (c := (x ^^^ ((-1) : Int32))) rfl ?_
  refine i_278_3 (x := x) rfl ?_
  refine i_278_4 ?_
  refine i_278_5 (c := (x - (1 : Int32))) rfl ?_
  refine i_278_6 (c := 16777215) (show ((x ^^^ ((-1) : Int32)) &&& (x - (1 : Int32))) = 16777215 from c0) ?_
  refine i_278_7 (lv2 := [(0, Value.int 16777215)]) rfl ?_
  refine i_278_8 (x := 16777215) rfl ?_
  refine i_278_9 (fun _ => ?_) (fun h => absurd h (by decide))
  refine i_278_17 ?_
  refine i_278_18 (lv2 := [(1, Value.int 1), (0, Value.int 16777215)]) rfl ?_
  refine i_278_19 (x := 16777215) rfl ?_
  refine i_278_20 ?_
  refine i_278_23 (fun h => absurd h (by decide)) (fun _ => ?_)
  refine i_278_26 (x := 1) (c := 17) (lv2 := [(1, Value.int 17), (0, Value.int 16777215)]) rfl (by decide) rfl ?_
  refine i_278_29 (x := 16777215) rfl ?_
  refine i_278_30 ?_
  refine i_278_32 (c := 255) (by decide) ?_
  refine i_278_33 (lv2 := [(0, Value.int 255), (1, Value.int 17)]) rfl ?_
  refine i_278_34 (x := 255) rfl ?_
  refine i_278_35 ?_
  refine i_278_38 (fun _ => ?_) (fun h => absurd h (by decide))
  refine i_278_49 (x := 255) rfl ?_
  refine i_278_50 ?_
  refine i_278_52 (fun h => absurd h (by decide)) (fun _ => ?_)
  refine i_278_55 (x := 17) (c := 21) (lv2 := [(1, Value.int 21), (0, Value.int 255)]) rfl (by decide) rfl ?_
  refine i_278_58 (x := 255) rfl ?_
  refine i_278_59 ?_
  refine i_278_60 (c := 15) (by decide) ?_
  refine i_278_61 (lv2 := [(0, Value.int 15), (1, Value.int 21)]) rfl ?_
  refine i_278_62 (x := 15) rfl ?_
  refine i_278_63 ?_
  refine i_278_64 (fun h => absurd h (by decide)) (fun _ => ?_)
  refine i_278_67 (x := 21) (c := 23) (lv2 := [(1, Value.int 23), (0, Value.int 15)]) rfl (by decide) rfl ?_
  refine i_278_70 (x := 15) rfl ?_
  refine i_278_71 ?_
  refine i_278_72 (c := 3) (by decide) ?_
  refine i_278_73 (lv2 := [(0, Value.int 3), (1, Value.int 23)]) rfl ?_
  refine i_278_74 (x := 23) rfl ?_
  refine i_278_75 (x := 3) rfl ?_
  refine i_278_76 ?_
  refine i_278_77 (c := 1) (by decide) ?_
  refine i_278_78 (c := 24) (by decide) ?_
  exact i_278_79 ⟨rfl, rfl⟩
theorem ntz_25 {d : Nat} {w : xW} {x : Int32} (c0 : (x ^^^ ((-1) : Int32)) &&& (x - (1 : Int32)) = 33554431) : xRun d 278 [Value.int x] w (.inl (some (Value.int 25))) w := by
  refine xRun.of ?_
  refine i_278_0 (x := x) rfl ?_
  refine i_278_1 ?_
  refine i_278_2 (c := (x ^^^ ((-1) : Int32))) rfl ?_
  refine i_278_3 (x := x) rfl ?_
  refine i_278_4 ?_
  refine i_278_5 (c := (x - (1 : Int32))) rfl ?_
  refine i_278_6 (c := 33554431) (show ((x ^^^ ((-1) : Int32)) &&& (x - (1 : Int32))) = 33554431 from c0) ?_
  refine i_278_7 (lv2 := [(0, Value.int 33554431)]) rfl ?_
  refine i_278_8 (x := 33554431) rfl ?_
  refine i_278_9 (fun _ => ?_) (fun h => absurd h (by decide))
  refine i_278_17 ?_
  refine i_278_18 (lv2 := [(1, Value.int 1), (0, Value.int 33554431)]) rfl ?_
  refine i_278_19 (x := 33554431) rfl ?_
  refine i_278_20 ?_
  refine i_278_23 (fun h => absurd h (by decide)) (fun _ => ?_)
  refine i_278_26 (x := 1) (c := 17) (lv2 := [(1, Value.int 17), (0, Value.int 33554431)]) rfl (by decide) rfl ?_
  refine i_278_29 (x := 33554431) rfl ?_
  refine i_278_30 ?_
  refine i_278_32 (c := 511) (by decide) ?_
  refine i_278_33 (lv2 := [(0, Value.int 511), (1, Value.int 17)]) rfl ?_
  refine i_278_34 (x := 511) rfl ?_
  refine i_278_35 ?_
  refine i_278_38 (fun h => absurd h (by decide)) (fun _ => ?_)
  refine i_278_41 (x := 17) (c := 25) (lv2 := [(1, Value.int 25), (0, Value.int 511)]) rfl (by decide) rfl ?_
  refine i_278_44 (x := 511) rfl ?_
  refine i_278_45 ?_
  refine i_278_47 (c := 1) (by decide) ?_
  refine i_278_48 (lv2 := [(0, Value.int 1), (1, Value.int 25)]) rfl ?_
  refine i_278_49 (x := 1) rfl ?_
  refine i_278_50 ?_
  refine i_278_52 (fun _ => ?_) (fun h => absurd h (by decide))
  refine i_278_62 (x := 1) rfl ?_
  refine i_278_63 ?_
  refine i_278_64 (fun _ => ?_) (fun h => absurd h (by decide))
  refine i_278_74 (x := 25) rfl ?_
  refine i_278_75 (x := 1) rfl ?_
  refine i_278_76 ?_
  refine i_278_77 (c := 0) (by decide) ?_
  refine i_278_78 (c := 25) (by decide) ?_
  exact i_278_79 ⟨rfl, rfl⟩
theorem ntz_26 {d : Nat} {w : xW} {x : Int32} (c0 : (x ^^^ ((-1) : Int32)) &&& (x - (1 : Int32)) = 67108863) : xRun d 278 [Value.int x] w (.inl (some (Value.int 26))) w := by
  refine xRun.of ?_
  refine i_278_0 (x := x) rfl ?_
  refine i_278_1 ?_
  refine i_278_2 (c := (x ^^^ ((-1) : Int32))) rfl ?_
  refine i_278_3 (x := x) rfl ?_
  refine i_278_4 ?_
  refine i_278_5 (c := (x - (1 : Int32))) rfl ?_
  refine i_278_6 (c := 67108863) (show ((x ^^^ ((-1) : Int32)) &&& (x - (1 : Int32))) = 67108863 from c0) ?_
  refine i_278_7 (lv2 := [(0, Value.int 67108863)]) rfl ?_
  refine i_278_8 (x := 67108863) rfl ?_
  refine i_278_9 (fun _ => ?_) (fun h => absurd h (by decide))
  refine i_278_17 ?_
  refine i_278_18 (lv2 := [(1, Value.int 1), (0, Value.int 67108863)]) rfl ?_
  refine i_278_19 (x := 67108863) rfl ?_
  refine i_278_20 ?_
  refine i_278_23 (fun h => absurd h (by decide)) (fun _ => ?_)
  refine i_278_26 (x := 1) (c := 17) (lv2 := [(1, Value.int 17), (0, Value.int 67108863)]) rfl (by decide) rfl ?_
  refine i_278_29 (x := 67108863) rfl ?_
  refine i_278_30 ?_
  refine i_278_32 (c := 1023) (by decide) ?_
  refine i_278_33 (lv2 := [(0, Value.int 1023), (1, Value.int 17)]) rfl ?_
  refine i_278_34 (x := 1023) rfl ?_
  refine i_278_35 ?_
  refine i_278_38 (fun h => absurd h (by decide)) (fun _ => ?_)
  refine i_278_41 (x := 17) (c := 25) (lv2 := [(1, Value.int 25), (0, Value.int 1023)]) rfl (by decide) rfl ?_
  refine i_278_44 (x := 1023) rfl ?_
  refine i_278_45 ?_
  refine i_278_47 (c := 3) (by decide) ?_
  refine i_278_48 (lv2 := [(0, Value.int 3), (1, Value.int 25)]) rfl ?_
  refine i_278_49 (x := 3) rfl ?_
  refine i_278_50 ?_
  refine i_278_52 (fun _ => ?_) (fun h => absurd h (by decide))
  refine i_278_62 (x := 3) rfl ?_
  refine i_278_63 ?_
  refine i_278_64 (fun _ => ?_) (fun h => absurd h (by decide))
  refine i_278_74 (x := 25) rfl ?_
  refine i_278_75 (x := 3) rfl ?_
  refine i_278_76 ?_
  refine i_278_77 (c := 1) (by decide) ?_
  refine i_278_78 (c := 26) (by decide) ?_
  exact i_278_79 ⟨rfl, rfl⟩
theorem ntz_27 {d : Nat} {w : xW} {x : Int32} (c0 : (x ^^^ ((-1) : Int32)) &&& (x - (1 : Int32)) = 134217727) : xRun d 278 [Value.int x] w (.inl (some (Value.int 27))) w := by
  refine xRun.of ?_
  refine i_278_0 (x := x) rfl ?_
  refine i_278_1 ?_
  refine i_278_2 (c := (x ^^^ ((-1) : Int32))) rfl ?_
  refine i_278_3 (x := x) rfl ?_
  refine i_278_4 ?_
  refine i_278_5 (c := (x - (1 : Int32))) rfl ?_
  refine i_278_6 (c := 134217727) (show ((x ^^^ ((-1) : Int32)) &&& (x - (1 : Int32))) = 134217727 from c0) ?_
  refine i_278_7 (lv2 := [(0, Value.int 134217727)]) rfl ?_
  refine i_278_8 (x := 134217727) rfl ?_
  refine i_278_9 (fun _ => ?_) (fun h => absurd h (by decide))
  refine i_278_17 ?_
  refine i_278_18 (lv2 := [(1, Value.int 1), (0, Value.int 134217727)]) rfl ?_
  refine i_278_19 (x := 134217727) rfl ?_
  refine i_278_20 ?_
  refine i_278_23 (fun h => absurd h (by decide)) (fun _ => ?_)
  refine i_278_26 (x := 1) (c := 17) (lv2 := [(1, Value.int 17), (0, Value.int 134217727)]) rfl (by decide) rfl ?_
  refine i_278_29 (x := 134217727) rfl ?_
  refine i_278_30 ?_
  refine i_278_32 (c := 2047) (by decide) ?_
  refine i_278_33 (lv2 := [(0, Value.int 2047), (1, Value.int 17)]) rfl ?_
  refine i_278_34 (x := 2047) rfl ?_
  refine i_278_35 ?_
  refine i_278_38 (fun h => absurd h (by decide)) (fun _ => ?_)
  refine i_278_41 (x := 17) (c := 25) (lv2 := [(1, Value.int 25), (0, Value.int 2047)]) rfl (by decide) rfl ?_
  refine i_278_44 (x := 2047) rfl ?_
  refine i_278_45 ?_
  refine i_278_47 (c := 7) (by decide) ?_
  refine i_278_48 (lv2 := [(0, Value.int 7), (1, Value.int 25)]) rfl ?_
  refine i_278_49 (x := 7) rfl ?_
  refine i_278_50 ?_
  refine i_278_52 (fun _ => ?_) (fun h => absurd h (by decide))
  refine i_278_62 (x := 7) rfl ?_
  refine i_278_63 ?_
  refine i_278_64 (fun h => absurd h (by decide)) (fun _ => ?_)
  refine i_278_67 (x := 25) (c := 27) (lv2 := [(1, Value.int 27), (0, Value.int 7)]) rfl (by decide) rfl ?_
  refine i_278_70 (x := 7) rfl ?_
  refine i_278_71 ?_
  refine i_278_72 (c := 1) (by decide) ?_
  refine i_278_73 (lv2 := [(0, Value.int 1), (1, Value.int 27)]) rfl ?_
  refine i_278_74 (x := 27) rfl ?_
  refine i_278_75 (x := 1) rfl ?_
  refine i_278_76 ?_
  refine i_278_77 (c := 0) (by decide) ?_
  refine i_278_78 (c := 27) (by decide) ?_
  exact i_278_79 ⟨rfl, rfl⟩
theorem ntz_28 {d : Nat} {w : xW} {x : Int32} (c0 : (x ^^^ ((-1) : Int32)) &&& (x - (1 : Int32)) = 268435455) : xRun d 278 [Value.int x] w (.inl (some (Value.int 28))) w := by
  refine xRun.of ?_
  refine i_278_0 (x := x) rfl ?_
  refine i_278_1 ?_
  refine i_278_2 (c := (x ^^^ ((-1) : Int32))) rfl ?_
  refine i_278_3 (x := x) rfl ?_
  refine i_278_4 ?_
  refine i_278_5 (c := (x - (1 : Int32))) rfl ?_
  refine i_278_6 (c := 268435455) (show ((x ^^^ ((-1) : Int32)) &&& (x - (1 : Int32))) = 268435455 from c0) ?_
  refine i_278_7 (lv2 := [(0, Value.int 268435455)]) rfl ?_
  refine i_278_8 (x := 268435455) rfl ?_
  refine i_278_9 (fun _ => ?_) (fun h => absurd h (by decide))
  refine i_278_17 ?_
  refine i_278_18 (lv2 := [(1, Value.int 1), (0, Value.int 268435455)]) rfl ?_
  refine i_278_19 (x := 268435455) rfl ?_
  refine i_278_20 ?_
  refine i_278_23 (fun h => absurd h (by decide)) (fun _ => ?_)
  refine i_278_26 (x := 1) (c := 17) (lv2 := [(1, Value.int 17), (0, Value.int 268435455)]) rfl (by decide) rfl ?_
  refine i_278_29 (x := 268435455) rfl ?_
  refine i_278_30 ?_
  refine i_278_32 (c := 4095) (by decide) ?_
  refine i_278_33 (lv2 := [(0, Value.int 4095), (1, Value.int 17)]) rfl ?_
  refine i_278_34 (x := 4095) rfl ?_
  refine i_278_35 ?_
  refine i_278_38 (fun h => absurd h (by decide)) (fun _ => ?_)
  refine i_278_41 (x := 17) (c := 25) (lv2 := [(1, Value.int 25), (0, Value.int 4095)]) rfl (by decide) rfl ?_
  refine i_278_44 (x := 4095) rfl ?_
  refine i_278_45 ?_
  refine i_278_47 (c := 15) (by decide) ?_
  refine i_278_48 (lv2 := [(0, Value.int 15), (1, Value.int 25)]) rfl ?_
  refine i_278_49 (x := 15) rfl ?_
  refine i_278_50 ?_
  refine i_278_52 (fun _ => ?_) (fun h => absurd h (by decide))
  refine i_278_62 (x := 15) rfl ?_
  refine i_278_63 ?_
  refine i_278_64 (fun h => absurd h (by decide)) (fun _ => ?_)
  refine i_278_67 (x := 25) (c := 27) (lv2 := [(1, Value.int 27), (0, Value.int 15)]) rfl (by decide) rfl ?_
  refine i_278_70 (x := 15) rfl ?_
  refine i_278_71 ?_
  refine i_278_72 (c := 3) (by decide) ?_
  refine i_278_73 (lv2 := [(0, Value.int 3), (1, Value.int 27)]) rfl ?_
  refine i_278_74 (x := 27) rfl ?_
  refine i_278_75 (x := 3) rfl ?_
  refine i_278_76 ?_
  refine i_278_77 (c := 1) (by decide) ?_
  refine i_278_78 (c := 28) (by decide) ?_
  exact i_278_79 ⟨rfl, rfl⟩
theorem ntz_29 {d : Nat} {w : xW} {x : Int32} (c0 : (x ^^^ ((-1) : Int32)) &&& (x - (1 : Int32)) = 536870911) : xRun d 278 [Value.int x] w (.inl (some (Value.int 29))) w := by
  refine xRun.of ?_
  refine i_278_0 (x := x) rfl ?_
  refine i_278_1 ?_
  refine i_278_2 (c := (x ^^^ ((-1) : Int32))) rfl ?_
  refine i_278_3 (x := x) rfl ?_
  refine i_278_4 ?_
  refine i_278_5 (c := (x - (1 : Int32))) rfl ?_
  refine i_278_6 (c := 536870911) (show ((x ^^^ ((-1) : Int32)) &&& (x - (1 : Int32))) = 536870911 from c0) ?_
  refine i_278_7 (lv2 := [(0, Value.int 536870911)]) rfl ?_
  refine i_278_8 (x := 536870911) rfl ?_
  refine i_278_9 (fun _ => ?_) (fun h => absurd h (by decide))
  refine i_278_17 ?_
  refine i_278_18 (lv2 := [(1, Value.int 1), (0, Value.int 536870911)]) rfl ?_
  refine i_278_19 (x := 536870911) rfl ?_
  refine i_278_20 ?_
  refine i_278_23 (fun h => absurd h (by decide)) (fun _ => ?_)
  refine i_278_26 (x := 1) (c := 17) (lv2 := [(1, Value.int 17), (0, Value.int 536870911)]) rfl (by decide) rfl ?_
  refine i_278_29 (x := 536870911) rfl ?_
  refine i_278_30 ?_
  refine i_278_32 (c := 8191) (by decide) ?_
  refine i_278_33 (lv2 := [(0, Value.int 8191), (1, Value.int 17)]) rfl ?_
  refine i_278_34 (x := 8191) rfl ?_
  refine i_278_35 ?_
  refine i_278_38 (fun h => absurd h (by decide)) (fun _ => ?_)
  refine i_278_41 (x := 17) (c := 25) (lv2 := [(1, Value.int 25), (0, Value.int 8191)]) rfl (by decide) rfl ?_
  refine i_278_44 (x := 8191) rfl ?_
  refine i_278_45 ?_
  refine i_278_47 (c := 31) (by decide) ?_
  refine i_278_48 (lv2 := [(0, Value.int 31), (1, Value.int 25)]) rfl ?_
  refine i_278_49 (x := 31) rfl ?_
  refine i_278_50 ?_
  refine i_278_52 (fun h => absurd h (by decide)) (fun _ => ?_)
  refine i_278_55 (x := 25) (c := 29) (lv2 := [(1, Value.int 29), (0, Value.int 31)]) rfl (by decide) rfl ?_
  refine i_278_58 (x := 31) rfl ?_
  refine i_278_59 ?_
  refine i_278_60 (c := 1) (by decide) ?_
  refine i_278_61 (lv2 := [(0, Value.int 1), (1, Value.int 29)]) rfl ?_
  refine i_278_62 (x := 1) rfl ?_
  refine i_278_63 ?_
  refine i_278_64 (fun _ => ?_) (fun h => absurd h (by decide))
  refine i_278_74 (x := 29) rfl ?_
  refine i_278_75 (x := 1) rfl ?_
  refine i_278_76 ?_
  refine i_278_77 (c := 0) (by decide) ?_
  refine i_278_78 (c := 29) (by decide) ?_
  exact i_278_79 ⟨rfl, rfl⟩
theorem ntz_30 {d : Nat} {w : xW} {x : Int32} (c0 : (x ^^^ ((-1) : Int32)) &&& (x - (1 : Int32)) = 1073741823) : xRun d 278 [Value.int x] w (.inl (some (Value.int 30))) w := by
  refine xRun.of ?_
  refine i_278_0 (x := x) rfl ?_
  refine i_278_1 ?_
  refine i_278_2 (c := (x ^^^ ((-1) : Int32))) rfl ?_
  refine i_278_3 (x := x) rfl ?_
  refine i_278_4 ?_
  refine i_278_5 (c := (x - (1 : Int32))) rfl ?_
  refine i_278_6 (c := 1073741823) (show ((x ^^^ ((-1) : Int32)) &&& (x - (1 : Int32))) = 1073741823 from c0) ?_
  refine i_278_7 (lv2 := [(0, Value.int 1073741823)]) rfl ?_
  refine i_278_8 (x := 1073741823) rfl ?_
  refine i_278_9 (fun _ => ?_) (fun h => absurd h (by decide))
  refine i_278_17 ?_
  refine i_278_18 (lv2 := [(1, Value.int 1), (0, Value.int 1073741823)]) rfl ?_
  refine i_278_19 (x := 1073741823) rfl ?_
  refine i_278_20 ?_
  refine i_278_23 (fun h => absurd h (by decide)) (fun _ => ?_)
  refine i_278_26 (x := 1) (c := 17) (lv2 := [(1, Value.int 17), (0, Value.int 1073741823)]) rfl (by decide) rfl ?_
  refine i_278_29 (x := 1073741823) rfl ?_
  refine i_278_30 ?_
  refine i_278_32 (c := 16383) (by decide) ?_
  refine i_278_33 (lv2 := [(0, Value.int 16383), (1, Value.int 17)]) rfl ?_
  refine i_278_34 (x := 16383) rfl ?_
  refine i_278_35 ?_
  refine i_278_38 (fun h => absurd h (by decide)) (fun _ => ?_)
  refine i_278_41 (x := 17) (c := 25) (lv2 := [(1, Value.int 25), (0, Value.int 16383)]) rfl (by decide) rfl ?_
  refine i_278_44 (x := 16383) rfl ?_
  refine i_278_45 ?_
  refine i_278_47 (c := 63) (by decide) ?_
  refine i_278_48 (lv2 := [(0, Value.int 63), (1, Value.int 25)]) rfl ?_
  refine i_278_49 (x := 63) rfl ?_
  refine i_278_50 ?_
  refine i_278_52 (fun h => absurd h (by decide)) (fun _ => ?_)
  refine i_278_55 (x := 25) (c := 29) (lv2 := [(1, Value.int 29), (0, Value.int 63)]) rfl (by decide) rfl ?_
  refine i_278_58 (x := 63) rfl ?_
  refine i_278_59 ?_
  refine i_278_60 (c := 3) (by decide) ?_
  refine i_278_61 (lv2 := [(0, Value.int 3), (1, Value.int 29)]) rfl ?_
  refine i_278_62 (x := 3) rfl ?_
  refine i_278_63 ?_
  refine i_278_64 (fun _ => ?_) (fun h => absurd h (by decide))
  refine i_278_74 (x := 29) rfl ?_
  refine i_278_75 (x := 3) rfl ?_
  refine i_278_76 ?_
  refine i_278_77 (c := 1) (by decide) ?_
  refine i_278_78 (c := 30) (by decide) ?_
  exact i_278_79 ⟨rfl, rfl⟩
theorem ntz_31 {d : Nat} {w : xW} {x : Int32} (c0 : (x ^^^ ((-1) : Int32)) &&& (x - (1 : Int32)) = 2147483647) : xRun d 278 [Value.int x] w (.inl (some (Value.int 31))) w := by
  refine xRun.of ?_
  refine i_278_0 (x := x) rfl ?_
  refine i_278_1 ?_
  refine i_278_2 (c := (x ^^^ ((-1) : Int32))) rfl ?_
  refine i_278_3 (x := x) rfl ?_
  refine i_278_4 ?_
  refine i_278_5 (c := (x - (1 : Int32))) rfl ?_
  refine i_278_6 (c := 2147483647) (show ((x ^^^ ((-1) : Int32)) &&& (x - (1 : Int32))) = 2147483647 from c0) ?_
  refine i_278_7 (lv2 := [(0, Value.int 2147483647)]) rfl ?_
  refine i_278_8 (x := 2147483647) rfl ?_
  refine i_278_9 (fun _ => ?_) (fun h => absurd h (by decide))
  refine i_278_17 ?_
  refine i_278_18 (lv2 := [(1, Value.int 1), (0, Value.int 2147483647)]) rfl ?_
  refine i_278_19 (x := 2147483647) rfl ?_
  refine i_278_20 ?_
  refine i_278_23 (fun h => absurd h (by decide)) (fun _ => ?_)
  refine i_278_26 (x := 1) (c := 17) (lv2 := [(1, Value.int 17), (0, Value.int 2147483647)]) rfl (by decide) rfl ?_
  refine i_278_29 (x := 2147483647) rfl ?_
  refine i_278_30 ?_
  refine i_278_32 (c := 32767) (by decide) ?_
  refine i_278_33 (lv2 := [(0, Value.int 32767), (1, Value.int 17)]) rfl ?_
  refine i_278_34 (x := 32767) rfl ?_
  refine i_278_35 ?_
  refine i_278_38 (fun h => absurd h (by decide)) (fun _ => ?_)
  refine i_278_41 (x := 17) (c := 25) (lv2 := [(1, Value.int 25), (0, Value.int 32767)]) rfl (by decide) rfl ?_
  refine i_278_44 (x := 32767) rfl ?_
  refine i_278_45 ?_
  refine i_278_47 (c := 127) (by decide) ?_
  refine i_278_48 (lv2 := [(0, Value.int 127), (1, Value.int 25)]) rfl ?_
  refine i_278_49 (x := 127) rfl ?_
  refine i_278_50 ?_
  refine i_278_52 (fun h => absurd h (by decide)) (fun _ => ?_)
  refine i_278_55 (x := 25) (c := 29) (lv2 := [(1, Value.int 29), (0, Value.int 127)]) rfl (by decide) rfl ?_
  refine i_278_58 (x := 127) rfl ?_
  refine i_278_59 ?_
  refine i_278_60 (c := 7) (by decide) ?_
  refine i_278_61 (lv2 := [(0, Value.int 7), (1, Value.int 29)]) rfl ?_
  refine i_278_62 (x := 7) rfl ?_
  refine i_278_63 ?_
  refine i_278_64 (fun h => absurd h (by decide)) (fun _ => ?_)
  refine i_278_67 (x := 29) (c := 31) (lv2 := [(1, Value.int 31), (0, Value.int 7)]) rfl (by decide) rfl ?_
  refine i_278_70 (x := 7) rfl ?_
  refine i_278_71 ?_
  refine i_278_72 (c := 1) (by decide) ?_
  refine i_278_73 (lv2 := [(0, Value.int 1), (1, Value.int 31)]) rfl ?_
  refine i_278_74 (x := 31) rfl ?_
  refine i_278_75 (x := 1) rfl ?_
  refine i_278_76 ?_
  refine i_278_77 (c := 0) (by decide) ?_
  refine i_278_78 (c := 31) (by decide) ?_
  exact i_278_79 ⟨rfl, rfl⟩
theorem ntz_run {d : Nat} {w : xW} {x : Int32} (h : x.toInt ≠ 0) : xRun d 278 [Value.int x] w (.inl (some (Value.int (xntz x)))) w := by
  obtain ⟨t, ht, hw, he⟩ := xntz_w h
  rw [he]
  have hc : t = 0 ∨ t = 1 ∨ t = 2 ∨ t = 3 ∨ t = 4 ∨ t = 5 ∨ t = 6 ∨ t = 7 ∨ t = 8 ∨ t = 9 ∨ t = 10 ∨ t = 11 ∨ t = 12 ∨ t = 13 ∨ t = 14 ∨ t = 15 ∨ t = 16 ∨ t = 17 ∨ t = 18 ∨ t = 19 ∨ t = 20 ∨ t = 21 ∨ t = 22 ∨ t = 23 ∨ t = 24 ∨ t = 25 ∨ t = 26 ∨ t = 27 ∨ t = 28 ∨ t = 29 ∨ t = 30 ∨ t = 31 := by omega
  rcases hc with hc | hc | hc | hc | hc | hc | hc | hc | hc | hc | hc | hc | hc | hc | hc | hc | hc | hc | hc | hc | hc | hc | hc | hc | hc | hc | hc | hc | hc | hc | hc | hc
  · rw [hc] at hw ⊢; exact ntz_0 (xun_inj (hw.trans (show 2 ^ 0 - 1 = xun (0 : Int32) from by decide +kernel)))
  · rw [hc] at hw ⊢; exact ntz_1 (xun_inj (hw.trans (show 2 ^ 1 - 1 = xun (1 : Int32) from by decide +kernel)))
  · rw [hc] at hw ⊢; exact ntz_2 (xun_inj (hw.trans (show 2 ^ 2 - 1 = xun (3 : Int32) from by decide +kernel)))
  · rw [hc] at hw ⊢; exact ntz_3 (xun_inj (hw.trans (show 2 ^ 3 - 1 = xun (7 : Int32) from by decide +kernel)))
  · rw [hc] at hw ⊢; exact ntz_4 (xun_inj (hw.trans (show 2 ^ 4 - 1 = xun (15 : Int32) from by decide +kernel)))
  · rw [hc] at hw ⊢; exact ntz_5 (xun_inj (hw.trans (show 2 ^ 5 - 1 = xun (31 : Int32) from by decide +kernel)))
  · rw [hc] at hw ⊢; exact ntz_6 (xun_inj (hw.trans (show 2 ^ 6 - 1 = xun (63 : Int32) from by decide +kernel)))
  · rw [hc] at hw ⊢; exact ntz_7 (xun_inj (hw.trans (show 2 ^ 7 - 1 = xun (127 : Int32) from by decide +kernel)))
  · rw [hc] at hw ⊢; exact ntz_8 (xun_inj (hw.trans (show 2 ^ 8 - 1 = xun (255 : Int32) from by decide +kernel)))
  · rw [hc] at hw ⊢; exact ntz_9 (xun_inj (hw.trans (show 2 ^ 9 - 1 = xun (511 : Int32) from by decide +kernel)))
  · rw [hc] at hw ⊢; exact ntz_10 (xun_inj (hw.trans (show 2 ^ 10 - 1 = xun (1023 : Int32) from by decide +kernel)))
  · rw [hc] at hw ⊢; exact ntz_11 (xun_inj (hw.trans (show 2 ^ 11 - 1 = xun (2047 : Int32) from by decide +kernel)))
  · rw [hc] at hw ⊢; exact ntz_12 (xun_inj (hw.trans (show 2 ^ 12 - 1 = xun (4095 : Int32) from by decide +kernel)))
  · rw [hc] at hw ⊢; exact ntz_13 (xun_inj (hw.trans (show 2 ^ 13 - 1 = xun (8191 : Int32) from by decide +kernel)))
  · rw [hc] at hw ⊢; exact ntz_14 (xun_inj (hw.trans (show 2 ^ 14 - 1 = xun (16383 : Int32) from by decide +kernel)))
  · rw [hc] at hw ⊢; exact ntz_15 (xun_inj (hw.trans (show 2 ^ 15 - 1 = xun (32767 : Int32) from by decide +kernel)))
  · rw [hc] at hw ⊢; exact ntz_16 (xun_inj (hw.trans (show 2 ^ 16 - 1 = xun (65535 : Int32) from by decide +kernel)))
  · rw [hc] at hw ⊢; exact ntz_17 (xun_inj (hw.trans (show 2 ^ 17 - 1 = xun (131071 : Int32) from by decide +kernel)))
  · rw [hc] at hw ⊢; exact ntz_18 (xun_inj (hw.trans (show 2 ^ 18 - 1 = xun (262143 : Int32) from by decide +kernel)))
  · rw [hc] at hw ⊢; exact ntz_19 (xun_inj (hw.trans (show 2 ^ 19 - 1 = xun (524287 : Int32) from by decide +kernel)))
  · rw [hc] at hw ⊢; exact ntz_20 (xun_inj (hw.trans (show 2 ^ 20 - 1 = xun (1048575 : Int32) from by decide +kernel)))
  · rw [hc] at hw ⊢; exact ntz_21 (xun_inj (hw.trans (show 2 ^ 21 - 1 = xun (2097151 : Int32) from by decide +kernel)))
  · rw [hc] at hw ⊢; exact ntz_22 (xun_inj (hw.trans (show 2 ^ 22 - 1 = xun (4194303 : Int32) from by decide +kernel)))
  · rw [hc] at hw ⊢; exact ntz_23 (xun_inj (hw.trans (show 2 ^ 23 - 1 = xun (8388607 : Int32) from by decide +kernel)))
  · rw [hc] at hw ⊢; exact ntz_24 (xun_inj (hw.trans (show 2 ^ 24 - 1 = xun (16777215 : Int32) from by decide +kernel)))
  · rw [hc] at hw ⊢; exact ntz_25 (xun_inj (hw.trans (show 2 ^ 25 - 1 = xun (33554431 : Int32) from by decide +kernel)))
  · rw [hc] at hw ⊢; exact ntz_26 (xun_inj (hw.trans (show 2 ^ 26 - 1 = xun (67108863 : Int32) from by decide +kernel)))
  · rw [hc] at hw ⊢; exact ntz_27 (xun_inj (hw.trans (show 2 ^ 27 - 1 = xun (134217727 : Int32) from by decide +kernel)))
  · rw [hc] at hw ⊢; exact ntz_28 (xun_inj (hw.trans (show 2 ^ 28 - 1 = xun (268435455 : Int32) from by decide +kernel)))
  · rw [hc] at hw ⊢; exact ntz_29 (xun_inj (hw.trans (show 2 ^ 29 - 1 = xun (536870911 : Int32) from by decide +kernel)))
  · rw [hc] at hw ⊢; exact ntz_30 (xun_inj (hw.trans (show 2 ^ 30 - 1 = xun (1073741823 : Int32) from by decide +kernel)))
  · rw [hc] at hw ⊢; exact ntz_31 (xun_inj (hw.trans (show 2 ^ 31 - 1 = xun (2147483647 : Int32) from by decide +kernel)))
theorem bf_1_0_0 {d : Nat} {w : xW} {h b : Nat} {g : Nat → Value} {u0 u1 p : Int32} (hw : w[h]? = some (Sum.inr (3, [Value.ref b, Value.int 1]))) (hb : w[b]? = some (Sum.inl (0, 8, g))) (hg0 : g (0 : Int32).toInt.toNat = Value.int u0) (hg1 : g (1 : Int32).toInt.toNat = Value.int u1) (c0 : -67108864 ≤ (p >>> ((5 : Int32) &&& 31)).toInt) (c1 : (p >>> ((5 : Int32) &&& 31)).toInt ≤ -2) (c2 : (p &&& (31 : Int32)).toInt = 0) : xRun d 35 [Value.ref h, Value.int p] w (.inl (some (Value.int 0))) w := by
  refine xRun.of ?_
  refine i_35_0 (x := p) rfl ?_
  refine i_35_1 ?_
  refine i_35_2 (c := (p >>> ((5 : Int32) &&& 31))) rfl ?_
  refine i_35_3 (lv2 := [(2, Value.int (p >>> ((5 : Int32) &&& 31))), (0, Value.ref h), (1, Value.int p)]) rfl ?_
  refine i_35_4 (x := p) rfl ?_
  refine i_35_5 ?_
  refine i_35_7 (c := 0) (show (p &&& (31 : Int32)) = 0 from (xge_c (n := 0) (by omega) rfl)) ?_
  refine i_35_8 (lv2 := [(3, Value.int 0), (2, Value.int (p >>> ((5 : Int32) &&& 31))), (0, Value.ref h), (1, Value.int p)]) rfl ?_
  refine i_35_9 (x := (p >>> ((5 : Int32) &&& 31))) rfl ?_
  refine i_35_10 (fun _ => ?_) (fun h => absurd (show (p >>> ((5 : Int32) &&& 31)).toInt < 0 by omega) (Int.not_lt.mpr h))
  refine i_35_21 ?_
  refine i_35_22 ?_
  refine i_35_31 (lv2 := [(4, Value.int 0), (3, Value.int 0), (2, Value.int (p >>> ((5 : Int32) &&& 31))), (0, Value.ref h), (1, Value.int p)]) rfl ?_
  refine i_35_33 (x := 0) rfl ?_
  refine i_35_34 (fun h => absurd h (by decide)) (fun _ => ?_)
  refine i_35_37 (x := 0) rfl ?_
  exact i_35_39 ⟨rfl, rfl⟩
theorem bf_1_0_1 {d : Nat} {w : xW} {h b : Nat} {g : Nat → Value} {u0 u1 p : Int32} (hw : w[h]? = some (Sum.inr (3, [Value.ref b, Value.int 1]))) (hb : w[b]? = some (Sum.inl (0, 8, g))) (hg0 : g (0 : Int32).toInt.toNat = Value.int u0) (hg1 : g (1 : Int32).toInt.toNat = Value.int u1) (c0 : -67108864 ≤ (p >>> ((5 : Int32) &&& 31)).toInt) (c1 : (p >>> ((5 : Int32) &&& 31)).toInt ≤ -2) (c2 : (p &&& (31 : Int32)).toInt ≠ 0) : xRun d 35 [Value.ref h, Value.int p] w (.inl (some (Value.int ((((0 : Int32).toUInt32 >>> ((p &&& (31 : Int32)).toUInt32 &&& Int32.toUInt32 31)).toInt32) ||| ((0 : Int32) <<< (((32 : Int32) - (p &&& (31 : Int32))) &&& 31)))))) w := by
  refine xRun.of ?_
  refine i_35_0 (x := p) rfl ?_
  refine i_35_1 ?_
  refine i_35_2 (c := (p >>> ((5 : Int32) &&& 31))) rfl ?_
  refine i_35_3 (lv2 := [(2, Value.int (p >>> ((5 : Int32) &&& 31))), (0, Value.ref h), (1, Value.int p)]) rfl ?_
  refine i_35_4 (x := p) rfl ?_
  refine i_35_5 ?_
  refine i_35_7 (c := (p &&& (31 : Int32))) rfl ?_
  refine i_35_8 (lv2 := [(3, Value.int (p &&& (31 : Int32))), (2, Value.int (p >>> ((5 : Int32) &&& 31))), (0, Value.ref h), (1, Value.int p)]) rfl ?_
  refine i_35_9 (x := (p >>> ((5 : Int32) &&& 31))) rfl ?_
  refine i_35_10 (fun _ => ?_) (fun h => absurd (show (p >>> ((5 : Int32) &&& 31)).toInt < 0 by omega) (Int.not_lt.mpr h))
  refine i_35_21 ?_
  refine i_35_22 ?_
  refine i_35_31 (lv2 := [(4, Value.int 0), (3, Value.int (p &&& (31 : Int32))), (2, Value.int (p >>> ((5 : Int32) &&& 31))), (0, Value.ref h), (1, Value.int p)]) rfl ?_
  refine i_35_33 (x := (p &&& (31 : Int32))) rfl ?_
  refine i_35_34 (fun _ => ?_) (fun h => absurd (show (p &&& (31 : Int32)).toInt ≠ 0 by omega) (fun g => g h))
  refine i_35_40 (x := (p >>> ((5 : Int32) &&& 31))) rfl ?_
  refine i_35_41 ?_
  refine i_35_42 (fun _ => ?_) (fun h => absurd (show (p >>> ((5 : Int32) &&& 31)).toInt < (-1) by omega) (Int.not_lt.mpr h))
  refine i_35_55 ?_
  refine i_35_56 ?_
  refine i_35_67 (lv2 := [(5, Value.int 0), (4, Value.int 0), (3, Value.int (p &&& (31 : Int32))), (2, Value.int (p >>> ((5 : Int32) &&& 31))), (0, Value.ref h), (1, Value.int p)]) rfl ?_
  refine i_35_69 (x := 0) rfl ?_
  refine i_35_71 (x := (p &&& (31 : Int32))) rfl ?_
  refine i_35_72 (c := (((0 : Int32).toUInt32 >>> ((p &&& (31 : Int32)).toUInt32 &&& Int32.toUInt32 31)).toInt32)) rfl ?_
  refine i_35_73 (x := 0) rfl ?_
  refine i_35_75 ?_
  refine i_35_77 (x := (p &&& (31 : Int32))) rfl ?_
  refine i_35_78 (c := ((32 : Int32) - (p &&& (31 : Int32)))) rfl ?_
  refine i_35_79 (c := ((0 : Int32) <<< (((32 : Int32) - (p &&& (31 : Int32))) &&& 31))) rfl ?_
  refine i_35_80 (c := ((((0 : Int32).toUInt32 >>> ((p &&& (31 : Int32)).toUInt32 &&& Int32.toUInt32 31)).toInt32) ||| ((0 : Int32) <<< (((32 : Int32) - (p &&& (31 : Int32))) &&& 31)))) rfl ?_
  exact i_35_81 ⟨rfl, rfl⟩
theorem bf_1_1_0 {d : Nat} {w : xW} {h b : Nat} {g : Nat → Value} {u0 u1 p : Int32} (hw : w[h]? = some (Sum.inr (3, [Value.ref b, Value.int 1]))) (hb : w[b]? = some (Sum.inl (0, 8, g))) (hg0 : g (0 : Int32).toInt.toNat = Value.int u0) (hg1 : g (1 : Int32).toInt.toNat = Value.int u1) (c0 : -1 ≤ (p >>> ((5 : Int32) &&& 31)).toInt) (c1 : (p >>> ((5 : Int32) &&& 31)).toInt ≤ -1) (c2 : (p &&& (31 : Int32)).toInt = 0) : xRun d 35 [Value.ref h, Value.int p] w (.inl (some (Value.int 0))) w := by
  refine xRun.of ?_
  refine i_35_0 (x := p) rfl ?_
  refine i_35_1 ?_
  refine i_35_2 (c := (-1)) (show (p >>> ((5 : Int32) &&& 31)) = (-1) from (xge_c (n := -1) (by omega) rfl)) ?_
  refine i_35_3 (lv2 := [(2, Value.int (-1)), (0, Value.ref h), (1, Value.int p)]) rfl ?_
  refine i_35_4 (x := p) rfl ?_
  refine i_35_5 ?_
  refine i_35_7 (c := 0) (show (p &&& (31 : Int32)) = 0 from (xge_c (n := 0) (by omega) rfl)) ?_
  refine i_35_8 (lv2 := [(3, Value.int 0), (2, Value.int (-1)), (0, Value.ref h), (1, Value.int p)]) rfl ?_
  refine i_35_9 (x := (-1)) rfl ?_
  refine i_35_10 (fun _ => ?_) (fun h => absurd h (by decide))
  refine i_35_21 ?_
  refine i_35_22 ?_
  refine i_35_31 (lv2 := [(4, Value.int 0), (3, Value.int 0), (2, Value.int (-1)), (0, Value.ref h), (1, Value.int p)]) rfl ?_
  refine i_35_33 (x := 0) rfl ?_
  refine i_35_34 (fun h => absurd h (by decide)) (fun _ => ?_)
  refine i_35_37 (x := 0) rfl ?_
  exact i_35_39 ⟨rfl, rfl⟩
theorem bf_1_1_1 {d : Nat} {w : xW} {h b : Nat} {g : Nat → Value} {u0 u1 p : Int32} (hw : w[h]? = some (Sum.inr (3, [Value.ref b, Value.int 1]))) (hb : w[b]? = some (Sum.inl (0, 8, g))) (hg0 : g (0 : Int32).toInt.toNat = Value.int u0) (hg1 : g (1 : Int32).toInt.toNat = Value.int u1) (c0 : -1 ≤ (p >>> ((5 : Int32) &&& 31)).toInt) (c1 : (p >>> ((5 : Int32) &&& 31)).toInt ≤ -1) (c2 : (p &&& (31 : Int32)).toInt ≠ 0) : xRun d 35 [Value.ref h, Value.int p] w (.inl (some (Value.int ((((0 : Int32).toUInt32 >>> ((p &&& (31 : Int32)).toUInt32 &&& Int32.toUInt32 31)).toInt32) ||| (u0 <<< (((32 : Int32) - (p &&& (31 : Int32))) &&& 31)))))) w := by
  refine xRun.of ?_
  refine i_35_0 (x := p) rfl ?_
  refine i_35_1 ?_
  refine i_35_2 (c := (-1)) (show (p >>> ((5 : Int32) &&& 31)) = (-1) from (xge_c (n := -1) (by omega) rfl)) ?_
  refine i_35_3 (lv2 := [(2, Value.int (-1)), (0, Value.ref h), (1, Value.int p)]) rfl ?_
  refine i_35_4 (x := p) rfl ?_
  refine i_35_5 ?_
  refine i_35_7 (c := (p &&& (31 : Int32))) rfl ?_
  refine i_35_8 (lv2 := [(3, Value.int (p &&& (31 : Int32))), (2, Value.int (-1)), (0, Value.ref h), (1, Value.int p)]) rfl ?_
  refine i_35_9 (x := (-1)) rfl ?_
  refine i_35_10 (fun _ => ?_) (fun h => absurd h (by decide))
  refine i_35_21 ?_
  refine i_35_22 ?_
  refine i_35_31 (lv2 := [(4, Value.int 0), (3, Value.int (p &&& (31 : Int32))), (2, Value.int (-1)), (0, Value.ref h), (1, Value.int p)]) rfl ?_
  refine i_35_33 (x := (p &&& (31 : Int32))) rfl ?_
  refine i_35_34 (fun _ => ?_) (fun h => absurd (show (p &&& (31 : Int32)).toInt ≠ 0 by omega) (fun g => g h))
  refine i_35_40 (x := (-1)) rfl ?_
  refine i_35_41 ?_
  refine i_35_42 (fun h => absurd h (by decide)) (fun _ => ?_)
  refine i_35_45 (x := (-1)) rfl ?_
  refine i_35_46 ?_
  refine i_35_47 (c := 0) (by decide) ?_
  refine i_35_48 (x := h) rfl ?_
  refine i_35_49 (v := Value.int 1) hw rfl ?_
  refine i_35_52 (fun _ => ?_) (fun h => absurd h (by decide))
  refine i_35_59 (x := h) rfl ?_
  refine i_35_60 (v := Value.ref b) hw rfl ?_
  refine i_35_63 (x := (-1)) rfl ?_
  refine i_35_64 ?_
  refine i_35_65 (c := 0) (by decide) ?_
  refine i_35_66 (v := Value.int u0) hb (by decide) (by decide) hg0 ?_
  refine i_35_67 (lv2 := [(5, Value.int u0), (4, Value.int 0), (3, Value.int (p &&& (31 : Int32))), (2, Value.int (-1)), (0, Value.ref h), (1, Value.int p)]) rfl ?_
  refine i_35_69 (x := 0) rfl ?_
  refine i_35_71 (x := (p &&& (31 : Int32))) rfl ?_
  refine i_35_72 (c := (((0 : Int32).toUInt32 >>> ((p &&& (31 : Int32)).toUInt32 &&& Int32.toUInt32 31)).toInt32)) rfl ?_
  refine i_35_73 (x := u0) rfl ?_
  refine i_35_75 ?_
  refine i_35_77 (x := (p &&& (31 : Int32))) rfl ?_
  refine i_35_78 (c := ((32 : Int32) - (p &&& (31 : Int32)))) rfl ?_
  refine i_35_79 (c := (u0 <<< (((32 : Int32) - (p &&& (31 : Int32))) &&& 31))) rfl ?_
  refine i_35_80 (c := ((((0 : Int32).toUInt32 >>> ((p &&& (31 : Int32)).toUInt32 &&& Int32.toUInt32 31)).toInt32) ||| (u0 <<< (((32 : Int32) - (p &&& (31 : Int32))) &&& 31)))) rfl ?_
  exact i_35_81 ⟨rfl, rfl⟩
theorem bf_1_2_0 {d : Nat} {w : xW} {h b : Nat} {g : Nat → Value} {u0 u1 p : Int32} (hw : w[h]? = some (Sum.inr (3, [Value.ref b, Value.int 1]))) (hb : w[b]? = some (Sum.inl (0, 8, g))) (hg0 : g (0 : Int32).toInt.toNat = Value.int u0) (hg1 : g (1 : Int32).toInt.toNat = Value.int u1) (c0 : 0 ≤ (p >>> ((5 : Int32) &&& 31)).toInt) (c1 : (p >>> ((5 : Int32) &&& 31)).toInt ≤ 0) (c2 : (p &&& (31 : Int32)).toInt = 0) : xRun d 35 [Value.ref h, Value.int p] w (.inl (some (Value.int u0))) w := by
  refine xRun.of ?_
  refine i_35_0 (x := p) rfl ?_
  refine i_35_1 ?_
  refine i_35_2 (c := 0) (show (p >>> ((5 : Int32) &&& 31)) = 0 from (xge_c (n := 0) (by omega) rfl)) ?_
  refine i_35_3 (lv2 := [(2, Value.int 0), (0, Value.ref h), (1, Value.int p)]) rfl ?_
  refine i_35_4 (x := p) rfl ?_
  refine i_35_5 ?_
  refine i_35_7 (c := 0) (show (p &&& (31 : Int32)) = 0 from (xge_c (n := 0) (by omega) rfl)) ?_
  refine i_35_8 (lv2 := [(3, Value.int 0), (2, Value.int 0), (0, Value.ref h), (1, Value.int p)]) rfl ?_
  refine i_35_9 (x := 0) rfl ?_
  refine i_35_10 (fun h => absurd h (by decide)) (fun _ => ?_)
  refine i_35_13 (x := 0) rfl ?_
  refine i_35_14 (x := h) rfl ?_
  refine i_35_15 (v := Value.int 1) hw rfl ?_
  refine i_35_18 (fun _ => ?_) (fun h => absurd h (by decide))
  refine i_35_25 (x := h) rfl ?_
  refine i_35_26 (v := Value.ref b) hw rfl ?_
  refine i_35_29 (x := 0) rfl ?_
  refine i_35_30 (v := Value.int u0) hb (by decide) (by decide) hg0 ?_
  refine i_35_31 (lv2 := [(4, Value.int u0), (3, Value.int 0), (2, Value.int 0), (0, Value.ref h), (1, Value.int p)]) rfl ?_
  refine i_35_33 (x := 0) rfl ?_
  refine i_35_34 (fun h => absurd h (by decide)) (fun _ => ?_)
  refine i_35_37 (x := u0) rfl ?_
  exact i_35_39 ⟨rfl, rfl⟩
theorem bf_1_2_1 {d : Nat} {w : xW} {h b : Nat} {g : Nat → Value} {u0 u1 p : Int32} (hw : w[h]? = some (Sum.inr (3, [Value.ref b, Value.int 1]))) (hb : w[b]? = some (Sum.inl (0, 8, g))) (hg0 : g (0 : Int32).toInt.toNat = Value.int u0) (hg1 : g (1 : Int32).toInt.toNat = Value.int u1) (c0 : 0 ≤ (p >>> ((5 : Int32) &&& 31)).toInt) (c1 : (p >>> ((5 : Int32) &&& 31)).toInt ≤ 0) (c2 : (p &&& (31 : Int32)).toInt ≠ 0) : xRun d 35 [Value.ref h, Value.int p] w (.inl (some (Value.int (((u0.toUInt32 >>> ((p &&& (31 : Int32)).toUInt32 &&& Int32.toUInt32 31)).toInt32) ||| ((0 : Int32) <<< (((32 : Int32) - (p &&& (31 : Int32))) &&& 31)))))) w := by
  refine xRun.of ?_
  refine i_35_0 (x := p) rfl ?_
  refine i_35_1 ?_
  refine i_35_2 (c := 0) (show (p >>> ((5 : Int32) &&& 31)) = 0 from (xge_c (n := 0) (by omega) rfl)) ?_
  refine i_35_3 (lv2 := [(2, Value.int 0), (0, Value.ref h), (1, Value.int p)]) rfl ?_
  refine i_35_4 (x := p) rfl ?_
  refine i_35_5 ?_
  refine i_35_7 (c := (p &&& (31 : Int32))) rfl ?_
  refine i_35_8 (lv2 := [(3, Value.int (p &&& (31 : Int32))), (2, Value.int 0), (0, Value.ref h), (1, Value.int p)]) rfl ?_
  refine i_35_9 (x := 0) rfl ?_
  refine i_35_10 (fun h => absurd h (by decide)) (fun _ => ?_)
  refine i_35_13 (x := 0) rfl ?_
  refine i_35_14 (x := h) rfl ?_
  refine i_35_15 (v := Value.int 1) hw rfl ?_
  refine i_35_18 (fun _ => ?_) (fun h => absurd h (by decide))
  refine i_35_25 (x := h) rfl ?_
  refine i_35_26 (v := Value.ref b) hw rfl ?_
  refine i_35_29 (x := 0) rfl ?_
  refine i_35_30 (v := Value.int u0) hb (by decide) (by decide) hg0 ?_
  refine i_35_31 (lv2 := [(4, Value.int u0), (3, Value.int (p &&& (31 : Int32))), (2, Value.int 0), (0, Value.ref h), (1, Value.int p)]) rfl ?_
  refine i_35_33 (x := (p &&& (31 : Int32))) rfl ?_
  refine i_35_34 (fun _ => ?_) (fun h => absurd (show (p &&& (31 : Int32)).toInt ≠ 0 by omega) (fun g => g h))
  refine i_35_40 (x := 0) rfl ?_
  refine i_35_41 ?_
  refine i_35_42 (fun h => absurd h (by decide)) (fun _ => ?_)
  refine i_35_45 (x := 0) rfl ?_
  refine i_35_46 ?_
  refine i_35_47 (c := 1) (by decide) ?_
  refine i_35_48 (x := h) rfl ?_
  refine i_35_49 (v := Value.int 1) hw rfl ?_
  refine i_35_52 (fun h => absurd h (by decide)) (fun _ => ?_)
  refine i_35_55 ?_
  refine i_35_56 ?_
  refine i_35_67 (lv2 := [(5, Value.int 0), (4, Value.int u0), (3, Value.int (p &&& (31 : Int32))), (2, Value.int 0), (0, Value.ref h), (1, Value.int p)]) rfl ?_
  refine i_35_69 (x := u0) rfl ?_
  refine i_35_71 (x := (p &&& (31 : Int32))) rfl ?_
  refine i_35_72 (c := ((u0.toUInt32 >>> ((p &&& (31 : Int32)).toUInt32 &&& Int32.toUInt32 31)).toInt32)) rfl ?_
  refine i_35_73 (x := 0) rfl ?_
  refine i_35_75 ?_
  refine i_35_77 (x := (p &&& (31 : Int32))) rfl ?_
  refine i_35_78 (c := ((32 : Int32) - (p &&& (31 : Int32)))) rfl ?_
  refine i_35_79 (c := ((0 : Int32) <<< (((32 : Int32) - (p &&& (31 : Int32))) &&& 31))) rfl ?_
  refine i_35_80 (c := (((u0.toUInt32 >>> ((p &&& (31 : Int32)).toUInt32 &&& Int32.toUInt32 31)).toInt32) ||| ((0 : Int32) <<< (((32 : Int32) - (p &&& (31 : Int32))) &&& 31)))) rfl ?_
  exact i_35_81 ⟨rfl, rfl⟩
theorem bf_1_3_0 {d : Nat} {w : xW} {h b : Nat} {g : Nat → Value} {u0 u1 p : Int32} (hw : w[h]? = some (Sum.inr (3, [Value.ref b, Value.int 1]))) (hb : w[b]? = some (Sum.inl (0, 8, g))) (hg0 : g (0 : Int32).toInt.toNat = Value.int u0) (hg1 : g (1 : Int32).toInt.toNat = Value.int u1) (c0 : 1 ≤ (p >>> ((5 : Int32) &&& 31)).toInt) (c1 : (p >>> ((5 : Int32) &&& 31)).toInt ≤ 1) (c2 : (p &&& (31 : Int32)).toInt = 0) : xRun d 35 [Value.ref h, Value.int p] w (.inl (some (Value.int 0))) w := by
  refine xRun.of ?_
  refine i_35_0 (x := p) rfl ?_
  refine i_35_1 ?_
  refine i_35_2 (c := 1) (show (p >>> ((5 : Int32) &&& 31)) = 1 from (xge_c (n := 1) (by omega) rfl)) ?_
  refine i_35_3 (lv2 := [(2, Value.int 1), (0, Value.ref h), (1, Value.int p)]) rfl ?_
  refine i_35_4 (x := p) rfl ?_
  refine i_35_5 ?_
  refine i_35_7 (c := 0) (show (p &&& (31 : Int32)) = 0 from (xge_c (n := 0) (by omega) rfl)) ?_
  refine i_35_8 (lv2 := [(3, Value.int 0), (2, Value.int 1), (0, Value.ref h), (1, Value.int p)]) rfl ?_
  refine i_35_9 (x := 1) rfl ?_
  refine i_35_10 (fun h => absurd h (by decide)) (fun _ => ?_)
  refine i_35_13 (x := 1) rfl ?_
  refine i_35_14 (x := h) rfl ?_
  refine i_35_15 (v := Value.int 1) hw rfl ?_
  refine i_35_18 (fun h => absurd h (by decide)) (fun _ => ?_)
  refine i_35_21 ?_
  refine i_35_22 ?_
  refine i_35_31 (lv2 := [(4, Value.int 0), (3, Value.int 0), (2, Value.int 1), (0, Value.ref h), (1, Value.int p)]) rfl ?_
  refine i_35_33 (x := 0) rfl ?_
  refine i_35_34 (fun h => absurd h (by decide)) (fun _ => ?_)
  refine i_35_37 (x := 0) rfl ?_
  exact i_35_39 ⟨rfl, rfl⟩
theorem bf_1_3_1 {d : Nat} {w : xW} {h b : Nat} {g : Nat → Value} {u0 u1 p : Int32} (hw : w[h]? = some (Sum.inr (3, [Value.ref b, Value.int 1]))) (hb : w[b]? = some (Sum.inl (0, 8, g))) (hg0 : g (0 : Int32).toInt.toNat = Value.int u0) (hg1 : g (1 : Int32).toInt.toNat = Value.int u1) (c0 : 1 ≤ (p >>> ((5 : Int32) &&& 31)).toInt) (c1 : (p >>> ((5 : Int32) &&& 31)).toInt ≤ 1) (c2 : (p &&& (31 : Int32)).toInt ≠ 0) : xRun d 35 [Value.ref h, Value.int p] w (.inl (some (Value.int ((((0 : Int32).toUInt32 >>> ((p &&& (31 : Int32)).toUInt32 &&& Int32.toUInt32 31)).toInt32) ||| ((0 : Int32) <<< (((32 : Int32) - (p &&& (31 : Int32))) &&& 31)))))) w := by
  refine xRun.of ?_
  refine i_35_0 (x := p) rfl ?_
  refine i_35_1 ?_
  refine i_35_2 (c := 1) (show (p >>> ((5 : Int32) &&& 31)) = 1 from (xge_c (n := 1) (by omega) rfl)) ?_
  refine i_35_3 (lv2 := [(2, Value.int 1), (0, Value.ref h), (1, Value.int p)]) rfl ?_
  refine i_35_4 (x := p) rfl ?_
  refine i_35_5 ?_
  refine i_35_7 (c := (p &&& (31 : Int32))) rfl ?_
  refine i_35_8 (lv2 := [(3, Value.int (p &&& (31 : Int32))), (2, Value.int 1), (0, Value.ref h), (1, Value.int p)]) rfl ?_
  refine i_35_9 (x := 1) rfl ?_
  refine i_35_10 (fun h => absurd h (by decide)) (fun _ => ?_)
  refine i_35_13 (x := 1) rfl ?_
  refine i_35_14 (x := h) rfl ?_
  refine i_35_15 (v := Value.int 1) hw rfl ?_
  refine i_35_18 (fun h => absurd h (by decide)) (fun _ => ?_)
  refine i_35_21 ?_
  refine i_35_22 ?_
  refine i_35_31 (lv2 := [(4, Value.int 0), (3, Value.int (p &&& (31 : Int32))), (2, Value.int 1), (0, Value.ref h), (1, Value.int p)]) rfl ?_
  refine i_35_33 (x := (p &&& (31 : Int32))) rfl ?_
  refine i_35_34 (fun _ => ?_) (fun h => absurd (show (p &&& (31 : Int32)).toInt ≠ 0 by omega) (fun g => g h))
  refine i_35_40 (x := 1) rfl ?_
  refine i_35_41 ?_
  refine i_35_42 (fun h => absurd h (by decide)) (fun _ => ?_)
  refine i_35_45 (x := 1) rfl ?_
  refine i_35_46 ?_
  refine i_35_47 (c := 2) (by decide) ?_
  refine i_35_48 (x := h) rfl ?_
  refine i_35_49 (v := Value.int 1) hw rfl ?_
  refine i_35_52 (fun h => absurd h (by decide)) (fun _ => ?_)
  refine i_35_55 ?_
  refine i_35_56 ?_
  refine i_35_67 (lv2 := [(5, Value.int 0), (4, Value.int 0), (3, Value.int (p &&& (31 : Int32))), (2, Value.int 1), (0, Value.ref h), (1, Value.int p)]) rfl ?_
  refine i_35_69 (x := 0) rfl ?_
  refine i_35_71 (x := (p &&& (31 : Int32))) rfl ?_
  refine i_35_72 (c := (((0 : Int32).toUInt32 >>> ((p &&& (31 : Int32)).toUInt32 &&& Int32.toUInt32 31)).toInt32)) rfl ?_
  refine i_35_73 (x := 0) rfl ?_
  refine i_35_75 ?_
  refine i_35_77 (x := (p &&& (31 : Int32))) rfl ?_
  refine i_35_78 (c := ((32 : Int32) - (p &&& (31 : Int32)))) rfl ?_
  refine i_35_79 (c := ((0 : Int32) <<< (((32 : Int32) - (p &&& (31 : Int32))) &&& 31))) rfl ?_
  refine i_35_80 (c := ((((0 : Int32).toUInt32 >>> ((p &&& (31 : Int32)).toUInt32 &&& Int32.toUInt32 31)).toInt32) ||| ((0 : Int32) <<< (((32 : Int32) - (p &&& (31 : Int32))) &&& 31)))) rfl ?_
  exact i_35_81 ⟨rfl, rfl⟩
theorem bf_1_4_0 {d : Nat} {w : xW} {h b : Nat} {g : Nat → Value} {u0 u1 p : Int32} (hw : w[h]? = some (Sum.inr (3, [Value.ref b, Value.int 1]))) (hb : w[b]? = some (Sum.inl (0, 8, g))) (hg0 : g (0 : Int32).toInt.toNat = Value.int u0) (hg1 : g (1 : Int32).toInt.toNat = Value.int u1) (c0 : 2 ≤ (p >>> ((5 : Int32) &&& 31)).toInt) (c1 : (p >>> ((5 : Int32) &&& 31)).toInt ≤ 67108863) (c2 : (p &&& (31 : Int32)).toInt = 0) : xRun d 35 [Value.ref h, Value.int p] w (.inl (some (Value.int 0))) w := by
  refine xRun.of ?_
  refine i_35_0 (x := p) rfl ?_
  refine i_35_1 ?_
  refine i_35_2 (c := (p >>> ((5 : Int32) &&& 31))) rfl ?_
  refine i_35_3 (lv2 := [(2, Value.int (p >>> ((5 : Int32) &&& 31))), (0, Value.ref h), (1, Value.int p)]) rfl ?_
  refine i_35_4 (x := p) rfl ?_
  refine i_35_5 ?_
  refine i_35_7 (c := 0) (show (p &&& (31 : Int32)) = 0 from (xge_c (n := 0) (by omega) rfl)) ?_
  refine i_35_8 (lv2 := [(3, Value.int 0), (2, Value.int (p >>> ((5 : Int32) &&& 31))), (0, Value.ref h), (1, Value.int p)]) rfl ?_
  refine i_35_9 (x := (p >>> ((5 : Int32) &&& 31))) rfl ?_
  refine i_35_10 (fun h => absurd (show 0 ≤ (p >>> ((5 : Int32) &&& 31)).toInt by omega) (Int.not_le.mpr h)) (fun _ => ?_)
  refine i_35_13 (x := (p >>> ((5 : Int32) &&& 31))) rfl ?_
  refine i_35_14 (x := h) rfl ?_
  refine i_35_15 (v := Value.int 1) hw rfl ?_
  refine i_35_18 (fun h => absurd (show 1 ≤ (p >>> ((5 : Int32) &&& 31)).toInt by omega) (Int.not_le.mpr h)) (fun _ => ?_)
  refine i_35_21 ?_
  refine i_35_22 ?_
  refine i_35_31 (lv2 := [(4, Value.int 0), (3, Value.int 0), (2, Value.int (p >>> ((5 : Int32) &&& 31))), (0, Value.ref h), (1, Value.int p)]) rfl ?_
  refine i_35_33 (x := 0) rfl ?_
  refine i_35_34 (fun h => absurd h (by decide)) (fun _ => ?_)
  refine i_35_37 (x := 0) rfl ?_
  exact i_35_39 ⟨rfl, rfl⟩
theorem bf_1_4_1 {d : Nat} {w : xW} {h b : Nat} {g : Nat → Value} {u0 u1 p : Int32} (hw : w[h]? = some (Sum.inr (3, [Value.ref b, Value.int 1]))) (hb : w[b]? = some (Sum.inl (0, 8, g))) (hg0 : g (0 : Int32).toInt.toNat = Value.int u0) (hg1 : g (1 : Int32).toInt.toNat = Value.int u1) (c0 : 2 ≤ (p >>> ((5 : Int32) &&& 31)).toInt) (c1 : (p >>> ((5 : Int32) &&& 31)).toInt ≤ 67108863) (c2 : (p &&& (31 : Int32)).toInt ≠ 0) : xRun d 35 [Value.ref h, Value.int p] w (.inl (some (Value.int ((((0 : Int32).toUInt32 >>> ((p &&& (31 : Int32)).toUInt32 &&& Int32.toUInt32 31)).toInt32) ||| ((0 : Int32) <<< (((32 : Int32) - (p &&& (31 : Int32))) &&& 31)))))) w := by
  have f0 : ((p >>> ((5 : Int32) &&& 31)) + (1 : Int32)).toInt = (p >>> ((5 : Int32) &&& 31)).toInt + 1 := xadd_g rfl rfl (by omega) (by omega)
  refine xRun.of ?_
  refine i_35_0 (x := p) rfl ?_
  refine i_35_1 ?_
  refine i_35_2 (c := (p >>> ((5 : Int32) &&& 31))) rfl ?_
  refine i_35_3 (lv2 := [(2, Value.int (p >>> ((5 : Int32) &&& 31))), (0, Value.ref h), (1, Value.int p)]) rfl ?_
  refine i_35_4 (x := p) rfl ?_
  refine i_35_5 ?_
  refine i_35_7 (c := (p &&& (31 : Int32))) rfl ?_
  refine i_35_8 (lv2 := [(3, Value.int (p &&& (31 : Int32))), (2, Value.int (p >>> ((5 : Int32) &&& 31))), (0, Value.ref h), (1, Value.int p)]) rfl ?_
  refine i_35_9 (x := (p >>> ((5 : Int32) &&& 31))) rfl ?_
  refine i_35_10 (fun h => absurd (show 0 ≤ (p >>> ((5 : Int32) &&& 31)).toInt by omega) (Int.not_le.mpr h)) (fun _ => ?_)
  refine i_35_13 (x := (p >>> ((5 : Int32) &&& 31))) rfl ?_
  refine i_35_14 (x := h) rfl ?_
  refine i_35_15 (v := Value.int 1) hw rfl ?_
  refine i_35_18 (fun h => absurd (show 1 ≤ (p >>> ((5 : Int32) &&& 31)).toInt by omega) (Int.not_le.mpr h)) (fun _ => ?_)
  refine i_35_21 ?_
  refine i_35_22 ?_
  refine i_35_31 (lv2 := [(4, Value.int 0), (3, Value.int (p &&& (31 : Int32))), (2, Value.int (p >>> ((5 : Int32) &&& 31))), (0, Value.ref h), (1, Value.int p)]) rfl ?_
  refine i_35_33 (x := (p &&& (31 : Int32))) rfl ?_
  refine i_35_34 (fun _ => ?_) (fun h => absurd (show (p &&& (31 : Int32)).toInt ≠ 0 by omega) (fun g => g h))
  refine i_35_40 (x := (p >>> ((5 : Int32) &&& 31))) rfl ?_
  refine i_35_41 ?_
  refine i_35_42 (fun h => absurd (show (-1) ≤ (p >>> ((5 : Int32) &&& 31)).toInt by omega) (Int.not_le.mpr h)) (fun _ => ?_)
  refine i_35_45 (x := (p >>> ((5 : Int32) &&& 31))) rfl ?_
  refine i_35_46 ?_
  refine i_35_47 (c := ((p >>> ((5 : Int32) &&& 31)) + (1 : Int32))) rfl ?_
  refine i_35_48 (x := h) rfl ?_
  refine i_35_49 (v := Value.int 1) hw rfl ?_
  refine i_35_52 (fun h => absurd (show 1 ≤ ((p >>> ((5 : Int32) &&& 31)) + (1 : Int32)).toInt by omega) (Int.not_le.mpr h)) (fun _ => ?_)
  refine i_35_55 ?_
  refine i_35_56 ?_
  refine i_35_67 (lv2 := [(5, Value.int 0), (4, Value.int 0), (3, Value.int (p &&& (31 : Int32))), (2, Value.int (p >>> ((5 : Int32) &&& 31))), (0, Value.ref h), (1, Value.int p)]) rfl ?_
  refine i_35_69 (x := 0) rfl ?_
  refine i_35_71 (x := (p &&& (31 : Int32))) rfl ?_
  refine i_35_72 (c := (((0 : Int32).toUInt32 >>> ((p &&& (31 : Int32)).toUInt32 &&& Int32.toUInt32 31)).toInt32)) rfl ?_
  refine i_35_73 (x := 0) rfl ?_
  refine i_35_75 ?_
  refine i_35_77 (x := (p &&& (31 : Int32))) rfl ?_
  refine i_35_78 (c := ((32 : Int32) - (p &&& (31 : Int32)))) rfl ?_
  refine i_35_79 (c := ((0 : Int32) <<< (((32 : Int32) - (p &&& (31 : Int32))) &&& 31))) rfl ?_
  refine i_35_80 (c := ((((0 : Int32).toUInt32 >>> ((p &&& (31 : Int32)).toUInt32 &&& Int32.toUInt32 31)).toInt32) ||| ((0 : Int32) <<< (((32 : Int32) - (p &&& (31 : Int32))) &&& 31)))) rfl ?_
  exact i_35_81 ⟨rfl, rfl⟩
theorem bf_run1 {d : Nat} {w : xW} {h b : Nat} {g : Nat → Value} {u0 u1 p : Int32} (hw : w[h]? = some (Sum.inr (3, [Value.ref b, Value.int 1]))) (hb : w[b]? = some (Sum.inl (0, 8, g))) (hg0 : g (0 : Int32).toInt.toNat = Value.int u0) (hg1 : g (1 : Int32).toInt.toNat = Value.int u1) : xRun d 35 [Value.ref h, Value.int p] w (.inl (some (Value.int (xbf 1 u0 u1 p)))) w := by
  have h5 := xsr5 p
  have hA : (p >>> ((5 : Int32) &&& 31)).toInt ≤ -2 ∨ (p >>> ((5 : Int32) &&& 31)).toInt = -1 ∨ (p >>> ((5 : Int32) &&& 31)).toInt = 0 ∨ (p >>> ((5 : Int32) &&& 31)).toInt = 1 ∨ 2 ≤ (p >>> ((5 : Int32) &&& 31)).toInt := by omega
  have f1 : (p >>> ((5 : Int32) &&& 31) + (1 : Int32)).toInt = (p >>> ((5 : Int32) &&& 31)).toInt + 1 := by rw [xadd_i (by show _ ≤ _ + (1 : Int); omega) (by show _ + (1 : Int) < _; omega)]; rfl
  rcases hA with hA | hA | hA | hA | hA
  · by_cases hz : (p &&& (31 : Int32)).toInt = 0
    · have e : xbf 1 u0 u1 p = 0 := by unfold xbf; rw [if_pos hz, xbw_o (a := p >>> ((5 : Int32) &&& 31)) (Or.inl (by omega))]
      rw [e]; exact bf_1_0_0 hw hb hg0 hg1 (by omega) (by omega) hz
    · have e : xbf 1 u0 u1 p = ((((0 : Int32).toUInt32 >>> ((p &&& (31 : Int32)).toUInt32 &&& Int32.toUInt32 31)).toInt32) ||| ((0 : Int32) <<< (((32 : Int32) - (p &&& (31 : Int32))) &&& 31))) := by unfold xbf; rw [if_neg hz, xbw_o (a := p >>> ((5 : Int32) &&& 31)) (Or.inl (by omega)), xbw_o (a := p >>> ((5 : Int32) &&& 31) + (1 : Int32)) (Or.inl (by omega))]
      rw [e]; exact bf_1_0_1 hw hb hg0 hg1 (by omega) (by omega) hz
  · by_cases hz : (p &&& (31 : Int32)).toInt = 0
    · have e : xbf 1 u0 u1 p = 0 := by unfold xbf; rw [if_pos hz, show p >>> ((5 : Int32) &&& 31) = -1 from xge_c (n := -1) hA rfl]; rfl
      rw [e]; exact bf_1_1_0 hw hb hg0 hg1 (by omega) (by omega) hz
    · have e : xbf 1 u0 u1 p = ((((0 : Int32).toUInt32 >>> ((p &&& (31 : Int32)).toUInt32 &&& Int32.toUInt32 31)).toInt32) ||| (u0 <<< (((32 : Int32) - (p &&& (31 : Int32))) &&& 31))) := by unfold xbf; rw [if_neg hz, show p >>> ((5 : Int32) &&& 31) = -1 from xge_c (n := -1) hA rfl]; rfl
      rw [e]; exact bf_1_1_1 hw hb hg0 hg1 (by omega) (by omega) hz
  · by_cases hz : (p &&& (31 : Int32)).toInt = 0
    · have e : xbf 1 u0 u1 p = u0 := by unfold xbf; rw [if_pos hz, show p >>> ((5 : Int32) &&& 31) = 0 from xge_c (n := 0) hA rfl]; rfl
      rw [e]; exact bf_1_2_0 hw hb hg0 hg1 (by omega) (by omega) hz
    · have e : xbf 1 u0 u1 p = (((u0.toUInt32 >>> ((p &&& (31 : Int32)).toUInt32 &&& Int32.toUInt32 31)).toInt32) ||| ((0 : Int32) <<< (((32 : Int32) - (p &&& (31 : Int32))) &&& 31))) := by unfold xbf; rw [if_neg hz, show p >>> ((5 : Int32) &&& 31) = 0 from xge_c (n := 0) hA rfl]; rfl
      rw [e]; exact bf_1_2_1 hw hb hg0 hg1 (by omega) (by omega) hz
  · by_cases hz : (p &&& (31 : Int32)).toInt = 0
    · have e : xbf 1 u0 u1 p = 0 := by unfold xbf; rw [if_pos hz, show p >>> ((5 : Int32) &&& 31) = 1 from xge_c (n := 1) hA rfl]; rfl
      rw [e]; exact bf_1_3_0 hw hb hg0 hg1 (by omega) (by omega) hz
    · have e : xbf 1 u0 u1 p = ((((0 : Int32).toUInt32 >>> ((p &&& (31 : Int32)).toUInt32 &&& Int32.toUInt32 31)).toInt32) ||| ((0 : Int32) <<< (((32 : Int32) - (p &&& (31 : Int32))) &&& 31))) := by unfold xbf; rw [if_neg hz, show p >>> ((5 : Int32) &&& 31) = 1 from xge_c (n := 1) hA rfl]; rfl
      rw [e]; exact bf_1_3_1 hw hb hg0 hg1 (by omega) (by omega) hz
  · by_cases hz : (p &&& (31 : Int32)).toInt = 0
    · have e : xbf 1 u0 u1 p = 0 := by unfold xbf; rw [if_pos hz, xbw_o (a := p >>> ((5 : Int32) &&& 31)) (Or.inr (by show (1 : Int) ≤ _; omega))]
      rw [e]; exact bf_1_4_0 hw hb hg0 hg1 (by omega) (by omega) hz
    · have e : xbf 1 u0 u1 p = ((((0 : Int32).toUInt32 >>> ((p &&& (31 : Int32)).toUInt32 &&& Int32.toUInt32 31)).toInt32) ||| ((0 : Int32) <<< (((32 : Int32) - (p &&& (31 : Int32))) &&& 31))) := by unfold xbf; rw [if_neg hz, xbw_o (a := p >>> ((5 : Int32) &&& 31)) (Or.inr (by show (1 : Int) ≤ _; omega)), xbw_o (a := p >>> ((5 : Int32) &&& 31) + (1 : Int32)) (Or.inr (by show (1 : Int) ≤ _; omega))]
      rw [e]; exact bf_1_4_1 hw hb hg0 hg1 (by omega) (by omega) hz
theorem bf_2_0_0 {d : Nat} {w : xW} {h b : Nat} {g : Nat → Value} {u0 u1 p : Int32} (hw : w[h]? = some (Sum.inr (3, [Value.ref b, Value.int 2]))) (hb : w[b]? = some (Sum.inl (0, 8, g))) (hg0 : g (0 : Int32).toInt.toNat = Value.int u0) (hg1 : g (1 : Int32).toInt.toNat = Value.int u1) (c0 : -67108864 ≤ (p >>> ((5 : Int32) &&& 31)).toInt) (c1 : (p >>> ((5 : Int32) &&& 31)).toInt ≤ -2) (c2 : (p &&& (31 : Int32)).toInt = 0) : xRun d 35 [Value.ref h, Value.int p] w (.inl (some (Value.int 0))) w := by
  refine xRun.of ?_
  refine i_35_0 (x := p) rfl ?_
  refine i_35_1 ?_
  refine i_35_2 (c := (p >>> ((5 : Int32) &&& 31))) rfl ?_
  refine i_35_3 (lv2 := [(2, Value.int (p >>> ((5 : Int32) &&& 31))), (0, Value.ref h), (1, Value.int p)]) rfl ?_
  refine i_35_4 (x := p) rfl ?_
  refine i_35_5 ?_
  refine i_35_7 (c := 0) (show (p &&& (31 : Int32)) = 0 from (xge_c (n := 0) (by omega) rfl)) ?_
  refine i_35_8 (lv2 := [(3, Value.int 0), (2, Value.int (p >>> ((5 : Int32) &&& 31))), (0, Value.ref h), (1, Value.int p)]) rfl ?_
  refine i_35_9 (x := (p >>> ((5 : Int32) &&& 31))) rfl ?_
  refine i_35_10 (fun _ => ?_) (fun h => absurd (show (p >>> ((5 : Int32) &&& 31)).toInt < 0 by omega) (Int.not_lt.mpr h))
  refine i_35_21 ?_
  refine i_35_22 ?_
  refine i_35_31 (lv2 := [(4, Value.int 0), (3, Value.int 0), (2, Value.int (p >>> ((5 : Int32) &&& 31))), (0, Value.ref h), (1, Value.int p)]) rfl ?_
  refine i_35_33 (x := 0) rfl ?_
  refine i_35_34 (fun h => absurd h (by decide)) (fun _ => ?_)
  refine i_35_37 (x := 0) rfl ?_
  exact i_35_39 ⟨rfl, rfl⟩
theorem bf_2_0_1 {d : Nat} {w : xW} {h b : Nat} {g : Nat → Value} {u0 u1 p : Int32} (hw : w[h]? = some (Sum.inr (3, [Value.ref b, Value.int 2]))) (hb : w[b]? = some (Sum.inl (0, 8, g))) (hg0 : g (0 : Int32).toInt.toNat = Value.int u0) (hg1 : g (1 : Int32).toInt.toNat = Value.int u1) (c0 : -67108864 ≤ (p >>> ((5 : Int32) &&& 31)).toInt) (c1 : (p >>> ((5 : Int32) &&& 31)).toInt ≤ -2) (c2 : (p &&& (31 : Int32)).toInt ≠ 0) : xRun d 35 [Value.ref h, Value.int p] w (.inl (some (Value.int ((((0 : Int32).toUInt32 >>> ((p &&& (31 : Int32)).toUInt32 &&& Int32.toUInt32 31)).toInt32) ||| ((0 : Int32) <<< (((32 : Int32) - (p &&& (31 : Int32))) &&& 31)))))) w := by
  refine xRun.of ?_
  refine i_35_0 (x := p) rfl ?_
  refine i_35_1 ?_
  refine i_35_2 (c := (p >>> ((5 : Int32) &&& 31))) rfl ?_
  refine i_35_3 (lv2 := [(2, Value.int (p >>> ((5 : Int32) &&& 31))), (0, Value.ref h), (1, Value.int p)]) rfl ?_
  refine i_35_4 (x := p) rfl ?_
  refine i_35_5 ?_
  refine i_35_7 (c := (p &&& (31 : Int32))) rfl ?_
  refine i_35_8 (lv2 := [(3, Value.int (p &&& (31 : Int32))), (2, Value.int (p >>> ((5 : Int32) &&& 31))), (0, Value.ref h), (1, Value.int p)]) rfl ?_
  refine i_35_9 (x := (p >>> ((5 : Int32) &&& 31))) rfl ?_
  refine i_35_10 (fun _ => ?_) (fun h => absurd (show (p >>> ((5 : Int32) &&& 31)).toInt < 0 by omega) (Int.not_lt.mpr h))
  refine i_35_21 ?_
  refine i_35_22 ?_
  refine i_35_31 (lv2 := [(4, Value.int 0), (3, Value.int (p &&& (31 : Int32))), (2, Value.int (p >>> ((5 : Int32) &&& 31))), (0, Value.ref h), (1, Value.int p)]) rfl ?_
  refine i_35_33 (x := (p &&& (31 : Int32))) rfl ?_
  refine i_35_34 (fun _ => ?_) (fun h => absurd (show (p &&& (31 : Int32)).toInt ≠ 0 by omega) (fun g => g h))
  refine i_35_40 (x := (p >>> ((5 : Int32) &&& 31))) rfl ?_
  refine i_35_41 ?_
  refine i_35_42 (fun _ => ?_) (fun h => absurd (show (p >>> ((5 : Int32) &&& 31)).toInt < (-1) by omega) (Int.not_lt.mpr h))
  refine i_35_55 ?_
  refine i_35_56 ?_
  refine i_35_67 (lv2 := [(5, Value.int 0), (4, Value.int 0), (3, Value.int (p &&& (31 : Int32))), (2, Value.int (p >>> ((5 : Int32) &&& 31))), (0, Value.ref h), (1, Value.int p)]) rfl ?_
  refine i_35_69 (x := 0) rfl ?_
  refine i_35_71 (x := (p &&& (31 : Int32))) rfl ?_
  refine i_35_72 (c := (((0 : Int32).toUInt32 >>> ((p &&& (31 : Int32)).toUInt32 &&& Int32.toUInt32 31)).toInt32)) rfl ?_
  refine i_35_73 (x := 0) rfl ?_
  refine i_35_75 ?_
  refine i_35_77 (x := (p &&& (31 : Int32))) rfl ?_
  refine i_35_78 (c := ((32 : Int32) - (p &&& (31 : Int32)))) rfl ?_
  refine i_35_79 (c := ((0 : Int32) <<< (((32 : Int32) - (p &&& (31 : Int32))) &&& 31))) rfl ?_
  refine i_35_80 (c := ((((0 : Int32).toUInt32 >>> ((p &&& (31 : Int32)).toUInt32 &&& Int32.toUInt32 31)).toInt32) ||| ((0 : Int32) <<< (((32 : Int32) - (p &&& (31 : Int32))) &&& 31)))) rfl ?_
  exact i_35_81 ⟨rfl, rfl⟩
theorem bf_2_1_0 {d : Nat} {w : xW} {h b : Nat} {g : Nat → Value} {u0 u1 p : Int32} (hw : w[h]? = some (Sum.inr (3, [Value.ref b, Value.int 2]))) (hb : w[b]? = some (Sum.inl (0, 8, g))) (hg0 : g (0 : Int32).toInt.toNat = Value.int u0) (hg1 : g (1 : Int32).toInt.toNat = Value.int u1) (c0 : -1 ≤ (p >>> ((5 : Int32) &&& 31)).toInt) (c1 : (p >>> ((5 : Int32) &&& 31)).toInt ≤ -1) (c2 : (p &&& (31 : Int32)).toInt = 0) : xRun d 35 [Value.ref h, Value.int p] w (.inl (some (Value.int 0))) w := by
  refine xRun.of ?_
  refine i_35_0 (x := p) rfl ?_
  refine i_35_1 ?_
  refine i_35_2 (c := (-1)) (show (p >>> ((5 : Int32) &&& 31)) = (-1) from (xge_c (n := -1) (by omega) rfl)) ?_
  refine i_35_3 (lv2 := [(2, Value.int (-1)), (0, Value.ref h), (1, Value.int p)]) rfl ?_
  refine i_35_4 (x := p) rfl ?_
  refine i_35_5 ?_
  refine i_35_7 (c := 0) (show (p &&& (31 : Int32)) = 0 from (xge_c (n := 0) (by omega) rfl)) ?_
  refine i_35_8 (lv2 := [(3, Value.int 0), (2, Value.int (-1)), (0, Value.ref h), (1, Value.int p)]) rfl ?_
  refine i_35_9 (x := (-1)) rfl ?_
  refine i_35_10 (fun _ => ?_) (fun h => absurd h (by decide))
  refine i_35_21 ?_
  refine i_35_22 ?_
  refine i_35_31 (lv2 := [(4, Value.int 0), (3, Value.int 0), (2, Value.int (-1)), (0, Value.ref h), (1, Value.int p)]) rfl ?_
  refine i_35_33 (x := 0) rfl ?_
  refine i_35_34 (fun h => absurd h (by decide)) (fun _ => ?_)
  refine i_35_37 (x := 0) rfl ?_
  exact i_35_39 ⟨rfl, rfl⟩
theorem bf_2_1_1 {d : Nat} {w : xW} {h b : Nat} {g : Nat → Value} {u0 u1 p : Int32} (hw : w[h]? = some (Sum.inr (3, [Value.ref b, Value.int 2]))) (hb : w[b]? = some (Sum.inl (0, 8, g))) (hg0 : g (0 : Int32).toInt.toNat = Value.int u0) (hg1 : g (1 : Int32).toInt.toNat = Value.int u1) (c0 : -1 ≤ (p >>> ((5 : Int32) &&& 31)).toInt) (c1 : (p >>> ((5 : Int32) &&& 31)).toInt ≤ -1) (c2 : (p &&& (31 : Int32)).toInt ≠ 0) : xRun d 35 [Value.ref h, Value.int p] w (.inl (some (Value.int ((((0 : Int32).toUInt32 >>> ((p &&& (31 : Int32)).toUInt32 &&& Int32.toUInt32 31)).toInt32) ||| (u0 <<< (((32 : Int32) - (p &&& (31 : Int32))) &&& 31)))))) w := by
  refine xRun.of ?_
  refine i_35_0 (x := p) rfl ?_
  refine i_35_1 ?_
  refine i_35_2 (c := (-1)) (show (p >>> ((5 : Int32) &&& 31)) = (-1) from (xge_c (n := -1) (by omega) rfl)) ?_
  refine i_35_3 (lv2 := [(2, Value.int (-1)), (0, Value.ref h), (1, Value.int p)]) rfl ?_
  refine i_35_4 (x := p) rfl ?_
  refine i_35_5 ?_
  refine i_35_7 (c := (p &&& (31 : Int32))) rfl ?_
  refine i_35_8 (lv2 := [(3, Value.int (p &&& (31 : Int32))), (2, Value.int (-1)), (0, Value.ref h), (1, Value.int p)]) rfl ?_
  refine i_35_9 (x := (-1)) rfl ?_
  refine i_35_10 (fun _ => ?_) (fun h => absurd h (by decide))
  refine i_35_21 ?_
  refine i_35_22 ?_
  refine i_35_31 (lv2 := [(4, Value.int 0), (3, Value.int (p &&& (31 : Int32))), (2, Value.int (-1)), (0, Value.ref h), (1, Value.int p)]) rfl ?_
  refine i_35_33 (x := (p &&& (31 : Int32))) rfl ?_
  refine i_35_34 (fun _ => ?_) (fun h => absurd (show (p &&& (31 : Int32)).toInt ≠ 0 by omega) (fun g => g h))
  refine i_35_40 (x := (-1)) rfl ?_
  refine i_35_41 ?_
  refine i_35_42 (fun h => absurd h (by decide)) (fun _ => ?_)
  refine i_35_45 (x := (-1)) rfl ?_
  refine i_35_46 ?_
  refine i_35_47 (c := 0) (by decide) ?_
  refine i_35_48 (x := h) rfl ?_
  refine i_35_49 (v := Value.int 2) hw rfl ?_
  refine i_35_52 (fun _ => ?_) (fun h => absurd h (by decide))
  refine i_35_59 (x := h) rfl ?_
  refine i_35_60 (v := Value.ref b) hw rfl ?_
  refine i_35_63 (x := (-1)) rfl ?_
  refine i_35_64 ?_
  refine i_35_65 (c := 0) (by decide) ?_
  refine i_35_66 (v := Value.int u0) hb (by decide) (by decide) hg0 ?_
  refine i_35_67 (lv2 := [(5, Value.int u0), (4, Value.int 0), (3, Value.int (p &&& (31 : Int32))), (2, Value.int (-1)), (0, Value.ref h), (1, Value.int p)]) rfl ?_
  refine i_35_69 (x := 0) rfl ?_
  refine i_35_71 (x := (p &&& (31 : Int32))) rfl ?_
  refine i_35_72 (c := (((0 : Int32).toUInt32 >>> ((p &&& (31 : Int32)).toUInt32 &&& Int32.toUInt32 31)).toInt32)) rfl ?_
  refine i_35_73 (x := u0) rfl ?_
  refine i_35_75 ?_
  refine i_35_77 (x := (p &&& (31 : Int32))) rfl ?_
  refine i_35_78 (c := ((32 : Int32) - (p &&& (31 : Int32)))) rfl ?_
  refine i_35_79 (c := (u0 <<< (((32 : Int32) - (p &&& (31 : Int32))) &&& 31))) rfl ?_
  refine i_35_80 (c := ((((0 : Int32).toUInt32 >>> ((p &&& (31 : Int32)).toUInt32 &&& Int32.toUInt32 31)).toInt32) ||| (u0 <<< (((32 : Int32) - (p &&& (31 : Int32))) &&& 31)))) rfl ?_
  exact i_35_81 ⟨rfl, rfl⟩
theorem bf_2_2_0 {d : Nat} {w : xW} {h b : Nat} {g : Nat → Value} {u0 u1 p : Int32} (hw : w[h]? = some (Sum.inr (3, [Value.ref b, Value.int 2]))) (hb : w[b]? = some (Sum.inl (0, 8, g))) (hg0 : g (0 : Int32).toInt.toNat = Value.int u0) (hg1 : g (1 : Int32).toInt.toNat = Value.int u1) (c0 : 0 ≤ (p >>> ((5 : Int32) &&& 31)).toInt) (c1 : (p >>> ((5 : Int32) &&& 31)).toInt ≤ 0) (c2 : (p &&& (31 : Int32)).toInt = 0) : xRun d 35 [Value.ref h, Value.int p] w (.inl (some (Value.int u0))) w := by
  refine xRun.of ?_
  refine i_35_0 (x := p) rfl ?_
  refine i_35_1 ?_
  refine i_35_2 (c := 0) (show (p >>> ((5 : Int32) &&& 31)) = 0 from (xge_c (n := 0) (by omega) rfl)) ?_
  refine i_35_3 (lv2 := [(2, Value.int 0), (0, Value.ref h), (1, Value.int p)]) rfl ?_
  refine i_35_4 (x := p) rfl ?_
  refine i_35_5 ?_
  refine i_35_7 (c := 0) (show (p &&& (31 : Int32)) = 0 from (xge_c (n := 0) (by omega) rfl)) ?_
  refine i_35_8 (lv2 := [(3, Value.int 0), (2, Value.int 0), (0, Value.ref h), (1, Value.int p)]) rfl ?_
  refine i_35_9 (x := 0) rfl ?_
  refine i_35_10 (fun h => absurd h (by decide)) (fun _ => ?_)
  refine i_35_13 (x := 0) rfl ?_
  refine i_35_14 (x := h) rfl ?_
  refine i_35_15 (v := Value.int 2) hw rfl ?_
  refine i_35_18 (fun _ => ?_) (fun h => absurd h (by decide))
  refine i_35_25 (x := h) rfl ?_
  refine i_35_26 (v := Value.ref b) hw rfl ?_
  refine i_35_29 (x := 0) rfl ?_
  refine i_35_30 (v := Value.int u0) hb (by decide) (by decide) hg0 ?_
  refine i_35_31 (lv2 := [(4, Value.int u0), (3, Value.int 0), (2, Value.int 0), (0, Value.ref h), (1, Value.int p)]) rfl ?_
  refine i_35_33 (x := 0) rfl ?_
  refine i_35_34 (fun h => absurd h (by decide)) (fun _ => ?_)
  refine i_35_37 (x := u0) rfl ?_
  exact i_35_39 ⟨rfl, rfl⟩
theorem bf_2_2_1 {d : Nat} {w : xW} {h b : Nat} {g : Nat → Value} {u0 u1 p : Int32} (hw : w[h]? = some (Sum.inr (3, [Value.ref b, Value.int 2]))) (hb : w[b]? = some (Sum.inl (0, 8, g))) (hg0 : g (0 : Int32).toInt.toNat = Value.int u0) (hg1 : g (1 : Int32).toInt.toNat = Value.int u1) (c0 : 0 ≤ (p >>> ((5 : Int32) &&& 31)).toInt) (c1 : (p >>> ((5 : Int32) &&& 31)).toInt ≤ 0) (c2 : (p &&& (31 : Int32)).toInt ≠ 0) : xRun d 35 [Value.ref h, Value.int p] w (.inl (some (Value.int (((u0.toUInt32 >>> ((p &&& (31 : Int32)).toUInt32 &&& Int32.toUInt32 31)).toInt32) ||| (u1 <<< (((32 : Int32) - (p &&& (31 : Int32))) &&& 31)))))) w := by
  refine xRun.of ?_
  refine i_35_0 (x := p) rfl ?_
  refine i_35_1 ?_
  refine i_35_2 (c := 0) (show (p >>> ((5 : Int32) &&& 31)) = 0 from (xge_c (n := 0) (by omega) rfl)) ?_
  refine i_35_3 (lv2 := [(2, Value.int 0), (0, Value.ref h), (1, Value.int p)]) rfl ?_
  refine i_35_4 (x := p) rfl ?_
  refine i_35_5 ?_
  refine i_35_7 (c := (p &&& (31 : Int32))) rfl ?_
  refine i_35_8 (lv2 := [(3, Value.int (p &&& (31 : Int32))), (2, Value.int 0), (0, Value.ref h), (1, Value.int p)]) rfl ?_
  refine i_35_9 (x := 0) rfl ?_
  refine i_35_10 (fun h => absurd h (by decide)) (fun _ => ?_)
  refine i_35_13 (x := 0) rfl ?_
  refine i_35_14 (x := h) rfl ?_
  refine i_35_15 (v := Value.int 2) hw rfl ?_
  refine i_35_18 (fun _ => ?_) (fun h => absurd h (by decide))
  refine i_35_25 (x := h) rfl ?_
  refine i_35_26 (v := Value.ref b) hw rfl ?_
  refine i_35_29 (x := 0) rfl ?_
  refine i_35_30 (v := Value.int u0) hb (by decide) (by decide) hg0 ?_
  refine i_35_31 (lv2 := [(4, Value.int u0), (3, Value.int (p &&& (31 : Int32))), (2, Value.int 0), (0, Value.ref h), (1, Value.int p)]) rfl ?_
  refine i_35_33 (x := (p &&& (31 : Int32))) rfl ?_
  refine i_35_34 (fun _ => ?_) (fun h => absurd (show (p &&& (31 : Int32)).toInt ≠ 0 by omega) (fun g => g h))
  refine i_35_40 (x := 0) rfl ?_
  refine i_35_41 ?_
  refine i_35_42 (fun h => absurd h (by decide)) (fun _ => ?_)
  refine i_35_45 (x := 0) rfl ?_
  refine i_35_46 ?_
  refine i_35_47 (c := 1) (by decide) ?_
  refine i_35_48 (x := h) rfl ?_
  refine i_35_49 (v := Value.int 2) hw rfl ?_
  refine i_35_52 (fun _ => ?_) (fun h => absurd h (by decide))
  refine i_35_59 (x := h) rfl ?_
  refine i_35_60 (v := Value.ref b) hw rfl ?_
  refine i_35_63 (x := 0) rfl ?_
  refine i_35_64 ?_
  refine i_35_65 (c := 1) (by decide) ?_
  refine i_35_66 (v := Value.int u1) hb (by decide) (by decide) hg1 ?_
  refine i_35_67 (lv2 := [(5, Value.int u1), (4, Value.int u0), (3, Value.int (p &&& (31 : Int32))), (2, Value.int 0), (0, Value.ref h), (1, Value.int p)]) rfl ?_
  refine i_35_69 (x := u0) rfl ?_
  refine i_35_71 (x := (p &&& (31 : Int32))) rfl ?_
  refine i_35_72 (c := ((u0.toUInt32 >>> ((p &&& (31 : Int32)).toUInt32 &&& Int32.toUInt32 31)).toInt32)) rfl ?_
  refine i_35_73 (x := u1) rfl ?_
  refine i_35_75 ?_
  refine i_35_77 (x := (p &&& (31 : Int32))) rfl ?_
  refine i_35_78 (c := ((32 : Int32) - (p &&& (31 : Int32)))) rfl ?_
  refine i_35_79 (c := (u1 <<< (((32 : Int32) - (p &&& (31 : Int32))) &&& 31))) rfl ?_
  refine i_35_80 (c := (((u0.toUInt32 >>> ((p &&& (31 : Int32)).toUInt32 &&& Int32.toUInt32 31)).toInt32) ||| (u1 <<< (((32 : Int32) - (p &&& (31 : Int32))) &&& 31)))) rfl ?_
  exact i_35_81 ⟨rfl, rfl⟩
theorem bf_2_3_0 {d : Nat} {w : xW} {h b : Nat} {g : Nat → Value} {u0 u1 p : Int32} (hw : w[h]? = some (Sum.inr (3, [Value.ref b, Value.int 2]))) (hb : w[b]? = some (Sum.inl (0, 8, g))) (hg0 : g (0 : Int32).toInt.toNat = Value.int u0) (hg1 : g (1 : Int32).toInt.toNat = Value.int u1) (c0 : 1 ≤ (p >>> ((5 : Int32) &&& 31)).toInt) (c1 : (p >>> ((5 : Int32) &&& 31)).toInt ≤ 1) (c2 : (p &&& (31 : Int32)).toInt = 0) : xRun d 35 [Value.ref h, Value.int p] w (.inl (some (Value.int u1))) w := by
  refine xRun.of ?_
  refine i_35_0 (x := p) rfl ?_
  refine i_35_1 ?_
  refine i_35_2 (c := 1) (show (p >>> ((5 : Int32) &&& 31)) = 1 from (xge_c (n := 1) (by omega) rfl)) ?_
  refine i_35_3 (lv2 := [(2, Value.int 1), (0, Value.ref h), (1, Value.int p)]) rfl ?_
  refine i_35_4 (x := p) rfl ?_
  refine i_35_5 ?_
  refine i_35_7 (c := 0) (show (p &&& (31 : Int32)) = 0 from (xge_c (n := 0) (by omega) rfl)) ?_
  refine i_35_8 (lv2 := [(3, Value.int 0), (2, Value.int 1), (0, Value.ref h), (1, Value.int p)]) rfl ?_
  refine i_35_9 (x := 1) rfl ?_
  refine i_35_10 (fun h => absurd h (by decide)) (fun _ => ?_)
  refine i_35_13 (x := 1) rfl ?_
  refine i_35_14 (x := h) rfl ?_
  refine i_35_15 (v := Value.int 2) hw rfl ?_
  refine i_35_18 (fun _ => ?_) (fun h => absurd h (by decide))
  refine i_35_25 (x := h) rfl ?_
  refine i_35_26 (v := Value.ref b) hw rfl ?_
  refine i_35_29 (x := 1) rfl ?_
  refine i_35_30 (v := Value.int u1) hb (by decide) (by decide) hg1 ?_
  refine i_35_31 (lv2 := [(4, Value.int u1), (3, Value.int 0), (2, Value.int 1), (0, Value.ref h), (1, Value.int p)]) rfl ?_
  refine i_35_33 (x := 0) rfl ?_
  refine i_35_34 (fun h => absurd h (by decide)) (fun _ => ?_)
  refine i_35_37 (x := u1) rfl ?_
  exact i_35_39 ⟨rfl, rfl⟩
theorem bf_2_3_1 {d : Nat} {w : xW} {h b : Nat} {g : Nat → Value} {u0 u1 p : Int32} (hw : w[h]? = some (Sum.inr (3, [Value.ref b, Value.int 2]))) (hb : w[b]? = some (Sum.inl (0, 8, g))) (hg0 : g (0 : Int32).toInt.toNat = Value.int u0) (hg1 : g (1 : Int32).toInt.toNat = Value.int u1) (c0 : 1 ≤ (p >>> ((5 : Int32) &&& 31)).toInt) (c1 : (p >>> ((5 : Int32) &&& 31)).toInt ≤ 1) (c2 : (p &&& (31 : Int32)).toInt ≠ 0) : xRun d 35 [Value.ref h, Value.int p] w (.inl (some (Value.int (((u1.toUInt32 >>> ((p &&& (31 : Int32)).toUInt32 &&& Int32.toUInt32 31)).toInt32) ||| ((0 : Int32) <<< (((32 : Int32) - (p &&& (31 : Int32))) &&& 31)))))) w := by
  refine xRun.of ?_
  refine i_35_0 (x := p) rfl ?_
  refine i_35_1 ?_
  refine i_35_2 (c := 1) (show (p >>> ((5 : Int32) &&& 31)) = 1 from (xge_c (n := 1) (by omega) rfl)) ?_
  refine i_35_3 (lv2 := [(2, Value.int 1), (0, Value.ref h), (1, Value.int p)]) rfl ?_
  refine i_35_4 (x := p) rfl ?_
  refine i_35_5 ?_
  refine i_35_7 (c := (p &&& (31 : Int32))) rfl ?_
  refine i_35_8 (lv2 := [(3, Value.int (p &&& (31 : Int32))), (2, Value.int 1), (0, Value.ref h), (1, Value.int p)]) rfl ?_
  refine i_35_9 (x := 1) rfl ?_
  refine i_35_10 (fun h => absurd h (by decide)) (fun _ => ?_)
  refine i_35_13 (x := 1) rfl ?_
  refine i_35_14 (x := h) rfl ?_
  refine i_35_15 (v := Value.int 2) hw rfl ?_
  refine i_35_18 (fun _ => ?_) (fun h => absurd h (by decide))
  refine i_35_25 (x := h) rfl ?_
  refine i_35_26 (v := Value.ref b) hw rfl ?_
  refine i_35_29 (x := 1) rfl ?_
  refine i_35_30 (v := Value.int u1) hb (by decide) (by decide) hg1 ?_
  refine i_35_31 (lv2 := [(4, Value.int u1), (3, Value.int (p &&& (31 : Int32))), (2, Value.int 1), (0, Value.ref h), (1, Value.int p)]) rfl ?_
  refine i_35_33 (x := (p &&& (31 : Int32))) rfl ?_
  refine i_35_34 (fun _ => ?_) (fun h => absurd (show (p &&& (31 : Int32)).toInt ≠ 0 by omega) (fun g => g h))
  refine i_35_40 (x := 1) rfl ?_
  refine i_35_41 ?_
  refine i_35_42 (fun h => absurd h (by decide)) (fun _ => ?_)
  refine i_35_45 (x := 1) rfl ?_
  refine i_35_46 ?_
  refine i_35_47 (c := 2) (by decide) ?_
  refine i_35_48 (x := h) rfl ?_
  refine i_35_49 (v := Value.int 2) hw rfl ?_
  refine i_35_52 (fun h => absurd h (by decide)) (fun _ => ?_)
  refine i_35_55 ?_
  refine i_35_56 ?_
  refine i_35_67 (lv2 := [(5, Value.int 0), (4, Value.int u1), (3, Value.int (p &&& (31 : Int32))), (2, Value.int 1), (0, Value.ref h), (1, Value.int p)]) rfl ?_
  refine i_35_69 (x := u1) rfl ?_
  refine i_35_71 (x := (p &&& (31 : Int32))) rfl ?_
  refine i_35_72 (c := ((u1.toUInt32 >>> ((p &&& (31 : Int32)).toUInt32 &&& Int32.toUInt32 31)).toInt32)) rfl ?_
  refine i_35_73 (x := 0) rfl ?_
  refine i_35_75 ?_
  refine i_35_77 (x := (p &&& (31 : Int32))) rfl ?_
  refine i_35_78 (c := ((32 : Int32) - (p &&& (31 : Int32)))) rfl ?_
  refine i_35_79 (c := ((0 : Int32) <<< (((32 : Int32) - (p &&& (31 : Int32))) &&& 31))) rfl ?_
  refine i_35_80 (c := (((u1.toUInt32 >>> ((p &&& (31 : Int32)).toUInt32 &&& Int32.toUInt32 31)).toInt32) ||| ((0 : Int32) <<< (((32 : Int32) - (p &&& (31 : Int32))) &&& 31)))) rfl ?_
  exact i_35_81 ⟨rfl, rfl⟩
theorem bf_2_4_0 {d : Nat} {w : xW} {h b : Nat} {g : Nat → Value} {u0 u1 p : Int32} (hw : w[h]? = some (Sum.inr (3, [Value.ref b, Value.int 2]))) (hb : w[b]? = some (Sum.inl (0, 8, g))) (hg0 : g (0 : Int32).toInt.toNat = Value.int u0) (hg1 : g (1 : Int32).toInt.toNat = Value.int u1) (c0 : 2 ≤ (p >>> ((5 : Int32) &&& 31)).toInt) (c1 : (p >>> ((5 : Int32) &&& 31)).toInt ≤ 67108863) (c2 : (p &&& (31 : Int32)).toInt = 0) : xRun d 35 [Value.ref h, Value.int p] w (.inl (some (Value.int 0))) w := by
  refine xRun.of ?_
  refine i_35_0 (x := p) rfl ?_
  refine i_35_1 ?_
  refine i_35_2 (c := (p >>> ((5 : Int32) &&& 31))) rfl ?_
  refine i_35_3 (lv2 := [(2, Value.int (p >>> ((5 : Int32) &&& 31))), (0, Value.ref h), (1, Value.int p)]) rfl ?_
  refine i_35_4 (x := p) rfl ?_
  refine i_35_5 ?_
  refine i_35_7 (c := 0) (show (p &&& (31 : Int32)) = 0 from (xge_c (n := 0) (by omega) rfl)) ?_
  refine i_35_8 (lv2 := [(3, Value.int 0), (2, Value.int (p >>> ((5 : Int32) &&& 31))), (0, Value.ref h), (1, Value.int p)]) rfl ?_
  refine i_35_9 (x := (p >>> ((5 : Int32) &&& 31))) rfl ?_
  refine i_35_10 (fun h => absurd (show 0 ≤ (p >>> ((5 : Int32) &&& 31)).toInt by omega) (Int.not_le.mpr h)) (fun _ => ?_)
  refine i_35_13 (x := (p >>> ((5 : Int32) &&& 31))) rfl ?_
  refine i_35_14 (x := h) rfl ?_
  refine i_35_15 (v := Value.int 2) hw rfl ?_
  refine i_35_18 (fun h => absurd (show 2 ≤ (p >>> ((5 : Int32) &&& 31)).toInt by omega) (Int.not_le.mpr h)) (fun _ => ?_)
  refine i_35_21 ?_
  refine i_35_22 ?_
  refine i_35_31 (lv2 := [(4, Value.int 0), (3, Value.int 0), (2, Value.int (p >>> ((5 : Int32) &&& 31))), (0, Value.ref h), (1, Value.int p)]) rfl ?_
  refine i_35_33 (x := 0) rfl ?_
  refine i_35_34 (fun h => absurd h (by decide)) (fun _ => ?_)
  refine i_35_37 (x := 0) rfl ?_
  exact i_35_39 ⟨rfl, rfl⟩
theorem bf_2_4_1 {d : Nat} {w : xW} {h b : Nat} {g : Nat → Value} {u0 u1 p : Int32} (hw : w[h]? = some (Sum.inr (3, [Value.ref b, Value.int 2]))) (hb : w[b]? = some (Sum.inl (0, 8, g))) (hg0 : g (0 : Int32).toInt.toNat = Value.int u0) (hg1 : g (1 : Int32).toInt.toNat = Value.int u1) (c0 : 2 ≤ (p >>> ((5 : Int32) &&& 31)).toInt) (c1 : (p >>> ((5 : Int32) &&& 31)).toInt ≤ 67108863) (c2 : (p &&& (31 : Int32)).toInt ≠ 0) : xRun d 35 [Value.ref h, Value.int p] w (.inl (some (Value.int ((((0 : Int32).toUInt32 >>> ((p &&& (31 : Int32)).toUInt32 &&& Int32.toUInt32 31)).toInt32) ||| ((0 : Int32) <<< (((32 : Int32) - (p &&& (31 : Int32))) &&& 31)))))) w := by
  have f0 : ((p >>> ((5 : Int32) &&& 31)) + (1 : Int32)).toInt = (p >>> ((5 : Int32) &&& 31)).toInt + 1 := xadd_g rfl rfl (by omega) (by omega)
  refine xRun.of ?_
  refine i_35_0 (x := p) rfl ?_
  refine i_35_1 ?_
  refine i_35_2 (c := (p >>> ((5 : Int32) &&& 31))) rfl ?_
  refine i_35_3 (lv2 := [(2, Value.int (p >>> ((5 : Int32) &&& 31))), (0, Value.ref h), (1, Value.int p)]) rfl ?_
  refine i_35_4 (x := p) rfl ?_
  refine i_35_5 ?_
  refine i_35_7 (c := (p &&& (31 : Int32))) rfl ?_
  refine i_35_8 (lv2 := [(3, Value.int (p &&& (31 : Int32))), (2, Value.int (p >>> ((5 : Int32) &&& 31))), (0, Value.ref h), (1, Value.int p)]) rfl ?_
  refine i_35_9 (x := (p >>> ((5 : Int32) &&& 31))) rfl ?_
  refine i_35_10 (fun h => absurd (show 0 ≤ (p >>> ((5 : Int32) &&& 31)).toInt by omega) (Int.not_le.mpr h)) (fun _ => ?_)
  refine i_35_13 (x := (p >>> ((5 : Int32) &&& 31))) rfl ?_
  refine i_35_14 (x := h) rfl ?_
  refine i_35_15 (v := Value.int 2) hw rfl ?_
  refine i_35_18 (fun h => absurd (show 2 ≤ (p >>> ((5 : Int32) &&& 31)).toInt by omega) (Int.not_le.mpr h)) (fun _ => ?_)
  refine i_35_21 ?_
  refine i_35_22 ?_
  refine i_35_31 (lv2 := [(4, Value.int 0), (3, Value.int (p &&& (31 : Int32))), (2, Value.int (p >>> ((5 : Int32) &&& 31))), (0, Value.ref h), (1, Value.int p)]) rfl ?_
  refine i_35_33 (x := (p &&& (31 : Int32))) rfl ?_
  refine i_35_34 (fun _ => ?_) (fun h => absurd (show (p &&& (31 : Int32)).toInt ≠ 0 by omega) (fun g => g h))
  refine i_35_40 (x := (p >>> ((5 : Int32) &&& 31))) rfl ?_
  refine i_35_41 ?_
  refine i_35_42 (fun h => absurd (show (-1) ≤ (p >>> ((5 : Int32) &&& 31)).toInt by omega) (Int.not_le.mpr h)) (fun _ => ?_)
  refine i_35_45 (x := (p >>> ((5 : Int32) &&& 31))) rfl ?_
  refine i_35_46 ?_
  refine i_35_47 (c := ((p >>> ((5 : Int32) &&& 31)) + (1 : Int32))) rfl ?_
  refine i_35_48 (x := h) rfl ?_
  refine i_35_49 (v := Value.int 2) hw rfl ?_
  refine i_35_52 (fun h => absurd (show 2 ≤ ((p >>> ((5 : Int32) &&& 31)) + (1 : Int32)).toInt by omega) (Int.not_le.mpr h)) (fun _ => ?_)
  refine i_35_55 ?_
  refine i_35_56 ?_
  refine i_35_67 (lv2 := [(5, Value.int 0), (4, Value.int 0), (3, Value.int (p &&& (31 : Int32))), (2, Value.int (p >>> ((5 : Int32) &&& 31))), (0, Value.ref h), (1, Value.int p)]) rfl ?_
  refine i_35_69 (x := 0) rfl ?_
  refine i_35_71 (x := (p &&& (31 : Int32))) rfl ?_
  refine i_35_72 (c := (((0 : Int32).toUInt32 >>> ((p &&& (31 : Int32)).toUInt32 &&& Int32.toUInt32 31)).toInt32)) rfl ?_
  refine i_35_73 (x := 0) rfl ?_
  refine i_35_75 ?_
  refine i_35_77 (x := (p &&& (31 : Int32))) rfl ?_
  refine i_35_78 (c := ((32 : Int32) - (p &&& (31 : Int32)))) rfl ?_
  refine i_35_79 (c := ((0 : Int32) <<< (((32 : Int32) - (p &&& (31 : Int32))) &&& 31))) rfl ?_
  refine i_35_80 (c := ((((0 : Int32).toUInt32 >>> ((p &&& (31 : Int32)).toUInt32 &&& Int32.toUInt32 31)).toInt32) ||| ((0 : Int32) <<< (((32 : Int32) - (p &&& (31 : Int32))) &&& 31)))) rfl ?_
  exact i_35_81 ⟨rfl, rfl⟩
theorem bf_run2 {d : Nat} {w : xW} {h b : Nat} {g : Nat → Value} {u0 u1 p : Int32} (hw : w[h]? = some (Sum.inr (3, [Value.ref b, Value.int 2]))) (hb : w[b]? = some (Sum.inl (0, 8, g))) (hg0 : g (0 : Int32).toInt.toNat = Value.int u0) (hg1 : g (1 : Int32).toInt.toNat = Value.int u1) : xRun d 35 [Value.ref h, Value.int p] w (.inl (some (Value.int (xbf 2 u0 u1 p)))) w := by
  have h5 := xsr5 p
  have hA : (p >>> ((5 : Int32) &&& 31)).toInt ≤ -2 ∨ (p >>> ((5 : Int32) &&& 31)).toInt = -1 ∨ (p >>> ((5 : Int32) &&& 31)).toInt = 0 ∨ (p >>> ((5 : Int32) &&& 31)).toInt = 1 ∨ 2 ≤ (p >>> ((5 : Int32) &&& 31)).toInt := by omega
  have f1 : (p >>> ((5 : Int32) &&& 31) + (1 : Int32)).toInt = (p >>> ((5 : Int32) &&& 31)).toInt + 1 := by rw [xadd_i (by show _ ≤ _ + (1 : Int); omega) (by show _ + (1 : Int) < _; omega)]; rfl
  rcases hA with hA | hA | hA | hA | hA
  · by_cases hz : (p &&& (31 : Int32)).toInt = 0
    · have e : xbf 2 u0 u1 p = 0 := by unfold xbf; rw [if_pos hz, xbw_o (a := p >>> ((5 : Int32) &&& 31)) (Or.inl (by omega))]
      rw [e]; exact bf_2_0_0 hw hb hg0 hg1 (by omega) (by omega) hz
    · have e : xbf 2 u0 u1 p = ((((0 : Int32).toUInt32 >>> ((p &&& (31 : Int32)).toUInt32 &&& Int32.toUInt32 31)).toInt32) ||| ((0 : Int32) <<< (((32 : Int32) - (p &&& (31 : Int32))) &&& 31))) := by unfold xbf; rw [if_neg hz, xbw_o (a := p >>> ((5 : Int32) &&& 31)) (Or.inl (by omega)), xbw_o (a := p >>> ((5 : Int32) &&& 31) + (1 : Int32)) (Or.inl (by omega))]
      rw [e]; exact bf_2_0_1 hw hb hg0 hg1 (by omega) (by omega) hz
  · by_cases hz : (p &&& (31 : Int32)).toInt = 0
    · have e : xbf 2 u0 u1 p = 0 := by unfold xbf; rw [if_pos hz, show p >>> ((5 : Int32) &&& 31) = -1 from xge_c (n := -1) hA rfl]; rfl
      rw [e]; exact bf_2_1_0 hw hb hg0 hg1 (by omega) (by omega) hz
    · have e : xbf 2 u0 u1 p = ((((0 : Int32).toUInt32 >>> ((p &&& (31 : Int32)).toUInt32 &&& Int32.toUInt32 31)).toInt32) ||| (u0 <<< (((32 : Int32) - (p &&& (31 : Int32))) &&& 31))) := by unfold xbf; rw [if_neg hz, show p >>> ((5 : Int32) &&& 31) = -1 from xge_c (n := -1) hA rfl]; rfl
      rw [e]; exact bf_2_1_1 hw hb hg0 hg1 (by omega) (by omega) hz
  · by_cases hz : (p &&& (31 : Int32)).toInt = 0
    · have e : xbf 2 u0 u1 p = u0 := by unfold xbf; rw [if_pos hz, show p >>> ((5 : Int32) &&& 31) = 0 from xge_c (n := 0) hA rfl]; rfl
      rw [e]; exact bf_2_2_0 hw hb hg0 hg1 (by omega) (by omega) hz
    · have e : xbf 2 u0 u1 p = (((u0.toUInt32 >>> ((p &&& (31 : Int32)).toUInt32 &&& Int32.toUInt32 31)).toInt32) ||| (u1 <<< (((32 : Int32) - (p &&& (31 : Int32))) &&& 31))) := by unfold xbf; rw [if_neg hz, show p >>> ((5 : Int32) &&& 31) = 0 from xge_c (n := 0) hA rfl]; rfl
      rw [e]; exact bf_2_2_1 hw hb hg0 hg1 (by omega) (by omega) hz
  · by_cases hz : (p &&& (31 : Int32)).toInt = 0
    · have e : xbf 2 u0 u1 p = u1 := by unfold xbf; rw [if_pos hz, show p >>> ((5 : Int32) &&& 31) = 1 from xge_c (n := 1) hA rfl]; rfl
      rw [e]; exact bf_2_3_0 hw hb hg0 hg1 (by omega) (by omega) hz
    · have e : xbf 2 u0 u1 p = (((u1.toUInt32 >>> ((p &&& (31 : Int32)).toUInt32 &&& Int32.toUInt32 31)).toInt32) ||| ((0 : Int32) <<< (((32 : Int32) - (p &&& (31 : Int32))) &&& 31))) := by unfold xbf; rw [if_neg hz, show p >>> ((5 : Int32) &&& 31) = 1 from xge_c (n := 1) hA rfl]; rfl
      rw [e]; exact bf_2_3_1 hw hb hg0 hg1 (by omega) (by omega) hz
  · by_cases hz : (p &&& (31 : Int32)).toInt = 0
    · have e : xbf 2 u0 u1 p = 0 := by unfold xbf; rw [if_pos hz, xbw_o (a := p >>> ((5 : Int32) &&& 31)) (Or.inr (by show (2 : Int) ≤ _; omega))]
      rw [e]; exact bf_2_4_0 hw hb hg0 hg1 (by omega) (by omega) hz
    · have e : xbf 2 u0 u1 p = ((((0 : Int32).toUInt32 >>> ((p &&& (31 : Int32)).toUInt32 &&& Int32.toUInt32 31)).toInt32) ||| ((0 : Int32) <<< (((32 : Int32) - (p &&& (31 : Int32))) &&& 31))) := by unfold xbf; rw [if_neg hz, xbw_o (a := p >>> ((5 : Int32) &&& 31)) (Or.inr (by show (2 : Int) ≤ _; omega)), xbw_o (a := p >>> ((5 : Int32) &&& 31) + (1 : Int32)) (Or.inr (by show (2 : Int) ≤ _; omega))]
      rw [e]; exact bf_2_4_1 hw hb hg0 hg1 (by omega) (by omega) hz
theorem mb_loop {d h : Nat} {w : xW} {Q : Option Value ⊕ Nat → xW → Prop} (j : Nat) : ∀ (v b c : Int32), 0 ≤ v.toInt → xbl (xun v) = j → b + Int32.ofNat j = c → Q (.inl (some (.int c))) w → xEv d 181 31 [(2, Value.int v), (1, Value.int b), (0, Value.ref h)] [] w Q := by
  induction j with
  | zero =>
    intro v b c h0 hj hc hQ
    have hz : v.toInt = 0 := by
      apply xun_z.mp
      apply Classical.byContradiction
      intro hn
      have := xbl_of hn
      omega
    have e : b = c := by rw [← hc]; show b = b + 0; rw [Int32.add_zero]
    subst e
    refine i_181_31 (x := v) rfl ?_
    refine i_181_32 (fun _ => ?_) (fun g => absurd hz g)
    refine i_181_45 (x := b) rfl ?_
    exact i_181_46 hQ
  | succ j ih =>
    intro v b c h0 hj hc hQ
    have hz : v.toInt ≠ 0 := by
      intro hn
      rw [xun_z.mpr hn] at hj
      exact absurd hj (by show ¬ (0 = j + 1); omega)
    refine i_181_31 (x := v) rfl ?_
    refine i_181_32 (fun g => absurd g hz) (fun _ => ?_)
    refine i_181_35 (x := b) (c := b + (1 : Int32)) (lv2 := [(1, Value.int (b + (1 : Int32))), (2, Value.int v), (0, Value.ref h)]) rfl rfl rfl ?_
    refine i_181_38 (x := v) rfl ?_
    refine i_181_39 ?_
    refine i_181_40 (c := v >>> ((1 : Int32) &&& 31)) rfl ?_
    refine i_181_41 (lv2 := [(2, Value.int (v >>> ((1 : Int32) &&& 31))), (1, Value.int (b + (1 : Int32))), (0, Value.ref h)]) rfl ?_
    refine i_181_42 ?_
    have h1 := xsr1 h0
    refine ih _ _ c h1.2 ?_ ?_ hQ
    · rw [h1.1, xbl_half, hj]; rfl
    · rw [← hc, Int32.ofNat_add, Int32.add_assoc, Int32.add_comm (1 : Int32)]; rfl
theorem mb_run1 {d : Nat} {w : xW} {h b : Nat} {g : Nat → Value} {t c : Int32} (hw : w[h]? = some (Sum.inr (13, [Value.ref b, Value.int 1]))) (hb : w[b]? = some (Sum.inl (0, 4700, g))) (hg : g (0 : Int32).toInt.toNat = Value.int t) (h0 : 0 ≤ t.toInt) (hc : (0 : Int32) + xbn t = c) : xRun d 181 [Value.ref h] w (.inl (some (Value.int c))) w := by
  refine xRun.of ?_
  refine i_181_0 (x := h) rfl ?_
  refine i_181_1 (v := Value.int 1) hw rfl ?_
  refine i_181_4 (fun _ => ?_) (fun h => absurd h (by decide))
  refine i_181_9 ?_
  refine i_181_11 (x := h) rfl ?_
  refine i_181_12 (v := Value.int 1) hw rfl ?_
  refine i_181_15 ?_
  refine i_181_16 (c := 0) (by decide) ?_
  refine i_181_17 (c := 0) (by decide) ?_
  refine i_181_18 (lv2 := [(1, Value.int 0), (0, Value.ref h)]) rfl ?_
  refine i_181_19 (x := h) rfl ?_
  refine i_181_20 (v := Value.ref b) hw rfl ?_
  refine i_181_23 (x := h) rfl ?_
  refine i_181_24 (v := Value.int 1) hw rfl ?_
  refine i_181_27 ?_
  refine i_181_28 (c := 0) (by decide) ?_
  refine i_181_29 (v := Value.int t) hb (by decide) (by decide) hg ?_
  refine i_181_30 (lv2 := [(2, Value.int t), (1, Value.int 0), (0, Value.ref h)]) rfl ?_
  exact mb_loop _ t 0 c h0 rfl hc ⟨rfl, rfl⟩
theorem mb_run2 {d : Nat} {w : xW} {h b : Nat} {g : Nat → Value} {t c : Int32} (hw : w[h]? = some (Sum.inr (13, [Value.ref b, Value.int 2]))) (hb : w[b]? = some (Sum.inl (0, 4700, g))) (hg : g (1 : Int32).toInt.toNat = Value.int t) (h0 : 0 ≤ t.toInt) (hc : (30 : Int32) + xbn t = c) : xRun d 181 [Value.ref h] w (.inl (some (Value.int c))) w := by
  refine xRun.of ?_
  refine i_181_0 (x := h) rfl ?_
  refine i_181_1 (v := Value.int 2) hw rfl ?_
  refine i_181_4 (fun _ => ?_) (fun h => absurd h (by decide))
  refine i_181_9 ?_
  refine i_181_11 (x := h) rfl ?_
  refine i_181_12 (v := Value.int 2) hw rfl ?_
  refine i_181_15 ?_
  refine i_181_16 (c := 1) (by decide) ?_
  refine i_181_17 (c := 30) (by decide) ?_
  refine i_181_18 (lv2 := [(1, Value.int 30), (0, Value.ref h)]) rfl ?_
  refine i_181_19 (x := h) rfl ?_
  refine i_181_20 (v := Value.ref b) hw rfl ?_
  refine i_181_23 (x := h) rfl ?_
  refine i_181_24 (v := Value.int 2) hw rfl ?_
  refine i_181_27 ?_
  refine i_181_28 (c := 1) (by decide) ?_
  refine i_181_29 (v := Value.int t) hb (by decide) (by decide) hg ?_
  refine i_181_30 (lv2 := [(2, Value.int t), (1, Value.int 30), (0, Value.ref h)]) rfl ?_
  exact mb_loop _ t 30 c h0 rfl hc ⟨rfl, rfl⟩
theorem mb_run3 {d : Nat} {w : xW} {h b : Nat} {g : Nat → Value} {t c : Int32} (hw : w[h]? = some (Sum.inr (13, [Value.ref b, Value.int 3]))) (hb : w[b]? = some (Sum.inl (0, 4700, g))) (hg : g (2 : Int32).toInt.toNat = Value.int t) (h0 : 0 ≤ t.toInt) (hc : (60 : Int32) + xbn t = c) : xRun d 181 [Value.ref h] w (.inl (some (Value.int c))) w := by
  refine xRun.of ?_
  refine i_181_0 (x := h) rfl ?_
  refine i_181_1 (v := Value.int 3) hw rfl ?_
  refine i_181_4 (fun _ => ?_) (fun h => absurd h (by decide))
  refine i_181_9 ?_
  refine i_181_11 (x := h) rfl ?_
  refine i_181_12 (v := Value.int 3) hw rfl ?_
  refine i_181_15 ?_
  refine i_181_16 (c := 2) (by decide) ?_
  refine i_181_17 (c := 60) (by decide) ?_
  refine i_181_18 (lv2 := [(1, Value.int 60), (0, Value.ref h)]) rfl ?_
  refine i_181_19 (x := h) rfl ?_
  refine i_181_20 (v := Value.ref b) hw rfl ?_
  refine i_181_23 (x := h) rfl ?_
  refine i_181_24 (v := Value.int 3) hw rfl ?_
  refine i_181_27 ?_
  refine i_181_28 (c := 2) (by decide) ?_
  refine i_181_29 (v := Value.int t) hb (by decide) (by decide) hg ?_
  refine i_181_30 (lv2 := [(2, Value.int t), (1, Value.int 60), (0, Value.ref h)]) rfl ?_
  exact mb_loop _ t 60 c h0 rfl hc ⟨rfl, rfl⟩
