/-! Knuth's guess; divideWide, isAbove of the class's division -/
theorem q_up {x D q : Nat} (hD : 0 < D) (h : q * D < x + 2 * D) : q ≤ x / D + 2 := by
  have h1 := Nat.lt_div_mul_add (a := x) hD
  have h2 : q * D < (x / D + 3) * D := by rw [Nat.add_mul]; omega
  have := Nat.lt_of_mul_lt_mul_right h2
  omega
theorem q_up1 {x D q : Nat} (hD : 0 < D) (h : q * D < x + D) : q ≤ x / D + 1 := by
  have h1 := Nat.lt_div_mul_add (a := x) hD
  have h2 : q * D < (x / D + 2) * D := by rw [Nat.add_mul]; omega
  have := Nat.lt_of_mul_lt_mul_right h2
  omega
theorem kn_low {R D g hi top P rl : Nat} (hR : R = top * P + rl) (hl : rl < P) (hD : hi * P ≤ D) (h : top < g * hi) : R < g * D := by
  have h1 : (top + 1) * P ≤ g * hi * P := Nat.mul_le_mul_right _ h
  have h2 : g * (hi * P) ≤ g * D := Nat.mul_le_mul_left _ hD
  rw [Nat.add_mul, Nat.one_mul, Nat.mul_assoc] at h1
  omega
/-- a guess by the leading words is too great by less than k -/
theorem kn_high {R D g hi top P rl dl k : Nat} (hR : R = top * P + rl) (hD : D = hi * P + dl) (hd : dl < P) (hg : g * hi ≤ top) (hk : g < k * hi) : g * D < R + k * D := by
  have h1 : g * hi * P ≤ top * P := Nat.mul_le_mul_right _ hg
  have h2 : g * dl ≤ g * P := Nat.mul_le_mul_left _ (by omega)
  have h3 : (g + 1) * P ≤ k * hi * P := Nat.mul_le_mul_right _ hk
  have h4 : k * D = k * hi * P + k * dl := by rw [hD, Nat.mul_add, Nat.mul_assoc]
  have h5 : g * D = g * hi * P + g * dl := by rw [hD, Nat.mul_add, Nat.mul_assoc]
  rw [Nat.add_mul, Nat.one_mul] at h3
  omega
theorem kn_q {R D hi top P rl : Nat} (hR : R = top * P + rl) (hl : rl < P) (hD : hi * P ≤ D) : R / D * hi ≤ top := by
  have h1 := Nat.div_mul_le_self R D
  have h2 : R / D * (hi * P) ≤ R / D * D := Nat.mul_le_mul_left _ hD
  rcases Nat.lt_or_ge top (R / D * hi) with g | g
  · have h3 : (top + 1) * P ≤ R / D * hi * P := Nat.mul_le_mul_right _ g
    rw [Nat.add_mul, Nat.one_mul, Nat.mul_assoc] at h3
    omega
  · exact g
/-- what the loop of nextWord needs -/
def kn (R D high nx top th : Nat) : Prop :=
  (∀ g, g < 4294967296 → g * (high * 4294967296 + nx) ≤ top * 4294967296 + th → g ≤ R / D + 1) ∧
  (∀ g, top * 4294967296 + th < g * (high * 4294967296 + nx) → R / D < g) ∧
  (∀ g, g < 4294967296 → g * high ≤ top → g ≤ R / D + 2) ∧ R / D * high ≤ top ∧ 0 < D
theorem kn_one {R high : Nat} (hh : 2147483648 ≤ high) : kn R high high 0 R 0 := by
  have hp : 0 < high := by omega
  refine ⟨fun g _ h => ?_, fun g h => ?_, fun g _ h => ?_, Nat.div_mul_le_self R high, hp⟩
  · rw [Nat.add_zero, Nat.add_zero, ← Nat.mul_assoc] at h
    have h1 : g * high ≤ R := Nat.le_of_mul_le_mul_right h (by decide)
    have := (Nat.le_div_iff_mul_le hp).mpr h1
    omega
  · rw [Nat.add_zero, Nat.add_zero, ← Nat.mul_assoc] at h
    exact (Nat.div_lt_iff_lt_mul hp).mpr (Nat.lt_of_mul_lt_mul_right h)
  · have := (Nat.le_div_iff_mul_le hp).mpr h
    omega
theorem kn_two {R D high nx top th P2 rl2 dl2 : Nat} (hh : 2147483648 ≤ high) (hR : R = (top * 4294967296 + th) * P2 + rl2) (hl : rl2 < P2) (hD : D = (high * 4294967296 + nx) * P2 + dl2) (hd : dl2 < P2) (hnx : nx < 4294967296) (hth : th < 4294967296) : kn R D high nx top th := by
  have hR2 : R = top * (4294967296 * P2) + (th * P2 + rl2) := by rw [hR, Nat.add_mul, Nat.mul_assoc]; omega
  have hD2 : D = high * (4294967296 * P2) + (nx * P2 + dl2) := by rw [hD, Nat.add_mul, Nat.mul_assoc]; omega
  have e1 : (th + 1) * P2 ≤ 4294967296 * P2 := Nat.mul_le_mul_right _ hth
  have e2 : (nx + 1) * P2 ≤ 4294967296 * P2 := Nat.mul_le_mul_right _ hnx
  rw [Nat.add_mul, Nat.one_mul] at e1 e2
  have hhp : 1 * P2 ≤ (high * 4294967296 + nx) * P2 := Nat.mul_le_mul_right _ (by omega)
  have hp : 0 < D := by omega
  refine ⟨fun g hg h => ?_, fun g h => ?_, fun g hg h => ?_, kn_q hR2 (by omega) (by omega), hp⟩
  · exact q_up1 hp (by have := kn_high (k := 1) hR hD hd h (by omega); omega)
  · exact (Nat.div_lt_iff_lt_mul hp).mpr (kn_low hR hl (by omega) h)
  · exact q_up hp (kn_high (k := 2) hR2 hD2 (by omega) h (by omega))
theorem hiw {s : Nat → Int} {j : Nat} : (Int32.ofInt (s j)).toInt64 <<< ((32 : Int32).toInt64 &&& 63) = Int64.ofInt ((cw s j * 2 ^ 32 : Nat) : Int) := by
  have h1 := (Int32.ofInt (s j)).toInt_lt
  have h2 := (Int32.ofInt (s j)).le_toInt
  have e : (Int32.ofInt (s j)).toInt64 = Int64.ofInt (Int32.ofInt (s j)).toInt := by
    have := q_i2l (a := (Int32.ofInt (s j)).toInt) ⟨by omega, by omega⟩
    rw [Int32.ofInt_toInt] at this
    exact this
  have h3 := xul_m (Int32.ofInt (s j)).toInt
  have h4 := xun_int (Int32.ofInt (s j))
  rw [← e] at h3
  rw [cw_un] at h4
  have hb : cw s j < 4294967296 := cw_lt
  apply xul_inj
  have e2 : xul ((Int32.ofInt (s j)).toInt64 <<< ((32 : Int32).toInt64 &&& 63)) = xul (Int32.ofInt (s j)).toInt64 * 2 ^ 32 % 18446744073709551616 := by
    have ha := xamt 32 (by decide)
    show ((Int32.ofInt (s j)).toInt64.toBitVec <<< (((32 : Int32).toInt64 &&& 63).toBitVec.smod 64)).toNat = _
    rw [show (32 : Int32) = Int32.ofNat 32 from rfl, ha, BitVec.shiftLeft_eq', BitVec.toNat_ofNat, BitVec.toNat_shiftLeft, Nat.mod_eq_of_lt (show 32 < 2 ^ 64 by decide), Nat.shiftLeft_eq]
    rfl
  rw [e2, xul_o (by omega) (by omega)]
  split at h4 <;> omega
theorem q_ushr1 {x : Nat} (h : x < 18446744073709551616) : ((Int64.ofInt (x : Int)).toUInt64 >>> ((1 : Int32).toInt64.toUInt64 &&& Int64.toUInt64 63)).toInt64 = Int64.ofInt ((x / 2 : Nat) : Int) := by
  apply xul_inj
  show ((Int64.ofInt (x : Int)).toUInt64 >>> ((1 : Int32).toInt64.toUInt64 &&& Int64.toUInt64 63)).toNat = _
  rw [UInt64.toNat_shiftRight, Nat.shiftRight_eq_div_pow]
  have e : ((1 : Int32).toInt64.toUInt64 &&& Int64.toUInt64 63).toNat % 64 = 1 := by decide
  rw [e]
  have h2 := xul_o (t := (x : Int)) (by omega) (by omega)
  have h3 := xul_o (t := ((x / 2 : Nat) : Int)) (by omega) (by omega)
  show xul (Int64.ofInt (x : Int)) / 2 ^ 1 = _
  omega
theorem q_sgn : Int64.ofInt (-9223372036854775808) = (-9223372036854775808 : Int64) := by decide +kernel
theorem q_adds (a : Int) : Int64.ofInt a + (-9223372036854775808 : Int64) = Int64.ofInt (a + (-9223372036854775808)) := by rw [← q_sgn, q_add]
theorem dw_num {x dv : Nat} (hd : 0 < dv) : ∃ t, x = x / 2 / dv * 2 * dv + t ∧ t < 2 * dv := by
  have h1 := Nat.div_add_mod (x / 2) dv
  have h2 := Nat.mod_lt (x / 2) hd
  refine ⟨x - x / 2 / dv * 2 * dv, ?_⟩
  have e : x / 2 / dv * 2 * dv = 2 * (dv * (x / 2 / dv)) := by rw [Nat.mul_comm (x / 2 / dv) 2, Nat.mul_assoc, Nat.mul_comm (x / 2 / dv)]
  rw [e]
  omega
section
variable {w0 w : xW} {L Z : Nat} {A C B : Nat → Nat} {S S0 : Nat → Nat → Int} {V : Nat → Nat} {d : Nat}
theorem c_dw {x dv : Nat} (hx : x < 18446744073709551616) (hd : 0 < dv ∧ dv < 4294967296) : xRun d 74 [.long (Int64.ofInt (x : Int)), .long (Int64.ofInt (dv : Int))] w (.inl (some (.long (Int64.ofInt ((x / dv : Nat) : Int))))) w := by
  obtain ⟨a, ha⟩ : ∃ a, a = x / 2 / dv := ⟨_, rfl⟩
  obtain ⟨t, ht, ht2⟩ := dw_num (x := x) hd.1
  rw [← ha] at ht
  have ha2 : ((x / 2 : Nat) : Int) / (dv : Int) = ((a : Nat) : Int) := by rw [ha]; first | exact (Int.natCast_ediv _ _).symm | exact (Int.natCast_div _ _).symm | simp
  have hal : a ≤ x / 2 := by rw [ha]; exact Nat.div_le_self _ _
  have ht3 : (x : Int) - ((a * 2 ^ 1 : Nat) : Int) * (dv : Int) = ((t : Nat) : Int) := by
    rw [← Int.natCast_mul]
    show (x : Int) - ((a * 2 * dv : Nat) : Int) = _
    omega
  have hq0 : Unit → t < dv → x / dv = a * 2 ^ 1 := fun _ g => by
    rw [ht, Nat.mul_comm (a * 2) dv, Nat.mul_add_div hd.1, Nat.div_eq_of_lt g]
    rfl
  have hq1 : Unit → dv ≤ t → ((x / dv : Nat) : Int) = ((a * 2 ^ 1 : Nat) : Int) + 1 := fun _ g => by
    have e : t / dv = 1 := by rw [Nat.div_eq_sub_div hd.1 g, Nat.div_eq_of_lt (by omega)]
    rw [ht, Nat.mul_comm (a * 2) dv, Nat.mul_add_div hd.1, e]
    rfl
  have key : ∀ lv, xld lv 0 = some (.long (Int64.ofInt (x : Int))) → xld lv 2 = some (.long (Int64.ofInt (dv : Int))) → xEv d 74 0 lv [] w (fun o w' => o = .inl (some (.long (Int64.ofInt ((x / dv : Nat) : Int)))) ∧ w' = w) := by
    intro lv l0 l2
    refine i_74_0 (x := Int64.ofInt (dv : Int)) l2 ?_
    refine i_74_1 ?_
    refine i_74_2 (c := Int32.ofInt (lc (dv : Int) 0)) (q_cmp (a := (dv : Int)) (b := 0) ⟨by omega, by omega⟩ ⟨by decide, by decide⟩) ?_
    refine i_74_3 (lc_gt (a := (dv : Int)) (b := 0) fun c0 => ?_) (lc_le (a := (dv : Int)) (b := 0) fun c0 => absurd c0 (by omega))
    refine i_74_8 (x := Int64.ofInt (x : Int)) l0 ?_
    refine i_74_9 ?_
    refine i_74_10 (c := Int64.ofInt ((x / 2 : Nat) : Int)) (q_ushr1 hx) ?_
    refine i_74_11 (x := Int64.ofInt (dv : Int)) l2 ?_
    refine i_74_12 (c := Int64.ofInt ((a : Nat) : Int)) (q_nz ⟨by omega, by omega⟩) ((q_div ⟨by omega, by omega⟩ ⟨by omega, by omega⟩).trans (by rw [ha2])) ?_
    refine i_74_13 ?_
    refine i_74_14 (c := Int64.ofInt ((a * 2 ^ 1 : Nat) : Int)) (q_shlN (a := a) (q := 1) rfl (by decide) (by omega)) ?_
    refine i_74_15 rfl ?_
    refine lgen2 (i := 4) (v := Value.long (Int64.ofInt ((a * 2 ^ 1 : Nat) : Int))) (fun lv lg ls => ?_)
    replace l0 := lg 0 _ rfl rfl l0
    replace l2 := lg 2 _ rfl rfl l2
    have l4 := ls
    refine i_74_17 (x := Int64.ofInt (x : Int)) l0 ?_
    refine i_74_18 (x := Int64.ofInt ((a * 2 ^ 1 : Nat) : Int)) l4 ?_
    refine i_74_20 (x := Int64.ofInt (dv : Int)) l2 ?_
    refine i_74_21 (c := Int64.ofInt (((a * 2 ^ 1 : Nat) : Int) * (dv : Int))) (q_mul ((a * 2 ^ 1 : Nat) : Int) (dv : Int)) ?_
    refine i_74_22 (c := Int64.ofInt ((x : Int) - (((a * 2 ^ 1 : Nat) : Int) * (dv : Int)))) (q_sub (x : Int) (((a * 2 ^ 1 : Nat) : Int) * (dv : Int))) ?_
    refine i_74_23 (x := Int64.ofInt (dv : Int)) l2 ?_
    refine i_74_24 (c := Int32.ofInt (lc ((x : Int) - (((a * 2 ^ 1 : Nat) : Int) * (dv : Int))) (dv : Int))) (q_cmp (a := (x : Int) - (((a * 2 ^ 1 : Nat) : Int) * (dv : Int))) (b := (dv : Int)) ⟨by omega, by omega⟩ ⟨by omega, by omega⟩) ?_
    refine i_74_25 (lc_lt (a := (x : Int) - (((a * 2 ^ 1 : Nat) : Int) * (dv : Int))) (b := (dv : Int)) fun c1 => ?_) (lc_ge (a := (x : Int) - (((a * 2 ^ 1 : Nat) : Int) * (dv : Int))) (b := (dv : Int)) fun c1 => ?_)
    · refine i_74_35 (x := Int64.ofInt ((a * 2 ^ 1 : Nat) : Int)) l4 ?_
      refine i_74_37 ?_
      exact ⟨by rw [hq0 () (by omega)], rfl⟩
    · refine i_74_28 (x := Int64.ofInt ((a * 2 ^ 1 : Nat) : Int)) l4 ?_
      refine i_74_30 ?_
      refine i_74_31 (c := Int64.ofInt (((a * 2 ^ 1 : Nat) : Int) + 1)) (q_add ((a * 2 ^ 1 : Nat) : Int) 1) ?_
      refine i_74_32 ?_
      refine i_74_37 ?_
      exact ⟨by rw [hq1 () (by omega)], rfl⟩
  obtain ⟨o, w', h1, rfl, rfl⟩ := (key (lv_args 0 [.long (Int64.ofInt (x : Int)), .long (Int64.ofInt (dv : Int))]) rfl rfl).run
  exact h1
theorem c_above {a b : Nat} (ha : a < 18446744073709551616) (hb : b < 18446744073709551616) : xRun d 75 [.long (Int64.ofInt (a : Int)), .long (Int64.ofInt (b : Int))] w (.inl (some (.int (Int32.ofInt (bb (decide (b < a))))))) w := by
  have key : ∀ lv, xld lv 0 = some (.long (Int64.ofInt (a : Int))) → xld lv 2 = some (.long (Int64.ofInt (b : Int))) → xEv d 75 0 lv [] w (fun o w' => o = .inl (some (.int (Int32.ofInt (bb (decide (b < a)))))) ∧ w' = w) := by
    intro lv l0 l2
    refine i_75_0 (x := Int64.ofInt (a : Int)) l0 ?_
    refine i_75_1 ?_
    refine i_75_4 (c := Int64.ofInt ((a : Int) + (-9223372036854775808))) (q_adds (a : Int)) ?_
    refine i_75_5 (x := Int64.ofInt (b : Int)) l2 ?_
    refine i_75_6 ?_
    refine i_75_9 (c := Int64.ofInt ((b : Int) + (-9223372036854775808))) (q_adds (b : Int)) ?_
    refine i_75_10 (c := Int32.ofInt (lc ((a : Int) + (-9223372036854775808)) ((b : Int) + (-9223372036854775808)))) (q_cmp (a := (a : Int) + (-9223372036854775808)) (b := (b : Int) + (-9223372036854775808)) ⟨by omega, by omega⟩ ⟨by omega, by omega⟩) ?_
    refine i_75_11 (lc_le (a := (a : Int) + (-9223372036854775808)) (b := (b : Int) + (-9223372036854775808)) fun c0 => ?_) (lc_gt (a := (a : Int) + (-9223372036854775808)) (b := (b : Int) + (-9223372036854775808)) fun c0 => ?_)
    · refine i_75_18 ?_
      refine i_75_19 rfl ?_
      exact ⟨by rw [show decide (b < a) = false from decide_eq_false (by omega)]; rfl, rfl⟩
    · refine i_75_14 ?_
      refine i_75_15 ?_
      refine i_75_19 rfl ?_
      exact ⟨by rw [show decide (b < a) = true from decide_eq_true (by omega)]; rfl, rfl⟩
  obtain ⟨o, w', h1, rfl, rfl⟩ := (key (lv_args 0 [.long (Int64.ofInt (a : Int)), .long (Int64.ofInt (b : Int))]) rfl rfl).run
  exact h1
end
