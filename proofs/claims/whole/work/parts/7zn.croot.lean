/-! the order of a power and the radicand -/
theorem ncmp_sc {a b c : Nat} (hc : 0 < c) : ncmp (a * c) (b * c) = ncmp a b := by
  unfold ncmp
  by_cases h : a < b
  · rw [if_pos h, if_pos ((Nat.mul_lt_mul_right hc).mpr h)]
  · rw [if_neg h, if_neg (fun g => h (Nat.lt_of_mul_lt_mul_right g))]
    by_cases h2 : a = b
    · rw [if_pos h2, if_pos (by rw [h2])]
    · rw [if_neg h2, if_neg (fun g => h2 (Nat.eq_of_mul_eq_mul_right hc g))]
def oV (G : Nat) (a : Int) (s : Nat) (b : Int) : Int := if (xbl G : Int) + a = (xbl s : Int) + b then ncmp (G * 2 ^ xbl s) (s * 2 ^ xbl G) else if (xbl G : Int) + a < (xbl s : Int) + b then -1 else 1
theorem oV_lt {G s : Nat} {a b : Int} {K : Nat} (hG : G ≠ 0) (hs : s ≠ 0) (ha : 0 ≤ a + K) (hb : 0 ≤ b + K) (h : (xbl G : Int) + a < (xbl s : Int) + b) : G * 2 ^ (a + K).toNat < s * 2 ^ (b + K).toNat := by
  obtain ⟨g1, g2, g3⟩ := xbl_of hG
  obtain ⟨s1, s2, s3⟩ := xbl_of hs
  have h1 : G * 2 ^ (a + K).toNat < 2 ^ (xbl G + (a + K).toNat) := by
    rw [Nat.pow_add]
    exact (Nat.mul_lt_mul_right (Nat.two_pow_pos _)).mpr g2
  have h2 : 2 ^ (xbl s - 1 + (b + K).toNat) ≤ s * 2 ^ (b + K).toNat := by
    rw [Nat.pow_add]
    exact Nat.mul_le_mul_right _ s1
  exact Nat.lt_of_lt_of_le h1 (Nat.le_trans (Nat.pow_le_pow_right (by omega) (by omega)) h2)
theorem oV_eq {G s : Nat} {a b : Int} {K : Nat} (hG : G ≠ 0) (hs : s ≠ 0) (ha : 0 ≤ a + K) (hb : 0 ≤ b + K) : oV G a s b = ncmp (G * 2 ^ (a + K).toNat) (s * 2 ^ (b + K).toNat) := by
  unfold oV
  by_cases h : (xbl G : Int) + a = (xbl s : Int) + b
  · rw [if_pos h]
    by_cases h2 : b ≤ a
    · have e1 : G * 2 ^ (a + K).toNat = G * 2 ^ (a - b).toNat * 2 ^ (b + K).toNat := by rw [Nat.mul_assoc, ← Nat.pow_add]; congr 2; omega
      have e2 : G * 2 ^ xbl s = G * 2 ^ (a - b).toNat * 2 ^ xbl G := by rw [Nat.mul_assoc, ← Nat.pow_add]; congr 2; omega
      rw [e1, e2, ncmp_sc (Nat.two_pow_pos _), ncmp_sc (Nat.two_pow_pos _)]
    · have e1 : s * 2 ^ (b + K).toNat = s * 2 ^ (b - a).toNat * 2 ^ (a + K).toNat := by rw [Nat.mul_assoc, ← Nat.pow_add]; congr 2; omega
      have e2 : s * 2 ^ xbl G = s * 2 ^ (b - a).toNat * 2 ^ xbl s := by rw [Nat.mul_assoc, ← Nat.pow_add]; congr 2; omega
      rw [e1, e2, ncmp_sc (Nat.two_pow_pos _), ncmp_sc (Nat.two_pow_pos _)]
  · rw [if_neg h]
    by_cases h2 : (xbl G : Int) + a < (xbl s : Int) + b
    · rw [if_pos h2]
      unfold ncmp
      rw [if_pos (oV_lt hG hs ha hb h2)]
    · rw [if_neg h2]
      have := oV_lt hs hG hb ha (by omega)
      unfold ncmp
      rw [if_neg (by omega), if_neg (by omega)]
/-- the sign of a power against the radicand, at p places -/
def cS (c n : Nat) (lift : Int) (s p : Nat) : Int := ncmp (c ^ n * rY lift) (rX s lift * 2 ^ (p * n))
theorem oV_cS {G s n p z : Nat} {sc lift : Int} (hG : G ≠ 0) (hs : s ≠ 0) (hsc : 0 ≤ sc) : oV G (sc + (n : Int) * (-(p : Int) + z)) s lift = ncmp (G * 2 ^ sc.toNat * 2 ^ (z * n) * rY lift) (rX s lift * 2 ^ (p * n)) := by
  have e0 : (n : Int) * (-(p : Int) + z) = ((z * n : Nat) : Int) - ((p * n : Nat) : Int) := by
    rw [Int.natCast_mul, Int.natCast_mul]
    generalize (n : Int) = N
    generalize (p : Int) = Pp
    generalize (z : Int) = Zz
    grind
  rw [oV_eq (K := p * n + (-lift).toNat) hG hs (by rw [e0]; generalize z * n = A; generalize p * n = B; omega) (by generalize p * n = B; omega)]
  have e1 : G * 2 ^ (sc + (n : Int) * (-(p : Int) + z) + ((p * n + (-lift).toNat : Nat) : Int)).toNat = G * 2 ^ sc.toNat * 2 ^ (z * n) * rY lift := by
    unfold rY
    rw [Nat.mul_assoc, Nat.mul_assoc, ← Nat.pow_add, ← Nat.pow_add, e0]
    congr 2
    generalize z * n = A
    generalize p * n = B
    omega
  have e2 : s * 2 ^ (lift + ((p * n + (-lift).toNat : Nat) : Int)).toNat = rX s lift * 2 ^ (p * n) := by
    unfold rX
    rw [Nat.mul_assoc, ← Nat.pow_add]
    congr 2
    generalize p * n = B
    omega
  rw [e1, e2]
theorem pJ_top {most : Int} {W b n : Nat} {x : PT} (hm : 2 ≤ most) (hW : W = 2 ^ (32 * (most.toNat - 1))) (h : pJ W (b ^ n) 256 x) (hb : (xbl x.1 : Int) ≤ 32 * most) : b ^ n < (x.1 + 2 ^ 42) * 2 ^ x.2.1.toNat := by
  obtain ⟨h1, h2, h3, h4, -, -, -⟩ := h
  unfold pA at h3 h4
  have hx : x.1 < W * 2 ^ 32 := by
    rw [hW, ← Nat.pow_add]
    exact Nat.lt_of_lt_of_le (xbl_lt _) (Nat.pow_le_pow_right (by omega) (by omega))
  have W0 : 0 < W := by rw [hW]; exact Nat.two_pow_pos _
  have E0 : 0 < 2 ^ x.2.1.toNat := Nat.two_pow_pos _
  generalize 2 ^ x.2.1.toNat = E at *
  refine Nat.lt_of_mul_lt_mul_right (a := W) (Nat.lt_of_le_of_lt h4 ?_)
  have a1 : 256 * x.1 < 2 ^ 42 * W := by omega
  have a2 := (Nat.mul_lt_mul_right E0).mpr a1
  have e1 : x.1 * E * (W + 256) = x.1 * E * W + 256 * x.1 * E := by
    generalize x.1 = G
    grind
  have e2 : (x.1 + 2 ^ 42) * E * W = x.1 * E * W + 2 ^ 42 * W * E := by
    generalize x.1 = G
    generalize 2 ^ 42 = D
    grind
  rw [e1, e2]
  omega
section
variable {w0 w : xW} {L Z : Nat} {S S1 : Nat → Nat → Int} {V V1 : Nat → Nat} {d hv hs hr hc k P N g p z : Nat} {lv : xLv} {Q : Option Value ⊕ Nat → xW → Prop} {lift sc t E sc' : Int}
set_option maxHeartbeats 4000000 in
theorem x_oVal (hR : cX w0 L Z S V w) (khr : kd hr = 3) (q5 : S 101 5 = (hr : Int)) (e0 : S 79 0 = (hv : Int)) (hd : hv = 80 ∨ hv = 82) (b1 : xbl (V hv) ≤ 600000) (b2 : -1000000 ≤ S 79 3 ∧ S 79 3 ≤ 1000000) (b3 : -1000000 ≤ t ∧ t ≤ 1000000) (b4 : xbl (V hr) ≤ 600000) (b5 : -1000000 ≤ S 101 6 ∧ S 101 6 ≤ 1000000) : xRun (d + 3) 91 [Value.ref 101, Value.int (Int32.ofInt t)] w (.inl (some (.int (Int32.ofInt (oV (V hv) (S 79 3 + t) (V hr) (S 101 6)))))) w := by
  have key : ∀ lv, xld lv 0 = some (Value.ref 101) → xld lv 1 = some (Value.int (Int32.ofInt t)) → xEv (d + 3) 91 0 lv [] w (fun o w' => o = .inl (some (.int (Int32.ofInt (oV (V hv) (S 79 3 + t) (V hr) (S 101 6))))) ∧ w' = w) := by
    intro lv l0 l1
    have khv : kd hv = 3 := by rcases hd with rfl | rfl <;> decide +kernel
    refine i_91_0 (x := 101) l0 ?_
    refine i_91_1 (v := Value.ref 79) (hR.k9 kq_101) rfl ?_
    refine i_91_4 (v := Value.ref (S 79 0).toNat) (hR.k6 kq_79) rfl ?_
    rw [show (S 79 0).toNat = hv by rw [e0]; rfl]
    obtain ⟨fs, hobj⟩ := hR.nat khv
    have hrun := X_bits (d := d + 1) (h := hv) (u := V hv) hR khv (rfl)
    refine i_91_7 hobj (Nat.le_of_ble_eq_true rfl) hrun ?_
    refine i_91_10 (x := 101) l0 ?_
    refine i_91_11 (v := Value.ref 79) (hR.k9 kq_101) rfl ?_
    refine i_91_14 (v := Value.int (Int32.ofInt (S 79 3))) (hR.k6 kq_79) rfl ?_
    refine i_91_17 (c := Int32.ofInt ((xbl (V hv) : Int) + (S 79 3))) (o_add (xbl (V hv) : Int) (S 79 3)) ?_
    refine i_91_18 (x := Int32.ofInt t) l1 ?_
    refine i_91_19 (c := Int32.ofInt (((xbl (V hv) : Int) + (S 79 3)) + t)) (o_add ((xbl (V hv) : Int) + (S 79 3)) t) ?_
    refine i_91_20 rfl ?_
    refine lgen1 (i := 2) (v := Value.int (Int32.ofInt (((xbl (V hv) : Int) + (S 79 3)) + t))) (fun lv lg ls => ?_)
    replace l0 := lg 0 _ rfl rfl l0
    replace l1 := lg 1 _ rfl rfl l1
    have l2 := ls
    refine i_91_21 (x := 101) l0 ?_
    refine i_91_22 (v := Value.ref (S 101 5).toNat) (hR.k9 kq_101) rfl ?_
    rw [show (S 101 5).toNat = hr by rw [q5]; rfl]
    obtain ⟨fs, hobj⟩ := hR.nat khr
    have hrun := X_bits (d := d + 1) (h := hr) (u := V hr) hR khr (rfl)
    refine i_91_25 hobj (Nat.le_of_ble_eq_true rfl) hrun ?_
    refine i_91_28 (x := 101) l0 ?_
    refine i_91_29 (v := Value.int (Int32.ofInt (S 101 6))) (hR.k9 kq_101) rfl ?_
    refine i_91_32 (c := Int32.ofInt ((xbl (V hr) : Int) + (S 101 6))) (o_add (xbl (V hr) : Int) (S 101 6)) ?_
    refine i_91_33 rfl ?_
    refine lgen1 (i := 3) (v := Value.int (Int32.ofInt ((xbl (V hr) : Int) + (S 101 6)))) (fun lv lg ls => ?_)
    replace l2 := lg 2 _ rfl rfl l2
    replace l0 := lg 0 _ rfl rfl l0
    replace l1 := lg 1 _ rfl rfl l1
    have l3 := ls
    refine i_91_34 (x := Int32.ofInt (((xbl (V hv) : Int) + (S 79 3)) + t)) l2 ?_
    refine i_91_35 (x := Int32.ofInt ((xbl (V hr) : Int) + (S 101 6))) l3 ?_
    refine i_91_36 (b_eq (a := ((xbl (V hv) : Int) + (S 79 3)) + t) (b := (xbl (V hr) : Int) + (S 101 6)) ⟨by omega, by omega⟩ ⟨by omega, by omega⟩ fun c0 => ?_) (b_ne (a := ((xbl (V hv) : Int) + (S 79 3)) + t) (b := (xbl (V hr) : Int) + (S 101 6)) ⟨by omega, by omega⟩ ⟨by omega, by omega⟩ fun c0 => ?_)
    · refine i_91_50 (x := 101) l0 ?_
      refine i_91_51 (v := Value.ref 79) (hR.k9 kq_101) rfl ?_
      refine i_91_54 (v := Value.ref (S 79 0).toNat) (hR.k6 kq_79) rfl ?_
      rw [show (S 79 0).toNat = hv by rw [e0]; rfl]
      refine i_91_57 (x := 101) l0 ?_
      refine i_91_58 (v := Value.ref (S 101 5).toNat) (hR.k9 kq_101) rfl ?_
      rw [show (S 101 5).toNat = hr by rw [q5]; rfl]
      obtain ⟨fs, hobj⟩ := hR.nat khv
      have hrun := X_oft (d := d) (h := hv) (h2 := hr) (u := V hv) (v2 := V hr) hR khv khr (rfl) (rfl)
      refine i_91_61 hobj (Nat.le_of_ble_eq_true rfl) hrun ?_
      refine i_91_64 ?_
      exact ⟨by unfold oV; rw [if_pos (by omega)], rfl⟩
    · refine i_91_39 (x := Int32.ofInt (((xbl (V hv) : Int) + (S 79 3)) + t)) l2 ?_
      refine i_91_40 (x := Int32.ofInt ((xbl (V hr) : Int) + (S 101 6))) l3 ?_
      refine i_91_41 (b_le (a := (xbl (V hr) : Int) + (S 101 6)) (b := ((xbl (V hv) : Int) + (S 79 3)) + t) ⟨by omega, by omega⟩ ⟨by omega, by omega⟩ fun c1 => ?_) (b_lt (a := ((xbl (V hv) : Int) + (S 79 3)) + t) (b := (xbl (V hr) : Int) + (S 101 6)) ⟨by omega, by omega⟩ ⟨by omega, by omega⟩ fun c1 => ?_)
      · refine i_91_48 ?_
        refine i_91_49 ?_
        exact ⟨by unfold oV; rw [if_neg (by omega), if_neg (by omega)]; rfl, rfl⟩
      · refine i_91_44 ?_
        refine i_91_45 ?_
        refine i_91_49 ?_
        exact ⟨by unfold oV; rw [if_neg (by omega), if_pos (by omega)]; rfl, rfl⟩
  obtain ⟨o, w', h1, rfl, rfl⟩ := (key (lv_args 0 [Value.ref 101, Value.int (Int32.ofInt t)]) rfl rfl).run
  exact h1
end
