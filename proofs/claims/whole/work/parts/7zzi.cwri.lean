/-! writing: quotientGoesUp, isPowerOfTwo, reachesPower -/
/-- whether a quotient is rounded up -/
def qUp (mode ng : Int) (Q R D : Nat) : Bool := !decide (R = 0) && gO mode ng (bb (nbit Q 0)) (ncmp (shf R 1) D)
section
variable {w0 w : xW} {L Z : Nat} {S : Nat → Nat → Int} {V : Nat → Nat} {d t O tw : Nat} {k s mode : Int}
theorem pw_odd {z K m : Nat} (h : 2 ^ z * (2 * K + 1) = 2 ^ m) (hz : z ≠ m) : False := by
  rcases Nat.lt_or_gt_of_ne hz with g | g
  · rw [show m = z + (m - z - 1) + 1 by omega, Nat.pow_succ, Nat.pow_add, Nat.mul_assoc] at h
    have := Nat.eq_of_mul_eq_mul_left (Nat.two_pow_pos z) h
    omega
  · have h1 : 2 ^ m < 2 ^ z := Nat.pow_lt_pow_right (by omega) g
    have h2 : 2 ^ z ≤ 2 ^ z * (2 * K + 1) := Nat.le_mul_of_pos_right _ (by omega)
    omega
set_option maxHeartbeats 4000000 in
theorem x_qup (hR : cX w0 L Z S V w) (ht : kd t = 2) (q9 : S 113 9 = (t : Int)) (hn : S t 2 = 0 ∨ S t 2 = 1) (hmo : 0 ≤ mode ∧ mode ≤ 5) (bR : xbl (V 89) ≤ 600000) : ∃ w', xRun (d + 5) 157 [Value.ref 113, Value.int (Int32.ofInt mode)] w (.inl (some (.int (Int32.ofInt (bb (qUp mode (S t 2) (V 87) (V 89) (V 119))))))) w' ∧ ∃ V', cX w0 L Z S V' w' ∧ (∀ i, i ≠ 123 → V' i = V i) := by
  have key : ∀ lv, xld lv 0 = some (Value.ref 113) → xld lv 1 = some (Value.int (Int32.ofInt mode)) → xEv (d + 5) 157 0 lv [] w (fun o w' => o = .inl (some (.int (Int32.ofInt (bb (qUp mode (S t 2) (V 87) (V 89) (V 119)))))) ∧ ∃ V', cX w0 L Z S V' w' ∧ (∀ i, i ≠ 123 → V' i = V i)) := by
    intro lv l0 l1
    refine i_157_0 (x := 113) l0 ?_
    refine i_157_1 (v := Value.ref 86) (hR.k11 kq_113) rfl ?_
    refine i_157_4 (v := Value.ref 89) (hR.k7 kq_86) rfl ?_
    obtain ⟨a1, hsz, hz1⟩ := hR.size (h := 89) (u := V 89) kq_89 (rfl)
    refine i_157_7 (v := Value.int (Int32.ofInt (((xbl (V 89) + 31) / 32 : Nat) : Int))) hsz rfl ?_
    refine i_157_10 (z_ne (a := (((xbl (V 89) + 31) / 32 : Nat) : Int)) ⟨by omega, by omega⟩ fun c1 => ?_) (z_eq (a := (((xbl (V 89) + 31) / 32 : Nat) : Int)) ⟨by omega, by omega⟩ fun c1 => ?_)
    · refine i_157_15 (x := 113) l0 ?_
      refine i_157_16 (v := Value.ref 123) (hR.k11 kq_113) rfl ?_
      refine i_157_19 (x := 113) l0 ?_
      refine i_157_20 (v := Value.ref 86) (hR.k11 kq_113) rfl ?_
      refine i_157_23 (v := Value.ref 89) (hR.k7 kq_86) rfl ?_
      refine i_157_26 ?_
      obtain ⟨fs, hobj⟩ := hR.nat kq_123
      obtain ⟨w, hrun, hR⟩ := X_shift (d := d + 1) (h := 123) (h2 := 89) (u := V 89) (k := 1) hR kq_123 kq_89 rfl (by decide) (by omega)
      rw [show Int32.ofInt (1 : Int) = 1 from rfl] at hrun
      refine i_157_27 hobj (Nat.le_of_ble_eq_true rfl) hrun ?_
      refine i_157_30 (x := 113) l0 ?_
      refine i_157_31 (v := Value.ref 123) (hR.k11 kq_113) rfl ?_
      refine i_157_34 (x := 113) l0 ?_
      refine i_157_35 (v := Value.ref 119) (hR.k11 kq_113) rfl ?_
      have hcmp := ncmp_3 (shf (V 89) 1) (V 119)
      obtain ⟨fs, hobj⟩ := hR.nat kq_123
      have hrun := X_ord (d := d + 4) (h := 123) (h2 := 119) (u := shf (V 89) 1) (u2 := V 119) hR kq_123 kq_119 (uv_s) ((uv_n (by omega)).trans (rfl))
      have hcmp := ncmp_3 (shf (V 89) 1) (V 119)
      refine i_157_38 hobj (Nat.le_of_ble_eq_true rfl) hrun ?_
      refine i_157_41 rfl ?_
      refine lgen1 (i := 2) (v := Value.int (Int32.ofInt (ncmp (shf (V 89) 1) (V 119)))) (fun lv lg ls => ?_)
      replace l0 := lg 0 _ rfl rfl l0
      replace l1 := lg 1 _ rfl rfl l1
      have l2 := ls
      refine i_157_42 (x := Int32.ofInt mode) l1 ?_
      refine i_157_43 (x := 113) l0 ?_
      refine i_157_44 (v := Value.ref (S 113 9).toNat) (hR.k11 kq_113) rfl ?_
      rw [show (S 113 9).toNat = t by rw [q9]; rfl]
      refine i_157_47 (v := Value.int (Int32.ofInt (S t 2))) (hR.k2 ht) rfl ?_
      refine i_157_50 (x := 113) l0 ?_
      refine i_157_51 (v := Value.ref 86) (hR.k11 kq_113) rfl ?_
      refine i_157_54 (v := Value.ref 87) (hR.k7 kq_86) rfl ?_
      refine i_157_57 ?_
      obtain ⟨fs, hobj⟩ := hR.nat kq_87
      have hrun := X_bit (d := d + 3) (h := 87) (u := V 87) (p := 0) hR kq_87 ((uv_n (by omega)).trans (rfl)) ⟨by omega, by omega⟩
      rw [bfn_bit] at hrun
      refine i_157_58 hobj (Nat.le_of_ble_eq_true rfl) hrun ?_
      refine i_157_61 (x := Int32.ofInt (ncmp (shf (V 89) 1) (V 119))) l2 ?_
      have hrun := x_gO (d := d + 3) (w := w) (way := mode) (neg := S t 2) (odd := bb (nbit (V 87) 0)) (bes := ncmp (shf (V 89) 1) (V 119)) ⟨by omega, by omega⟩ (by first | omega | exact bb_01 _) (by first | omega | exact bb_01 _) ⟨by omega, by omega⟩
      refine i_157_62 (Nat.le_of_ble_eq_true rfl) hrun ?_
      refine i_157_65 ob_b ?_
      have hz9 := ‹(((xbl (V 89) + 31) / 32 : Nat) : Int) ≠ 0›
      have hR0 : ¬ V 89 = 0 := fun e => hz9 (by rw [e, xbl_zero]; rfl)
      refine ⟨by rw [show qUp mode (S t 2) (V 87) (V 89) (V 119) = (gO mode (S t 2) (bb (nbit (V 87) 0)) (ncmp (shf (V 89) 1) (V 119))) from by unfold qUp; rw [decide_eq_false hR0]; rfl], _, hR, fun i hi => uv_n hi⟩
    · refine i_157_13 ?_
      refine i_157_14 rfl ?_
      have hz9 := ‹(((xbl (V 89) + 31) / 32 : Nat) : Int) = 0›
      have hR0 : V 89 = 0 := xbl_nz.mp (by omega)
      refine ⟨by rw [show qUp mode (S t 2) (V 87) (V 89) (V 119) = false from by unfold qUp; rw [decide_eq_true hR0]; rfl]; rfl, V, hR, fun _ _ => rfl⟩
  obtain ⟨o, w', h1, rfl, h2⟩ := (key (lv_args 0 [Value.ref 113, Value.int (Int32.ofInt mode)]) rfl rfl).run
  exact ⟨w', h1, h2⟩
set_option maxHeartbeats 4000000 in
theorem x_isp2 (hR : cX w0 L Z S V w) (ht : kd t = 2) (hm : V (t + 1) ≠ 0) (hx : (xbl (V (t + 1)) : Int) = S t 0) (hp : 2 ≤ S t 0 ∧ S t 0 ≤ 4096) : xRun (d + 2) 158 [Value.ref t] w (.inl (some (.int (Int32.ofInt (bb (decide (V (t + 1) = 2 ^ (S t 0 - 1).toNat))))))) w := by
  have key : ∀ lv, xld lv 0 = some (Value.ref t) → xEv (d + 2) 158 0 lv [] w (fun o w' => o = .inl (some (.int (Int32.ofInt (bb (decide (V (t + 1) = 2 ^ (S t 0 - 1).toNat)))))) ∧ w' = w) := by
    intro lv l0
    refine i_158_0 (x := t) l0 ?_
    refine i_158_1 (v := Value.ref (t + 1)) (hR.k2 ht) rfl ?_
    obtain ⟨fs, hobj⟩ := hR.nat (kd_rg ht)
    obtain ⟨z, K, hrun, hz⟩ := X_zeros (d := d) (h := t + 1) (u := V (t + 1)) hR (kd_rg ht) rfl
    have ez := hz.resolve_left (fun e => hm e.1)
    have hzb : z < xbl (V (t + 1)) := xbl_ge (show 2 ^ z ≤ V (t + 1) by rw [ez]; exact Nat.le_mul_of_pos_right _ (by omega))
    have hxz : xbl (V (t + 1)) = z + xbl (2 * K + 1) := by rw [ez, Nat.mul_comm, xbl_pow _ _ (by omega), Nat.add_comm]
    refine i_158_4 hobj (Nat.le_of_ble_eq_true rfl) hrun ?_
    refine i_158_7 (x := t) l0 ?_
    refine i_158_8 (v := Value.int (Int32.ofInt (S t 0))) (hR.k2 ht) rfl ?_
    refine i_158_11 ?_
    refine i_158_12 (c := Int32.ofInt ((S t 0) - 1)) (o_sub (S t 0) 1) ?_
    refine i_158_13 (b_ne (a := (z : Int)) (b := (S t 0) - 1) ⟨by omega, by omega⟩ ⟨by omega, by omega⟩ fun c0 => ?_) (b_eq (a := (z : Int)) (b := (S t 0) - 1) ⟨by omega, by omega⟩ ⟨by omega, by omega⟩ fun c0 => ?_)
    · refine i_158_20 ?_
      refine i_158_21 rfl ?_
      exact ⟨by rw [show decide (V (t + 1) = 2 ^ (S t 0 - 1).toNat) = false from decide_eq_false (fun e => pw_odd (show 2 ^ z * (2 * K + 1) = 2 ^ (S t 0 - 1).toNat by rw [← ez]; exact e) (by omega))]; rfl, rfl⟩
    · refine i_158_16 ?_
      refine i_158_17 ?_
      refine i_158_21 rfl ?_
      have hK : K = 0 := by
        rcases Nat.eq_zero_or_pos K with g | g
        · exact g
        · have := xbl_ge (show 2 ^ 1 ≤ 2 * K + 1 by omega)
          omega
      exact ⟨by rw [show decide (V (t + 1) = 2 ^ (S t 0 - 1).toNat) = true from decide_eq_true (by rw [ez, hK, Nat.mul_zero, Nat.zero_add, Nat.mul_one, show z = (S t 0 - 1).toNat by omega])]; rfl, rfl⟩
  obtain ⟨o, w', h1, rfl, rfl⟩ := (key (lv_args 0 [Value.ref t]) rfl).run
  exact h1
end
