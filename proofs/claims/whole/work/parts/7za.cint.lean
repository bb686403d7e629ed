/-! Real of the class: roundToInteger, isLong -/
theorem shf_ng {u : Nat} {k : Int} (h : k < 0) : shf u k = u / 2 ^ (-k).toNat := if_neg (by omega)
def isL (m : Nat) (sc ng : Int) : Bool := decide (m = 0) || decide ((xbl m : Int) + sc ≤ 63) || (!decide (ng = 0) && decide ((xbl m : Int) + sc = 64) && !nany m ((xbl m : Int) - 1))
theorem zp0 {m z K : Nat} (h : (m = 0 ∧ z = 0) ∨ m = 2 ^ z * (2 * K + 1)) : m = 0 ∨ (((z : Int) = (xbl m : Int) - 1) ↔ nany m ((xbl m : Int) - 1) = false) := by
  by_cases g : m = 0
  · exact Or.inl g
  · right
    rcases h with h | h
    · exact absurd h.1 g
    · exact zp g h
section
variable {w0 w : xW} {L Z : Nat} {S : Nat → Nat → Int} {V : Nat → Nat} {d h t r : Nat}
theorem x_rti0 {mode : Int} (hR : cX w0 L Z S V w) (h0 : 0 ≤ S 16 2) (hsc : S 16 2 ≤ 300000) : ∃ w', xRun (d + 0) 108 [Value.ref 16, Value.int (Int32.ofInt mode)] w (.inl none) w' ∧ cX w0 L Z S V w' := by
  have key : ∀ lv, xld lv 0 = some (Value.ref 16) → xld lv 1 = some (Value.int (Int32.ofInt mode)) → xEv (d + 0) 108 0 lv [] w (fun o w' => o = .inl none ∧ cX w0 L Z S V w') := by
    intro lv l0 l1
    refine i_108_0 (x := 16) l0 ?_
    refine i_108_1 (v := Value.int (Int32.ofInt (S 16 2))) (hR.k4 kq_16) rfl ?_
    refine i_108_4 (z_lt (a := S 16 2) ⟨by omega, by omega⟩ fun c0 => absurd c0 (by omega)) (z_ge (a := S 16 2) ⟨by omega, by omega⟩ fun c0 => ?_)
    refine i_108_7 ?_
    exact ⟨rfl, hR⟩
  obtain ⟨o, w', h1, rfl, h2⟩ := (key (lv_args 0 [Value.ref 16, Value.int (Int32.ofInt mode)]) rfl rfl).run
  exact ⟨w', h1, h2⟩
theorem x_rti1 {mode : Int} (hR : cX w0 L Z S V w) (h0 : S 16 2 < 0) (hn : S 16 0 = 0 ∨ S 16 0 = 1) (hm3 : S 16 3 = 0 ∨ S 16 3 = 1) (hmo : 0 ≤ mode ∧ mode ≤ 4) (hsc : -300000 ≤ S 16 2 ∧ S 16 2 ≤ 300000) (hmb : xbl (V 17) ≤ 600000) : ∃ w', xRun (d + 5) 108 [Value.ref 16, Value.int (Int32.ofInt mode)] w (.inl none) w' ∧ cX w0 L Z (u2 S 16 2 0) (uv V 17 (V 17 / 2 ^ (-S 16 2).toNat + (bb (gU (V 17) (0 - S 16 2) (S 16 3) (S 16 0) mode (bb (nbit (V 17) (0 - S 16 2))))).toNat)) w' := by
  have key : ∀ lv, xld lv 0 = some (Value.ref 16) → xld lv 1 = some (Value.int (Int32.ofInt mode)) → xEv (d + 5) 108 0 lv [] w (fun o w' => o = .inl none ∧ cX w0 L Z (u2 S 16 2 0) (uv V 17 (V 17 / 2 ^ (-S 16 2).toNat + (bb (gU (V 17) (0 - S 16 2) (S 16 3) (S 16 0) mode (bb (nbit (V 17) (0 - S 16 2))))).toNat)) w') := by
    intro lv l0 l1
    refine i_108_0 (x := 16) l0 ?_
    refine i_108_1 (v := Value.int (Int32.ofInt (S 16 2))) (hR.k4 kq_16) rfl ?_
    refine i_108_4 (z_lt (a := S 16 2) ⟨by omega, by omega⟩ fun c0 => ?_) (z_ge (a := S 16 2) ⟨by omega, by omega⟩ fun c0 => absurd c0 (by omega))
    refine i_108_8 (x := 16) l0 ?_
    refine i_108_9 ?_
    refine i_108_10 (x := Int32.ofInt mode) l1 ?_
    have hobj := hR.k4 kq_16
    have hrun := x_rO (d := d) (h := 16) (unit := 0) (mode := mode) hR kq_16 ⟨by decide, by decide⟩ ⟨by omega, by omega⟩ hm3 hn hmo
    refine i_108_11 hobj (Nat.le_of_ble_eq_true rfl) hrun ?_
    refine i_108_14 rfl ?_
    refine lgen1 (i := 2) (v := Value.int (Int32.ofInt (bb (gU (V 17) (0 - S 16 2) (S 16 3) (S 16 0) mode (bb (nbit (V 17) (0 - S 16 2))))))) (fun lv lg ls => ?_)
    replace l0 := lg 0 _ rfl rfl l0
    replace l1 := lg 1 _ rfl rfl l1
    have l2 := ls
    refine i_108_15 (x := 16) l0 ?_
    refine i_108_16 (v := Value.ref 17) (hR.k4 kq_16) rfl ?_
    refine i_108_19 (x := 16) l0 ?_
    refine i_108_20 (v := Value.ref 17) (hR.k4 kq_16) rfl ?_
    refine i_108_23 (x := 16) l0 ?_
    refine i_108_24 (v := Value.int (Int32.ofInt (S 16 2))) (hR.k4 kq_16) rfl ?_
    obtain ⟨fs, hobj⟩ := hR.nat kq_17
    obtain ⟨w, hrun, hR⟩ := X_shift (d := d + 1) (h := 17) (h2 := 17) (u := V 17) (k := S 16 2) hR kq_17 kq_17 (rfl) (by omega) (by omega)
    rw [shf_ng (by omega)] at hR
    refine i_108_27 hobj (Nat.le_of_ble_eq_true rfl) hrun ?_
    refine i_108_30 (x := 16) l0 ?_
    refine i_108_31 ?_
    refine i_108_32 (fs2 := f4 16 (u1 (S 16) 2 0)) (hR.k4 kq_16) (Nat.le_of_ble_eq_true rfl) rfl (h7k kq_16 (by decide)) ?_
    refine xgen (P := cX w0 L Z (u2 S 16 2 0) (uv V 17 ((V 17) / 2 ^ (-(S 16 2)).toNat))) (hR.p4 kq_16) (fun w hR => ?_)
    refine i_108_35 (x := Int32.ofInt (bb (gU (V 17) (0 - S 16 2) (S 16 3) (S 16 0) mode (bb (nbit (V 17) (0 - S 16 2)))))) l2 ?_
    refine i_108_36 (zb_f fun c1 => ?_) (zb_t fun c1 => ?_)
    · refine i_108_47 ?_
      rw [show gU (V 17) (0 - S 16 2) (S 16 3) (S 16 0) mode (bb (nbit (V 17) (0 - S 16 2))) = false by assumption]
      exact ⟨rfl, hR⟩
    · refine i_108_39 (x := 16) l0 ?_
      refine i_108_40 (v := Value.ref 17) (hR.k4 kq_16) rfl ?_
      refine i_108_43 ?_
      obtain ⟨fs, hobj⟩ := hR.nat kq_17
      obtain ⟨w, hrun, hR⟩ := X_addBit (d := d) (h := 17) (u := (V 17) / 2 ^ (-(S 16 2)).toNat) (p := 0) hR kq_17 (uv_s) ⟨by decide, by decide⟩ (by rw [xbl_div]; omega)
      rw [uvv] at hR
      refine i_108_44 hobj (Nat.le_of_ble_eq_true rfl) hrun ?_
      refine i_108_47 ?_
      rw [show gU (V 17) (0 - S 16 2) (S 16 3) (S 16 0) mode (bb (nbit (V 17) (0 - S 16 2))) = true by assumption]
      exact ⟨rfl, hR⟩
  obtain ⟨o, w', h1, rfl, h2⟩ := (key (lv_args 0 [Value.ref 16, Value.int (Int32.ofInt mode)]) rfl rfl).run
  exact ⟨w', h1, h2⟩
set_option maxHeartbeats 4000000 in
theorem x_isL (hR : cX w0 L Z S V w) (hn : S 16 0 = 0 ∨ S 16 0 = 1) (hsc : -300000 ≤ S 16 2 ∧ S 16 2 ≤ 300000) (hmb : xbl (V 17) ≤ 600000) : xRun (d + 3) 134 [Value.ref 16] w (.inl (some (.int (Int32.ofInt (bb (isL (V 17) (S 16 2) (S 16 0))))))) w := by
  have key : ∀ lv, xld lv 0 = some (Value.ref 16) → xEv (d + 3) 134 0 lv [] w (fun o w' => o = .inl (some (.int (Int32.ofInt (bb (isL (V 17) (S 16 2) (S 16 0)))))) ∧ w' = w) := by
    intro lv l0
    refine i_134_0 (x := 16) l0 ?_
    have hobj := hR.k4 kq_16
    have hrun := x_exp (d := d) (h := 16) hR kq_16
    refine i_134_1 hobj (Nat.le_of_ble_eq_true rfl) hrun ?_
    refine i_134_4 rfl ?_
    refine lgen1 (i := 1) (v := Value.int (Int32.ofInt ((xbl (V 17) : Int) + S 16 2))) (fun lv lg ls => ?_)
    replace l0 := lg 0 _ rfl rfl l0
    have l1 := ls
    refine i_134_5 (x := 16) l0 ?_
    refine i_134_6 (v := Value.int (Int32.ofInt (S 16 0))) (hR.k4 kq_16) rfl ?_
    refine i_134_9 (z_eq (a := S 16 0) ⟨by omega, by omega⟩ fun c0 => ?_) (z_ne (a := S 16 0) ⟨by omega, by omega⟩ fun c0 => ?_)
    · refine i_134_41 ?_
      refine i_134_42 rfl ?_
      refine lgen1 (i := 2) (v := Value.int 0) (fun lv lg ls => ?_)
      replace l1 := lg 1 _ rfl rfl l1
      replace l0 := lg 0 _ rfl rfl l0
      have l2 := ls
      refine i_134_43 (x := 16) l0 ?_
      refine i_134_44 (v := Value.ref 17) (hR.k4 kq_16) rfl ?_
      obtain ⟨a2, hsz, hz2⟩ := hR.size (h := 17) (u := V 17) kq_17 (rfl)
      refine i_134_47 (v := Value.int (Int32.ofInt (((xbl (V 17) + 31) / 32 : Nat) : Int))) hsz rfl ?_
      refine i_134_50 (z_eq (a := (((xbl (V 17) + 31) / 32 : Nat) : Int)) ⟨by omega, by omega⟩ fun c2 => ?_) (z_ne (a := (((xbl (V 17) + 31) / 32 : Nat) : Int)) ⟨by omega, by omega⟩ fun c2 => ?_)
      · refine i_134_63 ?_
        refine i_134_64 ?_
        refine i_134_68 rfl ?_
        refine ⟨?_, rfl⟩
        have hb0 := xbl_nz (a := V 17)
        rw [show isL (V 17) (S 16 2) (S 16 0) = true from by clear hR; unfold isL; grind]
        rfl
      · refine i_134_53 (x := Int32.ofInt ((xbl (V 17) : Int) + S 16 2)) l1 ?_
        refine i_134_54 ?_
        refine i_134_56 (b_le (a := (xbl (V 17) : Int) + S 16 2) (b := 63) ⟨by omega, by omega⟩ ⟨by decide, by decide⟩ fun c3 => ?_) (b_lt (a := 63) (b := (xbl (V 17) : Int) + S 16 2) ⟨by decide, by decide⟩ ⟨by omega, by omega⟩ fun c3 => ?_)
        · refine i_134_63 ?_
          refine i_134_64 ?_
          refine i_134_68 rfl ?_
          refine ⟨?_, rfl⟩
          have hb0 := xbl_nz (a := V 17)
          rw [show isL (V 17) (S 16 2) (S 16 0) = true from by clear hR; unfold isL; grind]
          rfl
        · refine i_134_59 (x := 0) l2 ?_
          refine i_134_60 (fun _ => ?_) (fun c => absurd c (by decide))
          refine i_134_67 ?_
          refine i_134_68 rfl ?_
          refine ⟨?_, rfl⟩
          have hb0 := xbl_nz (a := V 17)
          rw [show isL (V 17) (S 16 2) (S 16 0) = false from by clear hR; unfold isL; grind]
          rfl
    · refine i_134_12 (x := Int32.ofInt ((xbl (V 17) : Int) + S 16 2)) l1 ?_
      refine i_134_13 ?_
      refine i_134_15 (b_ne (a := (xbl (V 17) : Int) + S 16 2) (b := 64) ⟨by omega, by omega⟩ ⟨by decide, by decide⟩ fun c4 => ?_) (b_eq (a := (xbl (V 17) : Int) + S 16 2) (b := 64) ⟨by omega, by omega⟩ ⟨by decide, by decide⟩ fun c4 => ?_)
      · refine i_134_41 ?_
        refine i_134_42 rfl ?_
        refine lgen1 (i := 2) (v := Value.int 0) (fun lv lg ls => ?_)
        replace l1 := lg 1 _ rfl rfl l1
        replace l0 := lg 0 _ rfl rfl l0
        have l2 := ls
        refine i_134_43 (x := 16) l0 ?_
        refine i_134_44 (v := Value.ref 17) (hR.k4 kq_16) rfl ?_
        obtain ⟨a6, hsz, hz6⟩ := hR.size (h := 17) (u := V 17) kq_17 (rfl)
        refine i_134_47 (v := Value.int (Int32.ofInt (((xbl (V 17) + 31) / 32 : Nat) : Int))) hsz rfl ?_
        refine i_134_50 (z_eq (a := (((xbl (V 17) + 31) / 32 : Nat) : Int)) ⟨by omega, by omega⟩ fun c6 => ?_) (z_ne (a := (((xbl (V 17) + 31) / 32 : Nat) : Int)) ⟨by omega, by omega⟩ fun c6 => ?_)
        · refine i_134_63 ?_
          refine i_134_64 ?_
          refine i_134_68 rfl ?_
          refine ⟨?_, rfl⟩
          have hb0 := xbl_nz (a := V 17)
          rw [show isL (V 17) (S 16 2) (S 16 0) = true from by clear hR; unfold isL; grind]
          rfl
        · refine i_134_53 (x := Int32.ofInt ((xbl (V 17) : Int) + S 16 2)) l1 ?_
          refine i_134_54 ?_
          refine i_134_56 (b_le (a := (xbl (V 17) : Int) + S 16 2) (b := 63) ⟨by omega, by omega⟩ ⟨by decide, by decide⟩ fun c7 => ?_) (b_lt (a := 63) (b := (xbl (V 17) : Int) + S 16 2) ⟨by decide, by decide⟩ ⟨by omega, by omega⟩ fun c7 => ?_)
          · refine i_134_63 ?_
            refine i_134_64 ?_
            refine i_134_68 rfl ?_
            refine ⟨?_, rfl⟩
            have hb0 := xbl_nz (a := V 17)
            rw [show isL (V 17) (S 16 2) (S 16 0) = true from by clear hR; unfold isL; grind]
            rfl
          · refine i_134_59 (x := 0) l2 ?_
            refine i_134_60 (fun _ => ?_) (fun c => absurd c (by decide))
            refine i_134_67 ?_
            refine i_134_68 rfl ?_
            refine ⟨?_, rfl⟩
            have hb0 := xbl_nz (a := V 17)
            rw [show isL (V 17) (S 16 2) (S 16 0) = false from by clear hR; unfold isL; grind]
            rfl
      · refine i_134_18 (x := 16) l0 ?_
        refine i_134_19 (v := Value.ref 17) (hR.k4 kq_16) rfl ?_
        obtain ⟨fs, hobj⟩ := hR.nat kq_17
        obtain ⟨z9, K9, hrun, hzK9⟩ := X_zeros (d := d + 1) (h := 17) (u := V 17) hR kq_17 (rfl)
        have hzp := zp0 hzK9
        have hzl : z9 ≤ 600000 := zk_le hzK9 (by omega)
        refine i_134_22 hobj (Nat.le_of_ble_eq_true rfl) hrun ?_
        refine i_134_25 (x := 16) l0 ?_
        refine i_134_26 (v := Value.ref 17) (hR.k4 kq_16) rfl ?_
        obtain ⟨fs, hobj⟩ := hR.nat kq_17
        have hrun := X_bits (d := d + 1) (h := 17) (u := V 17) hR kq_17 (rfl)
        refine i_134_29 hobj (Nat.le_of_ble_eq_true rfl) hrun ?_
        refine i_134_32 ?_
        refine i_134_33 (c := Int32.ofInt ((xbl (V 17) : Int) - 1)) (o_sub (xbl (V 17) : Int) 1) ?_
        refine i_134_34 (b_ne (a := (z9 : Int)) (b := (xbl (V 17) : Int) - 1) ⟨by omega, by omega⟩ ⟨by omega, by omega⟩ fun c9 => ?_) (b_eq (a := (z9 : Int)) (b := (xbl (V 17) : Int) - 1) ⟨by omega, by omega⟩ ⟨by omega, by omega⟩ fun c9 => ?_)
        · refine i_134_41 ?_
          refine i_134_42 rfl ?_
          refine lgen1 (i := 2) (v := Value.int 0) (fun lv lg ls => ?_)
          replace l1 := lg 1 _ rfl rfl l1
          replace l0 := lg 0 _ rfl rfl l0
          have l2 := ls
          refine i_134_43 (x := 16) l0 ?_
          refine i_134_44 (v := Value.ref 17) (hR.k4 kq_16) rfl ?_
          obtain ⟨a11, hsz, hz11⟩ := hR.size (h := 17) (u := V 17) kq_17 (rfl)
          refine i_134_47 (v := Value.int (Int32.ofInt (((xbl (V 17) + 31) / 32 : Nat) : Int))) hsz rfl ?_
          refine i_134_50 (z_eq (a := (((xbl (V 17) + 31) / 32 : Nat) : Int)) ⟨by omega, by omega⟩ fun c11 => ?_) (z_ne (a := (((xbl (V 17) + 31) / 32 : Nat) : Int)) ⟨by omega, by omega⟩ fun c11 => ?_)
          · refine i_134_63 ?_
            refine i_134_64 ?_
            refine i_134_68 rfl ?_
            refine ⟨?_, rfl⟩
            have hb0 := xbl_nz (a := V 17)
            rw [show isL (V 17) (S 16 2) (S 16 0) = true from by clear hR; unfold isL; grind]
            rfl
          · refine i_134_53 (x := Int32.ofInt ((xbl (V 17) : Int) + S 16 2)) l1 ?_
            refine i_134_54 ?_
            refine i_134_56 (b_le (a := (xbl (V 17) : Int) + S 16 2) (b := 63) ⟨by omega, by omega⟩ ⟨by decide, by decide⟩ fun c12 => absurd c12 (by omega)) (b_lt (a := 63) (b := (xbl (V 17) : Int) + S 16 2) ⟨by decide, by decide⟩ ⟨by omega, by omega⟩ fun c12 => ?_)
            refine i_134_59 (x := 0) l2 ?_
            refine i_134_60 (fun _ => ?_) (fun c => absurd c (by decide))
            refine i_134_67 ?_
            refine i_134_68 rfl ?_
            refine ⟨?_, rfl⟩
            have hb0 := xbl_nz (a := V 17)
            rw [show isL (V 17) (S 16 2) (S 16 0) = false from by clear hR; unfold isL; grind]
            rfl
        · refine i_134_37 ?_
          refine i_134_38 ?_
          refine i_134_42 rfl ?_
          refine lgen1 (i := 2) (v := Value.int 1) (fun lv lg ls => ?_)
          replace l1 := lg 1 _ rfl rfl l1
          replace l0 := lg 0 _ rfl rfl l0
          have l2 := ls
          refine i_134_43 (x := 16) l0 ?_
          refine i_134_44 (v := Value.ref 17) (hR.k4 kq_16) rfl ?_
          obtain ⟨a14, hsz, hz14⟩ := hR.size (h := 17) (u := V 17) kq_17 (rfl)
          refine i_134_47 (v := Value.int (Int32.ofInt (((xbl (V 17) + 31) / 32 : Nat) : Int))) hsz rfl ?_
          refine i_134_50 (z_eq (a := (((xbl (V 17) + 31) / 32 : Nat) : Int)) ⟨by omega, by omega⟩ fun c14 => ?_) (z_ne (a := (((xbl (V 17) + 31) / 32 : Nat) : Int)) ⟨by omega, by omega⟩ fun c14 => ?_)
          · refine i_134_63 ?_
            refine i_134_64 ?_
            refine i_134_68 rfl ?_
            refine ⟨?_, rfl⟩
            have hb0 := xbl_nz (a := V 17)
            rw [show isL (V 17) (S 16 2) (S 16 0) = true from by clear hR; unfold isL; grind]
            rfl
          · refine i_134_53 (x := Int32.ofInt ((xbl (V 17) : Int) + S 16 2)) l1 ?_
            refine i_134_54 ?_
            refine i_134_56 (b_le (a := (xbl (V 17) : Int) + S 16 2) (b := 63) ⟨by omega, by omega⟩ ⟨by decide, by decide⟩ fun c15 => absurd c15 (by omega)) (b_lt (a := 63) (b := (xbl (V 17) : Int) + S 16 2) ⟨by decide, by decide⟩ ⟨by omega, by omega⟩ fun c15 => ?_)
            refine i_134_59 (x := 1) l2 ?_
            refine i_134_60 (fun c => absurd c (by decide)) (fun _ => ?_)
            refine i_134_63 ?_
            refine i_134_64 ?_
            refine i_134_68 rfl ?_
            refine ⟨?_, rfl⟩
            have hb0 := xbl_nz (a := V 17)
            rw [show isL (V 17) (S 16 2) (S 16 0) = true from by clear hR; unfold isL; grind]
            rfl
  obtain ⟨o, w', h1, rfl, rfl⟩ := (key (lv_args 0 [Value.ref 16]) rfl).run
  exact h1
end
