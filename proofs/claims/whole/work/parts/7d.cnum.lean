/-! number, copy of the class -/
section
variable {w0 w : xW} {L Z : Nat} {S : Nat → Nat → Int} {V : Nat → Nat} {d h t r : Nat}
theorem x_noReg {r : Int} (hr : -2147483648 ≤ r ∧ r < 2147483648) : xRun (d + 0) 15 [Value.int (Int32.ofInt r)] w (.inl (some (.int (Int32.ofInt (bb (decide (r < 0) || decide (16 ≤ r))))))) w := by
  have key : ∀ lv, xld lv 0 = some (Value.int (Int32.ofInt r)) → xEv (d + 0) 15 0 lv [] w (fun o w' => o = .inl (some (.int (Int32.ofInt (bb (decide (r < 0) || decide (16 ≤ r)))))) ∧ w' = w) := by
    intro lv l0
    refine i_15_0 (x := Int32.ofInt r) l0 ?_
    refine i_15_1 (z_lt (a := r) ⟨by omega, by omega⟩ fun c0 => ?_) (z_ge (a := r) ⟨by omega, by omega⟩ fun c0 => ?_)
    · refine i_15_10 ?_
      refine i_15_11 ?_
      refine i_15_15 rfl ?_
      refine ⟨?_, rfl⟩
      rw [show (decide (r < 0) || decide (16 ≤ r)) = true from by simp; omega]
      rfl
    · refine i_15_4 (x := Int32.ofInt r) l0 ?_
      refine i_15_5 ?_
      refine i_15_7 (b_lt (a := r) (b := 16) ⟨by omega, by omega⟩ ⟨by decide, by decide⟩ fun c1 => ?_) (b_le (a := 16) (b := r) ⟨by decide, by decide⟩ ⟨by omega, by omega⟩ fun c1 => ?_)
      · refine i_15_14 ?_
        refine i_15_15 rfl ?_
        refine ⟨?_, rfl⟩
        rw [show (decide (r < 0) || decide (16 ≤ r)) = false from by simp; omega]
        rfl
      · refine i_15_10 ?_
        refine i_15_11 ?_
        refine i_15_15 rfl ?_
        refine ⟨?_, rfl⟩
        rw [show (decide (r < 0) || decide (16 ≤ r)) = true from by simp; omega]
        rfl
  obtain ⟨o, w', h1, rfl, rfl⟩ := (key (lv_args 0 [Value.int (Int32.ofInt r)]) rfl).run
  exact h1
theorem x_noMode {m : Int} (hr : -2147483648 ≤ m ∧ m < 2147483648) : xRun (d + 0) 22 [Value.int (Int32.ofInt m)] w (.inl (some (.int (Int32.ofInt (bb (decide (m < 0) || decide (4 < m))))))) w := by
  have key : ∀ lv, xld lv 0 = some (Value.int (Int32.ofInt m)) → xEv (d + 0) 22 0 lv [] w (fun o w' => o = .inl (some (.int (Int32.ofInt (bb (decide (m < 0) || decide (4 < m)))))) ∧ w' = w) := by
    intro lv l0
    refine i_22_0 (x := Int32.ofInt m) l0 ?_
    refine i_22_1 (z_lt (a := m) ⟨by omega, by omega⟩ fun c0 => ?_) (z_ge (a := m) ⟨by omega, by omega⟩ fun c0 => ?_)
    · refine i_22_9 ?_
      refine i_22_10 ?_
      refine i_22_14 rfl ?_
      refine ⟨?_, rfl⟩
      rw [show (decide (m < 0) || decide (4 < m)) = true from by simp; omega]
      rfl
    · refine i_22_4 (x := Int32.ofInt m) l0 ?_
      refine i_22_5 ?_
      refine i_22_6 (b_le (a := m) (b := 4) ⟨by omega, by omega⟩ ⟨by decide, by decide⟩ fun c1 => ?_) (b_lt (a := 4) (b := m) ⟨by decide, by decide⟩ ⟨by omega, by omega⟩ fun c1 => ?_)
      · refine i_22_13 ?_
        refine i_22_14 rfl ?_
        refine ⟨?_, rfl⟩
        rw [show (decide (m < 0) || decide (4 < m)) = false from by simp; omega]
        rfl
      · refine i_22_9 ?_
        refine i_22_10 ?_
        refine i_22_14 rfl ?_
        refine ⟨?_, rfl⟩
        rw [show (decide (m < 0) || decide (4 < m)) = true from by simp; omega]
        rfl
  obtain ⟨o, w', h1, rfl, rfl⟩ := (key (lv_args 0 [Value.int (Int32.ofInt m)]) rfl).run
  exact h1
theorem x_tb {sg b pw : Int} (hR : cX w0 L Z S V w) (hk : kd h = 4) (hs : sg = 0 ∨ sg = 1) (hb : 0 ≤ b ∧ b < 18446744073709551616) : ∃ w', xRun (d + 2) 24 [Value.ref h, Value.int (Int32.ofInt sg), Value.long (Int64.ofInt b), Value.int (Int32.ofInt pw)] w (.inl none) w' ∧ cX w0 L Z (u2 (u2 (u2 S h 0 sg) h 2 pw) h 3 0) (uv V (h + 1) (b : Int).toNat) w' := by
  have key : ∀ lv, xld lv 0 = some (Value.ref h) → xld lv 1 = some (Value.int (Int32.ofInt sg)) → xld lv 2 = some (Value.long (Int64.ofInt b)) → xld lv 4 = some (Value.int (Int32.ofInt pw)) → xEv (d + 2) 24 0 lv [] w (fun o w' => o = .inl none ∧ cX w0 L Z (u2 (u2 (u2 S h 0 sg) h 2 pw) h 3 0) (uv V (h + 1) (b : Int).toNat) w') := by
    intro lv l0 l1 l2 l4
    refine i_24_0 (x := h) l0 ?_
    refine i_24_1 (x := Int32.ofInt sg) l1 ?_
    refine i_24_2 (fs2 := f4 h (u1 (S h) 0 sg)) (hR.k4 hk) (o_bool (by omega)) (Nat.le_of_ble_eq_true rfl) rfl (h7k hk (by decide)) ?_
    refine xgen (P := cX w0 L Z (u2 S h 0 sg) V) (hR.p4 hk) (fun w hR => ?_)
    refine i_24_5 (x := h) l0 ?_
    refine i_24_6 (v := Value.ref (h + 1)) (hR.k4 hk) rfl ?_
    refine i_24_9 (x := Int64.ofInt b) l2 ?_
    obtain ⟨fs, hobj⟩ := hR.nat (kd_rl hk)
    obtain ⟨w, hrun, hR⟩ := X_setl (d := d) (h := h + 1) (x := Int64.ofInt b) hR (kd_rl hk)
    rw [show xul (Int64.ofInt b) = (b : Int).toNat from xul_o (by omega) (by omega)] at hR
    refine i_24_10 hobj (Nat.le_of_ble_eq_true rfl) hrun ?_
    refine i_24_13 (x := h) l0 ?_
    refine i_24_14 (x := Int32.ofInt pw) l4 ?_
    refine i_24_16 (fs2 := f4 h (u1 ((u2 S h 0 sg) h) 2 pw)) (hR.k4 hk) (Nat.le_of_ble_eq_true rfl) rfl (h7k hk (by decide)) ?_
    refine xgen (P := cX w0 L Z (u2 (u2 S h 0 sg) h 2 pw) (uv V (h + 1) ((b : Int).toNat))) (hR.p4 hk) (fun w hR => ?_)
    refine i_24_19 (x := h) l0 ?_
    refine i_24_20 ?_
    refine i_24_21 (fs2 := f4 h (u1 ((u2 (u2 S h 0 sg) h 2 pw) h) 3 0)) (hR.k4 hk) rfl (Nat.le_of_ble_eq_true rfl) rfl (h7k hk (by decide)) ?_
    refine xgen (P := cX w0 L Z (u2 (u2 (u2 S h 0 sg) h 2 pw) h 3 0) (uv V (h + 1) ((b : Int).toNat))) (hR.p4 hk) (fun w hR => ?_)
    refine i_24_24 ?_
    exact ⟨rfl, hR⟩
  obtain ⟨o, w', h1, rfl, h2⟩ := (key (lv_args 0 [Value.ref h, Value.int (Int32.ofInt sg), Value.long (Int64.ofInt b), Value.int (Int32.ofInt pw)]) rfl rfl rfl rfl).run
  exact ⟨w', h1, h2⟩
theorem x_tn (hR : cX w0 L Z S V w) (hk : kd h = 4) (ht : kd t = 2) (hn : S t 2 = 0 ∨ S t 2 = 1) (hb : xbl (V (t + 1)) ≤ 600000) : ∃ w', xRun (d + 4) 55 [Value.ref h, Value.ref t] w (.inl none) w' ∧ cX w0 L Z (u2 (u2 (u2 S h 0 (S t 2)) h 2 (S t 3 - S t 0)) h 3 0) (uv V (h + 1) (V (t + 1))) w' := by
  have key : ∀ lv, xld lv 0 = some (Value.ref h) → xld lv 1 = some (Value.ref t) → xEv (d + 4) 55 0 lv [] w (fun o w' => o = .inl none ∧ cX w0 L Z (u2 (u2 (u2 S h 0 (S t 2)) h 2 (S t 3 - S t 0)) h 3 0) (uv V (h + 1) (V (t + 1))) w') := by
    intro lv l0 l1
    have n1 : t ≠ h := kd_ne ht hk (by decide)
    have n2 : h + 1 ≠ t + 1 := fun e => n1 (by omega)
    refine i_55_0 (x := h) l0 ?_
    refine i_55_1 (x := t) l1 ?_
    refine i_55_2 (v := Value.int (Int32.ofInt (S t 2))) (hR.k2 ht) rfl ?_
    refine i_55_5 (fs2 := f4 h (u1 (S h) 0 (S t 2))) (hR.k4 hk) (o_bool (by omega)) (Nat.le_of_ble_eq_true rfl) rfl (h7k hk (by decide)) ?_
    refine xgen (P := cX w0 L Z (u2 S h 0 (S t 2)) V) (hR.p4 hk) (fun w hR => ?_)
    refine i_55_8 (x := h) l0 ?_
    refine i_55_9 (v := Value.ref (h + 1)) (hR.k4 hk) rfl ?_
    refine i_55_12 (x := t) l1 ?_
    refine i_55_13 (v := Value.ref (t + 1)) (hR.k2 ht) rfl ?_
    obtain ⟨fs, hobj⟩ := hR.nat (kd_rl hk)
    obtain ⟨w, hrun, hR⟩ := X_set (d := d) (h := h + 1) (h2 := t + 1) (u := V (t + 1)) hR (kd_rl hk) (kd_rg ht) (by omega) (rfl) (by omega)
    refine i_55_16 hobj (Nat.le_of_ble_eq_true rfl) hrun ?_
    refine i_55_19 (x := h) l0 ?_
    refine i_55_20 (x := t) l1 ?_
    refine i_55_21 (v := Value.int (Int32.ofInt ((u2 S h 0 (S t 2)) t 3))) (hR.k2 ht) rfl ?_
    rw [show Int32.ofInt ((u2 S h 0 (S t 2)) t 3) = Int32.ofInt (S t 3) by rw [u2_eq, if_neg (fun e => absurd e.2 (by decide))]]
    refine i_55_24 (x := t) l1 ?_
    refine i_55_25 (v := Value.int (Int32.ofInt ((u2 S h 0 (S t 2)) t 0))) (hR.k2 ht) rfl ?_
    rw [show Int32.ofInt ((u2 S h 0 (S t 2)) t 0) = Int32.ofInt (S t 0) by rw [u2_eq, if_neg (fun e => (kd_ne ht hk (by decide)) e.1)]]
    refine i_55_28 (c := Int32.ofInt ((S t 3) - (S t 0))) (o_sub (S t 3) (S t 0)) ?_
    refine i_55_29 (fs2 := f4 h (u1 ((u2 S h 0 (S t 2)) h) 2 ((S t 3) - (S t 0)))) (hR.k4 hk) (Nat.le_of_ble_eq_true rfl) rfl (h7k hk (by decide)) ?_
    refine xgen (P := cX w0 L Z (u2 (u2 S h 0 (S t 2)) h 2 ((S t 3) - (S t 0))) (uv V (h + 1) (V (t + 1)))) (hR.p4 hk) (fun w hR => ?_)
    refine i_55_32 (x := h) l0 ?_
    refine i_55_33 ?_
    refine i_55_34 (fs2 := f4 h (u1 ((u2 (u2 S h 0 (S t 2)) h 2 ((S t 3) - (S t 0))) h) 3 0)) (hR.k4 hk) rfl (Nat.le_of_ble_eq_true rfl) rfl (h7k hk (by decide)) ?_
    refine xgen (P := cX w0 L Z (u2 (u2 (u2 S h 0 (S t 2)) h 2 ((S t 3) - (S t 0))) h 3 0) (uv V (h + 1) (V (t + 1)))) (hR.p4 hk) (fun w hR => ?_)
    refine i_55_37 ?_
    exact ⟨rfl, hR⟩
  obtain ⟨o, w', h1, rfl, h2⟩ := (key (lv_args 0 [Value.ref h, Value.ref t]) rfl rfl).run
  exact ⟨w', h1, h2⟩
set_option maxHeartbeats 4000000 in
theorem x_num {r v sc mode : Int} (hR : cX w0 L Z S V w) (hI : cI S V) (hr : 0 ≤ r ∧ r ≤ 15) (hv : -9223372036854775808 ≤ v ∧ v < 9223372036854775808) (hsc : -40000 ≤ sc ∧ sc ≤ 40000) (hmo : 0 ≤ mode ∧ mode ≤ 4) : ∃ w', xRun (d + 11) 21 [Value.ref 7, Value.int (Int32.ofInt r), Value.long (Int64.ofInt v), Value.int (Int32.ofInt sc), Value.int (Int32.ofInt mode)] w (.inl (some (.int (Int32.ofInt (sNum (vS S) r.toNat v sc mode).2.2.2.2.1)))) w' ∧ ∃ S' V', cX w0 L Z S' V' w' ∧ cOut S S' V V' (30 + 3 * r.toNat) (sNum (vS S) r.toNat v sc mode) := by
  have key : ∀ lv, xld lv 0 = some (Value.ref 7) → xld lv 1 = some (Value.int (Int32.ofInt r)) → xld lv 2 = some (Value.long (Int64.ofInt v)) → xld lv 4 = some (Value.int (Int32.ofInt sc)) → xld lv 5 = some (Value.int (Int32.ofInt mode)) → xEv (d + 11) 21 0 lv [] w (fun o w' => o = .inl (some (.int (Int32.ofInt (sNum (vS S) r.toNat v sc mode).2.2.2.2.1))) ∧ ∃ S' V', cX w0 L Z S' V' w' ∧ cOut S S' V V' (30 + 3 * r.toNat) (sNum (vS S) r.toNat v sc mode)) := by
    intro lv l0 l1 l2 l4 l5
    obtain ⟨hp_r, hk_r, hn_r, ht_r, hx_r, hz_r⟩ := hI.1 r.toNat (by omega)
    have hi_l := hI.2.1
    have hi_g := hI.2.2.1
    refine i_21_0 (x := Int32.ofInt r) l1 ?_
    have hrun := x_noReg (d := d + 10) (w := w) (r := r) ⟨by omega, by omega⟩
    rw [show (decide (r < 0) || decide (16 ≤ r)) = false from by simp; omega] at hrun
    refine i_21_1 (Nat.le_of_ble_eq_true rfl) hrun ?_
    refine i_21_4 (fun c => absurd c (by decide)) (fun _ => ?_)
    refine i_21_7 (x := Int32.ofInt sc) l4 ?_
    refine i_21_9 ?_
    refine i_21_11 (b_lt (a := sc) (b := (-40000)) ⟨by omega, by omega⟩ ⟨by decide, by decide⟩ fun c0 => ?_) (b_le (a := (-40000)) (b := sc) ⟨by decide, by decide⟩ ⟨by omega, by omega⟩ fun c0 => ?_)
    · refine i_21_29 (by omega) (Nat.le_of_ble_eq_true rfl) ?_
      exfalso; omega
    · refine i_21_14 (x := Int32.ofInt sc) l4 ?_
      refine i_21_16 ?_
      refine i_21_18 (b_lt (a := 40000) (b := sc) ⟨by decide, by decide⟩ ⟨by omega, by omega⟩ fun c1 => ?_) (b_le (a := sc) (b := 40000) ⟨by omega, by omega⟩ ⟨by decide, by decide⟩ fun c1 => ?_)
      · refine i_21_29 (by omega) (Nat.le_of_ble_eq_true rfl) ?_
        exfalso; omega
      · refine i_21_21 (x := Int32.ofInt mode) l5 ?_
        have hrun := x_noMode (d := d + 10) (w := w) (m := mode) ⟨by omega, by omega⟩
        rw [show (decide (mode < 0) || decide (4 < mode)) = false from by simp; omega] at hrun
        refine i_21_23 (Nat.le_of_ble_eq_true rfl) hrun ?_
        refine i_21_26 (fun _ => ?_) (fun c => absurd c (by decide))
        refine i_21_37 (x := 7) l0 ?_
        refine i_21_38 (v := Value.ref 8) (hR.k0 kq_7) rfl ?_
        refine i_21_41 (x := Int32.ofInt r) l1 ?_
        obtain ⟨gr, hgr, hge⟩ := hR.regs
        refine i_21_42 (v := Value.ref (30 + 3 * r.toNat)) hgr (ix0 (T := r) (by omega) (by omega)) (ix1 (T := r) (by omega) (by omega) (by omega)) (by rw [ixn (T := r) (by omega) (by omega)]; exact hge _ (by omega)) ?_
        refine i_21_43 rfl ?_
        refine lgen1 (i := 6) (v := Value.ref (30 + 3 * r.toNat)) (fun lv lg ls => ?_)
        replace l0 := lg 0 _ rfl rfl l0
        replace l1 := lg 1 _ rfl rfl l1
        replace l2 := lg 2 _ rfl rfl l2
        replace l4 := lg 4 _ rfl rfl l4
        replace l5 := lg 5 _ rfl rfl l5
        have l6 := ls
        refine i_21_45 (x := Int64.ofInt v) l2 ?_
        refine i_21_46 ?_
        refine i_21_47 (c := Int32.ofInt (lc v 0)) (q_cmp (a := v) (b := 0) ⟨by omega, by omega⟩ ⟨by decide, by decide⟩) ?_
        refine i_21_48 (lc_ne (a := v) (b := 0) fun c2 => ?_) (lc_eq (a := v) (b := 0) fun c2 => ?_)
        · refine i_21_58 (x := 7) l0 ?_
          refine i_21_59 (v := Value.ref 16) (hR.k0 kq_7) rfl ?_
          refine i_21_62 (x := Int64.ofInt v) l2 ?_
          refine i_21_63 ?_
          refine i_21_64 (c := Int32.ofInt (lc v 0)) (q_cmp (a := v) (b := 0) ⟨by omega, by omega⟩ ⟨by decide, by decide⟩) ?_
          refine i_21_65 (lc_ge (a := v) (b := 0) fun c3 => ?_) (lc_lt (a := v) (b := 0) fun c3 => ?_)
          · refine i_21_72 ?_
            refine i_21_73 (x := Int64.ofInt v) l2 ?_
            refine i_21_74 ?_
            refine i_21_75 (c := Int32.ofInt (lc v 0)) (q_cmp (a := v) (b := 0) ⟨by omega, by omega⟩ ⟨by decide, by decide⟩) ?_
            refine i_21_76 (lc_ge (a := v) (b := 0) fun c4 => ?_) (lc_lt (a := v) (b := 0) fun c4 => absurd c4 (by omega))
            refine i_21_84 (x := Int64.ofInt v) l2 ?_
            refine i_21_85 (x := Int32.ofInt sc) l4 ?_
            have hobj := hR.k4 kq_16
            obtain ⟨w, hrun, hR⟩ := x_tb (d := d + 8) (h := 16) (sg := 0) (b := v) (pw := sc) hR kq_16 (by first | omega | exact bb_01 _) ⟨by omega, by omega⟩
            refine i_21_87 hobj (Nat.le_of_ble_eq_true rfl) hrun ?_
            refine i_21_90 (x := 7) l0 ?_
            refine i_21_91 (v := Value.ref 78) (hR.k0 kq_7) rfl ?_
            refine i_21_94 (x := 30 + 3 * r.toNat) l6 ?_
            refine i_21_96 (x := 7) l0 ?_
            refine i_21_97 (v := Value.ref 16) (hR.k0 kq_7) rfl ?_
            refine i_21_100 (x := Int32.ofInt mode) l5 ?_
            have hobj := hR.k1 kq_78
            have ep : (u2 (u2 (u2 S 16 0 0) 16 2 sc) 16 3 0) (30 + 3 * r.toNat) 0 = S (30 + 3 * r.toNat) 0 := by rw [u2_eq, if_neg (fun e => absurd e.2 (by decide)), u2_eq, if_neg (fun e => absurd e.2 (by decide)), u2_eq, if_neg (fun e => absurd e.1 (by omega))]
            have el : (u2 (u2 (u2 S 16 0 0) 16 2 sc) 16 3 0) 78 0 = S 78 0 := by rw [u2_eq, if_neg (fun e => absurd e.2 (by decide)), u2_eq, if_neg (fun e => absurd e.2 (by decide)), u2_eq, if_neg (fun e => absurd e.1 (by decide))]
            have eg : (u2 (u2 (u2 S 16 0 0) 16 2 sc) 16 3 0) 78 1 = S 78 1 := by rw [u2_eq, if_neg (fun e => absurd e.2 (by decide)), u2_eq, if_neg (fun e => absurd e.2 (by decide)), u2_eq, if_neg (fun e => absurd e.2 (by decide))]
            have ed : (u2 (u2 (u2 S 16 0 0) 16 2 sc) 16 3 0) 78 2 = S 78 2 := by rw [u2_eq, if_neg (fun e => absurd e.2 (by decide)), u2_eq, if_neg (fun e => absurd e.1 (by decide)), u2_eq, if_neg (fun e => absurd e.2 (by decide))]
            have ef : (u2 (u2 (u2 S 16 0 0) 16 2 sc) 16 3 0) 78 3 = S 78 3 := by rw [u2_eq, if_neg (fun e => absurd e.1 (by decide)), u2_eq, if_neg (fun e => absurd e.2 (by decide)), u2_eq, if_neg (fun e => absurd e.2 (by decide))]
            have es : (u2 (u2 (u2 S 16 0 0) 16 2 sc) 16 3 0) 16 0 = 0 := by rw [u2_eq, if_neg (fun e => absurd e.2 (by decide)), u2_eq, if_neg (fun e => absurd e.2 (by decide)), u2_eq, if_pos ⟨rfl, rfl⟩]
            have ec : (u2 (u2 (u2 S 16 0 0) 16 2 sc) 16 3 0) 16 2 = sc := by rw [u2_eq, if_neg (fun e => absurd e.2 (by decide)), u2_eq, if_pos ⟨rfl, rfl⟩]
            have em : (u2 (u2 (u2 S 16 0 0) 16 2 sc) 16 3 0) 16 3 = 0 := by rw [u2_eq, if_pos ⟨rfl, rfl⟩]
            have ev : (uv V 17 ((v : Int).toNat)) 17 = (v : Int).toNat := uv_s
            obtain ⟨w, hrun, S6, V6, hR, hP⟩ := x_settle (d := d + 1) (g := 78) (t := 30 + 3 * r.toNat) (h := 16) (mode := mode) hR kq_78 (kd_reg (r := r.toNat) (by omega)) kq_16 (by rw [ep]; omega) (by rw [es]; first | omega | exact bb_01 _) (by rw [em]; omega) (by omega) (by rw [ev]; omega) (by rw [ev]; exact Nat.le_trans (xbl_le (n := _) (k := 64) (by omega)) (by decide)) (by rw [ec]; omega) (by rw [el, eg]; omega) (by rw [ed]; omega) (by rw [ep, el, ed, ev, ec, em]; exact fun _ _ => Or.inl rfl)
            rw [ep, el, eg, ed, ef, es, ec, em, ev] at hrun hP
            refine i_21_102 hobj (Nat.le_of_ble_eq_true rfl) hrun ?_
            refine i_21_105 ?_
            have eo : sNum (vS S) r.toNat v sc mode = oR (S (30 + 3 * r.toNat) 0) (S 78 0) (S 78 1) (S 78 2) 0 mode 0 ((v : Int).toNat) sc (S 78 3) := by clear hR; unfold sNum; first | (rw [if_pos (by omega)]; rfl) | (rw [if_neg (by omega), if_pos (by omega), show v.natAbs = (-v).toNat by omega]; rfl) | (rw [if_neg (by omega), if_neg (by omega), show v.natAbs = v.toNat by omega]; rfl)
            rw [eo]
            exact ⟨rfl, _, _, hR, cP_round hP (by first | omega | exact bb_01 _) (nC.up (nC.up (nC.up nC.refl (by unfold cKeep; omega) (by omega)) (by unfold cKeep; omega) (by omega)) (by unfold cKeep; omega) (by omega)) (nW.up nW.refl (by omega)) (by omega)⟩
          · refine i_21_68 ?_
            refine i_21_69 ?_
            refine i_21_73 (x := Int64.ofInt v) l2 ?_
            refine i_21_74 ?_
            refine i_21_75 (c := Int32.ofInt (lc v 0)) (q_cmp (a := v) (b := 0) ⟨by omega, by omega⟩ ⟨by decide, by decide⟩) ?_
            refine i_21_76 (lc_ge (a := v) (b := 0) fun c6 => absurd c6 (by omega)) (lc_lt (a := v) (b := 0) fun c6 => ?_)
            refine i_21_79 (x := Int64.ofInt v) l2 ?_
            refine i_21_80 (c := Int64.ofInt (-v)) (q_neg v) ?_
            refine i_21_81 ?_
            refine i_21_85 (x := Int32.ofInt sc) l4 ?_
            have hobj := hR.k4 kq_16
            obtain ⟨w, hrun, hR⟩ := x_tb (d := d + 8) (h := 16) (sg := 1) (b := -v) (pw := sc) hR kq_16 (by first | omega | exact bb_01 _) ⟨by omega, by omega⟩
            refine i_21_87 hobj (Nat.le_of_ble_eq_true rfl) hrun ?_
            refine i_21_90 (x := 7) l0 ?_
            refine i_21_91 (v := Value.ref 78) (hR.k0 kq_7) rfl ?_
            refine i_21_94 (x := 30 + 3 * r.toNat) l6 ?_
            refine i_21_96 (x := 7) l0 ?_
            refine i_21_97 (v := Value.ref 16) (hR.k0 kq_7) rfl ?_
            refine i_21_100 (x := Int32.ofInt mode) l5 ?_
            have hobj := hR.k1 kq_78
            have ep : (u2 (u2 (u2 S 16 0 1) 16 2 sc) 16 3 0) (30 + 3 * r.toNat) 0 = S (30 + 3 * r.toNat) 0 := by rw [u2_eq, if_neg (fun e => absurd e.2 (by decide)), u2_eq, if_neg (fun e => absurd e.2 (by decide)), u2_eq, if_neg (fun e => absurd e.1 (by omega))]
            have el : (u2 (u2 (u2 S 16 0 1) 16 2 sc) 16 3 0) 78 0 = S 78 0 := by rw [u2_eq, if_neg (fun e => absurd e.2 (by decide)), u2_eq, if_neg (fun e => absurd e.2 (by decide)), u2_eq, if_neg (fun e => absurd e.1 (by decide))]
            have eg : (u2 (u2 (u2 S 16 0 1) 16 2 sc) 16 3 0) 78 1 = S 78 1 := by rw [u2_eq, if_neg (fun e => absurd e.2 (by decide)), u2_eq, if_neg (fun e => absurd e.2 (by decide)), u2_eq, if_neg (fun e => absurd e.2 (by decide))]
            have ed : (u2 (u2 (u2 S 16 0 1) 16 2 sc) 16 3 0) 78 2 = S 78 2 := by rw [u2_eq, if_neg (fun e => absurd e.2 (by decide)), u2_eq, if_neg (fun e => absurd e.1 (by decide)), u2_eq, if_neg (fun e => absurd e.2 (by decide))]
            have ef : (u2 (u2 (u2 S 16 0 1) 16 2 sc) 16 3 0) 78 3 = S 78 3 := by rw [u2_eq, if_neg (fun e => absurd e.1 (by decide)), u2_eq, if_neg (fun e => absurd e.2 (by decide)), u2_eq, if_neg (fun e => absurd e.2 (by decide))]
            have es : (u2 (u2 (u2 S 16 0 1) 16 2 sc) 16 3 0) 16 0 = 1 := by rw [u2_eq, if_neg (fun e => absurd e.2 (by decide)), u2_eq, if_neg (fun e => absurd e.2 (by decide)), u2_eq, if_pos ⟨rfl, rfl⟩]
            have ec : (u2 (u2 (u2 S 16 0 1) 16 2 sc) 16 3 0) 16 2 = sc := by rw [u2_eq, if_neg (fun e => absurd e.2 (by decide)), u2_eq, if_pos ⟨rfl, rfl⟩]
            have em : (u2 (u2 (u2 S 16 0 1) 16 2 sc) 16 3 0) 16 3 = 0 := by rw [u2_eq, if_pos ⟨rfl, rfl⟩]
            have ev : (uv V 17 ((-v : Int).toNat)) 17 = (-v : Int).toNat := uv_s
            obtain ⟨w, hrun, S8, V8, hR, hP⟩ := x_settle (d := d + 1) (g := 78) (t := 30 + 3 * r.toNat) (h := 16) (mode := mode) hR kq_78 (kd_reg (r := r.toNat) (by omega)) kq_16 (by rw [ep]; omega) (by rw [es]; first | omega | exact bb_01 _) (by rw [em]; omega) (by omega) (by rw [ev]; omega) (by rw [ev]; exact Nat.le_trans (xbl_le (n := _) (k := 64) (by omega)) (by decide)) (by rw [ec]; omega) (by rw [el, eg]; omega) (by rw [ed]; omega) (by rw [ep, el, ed, ev, ec, em]; exact fun _ _ => Or.inl rfl)
            rw [ep, el, eg, ed, ef, es, ec, em, ev] at hrun hP
            refine i_21_102 hobj (Nat.le_of_ble_eq_true rfl) hrun ?_
            refine i_21_105 ?_
            have eo : sNum (vS S) r.toNat v sc mode = oR (S (30 + 3 * r.toNat) 0) (S 78 0) (S 78 1) (S 78 2) 1 mode 0 ((-v : Int).toNat) sc (S 78 3) := by clear hR; unfold sNum; first | (rw [if_pos (by omega)]; rfl) | (rw [if_neg (by omega), if_pos (by omega), show v.natAbs = (-v).toNat by omega]; rfl) | (rw [if_neg (by omega), if_neg (by omega), show v.natAbs = v.toNat by omega]; rfl)
            rw [eo]
            exact ⟨rfl, _, _, hR, cP_round hP (by first | omega | exact bb_01 _) (nC.up (nC.up (nC.up nC.refl (by unfold cKeep; omega) (by omega)) (by unfold cKeep; omega) (by omega)) (by unfold cKeep; omega) (by omega)) (nW.up nW.refl (by omega)) (by omega)⟩
        · refine i_21_51 (x := 30 + 3 * r.toNat) l6 ?_
          refine i_21_53 ?_
          have hobj := hR.k2 (kd_reg (r := r.toNat) (by omega))
          obtain ⟨w, hrun, hR⟩ := x_zero (d := d + 9) (t := 30 + 3 * r.toNat) (sg := 0) hR (kd_reg (r := r.toNat) (by omega)) (by first | omega | exact bb_01 _)
          refine i_21_54 hobj (Nat.le_of_ble_eq_true rfl) hrun ?_
          refine i_21_57 ?_
          have eo : sNum (vS S) r.toNat v sc mode = oS 2 0 (S 78 3) := by clear hR; unfold sNum; first | (rw [if_pos (by omega)]; rfl) | (rw [if_neg (by omega), if_pos (by omega), show v.natAbs = (-v).toNat by omega]; rfl) | (rw [if_neg (by omega), if_neg (by omega), show v.natAbs = v.toNat by omega]; rfl)
          rw [eo]
          exact ⟨rfl, _, _, hR, cP_special (by first | omega | exact bb_01 _) (by decide) nC.refl nW.refl rfl (by omega)⟩
  obtain ⟨o, w', h1, rfl, h2⟩ := (key (lv_args 0 [Value.ref 7, Value.int (Int32.ofInt r), Value.long (Int64.ofInt v), Value.int (Int32.ofInt sc), Value.int (Int32.ofInt mode)]) rfl rfl rfl rfl rfl).run
  exact ⟨w', h1, h2⟩
end
