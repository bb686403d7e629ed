/-! Real of the class: exponent, isOutward, goesOutward, isMultiple, roundsOutward -/
theorem kd_rl {h : Nat} (hk : kd h = 4) : kd (h + 1) = 3 := by
  by_cases hh : h < 128
  · exact (show ∀ h, h < 128 → kd h = 4 → kd (h + 1) = 3 by decide +kernel) h hh hk
  · rw [kd_ge (by omega)] at hk; omega
theorem kd_rg {h : Nat} (hk : kd h = 2) : kd (h + 1) = 3 := by
  by_cases hh : h < 128
  · exact (show ∀ h, h < 128 → kd h = 2 → kd (h + 1) = 3 by decide +kernel) h hh hk
  · rw [kd_ge (by omega)] at hk; omega
def gO (way neg odd bes : Int) : Bool := if way = 0 then decide (0 < bes) || (decide (bes = 0) && !decide (odd = 0)) else if way = 5 then decide (0 ≤ bes) else away way neg
def isM (m : Nat) (cut more : Int) : Bool := decide (more = 0) && !nany m cut
theorem bfn_bit {u : Nat} {p : Int} : ((bfn u p % 2 : Nat) : Int) = bb (nbit u p) := by
  unfold bfn nbit bb
  by_cases hp : 0 ≤ p
  · rw [if_pos hp, decide_eq_true hp]
    have h1 : u / 2 ^ p.toNat % 4294967296 % 2 = u / 2 ^ p.toNat % 2 := Nat.mod_mod_of_dvd _ (by decide)
    rw [h1]
    have h2 := Nat.mod_lt (u / 2 ^ p.toNat) (show 0 < 2 by decide)
    rcases (show u / 2 ^ p.toNat % 2 = 0 ∨ u / 2 ^ p.toNat % 2 = 1 by omega) with g | g <;> rw [g] <;> rfl
  · rw [if_neg hp, decide_eq_false hp]
    have e : u * 2 ^ (-p).toNat % 4294967296 % 2 = 0 := by
      rw [Nat.mod_mod_of_dvd _ (show 2 ∣ 4294967296 by decide), show (-p).toNat = (-p).toNat - 1 + 1 by omega, Nat.pow_succ, ← Nat.mul_assoc]
      exact Nat.mul_mod_left _ _
    rw [e]
    rfl
section
variable {w0 w : xW} {L Z : Nat} {S : Nat → Nat → Int} {V : Nat → Nat} {d h t r : Nat}
theorem x_isOut {way neg : Int} (hw : 0 ≤ way ∧ way ≤ 5) (hn : neg = 0 ∨ neg = 1) : xRun (d + 0) 37 [Value.int (Int32.ofInt way), Value.int (Int32.ofInt neg)] w (.inl (some (.int (Int32.ofInt (bb (away way neg)))))) w := by
  have key : ∀ lv, xld lv 0 = some (Value.int (Int32.ofInt way)) → xld lv 1 = some (Value.int (Int32.ofInt neg)) → xEv (d + 0) 37 0 lv [] w (fun o w' => o = .inl (some (.int (Int32.ofInt (bb (away way neg))))) ∧ w' = w) := by
    intro lv l0 l1
    refine i_37_0 (x := Int32.ofInt way) l0 ?_
    refine i_37_1 ?_
    refine i_37_2 (b_eq (a := way) (b := 4) ⟨by omega, by omega⟩ ⟨by decide, by decide⟩ fun c0 => ?_) (b_ne (a := way) (b := 4) ⟨by omega, by omega⟩ ⟨by decide, by decide⟩ fun c0 => ?_)
    · refine i_37_23 ?_
      refine i_37_24 ?_
      refine i_37_28 rfl ?_
      refine ⟨?_, rfl⟩
      rw [show away way neg = true from by (try clear hR); first | (unfold away; simp_all; done) | (unfold away; simp; omega) | grind [away]]
      rfl
    · refine i_37_5 (x := Int32.ofInt way) l0 ?_
      refine i_37_6 ?_
      refine i_37_7 (b_ne (a := way) (b := 2) ⟨by omega, by omega⟩ ⟨by decide, by decide⟩ fun c1 => ?_) (b_eq (a := way) (b := 2) ⟨by omega, by omega⟩ ⟨by decide, by decide⟩ fun c1 => ?_)
      · refine i_37_14 (x := Int32.ofInt way) l0 ?_
        refine i_37_15 ?_
        refine i_37_16 (b_ne (a := way) (b := 3) ⟨by omega, by omega⟩ ⟨by decide, by decide⟩ fun c2 => ?_) (b_eq (a := way) (b := 3) ⟨by omega, by omega⟩ ⟨by decide, by decide⟩ fun c2 => ?_)
        · refine i_37_27 ?_
          refine i_37_28 rfl ?_
          refine ⟨?_, rfl⟩
          rw [show away way neg = false from by (try clear hR); first | (unfold away; simp_all; done) | (unfold away; simp; omega) | grind [away]]
          rfl
        · refine i_37_19 (x := Int32.ofInt neg) l1 ?_
          refine i_37_20 (z_eq (a := neg) ⟨by omega, by omega⟩ fun c3 => ?_) (z_ne (a := neg) ⟨by omega, by omega⟩ fun c3 => ?_)
          · refine i_37_27 ?_
            refine i_37_28 rfl ?_
            refine ⟨?_, rfl⟩
            rw [show away way neg = false from by (try clear hR); first | (unfold away; simp_all; done) | (unfold away; simp; omega) | grind [away]]
            rfl
          · refine i_37_23 ?_
            refine i_37_24 ?_
            refine i_37_28 rfl ?_
            refine ⟨?_, rfl⟩
            rw [show away way neg = true from by (try clear hR); first | (unfold away; simp_all; done) | (unfold away; simp; omega) | grind [away]]
            rfl
      · refine i_37_10 (x := Int32.ofInt neg) l1 ?_
        refine i_37_11 (z_eq (a := neg) ⟨by omega, by omega⟩ fun c4 => ?_) (z_ne (a := neg) ⟨by omega, by omega⟩ fun c4 => ?_)
        · refine i_37_23 ?_
          refine i_37_24 ?_
          refine i_37_28 rfl ?_
          refine ⟨?_, rfl⟩
          rw [show away way neg = true from by (try clear hR); first | (unfold away; simp_all; done) | (unfold away; simp; omega) | grind [away]]
          rfl
        · refine i_37_14 (x := Int32.ofInt way) l0 ?_
          refine i_37_15 ?_
          refine i_37_16 (b_ne (a := way) (b := 3) ⟨by omega, by omega⟩ ⟨by decide, by decide⟩ fun c5 => ?_) (b_eq (a := way) (b := 3) ⟨by omega, by omega⟩ ⟨by decide, by decide⟩ fun c5 => absurd c5 (by omega))
          refine i_37_27 ?_
          refine i_37_28 rfl ?_
          refine ⟨?_, rfl⟩
          rw [show away way neg = false from by (try clear hR); first | (unfold away; simp_all; done) | (unfold away; simp; omega) | grind [away]]
          rfl
  obtain ⟨o, w', h1, rfl, rfl⟩ := (key (lv_args 0 [Value.int (Int32.ofInt way), Value.int (Int32.ofInt neg)]) rfl rfl).run
  exact h1
theorem x_gO {way neg odd bes : Int} (hw : 0 ≤ way ∧ way ≤ 5) (hn : neg = 0 ∨ neg = 1) (ho : odd = 0 ∨ odd = 1) (hb : -1 ≤ bes ∧ bes ≤ 1) : xRun (d + 1) 36 [Value.int (Int32.ofInt way), Value.int (Int32.ofInt neg), Value.int (Int32.ofInt odd), Value.int (Int32.ofInt bes)] w (.inl (some (.int (Int32.ofInt (bb (gO way neg odd bes)))))) w := by
  have key : ∀ lv, xld lv 0 = some (Value.int (Int32.ofInt way)) → xld lv 1 = some (Value.int (Int32.ofInt neg)) → xld lv 2 = some (Value.int (Int32.ofInt odd)) → xld lv 3 = some (Value.int (Int32.ofInt bes)) → xEv (d + 1) 36 0 lv [] w (fun o w' => o = .inl (some (.int (Int32.ofInt (bb (gO way neg odd bes))))) ∧ w' = w) := by
    intro lv l0 l1 l2 l3
    refine i_36_0 (x := Int32.ofInt way) l0 ?_
    refine i_36_1 (z_ne (a := way) ⟨by omega, by omega⟩ fun c0 => ?_) (z_eq (a := way) ⟨by omega, by omega⟩ fun c0 => ?_)
    · refine i_36_22 (x := Int32.ofInt way) l0 ?_
      refine i_36_23 ?_
      refine i_36_24 (b_ne (a := way) (b := 5) ⟨by omega, by omega⟩ ⟨by decide, by decide⟩ fun c1 => ?_) (b_eq (a := way) (b := 5) ⟨by omega, by omega⟩ ⟨by decide, by decide⟩ fun c1 => ?_)
      · refine i_36_37 (x := Int32.ofInt way) l0 ?_
        refine i_36_38 (x := Int32.ofInt neg) l1 ?_
        have hrun := x_isOut (d := d) (w := w) (way := way) (neg := neg) ⟨by omega, by omega⟩ (by first | omega | exact bb_01 _)
        refine i_36_39 (Nat.le_of_ble_eq_true rfl) hrun ?_
        refine i_36_42 ob_b ?_
        refine ⟨?_, rfl⟩
        rw [show gO way neg odd bes = away way neg from by unfold gO; rw [if_neg (by omega), if_neg (by omega)]]
      · refine i_36_27 (x := Int32.ofInt bes) l3 ?_
        refine i_36_28 (z_lt (a := bes) ⟨by omega, by omega⟩ fun c2 => ?_) (z_ge (a := bes) ⟨by omega, by omega⟩ fun c2 => ?_)
        · refine i_36_35 ?_
          refine i_36_36 rfl ?_
          refine ⟨?_, rfl⟩
          rw [show gO way neg odd bes = false from by (try clear hR); first | (unfold gO; simp_all; done) | (unfold gO; simp; omega) | grind [gO]]
          rfl
        · refine i_36_31 ?_
          refine i_36_32 ?_
          refine i_36_36 rfl ?_
          refine ⟨?_, rfl⟩
          rw [show gO way neg odd bes = true from by (try clear hR); first | (unfold gO; simp_all; done) | (unfold gO; simp; omega) | grind [gO]]
          rfl
    · refine i_36_4 (x := Int32.ofInt bes) l3 ?_
      refine i_36_5 (z_gt (a := bes) ⟨by omega, by omega⟩ fun c3 => ?_) (z_le (a := bes) ⟨by omega, by omega⟩ fun c3 => ?_)
      · refine i_36_16 ?_
        refine i_36_17 ?_
        refine i_36_21 rfl ?_
        refine ⟨?_, rfl⟩
        rw [show gO way neg odd bes = true from by (try clear hR); first | (unfold gO; simp_all; done) | (unfold gO; simp; omega) | grind [gO]]
        rfl
      · refine i_36_8 (x := Int32.ofInt bes) l3 ?_
        refine i_36_9 (z_ne (a := bes) ⟨by omega, by omega⟩ fun c4 => ?_) (z_eq (a := bes) ⟨by omega, by omega⟩ fun c4 => ?_)
        · refine i_36_20 ?_
          refine i_36_21 rfl ?_
          refine ⟨?_, rfl⟩
          rw [show gO way neg odd bes = false from by (try clear hR); first | (unfold gO; simp_all; done) | (unfold gO; simp; omega) | grind [gO]]
          rfl
        · refine i_36_12 (x := Int32.ofInt odd) l2 ?_
          refine i_36_13 (z_eq (a := odd) ⟨by omega, by omega⟩ fun c5 => ?_) (z_ne (a := odd) ⟨by omega, by omega⟩ fun c5 => ?_)
          · refine i_36_20 ?_
            refine i_36_21 rfl ?_
            refine ⟨?_, rfl⟩
            rw [show gO way neg odd bes = false from by (try clear hR); first | (unfold gO; simp_all; done) | (unfold gO; simp; omega) | grind [gO]]
            rfl
          · refine i_36_16 ?_
            refine i_36_17 ?_
            refine i_36_21 rfl ?_
            refine ⟨?_, rfl⟩
            rw [show gO way neg odd bes = true from by (try clear hR); first | (unfold gO; simp_all; done) | (unfold gO; simp; omega) | grind [gO]]
            rfl
  obtain ⟨o, w', h1, rfl, rfl⟩ := (key (lv_args 0 [Value.int (Int32.ofInt way), Value.int (Int32.ofInt neg), Value.int (Int32.ofInt odd), Value.int (Int32.ofInt bes)]) rfl rfl rfl rfl).run
  exact h1
theorem x_exp (hR : cX w0 L Z S V w) (hk : kd h = 4) : xRun (d + 2) 28 [Value.ref h] w (.inl (some (.int (Int32.ofInt ((xbl (V (h + 1)) : Int) + S h 2))))) w := by
  have key : ∀ lv, xld lv 0 = some (Value.ref h) → xEv (d + 2) 28 0 lv [] w (fun o w' => o = .inl (some (.int (Int32.ofInt ((xbl (V (h + 1)) : Int) + S h 2)))) ∧ w' = w) := by
    intro lv l0
    refine i_28_0 (x := h) l0 ?_
    refine i_28_1 (v := Value.ref (h + 1)) (hR.k4 hk) rfl ?_
    obtain ⟨fs, hobj⟩ := hR.nat (kd_rl hk)
    have hrun := X_bits (d := d) (h := h + 1) (u := V (h + 1)) hR (kd_rl hk) (rfl)
    refine i_28_4 hobj (Nat.le_of_ble_eq_true rfl) hrun ?_
    refine i_28_7 (x := h) l0 ?_
    refine i_28_8 (v := Value.int (Int32.ofInt (S h 2))) (hR.k4 hk) rfl ?_
    refine i_28_11 (c := Int32.ofInt ((xbl (V (h + 1)) : Int) + (S h 2))) (o_add (xbl (V (h + 1)) : Int) (S h 2)) ?_
    refine i_28_12 ?_
    exact ⟨rfl, rfl⟩
  obtain ⟨o, w', h1, rfl, rfl⟩ := (key (lv_args 0 [Value.ref h]) rfl).run
  exact h1
theorem x_isM {unit : Int} (hR : cX w0 L Z S V w) (hk : kd h = 4) (hb : -1000000 ≤ unit ∧ unit ≤ 1000000) (hs : -1000000 ≤ S h 2 ∧ S h 2 ≤ 1000000) (hm : S h 3 = 0 ∨ S h 3 = 1) : xRun (d + 3) 32 [Value.ref h, Value.int (Int32.ofInt unit)] w (.inl (some (.int (Int32.ofInt (bb (isM (V (h + 1)) (unit - S h 2) (S h 3))))))) w := by
  have key : ∀ lv, xld lv 0 = some (Value.ref h) → xld lv 1 = some (Value.int (Int32.ofInt unit)) → xEv (d + 3) 32 0 lv [] w (fun o w' => o = .inl (some (.int (Int32.ofInt (bb (isM (V (h + 1)) (unit - S h 2) (S h 3)))))) ∧ w' = w) := by
    intro lv l0 l1
    refine i_32_0 (x := h) l0 ?_
    refine i_32_1 (v := Value.int (Int32.ofInt (S h 3))) (hR.k4 hk) rfl ?_
    refine i_32_4 (z_ne (a := S h 3) ⟨by omega, by omega⟩ fun c0 => ?_) (z_eq (a := S h 3) ⟨by omega, by omega⟩ fun c0 => ?_)
    · refine i_32_27 ?_
      refine i_32_28 rfl ?_
      refine ⟨?_, rfl⟩
      rw [show isM (V (h + 1)) (unit - S h 2) (S h 3) = false from by (try clear hR); first | (unfold isM; simp_all; done) | (unfold isM; simp; omega) | grind [isM]]
      rfl
    · refine i_32_7 (x := h) l0 ?_
      refine i_32_8 (v := Value.ref (h + 1)) (hR.k4 hk) rfl ?_
      refine i_32_11 (x := Int32.ofInt unit) l1 ?_
      refine i_32_12 (x := h) l0 ?_
      refine i_32_13 (v := Value.int (Int32.ofInt (S h 2))) (hR.k4 hk) rfl ?_
      refine i_32_16 (c := Int32.ofInt (unit - (S h 2))) (o_sub unit (S h 2)) ?_
      obtain ⟨fs, hobj⟩ := hR.nat (kd_rl hk)
      have hrun := X_any (d := d) (h := h + 1) (u := V (h + 1)) (p := unit - (S h 2)) hR (kd_rl hk) (rfl) ⟨by omega, by omega⟩
      refine i_32_17 hobj (Nat.le_of_ble_eq_true rfl) hrun ?_
      refine i_32_20 (zb_t fun c1 => ?_) (zb_f fun c1 => ?_)
      · refine i_32_27 ?_
        refine i_32_28 rfl ?_
        refine ⟨?_, rfl⟩
        rw [show isM (V (h + 1)) (unit - S h 2) (S h 3) = false from by (try clear hR); first | (unfold isM; simp_all; done) | (unfold isM; simp; omega) | grind [isM]]
        rfl
      · refine i_32_23 ?_
        refine i_32_24 ?_
        refine i_32_28 rfl ?_
        refine ⟨?_, rfl⟩
        rw [show isM (V (h + 1)) (unit - S h 2) (S h 3) = true from by (try clear hR); first | (unfold isM; simp_all; done) | (unfold isM; simp; omega) | grind [isM]]
        rfl
  obtain ⟨o, w', h1, rfl, rfl⟩ := (key (lv_args 0 [Value.ref h, Value.int (Int32.ofInt unit)]) rfl rfl).run
  exact h1
theorem x_rO {unit mode : Int} (hR : cX w0 L Z S V w) (hk : kd h = 4) (hb : -1000000 ≤ unit ∧ unit ≤ 1000000) (hs : -1000000 ≤ S h 2 ∧ S h 2 ≤ 1000000) (hm : S h 3 = 0 ∨ S h 3 = 1) (hn : S h 0 = 0 ∨ S h 0 = 1) (hmo : 0 ≤ mode ∧ mode ≤ 4) : xRun (d + 4) 31 [Value.ref h, Value.int (Int32.ofInt unit), Value.int (Int32.ofInt mode)] w (.inl (some (.int (Int32.ofInt (bb (gU (V (h + 1)) (unit - S h 2) (S h 3) (S h 0) mode (bb (nbit (V (h + 1)) (unit - S h 2))))))))) w := by
  have key : ∀ lv, xld lv 0 = some (Value.ref h) → xld lv 1 = some (Value.int (Int32.ofInt unit)) → xld lv 2 = some (Value.int (Int32.ofInt mode)) → xEv (d + 4) 31 0 lv [] w (fun o w' => o = .inl (some (.int (Int32.ofInt (bb (gU (V (h + 1)) (unit - S h 2) (S h 3) (S h 0) mode (bb (nbit (V (h + 1)) (unit - S h 2)))))))) ∧ w' = w) := by
    intro lv l0 l1 l2
    refine i_31_0 (x := h) l0 ?_
    refine i_31_1 (x := Int32.ofInt unit) l1 ?_
    have hobj := hR.k4 hk
    have hrun := x_isM (d := d) (h := h) (unit := unit) hR hk ⟨by omega, by omega⟩ ⟨by omega, by omega⟩ (by omega)
    refine i_31_2 hobj (Nat.le_of_ble_eq_true rfl) hrun ?_
    refine i_31_5 (zb_f fun c0 => ?_) (zb_t fun c0 => ?_)
    · refine i_31_10 (x := Int32.ofInt unit) l1 ?_
      refine i_31_11 (x := h) l0 ?_
      refine i_31_12 (v := Value.int (Int32.ofInt (S h 2))) (hR.k4 hk) rfl ?_
      refine i_31_15 (c := Int32.ofInt (unit - (S h 2))) (o_sub unit (S h 2)) ?_
      refine i_31_16 rfl ?_
      refine lgen1 (i := 3) (v := Value.int (Int32.ofInt (unit - (S h 2)))) (fun lv lg ls => ?_)
      replace l0 := lg 0 _ rfl rfl l0
      replace l1 := lg 1 _ rfl rfl l1
      replace l2 := lg 2 _ rfl rfl l2
      have l3 := ls
      refine i_31_17 ?_
      refine i_31_18 rfl ?_
      refine lgen1 (i := 4) (v := Value.int (-1)) (fun lv lg ls => ?_)
      replace l3 := lg 3 _ rfl rfl l3
      replace l0 := lg 0 _ rfl rfl l0
      replace l1 := lg 1 _ rfl rfl l1
      replace l2 := lg 2 _ rfl rfl l2
      have l4 := ls
      refine i_31_20 (x := h) l0 ?_
      refine i_31_21 (v := Value.ref (h + 1)) (hR.k4 hk) rfl ?_
      refine i_31_24 (x := Int32.ofInt (unit - (S h 2))) l3 ?_
      refine i_31_25 ?_
      refine i_31_26 (c := Int32.ofInt ((unit - (S h 2)) - 1)) (o_sub (unit - (S h 2)) 1) ?_
      obtain ⟨fs, hobj⟩ := hR.nat (kd_rl hk)
      have hrun := X_bit (d := d + 2) (h := h + 1) (u := V (h + 1)) (p := (unit - (S h 2)) - 1) hR (kd_rl hk) (rfl) ⟨by omega, by omega⟩
      rw [bfn_bit] at hrun
      refine i_31_27 hobj (Nat.le_of_ble_eq_true rfl) hrun ?_
      refine i_31_30 (zb_f fun c1 => ?_) (zb_t fun c1 => ?_)
      · refine i_31_60 (x := Int32.ofInt mode) l2 ?_
        refine i_31_61 (x := h) l0 ?_
        refine i_31_62 (v := Value.int (Int32.ofInt (S h 0))) (hR.k4 hk) rfl ?_
        refine i_31_65 (x := h) l0 ?_
        refine i_31_66 (v := Value.ref (h + 1)) (hR.k4 hk) rfl ?_
        refine i_31_69 (x := Int32.ofInt (unit - (S h 2))) l3 ?_
        obtain ⟨fs, hobj⟩ := hR.nat (kd_rl hk)
        have hrun := X_bit (d := d + 2) (h := h + 1) (u := V (h + 1)) (p := unit - (S h 2)) hR (kd_rl hk) (rfl) ⟨by omega, by omega⟩
        rw [bfn_bit] at hrun
        refine i_31_70 hobj (Nat.le_of_ble_eq_true rfl) hrun ?_
        refine i_31_73 (x := (-1)) l4 ?_
        have hrun := x_gO (d := d + 2) (w := w) (way := mode) (neg := S h 0) (odd := bb (nbit (V (h + 1)) (unit - (S h 2)))) (bes := (-1)) ⟨by omega, by omega⟩ (by first | omega | exact bb_01 _) (by first | omega | exact bb_01 _) ⟨by omega, by omega⟩
        refine i_31_75 (Nat.le_of_ble_eq_true rfl) hrun ?_
        refine i_31_78 ob_b ?_
        refine ⟨?_, rfl⟩
        rw [show gU (V (h + 1)) (unit - S h 2) (S h 3) (S h 0) mode (bb (nbit (V (h + 1)) (unit - S h 2))) = (gO mode (S h 0) (bb (nbit (V (h + 1)) (unit - (S h 2)))) (-1)) from by (try clear hR); grind [gU, gO, isM, away, bb]]
      · refine i_31_33 (x := h) l0 ?_
        refine i_31_34 (v := Value.int (Int32.ofInt (S h 3))) (hR.k4 hk) rfl ?_
        refine i_31_37 (z_ne (a := S h 3) ⟨by omega, by omega⟩ fun c2 => ?_) (z_eq (a := S h 3) ⟨by omega, by omega⟩ fun c2 => ?_)
        · refine i_31_53 ?_
          refine i_31_54 ?_
          refine i_31_58 rfl ?_
          refine lgen1 (i := 4) (v := Value.int 1) (fun lv lg ls => ?_)
          replace l3 := lg 3 _ rfl rfl l3
          replace l0 := lg 0 _ rfl rfl l0
          replace l1 := lg 1 _ rfl rfl l1
          replace l2 := lg 2 _ rfl rfl l2
          have l4 := ls
          refine i_31_60 (x := Int32.ofInt mode) l2 ?_
          refine i_31_61 (x := h) l0 ?_
          refine i_31_62 (v := Value.int (Int32.ofInt (S h 0))) (hR.k4 hk) rfl ?_
          refine i_31_65 (x := h) l0 ?_
          refine i_31_66 (v := Value.ref (h + 1)) (hR.k4 hk) rfl ?_
          refine i_31_69 (x := Int32.ofInt (unit - (S h 2))) l3 ?_
          obtain ⟨fs, hobj⟩ := hR.nat (kd_rl hk)
          have hrun := X_bit (d := d + 2) (h := h + 1) (u := V (h + 1)) (p := unit - (S h 2)) hR (kd_rl hk) (rfl) ⟨by omega, by omega⟩
          rw [bfn_bit] at hrun
          refine i_31_70 hobj (Nat.le_of_ble_eq_true rfl) hrun ?_
          refine i_31_73 (x := 1) l4 ?_
          have hrun := x_gO (d := d + 2) (w := w) (way := mode) (neg := S h 0) (odd := bb (nbit (V (h + 1)) (unit - (S h 2)))) (bes := 1) ⟨by omega, by omega⟩ (by first | omega | exact bb_01 _) (by first | omega | exact bb_01 _) ⟨by omega, by omega⟩
          refine i_31_75 (Nat.le_of_ble_eq_true rfl) hrun ?_
          refine i_31_78 ob_b ?_
          refine ⟨?_, rfl⟩
          rw [show gU (V (h + 1)) (unit - S h 2) (S h 3) (S h 0) mode (bb (nbit (V (h + 1)) (unit - S h 2))) = (gO mode (S h 0) (bb (nbit (V (h + 1)) (unit - (S h 2)))) 1) from by (try clear hR); grind [gU, gO, isM, away, bb]]
        · refine i_31_40 (x := h) l0 ?_
          refine i_31_41 (v := Value.ref (h + 1)) (hR.k4 hk) rfl ?_
          refine i_31_44 (x := Int32.ofInt (unit - (S h 2))) l3 ?_
          refine i_31_45 ?_
          refine i_31_46 (c := Int32.ofInt ((unit - (S h 2)) - 1)) (o_sub (unit - (S h 2)) 1) ?_
          obtain ⟨fs, hobj⟩ := hR.nat (kd_rl hk)
          have hrun := X_any (d := d + 1) (h := h + 1) (u := V (h + 1)) (p := (unit - (S h 2)) - 1) hR (kd_rl hk) (rfl) ⟨by omega, by omega⟩
          refine i_31_47 hobj (Nat.le_of_ble_eq_true rfl) hrun ?_
          refine i_31_50 (zb_f fun c3 => ?_) (zb_t fun c3 => ?_)
          · refine i_31_57 ?_
            refine i_31_58 rfl ?_
            refine lgen1 (i := 4) (v := Value.int 0) (fun lv lg ls => ?_)
            replace l3 := lg 3 _ rfl rfl l3
            replace l0 := lg 0 _ rfl rfl l0
            replace l1 := lg 1 _ rfl rfl l1
            replace l2 := lg 2 _ rfl rfl l2
            have l4 := ls
            refine i_31_60 (x := Int32.ofInt mode) l2 ?_
            refine i_31_61 (x := h) l0 ?_
            refine i_31_62 (v := Value.int (Int32.ofInt (S h 0))) (hR.k4 hk) rfl ?_
            refine i_31_65 (x := h) l0 ?_
            refine i_31_66 (v := Value.ref (h + 1)) (hR.k4 hk) rfl ?_
            refine i_31_69 (x := Int32.ofInt (unit - (S h 2))) l3 ?_
            obtain ⟨fs, hobj⟩ := hR.nat (kd_rl hk)
            have hrun := X_bit (d := d + 2) (h := h + 1) (u := V (h + 1)) (p := unit - (S h 2)) hR (kd_rl hk) (rfl) ⟨by omega, by omega⟩
            rw [bfn_bit] at hrun
            refine i_31_70 hobj (Nat.le_of_ble_eq_true rfl) hrun ?_
            refine i_31_73 (x := 0) l4 ?_
            have hrun := x_gO (d := d + 2) (w := w) (way := mode) (neg := S h 0) (odd := bb (nbit (V (h + 1)) (unit - (S h 2)))) (bes := 0) ⟨by omega, by omega⟩ (by first | omega | exact bb_01 _) (by first | omega | exact bb_01 _) ⟨by omega, by omega⟩
            refine i_31_75 (Nat.le_of_ble_eq_true rfl) hrun ?_
            refine i_31_78 ob_b ?_
            refine ⟨?_, rfl⟩
            rw [show gU (V (h + 1)) (unit - S h 2) (S h 3) (S h 0) mode (bb (nbit (V (h + 1)) (unit - S h 2))) = (gO mode (S h 0) (bb (nbit (V (h + 1)) (unit - (S h 2)))) 0) from by (try clear hR); grind [gU, gO, isM, away, bb]]
          · refine i_31_53 ?_
            refine i_31_54 ?_
            refine i_31_58 rfl ?_
            refine lgen1 (i := 4) (v := Value.int 1) (fun lv lg ls => ?_)
            replace l3 := lg 3 _ rfl rfl l3
            replace l0 := lg 0 _ rfl rfl l0
            replace l1 := lg 1 _ rfl rfl l1
            replace l2 := lg 2 _ rfl rfl l2
            have l4 := ls
            refine i_31_60 (x := Int32.ofInt mode) l2 ?_
            refine i_31_61 (x := h) l0 ?_
            refine i_31_62 (v := Value.int (Int32.ofInt (S h 0))) (hR.k4 hk) rfl ?_
            refine i_31_65 (x := h) l0 ?_
            refine i_31_66 (v := Value.ref (h + 1)) (hR.k4 hk) rfl ?_
            refine i_31_69 (x := Int32.ofInt (unit - (S h 2))) l3 ?_
            obtain ⟨fs, hobj⟩ := hR.nat (kd_rl hk)
            have hrun := X_bit (d := d + 2) (h := h + 1) (u := V (h + 1)) (p := unit - (S h 2)) hR (kd_rl hk) (rfl) ⟨by omega, by omega⟩
            rw [bfn_bit] at hrun
            refine i_31_70 hobj (Nat.le_of_ble_eq_true rfl) hrun ?_
            refine i_31_73 (x := 1) l4 ?_
            have hrun := x_gO (d := d + 2) (w := w) (way := mode) (neg := S h 0) (odd := bb (nbit (V (h + 1)) (unit - (S h 2)))) (bes := 1) ⟨by omega, by omega⟩ (by first | omega | exact bb_01 _) (by first | omega | exact bb_01 _) ⟨by omega, by omega⟩
            refine i_31_75 (Nat.le_of_ble_eq_true rfl) hrun ?_
            refine i_31_78 ob_b ?_
            refine ⟨?_, rfl⟩
            rw [show gU (V (h + 1)) (unit - S h 2) (S h 3) (S h 0) mode (bb (nbit (V (h + 1)) (unit - S h 2))) = (gO mode (S h 0) (bb (nbit (V (h + 1)) (unit - (S h 2)))) 1) from by (try clear hR); grind [gU, gO, isM, away, bb]]
    · refine i_31_8 ?_
      refine i_31_9 rfl ?_
      refine ⟨?_, rfl⟩
      rw [show gU (V (h + 1)) (unit - S h 2) (S h 3) (S h 0) mode (bb (nbit (V (h + 1)) (unit - S h 2))) = false from by (try clear hR); grind [gU, gO, isM, away, bb]]
      rfl
  obtain ⟨o, w', h1, rfl, rfl⟩ := (key (lv_args 0 [Value.ref h, Value.int (Int32.ofInt unit), Value.int (Int32.ofInt mode)]) rfl rfl rfl).run
  exact h1
end
