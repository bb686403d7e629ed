/-! products in sums of the class -/
theorem aS_v {S S1 : Nat → Nat → Int} {V V1 : Nat → Nat} {nan inv pi mi b : Int} {P N : Nat} {num pz nz : Int} {v : Nat} (hA : aS S V S1 V1 nan inv pi mi b P N num pz nz) : aS S V S1 (uv V1 24 v) nan inv pi mi b P N num pz nz := by
  obtain ⟨a1, a2, a3, a4, a5, a6, a7, a8, a9, a10, a11, a12⟩ := hA
  exact ⟨a1, a2.up (by omega), a3, a4, a5, a6, a7, a8, a9, a10, by rw [uv_n (by decide)]; exact a11, by rw [uv_n (by decide)]; exact a12⟩
theorem aS_nan {S S1 : Nat → Nat → Int} {V V1 : Nat → Nat} {nan inv pi mi b : Int} {P N : Nat} {num pz nz : Int} (hA : aS S V S1 V1 nan inv pi mi b P N num pz nz) : aS S V (u2 S1 19 5 1) V1 1 inv pi mi b P N num pz nz := by
  obtain ⟨a1, a2, a3, a4, a5, a6, a7, a8, a9, a10, a11, a12⟩ := hA
  refine ⟨a1.up (by unfold cKeep; omega) (by omega), a2, ?_, ?_, ?_, ?_, ?_, ?_, ?_, ?_, a11, a12⟩
  all_goals first | (rw [u2_eq, if_pos ⟨rfl, rfl⟩]; done) | (rw [u2_eq, if_neg (by omega)]; assumption)
theorem aS_inv {S S1 : Nat → Nat → Int} {V V1 : Nat → Nat} {nan inv pi mi b : Int} {P N : Nat} {num pz nz : Int} (hA : aS S V S1 V1 nan inv pi mi b P N num pz nz) : aS S V (u2 S1 19 6 1) V1 nan 1 pi mi b P N num pz nz := by
  obtain ⟨a1, a2, a3, a4, a5, a6, a7, a8, a9, a10, a11, a12⟩ := hA
  refine ⟨a1.up (by unfold cKeep; omega) (by omega), a2, ?_, ?_, ?_, ?_, ?_, ?_, ?_, ?_, a11, a12⟩
  all_goals first | (rw [u2_eq, if_pos ⟨rfl, rfl⟩]; done) | (rw [u2_eq, if_neg (by omega)]; assumption)
section
variable {w0 w : xW} {L Z : Nat} {S S1 : Nat → Nat → Int} {V V1 : Nat → Nat} {d : Nat} {nan inv pi mi b : Int} {P N : Nat} {num pz nz : Int}
set_option maxHeartbeats 8000000 in
theorem a_prod3 {a e : Int} (hR : cX w0 L Z S1 V1 w) (hA : aS S V S1 V1 nan inv pi mi b P N num pz nz) (hI : cI S V) (hf : (nan = 0 ∨ nan = 1) ∧ (inv = 0 ∨ inv = 1) ∧ (pi = 0 ∨ pi = 1) ∧ (mi = 0 ∨ mi = 1) ∧ (num = 0 ∨ num = 1) ∧ (pz = 0 ∨ pz = 1) ∧ (nz = 0 ∨ nz = 1)) (hbb : -100000 ≤ b ∧ b ≤ 100000) (hP : xbl P ≤ 400000) (hN : xbl N ≤ 400000) (ha : 0 ≤ a ∧ a ≤ 15) (hb2 : 0 ≤ e ∧ e ≤ 15) (hk : S (30 + 3 * a.toNat) 1 = 3 ∧ S (30 + 3 * e.toNat) 1 = 3) : ∃ w', xRun (d + 7) 96 [Value.ref 19, Value.ref (30 + 3 * a.toNat), Value.ref (30 + 3 * e.toNat)] w (.inl none) w' ∧ ∃ S2 V2, cX w0 L Z S2 V2 w' ∧ aS S V S2 V2 nan inv pi mi (nlo num b ((S (30 + 3 * a.toNat) 3 - S (30 + 3 * a.toNat) 0) + (S (30 + 3 * e.toNat) 3 - S (30 + 3 * e.toNat) 0))) (shf P (if num = 0 then 0 else b - nlo num b ((S (30 + 3 * a.toNat) 3 - S (30 + 3 * a.toNat) 0) + (S (30 + 3 * e.toNat) 3 - S (30 + 3 * e.toNat) 0))) + (if (xorI (S (30 + 3 * a.toNat) 2) (S (30 + 3 * e.toNat) 2)) = 0 then shf (V (30 + 3 * a.toNat + 1) * V (30 + 3 * e.toNat + 1)) (((S (30 + 3 * a.toNat) 3 - S (30 + 3 * a.toNat) 0) + (S (30 + 3 * e.toNat) 3 - S (30 + 3 * e.toNat) 0)) - nlo num b ((S (30 + 3 * a.toNat) 3 - S (30 + 3 * a.toNat) 0) + (S (30 + 3 * e.toNat) 3 - S (30 + 3 * e.toNat) 0))) else 0)) (shf N (if num = 0 then 0 else b - nlo num b ((S (30 + 3 * a.toNat) 3 - S (30 + 3 * a.toNat) 0) + (S (30 + 3 * e.toNat) 3 - S (30 + 3 * e.toNat) 0))) + (if (xorI (S (30 + 3 * a.toNat) 2) (S (30 + 3 * e.toNat) 2)) = 0 then 0 else shf (V (30 + 3 * a.toNat + 1) * V (30 + 3 * e.toNat + 1)) (((S (30 + 3 * a.toNat) 3 - S (30 + 3 * a.toNat) 0) + (S (30 + 3 * e.toNat) 3 - S (30 + 3 * e.toNat) 0)) - nlo num b ((S (30 + 3 * a.toNat) 3 - S (30 + 3 * a.toNat) 0) + (S (30 + 3 * e.toNat) 3 - S (30 + 3 * e.toNat) 0))))) 1 pz nz := by
  have key : ∀ lv, xld lv 0 = some (Value.ref 19) → xld lv 1 = some (Value.ref (30 + 3 * a.toNat)) → xld lv 2 = some (Value.ref (30 + 3 * e.toNat)) → xEv (d + 7) 96 0 lv [] w (fun o w' => o = .inl none ∧ ∃ S2 V2, cX w0 L Z S2 V2 w' ∧ aS S V S2 V2 nan inv pi mi (nlo num b ((S (30 + 3 * a.toNat) 3 - S (30 + 3 * a.toNat) 0) + (S (30 + 3 * e.toNat) 3 - S (30 + 3 * e.toNat) 0))) (shf P (if num = 0 then 0 else b - nlo num b ((S (30 + 3 * a.toNat) 3 - S (30 + 3 * a.toNat) 0) + (S (30 + 3 * e.toNat) 3 - S (30 + 3 * e.toNat) 0))) + (if (xorI (S (30 + 3 * a.toNat) 2) (S (30 + 3 * e.toNat) 2)) = 0 then shf (V (30 + 3 * a.toNat + 1) * V (30 + 3 * e.toNat + 1)) (((S (30 + 3 * a.toNat) 3 - S (30 + 3 * a.toNat) 0) + (S (30 + 3 * e.toNat) 3 - S (30 + 3 * e.toNat) 0)) - nlo num b ((S (30 + 3 * a.toNat) 3 - S (30 + 3 * a.toNat) 0) + (S (30 + 3 * e.toNat) 3 - S (30 + 3 * e.toNat) 0))) else 0)) (shf N (if num = 0 then 0 else b - nlo num b ((S (30 + 3 * a.toNat) 3 - S (30 + 3 * a.toNat) 0) + (S (30 + 3 * e.toNat) 3 - S (30 + 3 * e.toNat) 0))) + (if (xorI (S (30 + 3 * a.toNat) 2) (S (30 + 3 * e.toNat) 2)) = 0 then 0 else shf (V (30 + 3 * a.toNat + 1) * V (30 + 3 * e.toNat + 1)) (((S (30 + 3 * a.toNat) 3 - S (30 + 3 * a.toNat) 0) + (S (30 + 3 * e.toNat) 3 - S (30 + 3 * e.toNat) 0)) - nlo num b ((S (30 + 3 * a.toNat) 3 - S (30 + 3 * a.toNat) 0) + (S (30 + 3 * e.toNat) 3 - S (30 + 3 * e.toNat) 0))))) 1 pz nz) := by
    intro lv l0 l1 l2
    have hA0 := hA
    obtain ⟨a1, a2, a3, a4, a5, a6, a7, a8, a9, a10, a11, a12⟩ := hA
    obtain ⟨hp_a, hk_a, hn_a, ht_a, hx_a, hz_a⟩ := hI.1 a.toNat (by omega)
    obtain ⟨hp_e, hk_e, hn_e, ht_e, hx_e, hz_e⟩ := hI.1 e.toNat (by omega)
    have fa0 : S1 (30 + 3 * a.toNat) 0 = S (30 + 3 * a.toNat) 0 := a1.1 _ _ (Or.inl (by omega))
    have fa1 : S1 (30 + 3 * a.toNat) 1 = S (30 + 3 * a.toNat) 1 := a1.1 _ _ (Or.inl (by omega))
    have fa2 : S1 (30 + 3 * a.toNat) 2 = S (30 + 3 * a.toNat) 2 := a1.1 _ _ (Or.inl (by omega))
    have fa3 : S1 (30 + 3 * a.toNat) 3 = S (30 + 3 * a.toNat) 3 := a1.1 _ _ (Or.inl (by omega))
    have fVa : V1 (30 + 3 * a.toNat + 1) = V (30 + 3 * a.toNat + 1) := a2 _ (by omega) (by omega)
    have fe0 : S1 (30 + 3 * e.toNat) 0 = S (30 + 3 * e.toNat) 0 := a1.1 _ _ (Or.inl (by omega))
    have fe1 : S1 (30 + 3 * e.toNat) 1 = S (30 + 3 * e.toNat) 1 := a1.1 _ _ (Or.inl (by omega))
    have fe2 : S1 (30 + 3 * e.toNat) 2 = S (30 + 3 * e.toNat) 2 := a1.1 _ _ (Or.inl (by omega))
    have fe3 : S1 (30 + 3 * e.toNat) 3 = S (30 + 3 * e.toNat) 3 := a1.1 _ _ (Or.inl (by omega))
    have fVe : V1 (30 + 3 * e.toNat + 1) = V (30 + 3 * e.toNat + 1) := a2 _ (by omega) (by omega)
    replace hx_a := hx_a.resolve_left (by omega)
    replace hx_e := hx_e.resolve_left (by omega)
    replace ht_a := ht_a.resolve_left (by omega)
    replace ht_e := ht_e.resolve_left (by omega)
    have hVab : xbl (V1 (30 + 3 * a.toNat + 1)) ≤ 4096 ∧ xbl (V1 (30 + 3 * e.toNat + 1)) ≤ 4096 := by rw [fVa, fVe]; exact ⟨hx_a, hx_e⟩
    refine i_96_0 (x := 30 + 3 * a.toNat) l1 ?_
    refine i_96_1 (v := Value.int (Int32.ofInt (S1 (30 + 3 * a.toNat) 2))) (hR.k2 (kd_reg (r := a.toNat) (by omega))) rfl ?_
    rw [fa2]
    refine i_96_4 (x := 30 + 3 * e.toNat) l2 ?_
    refine i_96_5 (v := Value.int (Int32.ofInt (S1 (30 + 3 * e.toNat) 2))) (hR.k2 (kd_reg (r := e.toNat) (by omega))) rfl ?_
    rw [fe2]
    refine i_96_8 (b_eq (a := S (30 + 3 * a.toNat) 2) (b := S (30 + 3 * e.toNat) 2) ⟨by omega, by omega⟩ ⟨by omega, by omega⟩ fun c0 => ?_) (b_ne (a := S (30 + 3 * a.toNat) 2) (b := S (30 + 3 * e.toNat) 2) ⟨by omega, by omega⟩ ⟨by omega, by omega⟩ fun c0 => ?_)
    · refine i_96_15 ?_
      refine i_96_16 rfl ?_
      refine lgen1 (i := 3) (v := Value.int 0) (fun lv lg ls => ?_)
      replace l0 := lg 0 _ rfl rfl l0
      replace l1 := lg 1 _ rfl rfl l1
      replace l2 := lg 2 _ rfl rfl l2
      have l3 := ls
      refine i_96_17 (x := 30 + 3 * a.toNat) l1 ?_
      refine i_96_18 (v := Value.int (Int32.ofInt (S1 (30 + 3 * a.toNat) 1))) (hR.k2 (kd_reg (r := a.toNat) (by omega))) rfl ?_
      rw [fa1]
      refine i_96_21 ?_
      refine i_96_22 (b_ne (a := S (30 + 3 * a.toNat) 1) (b := 3) ⟨by omega, by omega⟩ ⟨by decide, by decide⟩ fun c1 => absurd c1 (by omega)) (b_eq (a := S (30 + 3 * a.toNat) 1) (b := 3) ⟨by omega, by omega⟩ ⟨by decide, by decide⟩ fun c1 => ?_)
      try replace ht_a := ht_a.resolve_left (by omega)
      try replace hx_a := hx_a.resolve_left (by omega)
      refine i_96_25 (x := 30 + 3 * e.toNat) l2 ?_
      refine i_96_26 (v := Value.int (Int32.ofInt (S1 (30 + 3 * e.toNat) 1))) (hR.k2 (kd_reg (r := e.toNat) (by omega))) rfl ?_
      rw [fe1]
      refine i_96_29 ?_
      refine i_96_30 (b_ne (a := S (30 + 3 * e.toNat) 1) (b := 3) ⟨by omega, by omega⟩ ⟨by decide, by decide⟩ fun c2 => absurd c2 (by omega)) (b_eq (a := S (30 + 3 * e.toNat) 1) (b := 3) ⟨by omega, by omega⟩ ⟨by decide, by decide⟩ fun c2 => ?_)
      try replace ht_e := ht_e.resolve_left (by omega)
      try replace hx_e := hx_e.resolve_left (by omega)
      refine i_96_33 (x := 19) l0 ?_
      refine i_96_34 (v := Value.ref 24) (hR.k5 kq_19) rfl ?_
      refine i_96_37 (x := 30 + 3 * a.toNat) l1 ?_
      refine i_96_38 (v := Value.ref ((30 + 3 * a.toNat) + 1)) (hR.k2 (kd_reg (r := a.toNat) (by omega))) rfl ?_
      refine i_96_41 (x := 30 + 3 * e.toNat) l2 ?_
      refine i_96_42 (v := Value.ref ((30 + 3 * e.toNat) + 1)) (hR.k2 (kd_reg (r := e.toNat) (by omega))) rfl ?_
      obtain ⟨fs, hobj⟩ := hR.nat kq_24
      obtain ⟨w, hrun, hR⟩ := X_prod (d := d + 3) (h := 24) (ha := (30 + 3 * a.toNat) + 1) (hb := (30 + 3 * e.toNat) + 1) (u := V1 ((30 + 3 * a.toNat) + 1)) (v2 := V1 ((30 + 3 * e.toNat) + 1)) hR kq_24 (kd_rem (r := a.toNat) (by omega)) (kd_rem (r := e.toNat) (by omega)) (by omega) (by omega) (rfl) (rfl) (by omega)
      refine i_96_45 hobj (Nat.le_of_ble_eq_true rfl) hrun ?_
      refine i_96_48 (x := 19) l0 ?_
      refine i_96_49 (x := 19) l0 ?_
      refine i_96_50 (v := Value.ref 24) (hR.k5 kq_19) rfl ?_
      refine i_96_53 (x := 30 + 3 * a.toNat) l1 ?_
      refine i_96_54 (v := Value.int (Int32.ofInt (S1 (30 + 3 * a.toNat) 3))) (hR.k2 (kd_reg (r := a.toNat) (by omega))) rfl ?_
      rw [fa3]
      refine i_96_57 (x := 30 + 3 * a.toNat) l1 ?_
      refine i_96_58 (v := Value.int (Int32.ofInt (S1 (30 + 3 * a.toNat) 0))) (hR.k2 (kd_reg (r := a.toNat) (by omega))) rfl ?_
      rw [fa0]
      refine i_96_61 (c := Int32.ofInt ((S (30 + 3 * a.toNat) 3) - (S (30 + 3 * a.toNat) 0))) (o_sub (S (30 + 3 * a.toNat) 3) (S (30 + 3 * a.toNat) 0)) ?_
      refine i_96_62 (x := 30 + 3 * e.toNat) l2 ?_
      refine i_96_63 (v := Value.int (Int32.ofInt (S1 (30 + 3 * e.toNat) 3))) (hR.k2 (kd_reg (r := e.toNat) (by omega))) rfl ?_
      rw [fe3]
      refine i_96_66 (c := Int32.ofInt (((S (30 + 3 * a.toNat) 3) - (S (30 + 3 * a.toNat) 0)) + (S (30 + 3 * e.toNat) 3))) (o_add ((S (30 + 3 * a.toNat) 3) - (S (30 + 3 * a.toNat) 0)) (S (30 + 3 * e.toNat) 3)) ?_
      refine i_96_67 (x := 30 + 3 * e.toNat) l2 ?_
      refine i_96_68 (v := Value.int (Int32.ofInt (S1 (30 + 3 * e.toNat) 0))) (hR.k2 (kd_reg (r := e.toNat) (by omega))) rfl ?_
      rw [fe0]
      refine i_96_71 (c := Int32.ofInt ((((S (30 + 3 * a.toNat) 3) - (S (30 + 3 * a.toNat) 0)) + (S (30 + 3 * e.toNat) 3)) - (S (30 + 3 * e.toNat) 0))) (o_sub (((S (30 + 3 * a.toNat) 3) - (S (30 + 3 * a.toNat) 0)) + (S (30 + 3 * e.toNat) 3)) (S (30 + 3 * e.toNat) 0)) ?_
      refine i_96_72 (x := 0) l3 ?_
      have hobj := hR.k5 kq_19
      obtain ⟨w, hrun, V3, hR, t1, t2, t3⟩ := x_tm (d := d + 1) (h := 24) (sc := (((S (30 + 3 * a.toNat) 3) - (S (30 + 3 * a.toNat) 0)) + (S (30 + 3 * e.toNat) 3)) - (S (30 + 3 * e.toNat) 0)) (sg := 0) hR kq_24 (by decide) (by decide) (by omega) ⟨by omega, by omega⟩ (by rw [a3]; omega) (by rw [a8]; exact hf.2.2.2.2.1) (by rw [uv_n (by decide), a11]; omega) (by rw [uv_n (by decide), a12]; omega) (by rw [uv_s, fVa, fVe]; exact Nat.le_trans (xbl_prod _ _) (by omega))
      refine i_96_73 hobj (Nat.le_of_ble_eq_true rfl) hrun ?_
      refine i_96_76 ?_
      refine i_96_156 ?_
      have esg : xorI (S (30 + 3 * a.toNat) 2) (S (30 + 3 * e.toNat) 2) = 0 := by unfold xorI; first | (rw [if_pos (by omega)]; done) | (rw [if_neg (by omega)]; done)
      rw [esg]
      have esc : (((S (30 + 3 * a.toNat) 3) - (S (30 + 3 * a.toNat) 0)) + (S (30 + 3 * e.toNat) 3)) - (S (30 + 3 * e.toNat) 0) = (S (30 + 3 * a.toNat) 3 - S (30 + 3 * a.toNat) 0) + (S (30 + 3 * e.toNat) 3 - S (30 + 3 * e.toNat) 0) := by omega
      rw [esc] at t1 t2 hR
      exact ⟨rfl, _, _, hR, aS_tm (h := 24) (sg := 0) (aS_v hA0) t1 t2 t3 (by rw [uv_s, fVa, fVe])⟩
    · refine i_96_11 ?_
      refine i_96_12 ?_
      refine i_96_16 rfl ?_
      refine lgen1 (i := 3) (v := Value.int 1) (fun lv lg ls => ?_)
      replace l0 := lg 0 _ rfl rfl l0
      replace l1 := lg 1 _ rfl rfl l1
      replace l2 := lg 2 _ rfl rfl l2
      have l3 := ls
      refine i_96_17 (x := 30 + 3 * a.toNat) l1 ?_
      refine i_96_18 (v := Value.int (Int32.ofInt (S1 (30 + 3 * a.toNat) 1))) (hR.k2 (kd_reg (r := a.toNat) (by omega))) rfl ?_
      rw [fa1]
      refine i_96_21 ?_
      refine i_96_22 (b_ne (a := S (30 + 3 * a.toNat) 1) (b := 3) ⟨by omega, by omega⟩ ⟨by decide, by decide⟩ fun c3 => absurd c3 (by omega)) (b_eq (a := S (30 + 3 * a.toNat) 1) (b := 3) ⟨by omega, by omega⟩ ⟨by decide, by decide⟩ fun c3 => ?_)
      try replace ht_a := ht_a.resolve_left (by omega)
      try replace hx_a := hx_a.resolve_left (by omega)
      refine i_96_25 (x := 30 + 3 * e.toNat) l2 ?_
      refine i_96_26 (v := Value.int (Int32.ofInt (S1 (30 + 3 * e.toNat) 1))) (hR.k2 (kd_reg (r := e.toNat) (by omega))) rfl ?_
      rw [fe1]
      refine i_96_29 ?_
      refine i_96_30 (b_ne (a := S (30 + 3 * e.toNat) 1) (b := 3) ⟨by omega, by omega⟩ ⟨by decide, by decide⟩ fun c4 => absurd c4 (by omega)) (b_eq (a := S (30 + 3 * e.toNat) 1) (b := 3) ⟨by omega, by omega⟩ ⟨by decide, by decide⟩ fun c4 => ?_)
      try replace ht_e := ht_e.resolve_left (by omega)
      try replace hx_e := hx_e.resolve_left (by omega)
      refine i_96_33 (x := 19) l0 ?_
      refine i_96_34 (v := Value.ref 24) (hR.k5 kq_19) rfl ?_
      refine i_96_37 (x := 30 + 3 * a.toNat) l1 ?_
      refine i_96_38 (v := Value.ref ((30 + 3 * a.toNat) + 1)) (hR.k2 (kd_reg (r := a.toNat) (by omega))) rfl ?_
      refine i_96_41 (x := 30 + 3 * e.toNat) l2 ?_
      refine i_96_42 (v := Value.ref ((30 + 3 * e.toNat) + 1)) (hR.k2 (kd_reg (r := e.toNat) (by omega))) rfl ?_
      obtain ⟨fs, hobj⟩ := hR.nat kq_24
      obtain ⟨w, hrun, hR⟩ := X_prod (d := d + 3) (h := 24) (ha := (30 + 3 * a.toNat) + 1) (hb := (30 + 3 * e.toNat) + 1) (u := V1 ((30 + 3 * a.toNat) + 1)) (v2 := V1 ((30 + 3 * e.toNat) + 1)) hR kq_24 (kd_rem (r := a.toNat) (by omega)) (kd_rem (r := e.toNat) (by omega)) (by omega) (by omega) (rfl) (rfl) (by omega)
      refine i_96_45 hobj (Nat.le_of_ble_eq_true rfl) hrun ?_
      refine i_96_48 (x := 19) l0 ?_
      refine i_96_49 (x := 19) l0 ?_
      refine i_96_50 (v := Value.ref 24) (hR.k5 kq_19) rfl ?_
      refine i_96_53 (x := 30 + 3 * a.toNat) l1 ?_
      refine i_96_54 (v := Value.int (Int32.ofInt (S1 (30 + 3 * a.toNat) 3))) (hR.k2 (kd_reg (r := a.toNat) (by omega))) rfl ?_
      rw [fa3]
      refine i_96_57 (x := 30 + 3 * a.toNat) l1 ?_
      refine i_96_58 (v := Value.int (Int32.ofInt (S1 (30 + 3 * a.toNat) 0))) (hR.k2 (kd_reg (r := a.toNat) (by omega))) rfl ?_
      rw [fa0]
      refine i_96_61 (c := Int32.ofInt ((S (30 + 3 * a.toNat) 3) - (S (30 + 3 * a.toNat) 0))) (o_sub (S (30 + 3 * a.toNat) 3) (S (30 + 3 * a.toNat) 0)) ?_
      refine i_96_62 (x := 30 + 3 * e.toNat) l2 ?_
      refine i_96_63 (v := Value.int (Int32.ofInt (S1 (30 + 3 * e.toNat) 3))) (hR.k2 (kd_reg (r := e.toNat) (by omega))) rfl ?_
      rw [fe3]
      refine i_96_66 (c := Int32.ofInt (((S (30 + 3 * a.toNat) 3) - (S (30 + 3 * a.toNat) 0)) + (S (30 + 3 * e.toNat) 3))) (o_add ((S (30 + 3 * a.toNat) 3) - (S (30 + 3 * a.toNat) 0)) (S (30 + 3 * e.toNat) 3)) ?_
      refine i_96_67 (x := 30 + 3 * e.toNat) l2 ?_
      refine i_96_68 (v := Value.int (Int32.ofInt (S1 (30 + 3 * e.toNat) 0))) (hR.k2 (kd_reg (r := e.toNat) (by omega))) rfl ?_
      rw [fe0]
      refine i_96_71 (c := Int32.ofInt ((((S (30 + 3 * a.toNat) 3) - (S (30 + 3 * a.toNat) 0)) + (S (30 + 3 * e.toNat) 3)) - (S (30 + 3 * e.toNat) 0))) (o_sub (((S (30 + 3 * a.toNat) 3) - (S (30 + 3 * a.toNat) 0)) + (S (30 + 3 * e.toNat) 3)) (S (30 + 3 * e.toNat) 0)) ?_
      refine i_96_72 (x := 1) l3 ?_
      have hobj := hR.k5 kq_19
      obtain ⟨w, hrun, V3, hR, t1, t2, t3⟩ := x_tm (d := d + 1) (h := 24) (sc := (((S (30 + 3 * a.toNat) 3) - (S (30 + 3 * a.toNat) 0)) + (S (30 + 3 * e.toNat) 3)) - (S (30 + 3 * e.toNat) 0)) (sg := 1) hR kq_24 (by decide) (by decide) (by omega) ⟨by omega, by omega⟩ (by rw [a3]; omega) (by rw [a8]; exact hf.2.2.2.2.1) (by rw [uv_n (by decide), a11]; omega) (by rw [uv_n (by decide), a12]; omega) (by rw [uv_s, fVa, fVe]; exact Nat.le_trans (xbl_prod _ _) (by omega))
      refine i_96_73 hobj (Nat.le_of_ble_eq_true rfl) hrun ?_
      refine i_96_76 ?_
      refine i_96_156 ?_
      have esg : xorI (S (30 + 3 * a.toNat) 2) (S (30 + 3 * e.toNat) 2) = 1 := by unfold xorI; first | (rw [if_pos (by omega)]; done) | (rw [if_neg (by omega)]; done)
      rw [esg]
      have esc : (((S (30 + 3 * a.toNat) 3) - (S (30 + 3 * a.toNat) 0)) + (S (30 + 3 * e.toNat) 3)) - (S (30 + 3 * e.toNat) 0) = (S (30 + 3 * a.toNat) 3 - S (30 + 3 * a.toNat) 0) + (S (30 + 3 * e.toNat) 3 - S (30 + 3 * e.toNat) 0) := by omega
      rw [esc] at t1 t2 hR
      exact ⟨rfl, _, _, hR, aS_tm (h := 24) (sg := 1) (aS_v hA0) t1 t2 t3 (by rw [uv_s, fVa, fVe])⟩
  obtain ⟨o, w', h1, rfl, h2⟩ := (key (lv_args 0 [Value.ref 19, Value.ref (30 + 3 * a.toNat), Value.ref (30 + 3 * e.toNat)]) rfl rfl rfl).run
  exact ⟨w', h1, h2⟩
set_option maxHeartbeats 8000000 in
theorem a_prodN {a e : Int} (hR : cX w0 L Z S1 V1 w) (hA : aS S V S1 V1 nan inv pi mi b P N num pz nz) (hI : cI S V) (hf : (nan = 0 ∨ nan = 1) ∧ (inv = 0 ∨ inv = 1) ∧ (pi = 0 ∨ pi = 1) ∧ (mi = 0 ∨ mi = 1) ∧ (num = 0 ∨ num = 1) ∧ (pz = 0 ∨ pz = 1) ∧ (nz = 0 ∨ nz = 1)) (hbb : -100000 ≤ b ∧ b ≤ 100000) (hP : xbl P ≤ 400000) (hN : xbl N ≤ 400000) (ha : 0 ≤ a ∧ a ≤ 15) (hb2 : 0 ≤ e ∧ e ≤ 15) (hk : S (30 + 3 * a.toNat) 1 = 0 ∨ S (30 + 3 * e.toNat) 1 = 0) : ∃ w', xRun (d + 7) 96 [Value.ref 19, Value.ref (30 + 3 * a.toNat), Value.ref (30 + 3 * e.toNat)] w (.inl none) w' ∧ ∃ S2 V2, cX w0 L Z S2 V2 w' ∧ aS S V S2 V2 1 inv pi mi b P N num pz nz := by
  have key : ∀ lv, xld lv 0 = some (Value.ref 19) → xld lv 1 = some (Value.ref (30 + 3 * a.toNat)) → xld lv 2 = some (Value.ref (30 + 3 * e.toNat)) → xEv (d + 7) 96 0 lv [] w (fun o w' => o = .inl none ∧ ∃ S2 V2, cX w0 L Z S2 V2 w' ∧ aS S V S2 V2 1 inv pi mi b P N num pz nz) := by
    intro lv l0 l1 l2
    have hA0 := hA
    obtain ⟨a1, a2, a3, a4, a5, a6, a7, a8, a9, a10, a11, a12⟩ := hA
    obtain ⟨hp_a, hk_a, hn_a, ht_a, hx_a, hz_a⟩ := hI.1 a.toNat (by omega)
    obtain ⟨hp_e, hk_e, hn_e, ht_e, hx_e, hz_e⟩ := hI.1 e.toNat (by omega)
    have fa0 : S1 (30 + 3 * a.toNat) 0 = S (30 + 3 * a.toNat) 0 := a1.1 _ _ (Or.inl (by omega))
    have fa1 : S1 (30 + 3 * a.toNat) 1 = S (30 + 3 * a.toNat) 1 := a1.1 _ _ (Or.inl (by omega))
    have fa2 : S1 (30 + 3 * a.toNat) 2 = S (30 + 3 * a.toNat) 2 := a1.1 _ _ (Or.inl (by omega))
    have fa3 : S1 (30 + 3 * a.toNat) 3 = S (30 + 3 * a.toNat) 3 := a1.1 _ _ (Or.inl (by omega))
    have fVa : V1 (30 + 3 * a.toNat + 1) = V (30 + 3 * a.toNat + 1) := a2 _ (by omega) (by omega)
    have fe0 : S1 (30 + 3 * e.toNat) 0 = S (30 + 3 * e.toNat) 0 := a1.1 _ _ (Or.inl (by omega))
    have fe1 : S1 (30 + 3 * e.toNat) 1 = S (30 + 3 * e.toNat) 1 := a1.1 _ _ (Or.inl (by omega))
    have fe2 : S1 (30 + 3 * e.toNat) 2 = S (30 + 3 * e.toNat) 2 := a1.1 _ _ (Or.inl (by omega))
    have fe3 : S1 (30 + 3 * e.toNat) 3 = S (30 + 3 * e.toNat) 3 := a1.1 _ _ (Or.inl (by omega))
    have fVe : V1 (30 + 3 * e.toNat + 1) = V (30 + 3 * e.toNat + 1) := a2 _ (by omega) (by omega)
    refine i_96_0 (x := 30 + 3 * a.toNat) l1 ?_
    refine i_96_1 (v := Value.int (Int32.ofInt (S1 (30 + 3 * a.toNat) 2))) (hR.k2 (kd_reg (r := a.toNat) (by omega))) rfl ?_
    rw [fa2]
    refine i_96_4 (x := 30 + 3 * e.toNat) l2 ?_
    refine i_96_5 (v := Value.int (Int32.ofInt (S1 (30 + 3 * e.toNat) 2))) (hR.k2 (kd_reg (r := e.toNat) (by omega))) rfl ?_
    rw [fe2]
    refine i_96_8 (b_eq (a := S (30 + 3 * a.toNat) 2) (b := S (30 + 3 * e.toNat) 2) ⟨by omega, by omega⟩ ⟨by omega, by omega⟩ fun c0 => ?_) (b_ne (a := S (30 + 3 * a.toNat) 2) (b := S (30 + 3 * e.toNat) 2) ⟨by omega, by omega⟩ ⟨by omega, by omega⟩ fun c0 => ?_)
    · refine i_96_15 ?_
      refine i_96_16 rfl ?_
      refine lgen1 (i := 3) (v := Value.int 0) (fun lv lg ls => ?_)
      replace l0 := lg 0 _ rfl rfl l0
      replace l1 := lg 1 _ rfl rfl l1
      replace l2 := lg 2 _ rfl rfl l2
      have l3 := ls
      refine i_96_17 (x := 30 + 3 * a.toNat) l1 ?_
      refine i_96_18 (v := Value.int (Int32.ofInt (S1 (30 + 3 * a.toNat) 1))) (hR.k2 (kd_reg (r := a.toNat) (by omega))) rfl ?_
      rw [fa1]
      refine i_96_21 ?_
      refine i_96_22 (b_ne (a := S (30 + 3 * a.toNat) 1) (b := 3) ⟨by omega, by omega⟩ ⟨by decide, by decide⟩ fun c1 => ?_) (b_eq (a := S (30 + 3 * a.toNat) 1) (b := 3) ⟨by omega, by omega⟩ ⟨by decide, by decide⟩ fun c1 => ?_)
      · refine i_96_79 (x := 30 + 3 * a.toNat) l1 ?_
        refine i_96_80 (v := Value.int (Int32.ofInt (S1 (30 + 3 * a.toNat) 1))) (hR.k2 (kd_reg (r := a.toNat) (by omega))) rfl ?_
        rw [fa1]
        refine i_96_83 (z_eq (a := S (30 + 3 * a.toNat) 1) ⟨by omega, by omega⟩ fun c2 => ?_) (z_ne (a := S (30 + 3 * a.toNat) 1) ⟨by omega, by omega⟩ fun c2 => ?_)
        · refine i_96_93 (x := 19) l0 ?_
          refine i_96_94 ?_
          refine i_96_95 (fs2 := f5 (u1 (S1 19) 5 1)) (hR.k5 kq_19) rfl (Nat.le_of_ble_eq_true rfl) rfl (h7k kq_19 (by decide)) ?_
          refine xgen (P := cX w0 L Z (u2 S1 19 5 1) V1) (hR.p5 kq_19) (fun w hR => ?_)
          refine i_96_98 ?_
          refine i_96_156 ?_
          exact ⟨rfl, _, _, hR, aS_nan hA0⟩
        · refine i_96_86 (x := 30 + 3 * e.toNat) l2 ?_
          refine i_96_87 (v := Value.int (Int32.ofInt (S1 (30 + 3 * e.toNat) 1))) (hR.k2 (kd_reg (r := e.toNat) (by omega))) rfl ?_
          rw [fe1]
          refine i_96_90 (z_ne (a := S (30 + 3 * e.toNat) 1) ⟨by omega, by omega⟩ fun c3 => ?_) (z_eq (a := S (30 + 3 * e.toNat) 1) ⟨by omega, by omega⟩ fun c3 => ?_)
          · refine i_96_101 (x := 30 + 3 * a.toNat) l1 ?_
            refine i_96_102 (v := Value.int (Int32.ofInt (S1 (30 + 3 * a.toNat) 1))) (hR.k2 (kd_reg (r := a.toNat) (by omega))) rfl ?_
            rw [fa1]
            refine i_96_105 ?_
            refine i_96_106 (b_eq (a := S (30 + 3 * a.toNat) 1) (b := 1) ⟨by omega, by omega⟩ ⟨by decide, by decide⟩ fun c4 => ?_) (b_ne (a := S (30 + 3 * a.toNat) 1) (b := 1) ⟨by omega, by omega⟩ ⟨by decide, by decide⟩ fun c4 => ?_)
            · refine i_96_126 (x := 30 + 3 * a.toNat) l1 ?_
              refine i_96_127 (v := Value.int (Int32.ofInt (S1 (30 + 3 * a.toNat) 1))) (hR.k2 (kd_reg (r := a.toNat) (by omega))) rfl ?_
              rw [fa1]
              refine i_96_130 ?_
              refine i_96_131 (b_eq (a := S (30 + 3 * a.toNat) 1) (b := 2) ⟨by omega, by omega⟩ ⟨by decide, by decide⟩ fun c5 => absurd c5 (by omega)) (b_ne (a := S (30 + 3 * a.toNat) 1) (b := 2) ⟨by omega, by omega⟩ ⟨by decide, by decide⟩ fun c5 => ?_)
              refine i_96_134 (x := 30 + 3 * e.toNat) l2 ?_
              refine i_96_135 (v := Value.int (Int32.ofInt (S1 (30 + 3 * e.toNat) 1))) (hR.k2 (kd_reg (r := e.toNat) (by omega))) rfl ?_
              rw [fe1]
              refine i_96_138 ?_
              refine i_96_139 (b_ne (a := S (30 + 3 * e.toNat) 1) (b := 2) ⟨by omega, by omega⟩ ⟨by decide, by decide⟩ fun c6 => ?_) (b_eq (a := S (30 + 3 * e.toNat) 1) (b := 2) ⟨by omega, by omega⟩ ⟨by decide, by decide⟩ fun c6 => ?_)
              · refine i_96_150 (x := 19) l0 ?_
                refine i_96_151 ?_
                refine i_96_152 (x := 0) l3 ?_
                have hobj := hR.k5 kq_19
                obtain ⟨w, hrun, hR⟩ := x_tsp (d := d + 6) (k := 1) (sg := 0) hR ⟨by omega, by omega⟩ (by omega) (by rw [a4]; exact hf.1) (by rw [a6]; exact hf.2.2.1) (by rw [a7]; exact hf.2.2.2.1) (by rw [a9]; exact hf.2.2.2.2.2.1) (by rw [a10]; exact hf.2.2.2.2.2.2)
                refine i_96_153 hobj (Nat.le_of_ble_eq_true rfl) hrun ?_
                refine i_96_156 ?_
                exfalso; omega
              · refine i_96_142 (x := 19) l0 ?_
                refine i_96_143 ?_
                refine i_96_144 (fs2 := f5 (u1 (S1 19) 6 1)) (hR.k5 kq_19) rfl (Nat.le_of_ble_eq_true rfl) rfl (h7k kq_19 (by decide)) ?_
                refine xgen (P := cX w0 L Z (u2 S1 19 6 1) V1) (hR.p5 kq_19) (fun w hR => ?_)
                refine i_96_147 ?_
                refine i_96_156 ?_
                exfalso; omega
            · refine i_96_109 (x := 30 + 3 * e.toNat) l2 ?_
              refine i_96_110 (v := Value.int (Int32.ofInt (S1 (30 + 3 * e.toNat) 1))) (hR.k2 (kd_reg (r := e.toNat) (by omega))) rfl ?_
              rw [fe1]
              refine i_96_113 ?_
              refine i_96_114 (b_eq (a := S (30 + 3 * e.toNat) 1) (b := 1) ⟨by omega, by omega⟩ ⟨by decide, by decide⟩ fun c7 => ?_) (b_ne (a := S (30 + 3 * e.toNat) 1) (b := 1) ⟨by omega, by omega⟩ ⟨by decide, by decide⟩ fun c7 => ?_)
              · refine i_96_126 (x := 30 + 3 * a.toNat) l1 ?_
                refine i_96_127 (v := Value.int (Int32.ofInt (S1 (30 + 3 * a.toNat) 1))) (hR.k2 (kd_reg (r := a.toNat) (by omega))) rfl ?_
                rw [fa1]
                refine i_96_130 ?_
                refine i_96_131 (b_eq (a := S (30 + 3 * a.toNat) 1) (b := 2) ⟨by omega, by omega⟩ ⟨by decide, by decide⟩ fun c8 => ?_) (b_ne (a := S (30 + 3 * a.toNat) 1) (b := 2) ⟨by omega, by omega⟩ ⟨by decide, by decide⟩ fun c8 => ?_)
                · refine i_96_142 (x := 19) l0 ?_
                  refine i_96_143 ?_
                  refine i_96_144 (fs2 := f5 (u1 (S1 19) 6 1)) (hR.k5 kq_19) rfl (Nat.le_of_ble_eq_true rfl) rfl (h7k kq_19 (by decide)) ?_
                  refine xgen (P := cX w0 L Z (u2 S1 19 6 1) V1) (hR.p5 kq_19) (fun w hR => ?_)
                  refine i_96_147 ?_
                  refine i_96_156 ?_
                  exfalso; omega
                · refine i_96_134 (x := 30 + 3 * e.toNat) l2 ?_
                  refine i_96_135 (v := Value.int (Int32.ofInt (S1 (30 + 3 * e.toNat) 1))) (hR.k2 (kd_reg (r := e.toNat) (by omega))) rfl ?_
                  rw [fe1]
                  refine i_96_138 ?_
                  refine i_96_139 (b_ne (a := S (30 + 3 * e.toNat) 1) (b := 2) ⟨by omega, by omega⟩ ⟨by decide, by decide⟩ fun c9 => ?_) (b_eq (a := S (30 + 3 * e.toNat) 1) (b := 2) ⟨by omega, by omega⟩ ⟨by decide, by decide⟩ fun c9 => absurd c9 (by omega))
                  refine i_96_150 (x := 19) l0 ?_
                  refine i_96_151 ?_
                  refine i_96_152 (x := 0) l3 ?_
                  have hobj := hR.k5 kq_19
                  obtain ⟨w, hrun, hR⟩ := x_tsp (d := d + 6) (k := 1) (sg := 0) hR ⟨by omega, by omega⟩ (by omega) (by rw [a4]; exact hf.1) (by rw [a6]; exact hf.2.2.1) (by rw [a7]; exact hf.2.2.2.1) (by rw [a9]; exact hf.2.2.2.2.2.1) (by rw [a10]; exact hf.2.2.2.2.2.2)
                  refine i_96_153 hobj (Nat.le_of_ble_eq_true rfl) hrun ?_
                  refine i_96_156 ?_
                  exfalso; omega
              · refine i_96_117 (x := 19) l0 ?_
                refine i_96_118 ?_
                refine i_96_119 (x := 0) l3 ?_
                have hobj := hR.k5 kq_19
                obtain ⟨w, hrun, hR⟩ := x_tsp (d := d + 6) (k := 2) (sg := 0) hR ⟨by omega, by omega⟩ (by omega) (by rw [a4]; exact hf.1) (by rw [a6]; exact hf.2.2.1) (by rw [a7]; exact hf.2.2.2.1) (by rw [a9]; exact hf.2.2.2.2.2.1) (by rw [a10]; exact hf.2.2.2.2.2.2)
                refine i_96_120 hobj (Nat.le_of_ble_eq_true rfl) hrun ?_
                refine i_96_123 ?_
                refine i_96_156 ?_
                exfalso; omega
          · refine i_96_93 (x := 19) l0 ?_
            refine i_96_94 ?_
            refine i_96_95 (fs2 := f5 (u1 (S1 19) 5 1)) (hR.k5 kq_19) rfl (Nat.le_of_ble_eq_true rfl) rfl (h7k kq_19 (by decide)) ?_
            refine xgen (P := cX w0 L Z (u2 S1 19 5 1) V1) (hR.p5 kq_19) (fun w hR => ?_)
            refine i_96_98 ?_
            refine i_96_156 ?_
            exact ⟨rfl, _, _, hR, aS_nan hA0⟩
      · try replace ht_a := ht_a.resolve_left (by omega)
        try replace hx_a := hx_a.resolve_left (by omega)
        refine i_96_25 (x := 30 + 3 * e.toNat) l2 ?_
        refine i_96_26 (v := Value.int (Int32.ofInt (S1 (30 + 3 * e.toNat) 1))) (hR.k2 (kd_reg (r := e.toNat) (by omega))) rfl ?_
        rw [fe1]
        refine i_96_29 ?_
        refine i_96_30 (b_ne (a := S (30 + 3 * e.toNat) 1) (b := 3) ⟨by omega, by omega⟩ ⟨by decide, by decide⟩ fun c10 => ?_) (b_eq (a := S (30 + 3 * e.toNat) 1) (b := 3) ⟨by omega, by omega⟩ ⟨by decide, by decide⟩ fun c10 => ?_)
        · refine i_96_79 (x := 30 + 3 * a.toNat) l1 ?_
          refine i_96_80 (v := Value.int (Int32.ofInt (S1 (30 + 3 * a.toNat) 1))) (hR.k2 (kd_reg (r := a.toNat) (by omega))) rfl ?_
          rw [fa1]
          refine i_96_83 (z_eq (a := S (30 + 3 * a.toNat) 1) ⟨by omega, by omega⟩ fun c11 => absurd c11 (by omega)) (z_ne (a := S (30 + 3 * a.toNat) 1) ⟨by omega, by omega⟩ fun c11 => ?_)
          refine i_96_86 (x := 30 + 3 * e.toNat) l2 ?_
          refine i_96_87 (v := Value.int (Int32.ofInt (S1 (30 + 3 * e.toNat) 1))) (hR.k2 (kd_reg (r := e.toNat) (by omega))) rfl ?_
          rw [fe1]
          refine i_96_90 (z_ne (a := S (30 + 3 * e.toNat) 1) ⟨by omega, by omega⟩ fun c12 => ?_) (z_eq (a := S (30 + 3 * e.toNat) 1) ⟨by omega, by omega⟩ fun c12 => ?_)
          · refine i_96_101 (x := 30 + 3 * a.toNat) l1 ?_
            refine i_96_102 (v := Value.int (Int32.ofInt (S1 (30 + 3 * a.toNat) 1))) (hR.k2 (kd_reg (r := a.toNat) (by omega))) rfl ?_
            rw [fa1]
            refine i_96_105 ?_
            refine i_96_106 (b_eq (a := S (30 + 3 * a.toNat) 1) (b := 1) ⟨by omega, by omega⟩ ⟨by decide, by decide⟩ fun c13 => absurd c13 (by omega)) (b_ne (a := S (30 + 3 * a.toNat) 1) (b := 1) ⟨by omega, by omega⟩ ⟨by decide, by decide⟩ fun c13 => ?_)
            refine i_96_109 (x := 30 + 3 * e.toNat) l2 ?_
            refine i_96_110 (v := Value.int (Int32.ofInt (S1 (30 + 3 * e.toNat) 1))) (hR.k2 (kd_reg (r := e.toNat) (by omega))) rfl ?_
            rw [fe1]
            refine i_96_113 ?_
            refine i_96_114 (b_eq (a := S (30 + 3 * e.toNat) 1) (b := 1) ⟨by omega, by omega⟩ ⟨by decide, by decide⟩ fun c14 => ?_) (b_ne (a := S (30 + 3 * e.toNat) 1) (b := 1) ⟨by omega, by omega⟩ ⟨by decide, by decide⟩ fun c14 => ?_)
            · refine i_96_126 (x := 30 + 3 * a.toNat) l1 ?_
              refine i_96_127 (v := Value.int (Int32.ofInt (S1 (30 + 3 * a.toNat) 1))) (hR.k2 (kd_reg (r := a.toNat) (by omega))) rfl ?_
              rw [fa1]
              refine i_96_130 ?_
              refine i_96_131 (b_eq (a := S (30 + 3 * a.toNat) 1) (b := 2) ⟨by omega, by omega⟩ ⟨by decide, by decide⟩ fun c15 => absurd c15 (by omega)) (b_ne (a := S (30 + 3 * a.toNat) 1) (b := 2) ⟨by omega, by omega⟩ ⟨by decide, by decide⟩ fun c15 => ?_)
              refine i_96_134 (x := 30 + 3 * e.toNat) l2 ?_
              refine i_96_135 (v := Value.int (Int32.ofInt (S1 (30 + 3 * e.toNat) 1))) (hR.k2 (kd_reg (r := e.toNat) (by omega))) rfl ?_
              rw [fe1]
              refine i_96_138 ?_
              refine i_96_139 (b_ne (a := S (30 + 3 * e.toNat) 1) (b := 2) ⟨by omega, by omega⟩ ⟨by decide, by decide⟩ fun c16 => ?_) (b_eq (a := S (30 + 3 * e.toNat) 1) (b := 2) ⟨by omega, by omega⟩ ⟨by decide, by decide⟩ fun c16 => absurd c16 (by omega))
              refine i_96_150 (x := 19) l0 ?_
              refine i_96_151 ?_
              refine i_96_152 (x := 0) l3 ?_
              have hobj := hR.k5 kq_19
              obtain ⟨w, hrun, hR⟩ := x_tsp (d := d + 6) (k := 1) (sg := 0) hR ⟨by omega, by omega⟩ (by omega) (by rw [a4]; exact hf.1) (by rw [a6]; exact hf.2.2.1) (by rw [a7]; exact hf.2.2.2.1) (by rw [a9]; exact hf.2.2.2.2.2.1) (by rw [a10]; exact hf.2.2.2.2.2.2)
              refine i_96_153 hobj (Nat.le_of_ble_eq_true rfl) hrun ?_
              refine i_96_156 ?_
              exfalso; omega
            · refine i_96_117 (x := 19) l0 ?_
              refine i_96_118 ?_
              refine i_96_119 (x := 0) l3 ?_
              have hobj := hR.k5 kq_19
              obtain ⟨w, hrun, hR⟩ := x_tsp (d := d + 6) (k := 2) (sg := 0) hR ⟨by omega, by omega⟩ (by omega) (by rw [a4]; exact hf.1) (by rw [a6]; exact hf.2.2.1) (by rw [a7]; exact hf.2.2.2.1) (by rw [a9]; exact hf.2.2.2.2.2.1) (by rw [a10]; exact hf.2.2.2.2.2.2)
              refine i_96_120 hobj (Nat.le_of_ble_eq_true rfl) hrun ?_
              refine i_96_123 ?_
              refine i_96_156 ?_
              exfalso; omega
          · refine i_96_93 (x := 19) l0 ?_
            refine i_96_94 ?_
            refine i_96_95 (fs2 := f5 (u1 (S1 19) 5 1)) (hR.k5 kq_19) rfl (Nat.le_of_ble_eq_true rfl) rfl (h7k kq_19 (by decide)) ?_
            refine xgen (P := cX w0 L Z (u2 S1 19 5 1) V1) (hR.p5 kq_19) (fun w hR => ?_)
            refine i_96_98 ?_
            refine i_96_156 ?_
            exact ⟨rfl, _, _, hR, aS_nan hA0⟩
        · try replace ht_e := ht_e.resolve_left (by omega)
          try replace hx_e := hx_e.resolve_left (by omega)
          refine i_96_33 (x := 19) l0 ?_
          refine i_96_34 (v := Value.ref 24) (hR.k5 kq_19) rfl ?_
          refine i_96_37 (x := 30 + 3 * a.toNat) l1 ?_
          refine i_96_38 (v := Value.ref ((30 + 3 * a.toNat) + 1)) (hR.k2 (kd_reg (r := a.toNat) (by omega))) rfl ?_
          refine i_96_41 (x := 30 + 3 * e.toNat) l2 ?_
          refine i_96_42 (v := Value.ref ((30 + 3 * e.toNat) + 1)) (hR.k2 (kd_reg (r := e.toNat) (by omega))) rfl ?_
          obtain ⟨fs, hobj⟩ := hR.nat kq_24
          obtain ⟨w, hrun, hR⟩ := X_prod (d := d + 3) (h := 24) (ha := (30 + 3 * a.toNat) + 1) (hb := (30 + 3 * e.toNat) + 1) (u := V1 ((30 + 3 * a.toNat) + 1)) (v2 := V1 ((30 + 3 * e.toNat) + 1)) hR kq_24 (kd_rem (r := a.toNat) (by omega)) (kd_rem (r := e.toNat) (by omega)) (by omega) (by omega) (rfl) (rfl) (by omega)
          refine i_96_45 hobj (Nat.le_of_ble_eq_true rfl) hrun ?_
          refine i_96_48 (x := 19) l0 ?_
          refine i_96_49 (x := 19) l0 ?_
          refine i_96_50 (v := Value.ref 24) (hR.k5 kq_19) rfl ?_
          refine i_96_53 (x := 30 + 3 * a.toNat) l1 ?_
          refine i_96_54 (v := Value.int (Int32.ofInt (S1 (30 + 3 * a.toNat) 3))) (hR.k2 (kd_reg (r := a.toNat) (by omega))) rfl ?_
          rw [fa3]
          refine i_96_57 (x := 30 + 3 * a.toNat) l1 ?_
          refine i_96_58 (v := Value.int (Int32.ofInt (S1 (30 + 3 * a.toNat) 0))) (hR.k2 (kd_reg (r := a.toNat) (by omega))) rfl ?_
          rw [fa0]
          refine i_96_61 (c := Int32.ofInt ((S (30 + 3 * a.toNat) 3) - (S (30 + 3 * a.toNat) 0))) (o_sub (S (30 + 3 * a.toNat) 3) (S (30 + 3 * a.toNat) 0)) ?_
          refine i_96_62 (x := 30 + 3 * e.toNat) l2 ?_
          refine i_96_63 (v := Value.int (Int32.ofInt (S1 (30 + 3 * e.toNat) 3))) (hR.k2 (kd_reg (r := e.toNat) (by omega))) rfl ?_
          rw [fe3]
          refine i_96_66 (c := Int32.ofInt (((S (30 + 3 * a.toNat) 3) - (S (30 + 3 * a.toNat) 0)) + (S (30 + 3 * e.toNat) 3))) (o_add ((S (30 + 3 * a.toNat) 3) - (S (30 + 3 * a.toNat) 0)) (S (30 + 3 * e.toNat) 3)) ?_
          refine i_96_67 (x := 30 + 3 * e.toNat) l2 ?_
          refine i_96_68 (v := Value.int (Int32.ofInt (S1 (30 + 3 * e.toNat) 0))) (hR.k2 (kd_reg (r := e.toNat) (by omega))) rfl ?_
          rw [fe0]
          refine i_96_71 (c := Int32.ofInt ((((S (30 + 3 * a.toNat) 3) - (S (30 + 3 * a.toNat) 0)) + (S (30 + 3 * e.toNat) 3)) - (S (30 + 3 * e.toNat) 0))) (o_sub (((S (30 + 3 * a.toNat) 3) - (S (30 + 3 * a.toNat) 0)) + (S (30 + 3 * e.toNat) 3)) (S (30 + 3 * e.toNat) 0)) ?_
          refine i_96_72 (x := 0) l3 ?_
          have hobj := hR.k5 kq_19
          obtain ⟨w, hrun, V3, hR, t1, t2, t3⟩ := x_tm (d := d + 1) (h := 24) (sc := (((S (30 + 3 * a.toNat) 3) - (S (30 + 3 * a.toNat) 0)) + (S (30 + 3 * e.toNat) 3)) - (S (30 + 3 * e.toNat) 0)) (sg := 0) hR kq_24 (by decide) (by decide) (by omega) ⟨by omega, by omega⟩ (by rw [a3]; omega) (by rw [a8]; exact hf.2.2.2.2.1) (by rw [uv_n (by decide), a11]; omega) (by rw [uv_n (by decide), a12]; omega) (by rw [uv_s, fVa, fVe]; exact Nat.le_trans (xbl_prod _ _) (by omega))
          refine i_96_73 hobj (Nat.le_of_ble_eq_true rfl) hrun ?_
          refine i_96_76 ?_
          refine i_96_156 ?_
          exfalso; omega
    · refine i_96_11 ?_
      refine i_96_12 ?_
      refine i_96_16 rfl ?_
      refine lgen1 (i := 3) (v := Value.int 1) (fun lv lg ls => ?_)
      replace l0 := lg 0 _ rfl rfl l0
      replace l1 := lg 1 _ rfl rfl l1
      replace l2 := lg 2 _ rfl rfl l2
      have l3 := ls
      refine i_96_17 (x := 30 + 3 * a.toNat) l1 ?_
      refine i_96_18 (v := Value.int (Int32.ofInt (S1 (30 + 3 * a.toNat) 1))) (hR.k2 (kd_reg (r := a.toNat) (by omega))) rfl ?_
      rw [fa1]
      refine i_96_21 ?_
      refine i_96_22 (b_ne (a := S (30 + 3 * a.toNat) 1) (b := 3) ⟨by omega, by omega⟩ ⟨by decide, by decide⟩ fun c17 => ?_) (b_eq (a := S (30 + 3 * a.toNat) 1) (b := 3) ⟨by omega, by omega⟩ ⟨by decide, by decide⟩ fun c17 => ?_)
      · refine i_96_79 (x := 30 + 3 * a.toNat) l1 ?_
        refine i_96_80 (v := Value.int (Int32.ofInt (S1 (30 + 3 * a.toNat) 1))) (hR.k2 (kd_reg (r := a.toNat) (by omega))) rfl ?_
        rw [fa1]
        refine i_96_83 (z_eq (a := S (30 + 3 * a.toNat) 1) ⟨by omega, by omega⟩ fun c18 => ?_) (z_ne (a := S (30 + 3 * a.toNat) 1) ⟨by omega, by omega⟩ fun c18 => ?_)
        · refine i_96_93 (x := 19) l0 ?_
          refine i_96_94 ?_
          refine i_96_95 (fs2 := f5 (u1 (S1 19) 5 1)) (hR.k5 kq_19) rfl (Nat.le_of_ble_eq_true rfl) rfl (h7k kq_19 (by decide)) ?_
          refine xgen (P := cX w0 L Z (u2 S1 19 5 1) V1) (hR.p5 kq_19) (fun w hR => ?_)
          refine i_96_98 ?_
          refine i_96_156 ?_
          exact ⟨rfl, _, _, hR, aS_nan hA0⟩
        · refine i_96_86 (x := 30 + 3 * e.toNat) l2 ?_
          refine i_96_87 (v := Value.int (Int32.ofInt (S1 (30 + 3 * e.toNat) 1))) (hR.k2 (kd_reg (r := e.toNat) (by omega))) rfl ?_
          rw [fe1]
          refine i_96_90 (z_ne (a := S (30 + 3 * e.toNat) 1) ⟨by omega, by omega⟩ fun c19 => ?_) (z_eq (a := S (30 + 3 * e.toNat) 1) ⟨by omega, by omega⟩ fun c19 => ?_)
          · refine i_96_101 (x := 30 + 3 * a.toNat) l1 ?_
            refine i_96_102 (v := Value.int (Int32.ofInt (S1 (30 + 3 * a.toNat) 1))) (hR.k2 (kd_reg (r := a.toNat) (by omega))) rfl ?_
            rw [fa1]
            refine i_96_105 ?_
            refine i_96_106 (b_eq (a := S (30 + 3 * a.toNat) 1) (b := 1) ⟨by omega, by omega⟩ ⟨by decide, by decide⟩ fun c20 => ?_) (b_ne (a := S (30 + 3 * a.toNat) 1) (b := 1) ⟨by omega, by omega⟩ ⟨by decide, by decide⟩ fun c20 => ?_)
            · refine i_96_126 (x := 30 + 3 * a.toNat) l1 ?_
              refine i_96_127 (v := Value.int (Int32.ofInt (S1 (30 + 3 * a.toNat) 1))) (hR.k2 (kd_reg (r := a.toNat) (by omega))) rfl ?_
              rw [fa1]
              refine i_96_130 ?_
              refine i_96_131 (b_eq (a := S (30 + 3 * a.toNat) 1) (b := 2) ⟨by omega, by omega⟩ ⟨by decide, by decide⟩ fun c21 => absurd c21 (by omega)) (b_ne (a := S (30 + 3 * a.toNat) 1) (b := 2) ⟨by omega, by omega⟩ ⟨by decide, by decide⟩ fun c21 => ?_)
              refine i_96_134 (x := 30 + 3 * e.toNat) l2 ?_
              refine i_96_135 (v := Value.int (Int32.ofInt (S1 (30 + 3 * e.toNat) 1))) (hR.k2 (kd_reg (r := e.toNat) (by omega))) rfl ?_
              rw [fe1]
              refine i_96_138 ?_
              refine i_96_139 (b_ne (a := S (30 + 3 * e.toNat) 1) (b := 2) ⟨by omega, by omega⟩ ⟨by decide, by decide⟩ fun c22 => ?_) (b_eq (a := S (30 + 3 * e.toNat) 1) (b := 2) ⟨by omega, by omega⟩ ⟨by decide, by decide⟩ fun c22 => ?_)
              · refine i_96_150 (x := 19) l0 ?_
                refine i_96_151 ?_
                refine i_96_152 (x := 1) l3 ?_
                have hobj := hR.k5 kq_19
                obtain ⟨w, hrun, hR⟩ := x_tsp (d := d + 6) (k := 1) (sg := 1) hR ⟨by omega, by omega⟩ (by omega) (by rw [a4]; exact hf.1) (by rw [a6]; exact hf.2.2.1) (by rw [a7]; exact hf.2.2.2.1) (by rw [a9]; exact hf.2.2.2.2.2.1) (by rw [a10]; exact hf.2.2.2.2.2.2)
                refine i_96_153 hobj (Nat.le_of_ble_eq_true rfl) hrun ?_
                refine i_96_156 ?_
                exfalso; omega
              · refine i_96_142 (x := 19) l0 ?_
                refine i_96_143 ?_
                refine i_96_144 (fs2 := f5 (u1 (S1 19) 6 1)) (hR.k5 kq_19) rfl (Nat.le_of_ble_eq_true rfl) rfl (h7k kq_19 (by decide)) ?_
                refine xgen (P := cX w0 L Z (u2 S1 19 6 1) V1) (hR.p5 kq_19) (fun w hR => ?_)
                refine i_96_147 ?_
                refine i_96_156 ?_
                exfalso; omega
            · refine i_96_109 (x := 30 + 3 * e.toNat) l2 ?_
              refine i_96_110 (v := Value.int (Int32.ofInt (S1 (30 + 3 * e.toNat) 1))) (hR.k2 (kd_reg (r := e.toNat) (by omega))) rfl ?_
              rw [fe1]
              refine i_96_113 ?_
              refine i_96_114 (b_eq (a := S (30 + 3 * e.toNat) 1) (b := 1) ⟨by omega, by omega⟩ ⟨by decide, by decide⟩ fun c23 => ?_) (b_ne (a := S (30 + 3 * e.toNat) 1) (b := 1) ⟨by omega, by omega⟩ ⟨by decide, by decide⟩ fun c23 => ?_)
              · refine i_96_126 (x := 30 + 3 * a.toNat) l1 ?_
                refine i_96_127 (v := Value.int (Int32.ofInt (S1 (30 + 3 * a.toNat) 1))) (hR.k2 (kd_reg (r := a.toNat) (by omega))) rfl ?_
                rw [fa1]
                refine i_96_130 ?_
                refine i_96_131 (b_eq (a := S (30 + 3 * a.toNat) 1) (b := 2) ⟨by omega, by omega⟩ ⟨by decide, by decide⟩ fun c24 => ?_) (b_ne (a := S (30 + 3 * a.toNat) 1) (b := 2) ⟨by omega, by omega⟩ ⟨by decide, by decide⟩ fun c24 => ?_)
                · refine i_96_142 (x := 19) l0 ?_
                  refine i_96_143 ?_
                  refine i_96_144 (fs2 := f5 (u1 (S1 19) 6 1)) (hR.k5 kq_19) rfl (Nat.le_of_ble_eq_true rfl) rfl (h7k kq_19 (by decide)) ?_
                  refine xgen (P := cX w0 L Z (u2 S1 19 6 1) V1) (hR.p5 kq_19) (fun w hR => ?_)
                  refine i_96_147 ?_
                  refine i_96_156 ?_
                  exfalso; omega
                · refine i_96_134 (x := 30 + 3 * e.toNat) l2 ?_
                  refine i_96_135 (v := Value.int (Int32.ofInt (S1 (30 + 3 * e.toNat) 1))) (hR.k2 (kd_reg (r := e.toNat) (by omega))) rfl ?_
                  rw [fe1]
                  refine i_96_138 ?_
                  refine i_96_139 (b_ne (a := S (30 + 3 * e.toNat) 1) (b := 2) ⟨by omega, by omega⟩ ⟨by decide, by decide⟩ fun c25 => ?_) (b_eq (a := S (30 + 3 * e.toNat) 1) (b := 2) ⟨by omega, by omega⟩ ⟨by decide, by decide⟩ fun c25 => absurd c25 (by omega))
                  refine i_96_150 (x := 19) l0 ?_
                  refine i_96_151 ?_
                  refine i_96_152 (x := 1) l3 ?_
                  have hobj := hR.k5 kq_19
                  obtain ⟨w, hrun, hR⟩ := x_tsp (d := d + 6) (k := 1) (sg := 1) hR ⟨by omega, by omega⟩ (by omega) (by rw [a4]; exact hf.1) (by rw [a6]; exact hf.2.2.1) (by rw [a7]; exact hf.2.2.2.1) (by rw [a9]; exact hf.2.2.2.2.2.1) (by rw [a10]; exact hf.2.2.2.2.2.2)
                  refine i_96_153 hobj (Nat.le_of_ble_eq_true rfl) hrun ?_
                  refine i_96_156 ?_
                  exfalso; omega
              · refine i_96_117 (x := 19) l0 ?_
                refine i_96_118 ?_
                refine i_96_119 (x := 1) l3 ?_
                have hobj := hR.k5 kq_19
                obtain ⟨w, hrun, hR⟩ := x_tsp (d := d + 6) (k := 2) (sg := 1) hR ⟨by omega, by omega⟩ (by omega) (by rw [a4]; exact hf.1) (by rw [a6]; exact hf.2.2.1) (by rw [a7]; exact hf.2.2.2.1) (by rw [a9]; exact hf.2.2.2.2.2.1) (by rw [a10]; exact hf.2.2.2.2.2.2)
                refine i_96_120 hobj (Nat.le_of_ble_eq_true rfl) hrun ?_
                refine i_96_123 ?_
                refine i_96_156 ?_
                exfalso; omega
          · refine i_96_93 (x := 19) l0 ?_
            refine i_96_94 ?_
            refine i_96_95 (fs2 := f5 (u1 (S1 19) 5 1)) (hR.k5 kq_19) rfl (Nat.le_of_ble_eq_true rfl) rfl (h7k kq_19 (by decide)) ?_
            refine xgen (P := cX w0 L Z (u2 S1 19 5 1) V1) (hR.p5 kq_19) (fun w hR => ?_)
            refine i_96_98 ?_
            refine i_96_156 ?_
            exact ⟨rfl, _, _, hR, aS_nan hA0⟩
      · try replace ht_a := ht_a.resolve_left (by omega)
        try replace hx_a := hx_a.resolve_left (by omega)
        refine i_96_25 (x := 30 + 3 * e.toNat) l2 ?_
        refine i_96_26 (v := Value.int (Int32.ofInt (S1 (30 + 3 * e.toNat) 1))) (hR.k2 (kd_reg (r := e.toNat) (by omega))) rfl ?_
        rw [fe1]
        refine i_96_29 ?_
        refine i_96_30 (b_ne (a := S (30 + 3 * e.toNat) 1) (b := 3) ⟨by omega, by omega⟩ ⟨by decide, by decide⟩ fun c26 => ?_) (b_eq (a := S (30 + 3 * e.toNat) 1) (b := 3) ⟨by omega, by omega⟩ ⟨by decide, by decide⟩ fun c26 => ?_)
        · refine i_96_79 (x := 30 + 3 * a.toNat) l1 ?_
          refine i_96_80 (v := Value.int (Int32.ofInt (S1 (30 + 3 * a.toNat) 1))) (hR.k2 (kd_reg (r := a.toNat) (by omega))) rfl ?_
          rw [fa1]
          refine i_96_83 (z_eq (a := S (30 + 3 * a.toNat) 1) ⟨by omega, by omega⟩ fun c27 => absurd c27 (by omega)) (z_ne (a := S (30 + 3 * a.toNat) 1) ⟨by omega, by omega⟩ fun c27 => ?_)
          refine i_96_86 (x := 30 + 3 * e.toNat) l2 ?_
          refine i_96_87 (v := Value.int (Int32.ofInt (S1 (30 + 3 * e.toNat) 1))) (hR.k2 (kd_reg (r := e.toNat) (by omega))) rfl ?_
          rw [fe1]
          refine i_96_90 (z_ne (a := S (30 + 3 * e.toNat) 1) ⟨by omega, by omega⟩ fun c28 => ?_) (z_eq (a := S (30 + 3 * e.toNat) 1) ⟨by omega, by omega⟩ fun c28 => ?_)
          · refine i_96_101 (x := 30 + 3 * a.toNat) l1 ?_
            refine i_96_102 (v := Value.int (Int32.ofInt (S1 (30 + 3 * a.toNat) 1))) (hR.k2 (kd_reg (r := a.toNat) (by omega))) rfl ?_
            rw [fa1]
            refine i_96_105 ?_
            refine i_96_106 (b_eq (a := S (30 + 3 * a.toNat) 1) (b := 1) ⟨by omega, by omega⟩ ⟨by decide, by decide⟩ fun c29 => absurd c29 (by omega)) (b_ne (a := S (30 + 3 * a.toNat) 1) (b := 1) ⟨by omega, by omega⟩ ⟨by decide, by decide⟩ fun c29 => ?_)
            refine i_96_109 (x := 30 + 3 * e.toNat) l2 ?_
            refine i_96_110 (v := Value.int (Int32.ofInt (S1 (30 + 3 * e.toNat) 1))) (hR.k2 (kd_reg (r := e.toNat) (by omega))) rfl ?_
            rw [fe1]
            refine i_96_113 ?_
            refine i_96_114 (b_eq (a := S (30 + 3 * e.toNat) 1) (b := 1) ⟨by omega, by omega⟩ ⟨by decide, by decide⟩ fun c30 => ?_) (b_ne (a := S (30 + 3 * e.toNat) 1) (b := 1) ⟨by omega, by omega⟩ ⟨by decide, by decide⟩ fun c30 => ?_)
            · refine i_96_126 (x := 30 + 3 * a.toNat) l1 ?_
              refine i_96_127 (v := Value.int (Int32.ofInt (S1 (30 + 3 * a.toNat) 1))) (hR.k2 (kd_reg (r := a.toNat) (by omega))) rfl ?_
              rw [fa1]
              refine i_96_130 ?_
              refine i_96_131 (b_eq (a := S (30 + 3 * a.toNat) 1) (b := 2) ⟨by omega, by omega⟩ ⟨by decide, by decide⟩ fun c31 => absurd c31 (by omega)) (b_ne (a := S (30 + 3 * a.toNat) 1) (b := 2) ⟨by omega, by omega⟩ ⟨by decide, by decide⟩ fun c31 => ?_)
              refine i_96_134 (x := 30 + 3 * e.toNat) l2 ?_
              refine i_96_135 (v := Value.int (Int32.ofInt (S1 (30 + 3 * e.toNat) 1))) (hR.k2 (kd_reg (r := e.toNat) (by omega))) rfl ?_
              rw [fe1]
              refine i_96_138 ?_
              refine i_96_139 (b_ne (a := S (30 + 3 * e.toNat) 1) (b := 2) ⟨by omega, by omega⟩ ⟨by decide, by decide⟩ fun c32 => ?_) (b_eq (a := S (30 + 3 * e.toNat) 1) (b := 2) ⟨by omega, by omega⟩ ⟨by decide, by decide⟩ fun c32 => absurd c32 (by omega))
              refine i_96_150 (x := 19) l0 ?_
              refine i_96_151 ?_
              refine i_96_152 (x := 1) l3 ?_
              have hobj := hR.k5 kq_19
              obtain ⟨w, hrun, hR⟩ := x_tsp (d := d + 6) (k := 1) (sg := 1) hR ⟨by omega, by omega⟩ (by omega) (by rw [a4]; exact hf.1) (by rw [a6]; exact hf.2.2.1) (by rw [a7]; exact hf.2.2.2.1) (by rw [a9]; exact hf.2.2.2.2.2.1) (by rw [a10]; exact hf.2.2.2.2.2.2)
              refine i_96_153 hobj (Nat.le_of_ble_eq_true rfl) hrun ?_
              refine i_96_156 ?_
              exfalso; omega
            · refine i_96_117 (x := 19) l0 ?_
              refine i_96_118 ?_
              refine i_96_119 (x := 1) l3 ?_
              have hobj := hR.k5 kq_19
              obtain ⟨w, hrun, hR⟩ := x_tsp (d := d + 6) (k := 2) (sg := 1) hR ⟨by omega, by omega⟩ (by omega) (by rw [a4]; exact hf.1) (by rw [a6]; exact hf.2.2.1) (by rw [a7]; exact hf.2.2.2.1) (by rw [a9]; exact hf.2.2.2.2.2.1) (by rw [a10]; exact hf.2.2.2.2.2.2)
              refine i_96_120 hobj (Nat.le_of_ble_eq_true rfl) hrun ?_
              refine i_96_123 ?_
              refine i_96_156 ?_
              exfalso; omega
          · refine i_96_93 (x := 19) l0 ?_
            refine i_96_94 ?_
            refine i_96_95 (fs2 := f5 (u1 (S1 19) 5 1)) (hR.k5 kq_19) rfl (Nat.le_of_ble_eq_true rfl) rfl (h7k kq_19 (by decide)) ?_
            refine xgen (P := cX w0 L Z (u2 S1 19 5 1) V1) (hR.p5 kq_19) (fun w hR => ?_)
            refine i_96_98 ?_
            refine i_96_156 ?_
            exact ⟨rfl, _, _, hR, aS_nan hA0⟩
        · try replace ht_e := ht_e.resolve_left (by omega)
          try replace hx_e := hx_e.resolve_left (by omega)
          refine i_96_33 (x := 19) l0 ?_
          refine i_96_34 (v := Value.ref 24) (hR.k5 kq_19) rfl ?_
          refine i_96_37 (x := 30 + 3 * a.toNat) l1 ?_
          refine i_96_38 (v := Value.ref ((30 + 3 * a.toNat) + 1)) (hR.k2 (kd_reg (r := a.toNat) (by omega))) rfl ?_
          refine i_96_41 (x := 30 + 3 * e.toNat) l2 ?_
          refine i_96_42 (v := Value.ref ((30 + 3 * e.toNat) + 1)) (hR.k2 (kd_reg (r := e.toNat) (by omega))) rfl ?_
          obtain ⟨fs, hobj⟩ := hR.nat kq_24
          obtain ⟨w, hrun, hR⟩ := X_prod (d := d + 3) (h := 24) (ha := (30 + 3 * a.toNat) + 1) (hb := (30 + 3 * e.toNat) + 1) (u := V1 ((30 + 3 * a.toNat) + 1)) (v2 := V1 ((30 + 3 * e.toNat) + 1)) hR kq_24 (kd_rem (r := a.toNat) (by omega)) (kd_rem (r := e.toNat) (by omega)) (by omega) (by omega) (rfl) (rfl) (by omega)
          refine i_96_45 hobj (Nat.le_of_ble_eq_true rfl) hrun ?_
          refine i_96_48 (x := 19) l0 ?_
          refine i_96_49 (x := 19) l0 ?_
          refine i_96_50 (v := Value.ref 24) (hR.k5 kq_19) rfl ?_
          refine i_96_53 (x := 30 + 3 * a.toNat) l1 ?_
          refine i_96_54 (v := Value.int (Int32.ofInt (S1 (30 + 3 * a.toNat) 3))) (hR.k2 (kd_reg (r := a.toNat) (by omega))) rfl ?_
          rw [fa3]
          refine i_96_57 (x := 30 + 3 * a.toNat) l1 ?_
          refine i_96_58 (v := Value.int (Int32.ofInt (S1 (30 + 3 * a.toNat) 0))) (hR.k2 (kd_reg (r := a.toNat) (by omega))) rfl ?_
          rw [fa0]
          refine i_96_61 (c := Int32.ofInt ((S (30 + 3 * a.toNat) 3) - (S (30 + 3 * a.toNat) 0))) (o_sub (S (30 + 3 * a.toNat) 3) (S (30 + 3 * a.toNat) 0)) ?_
          refine i_96_62 (x := 30 + 3 * e.toNat) l2 ?_
          refine i_96_63 (v := Value.int (Int32.ofInt (S1 (30 + 3 * e.toNat) 3))) (hR.k2 (kd_reg (r := e.toNat) (by omega))) rfl ?_
          rw [fe3]
          refine i_96_66 (c := Int32.ofInt (((S (30 + 3 * a.toNat) 3) - (S (30 + 3 * a.toNat) 0)) + (S (30 + 3 * e.toNat) 3))) (o_add ((S (30 + 3 * a.toNat) 3) - (S (30 + 3 * a.toNat) 0)) (S (30 + 3 * e.toNat) 3)) ?_
          refine i_96_67 (x := 30 + 3 * e.toNat) l2 ?_
          refine i_96_68 (v := Value.int (Int32.ofInt (S1 (30 + 3 * e.toNat) 0))) (hR.k2 (kd_reg (r := e.toNat) (by omega))) rfl ?_
          rw [fe0]
          refine i_96_71 (c := Int32.ofInt ((((S (30 + 3 * a.toNat) 3) - (S (30 + 3 * a.toNat) 0)) + (S (30 + 3 * e.toNat) 3)) - (S (30 + 3 * e.toNat) 0))) (o_sub (((S (30 + 3 * a.toNat) 3) - (S (30 + 3 * a.toNat) 0)) + (S (30 + 3 * e.toNat) 3)) (S (30 + 3 * e.toNat) 0)) ?_
          refine i_96_72 (x := 1) l3 ?_
          have hobj := hR.k5 kq_19
          obtain ⟨w, hrun, V3, hR, t1, t2, t3⟩ := x_tm (d := d + 1) (h := 24) (sc := (((S (30 + 3 * a.toNat) 3) - (S (30 + 3 * a.toNat) 0)) + (S (30 + 3 * e.toNat) 3)) - (S (30 + 3 * e.toNat) 0)) (sg := 1) hR kq_24 (by decide) (by decide) (by omega) ⟨by omega, by omega⟩ (by rw [a3]; omega) (by rw [a8]; exact hf.2.2.2.2.1) (by rw [uv_n (by decide), a11]; omega) (by rw [uv_n (by decide), a12]; omega) (by rw [uv_s, fVa, fVe]; exact Nat.le_trans (xbl_prod _ _) (by omega))
          refine i_96_73 hobj (Nat.le_of_ble_eq_true rfl) hrun ?_
          refine i_96_76 ?_
          refine i_96_156 ?_
          exfalso; omega
  obtain ⟨o, w', h1, rfl, h2⟩ := (key (lv_args 0 [Value.ref 19, Value.ref (30 + 3 * a.toNat), Value.ref (30 + 3 * e.toNat)]) rfl rfl rfl).run
  exact ⟨w', h1, h2⟩
set_option maxHeartbeats 8000000 in
theorem a_prodV {a e : Int} (hR : cX w0 L Z S1 V1 w) (hA : aS S V S1 V1 nan inv pi mi b P N num pz nz) (hI : cI S V) (hf : (nan = 0 ∨ nan = 1) ∧ (inv = 0 ∨ inv = 1) ∧ (pi = 0 ∨ pi = 1) ∧ (mi = 0 ∨ mi = 1) ∧ (num = 0 ∨ num = 1) ∧ (pz = 0 ∨ pz = 1) ∧ (nz = 0 ∨ nz = 1)) (hbb : -100000 ≤ b ∧ b ≤ 100000) (hP : xbl P ≤ 400000) (hN : xbl N ≤ 400000) (ha : 0 ≤ a ∧ a ≤ 15) (hb2 : 0 ≤ e ∧ e ≤ 15) (hk : (S (30 + 3 * a.toNat) 1 = 1 ∧ S (30 + 3 * e.toNat) 1 = 2) ∨ (S (30 + 3 * a.toNat) 1 = 2 ∧ S (30 + 3 * e.toNat) 1 = 1)) : ∃ w', xRun (d + 7) 96 [Value.ref 19, Value.ref (30 + 3 * a.toNat), Value.ref (30 + 3 * e.toNat)] w (.inl none) w' ∧ ∃ S2 V2, cX w0 L Z S2 V2 w' ∧ aS S V S2 V2 nan 1 pi mi b P N num pz nz := by
  have key : ∀ lv, xld lv 0 = some (Value.ref 19) → xld lv 1 = some (Value.ref (30 + 3 * a.toNat)) → xld lv 2 = some (Value.ref (30 + 3 * e.toNat)) → xEv (d + 7) 96 0 lv [] w (fun o w' => o = .inl none ∧ ∃ S2 V2, cX w0 L Z S2 V2 w' ∧ aS S V S2 V2 nan 1 pi mi b P N num pz nz) := by
    intro lv l0 l1 l2
    have hA0 := hA
    obtain ⟨a1, a2, a3, a4, a5, a6, a7, a8, a9, a10, a11, a12⟩ := hA
    obtain ⟨hp_a, hk_a, hn_a, ht_a, hx_a, hz_a⟩ := hI.1 a.toNat (by omega)
    obtain ⟨hp_e, hk_e, hn_e, ht_e, hx_e, hz_e⟩ := hI.1 e.toNat (by omega)
    have fa0 : S1 (30 + 3 * a.toNat) 0 = S (30 + 3 * a.toNat) 0 := a1.1 _ _ (Or.inl (by omega))
    have fa1 : S1 (30 + 3 * a.toNat) 1 = S (30 + 3 * a.toNat) 1 := a1.1 _ _ (Or.inl (by omega))
    have fa2 : S1 (30 + 3 * a.toNat) 2 = S (30 + 3 * a.toNat) 2 := a1.1 _ _ (Or.inl (by omega))
    have fa3 : S1 (30 + 3 * a.toNat) 3 = S (30 + 3 * a.toNat) 3 := a1.1 _ _ (Or.inl (by omega))
    have fVa : V1 (30 + 3 * a.toNat + 1) = V (30 + 3 * a.toNat + 1) := a2 _ (by omega) (by omega)
    have fe0 : S1 (30 + 3 * e.toNat) 0 = S (30 + 3 * e.toNat) 0 := a1.1 _ _ (Or.inl (by omega))
    have fe1 : S1 (30 + 3 * e.toNat) 1 = S (30 + 3 * e.toNat) 1 := a1.1 _ _ (Or.inl (by omega))
    have fe2 : S1 (30 + 3 * e.toNat) 2 = S (30 + 3 * e.toNat) 2 := a1.1 _ _ (Or.inl (by omega))
    have fe3 : S1 (30 + 3 * e.toNat) 3 = S (30 + 3 * e.toNat) 3 := a1.1 _ _ (Or.inl (by omega))
    have fVe : V1 (30 + 3 * e.toNat + 1) = V (30 + 3 * e.toNat + 1) := a2 _ (by omega) (by omega)
    refine i_96_0 (x := 30 + 3 * a.toNat) l1 ?_
    refine i_96_1 (v := Value.int (Int32.ofInt (S1 (30 + 3 * a.toNat) 2))) (hR.k2 (kd_reg (r := a.toNat) (by omega))) rfl ?_
    rw [fa2]
    refine i_96_4 (x := 30 + 3 * e.toNat) l2 ?_
    refine i_96_5 (v := Value.int (Int32.ofInt (S1 (30 + 3 * e.toNat) 2))) (hR.k2 (kd_reg (r := e.toNat) (by omega))) rfl ?_
    rw [fe2]
    refine i_96_8 (b_eq (a := S (30 + 3 * a.toNat) 2) (b := S (30 + 3 * e.toNat) 2) ⟨by omega, by omega⟩ ⟨by omega, by omega⟩ fun c0 => ?_) (b_ne (a := S (30 + 3 * a.toNat) 2) (b := S (30 + 3 * e.toNat) 2) ⟨by omega, by omega⟩ ⟨by omega, by omega⟩ fun c0 => ?_)
    · refine i_96_15 ?_
      refine i_96_16 rfl ?_
      refine lgen1 (i := 3) (v := Value.int 0) (fun lv lg ls => ?_)
      replace l0 := lg 0 _ rfl rfl l0
      replace l1 := lg 1 _ rfl rfl l1
      replace l2 := lg 2 _ rfl rfl l2
      have l3 := ls
      refine i_96_17 (x := 30 + 3 * a.toNat) l1 ?_
      refine i_96_18 (v := Value.int (Int32.ofInt (S1 (30 + 3 * a.toNat) 1))) (hR.k2 (kd_reg (r := a.toNat) (by omega))) rfl ?_
      rw [fa1]
      refine i_96_21 ?_
      refine i_96_22 (b_ne (a := S (30 + 3 * a.toNat) 1) (b := 3) ⟨by omega, by omega⟩ ⟨by decide, by decide⟩ fun c1 => ?_) (b_eq (a := S (30 + 3 * a.toNat) 1) (b := 3) ⟨by omega, by omega⟩ ⟨by decide, by decide⟩ fun c1 => ?_)
      · refine i_96_79 (x := 30 + 3 * a.toNat) l1 ?_
        refine i_96_80 (v := Value.int (Int32.ofInt (S1 (30 + 3 * a.toNat) 1))) (hR.k2 (kd_reg (r := a.toNat) (by omega))) rfl ?_
        rw [fa1]
        refine i_96_83 (z_eq (a := S (30 + 3 * a.toNat) 1) ⟨by omega, by omega⟩ fun c2 => ?_) (z_ne (a := S (30 + 3 * a.toNat) 1) ⟨by omega, by omega⟩ fun c2 => ?_)
        · refine i_96_93 (x := 19) l0 ?_
          refine i_96_94 ?_
          refine i_96_95 (fs2 := f5 (u1 (S1 19) 5 1)) (hR.k5 kq_19) rfl (Nat.le_of_ble_eq_true rfl) rfl (h7k kq_19 (by decide)) ?_
          refine xgen (P := cX w0 L Z (u2 S1 19 5 1) V1) (hR.p5 kq_19) (fun w hR => ?_)
          refine i_96_98 ?_
          refine i_96_156 ?_
          exfalso; omega
        · refine i_96_86 (x := 30 + 3 * e.toNat) l2 ?_
          refine i_96_87 (v := Value.int (Int32.ofInt (S1 (30 + 3 * e.toNat) 1))) (hR.k2 (kd_reg (r := e.toNat) (by omega))) rfl ?_
          rw [fe1]
          refine i_96_90 (z_ne (a := S (30 + 3 * e.toNat) 1) ⟨by omega, by omega⟩ fun c3 => ?_) (z_eq (a := S (30 + 3 * e.toNat) 1) ⟨by omega, by omega⟩ fun c3 => ?_)
          · refine i_96_101 (x := 30 + 3 * a.toNat) l1 ?_
            refine i_96_102 (v := Value.int (Int32.ofInt (S1 (30 + 3 * a.toNat) 1))) (hR.k2 (kd_reg (r := a.toNat) (by omega))) rfl ?_
            rw [fa1]
            refine i_96_105 ?_
            refine i_96_106 (b_eq (a := S (30 + 3 * a.toNat) 1) (b := 1) ⟨by omega, by omega⟩ ⟨by decide, by decide⟩ fun c4 => ?_) (b_ne (a := S (30 + 3 * a.toNat) 1) (b := 1) ⟨by omega, by omega⟩ ⟨by decide, by decide⟩ fun c4 => ?_)
            · refine i_96_126 (x := 30 + 3 * a.toNat) l1 ?_
              refine i_96_127 (v := Value.int (Int32.ofInt (S1 (30 + 3 * a.toNat) 1))) (hR.k2 (kd_reg (r := a.toNat) (by omega))) rfl ?_
              rw [fa1]
              refine i_96_130 ?_
              refine i_96_131 (b_eq (a := S (30 + 3 * a.toNat) 1) (b := 2) ⟨by omega, by omega⟩ ⟨by decide, by decide⟩ fun c5 => absurd c5 (by omega)) (b_ne (a := S (30 + 3 * a.toNat) 1) (b := 2) ⟨by omega, by omega⟩ ⟨by decide, by decide⟩ fun c5 => ?_)
              refine i_96_134 (x := 30 + 3 * e.toNat) l2 ?_
              refine i_96_135 (v := Value.int (Int32.ofInt (S1 (30 + 3 * e.toNat) 1))) (hR.k2 (kd_reg (r := e.toNat) (by omega))) rfl ?_
              rw [fe1]
              refine i_96_138 ?_
              refine i_96_139 (b_ne (a := S (30 + 3 * e.toNat) 1) (b := 2) ⟨by omega, by omega⟩ ⟨by decide, by decide⟩ fun c6 => ?_) (b_eq (a := S (30 + 3 * e.toNat) 1) (b := 2) ⟨by omega, by omega⟩ ⟨by decide, by decide⟩ fun c6 => ?_)
              · refine i_96_150 (x := 19) l0 ?_
                refine i_96_151 ?_
                refine i_96_152 (x := 0) l3 ?_
                have hobj := hR.k5 kq_19
                obtain ⟨w, hrun, hR⟩ := x_tsp (d := d + 6) (k := 1) (sg := 0) hR ⟨by omega, by omega⟩ (by omega) (by rw [a4]; exact hf.1) (by rw [a6]; exact hf.2.2.1) (by rw [a7]; exact hf.2.2.2.1) (by rw [a9]; exact hf.2.2.2.2.2.1) (by rw [a10]; exact hf.2.2.2.2.2.2)
                refine i_96_153 hobj (Nat.le_of_ble_eq_true rfl) hrun ?_
                refine i_96_156 ?_
                exfalso; omega
              · refine i_96_142 (x := 19) l0 ?_
                refine i_96_143 ?_
                refine i_96_144 (fs2 := f5 (u1 (S1 19) 6 1)) (hR.k5 kq_19) rfl (Nat.le_of_ble_eq_true rfl) rfl (h7k kq_19 (by decide)) ?_
                refine xgen (P := cX w0 L Z (u2 S1 19 6 1) V1) (hR.p5 kq_19) (fun w hR => ?_)
                refine i_96_147 ?_
                refine i_96_156 ?_
                exact ⟨rfl, _, _, hR, aS_inv hA0⟩
            · refine i_96_109 (x := 30 + 3 * e.toNat) l2 ?_
              refine i_96_110 (v := Value.int (Int32.ofInt (S1 (30 + 3 * e.toNat) 1))) (hR.k2 (kd_reg (r := e.toNat) (by omega))) rfl ?_
              rw [fe1]
              refine i_96_113 ?_
              refine i_96_114 (b_eq (a := S (30 + 3 * e.toNat) 1) (b := 1) ⟨by omega, by omega⟩ ⟨by decide, by decide⟩ fun c7 => ?_) (b_ne (a := S (30 + 3 * e.toNat) 1) (b := 1) ⟨by omega, by omega⟩ ⟨by decide, by decide⟩ fun c7 => ?_)
              · refine i_96_126 (x := 30 + 3 * a.toNat) l1 ?_
                refine i_96_127 (v := Value.int (Int32.ofInt (S1 (30 + 3 * a.toNat) 1))) (hR.k2 (kd_reg (r := a.toNat) (by omega))) rfl ?_
                rw [fa1]
                refine i_96_130 ?_
                refine i_96_131 (b_eq (a := S (30 + 3 * a.toNat) 1) (b := 2) ⟨by omega, by omega⟩ ⟨by decide, by decide⟩ fun c8 => ?_) (b_ne (a := S (30 + 3 * a.toNat) 1) (b := 2) ⟨by omega, by omega⟩ ⟨by decide, by decide⟩ fun c8 => ?_)
                · refine i_96_142 (x := 19) l0 ?_
                  refine i_96_143 ?_
                  refine i_96_144 (fs2 := f5 (u1 (S1 19) 6 1)) (hR.k5 kq_19) rfl (Nat.le_of_ble_eq_true rfl) rfl (h7k kq_19 (by decide)) ?_
                  refine xgen (P := cX w0 L Z (u2 S1 19 6 1) V1) (hR.p5 kq_19) (fun w hR => ?_)
                  refine i_96_147 ?_
                  refine i_96_156 ?_
                  exact ⟨rfl, _, _, hR, aS_inv hA0⟩
                · refine i_96_134 (x := 30 + 3 * e.toNat) l2 ?_
                  refine i_96_135 (v := Value.int (Int32.ofInt (S1 (30 + 3 * e.toNat) 1))) (hR.k2 (kd_reg (r := e.toNat) (by omega))) rfl ?_
                  rw [fe1]
                  refine i_96_138 ?_
                  refine i_96_139 (b_ne (a := S (30 + 3 * e.toNat) 1) (b := 2) ⟨by omega, by omega⟩ ⟨by decide, by decide⟩ fun c9 => ?_) (b_eq (a := S (30 + 3 * e.toNat) 1) (b := 2) ⟨by omega, by omega⟩ ⟨by decide, by decide⟩ fun c9 => absurd c9 (by omega))
                  refine i_96_150 (x := 19) l0 ?_
                  refine i_96_151 ?_
                  refine i_96_152 (x := 0) l3 ?_
                  have hobj := hR.k5 kq_19
                  obtain ⟨w, hrun, hR⟩ := x_tsp (d := d + 6) (k := 1) (sg := 0) hR ⟨by omega, by omega⟩ (by omega) (by rw [a4]; exact hf.1) (by rw [a6]; exact hf.2.2.1) (by rw [a7]; exact hf.2.2.2.1) (by rw [a9]; exact hf.2.2.2.2.2.1) (by rw [a10]; exact hf.2.2.2.2.2.2)
                  refine i_96_153 hobj (Nat.le_of_ble_eq_true rfl) hrun ?_
                  refine i_96_156 ?_
                  exfalso; omega
              · refine i_96_117 (x := 19) l0 ?_
                refine i_96_118 ?_
                refine i_96_119 (x := 0) l3 ?_
                have hobj := hR.k5 kq_19
                obtain ⟨w, hrun, hR⟩ := x_tsp (d := d + 6) (k := 2) (sg := 0) hR ⟨by omega, by omega⟩ (by omega) (by rw [a4]; exact hf.1) (by rw [a6]; exact hf.2.2.1) (by rw [a7]; exact hf.2.2.2.1) (by rw [a9]; exact hf.2.2.2.2.2.1) (by rw [a10]; exact hf.2.2.2.2.2.2)
                refine i_96_120 hobj (Nat.le_of_ble_eq_true rfl) hrun ?_
                refine i_96_123 ?_
                refine i_96_156 ?_
                exfalso; omega
          · refine i_96_93 (x := 19) l0 ?_
            refine i_96_94 ?_
            refine i_96_95 (fs2 := f5 (u1 (S1 19) 5 1)) (hR.k5 kq_19) rfl (Nat.le_of_ble_eq_true rfl) rfl (h7k kq_19 (by decide)) ?_
            refine xgen (P := cX w0 L Z (u2 S1 19 5 1) V1) (hR.p5 kq_19) (fun w hR => ?_)
            refine i_96_98 ?_
            refine i_96_156 ?_
            exfalso; omega
      · try replace ht_a := ht_a.resolve_left (by omega)
        try replace hx_a := hx_a.resolve_left (by omega)
        refine i_96_25 (x := 30 + 3 * e.toNat) l2 ?_
        refine i_96_26 (v := Value.int (Int32.ofInt (S1 (30 + 3 * e.toNat) 1))) (hR.k2 (kd_reg (r := e.toNat) (by omega))) rfl ?_
        rw [fe1]
        refine i_96_29 ?_
        refine i_96_30 (b_ne (a := S (30 + 3 * e.toNat) 1) (b := 3) ⟨by omega, by omega⟩ ⟨by decide, by decide⟩ fun c10 => ?_) (b_eq (a := S (30 + 3 * e.toNat) 1) (b := 3) ⟨by omega, by omega⟩ ⟨by decide, by decide⟩ fun c10 => ?_)
        · refine i_96_79 (x := 30 + 3 * a.toNat) l1 ?_
          refine i_96_80 (v := Value.int (Int32.ofInt (S1 (30 + 3 * a.toNat) 1))) (hR.k2 (kd_reg (r := a.toNat) (by omega))) rfl ?_
          rw [fa1]
          refine i_96_83 (z_eq (a := S (30 + 3 * a.toNat) 1) ⟨by omega, by omega⟩ fun c11 => absurd c11 (by omega)) (z_ne (a := S (30 + 3 * a.toNat) 1) ⟨by omega, by omega⟩ fun c11 => ?_)
          refine i_96_86 (x := 30 + 3 * e.toNat) l2 ?_
          refine i_96_87 (v := Value.int (Int32.ofInt (S1 (30 + 3 * e.toNat) 1))) (hR.k2 (kd_reg (r := e.toNat) (by omega))) rfl ?_
          rw [fe1]
          refine i_96_90 (z_ne (a := S (30 + 3 * e.toNat) 1) ⟨by omega, by omega⟩ fun c12 => ?_) (z_eq (a := S (30 + 3 * e.toNat) 1) ⟨by omega, by omega⟩ fun c12 => ?_)
          · refine i_96_101 (x := 30 + 3 * a.toNat) l1 ?_
            refine i_96_102 (v := Value.int (Int32.ofInt (S1 (30 + 3 * a.toNat) 1))) (hR.k2 (kd_reg (r := a.toNat) (by omega))) rfl ?_
            rw [fa1]
            refine i_96_105 ?_
            refine i_96_106 (b_eq (a := S (30 + 3 * a.toNat) 1) (b := 1) ⟨by omega, by omega⟩ ⟨by decide, by decide⟩ fun c13 => absurd c13 (by omega)) (b_ne (a := S (30 + 3 * a.toNat) 1) (b := 1) ⟨by omega, by omega⟩ ⟨by decide, by decide⟩ fun c13 => ?_)
            refine i_96_109 (x := 30 + 3 * e.toNat) l2 ?_
            refine i_96_110 (v := Value.int (Int32.ofInt (S1 (30 + 3 * e.toNat) 1))) (hR.k2 (kd_reg (r := e.toNat) (by omega))) rfl ?_
            rw [fe1]
            refine i_96_113 ?_
            refine i_96_114 (b_eq (a := S (30 + 3 * e.toNat) 1) (b := 1) ⟨by omega, by omega⟩ ⟨by decide, by decide⟩ fun c14 => ?_) (b_ne (a := S (30 + 3 * e.toNat) 1) (b := 1) ⟨by omega, by omega⟩ ⟨by decide, by decide⟩ fun c14 => ?_)
            · refine i_96_126 (x := 30 + 3 * a.toNat) l1 ?_
              refine i_96_127 (v := Value.int (Int32.ofInt (S1 (30 + 3 * a.toNat) 1))) (hR.k2 (kd_reg (r := a.toNat) (by omega))) rfl ?_
              rw [fa1]
              refine i_96_130 ?_
              refine i_96_131 (b_eq (a := S (30 + 3 * a.toNat) 1) (b := 2) ⟨by omega, by omega⟩ ⟨by decide, by decide⟩ fun c15 => absurd c15 (by omega)) (b_ne (a := S (30 + 3 * a.toNat) 1) (b := 2) ⟨by omega, by omega⟩ ⟨by decide, by decide⟩ fun c15 => ?_)
              refine i_96_134 (x := 30 + 3 * e.toNat) l2 ?_
              refine i_96_135 (v := Value.int (Int32.ofInt (S1 (30 + 3 * e.toNat) 1))) (hR.k2 (kd_reg (r := e.toNat) (by omega))) rfl ?_
              rw [fe1]
              refine i_96_138 ?_
              refine i_96_139 (b_ne (a := S (30 + 3 * e.toNat) 1) (b := 2) ⟨by omega, by omega⟩ ⟨by decide, by decide⟩ fun c16 => ?_) (b_eq (a := S (30 + 3 * e.toNat) 1) (b := 2) ⟨by omega, by omega⟩ ⟨by decide, by decide⟩ fun c16 => absurd c16 (by omega))
              refine i_96_150 (x := 19) l0 ?_
              refine i_96_151 ?_
              refine i_96_152 (x := 0) l3 ?_
              have hobj := hR.k5 kq_19
              obtain ⟨w, hrun, hR⟩ := x_tsp (d := d + 6) (k := 1) (sg := 0) hR ⟨by omega, by omega⟩ (by omega) (by rw [a4]; exact hf.1) (by rw [a6]; exact hf.2.2.1) (by rw [a7]; exact hf.2.2.2.1) (by rw [a9]; exact hf.2.2.2.2.2.1) (by rw [a10]; exact hf.2.2.2.2.2.2)
              refine i_96_153 hobj (Nat.le_of_ble_eq_true rfl) hrun ?_
              refine i_96_156 ?_
              exfalso; omega
            · refine i_96_117 (x := 19) l0 ?_
              refine i_96_118 ?_
              refine i_96_119 (x := 0) l3 ?_
              have hobj := hR.k5 kq_19
              obtain ⟨w, hrun, hR⟩ := x_tsp (d := d + 6) (k := 2) (sg := 0) hR ⟨by omega, by omega⟩ (by omega) (by rw [a4]; exact hf.1) (by rw [a6]; exact hf.2.2.1) (by rw [a7]; exact hf.2.2.2.1) (by rw [a9]; exact hf.2.2.2.2.2.1) (by rw [a10]; exact hf.2.2.2.2.2.2)
              refine i_96_120 hobj (Nat.le_of_ble_eq_true rfl) hrun ?_
              refine i_96_123 ?_
              refine i_96_156 ?_
              exfalso; omega
          · refine i_96_93 (x := 19) l0 ?_
            refine i_96_94 ?_
            refine i_96_95 (fs2 := f5 (u1 (S1 19) 5 1)) (hR.k5 kq_19) rfl (Nat.le_of_ble_eq_true rfl) rfl (h7k kq_19 (by decide)) ?_
            refine xgen (P := cX w0 L Z (u2 S1 19 5 1) V1) (hR.p5 kq_19) (fun w hR => ?_)
            refine i_96_98 ?_
            refine i_96_156 ?_
            exfalso; omega
        · try replace ht_e := ht_e.resolve_left (by omega)
          try replace hx_e := hx_e.resolve_left (by omega)
          refine i_96_33 (x := 19) l0 ?_
          refine i_96_34 (v := Value.ref 24) (hR.k5 kq_19) rfl ?_
          refine i_96_37 (x := 30 + 3 * a.toNat) l1 ?_
          refine i_96_38 (v := Value.ref ((30 + 3 * a.toNat) + 1)) (hR.k2 (kd_reg (r := a.toNat) (by omega))) rfl ?_
          refine i_96_41 (x := 30 + 3 * e.toNat) l2 ?_
          refine i_96_42 (v := Value.ref ((30 + 3 * e.toNat) + 1)) (hR.k2 (kd_reg (r := e.toNat) (by omega))) rfl ?_
          obtain ⟨fs, hobj⟩ := hR.nat kq_24
          obtain ⟨w, hrun, hR⟩ := X_prod (d := d + 3) (h := 24) (ha := (30 + 3 * a.toNat) + 1) (hb := (30 + 3 * e.toNat) + 1) (u := V1 ((30 + 3 * a.toNat) + 1)) (v2 := V1 ((30 + 3 * e.toNat) + 1)) hR kq_24 (kd_rem (r := a.toNat) (by omega)) (kd_rem (r := e.toNat) (by omega)) (by omega) (by omega) (rfl) (rfl) (by omega)
          refine i_96_45 hobj (Nat.le_of_ble_eq_true rfl) hrun ?_
          refine i_96_48 (x := 19) l0 ?_
          refine i_96_49 (x := 19) l0 ?_
          refine i_96_50 (v := Value.ref 24) (hR.k5 kq_19) rfl ?_
          refine i_96_53 (x := 30 + 3 * a.toNat) l1 ?_
          refine i_96_54 (v := Value.int (Int32.ofInt (S1 (30 + 3 * a.toNat) 3))) (hR.k2 (kd_reg (r := a.toNat) (by omega))) rfl ?_
          rw [fa3]
          refine i_96_57 (x := 30 + 3 * a.toNat) l1 ?_
          refine i_96_58 (v := Value.int (Int32.ofInt (S1 (30 + 3 * a.toNat) 0))) (hR.k2 (kd_reg (r := a.toNat) (by omega))) rfl ?_
          rw [fa0]
          refine i_96_61 (c := Int32.ofInt ((S (30 + 3 * a.toNat) 3) - (S (30 + 3 * a.toNat) 0))) (o_sub (S (30 + 3 * a.toNat) 3) (S (30 + 3 * a.toNat) 0)) ?_
          refine i_96_62 (x := 30 + 3 * e.toNat) l2 ?_
          refine i_96_63 (v := Value.int (Int32.ofInt (S1 (30 + 3 * e.toNat) 3))) (hR.k2 (kd_reg (r := e.toNat) (by omega))) rfl ?_
          rw [fe3]
          refine i_96_66 (c := Int32.ofInt (((S (30 + 3 * a.toNat) 3) - (S (30 + 3 * a.toNat) 0)) + (S (30 + 3 * e.toNat) 3))) (o_add ((S (30 + 3 * a.toNat) 3) - (S (30 + 3 * a.toNat) 0)) (S (30 + 3 * e.toNat) 3)) ?_
          refine i_96_67 (x := 30 + 3 * e.toNat) l2 ?_
          refine i_96_68 (v := Value.int (Int32.ofInt (S1 (30 + 3 * e.toNat) 0))) (hR.k2 (kd_reg (r := e.toNat) (by omega))) rfl ?_
          rw [fe0]
          refine i_96_71 (c := Int32.ofInt ((((S (30 + 3 * a.toNat) 3) - (S (30 + 3 * a.toNat) 0)) + (S (30 + 3 * e.toNat) 3)) - (S (30 + 3 * e.toNat) 0))) (o_sub (((S (30 + 3 * a.toNat) 3) - (S (30 + 3 * a.toNat) 0)) + (S (30 + 3 * e.toNat) 3)) (S (30 + 3 * e.toNat) 0)) ?_
          refine i_96_72 (x := 0) l3 ?_
          have hobj := hR.k5 kq_19
          obtain ⟨w, hrun, V3, hR, t1, t2, t3⟩ := x_tm (d := d + 1) (h := 24) (sc := (((S (30 + 3 * a.toNat) 3) - (S (30 + 3 * a.toNat) 0)) + (S (30 + 3 * e.toNat) 3)) - (S (30 + 3 * e.toNat) 0)) (sg := 0) hR kq_24 (by decide) (by decide) (by omega) ⟨by omega, by omega⟩ (by rw [a3]; omega) (by rw [a8]; exact hf.2.2.2.2.1) (by rw [uv_n (by decide), a11]; omega) (by rw [uv_n (by decide), a12]; omega) (by rw [uv_s, fVa, fVe]; exact Nat.le_trans (xbl_prod _ _) (by omega))
          refine i_96_73 hobj (Nat.le_of_ble_eq_true rfl) hrun ?_
          refine i_96_76 ?_
          refine i_96_156 ?_
          exfalso; omega
    · refine i_96_11 ?_
      refine i_96_12 ?_
      refine i_96_16 rfl ?_
      refine lgen1 (i := 3) (v := Value.int 1) (fun lv lg ls => ?_)
      replace l0 := lg 0 _ rfl rfl l0
      replace l1 := lg 1 _ rfl rfl l1
      replace l2 := lg 2 _ rfl rfl l2
      have l3 := ls
      refine i_96_17 (x := 30 + 3 * a.toNat) l1 ?_
      refine i_96_18 (v := Value.int (Int32.ofInt (S1 (30 + 3 * a.toNat) 1))) (hR.k2 (kd_reg (r := a.toNat) (by omega))) rfl ?_
      rw [fa1]
      refine i_96_21 ?_
      refine i_96_22 (b_ne (a := S (30 + 3 * a.toNat) 1) (b := 3) ⟨by omega, by omega⟩ ⟨by decide, by decide⟩ fun c17 => ?_) (b_eq (a := S (30 + 3 * a.toNat) 1) (b := 3) ⟨by omega, by omega⟩ ⟨by decide, by decide⟩ fun c17 => ?_)
      · refine i_96_79 (x := 30 + 3 * a.toNat) l1 ?_
        refine i_96_80 (v := Value.int (Int32.ofInt (S1 (30 + 3 * a.toNat) 1))) (hR.k2 (kd_reg (r := a.toNat) (by omega))) rfl ?_
        rw [fa1]
        refine i_96_83 (z_eq (a := S (30 + 3 * a.toNat) 1) ⟨by omega, by omega⟩ fun c18 => ?_) (z_ne (a := S (30 + 3 * a.toNat) 1) ⟨by omega, by omega⟩ fun c18 => ?_)
        · refine i_96_93 (x := 19) l0 ?_
          refine i_96_94 ?_
          refine i_96_95 (fs2 := f5 (u1 (S1 19) 5 1)) (hR.k5 kq_19) rfl (Nat.le_of_ble_eq_true rfl) rfl (h7k kq_19 (by decide)) ?_
          refine xgen (P := cX w0 L Z (u2 S1 19 5 1) V1) (hR.p5 kq_19) (fun w hR => ?_)
          refine i_96_98 ?_
          refine i_96_156 ?_
          exfalso; omega
        · refine i_96_86 (x := 30 + 3 * e.toNat) l2 ?_
          refine i_96_87 (v := Value.int (Int32.ofInt (S1 (30 + 3 * e.toNat) 1))) (hR.k2 (kd_reg (r := e.toNat) (by omega))) rfl ?_
          rw [fe1]
          refine i_96_90 (z_ne (a := S (30 + 3 * e.toNat) 1) ⟨by omega, by omega⟩ fun c19 => ?_) (z_eq (a := S (30 + 3 * e.toNat) 1) ⟨by omega, by omega⟩ fun c19 => ?_)
          · refine i_96_101 (x := 30 + 3 * a.toNat) l1 ?_
            refine i_96_102 (v := Value.int (Int32.ofInt (S1 (30 + 3 * a.toNat) 1))) (hR.k2 (kd_reg (r := a.toNat) (by omega))) rfl ?_
            rw [fa1]
            refine i_96_105 ?_
            refine i_96_106 (b_eq (a := S (30 + 3 * a.toNat) 1) (b := 1) ⟨by omega, by omega⟩ ⟨by decide, by decide⟩ fun c20 => ?_) (b_ne (a := S (30 + 3 * a.toNat) 1) (b := 1) ⟨by omega, by omega⟩ ⟨by decide, by decide⟩ fun c20 => ?_)
            · refine i_96_126 (x := 30 + 3 * a.toNat) l1 ?_
              refine i_96_127 (v := Value.int (Int32.ofInt (S1 (30 + 3 * a.toNat) 1))) (hR.k2 (kd_reg (r := a.toNat) (by omega))) rfl ?_
              rw [fa1]
              refine i_96_130 ?_
              refine i_96_131 (b_eq (a := S (30 + 3 * a.toNat) 1) (b := 2) ⟨by omega, by omega⟩ ⟨by decide, by decide⟩ fun c21 => absurd c21 (by omega)) (b_ne (a := S (30 + 3 * a.toNat) 1) (b := 2) ⟨by omega, by omega⟩ ⟨by decide, by decide⟩ fun c21 => ?_)
              refine i_96_134 (x := 30 + 3 * e.toNat) l2 ?_
              refine i_96_135 (v := Value.int (Int32.ofInt (S1 (30 + 3 * e.toNat) 1))) (hR.k2 (kd_reg (r := e.toNat) (by omega))) rfl ?_
              rw [fe1]
              refine i_96_138 ?_
              refine i_96_139 (b_ne (a := S (30 + 3 * e.toNat) 1) (b := 2) ⟨by omega, by omega⟩ ⟨by decide, by decide⟩ fun c22 => ?_) (b_eq (a := S (30 + 3 * e.toNat) 1) (b := 2) ⟨by omega, by omega⟩ ⟨by decide, by decide⟩ fun c22 => ?_)
              · refine i_96_150 (x := 19) l0 ?_
                refine i_96_151 ?_
                refine i_96_152 (x := 1) l3 ?_
                have hobj := hR.k5 kq_19
                obtain ⟨w, hrun, hR⟩ := x_tsp (d := d + 6) (k := 1) (sg := 1) hR ⟨by omega, by omega⟩ (by omega) (by rw [a4]; exact hf.1) (by rw [a6]; exact hf.2.2.1) (by rw [a7]; exact hf.2.2.2.1) (by rw [a9]; exact hf.2.2.2.2.2.1) (by rw [a10]; exact hf.2.2.2.2.2.2)
                refine i_96_153 hobj (Nat.le_of_ble_eq_true rfl) hrun ?_
                refine i_96_156 ?_
                exfalso; omega
              · refine i_96_142 (x := 19) l0 ?_
                refine i_96_143 ?_
                refine i_96_144 (fs2 := f5 (u1 (S1 19) 6 1)) (hR.k5 kq_19) rfl (Nat.le_of_ble_eq_true rfl) rfl (h7k kq_19 (by decide)) ?_
                refine xgen (P := cX w0 L Z (u2 S1 19 6 1) V1) (hR.p5 kq_19) (fun w hR => ?_)
                refine i_96_147 ?_
                refine i_96_156 ?_
                exact ⟨rfl, _, _, hR, aS_inv hA0⟩
            · refine i_96_109 (x := 30 + 3 * e.toNat) l2 ?_
              refine i_96_110 (v := Value.int (Int32.ofInt (S1 (30 + 3 * e.toNat) 1))) (hR.k2 (kd_reg (r := e.toNat) (by omega))) rfl ?_
              rw [fe1]
              refine i_96_113 ?_
              refine i_96_114 (b_eq (a := S (30 + 3 * e.toNat) 1) (b := 1) ⟨by omega, by omega⟩ ⟨by decide, by decide⟩ fun c23 => ?_) (b_ne (a := S (30 + 3 * e.toNat) 1) (b := 1) ⟨by omega, by omega⟩ ⟨by decide, by decide⟩ fun c23 => ?_)
              · refine i_96_126 (x := 30 + 3 * a.toNat) l1 ?_
                refine i_96_127 (v := Value.int (Int32.ofInt (S1 (30 + 3 * a.toNat) 1))) (hR.k2 (kd_reg (r := a.toNat) (by omega))) rfl ?_
                rw [fa1]
                refine i_96_130 ?_
                refine i_96_131 (b_eq (a := S (30 + 3 * a.toNat) 1) (b := 2) ⟨by omega, by omega⟩ ⟨by decide, by decide⟩ fun c24 => ?_) (b_ne (a := S (30 + 3 * a.toNat) 1) (b := 2) ⟨by omega, by omega⟩ ⟨by decide, by decide⟩ fun c24 => ?_)
                · refine i_96_142 (x := 19) l0 ?_
                  refine i_96_143 ?_
                  refine i_96_144 (fs2 := f5 (u1 (S1 19) 6 1)) (hR.k5 kq_19) rfl (Nat.le_of_ble_eq_true rfl) rfl (h7k kq_19 (by decide)) ?_
                  refine xgen (P := cX w0 L Z (u2 S1 19 6 1) V1) (hR.p5 kq_19) (fun w hR => ?_)
                  refine i_96_147 ?_
                  refine i_96_156 ?_
                  exact ⟨rfl, _, _, hR, aS_inv hA0⟩
                · refine i_96_134 (x := 30 + 3 * e.toNat) l2 ?_
                  refine i_96_135 (v := Value.int (Int32.ofInt (S1 (30 + 3 * e.toNat) 1))) (hR.k2 (kd_reg (r := e.toNat) (by omega))) rfl ?_
                  rw [fe1]
                  refine i_96_138 ?_
                  refine i_96_139 (b_ne (a := S (30 + 3 * e.toNat) 1) (b := 2) ⟨by omega, by omega⟩ ⟨by decide, by decide⟩ fun c25 => ?_) (b_eq (a := S (30 + 3 * e.toNat) 1) (b := 2) ⟨by omega, by omega⟩ ⟨by decide, by decide⟩ fun c25 => absurd c25 (by omega))
                  refine i_96_150 (x := 19) l0 ?_
                  refine i_96_151 ?_
                  refine i_96_152 (x := 1) l3 ?_
                  have hobj := hR.k5 kq_19
                  obtain ⟨w, hrun, hR⟩ := x_tsp (d := d + 6) (k := 1) (sg := 1) hR ⟨by omega, by omega⟩ (by omega) (by rw [a4]; exact hf.1) (by rw [a6]; exact hf.2.2.1) (by rw [a7]; exact hf.2.2.2.1) (by rw [a9]; exact hf.2.2.2.2.2.1) (by rw [a10]; exact hf.2.2.2.2.2.2)
                  refine i_96_153 hobj (Nat.le_of_ble_eq_true rfl) hrun ?_
                  refine i_96_156 ?_
                  exfalso; omega
              · refine i_96_117 (x := 19) l0 ?_
                refine i_96_118 ?_
                refine i_96_119 (x := 1) l3 ?_
                have hobj := hR.k5 kq_19
                obtain ⟨w, hrun, hR⟩ := x_tsp (d := d + 6) (k := 2) (sg := 1) hR ⟨by omega, by omega⟩ (by omega) (by rw [a4]; exact hf.1) (by rw [a6]; exact hf.2.2.1) (by rw [a7]; exact hf.2.2.2.1) (by rw [a9]; exact hf.2.2.2.2.2.1) (by rw [a10]; exact hf.2.2.2.2.2.2)
                refine i_96_120 hobj (Nat.le_of_ble_eq_true rfl) hrun ?_
                refine i_96_123 ?_
                refine i_96_156 ?_
                exfalso; omega
          · refine i_96_93 (x := 19) l0 ?_
            refine i_96_94 ?_
            refine i_96_95 (fs2 := f5 (u1 (S1 19) 5 1)) (hR.k5 kq_19) rfl (Nat.le_of_ble_eq_true rfl) rfl (h7k kq_19 (by decide)) ?_
            refine xgen (P := cX w0 L Z (u2 S1 19 5 1) V1) (hR.p5 kq_19) (fun w hR => ?_)
            refine i_96_98 ?_
            refine i_96_156 ?_
            exfalso; omega
      · try replace ht_a := ht_a.resolve_left (by omega)
        try replace hx_a := hx_a.resolve_left (by omega)
        refine i_96_25 (x := 30 + 3 * e.toNat) l2 ?_
        refine i_96_26 (v := Value.int (Int32.ofInt (S1 (30 + 3 * e.toNat) 1))) (hR.k2 (kd_reg (r := e.toNat) (by omega))) rfl ?_
        rw [fe1]
        refine i_96_29 ?_
        refine i_96_30 (b_ne (a := S (30 + 3 * e.toNat) 1) (b := 3) ⟨by omega, by omega⟩ ⟨by decide, by decide⟩ fun c26 => ?_) (b_eq (a := S (30 + 3 * e.toNat) 1) (b := 3) ⟨by omega, by omega⟩ ⟨by decide, by decide⟩ fun c26 => ?_)
        · refine i_96_79 (x := 30 + 3 * a.toNat) l1 ?_
          refine i_96_80 (v := Value.int (Int32.ofInt (S1 (30 + 3 * a.toNat) 1))) (hR.k2 (kd_reg (r := a.toNat) (by omega))) rfl ?_
          rw [fa1]
          refine i_96_83 (z_eq (a := S (30 + 3 * a.toNat) 1) ⟨by omega, by omega⟩ fun c27 => absurd c27 (by omega)) (z_ne (a := S (30 + 3 * a.toNat) 1) ⟨by omega, by omega⟩ fun c27 => ?_)
          refine i_96_86 (x := 30 + 3 * e.toNat) l2 ?_
          refine i_96_87 (v := Value.int (Int32.ofInt (S1 (30 + 3 * e.toNat) 1))) (hR.k2 (kd_reg (r := e.toNat) (by omega))) rfl ?_
          rw [fe1]
          refine i_96_90 (z_ne (a := S (30 + 3 * e.toNat) 1) ⟨by omega, by omega⟩ fun c28 => ?_) (z_eq (a := S (30 + 3 * e.toNat) 1) ⟨by omega, by omega⟩ fun c28 => ?_)
          · refine i_96_101 (x := 30 + 3 * a.toNat) l1 ?_
            refine i_96_102 (v := Value.int (Int32.ofInt (S1 (30 + 3 * a.toNat) 1))) (hR.k2 (kd_reg (r := a.toNat) (by omega))) rfl ?_
            rw [fa1]
            refine i_96_105 ?_
            refine i_96_106 (b_eq (a := S (30 + 3 * a.toNat) 1) (b := 1) ⟨by omega, by omega⟩ ⟨by decide, by decide⟩ fun c29 => absurd c29 (by omega)) (b_ne (a := S (30 + 3 * a.toNat) 1) (b := 1) ⟨by omega, by omega⟩ ⟨by decide, by decide⟩ fun c29 => ?_)
            refine i_96_109 (x := 30 + 3 * e.toNat) l2 ?_
            refine i_96_110 (v := Value.int (Int32.ofInt (S1 (30 + 3 * e.toNat) 1))) (hR.k2 (kd_reg (r := e.toNat) (by omega))) rfl ?_
            rw [fe1]
            refine i_96_113 ?_
            refine i_96_114 (b_eq (a := S (30 + 3 * e.toNat) 1) (b := 1) ⟨by omega, by omega⟩ ⟨by decide, by decide⟩ fun c30 => ?_) (b_ne (a := S (30 + 3 * e.toNat) 1) (b := 1) ⟨by omega, by omega⟩ ⟨by decide, by decide⟩ fun c30 => ?_)
            · refine i_96_126 (x := 30 + 3 * a.toNat) l1 ?_
              refine i_96_127 (v := Value.int (Int32.ofInt (S1 (30 + 3 * a.toNat) 1))) (hR.k2 (kd_reg (r := a.toNat) (by omega))) rfl ?_
              rw [fa1]
              refine i_96_130 ?_
              refine i_96_131 (b_eq (a := S (30 + 3 * a.toNat) 1) (b := 2) ⟨by omega, by omega⟩ ⟨by decide, by decide⟩ fun c31 => absurd c31 (by omega)) (b_ne (a := S (30 + 3 * a.toNat) 1) (b := 2) ⟨by omega, by omega⟩ ⟨by decide, by decide⟩ fun c31 => ?_)
              refine i_96_134 (x := 30 + 3 * e.toNat) l2 ?_
              refine i_96_135 (v := Value.int (Int32.ofInt (S1 (30 + 3 * e.toNat) 1))) (hR.k2 (kd_reg (r := e.toNat) (by omega))) rfl ?_
              rw [fe1]
              refine i_96_138 ?_
              refine i_96_139 (b_ne (a := S (30 + 3 * e.toNat) 1) (b := 2) ⟨by omega, by omega⟩ ⟨by decide, by decide⟩ fun c32 => ?_) (b_eq (a := S (30 + 3 * e.toNat) 1) (b := 2) ⟨by omega, by omega⟩ ⟨by decide, by decide⟩ fun c32 => absurd c32 (by omega))
              refine i_96_150 (x := 19) l0 ?_
              refine i_96_151 ?_
              refine i_96_152 (x := 1) l3 ?_
              have hobj := hR.k5 kq_19
              obtain ⟨w, hrun, hR⟩ := x_tsp (d := d + 6) (k := 1) (sg := 1) hR ⟨by omega, by omega⟩ (by omega) (by rw [a4]; exact hf.1) (by rw [a6]; exact hf.2.2.1) (by rw [a7]; exact hf.2.2.2.1) (by rw [a9]; exact hf.2.2.2.2.2.1) (by rw [a10]; exact hf.2.2.2.2.2.2)
              refine i_96_153 hobj (Nat.le_of_ble_eq_true rfl) hrun ?_
              refine i_96_156 ?_
              exfalso; omega
            · refine i_96_117 (x := 19) l0 ?_
              refine i_96_118 ?_
              refine i_96_119 (x := 1) l3 ?_
              have hobj := hR.k5 kq_19
              obtain ⟨w, hrun, hR⟩ := x_tsp (d := d + 6) (k := 2) (sg := 1) hR ⟨by omega, by omega⟩ (by omega) (by rw [a4]; exact hf.1) (by rw [a6]; exact hf.2.2.1) (by rw [a7]; exact hf.2.2.2.1) (by rw [a9]; exact hf.2.2.2.2.2.1) (by rw [a10]; exact hf.2.2.2.2.2.2)
              refine i_96_120 hobj (Nat.le_of_ble_eq_true rfl) hrun ?_
              refine i_96_123 ?_
              refine i_96_156 ?_
              exfalso; omega
          · refine i_96_93 (x := 19) l0 ?_
            refine i_96_94 ?_
            refine i_96_95 (fs2 := f5 (u1 (S1 19) 5 1)) (hR.k5 kq_19) rfl (Nat.le_of_ble_eq_true rfl) rfl (h7k kq_19 (by decide)) ?_
            refine xgen (P := cX w0 L Z (u2 S1 19 5 1) V1) (hR.p5 kq_19) (fun w hR => ?_)
            refine i_96_98 ?_
            refine i_96_156 ?_
            exfalso; omega
        · try replace ht_e := ht_e.resolve_left (by omega)
          try replace hx_e := hx_e.resolve_left (by omega)
          refine i_96_33 (x := 19) l0 ?_
          refine i_96_34 (v := Value.ref 24) (hR.k5 kq_19) rfl ?_
          refine i_96_37 (x := 30 + 3 * a.toNat) l1 ?_
          refine i_96_38 (v := Value.ref ((30 + 3 * a.toNat) + 1)) (hR.k2 (kd_reg (r := a.toNat) (by omega))) rfl ?_
          refine i_96_41 (x := 30 + 3 * e.toNat) l2 ?_
          refine i_96_42 (v := Value.ref ((30 + 3 * e.toNat) + 1)) (hR.k2 (kd_reg (r := e.toNat) (by omega))) rfl ?_
          obtain ⟨fs, hobj⟩ := hR.nat kq_24
          obtain ⟨w, hrun, hR⟩ := X_prod (d := d + 3) (h := 24) (ha := (30 + 3 * a.toNat) + 1) (hb := (30 + 3 * e.toNat) + 1) (u := V1 ((30 + 3 * a.toNat) + 1)) (v2 := V1 ((30 + 3 * e.toNat) + 1)) hR kq_24 (kd_rem (r := a.toNat) (by omega)) (kd_rem (r := e.toNat) (by omega)) (by omega) (by omega) (rfl) (rfl) (by omega)
          refine i_96_45 hobj (Nat.le_of_ble_eq_true rfl) hrun ?_
          refine i_96_48 (x := 19) l0 ?_
          refine i_96_49 (x := 19) l0 ?_
          refine i_96_50 (v := Value.ref 24) (hR.k5 kq_19) rfl ?_
          refine i_96_53 (x := 30 + 3 * a.toNat) l1 ?_
          refine i_96_54 (v := Value.int (Int32.ofInt (S1 (30 + 3 * a.toNat) 3))) (hR.k2 (kd_reg (r := a.toNat) (by omega))) rfl ?_
          rw [fa3]
          refine i_96_57 (x := 30 + 3 * a.toNat) l1 ?_
          refine i_96_58 (v := Value.int (Int32.ofInt (S1 (30 + 3 * a.toNat) 0))) (hR.k2 (kd_reg (r := a.toNat) (by omega))) rfl ?_
          rw [fa0]
          refine i_96_61 (c := Int32.ofInt ((S (30 + 3 * a.toNat) 3) - (S (30 + 3 * a.toNat) 0))) (o_sub (S (30 + 3 * a.toNat) 3) (S (30 + 3 * a.toNat) 0)) ?_
          refine i_96_62 (x := 30 + 3 * e.toNat) l2 ?_
          refine i_96_63 (v := Value.int (Int32.ofInt (S1 (30 + 3 * e.toNat) 3))) (hR.k2 (kd_reg (r := e.toNat) (by omega))) rfl ?_
          rw [fe3]
          refine i_96_66 (c := Int32.ofInt (((S (30 + 3 * a.toNat) 3) - (S (30 + 3 * a.toNat) 0)) + (S (30 + 3 * e.toNat) 3))) (o_add ((S (30 + 3 * a.toNat) 3) - (S (30 + 3 * a.toNat) 0)) (S (30 + 3 * e.toNat) 3)) ?_
          refine i_96_67 (x := 30 + 3 * e.toNat) l2 ?_
          refine i_96_68 (v := Value.int (Int32.ofInt (S1 (30 + 3 * e.toNat) 0))) (hR.k2 (kd_reg (r := e.toNat) (by omega))) rfl ?_
          rw [fe0]
          refine i_96_71 (c := Int32.ofInt ((((S (30 + 3 * a.toNat) 3) - (S (30 + 3 * a.toNat) 0)) + (S (30 + 3 * e.toNat) 3)) - (S (30 + 3 * e.toNat) 0))) (o_sub (((S (30 + 3 * a.toNat) 3) - (S (30 + 3 * a.toNat) 0)) + (S (30 + 3 * e.toNat) 3)) (S (30 + 3 * e.toNat) 0)) ?_
          refine i_96_72 (x := 1) l3 ?_
          have hobj := hR.k5 kq_19
          obtain ⟨w, hrun, V3, hR, t1, t2, t3⟩ := x_tm (d := d + 1) (h := 24) (sc := (((S (30 + 3 * a.toNat) 3) - (S (30 + 3 * a.toNat) 0)) + (S (30 + 3 * e.toNat) 3)) - (S (30 + 3 * e.toNat) 0)) (sg := 1) hR kq_24 (by decide) (by decide) (by omega) ⟨by omega, by omega⟩ (by rw [a3]; omega) (by rw [a8]; exact hf.2.2.2.2.1) (by rw [uv_n (by decide), a11]; omega) (by rw [uv_n (by decide), a12]; omega) (by rw [uv_s, fVa, fVe]; exact Nat.le_trans (xbl_prod _ _) (by omega))
          refine i_96_73 hobj (Nat.le_of_ble_eq_true rfl) hrun ?_
          refine i_96_76 ?_
          refine i_96_156 ?_
          exfalso; omega
  obtain ⟨o, w', h1, rfl, h2⟩ := (key (lv_args 0 [Value.ref 19, Value.ref (30 + 3 * a.toNat), Value.ref (30 + 3 * e.toNat)]) rfl rfl rfl).run
  exact ⟨w', h1, h2⟩
set_option maxHeartbeats 8000000 in
theorem a_prodZ {a e : Int} (hR : cX w0 L Z S1 V1 w) (hA : aS S V S1 V1 nan inv pi mi b P N num pz nz) (hI : cI S V) (hf : (nan = 0 ∨ nan = 1) ∧ (inv = 0 ∨ inv = 1) ∧ (pi = 0 ∨ pi = 1) ∧ (mi = 0 ∨ mi = 1) ∧ (num = 0 ∨ num = 1) ∧ (pz = 0 ∨ pz = 1) ∧ (nz = 0 ∨ nz = 1)) (hbb : -100000 ≤ b ∧ b ≤ 100000) (hP : xbl P ≤ 400000) (hN : xbl N ≤ 400000) (ha : 0 ≤ a ∧ a ≤ 15) (hb2 : 0 ≤ e ∧ e ≤ 15) (hk : (S (30 + 3 * a.toNat) 1 = 2 ∧ (S (30 + 3 * e.toNat) 1 = 2 ∨ S (30 + 3 * e.toNat) 1 = 3)) ∨ (S (30 + 3 * a.toNat) 1 = 3 ∧ S (30 + 3 * e.toNat) 1 = 2)) : ∃ w', xRun (d + 7) 96 [Value.ref 19, Value.ref (30 + 3 * a.toNat), Value.ref (30 + 3 * e.toNat)] w (.inl none) w' ∧ ∃ S2 V2, cX w0 L Z S2 V2 w' ∧ aS S V S2 V2 (orI nan ((2 : Int) = 0)) inv (orI pi ((2 : Int) = 1 ∧ (xorI (S (30 + 3 * a.toNat) 2) (S (30 + 3 * e.toNat) 2)) = 0)) (orI mi ((2 : Int) = 1 ∧ (xorI (S (30 + 3 * a.toNat) 2) (S (30 + 3 * e.toNat) 2)) ≠ 0)) b P N num (orI pz ((2 : Int) = 2 ∧ (xorI (S (30 + 3 * a.toNat) 2) (S (30 + 3 * e.toNat) 2)) = 0)) (orI nz ((2 : Int) = 2 ∧ (xorI (S (30 + 3 * a.toNat) 2) (S (30 + 3 * e.toNat) 2)) ≠ 0)) := by
  have key : ∀ lv, xld lv 0 = some (Value.ref 19) → xld lv 1 = some (Value.ref (30 + 3 * a.toNat)) → xld lv 2 = some (Value.ref (30 + 3 * e.toNat)) → xEv (d + 7) 96 0 lv [] w (fun o w' => o = .inl none ∧ ∃ S2 V2, cX w0 L Z S2 V2 w' ∧ aS S V S2 V2 (orI nan ((2 : Int) = 0)) inv (orI pi ((2 : Int) = 1 ∧ (xorI (S (30 + 3 * a.toNat) 2) (S (30 + 3 * e.toNat) 2)) = 0)) (orI mi ((2 : Int) = 1 ∧ (xorI (S (30 + 3 * a.toNat) 2) (S (30 + 3 * e.toNat) 2)) ≠ 0)) b P N num (orI pz ((2 : Int) = 2 ∧ (xorI (S (30 + 3 * a.toNat) 2) (S (30 + 3 * e.toNat) 2)) = 0)) (orI nz ((2 : Int) = 2 ∧ (xorI (S (30 + 3 * a.toNat) 2) (S (30 + 3 * e.toNat) 2)) ≠ 0))) := by
    intro lv l0 l1 l2
    have hA0 := hA
    obtain ⟨a1, a2, a3, a4, a5, a6, a7, a8, a9, a10, a11, a12⟩ := hA
    obtain ⟨hp_a, hk_a, hn_a, ht_a, hx_a, hz_a⟩ := hI.1 a.toNat (by omega)
    obtain ⟨hp_e, hk_e, hn_e, ht_e, hx_e, hz_e⟩ := hI.1 e.toNat (by omega)
    have fa0 : S1 (30 + 3 * a.toNat) 0 = S (30 + 3 * a.toNat) 0 := a1.1 _ _ (Or.inl (by omega))
    have fa1 : S1 (30 + 3 * a.toNat) 1 = S (30 + 3 * a.toNat) 1 := a1.1 _ _ (Or.inl (by omega))
    have fa2 : S1 (30 + 3 * a.toNat) 2 = S (30 + 3 * a.toNat) 2 := a1.1 _ _ (Or.inl (by omega))
    have fa3 : S1 (30 + 3 * a.toNat) 3 = S (30 + 3 * a.toNat) 3 := a1.1 _ _ (Or.inl (by omega))
    have fVa : V1 (30 + 3 * a.toNat + 1) = V (30 + 3 * a.toNat + 1) := a2 _ (by omega) (by omega)
    have fe0 : S1 (30 + 3 * e.toNat) 0 = S (30 + 3 * e.toNat) 0 := a1.1 _ _ (Or.inl (by omega))
    have fe1 : S1 (30 + 3 * e.toNat) 1 = S (30 + 3 * e.toNat) 1 := a1.1 _ _ (Or.inl (by omega))
    have fe2 : S1 (30 + 3 * e.toNat) 2 = S (30 + 3 * e.toNat) 2 := a1.1 _ _ (Or.inl (by omega))
    have fe3 : S1 (30 + 3 * e.toNat) 3 = S (30 + 3 * e.toNat) 3 := a1.1 _ _ (Or.inl (by omega))
    have fVe : V1 (30 + 3 * e.toNat + 1) = V (30 + 3 * e.toNat + 1) := a2 _ (by omega) (by omega)
    refine i_96_0 (x := 30 + 3 * a.toNat) l1 ?_
    refine i_96_1 (v := Value.int (Int32.ofInt (S1 (30 + 3 * a.toNat) 2))) (hR.k2 (kd_reg (r := a.toNat) (by omega))) rfl ?_
    rw [fa2]
    refine i_96_4 (x := 30 + 3 * e.toNat) l2 ?_
    refine i_96_5 (v := Value.int (Int32.ofInt (S1 (30 + 3 * e.toNat) 2))) (hR.k2 (kd_reg (r := e.toNat) (by omega))) rfl ?_
    rw [fe2]
    refine i_96_8 (b_eq (a := S (30 + 3 * a.toNat) 2) (b := S (30 + 3 * e.toNat) 2) ⟨by omega, by omega⟩ ⟨by omega, by omega⟩ fun c0 => ?_) (b_ne (a := S (30 + 3 * a.toNat) 2) (b := S (30 + 3 * e.toNat) 2) ⟨by omega, by omega⟩ ⟨by omega, by omega⟩ fun c0 => ?_)
    · refine i_96_15 ?_
      refine i_96_16 rfl ?_
      refine lgen1 (i := 3) (v := Value.int 0) (fun lv lg ls => ?_)
      replace l0 := lg 0 _ rfl rfl l0
      replace l1 := lg 1 _ rfl rfl l1
      replace l2 := lg 2 _ rfl rfl l2
      have l3 := ls
      refine i_96_17 (x := 30 + 3 * a.toNat) l1 ?_
      refine i_96_18 (v := Value.int (Int32.ofInt (S1 (30 + 3 * a.toNat) 1))) (hR.k2 (kd_reg (r := a.toNat) (by omega))) rfl ?_
      rw [fa1]
      refine i_96_21 ?_
      refine i_96_22 (b_ne (a := S (30 + 3 * a.toNat) 1) (b := 3) ⟨by omega, by omega⟩ ⟨by decide, by decide⟩ fun c1 => ?_) (b_eq (a := S (30 + 3 * a.toNat) 1) (b := 3) ⟨by omega, by omega⟩ ⟨by decide, by decide⟩ fun c1 => ?_)
      · refine i_96_79 (x := 30 + 3 * a.toNat) l1 ?_
        refine i_96_80 (v := Value.int (Int32.ofInt (S1 (30 + 3 * a.toNat) 1))) (hR.k2 (kd_reg (r := a.toNat) (by omega))) rfl ?_
        rw [fa1]
        refine i_96_83 (z_eq (a := S (30 + 3 * a.toNat) 1) ⟨by omega, by omega⟩ fun c2 => ?_) (z_ne (a := S (30 + 3 * a.toNat) 1) ⟨by omega, by omega⟩ fun c2 => ?_)
        · refine i_96_93 (x := 19) l0 ?_
          refine i_96_94 ?_
          refine i_96_95 (fs2 := f5 (u1 (S1 19) 5 1)) (hR.k5 kq_19) rfl (Nat.le_of_ble_eq_true rfl) rfl (h7k kq_19 (by decide)) ?_
          refine xgen (P := cX w0 L Z (u2 S1 19 5 1) V1) (hR.p5 kq_19) (fun w hR => ?_)
          refine i_96_98 ?_
          refine i_96_156 ?_
          exfalso; omega
        · refine i_96_86 (x := 30 + 3 * e.toNat) l2 ?_
          refine i_96_87 (v := Value.int (Int32.ofInt (S1 (30 + 3 * e.toNat) 1))) (hR.k2 (kd_reg (r := e.toNat) (by omega))) rfl ?_
          rw [fe1]
          refine i_96_90 (z_ne (a := S (30 + 3 * e.toNat) 1) ⟨by omega, by omega⟩ fun c3 => ?_) (z_eq (a := S (30 + 3 * e.toNat) 1) ⟨by omega, by omega⟩ fun c3 => ?_)
          · refine i_96_101 (x := 30 + 3 * a.toNat) l1 ?_
            refine i_96_102 (v := Value.int (Int32.ofInt (S1 (30 + 3 * a.toNat) 1))) (hR.k2 (kd_reg (r := a.toNat) (by omega))) rfl ?_
            rw [fa1]
            refine i_96_105 ?_
            refine i_96_106 (b_eq (a := S (30 + 3 * a.toNat) 1) (b := 1) ⟨by omega, by omega⟩ ⟨by decide, by decide⟩ fun c4 => ?_) (b_ne (a := S (30 + 3 * a.toNat) 1) (b := 1) ⟨by omega, by omega⟩ ⟨by decide, by decide⟩ fun c4 => ?_)
            · refine i_96_126 (x := 30 + 3 * a.toNat) l1 ?_
              refine i_96_127 (v := Value.int (Int32.ofInt (S1 (30 + 3 * a.toNat) 1))) (hR.k2 (kd_reg (r := a.toNat) (by omega))) rfl ?_
              rw [fa1]
              refine i_96_130 ?_
              refine i_96_131 (b_eq (a := S (30 + 3 * a.toNat) 1) (b := 2) ⟨by omega, by omega⟩ ⟨by decide, by decide⟩ fun c5 => absurd c5 (by omega)) (b_ne (a := S (30 + 3 * a.toNat) 1) (b := 2) ⟨by omega, by omega⟩ ⟨by decide, by decide⟩ fun c5 => ?_)
              refine i_96_134 (x := 30 + 3 * e.toNat) l2 ?_
              refine i_96_135 (v := Value.int (Int32.ofInt (S1 (30 + 3 * e.toNat) 1))) (hR.k2 (kd_reg (r := e.toNat) (by omega))) rfl ?_
              rw [fe1]
              refine i_96_138 ?_
              refine i_96_139 (b_ne (a := S (30 + 3 * e.toNat) 1) (b := 2) ⟨by omega, by omega⟩ ⟨by decide, by decide⟩ fun c6 => ?_) (b_eq (a := S (30 + 3 * e.toNat) 1) (b := 2) ⟨by omega, by omega⟩ ⟨by decide, by decide⟩ fun c6 => ?_)
              · refine i_96_150 (x := 19) l0 ?_
                refine i_96_151 ?_
                refine i_96_152 (x := 0) l3 ?_
                have hobj := hR.k5 kq_19
                obtain ⟨w, hrun, hR⟩ := x_tsp (d := d + 6) (k := 1) (sg := 0) hR ⟨by omega, by omega⟩ (by omega) (by rw [a4]; exact hf.1) (by rw [a6]; exact hf.2.2.1) (by rw [a7]; exact hf.2.2.2.1) (by rw [a9]; exact hf.2.2.2.2.2.1) (by rw [a10]; exact hf.2.2.2.2.2.2)
                refine i_96_153 hobj (Nat.le_of_ble_eq_true rfl) hrun ?_
                refine i_96_156 ?_
                exfalso; omega
              · refine i_96_142 (x := 19) l0 ?_
                refine i_96_143 ?_
                refine i_96_144 (fs2 := f5 (u1 (S1 19) 6 1)) (hR.k5 kq_19) rfl (Nat.le_of_ble_eq_true rfl) rfl (h7k kq_19 (by decide)) ?_
                refine xgen (P := cX w0 L Z (u2 S1 19 6 1) V1) (hR.p5 kq_19) (fun w hR => ?_)
                refine i_96_147 ?_
                refine i_96_156 ?_
                exfalso; omega
            · refine i_96_109 (x := 30 + 3 * e.toNat) l2 ?_
              refine i_96_110 (v := Value.int (Int32.ofInt (S1 (30 + 3 * e.toNat) 1))) (hR.k2 (kd_reg (r := e.toNat) (by omega))) rfl ?_
              rw [fe1]
              refine i_96_113 ?_
              refine i_96_114 (b_eq (a := S (30 + 3 * e.toNat) 1) (b := 1) ⟨by omega, by omega⟩ ⟨by decide, by decide⟩ fun c7 => ?_) (b_ne (a := S (30 + 3 * e.toNat) 1) (b := 1) ⟨by omega, by omega⟩ ⟨by decide, by decide⟩ fun c7 => ?_)
              · refine i_96_126 (x := 30 + 3 * a.toNat) l1 ?_
                refine i_96_127 (v := Value.int (Int32.ofInt (S1 (30 + 3 * a.toNat) 1))) (hR.k2 (kd_reg (r := a.toNat) (by omega))) rfl ?_
                rw [fa1]
                refine i_96_130 ?_
                refine i_96_131 (b_eq (a := S (30 + 3 * a.toNat) 1) (b := 2) ⟨by omega, by omega⟩ ⟨by decide, by decide⟩ fun c8 => ?_) (b_ne (a := S (30 + 3 * a.toNat) 1) (b := 2) ⟨by omega, by omega⟩ ⟨by decide, by decide⟩ fun c8 => ?_)
                · refine i_96_142 (x := 19) l0 ?_
                  refine i_96_143 ?_
                  refine i_96_144 (fs2 := f5 (u1 (S1 19) 6 1)) (hR.k5 kq_19) rfl (Nat.le_of_ble_eq_true rfl) rfl (h7k kq_19 (by decide)) ?_
                  refine xgen (P := cX w0 L Z (u2 S1 19 6 1) V1) (hR.p5 kq_19) (fun w hR => ?_)
                  refine i_96_147 ?_
                  refine i_96_156 ?_
                  exfalso; omega
                · refine i_96_134 (x := 30 + 3 * e.toNat) l2 ?_
                  refine i_96_135 (v := Value.int (Int32.ofInt (S1 (30 + 3 * e.toNat) 1))) (hR.k2 (kd_reg (r := e.toNat) (by omega))) rfl ?_
                  rw [fe1]
                  refine i_96_138 ?_
                  refine i_96_139 (b_ne (a := S (30 + 3 * e.toNat) 1) (b := 2) ⟨by omega, by omega⟩ ⟨by decide, by decide⟩ fun c9 => ?_) (b_eq (a := S (30 + 3 * e.toNat) 1) (b := 2) ⟨by omega, by omega⟩ ⟨by decide, by decide⟩ fun c9 => absurd c9 (by omega))
                  refine i_96_150 (x := 19) l0 ?_
                  refine i_96_151 ?_
                  refine i_96_152 (x := 0) l3 ?_
                  have hobj := hR.k5 kq_19
                  obtain ⟨w, hrun, hR⟩ := x_tsp (d := d + 6) (k := 1) (sg := 0) hR ⟨by omega, by omega⟩ (by omega) (by rw [a4]; exact hf.1) (by rw [a6]; exact hf.2.2.1) (by rw [a7]; exact hf.2.2.2.1) (by rw [a9]; exact hf.2.2.2.2.2.1) (by rw [a10]; exact hf.2.2.2.2.2.2)
                  refine i_96_153 hobj (Nat.le_of_ble_eq_true rfl) hrun ?_
                  refine i_96_156 ?_
                  exfalso; omega
              · refine i_96_117 (x := 19) l0 ?_
                refine i_96_118 ?_
                refine i_96_119 (x := 0) l3 ?_
                have hobj := hR.k5 kq_19
                obtain ⟨w, hrun, hR⟩ := x_tsp (d := d + 6) (k := 2) (sg := 0) hR ⟨by omega, by omega⟩ (by omega) (by rw [a4]; exact hf.1) (by rw [a6]; exact hf.2.2.1) (by rw [a7]; exact hf.2.2.2.1) (by rw [a9]; exact hf.2.2.2.2.2.1) (by rw [a10]; exact hf.2.2.2.2.2.2)
                refine i_96_120 hobj (Nat.le_of_ble_eq_true rfl) hrun ?_
                refine i_96_123 ?_
                refine i_96_156 ?_
                have esg : xorI (S (30 + 3 * a.toNat) 2) (S (30 + 3 * e.toNat) 2) = 0 := by unfold xorI; first | (rw [if_pos (by omega)]; done) | (rw [if_neg (by omega)]; done)
                rw [esg]
                exact ⟨rfl, _, _, hR, aS_tsp (k := 2) (sg := 0) hA0⟩
          · refine i_96_93 (x := 19) l0 ?_
            refine i_96_94 ?_
            refine i_96_95 (fs2 := f5 (u1 (S1 19) 5 1)) (hR.k5 kq_19) rfl (Nat.le_of_ble_eq_true rfl) rfl (h7k kq_19 (by decide)) ?_
            refine xgen (P := cX w0 L Z (u2 S1 19 5 1) V1) (hR.p5 kq_19) (fun w hR => ?_)
            refine i_96_98 ?_
            refine i_96_156 ?_
            exfalso; omega
      · try replace ht_a := ht_a.resolve_left (by omega)
        try replace hx_a := hx_a.resolve_left (by omega)
        refine i_96_25 (x := 30 + 3 * e.toNat) l2 ?_
        refine i_96_26 (v := Value.int (Int32.ofInt (S1 (30 + 3 * e.toNat) 1))) (hR.k2 (kd_reg (r := e.toNat) (by omega))) rfl ?_
        rw [fe1]
        refine i_96_29 ?_
        refine i_96_30 (b_ne (a := S (30 + 3 * e.toNat) 1) (b := 3) ⟨by omega, by omega⟩ ⟨by decide, by decide⟩ fun c10 => ?_) (b_eq (a := S (30 + 3 * e.toNat) 1) (b := 3) ⟨by omega, by omega⟩ ⟨by decide, by decide⟩ fun c10 => ?_)
        · refine i_96_79 (x := 30 + 3 * a.toNat) l1 ?_
          refine i_96_80 (v := Value.int (Int32.ofInt (S1 (30 + 3 * a.toNat) 1))) (hR.k2 (kd_reg (r := a.toNat) (by omega))) rfl ?_
          rw [fa1]
          refine i_96_83 (z_eq (a := S (30 + 3 * a.toNat) 1) ⟨by omega, by omega⟩ fun c11 => absurd c11 (by omega)) (z_ne (a := S (30 + 3 * a.toNat) 1) ⟨by omega, by omega⟩ fun c11 => ?_)
          refine i_96_86 (x := 30 + 3 * e.toNat) l2 ?_
          refine i_96_87 (v := Value.int (Int32.ofInt (S1 (30 + 3 * e.toNat) 1))) (hR.k2 (kd_reg (r := e.toNat) (by omega))) rfl ?_
          rw [fe1]
          refine i_96_90 (z_ne (a := S (30 + 3 * e.toNat) 1) ⟨by omega, by omega⟩ fun c12 => ?_) (z_eq (a := S (30 + 3 * e.toNat) 1) ⟨by omega, by omega⟩ fun c12 => ?_)
          · refine i_96_101 (x := 30 + 3 * a.toNat) l1 ?_
            refine i_96_102 (v := Value.int (Int32.ofInt (S1 (30 + 3 * a.toNat) 1))) (hR.k2 (kd_reg (r := a.toNat) (by omega))) rfl ?_
            rw [fa1]
            refine i_96_105 ?_
            refine i_96_106 (b_eq (a := S (30 + 3 * a.toNat) 1) (b := 1) ⟨by omega, by omega⟩ ⟨by decide, by decide⟩ fun c13 => absurd c13 (by omega)) (b_ne (a := S (30 + 3 * a.toNat) 1) (b := 1) ⟨by omega, by omega⟩ ⟨by decide, by decide⟩ fun c13 => ?_)
            refine i_96_109 (x := 30 + 3 * e.toNat) l2 ?_
            refine i_96_110 (v := Value.int (Int32.ofInt (S1 (30 + 3 * e.toNat) 1))) (hR.k2 (kd_reg (r := e.toNat) (by omega))) rfl ?_
            rw [fe1]
            refine i_96_113 ?_
            refine i_96_114 (b_eq (a := S (30 + 3 * e.toNat) 1) (b := 1) ⟨by omega, by omega⟩ ⟨by decide, by decide⟩ fun c14 => ?_) (b_ne (a := S (30 + 3 * e.toNat) 1) (b := 1) ⟨by omega, by omega⟩ ⟨by decide, by decide⟩ fun c14 => ?_)
            · refine i_96_126 (x := 30 + 3 * a.toNat) l1 ?_
              refine i_96_127 (v := Value.int (Int32.ofInt (S1 (30 + 3 * a.toNat) 1))) (hR.k2 (kd_reg (r := a.toNat) (by omega))) rfl ?_
              rw [fa1]
              refine i_96_130 ?_
              refine i_96_131 (b_eq (a := S (30 + 3 * a.toNat) 1) (b := 2) ⟨by omega, by omega⟩ ⟨by decide, by decide⟩ fun c15 => absurd c15 (by omega)) (b_ne (a := S (30 + 3 * a.toNat) 1) (b := 2) ⟨by omega, by omega⟩ ⟨by decide, by decide⟩ fun c15 => ?_)
              refine i_96_134 (x := 30 + 3 * e.toNat) l2 ?_
              refine i_96_135 (v := Value.int (Int32.ofInt (S1 (30 + 3 * e.toNat) 1))) (hR.k2 (kd_reg (r := e.toNat) (by omega))) rfl ?_
              rw [fe1]
              refine i_96_138 ?_
              refine i_96_139 (b_ne (a := S (30 + 3 * e.toNat) 1) (b := 2) ⟨by omega, by omega⟩ ⟨by decide, by decide⟩ fun c16 => ?_) (b_eq (a := S (30 + 3 * e.toNat) 1) (b := 2) ⟨by omega, by omega⟩ ⟨by decide, by decide⟩ fun c16 => absurd c16 (by omega))
              refine i_96_150 (x := 19) l0 ?_
              refine i_96_151 ?_
              refine i_96_152 (x := 0) l3 ?_
              have hobj := hR.k5 kq_19
              obtain ⟨w, hrun, hR⟩ := x_tsp (d := d + 6) (k := 1) (sg := 0) hR ⟨by omega, by omega⟩ (by omega) (by rw [a4]; exact hf.1) (by rw [a6]; exact hf.2.2.1) (by rw [a7]; exact hf.2.2.2.1) (by rw [a9]; exact hf.2.2.2.2.2.1) (by rw [a10]; exact hf.2.2.2.2.2.2)
              refine i_96_153 hobj (Nat.le_of_ble_eq_true rfl) hrun ?_
              refine i_96_156 ?_
              exfalso; omega
            · refine i_96_117 (x := 19) l0 ?_
              refine i_96_118 ?_
              refine i_96_119 (x := 0) l3 ?_
              have hobj := hR.k5 kq_19
              obtain ⟨w, hrun, hR⟩ := x_tsp (d := d + 6) (k := 2) (sg := 0) hR ⟨by omega, by omega⟩ (by omega) (by rw [a4]; exact hf.1) (by rw [a6]; exact hf.2.2.1) (by rw [a7]; exact hf.2.2.2.1) (by rw [a9]; exact hf.2.2.2.2.2.1) (by rw [a10]; exact hf.2.2.2.2.2.2)
              refine i_96_120 hobj (Nat.le_of_ble_eq_true rfl) hrun ?_
              refine i_96_123 ?_
              refine i_96_156 ?_
              have esg : xorI (S (30 + 3 * a.toNat) 2) (S (30 + 3 * e.toNat) 2) = 0 := by unfold xorI; first | (rw [if_pos (by omega)]; done) | (rw [if_neg (by omega)]; done)
              rw [esg]
              exact ⟨rfl, _, _, hR, aS_tsp (k := 2) (sg := 0) hA0⟩
          · refine i_96_93 (x := 19) l0 ?_
            refine i_96_94 ?_
            refine i_96_95 (fs2 := f5 (u1 (S1 19) 5 1)) (hR.k5 kq_19) rfl (Nat.le_of_ble_eq_true rfl) rfl (h7k kq_19 (by decide)) ?_
            refine xgen (P := cX w0 L Z (u2 S1 19 5 1) V1) (hR.p5 kq_19) (fun w hR => ?_)
            refine i_96_98 ?_
            refine i_96_156 ?_
            exfalso; omega
        · try replace ht_e := ht_e.resolve_left (by omega)
          try replace hx_e := hx_e.resolve_left (by omega)
          refine i_96_33 (x := 19) l0 ?_
          refine i_96_34 (v := Value.ref 24) (hR.k5 kq_19) rfl ?_
          refine i_96_37 (x := 30 + 3 * a.toNat) l1 ?_
          refine i_96_38 (v := Value.ref ((30 + 3 * a.toNat) + 1)) (hR.k2 (kd_reg (r := a.toNat) (by omega))) rfl ?_
          refine i_96_41 (x := 30 + 3 * e.toNat) l2 ?_
          refine i_96_42 (v := Value.ref ((30 + 3 * e.toNat) + 1)) (hR.k2 (kd_reg (r := e.toNat) (by omega))) rfl ?_
          obtain ⟨fs, hobj⟩ := hR.nat kq_24
          obtain ⟨w, hrun, hR⟩ := X_prod (d := d + 3) (h := 24) (ha := (30 + 3 * a.toNat) + 1) (hb := (30 + 3 * e.toNat) + 1) (u := V1 ((30 + 3 * a.toNat) + 1)) (v2 := V1 ((30 + 3 * e.toNat) + 1)) hR kq_24 (kd_rem (r := a.toNat) (by omega)) (kd_rem (r := e.toNat) (by omega)) (by omega) (by omega) (rfl) (rfl) (by omega)
          refine i_96_45 hobj (Nat.le_of_ble_eq_true rfl) hrun ?_
          refine i_96_48 (x := 19) l0 ?_
          refine i_96_49 (x := 19) l0 ?_
          refine i_96_50 (v := Value.ref 24) (hR.k5 kq_19) rfl ?_
          refine i_96_53 (x := 30 + 3 * a.toNat) l1 ?_
          refine i_96_54 (v := Value.int (Int32.ofInt (S1 (30 + 3 * a.toNat) 3))) (hR.k2 (kd_reg (r := a.toNat) (by omega))) rfl ?_
          rw [fa3]
          refine i_96_57 (x := 30 + 3 * a.toNat) l1 ?_
          refine i_96_58 (v := Value.int (Int32.ofInt (S1 (30 + 3 * a.toNat) 0))) (hR.k2 (kd_reg (r := a.toNat) (by omega))) rfl ?_
          rw [fa0]
          refine i_96_61 (c := Int32.ofInt ((S (30 + 3 * a.toNat) 3) - (S (30 + 3 * a.toNat) 0))) (o_sub (S (30 + 3 * a.toNat) 3) (S (30 + 3 * a.toNat) 0)) ?_
          refine i_96_62 (x := 30 + 3 * e.toNat) l2 ?_
          refine i_96_63 (v := Value.int (Int32.ofInt (S1 (30 + 3 * e.toNat) 3))) (hR.k2 (kd_reg (r := e.toNat) (by omega))) rfl ?_
          rw [fe3]
          refine i_96_66 (c := Int32.ofInt (((S (30 + 3 * a.toNat) 3) - (S (30 + 3 * a.toNat) 0)) + (S (30 + 3 * e.toNat) 3))) (o_add ((S (30 + 3 * a.toNat) 3) - (S (30 + 3 * a.toNat) 0)) (S (30 + 3 * e.toNat) 3)) ?_
          refine i_96_67 (x := 30 + 3 * e.toNat) l2 ?_
          refine i_96_68 (v := Value.int (Int32.ofInt (S1 (30 + 3 * e.toNat) 0))) (hR.k2 (kd_reg (r := e.toNat) (by omega))) rfl ?_
          rw [fe0]
          refine i_96_71 (c := Int32.ofInt ((((S (30 + 3 * a.toNat) 3) - (S (30 + 3 * a.toNat) 0)) + (S (30 + 3 * e.toNat) 3)) - (S (30 + 3 * e.toNat) 0))) (o_sub (((S (30 + 3 * a.toNat) 3) - (S (30 + 3 * a.toNat) 0)) + (S (30 + 3 * e.toNat) 3)) (S (30 + 3 * e.toNat) 0)) ?_
          refine i_96_72 (x := 0) l3 ?_
          have hobj := hR.k5 kq_19
          obtain ⟨w, hrun, V3, hR, t1, t2, t3⟩ := x_tm (d := d + 1) (h := 24) (sc := (((S (30 + 3 * a.toNat) 3) - (S (30 + 3 * a.toNat) 0)) + (S (30 + 3 * e.toNat) 3)) - (S (30 + 3 * e.toNat) 0)) (sg := 0) hR kq_24 (by decide) (by decide) (by omega) ⟨by omega, by omega⟩ (by rw [a3]; omega) (by rw [a8]; exact hf.2.2.2.2.1) (by rw [uv_n (by decide), a11]; omega) (by rw [uv_n (by decide), a12]; omega) (by rw [uv_s, fVa, fVe]; exact Nat.le_trans (xbl_prod _ _) (by omega))
          refine i_96_73 hobj (Nat.le_of_ble_eq_true rfl) hrun ?_
          refine i_96_76 ?_
          refine i_96_156 ?_
          exfalso; omega
    · refine i_96_11 ?_
      refine i_96_12 ?_
      refine i_96_16 rfl ?_
      refine lgen1 (i := 3) (v := Value.int 1) (fun lv lg ls => ?_)
      replace l0 := lg 0 _ rfl rfl l0
      replace l1 := lg 1 _ rfl rfl l1
      replace l2 := lg 2 _ rfl rfl l2
      have l3 := ls
      refine i_96_17 (x := 30 + 3 * a.toNat) l1 ?_
      refine i_96_18 (v := Value.int (Int32.ofInt (S1 (30 + 3 * a.toNat) 1))) (hR.k2 (kd_reg (r := a.toNat) (by omega))) rfl ?_
      rw [fa1]
      refine i_96_21 ?_
      refine i_96_22 (b_ne (a := S (30 + 3 * a.toNat) 1) (b := 3) ⟨by omega, by omega⟩ ⟨by decide, by decide⟩ fun c17 => ?_) (b_eq (a := S (30 + 3 * a.toNat) 1) (b := 3) ⟨by omega, by omega⟩ ⟨by decide, by decide⟩ fun c17 => ?_)
      · refine i_96_79 (x := 30 + 3 * a.toNat) l1 ?_
        refine i_96_80 (v := Value.int (Int32.ofInt (S1 (30 + 3 * a.toNat) 1))) (hR.k2 (kd_reg (r := a.toNat) (by omega))) rfl ?_
        rw [fa1]
        refine i_96_83 (z_eq (a := S (30 + 3 * a.toNat) 1) ⟨by omega, by omega⟩ fun c18 => ?_) (z_ne (a := S (30 + 3 * a.toNat) 1) ⟨by omega, by omega⟩ fun c18 => ?_)
        · refine i_96_93 (x := 19) l0 ?_
          refine i_96_94 ?_
          refine i_96_95 (fs2 := f5 (u1 (S1 19) 5 1)) (hR.k5 kq_19) rfl (Nat.le_of_ble_eq_true rfl) rfl (h7k kq_19 (by decide)) ?_
          refine xgen (P := cX w0 L Z (u2 S1 19 5 1) V1) (hR.p5 kq_19) (fun w hR => ?_)
          refine i_96_98 ?_
          refine i_96_156 ?_
          exfalso; omega
        · refine i_96_86 (x := 30 + 3 * e.toNat) l2 ?_
          refine i_96_87 (v := Value.int (Int32.ofInt (S1 (30 + 3 * e.toNat) 1))) (hR.k2 (kd_reg (r := e.toNat) (by omega))) rfl ?_
          rw [fe1]
          refine i_96_90 (z_ne (a := S (30 + 3 * e.toNat) 1) ⟨by omega, by omega⟩ fun c19 => ?_) (z_eq (a := S (30 + 3 * e.toNat) 1) ⟨by omega, by omega⟩ fun c19 => ?_)
          · refine i_96_101 (x := 30 + 3 * a.toNat) l1 ?_
            refine i_96_102 (v := Value.int (Int32.ofInt (S1 (30 + 3 * a.toNat) 1))) (hR.k2 (kd_reg (r := a.toNat) (by omega))) rfl ?_
            rw [fa1]
            refine i_96_105 ?_
            refine i_96_106 (b_eq (a := S (30 + 3 * a.toNat) 1) (b := 1) ⟨by omega, by omega⟩ ⟨by decide, by decide⟩ fun c20 => ?_) (b_ne (a := S (30 + 3 * a.toNat) 1) (b := 1) ⟨by omega, by omega⟩ ⟨by decide, by decide⟩ fun c20 => ?_)
            · refine i_96_126 (x := 30 + 3 * a.toNat) l1 ?_
              refine i_96_127 (v := Value.int (Int32.ofInt (S1 (30 + 3 * a.toNat) 1))) (hR.k2 (kd_reg (r := a.toNat) (by omega))) rfl ?_
              rw [fa1]
              refine i_96_130 ?_
              refine i_96_131 (b_eq (a := S (30 + 3 * a.toNat) 1) (b := 2) ⟨by omega, by omega⟩ ⟨by decide, by decide⟩ fun c21 => absurd c21 (by omega)) (b_ne (a := S (30 + 3 * a.toNat) 1) (b := 2) ⟨by omega, by omega⟩ ⟨by decide, by decide⟩ fun c21 => ?_)
              refine i_96_134 (x := 30 + 3 * e.toNat) l2 ?_
              refine i_96_135 (v := Value.int (Int32.ofInt (S1 (30 + 3 * e.toNat) 1))) (hR.k2 (kd_reg (r := e.toNat) (by omega))) rfl ?_
              rw [fe1]
              refine i_96_138 ?_
              refine i_96_139 (b_ne (a := S (30 + 3 * e.toNat) 1) (b := 2) ⟨by omega, by omega⟩ ⟨by decide, by decide⟩ fun c22 => ?_) (b_eq (a := S (30 + 3 * e.toNat) 1) (b := 2) ⟨by omega, by omega⟩ ⟨by decide, by decide⟩ fun c22 => ?_)
              · refine i_96_150 (x := 19) l0 ?_
                refine i_96_151 ?_
                refine i_96_152 (x := 1) l3 ?_
                have hobj := hR.k5 kq_19
                obtain ⟨w, hrun, hR⟩ := x_tsp (d := d + 6) (k := 1) (sg := 1) hR ⟨by omega, by omega⟩ (by omega) (by rw [a4]; exact hf.1) (by rw [a6]; exact hf.2.2.1) (by rw [a7]; exact hf.2.2.2.1) (by rw [a9]; exact hf.2.2.2.2.2.1) (by rw [a10]; exact hf.2.2.2.2.2.2)
                refine i_96_153 hobj (Nat.le_of_ble_eq_true rfl) hrun ?_
                refine i_96_156 ?_
                exfalso; omega
              · refine i_96_142 (x := 19) l0 ?_
                refine i_96_143 ?_
                refine i_96_144 (fs2 := f5 (u1 (S1 19) 6 1)) (hR.k5 kq_19) rfl (Nat.le_of_ble_eq_true rfl) rfl (h7k kq_19 (by decide)) ?_
                refine xgen (P := cX w0 L Z (u2 S1 19 6 1) V1) (hR.p5 kq_19) (fun w hR => ?_)
                refine i_96_147 ?_
                refine i_96_156 ?_
                exfalso; omega
            · refine i_96_109 (x := 30 + 3 * e.toNat) l2 ?_
              refine i_96_110 (v := Value.int (Int32.ofInt (S1 (30 + 3 * e.toNat) 1))) (hR.k2 (kd_reg (r := e.toNat) (by omega))) rfl ?_
              rw [fe1]
              refine i_96_113 ?_
              refine i_96_114 (b_eq (a := S (30 + 3 * e.toNat) 1) (b := 1) ⟨by omega, by omega⟩ ⟨by decide, by decide⟩ fun c23 => ?_) (b_ne (a := S (30 + 3 * e.toNat) 1) (b := 1) ⟨by omega, by omega⟩ ⟨by decide, by decide⟩ fun c23 => ?_)
              · refine i_96_126 (x := 30 + 3 * a.toNat) l1 ?_
                refine i_96_127 (v := Value.int (Int32.ofInt (S1 (30 + 3 * a.toNat) 1))) (hR.k2 (kd_reg (r := a.toNat) (by omega))) rfl ?_
                rw [fa1]
                refine i_96_130 ?_
                refine i_96_131 (b_eq (a := S (30 + 3 * a.toNat) 1) (b := 2) ⟨by omega, by omega⟩ ⟨by decide, by decide⟩ fun c24 => ?_) (b_ne (a := S (30 + 3 * a.toNat) 1) (b := 2) ⟨by omega, by omega⟩ ⟨by decide, by decide⟩ fun c24 => ?_)
                · refine i_96_142 (x := 19) l0 ?_
                  refine i_96_143 ?_
                  refine i_96_144 (fs2 := f5 (u1 (S1 19) 6 1)) (hR.k5 kq_19) rfl (Nat.le_of_ble_eq_true rfl) rfl (h7k kq_19 (by decide)) ?_
                  refine xgen (P := cX w0 L Z (u2 S1 19 6 1) V1) (hR.p5 kq_19) (fun w hR => ?_)
                  refine i_96_147 ?_
                  refine i_96_156 ?_
                  exfalso; omega
                · refine i_96_134 (x := 30 + 3 * e.toNat) l2 ?_
                  refine i_96_135 (v := Value.int (Int32.ofInt (S1 (30 + 3 * e.toNat) 1))) (hR.k2 (kd_reg (r := e.toNat) (by omega))) rfl ?_
                  rw [fe1]
                  refine i_96_138 ?_
                  refine i_96_139 (b_ne (a := S (30 + 3 * e.toNat) 1) (b := 2) ⟨by omega, by omega⟩ ⟨by decide, by decide⟩ fun c25 => ?_) (b_eq (a := S (30 + 3 * e.toNat) 1) (b := 2) ⟨by omega, by omega⟩ ⟨by decide, by decide⟩ fun c25 => absurd c25 (by omega))
                  refine i_96_150 (x := 19) l0 ?_
                  refine i_96_151 ?_
                  refine i_96_152 (x := 1) l3 ?_
                  have hobj := hR.k5 kq_19
                  obtain ⟨w, hrun, hR⟩ := x_tsp (d := d + 6) (k := 1) (sg := 1) hR ⟨by omega, by omega⟩ (by omega) (by rw [a4]; exact hf.1) (by rw [a6]; exact hf.2.2.1) (by rw [a7]; exact hf.2.2.2.1) (by rw [a9]; exact hf.2.2.2.2.2.1) (by rw [a10]; exact hf.2.2.2.2.2.2)
                  refine i_96_153 hobj (Nat.le_of_ble_eq_true rfl) hrun ?_
                  refine i_96_156 ?_
                  exfalso; omega
              · refine i_96_117 (x := 19) l0 ?_
                refine i_96_118 ?_
                refine i_96_119 (x := 1) l3 ?_
                have hobj := hR.k5 kq_19
                obtain ⟨w, hrun, hR⟩ := x_tsp (d := d + 6) (k := 2) (sg := 1) hR ⟨by omega, by omega⟩ (by omega) (by rw [a4]; exact hf.1) (by rw [a6]; exact hf.2.2.1) (by rw [a7]; exact hf.2.2.2.1) (by rw [a9]; exact hf.2.2.2.2.2.1) (by rw [a10]; exact hf.2.2.2.2.2.2)
                refine i_96_120 hobj (Nat.le_of_ble_eq_true rfl) hrun ?_
                refine i_96_123 ?_
                refine i_96_156 ?_
                have esg : xorI (S (30 + 3 * a.toNat) 2) (S (30 + 3 * e.toNat) 2) = 1 := by unfold xorI; first | (rw [if_pos (by omega)]; done) | (rw [if_neg (by omega)]; done)
                rw [esg]
                exact ⟨rfl, _, _, hR, aS_tsp (k := 2) (sg := 1) hA0⟩
          · refine i_96_93 (x := 19) l0 ?_
            refine i_96_94 ?_
            refine i_96_95 (fs2 := f5 (u1 (S1 19) 5 1)) (hR.k5 kq_19) rfl (Nat.le_of_ble_eq_true rfl) rfl (h7k kq_19 (by decide)) ?_
            refine xgen (P := cX w0 L Z (u2 S1 19 5 1) V1) (hR.p5 kq_19) (fun w hR => ?_)
            refine i_96_98 ?_
            refine i_96_156 ?_
            exfalso; omega
      · try replace ht_a := ht_a.resolve_left (by omega)
        try replace hx_a := hx_a.resolve_left (by omega)
        refine i_96_25 (x := 30 + 3 * e.toNat) l2 ?_
        refine i_96_26 (v := Value.int (Int32.ofInt (S1 (30 + 3 * e.toNat) 1))) (hR.k2 (kd_reg (r := e.toNat) (by omega))) rfl ?_
        rw [fe1]
        refine i_96_29 ?_
        refine i_96_30 (b_ne (a := S (30 + 3 * e.toNat) 1) (b := 3) ⟨by omega, by omega⟩ ⟨by decide, by decide⟩ fun c26 => ?_) (b_eq (a := S (30 + 3 * e.toNat) 1) (b := 3) ⟨by omega, by omega⟩ ⟨by decide, by decide⟩ fun c26 => ?_)
        · refine i_96_79 (x := 30 + 3 * a.toNat) l1 ?_
          refine i_96_80 (v := Value.int (Int32.ofInt (S1 (30 + 3 * a.toNat) 1))) (hR.k2 (kd_reg (r := a.toNat) (by omega))) rfl ?_
          rw [fa1]
          refine i_96_83 (z_eq (a := S (30 + 3 * a.toNat) 1) ⟨by omega, by omega⟩ fun c27 => absurd c27 (by omega)) (z_ne (a := S (30 + 3 * a.toNat) 1) ⟨by omega, by omega⟩ fun c27 => ?_)
          refine i_96_86 (x := 30 + 3 * e.toNat) l2 ?_
          refine i_96_87 (v := Value.int (Int32.ofInt (S1 (30 + 3 * e.toNat) 1))) (hR.k2 (kd_reg (r := e.toNat) (by omega))) rfl ?_
          rw [fe1]
          refine i_96_90 (z_ne (a := S (30 + 3 * e.toNat) 1) ⟨by omega, by omega⟩ fun c28 => ?_) (z_eq (a := S (30 + 3 * e.toNat) 1) ⟨by omega, by omega⟩ fun c28 => ?_)
          · refine i_96_101 (x := 30 + 3 * a.toNat) l1 ?_
            refine i_96_102 (v := Value.int (Int32.ofInt (S1 (30 + 3 * a.toNat) 1))) (hR.k2 (kd_reg (r := a.toNat) (by omega))) rfl ?_
            rw [fa1]
            refine i_96_105 ?_
            refine i_96_106 (b_eq (a := S (30 + 3 * a.toNat) 1) (b := 1) ⟨by omega, by omega⟩ ⟨by decide, by decide⟩ fun c29 => absurd c29 (by omega)) (b_ne (a := S (30 + 3 * a.toNat) 1) (b := 1) ⟨by omega, by omega⟩ ⟨by decide, by decide⟩ fun c29 => ?_)
            refine i_96_109 (x := 30 + 3 * e.toNat) l2 ?_
            refine i_96_110 (v := Value.int (Int32.ofInt (S1 (30 + 3 * e.toNat) 1))) (hR.k2 (kd_reg (r := e.toNat) (by omega))) rfl ?_
            rw [fe1]
            refine i_96_113 ?_
            refine i_96_114 (b_eq (a := S (30 + 3 * e.toNat) 1) (b := 1) ⟨by omega, by omega⟩ ⟨by decide, by decide⟩ fun c30 => ?_) (b_ne (a := S (30 + 3 * e.toNat) 1) (b := 1) ⟨by omega, by omega⟩ ⟨by decide, by decide⟩ fun c30 => ?_)
            · refine i_96_126 (x := 30 + 3 * a.toNat) l1 ?_
              refine i_96_127 (v := Value.int (Int32.ofInt (S1 (30 + 3 * a.toNat) 1))) (hR.k2 (kd_reg (r := a.toNat) (by omega))) rfl ?_
              rw [fa1]
              refine i_96_130 ?_
              refine i_96_131 (b_eq (a := S (30 + 3 * a.toNat) 1) (b := 2) ⟨by omega, by omega⟩ ⟨by decide, by decide⟩ fun c31 => absurd c31 (by omega)) (b_ne (a := S (30 + 3 * a.toNat) 1) (b := 2) ⟨by omega, by omega⟩ ⟨by decide, by decide⟩ fun c31 => ?_)
              refine i_96_134 (x := 30 + 3 * e.toNat) l2 ?_
              refine i_96_135 (v := Value.int (Int32.ofInt (S1 (30 + 3 * e.toNat) 1))) (hR.k2 (kd_reg (r := e.toNat) (by omega))) rfl ?_
              rw [fe1]
              refine i_96_138 ?_
              refine i_96_139 (b_ne (a := S (30 + 3 * e.toNat) 1) (b := 2) ⟨by omega, by omega⟩ ⟨by decide, by decide⟩ fun c32 => ?_) (b_eq (a := S (30 + 3 * e.toNat) 1) (b := 2) ⟨by omega, by omega⟩ ⟨by decide, by decide⟩ fun c32 => absurd c32 (by omega))
              refine i_96_150 (x := 19) l0 ?_
              refine i_96_151 ?_
              refine i_96_152 (x := 1) l3 ?_
              have hobj := hR.k5 kq_19
              obtain ⟨w, hrun, hR⟩ := x_tsp (d := d + 6) (k := 1) (sg := 1) hR ⟨by omega, by omega⟩ (by omega) (by rw [a4]; exact hf.1) (by rw [a6]; exact hf.2.2.1) (by rw [a7]; exact hf.2.2.2.1) (by rw [a9]; exact hf.2.2.2.2.2.1) (by rw [a10]; exact hf.2.2.2.2.2.2)
              refine i_96_153 hobj (Nat.le_of_ble_eq_true rfl) hrun ?_
              refine i_96_156 ?_
              exfalso; omega
            · refine i_96_117 (x := 19) l0 ?_
              refine i_96_118 ?_
              refine i_96_119 (x := 1) l3 ?_
              have hobj := hR.k5 kq_19
              obtain ⟨w, hrun, hR⟩ := x_tsp (d := d + 6) (k := 2) (sg := 1) hR ⟨by omega, by omega⟩ (by omega) (by rw [a4]; exact hf.1) (by rw [a6]; exact hf.2.2.1) (by rw [a7]; exact hf.2.2.2.1) (by rw [a9]; exact hf.2.2.2.2.2.1) (by rw [a10]; exact hf.2.2.2.2.2.2)
              refine i_96_120 hobj (Nat.le_of_ble_eq_true rfl) hrun ?_
              refine i_96_123 ?_
              refine i_96_156 ?_
              have esg : xorI (S (30 + 3 * a.toNat) 2) (S (30 + 3 * e.toNat) 2) = 1 := by unfold xorI; first | (rw [if_pos (by omega)]; done) | (rw [if_neg (by omega)]; done)
              rw [esg]
              exact ⟨rfl, _, _, hR, aS_tsp (k := 2) (sg := 1) hA0⟩
          · refine i_96_93 (x := 19) l0 ?_
            refine i_96_94 ?_
            refine i_96_95 (fs2 := f5 (u1 (S1 19) 5 1)) (hR.k5 kq_19) rfl (Nat.le_of_ble_eq_true rfl) rfl (h7k kq_19 (by decide)) ?_
            refine xgen (P := cX w0 L Z (u2 S1 19 5 1) V1) (hR.p5 kq_19) (fun w hR => ?_)
            refine i_96_98 ?_
            refine i_96_156 ?_
            exfalso; omega
        · try replace ht_e := ht_e.resolve_left (by omega)
          try replace hx_e := hx_e.resolve_left (by omega)
          refine i_96_33 (x := 19) l0 ?_
          refine i_96_34 (v := Value.ref 24) (hR.k5 kq_19) rfl ?_
          refine i_96_37 (x := 30 + 3 * a.toNat) l1 ?_
          refine i_96_38 (v := Value.ref ((30 + 3 * a.toNat) + 1)) (hR.k2 (kd_reg (r := a.toNat) (by omega))) rfl ?_
          refine i_96_41 (x := 30 + 3 * e.toNat) l2 ?_
          refine i_96_42 (v := Value.ref ((30 + 3 * e.toNat) + 1)) (hR.k2 (kd_reg (r := e.toNat) (by omega))) rfl ?_
          obtain ⟨fs, hobj⟩ := hR.nat kq_24
          obtain ⟨w, hrun, hR⟩ := X_prod (d := d + 3) (h := 24) (ha := (30 + 3 * a.toNat) + 1) (hb := (30 + 3 * e.toNat) + 1) (u := V1 ((30 + 3 * a.toNat) + 1)) (v2 := V1 ((30 + 3 * e.toNat) + 1)) hR kq_24 (kd_rem (r := a.toNat) (by omega)) (kd_rem (r := e.toNat) (by omega)) (by omega) (by omega) (rfl) (rfl) (by omega)
          refine i_96_45 hobj (Nat.le_of_ble_eq_true rfl) hrun ?_
          refine i_96_48 (x := 19) l0 ?_
          refine i_96_49 (x := 19) l0 ?_
          refine i_96_50 (v := Value.ref 24) (hR.k5 kq_19) rfl ?_
          refine i_96_53 (x := 30 + 3 * a.toNat) l1 ?_
          refine i_96_54 (v := Value.int (Int32.ofInt (S1 (30 + 3 * a.toNat) 3))) (hR.k2 (kd_reg (r := a.toNat) (by omega))) rfl ?_
          rw [fa3]
          refine i_96_57 (x := 30 + 3 * a.toNat) l1 ?_
          refine i_96_58 (v := Value.int (Int32.ofInt (S1 (30 + 3 * a.toNat) 0))) (hR.k2 (kd_reg (r := a.toNat) (by omega))) rfl ?_
          rw [fa0]
          refine i_96_61 (c := Int32.ofInt ((S (30 + 3 * a.toNat) 3) - (S (30 + 3 * a.toNat) 0))) (o_sub (S (30 + 3 * a.toNat) 3) (S (30 + 3 * a.toNat) 0)) ?_
          refine i_96_62 (x := 30 + 3 * e.toNat) l2 ?_
          refine i_96_63 (v := Value.int (Int32.ofInt (S1 (30 + 3 * e.toNat) 3))) (hR.k2 (kd_reg (r := e.toNat) (by omega))) rfl ?_
          rw [fe3]
          refine i_96_66 (c := Int32.ofInt (((S (30 + 3 * a.toNat) 3) - (S (30 + 3 * a.toNat) 0)) + (S (30 + 3 * e.toNat) 3))) (o_add ((S (30 + 3 * a.toNat) 3) - (S (30 + 3 * a.toNat) 0)) (S (30 + 3 * e.toNat) 3)) ?_
          refine i_96_67 (x := 30 + 3 * e.toNat) l2 ?_
          refine i_96_68 (v := Value.int (Int32.ofInt (S1 (30 + 3 * e.toNat) 0))) (hR.k2 (kd_reg (r := e.toNat) (by omega))) rfl ?_
          rw [fe0]
          refine i_96_71 (c := Int32.ofInt ((((S (30 + 3 * a.toNat) 3) - (S (30 + 3 * a.toNat) 0)) + (S (30 + 3 * e.toNat) 3)) - (S (30 + 3 * e.toNat) 0))) (o_sub (((S (30 + 3 * a.toNat) 3) - (S (30 + 3 * a.toNat) 0)) + (S (30 + 3 * e.toNat) 3)) (S (30 + 3 * e.toNat) 0)) ?_
          refine i_96_72 (x := 1) l3 ?_
          have hobj := hR.k5 kq_19
          obtain ⟨w, hrun, V3, hR, t1, t2, t3⟩ := x_tm (d := d + 1) (h := 24) (sc := (((S (30 + 3 * a.toNat) 3) - (S (30 + 3 * a.toNat) 0)) + (S (30 + 3 * e.toNat) 3)) - (S (30 + 3 * e.toNat) 0)) (sg := 1) hR kq_24 (by decide) (by decide) (by omega) ⟨by omega, by omega⟩ (by rw [a3]; omega) (by rw [a8]; exact hf.2.2.2.2.1) (by rw [uv_n (by decide), a11]; omega) (by rw [uv_n (by decide), a12]; omega) (by rw [uv_s, fVa, fVe]; exact Nat.le_trans (xbl_prod _ _) (by omega))
          refine i_96_73 hobj (Nat.le_of_ble_eq_true rfl) hrun ?_
          refine i_96_76 ?_
          refine i_96_156 ?_
          exfalso; omega
  obtain ⟨o, w', h1, rfl, h2⟩ := (key (lv_args 0 [Value.ref 19, Value.ref (30 + 3 * a.toNat), Value.ref (30 + 3 * e.toNat)]) rfl rfl rfl).run
  exact ⟨w', h1, h2⟩
set_option maxHeartbeats 8000000 in
theorem a_prodI {a e : Int} (hR : cX w0 L Z S1 V1 w) (hA : aS S V S1 V1 nan inv pi mi b P N num pz nz) (hI : cI S V) (hf : (nan = 0 ∨ nan = 1) ∧ (inv = 0 ∨ inv = 1) ∧ (pi = 0 ∨ pi = 1) ∧ (mi = 0 ∨ mi = 1) ∧ (num = 0 ∨ num = 1) ∧ (pz = 0 ∨ pz = 1) ∧ (nz = 0 ∨ nz = 1)) (hbb : -100000 ≤ b ∧ b ≤ 100000) (hP : xbl P ≤ 400000) (hN : xbl N ≤ 400000) (ha : 0 ≤ a ∧ a ≤ 15) (hb2 : 0 ≤ e ∧ e ≤ 15) (hk : (S (30 + 3 * a.toNat) 1 = 1 ∧ (S (30 + 3 * e.toNat) 1 = 1 ∨ S (30 + 3 * e.toNat) 1 = 3)) ∨ (S (30 + 3 * a.toNat) 1 = 3 ∧ S (30 + 3 * e.toNat) 1 = 1)) : ∃ w', xRun (d + 7) 96 [Value.ref 19, Value.ref (30 + 3 * a.toNat), Value.ref (30 + 3 * e.toNat)] w (.inl none) w' ∧ ∃ S2 V2, cX w0 L Z S2 V2 w' ∧ aS S V S2 V2 (orI nan ((1 : Int) = 0)) inv (orI pi ((1 : Int) = 1 ∧ (xorI (S (30 + 3 * a.toNat) 2) (S (30 + 3 * e.toNat) 2)) = 0)) (orI mi ((1 : Int) = 1 ∧ (xorI (S (30 + 3 * a.toNat) 2) (S (30 + 3 * e.toNat) 2)) ≠ 0)) b P N num (orI pz ((1 : Int) = 2 ∧ (xorI (S (30 + 3 * a.toNat) 2) (S (30 + 3 * e.toNat) 2)) = 0)) (orI nz ((1 : Int) = 2 ∧ (xorI (S (30 + 3 * a.toNat) 2) (S (30 + 3 * e.toNat) 2)) ≠ 0)) := by
  have key : ∀ lv, xld lv 0 = some (Value.ref 19) → xld lv 1 = some (Value.ref (30 + 3 * a.toNat)) → xld lv 2 = some (Value.ref (30 + 3 * e.toNat)) → xEv (d + 7) 96 0 lv [] w (fun o w' => o = .inl none ∧ ∃ S2 V2, cX w0 L Z S2 V2 w' ∧ aS S V S2 V2 (orI nan ((1 : Int) = 0)) inv (orI pi ((1 : Int) = 1 ∧ (xorI (S (30 + 3 * a.toNat) 2) (S (30 + 3 * e.toNat) 2)) = 0)) (orI mi ((1 : Int) = 1 ∧ (xorI (S (30 + 3 * a.toNat) 2) (S (30 + 3 * e.toNat) 2)) ≠ 0)) b P N num (orI pz ((1 : Int) = 2 ∧ (xorI (S (30 + 3 * a.toNat) 2) (S (30 + 3 * e.toNat) 2)) = 0)) (orI nz ((1 : Int) = 2 ∧ (xorI (S (30 + 3 * a.toNat) 2) (S (30 + 3 * e.toNat) 2)) ≠ 0))) := by
    intro lv l0 l1 l2
    have hA0 := hA
    obtain ⟨a1, a2, a3, a4, a5, a6, a7, a8, a9, a10, a11, a12⟩ := hA
    obtain ⟨hp_a, hk_a, hn_a, ht_a, hx_a, hz_a⟩ := hI.1 a.toNat (by omega)
    obtain ⟨hp_e, hk_e, hn_e, ht_e, hx_e, hz_e⟩ := hI.1 e.toNat (by omega)
    have fa0 : S1 (30 + 3 * a.toNat) 0 = S (30 + 3 * a.toNat) 0 := a1.1 _ _ (Or.inl (by omega))
    have fa1 : S1 (30 + 3 * a.toNat) 1 = S (30 + 3 * a.toNat) 1 := a1.1 _ _ (Or.inl (by omega))
    have fa2 : S1 (30 + 3 * a.toNat) 2 = S (30 + 3 * a.toNat) 2 := a1.1 _ _ (Or.inl (by omega))
    have fa3 : S1 (30 + 3 * a.toNat) 3 = S (30 + 3 * a.toNat) 3 := a1.1 _ _ (Or.inl (by omega))
    have fVa : V1 (30 + 3 * a.toNat + 1) = V (30 + 3 * a.toNat + 1) := a2 _ (by omega) (by omega)
    have fe0 : S1 (30 + 3 * e.toNat) 0 = S (30 + 3 * e.toNat) 0 := a1.1 _ _ (Or.inl (by omega))
    have fe1 : S1 (30 + 3 * e.toNat) 1 = S (30 + 3 * e.toNat) 1 := a1.1 _ _ (Or.inl (by omega))
    have fe2 : S1 (30 + 3 * e.toNat) 2 = S (30 + 3 * e.toNat) 2 := a1.1 _ _ (Or.inl (by omega))
    have fe3 : S1 (30 + 3 * e.toNat) 3 = S (30 + 3 * e.toNat) 3 := a1.1 _ _ (Or.inl (by omega))
    have fVe : V1 (30 + 3 * e.toNat + 1) = V (30 + 3 * e.toNat + 1) := a2 _ (by omega) (by omega)
    refine i_96_0 (x := 30 + 3 * a.toNat) l1 ?_
    refine i_96_1 (v := Value.int (Int32.ofInt (S1 (30 + 3 * a.toNat) 2))) (hR.k2 (kd_reg (r := a.toNat) (by omega))) rfl ?_
    rw [fa2]
    refine i_96_4 (x := 30 + 3 * e.toNat) l2 ?_
    refine i_96_5 (v := Value.int (Int32.ofInt (S1 (30 + 3 * e.toNat) 2))) (hR.k2 (kd_reg (r := e.toNat) (by omega))) rfl ?_
    rw [fe2]
    refine i_96_8 (b_eq (a := S (30 + 3 * a.toNat) 2) (b := S (30 + 3 * e.toNat) 2) ⟨by omega, by omega⟩ ⟨by omega, by omega⟩ fun c0 => ?_) (b_ne (a := S (30 + 3 * a.toNat) 2) (b := S (30 + 3 * e.toNat) 2) ⟨by omega, by omega⟩ ⟨by omega, by omega⟩ fun c0 => ?_)
    · refine i_96_15 ?_
      refine i_96_16 rfl ?_
      refine lgen1 (i := 3) (v := Value.int 0) (fun lv lg ls => ?_)
      replace l0 := lg 0 _ rfl rfl l0
      replace l1 := lg 1 _ rfl rfl l1
      replace l2 := lg 2 _ rfl rfl l2
      have l3 := ls
      refine i_96_17 (x := 30 + 3 * a.toNat) l1 ?_
      refine i_96_18 (v := Value.int (Int32.ofInt (S1 (30 + 3 * a.toNat) 1))) (hR.k2 (kd_reg (r := a.toNat) (by omega))) rfl ?_
      rw [fa1]
      refine i_96_21 ?_
      refine i_96_22 (b_ne (a := S (30 + 3 * a.toNat) 1) (b := 3) ⟨by omega, by omega⟩ ⟨by decide, by decide⟩ fun c1 => ?_) (b_eq (a := S (30 + 3 * a.toNat) 1) (b := 3) ⟨by omega, by omega⟩ ⟨by decide, by decide⟩ fun c1 => ?_)
      · refine i_96_79 (x := 30 + 3 * a.toNat) l1 ?_
        refine i_96_80 (v := Value.int (Int32.ofInt (S1 (30 + 3 * a.toNat) 1))) (hR.k2 (kd_reg (r := a.toNat) (by omega))) rfl ?_
        rw [fa1]
        refine i_96_83 (z_eq (a := S (30 + 3 * a.toNat) 1) ⟨by omega, by omega⟩ fun c2 => ?_) (z_ne (a := S (30 + 3 * a.toNat) 1) ⟨by omega, by omega⟩ fun c2 => ?_)
        · refine i_96_93 (x := 19) l0 ?_
          refine i_96_94 ?_
          refine i_96_95 (fs2 := f5 (u1 (S1 19) 5 1)) (hR.k5 kq_19) rfl (Nat.le_of_ble_eq_true rfl) rfl (h7k kq_19 (by decide)) ?_
          refine xgen (P := cX w0 L Z (u2 S1 19 5 1) V1) (hR.p5 kq_19) (fun w hR => ?_)
          refine i_96_98 ?_
          refine i_96_156 ?_
          exfalso; omega
        · refine i_96_86 (x := 30 + 3 * e.toNat) l2 ?_
          refine i_96_87 (v := Value.int (Int32.ofInt (S1 (30 + 3 * e.toNat) 1))) (hR.k2 (kd_reg (r := e.toNat) (by omega))) rfl ?_
          rw [fe1]
          refine i_96_90 (z_ne (a := S (30 + 3 * e.toNat) 1) ⟨by omega, by omega⟩ fun c3 => ?_) (z_eq (a := S (30 + 3 * e.toNat) 1) ⟨by omega, by omega⟩ fun c3 => ?_)
          · refine i_96_101 (x := 30 + 3 * a.toNat) l1 ?_
            refine i_96_102 (v := Value.int (Int32.ofInt (S1 (30 + 3 * a.toNat) 1))) (hR.k2 (kd_reg (r := a.toNat) (by omega))) rfl ?_
            rw [fa1]
            refine i_96_105 ?_
            refine i_96_106 (b_eq (a := S (30 + 3 * a.toNat) 1) (b := 1) ⟨by omega, by omega⟩ ⟨by decide, by decide⟩ fun c4 => ?_) (b_ne (a := S (30 + 3 * a.toNat) 1) (b := 1) ⟨by omega, by omega⟩ ⟨by decide, by decide⟩ fun c4 => ?_)
            · refine i_96_126 (x := 30 + 3 * a.toNat) l1 ?_
              refine i_96_127 (v := Value.int (Int32.ofInt (S1 (30 + 3 * a.toNat) 1))) (hR.k2 (kd_reg (r := a.toNat) (by omega))) rfl ?_
              rw [fa1]
              refine i_96_130 ?_
              refine i_96_131 (b_eq (a := S (30 + 3 * a.toNat) 1) (b := 2) ⟨by omega, by omega⟩ ⟨by decide, by decide⟩ fun c5 => absurd c5 (by omega)) (b_ne (a := S (30 + 3 * a.toNat) 1) (b := 2) ⟨by omega, by omega⟩ ⟨by decide, by decide⟩ fun c5 => ?_)
              refine i_96_134 (x := 30 + 3 * e.toNat) l2 ?_
              refine i_96_135 (v := Value.int (Int32.ofInt (S1 (30 + 3 * e.toNat) 1))) (hR.k2 (kd_reg (r := e.toNat) (by omega))) rfl ?_
              rw [fe1]
              refine i_96_138 ?_
              refine i_96_139 (b_ne (a := S (30 + 3 * e.toNat) 1) (b := 2) ⟨by omega, by omega⟩ ⟨by decide, by decide⟩ fun c6 => ?_) (b_eq (a := S (30 + 3 * e.toNat) 1) (b := 2) ⟨by omega, by omega⟩ ⟨by decide, by decide⟩ fun c6 => ?_)
              · refine i_96_150 (x := 19) l0 ?_
                refine i_96_151 ?_
                refine i_96_152 (x := 0) l3 ?_
                have hobj := hR.k5 kq_19
                obtain ⟨w, hrun, hR⟩ := x_tsp (d := d + 6) (k := 1) (sg := 0) hR ⟨by omega, by omega⟩ (by omega) (by rw [a4]; exact hf.1) (by rw [a6]; exact hf.2.2.1) (by rw [a7]; exact hf.2.2.2.1) (by rw [a9]; exact hf.2.2.2.2.2.1) (by rw [a10]; exact hf.2.2.2.2.2.2)
                refine i_96_153 hobj (Nat.le_of_ble_eq_true rfl) hrun ?_
                refine i_96_156 ?_
                have esg : xorI (S (30 + 3 * a.toNat) 2) (S (30 + 3 * e.toNat) 2) = 0 := by unfold xorI; first | (rw [if_pos (by omega)]; done) | (rw [if_neg (by omega)]; done)
                rw [esg]
                exact ⟨rfl, _, _, hR, aS_tsp (k := 1) (sg := 0) hA0⟩
              · refine i_96_142 (x := 19) l0 ?_
                refine i_96_143 ?_
                refine i_96_144 (fs2 := f5 (u1 (S1 19) 6 1)) (hR.k5 kq_19) rfl (Nat.le_of_ble_eq_true rfl) rfl (h7k kq_19 (by decide)) ?_
                refine xgen (P := cX w0 L Z (u2 S1 19 6 1) V1) (hR.p5 kq_19) (fun w hR => ?_)
                refine i_96_147 ?_
                refine i_96_156 ?_
                exfalso; omega
            · refine i_96_109 (x := 30 + 3 * e.toNat) l2 ?_
              refine i_96_110 (v := Value.int (Int32.ofInt (S1 (30 + 3 * e.toNat) 1))) (hR.k2 (kd_reg (r := e.toNat) (by omega))) rfl ?_
              rw [fe1]
              refine i_96_113 ?_
              refine i_96_114 (b_eq (a := S (30 + 3 * e.toNat) 1) (b := 1) ⟨by omega, by omega⟩ ⟨by decide, by decide⟩ fun c7 => ?_) (b_ne (a := S (30 + 3 * e.toNat) 1) (b := 1) ⟨by omega, by omega⟩ ⟨by decide, by decide⟩ fun c7 => ?_)
              · refine i_96_126 (x := 30 + 3 * a.toNat) l1 ?_
                refine i_96_127 (v := Value.int (Int32.ofInt (S1 (30 + 3 * a.toNat) 1))) (hR.k2 (kd_reg (r := a.toNat) (by omega))) rfl ?_
                rw [fa1]
                refine i_96_130 ?_
                refine i_96_131 (b_eq (a := S (30 + 3 * a.toNat) 1) (b := 2) ⟨by omega, by omega⟩ ⟨by decide, by decide⟩ fun c8 => ?_) (b_ne (a := S (30 + 3 * a.toNat) 1) (b := 2) ⟨by omega, by omega⟩ ⟨by decide, by decide⟩ fun c8 => ?_)
                · refine i_96_142 (x := 19) l0 ?_
                  refine i_96_143 ?_
                  refine i_96_144 (fs2 := f5 (u1 (S1 19) 6 1)) (hR.k5 kq_19) rfl (Nat.le_of_ble_eq_true rfl) rfl (h7k kq_19 (by decide)) ?_
                  refine xgen (P := cX w0 L Z (u2 S1 19 6 1) V1) (hR.p5 kq_19) (fun w hR => ?_)
                  refine i_96_147 ?_
                  refine i_96_156 ?_
                  exfalso; omega
                · refine i_96_134 (x := 30 + 3 * e.toNat) l2 ?_
                  refine i_96_135 (v := Value.int (Int32.ofInt (S1 (30 + 3 * e.toNat) 1))) (hR.k2 (kd_reg (r := e.toNat) (by omega))) rfl ?_
                  rw [fe1]
                  refine i_96_138 ?_
                  refine i_96_139 (b_ne (a := S (30 + 3 * e.toNat) 1) (b := 2) ⟨by omega, by omega⟩ ⟨by decide, by decide⟩ fun c9 => ?_) (b_eq (a := S (30 + 3 * e.toNat) 1) (b := 2) ⟨by omega, by omega⟩ ⟨by decide, by decide⟩ fun c9 => absurd c9 (by omega))
                  refine i_96_150 (x := 19) l0 ?_
                  refine i_96_151 ?_
                  refine i_96_152 (x := 0) l3 ?_
                  have hobj := hR.k5 kq_19
                  obtain ⟨w, hrun, hR⟩ := x_tsp (d := d + 6) (k := 1) (sg := 0) hR ⟨by omega, by omega⟩ (by omega) (by rw [a4]; exact hf.1) (by rw [a6]; exact hf.2.2.1) (by rw [a7]; exact hf.2.2.2.1) (by rw [a9]; exact hf.2.2.2.2.2.1) (by rw [a10]; exact hf.2.2.2.2.2.2)
                  refine i_96_153 hobj (Nat.le_of_ble_eq_true rfl) hrun ?_
                  refine i_96_156 ?_
                  have esg : xorI (S (30 + 3 * a.toNat) 2) (S (30 + 3 * e.toNat) 2) = 0 := by unfold xorI; first | (rw [if_pos (by omega)]; done) | (rw [if_neg (by omega)]; done)
                  rw [esg]
                  exact ⟨rfl, _, _, hR, aS_tsp (k := 1) (sg := 0) hA0⟩
              · refine i_96_117 (x := 19) l0 ?_
                refine i_96_118 ?_
                refine i_96_119 (x := 0) l3 ?_
                have hobj := hR.k5 kq_19
                obtain ⟨w, hrun, hR⟩ := x_tsp (d := d + 6) (k := 2) (sg := 0) hR ⟨by omega, by omega⟩ (by omega) (by rw [a4]; exact hf.1) (by rw [a6]; exact hf.2.2.1) (by rw [a7]; exact hf.2.2.2.1) (by rw [a9]; exact hf.2.2.2.2.2.1) (by rw [a10]; exact hf.2.2.2.2.2.2)
                refine i_96_120 hobj (Nat.le_of_ble_eq_true rfl) hrun ?_
                refine i_96_123 ?_
                refine i_96_156 ?_
                exfalso; omega
          · refine i_96_93 (x := 19) l0 ?_
            refine i_96_94 ?_
            refine i_96_95 (fs2 := f5 (u1 (S1 19) 5 1)) (hR.k5 kq_19) rfl (Nat.le_of_ble_eq_true rfl) rfl (h7k kq_19 (by decide)) ?_
            refine xgen (P := cX w0 L Z (u2 S1 19 5 1) V1) (hR.p5 kq_19) (fun w hR => ?_)
            refine i_96_98 ?_
            refine i_96_156 ?_
            exfalso; omega
      · try replace ht_a := ht_a.resolve_left (by omega)
        try replace hx_a := hx_a.resolve_left (by omega)
        refine i_96_25 (x := 30 + 3 * e.toNat) l2 ?_
        refine i_96_26 (v := Value.int (Int32.ofInt (S1 (30 + 3 * e.toNat) 1))) (hR.k2 (kd_reg (r := e.toNat) (by omega))) rfl ?_
        rw [fe1]
        refine i_96_29 ?_
        refine i_96_30 (b_ne (a := S (30 + 3 * e.toNat) 1) (b := 3) ⟨by omega, by omega⟩ ⟨by decide, by decide⟩ fun c10 => ?_) (b_eq (a := S (30 + 3 * e.toNat) 1) (b := 3) ⟨by omega, by omega⟩ ⟨by decide, by decide⟩ fun c10 => ?_)
        · refine i_96_79 (x := 30 + 3 * a.toNat) l1 ?_
          refine i_96_80 (v := Value.int (Int32.ofInt (S1 (30 + 3 * a.toNat) 1))) (hR.k2 (kd_reg (r := a.toNat) (by omega))) rfl ?_
          rw [fa1]
          refine i_96_83 (z_eq (a := S (30 + 3 * a.toNat) 1) ⟨by omega, by omega⟩ fun c11 => absurd c11 (by omega)) (z_ne (a := S (30 + 3 * a.toNat) 1) ⟨by omega, by omega⟩ fun c11 => ?_)
          refine i_96_86 (x := 30 + 3 * e.toNat) l2 ?_
          refine i_96_87 (v := Value.int (Int32.ofInt (S1 (30 + 3 * e.toNat) 1))) (hR.k2 (kd_reg (r := e.toNat) (by omega))) rfl ?_
          rw [fe1]
          refine i_96_90 (z_ne (a := S (30 + 3 * e.toNat) 1) ⟨by omega, by omega⟩ fun c12 => ?_) (z_eq (a := S (30 + 3 * e.toNat) 1) ⟨by omega, by omega⟩ fun c12 => ?_)
          · refine i_96_101 (x := 30 + 3 * a.toNat) l1 ?_
            refine i_96_102 (v := Value.int (Int32.ofInt (S1 (30 + 3 * a.toNat) 1))) (hR.k2 (kd_reg (r := a.toNat) (by omega))) rfl ?_
            rw [fa1]
            refine i_96_105 ?_
            refine i_96_106 (b_eq (a := S (30 + 3 * a.toNat) 1) (b := 1) ⟨by omega, by omega⟩ ⟨by decide, by decide⟩ fun c13 => absurd c13 (by omega)) (b_ne (a := S (30 + 3 * a.toNat) 1) (b := 1) ⟨by omega, by omega⟩ ⟨by decide, by decide⟩ fun c13 => ?_)
            refine i_96_109 (x := 30 + 3 * e.toNat) l2 ?_
            refine i_96_110 (v := Value.int (Int32.ofInt (S1 (30 + 3 * e.toNat) 1))) (hR.k2 (kd_reg (r := e.toNat) (by omega))) rfl ?_
            rw [fe1]
            refine i_96_113 ?_
            refine i_96_114 (b_eq (a := S (30 + 3 * e.toNat) 1) (b := 1) ⟨by omega, by omega⟩ ⟨by decide, by decide⟩ fun c14 => ?_) (b_ne (a := S (30 + 3 * e.toNat) 1) (b := 1) ⟨by omega, by omega⟩ ⟨by decide, by decide⟩ fun c14 => ?_)
            · refine i_96_126 (x := 30 + 3 * a.toNat) l1 ?_
              refine i_96_127 (v := Value.int (Int32.ofInt (S1 (30 + 3 * a.toNat) 1))) (hR.k2 (kd_reg (r := a.toNat) (by omega))) rfl ?_
              rw [fa1]
              refine i_96_130 ?_
              refine i_96_131 (b_eq (a := S (30 + 3 * a.toNat) 1) (b := 2) ⟨by omega, by omega⟩ ⟨by decide, by decide⟩ fun c15 => absurd c15 (by omega)) (b_ne (a := S (30 + 3 * a.toNat) 1) (b := 2) ⟨by omega, by omega⟩ ⟨by decide, by decide⟩ fun c15 => ?_)
              refine i_96_134 (x := 30 + 3 * e.toNat) l2 ?_
              refine i_96_135 (v := Value.int (Int32.ofInt (S1 (30 + 3 * e.toNat) 1))) (hR.k2 (kd_reg (r := e.toNat) (by omega))) rfl ?_
              rw [fe1]
              refine i_96_138 ?_
              refine i_96_139 (b_ne (a := S (30 + 3 * e.toNat) 1) (b := 2) ⟨by omega, by omega⟩ ⟨by decide, by decide⟩ fun c16 => ?_) (b_eq (a := S (30 + 3 * e.toNat) 1) (b := 2) ⟨by omega, by omega⟩ ⟨by decide, by decide⟩ fun c16 => absurd c16 (by omega))
              refine i_96_150 (x := 19) l0 ?_
              refine i_96_151 ?_
              refine i_96_152 (x := 0) l3 ?_
              have hobj := hR.k5 kq_19
              obtain ⟨w, hrun, hR⟩ := x_tsp (d := d + 6) (k := 1) (sg := 0) hR ⟨by omega, by omega⟩ (by omega) (by rw [a4]; exact hf.1) (by rw [a6]; exact hf.2.2.1) (by rw [a7]; exact hf.2.2.2.1) (by rw [a9]; exact hf.2.2.2.2.2.1) (by rw [a10]; exact hf.2.2.2.2.2.2)
              refine i_96_153 hobj (Nat.le_of_ble_eq_true rfl) hrun ?_
              refine i_96_156 ?_
              have esg : xorI (S (30 + 3 * a.toNat) 2) (S (30 + 3 * e.toNat) 2) = 0 := by unfold xorI; first | (rw [if_pos (by omega)]; done) | (rw [if_neg (by omega)]; done)
              rw [esg]
              exact ⟨rfl, _, _, hR, aS_tsp (k := 1) (sg := 0) hA0⟩
            · refine i_96_117 (x := 19) l0 ?_
              refine i_96_118 ?_
              refine i_96_119 (x := 0) l3 ?_
              have hobj := hR.k5 kq_19
              obtain ⟨w, hrun, hR⟩ := x_tsp (d := d + 6) (k := 2) (sg := 0) hR ⟨by omega, by omega⟩ (by omega) (by rw [a4]; exact hf.1) (by rw [a6]; exact hf.2.2.1) (by rw [a7]; exact hf.2.2.2.1) (by rw [a9]; exact hf.2.2.2.2.2.1) (by rw [a10]; exact hf.2.2.2.2.2.2)
              refine i_96_120 hobj (Nat.le_of_ble_eq_true rfl) hrun ?_
              refine i_96_123 ?_
              refine i_96_156 ?_
              exfalso; omega
          · refine i_96_93 (x := 19) l0 ?_
            refine i_96_94 ?_
            refine i_96_95 (fs2 := f5 (u1 (S1 19) 5 1)) (hR.k5 kq_19) rfl (Nat.le_of_ble_eq_true rfl) rfl (h7k kq_19 (by decide)) ?_
            refine xgen (P := cX w0 L Z (u2 S1 19 5 1) V1) (hR.p5 kq_19) (fun w hR => ?_)
            refine i_96_98 ?_
            refine i_96_156 ?_
            exfalso; omega
        · try replace ht_e := ht_e.resolve_left (by omega)
          try replace hx_e := hx_e.resolve_left (by omega)
          refine i_96_33 (x := 19) l0 ?_
          refine i_96_34 (v := Value.ref 24) (hR.k5 kq_19) rfl ?_
          refine i_96_37 (x := 30 + 3 * a.toNat) l1 ?_
          refine i_96_38 (v := Value.ref ((30 + 3 * a.toNat) + 1)) (hR.k2 (kd_reg (r := a.toNat) (by omega))) rfl ?_
          refine i_96_41 (x := 30 + 3 * e.toNat) l2 ?_
          refine i_96_42 (v := Value.ref ((30 + 3 * e.toNat) + 1)) (hR.k2 (kd_reg (r := e.toNat) (by omega))) rfl ?_
          obtain ⟨fs, hobj⟩ := hR.nat kq_24
          obtain ⟨w, hrun, hR⟩ := X_prod (d := d + 3) (h := 24) (ha := (30 + 3 * a.toNat) + 1) (hb := (30 + 3 * e.toNat) + 1) (u := V1 ((30 + 3 * a.toNat) + 1)) (v2 := V1 ((30 + 3 * e.toNat) + 1)) hR kq_24 (kd_rem (r := a.toNat) (by omega)) (kd_rem (r := e.toNat) (by omega)) (by omega) (by omega) (rfl) (rfl) (by omega)
          refine i_96_45 hobj (Nat.le_of_ble_eq_true rfl) hrun ?_
          refine i_96_48 (x := 19) l0 ?_
          refine i_96_49 (x := 19) l0 ?_
          refine i_96_50 (v := Value.ref 24) (hR.k5 kq_19) rfl ?_
          refine i_96_53 (x := 30 + 3 * a.toNat) l1 ?_
          refine i_96_54 (v := Value.int (Int32.ofInt (S1 (30 + 3 * a.toNat) 3))) (hR.k2 (kd_reg (r := a.toNat) (by omega))) rfl ?_
          rw [fa3]
          refine i_96_57 (x := 30 + 3 * a.toNat) l1 ?_
          refine i_96_58 (v := Value.int (Int32.ofInt (S1 (30 + 3 * a.toNat) 0))) (hR.k2 (kd_reg (r := a.toNat) (by omega))) rfl ?_
          rw [fa0]
          refine i_96_61 (c := Int32.ofInt ((S (30 + 3 * a.toNat) 3) - (S (30 + 3 * a.toNat) 0))) (o_sub (S (30 + 3 * a.toNat) 3) (S (30 + 3 * a.toNat) 0)) ?_
          refine i_96_62 (x := 30 + 3 * e.toNat) l2 ?_
          refine i_96_63 (v := Value.int (Int32.ofInt (S1 (30 + 3 * e.toNat) 3))) (hR.k2 (kd_reg (r := e.toNat) (by omega))) rfl ?_
          rw [fe3]
          refine i_96_66 (c := Int32.ofInt (((S (30 + 3 * a.toNat) 3) - (S (30 + 3 * a.toNat) 0)) + (S (30 + 3 * e.toNat) 3))) (o_add ((S (30 + 3 * a.toNat) 3) - (S (30 + 3 * a.toNat) 0)) (S (30 + 3 * e.toNat) 3)) ?_
          refine i_96_67 (x := 30 + 3 * e.toNat) l2 ?_
          refine i_96_68 (v := Value.int (Int32.ofInt (S1 (30 + 3 * e.toNat) 0))) (hR.k2 (kd_reg (r := e.toNat) (by omega))) rfl ?_
          rw [fe0]
          refine i_96_71 (c := Int32.ofInt ((((S (30 + 3 * a.toNat) 3) - (S (30 + 3 * a.toNat) 0)) + (S (30 + 3 * e.toNat) 3)) - (S (30 + 3 * e.toNat) 0))) (o_sub (((S (30 + 3 * a.toNat) 3) - (S (30 + 3 * a.toNat) 0)) + (S (30 + 3 * e.toNat) 3)) (S (30 + 3 * e.toNat) 0)) ?_
          refine i_96_72 (x := 0) l3 ?_
          have hobj := hR.k5 kq_19
          obtain ⟨w, hrun, V3, hR, t1, t2, t3⟩ := x_tm (d := d + 1) (h := 24) (sc := (((S (30 + 3 * a.toNat) 3) - (S (30 + 3 * a.toNat) 0)) + (S (30 + 3 * e.toNat) 3)) - (S (30 + 3 * e.toNat) 0)) (sg := 0) hR kq_24 (by decide) (by decide) (by omega) ⟨by omega, by omega⟩ (by rw [a3]; omega) (by rw [a8]; exact hf.2.2.2.2.1) (by rw [uv_n (by decide), a11]; omega) (by rw [uv_n (by decide), a12]; omega) (by rw [uv_s, fVa, fVe]; exact Nat.le_trans (xbl_prod _ _) (by omega))
          refine i_96_73 hobj (Nat.le_of_ble_eq_true rfl) hrun ?_
          refine i_96_76 ?_
          refine i_96_156 ?_
          exfalso; omega
    · refine i_96_11 ?_
      refine i_96_12 ?_
      refine i_96_16 rfl ?_
      refine lgen1 (i := 3) (v := Value.int 1) (fun lv lg ls => ?_)
      replace l0 := lg 0 _ rfl rfl l0
      replace l1 := lg 1 _ rfl rfl l1
      replace l2 := lg 2 _ rfl rfl l2
      have l3 := ls
      refine i_96_17 (x := 30 + 3 * a.toNat) l1 ?_
      refine i_96_18 (v := Value.int (Int32.ofInt (S1 (30 + 3 * a.toNat) 1))) (hR.k2 (kd_reg (r := a.toNat) (by omega))) rfl ?_
      rw [fa1]
      refine i_96_21 ?_
      refine i_96_22 (b_ne (a := S (30 + 3 * a.toNat) 1) (b := 3) ⟨by omega, by omega⟩ ⟨by decide, by decide⟩ fun c17 => ?_) (b_eq (a := S (30 + 3 * a.toNat) 1) (b := 3) ⟨by omega, by omega⟩ ⟨by decide, by decide⟩ fun c17 => ?_)
      · refine i_96_79 (x := 30 + 3 * a.toNat) l1 ?_
        refine i_96_80 (v := Value.int (Int32.ofInt (S1 (30 + 3 * a.toNat) 1))) (hR.k2 (kd_reg (r := a.toNat) (by omega))) rfl ?_
        rw [fa1]
        refine i_96_83 (z_eq (a := S (30 + 3 * a.toNat) 1) ⟨by omega, by omega⟩ fun c18 => ?_) (z_ne (a := S (30 + 3 * a.toNat) 1) ⟨by omega, by omega⟩ fun c18 => ?_)
        · refine i_96_93 (x := 19) l0 ?_
          refine i_96_94 ?_
          refine i_96_95 (fs2 := f5 (u1 (S1 19) 5 1)) (hR.k5 kq_19) rfl (Nat.le_of_ble_eq_true rfl) rfl (h7k kq_19 (by decide)) ?_
          refine xgen (P := cX w0 L Z (u2 S1 19 5 1) V1) (hR.p5 kq_19) (fun w hR => ?_)
          refine i_96_98 ?_
          refine i_96_156 ?_
          exfalso; omega
        · refine i_96_86 (x := 30 + 3 * e.toNat) l2 ?_
          refine i_96_87 (v := Value.int (Int32.ofInt (S1 (30 + 3 * e.toNat) 1))) (hR.k2 (kd_reg (r := e.toNat) (by omega))) rfl ?_
          rw [fe1]
          refine i_96_90 (z_ne (a := S (30 + 3 * e.toNat) 1) ⟨by omega, by omega⟩ fun c19 => ?_) (z_eq (a := S (30 + 3 * e.toNat) 1) ⟨by omega, by omega⟩ fun c19 => ?_)
          · refine i_96_101 (x := 30 + 3 * a.toNat) l1 ?_
            refine i_96_102 (v := Value.int (Int32.ofInt (S1 (30 + 3 * a.toNat) 1))) (hR.k2 (kd_reg (r := a.toNat) (by omega))) rfl ?_
            rw [fa1]
            refine i_96_105 ?_
            refine i_96_106 (b_eq (a := S (30 + 3 * a.toNat) 1) (b := 1) ⟨by omega, by omega⟩ ⟨by decide, by decide⟩ fun c20 => ?_) (b_ne (a := S (30 + 3 * a.toNat) 1) (b := 1) ⟨by omega, by omega⟩ ⟨by decide, by decide⟩ fun c20 => ?_)
            · refine i_96_126 (x := 30 + 3 * a.toNat) l1 ?_
              refine i_96_127 (v := Value.int (Int32.ofInt (S1 (30 + 3 * a.toNat) 1))) (hR.k2 (kd_reg (r := a.toNat) (by omega))) rfl ?_
              rw [fa1]
              refine i_96_130 ?_
              refine i_96_131 (b_eq (a := S (30 + 3 * a.toNat) 1) (b := 2) ⟨by omega, by omega⟩ ⟨by decide, by decide⟩ fun c21 => absurd c21 (by omega)) (b_ne (a := S (30 + 3 * a.toNat) 1) (b := 2) ⟨by omega, by omega⟩ ⟨by decide, by decide⟩ fun c21 => ?_)
              refine i_96_134 (x := 30 + 3 * e.toNat) l2 ?_
              refine i_96_135 (v := Value.int (Int32.ofInt (S1 (30 + 3 * e.toNat) 1))) (hR.k2 (kd_reg (r := e.toNat) (by omega))) rfl ?_
              rw [fe1]
              refine i_96_138 ?_
              refine i_96_139 (b_ne (a := S (30 + 3 * e.toNat) 1) (b := 2) ⟨by omega, by omega⟩ ⟨by decide, by decide⟩ fun c22 => ?_) (b_eq (a := S (30 + 3 * e.toNat) 1) (b := 2) ⟨by omega, by omega⟩ ⟨by decide, by decide⟩ fun c22 => ?_)
              · refine i_96_150 (x := 19) l0 ?_
                refine i_96_151 ?_
                refine i_96_152 (x := 1) l3 ?_
                have hobj := hR.k5 kq_19
                obtain ⟨w, hrun, hR⟩ := x_tsp (d := d + 6) (k := 1) (sg := 1) hR ⟨by omega, by omega⟩ (by omega) (by rw [a4]; exact hf.1) (by rw [a6]; exact hf.2.2.1) (by rw [a7]; exact hf.2.2.2.1) (by rw [a9]; exact hf.2.2.2.2.2.1) (by rw [a10]; exact hf.2.2.2.2.2.2)
                refine i_96_153 hobj (Nat.le_of_ble_eq_true rfl) hrun ?_
                refine i_96_156 ?_
                have esg : xorI (S (30 + 3 * a.toNat) 2) (S (30 + 3 * e.toNat) 2) = 1 := by unfold xorI; first | (rw [if_pos (by omega)]; done) | (rw [if_neg (by omega)]; done)
                rw [esg]
                exact ⟨rfl, _, _, hR, aS_tsp (k := 1) (sg := 1) hA0⟩
              · refine i_96_142 (x := 19) l0 ?_
                refine i_96_143 ?_
                refine i_96_144 (fs2 := f5 (u1 (S1 19) 6 1)) (hR.k5 kq_19) rfl (Nat.le_of_ble_eq_true rfl) rfl (h7k kq_19 (by decide)) ?_
                refine xgen (P := cX w0 L Z (u2 S1 19 6 1) V1) (hR.p5 kq_19) (fun w hR => ?_)
                refine i_96_147 ?_
                refine i_96_156 ?_
                exfalso; omega
            · refine i_96_109 (x := 30 + 3 * e.toNat) l2 ?_
              refine i_96_110 (v := Value.int (Int32.ofInt (S1 (30 + 3 * e.toNat) 1))) (hR.k2 (kd_reg (r := e.toNat) (by omega))) rfl ?_
              rw [fe1]
              refine i_96_113 ?_
              refine i_96_114 (b_eq (a := S (30 + 3 * e.toNat) 1) (b := 1) ⟨by omega, by omega⟩ ⟨by decide, by decide⟩ fun c23 => ?_) (b_ne (a := S (30 + 3 * e.toNat) 1) (b := 1) ⟨by omega, by omega⟩ ⟨by decide, by decide⟩ fun c23 => ?_)
              · refine i_96_126 (x := 30 + 3 * a.toNat) l1 ?_
                refine i_96_127 (v := Value.int (Int32.ofInt (S1 (30 + 3 * a.toNat) 1))) (hR.k2 (kd_reg (r := a.toNat) (by omega))) rfl ?_
                rw [fa1]
                refine i_96_130 ?_
                refine i_96_131 (b_eq (a := S (30 + 3 * a.toNat) 1) (b := 2) ⟨by omega, by omega⟩ ⟨by decide, by decide⟩ fun c24 => ?_) (b_ne (a := S (30 + 3 * a.toNat) 1) (b := 2) ⟨by omega, by omega⟩ ⟨by decide, by decide⟩ fun c24 => ?_)
                · refine i_96_142 (x := 19) l0 ?_
                  refine i_96_143 ?_
                  refine i_96_144 (fs2 := f5 (u1 (S1 19) 6 1)) (hR.k5 kq_19) rfl (Nat.le_of_ble_eq_true rfl) rfl (h7k kq_19 (by decide)) ?_
                  refine xgen (P := cX w0 L Z (u2 S1 19 6 1) V1) (hR.p5 kq_19) (fun w hR => ?_)
                  refine i_96_147 ?_
                  refine i_96_156 ?_
                  exfalso; omega
                · refine i_96_134 (x := 30 + 3 * e.toNat) l2 ?_
                  refine i_96_135 (v := Value.int (Int32.ofInt (S1 (30 + 3 * e.toNat) 1))) (hR.k2 (kd_reg (r := e.toNat) (by omega))) rfl ?_
                  rw [fe1]
                  refine i_96_138 ?_
                  refine i_96_139 (b_ne (a := S (30 + 3 * e.toNat) 1) (b := 2) ⟨by omega, by omega⟩ ⟨by decide, by decide⟩ fun c25 => ?_) (b_eq (a := S (30 + 3 * e.toNat) 1) (b := 2) ⟨by omega, by omega⟩ ⟨by decide, by decide⟩ fun c25 => absurd c25 (by omega))
                  refine i_96_150 (x := 19) l0 ?_
                  refine i_96_151 ?_
                  refine i_96_152 (x := 1) l3 ?_
                  have hobj := hR.k5 kq_19
                  obtain ⟨w, hrun, hR⟩ := x_tsp (d := d + 6) (k := 1) (sg := 1) hR ⟨by omega, by omega⟩ (by omega) (by rw [a4]; exact hf.1) (by rw [a6]; exact hf.2.2.1) (by rw [a7]; exact hf.2.2.2.1) (by rw [a9]; exact hf.2.2.2.2.2.1) (by rw [a10]; exact hf.2.2.2.2.2.2)
                  refine i_96_153 hobj (Nat.le_of_ble_eq_true rfl) hrun ?_
                  refine i_96_156 ?_
                  have esg : xorI (S (30 + 3 * a.toNat) 2) (S (30 + 3 * e.toNat) 2) = 1 := by unfold xorI; first | (rw [if_pos (by omega)]; done) | (rw [if_neg (by omega)]; done)
                  rw [esg]
                  exact ⟨rfl, _, _, hR, aS_tsp (k := 1) (sg := 1) hA0⟩
              · refine i_96_117 (x := 19) l0 ?_
                refine i_96_118 ?_
                refine i_96_119 (x := 1) l3 ?_
                have hobj := hR.k5 kq_19
                obtain ⟨w, hrun, hR⟩ := x_tsp (d := d + 6) (k := 2) (sg := 1) hR ⟨by omega, by omega⟩ (by omega) (by rw [a4]; exact hf.1) (by rw [a6]; exact hf.2.2.1) (by rw [a7]; exact hf.2.2.2.1) (by rw [a9]; exact hf.2.2.2.2.2.1) (by rw [a10]; exact hf.2.2.2.2.2.2)
                refine i_96_120 hobj (Nat.le_of_ble_eq_true rfl) hrun ?_
                refine i_96_123 ?_
                refine i_96_156 ?_
                exfalso; omega
          · refine i_96_93 (x := 19) l0 ?_
            refine i_96_94 ?_
            refine i_96_95 (fs2 := f5 (u1 (S1 19) 5 1)) (hR.k5 kq_19) rfl (Nat.le_of_ble_eq_true rfl) rfl (h7k kq_19 (by decide)) ?_
            refine xgen (P := cX w0 L Z (u2 S1 19 5 1) V1) (hR.p5 kq_19) (fun w hR => ?_)
            refine i_96_98 ?_
            refine i_96_156 ?_
            exfalso; omega
      · try replace ht_a := ht_a.resolve_left (by omega)
        try replace hx_a := hx_a.resolve_left (by omega)
        refine i_96_25 (x := 30 + 3 * e.toNat) l2 ?_
        refine i_96_26 (v := Value.int (Int32.ofInt (S1 (30 + 3 * e.toNat) 1))) (hR.k2 (kd_reg (r := e.toNat) (by omega))) rfl ?_
        rw [fe1]
        refine i_96_29 ?_
        refine i_96_30 (b_ne (a := S (30 + 3 * e.toNat) 1) (b := 3) ⟨by omega, by omega⟩ ⟨by decide, by decide⟩ fun c26 => ?_) (b_eq (a := S (30 + 3 * e.toNat) 1) (b := 3) ⟨by omega, by omega⟩ ⟨by decide, by decide⟩ fun c26 => ?_)
        · refine i_96_79 (x := 30 + 3 * a.toNat) l1 ?_
          refine i_96_80 (v := Value.int (Int32.ofInt (S1 (30 + 3 * a.toNat) 1))) (hR.k2 (kd_reg (r := a.toNat) (by omega))) rfl ?_
          rw [fa1]
          refine i_96_83 (z_eq (a := S (30 + 3 * a.toNat) 1) ⟨by omega, by omega⟩ fun c27 => absurd c27 (by omega)) (z_ne (a := S (30 + 3 * a.toNat) 1) ⟨by omega, by omega⟩ fun c27 => ?_)
          refine i_96_86 (x := 30 + 3 * e.toNat) l2 ?_
          refine i_96_87 (v := Value.int (Int32.ofInt (S1 (30 + 3 * e.toNat) 1))) (hR.k2 (kd_reg (r := e.toNat) (by omega))) rfl ?_
          rw [fe1]
          refine i_96_90 (z_ne (a := S (30 + 3 * e.toNat) 1) ⟨by omega, by omega⟩ fun c28 => ?_) (z_eq (a := S (30 + 3 * e.toNat) 1) ⟨by omega, by omega⟩ fun c28 => ?_)
          · refine i_96_101 (x := 30 + 3 * a.toNat) l1 ?_
            refine i_96_102 (v := Value.int (Int32.ofInt (S1 (30 + 3 * a.toNat) 1))) (hR.k2 (kd_reg (r := a.toNat) (by omega))) rfl ?_
            rw [fa1]
            refine i_96_105 ?_
            refine i_96_106 (b_eq (a := S (30 + 3 * a.toNat) 1) (b := 1) ⟨by omega, by omega⟩ ⟨by decide, by decide⟩ fun c29 => absurd c29 (by omega)) (b_ne (a := S (30 + 3 * a.toNat) 1) (b := 1) ⟨by omega, by omega⟩ ⟨by decide, by decide⟩ fun c29 => ?_)
            refine i_96_109 (x := 30 + 3 * e.toNat) l2 ?_
            refine i_96_110 (v := Value.int (Int32.ofInt (S1 (30 + 3 * e.toNat) 1))) (hR.k2 (kd_reg (r := e.toNat) (by omega))) rfl ?_
            rw [fe1]
            refine i_96_113 ?_
            refine i_96_114 (b_eq (a := S (30 + 3 * e.toNat) 1) (b := 1) ⟨by omega, by omega⟩ ⟨by decide, by decide⟩ fun c30 => ?_) (b_ne (a := S (30 + 3 * e.toNat) 1) (b := 1) ⟨by omega, by omega⟩ ⟨by decide, by decide⟩ fun c30 => ?_)
            · refine i_96_126 (x := 30 + 3 * a.toNat) l1 ?_
              refine i_96_127 (v := Value.int (Int32.ofInt (S1 (30 + 3 * a.toNat) 1))) (hR.k2 (kd_reg (r := a.toNat) (by omega))) rfl ?_
              rw [fa1]
              refine i_96_130 ?_
              refine i_96_131 (b_eq (a := S (30 + 3 * a.toNat) 1) (b := 2) ⟨by omega, by omega⟩ ⟨by decide, by decide⟩ fun c31 => absurd c31 (by omega)) (b_ne (a := S (30 + 3 * a.toNat) 1) (b := 2) ⟨by omega, by omega⟩ ⟨by decide, by decide⟩ fun c31 => ?_)
              refine i_96_134 (x := 30 + 3 * e.toNat) l2 ?_
              refine i_96_135 (v := Value.int (Int32.ofInt (S1 (30 + 3 * e.toNat) 1))) (hR.k2 (kd_reg (r := e.toNat) (by omega))) rfl ?_
              rw [fe1]
              refine i_96_138 ?_
              refine i_96_139 (b_ne (a := S (30 + 3 * e.toNat) 1) (b := 2) ⟨by omega, by omega⟩ ⟨by decide, by decide⟩ fun c32 => ?_) (b_eq (a := S (30 + 3 * e.toNat) 1) (b := 2) ⟨by omega, by omega⟩ ⟨by decide, by decide⟩ fun c32 => absurd c32 (by omega))
              refine i_96_150 (x := 19) l0 ?_
              refine i_96_151 ?_
              refine i_96_152 (x := 1) l3 ?_
              have hobj := hR.k5 kq_19
              obtain ⟨w, hrun, hR⟩ := x_tsp (d := d + 6) (k := 1) (sg := 1) hR ⟨by omega, by omega⟩ (by omega) (by rw [a4]; exact hf.1) (by rw [a6]; exact hf.2.2.1) (by rw [a7]; exact hf.2.2.2.1) (by rw [a9]; exact hf.2.2.2.2.2.1) (by rw [a10]; exact hf.2.2.2.2.2.2)
              refine i_96_153 hobj (Nat.le_of_ble_eq_true rfl) hrun ?_
              refine i_96_156 ?_
              have esg : xorI (S (30 + 3 * a.toNat) 2) (S (30 + 3 * e.toNat) 2) = 1 := by unfold xorI; first | (rw [if_pos (by omega)]; done) | (rw [if_neg (by omega)]; done)
              rw [esg]
              exact ⟨rfl, _, _, hR, aS_tsp (k := 1) (sg := 1) hA0⟩
            · refine i_96_117 (x := 19) l0 ?_
              refine i_96_118 ?_
              refine i_96_119 (x := 1) l3 ?_
              have hobj := hR.k5 kq_19
              obtain ⟨w, hrun, hR⟩ := x_tsp (d := d + 6) (k := 2) (sg := 1) hR ⟨by omega, by omega⟩ (by omega) (by rw [a4]; exact hf.1) (by rw [a6]; exact hf.2.2.1) (by rw [a7]; exact hf.2.2.2.1) (by rw [a9]; exact hf.2.2.2.2.2.1) (by rw [a10]; exact hf.2.2.2.2.2.2)
              refine i_96_120 hobj (Nat.le_of_ble_eq_true rfl) hrun ?_
              refine i_96_123 ?_
              refine i_96_156 ?_
              exfalso; omega
          · refine i_96_93 (x := 19) l0 ?_
            refine i_96_94 ?_
            refine i_96_95 (fs2 := f5 (u1 (S1 19) 5 1)) (hR.k5 kq_19) rfl (Nat.le_of_ble_eq_true rfl) rfl (h7k kq_19 (by decide)) ?_
            refine xgen (P := cX w0 L Z (u2 S1 19 5 1) V1) (hR.p5 kq_19) (fun w hR => ?_)
            refine i_96_98 ?_
            refine i_96_156 ?_
            exfalso; omega
        · try replace ht_e := ht_e.resolve_left (by omega)
          try replace hx_e := hx_e.resolve_left (by omega)
          refine i_96_33 (x := 19) l0 ?_
          refine i_96_34 (v := Value.ref 24) (hR.k5 kq_19) rfl ?_
          refine i_96_37 (x := 30 + 3 * a.toNat) l1 ?_
          refine i_96_38 (v := Value.ref ((30 + 3 * a.toNat) + 1)) (hR.k2 (kd_reg (r := a.toNat) (by omega))) rfl ?_
          refine i_96_41 (x := 30 + 3 * e.toNat) l2 ?_
          refine i_96_42 (v := Value.ref ((30 + 3 * e.toNat) + 1)) (hR.k2 (kd_reg (r := e.toNat) (by omega))) rfl ?_
          obtain ⟨fs, hobj⟩ := hR.nat kq_24
          obtain ⟨w, hrun, hR⟩ := X_prod (d := d + 3) (h := 24) (ha := (30 + 3 * a.toNat) + 1) (hb := (30 + 3 * e.toNat) + 1) (u := V1 ((30 + 3 * a.toNat) + 1)) (v2 := V1 ((30 + 3 * e.toNat) + 1)) hR kq_24 (kd_rem (r := a.toNat) (by omega)) (kd_rem (r := e.toNat) (by omega)) (by omega) (by omega) (rfl) (rfl) (by omega)
          refine i_96_45 hobj (Nat.le_of_ble_eq_true rfl) hrun ?_
          refine i_96_48 (x := 19) l0 ?_
          refine i_96_49 (x := 19) l0 ?_
          refine i_96_50 (v := Value.ref 24) (hR.k5 kq_19) rfl ?_
          refine i_96_53 (x := 30 + 3 * a.toNat) l1 ?_
          refine i_96_54 (v := Value.int (Int32.ofInt (S1 (30 + 3 * a.toNat) 3))) (hR.k2 (kd_reg (r := a.toNat) (by omega))) rfl ?_
          rw [fa3]
          refine i_96_57 (x := 30 + 3 * a.toNat) l1 ?_
          refine i_96_58 (v := Value.int (Int32.ofInt (S1 (30 + 3 * a.toNat) 0))) (hR.k2 (kd_reg (r := a.toNat) (by omega))) rfl ?_
          rw [fa0]
          refine i_96_61 (c := Int32.ofInt ((S (30 + 3 * a.toNat) 3) - (S (30 + 3 * a.toNat) 0))) (o_sub (S (30 + 3 * a.toNat) 3) (S (30 + 3 * a.toNat) 0)) ?_
          refine i_96_62 (x := 30 + 3 * e.toNat) l2 ?_
          refine i_96_63 (v := Value.int (Int32.ofInt (S1 (30 + 3 * e.toNat) 3))) (hR.k2 (kd_reg (r := e.toNat) (by omega))) rfl ?_
          rw [fe3]
          refine i_96_66 (c := Int32.ofInt (((S (30 + 3 * a.toNat) 3) - (S (30 + 3 * a.toNat) 0)) + (S (30 + 3 * e.toNat) 3))) (o_add ((S (30 + 3 * a.toNat) 3) - (S (30 + 3 * a.toNat) 0)) (S (30 + 3 * e.toNat) 3)) ?_
          refine i_96_67 (x := 30 + 3 * e.toNat) l2 ?_
          refine i_96_68 (v := Value.int (Int32.ofInt (S1 (30 + 3 * e.toNat) 0))) (hR.k2 (kd_reg (r := e.toNat) (by omega))) rfl ?_
          rw [fe0]
          refine i_96_71 (c := Int32.ofInt ((((S (30 + 3 * a.toNat) 3) - (S (30 + 3 * a.toNat) 0)) + (S (30 + 3 * e.toNat) 3)) - (S (30 + 3 * e.toNat) 0))) (o_sub (((S (30 + 3 * a.toNat) 3) - (S (30 + 3 * a.toNat) 0)) + (S (30 + 3 * e.toNat) 3)) (S (30 + 3 * e.toNat) 0)) ?_
          refine i_96_72 (x := 1) l3 ?_
          have hobj := hR.k5 kq_19
          obtain ⟨w, hrun, V3, hR, t1, t2, t3⟩ := x_tm (d := d + 1) (h := 24) (sc := (((S (30 + 3 * a.toNat) 3) - (S (30 + 3 * a.toNat) 0)) + (S (30 + 3 * e.toNat) 3)) - (S (30 + 3 * e.toNat) 0)) (sg := 1) hR kq_24 (by decide) (by decide) (by omega) ⟨by omega, by omega⟩ (by rw [a3]; omega) (by rw [a8]; exact hf.2.2.2.2.1) (by rw [uv_n (by decide), a11]; omega) (by rw [uv_n (by decide), a12]; omega) (by rw [uv_s, fVa, fVe]; exact Nat.le_trans (xbl_prod _ _) (by omega))
          refine i_96_73 hobj (Nat.le_of_ble_eq_true rfl) hrun ?_
          refine i_96_76 ?_
          refine i_96_156 ?_
          exfalso; omega
  obtain ⟨o, w', h1, rfl, h2⟩ := (key (lv_args 0 [Value.ref 19, Value.ref (30 + 3 * a.toNat), Value.ref (30 + 3 * e.toNat)]) rfl rfl rfl).run
  exact ⟨w', h1, h2⟩
end
