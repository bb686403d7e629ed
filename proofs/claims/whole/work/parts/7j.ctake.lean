/-! Addition of the class: take, takeProduct -/
theorem aS_tm {S S1 : Nat → Nat → Int} {V V1 V2 : Nat → Nat} {nan inv pi mi b : Int} {P N : Nat} {num pz nz : Int} {h : Nat} {sc sg : Int} (hA : aS S V S1 V1 nan inv pi mi b P N num pz nz) (e1 : V2 20 = shf (V1 20) (if S1 19 9 = 0 then 0 else S1 19 4 - nlo (S1 19 9) (S1 19 4) sc) + (if sg = 0 then shf (V1 h) (sc - nlo (S1 19 9) (S1 19 4) sc) else 0)) (e2 : V2 22 = shf (V1 22) (if S1 19 9 = 0 then 0 else S1 19 4 - nlo (S1 19 9) (S1 19 4) sc) + (if sg = 0 then 0 else shf (V1 h) (sc - nlo (S1 19 9) (S1 19 4) sc))) (e3 : ∀ k, k ≠ 20 → k ≠ 22 → V2 k = V1 k) {m : Nat} (hm : V1 h = m) :
    aS S V (u2 (u2 S1 19 4 (nlo (S1 19 9) (S1 19 4) sc)) 19 9 1) V2 nan inv pi mi (nlo num b sc) (shf P (if num = 0 then 0 else b - nlo num b sc) + (if sg = 0 then shf m (sc - nlo num b sc) else 0)) (shf N (if num = 0 then 0 else b - nlo num b sc) + (if sg = 0 then 0 else shf m (sc - nlo num b sc))) 1 pz nz := by
  obtain ⟨a1, a2, a3, a4, a5, a6, a7, a8, a9, a10, a11, a12⟩ := hA
  subst a3 a8 a11 a12 hm
  refine ⟨(a1.up (by unfold cKeep; omega) (by omega)).up (by unfold cKeep; omega) (by omega), fun k k1 k2 => (e3 k (by omega) (by omega)).trans (a2 k k1 k2), ?_, ?_, ?_, ?_, ?_, ?_, ?_, ?_, e1, e2⟩
  · rw [u2_eq, if_neg (by omega), u2_eq, if_pos ⟨rfl, rfl⟩]
  all_goals first | (rw [u2_eq, if_pos ⟨rfl, rfl⟩]; done) | (rw [u2_eq, if_neg (by omega), u2_eq, if_neg (by omega)]; assumption)
theorem aS_tsp {S S1 : Nat → Nat → Int} {V V1 : Nat → Nat} {nan inv pi mi b : Int} {P N : Nat} {num pz nz : Int} {k sg : Int} (hA : aS S V S1 V1 nan inv pi mi b P N num pz nz) : aS S V (u2 (u2 (u2 (u2 (u2 S1 19 5 (orI (S1 19 5) (k = 0))) 19 7 (orI (S1 19 7) (k = 1 ∧ sg = 0))) 19 8 (orI (S1 19 8) (k = 1 ∧ sg ≠ 0))) 19 10 (orI (S1 19 10) (k = 2 ∧ sg = 0))) 19 11 (orI (S1 19 11) (k = 2 ∧ sg ≠ 0))) V1 (orI nan (k = 0)) inv (orI pi (k = 1 ∧ sg = 0)) (orI mi (k = 1 ∧ sg ≠ 0)) b P N num (orI pz (k = 2 ∧ sg = 0)) (orI nz (k = 2 ∧ sg ≠ 0)) := by
  obtain ⟨a1, a2, a3, a4, a5, a6, a7, a8, a9, a10, a11, a12⟩ := hA
  subst a4 a6 a7 a9 a10
  refine ⟨((((a1.up (by unfold cKeep; omega) (by omega)).up (by unfold cKeep; omega) (by omega)).up (by unfold cKeep; omega) (by omega)).up (by unfold cKeep; omega) (by omega)).up (by unfold cKeep; omega) (by omega), a2, ?_, ?_, ?_, ?_, ?_, ?_, ?_, ?_, a11, a12⟩
  all_goals simp only [u2_eq]
  all_goals first | assumption | rfl
section
variable {w0 w : xW} {L Z : Nat} {S S1 : Nat → Nat → Int} {V V1 : Nat → Nat} {d : Nat} {nan inv pi mi b : Int} {P N : Nat} {num pz nz : Int}
set_option maxHeartbeats 4000000 in
theorem a_take3 {a ng : Int} (hR : cX w0 L Z S1 V1 w) (hA : aS S V S1 V1 nan inv pi mi b P N num pz nz) (hI : cI S V) (hf : (nan = 0 ∨ nan = 1) ∧ (inv = 0 ∨ inv = 1) ∧ (pi = 0 ∨ pi = 1) ∧ (mi = 0 ∨ mi = 1) ∧ (num = 0 ∨ num = 1) ∧ (pz = 0 ∨ pz = 1) ∧ (nz = 0 ∨ nz = 1)) (hbb : -100000 ≤ b ∧ b ≤ 100000) (hP : xbl P ≤ 400000) (hN : xbl N ≤ 400000) (ha : 0 ≤ a ∧ a ≤ 15) (hng : ng = 0 ∨ ng = 1) (hk3 : S (30 + 3 * a.toNat) 1 = 3) : ∃ w', xRun (d + 7) 60 [Value.ref 19, Value.ref (30 + 3 * a.toNat), Value.int (Int32.ofInt ng)] w (.inl none) w' ∧ ∃ S2 V2, cX w0 L Z S2 V2 w' ∧ aS S V S2 V2 nan inv pi mi (nlo num b (S (30 + 3 * a.toNat) 3 - S (30 + 3 * a.toNat) 0)) (shf P (if num = 0 then 0 else b - nlo num b (S (30 + 3 * a.toNat) 3 - S (30 + 3 * a.toNat) 0)) + (if (xorI (S (30 + 3 * a.toNat) 2) ng) = 0 then shf (V (30 + 3 * a.toNat + 1)) ((S (30 + 3 * a.toNat) 3 - S (30 + 3 * a.toNat) 0) - nlo num b (S (30 + 3 * a.toNat) 3 - S (30 + 3 * a.toNat) 0)) else 0)) (shf N (if num = 0 then 0 else b - nlo num b (S (30 + 3 * a.toNat) 3 - S (30 + 3 * a.toNat) 0)) + (if (xorI (S (30 + 3 * a.toNat) 2) ng) = 0 then 0 else shf (V (30 + 3 * a.toNat + 1)) ((S (30 + 3 * a.toNat) 3 - S (30 + 3 * a.toNat) 0) - nlo num b (S (30 + 3 * a.toNat) 3 - S (30 + 3 * a.toNat) 0)))) 1 pz nz := by
  have key : ∀ lv, xld lv 0 = some (Value.ref 19) → xld lv 1 = some (Value.ref (30 + 3 * a.toNat)) → xld lv 2 = some (Value.int (Int32.ofInt ng)) → xEv (d + 7) 60 0 lv [] w (fun o w' => o = .inl none ∧ ∃ S2 V2, cX w0 L Z S2 V2 w' ∧ aS S V S2 V2 nan inv pi mi (nlo num b (S (30 + 3 * a.toNat) 3 - S (30 + 3 * a.toNat) 0)) (shf P (if num = 0 then 0 else b - nlo num b (S (30 + 3 * a.toNat) 3 - S (30 + 3 * a.toNat) 0)) + (if (xorI (S (30 + 3 * a.toNat) 2) ng) = 0 then shf (V (30 + 3 * a.toNat + 1)) ((S (30 + 3 * a.toNat) 3 - S (30 + 3 * a.toNat) 0) - nlo num b (S (30 + 3 * a.toNat) 3 - S (30 + 3 * a.toNat) 0)) else 0)) (shf N (if num = 0 then 0 else b - nlo num b (S (30 + 3 * a.toNat) 3 - S (30 + 3 * a.toNat) 0)) + (if (xorI (S (30 + 3 * a.toNat) 2) ng) = 0 then 0 else shf (V (30 + 3 * a.toNat + 1)) ((S (30 + 3 * a.toNat) 3 - S (30 + 3 * a.toNat) 0) - nlo num b (S (30 + 3 * a.toNat) 3 - S (30 + 3 * a.toNat) 0)))) 1 pz nz) := by
    intro lv l0 l1 l2
    have hA0 := hA
    obtain ⟨a1, a2, a3, a4, a5, a6, a7, a8, a9, a10, a11, a12⟩ := hA
    obtain ⟨hp_a, hk_a, hn_a, ht_a, hx_a, hz_a⟩ := hI.1 a.toNat (by omega)
    have fa0 : S1 (30 + 3 * a.toNat) 0 = S (30 + 3 * a.toNat) 0 := a1.1 _ _ (Or.inl (by omega))
    have fa1 : S1 (30 + 3 * a.toNat) 1 = S (30 + 3 * a.toNat) 1 := a1.1 _ _ (Or.inl (by omega))
    have fa2 : S1 (30 + 3 * a.toNat) 2 = S (30 + 3 * a.toNat) 2 := a1.1 _ _ (Or.inl (by omega))
    have fa3 : S1 (30 + 3 * a.toNat) 3 = S (30 + 3 * a.toNat) 3 := a1.1 _ _ (Or.inl (by omega))
    have fVa : V1 (30 + 3 * a.toNat + 1) = V (30 + 3 * a.toNat + 1) := a2 _ (by omega) (by omega)
    refine i_60_0 (x := 30 + 3 * a.toNat) l1 ?_
    refine i_60_1 (v := Value.int (Int32.ofInt (S1 (30 + 3 * a.toNat) 2))) (hR.k2 (kd_reg (r := a.toNat) (by omega))) rfl ?_
    rw [fa2]
    refine i_60_4 (x := Int32.ofInt ng) l2 ?_
    refine i_60_5 (b_eq (a := S (30 + 3 * a.toNat) 2) (b := ng) ⟨by omega, by omega⟩ ⟨by omega, by omega⟩ fun c0 => ?_) (b_ne (a := S (30 + 3 * a.toNat) 2) (b := ng) ⟨by omega, by omega⟩ ⟨by omega, by omega⟩ fun c0 => ?_)
    · refine i_60_12 ?_
      refine i_60_13 rfl ?_
      refine lgen1 (i := 3) (v := Value.int 0) (fun lv lg ls => ?_)
      replace l0 := lg 0 _ rfl rfl l0
      replace l1 := lg 1 _ rfl rfl l1
      replace l2 := lg 2 _ rfl rfl l2
      have l3 := ls
      refine i_60_14 (x := 30 + 3 * a.toNat) l1 ?_
      refine i_60_15 (v := Value.int (Int32.ofInt (S1 (30 + 3 * a.toNat) 1))) (hR.k2 (kd_reg (r := a.toNat) (by omega))) rfl ?_
      rw [fa1]
      refine i_60_18 ?_
      refine i_60_19 (b_ne (a := S (30 + 3 * a.toNat) 1) (b := 3) ⟨by omega, by omega⟩ ⟨by decide, by decide⟩ fun c1 => absurd c1 (by omega)) (b_eq (a := S (30 + 3 * a.toNat) 1) (b := 3) ⟨by omega, by omega⟩ ⟨by decide, by decide⟩ fun c1 => ?_)
      try replace ht_a := ht_a.resolve_left (by omega)
      try replace hx_a := hx_a.resolve_left (by omega)
      refine i_60_22 (x := 19) l0 ?_
      refine i_60_23 (x := 30 + 3 * a.toNat) l1 ?_
      refine i_60_24 (v := Value.ref ((30 + 3 * a.toNat) + 1)) (hR.k2 (kd_reg (r := a.toNat) (by omega))) rfl ?_
      refine i_60_27 (x := 30 + 3 * a.toNat) l1 ?_
      refine i_60_28 (v := Value.int (Int32.ofInt (S1 (30 + 3 * a.toNat) 3))) (hR.k2 (kd_reg (r := a.toNat) (by omega))) rfl ?_
      rw [fa3]
      refine i_60_31 (x := 30 + 3 * a.toNat) l1 ?_
      refine i_60_32 (v := Value.int (Int32.ofInt (S1 (30 + 3 * a.toNat) 0))) (hR.k2 (kd_reg (r := a.toNat) (by omega))) rfl ?_
      rw [fa0]
      refine i_60_35 (c := Int32.ofInt ((S (30 + 3 * a.toNat) 3) - (S (30 + 3 * a.toNat) 0))) (o_sub (S (30 + 3 * a.toNat) 3) (S (30 + 3 * a.toNat) 0)) ?_
      refine i_60_36 (x := 0) l3 ?_
      have hobj := hR.k5 kq_19
      obtain ⟨w, hrun, V3, hR, t1, t2, t3⟩ := x_tm (d := d + 1) (h := (30 + 3 * a.toNat) + 1) (sc := (S (30 + 3 * a.toNat) 3) - (S (30 + 3 * a.toNat) 0)) (sg := 0) hR (kd_rem (r := a.toNat) (by omega)) (by omega) (by omega) (by omega) ⟨by omega, by omega⟩ (by rw [a3]; omega) (by rw [a8]; exact hf.2.2.2.2.1) (by rw [a11]; omega) (by rw [a12]; omega) (by rw [fVa]; omega)
      refine i_60_37 hobj (Nat.le_of_ble_eq_true rfl) hrun ?_
      refine i_60_40 ?_
      refine i_60_52 ?_
      have esg : xorI (S (30 + 3 * a.toNat) 2) ng = 0 := by unfold xorI; first | (rw [if_pos (by omega)]; done) | (rw [if_neg (by omega)]; done)
      rw [esg]
      exact ⟨rfl, _, _, hR, aS_tm (sg := 0) hA0 t1 t2 t3 fVa⟩
    · refine i_60_8 ?_
      refine i_60_9 ?_
      refine i_60_13 rfl ?_
      refine lgen1 (i := 3) (v := Value.int 1) (fun lv lg ls => ?_)
      replace l0 := lg 0 _ rfl rfl l0
      replace l1 := lg 1 _ rfl rfl l1
      replace l2 := lg 2 _ rfl rfl l2
      have l3 := ls
      refine i_60_14 (x := 30 + 3 * a.toNat) l1 ?_
      refine i_60_15 (v := Value.int (Int32.ofInt (S1 (30 + 3 * a.toNat) 1))) (hR.k2 (kd_reg (r := a.toNat) (by omega))) rfl ?_
      rw [fa1]
      refine i_60_18 ?_
      refine i_60_19 (b_ne (a := S (30 + 3 * a.toNat) 1) (b := 3) ⟨by omega, by omega⟩ ⟨by decide, by decide⟩ fun c2 => absurd c2 (by omega)) (b_eq (a := S (30 + 3 * a.toNat) 1) (b := 3) ⟨by omega, by omega⟩ ⟨by decide, by decide⟩ fun c2 => ?_)
      try replace ht_a := ht_a.resolve_left (by omega)
      try replace hx_a := hx_a.resolve_left (by omega)
      refine i_60_22 (x := 19) l0 ?_
      refine i_60_23 (x := 30 + 3 * a.toNat) l1 ?_
      refine i_60_24 (v := Value.ref ((30 + 3 * a.toNat) + 1)) (hR.k2 (kd_reg (r := a.toNat) (by omega))) rfl ?_
      refine i_60_27 (x := 30 + 3 * a.toNat) l1 ?_
      refine i_60_28 (v := Value.int (Int32.ofInt (S1 (30 + 3 * a.toNat) 3))) (hR.k2 (kd_reg (r := a.toNat) (by omega))) rfl ?_
      rw [fa3]
      refine i_60_31 (x := 30 + 3 * a.toNat) l1 ?_
      refine i_60_32 (v := Value.int (Int32.ofInt (S1 (30 + 3 * a.toNat) 0))) (hR.k2 (kd_reg (r := a.toNat) (by omega))) rfl ?_
      rw [fa0]
      refine i_60_35 (c := Int32.ofInt ((S (30 + 3 * a.toNat) 3) - (S (30 + 3 * a.toNat) 0))) (o_sub (S (30 + 3 * a.toNat) 3) (S (30 + 3 * a.toNat) 0)) ?_
      refine i_60_36 (x := 1) l3 ?_
      have hobj := hR.k5 kq_19
      obtain ⟨w, hrun, V3, hR, t1, t2, t3⟩ := x_tm (d := d + 1) (h := (30 + 3 * a.toNat) + 1) (sc := (S (30 + 3 * a.toNat) 3) - (S (30 + 3 * a.toNat) 0)) (sg := 1) hR (kd_rem (r := a.toNat) (by omega)) (by omega) (by omega) (by omega) ⟨by omega, by omega⟩ (by rw [a3]; omega) (by rw [a8]; exact hf.2.2.2.2.1) (by rw [a11]; omega) (by rw [a12]; omega) (by rw [fVa]; omega)
      refine i_60_37 hobj (Nat.le_of_ble_eq_true rfl) hrun ?_
      refine i_60_40 ?_
      refine i_60_52 ?_
      have esg : xorI (S (30 + 3 * a.toNat) 2) ng = 1 := by unfold xorI; first | (rw [if_pos (by omega)]; done) | (rw [if_neg (by omega)]; done)
      rw [esg]
      exact ⟨rfl, _, _, hR, aS_tm (sg := 1) hA0 t1 t2 t3 fVa⟩
  obtain ⟨o, w', h1, rfl, h2⟩ := (key (lv_args 0 [Value.ref 19, Value.ref (30 + 3 * a.toNat), Value.int (Int32.ofInt ng)]) rfl rfl rfl).run
  exact ⟨w', h1, h2⟩
set_option maxHeartbeats 4000000 in
theorem a_takeS {a ng : Int} (hR : cX w0 L Z S1 V1 w) (hA : aS S V S1 V1 nan inv pi mi b P N num pz nz) (hI : cI S V) (hf : (nan = 0 ∨ nan = 1) ∧ (inv = 0 ∨ inv = 1) ∧ (pi = 0 ∨ pi = 1) ∧ (mi = 0 ∨ mi = 1) ∧ (num = 0 ∨ num = 1) ∧ (pz = 0 ∨ pz = 1) ∧ (nz = 0 ∨ nz = 1)) (hbb : -100000 ≤ b ∧ b ≤ 100000) (hP : xbl P ≤ 400000) (hN : xbl N ≤ 400000) (ha : 0 ≤ a ∧ a ≤ 15) (hng : ng = 0 ∨ ng = 1) (hk3 : S (30 + 3 * a.toNat) 1 ≠ 3) : ∃ w', xRun (d + 7) 60 [Value.ref 19, Value.ref (30 + 3 * a.toNat), Value.int (Int32.ofInt ng)] w (.inl none) w' ∧ ∃ S2 V2, cX w0 L Z S2 V2 w' ∧ aS S V S2 V2 (orI nan (S (30 + 3 * a.toNat) 1 = 0)) inv (orI pi (S (30 + 3 * a.toNat) 1 = 1 ∧ (xorI (S (30 + 3 * a.toNat) 2) ng) = 0)) (orI mi (S (30 + 3 * a.toNat) 1 = 1 ∧ (xorI (S (30 + 3 * a.toNat) 2) ng) ≠ 0)) b P N num (orI pz (S (30 + 3 * a.toNat) 1 = 2 ∧ (xorI (S (30 + 3 * a.toNat) 2) ng) = 0)) (orI nz (S (30 + 3 * a.toNat) 1 = 2 ∧ (xorI (S (30 + 3 * a.toNat) 2) ng) ≠ 0)) := by
  have key : ∀ lv, xld lv 0 = some (Value.ref 19) → xld lv 1 = some (Value.ref (30 + 3 * a.toNat)) → xld lv 2 = some (Value.int (Int32.ofInt ng)) → xEv (d + 7) 60 0 lv [] w (fun o w' => o = .inl none ∧ ∃ S2 V2, cX w0 L Z S2 V2 w' ∧ aS S V S2 V2 (orI nan (S (30 + 3 * a.toNat) 1 = 0)) inv (orI pi (S (30 + 3 * a.toNat) 1 = 1 ∧ (xorI (S (30 + 3 * a.toNat) 2) ng) = 0)) (orI mi (S (30 + 3 * a.toNat) 1 = 1 ∧ (xorI (S (30 + 3 * a.toNat) 2) ng) ≠ 0)) b P N num (orI pz (S (30 + 3 * a.toNat) 1 = 2 ∧ (xorI (S (30 + 3 * a.toNat) 2) ng) = 0)) (orI nz (S (30 + 3 * a.toNat) 1 = 2 ∧ (xorI (S (30 + 3 * a.toNat) 2) ng) ≠ 0))) := by
    intro lv l0 l1 l2
    have hA0 := hA
    obtain ⟨a1, a2, a3, a4, a5, a6, a7, a8, a9, a10, a11, a12⟩ := hA
    obtain ⟨hp_a, hk_a, hn_a, ht_a, hx_a, hz_a⟩ := hI.1 a.toNat (by omega)
    have fa0 : S1 (30 + 3 * a.toNat) 0 = S (30 + 3 * a.toNat) 0 := a1.1 _ _ (Or.inl (by omega))
    have fa1 : S1 (30 + 3 * a.toNat) 1 = S (30 + 3 * a.toNat) 1 := a1.1 _ _ (Or.inl (by omega))
    have fa2 : S1 (30 + 3 * a.toNat) 2 = S (30 + 3 * a.toNat) 2 := a1.1 _ _ (Or.inl (by omega))
    have fa3 : S1 (30 + 3 * a.toNat) 3 = S (30 + 3 * a.toNat) 3 := a1.1 _ _ (Or.inl (by omega))
    have fVa : V1 (30 + 3 * a.toNat + 1) = V (30 + 3 * a.toNat + 1) := a2 _ (by omega) (by omega)
    refine i_60_0 (x := 30 + 3 * a.toNat) l1 ?_
    refine i_60_1 (v := Value.int (Int32.ofInt (S1 (30 + 3 * a.toNat) 2))) (hR.k2 (kd_reg (r := a.toNat) (by omega))) rfl ?_
    rw [fa2]
    refine i_60_4 (x := Int32.ofInt ng) l2 ?_
    refine i_60_5 (b_eq (a := S (30 + 3 * a.toNat) 2) (b := ng) ⟨by omega, by omega⟩ ⟨by omega, by omega⟩ fun c0 => ?_) (b_ne (a := S (30 + 3 * a.toNat) 2) (b := ng) ⟨by omega, by omega⟩ ⟨by omega, by omega⟩ fun c0 => ?_)
    · refine i_60_12 ?_
      refine i_60_13 rfl ?_
      refine lgen1 (i := 3) (v := Value.int 0) (fun lv lg ls => ?_)
      replace l0 := lg 0 _ rfl rfl l0
      replace l1 := lg 1 _ rfl rfl l1
      replace l2 := lg 2 _ rfl rfl l2
      have l3 := ls
      refine i_60_14 (x := 30 + 3 * a.toNat) l1 ?_
      refine i_60_15 (v := Value.int (Int32.ofInt (S1 (30 + 3 * a.toNat) 1))) (hR.k2 (kd_reg (r := a.toNat) (by omega))) rfl ?_
      rw [fa1]
      refine i_60_18 ?_
      refine i_60_19 (b_ne (a := S (30 + 3 * a.toNat) 1) (b := 3) ⟨by omega, by omega⟩ ⟨by decide, by decide⟩ fun c1 => ?_) (b_eq (a := S (30 + 3 * a.toNat) 1) (b := 3) ⟨by omega, by omega⟩ ⟨by decide, by decide⟩ fun c1 => absurd c1 (by omega))
      refine i_60_43 (x := 19) l0 ?_
      refine i_60_44 (x := 30 + 3 * a.toNat) l1 ?_
      refine i_60_45 (v := Value.int (Int32.ofInt (S1 (30 + 3 * a.toNat) 1))) (hR.k2 (kd_reg (r := a.toNat) (by omega))) rfl ?_
      rw [fa1]
      refine i_60_48 (x := 0) l3 ?_
      have hobj := hR.k5 kq_19
      obtain ⟨w, hrun, hR⟩ := x_tsp (d := d + 6) (k := S (30 + 3 * a.toNat) 1) (sg := 0) hR ⟨by omega, by omega⟩ (by omega) (by rw [a4]; exact hf.1) (by rw [a6]; exact hf.2.2.1) (by rw [a7]; exact hf.2.2.2.1) (by rw [a9]; exact hf.2.2.2.2.2.1) (by rw [a10]; exact hf.2.2.2.2.2.2)
      refine i_60_49 hobj (Nat.le_of_ble_eq_true rfl) hrun ?_
      refine i_60_52 ?_
      have esg : xorI (S (30 + 3 * a.toNat) 2) ng = 0 := by unfold xorI; first | (rw [if_pos (by omega)]; done) | (rw [if_neg (by omega)]; done)
      rw [esg]
      exact ⟨rfl, _, _, hR, aS_tsp (k := S (30 + 3 * a.toNat) 1) (sg := 0) hA0⟩
    · refine i_60_8 ?_
      refine i_60_9 ?_
      refine i_60_13 rfl ?_
      refine lgen1 (i := 3) (v := Value.int 1) (fun lv lg ls => ?_)
      replace l0 := lg 0 _ rfl rfl l0
      replace l1 := lg 1 _ rfl rfl l1
      replace l2 := lg 2 _ rfl rfl l2
      have l3 := ls
      refine i_60_14 (x := 30 + 3 * a.toNat) l1 ?_
      refine i_60_15 (v := Value.int (Int32.ofInt (S1 (30 + 3 * a.toNat) 1))) (hR.k2 (kd_reg (r := a.toNat) (by omega))) rfl ?_
      rw [fa1]
      refine i_60_18 ?_
      refine i_60_19 (b_ne (a := S (30 + 3 * a.toNat) 1) (b := 3) ⟨by omega, by omega⟩ ⟨by decide, by decide⟩ fun c2 => ?_) (b_eq (a := S (30 + 3 * a.toNat) 1) (b := 3) ⟨by omega, by omega⟩ ⟨by decide, by decide⟩ fun c2 => absurd c2 (by omega))
      refine i_60_43 (x := 19) l0 ?_
      refine i_60_44 (x := 30 + 3 * a.toNat) l1 ?_
      refine i_60_45 (v := Value.int (Int32.ofInt (S1 (30 + 3 * a.toNat) 1))) (hR.k2 (kd_reg (r := a.toNat) (by omega))) rfl ?_
      rw [fa1]
      refine i_60_48 (x := 1) l3 ?_
      have hobj := hR.k5 kq_19
      obtain ⟨w, hrun, hR⟩ := x_tsp (d := d + 6) (k := S (30 + 3 * a.toNat) 1) (sg := 1) hR ⟨by omega, by omega⟩ (by omega) (by rw [a4]; exact hf.1) (by rw [a6]; exact hf.2.2.1) (by rw [a7]; exact hf.2.2.2.1) (by rw [a9]; exact hf.2.2.2.2.2.1) (by rw [a10]; exact hf.2.2.2.2.2.2)
      refine i_60_49 hobj (Nat.le_of_ble_eq_true rfl) hrun ?_
      refine i_60_52 ?_
      have esg : xorI (S (30 + 3 * a.toNat) 2) ng = 1 := by unfold xorI; first | (rw [if_pos (by omega)]; done) | (rw [if_neg (by omega)]; done)
      rw [esg]
      exact ⟨rfl, _, _, hR, aS_tsp (k := S (30 + 3 * a.toNat) 1) (sg := 1) hA0⟩
  obtain ⟨o, w', h1, rfl, h2⟩ := (key (lv_args 0 [Value.ref 19, Value.ref (30 + 3 * a.toNat), Value.int (Int32.ofInt ng)]) rfl rfl rfl).run
  exact ⟨w', h1, h2⟩
end
