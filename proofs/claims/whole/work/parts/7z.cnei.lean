/-! neighbour of the class -/
theorem cOut_f {S S' : Nat → Nat → Int} {V V' : Nat → Nat} {t : Nat} {sg : Int} {q : Int × Int × Nat} (h : fC S S' V V' t sg q) (hs : sg = 0 ∨ sg = 1) (ht : 30 ≤ t ∧ t ≤ 75) : cOut S S' V V' t (o3 q sg (S 78 3)) := by
  obtain ⟨h1, h2, h3, h4, h5⟩ := h
  refine ⟨h1, fun _ => h2, by rw [h2]; exact hs, h3, h4 78 3 (by decide) (by omega), fun b j hb g1 _ => h4 b j (fun e => by unfold cKeep at hb; omega) g1, kp.of3 (h4 113 3 (by decide) (by omega)) (h4 79 0 (by decide) (by omega)) (h4 79 1 (by decide) (by omega)), fun k k1 k2 k3 => h5 k (by omega) k3⟩
theorem sNei_v {S : Nat → Nat → Int} {V : Nat → Nat} {r : Nat} {up : Int} : sNei (vS S) (vV V) r up = if S (30 + 3 * r) 1 = 0 then (0, 0, 0, 0, 0, S 78 3)
    else if S (30 + 3 * r) 1 = 2 then o3 (put3 1 (if S 78 2 = 0 then S 78 0 - 1 else S 78 0 - S (30 + 3 * r) 0) (S (30 + 3 * r) 0)) (1 - up) (S 78 3)
    else if up ≠ S (30 + 3 * r) 2 then (if S (30 + 3 * r) 1 = 1 then (1, S (30 + 3 * r) 2, 0, 0, 1, S 78 3) else o3 (sFar (vS S) (vV V) r) (S (30 + 3 * r) 2) (S 78 3))
    else o3 (sNea (vS S) (vV V) r) (S (30 + 3 * r) 2) (S 78 3) := rfl
theorem sNea_1 {S : Nat → Nat → Int} {V : Nat → Nat} {r : Nat} (h : S (30 + 3 * r) 1 = 1) : sNea (vS S) (vV V) r = sMost (vS S) r := if_pos (Or.inl h)
section
variable {w0 w : xW} {L Z : Nat} {S : Nat → Nat → Int} {V : Nat → Nat} {d h t r : Nat}
theorem x_least {r sg : Int} (hR : cX w0 L Z S V w) (hI : cI S V) (hr : 0 ≤ r ∧ r ≤ 15) (hs : sg = 0 ∨ sg = 1) : ∃ w', xRun (d + 5) 118 [Value.ref 78, Value.ref (30 + 3 * r.toNat), Value.int (Int32.ofInt sg)] w (.inl none) w' ∧ cX w0 L Z (u2 (u2 (u2 S (30 + 3 * r.toNat) 1 3) (30 + 3 * r.toNat) 2 sg) (30 + 3 * r.toNat) 3 (if S 78 2 = 0 then S 78 0 else S 78 0 - S (30 + 3 * r.toNat) 0 + 1)) (uv V (30 + 3 * r.toNat + 1) (2 ^ (S (30 + 3 * r.toNat) 0 - 1).toNat)) w' := by
  have key : ∀ lv, xld lv 0 = some (Value.ref 78) → xld lv 1 = some (Value.ref (30 + 3 * r.toNat)) → xld lv 2 = some (Value.int (Int32.ofInt sg)) → xEv (d + 5) 118 0 lv [] w (fun o w' => o = .inl none ∧ cX w0 L Z (u2 (u2 (u2 S (30 + 3 * r.toNat) 1 3) (30 + 3 * r.toNat) 2 sg) (30 + 3 * r.toNat) 3 (if S 78 2 = 0 then S 78 0 else S 78 0 - S (30 + 3 * r.toNat) 0 + 1)) (uv V (30 + 3 * r.toNat + 1) (2 ^ (S (30 + 3 * r.toNat) 0 - 1).toNat)) w') := by
    intro lv l0 l1 l2
    obtain ⟨hp_r, hk_r, hn_r, ht_r, hx_r, hz_r⟩ := hI.1 r.toNat (by omega)
    have hi_l := hI.2.1
    have hi_g := hI.2.2.1
    refine i_118_0 (x := 30 + 3 * r.toNat) l1 ?_
    refine i_118_1 (x := Int32.ofInt sg) l2 ?_
    refine i_118_2 (x := 78) l0 ?_
    refine i_118_3 (v := Value.int (Int32.ofInt (S 78 2))) (hR.k1 kq_78) rfl ?_
    refine i_118_6 (z_eq (a := S 78 2) ⟨by omega, by omega⟩ fun c0 => ?_) (z_ne (a := S 78 2) ⟨by omega, by omega⟩ fun c0 => ?_)
    · refine i_118_23 (x := 78) l0 ?_
      refine i_118_24 (v := Value.int (Int32.ofInt (S 78 0))) (hR.k1 kq_78) rfl ?_
      have hobj := hR.k2 (kd_reg (r := r.toNat) (by omega))
      have ep : S (30 + 3 * r.toNat) 0 = S (30 + 3 * r.toNat) 0 := by rfl
      obtain ⟨w, hrun, hR⟩ := x_pow2 (d := d) (t := 30 + 3 * r.toNat) (sg := sg) (pw := S 78 0) hR (kd_reg (r := r.toNat) (by omega)) (by first | omega | exact bb_01 _) (by rw [ep]; omega)
      rw [ep] at hR
      refine i_118_27 hobj (Nat.le_of_ble_eq_true rfl) hrun ?_
      refine i_118_30 ?_
      rw [show (if S 78 2 = 0 then S 78 0 else S 78 0 - S (30 + 3 * r.toNat) 0 + 1) = S 78 0 from by rw [if_pos (by omega)]]
      exact ⟨rfl, hR⟩
    · refine i_118_9 (x := 78) l0 ?_
      refine i_118_10 (v := Value.int (Int32.ofInt (S 78 0))) (hR.k1 kq_78) rfl ?_
      refine i_118_13 (x := 30 + 3 * r.toNat) l1 ?_
      refine i_118_14 (v := Value.int (Int32.ofInt (S (30 + 3 * r.toNat) 0))) (hR.k2 (kd_reg (r := r.toNat) (by omega))) rfl ?_
      refine i_118_17 (c := Int32.ofInt ((S 78 0) - (S (30 + 3 * r.toNat) 0))) (o_sub (S 78 0) (S (30 + 3 * r.toNat) 0)) ?_
      refine i_118_18 ?_
      refine i_118_19 (c := Int32.ofInt (((S 78 0) - (S (30 + 3 * r.toNat) 0)) + 1)) (o_add ((S 78 0) - (S (30 + 3 * r.toNat) 0)) 1) ?_
      refine i_118_20 ?_
      have hobj := hR.k2 (kd_reg (r := r.toNat) (by omega))
      have ep : S (30 + 3 * r.toNat) 0 = S (30 + 3 * r.toNat) 0 := by rfl
      obtain ⟨w, hrun, hR⟩ := x_pow2 (d := d) (t := 30 + 3 * r.toNat) (sg := sg) (pw := ((S 78 0) - (S (30 + 3 * r.toNat) 0)) + 1) hR (kd_reg (r := r.toNat) (by omega)) (by first | omega | exact bb_01 _) (by rw [ep]; omega)
      rw [ep] at hR
      refine i_118_27 hobj (Nat.le_of_ble_eq_true rfl) hrun ?_
      refine i_118_30 ?_
      rw [show (if S 78 2 = 0 then S 78 0 else S 78 0 - S (30 + 3 * r.toNat) 0 + 1) = ((S 78 0) - (S (30 + 3 * r.toNat) 0)) + 1 from by rw [if_neg (by omega)]]
      exact ⟨rfl, hR⟩
  obtain ⟨o, w', h1, rfl, h2⟩ := (key (lv_args 0 [Value.ref 78, Value.ref (30 + 3 * r.toNat), Value.int (Int32.ofInt sg)]) rfl rfl rfl).run
  exact ⟨w', h1, h2⟩
set_option maxHeartbeats 8000000 in
theorem x_nei {r up : Int} (hR : cX w0 L Z S V w) (hI : cI S V) (hr : 0 ≤ r ∧ r ≤ 15) (hup : up = 0 ∨ up = 1) : ∃ w', xRun (d + 9) 117 [Value.ref 7, Value.int (Int32.ofInt r), Value.int (Int32.ofInt up)] w (.inl (some (.int (Int32.ofInt (sNei (vS S) (vV V) r.toNat up).2.2.2.2.1)))) w' ∧ ∃ S' V', cX w0 L Z S' V' w' ∧ cOut S S' V V' (30 + 3 * r.toNat) (sNei (vS S) (vV V) r.toNat up) := by
  have key : ∀ lv, xld lv 0 = some (Value.ref 7) → xld lv 1 = some (Value.int (Int32.ofInt r)) → xld lv 2 = some (Value.int (Int32.ofInt up)) → xEv (d + 9) 117 0 lv [] w (fun o w' => o = .inl (some (.int (Int32.ofInt (sNei (vS S) (vV V) r.toNat up).2.2.2.2.1))) ∧ ∃ S' V', cX w0 L Z S' V' w' ∧ cOut S S' V V' (30 + 3 * r.toNat) (sNei (vS S) (vV V) r.toNat up)) := by
    intro lv l0 l1 l2
    obtain ⟨hp_r, hk_r, hn_r, ht_r, hx_r, hz_r⟩ := hI.1 r.toNat (by omega)
    have hi_l := hI.2.1
    have hi_g := hI.2.2.1
    refine i_117_0 (x := Int32.ofInt r) l1 ?_
    have hrun := x_noReg (d := d + 8) (w := w) (r := r) ⟨by omega, by omega⟩
    rw [show (decide (r < 0) || decide (16 ≤ r)) = false from by simp; omega] at hrun
    refine i_117_1 (Nat.le_of_ble_eq_true rfl) hrun ?_
    refine i_117_4 (fun _ => ?_) (fun c => absurd c (by decide))
    refine i_117_15 (x := 7) l0 ?_
    refine i_117_16 (v := Value.ref 8) (hR.k0 kq_7) rfl ?_
    refine i_117_19 (x := Int32.ofInt r) l1 ?_
    obtain ⟨gr, hgr, hge⟩ := hR.regs
    refine i_117_20 (v := Value.ref (30 + 3 * r.toNat)) hgr (ix0 (T := r) (by omega) (by omega)) (ix1 (T := r) (by omega) (by omega) (by omega)) (by rw [ixn (T := r) (by omega) (by omega)]; exact hge _ (by omega)) ?_
    refine i_117_21 rfl ?_
    refine lgen1 (i := 3) (v := Value.ref (30 + 3 * r.toNat)) (fun lv lg ls => ?_)
    replace l0 := lg 0 _ rfl rfl l0
    replace l1 := lg 1 _ rfl rfl l1
    replace l2 := lg 2 _ rfl rfl l2
    have l3 := ls
    refine i_117_22 (x := 30 + 3 * r.toNat) l3 ?_
    refine i_117_23 (v := Value.int (Int32.ofInt (S (30 + 3 * r.toNat) 2))) (hR.k2 (kd_reg (r := r.toNat) (by omega))) rfl ?_
    refine i_117_26 (x := Int32.ofInt up) l2 ?_
    refine i_117_27 (b_eq (a := S (30 + 3 * r.toNat) 2) (b := up) ⟨by omega, by omega⟩ ⟨by omega, by omega⟩ fun c0 => ?_) (b_ne (a := S (30 + 3 * r.toNat) 2) (b := up) ⟨by omega, by omega⟩ ⟨by omega, by omega⟩ fun c0 => ?_)
    · refine i_117_34 ?_
      refine i_117_35 rfl ?_
      refine lgen1 (i := 4) (v := Value.int 0) (fun lv lg ls => ?_)
      replace l3 := lg 3 _ rfl rfl l3
      replace l0 := lg 0 _ rfl rfl l0
      replace l1 := lg 1 _ rfl rfl l1
      replace l2 := lg 2 _ rfl rfl l2
      have l4 := ls
      refine i_117_37 (x := 30 + 3 * r.toNat) l3 ?_
      refine i_117_38 (v := Value.int (Int32.ofInt (S (30 + 3 * r.toNat) 1))) (hR.k2 (kd_reg (r := r.toNat) (by omega))) rfl ?_
      refine i_117_41 ?_
      refine i_117_42 (b_ne (a := S (30 + 3 * r.toNat) 1) (b := 2) ⟨by omega, by omega⟩ ⟨by decide, by decide⟩ fun c1 => ?_) (b_eq (a := S (30 + 3 * r.toNat) 1) (b := 2) ⟨by omega, by omega⟩ ⟨by decide, by decide⟩ fun c1 => ?_)
      · refine i_117_65 (x := 30 + 3 * r.toNat) l3 ?_
        refine i_117_66 (v := Value.int (Int32.ofInt (S (30 + 3 * r.toNat) 1))) (hR.k2 (kd_reg (r := r.toNat) (by omega))) rfl ?_
        refine i_117_69 ?_
        refine i_117_70 (b_ne (a := S (30 + 3 * r.toNat) 1) (b := 1) ⟨by omega, by omega⟩ ⟨by decide, by decide⟩ fun c2 => ?_) (b_eq (a := S (30 + 3 * r.toNat) 1) (b := 1) ⟨by omega, by omega⟩ ⟨by decide, by decide⟩ fun c2 => ?_)
        · refine i_117_96 (x := 30 + 3 * r.toNat) l3 ?_
          refine i_117_97 (v := Value.int (Int32.ofInt (S (30 + 3 * r.toNat) 1))) (hR.k2 (kd_reg (r := r.toNat) (by omega))) rfl ?_
          refine i_117_100 ?_
          refine i_117_101 (b_ne (a := S (30 + 3 * r.toNat) 1) (b := 3) ⟨by omega, by omega⟩ ⟨by decide, by decide⟩ fun c3 => ?_) (b_eq (a := S (30 + 3 * r.toNat) 1) (b := 3) ⟨by omega, by omega⟩ ⟨by decide, by decide⟩ fun c3 => ?_)
          · refine i_117_124 (x := 30 + 3 * r.toNat) l3 ?_
            refine i_117_125 (v := Value.int (Int32.ofInt (S (30 + 3 * r.toNat) 1))) (hR.k2 (kd_reg (r := r.toNat) (by omega))) rfl ?_
            refine i_117_128 ?_
            refine i_117_129 (b_ne (a := S (30 + 3 * r.toNat) 1) (b := 3) ⟨by omega, by omega⟩ ⟨by decide, by decide⟩ fun c4 => ?_) (b_eq (a := S (30 + 3 * r.toNat) 1) (b := 3) ⟨by omega, by omega⟩ ⟨by decide, by decide⟩ fun c4 => absurd c4 (by omega))
            refine i_117_144 (x := 30 + 3 * r.toNat) l3 ?_
            refine i_117_145 (v := Value.int (Int32.ofInt (S (30 + 3 * r.toNat) 1))) (hR.k2 (kd_reg (r := r.toNat) (by omega))) rfl ?_
            refine i_117_148 ?_
            by_cases hk0 : S (30 + 3 * r.toNat) 1 = 0
            · have eo : sNei (vS S) (vV V) r.toNat up = (0, 0, 0, 0, 0, S 78 3) := by
                rw [sNei_v]
                rw [if_pos hk0]
              rw [eo, hk0]
              exact ⟨rfl, _, _, hR, hk0, fun e => absurd rfl e, hn_r, fun e => absurd (show (0 : Int) = 3 from e) (by decide), rfl, fun _ _ _ _ _ => rfl, kp.refl, fun _ _ _ _ => rfl⟩
            · have hk1 : S (30 + 3 * r.toNat) 1 = 1 := by omega
              have eo : sNei (vS S) (vV V) r.toNat up = (1, S (30 + 3 * r.toNat) 2, 0, 0, 1, S 78 3) := by
                rw [sNei_v]
                rw [if_neg hk0, if_neg (by omega), if_pos (by omega), if_pos hk1]
              rw [eo, hk1]
              exact ⟨rfl, _, _, hR, hk1, fun _ => rfl, hn_r, fun e => absurd (show (1 : Int) = 3 from e) (by decide), rfl, fun _ _ _ _ _ => rfl, kp.refl, fun _ _ _ _ => rfl⟩
          · try replace ht_r := ht_r.resolve_left (by omega)
            try replace hx_r := hx_r.resolve_left (by omega)
            refine i_117_104 (x := 0) l4 ?_
            refine i_117_106 (fun _ => ?_) (fun c => absurd c (by decide))
            refine i_117_124 (x := 30 + 3 * r.toNat) l3 ?_
            refine i_117_125 (v := Value.int (Int32.ofInt (S (30 + 3 * r.toNat) 1))) (hR.k2 (kd_reg (r := r.toNat) (by omega))) rfl ?_
            refine i_117_128 ?_
            refine i_117_129 (b_ne (a := S (30 + 3 * r.toNat) 1) (b := 3) ⟨by omega, by omega⟩ ⟨by decide, by decide⟩ fun c5 => absurd c5 (by omega)) (b_eq (a := S (30 + 3 * r.toNat) 1) (b := 3) ⟨by omega, by omega⟩ ⟨by decide, by decide⟩ fun c5 => ?_)
            refine i_117_132 (x := 7) l0 ?_
            refine i_117_133 (v := Value.ref 78) (hR.k0 kq_7) rfl ?_
            refine i_117_136 (x := 30 + 3 * r.toNat) l3 ?_
            refine i_117_137 (x := 7) l0 ?_
            refine i_117_138 (v := Value.ref 16) (hR.k0 kq_7) rfl ?_
            have hobj := hR.k1 kq_78
            obtain ⟨w, hrun, S3, V3, hR, hF⟩ := x_inw (d := d + 1) (r := r) hR hI hr (by omega)
            refine i_117_141 hobj (Nat.le_of_ble_eq_true rfl) hrun ?_
            refine i_117_144 (x := 30 + 3 * r.toNat) l3 ?_
            refine i_117_145 (v := Value.int (Int32.ofInt (S3 (30 + 3 * r.toNat) 1))) (hR.k2 (kd_reg (r := r.toNat) (by omega))) rfl ?_
            refine i_117_148 ?_
            have eo : sNei (vS S) (vV V) r.toNat up = o3 (sNea (vS S) (vV V) r.toNat) (S (30 + 3 * r.toNat) 2) (S 78 3) := by
              rw [sNei_v]
              rw [if_neg (by omega), if_neg (by omega), if_neg (by omega)]
            rw [eo, hF.1]
            exact ⟨rfl, _, _, hR, cOut_f hF (by omega) (by omega)⟩
        · refine i_117_73 (x := 0) l4 ?_
          refine i_117_75 (fun c => absurd c (by decide)) (fun _ => ?_)
          refine i_117_78 (x := 30 + 3 * r.toNat) l3 ?_
          refine i_117_79 (x := 30 + 3 * r.toNat) l3 ?_
          refine i_117_80 (v := Value.int (Int32.ofInt (S (30 + 3 * r.toNat) 2))) (hR.k2 (kd_reg (r := r.toNat) (by omega))) rfl ?_
          refine i_117_83 (x := 7) l0 ?_
          refine i_117_84 (v := Value.ref 78) (hR.k0 kq_7) rfl ?_
          refine i_117_87 (v := Value.int (Int32.ofInt (S 78 1))) (hR.k1 kq_78) rfl ?_
          have hobj := hR.k2 (kd_reg (r := r.toNat) (by omega))
          have ep : S (30 + 3 * r.toNat) 0 = S (30 + 3 * r.toNat) 0 := by rfl
          obtain ⟨w, hrun, hR⟩ := x_great (d := d + 4) (t := 30 + 3 * r.toNat) (sg := S (30 + 3 * r.toNat) 2) (pw := S 78 1) hR (kd_reg (r := r.toNat) (by omega)) (by first | omega | exact bb_01 _) (by rw [ep]; omega)
          rw [ep] at hR
          refine i_117_90 hobj (Nat.le_of_ble_eq_true rfl) hrun ?_
          refine i_117_93 ?_
          refine i_117_144 (x := 30 + 3 * r.toNat) l3 ?_
          refine i_117_145 (v := Value.int (Int32.ofInt ((u2 (u2 (u2 S (30 + 3 * r.toNat) 1 3) (30 + 3 * r.toNat) 2 (S (30 + 3 * r.toNat) 2)) (30 + 3 * r.toNat) 3 (S 78 1)) (30 + 3 * r.toNat) 1))) (hR.k2 (kd_reg (r := r.toNat) (by omega))) rfl ?_
          rw [show Int32.ofInt ((u2 (u2 (u2 S (30 + 3 * r.toNat) 1 3) (30 + 3 * r.toNat) 2 (S (30 + 3 * r.toNat) 2)) (30 + 3 * r.toNat) 3 (S 78 1)) (30 + 3 * r.toNat) 1) = Int32.ofInt 3 by rw [u2_eq, if_neg (fun e => absurd e.2 (by decide)), u2_eq, if_neg (fun e => absurd e.2 (by decide)), u2_eq, if_pos ⟨rfl, rfl⟩]]
          refine i_117_148 ?_
          have eo : sNei (vS S) (vV V) r.toNat up = o3 (sMost (vS S) r.toNat) (S (30 + 3 * r.toNat) 2) (S 78 3) := by
            rw [sNei_v, if_neg (by omega), if_neg (by omega), if_neg (by omega), sNea_1 (by omega)]
          rw [eo]
          refine ⟨rfl, _, _, hR, cOut_f (sg := S (30 + 3 * r.toNat) 2) ⟨by rw [u2_eq, if_neg (fun e => absurd e.2 (by decide)), u2_eq, if_neg (fun e => absurd e.2 (by decide)), u2_eq, if_pos ⟨rfl, rfl⟩]; rfl, by rw [u2_eq, if_neg (fun e => absurd e.2 (by decide)), u2_eq, if_pos ⟨rfl, rfl⟩], fun _ => ⟨show (u2 (u2 (u2 S (30 + 3 * r.toNat) 1 3) (30 + 3 * r.toNat) 2 (S (30 + 3 * r.toNat) 2)) (30 + 3 * r.toNat) 3 (S 78 1)) (30 + 3 * r.toNat) 3 = (xbl (2 ^ (S (30 + 3 * r.toNat) 0).toNat - 1) : Int) + (S 78 1 - S (30 + 3 * r.toNat) 0) from by rw [u2_eq, if_pos ⟨rfl, rfl⟩, xbl_ones]; omega, by rw [uv_s]; show _ = nrm (2 ^ (S (30 + 3 * r.toNat) 0).toNat - 1) (S (30 + 3 * r.toNat) 0); rw [nrm_ones (by omega)]⟩, fun b j _ g2 => by rw [u2_eq, if_neg (fun e => g2 ⟨e.1, by rw [e.2]; decide⟩), u2_eq, if_neg (fun e => g2 ⟨e.1, by rw [e.2]; decide⟩), u2_eq, if_neg (fun e => g2 ⟨e.1, by rw [e.2]; decide⟩)], fun k _ g2 => uv_n g2⟩ (by omega) (by omega)⟩
      · refine i_117_45 (x := 7) l0 ?_
        refine i_117_46 (v := Value.ref 78) (hR.k0 kq_7) rfl ?_
        refine i_117_49 (x := 30 + 3 * r.toNat) l3 ?_
        refine i_117_50 (x := Int32.ofInt up) l2 ?_
        refine i_117_51 (z_ne (a := up) ⟨by omega, by omega⟩ fun c6 => ?_) (z_eq (a := up) ⟨by omega, by omega⟩ fun c6 => ?_)
        · refine i_117_58 ?_
          have hobj := hR.k1 kq_78
          obtain ⟨w, hrun, hR⟩ := x_least (d := d + 3) (r := r) (sg := 0) hR hI hr (by omega)
          refine i_117_59 hobj (Nat.le_of_ble_eq_true rfl) hrun ?_
          refine i_117_62 ?_
          refine i_117_144 (x := 30 + 3 * r.toNat) l3 ?_
          refine i_117_145 (v := Value.int (Int32.ofInt ((u2 (u2 (u2 S (30 + 3 * r.toNat) 1 3) (30 + 3 * r.toNat) 2 0) (30 + 3 * r.toNat) 3 (if S 78 2 = 0 then S 78 0 else S 78 0 - S (30 + 3 * r.toNat) 0 + 1)) (30 + 3 * r.toNat) 1))) (hR.k2 (kd_reg (r := r.toNat) (by omega))) rfl ?_
          rw [show Int32.ofInt ((u2 (u2 (u2 S (30 + 3 * r.toNat) 1 3) (30 + 3 * r.toNat) 2 0) (30 + 3 * r.toNat) 3 (if S 78 2 = 0 then S 78 0 else S 78 0 - S (30 + 3 * r.toNat) 0 + 1)) (30 + 3 * r.toNat) 1) = Int32.ofInt 3 by rw [u2_eq, if_neg (fun e => absurd e.2 (by decide)), u2_eq, if_neg (fun e => absurd e.2 (by decide)), u2_eq, if_pos ⟨rfl, rfl⟩]]
          refine i_117_148 ?_
          have eo : sNei (vS S) (vV V) r.toNat up = o3 (put3 1 (if S 78 2 = 0 then S 78 0 - 1 else S 78 0 - S (30 + 3 * r.toNat) 0) (S (30 + 3 * r.toNat) 0)) 0 (S 78 3) := by
            rw [sNei_v]
            rw [if_neg (by omega), if_pos (by omega), show (1 : Int) - up = 0 by omega]
          rw [eo]
          refine ⟨rfl, _, _, hR, cOut_f (sg := 0) ⟨by rw [u2_eq, if_neg (fun e => absurd e.2 (by decide)), u2_eq, if_neg (fun e => absurd e.2 (by decide)), u2_eq, if_pos ⟨rfl, rfl⟩]; rfl, by rw [u2_eq, if_neg (fun e => absurd e.2 (by decide)), u2_eq, if_pos ⟨rfl, rfl⟩], fun _ => ⟨show (u2 (u2 (u2 S (30 + 3 * r.toNat) 1 3) (30 + 3 * r.toNat) 2 0) (30 + 3 * r.toNat) 3 (if S 78 2 = 0 then S 78 0 else S 78 0 - S (30 + 3 * r.toNat) 0 + 1)) (30 + 3 * r.toNat) 3 = (xbl 1 : Int) + (if S 78 2 = 0 then S 78 0 - 1 else S 78 0 - S (30 + 3 * r.toNat) 0) from by rw [u2_eq, if_pos ⟨rfl, rfl⟩, show xbl 1 = 1 from rfl]; split <;> omega, by rw [uv_s]; show _ = nrm 1 _; rw [show (1 : Nat) = 2 ^ 0 from rfl, nrm_pow (by omega) (by omega)]⟩, fun b j _ g2 => by rw [u2_eq, if_neg (fun e => g2 ⟨e.1, by rw [e.2]; decide⟩), u2_eq, if_neg (fun e => g2 ⟨e.1, by rw [e.2]; decide⟩), u2_eq, if_neg (fun e => g2 ⟨e.1, by rw [e.2]; decide⟩)], fun k _ g2 => uv_n g2⟩ (by omega) (by omega)⟩
        · refine i_117_54 ?_
          refine i_117_55 ?_
          have hobj := hR.k1 kq_78
          obtain ⟨w, hrun, hR⟩ := x_least (d := d + 3) (r := r) (sg := 1) hR hI hr (by omega)
          refine i_117_59 hobj (Nat.le_of_ble_eq_true rfl) hrun ?_
          refine i_117_62 ?_
          refine i_117_144 (x := 30 + 3 * r.toNat) l3 ?_
          refine i_117_145 (v := Value.int (Int32.ofInt ((u2 (u2 (u2 S (30 + 3 * r.toNat) 1 3) (30 + 3 * r.toNat) 2 1) (30 + 3 * r.toNat) 3 (if S 78 2 = 0 then S 78 0 else S 78 0 - S (30 + 3 * r.toNat) 0 + 1)) (30 + 3 * r.toNat) 1))) (hR.k2 (kd_reg (r := r.toNat) (by omega))) rfl ?_
          rw [show Int32.ofInt ((u2 (u2 (u2 S (30 + 3 * r.toNat) 1 3) (30 + 3 * r.toNat) 2 1) (30 + 3 * r.toNat) 3 (if S 78 2 = 0 then S 78 0 else S 78 0 - S (30 + 3 * r.toNat) 0 + 1)) (30 + 3 * r.toNat) 1) = Int32.ofInt 3 by rw [u2_eq, if_neg (fun e => absurd e.2 (by decide)), u2_eq, if_neg (fun e => absurd e.2 (by decide)), u2_eq, if_pos ⟨rfl, rfl⟩]]
          refine i_117_148 ?_
          have eo : sNei (vS S) (vV V) r.toNat up = o3 (put3 1 (if S 78 2 = 0 then S 78 0 - 1 else S 78 0 - S (30 + 3 * r.toNat) 0) (S (30 + 3 * r.toNat) 0)) 1 (S 78 3) := by
            rw [sNei_v]
            rw [if_neg (by omega), if_pos (by omega), show (1 : Int) - up = 1 by omega]
          rw [eo]
          refine ⟨rfl, _, _, hR, cOut_f (sg := 1) ⟨by rw [u2_eq, if_neg (fun e => absurd e.2 (by decide)), u2_eq, if_neg (fun e => absurd e.2 (by decide)), u2_eq, if_pos ⟨rfl, rfl⟩]; rfl, by rw [u2_eq, if_neg (fun e => absurd e.2 (by decide)), u2_eq, if_pos ⟨rfl, rfl⟩], fun _ => ⟨show (u2 (u2 (u2 S (30 + 3 * r.toNat) 1 3) (30 + 3 * r.toNat) 2 1) (30 + 3 * r.toNat) 3 (if S 78 2 = 0 then S 78 0 else S 78 0 - S (30 + 3 * r.toNat) 0 + 1)) (30 + 3 * r.toNat) 3 = (xbl 1 : Int) + (if S 78 2 = 0 then S 78 0 - 1 else S 78 0 - S (30 + 3 * r.toNat) 0) from by rw [u2_eq, if_pos ⟨rfl, rfl⟩, show xbl 1 = 1 from rfl]; split <;> omega, by rw [uv_s]; show _ = nrm 1 _; rw [show (1 : Nat) = 2 ^ 0 from rfl, nrm_pow (by omega) (by omega)]⟩, fun b j _ g2 => by rw [u2_eq, if_neg (fun e => g2 ⟨e.1, by rw [e.2]; decide⟩), u2_eq, if_neg (fun e => g2 ⟨e.1, by rw [e.2]; decide⟩), u2_eq, if_neg (fun e => g2 ⟨e.1, by rw [e.2]; decide⟩)], fun k _ g2 => uv_n g2⟩ (by omega) (by omega)⟩
    · refine i_117_30 ?_
      refine i_117_31 ?_
      refine i_117_35 rfl ?_
      refine lgen1 (i := 4) (v := Value.int 1) (fun lv lg ls => ?_)
      replace l3 := lg 3 _ rfl rfl l3
      replace l0 := lg 0 _ rfl rfl l0
      replace l1 := lg 1 _ rfl rfl l1
      replace l2 := lg 2 _ rfl rfl l2
      have l4 := ls
      refine i_117_37 (x := 30 + 3 * r.toNat) l3 ?_
      refine i_117_38 (v := Value.int (Int32.ofInt (S (30 + 3 * r.toNat) 1))) (hR.k2 (kd_reg (r := r.toNat) (by omega))) rfl ?_
      refine i_117_41 ?_
      refine i_117_42 (b_ne (a := S (30 + 3 * r.toNat) 1) (b := 2) ⟨by omega, by omega⟩ ⟨by decide, by decide⟩ fun c7 => ?_) (b_eq (a := S (30 + 3 * r.toNat) 1) (b := 2) ⟨by omega, by omega⟩ ⟨by decide, by decide⟩ fun c7 => ?_)
      · refine i_117_65 (x := 30 + 3 * r.toNat) l3 ?_
        refine i_117_66 (v := Value.int (Int32.ofInt (S (30 + 3 * r.toNat) 1))) (hR.k2 (kd_reg (r := r.toNat) (by omega))) rfl ?_
        refine i_117_69 ?_
        refine i_117_70 (b_ne (a := S (30 + 3 * r.toNat) 1) (b := 1) ⟨by omega, by omega⟩ ⟨by decide, by decide⟩ fun c8 => ?_) (b_eq (a := S (30 + 3 * r.toNat) 1) (b := 1) ⟨by omega, by omega⟩ ⟨by decide, by decide⟩ fun c8 => ?_)
        · refine i_117_96 (x := 30 + 3 * r.toNat) l3 ?_
          refine i_117_97 (v := Value.int (Int32.ofInt (S (30 + 3 * r.toNat) 1))) (hR.k2 (kd_reg (r := r.toNat) (by omega))) rfl ?_
          refine i_117_100 ?_
          refine i_117_101 (b_ne (a := S (30 + 3 * r.toNat) 1) (b := 3) ⟨by omega, by omega⟩ ⟨by decide, by decide⟩ fun c9 => ?_) (b_eq (a := S (30 + 3 * r.toNat) 1) (b := 3) ⟨by omega, by omega⟩ ⟨by decide, by decide⟩ fun c9 => ?_)
          · refine i_117_124 (x := 30 + 3 * r.toNat) l3 ?_
            refine i_117_125 (v := Value.int (Int32.ofInt (S (30 + 3 * r.toNat) 1))) (hR.k2 (kd_reg (r := r.toNat) (by omega))) rfl ?_
            refine i_117_128 ?_
            refine i_117_129 (b_ne (a := S (30 + 3 * r.toNat) 1) (b := 3) ⟨by omega, by omega⟩ ⟨by decide, by decide⟩ fun c10 => ?_) (b_eq (a := S (30 + 3 * r.toNat) 1) (b := 3) ⟨by omega, by omega⟩ ⟨by decide, by decide⟩ fun c10 => absurd c10 (by omega))
            refine i_117_144 (x := 30 + 3 * r.toNat) l3 ?_
            refine i_117_145 (v := Value.int (Int32.ofInt (S (30 + 3 * r.toNat) 1))) (hR.k2 (kd_reg (r := r.toNat) (by omega))) rfl ?_
            refine i_117_148 ?_
            by_cases hk0 : S (30 + 3 * r.toNat) 1 = 0
            · have eo : sNei (vS S) (vV V) r.toNat up = (0, 0, 0, 0, 0, S 78 3) := by
                rw [sNei_v]
                rw [if_pos hk0]
              rw [eo, hk0]
              exact ⟨rfl, _, _, hR, hk0, fun e => absurd rfl e, hn_r, fun e => absurd (show (0 : Int) = 3 from e) (by decide), rfl, fun _ _ _ _ _ => rfl, kp.refl, fun _ _ _ _ => rfl⟩
            · have hk1 : S (30 + 3 * r.toNat) 1 = 1 := by omega
              have eo : sNei (vS S) (vV V) r.toNat up = (1, S (30 + 3 * r.toNat) 2, 0, 0, 1, S 78 3) := by
                rw [sNei_v]
                rw [if_neg hk0, if_neg (by omega), if_pos (by omega), if_pos hk1]
              rw [eo, hk1]
              exact ⟨rfl, _, _, hR, hk1, fun _ => rfl, hn_r, fun e => absurd (show (1 : Int) = 3 from e) (by decide), rfl, fun _ _ _ _ _ => rfl, kp.refl, fun _ _ _ _ => rfl⟩
          · try replace ht_r := ht_r.resolve_left (by omega)
            try replace hx_r := hx_r.resolve_left (by omega)
            refine i_117_104 (x := 1) l4 ?_
            refine i_117_106 (fun c => absurd c (by decide)) (fun _ => ?_)
            refine i_117_109 (x := 7) l0 ?_
            refine i_117_110 (v := Value.ref 78) (hR.k0 kq_7) rfl ?_
            refine i_117_113 (x := 30 + 3 * r.toNat) l3 ?_
            refine i_117_114 (x := 7) l0 ?_
            refine i_117_115 (v := Value.ref 16) (hR.k0 kq_7) rfl ?_
            have hobj := hR.k1 kq_78
            obtain ⟨w, hrun, S3, V3, hR, hF⟩ := x_outw (d := d + 2) (r := r) hR hI hr (by omega)
            refine i_117_118 hobj (Nat.le_of_ble_eq_true rfl) hrun ?_
            refine i_117_121 ?_
            refine i_117_144 (x := 30 + 3 * r.toNat) l3 ?_
            refine i_117_145 (v := Value.int (Int32.ofInt (S3 (30 + 3 * r.toNat) 1))) (hR.k2 (kd_reg (r := r.toNat) (by omega))) rfl ?_
            refine i_117_148 ?_
            have eo : sNei (vS S) (vV V) r.toNat up = o3 (sFar (vS S) (vV V) r.toNat) (S (30 + 3 * r.toNat) 2) (S 78 3) := by
              rw [sNei_v]
              rw [if_neg (by omega), if_neg (by omega), if_pos (by omega), if_neg (by omega)]
            rw [eo, hF.1]
            exact ⟨rfl, _, _, hR, cOut_f hF (by omega) (by omega)⟩
        · refine i_117_73 (x := 1) l4 ?_
          refine i_117_75 (fun _ => ?_) (fun c => absurd c (by decide))
          refine i_117_96 (x := 30 + 3 * r.toNat) l3 ?_
          refine i_117_97 (v := Value.int (Int32.ofInt (S (30 + 3 * r.toNat) 1))) (hR.k2 (kd_reg (r := r.toNat) (by omega))) rfl ?_
          refine i_117_100 ?_
          refine i_117_101 (b_ne (a := S (30 + 3 * r.toNat) 1) (b := 3) ⟨by omega, by omega⟩ ⟨by decide, by decide⟩ fun c11 => ?_) (b_eq (a := S (30 + 3 * r.toNat) 1) (b := 3) ⟨by omega, by omega⟩ ⟨by decide, by decide⟩ fun c11 => absurd c11 (by omega))
          refine i_117_124 (x := 30 + 3 * r.toNat) l3 ?_
          refine i_117_125 (v := Value.int (Int32.ofInt (S (30 + 3 * r.toNat) 1))) (hR.k2 (kd_reg (r := r.toNat) (by omega))) rfl ?_
          refine i_117_128 ?_
          refine i_117_129 (b_ne (a := S (30 + 3 * r.toNat) 1) (b := 3) ⟨by omega, by omega⟩ ⟨by decide, by decide⟩ fun c12 => ?_) (b_eq (a := S (30 + 3 * r.toNat) 1) (b := 3) ⟨by omega, by omega⟩ ⟨by decide, by decide⟩ fun c12 => absurd c12 (by omega))
          refine i_117_144 (x := 30 + 3 * r.toNat) l3 ?_
          refine i_117_145 (v := Value.int (Int32.ofInt (S (30 + 3 * r.toNat) 1))) (hR.k2 (kd_reg (r := r.toNat) (by omega))) rfl ?_
          refine i_117_148 ?_
          by_cases hk0 : S (30 + 3 * r.toNat) 1 = 0
          · have eo : sNei (vS S) (vV V) r.toNat up = (0, 0, 0, 0, 0, S 78 3) := by
              rw [sNei_v]
              rw [if_pos hk0]
            rw [eo, hk0]
            exact ⟨rfl, _, _, hR, hk0, fun e => absurd rfl e, hn_r, fun e => absurd (show (0 : Int) = 3 from e) (by decide), rfl, fun _ _ _ _ _ => rfl, kp.refl, fun _ _ _ _ => rfl⟩
          · have hk1 : S (30 + 3 * r.toNat) 1 = 1 := by omega
            have eo : sNei (vS S) (vV V) r.toNat up = (1, S (30 + 3 * r.toNat) 2, 0, 0, 1, S 78 3) := by
              rw [sNei_v]
              rw [if_neg hk0, if_neg (by omega), if_pos (by omega), if_pos hk1]
            rw [eo, hk1]
            exact ⟨rfl, _, _, hR, hk1, fun _ => rfl, hn_r, fun e => absurd (show (1 : Int) = 3 from e) (by decide), rfl, fun _ _ _ _ _ => rfl, kp.refl, fun _ _ _ _ => rfl⟩
      · refine i_117_45 (x := 7) l0 ?_
        refine i_117_46 (v := Value.ref 78) (hR.k0 kq_7) rfl ?_
        refine i_117_49 (x := 30 + 3 * r.toNat) l3 ?_
        refine i_117_50 (x := Int32.ofInt up) l2 ?_
        refine i_117_51 (z_ne (a := up) ⟨by omega, by omega⟩ fun c13 => ?_) (z_eq (a := up) ⟨by omega, by omega⟩ fun c13 => ?_)
        · refine i_117_58 ?_
          have hobj := hR.k1 kq_78
          obtain ⟨w, hrun, hR⟩ := x_least (d := d + 3) (r := r) (sg := 0) hR hI hr (by omega)
          refine i_117_59 hobj (Nat.le_of_ble_eq_true rfl) hrun ?_
          refine i_117_62 ?_
          refine i_117_144 (x := 30 + 3 * r.toNat) l3 ?_
          refine i_117_145 (v := Value.int (Int32.ofInt ((u2 (u2 (u2 S (30 + 3 * r.toNat) 1 3) (30 + 3 * r.toNat) 2 0) (30 + 3 * r.toNat) 3 (if S 78 2 = 0 then S 78 0 else S 78 0 - S (30 + 3 * r.toNat) 0 + 1)) (30 + 3 * r.toNat) 1))) (hR.k2 (kd_reg (r := r.toNat) (by omega))) rfl ?_
          rw [show Int32.ofInt ((u2 (u2 (u2 S (30 + 3 * r.toNat) 1 3) (30 + 3 * r.toNat) 2 0) (30 + 3 * r.toNat) 3 (if S 78 2 = 0 then S 78 0 else S 78 0 - S (30 + 3 * r.toNat) 0 + 1)) (30 + 3 * r.toNat) 1) = Int32.ofInt 3 by rw [u2_eq, if_neg (fun e => absurd e.2 (by decide)), u2_eq, if_neg (fun e => absurd e.2 (by decide)), u2_eq, if_pos ⟨rfl, rfl⟩]]
          refine i_117_148 ?_
          have eo : sNei (vS S) (vV V) r.toNat up = o3 (put3 1 (if S 78 2 = 0 then S 78 0 - 1 else S 78 0 - S (30 + 3 * r.toNat) 0) (S (30 + 3 * r.toNat) 0)) 0 (S 78 3) := by
            rw [sNei_v]
            rw [if_neg (by omega), if_pos (by omega), show (1 : Int) - up = 0 by omega]
          rw [eo]
          refine ⟨rfl, _, _, hR, cOut_f (sg := 0) ⟨by rw [u2_eq, if_neg (fun e => absurd e.2 (by decide)), u2_eq, if_neg (fun e => absurd e.2 (by decide)), u2_eq, if_pos ⟨rfl, rfl⟩]; rfl, by rw [u2_eq, if_neg (fun e => absurd e.2 (by decide)), u2_eq, if_pos ⟨rfl, rfl⟩], fun _ => ⟨show (u2 (u2 (u2 S (30 + 3 * r.toNat) 1 3) (30 + 3 * r.toNat) 2 0) (30 + 3 * r.toNat) 3 (if S 78 2 = 0 then S 78 0 else S 78 0 - S (30 + 3 * r.toNat) 0 + 1)) (30 + 3 * r.toNat) 3 = (xbl 1 : Int) + (if S 78 2 = 0 then S 78 0 - 1 else S 78 0 - S (30 + 3 * r.toNat) 0) from by rw [u2_eq, if_pos ⟨rfl, rfl⟩, show xbl 1 = 1 from rfl]; split <;> omega, by rw [uv_s]; show _ = nrm 1 _; rw [show (1 : Nat) = 2 ^ 0 from rfl, nrm_pow (by omega) (by omega)]⟩, fun b j _ g2 => by rw [u2_eq, if_neg (fun e => g2 ⟨e.1, by rw [e.2]; decide⟩), u2_eq, if_neg (fun e => g2 ⟨e.1, by rw [e.2]; decide⟩), u2_eq, if_neg (fun e => g2 ⟨e.1, by rw [e.2]; decide⟩)], fun k _ g2 => uv_n g2⟩ (by omega) (by omega)⟩
        · refine i_117_54 ?_
          refine i_117_55 ?_
          have hobj := hR.k1 kq_78
          obtain ⟨w, hrun, hR⟩ := x_least (d := d + 3) (r := r) (sg := 1) hR hI hr (by omega)
          refine i_117_59 hobj (Nat.le_of_ble_eq_true rfl) hrun ?_
          refine i_117_62 ?_
          refine i_117_144 (x := 30 + 3 * r.toNat) l3 ?_
          refine i_117_145 (v := Value.int (Int32.ofInt ((u2 (u2 (u2 S (30 + 3 * r.toNat) 1 3) (30 + 3 * r.toNat) 2 1) (30 + 3 * r.toNat) 3 (if S 78 2 = 0 then S 78 0 else S 78 0 - S (30 + 3 * r.toNat) 0 + 1)) (30 + 3 * r.toNat) 1))) (hR.k2 (kd_reg (r := r.toNat) (by omega))) rfl ?_
          rw [show Int32.ofInt ((u2 (u2 (u2 S (30 + 3 * r.toNat) 1 3) (30 + 3 * r.toNat) 2 1) (30 + 3 * r.toNat) 3 (if S 78 2 = 0 then S 78 0 else S 78 0 - S (30 + 3 * r.toNat) 0 + 1)) (30 + 3 * r.toNat) 1) = Int32.ofInt 3 by rw [u2_eq, if_neg (fun e => absurd e.2 (by decide)), u2_eq, if_neg (fun e => absurd e.2 (by decide)), u2_eq, if_pos ⟨rfl, rfl⟩]]
          refine i_117_148 ?_
          have eo : sNei (vS S) (vV V) r.toNat up = o3 (put3 1 (if S 78 2 = 0 then S 78 0 - 1 else S 78 0 - S (30 + 3 * r.toNat) 0) (S (30 + 3 * r.toNat) 0)) 1 (S 78 3) := by
            rw [sNei_v]
            rw [if_neg (by omega), if_pos (by omega), show (1 : Int) - up = 1 by omega]
          rw [eo]
          refine ⟨rfl, _, _, hR, cOut_f (sg := 1) ⟨by rw [u2_eq, if_neg (fun e => absurd e.2 (by decide)), u2_eq, if_neg (fun e => absurd e.2 (by decide)), u2_eq, if_pos ⟨rfl, rfl⟩]; rfl, by rw [u2_eq, if_neg (fun e => absurd e.2 (by decide)), u2_eq, if_pos ⟨rfl, rfl⟩], fun _ => ⟨show (u2 (u2 (u2 S (30 + 3 * r.toNat) 1 3) (30 + 3 * r.toNat) 2 1) (30 + 3 * r.toNat) 3 (if S 78 2 = 0 then S 78 0 else S 78 0 - S (30 + 3 * r.toNat) 0 + 1)) (30 + 3 * r.toNat) 3 = (xbl 1 : Int) + (if S 78 2 = 0 then S 78 0 - 1 else S 78 0 - S (30 + 3 * r.toNat) 0) from by rw [u2_eq, if_pos ⟨rfl, rfl⟩, show xbl 1 = 1 from rfl]; split <;> omega, by rw [uv_s]; show _ = nrm 1 _; rw [show (1 : Nat) = 2 ^ 0 from rfl, nrm_pow (by omega) (by omega)]⟩, fun b j _ g2 => by rw [u2_eq, if_neg (fun e => g2 ⟨e.1, by rw [e.2]; decide⟩), u2_eq, if_neg (fun e => g2 ⟨e.1, by rw [e.2]; decide⟩), u2_eq, if_neg (fun e => g2 ⟨e.1, by rw [e.2]; decide⟩)], fun k _ g2 => uv_n g2⟩ (by omega) (by omega)⟩
  obtain ⟨o, w', h1, rfl, h2⟩ := (key (lv_args 0 [Value.ref 7, Value.int (Int32.ofInt r), Value.int (Int32.ofInt up)]) rfl rfl rfl).run
  exact ⟨w', h1, h2⟩
end
