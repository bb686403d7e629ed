/-! remain of the class -/
def sRem2 (S : Nat → Nat → Int) (V : Nat → Nat) (r a b : Nat) (near mode : Int) : OO := if S 154 a = 0 ∨ S 154 b = 0 then oS 0 0 (S 128 19) else sRem S V r a b near mode
theorem gO_rem {near : Int} {X Y : Nat} (hn : near ≠ 0) : gO 0 0 (bb (nbit (X / Y) 0)) (ncmp (X % Y * 2 ^ (1 : Int).toNat) Y) = remB near X Y := by
  have h := ncmp_3 (X % Y * 2 ^ (1 : Int).toNat) Y
  have hb : (!decide (bb (nbit (X / Y) 0) = 0)) = nbit (X / Y) 0 := by cases nbit (X / Y) 0 <;> rfl
  unfold gO remB
  rw [if_pos rfl, hb, decide_eq_false hn]
  generalize X % Y * 2 ^ (1 : Int).toNat = A at h ⊢
  generalize nbit (X / Y) 0 = o
  rcases h with ⟨h1, h2⟩ | ⟨h1, h2⟩ | ⟨h1, h2⟩
  · rw [h1, decide_eq_false (show ¬ Y < A by omega), decide_eq_false (show ¬ A = Y by omega)]; rfl
  · rw [h1, decide_eq_false (show ¬ Y < A by omega), decide_eq_true h2]; rfl
  · rw [h1, decide_eq_true h2]; rfl
theorem rem_small {X Y : Nat} {near : Int} (h : 2 * X < Y) : remB near X Y = false ∧ X % Y = X := by
  have e : X % Y = X := Nat.mod_eq_of_lt (by omega)
  refine ⟨?_, e⟩
  unfold remB
  rw [e, show 2 ^ (1 : Int).toNat = 2 from rfl, decide_eq_false (show ¬ Y < X * 2 by omega), decide_eq_false (show ¬ X * 2 = Y by omega)]
  simp
theorem rem_short {S : Nat → Nat → Int} {V : Nat → Nat} {r a b : Nat} {near mode : Int} (ka : S (30 + 3 * a) 1 = 3) (kb : S (30 + 3 * b) 1 = 3) (ma : V (30 + 3 * a + 1) ≠ 0) (mb : V (30 + 3 * b + 1) ≠ 0) (za : (xbl (V (30 + 3 * a + 1)) : Int) = S (30 + 3 * a) 0) (zb : (xbl (V (30 + 3 * b + 1)) : Int) = S (30 + 3 * b) 0) (pa : 2 ≤ S (30 + 3 * a) 0 ∧ S (30 + 3 * a) 0 ≤ 4096) (pb : 2 ≤ S (30 + 3 * b) 0 ∧ S (30 + 3 * b) 0 ≤ 4096) (ta : -20479 ≤ S (30 + 3 * a) 3 ∧ S (30 + 3 * a) 3 ≤ 16384) (tb : -20479 ≤ S (30 + 3 * b) 3 ∧ S (30 + 3 * b) 3 ≤ 16384) (hlt : S (30 + 3 * a) 3 < S (30 + 3 * b) 3 - 1) :
    sRem2 (vS S) (vV V) r a b near mode = oR (S (30 + 3 * r) 0) (S 78 0) (S 78 1) (S 78 2) (S (30 + 3 * a) 2) mode 0 (V (30 + 3 * a + 1)) (S (30 + 3 * a) 3 - S (30 + 3 * a) 0) (S 78 3) := by
  unfold sRem2 sRem
  rw [vS_154, vS_154, if_neg (by omega), if_neg (by omega), if_neg (by omega), remX_comm (S := vS S) (V := vV V) (a := a) (b := b)]
  unfold remX
  simp only [ex, vS_153, vS_154, vS_155, vS_156, vS_17, vS_18, vS_19, vS_20, vV_r]
  obtain ⟨i, hi⟩ : ∃ i : Nat, (i : Int) = S (30 + 3 * a) 3 - S (30 + 3 * a) 0 - min (S (30 + 3 * a) 3 - S (30 + 3 * a) 0) (S (30 + 3 * b) 3 - S (30 + 3 * b) 0) := ⟨(S (30 + 3 * a) 3 - S (30 + 3 * a) 0 - min (S (30 + 3 * a) 3 - S (30 + 3 * a) 0) (S (30 + 3 * b) 3 - S (30 + 3 * b) 0)).toNat, by omega⟩
  obtain ⟨j, hj⟩ : ∃ j : Nat, (j : Int) = S (30 + 3 * b) 3 - S (30 + 3 * b) 0 - min (S (30 + 3 * a) 3 - S (30 + 3 * a) 0) (S (30 + 3 * b) 3 - S (30 + 3 * b) 0) := ⟨(S (30 + 3 * b) 3 - S (30 + 3 * b) 0 - min (S (30 + 3 * a) 3 - S (30 + 3 * a) 0) (S (30 + 3 * b) 3 - S (30 + 3 * b) 0)).toNat, by omega⟩
  rw [← hi, ← hj, show min (S (30 + 3 * a) 3 - S (30 + 3 * a) 0) (S (30 + 3 * b) 3 - S (30 + 3 * b) 0) = S (30 + 3 * a) 3 - S (30 + 3 * a) 0 - (i : Int) by omega]
  show sRem1 _ _ _ _ _ _ _ _ (V (30 + 3 * a + 1) * 2 ^ i) (V (30 + 3 * b + 1) * 2 ^ j) _ = _
  have h1 : V (30 + 3 * a + 1) * 2 ^ i < 2 ^ (xbl (V (30 + 3 * a + 1)) + i) := by
    rw [Nat.pow_add]
    exact Nat.mul_lt_mul_of_pos_right (xbl_of ma).2.1 (Nat.two_pow_pos _)
  have h2 : 2 ^ (xbl (V (30 + 3 * b + 1)) - 1 + j) ≤ V (30 + 3 * b + 1) * 2 ^ j := by
    rw [Nat.pow_add]
    exact Nat.mul_le_mul_right _ (xbl_of mb).1
  have h3 : 2 ^ (xbl (V (30 + 3 * a + 1)) + i + 1) ≤ 2 ^ (xbl (V (30 + 3 * b + 1)) - 1 + j) := Nat.pow_le_pow_right (by decide) (by omega)
  rw [Nat.pow_succ] at h3
  obtain ⟨g1, g2⟩ := rem_small (X := V (30 + 3 * a + 1) * 2 ^ i) (Y := V (30 + 3 * b + 1) * 2 ^ j) (near := near) (by omega)
  unfold sRem1
  rw [g1, g2, if_neg (by decide), if_neg (Nat.mul_ne_zero ma (Nat.ne_of_gt (Nat.two_pow_pos _))), oR_sc ma]
section
variable {w0 w : xW} {L Z : Nat} {S : Nat → Nat → Int} {V : Nat → Nat} {d h t r : Nat}
set_option maxHeartbeats 16000000 in
theorem x_rem {r a b near mode : Int} (hR : cX w0 L Z S V w) (hI : cI S V) (hr : 0 ≤ r ∧ r ≤ 15) (ha : 0 ≤ a ∧ a ≤ 15) (hb : 0 ≤ b ∧ b ≤ 15) (hnr : near = 0 ∨ near = 1) (hmo : 0 ≤ mode ∧ mode ≤ 4) : ∃ w', xRun (d + 10) 78 [Value.ref 93, Value.ref (30 + 3 * r.toNat), Value.ref (30 + 3 * a.toNat), Value.ref (30 + 3 * b.toNat), Value.int (Int32.ofInt near), Value.int (Int32.ofInt mode)] w (.inl (some (.int (Int32.ofInt (sRem2 (vS S) (vV V) r.toNat a.toNat b.toNat near mode).2.2.2.2.1)))) w' ∧ ∃ S' V', cX w0 L Z S' V' w' ∧ cOut S S' V V' (30 + 3 * r.toNat) (sRem2 (vS S) (vV V) r.toNat a.toNat b.toNat near mode) := by
  have key : ∀ lv, xld lv 0 = some (Value.ref 93) → xld lv 1 = some (Value.ref (30 + 3 * r.toNat)) → xld lv 2 = some (Value.ref (30 + 3 * a.toNat)) → xld lv 3 = some (Value.ref (30 + 3 * b.toNat)) → xld lv 4 = some (Value.int (Int32.ofInt near)) → xld lv 5 = some (Value.int (Int32.ofInt mode)) → xEv (d + 10) 78 0 lv [] w (fun o w' => o = .inl (some (.int (Int32.ofInt (sRem2 (vS S) (vV V) r.toNat a.toNat b.toNat near mode).2.2.2.2.1))) ∧ ∃ S' V', cX w0 L Z S' V' w' ∧ cOut S S' V V' (30 + 3 * r.toNat) (sRem2 (vS S) (vV V) r.toNat a.toNat b.toNat near mode)) := by
    intro lv l0 l1 l2 l3 l4 l5
    obtain ⟨hp_r, hk_r, hn_r, ht_r, hx_r, hz_r⟩ := hI.1 r.toNat (by omega)
    obtain ⟨hp_a, hk_a, hn_a, ht_a, hx_a, hz_a⟩ := hI.1 a.toNat (by omega)
    obtain ⟨hp_b, hk_b, hn_b, ht_b, hx_b, hz_b⟩ := hI.1 b.toNat (by omega)
    have hi_l := hI.2.1
    have hi_g := hI.2.2.1
    have hm_a : S (30 + 3 * a.toNat) 1 = 3 → V (30 + 3 * a.toNat + 1) ≠ 0 := fun e => hI.nz (by omega) e
    have hm_b : S (30 + 3 * b.toNat) 1 = 3 → V (30 + 3 * b.toNat + 1) ≠ 0 := fun e => hI.nz (by omega) e
    refine i_78_0 (x := 30 + 3 * a.toNat) l2 ?_
    refine i_78_1 (v := Value.int (Int32.ofInt (S (30 + 3 * a.toNat) 2))) (hR.k2 (kd_reg (r := a.toNat) (by omega))) rfl ?_
    refine i_78_4 rfl ?_
    refine lgen1 (i := 6) (v := Value.int (Int32.ofInt (S (30 + 3 * a.toNat) 2))) (fun lv lg ls => ?_)
    replace l0 := lg 0 _ rfl rfl l0
    replace l1 := lg 1 _ rfl rfl l1
    replace l2 := lg 2 _ rfl rfl l2
    replace l3 := lg 3 _ rfl rfl l3
    replace l4 := lg 4 _ rfl rfl l4
    replace l5 := lg 5 _ rfl rfl l5
    have l6 := ls
    refine i_78_6 (x := 30 + 3 * a.toNat) l2 ?_
    refine i_78_7 (v := Value.int (Int32.ofInt (S (30 + 3 * a.toNat) 1))) (hR.k2 (kd_reg (r := a.toNat) (by omega))) rfl ?_
    refine i_78_10 (z_eq (a := S (30 + 3 * a.toNat) 1) ⟨by omega, by omega⟩ fun c0 => ?_) (z_ne (a := S (30 + 3 * a.toNat) 1) ⟨by omega, by omega⟩ fun c0 => ?_)
    · refine i_78_20 (x := 30 + 3 * r.toNat) l1 ?_
      have hobj := hR.k2 (kd_reg (r := r.toNat) (by omega))
      obtain ⟨w, hrun, hR⟩ := x_nan (d := d + 8) (t := 30 + 3 * r.toNat) hR (kd_reg (r := r.toNat) (by omega))
      refine i_78_21 hobj (Nat.le_of_ble_eq_true rfl) hrun ?_
      refine i_78_24 ?_
      have eo : sRem2 (vS S) (vV V) r.toNat a.toNat b.toNat near mode = oS 0 0 (S 78 3) := by clear hR; simp only [sRem2, sRem, sMove, vS_153, vS_154, vS_155, vS_156, vS_17, vS_18, vS_19, vS_20, vV_r]; grind
      rw [eo]
      exact ⟨rfl, _, _, hR, cP_special (by first | omega | exact bb_01 _) (by decide) nC.refl nW.refl rfl (by omega)⟩
    · refine i_78_13 (x := 30 + 3 * b.toNat) l3 ?_
      refine i_78_14 (v := Value.int (Int32.ofInt (S (30 + 3 * b.toNat) 1))) (hR.k2 (kd_reg (r := b.toNat) (by omega))) rfl ?_
      refine i_78_17 (z_ne (a := S (30 + 3 * b.toNat) 1) ⟨by omega, by omega⟩ fun c1 => ?_) (z_eq (a := S (30 + 3 * b.toNat) 1) ⟨by omega, by omega⟩ fun c1 => ?_)
      · refine i_78_25 (x := 30 + 3 * a.toNat) l2 ?_
        refine i_78_26 (v := Value.int (Int32.ofInt (S (30 + 3 * a.toNat) 1))) (hR.k2 (kd_reg (r := a.toNat) (by omega))) rfl ?_
        refine i_78_29 ?_
        refine i_78_30 (b_eq (a := S (30 + 3 * a.toNat) 1) (b := 1) ⟨by omega, by omega⟩ ⟨by decide, by decide⟩ fun c2 => ?_) (b_ne (a := S (30 + 3 * a.toNat) 1) (b := 1) ⟨by omega, by omega⟩ ⟨by decide, by decide⟩ fun c2 => ?_)
        · refine i_78_41 (x := 93) l0 ?_
          refine i_78_42 (v := Value.ref 78) (hR.k8 kq_93) rfl ?_
          refine i_78_45 (x := 30 + 3 * r.toNat) l1 ?_
          have hobj := hR.k1 kq_78
          obtain ⟨w, hrun, hR⟩ := x_refuse (d := d + 6) (g := 78) (t := 30 + 3 * r.toNat) hR kq_78 (kd_reg (r := r.toNat) (by omega))
          refine i_78_46 hobj (Nat.le_of_ble_eq_true rfl) hrun ?_
          refine i_78_49 ?_
          have eo : sRem2 (vS S) (vV V) r.toNat a.toNat b.toNat near mode = oS 0 0 (zor (S 78 3) 8) := by clear hR; simp only [sRem2, sRem, sMove, vS_153, vS_154, vS_155, vS_156, vS_17, vS_18, vS_19, vS_20, vV_r]; grind
          rw [eo]
          exact ⟨rfl, _, _, hR, cP_flag (by first | omega | exact bb_01 _) (by decide) nC.refl nW.refl (by omega)⟩
        · refine i_78_33 (x := 30 + 3 * b.toNat) l3 ?_
          refine i_78_34 (v := Value.int (Int32.ofInt (S (30 + 3 * b.toNat) 1))) (hR.k2 (kd_reg (r := b.toNat) (by omega))) rfl ?_
          refine i_78_37 ?_
          refine i_78_38 (b_ne (a := S (30 + 3 * b.toNat) 1) (b := 2) ⟨by omega, by omega⟩ ⟨by decide, by decide⟩ fun c3 => ?_) (b_eq (a := S (30 + 3 * b.toNat) 1) (b := 2) ⟨by omega, by omega⟩ ⟨by decide, by decide⟩ fun c3 => ?_)
          · refine i_78_50 (x := 30 + 3 * a.toNat) l2 ?_
            refine i_78_51 (v := Value.int (Int32.ofInt (S (30 + 3 * a.toNat) 1))) (hR.k2 (kd_reg (r := a.toNat) (by omega))) rfl ?_
            refine i_78_54 ?_
            refine i_78_55 (b_ne (a := S (30 + 3 * a.toNat) 1) (b := 2) ⟨by omega, by omega⟩ ⟨by decide, by decide⟩ fun c4 => ?_) (b_eq (a := S (30 + 3 * a.toNat) 1) (b := 2) ⟨by omega, by omega⟩ ⟨by decide, by decide⟩ fun c4 => ?_)
            · try replace ht_a := ht_a.resolve_left (by omega)
              try replace hx_a := hx_a.resolve_left (by omega)
              refine i_78_65 (x := 30 + 3 * b.toNat) l3 ?_
              refine i_78_66 (v := Value.int (Int32.ofInt (S (30 + 3 * b.toNat) 1))) (hR.k2 (kd_reg (r := b.toNat) (by omega))) rfl ?_
              refine i_78_69 ?_
              refine i_78_70 (b_eq (a := S (30 + 3 * b.toNat) 1) (b := 1) ⟨by omega, by omega⟩ ⟨by decide, by decide⟩ fun c5 => ?_) (b_ne (a := S (30 + 3 * b.toNat) 1) (b := 1) ⟨by omega, by omega⟩ ⟨by decide, by decide⟩ fun c5 => ?_)
              · refine i_78_86 (x := 93) l0 ?_
                refine i_78_87 (v := Value.ref 94) (hR.k8 kq_93) rfl ?_
                refine i_78_90 (x := 30 + 3 * a.toNat) l2 ?_
                have hobj := hR.k4 kq_94
                have ep : S (30 + 3 * a.toNat) 0 = S (30 + 3 * a.toNat) 0 := rfl
                have en : S (30 + 3 * a.toNat) 2 = S (30 + 3 * a.toNat) 2 := rfl
                have ex : S (30 + 3 * a.toNat) 3 = S (30 + 3 * a.toNat) 3 := rfl
                have ev : V ((30 + 3 * a.toNat) + 1) = V ((30 + 3 * a.toNat) + 1) := rfl
                obtain ⟨w, hrun, hR⟩ := x_tn (d := d + 5) (h := 94) (t := 30 + 3 * a.toNat) hR kq_94 (kd_reg (r := a.toNat) (by omega)) (by rw [en]; omega) (by rw [ev]; omega)
                rw [ep, en, ex, ev] at hR
                refine i_78_91 hobj (Nat.le_of_ble_eq_true rfl) hrun ?_
                refine i_78_94 (x := 93) l0 ?_
                refine i_78_95 (v := Value.ref 78) (hR.k8 kq_93) rfl ?_
                refine i_78_98 (x := 30 + 3 * r.toNat) l1 ?_
                refine i_78_99 (x := 93) l0 ?_
                refine i_78_100 (v := Value.ref 94) (hR.k8 kq_93) rfl ?_
                refine i_78_103 (x := Int32.ofInt mode) l5 ?_
                have hobj := hR.k1 kq_78
                have ep : (u2 (u2 (u2 S 94 0 (S (30 + 3 * a.toNat) 2)) 94 2 ((S (30 + 3 * a.toNat) 3) - (S (30 + 3 * a.toNat) 0))) 94 3 0) (30 + 3 * r.toNat) 0 = S (30 + 3 * r.toNat) 0 := by rw [u2_eq, if_neg (fun e => absurd e.2 (by decide)), u2_eq, if_neg (fun e => absurd e.2 (by decide)), u2_eq, if_neg (fun e => absurd e.1 (by omega))]
                have el : (u2 (u2 (u2 S 94 0 (S (30 + 3 * a.toNat) 2)) 94 2 ((S (30 + 3 * a.toNat) 3) - (S (30 + 3 * a.toNat) 0))) 94 3 0) 78 0 = S 78 0 := by rw [u2_eq, if_neg (fun e => absurd e.2 (by decide)), u2_eq, if_neg (fun e => absurd e.2 (by decide)), u2_eq, if_neg (fun e => absurd e.1 (by decide))]
                have eg : (u2 (u2 (u2 S 94 0 (S (30 + 3 * a.toNat) 2)) 94 2 ((S (30 + 3 * a.toNat) 3) - (S (30 + 3 * a.toNat) 0))) 94 3 0) 78 1 = S 78 1 := by rw [u2_eq, if_neg (fun e => absurd e.2 (by decide)), u2_eq, if_neg (fun e => absurd e.2 (by decide)), u2_eq, if_neg (fun e => absurd e.2 (by decide))]
                have ed : (u2 (u2 (u2 S 94 0 (S (30 + 3 * a.toNat) 2)) 94 2 ((S (30 + 3 * a.toNat) 3) - (S (30 + 3 * a.toNat) 0))) 94 3 0) 78 2 = S 78 2 := by rw [u2_eq, if_neg (fun e => absurd e.2 (by decide)), u2_eq, if_neg (fun e => absurd e.1 (by decide)), u2_eq, if_neg (fun e => absurd e.2 (by decide))]
                have ef : (u2 (u2 (u2 S 94 0 (S (30 + 3 * a.toNat) 2)) 94 2 ((S (30 + 3 * a.toNat) 3) - (S (30 + 3 * a.toNat) 0))) 94 3 0) 78 3 = S 78 3 := by rw [u2_eq, if_neg (fun e => absurd e.1 (by decide)), u2_eq, if_neg (fun e => absurd e.2 (by decide)), u2_eq, if_neg (fun e => absurd e.2 (by decide))]
                have es : (u2 (u2 (u2 S 94 0 (S (30 + 3 * a.toNat) 2)) 94 2 ((S (30 + 3 * a.toNat) 3) - (S (30 + 3 * a.toNat) 0))) 94 3 0) 94 0 = S (30 + 3 * a.toNat) 2 := by rw [u2_eq, if_neg (fun e => absurd e.2 (by decide)), u2_eq, if_neg (fun e => absurd e.2 (by decide)), u2_eq, if_pos ⟨rfl, rfl⟩]
                have ec : (u2 (u2 (u2 S 94 0 (S (30 + 3 * a.toNat) 2)) 94 2 ((S (30 + 3 * a.toNat) 3) - (S (30 + 3 * a.toNat) 0))) 94 3 0) 94 2 = (S (30 + 3 * a.toNat) 3) - (S (30 + 3 * a.toNat) 0) := by rw [u2_eq, if_neg (fun e => absurd e.2 (by decide)), u2_eq, if_pos ⟨rfl, rfl⟩]
                have em : (u2 (u2 (u2 S 94 0 (S (30 + 3 * a.toNat) 2)) 94 2 ((S (30 + 3 * a.toNat) 3) - (S (30 + 3 * a.toNat) 0))) 94 3 0) 94 3 = 0 := by rw [u2_eq, if_pos ⟨rfl, rfl⟩]
                have ev : (uv V 95 (V ((30 + 3 * a.toNat) + 1))) 95 = V ((30 + 3 * a.toNat) + 1) := uv_s
                obtain ⟨w, hrun, S7, V7, hR, hP⟩ := x_settle (d := d) (g := 78) (t := 30 + 3 * r.toNat) (h := 94) (mode := mode) hR kq_78 (kd_reg (r := r.toNat) (by omega)) kq_94 (by rw [ep]; omega) (by rw [es]; first | omega | exact bb_01 _) (by rw [em]; omega) (by omega) (by rw [ev]; exact hm_a (by omega)) (by rw [ev]; omega) (by rw [ec]; omega) (by rw [el, eg]; omega) (by rw [ed]; omega) (by rw [ep, el, ed, ev, ec, em]; exact fun _ _ => Or.inl rfl)
                rw [ep, el, eg, ed, ef, es, ec, em, ev] at hrun hP
                refine i_78_105 hobj (Nat.le_of_ble_eq_true rfl) hrun ?_
                refine i_78_108 ?_
                have eo : sRem2 (vS S) (vV V) r.toNat a.toNat b.toNat near mode = oR (S (30 + 3 * r.toNat) 0) (S 78 0) (S 78 1) (S 78 2) (S (30 + 3 * a.toNat) 2) mode 0 (V ((30 + 3 * a.toNat) + 1)) ((S (30 + 3 * a.toNat) 3) - (S (30 + 3 * a.toNat) 0)) (S 78 3) := by
                  clear hR hP
                  by_cases hb1 : S (30 + 3 * b.toNat) 1 = 1
                  · simp only [sRem2, sRem, sMove, ex, vS_153, vS_154, vS_155, vS_156, vS_17, vS_18, vS_19, vS_20, vV_r]
                    rw [if_neg (by omega), if_neg (by omega), if_pos (by omega), if_pos (by omega)]
                  · exact rem_short (by omega) (by omega) (hm_a (by omega)) (hm_b (by omega)) (hz_a (by omega)) (hz_b (by omega)) hp_a hp_b (by omega) (by omega) (by omega)
                rw [eo]
                exact ⟨rfl, _, _, hR, cP_round hP (by omega) (nC.up (nC.up (nC.up nC.refl (by unfold cKeep; omega) (by omega)) (by unfold cKeep; omega) (by omega)) (by unfold cKeep; omega) (by omega)) (nW.up nW.refl (by omega)) (by omega)⟩
              · try replace ht_b := ht_b.resolve_left (by omega)
                try replace hx_b := hx_b.resolve_left (by omega)
                refine i_78_73 (x := 30 + 3 * a.toNat) l2 ?_
                refine i_78_74 (v := Value.int (Int32.ofInt (S (30 + 3 * a.toNat) 3))) (hR.k2 (kd_reg (r := a.toNat) (by omega))) rfl ?_
                refine i_78_77 (x := 30 + 3 * b.toNat) l3 ?_
                refine i_78_78 (v := Value.int (Int32.ofInt (S (30 + 3 * b.toNat) 3))) (hR.k2 (kd_reg (r := b.toNat) (by omega))) rfl ?_
                refine i_78_81 ?_
                refine i_78_82 (c := Int32.ofInt ((S (30 + 3 * b.toNat) 3) - 1)) (o_sub (S (30 + 3 * b.toNat) 3) 1) ?_
                refine i_78_83 (b_le (a := (S (30 + 3 * b.toNat) 3) - 1) (b := S (30 + 3 * a.toNat) 3) ⟨by omega, by omega⟩ ⟨by omega, by omega⟩ fun c7 => ?_) (b_lt (a := S (30 + 3 * a.toNat) 3) (b := (S (30 + 3 * b.toNat) 3) - 1) ⟨by omega, by omega⟩ ⟨by omega, by omega⟩ fun c7 => ?_)
                · refine i_78_109 (x := 30 + 3 * a.toNat) l2 ?_
                  refine i_78_110 (v := Value.int (Int32.ofInt (S (30 + 3 * a.toNat) 3))) (hR.k2 (kd_reg (r := a.toNat) (by omega))) rfl ?_
                  refine i_78_113 (x := 30 + 3 * a.toNat) l2 ?_
                  refine i_78_114 (v := Value.int (Int32.ofInt (S (30 + 3 * a.toNat) 0))) (hR.k2 (kd_reg (r := a.toNat) (by omega))) rfl ?_
                  refine i_78_117 (c := Int32.ofInt ((S (30 + 3 * a.toNat) 3) - (S (30 + 3 * a.toNat) 0))) (o_sub (S (30 + 3 * a.toNat) 3) (S (30 + 3 * a.toNat) 0)) ?_
                  obtain ⟨sx, hsx⟩ : ∃ sx : Int, sx = (S (30 + 3 * a.toNat) 3) - (S (30 + 3 * a.toNat) 0) := ⟨_, rfl⟩
                  rw [← hsx]
                  refine i_78_118 rfl ?_
                  refine lgen1 (i := 7) (v := Value.int (Int32.ofInt sx)) (fun lv lg ls => ?_)
                  replace l6 := lg 6 _ rfl rfl l6
                  replace l0 := lg 0 _ rfl rfl l0
                  replace l1 := lg 1 _ rfl rfl l1
                  replace l2 := lg 2 _ rfl rfl l2
                  replace l3 := lg 3 _ rfl rfl l3
                  replace l4 := lg 4 _ rfl rfl l4
                  replace l5 := lg 5 _ rfl rfl l5
                  have l7 := ls
                  refine i_78_120 (x := 30 + 3 * b.toNat) l3 ?_
                  refine i_78_121 (v := Value.int (Int32.ofInt (S (30 + 3 * b.toNat) 3))) (hR.k2 (kd_reg (r := b.toNat) (by omega))) rfl ?_
                  refine i_78_124 (x := 30 + 3 * b.toNat) l3 ?_
                  refine i_78_125 (v := Value.int (Int32.ofInt (S (30 + 3 * b.toNat) 0))) (hR.k2 (kd_reg (r := b.toNat) (by omega))) rfl ?_
                  refine i_78_128 (c := Int32.ofInt ((S (30 + 3 * b.toNat) 3) - (S (30 + 3 * b.toNat) 0))) (o_sub (S (30 + 3 * b.toNat) 3) (S (30 + 3 * b.toNat) 0)) ?_
                  obtain ⟨sy, hsy⟩ : ∃ sy : Int, sy = (S (30 + 3 * b.toNat) 3) - (S (30 + 3 * b.toNat) 0) := ⟨_, rfl⟩
                  rw [← hsy]
                  refine i_78_129 rfl ?_
                  refine lgen1 (i := 8) (v := Value.int (Int32.ofInt sy)) (fun lv lg ls => ?_)
                  replace l7 := lg 7 _ rfl rfl l7
                  replace l6 := lg 6 _ rfl rfl l6
                  replace l0 := lg 0 _ rfl rfl l0
                  replace l1 := lg 1 _ rfl rfl l1
                  replace l2 := lg 2 _ rfl rfl l2
                  replace l3 := lg 3 _ rfl rfl l3
                  replace l4 := lg 4 _ rfl rfl l4
                  replace l5 := lg 5 _ rfl rfl l5
                  have l8 := ls
                  refine i_78_131 (x := Int32.ofInt sx) l7 ?_
                  refine i_78_133 (x := Int32.ofInt sy) l8 ?_
                  have hrun := s_min (d := d + 8) (w := w) (a := sx) (b := sy) ⟨by omega, by omega⟩ ⟨by omega, by omega⟩
                  refine i_78_135 (Nat.le_of_ble_eq_true rfl) hrun ?_
                  obtain ⟨lo, hlo⟩ : ∃ lo : Int, lo = min sx sy := ⟨_, rfl⟩
                  rw [← hlo]
                  have hza := hz_a (by omega)
                  have hzb := hz_b (by omega)
                  have hma := hm_a (by omega)
                  have hmb := hm_b (by omega)
                  refine i_78_138 rfl ?_
                  refine lgen1 (i := 9) (v := Value.int (Int32.ofInt lo)) (fun lv lg ls => ?_)
                  replace l8 := lg 8 _ rfl rfl l8
                  replace l7 := lg 7 _ rfl rfl l7
                  replace l6 := lg 6 _ rfl rfl l6
                  replace l0 := lg 0 _ rfl rfl l0
                  replace l1 := lg 1 _ rfl rfl l1
                  replace l2 := lg 2 _ rfl rfl l2
                  replace l3 := lg 3 _ rfl rfl l3
                  replace l4 := lg 4 _ rfl rfl l4
                  replace l5 := lg 5 _ rfl rfl l5
                  have l9 := ls
                  refine i_78_140 (x := 93) l0 ?_
                  refine i_78_141 (v := Value.ref 97) (hR.k8 kq_93) rfl ?_
                  refine i_78_144 (x := 30 + 3 * a.toNat) l2 ?_
                  refine i_78_145 (v := Value.ref ((30 + 3 * a.toNat) + 1)) (hR.k2 (kd_reg (r := a.toNat) (by omega))) rfl ?_
                  refine i_78_148 (x := Int32.ofInt sx) l7 ?_
                  refine i_78_150 (x := Int32.ofInt lo) l9 ?_
                  refine i_78_152 (c := Int32.ofInt (sx - lo)) (o_sub sx lo) ?_
                  obtain ⟨fs, hobj⟩ := hR.nat kq_97
                  obtain ⟨w, hrun, hR⟩ := X_shift (d := d + 6) (h := 97) (h2 := (30 + 3 * a.toNat) + 1) (u := V ((30 + 3 * a.toNat) + 1)) (k := sx - lo) hR kq_97 (kd_rem (r := a.toNat) (by omega)) (rfl) (by omega) (by omega)
                  rw [shf_nn (by omega)] at hR
                  refine i_78_153 hobj (Nat.le_of_ble_eq_true rfl) hrun ?_
                  refine i_78_156 (x := 93) l0 ?_
                  refine i_78_157 (v := Value.ref 99) (hR.k8 kq_93) rfl ?_
                  refine i_78_160 (x := 30 + 3 * b.toNat) l3 ?_
                  refine i_78_161 (v := Value.ref ((30 + 3 * b.toNat) + 1)) (hR.k2 (kd_reg (r := b.toNat) (by omega))) rfl ?_
                  refine i_78_164 (x := Int32.ofInt sy) l8 ?_
                  refine i_78_166 (x := Int32.ofInt lo) l9 ?_
                  refine i_78_168 (c := Int32.ofInt (sy - lo)) (o_sub sy lo) ?_
                  obtain ⟨fs, hobj⟩ := hR.nat kq_99
                  obtain ⟨w, hrun, hR⟩ := X_shift (d := d + 6) (h := 99) (h2 := (30 + 3 * b.toNat) + 1) (u := V ((30 + 3 * b.toNat) + 1)) (k := sy - lo) hR kq_99 (kd_rem (r := b.toNat) (by omega)) ((uv_n (by omega)).trans (rfl)) (by omega) (by omega)
                  rw [shf_nn (by omega)] at hR
                  refine i_78_169 hobj (Nat.le_of_ble_eq_true rfl) hrun ?_
                  obtain ⟨X, hX⟩ : ∃ X, X = V (30 + 3 * a.toNat + 1) * 2 ^ (sx - lo).toNat := ⟨_, rfl⟩
                  obtain ⟨Y, hY⟩ : ∃ Y, Y = V (30 + 3 * b.toNat + 1) * 2 ^ (sy - lo).toNat := ⟨_, rfl⟩
                  rw [← hX, ← hY] at hR
                  have hXb : xbl X ≤ 100000 := by have := xbl_powle (V (30 + 3 * a.toNat + 1)) (sx - lo).toNat; rw [← hX] at this; omega
                  have hYb : xbl Y ≤ 100000 := by have := xbl_powle (V (30 + 3 * b.toNat + 1)) (sy - lo).toNat; rw [← hY] at this; omega
                  have hY0 : Y ≠ 0 := by rw [hY]; exact Nat.mul_ne_zero hmb (Nat.ne_of_gt (Nat.two_pow_pos _))
                  have hml : X % Y < Y := Nat.mod_lt _ (by omega)
                  have hrb : xbl (X % Y) ≤ 100000 := Nat.le_trans (xbl_mono (Nat.le_of_lt hml)) hYb
                  have hdb : xbl (Y - X % Y) ≤ 100000 := Nat.le_trans (xbl_mono (Nat.sub_le _ _)) hYb
                  have hX' : remX (vS S) (vV V) a.toNat b.toNat = X := by unfold remX; simp only [ex, vS_153, vS_154, vS_155, vS_156, vS_17, vS_18, vS_19, vS_20, vV_r]; rw [hX, hlo, hsx, hsy]
                  have hY' : remX (vS S) (vV V) b.toNat a.toNat = Y := by rw [remX_comm]; simp only [ex, vS_153, vS_154, vS_155, vS_156, vS_17, vS_18, vS_19, vS_20, vV_r]; rw [hY, hlo, hsx, hsy]
                  have hlo' : min (ex (vS S) a.toNat) (ex (vS S) b.toNat) = lo := by simp only [ex, vS_153, vS_154, vS_155, vS_156, vS_17, vS_18, vS_19, vS_20, vV_r]; rw [hlo, hsx, hsy]
                  have hsp : sRem2 (vS S) (vV V) r.toNat a.toNat b.toNat near mode = sRem1 (S (30 + 3 * r.toNat) 0) (S 78 0) (S 78 1) (S 78 2) (S 78 3) (S (30 + 3 * a.toNat) 2) near mode X Y lo := by unfold sRem2 sRem; rw [hX', hY', hlo', vS_154, vS_154, if_neg (by omega), if_neg (by omega), if_neg (by omega)]; rfl
                  refine i_78_172 (x := 93) l0 ?_
                  refine i_78_173 (v := Value.ref 86) (hR.k8 kq_93) rfl ?_
                  refine i_78_176 (x := 93) l0 ?_
                  refine i_78_177 (v := Value.ref 97) (hR.k8 kq_93) rfl ?_
                  refine i_78_180 (x := 93) l0 ?_
                  refine i_78_181 (v := Value.ref 99) (hR.k8 kq_93) rfl ?_
                  have exx : (uv (uv V 97 X) 99 Y) 97 = X := (uv_n (by omega)).trans (uv_s)
                  have eyy : (uv (uv V 97 X) 99 Y) 99 = Y := uv_s
                  have hobj := hR.k7 kq_86
                  obtain ⟨w, hrun, z101, hR⟩ := X_divide (d := d + 5) (hx := 97) (hy := 99) hR kq_97 kq_99 (by decide) (by decide) (by decide) (by decide) (by decide) (by decide) (by rw [eyy]; exact hY0) (by rw [exx]; omega) (by rw [eyy]; omega)
                  rw [exx, eyy] at hR
                  refine i_78_184 hobj (Nat.le_of_ble_eq_true rfl) hrun ?_
                  refine i_78_187 (x := 93) l0 ?_
                  refine i_78_188 (v := Value.ref 86) (hR.k8 kq_93) rfl ?_
                  refine i_78_191 (v := Value.ref 89) (hR.k7 kq_86) rfl ?_
                  refine i_78_194 rfl ?_
                  refine lgen1 (i := 10) (v := Value.ref 89) (fun lv lg ls => ?_)
                  replace l9 := lg 9 _ rfl rfl l9
                  replace l8 := lg 8 _ rfl rfl l8
                  replace l7 := lg 7 _ rfl rfl l7
                  replace l6 := lg 6 _ rfl rfl l6
                  replace l0 := lg 0 _ rfl rfl l0
                  replace l1 := lg 1 _ rfl rfl l1
                  replace l2 := lg 2 _ rfl rfl l2
                  replace l3 := lg 3 _ rfl rfl l3
                  replace l4 := lg 4 _ rfl rfl l4
                  replace l5 := lg 5 _ rfl rfl l5
                  have l10 := ls
                  refine i_78_196 (x := 89) l10 ?_
                  obtain ⟨a102, hsz, hz102⟩ := hR.size (h := 89) (u := X % Y) kq_89 (uv_s)
                  refine i_78_198 (v := Value.int (Int32.ofInt (((xbl (X % Y) + 31) / 32 : Nat) : Int))) hsz rfl ?_
                  refine i_78_201 (z_ne (a := (((xbl (X % Y) + 31) / 32 : Nat) : Int)) ⟨by omega, by omega⟩ fun c102 => ?_) (z_eq (a := (((xbl (X % Y) + 31) / 32 : Nat) : Int)) ⟨by omega, by omega⟩ fun c102 => ?_)
                  · have hrz : xbl (X % Y) ≠ 0 := fun e => c102 (by omega)
                    have hr0 : X % Y ≠ 0 := fun e => hrz (xbl_nz.mpr e)
                    have tail : ∀ (bz : Int) lv w, cX w0 L Z S (uv (uv (uv (uv (uv (uv V 97 X) 99 Y) 87 (X / Y)) 91 z101) 89 (X % Y)) 97 ((X % Y) * 2 ^ (1 : Int).toNat)) w → bz = bb (remB near X Y) → (bz = 0 ∨ bz = 1) → xld lv 0 = some (Value.ref 93) → xld lv 1 = some (Value.ref (30 + 3 * r.toNat)) → xld lv 2 = some (Value.ref (30 + 3 * a.toNat)) → xld lv 3 = some (Value.ref (30 + 3 * b.toNat)) → xld lv 4 = some (Value.int (Int32.ofInt near)) → xld lv 5 = some (Value.int (Int32.ofInt mode)) → xld lv 6 = some (Value.int (Int32.ofInt (S (30 + 3 * a.toNat) 2))) → xld lv 9 = some (Value.int (Int32.ofInt lo)) → xld lv 10 = some (Value.ref 89) → xEv (d + 10) 78 265 lv [.int (Int32.ofInt bz)] w (fun o w' => o = .inl (some (.int (Int32.ofInt (sRem2 (vS S) (vV V) r.toNat a.toNat b.toNat near mode).2.2.2.2.1))) ∧ ∃ S' V', cX w0 L Z S' V' w' ∧ cOut S S' V V' (30 + 3 * r.toNat) (sRem2 (vS S) (vV V) r.toNat a.toNat b.toNat near mode)) := by
                      intro bz lv w hR hbz hbz1 l0 l1 l2 l3 l4 l5 l6 l9 l10
                      rcases Bool.eq_false_or_eq_true (remB near X Y) with hrB | hrB
                      · have : bz = 1 := by rw [hbz, hrB]; rfl
                        subst this
                        refine i_78_265 rfl ?_
                        refine lgen1 (i := 12) (v := Value.int (Int32.ofInt 1)) (fun lv lg ls => ?_)
                        replace l0 := lg 0 _ rfl rfl l0
                        replace l1 := lg 1 _ rfl rfl l1
                        replace l2 := lg 2 _ rfl rfl l2
                        replace l3 := lg 3 _ rfl rfl l3
                        replace l4 := lg 4 _ rfl rfl l4
                        replace l5 := lg 5 _ rfl rfl l5
                        replace l6 := lg 6 _ rfl rfl l6
                        replace l9 := lg 9 _ rfl rfl l9
                        replace l10 := lg 10 _ rfl rfl l10
                        have l12 := ls
                        refine i_78_267 (x := Int32.ofInt 1) l12 ?_
                        refine i_78_269 (z_eq (a := 1) ⟨by omega, by omega⟩ fun c240 => absurd c240 (by omega)) (z_ne (a := 1) ⟨by omega, by omega⟩ fun c240 => ?_)
                        refine i_78_272 (x := 93) l0 ?_
                        refine i_78_273 (v := Value.ref 99) (hR.k8 kq_93) rfl ?_
                        refine i_78_276 (x := 89) l10 ?_
                        obtain ⟨fs, hobj⟩ := hR.nat kq_99
                        obtain ⟨w, hrun, hR⟩ := X_sub (d := d + 8) (h := 99) (h2 := 89) (u := Y) (u2 := X % Y) hR kq_99 kq_89 (by decide) ((uv_n (by omega)).trans ((uv_n (by omega)).trans ((uv_n (by omega)).trans ((uv_n (by omega)).trans (uv_s))))) ((uv_n (by omega)).trans (uv_s)) (by omega)
                        refine i_78_278 hobj (Nat.le_of_ble_eq_true rfl) hrun ?_
                        refine i_78_281 (x := 93) l0 ?_
                        refine i_78_282 (v := Value.ref 94) (hR.k8 kq_93) rfl ?_
                        refine i_78_285 (x := Int32.ofInt (S (30 + 3 * a.toNat) 2)) l6 ?_
                        refine i_78_287 (x := Int32.ofInt 1) l12 ?_
                        refine i_78_289 (b_eq (a := S (30 + 3 * a.toNat) 2) (b := 1) ⟨by omega, by omega⟩ ⟨by omega, by omega⟩ fun c241 => ?_) (b_ne (a := S (30 + 3 * a.toNat) 2) (b := 1) ⟨by omega, by omega⟩ ⟨by omega, by omega⟩ fun c241 => ?_)
                        · refine i_78_296 ?_
                          refine i_78_297 (fs2 := f4 94 (u1 (S 94) 0 0)) (hR.k4 kq_94) rfl (Nat.le_of_ble_eq_true rfl) rfl (h7k kq_94 (by decide)) ?_
                          refine xgen (P := cX w0 L Z (u2 S 94 0 0) (uv (uv (uv (uv (uv (uv (uv V 97 X) 99 Y) 87 (X / Y)) 91 z101) 89 (X % Y)) 97 ((X % Y) * 2 ^ (1 : Int).toNat)) 99 (Y - (X % Y)))) (hR.p4 kq_94) (fun w hR => ?_)
                          refine i_78_300 (x := 93) l0 ?_
                          refine i_78_301 (v := Value.ref 94) (hR.k8 kq_93) rfl ?_
                          refine i_78_304 (v := Value.ref 95) (hR.k4 kq_94) rfl ?_
                          refine i_78_307 (x := Int32.ofInt 1) l12 ?_
                          refine i_78_309 (z_eq (a := 1) ⟨by omega, by omega⟩ fun c242 => absurd c242 (by omega)) (z_ne (a := 1) ⟨by omega, by omega⟩ fun c242 => ?_)
                          refine i_78_312 (x := 93) l0 ?_
                          refine i_78_313 (v := Value.ref 99) (hR.k8 kq_93) rfl ?_
                          refine i_78_316 ?_
                          obtain ⟨fs, hobj⟩ := hR.nat kq_95
                          obtain ⟨w, hrun, hR⟩ := X_set (d := d + 6) (h := 95) (h2 := 99) (u := Y - (X % Y)) hR kq_95 kq_99 (by decide) (uv_s) (by omega)
                          refine i_78_321 hobj (Nat.le_of_ble_eq_true rfl) hrun ?_
                          refine i_78_324 (x := 93) l0 ?_
                          refine i_78_325 (v := Value.ref 94) (hR.k8 kq_93) rfl ?_
                          refine i_78_328 (x := Int32.ofInt lo) l9 ?_
                          refine i_78_330 (fs2 := f4 94 (u1 ((u2 S 94 0 0) 94) 2 lo)) (hR.k4 kq_94) (Nat.le_of_ble_eq_true rfl) rfl (h7k kq_94 (by decide)) ?_
                          refine xgen (P := cX w0 L Z (u2 (u2 S 94 0 0) 94 2 lo) (uv (uv (uv (uv (uv (uv (uv (uv V 97 X) 99 Y) 87 (X / Y)) 91 z101) 89 (X % Y)) 97 ((X % Y) * 2 ^ (1 : Int).toNat)) 99 (Y - (X % Y))) 95 (Y - (X % Y)))) (hR.p4 kq_94) (fun w hR => ?_)
                          refine i_78_333 (x := 93) l0 ?_
                          refine i_78_334 (v := Value.ref 94) (hR.k8 kq_93) rfl ?_
                          refine i_78_337 ?_
                          refine i_78_338 (fs2 := f4 94 (u1 ((u2 (u2 S 94 0 0) 94 2 lo) 94) 3 0)) (hR.k4 kq_94) rfl (Nat.le_of_ble_eq_true rfl) rfl (h7k kq_94 (by decide)) ?_
                          refine xgen (P := cX w0 L Z (u2 (u2 (u2 S 94 0 0) 94 2 lo) 94 3 0) (uv (uv (uv (uv (uv (uv (uv (uv V 97 X) 99 Y) 87 (X / Y)) 91 z101) 89 (X % Y)) 97 ((X % Y) * 2 ^ (1 : Int).toNat)) 99 (Y - (X % Y))) 95 (Y - (X % Y)))) (hR.p4 kq_94) (fun w hR => ?_)
                          refine i_78_341 (x := 93) l0 ?_
                          refine i_78_342 (v := Value.ref 78) (hR.k8 kq_93) rfl ?_
                          refine i_78_345 (x := 30 + 3 * r.toNat) l1 ?_
                          refine i_78_346 (x := 93) l0 ?_
                          refine i_78_347 (v := Value.ref 94) (hR.k8 kq_93) rfl ?_
                          refine i_78_350 (x := Int32.ofInt mode) l5 ?_
                          have hobj := hR.k1 kq_78
                          have ep : (u2 (u2 (u2 S 94 0 0) 94 2 lo) 94 3 0) (30 + 3 * r.toNat) 0 = S (30 + 3 * r.toNat) 0 := by rw [u2_eq, if_neg (fun e => absurd e.2 (by decide)), u2_eq, if_neg (fun e => absurd e.2 (by decide)), u2_eq, if_neg (fun e => absurd e.1 (by omega))]
                          have el : (u2 (u2 (u2 S 94 0 0) 94 2 lo) 94 3 0) 78 0 = S 78 0 := by rw [u2_eq, if_neg (fun e => absurd e.2 (by decide)), u2_eq, if_neg (fun e => absurd e.2 (by decide)), u2_eq, if_neg (fun e => absurd e.1 (by decide))]
                          have eg : (u2 (u2 (u2 S 94 0 0) 94 2 lo) 94 3 0) 78 1 = S 78 1 := by rw [u2_eq, if_neg (fun e => absurd e.2 (by decide)), u2_eq, if_neg (fun e => absurd e.2 (by decide)), u2_eq, if_neg (fun e => absurd e.2 (by decide))]
                          have ed : (u2 (u2 (u2 S 94 0 0) 94 2 lo) 94 3 0) 78 2 = S 78 2 := by rw [u2_eq, if_neg (fun e => absurd e.2 (by decide)), u2_eq, if_neg (fun e => absurd e.1 (by decide)), u2_eq, if_neg (fun e => absurd e.2 (by decide))]
                          have ef : (u2 (u2 (u2 S 94 0 0) 94 2 lo) 94 3 0) 78 3 = S 78 3 := by rw [u2_eq, if_neg (fun e => absurd e.1 (by decide)), u2_eq, if_neg (fun e => absurd e.2 (by decide)), u2_eq, if_neg (fun e => absurd e.2 (by decide))]
                          have es : (u2 (u2 (u2 S 94 0 0) 94 2 lo) 94 3 0) 94 0 = 0 := by rw [u2_eq, if_neg (fun e => absurd e.2 (by decide)), u2_eq, if_neg (fun e => absurd e.2 (by decide)), u2_eq, if_pos ⟨rfl, rfl⟩]
                          have ec : (u2 (u2 (u2 S 94 0 0) 94 2 lo) 94 3 0) 94 2 = lo := by rw [u2_eq, if_neg (fun e => absurd e.2 (by decide)), u2_eq, if_pos ⟨rfl, rfl⟩]
                          have em : (u2 (u2 (u2 S 94 0 0) 94 2 lo) 94 3 0) 94 3 = 0 := by rw [u2_eq, if_pos ⟨rfl, rfl⟩]
                          have ev : (uv (uv (uv (uv (uv (uv (uv (uv V 97 X) 99 Y) 87 (X / Y)) 91 z101) 89 (X % Y)) 97 ((X % Y) * 2 ^ (1 : Int).toNat)) 99 (Y - (X % Y))) 95 (Y - (X % Y))) 95 = Y - (X % Y) := uv_s
                          obtain ⟨w, hrun, S244, V244, hR, hP⟩ := x_settle (d := d) (g := 78) (t := 30 + 3 * r.toNat) (h := 94) (mode := mode) hR kq_78 (kd_reg (r := r.toNat) (by omega)) kq_94 (by rw [ep]; omega) (by rw [es]; first | omega | exact bb_01 _) (by rw [em]; omega) (by omega) (by rw [ev]; omega) (by rw [ev]; omega) (by rw [ec]; omega) (by rw [el, eg]; omega) (by rw [ed]; omega) (by rw [ep, el, ed, ev, ec, em]; exact fun _ _ => Or.inl rfl)
                          rw [ep, el, eg, ed, ef, es, ec, em, ev] at hrun hP
                          refine i_78_352 hobj (Nat.le_of_ble_eq_true rfl) hrun ?_
                          refine i_78_355 ?_
                          have eo : sRem2 (vS S) (vV V) r.toNat a.toNat b.toNat near mode = oR (S (30 + 3 * r.toNat) 0) (S 78 0) (S 78 1) (S 78 2) 0 mode 0 (Y - (X % Y)) lo (S 78 3) := by
                            rw [hsp]
                            unfold sRem1
                            rw [if_pos hrB]
                            congr 1 <;> omega
                          rw [eo]
                          exact ⟨rfl, _, _, hR, cP_round hP (by omega) (nC.up (nC.up (nC.up nC.refl (by unfold cKeep; omega) (by omega)) (by unfold cKeep; omega) (by omega)) (by unfold cKeep; omega) (by omega)) (nW.up (nW.up (nW.up (nW.up (nW.up (nW.up (nW.up (nW.up nW.refl (by omega)) (by omega)) (by omega)) (by omega)) (by omega)) (by omega)) (by omega)) (by omega)) (by omega)⟩
                        · refine i_78_292 ?_
                          refine i_78_293 ?_
                          refine i_78_297 (fs2 := f4 94 (u1 (S 94) 0 1)) (hR.k4 kq_94) rfl (Nat.le_of_ble_eq_true rfl) rfl (h7k kq_94 (by decide)) ?_
                          refine xgen (P := cX w0 L Z (u2 S 94 0 1) (uv (uv (uv (uv (uv (uv (uv V 97 X) 99 Y) 87 (X / Y)) 91 z101) 89 (X % Y)) 97 ((X % Y) * 2 ^ (1 : Int).toNat)) 99 (Y - (X % Y)))) (hR.p4 kq_94) (fun w hR => ?_)
                          refine i_78_300 (x := 93) l0 ?_
                          refine i_78_301 (v := Value.ref 94) (hR.k8 kq_93) rfl ?_
                          refine i_78_304 (v := Value.ref 95) (hR.k4 kq_94) rfl ?_
                          refine i_78_307 (x := Int32.ofInt 1) l12 ?_
                          refine i_78_309 (z_eq (a := 1) ⟨by omega, by omega⟩ fun c244 => absurd c244 (by omega)) (z_ne (a := 1) ⟨by omega, by omega⟩ fun c244 => ?_)
                          refine i_78_312 (x := 93) l0 ?_
                          refine i_78_313 (v := Value.ref 99) (hR.k8 kq_93) rfl ?_
                          refine i_78_316 ?_
                          obtain ⟨fs, hobj⟩ := hR.nat kq_95
                          obtain ⟨w, hrun, hR⟩ := X_set (d := d + 6) (h := 95) (h2 := 99) (u := Y - (X % Y)) hR kq_95 kq_99 (by decide) (uv_s) (by omega)
                          refine i_78_321 hobj (Nat.le_of_ble_eq_true rfl) hrun ?_
                          refine i_78_324 (x := 93) l0 ?_
                          refine i_78_325 (v := Value.ref 94) (hR.k8 kq_93) rfl ?_
                          refine i_78_328 (x := Int32.ofInt lo) l9 ?_
                          refine i_78_330 (fs2 := f4 94 (u1 ((u2 S 94 0 1) 94) 2 lo)) (hR.k4 kq_94) (Nat.le_of_ble_eq_true rfl) rfl (h7k kq_94 (by decide)) ?_
                          refine xgen (P := cX w0 L Z (u2 (u2 S 94 0 1) 94 2 lo) (uv (uv (uv (uv (uv (uv (uv (uv V 97 X) 99 Y) 87 (X / Y)) 91 z101) 89 (X % Y)) 97 ((X % Y) * 2 ^ (1 : Int).toNat)) 99 (Y - (X % Y))) 95 (Y - (X % Y)))) (hR.p4 kq_94) (fun w hR => ?_)
                          refine i_78_333 (x := 93) l0 ?_
                          refine i_78_334 (v := Value.ref 94) (hR.k8 kq_93) rfl ?_
                          refine i_78_337 ?_
                          refine i_78_338 (fs2 := f4 94 (u1 ((u2 (u2 S 94 0 1) 94 2 lo) 94) 3 0)) (hR.k4 kq_94) rfl (Nat.le_of_ble_eq_true rfl) rfl (h7k kq_94 (by decide)) ?_
                          refine xgen (P := cX w0 L Z (u2 (u2 (u2 S 94 0 1) 94 2 lo) 94 3 0) (uv (uv (uv (uv (uv (uv (uv (uv V 97 X) 99 Y) 87 (X / Y)) 91 z101) 89 (X % Y)) 97 ((X % Y) * 2 ^ (1 : Int).toNat)) 99 (Y - (X % Y))) 95 (Y - (X % Y)))) (hR.p4 kq_94) (fun w hR => ?_)
                          refine i_78_341 (x := 93) l0 ?_
                          refine i_78_342 (v := Value.ref 78) (hR.k8 kq_93) rfl ?_
                          refine i_78_345 (x := 30 + 3 * r.toNat) l1 ?_
                          refine i_78_346 (x := 93) l0 ?_
                          refine i_78_347 (v := Value.ref 94) (hR.k8 kq_93) rfl ?_
                          refine i_78_350 (x := Int32.ofInt mode) l5 ?_
                          have hobj := hR.k1 kq_78
                          have ep : (u2 (u2 (u2 S 94 0 1) 94 2 lo) 94 3 0) (30 + 3 * r.toNat) 0 = S (30 + 3 * r.toNat) 0 := by rw [u2_eq, if_neg (fun e => absurd e.2 (by decide)), u2_eq, if_neg (fun e => absurd e.2 (by decide)), u2_eq, if_neg (fun e => absurd e.1 (by omega))]
                          have el : (u2 (u2 (u2 S 94 0 1) 94 2 lo) 94 3 0) 78 0 = S 78 0 := by rw [u2_eq, if_neg (fun e => absurd e.2 (by decide)), u2_eq, if_neg (fun e => absurd e.2 (by decide)), u2_eq, if_neg (fun e => absurd e.1 (by decide))]
                          have eg : (u2 (u2 (u2 S 94 0 1) 94 2 lo) 94 3 0) 78 1 = S 78 1 := by rw [u2_eq, if_neg (fun e => absurd e.2 (by decide)), u2_eq, if_neg (fun e => absurd e.2 (by decide)), u2_eq, if_neg (fun e => absurd e.2 (by decide))]
                          have ed : (u2 (u2 (u2 S 94 0 1) 94 2 lo) 94 3 0) 78 2 = S 78 2 := by rw [u2_eq, if_neg (fun e => absurd e.2 (by decide)), u2_eq, if_neg (fun e => absurd e.1 (by decide)), u2_eq, if_neg (fun e => absurd e.2 (by decide))]
                          have ef : (u2 (u2 (u2 S 94 0 1) 94 2 lo) 94 3 0) 78 3 = S 78 3 := by rw [u2_eq, if_neg (fun e => absurd e.1 (by decide)), u2_eq, if_neg (fun e => absurd e.2 (by decide)), u2_eq, if_neg (fun e => absurd e.2 (by decide))]
                          have es : (u2 (u2 (u2 S 94 0 1) 94 2 lo) 94 3 0) 94 0 = 1 := by rw [u2_eq, if_neg (fun e => absurd e.2 (by decide)), u2_eq, if_neg (fun e => absurd e.2 (by decide)), u2_eq, if_pos ⟨rfl, rfl⟩]
                          have ec : (u2 (u2 (u2 S 94 0 1) 94 2 lo) 94 3 0) 94 2 = lo := by rw [u2_eq, if_neg (fun e => absurd e.2 (by decide)), u2_eq, if_pos ⟨rfl, rfl⟩]
                          have em : (u2 (u2 (u2 S 94 0 1) 94 2 lo) 94 3 0) 94 3 = 0 := by rw [u2_eq, if_pos ⟨rfl, rfl⟩]
                          have ev : (uv (uv (uv (uv (uv (uv (uv (uv V 97 X) 99 Y) 87 (X / Y)) 91 z101) 89 (X % Y)) 97 ((X % Y) * 2 ^ (1 : Int).toNat)) 99 (Y - (X % Y))) 95 (Y - (X % Y))) 95 = Y - (X % Y) := uv_s
                          obtain ⟨w, hrun, S246, V246, hR, hP⟩ := x_settle (d := d) (g := 78) (t := 30 + 3 * r.toNat) (h := 94) (mode := mode) hR kq_78 (kd_reg (r := r.toNat) (by omega)) kq_94 (by rw [ep]; omega) (by rw [es]; first | omega | exact bb_01 _) (by rw [em]; omega) (by omega) (by rw [ev]; omega) (by rw [ev]; omega) (by rw [ec]; omega) (by rw [el, eg]; omega) (by rw [ed]; omega) (by rw [ep, el, ed, ev, ec, em]; exact fun _ _ => Or.inl rfl)
                          rw [ep, el, eg, ed, ef, es, ec, em, ev] at hrun hP
                          refine i_78_352 hobj (Nat.le_of_ble_eq_true rfl) hrun ?_
                          refine i_78_355 ?_
                          have eo : sRem2 (vS S) (vV V) r.toNat a.toNat b.toNat near mode = oR (S (30 + 3 * r.toNat) 0) (S 78 0) (S 78 1) (S 78 2) 1 mode 0 (Y - (X % Y)) lo (S 78 3) := by
                            rw [hsp]
                            unfold sRem1
                            rw [if_pos hrB]
                            congr 1 <;> omega
                          rw [eo]
                          exact ⟨rfl, _, _, hR, cP_round hP (by omega) (nC.up (nC.up (nC.up nC.refl (by unfold cKeep; omega) (by omega)) (by unfold cKeep; omega) (by omega)) (by unfold cKeep; omega) (by omega)) (nW.up (nW.up (nW.up (nW.up (nW.up (nW.up (nW.up (nW.up nW.refl (by omega)) (by omega)) (by omega)) (by omega)) (by omega)) (by omega)) (by omega)) (by omega)) (by omega)⟩
                      · have : bz = 0 := by rw [hbz, hrB]; rfl
                        subst this
                        refine i_78_265 rfl ?_
                        refine lgen1 (i := 12) (v := Value.int (Int32.ofInt 0)) (fun lv lg ls => ?_)
                        replace l0 := lg 0 _ rfl rfl l0
                        replace l1 := lg 1 _ rfl rfl l1
                        replace l2 := lg 2 _ rfl rfl l2
                        replace l3 := lg 3 _ rfl rfl l3
                        replace l4 := lg 4 _ rfl rfl l4
                        replace l5 := lg 5 _ rfl rfl l5
                        replace l6 := lg 6 _ rfl rfl l6
                        replace l9 := lg 9 _ rfl rfl l9
                        replace l10 := lg 10 _ rfl rfl l10
                        have l12 := ls
                        refine i_78_267 (x := Int32.ofInt 0) l12 ?_
                        refine i_78_269 (z_eq (a := 0) ⟨by omega, by omega⟩ fun c200 => ?_) (z_ne (a := 0) ⟨by omega, by omega⟩ fun c200 => absurd c200 (by omega))
                        refine i_78_281 (x := 93) l0 ?_
                        refine i_78_282 (v := Value.ref 94) (hR.k8 kq_93) rfl ?_
                        refine i_78_285 (x := Int32.ofInt (S (30 + 3 * a.toNat) 2)) l6 ?_
                        refine i_78_287 (x := Int32.ofInt 0) l12 ?_
                        refine i_78_289 (b_eq (a := S (30 + 3 * a.toNat) 2) (b := 0) ⟨by omega, by omega⟩ ⟨by omega, by omega⟩ fun c201 => ?_) (b_ne (a := S (30 + 3 * a.toNat) 2) (b := 0) ⟨by omega, by omega⟩ ⟨by omega, by omega⟩ fun c201 => ?_)
                        · refine i_78_296 ?_
                          refine i_78_297 (fs2 := f4 94 (u1 (S 94) 0 0)) (hR.k4 kq_94) rfl (Nat.le_of_ble_eq_true rfl) rfl (h7k kq_94 (by decide)) ?_
                          refine xgen (P := cX w0 L Z (u2 S 94 0 0) (uv (uv (uv (uv (uv (uv V 97 X) 99 Y) 87 (X / Y)) 91 z101) 89 (X % Y)) 97 ((X % Y) * 2 ^ (1 : Int).toNat))) (hR.p4 kq_94) (fun w hR => ?_)
                          refine i_78_300 (x := 93) l0 ?_
                          refine i_78_301 (v := Value.ref 94) (hR.k8 kq_93) rfl ?_
                          refine i_78_304 (v := Value.ref 95) (hR.k4 kq_94) rfl ?_
                          refine i_78_307 (x := Int32.ofInt 0) l12 ?_
                          refine i_78_309 (z_eq (a := 0) ⟨by omega, by omega⟩ fun c202 => ?_) (z_ne (a := 0) ⟨by omega, by omega⟩ fun c202 => absurd c202 (by omega))
                          refine i_78_319 (x := 89) l10 ?_
                          obtain ⟨fs, hobj⟩ := hR.nat kq_95
                          obtain ⟨w, hrun, hR⟩ := X_set (d := d + 6) (h := 95) (h2 := 89) (u := X % Y) hR kq_95 kq_89 (by decide) ((uv_n (by omega)).trans (uv_s)) (by omega)
                          refine i_78_321 hobj (Nat.le_of_ble_eq_true rfl) hrun ?_
                          refine i_78_324 (x := 93) l0 ?_
                          refine i_78_325 (v := Value.ref 94) (hR.k8 kq_93) rfl ?_
                          refine i_78_328 (x := Int32.ofInt lo) l9 ?_
                          refine i_78_330 (fs2 := f4 94 (u1 ((u2 S 94 0 0) 94) 2 lo)) (hR.k4 kq_94) (Nat.le_of_ble_eq_true rfl) rfl (h7k kq_94 (by decide)) ?_
                          refine xgen (P := cX w0 L Z (u2 (u2 S 94 0 0) 94 2 lo) (uv (uv (uv (uv (uv (uv (uv V 97 X) 99 Y) 87 (X / Y)) 91 z101) 89 (X % Y)) 97 ((X % Y) * 2 ^ (1 : Int).toNat)) 95 (X % Y))) (hR.p4 kq_94) (fun w hR => ?_)
                          refine i_78_333 (x := 93) l0 ?_
                          refine i_78_334 (v := Value.ref 94) (hR.k8 kq_93) rfl ?_
                          refine i_78_337 ?_
                          refine i_78_338 (fs2 := f4 94 (u1 ((u2 (u2 S 94 0 0) 94 2 lo) 94) 3 0)) (hR.k4 kq_94) rfl (Nat.le_of_ble_eq_true rfl) rfl (h7k kq_94 (by decide)) ?_
                          refine xgen (P := cX w0 L Z (u2 (u2 (u2 S 94 0 0) 94 2 lo) 94 3 0) (uv (uv (uv (uv (uv (uv (uv V 97 X) 99 Y) 87 (X / Y)) 91 z101) 89 (X % Y)) 97 ((X % Y) * 2 ^ (1 : Int).toNat)) 95 (X % Y))) (hR.p4 kq_94) (fun w hR => ?_)
                          refine i_78_341 (x := 93) l0 ?_
                          refine i_78_342 (v := Value.ref 78) (hR.k8 kq_93) rfl ?_
                          refine i_78_345 (x := 30 + 3 * r.toNat) l1 ?_
                          refine i_78_346 (x := 93) l0 ?_
                          refine i_78_347 (v := Value.ref 94) (hR.k8 kq_93) rfl ?_
                          refine i_78_350 (x := Int32.ofInt mode) l5 ?_
                          have hobj := hR.k1 kq_78
                          have ep : (u2 (u2 (u2 S 94 0 0) 94 2 lo) 94 3 0) (30 + 3 * r.toNat) 0 = S (30 + 3 * r.toNat) 0 := by rw [u2_eq, if_neg (fun e => absurd e.2 (by decide)), u2_eq, if_neg (fun e => absurd e.2 (by decide)), u2_eq, if_neg (fun e => absurd e.1 (by omega))]
                          have el : (u2 (u2 (u2 S 94 0 0) 94 2 lo) 94 3 0) 78 0 = S 78 0 := by rw [u2_eq, if_neg (fun e => absurd e.2 (by decide)), u2_eq, if_neg (fun e => absurd e.2 (by decide)), u2_eq, if_neg (fun e => absurd e.1 (by decide))]
                          have eg : (u2 (u2 (u2 S 94 0 0) 94 2 lo) 94 3 0) 78 1 = S 78 1 := by rw [u2_eq, if_neg (fun e => absurd e.2 (by decide)), u2_eq, if_neg (fun e => absurd e.2 (by decide)), u2_eq, if_neg (fun e => absurd e.2 (by decide))]
                          have ed : (u2 (u2 (u2 S 94 0 0) 94 2 lo) 94 3 0) 78 2 = S 78 2 := by rw [u2_eq, if_neg (fun e => absurd e.2 (by decide)), u2_eq, if_neg (fun e => absurd e.1 (by decide)), u2_eq, if_neg (fun e => absurd e.2 (by decide))]
                          have ef : (u2 (u2 (u2 S 94 0 0) 94 2 lo) 94 3 0) 78 3 = S 78 3 := by rw [u2_eq, if_neg (fun e => absurd e.1 (by decide)), u2_eq, if_neg (fun e => absurd e.2 (by decide)), u2_eq, if_neg (fun e => absurd e.2 (by decide))]
                          have es : (u2 (u2 (u2 S 94 0 0) 94 2 lo) 94 3 0) 94 0 = 0 := by rw [u2_eq, if_neg (fun e => absurd e.2 (by decide)), u2_eq, if_neg (fun e => absurd e.2 (by decide)), u2_eq, if_pos ⟨rfl, rfl⟩]
                          have ec : (u2 (u2 (u2 S 94 0 0) 94 2 lo) 94 3 0) 94 2 = lo := by rw [u2_eq, if_neg (fun e => absurd e.2 (by decide)), u2_eq, if_pos ⟨rfl, rfl⟩]
                          have em : (u2 (u2 (u2 S 94 0 0) 94 2 lo) 94 3 0) 94 3 = 0 := by rw [u2_eq, if_pos ⟨rfl, rfl⟩]
                          have ev : (uv (uv (uv (uv (uv (uv (uv V 97 X) 99 Y) 87 (X / Y)) 91 z101) 89 (X % Y)) 97 ((X % Y) * 2 ^ (1 : Int).toNat)) 95 (X % Y)) 95 = X % Y := uv_s
                          obtain ⟨w, hrun, S204, V204, hR, hP⟩ := x_settle (d := d) (g := 78) (t := 30 + 3 * r.toNat) (h := 94) (mode := mode) hR kq_78 (kd_reg (r := r.toNat) (by omega)) kq_94 (by rw [ep]; omega) (by rw [es]; first | omega | exact bb_01 _) (by rw [em]; omega) (by omega) (by rw [ev]; omega) (by rw [ev]; omega) (by rw [ec]; omega) (by rw [el, eg]; omega) (by rw [ed]; omega) (by rw [ep, el, ed, ev, ec, em]; exact fun _ _ => Or.inl rfl)
                          rw [ep, el, eg, ed, ef, es, ec, em, ev] at hrun hP
                          refine i_78_352 hobj (Nat.le_of_ble_eq_true rfl) hrun ?_
                          refine i_78_355 ?_
                          have eo : sRem2 (vS S) (vV V) r.toNat a.toNat b.toNat near mode = oR (S (30 + 3 * r.toNat) 0) (S 78 0) (S 78 1) (S 78 2) 0 mode 0 (X % Y) lo (S 78 3) := by
                            rw [hsp]
                            unfold sRem1
                            rw [if_neg (by rw [hrB]; decide), if_neg hr0]
                            congr 1 <;> omega
                          rw [eo]
                          exact ⟨rfl, _, _, hR, cP_round hP (by omega) (nC.up (nC.up (nC.up nC.refl (by unfold cKeep; omega) (by omega)) (by unfold cKeep; omega) (by omega)) (by unfold cKeep; omega) (by omega)) (nW.up (nW.up (nW.up (nW.up (nW.up (nW.up (nW.up nW.refl (by omega)) (by omega)) (by omega)) (by omega)) (by omega)) (by omega)) (by omega)) (by omega)⟩
                        · refine i_78_292 ?_
                          refine i_78_293 ?_
                          refine i_78_297 (fs2 := f4 94 (u1 (S 94) 0 1)) (hR.k4 kq_94) rfl (Nat.le_of_ble_eq_true rfl) rfl (h7k kq_94 (by decide)) ?_
                          refine xgen (P := cX w0 L Z (u2 S 94 0 1) (uv (uv (uv (uv (uv (uv V 97 X) 99 Y) 87 (X / Y)) 91 z101) 89 (X % Y)) 97 ((X % Y) * 2 ^ (1 : Int).toNat))) (hR.p4 kq_94) (fun w hR => ?_)
                          refine i_78_300 (x := 93) l0 ?_
                          refine i_78_301 (v := Value.ref 94) (hR.k8 kq_93) rfl ?_
                          refine i_78_304 (v := Value.ref 95) (hR.k4 kq_94) rfl ?_
                          refine i_78_307 (x := Int32.ofInt 0) l12 ?_
                          refine i_78_309 (z_eq (a := 0) ⟨by omega, by omega⟩ fun c204 => ?_) (z_ne (a := 0) ⟨by omega, by omega⟩ fun c204 => absurd c204 (by omega))
                          refine i_78_319 (x := 89) l10 ?_
                          obtain ⟨fs, hobj⟩ := hR.nat kq_95
                          obtain ⟨w, hrun, hR⟩ := X_set (d := d + 6) (h := 95) (h2 := 89) (u := X % Y) hR kq_95 kq_89 (by decide) ((uv_n (by omega)).trans (uv_s)) (by omega)
                          refine i_78_321 hobj (Nat.le_of_ble_eq_true rfl) hrun ?_
                          refine i_78_324 (x := 93) l0 ?_
                          refine i_78_325 (v := Value.ref 94) (hR.k8 kq_93) rfl ?_
                          refine i_78_328 (x := Int32.ofInt lo) l9 ?_
                          refine i_78_330 (fs2 := f4 94 (u1 ((u2 S 94 0 1) 94) 2 lo)) (hR.k4 kq_94) (Nat.le_of_ble_eq_true rfl) rfl (h7k kq_94 (by decide)) ?_
                          refine xgen (P := cX w0 L Z (u2 (u2 S 94 0 1) 94 2 lo) (uv (uv (uv (uv (uv (uv (uv V 97 X) 99 Y) 87 (X / Y)) 91 z101) 89 (X % Y)) 97 ((X % Y) * 2 ^ (1 : Int).toNat)) 95 (X % Y))) (hR.p4 kq_94) (fun w hR => ?_)
                          refine i_78_333 (x := 93) l0 ?_
                          refine i_78_334 (v := Value.ref 94) (hR.k8 kq_93) rfl ?_
                          refine i_78_337 ?_
                          refine i_78_338 (fs2 := f4 94 (u1 ((u2 (u2 S 94 0 1) 94 2 lo) 94) 3 0)) (hR.k4 kq_94) rfl (Nat.le_of_ble_eq_true rfl) rfl (h7k kq_94 (by decide)) ?_
                          refine xgen (P := cX w0 L Z (u2 (u2 (u2 S 94 0 1) 94 2 lo) 94 3 0) (uv (uv (uv (uv (uv (uv (uv V 97 X) 99 Y) 87 (X / Y)) 91 z101) 89 (X % Y)) 97 ((X % Y) * 2 ^ (1 : Int).toNat)) 95 (X % Y))) (hR.p4 kq_94) (fun w hR => ?_)
                          refine i_78_341 (x := 93) l0 ?_
                          refine i_78_342 (v := Value.ref 78) (hR.k8 kq_93) rfl ?_
                          refine i_78_345 (x := 30 + 3 * r.toNat) l1 ?_
                          refine i_78_346 (x := 93) l0 ?_
                          refine i_78_347 (v := Value.ref 94) (hR.k8 kq_93) rfl ?_
                          refine i_78_350 (x := Int32.ofInt mode) l5 ?_
                          have hobj := hR.k1 kq_78
                          have ep : (u2 (u2 (u2 S 94 0 1) 94 2 lo) 94 3 0) (30 + 3 * r.toNat) 0 = S (30 + 3 * r.toNat) 0 := by rw [u2_eq, if_neg (fun e => absurd e.2 (by decide)), u2_eq, if_neg (fun e => absurd e.2 (by decide)), u2_eq, if_neg (fun e => absurd e.1 (by omega))]
                          have el : (u2 (u2 (u2 S 94 0 1) 94 2 lo) 94 3 0) 78 0 = S 78 0 := by rw [u2_eq, if_neg (fun e => absurd e.2 (by decide)), u2_eq, if_neg (fun e => absurd e.2 (by decide)), u2_eq, if_neg (fun e => absurd e.1 (by decide))]
                          have eg : (u2 (u2 (u2 S 94 0 1) 94 2 lo) 94 3 0) 78 1 = S 78 1 := by rw [u2_eq, if_neg (fun e => absurd e.2 (by decide)), u2_eq, if_neg (fun e => absurd e.2 (by decide)), u2_eq, if_neg (fun e => absurd e.2 (by decide))]
                          have ed : (u2 (u2 (u2 S 94 0 1) 94 2 lo) 94 3 0) 78 2 = S 78 2 := by rw [u2_eq, if_neg (fun e => absurd e.2 (by decide)), u2_eq, if_neg (fun e => absurd e.1 (by decide)), u2_eq, if_neg (fun e => absurd e.2 (by decide))]
                          have ef : (u2 (u2 (u2 S 94 0 1) 94 2 lo) 94 3 0) 78 3 = S 78 3 := by rw [u2_eq, if_neg (fun e => absurd e.1 (by decide)), u2_eq, if_neg (fun e => absurd e.2 (by decide)), u2_eq, if_neg (fun e => absurd e.2 (by decide))]
                          have es : (u2 (u2 (u2 S 94 0 1) 94 2 lo) 94 3 0) 94 0 = 1 := by rw [u2_eq, if_neg (fun e => absurd e.2 (by decide)), u2_eq, if_neg (fun e => absurd e.2 (by decide)), u2_eq, if_pos ⟨rfl, rfl⟩]
                          have ec : (u2 (u2 (u2 S 94 0 1) 94 2 lo) 94 3 0) 94 2 = lo := by rw [u2_eq, if_neg (fun e => absurd e.2 (by decide)), u2_eq, if_pos ⟨rfl, rfl⟩]
                          have em : (u2 (u2 (u2 S 94 0 1) 94 2 lo) 94 3 0) 94 3 = 0 := by rw [u2_eq, if_pos ⟨rfl, rfl⟩]
                          have ev : (uv (uv (uv (uv (uv (uv (uv V 97 X) 99 Y) 87 (X / Y)) 91 z101) 89 (X % Y)) 97 ((X % Y) * 2 ^ (1 : Int).toNat)) 95 (X % Y)) 95 = X % Y := uv_s
                          obtain ⟨w, hrun, S206, V206, hR, hP⟩ := x_settle (d := d) (g := 78) (t := 30 + 3 * r.toNat) (h := 94) (mode := mode) hR kq_78 (kd_reg (r := r.toNat) (by omega)) kq_94 (by rw [ep]; omega) (by rw [es]; first | omega | exact bb_01 _) (by rw [em]; omega) (by omega) (by rw [ev]; omega) (by rw [ev]; omega) (by rw [ec]; omega) (by rw [el, eg]; omega) (by rw [ed]; omega) (by rw [ep, el, ed, ev, ec, em]; exact fun _ _ => Or.inl rfl)
                          rw [ep, el, eg, ed, ef, es, ec, em, ev] at hrun hP
                          refine i_78_352 hobj (Nat.le_of_ble_eq_true rfl) hrun ?_
                          refine i_78_355 ?_
                          have eo : sRem2 (vS S) (vV V) r.toNat a.toNat b.toNat near mode = oR (S (30 + 3 * r.toNat) 0) (S 78 0) (S 78 1) (S 78 2) 1 mode 0 (X % Y) lo (S 78 3) := by
                            rw [hsp]
                            unfold sRem1
                            rw [if_neg (by rw [hrB]; decide), if_neg hr0]
                            congr 1 <;> omega
                          rw [eo]
                          exact ⟨rfl, _, _, hR, cP_round hP (by omega) (nC.up (nC.up (nC.up nC.refl (by unfold cKeep; omega) (by omega)) (by unfold cKeep; omega) (by omega)) (by unfold cKeep; omega) (by omega)) (nW.up (nW.up (nW.up (nW.up (nW.up (nW.up (nW.up nW.refl (by omega)) (by omega)) (by omega)) (by omega)) (by omega)) (by omega)) (by omega)) (by omega)⟩
                    refine i_78_211 (x := 93) l0 ?_
                    refine i_78_212 (v := Value.ref 97) (hR.k8 kq_93) rfl ?_
                    refine i_78_215 (x := 89) l10 ?_
                    refine i_78_217 ?_
                    obtain ⟨fs, hobj⟩ := hR.nat kq_97
                    obtain ⟨w, hrun, hR⟩ := X_shift (d := d + 6) (h := 97) (h2 := 89) (u := X % Y) (k := 1) hR kq_97 kq_89 (uv_s) (by omega) (by omega)
                    rw [shf_nn (by omega)] at hR
                    refine i_78_218 hobj (Nat.le_of_ble_eq_true rfl) hrun ?_
                    refine i_78_221 (x := 93) l0 ?_
                    refine i_78_222 (v := Value.ref 86) (hR.k8 kq_93) rfl ?_
                    refine i_78_225 (v := Value.ref 87) (hR.k7 kq_86) rfl ?_
                    refine i_78_228 ?_
                    obtain ⟨fs, hobj⟩ := hR.nat kq_87
                    have hrun := X_bit (d := d + 8) (h := 87) (u := X / Y) (p := 0) hR kq_87 ((uv_n (by omega)).trans ((uv_n (by omega)).trans ((uv_n (by omega)).trans (uv_s)))) ⟨by omega, by omega⟩
                    rw [bfn_bit] at hrun
                    refine i_78_229 hobj (Nat.le_of_ble_eq_true rfl) hrun ?_
                    refine i_78_232 rfl ?_
                    refine lgen1 (i := 11) (v := Value.int (Int32.ofInt (bb (nbit (X / Y) 0)))) (fun lv lg ls => ?_)
                    replace l10 := lg 10 _ rfl rfl l10
                    replace l9 := lg 9 _ rfl rfl l9
                    replace l8 := lg 8 _ rfl rfl l8
                    replace l7 := lg 7 _ rfl rfl l7
                    replace l6 := lg 6 _ rfl rfl l6
                    replace l0 := lg 0 _ rfl rfl l0
                    replace l1 := lg 1 _ rfl rfl l1
                    replace l2 := lg 2 _ rfl rfl l2
                    replace l3 := lg 3 _ rfl rfl l3
                    replace l4 := lg 4 _ rfl rfl l4
                    replace l5 := lg 5 _ rfl rfl l5
                    have l11 := ls
                    refine i_78_234 (x := Int32.ofInt near) l4 ?_
                    refine i_78_236 (z_eq (a := near) ⟨by omega, by omega⟩ fun c103 => ?_) (z_ne (a := near) ⟨by omega, by omega⟩ fun c103 => ?_)
                    · refine i_78_264 ?_
                      exact tail 0 lv w hR (by first | (rw [← gO_rem ‹near ≠ 0›, ‹gO 0 0 (bb (nbit (X / Y) 0)) (ncmp (X % Y * 2 ^ (1 : Int).toNat) Y) = false›]; rfl) | (unfold remB; rw [‹near = 0›]; rfl)) (by omega) l0 l1 l2 l3 l4 l5 l6 l9 l10
                    · refine i_78_239 ?_
                      refine i_78_240 ?_
                      refine i_78_241 (x := Int32.ofInt (bb (nbit (X / Y) 0))) l11 ?_
                      refine i_78_243 (x := 93) l0 ?_
                      refine i_78_244 (v := Value.ref 97) (hR.k8 kq_93) rfl ?_
                      refine i_78_247 (x := 93) l0 ?_
                      refine i_78_248 (v := Value.ref 99) (hR.k8 kq_93) rfl ?_
                      obtain ⟨fs, hobj⟩ := hR.nat kq_97
                      have hrun := X_ord (d := d + 9) (h := 97) (h2 := 99) (u := (X % Y) * 2 ^ (1 : Int).toNat) (u2 := Y) hR kq_97 kq_99 (uv_s) ((uv_n (by omega)).trans ((uv_n (by omega)).trans ((uv_n (by omega)).trans ((uv_n (by omega)).trans (uv_s)))))
                      have hcmp := ncmp_3 ((X % Y) * 2 ^ (1 : Int).toNat) (Y)
                      refine i_78_251 hobj (Nat.le_of_ble_eq_true rfl) hrun ?_
                      have hrun := x_gO (d := d + 8) (w := w) (way := 0) (neg := 0) (odd := bb (nbit (X / Y) 0)) (bes := ncmp ((X % Y) * 2 ^ (1 : Int).toNat) Y) ⟨by omega, by omega⟩ (by first | omega | exact bb_01 _) (by first | omega | exact bb_01 _) ⟨by omega, by omega⟩
                      refine i_78_254 (Nat.le_of_ble_eq_true rfl) hrun ?_
                      refine i_78_257 (zb_f fun c104 => ?_) (zb_t fun c104 => ?_)
                      · refine i_78_264 ?_
                        exact tail 0 lv w hR (by first | (rw [← gO_rem ‹near ≠ 0›, ‹gO 0 0 (bb (nbit (X / Y) 0)) (ncmp (X % Y * 2 ^ (1 : Int).toNat) Y) = false›]; rfl) | (unfold remB; rw [‹near = 0›]; rfl)) (by omega) l0 l1 l2 l3 l4 l5 l6 l9 l10
                      · refine i_78_260 ?_
                        refine i_78_261 ?_
                        exact tail 1 lv w hR (by first | (rw [← gO_rem ‹near ≠ 0›, ‹gO 0 0 (bb (nbit (X / Y) 0)) (ncmp (X % Y * 2 ^ (1 : Int).toNat) Y) = true›]; rfl) | (unfold remB; rw [‹near = 0›]; rfl)) (by omega) l0 l1 l2 l3 l4 l5 l6 l9 l10
                  · refine i_78_204 (x := 30 + 3 * r.toNat) l1 ?_
                    refine i_78_205 (x := Int32.ofInt (S (30 + 3 * a.toNat) 2)) l6 ?_
                    have hobj := hR.k2 (kd_reg (r := r.toNat) (by omega))
                    obtain ⟨w, hrun, hR⟩ := x_zero (d := d + 8) (t := 30 + 3 * r.toNat) (sg := S (30 + 3 * a.toNat) 2) hR (kd_reg (r := r.toNat) (by omega)) (by first | omega | exact bb_01 _)
                    refine i_78_207 hobj (Nat.le_of_ble_eq_true rfl) hrun ?_
                    refine i_78_210 ?_
                    have hr0 : X % Y = 0 := xbl_nz.mp (by omega)
                    have eo : sRem2 (vS S) (vV V) r.toNat a.toNat b.toNat near mode = oS 2 (S (30 + 3 * a.toNat) 2) (S 78 3) := by
                      rw [hsp]
                      unfold sRem1
                      rw [if_neg (by unfold remB; rw [hr0, Nat.zero_mul, decide_eq_false (show ¬ Y < 0 by omega), decide_eq_false (show ¬ 0 = Y by omega)]; simp), if_pos hr0]
                    rw [eo]
                    exact ⟨rfl, _, _, hR, cP_special (by omega) (by decide) nC.refl (nW.up (nW.up (nW.up (nW.up (nW.up nW.refl (by omega)) (by omega)) (by omega)) (by omega)) (by omega)) rfl (by omega)⟩
                · refine i_78_86 (x := 93) l0 ?_
                  refine i_78_87 (v := Value.ref 94) (hR.k8 kq_93) rfl ?_
                  refine i_78_90 (x := 30 + 3 * a.toNat) l2 ?_
                  have hobj := hR.k4 kq_94
                  have ep : S (30 + 3 * a.toNat) 0 = S (30 + 3 * a.toNat) 0 := rfl
                  have en : S (30 + 3 * a.toNat) 2 = S (30 + 3 * a.toNat) 2 := rfl
                  have ex : S (30 + 3 * a.toNat) 3 = S (30 + 3 * a.toNat) 3 := rfl
                  have ev : V ((30 + 3 * a.toNat) + 1) = V ((30 + 3 * a.toNat) + 1) := rfl
                  obtain ⟨w, hrun, hR⟩ := x_tn (d := d + 5) (h := 94) (t := 30 + 3 * a.toNat) hR kq_94 (kd_reg (r := a.toNat) (by omega)) (by rw [en]; omega) (by rw [ev]; omega)
                  rw [ep, en, ex, ev] at hR
                  refine i_78_91 hobj (Nat.le_of_ble_eq_true rfl) hrun ?_
                  refine i_78_94 (x := 93) l0 ?_
                  refine i_78_95 (v := Value.ref 78) (hR.k8 kq_93) rfl ?_
                  refine i_78_98 (x := 30 + 3 * r.toNat) l1 ?_
                  refine i_78_99 (x := 93) l0 ?_
                  refine i_78_100 (v := Value.ref 94) (hR.k8 kq_93) rfl ?_
                  refine i_78_103 (x := Int32.ofInt mode) l5 ?_
                  have hobj := hR.k1 kq_78
                  have ep : (u2 (u2 (u2 S 94 0 (S (30 + 3 * a.toNat) 2)) 94 2 ((S (30 + 3 * a.toNat) 3) - (S (30 + 3 * a.toNat) 0))) 94 3 0) (30 + 3 * r.toNat) 0 = S (30 + 3 * r.toNat) 0 := by rw [u2_eq, if_neg (fun e => absurd e.2 (by decide)), u2_eq, if_neg (fun e => absurd e.2 (by decide)), u2_eq, if_neg (fun e => absurd e.1 (by omega))]
                  have el : (u2 (u2 (u2 S 94 0 (S (30 + 3 * a.toNat) 2)) 94 2 ((S (30 + 3 * a.toNat) 3) - (S (30 + 3 * a.toNat) 0))) 94 3 0) 78 0 = S 78 0 := by rw [u2_eq, if_neg (fun e => absurd e.2 (by decide)), u2_eq, if_neg (fun e => absurd e.2 (by decide)), u2_eq, if_neg (fun e => absurd e.1 (by decide))]
                  have eg : (u2 (u2 (u2 S 94 0 (S (30 + 3 * a.toNat) 2)) 94 2 ((S (30 + 3 * a.toNat) 3) - (S (30 + 3 * a.toNat) 0))) 94 3 0) 78 1 = S 78 1 := by rw [u2_eq, if_neg (fun e => absurd e.2 (by decide)), u2_eq, if_neg (fun e => absurd e.2 (by decide)), u2_eq, if_neg (fun e => absurd e.2 (by decide))]
                  have ed : (u2 (u2 (u2 S 94 0 (S (30 + 3 * a.toNat) 2)) 94 2 ((S (30 + 3 * a.toNat) 3) - (S (30 + 3 * a.toNat) 0))) 94 3 0) 78 2 = S 78 2 := by rw [u2_eq, if_neg (fun e => absurd e.2 (by decide)), u2_eq, if_neg (fun e => absurd e.1 (by decide)), u2_eq, if_neg (fun e => absurd e.2 (by decide))]
                  have ef : (u2 (u2 (u2 S 94 0 (S (30 + 3 * a.toNat) 2)) 94 2 ((S (30 + 3 * a.toNat) 3) - (S (30 + 3 * a.toNat) 0))) 94 3 0) 78 3 = S 78 3 := by rw [u2_eq, if_neg (fun e => absurd e.1 (by decide)), u2_eq, if_neg (fun e => absurd e.2 (by decide)), u2_eq, if_neg (fun e => absurd e.2 (by decide))]
                  have es : (u2 (u2 (u2 S 94 0 (S (30 + 3 * a.toNat) 2)) 94 2 ((S (30 + 3 * a.toNat) 3) - (S (30 + 3 * a.toNat) 0))) 94 3 0) 94 0 = S (30 + 3 * a.toNat) 2 := by rw [u2_eq, if_neg (fun e => absurd e.2 (by decide)), u2_eq, if_neg (fun e => absurd e.2 (by decide)), u2_eq, if_pos ⟨rfl, rfl⟩]
                  have ec : (u2 (u2 (u2 S 94 0 (S (30 + 3 * a.toNat) 2)) 94 2 ((S (30 + 3 * a.toNat) 3) - (S (30 + 3 * a.toNat) 0))) 94 3 0) 94 2 = (S (30 + 3 * a.toNat) 3) - (S (30 + 3 * a.toNat) 0) := by rw [u2_eq, if_neg (fun e => absurd e.2 (by decide)), u2_eq, if_pos ⟨rfl, rfl⟩]
                  have em : (u2 (u2 (u2 S 94 0 (S (30 + 3 * a.toNat) 2)) 94 2 ((S (30 + 3 * a.toNat) 3) - (S (30 + 3 * a.toNat) 0))) 94 3 0) 94 3 = 0 := by rw [u2_eq, if_pos ⟨rfl, rfl⟩]
                  have ev : (uv V 95 (V ((30 + 3 * a.toNat) + 1))) 95 = V ((30 + 3 * a.toNat) + 1) := uv_s
                  obtain ⟨w, hrun, S9, V9, hR, hP⟩ := x_settle (d := d) (g := 78) (t := 30 + 3 * r.toNat) (h := 94) (mode := mode) hR kq_78 (kd_reg (r := r.toNat) (by omega)) kq_94 (by rw [ep]; omega) (by rw [es]; first | omega | exact bb_01 _) (by rw [em]; omega) (by omega) (by rw [ev]; exact hm_a (by omega)) (by rw [ev]; omega) (by rw [ec]; omega) (by rw [el, eg]; omega) (by rw [ed]; omega) (by rw [ep, el, ed, ev, ec, em]; exact fun _ _ => Or.inl rfl)
                  rw [ep, el, eg, ed, ef, es, ec, em, ev] at hrun hP
                  refine i_78_105 hobj (Nat.le_of_ble_eq_true rfl) hrun ?_
                  refine i_78_108 ?_
                  have eo : sRem2 (vS S) (vV V) r.toNat a.toNat b.toNat near mode = oR (S (30 + 3 * r.toNat) 0) (S 78 0) (S 78 1) (S 78 2) (S (30 + 3 * a.toNat) 2) mode 0 (V ((30 + 3 * a.toNat) + 1)) ((S (30 + 3 * a.toNat) 3) - (S (30 + 3 * a.toNat) 0)) (S 78 3) := by
                    clear hR hP
                    by_cases hb1 : S (30 + 3 * b.toNat) 1 = 1
                    · simp only [sRem2, sRem, sMove, ex, vS_153, vS_154, vS_155, vS_156, vS_17, vS_18, vS_19, vS_20, vV_r]
                      rw [if_neg (by omega), if_neg (by omega), if_pos (by omega), if_pos (by omega)]
                    · exact rem_short (by omega) (by omega) (hm_a (by omega)) (hm_b (by omega)) (hz_a (by omega)) (hz_b (by omega)) hp_a hp_b (by omega) (by omega) (by omega)
                  rw [eo]
                  exact ⟨rfl, _, _, hR, cP_round hP (by omega) (nC.up (nC.up (nC.up nC.refl (by unfold cKeep; omega) (by omega)) (by unfold cKeep; omega) (by omega)) (by unfold cKeep; omega) (by omega)) (nW.up nW.refl (by omega)) (by omega)⟩
            · refine i_78_58 (x := 30 + 3 * r.toNat) l1 ?_
              refine i_78_59 (x := Int32.ofInt (S (30 + 3 * a.toNat) 2)) l6 ?_
              have hobj := hR.k2 (kd_reg (r := r.toNat) (by omega))
              obtain ⟨w, hrun, hR⟩ := x_zero (d := d + 8) (t := 30 + 3 * r.toNat) (sg := S (30 + 3 * a.toNat) 2) hR (kd_reg (r := r.toNat) (by omega)) (by first | omega | exact bb_01 _)
              refine i_78_61 hobj (Nat.le_of_ble_eq_true rfl) hrun ?_
              refine i_78_64 ?_
              have eo : sRem2 (vS S) (vV V) r.toNat a.toNat b.toNat near mode = oS 2 (S (30 + 3 * a.toNat) 2) (S 78 3) := by clear hR; simp only [sRem2, sRem, sMove, vS_153, vS_154, vS_155, vS_156, vS_17, vS_18, vS_19, vS_20, vV_r]; grind
              rw [eo]
              exact ⟨rfl, _, _, hR, cP_special (by first | omega | exact bb_01 _) (by decide) nC.refl nW.refl rfl (by omega)⟩
          · refine i_78_41 (x := 93) l0 ?_
            refine i_78_42 (v := Value.ref 78) (hR.k8 kq_93) rfl ?_
            refine i_78_45 (x := 30 + 3 * r.toNat) l1 ?_
            have hobj := hR.k1 kq_78
            obtain ⟨w, hrun, hR⟩ := x_refuse (d := d + 6) (g := 78) (t := 30 + 3 * r.toNat) hR kq_78 (kd_reg (r := r.toNat) (by omega))
            refine i_78_46 hobj (Nat.le_of_ble_eq_true rfl) hrun ?_
            refine i_78_49 ?_
            have eo : sRem2 (vS S) (vV V) r.toNat a.toNat b.toNat near mode = oS 0 0 (zor (S 78 3) 8) := by clear hR; simp only [sRem2, sRem, sMove, vS_153, vS_154, vS_155, vS_156, vS_17, vS_18, vS_19, vS_20, vV_r]; grind
            rw [eo]
            exact ⟨rfl, _, _, hR, cP_flag (by first | omega | exact bb_01 _) (by decide) nC.refl nW.refl (by omega)⟩
      · refine i_78_20 (x := 30 + 3 * r.toNat) l1 ?_
        have hobj := hR.k2 (kd_reg (r := r.toNat) (by omega))
        obtain ⟨w, hrun, hR⟩ := x_nan (d := d + 8) (t := 30 + 3 * r.toNat) hR (kd_reg (r := r.toNat) (by omega))
        refine i_78_21 hobj (Nat.le_of_ble_eq_true rfl) hrun ?_
        refine i_78_24 ?_
        have eo : sRem2 (vS S) (vV V) r.toNat a.toNat b.toNat near mode = oS 0 0 (S 78 3) := by clear hR; simp only [sRem2, sRem, sMove, vS_153, vS_154, vS_155, vS_156, vS_17, vS_18, vS_19, vS_20, vV_r]; grind
        rw [eo]
        exact ⟨rfl, _, _, hR, cP_special (by first | omega | exact bb_01 _) (by decide) nC.refl nW.refl rfl (by omega)⟩
  obtain ⟨o, w', h1, rfl, h2⟩ := (key (lv_args 0 [Value.ref 93, Value.ref (30 + 3 * r.toNat), Value.ref (30 + 3 * a.toNat), Value.ref (30 + 3 * b.toNat), Value.int (Int32.ofInt near), Value.int (Int32.ofInt mode)]) rfl rfl rfl rfl rfl rfl).run
  exact ⟨w', h1, h2⟩
end
