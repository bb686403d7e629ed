/-! withSign, copy of the class -/
theorem vS_153 {S : Nat → Nat → Int} {j : Nat} : vS S 153 j = S (30 + 3 * j) 0 := rfl
theorem vS_154 {S : Nat → Nat → Int} {j : Nat} : vS S 154 j = S (30 + 3 * j) 1 := rfl
theorem vS_155 {S : Nat → Nat → Int} {j : Nat} : vS S 155 j = S (30 + 3 * j) 3 := rfl
theorem vS_156 {S : Nat → Nat → Int} {j : Nat} : vS S 156 j = S (30 + 3 * j) 2 := rfl
theorem vS_17 {S : Nat → Nat → Int} : vS S 128 17 = S 78 0 := rfl
theorem vS_18 {S : Nat → Nat → Int} : vS S 128 18 = S 78 1 := rfl
theorem vS_19 {S : Nat → Nat → Int} : vS S 128 19 = S 78 3 := rfl
theorem vS_20 {S : Nat → Nat → Int} : vS S 128 20 = S 78 2 := rfl
theorem cI.nz {S : Nat → Nat → Int} {V : Nat → Nat} {r : Nat} (hI : cI S V) (hr : r < 16) (hk : S (30 + 3 * r) 1 = 3) : V (30 + 3 * r + 1) ≠ 0 := by
  have h := hI.1 r hr
  have h1 := h.2.2.2.2.2 hk
  intro e
  rw [e, xbl_zero] at h1
  have := h.1.1
  omega
theorem cP_sp2 {S S1 : Nat → Nat → Int} {V V1 : Nat → Nat} {t : Nat} {sg sg2 k f : Int} (hs : sg = 0 ∨ sg = 1) (hk : k ≠ 3) (h0 : k ≠ 0 → sg2 = sg) (h1 : nC S S1) (h2 : nW V V1) (hf : S 78 3 = f) (ht : 30 ≤ t ∧ t ≤ 75) : cOut S (u2 (u2 S1 t 1 k) t 2 sg) V V1 t (oS k sg2 f) := by
  obtain ⟨a1, a2, a3, a4, a5⟩ := cP_special (S := S) (S1 := S1) (V := V) (V1 := V1) (t := t) (sg := sg) (k := k) (f := f) hs hk h1 h2 hf ht
  refine ⟨a1, fun e => ?_, a3, a4, a5⟩
  rw [a2 e]
  exact (h0 e).symm
section
variable {w0 w : xW} {L Z : Nat} {S : Nat → Nat → Int} {V : Nat → Nat} {d h t r : Nat}
set_option maxHeartbeats 4000000 in
theorem x_ws {r a sg mode : Int} (hR : cX w0 L Z S V w) (hI : cI S V) (hr : 0 ≤ r ∧ r ≤ 15) (ha : 0 ≤ a ∧ a ≤ 15) (hs : sg = 0 ∨ sg = 1) (hmo : 0 ≤ mode ∧ mode ≤ 4) : ∃ w', xRun (d + 10) 54 [Value.ref 93, Value.ref (30 + 3 * r.toNat), Value.ref (30 + 3 * a.toNat), Value.int (Int32.ofInt sg), Value.int (Int32.ofInt mode)] w (.inl (some (.int (Int32.ofInt (sMove (vS S) (vV V) r.toNat a.toNat sg mode).2.2.2.2.1)))) w' ∧ ∃ S' V', cX w0 L Z S' V' w' ∧ cOut S S' V V' (30 + 3 * r.toNat) (sMove (vS S) (vV V) r.toNat a.toNat sg mode) := by
  have key : ∀ lv, xld lv 0 = some (Value.ref 93) → xld lv 1 = some (Value.ref (30 + 3 * r.toNat)) → xld lv 2 = some (Value.ref (30 + 3 * a.toNat)) → xld lv 3 = some (Value.int (Int32.ofInt sg)) → xld lv 4 = some (Value.int (Int32.ofInt mode)) → xEv (d + 10) 54 0 lv [] w (fun o w' => o = .inl (some (.int (Int32.ofInt (sMove (vS S) (vV V) r.toNat a.toNat sg mode).2.2.2.2.1))) ∧ ∃ S' V', cX w0 L Z S' V' w' ∧ cOut S S' V V' (30 + 3 * r.toNat) (sMove (vS S) (vV V) r.toNat a.toNat sg mode)) := by
    intro lv l0 l1 l2 l3 l4
    obtain ⟨hp_r, hk_r, hn_r, ht_r, hx_r, hz_r⟩ := hI.1 r.toNat (by omega)
    obtain ⟨hp_a, hk_a, hn_a, ht_a, hx_a, hz_a⟩ := hI.1 a.toNat (by omega)
    have hi_l := hI.2.1
    have hi_g := hI.2.2.1
    have hm_a : S (30 + 3 * a.toNat) 1 = 3 → V (30 + 3 * a.toNat + 1) ≠ 0 := fun e => hI.nz (by omega) e
    refine i_54_0 (x := 30 + 3 * a.toNat) l2 ?_
    refine i_54_1 (v := Value.int (Int32.ofInt (S (30 + 3 * a.toNat) 1))) (hR.k2 (kd_reg (r := a.toNat) (by omega))) rfl ?_
    refine i_54_4 ?_
    refine i_54_5 (b_eq (a := S (30 + 3 * a.toNat) 1) (b := 3) ⟨by omega, by omega⟩ ⟨by decide, by decide⟩ fun c0 => ?_) (b_ne (a := S (30 + 3 * a.toNat) 1) (b := 3) ⟨by omega, by omega⟩ ⟨by decide, by decide⟩ fun c0 => ?_)
    · try replace ht_a := ht_a.resolve_left (by omega)
      try replace hx_a := hx_a.resolve_left (by omega)
      refine i_54_18 (x := 93) l0 ?_
      refine i_54_19 (v := Value.ref 94) (hR.k8 kq_93) rfl ?_
      refine i_54_22 (x := 30 + 3 * a.toNat) l2 ?_
      have hobj := hR.k4 kq_94
      have ep : S (30 + 3 * a.toNat) 0 = S (30 + 3 * a.toNat) 0 := rfl
      have en : S (30 + 3 * a.toNat) 2 = S (30 + 3 * a.toNat) 2 := rfl
      have ex : S (30 + 3 * a.toNat) 3 = S (30 + 3 * a.toNat) 3 := rfl
      have ev : V ((30 + 3 * a.toNat) + 1) = V ((30 + 3 * a.toNat) + 1) := rfl
      obtain ⟨w, hrun, hR⟩ := x_tn (d := d + 5) (h := 94) (t := 30 + 3 * a.toNat) hR kq_94 (kd_reg (r := a.toNat) (by omega)) (by rw [en]; omega) (by rw [ev]; omega)
      rw [ep, en, ex, ev] at hR
      refine i_54_23 hobj (Nat.le_of_ble_eq_true rfl) hrun ?_
      refine i_54_26 (x := 93) l0 ?_
      refine i_54_27 (v := Value.ref 94) (hR.k8 kq_93) rfl ?_
      refine i_54_30 (x := Int32.ofInt sg) l3 ?_
      refine i_54_31 (fs2 := f4 94 (u1 ((u2 (u2 (u2 S 94 0 (S (30 + 3 * a.toNat) 2)) 94 2 ((S (30 + 3 * a.toNat) 3) - (S (30 + 3 * a.toNat) 0))) 94 3 0) 94) 0 sg)) (hR.k4 kq_94) (o_bool (by omega)) (Nat.le_of_ble_eq_true rfl) rfl (h7k kq_94 (by decide)) ?_
      refine xgen (P := cX w0 L Z (u2 (u2 (u2 (u2 S 94 0 (S (30 + 3 * a.toNat) 2)) 94 2 ((S (30 + 3 * a.toNat) 3) - (S (30 + 3 * a.toNat) 0))) 94 3 0) 94 0 sg) (uv V 95 (V ((30 + 3 * a.toNat) + 1)))) (hR.p4 kq_94) (fun w hR => ?_)
      refine i_54_34 (x := 93) l0 ?_
      refine i_54_35 (v := Value.ref 78) (hR.k8 kq_93) rfl ?_
      refine i_54_38 (x := 30 + 3 * r.toNat) l1 ?_
      refine i_54_39 (x := 93) l0 ?_
      refine i_54_40 (v := Value.ref 94) (hR.k8 kq_93) rfl ?_
      refine i_54_43 (x := Int32.ofInt mode) l4 ?_
      have hobj := hR.k1 kq_78
      have ep : (u2 (u2 (u2 (u2 S 94 0 (S (30 + 3 * a.toNat) 2)) 94 2 ((S (30 + 3 * a.toNat) 3) - (S (30 + 3 * a.toNat) 0))) 94 3 0) 94 0 sg) (30 + 3 * r.toNat) 0 = S (30 + 3 * r.toNat) 0 := by rw [u2_eq, if_neg (fun e => absurd e.1 (by omega)), u2_eq, if_neg (fun e => absurd e.2 (by decide)), u2_eq, if_neg (fun e => absurd e.2 (by decide)), u2_eq, if_neg (fun e => absurd e.1 (by omega))]
      have el : (u2 (u2 (u2 (u2 S 94 0 (S (30 + 3 * a.toNat) 2)) 94 2 ((S (30 + 3 * a.toNat) 3) - (S (30 + 3 * a.toNat) 0))) 94 3 0) 94 0 sg) 78 0 = S 78 0 := by rw [u2_eq, if_neg (fun e => absurd e.1 (by decide)), u2_eq, if_neg (fun e => absurd e.2 (by decide)), u2_eq, if_neg (fun e => absurd e.2 (by decide)), u2_eq, if_neg (fun e => absurd e.1 (by decide))]
      have eg : (u2 (u2 (u2 (u2 S 94 0 (S (30 + 3 * a.toNat) 2)) 94 2 ((S (30 + 3 * a.toNat) 3) - (S (30 + 3 * a.toNat) 0))) 94 3 0) 94 0 sg) 78 1 = S 78 1 := by rw [u2_eq, if_neg (fun e => absurd e.2 (by decide)), u2_eq, if_neg (fun e => absurd e.2 (by decide)), u2_eq, if_neg (fun e => absurd e.2 (by decide)), u2_eq, if_neg (fun e => absurd e.2 (by decide))]
      have ed : (u2 (u2 (u2 (u2 S 94 0 (S (30 + 3 * a.toNat) 2)) 94 2 ((S (30 + 3 * a.toNat) 3) - (S (30 + 3 * a.toNat) 0))) 94 3 0) 94 0 sg) 78 2 = S 78 2 := by rw [u2_eq, if_neg (fun e => absurd e.2 (by decide)), u2_eq, if_neg (fun e => absurd e.2 (by decide)), u2_eq, if_neg (fun e => absurd e.1 (by decide)), u2_eq, if_neg (fun e => absurd e.2 (by decide))]
      have ef : (u2 (u2 (u2 (u2 S 94 0 (S (30 + 3 * a.toNat) 2)) 94 2 ((S (30 + 3 * a.toNat) 3) - (S (30 + 3 * a.toNat) 0))) 94 3 0) 94 0 sg) 78 3 = S 78 3 := by rw [u2_eq, if_neg (fun e => absurd e.2 (by decide)), u2_eq, if_neg (fun e => absurd e.1 (by decide)), u2_eq, if_neg (fun e => absurd e.2 (by decide)), u2_eq, if_neg (fun e => absurd e.2 (by decide))]
      have es : (u2 (u2 (u2 (u2 S 94 0 (S (30 + 3 * a.toNat) 2)) 94 2 ((S (30 + 3 * a.toNat) 3) - (S (30 + 3 * a.toNat) 0))) 94 3 0) 94 0 sg) 94 0 = sg := by rw [u2_eq, if_pos ⟨rfl, rfl⟩]
      have ec : (u2 (u2 (u2 (u2 S 94 0 (S (30 + 3 * a.toNat) 2)) 94 2 ((S (30 + 3 * a.toNat) 3) - (S (30 + 3 * a.toNat) 0))) 94 3 0) 94 0 sg) 94 2 = (S (30 + 3 * a.toNat) 3) - (S (30 + 3 * a.toNat) 0) := by rw [u2_eq, if_neg (fun e => absurd e.2 (by decide)), u2_eq, if_neg (fun e => absurd e.2 (by decide)), u2_eq, if_pos ⟨rfl, rfl⟩]
      have em : (u2 (u2 (u2 (u2 S 94 0 (S (30 + 3 * a.toNat) 2)) 94 2 ((S (30 + 3 * a.toNat) 3) - (S (30 + 3 * a.toNat) 0))) 94 3 0) 94 0 sg) 94 3 = 0 := by rw [u2_eq, if_neg (fun e => absurd e.2 (by decide)), u2_eq, if_pos ⟨rfl, rfl⟩]
      have ev : (uv V 95 (V ((30 + 3 * a.toNat) + 1))) 95 = V ((30 + 3 * a.toNat) + 1) := uv_s
      obtain ⟨w, hrun, S2, V2, hR, hP⟩ := x_settle (d := d) (g := 78) (t := 30 + 3 * r.toNat) (h := 94) (mode := mode) hR kq_78 (kd_reg (r := r.toNat) (by omega)) kq_94 (by rw [ep]; omega) (by rw [es]; first | omega | exact bb_01 _) (by rw [em]; omega) (by omega) (by rw [ev]; exact hm_a (by assumption)) (by rw [ev]; omega) (by rw [ec]; omega) (by rw [el, eg]; omega) (by rw [ed]; omega) (by rw [ep, el, ed, ev, ec, em]; exact fun _ _ => Or.inl rfl)
      rw [ep, el, eg, ed, ef, es, ec, em, ev] at hrun hP
      refine i_54_45 hobj (Nat.le_of_ble_eq_true rfl) hrun ?_
      refine i_54_48 ?_
      have eo : sMove (vS S) (vV V) r.toNat a.toNat sg mode = oR (S (30 + 3 * r.toNat) 0) (S 78 0) (S 78 1) (S 78 2) sg mode 0 (V ((30 + 3 * a.toNat) + 1)) ((S (30 + 3 * a.toNat) 3) - (S (30 + 3 * a.toNat) 0)) (S 78 3) := by clear hR; simp only [sMove, vS_153, vS_154, vS_155, vS_156, vS_17, vS_18, vS_19, vS_20, vV_r]; grind
      rw [eo]
      exact ⟨rfl, _, _, hR, cP_round hP (by first | omega | exact bb_01 _) (nC.up (nC.up (nC.up (nC.up nC.refl (by unfold cKeep; omega) (by omega)) (by unfold cKeep; omega) (by omega)) (by unfold cKeep; omega) (by omega)) (by unfold cKeep; omega) (by omega)) (nW.up nW.refl (by omega)) (by omega)⟩
    · refine i_54_8 (x := 30 + 3 * r.toNat) l1 ?_
      refine i_54_9 (x := 30 + 3 * a.toNat) l2 ?_
      refine i_54_10 (v := Value.int (Int32.ofInt (S (30 + 3 * a.toNat) 1))) (hR.k2 (kd_reg (r := a.toNat) (by omega))) rfl ?_
      refine i_54_13 (x := Int32.ofInt sg) l3 ?_
      have hobj := hR.k2 (kd_reg (r := r.toNat) (by omega))
      obtain ⟨w, hrun, hR⟩ := x_spec (d := d + 9) (t := 30 + 3 * r.toNat) (which := S (30 + 3 * a.toNat) 1) (sg := sg) hR (kd_reg (r := r.toNat) (by omega)) (by first | omega | exact bb_01 _)
      refine i_54_14 hobj (Nat.le_of_ble_eq_true rfl) hrun ?_
      refine i_54_17 ?_
      have eo : sMove (vS S) (vV V) r.toNat a.toNat sg mode = oS (S (30 + 3 * a.toNat) 1) (if S (30 + 3 * a.toNat) 1 = 0 then 0 else sg) (S 78 3) := by clear hR; simp only [sMove, vS_153, vS_154, vS_155, vS_156, vS_17, vS_18, vS_19, vS_20, vV_r]; grind
      rw [eo]
      exact ⟨rfl, _, _, hR, cP_sp2 (by first | omega | exact bb_01 _) (by first | decide | omega) (by intro hne; first | rfl | (rw [if_neg hne])) nC.refl nW.refl rfl (by omega)⟩
  obtain ⟨o, w', h1, rfl, h2⟩ := (key (lv_args 0 [Value.ref 93, Value.ref (30 + 3 * r.toNat), Value.ref (30 + 3 * a.toNat), Value.int (Int32.ofInt sg), Value.int (Int32.ofInt mode)]) rfl rfl rfl rfl rfl).run
  exact ⟨w', h1, h2⟩
end
