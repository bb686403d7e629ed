/-! extract, hypotenuse of the class -/
theorem rU_ge {p least gradual free x : Int} : x - p ≤ rU p least gradual free x := by
  unfold rU
  split <;> omega
theorem div_bd {X n B : Int} (hn : 1 ≤ n) (hB : 0 ≤ B) (h1 : -B ≤ X) (h2 : X ≤ B) : -B ≤ X / n ∧ X / n ≤ B := by
  have h3 := Int.mul_le_mul_of_nonneg_left hn hB
  constructor
  · rw [Int.le_ediv_iff_mul_le (by omega), Int.neg_mul]
    omega
  · refine Int.ediv_le_of_le_mul (by omega) ?_
    omega
theorem nC.rt {S S1 S2 : Nat → Nat → Int} {V V1 : Nat → Nat} {hr k P g : Nat} {lift E : Int} (hf : fS S V S1 V1 hr lift E k P g) (h1 : ∀ b j, b ≠ 79 → ¬ (b = 94 ∧ (j = 2 ∨ j = 3)) → S2 b j = S1 b j) (h2 : pwP S2) : nC S S2 :=
  ⟨fun b j hb => by unfold cKeep at hb; rw [h1 b j (by omega) (by omega)]; exact hf.1 b j (by omega) (by omega), by rw [h1 113 3 (by decide) (by decide)]; exact hf.1 113 3 (by decide) (by decide), fun _ => h2⟩
theorem nW.rt {S S1 : Nat → Nat → Int} {V V1 V2 : Nat → Nat} {hr k P g : Nat} {lift E : Int} (hf : fS S V S1 V1 hr lift E k P g) (h3 : ∀ i, i ≠ 80 → i ≠ 82 → i ≠ 84 → i ≠ 95 → i ≠ 104 → i ≠ 106 → V2 i = V1 i) : nW V V2 :=
  fun i i1 i2 => by rw [h3 i (by omega) (by omega) (by omega) (by omega) (by omega) (by omega)]; exact hf.2.2.2.2.2.2.2.2 i (by unfold scr; omega)
theorem nC.trans {S S1 S2 : Nat → Nat → Int} (h : nC S S1) (g : nC S1 S2) : nC S S2 := ⟨fun b j hb => (g.1 b j hb).trans (h.1 b j hb), h.2.trans g.2⟩
theorem nW.trans {V V1 V2 : Nat → Nat} (h : nW V V1) (g : nW V1 V2) : nW V V2 := fun i i1 i2 => (g i i1 i2).trans (h i i1 i2)
section
variable {w0 w : xW} {L Z : Nat} {S : Nat → Nat → Int} {V : Nat → Nat} {d h t r : Nat}
set_option maxHeartbeats 8000000 in
theorem x_extract {r a n mode : Int} (hR : cX w0 L Z S V w) (hI : cI S V) (hr : 0 ≤ r ∧ r ≤ 15) (ha : 0 ≤ a ∧ a ≤ 15) (hn : 1 ≤ n ∧ n ≤ 32) (hmo : 0 ≤ mode ∧ mode ≤ 4) : ∃ w', xRun (d + 10) 99 [Value.ref 93, Value.ref (30 + 3 * r.toNat), Value.ref (30 + 3 * a.toNat), Value.int (Int32.ofInt n), Value.int (Int32.ofInt mode)] w (.inl (some (.int (Int32.ofInt (sRoot (vS S) (vV V) r.toNat a.toNat n mode).2.2.2.2.1)))) w' ∧ ∃ S' V', cX w0 L Z S' V' w' ∧ cOut S S' V V' (30 + 3 * r.toNat) (sRoot (vS S) (vV V) r.toNat a.toNat n mode) := by
  have key : ∀ lv, xld lv 0 = some (Value.ref 93) → xld lv 1 = some (Value.ref (30 + 3 * r.toNat)) → xld lv 2 = some (Value.ref (30 + 3 * a.toNat)) → xld lv 3 = some (Value.int (Int32.ofInt n)) → xld lv 4 = some (Value.int (Int32.ofInt mode)) → xEv (d + 10) 99 0 lv [] w (fun o w' => o = .inl (some (.int (Int32.ofInt (sRoot (vS S) (vV V) r.toNat a.toNat n mode).2.2.2.2.1))) ∧ ∃ S' V', cX w0 L Z S' V' w' ∧ cOut S S' V V' (30 + 3 * r.toNat) (sRoot (vS S) (vV V) r.toNat a.toNat n mode)) := by
    intro lv l0 l1 l2 l3 l4
    obtain ⟨hp_r, hk_r, hn_r, ht_r, hx_r, hz_r⟩ := hI.1 r.toNat (by omega)
    obtain ⟨hp_a, hk_a, hn_a, ht_a, hx_a, hz_a⟩ := hI.1 a.toNat (by omega)
    have hi_l := hI.2.1
    have hi_g := hI.2.2.1
    have hm_a : S (30 + 3 * a.toNat) 1 = 3 → V (30 + 3 * a.toNat + 1) ≠ 0 := fun e => hI.nz (by omega) e
    have htm := tm2 n
    refine i_99_0 (x := 30 + 3 * a.toNat) l2 ?_
    refine i_99_1 (v := Value.int (Int32.ofInt (S (30 + 3 * a.toNat) 2))) (hR.k2 (kd_reg (r := a.toNat) (by omega))) rfl ?_
    refine i_99_4 rfl ?_
    refine lgen1 (i := 5) (v := Value.int (Int32.ofInt (S (30 + 3 * a.toNat) 2))) (fun lv lg ls => ?_)
    replace l0 := lg 0 _ rfl rfl l0
    replace l1 := lg 1 _ rfl rfl l1
    replace l2 := lg 2 _ rfl rfl l2
    replace l3 := lg 3 _ rfl rfl l3
    replace l4 := lg 4 _ rfl rfl l4
    have l5 := ls
    refine i_99_6 (x := 30 + 3 * a.toNat) l2 ?_
    refine i_99_7 (v := Value.int (Int32.ofInt (S (30 + 3 * a.toNat) 1))) (hR.k2 (kd_reg (r := a.toNat) (by omega))) rfl ?_
    refine i_99_10 (z_ne (a := S (30 + 3 * a.toNat) 1) ⟨by omega, by omega⟩ fun c0 => ?_) (z_eq (a := S (30 + 3 * a.toNat) 1) ⟨by omega, by omega⟩ fun c0 => ?_)
    · refine i_99_18 (x := Int32.ofInt (S (30 + 3 * a.toNat) 2)) l5 ?_
      refine i_99_20 (z_eq (a := S (30 + 3 * a.toNat) 2) ⟨by omega, by omega⟩ fun c1 => ?_) (z_ne (a := S (30 + 3 * a.toNat) 2) ⟨by omega, by omega⟩ fun c1 => ?_)
      · refine i_99_46 (x := 30 + 3 * a.toNat) l2 ?_
        refine i_99_47 (v := Value.int (Int32.ofInt (S (30 + 3 * a.toNat) 1))) (hR.k2 (kd_reg (r := a.toNat) (by omega))) rfl ?_
        refine i_99_50 ?_
        refine i_99_51 (b_eq (a := S (30 + 3 * a.toNat) 1) (b := 3) ⟨by omega, by omega⟩ ⟨by decide, by decide⟩ fun c2 => ?_) (b_ne (a := S (30 + 3 * a.toNat) 1) (b := 3) ⟨by omega, by omega⟩ ⟨by decide, by decide⟩ fun c2 => ?_)
        · try replace ht_a := ht_a.resolve_left (by omega)
          try replace hx_a := hx_a.resolve_left (by omega)
          refine i_99_65 (x := Int32.ofInt n) l3 ?_
          refine i_99_66 ?_
          refine i_99_67 (b_ne (a := n) (b := 1) ⟨by omega, by omega⟩ ⟨by decide, by decide⟩ fun c3 => ?_) (b_eq (a := n) (b := 1) ⟨by omega, by omega⟩ ⟨by decide, by decide⟩ fun c3 => ?_)
          · refine i_99_81 (x := 93) l0 ?_
            refine i_99_82 (v := Value.ref 101) (hR.k8 kq_93) rfl ?_
            refine i_99_85 (x := 30 + 3 * a.toNat) l2 ?_
            refine i_99_86 (v := Value.ref ((30 + 3 * a.toNat) + 1)) (hR.k2 (kd_reg (r := a.toNat) (by omega))) rfl ?_
            refine i_99_89 (x := 30 + 3 * a.toNat) l2 ?_
            refine i_99_90 (v := Value.int (Int32.ofInt (S (30 + 3 * a.toNat) 3))) (hR.k2 (kd_reg (r := a.toNat) (by omega))) rfl ?_
            refine i_99_93 (x := 30 + 3 * a.toNat) l2 ?_
            refine i_99_94 (v := Value.int (Int32.ofInt (S (30 + 3 * a.toNat) 0))) (hR.k2 (kd_reg (r := a.toNat) (by omega))) rfl ?_
            refine i_99_97 (c := Int32.ofInt ((S (30 + 3 * a.toNat) 3) - (S (30 + 3 * a.toNat) 0))) (o_sub (S (30 + 3 * a.toNat) 3) (S (30 + 3 * a.toNat) 0)) ?_
            refine i_99_98 (x := Int32.ofInt n) l3 ?_
            refine i_99_99 (x := 30 + 3 * r.toNat) l1 ?_
            refine i_99_100 (v := Value.int (Int32.ofInt (S (30 + 3 * r.toNat) 0))) (hR.k2 (kd_reg (r := r.toNat) (by omega))) rfl ?_
            obtain ⟨k, ek⟩ : ∃ k : Nat, n = (k : Int) + 1 := ⟨(n - 1).toNat, by omega⟩
            rw [ek]
            have hu0 := hm_a (by omega)
            have hpw : pwP S := hI.2.2.2.1
            obtain ⟨p, epn⟩ : ∃ p : Nat, S (30 + 3 * r.toNat) 0 = (p : Int) := ⟨(S (30 + 3 * r.toNat) 0).toNat, by omega⟩
            obtain ⟨Wd, hW⟩ : ∃ Wd : Nat, (Wd : Int) = (p : Int) / 32 + 2 := ⟨p / 32 + 2, by omega⟩
            obtain ⟨sl, esl⟩ : ∃ sl : Int, sl = (S (30 + 3 * a.toNat) 3) - (S (30 + 3 * a.toNat) 0) := ⟨_, rfl⟩
            have eu : V ((30 + 3 * a.toNat) + 1) = V ((30 + 3 * a.toNat) + 1) := rfl
            obtain ⟨EE, hE⟩ : ∃ EE, ((xbl (V ((30 + 3 * a.toNat) + 1)) : Int) + sl - 1) / ((k : Int) + 1) = EE := ⟨_, rfl⟩
            obtain ⟨lift, hl⟩ : ∃ lift, sl - ((k : Int) + 1) * EE = lift := ⟨_, rfl⟩
            have hd1 := Int.mul_ediv_add_emod ((xbl (V ((30 + 3 * a.toNat) + 1)) : Int) + sl - 1) ((k : Int) + 1)
            have hd2 := Int.emod_lt_of_pos ((xbl (V ((30 + 3 * a.toNat) + 1)) : Int) + sl - 1) (show 0 < (k : Int) + 1 by omega)
            have hd3 := Int.emod_nonneg ((xbl (V ((30 + 3 * a.toNat) + 1)) : Int) + sl - 1) (show (k : Int) + 1 ≠ 0 by omega)
            rw [hE] at hd1
            have bE := div_bd (X := (xbl (V ((30 + 3 * a.toNat) + 1)) : Int) + sl - 1) (n := (k : Int) + 1) (B := 140000) (by omega) (by decide) (by omega) (by omega)
            rw [hE] at bE
            obtain ⟨x1, x2⟩ := rXY (s := V ((30 + 3 * a.toNat) + 1)) (n := k + 1) (lift := lift) hu0 (by omega) (by omega)
            have hobj := hR.k9 kq_101
            obtain ⟨w, hrun, S1, V1, g, hR, hf, ho⟩ := x_find (d := d + 2) (hr := (30 + 3 * a.toNat) + 1) (scale := sl) (k := k) (p := S (30 + 3 * r.toNat) 0) (Wd := Wd) (E := EE) (lift := lift) hR (kd_rem (r := a.toNat) (by omega)) (by unfold scr; omega) hpw (by omega) (by rw [eu]; exact hu0) (by rw [eu]; omega) ⟨by omega, by omega⟩ (by rw [eu]; exact hE) hl (by rw [eu]; omega) (by rw [eu]; omega) ⟨by omega, by omega⟩ (by rw [epn]; exact hW)
            rw [esl] at hrun
            rw [eu] at ho
            refine i_99_103 hobj (Nat.le_of_ble_eq_true rfl) hrun ?_
            refine i_99_106 (x := 93) l0 ?_
            refine i_99_107 (v := Value.ref 101) (hR.k8 kq_93) rfl ?_
            refine i_99_110 (x := 30 + 3 * r.toNat) l1 ?_
            refine i_99_111 (v := Value.int (Int32.ofInt (S1 (30 + 3 * r.toNat) 0))) (hR.k2 (kd_reg (r := r.toNat) (by omega))) rfl ?_
            rw [(hf.1 (30 + 3 * r.toNat) 0 (by omega) (by omega))]
            refine i_99_114 (x := 93) l0 ?_
            refine i_99_115 (v := Value.ref 94) (hR.k8 kq_93) rfl ?_
            have hobj := hR.k9 kq_101
            obtain ⟨w, hrun, S2, V2, hR, hRt, h1, h2, h3, hb95⟩ := x_decide (d := d + 2) (p := p) hR hf (by rw [eu]; exact ho) (by rw [eu]; exact x1) (by rw [eu]; exact x2) (kd_rem (r := a.toNat) (by omega)) (by unfold scr; omega) (by omega) (by omega) (by rw [eu]; exact hu0) (by rw [eu]; omega) (by omega) ⟨by omega, by omega⟩ hW ⟨by omega, by omega⟩
            rw [← epn] at hrun
            rw [eu] at hRt
            have hnc := nC.rt hf h1 h2
            have hnw := nW.rt hf h3
            obtain ⟨hrn, hMb⟩ := root_n (S := vS S) (r := r.toNat) (p := p) (k := k) (v := V ((30 + 3 * a.toNat) + 1)) (e := sl) (E := EE) (lift := lift) (sg := S (30 + 3 * a.toNat) 2) (mode := mode) epn hu0 hE hl x1 hRt
            have hmo2 : S2 94 3 = 0 ∨ S2 94 3 = 1 := by obtain ⟨_, _, _, _, _, _, q⟩ := hRt; exact q
            have hM0 : V2 95 ≠ 0 := by intro e; rw [e] at hMb; have : xbl 0 = 0 := rfl; omega
            have hscb : -200000 ≤ S2 94 2 ∧ S2 94 2 ≤ 200000 := by obtain ⟨kk, c, q1, q2, q3, q4, q5⟩ := hRt; have := q3.ge (rY_pos _) x1; have h8 := xbl_ge this; rw [← q2, xbl_div] at h8; omega
            have z0 : S2 (30 + 3 * r.toNat) 0 = S (30 + 3 * r.toNat) 0 := (hnc.1 (30 + 3 * r.toNat) 0 (by unfold cKeep; omega)).trans rfl
            have z1 : S2 (78) 0 = S (78) 0 := (hnc.1 (78) 0 (by unfold cKeep; omega)).trans rfl
            have z2 : S2 (78) 1 = S (78) 1 := (hnc.1 (78) 1 (by unfold cKeep; omega)).trans rfl
            have z3 : S2 (78) 2 = S (78) 2 := (hnc.1 (78) 2 (by unfold cKeep; omega)).trans rfl
            have z4 : S2 (78) 3 = S (78) 3 := (hnc.1 (78) 3 (by unfold cKeep; omega)).trans rfl
            refine i_99_118 hobj (Nat.le_of_ble_eq_true rfl) hrun ?_
            refine i_99_121 (x := 93) l0 ?_
            refine i_99_122 (v := Value.ref 94) (hR.k8 kq_93) rfl ?_
            refine i_99_125 (x := Int32.ofInt (S (30 + 3 * a.toNat) 2)) l5 ?_
            refine i_99_127 (fs2 := f4 94 (u1 (S2 94) 0 (S (30 + 3 * a.toNat) 2))) (hR.k4 kq_94) (o_bool (by omega)) (Nat.le_of_ble_eq_true rfl) rfl (h7k kq_94 (by decide)) ?_
            refine xgen (P := cX w0 L Z (u2 S2 94 0 (S (30 + 3 * a.toNat) 2)) V2) (hR.p4 kq_94) (fun w hR => ?_)
            refine i_99_130 (x := 93) l0 ?_
            refine i_99_131 (v := Value.ref 78) (hR.k8 kq_93) rfl ?_
            refine i_99_134 (x := 30 + 3 * r.toNat) l1 ?_
            refine i_99_135 (x := 93) l0 ?_
            refine i_99_136 (v := Value.ref 94) (hR.k8 kq_93) rfl ?_
            refine i_99_139 (x := Int32.ofInt mode) l4 ?_
            have hobj := hR.k1 kq_78
            have ep : (u2 S2 94 0 (S (30 + 3 * a.toNat) 2)) (30 + 3 * r.toNat) 0 = S2 (30 + 3 * r.toNat) 0 := by rw [u2_eq, if_neg (fun e => absurd e.1 (by omega))]
            have el : (u2 S2 94 0 (S (30 + 3 * a.toNat) 2)) 78 0 = S2 78 0 := by rw [u2_eq, if_neg (fun e => absurd e.1 (by decide))]
            have eg : (u2 S2 94 0 (S (30 + 3 * a.toNat) 2)) 78 1 = S2 78 1 := by rw [u2_eq, if_neg (fun e => absurd e.2 (by decide))]
            have ed : (u2 S2 94 0 (S (30 + 3 * a.toNat) 2)) 78 2 = S2 78 2 := by rw [u2_eq, if_neg (fun e => absurd e.2 (by decide))]
            have ef : (u2 S2 94 0 (S (30 + 3 * a.toNat) 2)) 78 3 = S2 78 3 := by rw [u2_eq, if_neg (fun e => absurd e.2 (by decide))]
            have es : (u2 S2 94 0 (S (30 + 3 * a.toNat) 2)) 94 0 = S (30 + 3 * a.toNat) 2 := by rw [u2_eq, if_pos ⟨rfl, rfl⟩]
            have ec : (u2 S2 94 0 (S (30 + 3 * a.toNat) 2)) 94 2 = S2 94 2 := by rw [u2_eq, if_neg (fun e => absurd e.2 (by decide))]
            have em : (u2 S2 94 0 (S (30 + 3 * a.toNat) 2)) 94 3 = S2 94 3 := by rw [u2_eq, if_neg (fun e => absurd e.2 (by decide))]
            have ev : V2 95 = V2 95 := rfl
            obtain ⟨w, hrun, S5, V5, hR, hP⟩ := x_settle (d := d) (g := 78) (t := 30 + 3 * r.toNat) (h := 94) (mode := mode) hR kq_78 (kd_reg (r := r.toNat) (by omega)) kq_94 (by rw [ep]; omega) (by rw [es]; first | omega | exact bb_01 _) (by rw [em]; omega) (by omega) (by rw [ev]; first | exact hM0 | exact hm_a (by assumption)) (by rw [ev]; omega) (by rw [ec]; omega) (by rw [el, eg]; omega) (by rw [ed]; omega) (by rw [ep, el, ed, ev, ec, em]; first | exact fun _ _ => Or.inl rfl | (intro u hu; right; have := rU_ge (p := S2 (30 + 3 * r.toNat) 0) (least := S2 78 0) (gradual := S2 78 2) (free := 0) (x := (xbl (V2 95) : Int) + S2 94 2); rw [← hu] at this; omega))
            rw [ep, el, eg, ed, ef, es, ec, em, ev] at hrun hP
            rw [z0, z1, z2, z3, z4] at hrun hP
            refine i_99_141 hobj (Nat.le_of_ble_eq_true rfl) hrun ?_
            refine i_99_144 ?_
            have eo : sRoot (vS S) (vV V) r.toNat a.toNat ((k : Int) + 1) mode = oR (S (30 + 3 * r.toNat) 0) (S 78 0) (S 78 1) (S 78 2) (S (30 + 3 * a.toNat) 2) mode (S2 94 3) (V2 95) (S2 94 2) (S 78 3) := by
              refine Eq.trans ?_ hrn
              rw [esl]
              simp only [sRoot, vS_153, vS_154, vS_155, vS_156, vS_17, vS_18, vS_19, vS_20, vV_r]
              rw [if_neg (by omega), if_neg (by have := tm2 n; omega), if_neg (by omega)]
            rw [eo]
            exact ⟨rfl, _, _, hR, cP_round hP (by omega) (hnc.up (by unfold cKeep; omega) (by omega)) hnw (by omega)⟩
          · refine i_99_70 (x := 93) l0 ?_
            refine i_99_71 (v := Value.ref 94) (hR.k8 kq_93) rfl ?_
            refine i_99_74 (x := 30 + 3 * a.toNat) l2 ?_
            have hobj := hR.k4 kq_94
            have ep : S (30 + 3 * a.toNat) 0 = S (30 + 3 * a.toNat) 0 := rfl
            have en : S (30 + 3 * a.toNat) 2 = S (30 + 3 * a.toNat) 2 := rfl
            have ex : S (30 + 3 * a.toNat) 3 = S (30 + 3 * a.toNat) 3 := rfl
            have ev : V ((30 + 3 * a.toNat) + 1) = V ((30 + 3 * a.toNat) + 1) := rfl
            obtain ⟨w, hrun, hR⟩ := x_tn (d := d + 5) (h := 94) (t := 30 + 3 * a.toNat) hR kq_94 (kd_reg (r := a.toNat) (by omega)) (by rw [en]; omega) (by rw [ev]; omega)
            rw [ep, en, ex, ev] at hR
            refine i_99_75 hobj (Nat.le_of_ble_eq_true rfl) hrun ?_
            refine i_99_78 ?_
            refine i_99_121 (x := 93) l0 ?_
            refine i_99_122 (v := Value.ref 94) (hR.k8 kq_93) rfl ?_
            refine i_99_125 (x := Int32.ofInt (S (30 + 3 * a.toNat) 2)) l5 ?_
            refine i_99_127 (fs2 := f4 94 (u1 ((u2 (u2 (u2 S 94 0 (S (30 + 3 * a.toNat) 2)) 94 2 ((S (30 + 3 * a.toNat) 3) - (S (30 + 3 * a.toNat) 0))) 94 3 0) 94) 0 (S (30 + 3 * a.toNat) 2))) (hR.k4 kq_94) (o_bool (by omega)) (Nat.le_of_ble_eq_true rfl) rfl (h7k kq_94 (by decide)) ?_
            refine xgen (P := cX w0 L Z (u2 (u2 (u2 (u2 S 94 0 (S (30 + 3 * a.toNat) 2)) 94 2 ((S (30 + 3 * a.toNat) 3) - (S (30 + 3 * a.toNat) 0))) 94 3 0) 94 0 (S (30 + 3 * a.toNat) 2)) (uv V 95 (V ((30 + 3 * a.toNat) + 1)))) (hR.p4 kq_94) (fun w hR => ?_)
            refine i_99_130 (x := 93) l0 ?_
            refine i_99_131 (v := Value.ref 78) (hR.k8 kq_93) rfl ?_
            refine i_99_134 (x := 30 + 3 * r.toNat) l1 ?_
            refine i_99_135 (x := 93) l0 ?_
            refine i_99_136 (v := Value.ref 94) (hR.k8 kq_93) rfl ?_
            refine i_99_139 (x := Int32.ofInt mode) l4 ?_
            have hobj := hR.k1 kq_78
            have ep : (u2 (u2 (u2 (u2 S 94 0 (S (30 + 3 * a.toNat) 2)) 94 2 ((S (30 + 3 * a.toNat) 3) - (S (30 + 3 * a.toNat) 0))) 94 3 0) 94 0 (S (30 + 3 * a.toNat) 2)) (30 + 3 * r.toNat) 0 = S (30 + 3 * r.toNat) 0 := by rw [u2_eq, if_neg (fun e => absurd e.1 (by omega)), u2_eq, if_neg (fun e => absurd e.2 (by decide)), u2_eq, if_neg (fun e => absurd e.2 (by decide)), u2_eq, if_neg (fun e => absurd e.1 (by omega))]
            have el : (u2 (u2 (u2 (u2 S 94 0 (S (30 + 3 * a.toNat) 2)) 94 2 ((S (30 + 3 * a.toNat) 3) - (S (30 + 3 * a.toNat) 0))) 94 3 0) 94 0 (S (30 + 3 * a.toNat) 2)) 78 0 = S 78 0 := by rw [u2_eq, if_neg (fun e => absurd e.1 (by decide)), u2_eq, if_neg (fun e => absurd e.2 (by decide)), u2_eq, if_neg (fun e => absurd e.2 (by decide)), u2_eq, if_neg (fun e => absurd e.1 (by decide))]
            have eg : (u2 (u2 (u2 (u2 S 94 0 (S (30 + 3 * a.toNat) 2)) 94 2 ((S (30 + 3 * a.toNat) 3) - (S (30 + 3 * a.toNat) 0))) 94 3 0) 94 0 (S (30 + 3 * a.toNat) 2)) 78 1 = S 78 1 := by rw [u2_eq, if_neg (fun e => absurd e.2 (by decide)), u2_eq, if_neg (fun e => absurd e.2 (by decide)), u2_eq, if_neg (fun e => absurd e.2 (by decide)), u2_eq, if_neg (fun e => absurd e.2 (by decide))]
            have ed : (u2 (u2 (u2 (u2 S 94 0 (S (30 + 3 * a.toNat) 2)) 94 2 ((S (30 + 3 * a.toNat) 3) - (S (30 + 3 * a.toNat) 0))) 94 3 0) 94 0 (S (30 + 3 * a.toNat) 2)) 78 2 = S 78 2 := by rw [u2_eq, if_neg (fun e => absurd e.2 (by decide)), u2_eq, if_neg (fun e => absurd e.2 (by decide)), u2_eq, if_neg (fun e => absurd e.1 (by decide)), u2_eq, if_neg (fun e => absurd e.2 (by decide))]
            have ef : (u2 (u2 (u2 (u2 S 94 0 (S (30 + 3 * a.toNat) 2)) 94 2 ((S (30 + 3 * a.toNat) 3) - (S (30 + 3 * a.toNat) 0))) 94 3 0) 94 0 (S (30 + 3 * a.toNat) 2)) 78 3 = S 78 3 := by rw [u2_eq, if_neg (fun e => absurd e.2 (by decide)), u2_eq, if_neg (fun e => absurd e.1 (by decide)), u2_eq, if_neg (fun e => absurd e.2 (by decide)), u2_eq, if_neg (fun e => absurd e.2 (by decide))]
            have es : (u2 (u2 (u2 (u2 S 94 0 (S (30 + 3 * a.toNat) 2)) 94 2 ((S (30 + 3 * a.toNat) 3) - (S (30 + 3 * a.toNat) 0))) 94 3 0) 94 0 (S (30 + 3 * a.toNat) 2)) 94 0 = S (30 + 3 * a.toNat) 2 := by rw [u2_eq, if_pos ⟨rfl, rfl⟩]
            have ec : (u2 (u2 (u2 (u2 S 94 0 (S (30 + 3 * a.toNat) 2)) 94 2 ((S (30 + 3 * a.toNat) 3) - (S (30 + 3 * a.toNat) 0))) 94 3 0) 94 0 (S (30 + 3 * a.toNat) 2)) 94 2 = (S (30 + 3 * a.toNat) 3) - (S (30 + 3 * a.toNat) 0) := by rw [u2_eq, if_neg (fun e => absurd e.2 (by decide)), u2_eq, if_neg (fun e => absurd e.2 (by decide)), u2_eq, if_pos ⟨rfl, rfl⟩]
            have em : (u2 (u2 (u2 (u2 S 94 0 (S (30 + 3 * a.toNat) 2)) 94 2 ((S (30 + 3 * a.toNat) 3) - (S (30 + 3 * a.toNat) 0))) 94 3 0) 94 0 (S (30 + 3 * a.toNat) 2)) 94 3 = 0 := by rw [u2_eq, if_neg (fun e => absurd e.2 (by decide)), u2_eq, if_pos ⟨rfl, rfl⟩]
            have ev : (uv V 95 (V ((30 + 3 * a.toNat) + 1))) 95 = V ((30 + 3 * a.toNat) + 1) := uv_s
            obtain ⟨w, hrun, S6, V6, hR, hP⟩ := x_settle (d := d) (g := 78) (t := 30 + 3 * r.toNat) (h := 94) (mode := mode) hR kq_78 (kd_reg (r := r.toNat) (by omega)) kq_94 (by rw [ep]; omega) (by rw [es]; first | omega | exact bb_01 _) (by rw [em]; omega) (by omega) (by rw [ev]; first | exact hM0 | exact hm_a (by assumption)) (by rw [ev]; omega) (by rw [ec]; omega) (by rw [el, eg]; omega) (by rw [ed]; omega) (by rw [ep, el, ed, ev, ec, em]; first | exact fun _ _ => Or.inl rfl | (intro u hu; right; have := rU_ge (p := S2 (30 + 3 * r.toNat) 0) (least := S2 78 0) (gradual := S2 78 2) (free := 0) (x := (xbl (V2 95) : Int) + S2 94 2); rw [← hu] at this; omega))
            rw [ep, el, eg, ed, ef, es, ec, em, ev] at hrun hP
            refine i_99_141 hobj (Nat.le_of_ble_eq_true rfl) hrun ?_
            refine i_99_144 ?_
            have eo : sRoot (vS S) (vV V) r.toNat a.toNat n mode = oR (S (30 + 3 * r.toNat) 0) (S 78 0) (S 78 1) (S 78 2) (S (30 + 3 * a.toNat) 2) mode 0 (V ((30 + 3 * a.toNat) + 1)) ((S (30 + 3 * a.toNat) 3) - (S (30 + 3 * a.toNat) 0)) (S 78 3) := by
              clear hR hP
              simp only [sRoot, vS_153, vS_154, vS_155, vS_156, vS_17, vS_18, vS_19, vS_20, vV_r]
              rw [if_neg (by omega), if_neg (by omega), if_neg (by omega), show n = 1 by omega, root_1 (hm_a (by omega))]
              rfl
            rw [eo]
            exact ⟨rfl, _, _, hR, cP_round hP (by omega) (nC.up (nC.up (nC.up (nC.up nC.refl (by unfold cKeep; omega) (by omega)) (by unfold cKeep; omega) (by omega)) (by unfold cKeep; omega) (by omega)) (by unfold cKeep; omega) (by omega)) (nW.up nW.refl (by omega)) (by omega)⟩
        · refine i_99_54 (x := 30 + 3 * r.toNat) l1 ?_
          refine i_99_55 (x := 30 + 3 * a.toNat) l2 ?_
          refine i_99_56 (v := Value.int (Int32.ofInt (S (30 + 3 * a.toNat) 1))) (hR.k2 (kd_reg (r := a.toNat) (by omega))) rfl ?_
          refine i_99_59 (x := Int32.ofInt (S (30 + 3 * a.toNat) 2)) l5 ?_
          have hobj := hR.k2 (kd_reg (r := r.toNat) (by omega))
          obtain ⟨w, hrun, hR⟩ := x_spec (d := d + 9) (t := 30 + 3 * r.toNat) (which := S (30 + 3 * a.toNat) 1) (sg := S (30 + 3 * a.toNat) 2) hR (kd_reg (r := r.toNat) (by omega)) (by first | omega | exact bb_01 _)
          refine i_99_61 hobj (Nat.le_of_ble_eq_true rfl) hrun ?_
          refine i_99_64 ?_
          have eo : sRoot (vS S) (vV V) r.toNat a.toNat n mode = oS (S (30 + 3 * a.toNat) 1) (S (30 + 3 * a.toNat) 2) (S 78 3) := by clear hR; simp only [sRoot, vS_153, vS_154, vS_155, vS_156, vS_17, vS_18, vS_19, vS_20, vV_r]; grind
          rw [eo]
          exact ⟨rfl, _, _, hR, cP_special (by first | omega | exact bb_01 _) (by omega) nC.refl nW.refl rfl (by omega)⟩
      · refine i_99_23 (x := Int32.ofInt n) l3 ?_
        refine i_99_24 ?_
        refine i_99_25 (c := Int32.ofInt (Int.tmod n 2)) (o_nz (b := 2) ⟨by decide, by decide⟩) (o_tmod (a := n) (b := 2) ⟨by omega, by omega⟩ ⟨by decide, by decide⟩) ?_
        refine i_99_26 (z_ne (a := Int.tmod n 2) ⟨by omega, by omega⟩ fun c6 => ?_) (z_eq (a := Int.tmod n 2) ⟨by omega, by omega⟩ fun c6 => ?_)
        · refine i_99_46 (x := 30 + 3 * a.toNat) l2 ?_
          refine i_99_47 (v := Value.int (Int32.ofInt (S (30 + 3 * a.toNat) 1))) (hR.k2 (kd_reg (r := a.toNat) (by omega))) rfl ?_
          refine i_99_50 ?_
          refine i_99_51 (b_eq (a := S (30 + 3 * a.toNat) 1) (b := 3) ⟨by omega, by omega⟩ ⟨by decide, by decide⟩ fun c7 => ?_) (b_ne (a := S (30 + 3 * a.toNat) 1) (b := 3) ⟨by omega, by omega⟩ ⟨by decide, by decide⟩ fun c7 => ?_)
          · try replace ht_a := ht_a.resolve_left (by omega)
            try replace hx_a := hx_a.resolve_left (by omega)
            refine i_99_65 (x := Int32.ofInt n) l3 ?_
            refine i_99_66 ?_
            refine i_99_67 (b_ne (a := n) (b := 1) ⟨by omega, by omega⟩ ⟨by decide, by decide⟩ fun c8 => ?_) (b_eq (a := n) (b := 1) ⟨by omega, by omega⟩ ⟨by decide, by decide⟩ fun c8 => ?_)
            · refine i_99_81 (x := 93) l0 ?_
              refine i_99_82 (v := Value.ref 101) (hR.k8 kq_93) rfl ?_
              refine i_99_85 (x := 30 + 3 * a.toNat) l2 ?_
              refine i_99_86 (v := Value.ref ((30 + 3 * a.toNat) + 1)) (hR.k2 (kd_reg (r := a.toNat) (by omega))) rfl ?_
              refine i_99_89 (x := 30 + 3 * a.toNat) l2 ?_
              refine i_99_90 (v := Value.int (Int32.ofInt (S (30 + 3 * a.toNat) 3))) (hR.k2 (kd_reg (r := a.toNat) (by omega))) rfl ?_
              refine i_99_93 (x := 30 + 3 * a.toNat) l2 ?_
              refine i_99_94 (v := Value.int (Int32.ofInt (S (30 + 3 * a.toNat) 0))) (hR.k2 (kd_reg (r := a.toNat) (by omega))) rfl ?_
              refine i_99_97 (c := Int32.ofInt ((S (30 + 3 * a.toNat) 3) - (S (30 + 3 * a.toNat) 0))) (o_sub (S (30 + 3 * a.toNat) 3) (S (30 + 3 * a.toNat) 0)) ?_
              refine i_99_98 (x := Int32.ofInt n) l3 ?_
              refine i_99_99 (x := 30 + 3 * r.toNat) l1 ?_
              refine i_99_100 (v := Value.int (Int32.ofInt (S (30 + 3 * r.toNat) 0))) (hR.k2 (kd_reg (r := r.toNat) (by omega))) rfl ?_
              obtain ⟨k, ek⟩ : ∃ k : Nat, n = (k : Int) + 1 := ⟨(n - 1).toNat, by omega⟩
              rw [ek]
              have hu0 := hm_a (by omega)
              have hpw : pwP S := hI.2.2.2.1
              obtain ⟨p, epn⟩ : ∃ p : Nat, S (30 + 3 * r.toNat) 0 = (p : Int) := ⟨(S (30 + 3 * r.toNat) 0).toNat, by omega⟩
              obtain ⟨Wd, hW⟩ : ∃ Wd : Nat, (Wd : Int) = (p : Int) / 32 + 2 := ⟨p / 32 + 2, by omega⟩
              obtain ⟨sl, esl⟩ : ∃ sl : Int, sl = (S (30 + 3 * a.toNat) 3) - (S (30 + 3 * a.toNat) 0) := ⟨_, rfl⟩
              have eu : V ((30 + 3 * a.toNat) + 1) = V ((30 + 3 * a.toNat) + 1) := rfl
              obtain ⟨EE, hE⟩ : ∃ EE, ((xbl (V ((30 + 3 * a.toNat) + 1)) : Int) + sl - 1) / ((k : Int) + 1) = EE := ⟨_, rfl⟩
              obtain ⟨lift, hl⟩ : ∃ lift, sl - ((k : Int) + 1) * EE = lift := ⟨_, rfl⟩
              have hd1 := Int.mul_ediv_add_emod ((xbl (V ((30 + 3 * a.toNat) + 1)) : Int) + sl - 1) ((k : Int) + 1)
              have hd2 := Int.emod_lt_of_pos ((xbl (V ((30 + 3 * a.toNat) + 1)) : Int) + sl - 1) (show 0 < (k : Int) + 1 by omega)
              have hd3 := Int.emod_nonneg ((xbl (V ((30 + 3 * a.toNat) + 1)) : Int) + sl - 1) (show (k : Int) + 1 ≠ 0 by omega)
              rw [hE] at hd1
              have bE := div_bd (X := (xbl (V ((30 + 3 * a.toNat) + 1)) : Int) + sl - 1) (n := (k : Int) + 1) (B := 140000) (by omega) (by decide) (by omega) (by omega)
              rw [hE] at bE
              obtain ⟨x1, x2⟩ := rXY (s := V ((30 + 3 * a.toNat) + 1)) (n := k + 1) (lift := lift) hu0 (by omega) (by omega)
              have hobj := hR.k9 kq_101
              obtain ⟨w, hrun, S1, V1, g, hR, hf, ho⟩ := x_find (d := d + 2) (hr := (30 + 3 * a.toNat) + 1) (scale := sl) (k := k) (p := S (30 + 3 * r.toNat) 0) (Wd := Wd) (E := EE) (lift := lift) hR (kd_rem (r := a.toNat) (by omega)) (by unfold scr; omega) hpw (by omega) (by rw [eu]; exact hu0) (by rw [eu]; omega) ⟨by omega, by omega⟩ (by rw [eu]; exact hE) hl (by rw [eu]; omega) (by rw [eu]; omega) ⟨by omega, by omega⟩ (by rw [epn]; exact hW)
              rw [esl] at hrun
              rw [eu] at ho
              refine i_99_103 hobj (Nat.le_of_ble_eq_true rfl) hrun ?_
              refine i_99_106 (x := 93) l0 ?_
              refine i_99_107 (v := Value.ref 101) (hR.k8 kq_93) rfl ?_
              refine i_99_110 (x := 30 + 3 * r.toNat) l1 ?_
              refine i_99_111 (v := Value.int (Int32.ofInt (S1 (30 + 3 * r.toNat) 0))) (hR.k2 (kd_reg (r := r.toNat) (by omega))) rfl ?_
              rw [(hf.1 (30 + 3 * r.toNat) 0 (by omega) (by omega))]
              refine i_99_114 (x := 93) l0 ?_
              refine i_99_115 (v := Value.ref 94) (hR.k8 kq_93) rfl ?_
              have hobj := hR.k9 kq_101
              obtain ⟨w, hrun, S2, V2, hR, hRt, h1, h2, h3, hb95⟩ := x_decide (d := d + 2) (p := p) hR hf (by rw [eu]; exact ho) (by rw [eu]; exact x1) (by rw [eu]; exact x2) (kd_rem (r := a.toNat) (by omega)) (by unfold scr; omega) (by omega) (by omega) (by rw [eu]; exact hu0) (by rw [eu]; omega) (by omega) ⟨by omega, by omega⟩ hW ⟨by omega, by omega⟩
              rw [← epn] at hrun
              rw [eu] at hRt
              have hnc := nC.rt hf h1 h2
              have hnw := nW.rt hf h3
              obtain ⟨hrn, hMb⟩ := root_n (S := vS S) (r := r.toNat) (p := p) (k := k) (v := V ((30 + 3 * a.toNat) + 1)) (e := sl) (E := EE) (lift := lift) (sg := S (30 + 3 * a.toNat) 2) (mode := mode) epn hu0 hE hl x1 hRt
              have hmo2 : S2 94 3 = 0 ∨ S2 94 3 = 1 := by obtain ⟨_, _, _, _, _, _, q⟩ := hRt; exact q
              have hM0 : V2 95 ≠ 0 := by intro e; rw [e] at hMb; have : xbl 0 = 0 := rfl; omega
              have hscb : -200000 ≤ S2 94 2 ∧ S2 94 2 ≤ 200000 := by obtain ⟨kk, c, q1, q2, q3, q4, q5⟩ := hRt; have := q3.ge (rY_pos _) x1; have h8 := xbl_ge this; rw [← q2, xbl_div] at h8; omega
              have z0 : S2 (30 + 3 * r.toNat) 0 = S (30 + 3 * r.toNat) 0 := (hnc.1 (30 + 3 * r.toNat) 0 (by unfold cKeep; omega)).trans rfl
              have z1 : S2 (78) 0 = S (78) 0 := (hnc.1 (78) 0 (by unfold cKeep; omega)).trans rfl
              have z2 : S2 (78) 1 = S (78) 1 := (hnc.1 (78) 1 (by unfold cKeep; omega)).trans rfl
              have z3 : S2 (78) 2 = S (78) 2 := (hnc.1 (78) 2 (by unfold cKeep; omega)).trans rfl
              have z4 : S2 (78) 3 = S (78) 3 := (hnc.1 (78) 3 (by unfold cKeep; omega)).trans rfl
              refine i_99_118 hobj (Nat.le_of_ble_eq_true rfl) hrun ?_
              refine i_99_121 (x := 93) l0 ?_
              refine i_99_122 (v := Value.ref 94) (hR.k8 kq_93) rfl ?_
              refine i_99_125 (x := Int32.ofInt (S (30 + 3 * a.toNat) 2)) l5 ?_
              refine i_99_127 (fs2 := f4 94 (u1 (S2 94) 0 (S (30 + 3 * a.toNat) 2))) (hR.k4 kq_94) (o_bool (by omega)) (Nat.le_of_ble_eq_true rfl) rfl (h7k kq_94 (by decide)) ?_
              refine xgen (P := cX w0 L Z (u2 S2 94 0 (S (30 + 3 * a.toNat) 2)) V2) (hR.p4 kq_94) (fun w hR => ?_)
              refine i_99_130 (x := 93) l0 ?_
              refine i_99_131 (v := Value.ref 78) (hR.k8 kq_93) rfl ?_
              refine i_99_134 (x := 30 + 3 * r.toNat) l1 ?_
              refine i_99_135 (x := 93) l0 ?_
              refine i_99_136 (v := Value.ref 94) (hR.k8 kq_93) rfl ?_
              refine i_99_139 (x := Int32.ofInt mode) l4 ?_
              have hobj := hR.k1 kq_78
              have ep : (u2 S2 94 0 (S (30 + 3 * a.toNat) 2)) (30 + 3 * r.toNat) 0 = S2 (30 + 3 * r.toNat) 0 := by rw [u2_eq, if_neg (fun e => absurd e.1 (by omega))]
              have el : (u2 S2 94 0 (S (30 + 3 * a.toNat) 2)) 78 0 = S2 78 0 := by rw [u2_eq, if_neg (fun e => absurd e.1 (by decide))]
              have eg : (u2 S2 94 0 (S (30 + 3 * a.toNat) 2)) 78 1 = S2 78 1 := by rw [u2_eq, if_neg (fun e => absurd e.2 (by decide))]
              have ed : (u2 S2 94 0 (S (30 + 3 * a.toNat) 2)) 78 2 = S2 78 2 := by rw [u2_eq, if_neg (fun e => absurd e.2 (by decide))]
              have ef : (u2 S2 94 0 (S (30 + 3 * a.toNat) 2)) 78 3 = S2 78 3 := by rw [u2_eq, if_neg (fun e => absurd e.2 (by decide))]
              have es : (u2 S2 94 0 (S (30 + 3 * a.toNat) 2)) 94 0 = S (30 + 3 * a.toNat) 2 := by rw [u2_eq, if_pos ⟨rfl, rfl⟩]
              have ec : (u2 S2 94 0 (S (30 + 3 * a.toNat) 2)) 94 2 = S2 94 2 := by rw [u2_eq, if_neg (fun e => absurd e.2 (by decide))]
              have em : (u2 S2 94 0 (S (30 + 3 * a.toNat) 2)) 94 3 = S2 94 3 := by rw [u2_eq, if_neg (fun e => absurd e.2 (by decide))]
              have ev : V2 95 = V2 95 := rfl
              obtain ⟨w, hrun, S10, V10, hR, hP⟩ := x_settle (d := d) (g := 78) (t := 30 + 3 * r.toNat) (h := 94) (mode := mode) hR kq_78 (kd_reg (r := r.toNat) (by omega)) kq_94 (by rw [ep]; omega) (by rw [es]; first | omega | exact bb_01 _) (by rw [em]; omega) (by omega) (by rw [ev]; first | exact hM0 | exact hm_a (by assumption)) (by rw [ev]; omega) (by rw [ec]; omega) (by rw [el, eg]; omega) (by rw [ed]; omega) (by rw [ep, el, ed, ev, ec, em]; first | exact fun _ _ => Or.inl rfl | (intro u hu; right; have := rU_ge (p := S2 (30 + 3 * r.toNat) 0) (least := S2 78 0) (gradual := S2 78 2) (free := 0) (x := (xbl (V2 95) : Int) + S2 94 2); rw [← hu] at this; omega))
              rw [ep, el, eg, ed, ef, es, ec, em, ev] at hrun hP
              rw [z0, z1, z2, z3, z4] at hrun hP
              refine i_99_141 hobj (Nat.le_of_ble_eq_true rfl) hrun ?_
              refine i_99_144 ?_
              have eo : sRoot (vS S) (vV V) r.toNat a.toNat ((k : Int) + 1) mode = oR (S (30 + 3 * r.toNat) 0) (S 78 0) (S 78 1) (S 78 2) (S (30 + 3 * a.toNat) 2) mode (S2 94 3) (V2 95) (S2 94 2) (S 78 3) := by
                refine Eq.trans ?_ hrn
                rw [esl]
                simp only [sRoot, vS_153, vS_154, vS_155, vS_156, vS_17, vS_18, vS_19, vS_20, vV_r]
                rw [if_neg (by omega), if_neg (by have := tm2 n; omega), if_neg (by omega)]
              rw [eo]
              exact ⟨rfl, _, _, hR, cP_round hP (by omega) (hnc.up (by unfold cKeep; omega) (by omega)) hnw (by omega)⟩
            · refine i_99_70 (x := 93) l0 ?_
              refine i_99_71 (v := Value.ref 94) (hR.k8 kq_93) rfl ?_
              refine i_99_74 (x := 30 + 3 * a.toNat) l2 ?_
              have hobj := hR.k4 kq_94
              have ep : S (30 + 3 * a.toNat) 0 = S (30 + 3 * a.toNat) 0 := rfl
              have en : S (30 + 3 * a.toNat) 2 = S (30 + 3 * a.toNat) 2 := rfl
              have ex : S (30 + 3 * a.toNat) 3 = S (30 + 3 * a.toNat) 3 := rfl
              have ev : V ((30 + 3 * a.toNat) + 1) = V ((30 + 3 * a.toNat) + 1) := rfl
              obtain ⟨w, hrun, hR⟩ := x_tn (d := d + 5) (h := 94) (t := 30 + 3 * a.toNat) hR kq_94 (kd_reg (r := a.toNat) (by omega)) (by rw [en]; omega) (by rw [ev]; omega)
              rw [ep, en, ex, ev] at hR
              refine i_99_75 hobj (Nat.le_of_ble_eq_true rfl) hrun ?_
              refine i_99_78 ?_
              refine i_99_121 (x := 93) l0 ?_
              refine i_99_122 (v := Value.ref 94) (hR.k8 kq_93) rfl ?_
              refine i_99_125 (x := Int32.ofInt (S (30 + 3 * a.toNat) 2)) l5 ?_
              refine i_99_127 (fs2 := f4 94 (u1 ((u2 (u2 (u2 S 94 0 (S (30 + 3 * a.toNat) 2)) 94 2 ((S (30 + 3 * a.toNat) 3) - (S (30 + 3 * a.toNat) 0))) 94 3 0) 94) 0 (S (30 + 3 * a.toNat) 2))) (hR.k4 kq_94) (o_bool (by omega)) (Nat.le_of_ble_eq_true rfl) rfl (h7k kq_94 (by decide)) ?_
              refine xgen (P := cX w0 L Z (u2 (u2 (u2 (u2 S 94 0 (S (30 + 3 * a.toNat) 2)) 94 2 ((S (30 + 3 * a.toNat) 3) - (S (30 + 3 * a.toNat) 0))) 94 3 0) 94 0 (S (30 + 3 * a.toNat) 2)) (uv V 95 (V ((30 + 3 * a.toNat) + 1)))) (hR.p4 kq_94) (fun w hR => ?_)
              refine i_99_130 (x := 93) l0 ?_
              refine i_99_131 (v := Value.ref 78) (hR.k8 kq_93) rfl ?_
              refine i_99_134 (x := 30 + 3 * r.toNat) l1 ?_
              refine i_99_135 (x := 93) l0 ?_
              refine i_99_136 (v := Value.ref 94) (hR.k8 kq_93) rfl ?_
              refine i_99_139 (x := Int32.ofInt mode) l4 ?_
              have hobj := hR.k1 kq_78
              have ep : (u2 (u2 (u2 (u2 S 94 0 (S (30 + 3 * a.toNat) 2)) 94 2 ((S (30 + 3 * a.toNat) 3) - (S (30 + 3 * a.toNat) 0))) 94 3 0) 94 0 (S (30 + 3 * a.toNat) 2)) (30 + 3 * r.toNat) 0 = S (30 + 3 * r.toNat) 0 := by rw [u2_eq, if_neg (fun e => absurd e.1 (by omega)), u2_eq, if_neg (fun e => absurd e.2 (by decide)), u2_eq, if_neg (fun e => absurd e.2 (by decide)), u2_eq, if_neg (fun e => absurd e.1 (by omega))]
              have el : (u2 (u2 (u2 (u2 S 94 0 (S (30 + 3 * a.toNat) 2)) 94 2 ((S (30 + 3 * a.toNat) 3) - (S (30 + 3 * a.toNat) 0))) 94 3 0) 94 0 (S (30 + 3 * a.toNat) 2)) 78 0 = S 78 0 := by rw [u2_eq, if_neg (fun e => absurd e.1 (by decide)), u2_eq, if_neg (fun e => absurd e.2 (by decide)), u2_eq, if_neg (fun e => absurd e.2 (by decide)), u2_eq, if_neg (fun e => absurd e.1 (by decide))]
              have eg : (u2 (u2 (u2 (u2 S 94 0 (S (30 + 3 * a.toNat) 2)) 94 2 ((S (30 + 3 * a.toNat) 3) - (S (30 + 3 * a.toNat) 0))) 94 3 0) 94 0 (S (30 + 3 * a.toNat) 2)) 78 1 = S 78 1 := by rw [u2_eq, if_neg (fun e => absurd e.2 (by decide)), u2_eq, if_neg (fun e => absurd e.2 (by decide)), u2_eq, if_neg (fun e => absurd e.2 (by decide)), u2_eq, if_neg (fun e => absurd e.2 (by decide))]
              have ed : (u2 (u2 (u2 (u2 S 94 0 (S (30 + 3 * a.toNat) 2)) 94 2 ((S (30 + 3 * a.toNat) 3) - (S (30 + 3 * a.toNat) 0))) 94 3 0) 94 0 (S (30 + 3 * a.toNat) 2)) 78 2 = S 78 2 := by rw [u2_eq, if_neg (fun e => absurd e.2 (by decide)), u2_eq, if_neg (fun e => absurd e.2 (by decide)), u2_eq, if_neg (fun e => absurd e.1 (by decide)), u2_eq, if_neg (fun e => absurd e.2 (by decide))]
              have ef : (u2 (u2 (u2 (u2 S 94 0 (S (30 + 3 * a.toNat) 2)) 94 2 ((S (30 + 3 * a.toNat) 3) - (S (30 + 3 * a.toNat) 0))) 94 3 0) 94 0 (S (30 + 3 * a.toNat) 2)) 78 3 = S 78 3 := by rw [u2_eq, if_neg (fun e => absurd e.2 (by decide)), u2_eq, if_neg (fun e => absurd e.1 (by decide)), u2_eq, if_neg (fun e => absurd e.2 (by decide)), u2_eq, if_neg (fun e => absurd e.2 (by decide))]
              have es : (u2 (u2 (u2 (u2 S 94 0 (S (30 + 3 * a.toNat) 2)) 94 2 ((S (30 + 3 * a.toNat) 3) - (S (30 + 3 * a.toNat) 0))) 94 3 0) 94 0 (S (30 + 3 * a.toNat) 2)) 94 0 = S (30 + 3 * a.toNat) 2 := by rw [u2_eq, if_pos ⟨rfl, rfl⟩]
              have ec : (u2 (u2 (u2 (u2 S 94 0 (S (30 + 3 * a.toNat) 2)) 94 2 ((S (30 + 3 * a.toNat) 3) - (S (30 + 3 * a.toNat) 0))) 94 3 0) 94 0 (S (30 + 3 * a.toNat) 2)) 94 2 = (S (30 + 3 * a.toNat) 3) - (S (30 + 3 * a.toNat) 0) := by rw [u2_eq, if_neg (fun e => absurd e.2 (by decide)), u2_eq, if_neg (fun e => absurd e.2 (by decide)), u2_eq, if_pos ⟨rfl, rfl⟩]
              have em : (u2 (u2 (u2 (u2 S 94 0 (S (30 + 3 * a.toNat) 2)) 94 2 ((S (30 + 3 * a.toNat) 3) - (S (30 + 3 * a.toNat) 0))) 94 3 0) 94 0 (S (30 + 3 * a.toNat) 2)) 94 3 = 0 := by rw [u2_eq, if_neg (fun e => absurd e.2 (by decide)), u2_eq, if_pos ⟨rfl, rfl⟩]
              have ev : (uv V 95 (V ((30 + 3 * a.toNat) + 1))) 95 = V ((30 + 3 * a.toNat) + 1) := uv_s
              obtain ⟨w, hrun, S11, V11, hR, hP⟩ := x_settle (d := d) (g := 78) (t := 30 + 3 * r.toNat) (h := 94) (mode := mode) hR kq_78 (kd_reg (r := r.toNat) (by omega)) kq_94 (by rw [ep]; omega) (by rw [es]; first | omega | exact bb_01 _) (by rw [em]; omega) (by omega) (by rw [ev]; first | exact hM0 | exact hm_a (by assumption)) (by rw [ev]; omega) (by rw [ec]; omega) (by rw [el, eg]; omega) (by rw [ed]; omega) (by rw [ep, el, ed, ev, ec, em]; first | exact fun _ _ => Or.inl rfl | (intro u hu; right; have := rU_ge (p := S2 (30 + 3 * r.toNat) 0) (least := S2 78 0) (gradual := S2 78 2) (free := 0) (x := (xbl (V2 95) : Int) + S2 94 2); rw [← hu] at this; omega))
              rw [ep, el, eg, ed, ef, es, ec, em, ev] at hrun hP
              refine i_99_141 hobj (Nat.le_of_ble_eq_true rfl) hrun ?_
              refine i_99_144 ?_
              have eo : sRoot (vS S) (vV V) r.toNat a.toNat n mode = oR (S (30 + 3 * r.toNat) 0) (S 78 0) (S 78 1) (S 78 2) (S (30 + 3 * a.toNat) 2) mode 0 (V ((30 + 3 * a.toNat) + 1)) ((S (30 + 3 * a.toNat) 3) - (S (30 + 3 * a.toNat) 0)) (S 78 3) := by
                clear hR hP
                simp only [sRoot, vS_153, vS_154, vS_155, vS_156, vS_17, vS_18, vS_19, vS_20, vV_r]
                rw [if_neg (by omega), if_neg (by omega), if_neg (by omega), show n = 1 by omega, root_1 (hm_a (by omega))]
                rfl
              rw [eo]
              exact ⟨rfl, _, _, hR, cP_round hP (by omega) (nC.up (nC.up (nC.up (nC.up nC.refl (by unfold cKeep; omega) (by omega)) (by unfold cKeep; omega) (by omega)) (by unfold cKeep; omega) (by omega)) (by unfold cKeep; omega) (by omega)) (nW.up nW.refl (by omega)) (by omega)⟩
          · refine i_99_54 (x := 30 + 3 * r.toNat) l1 ?_
            refine i_99_55 (x := 30 + 3 * a.toNat) l2 ?_
            refine i_99_56 (v := Value.int (Int32.ofInt (S (30 + 3 * a.toNat) 1))) (hR.k2 (kd_reg (r := a.toNat) (by omega))) rfl ?_
            refine i_99_59 (x := Int32.ofInt (S (30 + 3 * a.toNat) 2)) l5 ?_
            have hobj := hR.k2 (kd_reg (r := r.toNat) (by omega))
            obtain ⟨w, hrun, hR⟩ := x_spec (d := d + 9) (t := 30 + 3 * r.toNat) (which := S (30 + 3 * a.toNat) 1) (sg := S (30 + 3 * a.toNat) 2) hR (kd_reg (r := r.toNat) (by omega)) (by first | omega | exact bb_01 _)
            refine i_99_61 hobj (Nat.le_of_ble_eq_true rfl) hrun ?_
            refine i_99_64 ?_
            have eo : sRoot (vS S) (vV V) r.toNat a.toNat n mode = oS (S (30 + 3 * a.toNat) 1) (S (30 + 3 * a.toNat) 2) (S 78 3) := by clear hR; simp only [sRoot, vS_153, vS_154, vS_155, vS_156, vS_17, vS_18, vS_19, vS_20, vV_r]; grind
            rw [eo]
            exact ⟨rfl, _, _, hR, cP_special (by first | omega | exact bb_01 _) (by omega) nC.refl nW.refl rfl (by omega)⟩
        · refine i_99_29 (x := 30 + 3 * a.toNat) l2 ?_
          refine i_99_30 (v := Value.int (Int32.ofInt (S (30 + 3 * a.toNat) 1))) (hR.k2 (kd_reg (r := a.toNat) (by omega))) rfl ?_
          refine i_99_33 ?_
          refine i_99_34 (b_eq (a := S (30 + 3 * a.toNat) 1) (b := 2) ⟨by omega, by omega⟩ ⟨by decide, by decide⟩ fun c11 => ?_) (b_ne (a := S (30 + 3 * a.toNat) 1) (b := 2) ⟨by omega, by omega⟩ ⟨by decide, by decide⟩ fun c11 => ?_)
          · refine i_99_46 (x := 30 + 3 * a.toNat) l2 ?_
            refine i_99_47 (v := Value.int (Int32.ofInt (S (30 + 3 * a.toNat) 1))) (hR.k2 (kd_reg (r := a.toNat) (by omega))) rfl ?_
            refine i_99_50 ?_
            refine i_99_51 (b_eq (a := S (30 + 3 * a.toNat) 1) (b := 3) ⟨by omega, by omega⟩ ⟨by decide, by decide⟩ fun c12 => absurd c12 (by omega)) (b_ne (a := S (30 + 3 * a.toNat) 1) (b := 3) ⟨by omega, by omega⟩ ⟨by decide, by decide⟩ fun c12 => ?_)
            refine i_99_54 (x := 30 + 3 * r.toNat) l1 ?_
            refine i_99_55 (x := 30 + 3 * a.toNat) l2 ?_
            refine i_99_56 (v := Value.int (Int32.ofInt (S (30 + 3 * a.toNat) 1))) (hR.k2 (kd_reg (r := a.toNat) (by omega))) rfl ?_
            refine i_99_59 (x := Int32.ofInt (S (30 + 3 * a.toNat) 2)) l5 ?_
            have hobj := hR.k2 (kd_reg (r := r.toNat) (by omega))
            obtain ⟨w, hrun, hR⟩ := x_spec (d := d + 9) (t := 30 + 3 * r.toNat) (which := S (30 + 3 * a.toNat) 1) (sg := S (30 + 3 * a.toNat) 2) hR (kd_reg (r := r.toNat) (by omega)) (by first | omega | exact bb_01 _)
            refine i_99_61 hobj (Nat.le_of_ble_eq_true rfl) hrun ?_
            refine i_99_64 ?_
            have eo : sRoot (vS S) (vV V) r.toNat a.toNat n mode = oS (S (30 + 3 * a.toNat) 1) (S (30 + 3 * a.toNat) 2) (S 78 3) := by clear hR; simp only [sRoot, vS_153, vS_154, vS_155, vS_156, vS_17, vS_18, vS_19, vS_20, vV_r]; grind
            rw [eo]
            exact ⟨rfl, _, _, hR, cP_special (by first | omega | exact bb_01 _) (by omega) nC.refl nW.refl rfl (by omega)⟩
          · refine i_99_37 (x := 93) l0 ?_
            refine i_99_38 (v := Value.ref 78) (hR.k8 kq_93) rfl ?_
            refine i_99_41 (x := 30 + 3 * r.toNat) l1 ?_
            have hobj := hR.k1 kq_78
            obtain ⟨w, hrun, hR⟩ := x_refuse (d := d + 6) (g := 78) (t := 30 + 3 * r.toNat) hR kq_78 (kd_reg (r := r.toNat) (by omega))
            refine i_99_42 hobj (Nat.le_of_ble_eq_true rfl) hrun ?_
            refine i_99_45 ?_
            have eo : sRoot (vS S) (vV V) r.toNat a.toNat n mode = oS 0 0 (zor (S 78 3) 8) := by clear hR; simp only [sRoot, vS_153, vS_154, vS_155, vS_156, vS_17, vS_18, vS_19, vS_20, vV_r]; grind
            rw [eo]
            exact ⟨rfl, _, _, hR, cP_flag (by first | omega | exact bb_01 _) (by decide) nC.refl nW.refl (by omega)⟩
    · refine i_99_13 (x := 30 + 3 * r.toNat) l1 ?_
      have hobj := hR.k2 (kd_reg (r := r.toNat) (by omega))
      obtain ⟨w, hrun, hR⟩ := x_nan (d := d + 8) (t := 30 + 3 * r.toNat) hR (kd_reg (r := r.toNat) (by omega))
      refine i_99_14 hobj (Nat.le_of_ble_eq_true rfl) hrun ?_
      refine i_99_17 ?_
      have eo : sRoot (vS S) (vV V) r.toNat a.toNat n mode = oS 0 0 (S 78 3) := by clear hR; simp only [sRoot, vS_153, vS_154, vS_155, vS_156, vS_17, vS_18, vS_19, vS_20, vV_r]; grind
      rw [eo]
      exact ⟨rfl, _, _, hR, cP_special (by first | omega | exact bb_01 _) (by decide) nC.refl nW.refl rfl (by omega)⟩
  obtain ⟨o, w', h1, rfl, h2⟩ := (key (lv_args 0 [Value.ref 93, Value.ref (30 + 3 * r.toNat), Value.ref (30 + 3 * a.toNat), Value.int (Int32.ofInt n), Value.int (Int32.ofInt mode)]) rfl rfl rfl rfl rfl).run
  exact ⟨w', h1, h2⟩
set_option maxHeartbeats 8000000 in
theorem x_hyp {r a b mode : Int} (hR : cX w0 L Z S V w) (hI : cI S V) (hr : 0 ≤ r ∧ r ≤ 15) (ha : 0 ≤ a ∧ a ≤ 15) (hb : 0 ≤ b ∧ b ≤ 15) (hmo : 0 ≤ mode ∧ mode ≤ 4) : ∃ w', xRun (d + 10) 79 [Value.ref 93, Value.ref (30 + 3 * r.toNat), Value.ref (30 + 3 * a.toNat), Value.ref (30 + 3 * b.toNat), Value.int (Int32.ofInt mode)] w (.inl (some (.int (Int32.ofInt (sLen (vS S) (vV V) r.toNat a.toNat b.toNat mode).2.2.2.2.1)))) w' ∧ ∃ S' V', cX w0 L Z S' V' w' ∧ cOut S S' V V' (30 + 3 * r.toNat) (sLen (vS S) (vV V) r.toNat a.toNat b.toNat mode) := by
  have key : ∀ lv, xld lv 0 = some (Value.ref 93) → xld lv 1 = some (Value.ref (30 + 3 * r.toNat)) → xld lv 2 = some (Value.ref (30 + 3 * a.toNat)) → xld lv 3 = some (Value.ref (30 + 3 * b.toNat)) → xld lv 4 = some (Value.int (Int32.ofInt mode)) → xEv (d + 10) 79 0 lv [] w (fun o w' => o = .inl (some (.int (Int32.ofInt (sLen (vS S) (vV V) r.toNat a.toNat b.toNat mode).2.2.2.2.1))) ∧ ∃ S' V', cX w0 L Z S' V' w' ∧ cOut S S' V V' (30 + 3 * r.toNat) (sLen (vS S) (vV V) r.toNat a.toNat b.toNat mode)) := by
    intro lv l0 l1 l2 l3 l4
    obtain ⟨hp_r, hk_r, hn_r, ht_r, hx_r, hz_r⟩ := hI.1 r.toNat (by omega)
    obtain ⟨hp_a, hk_a, hn_a, ht_a, hx_a, hz_a⟩ := hI.1 a.toNat (by omega)
    obtain ⟨hp_b, hk_b, hn_b, ht_b, hx_b, hz_b⟩ := hI.1 b.toNat (by omega)
    have hi_l := hI.2.1
    have hi_g := hI.2.2.1
    have hm_a : S (30 + 3 * a.toNat) 1 = 3 → V (30 + 3 * a.toNat + 1) ≠ 0 := fun e => hI.nz (by omega) e
    have hm_b : S (30 + 3 * b.toNat) 1 = 3 → V (30 + 3 * b.toNat + 1) ≠ 0 := fun e => hI.nz (by omega) e
    refine i_79_0 (x := 30 + 3 * a.toNat) l2 ?_
    refine i_79_1 (v := Value.int (Int32.ofInt (S (30 + 3 * a.toNat) 1))) (hR.k2 (kd_reg (r := a.toNat) (by omega))) rfl ?_
    refine i_79_4 ?_
    refine i_79_5 (b_eq (a := S (30 + 3 * a.toNat) 1) (b := 1) ⟨by omega, by omega⟩ ⟨by decide, by decide⟩ fun c0 => ?_) (b_ne (a := S (30 + 3 * a.toNat) 1) (b := 1) ⟨by omega, by omega⟩ ⟨by decide, by decide⟩ fun c0 => ?_)
    · refine i_79_16 (x := 30 + 3 * r.toNat) l1 ?_
      refine i_79_17 ?_
      have hobj := hR.k2 (kd_reg (r := r.toNat) (by omega))
      obtain ⟨w, hrun, hR⟩ := x_inf (d := d + 8) (t := 30 + 3 * r.toNat) (sg := 0) hR (kd_reg (r := r.toNat) (by omega)) (by first | omega | exact bb_01 _)
      refine i_79_18 hobj (Nat.le_of_ble_eq_true rfl) hrun ?_
      refine i_79_21 ?_
      have eo : sLen (vS S) (vV V) r.toNat a.toNat b.toNat mode = oS 1 0 (S 78 3) := by clear hR; simp only [sLen, sMove, vS_153, vS_154, vS_155, vS_156, vS_17, vS_18, vS_19, vS_20, vV_r]; grind
      rw [eo]
      exact ⟨rfl, _, _, hR, cP_special (by first | omega | exact bb_01 _) (by decide) nC.refl nW.refl rfl (by omega)⟩
    · refine i_79_8 (x := 30 + 3 * b.toNat) l3 ?_
      refine i_79_9 (v := Value.int (Int32.ofInt (S (30 + 3 * b.toNat) 1))) (hR.k2 (kd_reg (r := b.toNat) (by omega))) rfl ?_
      refine i_79_12 ?_
      refine i_79_13 (b_ne (a := S (30 + 3 * b.toNat) 1) (b := 1) ⟨by omega, by omega⟩ ⟨by decide, by decide⟩ fun c1 => ?_) (b_eq (a := S (30 + 3 * b.toNat) 1) (b := 1) ⟨by omega, by omega⟩ ⟨by decide, by decide⟩ fun c1 => ?_)
      · refine i_79_22 (x := 30 + 3 * a.toNat) l2 ?_
        refine i_79_23 (v := Value.int (Int32.ofInt (S (30 + 3 * a.toNat) 1))) (hR.k2 (kd_reg (r := a.toNat) (by omega))) rfl ?_
        refine i_79_26 (z_eq (a := S (30 + 3 * a.toNat) 1) ⟨by omega, by omega⟩ fun c2 => ?_) (z_ne (a := S (30 + 3 * a.toNat) 1) ⟨by omega, by omega⟩ fun c2 => ?_)
        · refine i_79_36 (x := 30 + 3 * r.toNat) l1 ?_
          have hobj := hR.k2 (kd_reg (r := r.toNat) (by omega))
          obtain ⟨w, hrun, hR⟩ := x_nan (d := d + 8) (t := 30 + 3 * r.toNat) hR (kd_reg (r := r.toNat) (by omega))
          refine i_79_37 hobj (Nat.le_of_ble_eq_true rfl) hrun ?_
          refine i_79_40 ?_
          have eo : sLen (vS S) (vV V) r.toNat a.toNat b.toNat mode = oS 0 0 (S 78 3) := by clear hR; simp only [sLen, sMove, vS_153, vS_154, vS_155, vS_156, vS_17, vS_18, vS_19, vS_20, vV_r]; grind
          rw [eo]
          exact ⟨rfl, _, _, hR, cP_special (by first | omega | exact bb_01 _) (by decide) nC.refl nW.refl rfl (by omega)⟩
        · refine i_79_29 (x := 30 + 3 * b.toNat) l3 ?_
          refine i_79_30 (v := Value.int (Int32.ofInt (S (30 + 3 * b.toNat) 1))) (hR.k2 (kd_reg (r := b.toNat) (by omega))) rfl ?_
          refine i_79_33 (z_ne (a := S (30 + 3 * b.toNat) 1) ⟨by omega, by omega⟩ fun c3 => ?_) (z_eq (a := S (30 + 3 * b.toNat) 1) ⟨by omega, by omega⟩ fun c3 => ?_)
          · refine i_79_41 (x := 30 + 3 * a.toNat) l2 ?_
            refine i_79_42 (v := Value.int (Int32.ofInt (S (30 + 3 * a.toNat) 1))) (hR.k2 (kd_reg (r := a.toNat) (by omega))) rfl ?_
            refine i_79_45 ?_
            refine i_79_46 (b_ne (a := S (30 + 3 * a.toNat) 1) (b := 2) ⟨by omega, by omega⟩ ⟨by decide, by decide⟩ fun c4 => ?_) (b_eq (a := S (30 + 3 * a.toNat) 1) (b := 2) ⟨by omega, by omega⟩ ⟨by decide, by decide⟩ fun c4 => ?_)
            · try replace ht_a := ht_a.resolve_left (by omega)
              try replace hx_a := hx_a.resolve_left (by omega)
              refine i_79_63 (x := 30 + 3 * a.toNat) l2 ?_
              refine i_79_64 (v := Value.int (Int32.ofInt (S (30 + 3 * a.toNat) 1))) (hR.k2 (kd_reg (r := a.toNat) (by omega))) rfl ?_
              refine i_79_67 ?_
              refine i_79_68 (b_eq (a := S (30 + 3 * a.toNat) 1) (b := 2) ⟨by omega, by omega⟩ ⟨by decide, by decide⟩ fun c5 => absurd c5 (by omega)) (b_ne (a := S (30 + 3 * a.toNat) 1) (b := 2) ⟨by omega, by omega⟩ ⟨by decide, by decide⟩ fun c5 => ?_)
              refine i_79_71 (x := 30 + 3 * b.toNat) l3 ?_
              refine i_79_72 (v := Value.int (Int32.ofInt (S (30 + 3 * b.toNat) 1))) (hR.k2 (kd_reg (r := b.toNat) (by omega))) rfl ?_
              refine i_79_75 ?_
              refine i_79_76 (b_ne (a := S (30 + 3 * b.toNat) 1) (b := 2) ⟨by omega, by omega⟩ ⟨by decide, by decide⟩ fun c6 => ?_) (b_eq (a := S (30 + 3 * b.toNat) 1) (b := 2) ⟨by omega, by omega⟩ ⟨by decide, by decide⟩ fun c6 => ?_)
              · try replace ht_b := ht_b.resolve_left (by omega)
                try replace hx_b := hx_b.resolve_left (by omega)
                refine i_79_122 ?_
                refine i_79_123 (x := 30 + 3 * a.toNat) l2 ?_
                refine i_79_124 (v := Value.int (Int32.ofInt (S (30 + 3 * a.toNat) 3))) (hR.k2 (kd_reg (r := a.toNat) (by omega))) rfl ?_
                refine i_79_127 (x := 30 + 3 * a.toNat) l2 ?_
                refine i_79_128 (v := Value.int (Int32.ofInt (S (30 + 3 * a.toNat) 0))) (hR.k2 (kd_reg (r := a.toNat) (by omega))) rfl ?_
                refine i_79_131 (c := Int32.ofInt ((S (30 + 3 * a.toNat) 3) - (S (30 + 3 * a.toNat) 0))) (o_sub (S (30 + 3 * a.toNat) 3) (S (30 + 3 * a.toNat) 0)) ?_
                refine i_79_132 (c := Int32.ofInt (2 * ((S (30 + 3 * a.toNat) 3) - (S (30 + 3 * a.toNat) 0)))) (o_mul 2 ((S (30 + 3 * a.toNat) 3) - (S (30 + 3 * a.toNat) 0))) ?_
                refine i_79_133 rfl ?_
                refine lgen1 (i := 5) (v := Value.int (Int32.ofInt (2 * ((S (30 + 3 * a.toNat) 3) - (S (30 + 3 * a.toNat) 0))))) (fun lv lg ls => ?_)
                replace l0 := lg 0 _ rfl rfl l0
                replace l1 := lg 1 _ rfl rfl l1
                replace l2 := lg 2 _ rfl rfl l2
                replace l3 := lg 3 _ rfl rfl l3
                replace l4 := lg 4 _ rfl rfl l4
                have l5 := ls
                refine i_79_135 ?_
                refine i_79_136 (x := 30 + 3 * b.toNat) l3 ?_
                refine i_79_137 (v := Value.int (Int32.ofInt (S (30 + 3 * b.toNat) 3))) (hR.k2 (kd_reg (r := b.toNat) (by omega))) rfl ?_
                refine i_79_140 (x := 30 + 3 * b.toNat) l3 ?_
                refine i_79_141 (v := Value.int (Int32.ofInt (S (30 + 3 * b.toNat) 0))) (hR.k2 (kd_reg (r := b.toNat) (by omega))) rfl ?_
                refine i_79_144 (c := Int32.ofInt ((S (30 + 3 * b.toNat) 3) - (S (30 + 3 * b.toNat) 0))) (o_sub (S (30 + 3 * b.toNat) 3) (S (30 + 3 * b.toNat) 0)) ?_
                refine i_79_145 (c := Int32.ofInt (2 * ((S (30 + 3 * b.toNat) 3) - (S (30 + 3 * b.toNat) 0)))) (o_mul 2 ((S (30 + 3 * b.toNat) 3) - (S (30 + 3 * b.toNat) 0))) ?_
                refine i_79_146 rfl ?_
                refine lgen1 (i := 6) (v := Value.int (Int32.ofInt (2 * ((S (30 + 3 * b.toNat) 3) - (S (30 + 3 * b.toNat) 0))))) (fun lv lg ls => ?_)
                replace l5 := lg 5 _ rfl rfl l5
                replace l0 := lg 0 _ rfl rfl l0
                replace l1 := lg 1 _ rfl rfl l1
                replace l2 := lg 2 _ rfl rfl l2
                replace l3 := lg 3 _ rfl rfl l3
                replace l4 := lg 4 _ rfl rfl l4
                have l6 := ls
                refine i_79_148 (x := Int32.ofInt (2 * ((S (30 + 3 * a.toNat) 3) - (S (30 + 3 * a.toNat) 0)))) l5 ?_
                refine i_79_150 (x := Int32.ofInt (2 * ((S (30 + 3 * b.toNat) 3) - (S (30 + 3 * b.toNat) 0)))) l6 ?_
                have hrun := s_min (d := d + 8) (w := w) (a := 2 * ((S (30 + 3 * a.toNat) 3) - (S (30 + 3 * a.toNat) 0))) (b := 2 * ((S (30 + 3 * b.toNat) 3) - (S (30 + 3 * b.toNat) 0))) ⟨by omega, by omega⟩ ⟨by omega, by omega⟩
                refine i_79_152 (Nat.le_of_ble_eq_true rfl) hrun ?_
                refine i_79_155 rfl ?_
                refine lgen1 (i := 7) (v := Value.int (Int32.ofInt (min (2 * ((S (30 + 3 * a.toNat) 3) - (S (30 + 3 * a.toNat) 0))) (2 * ((S (30 + 3 * b.toNat) 3) - (S (30 + 3 * b.toNat) 0)))))) (fun lv lg ls => ?_)
                replace l6 := lg 6 _ rfl rfl l6
                replace l5 := lg 5 _ rfl rfl l5
                replace l0 := lg 0 _ rfl rfl l0
                replace l1 := lg 1 _ rfl rfl l1
                replace l2 := lg 2 _ rfl rfl l2
                replace l3 := lg 3 _ rfl rfl l3
                replace l4 := lg 4 _ rfl rfl l4
                have l7 := ls
                refine i_79_157 (x := 93) l0 ?_
                refine i_79_158 (v := Value.ref 97) (hR.k8 kq_93) rfl ?_
                refine i_79_161 (x := 30 + 3 * a.toNat) l2 ?_
                refine i_79_162 (v := Value.ref ((30 + 3 * a.toNat) + 1)) (hR.k2 (kd_reg (r := a.toNat) (by omega))) rfl ?_
                have gq_97 := xbl_prod (V ((30 + 3 * a.toNat) + 1)) (V ((30 + 3 * a.toNat) + 1))
                obtain ⟨fs, hobj⟩ := hR.nat kq_97
                obtain ⟨w, hrun, hR⟩ := X_square (d := d + 6) (h := 97) (ha := (30 + 3 * a.toNat) + 1) (u := V ((30 + 3 * a.toNat) + 1)) hR kq_97 (kd_rem (r := a.toNat) (by omega)) (by omega) (rfl) (by omega)
                refine i_79_165 hobj (Nat.le_of_ble_eq_true rfl) hrun ?_
                refine i_79_168 (x := 93) l0 ?_
                refine i_79_169 (v := Value.ref 97) (hR.k8 kq_93) rfl ?_
                refine i_79_172 (x := 93) l0 ?_
                refine i_79_173 (v := Value.ref 97) (hR.k8 kq_93) rfl ?_
                refine i_79_176 (x := Int32.ofInt (2 * ((S (30 + 3 * a.toNat) 3) - (S (30 + 3 * a.toNat) 0)))) l5 ?_
                refine i_79_178 (x := Int32.ofInt (min (2 * ((S (30 + 3 * a.toNat) 3) - (S (30 + 3 * a.toNat) 0))) (2 * ((S (30 + 3 * b.toNat) 3) - (S (30 + 3 * b.toNat) 0))))) l7 ?_
                refine i_79_180 (c := Int32.ofInt ((2 * ((S (30 + 3 * a.toNat) 3) - (S (30 + 3 * a.toNat) 0))) - (min (2 * ((S (30 + 3 * a.toNat) 3) - (S (30 + 3 * a.toNat) 0))) (2 * ((S (30 + 3 * b.toNat) 3) - (S (30 + 3 * b.toNat) 0)))))) (o_sub (2 * ((S (30 + 3 * a.toNat) 3) - (S (30 + 3 * a.toNat) 0))) (min (2 * ((S (30 + 3 * a.toNat) 3) - (S (30 + 3 * a.toNat) 0))) (2 * ((S (30 + 3 * b.toNat) 3) - (S (30 + 3 * b.toNat) 0))))) ?_
                obtain ⟨fs, hobj⟩ := hR.nat kq_97
                obtain ⟨w, hrun, hR⟩ := X_shift (d := d + 6) (h := 97) (h2 := 97) (u := (V ((30 + 3 * a.toNat) + 1)) * (V ((30 + 3 * a.toNat) + 1))) (k := (2 * ((S (30 + 3 * a.toNat) 3) - (S (30 + 3 * a.toNat) 0))) - (min (2 * ((S (30 + 3 * a.toNat) 3) - (S (30 + 3 * a.toNat) 0))) (2 * ((S (30 + 3 * b.toNat) 3) - (S (30 + 3 * b.toNat) 0))))) hR kq_97 kq_97 (uv_s) (by omega) (by omega)
                have gs_97 := shf_ble ((V ((30 + 3 * a.toNat) + 1)) * (V ((30 + 3 * a.toNat) + 1))) ((2 * ((S (30 + 3 * a.toNat) 3) - (S (30 + 3 * a.toNat) 0))) - (min (2 * ((S (30 + 3 * a.toNat) 3) - (S (30 + 3 * a.toNat) 0))) (2 * ((S (30 + 3 * b.toNat) 3) - (S (30 + 3 * b.toNat) 0)))))
                rw [uvv] at hR
                refine i_79_181 hobj (Nat.le_of_ble_eq_true rfl) hrun ?_
                refine i_79_184 (x := 93) l0 ?_
                refine i_79_185 (v := Value.ref 99) (hR.k8 kq_93) rfl ?_
                refine i_79_188 (x := 30 + 3 * b.toNat) l3 ?_
                refine i_79_189 (v := Value.ref ((30 + 3 * b.toNat) + 1)) (hR.k2 (kd_reg (r := b.toNat) (by omega))) rfl ?_
                have gq_99 := xbl_prod (V ((30 + 3 * b.toNat) + 1)) (V ((30 + 3 * b.toNat) + 1))
                obtain ⟨fs, hobj⟩ := hR.nat kq_99
                obtain ⟨w, hrun, hR⟩ := X_square (d := d + 6) (h := 99) (ha := (30 + 3 * b.toNat) + 1) (u := V ((30 + 3 * b.toNat) + 1)) hR kq_99 (kd_rem (r := b.toNat) (by omega)) (by omega) ((uv_n (by omega)).trans (rfl)) (by omega)
                refine i_79_192 hobj (Nat.le_of_ble_eq_true rfl) hrun ?_
                refine i_79_195 (x := 93) l0 ?_
                refine i_79_196 (v := Value.ref 97) (hR.k8 kq_93) rfl ?_
                refine i_79_199 (x := 93) l0 ?_
                refine i_79_200 (v := Value.ref 99) (hR.k8 kq_93) rfl ?_
                refine i_79_203 (x := Int32.ofInt (2 * ((S (30 + 3 * b.toNat) 3) - (S (30 + 3 * b.toNat) 0)))) l6 ?_
                refine i_79_205 (x := Int32.ofInt (min (2 * ((S (30 + 3 * a.toNat) 3) - (S (30 + 3 * a.toNat) 0))) (2 * ((S (30 + 3 * b.toNat) 3) - (S (30 + 3 * b.toNat) 0))))) l7 ?_
                refine i_79_207 (c := Int32.ofInt ((2 * ((S (30 + 3 * b.toNat) 3) - (S (30 + 3 * b.toNat) 0))) - (min (2 * ((S (30 + 3 * a.toNat) 3) - (S (30 + 3 * a.toNat) 0))) (2 * ((S (30 + 3 * b.toNat) 3) - (S (30 + 3 * b.toNat) 0)))))) (o_sub (2 * ((S (30 + 3 * b.toNat) 3) - (S (30 + 3 * b.toNat) 0))) (min (2 * ((S (30 + 3 * a.toNat) 3) - (S (30 + 3 * a.toNat) 0))) (2 * ((S (30 + 3 * b.toNat) 3) - (S (30 + 3 * b.toNat) 0))))) ?_
                obtain ⟨fs, hobj⟩ := hR.nat kq_97
                obtain ⟨w, hrun, hR⟩ := X_addsh (d := d + 5) (h := 97) (h2 := 99) (u := shf ((V ((30 + 3 * a.toNat) + 1)) * (V ((30 + 3 * a.toNat) + 1))) ((2 * ((S (30 + 3 * a.toNat) 3) - (S (30 + 3 * a.toNat) 0))) - (min (2 * ((S (30 + 3 * a.toNat) 3) - (S (30 + 3 * a.toNat) 0))) (2 * ((S (30 + 3 * b.toNat) 3) - (S (30 + 3 * b.toNat) 0)))))) (v2 := (V ((30 + 3 * b.toNat) + 1)) * (V ((30 + 3 * b.toNat) + 1))) (k := (2 * ((S (30 + 3 * b.toNat) 3) - (S (30 + 3 * b.toNat) 0))) - (min (2 * ((S (30 + 3 * a.toNat) 3) - (S (30 + 3 * a.toNat) 0))) (2 * ((S (30 + 3 * b.toNat) 3) - (S (30 + 3 * b.toNat) 0))))) hR kq_97 kq_99 (by decide) ((uv_n (by omega)).trans (uv_s)) (uv_s) (by omega) (by omega) (by omega)
                refine i_79_208 hobj (Nat.le_of_ble_eq_true rfl) hrun ?_
                refine i_79_211 (x := 93) l0 ?_
                refine i_79_212 (v := Value.ref 101) (hR.k8 kq_93) rfl ?_
                refine i_79_215 (x := 93) l0 ?_
                refine i_79_216 (v := Value.ref 97) (hR.k8 kq_93) rfl ?_
                refine i_79_219 (x := Int32.ofInt (min (2 * ((S (30 + 3 * a.toNat) 3) - (S (30 + 3 * a.toNat) 0))) (2 * ((S (30 + 3 * b.toNat) 3) - (S (30 + 3 * b.toNat) 0))))) l7 ?_
                refine i_79_221 ?_
                refine i_79_222 (x := 30 + 3 * r.toNat) l1 ?_
                refine i_79_223 (v := Value.int (Int32.ofInt (S (30 + 3 * r.toNat) 0))) (hR.k2 (kd_reg (r := r.toNat) (by omega))) rfl ?_
                obtain ⟨uu, euu⟩ : ∃ uu, uu = (shf ((V ((30 + 3 * a.toNat) + 1)) * (V ((30 + 3 * a.toNat) + 1))) ((2 * ((S (30 + 3 * a.toNat) 3) - (S (30 + 3 * a.toNat) 0))) - (min (2 * ((S (30 + 3 * a.toNat) 3) - (S (30 + 3 * a.toNat) 0))) (2 * ((S (30 + 3 * b.toNat) 3) - (S (30 + 3 * b.toNat) 0)))))) + shf ((V ((30 + 3 * b.toNat) + 1)) * (V ((30 + 3 * b.toNat) + 1))) ((2 * ((S (30 + 3 * b.toNat) 3) - (S (30 + 3 * b.toNat) 0))) - (min (2 * ((S (30 + 3 * a.toNat) 3) - (S (30 + 3 * a.toNat) 0))) (2 * ((S (30 + 3 * b.toNat) 3) - (S (30 + 3 * b.toNat) 0))))) := ⟨_, rfl⟩
                obtain ⟨k, ek⟩ : ∃ k : Nat, k = 1 := ⟨1, rfl⟩
                have hpw : pwP S := hI.2.2.2.1
                have pa0 := hm_a (by omega)
                have pb0 := hm_b (by omega)
                have hu0 : uu ≠ 0 := by rw [euu, shf_nn (by omega)]; have := Nat.mul_pos (Nat.mul_pos (Nat.pos_of_ne_zero pa0) (Nat.pos_of_ne_zero pa0)) (Nat.two_pow_pos (2 * (S (30 + 3 * a.toNat) 3 - S (30 + 3 * a.toNat) 0) - min (2 * (S (30 + 3 * a.toNat) 3 - S (30 + 3 * a.toNat) 0)) (2 * (S (30 + 3 * b.toNat) 3 - S (30 + 3 * b.toNat) 0))).toNat); omega
                have hub : xbl uu ≤ 95000 := by
                  have g1 := xbl_prod (V ((30 + 3 * a.toNat) + 1)) (V ((30 + 3 * a.toNat) + 1))
                  have g2 := xbl_prod (V ((30 + 3 * b.toNat) + 1)) (V ((30 + 3 * b.toNat) + 1))
                  have g3 := shf_ble (V ((30 + 3 * a.toNat) + 1) * V ((30 + 3 * a.toNat) + 1)) (2 * (S (30 + 3 * a.toNat) 3 - S (30 + 3 * a.toNat) 0) - min (2 * (S (30 + 3 * a.toNat) 3 - S (30 + 3 * a.toNat) 0)) (2 * (S (30 + 3 * b.toNat) 3 - S (30 + 3 * b.toNat) 0)))
                  have g4 := shf_ble (V ((30 + 3 * b.toNat) + 1) * V ((30 + 3 * b.toNat) + 1)) (2 * (S (30 + 3 * b.toNat) 3 - S (30 + 3 * b.toNat) 0) - min (2 * (S (30 + 3 * a.toNat) 3 - S (30 + 3 * a.toNat) 0)) (2 * (S (30 + 3 * b.toNat) 3 - S (30 + 3 * b.toNat) 0)))
                  rw [euu]
                  have g5 := xbl_add (n := 94000) (a := shf (V ((30 + 3 * a.toNat) + 1) * V ((30 + 3 * a.toNat) + 1)) (2 * (S (30 + 3 * a.toNat) 3 - S (30 + 3 * a.toNat) 0) - min (2 * (S (30 + 3 * a.toNat) 3 - S (30 + 3 * a.toNat) 0)) (2 * (S (30 + 3 * b.toNat) 3 - S (30 + 3 * b.toNat) 0)))) (b := shf (V ((30 + 3 * b.toNat) + 1) * V ((30 + 3 * b.toNat) + 1)) (2 * (S (30 + 3 * b.toNat) 3 - S (30 + 3 * b.toNat) 0) - min (2 * (S (30 + 3 * a.toNat) 3 - S (30 + 3 * a.toNat) 0)) (2 * (S (30 + 3 * b.toNat) 3 - S (30 + 3 * b.toNat) 0)))) (by omega) (by omega)
                  omega
                obtain ⟨p, epn⟩ : ∃ p : Nat, S (30 + 3 * r.toNat) 0 = (p : Int) := ⟨(S (30 + 3 * r.toNat) 0).toNat, by omega⟩
                obtain ⟨Wd, hW⟩ : ∃ Wd : Nat, (Wd : Int) = (p : Int) / 32 + 2 := ⟨p / 32 + 2, by omega⟩
                obtain ⟨sl, esl⟩ : ∃ sl : Int, sl = min (2 * ((S (30 + 3 * a.toNat) 3) - (S (30 + 3 * a.toNat) 0))) (2 * ((S (30 + 3 * b.toNat) 3) - (S (30 + 3 * b.toNat) 0))) := ⟨_, rfl⟩
                have eu : (uv (uv (uv V 97 (shf ((V ((30 + 3 * a.toNat) + 1)) * (V ((30 + 3 * a.toNat) + 1))) ((2 * ((S (30 + 3 * a.toNat) 3) - (S (30 + 3 * a.toNat) 0))) - (min (2 * ((S (30 + 3 * a.toNat) 3) - (S (30 + 3 * a.toNat) 0))) (2 * ((S (30 + 3 * b.toNat) 3) - (S (30 + 3 * b.toNat) 0))))))) 99 ((V ((30 + 3 * b.toNat) + 1)) * (V ((30 + 3 * b.toNat) + 1)))) 97 ((shf ((V ((30 + 3 * a.toNat) + 1)) * (V ((30 + 3 * a.toNat) + 1))) ((2 * ((S (30 + 3 * a.toNat) 3) - (S (30 + 3 * a.toNat) 0))) - (min (2 * ((S (30 + 3 * a.toNat) 3) - (S (30 + 3 * a.toNat) 0))) (2 * ((S (30 + 3 * b.toNat) 3) - (S (30 + 3 * b.toNat) 0)))))) + shf ((V ((30 + 3 * b.toNat) + 1)) * (V ((30 + 3 * b.toNat) + 1))) ((2 * ((S (30 + 3 * b.toNat) 3) - (S (30 + 3 * b.toNat) 0))) - (min (2 * ((S (30 + 3 * a.toNat) 3) - (S (30 + 3 * a.toNat) 0))) (2 * ((S (30 + 3 * b.toNat) 3) - (S (30 + 3 * b.toNat) 0))))))) 97 = uu := (uv_s).trans euu.symm
                obtain ⟨EE, hE⟩ : ∃ EE, ((xbl uu : Int) + sl - 1) / ((k : Int) + 1) = EE := ⟨_, rfl⟩
                obtain ⟨lift, hl⟩ : ∃ lift, sl - ((k : Int) + 1) * EE = lift := ⟨_, rfl⟩
                have hd1 := Int.mul_ediv_add_emod ((xbl uu : Int) + sl - 1) ((k : Int) + 1)
                have hd2 := Int.emod_lt_of_pos ((xbl uu : Int) + sl - 1) (show 0 < (k : Int) + 1 by omega)
                have hd3 := Int.emod_nonneg ((xbl uu : Int) + sl - 1) (show (k : Int) + 1 ≠ 0 by omega)
                rw [hE] at hd1
                have bE := div_bd (X := (xbl uu : Int) + sl - 1) (n := (k : Int) + 1) (B := 140000) (by omega) (by decide) (by omega) (by omega)
                rw [hE] at bE
                obtain ⟨x1, x2⟩ := rXY (s := uu) (n := k + 1) (lift := lift) hu0 (by omega) (by omega)
                have hobj := hR.k9 kq_101
                obtain ⟨w, hrun, S1, V1, g, hR, hf, ho⟩ := x_find (d := d + 2) (hr := 97) (scale := sl) (k := k) (p := S (30 + 3 * r.toNat) 0) (Wd := Wd) (E := EE) (lift := lift) hR kq_97 (by unfold scr; omega) hpw (by omega) (by rw [eu]; exact hu0) (by rw [eu]; omega) ⟨by omega, by omega⟩ (by rw [eu]; exact hE) hl (by rw [eu]; omega) (by rw [eu]; omega) ⟨by omega, by omega⟩ (by rw [epn]; exact hW)
                rw [esl] at hrun
                rw [eu] at ho
                rw [show Int32.ofInt ((k : Int) + 1) = 2 by rw [ek]; rfl] at hrun
                refine i_79_226 hobj (Nat.le_of_ble_eq_true rfl) hrun ?_
                refine i_79_229 (x := 93) l0 ?_
                refine i_79_230 (v := Value.ref 101) (hR.k8 kq_93) rfl ?_
                refine i_79_233 (x := 30 + 3 * r.toNat) l1 ?_
                refine i_79_234 (v := Value.int (Int32.ofInt (S1 (30 + 3 * r.toNat) 0))) (hR.k2 (kd_reg (r := r.toNat) (by omega))) rfl ?_
                rw [(hf.1 (30 + 3 * r.toNat) 0 (by omega) (by omega))]
                refine i_79_237 (x := 93) l0 ?_
                refine i_79_238 (v := Value.ref 94) (hR.k8 kq_93) rfl ?_
                have hobj := hR.k9 kq_101
                obtain ⟨w, hrun, S2, V2, hR, hRt, h1, h2, h3, hb95⟩ := x_decide (d := d + 2) (p := p) hR hf (by rw [eu]; exact ho) (by rw [eu]; exact x1) (by rw [eu]; exact x2) kq_97 (by unfold scr; omega) (by omega) (by omega) (by rw [eu]; exact hu0) (by rw [eu]; omega) (by omega) ⟨by omega, by omega⟩ hW ⟨by omega, by omega⟩
                rw [← epn] at hrun
                rw [eu] at hRt
                have hnc := nC.rt hf h1 h2
                have hnw := nW.rt hf h3
                obtain ⟨hrn, hMb⟩ := root_n (S := vS S) (r := r.toNat) (p := p) (k := k) (v := uu) (e := sl) (E := EE) (lift := lift) (sg := 0) (mode := mode) epn hu0 hE hl x1 hRt
                have hmo2 : S2 94 3 = 0 ∨ S2 94 3 = 1 := by obtain ⟨_, _, _, _, _, _, q⟩ := hRt; exact q
                have hM0 : V2 95 ≠ 0 := by intro e; rw [e] at hMb; have : xbl 0 = 0 := rfl; omega
                have hscb : -200000 ≤ S2 94 2 ∧ S2 94 2 ≤ 200000 := by obtain ⟨kk, c, q1, q2, q3, q4, q5⟩ := hRt; have := q3.ge (rY_pos _) x1; have h8 := xbl_ge this; rw [← q2, xbl_div] at h8; omega
                have z0 : S2 (30 + 3 * r.toNat) 0 = S (30 + 3 * r.toNat) 0 := (hnc.1 (30 + 3 * r.toNat) 0 (by unfold cKeep; omega)).trans rfl
                have z1 : S2 (78) 0 = S (78) 0 := (hnc.1 (78) 0 (by unfold cKeep; omega)).trans rfl
                have z2 : S2 (78) 1 = S (78) 1 := (hnc.1 (78) 1 (by unfold cKeep; omega)).trans rfl
                have z3 : S2 (78) 2 = S (78) 2 := (hnc.1 (78) 2 (by unfold cKeep; omega)).trans rfl
                have z4 : S2 (78) 3 = S (78) 3 := (hnc.1 (78) 3 (by unfold cKeep; omega)).trans rfl
                refine i_79_241 hobj (Nat.le_of_ble_eq_true rfl) hrun ?_
                refine i_79_244 (x := 93) l0 ?_
                refine i_79_245 (v := Value.ref 94) (hR.k8 kq_93) rfl ?_
                refine i_79_248 ?_
                refine i_79_249 (fs2 := f4 94 (u1 (S2 94) 0 0)) (hR.k4 kq_94) rfl (Nat.le_of_ble_eq_true rfl) rfl (h7k kq_94 (by decide)) ?_
                refine xgen (P := cX w0 L Z (u2 S2 94 0 0) V2) (hR.p4 kq_94) (fun w hR => ?_)
                refine i_79_252 (x := 93) l0 ?_
                refine i_79_253 (v := Value.ref 78) (hR.k8 kq_93) rfl ?_
                refine i_79_256 (x := 30 + 3 * r.toNat) l1 ?_
                refine i_79_257 (x := 93) l0 ?_
                refine i_79_258 (v := Value.ref 94) (hR.k8 kq_93) rfl ?_
                refine i_79_261 (x := Int32.ofInt mode) l4 ?_
                have hobj := hR.k1 kq_78
                have ep : (u2 S2 94 0 0) (30 + 3 * r.toNat) 0 = S2 (30 + 3 * r.toNat) 0 := by rw [u2_eq, if_neg (fun e => absurd e.1 (by omega))]
                have el : (u2 S2 94 0 0) 78 0 = S2 78 0 := by rw [u2_eq, if_neg (fun e => absurd e.1 (by decide))]
                have eg : (u2 S2 94 0 0) 78 1 = S2 78 1 := by rw [u2_eq, if_neg (fun e => absurd e.2 (by decide))]
                have ed : (u2 S2 94 0 0) 78 2 = S2 78 2 := by rw [u2_eq, if_neg (fun e => absurd e.2 (by decide))]
                have ef : (u2 S2 94 0 0) 78 3 = S2 78 3 := by rw [u2_eq, if_neg (fun e => absurd e.2 (by decide))]
                have es : (u2 S2 94 0 0) 94 0 = 0 := by rw [u2_eq, if_pos ⟨rfl, rfl⟩]
                have ec : (u2 S2 94 0 0) 94 2 = S2 94 2 := by rw [u2_eq, if_neg (fun e => absurd e.2 (by decide))]
                have em : (u2 S2 94 0 0) 94 3 = S2 94 3 := by rw [u2_eq, if_neg (fun e => absurd e.2 (by decide))]
                have ev : V2 95 = V2 95 := rfl
                obtain ⟨w, hrun, S8, V8, hR, hP⟩ := x_settle (d := d) (g := 78) (t := 30 + 3 * r.toNat) (h := 94) (mode := mode) hR kq_78 (kd_reg (r := r.toNat) (by omega)) kq_94 (by rw [ep]; omega) (by rw [es]; first | omega | exact bb_01 _) (by rw [em]; omega) (by omega) (by rw [ev]; first | exact hM0 | exact hm_a (by assumption) | exact hm_b (by omega) | exact hm_a (by omega)) (by rw [ev]; omega) (by rw [ec]; omega) (by rw [el, eg]; omega) (by rw [ed]; omega) (by rw [ep, el, ed, ev, ec, em]; first | exact fun _ _ => Or.inl rfl | (intro u hu; right; have := rU_ge (p := S2 (30 + 3 * r.toNat) 0) (least := S2 78 0) (gradual := S2 78 2) (free := 0) (x := (xbl (V2 95) : Int) + S2 94 2); rw [← hu] at this; omega))
                rw [ep, el, eg, ed, ef, es, ec, em, ev] at hrun hP
                rw [z0, z1, z2, z3, z4] at hrun hP
                refine i_79_263 hobj (Nat.le_of_ble_eq_true rfl) hrun ?_
                refine i_79_266 ?_
                have eo : sLen (vS S) (vV V) r.toNat a.toNat b.toNat mode = oR (S (30 + 3 * r.toNat) 0) (S 78 0) (S 78 1) (S 78 2) 0 mode (S2 94 3) (V2 95) (S2 94 2) (S 78 3) := by
                  rw [show ((k : Int) + 1) = 2 by omega] at hrn
                  refine Eq.trans ?_ hrn
                  rw [esl]
                  simp only [sLen, ex, vS_153, vS_154, vS_155, vS_156, vS_17, vS_18, vS_19, vS_20, vV_r]
                  rw [if_neg (by omega), if_neg (by omega), if_neg (by omega), if_neg (by omega)]
                  have m1 : 2 * min (S (30 + 3 * a.toNat) 3 - S (30 + 3 * a.toNat) 0) (S (30 + 3 * b.toNat) 3 - S (30 + 3 * b.toNat) 0) = min (2 * (S (30 + 3 * a.toNat) 3 - S (30 + 3 * a.toNat) 0)) (2 * (S (30 + 3 * b.toNat) 3 - S (30 + 3 * b.toNat) 0)) := by omega
                  rw [m1]
                  congr 1
                  rw [euu, shf_nn (by omega), shf_nn (by omega)]
                rw [eo]
                exact ⟨rfl, _, _, hR, cP_round hP (by omega) (hnc.up (by unfold cKeep; omega) (by omega)) ((nW.up (nW.up (nW.up nW.refl (by omega)) (by omega)) (by omega)).trans hnw) (by omega)⟩
              · refine i_79_79 (x := 93) l0 ?_
                refine i_79_80 (v := Value.ref 94) (hR.k8 kq_93) rfl ?_
                refine i_79_83 (x := 30 + 3 * a.toNat) l2 ?_
                refine i_79_84 (v := Value.int (Int32.ofInt (S (30 + 3 * a.toNat) 1))) (hR.k2 (kd_reg (r := a.toNat) (by omega))) rfl ?_
                refine i_79_87 ?_
                refine i_79_88 (b_ne (a := S (30 + 3 * a.toNat) 1) (b := 2) ⟨by omega, by omega⟩ ⟨by decide, by decide⟩ fun c8 => ?_) (b_eq (a := S (30 + 3 * a.toNat) 1) (b := 2) ⟨by omega, by omega⟩ ⟨by decide, by decide⟩ fun c8 => absurd c8 (by omega))
                refine i_79_95 (x := 30 + 3 * a.toNat) l2 ?_
                have hobj := hR.k4 kq_94
                have ep : S (30 + 3 * a.toNat) 0 = S (30 + 3 * a.toNat) 0 := rfl
                have en : S (30 + 3 * a.toNat) 2 = S (30 + 3 * a.toNat) 2 := rfl
                have ex : S (30 + 3 * a.toNat) 3 = S (30 + 3 * a.toNat) 3 := rfl
                have ev : V ((30 + 3 * a.toNat) + 1) = V ((30 + 3 * a.toNat) + 1) := rfl
                obtain ⟨w, hrun, hR⟩ := x_tn (d := d + 5) (h := 94) (t := 30 + 3 * a.toNat) hR kq_94 (kd_reg (r := a.toNat) (by omega)) (by rw [en]; omega) (by rw [ev]; omega)
                rw [ep, en, ex, ev] at hR
                refine i_79_96 hobj (Nat.le_of_ble_eq_true rfl) hrun ?_
                refine i_79_99 (x := 93) l0 ?_
                refine i_79_100 (v := Value.ref 94) (hR.k8 kq_93) rfl ?_
                refine i_79_103 ?_
                refine i_79_104 (fs2 := f4 94 (u1 ((u2 (u2 (u2 S 94 0 (S (30 + 3 * a.toNat) 2)) 94 2 ((S (30 + 3 * a.toNat) 3) - (S (30 + 3 * a.toNat) 0))) 94 3 0) 94) 0 0)) (hR.k4 kq_94) rfl (Nat.le_of_ble_eq_true rfl) rfl (h7k kq_94 (by decide)) ?_
                refine xgen (P := cX w0 L Z (u2 (u2 (u2 (u2 S 94 0 (S (30 + 3 * a.toNat) 2)) 94 2 ((S (30 + 3 * a.toNat) 3) - (S (30 + 3 * a.toNat) 0))) 94 3 0) 94 0 0) (uv V 95 (V ((30 + 3 * a.toNat) + 1)))) (hR.p4 kq_94) (fun w hR => ?_)
                refine i_79_107 (x := 93) l0 ?_
                refine i_79_108 (v := Value.ref 78) (hR.k8 kq_93) rfl ?_
                refine i_79_111 (x := 30 + 3 * r.toNat) l1 ?_
                refine i_79_112 (x := 93) l0 ?_
                refine i_79_113 (v := Value.ref 94) (hR.k8 kq_93) rfl ?_
                refine i_79_116 (x := Int32.ofInt mode) l4 ?_
                have hobj := hR.k1 kq_78
                have ep : (u2 (u2 (u2 (u2 S 94 0 (S (30 + 3 * a.toNat) 2)) 94 2 ((S (30 + 3 * a.toNat) 3) - (S (30 + 3 * a.toNat) 0))) 94 3 0) 94 0 0) (30 + 3 * r.toNat) 0 = S (30 + 3 * r.toNat) 0 := by rw [u2_eq, if_neg (fun e => absurd e.1 (by omega)), u2_eq, if_neg (fun e => absurd e.2 (by decide)), u2_eq, if_neg (fun e => absurd e.2 (by decide)), u2_eq, if_neg (fun e => absurd e.1 (by omega))]
                have el : (u2 (u2 (u2 (u2 S 94 0 (S (30 + 3 * a.toNat) 2)) 94 2 ((S (30 + 3 * a.toNat) 3) - (S (30 + 3 * a.toNat) 0))) 94 3 0) 94 0 0) 78 0 = S 78 0 := by rw [u2_eq, if_neg (fun e => absurd e.1 (by decide)), u2_eq, if_neg (fun e => absurd e.2 (by decide)), u2_eq, if_neg (fun e => absurd e.2 (by decide)), u2_eq, if_neg (fun e => absurd e.1 (by decide))]
                have eg : (u2 (u2 (u2 (u2 S 94 0 (S (30 + 3 * a.toNat) 2)) 94 2 ((S (30 + 3 * a.toNat) 3) - (S (30 + 3 * a.toNat) 0))) 94 3 0) 94 0 0) 78 1 = S 78 1 := by rw [u2_eq, if_neg (fun e => absurd e.2 (by decide)), u2_eq, if_neg (fun e => absurd e.2 (by decide)), u2_eq, if_neg (fun e => absurd e.2 (by decide)), u2_eq, if_neg (fun e => absurd e.2 (by decide))]
                have ed : (u2 (u2 (u2 (u2 S 94 0 (S (30 + 3 * a.toNat) 2)) 94 2 ((S (30 + 3 * a.toNat) 3) - (S (30 + 3 * a.toNat) 0))) 94 3 0) 94 0 0) 78 2 = S 78 2 := by rw [u2_eq, if_neg (fun e => absurd e.2 (by decide)), u2_eq, if_neg (fun e => absurd e.2 (by decide)), u2_eq, if_neg (fun e => absurd e.1 (by decide)), u2_eq, if_neg (fun e => absurd e.2 (by decide))]
                have ef : (u2 (u2 (u2 (u2 S 94 0 (S (30 + 3 * a.toNat) 2)) 94 2 ((S (30 + 3 * a.toNat) 3) - (S (30 + 3 * a.toNat) 0))) 94 3 0) 94 0 0) 78 3 = S 78 3 := by rw [u2_eq, if_neg (fun e => absurd e.2 (by decide)), u2_eq, if_neg (fun e => absurd e.1 (by decide)), u2_eq, if_neg (fun e => absurd e.2 (by decide)), u2_eq, if_neg (fun e => absurd e.2 (by decide))]
                have es : (u2 (u2 (u2 (u2 S 94 0 (S (30 + 3 * a.toNat) 2)) 94 2 ((S (30 + 3 * a.toNat) 3) - (S (30 + 3 * a.toNat) 0))) 94 3 0) 94 0 0) 94 0 = 0 := by rw [u2_eq, if_pos ⟨rfl, rfl⟩]
                have ec : (u2 (u2 (u2 (u2 S 94 0 (S (30 + 3 * a.toNat) 2)) 94 2 ((S (30 + 3 * a.toNat) 3) - (S (30 + 3 * a.toNat) 0))) 94 3 0) 94 0 0) 94 2 = (S (30 + 3 * a.toNat) 3) - (S (30 + 3 * a.toNat) 0) := by rw [u2_eq, if_neg (fun e => absurd e.2 (by decide)), u2_eq, if_neg (fun e => absurd e.2 (by decide)), u2_eq, if_pos ⟨rfl, rfl⟩]
                have em : (u2 (u2 (u2 (u2 S 94 0 (S (30 + 3 * a.toNat) 2)) 94 2 ((S (30 + 3 * a.toNat) 3) - (S (30 + 3 * a.toNat) 0))) 94 3 0) 94 0 0) 94 3 = 0 := by rw [u2_eq, if_neg (fun e => absurd e.2 (by decide)), u2_eq, if_pos ⟨rfl, rfl⟩]
                have ev : (uv V 95 (V ((30 + 3 * a.toNat) + 1))) 95 = V ((30 + 3 * a.toNat) + 1) := uv_s
                obtain ⟨w, hrun, S10, V10, hR, hP⟩ := x_settle (d := d) (g := 78) (t := 30 + 3 * r.toNat) (h := 94) (mode := mode) hR kq_78 (kd_reg (r := r.toNat) (by omega)) kq_94 (by rw [ep]; omega) (by rw [es]; first | omega | exact bb_01 _) (by rw [em]; omega) (by omega) (by rw [ev]; first | exact hM0 | exact hm_a (by assumption) | exact hm_b (by omega) | exact hm_a (by omega)) (by rw [ev]; omega) (by rw [ec]; omega) (by rw [el, eg]; omega) (by rw [ed]; omega) (by rw [ep, el, ed, ev, ec, em]; first | exact fun _ _ => Or.inl rfl | (intro u hu; right; have := rU_ge (p := S2 (30 + 3 * r.toNat) 0) (least := S2 78 0) (gradual := S2 78 2) (free := 0) (x := (xbl (V2 95) : Int) + S2 94 2); rw [← hu] at this; omega))
                rw [ep, el, eg, ed, ef, es, ec, em, ev] at hrun hP
                refine i_79_118 hobj (Nat.le_of_ble_eq_true rfl) hrun ?_
                refine i_79_121 ?_
                have eo : sLen (vS S) (vV V) r.toNat a.toNat b.toNat mode = oR (S (30 + 3 * r.toNat) 0) (S 78 0) (S 78 1) (S 78 2) 0 mode 0 (V ((30 + 3 * a.toNat) + 1)) ((S (30 + 3 * a.toNat) 3) - (S (30 + 3 * a.toNat) 0)) (S 78 3) := by clear hR; simp only [sLen, sMove, vS_153, vS_154, vS_155, vS_156, vS_17, vS_18, vS_19, vS_20, vV_r]; grind
                rw [eo]
                exact ⟨rfl, _, _, hR, cP_round hP (by first | omega | exact bb_01 _) (nC.up (nC.up (nC.up (nC.up nC.refl (by unfold cKeep; omega) (by omega)) (by unfold cKeep; omega) (by omega)) (by unfold cKeep; omega) (by omega)) (by unfold cKeep; omega) (by omega)) (nW.up nW.refl (by omega)) (by omega)⟩
            · refine i_79_49 (x := 30 + 3 * b.toNat) l3 ?_
              refine i_79_50 (v := Value.int (Int32.ofInt (S (30 + 3 * b.toNat) 1))) (hR.k2 (kd_reg (r := b.toNat) (by omega))) rfl ?_
              refine i_79_53 ?_
              refine i_79_54 (b_ne (a := S (30 + 3 * b.toNat) 1) (b := 2) ⟨by omega, by omega⟩ ⟨by decide, by decide⟩ fun c10 => ?_) (b_eq (a := S (30 + 3 * b.toNat) 1) (b := 2) ⟨by omega, by omega⟩ ⟨by decide, by decide⟩ fun c10 => ?_)
              · try replace ht_b := ht_b.resolve_left (by omega)
                try replace hx_b := hx_b.resolve_left (by omega)
                refine i_79_63 (x := 30 + 3 * a.toNat) l2 ?_
                refine i_79_64 (v := Value.int (Int32.ofInt (S (30 + 3 * a.toNat) 1))) (hR.k2 (kd_reg (r := a.toNat) (by omega))) rfl ?_
                refine i_79_67 ?_
                refine i_79_68 (b_eq (a := S (30 + 3 * a.toNat) 1) (b := 2) ⟨by omega, by omega⟩ ⟨by decide, by decide⟩ fun c11 => ?_) (b_ne (a := S (30 + 3 * a.toNat) 1) (b := 2) ⟨by omega, by omega⟩ ⟨by decide, by decide⟩ fun c11 => absurd c11 (by omega))
                refine i_79_79 (x := 93) l0 ?_
                refine i_79_80 (v := Value.ref 94) (hR.k8 kq_93) rfl ?_
                refine i_79_83 (x := 30 + 3 * a.toNat) l2 ?_
                refine i_79_84 (v := Value.int (Int32.ofInt (S (30 + 3 * a.toNat) 1))) (hR.k2 (kd_reg (r := a.toNat) (by omega))) rfl ?_
                refine i_79_87 ?_
                refine i_79_88 (b_ne (a := S (30 + 3 * a.toNat) 1) (b := 2) ⟨by omega, by omega⟩ ⟨by decide, by decide⟩ fun c12 => absurd c12 (by omega)) (b_eq (a := S (30 + 3 * a.toNat) 1) (b := 2) ⟨by omega, by omega⟩ ⟨by decide, by decide⟩ fun c12 => ?_)
                refine i_79_91 (x := 30 + 3 * b.toNat) l3 ?_
                refine i_79_92 ?_
                have hobj := hR.k4 kq_94
                have ep : S (30 + 3 * b.toNat) 0 = S (30 + 3 * b.toNat) 0 := rfl
                have en : S (30 + 3 * b.toNat) 2 = S (30 + 3 * b.toNat) 2 := rfl
                have ex : S (30 + 3 * b.toNat) 3 = S (30 + 3 * b.toNat) 3 := rfl
                have ev : V ((30 + 3 * b.toNat) + 1) = V ((30 + 3 * b.toNat) + 1) := rfl
                obtain ⟨w, hrun, hR⟩ := x_tn (d := d + 5) (h := 94) (t := 30 + 3 * b.toNat) hR kq_94 (kd_reg (r := b.toNat) (by omega)) (by rw [en]; omega) (by rw [ev]; omega)
                rw [ep, en, ex, ev] at hR
                refine i_79_96 hobj (Nat.le_of_ble_eq_true rfl) hrun ?_
                refine i_79_99 (x := 93) l0 ?_
                refine i_79_100 (v := Value.ref 94) (hR.k8 kq_93) rfl ?_
                refine i_79_103 ?_
                refine i_79_104 (fs2 := f4 94 (u1 ((u2 (u2 (u2 S 94 0 (S (30 + 3 * b.toNat) 2)) 94 2 ((S (30 + 3 * b.toNat) 3) - (S (30 + 3 * b.toNat) 0))) 94 3 0) 94) 0 0)) (hR.k4 kq_94) rfl (Nat.le_of_ble_eq_true rfl) rfl (h7k kq_94 (by decide)) ?_
                refine xgen (P := cX w0 L Z (u2 (u2 (u2 (u2 S 94 0 (S (30 + 3 * b.toNat) 2)) 94 2 ((S (30 + 3 * b.toNat) 3) - (S (30 + 3 * b.toNat) 0))) 94 3 0) 94 0 0) (uv V 95 (V ((30 + 3 * b.toNat) + 1)))) (hR.p4 kq_94) (fun w hR => ?_)
                refine i_79_107 (x := 93) l0 ?_
                refine i_79_108 (v := Value.ref 78) (hR.k8 kq_93) rfl ?_
                refine i_79_111 (x := 30 + 3 * r.toNat) l1 ?_
                refine i_79_112 (x := 93) l0 ?_
                refine i_79_113 (v := Value.ref 94) (hR.k8 kq_93) rfl ?_
                refine i_79_116 (x := Int32.ofInt mode) l4 ?_
                have hobj := hR.k1 kq_78
                have ep : (u2 (u2 (u2 (u2 S 94 0 (S (30 + 3 * b.toNat) 2)) 94 2 ((S (30 + 3 * b.toNat) 3) - (S (30 + 3 * b.toNat) 0))) 94 3 0) 94 0 0) (30 + 3 * r.toNat) 0 = S (30 + 3 * r.toNat) 0 := by rw [u2_eq, if_neg (fun e => absurd e.1 (by omega)), u2_eq, if_neg (fun e => absurd e.2 (by decide)), u2_eq, if_neg (fun e => absurd e.2 (by decide)), u2_eq, if_neg (fun e => absurd e.1 (by omega))]
                have el : (u2 (u2 (u2 (u2 S 94 0 (S (30 + 3 * b.toNat) 2)) 94 2 ((S (30 + 3 * b.toNat) 3) - (S (30 + 3 * b.toNat) 0))) 94 3 0) 94 0 0) 78 0 = S 78 0 := by rw [u2_eq, if_neg (fun e => absurd e.1 (by decide)), u2_eq, if_neg (fun e => absurd e.2 (by decide)), u2_eq, if_neg (fun e => absurd e.2 (by decide)), u2_eq, if_neg (fun e => absurd e.1 (by decide))]
                have eg : (u2 (u2 (u2 (u2 S 94 0 (S (30 + 3 * b.toNat) 2)) 94 2 ((S (30 + 3 * b.toNat) 3) - (S (30 + 3 * b.toNat) 0))) 94 3 0) 94 0 0) 78 1 = S 78 1 := by rw [u2_eq, if_neg (fun e => absurd e.2 (by decide)), u2_eq, if_neg (fun e => absurd e.2 (by decide)), u2_eq, if_neg (fun e => absurd e.2 (by decide)), u2_eq, if_neg (fun e => absurd e.2 (by decide))]
                have ed : (u2 (u2 (u2 (u2 S 94 0 (S (30 + 3 * b.toNat) 2)) 94 2 ((S (30 + 3 * b.toNat) 3) - (S (30 + 3 * b.toNat) 0))) 94 3 0) 94 0 0) 78 2 = S 78 2 := by rw [u2_eq, if_neg (fun e => absurd e.2 (by decide)), u2_eq, if_neg (fun e => absurd e.2 (by decide)), u2_eq, if_neg (fun e => absurd e.1 (by decide)), u2_eq, if_neg (fun e => absurd e.2 (by decide))]
                have ef : (u2 (u2 (u2 (u2 S 94 0 (S (30 + 3 * b.toNat) 2)) 94 2 ((S (30 + 3 * b.toNat) 3) - (S (30 + 3 * b.toNat) 0))) 94 3 0) 94 0 0) 78 3 = S 78 3 := by rw [u2_eq, if_neg (fun e => absurd e.2 (by decide)), u2_eq, if_neg (fun e => absurd e.1 (by decide)), u2_eq, if_neg (fun e => absurd e.2 (by decide)), u2_eq, if_neg (fun e => absurd e.2 (by decide))]
                have es : (u2 (u2 (u2 (u2 S 94 0 (S (30 + 3 * b.toNat) 2)) 94 2 ((S (30 + 3 * b.toNat) 3) - (S (30 + 3 * b.toNat) 0))) 94 3 0) 94 0 0) 94 0 = 0 := by rw [u2_eq, if_pos ⟨rfl, rfl⟩]
                have ec : (u2 (u2 (u2 (u2 S 94 0 (S (30 + 3 * b.toNat) 2)) 94 2 ((S (30 + 3 * b.toNat) 3) - (S (30 + 3 * b.toNat) 0))) 94 3 0) 94 0 0) 94 2 = (S (30 + 3 * b.toNat) 3) - (S (30 + 3 * b.toNat) 0) := by rw [u2_eq, if_neg (fun e => absurd e.2 (by decide)), u2_eq, if_neg (fun e => absurd e.2 (by decide)), u2_eq, if_pos ⟨rfl, rfl⟩]
                have em : (u2 (u2 (u2 (u2 S 94 0 (S (30 + 3 * b.toNat) 2)) 94 2 ((S (30 + 3 * b.toNat) 3) - (S (30 + 3 * b.toNat) 0))) 94 3 0) 94 0 0) 94 3 = 0 := by rw [u2_eq, if_neg (fun e => absurd e.2 (by decide)), u2_eq, if_pos ⟨rfl, rfl⟩]
                have ev : (uv V 95 (V ((30 + 3 * b.toNat) + 1))) 95 = V ((30 + 3 * b.toNat) + 1) := uv_s
                obtain ⟨w, hrun, S14, V14, hR, hP⟩ := x_settle (d := d) (g := 78) (t := 30 + 3 * r.toNat) (h := 94) (mode := mode) hR kq_78 (kd_reg (r := r.toNat) (by omega)) kq_94 (by rw [ep]; omega) (by rw [es]; first | omega | exact bb_01 _) (by rw [em]; omega) (by omega) (by rw [ev]; first | exact hM0 | exact hm_a (by assumption) | exact hm_b (by omega) | exact hm_a (by omega)) (by rw [ev]; omega) (by rw [ec]; omega) (by rw [el, eg]; omega) (by rw [ed]; omega) (by rw [ep, el, ed, ev, ec, em]; first | exact fun _ _ => Or.inl rfl | (intro u hu; right; have := rU_ge (p := S2 (30 + 3 * r.toNat) 0) (least := S2 78 0) (gradual := S2 78 2) (free := 0) (x := (xbl (V2 95) : Int) + S2 94 2); rw [← hu] at this; omega))
                rw [ep, el, eg, ed, ef, es, ec, em, ev] at hrun hP
                refine i_79_118 hobj (Nat.le_of_ble_eq_true rfl) hrun ?_
                refine i_79_121 ?_
                have eo : sLen (vS S) (vV V) r.toNat a.toNat b.toNat mode = oR (S (30 + 3 * r.toNat) 0) (S 78 0) (S 78 1) (S 78 2) 0 mode 0 (V ((30 + 3 * b.toNat) + 1)) ((S (30 + 3 * b.toNat) 3) - (S (30 + 3 * b.toNat) 0)) (S 78 3) := by clear hR; simp only [sLen, sMove, vS_153, vS_154, vS_155, vS_156, vS_17, vS_18, vS_19, vS_20, vV_r]; grind
                rw [eo]
                exact ⟨rfl, _, _, hR, cP_round hP (by first | omega | exact bb_01 _) (nC.up (nC.up (nC.up (nC.up nC.refl (by unfold cKeep; omega) (by omega)) (by unfold cKeep; omega) (by omega)) (by unfold cKeep; omega) (by omega)) (by unfold cKeep; omega) (by omega)) (nW.up nW.refl (by omega)) (by omega)⟩
              · refine i_79_57 (x := 30 + 3 * r.toNat) l1 ?_
                refine i_79_58 ?_
                have hobj := hR.k2 (kd_reg (r := r.toNat) (by omega))
                obtain ⟨w, hrun, hR⟩ := x_zero (d := d + 8) (t := 30 + 3 * r.toNat) (sg := 0) hR (kd_reg (r := r.toNat) (by omega)) (by first | omega | exact bb_01 _)
                refine i_79_59 hobj (Nat.le_of_ble_eq_true rfl) hrun ?_
                refine i_79_62 ?_
                have eo : sLen (vS S) (vV V) r.toNat a.toNat b.toNat mode = oS 2 0 (S 78 3) := by clear hR; simp only [sLen, sMove, vS_153, vS_154, vS_155, vS_156, vS_17, vS_18, vS_19, vS_20, vV_r]; grind
                rw [eo]
                exact ⟨rfl, _, _, hR, cP_special (by first | omega | exact bb_01 _) (by decide) nC.refl nW.refl rfl (by omega)⟩
          · refine i_79_36 (x := 30 + 3 * r.toNat) l1 ?_
            have hobj := hR.k2 (kd_reg (r := r.toNat) (by omega))
            obtain ⟨w, hrun, hR⟩ := x_nan (d := d + 8) (t := 30 + 3 * r.toNat) hR (kd_reg (r := r.toNat) (by omega))
            refine i_79_37 hobj (Nat.le_of_ble_eq_true rfl) hrun ?_
            refine i_79_40 ?_
            have eo : sLen (vS S) (vV V) r.toNat a.toNat b.toNat mode = oS 0 0 (S 78 3) := by clear hR; simp only [sLen, sMove, vS_153, vS_154, vS_155, vS_156, vS_17, vS_18, vS_19, vS_20, vV_r]; grind
            rw [eo]
            exact ⟨rfl, _, _, hR, cP_special (by first | omega | exact bb_01 _) (by decide) nC.refl nW.refl rfl (by omega)⟩
      · refine i_79_16 (x := 30 + 3 * r.toNat) l1 ?_
        refine i_79_17 ?_
        have hobj := hR.k2 (kd_reg (r := r.toNat) (by omega))
        obtain ⟨w, hrun, hR⟩ := x_inf (d := d + 8) (t := 30 + 3 * r.toNat) (sg := 0) hR (kd_reg (r := r.toNat) (by omega)) (by first | omega | exact bb_01 _)
        refine i_79_18 hobj (Nat.le_of_ble_eq_true rfl) hrun ?_
        refine i_79_21 ?_
        have eo : sLen (vS S) (vV V) r.toNat a.toNat b.toNat mode = oS 1 0 (S 78 3) := by clear hR; simp only [sLen, sMove, vS_153, vS_154, vS_155, vS_156, vS_17, vS_18, vS_19, vS_20, vV_r]; grind
        rw [eo]
        exact ⟨rfl, _, _, hR, cP_special (by first | omega | exact bb_01 _) (by decide) nC.refl nW.refl rfl (by omega)⟩
  obtain ⟨o, w', h1, rfl, h2⟩ := (key (lv_args 0 [Value.ref 93, Value.ref (30 + 3 * r.toNat), Value.ref (30 + 3 * a.toNat), Value.ref (30 + 3 * b.toNat), Value.int (Int32.ofInt mode)]) rfl rfl rfl rfl rfl).run
  exact ⟨w', h1, h2⟩
end
