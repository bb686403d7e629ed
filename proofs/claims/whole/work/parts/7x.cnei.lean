/-! neighbours in the class: becomeLeast, stepOutward -/
def fC (S S' : Nat → Nat → Int) (V V' : Nat → Nat) (t : Nat) (sg : Int) (o : Int × Int × Nat) : Prop := S' t 1 = o.1 ∧ S' t 2 = sg ∧ (o.1 = 3 → S' t 3 = o.2.1 ∧ V' (t + 1) = o.2.2) ∧ (∀ b j, b ≠ 16 → ¬ (b = t ∧ (j = 1 ∨ j = 2 ∨ j = 3)) → S' b j = S b j) ∧ ∀ k, k ≠ 17 → k ≠ t + 1 → V' k = V k
section
variable {w0 w : xW} {L Z : Nat} {S : Nat → Nat → Int} {V : Nat → Nat} {d h t r : Nat}
set_option maxHeartbeats 4000000 in
theorem x_outw {r : Int} (hR : cX w0 L Z S V w) (hI : cI S V) (hr : 0 ≤ r ∧ r ≤ 15) (h3 : S (30 + 3 * r.toNat) 1 = 3) : ∃ w', xRun (d + 6) 119 [Value.ref 78, Value.ref (30 + 3 * r.toNat), Value.ref 16] w (.inl none) w' ∧ ∃ S' V', cX w0 L Z S' V' w' ∧ fC S S' V V' (30 + 3 * r.toNat) (S (30 + 3 * r.toNat) 2) (sFar (vS S) (vV V) r.toNat) := by
  have key : ∀ lv, xld lv 0 = some (Value.ref 78) → xld lv 1 = some (Value.ref (30 + 3 * r.toNat)) → xld lv 2 = some (Value.ref 16) → xEv (d + 6) 119 0 lv [] w (fun o w' => o = .inl none ∧ ∃ S' V', cX w0 L Z S' V' w' ∧ fC S S' V V' (30 + 3 * r.toNat) (S (30 + 3 * r.toNat) 2) (sFar (vS S) (vV V) r.toNat)) := by
    intro lv l0 l1 l2
    obtain ⟨hp_r, hk_r, hn_r, ht_r, hx_r, hz_r⟩ := hI.1 r.toNat (by omega)
    have hi_l := hI.2.1
    have hi_g := hI.2.2.1
    have hm_r := hI.nz (by omega) h3
    have hzr := hz_r h3
    refine i_119_0 (x := 30 + 3 * r.toNat) l1 ?_
    refine i_119_1 (v := Value.int (Int32.ofInt (S (30 + 3 * r.toNat) 2))) (hR.k2 (kd_reg (r := r.toNat) (by omega))) rfl ?_
    refine i_119_4 rfl ?_
    refine lgen1 (i := 3) (v := Value.int (Int32.ofInt (S (30 + 3 * r.toNat) 2))) (fun lv lg ls => ?_)
    replace l0 := lg 0 _ rfl rfl l0
    replace l1 := lg 1 _ rfl rfl l1
    replace l2 := lg 2 _ rfl rfl l2
    have l3 := ls
    refine i_119_5 (x := 30 + 3 * r.toNat) l1 ?_
    refine i_119_6 (v := Value.int (Int32.ofInt (S (30 + 3 * r.toNat) 3))) (hR.k2 (kd_reg (r := r.toNat) (by omega))) rfl ?_
    refine i_119_9 (x := 78) l0 ?_
    refine i_119_10 (v := Value.int (Int32.ofInt (S 78 0))) (hR.k1 kq_78) rfl ?_
    refine i_119_13 (b_le (a := S 78 0) (b := S (30 + 3 * r.toNat) 3) ⟨by omega, by omega⟩ ⟨by omega, by omega⟩ fun c0 => ?_) (b_lt (a := S (30 + 3 * r.toNat) 3) (b := S 78 0) ⟨by omega, by omega⟩ ⟨by omega, by omega⟩ fun c0 => ?_)
    · refine i_119_33 (x := 30 + 3 * r.toNat) l1 ?_
      refine i_119_34 (v := Value.int (Int32.ofInt (S (30 + 3 * r.toNat) 3))) (hR.k2 (kd_reg (r := r.toNat) (by omega))) rfl ?_
      refine i_119_37 (x := 78) l0 ?_
      refine i_119_38 (v := Value.int (Int32.ofInt (S 78 1))) (hR.k1 kq_78) rfl ?_
      refine i_119_41 (b_lt (a := S 78 1) (b := S (30 + 3 * r.toNat) 3) ⟨by omega, by omega⟩ ⟨by omega, by omega⟩ fun c1 => ?_) (b_le (a := S (30 + 3 * r.toNat) 3) (b := S 78 1) ⟨by omega, by omega⟩ ⟨by omega, by omega⟩ fun c1 => ?_)
      · refine i_119_67 (x := 30 + 3 * r.toNat) l1 ?_
        refine i_119_68 (v := Value.int (Int32.ofInt (S (30 + 3 * r.toNat) 3))) (hR.k2 (kd_reg (r := r.toNat) (by omega))) rfl ?_
        refine i_119_71 (x := 78) l0 ?_
        refine i_119_72 (v := Value.int (Int32.ofInt (S 78 1))) (hR.k1 kq_78) rfl ?_
        refine i_119_75 (b_le (a := S (30 + 3 * r.toNat) 3) (b := S 78 1) ⟨by omega, by omega⟩ ⟨by omega, by omega⟩ fun c2 => absurd c2 (by omega)) (b_lt (a := S 78 1) (b := S (30 + 3 * r.toNat) 3) ⟨by omega, by omega⟩ ⟨by omega, by omega⟩ fun c2 => ?_)
        refine i_119_78 (x := 30 + 3 * r.toNat) l1 ?_
        refine i_119_79 (x := Int32.ofInt (S (30 + 3 * r.toNat) 2)) l3 ?_
        have hobj := hR.k2 (kd_reg (r := r.toNat) (by omega))
        obtain ⟨w, hrun, hR⟩ := x_inf (d := d + 4) (t := 30 + 3 * r.toNat) (sg := S (30 + 3 * r.toNat) 2) hR (kd_reg (r := r.toNat) (by omega)) (by first | omega | exact bb_01 _)
        refine i_119_80 hobj (Nat.le_of_ble_eq_true rfl) hrun ?_
        refine i_119_83 rfl ?_
        refine i_119_84 ?_
        have eo : sFar (vS S) (vV V) r.toNat = (1, 0, 0) := by simp only [sFar, vS_153, vS_154, vS_155, vS_156, vS_17, vS_18, vS_19, vS_20, vV_r]; rw [if_pos (by omega)]
        rw [eo]
        exact ⟨rfl, _, _, hR, by rw [u2_eq, if_neg (fun e => absurd e.2 (by decide)), u2_eq, if_pos ⟨rfl, rfl⟩], by rw [u2_eq, if_pos ⟨rfl, rfl⟩], fun e => absurd (show (1 : Int) = 3 from e) (by decide), fun b j g1 g2 => by rw [u2_eq, if_neg (fun e => g2 ⟨e.1, by rw [e.2]; decide⟩), u2_eq, if_neg (fun e => g2 ⟨e.1, by rw [e.2]; decide⟩)], fun k g1 g2 => rfl⟩
      · refine i_119_44 (x := 16) l2 ?_
        refine i_119_45 (x := 30 + 3 * r.toNat) l1 ?_
        have hobj := hR.k4 kq_16
        have ep : S (30 + 3 * r.toNat) 0 = S (30 + 3 * r.toNat) 0 := rfl
        have en : S (30 + 3 * r.toNat) 2 = S (30 + 3 * r.toNat) 2 := rfl
        have ex : S (30 + 3 * r.toNat) 3 = S (30 + 3 * r.toNat) 3 := rfl
        have ev : V ((30 + 3 * r.toNat) + 1) = V ((30 + 3 * r.toNat) + 1) := rfl
        obtain ⟨w, hrun, hR⟩ := x_tn (d := d + 1) (h := 16) (t := 30 + 3 * r.toNat) hR kq_16 (kd_reg (r := r.toNat) (by omega)) (by rw [en]; omega) (by rw [ev]; omega)
        rw [ep, en, ex, ev] at hR
        refine i_119_46 hobj (Nat.le_of_ble_eq_true rfl) hrun ?_
        refine i_119_49 (x := 30 + 3 * r.toNat) l1 ?_
        refine i_119_50 (x := 16) l2 ?_
        refine i_119_51 (x := 78) l0 ?_
        refine i_119_52 (x := 30 + 3 * r.toNat) l1 ?_
        refine i_119_53 (v := Value.int (Int32.ofInt ((u2 (u2 (u2 S 16 0 (S (30 + 3 * r.toNat) 2)) 16 2 ((S (30 + 3 * r.toNat) 3) - (S (30 + 3 * r.toNat) 0))) 16 3 0) (30 + 3 * r.toNat) 3))) (hR.k2 (kd_reg (r := r.toNat) (by omega))) rfl ?_
        rw [show Int32.ofInt ((u2 (u2 (u2 S 16 0 (S (30 + 3 * r.toNat) 2)) 16 2 ((S (30 + 3 * r.toNat) 3) - (S (30 + 3 * r.toNat) 0))) 16 3 0) (30 + 3 * r.toNat) 3) = Int32.ofInt (S (30 + 3 * r.toNat) 3) by rw [u2_eq, if_neg (fun e => absurd e.1 (by omega)), u2_eq, if_neg (fun e => absurd e.2 (by decide)), u2_eq, if_neg (fun e => absurd e.2 (by decide))]]
        refine i_119_56 (x := 30 + 3 * r.toNat) l1 ?_
        refine i_119_57 (v := Value.int (Int32.ofInt ((u2 (u2 (u2 S 16 0 (S (30 + 3 * r.toNat) 2)) 16 2 ((S (30 + 3 * r.toNat) 3) - (S (30 + 3 * r.toNat) 0))) 16 3 0) (30 + 3 * r.toNat) 0))) (hR.k2 (kd_reg (r := r.toNat) (by omega))) rfl ?_
        rw [show Int32.ofInt ((u2 (u2 (u2 S 16 0 (S (30 + 3 * r.toNat) 2)) 16 2 ((S (30 + 3 * r.toNat) 3) - (S (30 + 3 * r.toNat) 0))) 16 3 0) (30 + 3 * r.toNat) 0) = Int32.ofInt (S (30 + 3 * r.toNat) 0) by rw [u2_eq, if_neg (fun e => absurd e.2 (by decide)), u2_eq, if_neg (fun e => absurd e.2 (by decide)), u2_eq, if_neg (fun e => absurd e.1 (by omega))]]
        have hobj := hR.k1 kq_78
        have el : (u2 (u2 (u2 S 16 0 (S (30 + 3 * r.toNat) 2)) 16 2 ((S (30 + 3 * r.toNat) 3) - (S (30 + 3 * r.toNat) 0))) 16 3 0) 78 0 = S 78 0 := by rw [u2_eq, if_neg (fun e => absurd e.2 (by decide)), u2_eq, if_neg (fun e => absurd e.2 (by decide)), u2_eq, if_neg (fun e => absurd e.1 (by decide))]
        have ed : (u2 (u2 (u2 S 16 0 (S (30 + 3 * r.toNat) 2)) 16 2 ((S (30 + 3 * r.toNat) 3) - (S (30 + 3 * r.toNat) 0))) 16 3 0) 78 2 = S 78 2 := by rw [u2_eq, if_neg (fun e => absurd e.2 (by decide)), u2_eq, if_neg (fun e => absurd e.1 (by decide)), u2_eq, if_neg (fun e => absurd e.2 (by decide))]
        have hrun := x_unit (d := d + 5) (g := 78) (x := S (30 + 3 * r.toNat) 3) (p := S (30 + 3 * r.toNat) 0) hR kq_78 ⟨by omega, by omega⟩ (by rw [el]; omega) (by rw [ed]; omega)
        rw [el, ed] at hrun
        have hub := rU_b (p := S (30 + 3 * r.toNat) 0) (least := S 78 0) (gradual := S 78 2) (free := 0) (x := S (30 + 3 * r.toNat) 3)
        obtain ⟨u, hu⟩ : ∃ u : Int, u = rU (S (30 + 3 * r.toNat) 0) (S 78 0) (S 78 2) 0 (S (30 + 3 * r.toNat) 3) := ⟨_, rfl⟩
        rw [← hu] at hrun hub
        have hu2 : (S (30 + 3 * r.toNat) 3 < S 78 0 ∧ u = S 78 0 - S (30 + 3 * r.toNat) 0) ∨ (S 78 0 ≤ S (30 + 3 * r.toNat) 3 ∧ u = S (30 + 3 * r.toNat) 3 - S (30 + 3 * r.toNat) 0) := by
          unfold rU at hu
          by_cases g : S (30 + 3 * r.toNat) 3 < S 78 0
          · rw [if_pos ⟨rfl, by omega, g⟩] at hu; exact Or.inl ⟨g, hu⟩
          · rw [if_neg (fun e => g e.2.2)] at hu; exact Or.inr ⟨by omega, hu⟩
        refine i_119_60 hobj (Nat.le_of_ble_eq_true rfl) hrun ?_
        refine i_119_63 ?_
        have hobj := hR.k2 (kd_reg (r := r.toNat) (by omega))
        have ep : (u2 (u2 (u2 S 16 0 (S (30 + 3 * r.toNat) 2)) 16 2 ((S (30 + 3 * r.toNat) 3) - (S (30 + 3 * r.toNat) 0))) 16 3 0) (30 + 3 * r.toNat) 0 = S (30 + 3 * r.toNat) 0 := by rw [u2_eq, if_neg (fun e => absurd e.2 (by decide)), u2_eq, if_neg (fun e => absurd e.2 (by decide)), u2_eq, if_neg (fun e => absurd e.1 (by omega))]
        have es : (u2 (u2 (u2 S 16 0 (S (30 + 3 * r.toNat) 2)) 16 2 ((S (30 + 3 * r.toNat) 3) - (S (30 + 3 * r.toNat) 0))) 16 3 0) 16 0 = S (30 + 3 * r.toNat) 2 := by rw [u2_eq, if_neg (fun e => absurd e.2 (by decide)), u2_eq, if_neg (fun e => absurd e.2 (by decide)), u2_eq, if_pos ⟨rfl, rfl⟩]
        have ec : (u2 (u2 (u2 S 16 0 (S (30 + 3 * r.toNat) 2)) 16 2 ((S (30 + 3 * r.toNat) 3) - (S (30 + 3 * r.toNat) 0))) 16 3 0) 16 2 = (S (30 + 3 * r.toNat) 3) - (S (30 + 3 * r.toNat) 0) := by rw [u2_eq, if_neg (fun e => absurd e.2 (by decide)), u2_eq, if_pos ⟨rfl, rfl⟩]
        have ev : (uv V 17 (V ((30 + 3 * r.toNat) + 1))) 17 = V ((30 + 3 * r.toNat) + 1) := uv_s
        obtain ⟨w, hrun, S2, V2, hR, hB⟩ := x_mult (d := d) (t := 30 + 3 * r.toNat) (h := 16) (unit := u) (og := 1) hR (kd_reg (r := r.toNat) (by omega)) kq_16 (by omega) (by omega) (by omega) (by rw [ep]; omega) (by rw [es]; omega) (by omega) (by rw [ev]; exact hm_r) (by rw [ev]; omega) (by rw [ec]; omega) ⟨by omega, by omega⟩ (by rw [ev, ec, ep]; omega)
        rw [ev, ec, es] at hB
        obtain ⟨b1, b2, b3, b4, b5⟩ := hB
        rw [ep] at b3
        obtain ⟨q, hq⟩ : ∃ q, q = rq (V ((30 + 3 * r.toNat) + 1)) (u - ((S (30 + 3 * r.toNat) 3) - (S (30 + 3 * r.toNat) 0))) + (1 : Int).toNat := ⟨_, rfl⟩
        rw [← hq] at b1 b3
        have fr : ∀ b j, b ≠ 16 → ¬ (b = 30 + 3 * r.toNat ∧ (j = 1 ∨ j = 2 ∨ j = 3)) → S2 b j = S b j := fun b j g1 g2 => by rw [b4 b j g2, u2_eq, if_neg (fun e => g1 e.1), u2_eq, if_neg (fun e => g1 e.1), u2_eq, if_neg (fun e => g1 e.1)]
        have frV : ∀ k, k ≠ 17 → k ≠ 30 + 3 * r.toNat + 1 → V2 k = V k := fun k g1 g2 => by rw [b5 k g2, uv_n g1]
        have fr0 : S2 78 0 = S 78 0 := fr _ _ (by decide) (by omega)
        have fr1 : S2 78 1 = S 78 1 := fr _ _ (by decide) (by omega)
        have hq0 : q ≠ 0 := by rw [hq]; show _ + 1 ≠ 0; omega
        rw [if_neg hq0] at b1
        replace b3 := b3 hq0
        have fr3 := b3.1
        have hq1 : S (30 + 3 * r.toNat) 3 < S 78 0 → q = V (30 + 3 * r.toNat + 1) / 2 ^ (S 78 0 - S (30 + 3 * r.toNat) 3).toNat + 1 := fun g => by
          rw [hq]; unfold rq; rw [if_pos (by omega), show (u - (S (30 + 3 * r.toNat) 3 - S (30 + 3 * r.toNat) 0)).toNat = (S 78 0 - S (30 + 3 * r.toNat) 3).toNat by omega]; rfl
        have hq2 : S 78 0 ≤ S (30 + 3 * r.toNat) 3 → q = V (30 + 3 * r.toNat + 1) + 1 := fun g => by
          rw [hq]; unfold rq; rw [if_neg (by omega), show (-(u - (S (30 + 3 * r.toNat) 3 - S (30 + 3 * r.toNat) 0))).toNat = 0 by omega, Nat.pow_zero, Nat.mul_one]; rfl
        have hqb : S (30 + 3 * r.toNat) 3 < S 78 0 → (xbl q : Int) + u ≤ S 78 0 := fun g => by
          rw [hq1 g]; have := xbl_add (a := V (30 + 3 * r.toNat + 1) / 2 ^ (S 78 0 - S (30 + 3 * r.toNat) 3).toNat) (b := 1) (n := max (xbl (V (30 + 3 * r.toNat + 1)) - (S 78 0 - S (30 + 3 * r.toNat) 3).toNat) 1) (by rw [xbl_div]; omega) (by rw [show xbl 1 = 1 from rfl]; omega); omega
        have hqc : (S (30 + 3 * r.toNat) 3 < S 78 0 ∧ (xbl q : Int) + u ≤ S 78 0) ∨ S 78 0 ≤ S (30 + 3 * r.toNat) 3 := by
          by_cases g : S (30 + 3 * r.toNat) 3 < S 78 0
          · exact Or.inl ⟨g, hqb g⟩
          · exact Or.inr (by omega)
        have hqs : (xbl q : Int) ≤ 4098 := by
          have h1 := xbl_add (a := V (30 + 3 * r.toNat + 1)) (b := 1) (n := 4096) (by omega) (by decide)
          have h2 : q ≤ V (30 + 3 * r.toNat + 1) + 1 := by
            by_cases g : S (30 + 3 * r.toNat) 3 < S 78 0
            · rw [hq1 g]; exact Nat.succ_le_succ (Nat.div_le_self _ _)
            · rw [hq2 (by omega)]; exact Nat.le_refl _
          have h3 := xbl_mono h2
          omega
        refine i_119_64 hobj (Nat.le_of_ble_eq_true rfl) hrun ?_
        refine i_119_67 (x := 30 + 3 * r.toNat) l1 ?_
        refine i_119_68 (v := Value.int (Int32.ofInt (S2 (30 + 3 * r.toNat) 3))) (hR.k2 (kd_reg (r := r.toNat) (by omega))) rfl ?_
        rw [fr3]
        refine i_119_71 (x := 78) l0 ?_
        refine i_119_72 (v := Value.int (Int32.ofInt (S2 78 1))) (hR.k1 kq_78) rfl ?_
        rw [fr1]
        refine i_119_75 (b_le (a := (xbl q : Int) + u) (b := S 78 1) ⟨by omega, by omega⟩ ⟨by omega, by omega⟩ fun c3 => ?_) (b_lt (a := S 78 1) (b := (xbl q : Int) + u) ⟨by omega, by omega⟩ ⟨by omega, by omega⟩ fun c3 => ?_)
        · refine i_119_84 ?_
          have eo : sFar (vS S) (vV V) r.toNat = (3, (xbl q : Int) + u, nrm q (S (30 + 3 * r.toNat) 0)) := by
            simp only [sFar, vS_153, vS_154, vS_155, vS_156, vS_17, vS_18, vS_19, vS_20, vV_r]
            by_cases hlt : S (30 + 3 * r.toNat) 3 < S 78 0
            · rw [if_neg (by omega), if_pos hlt, if_neg (by omega), ← hq1 hlt, show u = S 78 0 - S (30 + 3 * r.toNat) 0 by omega]; rfl
            · rw [if_neg (by omega), if_neg hlt, ← hq2 (by omega), show u = S (30 + 3 * r.toNat) 3 - S (30 + 3 * r.toNat) 0 by omega, if_neg (by omega)]; rfl
          rw [eo]
          exact ⟨rfl, _, _, hR, b1, b2, fun _ => b3, fr, fun k g1 g2 => frV k g1 g2⟩
        · refine i_119_78 (x := 30 + 3 * r.toNat) l1 ?_
          refine i_119_79 (x := Int32.ofInt (S (30 + 3 * r.toNat) 2)) l3 ?_
          have hobj := hR.k2 (kd_reg (r := r.toNat) (by omega))
          obtain ⟨w, hrun, hR⟩ := x_inf (d := d + 4) (t := 30 + 3 * r.toNat) (sg := S (30 + 3 * r.toNat) 2) hR (kd_reg (r := r.toNat) (by omega)) (by first | omega | exact bb_01 _)
          refine i_119_80 hobj (Nat.le_of_ble_eq_true rfl) hrun ?_
          refine i_119_83 rfl ?_
          refine i_119_84 ?_
          have eo : sFar (vS S) (vV V) r.toNat = (1, 0, 0) := by simp only [sFar, vS_153, vS_154, vS_155, vS_156, vS_17, vS_18, vS_19, vS_20, vV_r]; rw [if_neg (by omega), if_neg (by omega), if_pos (by rw [← hq2 (by omega)]; omega)]
          rw [eo]
          exact ⟨rfl, _, _, hR, by rw [u2_eq, if_neg (fun e => absurd e.2 (by decide)), u2_eq, if_pos ⟨rfl, rfl⟩], by rw [u2_eq, if_pos ⟨rfl, rfl⟩], fun e => absurd (show (1 : Int) = 3 from e) (by decide), fun b j g1 g2 => by rw [u2_eq, if_neg (fun e => g2 ⟨e.1, by rw [e.2]; decide⟩), u2_eq, if_neg (fun e => g2 ⟨e.1, by rw [e.2]; decide⟩)]; exact fr b j g1 g2, fun k g1 g2 => frV k g1 g2⟩
    · refine i_119_16 (x := 78) l0 ?_
      refine i_119_17 (v := Value.int (Int32.ofInt (S 78 2))) (hR.k1 kq_78) rfl ?_
      refine i_119_20 (z_ne (a := S 78 2) ⟨by omega, by omega⟩ fun c4 => ?_) (z_eq (a := S 78 2) ⟨by omega, by omega⟩ fun c4 => ?_)
      · refine i_119_33 (x := 30 + 3 * r.toNat) l1 ?_
        refine i_119_34 (v := Value.int (Int32.ofInt (S (30 + 3 * r.toNat) 3))) (hR.k2 (kd_reg (r := r.toNat) (by omega))) rfl ?_
        refine i_119_37 (x := 78) l0 ?_
        refine i_119_38 (v := Value.int (Int32.ofInt (S 78 1))) (hR.k1 kq_78) rfl ?_
        refine i_119_41 (b_lt (a := S 78 1) (b := S (30 + 3 * r.toNat) 3) ⟨by omega, by omega⟩ ⟨by omega, by omega⟩ fun c5 => ?_) (b_le (a := S (30 + 3 * r.toNat) 3) (b := S 78 1) ⟨by omega, by omega⟩ ⟨by omega, by omega⟩ fun c5 => ?_)
        · refine i_119_67 (x := 30 + 3 * r.toNat) l1 ?_
          refine i_119_68 (v := Value.int (Int32.ofInt (S (30 + 3 * r.toNat) 3))) (hR.k2 (kd_reg (r := r.toNat) (by omega))) rfl ?_
          refine i_119_71 (x := 78) l0 ?_
          refine i_119_72 (v := Value.int (Int32.ofInt (S 78 1))) (hR.k1 kq_78) rfl ?_
          refine i_119_75 (b_le (a := S (30 + 3 * r.toNat) 3) (b := S 78 1) ⟨by omega, by omega⟩ ⟨by omega, by omega⟩ fun c6 => absurd c6 (by omega)) (b_lt (a := S 78 1) (b := S (30 + 3 * r.toNat) 3) ⟨by omega, by omega⟩ ⟨by omega, by omega⟩ fun c6 => ?_)
          refine i_119_78 (x := 30 + 3 * r.toNat) l1 ?_
          refine i_119_79 (x := Int32.ofInt (S (30 + 3 * r.toNat) 2)) l3 ?_
          have hobj := hR.k2 (kd_reg (r := r.toNat) (by omega))
          obtain ⟨w, hrun, hR⟩ := x_inf (d := d + 4) (t := 30 + 3 * r.toNat) (sg := S (30 + 3 * r.toNat) 2) hR (kd_reg (r := r.toNat) (by omega)) (by first | omega | exact bb_01 _)
          refine i_119_80 hobj (Nat.le_of_ble_eq_true rfl) hrun ?_
          refine i_119_83 rfl ?_
          refine i_119_84 ?_
          have eo : sFar (vS S) (vV V) r.toNat = (1, 0, 0) := by simp only [sFar, vS_153, vS_154, vS_155, vS_156, vS_17, vS_18, vS_19, vS_20, vV_r]; rw [if_pos (by omega)]
          rw [eo]
          exact ⟨rfl, _, _, hR, by rw [u2_eq, if_neg (fun e => absurd e.2 (by decide)), u2_eq, if_pos ⟨rfl, rfl⟩], by rw [u2_eq, if_pos ⟨rfl, rfl⟩], fun e => absurd (show (1 : Int) = 3 from e) (by decide), fun b j g1 g2 => by rw [u2_eq, if_neg (fun e => g2 ⟨e.1, by rw [e.2]; decide⟩), u2_eq, if_neg (fun e => g2 ⟨e.1, by rw [e.2]; decide⟩)], fun k g1 g2 => rfl⟩
        · refine i_119_44 (x := 16) l2 ?_
          refine i_119_45 (x := 30 + 3 * r.toNat) l1 ?_
          have hobj := hR.k4 kq_16
          have ep : S (30 + 3 * r.toNat) 0 = S (30 + 3 * r.toNat) 0 := rfl
          have en : S (30 + 3 * r.toNat) 2 = S (30 + 3 * r.toNat) 2 := rfl
          have ex : S (30 + 3 * r.toNat) 3 = S (30 + 3 * r.toNat) 3 := rfl
          have ev : V ((30 + 3 * r.toNat) + 1) = V ((30 + 3 * r.toNat) + 1) := rfl
          obtain ⟨w, hrun, hR⟩ := x_tn (d := d + 1) (h := 16) (t := 30 + 3 * r.toNat) hR kq_16 (kd_reg (r := r.toNat) (by omega)) (by rw [en]; omega) (by rw [ev]; omega)
          rw [ep, en, ex, ev] at hR
          refine i_119_46 hobj (Nat.le_of_ble_eq_true rfl) hrun ?_
          refine i_119_49 (x := 30 + 3 * r.toNat) l1 ?_
          refine i_119_50 (x := 16) l2 ?_
          refine i_119_51 (x := 78) l0 ?_
          refine i_119_52 (x := 30 + 3 * r.toNat) l1 ?_
          refine i_119_53 (v := Value.int (Int32.ofInt ((u2 (u2 (u2 S 16 0 (S (30 + 3 * r.toNat) 2)) 16 2 ((S (30 + 3 * r.toNat) 3) - (S (30 + 3 * r.toNat) 0))) 16 3 0) (30 + 3 * r.toNat) 3))) (hR.k2 (kd_reg (r := r.toNat) (by omega))) rfl ?_
          rw [show Int32.ofInt ((u2 (u2 (u2 S 16 0 (S (30 + 3 * r.toNat) 2)) 16 2 ((S (30 + 3 * r.toNat) 3) - (S (30 + 3 * r.toNat) 0))) 16 3 0) (30 + 3 * r.toNat) 3) = Int32.ofInt (S (30 + 3 * r.toNat) 3) by rw [u2_eq, if_neg (fun e => absurd e.1 (by omega)), u2_eq, if_neg (fun e => absurd e.2 (by decide)), u2_eq, if_neg (fun e => absurd e.2 (by decide))]]
          refine i_119_56 (x := 30 + 3 * r.toNat) l1 ?_
          refine i_119_57 (v := Value.int (Int32.ofInt ((u2 (u2 (u2 S 16 0 (S (30 + 3 * r.toNat) 2)) 16 2 ((S (30 + 3 * r.toNat) 3) - (S (30 + 3 * r.toNat) 0))) 16 3 0) (30 + 3 * r.toNat) 0))) (hR.k2 (kd_reg (r := r.toNat) (by omega))) rfl ?_
          rw [show Int32.ofInt ((u2 (u2 (u2 S 16 0 (S (30 + 3 * r.toNat) 2)) 16 2 ((S (30 + 3 * r.toNat) 3) - (S (30 + 3 * r.toNat) 0))) 16 3 0) (30 + 3 * r.toNat) 0) = Int32.ofInt (S (30 + 3 * r.toNat) 0) by rw [u2_eq, if_neg (fun e => absurd e.2 (by decide)), u2_eq, if_neg (fun e => absurd e.2 (by decide)), u2_eq, if_neg (fun e => absurd e.1 (by omega))]]
          have hobj := hR.k1 kq_78
          have el : (u2 (u2 (u2 S 16 0 (S (30 + 3 * r.toNat) 2)) 16 2 ((S (30 + 3 * r.toNat) 3) - (S (30 + 3 * r.toNat) 0))) 16 3 0) 78 0 = S 78 0 := by rw [u2_eq, if_neg (fun e => absurd e.2 (by decide)), u2_eq, if_neg (fun e => absurd e.2 (by decide)), u2_eq, if_neg (fun e => absurd e.1 (by decide))]
          have ed : (u2 (u2 (u2 S 16 0 (S (30 + 3 * r.toNat) 2)) 16 2 ((S (30 + 3 * r.toNat) 3) - (S (30 + 3 * r.toNat) 0))) 16 3 0) 78 2 = S 78 2 := by rw [u2_eq, if_neg (fun e => absurd e.2 (by decide)), u2_eq, if_neg (fun e => absurd e.1 (by decide)), u2_eq, if_neg (fun e => absurd e.2 (by decide))]
          have hrun := x_unit (d := d + 5) (g := 78) (x := S (30 + 3 * r.toNat) 3) (p := S (30 + 3 * r.toNat) 0) hR kq_78 ⟨by omega, by omega⟩ (by rw [el]; omega) (by rw [ed]; omega)
          rw [el, ed] at hrun
          have hub := rU_b (p := S (30 + 3 * r.toNat) 0) (least := S 78 0) (gradual := S 78 2) (free := 0) (x := S (30 + 3 * r.toNat) 3)
          obtain ⟨u, hu⟩ : ∃ u : Int, u = rU (S (30 + 3 * r.toNat) 0) (S 78 0) (S 78 2) 0 (S (30 + 3 * r.toNat) 3) := ⟨_, rfl⟩
          rw [← hu] at hrun hub
          have hu2 : (S (30 + 3 * r.toNat) 3 < S 78 0 ∧ u = S 78 0 - S (30 + 3 * r.toNat) 0) ∨ (S 78 0 ≤ S (30 + 3 * r.toNat) 3 ∧ u = S (30 + 3 * r.toNat) 3 - S (30 + 3 * r.toNat) 0) := by
            unfold rU at hu
            by_cases g : S (30 + 3 * r.toNat) 3 < S 78 0
            · rw [if_pos ⟨rfl, by omega, g⟩] at hu; exact Or.inl ⟨g, hu⟩
            · rw [if_neg (fun e => g e.2.2)] at hu; exact Or.inr ⟨by omega, hu⟩
          refine i_119_60 hobj (Nat.le_of_ble_eq_true rfl) hrun ?_
          refine i_119_63 ?_
          have hobj := hR.k2 (kd_reg (r := r.toNat) (by omega))
          have ep : (u2 (u2 (u2 S 16 0 (S (30 + 3 * r.toNat) 2)) 16 2 ((S (30 + 3 * r.toNat) 3) - (S (30 + 3 * r.toNat) 0))) 16 3 0) (30 + 3 * r.toNat) 0 = S (30 + 3 * r.toNat) 0 := by rw [u2_eq, if_neg (fun e => absurd e.2 (by decide)), u2_eq, if_neg (fun e => absurd e.2 (by decide)), u2_eq, if_neg (fun e => absurd e.1 (by omega))]
          have es : (u2 (u2 (u2 S 16 0 (S (30 + 3 * r.toNat) 2)) 16 2 ((S (30 + 3 * r.toNat) 3) - (S (30 + 3 * r.toNat) 0))) 16 3 0) 16 0 = S (30 + 3 * r.toNat) 2 := by rw [u2_eq, if_neg (fun e => absurd e.2 (by decide)), u2_eq, if_neg (fun e => absurd e.2 (by decide)), u2_eq, if_pos ⟨rfl, rfl⟩]
          have ec : (u2 (u2 (u2 S 16 0 (S (30 + 3 * r.toNat) 2)) 16 2 ((S (30 + 3 * r.toNat) 3) - (S (30 + 3 * r.toNat) 0))) 16 3 0) 16 2 = (S (30 + 3 * r.toNat) 3) - (S (30 + 3 * r.toNat) 0) := by rw [u2_eq, if_neg (fun e => absurd e.2 (by decide)), u2_eq, if_pos ⟨rfl, rfl⟩]
          have ev : (uv V 17 (V ((30 + 3 * r.toNat) + 1))) 17 = V ((30 + 3 * r.toNat) + 1) := uv_s
          obtain ⟨w, hrun, S2, V2, hR, hB⟩ := x_mult (d := d) (t := 30 + 3 * r.toNat) (h := 16) (unit := u) (og := 1) hR (kd_reg (r := r.toNat) (by omega)) kq_16 (by omega) (by omega) (by omega) (by rw [ep]; omega) (by rw [es]; omega) (by omega) (by rw [ev]; exact hm_r) (by rw [ev]; omega) (by rw [ec]; omega) ⟨by omega, by omega⟩ (by rw [ev, ec, ep]; omega)
          rw [ev, ec, es] at hB
          obtain ⟨b1, b2, b3, b4, b5⟩ := hB
          rw [ep] at b3
          obtain ⟨q, hq⟩ : ∃ q, q = rq (V ((30 + 3 * r.toNat) + 1)) (u - ((S (30 + 3 * r.toNat) 3) - (S (30 + 3 * r.toNat) 0))) + (1 : Int).toNat := ⟨_, rfl⟩
          rw [← hq] at b1 b3
          have fr : ∀ b j, b ≠ 16 → ¬ (b = 30 + 3 * r.toNat ∧ (j = 1 ∨ j = 2 ∨ j = 3)) → S2 b j = S b j := fun b j g1 g2 => by rw [b4 b j g2, u2_eq, if_neg (fun e => g1 e.1), u2_eq, if_neg (fun e => g1 e.1), u2_eq, if_neg (fun e => g1 e.1)]
          have frV : ∀ k, k ≠ 17 → k ≠ 30 + 3 * r.toNat + 1 → V2 k = V k := fun k g1 g2 => by rw [b5 k g2, uv_n g1]
          have fr0 : S2 78 0 = S 78 0 := fr _ _ (by decide) (by omega)
          have fr1 : S2 78 1 = S 78 1 := fr _ _ (by decide) (by omega)
          have hq0 : q ≠ 0 := by rw [hq]; show _ + 1 ≠ 0; omega
          rw [if_neg hq0] at b1
          replace b3 := b3 hq0
          have fr3 := b3.1
          have hq1 : S (30 + 3 * r.toNat) 3 < S 78 0 → q = V (30 + 3 * r.toNat + 1) / 2 ^ (S 78 0 - S (30 + 3 * r.toNat) 3).toNat + 1 := fun g => by
            rw [hq]; unfold rq; rw [if_pos (by omega), show (u - (S (30 + 3 * r.toNat) 3 - S (30 + 3 * r.toNat) 0)).toNat = (S 78 0 - S (30 + 3 * r.toNat) 3).toNat by omega]; rfl
          have hq2 : S 78 0 ≤ S (30 + 3 * r.toNat) 3 → q = V (30 + 3 * r.toNat + 1) + 1 := fun g => by
            rw [hq]; unfold rq; rw [if_neg (by omega), show (-(u - (S (30 + 3 * r.toNat) 3 - S (30 + 3 * r.toNat) 0))).toNat = 0 by omega, Nat.pow_zero, Nat.mul_one]; rfl
          have hqb : S (30 + 3 * r.toNat) 3 < S 78 0 → (xbl q : Int) + u ≤ S 78 0 := fun g => by
            rw [hq1 g]; have := xbl_add (a := V (30 + 3 * r.toNat + 1) / 2 ^ (S 78 0 - S (30 + 3 * r.toNat) 3).toNat) (b := 1) (n := max (xbl (V (30 + 3 * r.toNat + 1)) - (S 78 0 - S (30 + 3 * r.toNat) 3).toNat) 1) (by rw [xbl_div]; omega) (by rw [show xbl 1 = 1 from rfl]; omega); omega
          have hqc : (S (30 + 3 * r.toNat) 3 < S 78 0 ∧ (xbl q : Int) + u ≤ S 78 0) ∨ S 78 0 ≤ S (30 + 3 * r.toNat) 3 := by
            by_cases g : S (30 + 3 * r.toNat) 3 < S 78 0
            · exact Or.inl ⟨g, hqb g⟩
            · exact Or.inr (by omega)
          have hqs : (xbl q : Int) ≤ 4098 := by
            have h1 := xbl_add (a := V (30 + 3 * r.toNat + 1)) (b := 1) (n := 4096) (by omega) (by decide)
            have h2 : q ≤ V (30 + 3 * r.toNat + 1) + 1 := by
              by_cases g : S (30 + 3 * r.toNat) 3 < S 78 0
              · rw [hq1 g]; exact Nat.succ_le_succ (Nat.div_le_self _ _)
              · rw [hq2 (by omega)]; exact Nat.le_refl _
            have h3 := xbl_mono h2
            omega
          refine i_119_64 hobj (Nat.le_of_ble_eq_true rfl) hrun ?_
          refine i_119_67 (x := 30 + 3 * r.toNat) l1 ?_
          refine i_119_68 (v := Value.int (Int32.ofInt (S2 (30 + 3 * r.toNat) 3))) (hR.k2 (kd_reg (r := r.toNat) (by omega))) rfl ?_
          rw [fr3]
          refine i_119_71 (x := 78) l0 ?_
          refine i_119_72 (v := Value.int (Int32.ofInt (S2 78 1))) (hR.k1 kq_78) rfl ?_
          rw [fr1]
          refine i_119_75 (b_le (a := (xbl q : Int) + u) (b := S 78 1) ⟨by omega, by omega⟩ ⟨by omega, by omega⟩ fun c7 => ?_) (b_lt (a := S 78 1) (b := (xbl q : Int) + u) ⟨by omega, by omega⟩ ⟨by omega, by omega⟩ fun c7 => ?_)
          · refine i_119_84 ?_
            have eo : sFar (vS S) (vV V) r.toNat = (3, (xbl q : Int) + u, nrm q (S (30 + 3 * r.toNat) 0)) := by
              simp only [sFar, vS_153, vS_154, vS_155, vS_156, vS_17, vS_18, vS_19, vS_20, vV_r]
              by_cases hlt : S (30 + 3 * r.toNat) 3 < S 78 0
              · rw [if_neg (by omega), if_pos hlt, if_neg (by omega), ← hq1 hlt, show u = S 78 0 - S (30 + 3 * r.toNat) 0 by omega]; rfl
              · rw [if_neg (by omega), if_neg hlt, ← hq2 (by omega), show u = S (30 + 3 * r.toNat) 3 - S (30 + 3 * r.toNat) 0 by omega, if_neg (by omega)]; rfl
            rw [eo]
            exact ⟨rfl, _, _, hR, b1, b2, fun _ => b3, fr, fun k g1 g2 => frV k g1 g2⟩
          · refine i_119_78 (x := 30 + 3 * r.toNat) l1 ?_
            refine i_119_79 (x := Int32.ofInt (S (30 + 3 * r.toNat) 2)) l3 ?_
            have hobj := hR.k2 (kd_reg (r := r.toNat) (by omega))
            obtain ⟨w, hrun, hR⟩ := x_inf (d := d + 4) (t := 30 + 3 * r.toNat) (sg := S (30 + 3 * r.toNat) 2) hR (kd_reg (r := r.toNat) (by omega)) (by first | omega | exact bb_01 _)
            refine i_119_80 hobj (Nat.le_of_ble_eq_true rfl) hrun ?_
            refine i_119_83 rfl ?_
            refine i_119_84 ?_
            have eo : sFar (vS S) (vV V) r.toNat = (1, 0, 0) := by simp only [sFar, vS_153, vS_154, vS_155, vS_156, vS_17, vS_18, vS_19, vS_20, vV_r]; rw [if_neg (by omega), if_neg (by omega), if_pos (by rw [← hq2 (by omega)]; omega)]
            rw [eo]
            exact ⟨rfl, _, _, hR, by rw [u2_eq, if_neg (fun e => absurd e.2 (by decide)), u2_eq, if_pos ⟨rfl, rfl⟩], by rw [u2_eq, if_pos ⟨rfl, rfl⟩], fun e => absurd (show (1 : Int) = 3 from e) (by decide), fun b j g1 g2 => by rw [u2_eq, if_neg (fun e => g2 ⟨e.1, by rw [e.2]; decide⟩), u2_eq, if_neg (fun e => g2 ⟨e.1, by rw [e.2]; decide⟩)]; exact fr b j g1 g2, fun k g1 g2 => frV k g1 g2⟩
      · refine i_119_23 (x := 30 + 3 * r.toNat) l1 ?_
        refine i_119_24 (x := Int32.ofInt (S (30 + 3 * r.toNat) 2)) l3 ?_
        refine i_119_25 (x := 78) l0 ?_
        refine i_119_26 (v := Value.int (Int32.ofInt (S 78 0))) (hR.k1 kq_78) rfl ?_
        have hobj := hR.k2 (kd_reg (r := r.toNat) (by omega))
        have ep : S (30 + 3 * r.toNat) 0 = S (30 + 3 * r.toNat) 0 := by rfl
        obtain ⟨w, hrun, hR⟩ := x_pow2 (d := d + 1) (t := 30 + 3 * r.toNat) (sg := S (30 + 3 * r.toNat) 2) (pw := S 78 0) hR (kd_reg (r := r.toNat) (by omega)) (by first | omega | exact bb_01 _) (by rw [ep]; omega)
        rw [ep] at hR
        refine i_119_29 hobj (Nat.le_of_ble_eq_true rfl) hrun ?_
        refine i_119_32 ?_
        have eo : sFar (vS S) (vV V) r.toNat = (3, xbl 1 + (S 78 0 - 1), nrm 1 (S (30 + 3 * r.toNat) 0)) := by simp only [sFar, vS_153, vS_154, vS_155, vS_156, vS_17, vS_18, vS_19, vS_20, vV_r]; rw [if_neg (by omega), if_pos (by omega), if_pos (by omega)]; rfl
        rw [eo]
        exact ⟨rfl, _, _, hR, by rw [u2_eq, if_neg (fun e => absurd e.2 (by decide)), u2_eq, if_neg (fun e => absurd e.2 (by decide)), u2_eq, if_pos ⟨rfl, rfl⟩], by rw [u2_eq, if_neg (fun e => absurd e.2 (by decide)), u2_eq, if_pos ⟨rfl, rfl⟩], fun _ => ⟨show (u2 (u2 (u2 S (30 + 3 * r.toNat) 1 3) (30 + 3 * r.toNat) 2 (S (30 + 3 * r.toNat) 2)) (30 + 3 * r.toNat) 3 (S 78 0)) (30 + 3 * r.toNat) 3 = xbl 1 + (S 78 0 - 1) from by rw [u2_eq, if_pos ⟨rfl, rfl⟩]; rw [show xbl 1 = 1 from rfl]; omega, by rw [uv_s, show (1 : Nat) = 2 ^ 0 from rfl, nrm_pow (by omega) (by omega)]⟩, fun b j g1 g2 => by rw [u2_eq, if_neg (fun e => g2 ⟨e.1, by rw [e.2]; decide⟩), u2_eq, if_neg (fun e => g2 ⟨e.1, by rw [e.2]; decide⟩), u2_eq, if_neg (fun e => g2 ⟨e.1, by rw [e.2]; decide⟩)], fun k g1 g2 => (uv_n g2).trans (rfl)⟩
  obtain ⟨o, w', h1, rfl, h2⟩ := (key (lv_args 0 [Value.ref 78, Value.ref (30 + 3 * r.toNat), Value.ref 16]) rfl rfl rfl).run
  exact ⟨w', h1, h2⟩
end
