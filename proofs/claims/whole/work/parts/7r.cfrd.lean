/-! fromDouble, word of the class -/
theorem q_ushr52 {t : Int} : ((Int64.ofInt t).toUInt64 >>> ((52 : Int32).toInt64.toUInt64 &&& Int64.toUInt64 63)).toInt64 = Int64.ofInt (t % 18446744073709551616 / 4503599627370496) := by
  apply xul_inj
  show ((Int64.ofInt t).toUInt64 >>> ((52 : Int32).toInt64.toUInt64 &&& Int64.toUInt64 63)).toNat = _
  rw [UInt64.toNat_shiftRight, Nat.shiftRight_eq_div_pow]
  have e : ((52 : Int32).toInt64.toUInt64 &&& Int64.toUInt64 63).toNat % 64 = 52 := by decide
  rw [e]
  have h2 := xul_m t
  have h3 := xul_m (t % 18446744073709551616 / 4503599627370496)
  show xul (Int64.ofInt t) / 2 ^ 52 = _
  omega
section
variable {w0 w : xW} {L Z : Nat} {S : Nat → Nat → Int} {V : Nat → Nat} {d h t r : Nat}
set_option maxHeartbeats 8000000 in
theorem x_frd {r B mode : Int} (hR : cX w0 L Z S V w) (hI : cI S V) (hr : 0 ≤ r ∧ r ≤ 15) (hB : -9223372036854775808 ≤ B ∧ B < 9223372036854775808) (hmo : 0 ≤ mode ∧ mode ≤ 4) : ∃ w', xRun (d + 11) 128 [Value.ref 7, Value.int (Int32.ofInt r), Value.long (Int64.ofInt B), Value.int (Int32.ofInt mode)] w (.inl (some (.int (Int32.ofInt (sFrD (vS S) r.toNat B mode).2.2.2.2.1)))) w' ∧ ∃ S' V', cX w0 L Z S' V' w' ∧ cOut S S' V V' (30 + 3 * r.toNat) (sFrD (vS S) r.toNat B mode) := by
  have key : ∀ lv, xld lv 0 = some (Value.ref 7) → xld lv 1 = some (Value.int (Int32.ofInt r)) → xld lv 2 = some (Value.long (Int64.ofInt B)) → xld lv 4 = some (Value.int (Int32.ofInt mode)) → xEv (d + 11) 128 0 lv [] w (fun o w' => o = .inl (some (.int (Int32.ofInt (sFrD (vS S) r.toNat B mode).2.2.2.2.1))) ∧ ∃ S' V', cX w0 L Z S' V' w' ∧ cOut S S' V V' (30 + 3 * r.toNat) (sFrD (vS S) r.toNat B mode)) := by
    intro lv l0 l1 l2 l4
    obtain ⟨hp_r, hk_r, hn_r, ht_r, hx_r, hz_r⟩ := hI.1 r.toNat (by omega)
    have hi_l := hI.2.1
    have hi_g := hI.2.2.1
    have tail : ∀ sg lv, sg = (if B < 0 then 1 else 0) → (sg = 0 ∨ sg = 1) → xld lv 0 = some (Value.ref 7) → xld lv 1 = some (Value.int (Int32.ofInt r)) → xld lv 2 = some (Value.long (Int64.ofInt B)) → xld lv 4 = some (Value.int (Int32.ofInt mode)) → xld lv 5 = some (Value.ref (30 + 3 * r.toNat)) → xEv (d + 11) 128 42 lv [.int (Int32.ofInt sg)] w (fun o w' => o = .inl (some (.int (Int32.ofInt (sFrD (vS S) r.toNat B mode).2.2.2.2.1))) ∧ ∃ S' V', cX w0 L Z S' V' w' ∧ cOut S S' V V' (30 + 3 * r.toNat) (sFrD (vS S) r.toNat B mode)) := by
      intro sg lv hsg hsg1 l0 l1 l2 l4 l5
      refine i_128_42 rfl ?_
      refine lgen1 (i := 6) (v := Value.int (Int32.ofInt sg)) (fun lv lg ls => ?_)
      replace l0 := lg 0 _ rfl rfl l0
      replace l1 := lg 1 _ rfl rfl l1
      replace l2 := lg 2 _ rfl rfl l2
      replace l4 := lg 4 _ rfl rfl l4
      replace l5 := lg 5 _ rfl rfl l5
      have l6 := ls
      refine i_128_44 (x := Int64.ofInt B) l2 ?_
      refine i_128_45 ?_
      refine i_128_47 (c := Int64.ofInt (B % 18446744073709551616 / 4503599627370496)) q_ushr52 ?_
      refine i_128_48 (c := Int32.ofInt (B % 18446744073709551616 / 4503599627370496)) (q_l2i (B % 18446744073709551616 / 4503599627370496)) ?_
      refine i_128_49 ?_
      refine i_128_52 (c := Int32.ofInt ((B % 18446744073709551616 / 4503599627370496) % 2048)) (o_mask11 (B % 18446744073709551616 / 4503599627370496)) ?_
      obtain ⟨fi, hfi⟩ : ∃ fi : Int, fi = B / 4503599627370496 % 2048 := ⟨_, rfl⟩
      rw [show (B % 18446744073709551616 / 4503599627370496) % 2048 = fi by omega]
      refine i_128_53 rfl ?_
      refine lgen1 (i := 7) (v := Value.int (Int32.ofInt fi)) (fun lv lg ls => ?_)
      replace l6 := lg 6 _ rfl rfl l6
      replace l0 := lg 0 _ rfl rfl l0
      replace l1 := lg 1 _ rfl rfl l1
      replace l2 := lg 2 _ rfl rfl l2
      replace l4 := lg 4 _ rfl rfl l4
      replace l5 := lg 5 _ rfl rfl l5
      have l7 := ls
      refine i_128_55 (x := Int64.ofInt B) l2 ?_
      refine i_128_56 ?_
      refine i_128_59 (c := Int64.ofInt (B % 4503599627370496)) (q_mask52 B) ?_
      refine i_128_60 rfl ?_
      refine lgen2 (i := 8) (v := Value.long (Int64.ofInt (B % 4503599627370496))) (fun lv lg ls => ?_)
      replace l7 := lg 7 _ rfl rfl l7
      replace l6 := lg 6 _ rfl rfl l6
      replace l0 := lg 0 _ rfl rfl l0
      replace l1 := lg 1 _ rfl rfl l1
      replace l2 := lg 2 _ rfl rfl l2
      replace l4 := lg 4 _ rfl rfl l4
      replace l5 := lg 5 _ rfl rfl l5
      have l8 := ls
      refine i_128_62 (x := Int32.ofInt fi) l7 ?_
      refine i_128_64 ?_
      refine i_128_67 (b_ne (a := fi) (b := 2047) ⟨by omega, by omega⟩ ⟨by decide, by decide⟩ fun c40 => ?_) (b_eq (a := fi) (b := 2047) ⟨by omega, by omega⟩ ⟨by decide, by decide⟩ fun c40 => ?_)
      · refine i_128_90 (x := Int32.ofInt fi) l7 ?_
        refine i_128_92 (z_ne (a := fi) ⟨by omega, by omega⟩ fun c41 => ?_) (z_eq (a := fi) ⟨by omega, by omega⟩ fun c41 => ?_)
        · refine i_128_110 (x := Int32.ofInt fi) l7 ?_
          refine i_128_112 (z_ne (a := fi) ⟨by omega, by omega⟩ fun c42 => ?_) (z_eq (a := fi) ⟨by omega, by omega⟩ fun c42 => absurd c42 (by omega))
          refine i_128_132 (x := 7) l0 ?_
          refine i_128_133 (v := Value.ref 16) (hR.k0 kq_7) rfl ?_
          refine i_128_136 (x := Int32.ofInt sg) l6 ?_
          refine i_128_138 (x := Int64.ofInt (B % 4503599627370496)) l8 ?_
          refine i_128_140 ?_
          refine i_128_143 (c := Int64.ofInt ((B % 4503599627370496) + 4503599627370496)) (q_or52 (t := B % 4503599627370496) (by omega) (by omega)) ?_
          refine i_128_144 (x := Int32.ofInt fi) l7 ?_
          refine i_128_146 ?_
          refine i_128_149 (c := Int32.ofInt (fi - 1075)) (o_sub fi 1075) ?_
          have hobj := hR.k4 kq_16
          obtain ⟨w, hrun, hR⟩ := x_tb (d := d + 8) (h := 16) (sg := sg) (b := (B % 4503599627370496) + 4503599627370496) (pw := fi - 1075) hR kq_16 (by first | omega | exact bb_01 _) ⟨by omega, by omega⟩
          refine i_128_150 hobj (Nat.le_of_ble_eq_true rfl) hrun ?_
          refine i_128_153 (x := 7) l0 ?_
          refine i_128_154 (v := Value.ref 78) (hR.k0 kq_7) rfl ?_
          refine i_128_157 (x := 30 + 3 * r.toNat) l5 ?_
          refine i_128_159 (x := 7) l0 ?_
          refine i_128_160 (v := Value.ref 16) (hR.k0 kq_7) rfl ?_
          refine i_128_163 (x := Int32.ofInt mode) l4 ?_
          have hobj := hR.k1 kq_78
          have ep : (u2 (u2 (u2 S 16 0 sg) 16 2 (fi - 1075)) 16 3 0) (30 + 3 * r.toNat) 0 = S (30 + 3 * r.toNat) 0 := by rw [u2_eq, if_neg (fun e => absurd e.2 (by decide)), u2_eq, if_neg (fun e => absurd e.2 (by decide)), u2_eq, if_neg (fun e => absurd e.1 (by omega))]
          have el : (u2 (u2 (u2 S 16 0 sg) 16 2 (fi - 1075)) 16 3 0) 78 0 = S 78 0 := by rw [u2_eq, if_neg (fun e => absurd e.2 (by decide)), u2_eq, if_neg (fun e => absurd e.2 (by decide)), u2_eq, if_neg (fun e => absurd e.1 (by decide))]
          have eg : (u2 (u2 (u2 S 16 0 sg) 16 2 (fi - 1075)) 16 3 0) 78 1 = S 78 1 := by rw [u2_eq, if_neg (fun e => absurd e.2 (by decide)), u2_eq, if_neg (fun e => absurd e.2 (by decide)), u2_eq, if_neg (fun e => absurd e.2 (by decide))]
          have ed : (u2 (u2 (u2 S 16 0 sg) 16 2 (fi - 1075)) 16 3 0) 78 2 = S 78 2 := by rw [u2_eq, if_neg (fun e => absurd e.2 (by decide)), u2_eq, if_neg (fun e => absurd e.1 (by decide)), u2_eq, if_neg (fun e => absurd e.2 (by decide))]
          have ef : (u2 (u2 (u2 S 16 0 sg) 16 2 (fi - 1075)) 16 3 0) 78 3 = S 78 3 := by rw [u2_eq, if_neg (fun e => absurd e.1 (by decide)), u2_eq, if_neg (fun e => absurd e.2 (by decide)), u2_eq, if_neg (fun e => absurd e.2 (by decide))]
          have es : (u2 (u2 (u2 S 16 0 sg) 16 2 (fi - 1075)) 16 3 0) 16 0 = sg := by rw [u2_eq, if_neg (fun e => absurd e.2 (by decide)), u2_eq, if_neg (fun e => absurd e.2 (by decide)), u2_eq, if_pos ⟨rfl, rfl⟩]
          have ec : (u2 (u2 (u2 S 16 0 sg) 16 2 (fi - 1075)) 16 3 0) 16 2 = fi - 1075 := by rw [u2_eq, if_neg (fun e => absurd e.2 (by decide)), u2_eq, if_pos ⟨rfl, rfl⟩]
          have em : (u2 (u2 (u2 S 16 0 sg) 16 2 (fi - 1075)) 16 3 0) 16 3 = 0 := by rw [u2_eq, if_pos ⟨rfl, rfl⟩]
          have ev : (uv V 17 (((B % 4503599627370496) + 4503599627370496 : Int).toNat)) 17 = ((B % 4503599627370496) + 4503599627370496 : Int).toNat := uv_s
          obtain ⟨w, hrun, S44, V44, hR, hP⟩ := x_settle (d := d + 1) (g := 78) (t := 30 + 3 * r.toNat) (h := 16) (mode := mode) hR kq_78 (kd_reg (r := r.toNat) (by omega)) kq_16 (by rw [ep]; omega) (by rw [es]; first | omega | exact bb_01 _) (by rw [em]; omega) (by omega) (by rw [ev]; omega) (by rw [ev]; exact Nat.le_trans (xbl_le (n := _) (k := 64) (by omega)) (by decide)) (by rw [ec]; omega) (by rw [el, eg]; omega) (by rw [ed]; omega) (by rw [ep, el, ed, ev, ec, em]; exact fun _ _ => Or.inl rfl)
          rw [ep, el, eg, ed, ef, es, ec, em, ev] at hrun hP
          refine i_128_165 hobj (Nat.le_of_ble_eq_true rfl) hrun ?_
          refine i_128_168 ?_
          have eo : sFrD (vS S) r.toNat B mode = oR (S (30 + 3 * r.toNat) 0) (S 78 0) (S 78 1) (S 78 2) sg mode 0 (((B % 4503599627370496) + 4503599627370496 : Int).toNat) (fi - 1075) (S 78 3) := by clear hR hP; simp only [sFrD, vS_153, vS_154, vS_155, vS_156, vS_17, vS_18, vS_19, vS_20, vV_r, ← hfi, ← hsg]; grind
          rw [eo]
          exact ⟨rfl, _, _, hR, cP_round hP (by omega) (nC.up (nC.up (nC.up nC.refl (by unfold cKeep; omega) (by omega)) (by unfold cKeep; omega) (by omega)) (by unfold cKeep; omega) (by omega)) (nW.up nW.refl (by omega)) (by omega)⟩
        · refine i_128_95 (x := Int64.ofInt (B % 4503599627370496)) l8 ?_
          refine i_128_97 ?_
          refine i_128_98 (c := Int32.ofInt (lc (B % 4503599627370496) 0)) (q_cmp (a := B % 4503599627370496) (b := 0) ⟨by omega, by omega⟩ ⟨by decide, by decide⟩) ?_
          refine i_128_99 (lc_ne (a := B % 4503599627370496) (b := 0) fun c44 => ?_) (lc_eq (a := B % 4503599627370496) (b := 0) fun c44 => ?_)
          · refine i_128_110 (x := Int32.ofInt fi) l7 ?_
            refine i_128_112 (z_ne (a := fi) ⟨by omega, by omega⟩ fun c45 => absurd c45 (by omega)) (z_eq (a := fi) ⟨by omega, by omega⟩ fun c45 => ?_)
            refine i_128_115 (x := 7) l0 ?_
            refine i_128_116 (v := Value.ref 16) (hR.k0 kq_7) rfl ?_
            refine i_128_119 (x := Int32.ofInt sg) l6 ?_
            refine i_128_121 (x := Int64.ofInt (B % 4503599627370496)) l8 ?_
            refine i_128_123 ?_
            have hobj := hR.k4 kq_16
            obtain ⟨w, hrun, hR⟩ := x_tb (d := d + 8) (h := 16) (sg := sg) (b := B % 4503599627370496) (pw := (-1074)) hR kq_16 (by first | omega | exact bb_01 _) ⟨by omega, by omega⟩
            refine i_128_126 hobj (Nat.le_of_ble_eq_true rfl) hrun ?_
            refine i_128_129 ?_
            refine i_128_153 (x := 7) l0 ?_
            refine i_128_154 (v := Value.ref 78) (hR.k0 kq_7) rfl ?_
            refine i_128_157 (x := 30 + 3 * r.toNat) l5 ?_
            refine i_128_159 (x := 7) l0 ?_
            refine i_128_160 (v := Value.ref 16) (hR.k0 kq_7) rfl ?_
            refine i_128_163 (x := Int32.ofInt mode) l4 ?_
            have hobj := hR.k1 kq_78
            have ep : (u2 (u2 (u2 S 16 0 sg) 16 2 (-1074)) 16 3 0) (30 + 3 * r.toNat) 0 = S (30 + 3 * r.toNat) 0 := by rw [u2_eq, if_neg (fun e => absurd e.2 (by decide)), u2_eq, if_neg (fun e => absurd e.2 (by decide)), u2_eq, if_neg (fun e => absurd e.1 (by omega))]
            have el : (u2 (u2 (u2 S 16 0 sg) 16 2 (-1074)) 16 3 0) 78 0 = S 78 0 := by rw [u2_eq, if_neg (fun e => absurd e.2 (by decide)), u2_eq, if_neg (fun e => absurd e.2 (by decide)), u2_eq, if_neg (fun e => absurd e.1 (by decide))]
            have eg : (u2 (u2 (u2 S 16 0 sg) 16 2 (-1074)) 16 3 0) 78 1 = S 78 1 := by rw [u2_eq, if_neg (fun e => absurd e.2 (by decide)), u2_eq, if_neg (fun e => absurd e.2 (by decide)), u2_eq, if_neg (fun e => absurd e.2 (by decide))]
            have ed : (u2 (u2 (u2 S 16 0 sg) 16 2 (-1074)) 16 3 0) 78 2 = S 78 2 := by rw [u2_eq, if_neg (fun e => absurd e.2 (by decide)), u2_eq, if_neg (fun e => absurd e.1 (by decide)), u2_eq, if_neg (fun e => absurd e.2 (by decide))]
            have ef : (u2 (u2 (u2 S 16 0 sg) 16 2 (-1074)) 16 3 0) 78 3 = S 78 3 := by rw [u2_eq, if_neg (fun e => absurd e.1 (by decide)), u2_eq, if_neg (fun e => absurd e.2 (by decide)), u2_eq, if_neg (fun e => absurd e.2 (by decide))]
            have es : (u2 (u2 (u2 S 16 0 sg) 16 2 (-1074)) 16 3 0) 16 0 = sg := by rw [u2_eq, if_neg (fun e => absurd e.2 (by decide)), u2_eq, if_neg (fun e => absurd e.2 (by decide)), u2_eq, if_pos ⟨rfl, rfl⟩]
            have ec : (u2 (u2 (u2 S 16 0 sg) 16 2 (-1074)) 16 3 0) 16 2 = (-1074) := by rw [u2_eq, if_neg (fun e => absurd e.2 (by decide)), u2_eq, if_pos ⟨rfl, rfl⟩]
            have em : (u2 (u2 (u2 S 16 0 sg) 16 2 (-1074)) 16 3 0) 16 3 = 0 := by rw [u2_eq, if_pos ⟨rfl, rfl⟩]
            have ev : (uv V 17 ((B % 4503599627370496 : Int).toNat)) 17 = (B % 4503599627370496 : Int).toNat := uv_s
            obtain ⟨w, hrun, S47, V47, hR, hP⟩ := x_settle (d := d + 1) (g := 78) (t := 30 + 3 * r.toNat) (h := 16) (mode := mode) hR kq_78 (kd_reg (r := r.toNat) (by omega)) kq_16 (by rw [ep]; omega) (by rw [es]; first | omega | exact bb_01 _) (by rw [em]; omega) (by omega) (by rw [ev]; omega) (by rw [ev]; exact Nat.le_trans (xbl_le (n := _) (k := 64) (by omega)) (by decide)) (by rw [ec]; omega) (by rw [el, eg]; omega) (by rw [ed]; omega) (by rw [ep, el, ed, ev, ec, em]; exact fun _ _ => Or.inl rfl)
            rw [ep, el, eg, ed, ef, es, ec, em, ev] at hrun hP
            refine i_128_165 hobj (Nat.le_of_ble_eq_true rfl) hrun ?_
            refine i_128_168 ?_
            have eo : sFrD (vS S) r.toNat B mode = oR (S (30 + 3 * r.toNat) 0) (S 78 0) (S 78 1) (S 78 2) sg mode 0 ((B % 4503599627370496 : Int).toNat) (-1074) (S 78 3) := by clear hR hP; simp only [sFrD, vS_153, vS_154, vS_155, vS_156, vS_17, vS_18, vS_19, vS_20, vV_r, ← hfi, ← hsg]; grind
            rw [eo]
            exact ⟨rfl, _, _, hR, cP_round hP (by omega) (nC.up (nC.up (nC.up nC.refl (by unfold cKeep; omega) (by omega)) (by unfold cKeep; omega) (by omega)) (by unfold cKeep; omega) (by omega)) (nW.up nW.refl (by omega)) (by omega)⟩
          · refine i_128_102 (x := 30 + 3 * r.toNat) l5 ?_
            refine i_128_104 (x := Int32.ofInt sg) l6 ?_
            have hobj := hR.k2 (kd_reg (r := r.toNat) (by omega))
            obtain ⟨w, hrun, hR⟩ := x_zero (d := d + 9) (t := 30 + 3 * r.toNat) (sg := sg) hR (kd_reg (r := r.toNat) (by omega)) (by first | omega | exact bb_01 _)
            refine i_128_106 hobj (Nat.le_of_ble_eq_true rfl) hrun ?_
            refine i_128_109 ?_
            have eo : sFrD (vS S) r.toNat B mode = oS 2 sg (S 78 3) := by clear hR; simp only [sFrD, vS_153, vS_154, vS_155, vS_156, vS_17, vS_18, vS_19, vS_20, vV_r, ← hfi, ← hsg]; grind
            rw [eo]
            exact ⟨rfl, _, _, hR, cP_sp2 (by omega) (by decide) (by intro hne; first | rfl | exact absurd rfl hne) nC.refl nW.refl rfl (by omega)⟩
      · refine i_128_70 (x := 30 + 3 * r.toNat) l5 ?_
        refine i_128_72 (x := Int64.ofInt (B % 4503599627370496)) l8 ?_
        refine i_128_74 ?_
        refine i_128_75 (c := Int32.ofInt (lc (B % 4503599627370496) 0)) (q_cmp (a := B % 4503599627370496) (b := 0) ⟨by omega, by omega⟩ ⟨by decide, by decide⟩) ?_
        refine i_128_76 (lc_ne (a := B % 4503599627370496) (b := 0) fun c47 => ?_) (lc_eq (a := B % 4503599627370496) (b := 0) fun c47 => ?_)
        · refine i_128_83 ?_
          refine i_128_84 (x := Int32.ofInt sg) l6 ?_
          have hobj := hR.k2 (kd_reg (r := r.toNat) (by omega))
          obtain ⟨w, hrun, hR⟩ := x_spec (d := d + 10) (t := 30 + 3 * r.toNat) (which := 0) (sg := sg) hR (kd_reg (r := r.toNat) (by omega)) (by first | omega | exact bb_01 _)
          refine i_128_86 hobj (Nat.le_of_ble_eq_true rfl) hrun ?_
          refine i_128_89 ?_
          have eo : sFrD (vS S) r.toNat B mode = oS 0 0 (S 78 3) := by clear hR; simp only [sFrD, vS_153, vS_154, vS_155, vS_156, vS_17, vS_18, vS_19, vS_20, vV_r, ← hfi, ← hsg]; grind
          rw [eo]
          exact ⟨rfl, _, _, hR, cP_sp2 (by omega) (by decide) (by intro hne; first | rfl | exact absurd rfl hne) nC.refl nW.refl rfl (by omega)⟩
        · refine i_128_79 ?_
          refine i_128_80 ?_
          refine i_128_84 (x := Int32.ofInt sg) l6 ?_
          have hobj := hR.k2 (kd_reg (r := r.toNat) (by omega))
          obtain ⟨w, hrun, hR⟩ := x_spec (d := d + 10) (t := 30 + 3 * r.toNat) (which := 1) (sg := sg) hR (kd_reg (r := r.toNat) (by omega)) (by first | omega | exact bb_01 _)
          refine i_128_86 hobj (Nat.le_of_ble_eq_true rfl) hrun ?_
          refine i_128_89 ?_
          have eo : sFrD (vS S) r.toNat B mode = oS 1 sg (S 78 3) := by clear hR; simp only [sFrD, vS_153, vS_154, vS_155, vS_156, vS_17, vS_18, vS_19, vS_20, vV_r, ← hfi, ← hsg]; grind
          rw [eo]
          exact ⟨rfl, _, _, hR, cP_sp2 (by omega) (by decide) (by intro hne; first | rfl | exact absurd rfl hne) nC.refl nW.refl rfl (by omega)⟩
    refine i_128_0 (x := Int32.ofInt r) l1 ?_
    have hrun := x_noReg (d := d + 10) (w := w) (r := r) ⟨by omega, by omega⟩
    rw [show (decide (r < 0) || decide (16 ≤ r)) = false from by simp; omega] at hrun
    refine i_128_1 (Nat.le_of_ble_eq_true rfl) hrun ?_
    refine i_128_4 (fun c => absurd c (by decide)) (fun _ => ?_)
    refine i_128_7 (x := Int32.ofInt mode) l4 ?_
    have hrun := x_noMode (d := d + 10) (w := w) (m := mode) ⟨by omega, by omega⟩
    rw [show (decide (mode < 0) || decide (4 < mode)) = false from by simp; omega] at hrun
    refine i_128_9 (Nat.le_of_ble_eq_true rfl) hrun ?_
    refine i_128_12 (fun _ => ?_) (fun c => absurd c (by decide))
    refine i_128_23 (x := 7) l0 ?_
    refine i_128_24 (v := Value.ref 8) (hR.k0 kq_7) rfl ?_
    refine i_128_27 (x := Int32.ofInt r) l1 ?_
    obtain ⟨gr, hgr, hge⟩ := hR.regs
    refine i_128_28 (v := Value.ref (30 + 3 * r.toNat)) hgr (ix0 (T := r) (by omega) (by omega)) (ix1 (T := r) (by omega) (by omega) (by omega)) (by rw [ixn (T := r) (by omega) (by omega)]; exact hge _ (by omega)) ?_
    refine i_128_29 rfl ?_
    refine lgen1 (i := 5) (v := Value.ref (30 + 3 * r.toNat)) (fun lv lg ls => ?_)
    replace l0 := lg 0 _ rfl rfl l0
    replace l1 := lg 1 _ rfl rfl l1
    replace l2 := lg 2 _ rfl rfl l2
    replace l4 := lg 4 _ rfl rfl l4
    have l5 := ls
    refine i_128_31 (x := Int64.ofInt B) l2 ?_
    refine i_128_32 ?_
    refine i_128_33 (c := Int32.ofInt (lc B 0)) (q_cmp (a := B) (b := 0) ⟨by omega, by omega⟩ ⟨by decide, by decide⟩) ?_
    refine i_128_34 (lc_ge (a := B) (b := 0) fun c0 => ?_) (lc_lt (a := B) (b := 0) fun c0 => ?_)
    · refine i_128_41 ?_
      exact tail 0 lv (by rw [if_neg (by omega)]) (by omega) l0 l1 l2 l4 l5
    · refine i_128_37 ?_
      refine i_128_38 ?_
      exact tail 1 lv (by rw [if_pos (by omega)]) (by omega) l0 l1 l2 l4 l5
  obtain ⟨o, w', h1, rfl, h2⟩ := (key (lv_args 0 [Value.ref 7, Value.int (Int32.ofInt r), Value.long (Int64.ofInt B), Value.int (Int32.ofInt mode)]) rfl rfl rfl rfl).run
  exact ⟨w', h1, h2⟩
theorem x_word {r k : Int} (hR : cX w0 L Z S V w) (hr : 0 ≤ r ∧ r ≤ 15) (hk : 0 ≤ k ∧ k ≤ 127) (h3 : S (30 + 3 * r.toNat) 1 = 3) : xRun (d + 3) 126 [Value.ref 7, Value.int (Int32.ofInt r), Value.int (Int32.ofInt k)] w (.inl (some (.long (Int64.ofInt ((bfn (V (30 + 3 * r.toNat + 1)) (32 * k) : Nat) : Int))))) w := by
  have key : ∀ lv, xld lv 0 = some (Value.ref 7) → xld lv 1 = some (Value.int (Int32.ofInt r)) → xld lv 2 = some (Value.int (Int32.ofInt k)) → xEv (d + 3) 126 0 lv [] w (fun o w' => o = .inl (some (.long (Int64.ofInt ((bfn (V (30 + 3 * r.toNat + 1)) (32 * k) : Nat) : Int)))) ∧ w' = w) := by
    intro lv l0 l1 l2
    refine i_126_0 (x := Int32.ofInt r) l1 ?_
    have hrun := x_noReg (d := d + 2) (w := w) (r := r) ⟨by omega, by omega⟩
    rw [show (decide (r < 0) || decide (16 ≤ r)) = false from by simp; omega] at hrun
    refine i_126_1 (Nat.le_of_ble_eq_true rfl) hrun ?_
    refine i_126_4 (fun c => absurd c (by decide)) (fun _ => ?_)
    refine i_126_7 (x := Int32.ofInt k) l2 ?_
    refine i_126_8 (z_lt (a := k) ⟨by omega, by omega⟩ fun c0 => ?_) (z_ge (a := k) ⟨by omega, by omega⟩ fun c0 => ?_)
    · refine i_126_17 (by omega) (Nat.le_of_ble_eq_true rfl) ?_
      exfalso; omega
    · refine i_126_11 (x := Int32.ofInt k) l2 ?_
      refine i_126_12 ?_
      refine i_126_14 (b_le (a := k) (b := 127) ⟨by omega, by omega⟩ ⟨by decide, by decide⟩ fun c1 => ?_) (b_lt (a := 127) (b := k) ⟨by decide, by decide⟩ ⟨by omega, by omega⟩ fun c1 => ?_)
      · refine i_126_25 (x := 7) l0 ?_
        refine i_126_26 (v := Value.ref 8) (hR.k0 kq_7) rfl ?_
        refine i_126_29 (x := Int32.ofInt r) l1 ?_
        obtain ⟨gr, hgr, hge⟩ := hR.regs
        refine i_126_30 (v := Value.ref (30 + 3 * r.toNat)) hgr (ix0 (T := r) (by omega) (by omega)) (ix1 (T := r) (by omega) (by omega) (by omega)) (by rw [ixn (T := r) (by omega) (by omega)]; exact hge _ (by omega)) ?_
        refine i_126_31 (v := Value.int (Int32.ofInt (S (30 + 3 * r.toNat) 1))) (hR.k2 (kd_reg (r := r.toNat) (by omega))) rfl ?_
        refine i_126_34 ?_
        refine i_126_35 (b_eq (a := S (30 + 3 * r.toNat) 1) (b := 3) ⟨by omega, by omega⟩ ⟨by decide, by decide⟩ fun c2 => ?_) (b_ne (a := S (30 + 3 * r.toNat) 1) (b := 3) ⟨by omega, by omega⟩ ⟨by decide, by decide⟩ fun c2 => ?_)
        · try replace ht_r := ht_r.resolve_left (by omega)
          try replace hx_r := hx_r.resolve_left (by omega)
          refine i_126_46 (x := 7) l0 ?_
          refine i_126_47 (v := Value.ref 8) (hR.k0 kq_7) rfl ?_
          refine i_126_50 (x := Int32.ofInt r) l1 ?_
          obtain ⟨gr, hgr, hge⟩ := hR.regs
          refine i_126_51 (v := Value.ref (30 + 3 * r.toNat)) hgr (ix0 (T := r) (by omega) (by omega)) (ix1 (T := r) (by omega) (by omega) (by omega)) (by rw [ixn (T := r) (by omega) (by omega)]; exact hge _ (by omega)) ?_
          refine i_126_52 (v := Value.ref ((30 + 3 * r.toNat) + 1)) (hR.k2 (kd_reg (r := r.toNat) (by omega))) rfl ?_
          refine i_126_55 ?_
          refine i_126_57 (x := Int32.ofInt k) l2 ?_
          refine i_126_58 (c := Int32.ofInt (32 * k)) (o_mul 32 k) ?_
          obtain ⟨fs, hobj⟩ := hR.nat (kd_rem (r := r.toNat) (by omega))
          have hrun := X_bf (d := d + 2) (h := (30 + 3 * r.toNat) + 1) (u := V ((30 + 3 * r.toNat) + 1)) (p := 32 * k) hR (kd_rem (r := r.toNat) (by omega)) (rfl) ⟨by omega, by omega⟩
          refine i_126_59 hobj (Nat.le_of_ble_eq_true rfl) hrun ?_
          refine i_126_62 rfl ?_
          refine i_126_63 ?_
          refine i_126_66 (c := Int64.ofInt (bfn (V ((30 + 3 * r.toNat) + 1)) (32 * k) : Int)) lowbf ?_
          refine i_126_67 ?_
          exact ⟨rfl, rfl⟩
        · refine i_126_38 (by omega) (Nat.le_of_ble_eq_true rfl) ?_
          exfalso; omega
      · refine i_126_17 (by omega) (Nat.le_of_ble_eq_true rfl) ?_
        exfalso; omega
  obtain ⟨o, w', h1, rfl, rfl⟩ := (key (lv_args 0 [Value.ref 7, Value.int (Int32.ofInt r), Value.int (Int32.ofInt k)]) rfl rfl rfl).run
  exact h1
end
