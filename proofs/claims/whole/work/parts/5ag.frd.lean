/-! fromDouble of the reference -/
theorem xul_m (B : Int) : (xul (Int64.ofInt B) : Int) = B % 18446744073709551616 := by
  have e := xul_int (Int64.ofInt B)
  have hl := xul_lt (Int64.ofInt B)
  rw [Int64.toInt_ofInt] at e
  have e2 : B.bmod Int64.size = if B % 18446744073709551616 < 9223372036854775808 then B % 18446744073709551616 else B % 18446744073709551616 - 18446744073709551616 := by
    rw [Int.bmod_def]
    rfl
  rw [e2] at e
  omega
theorem xun_m (B : Int) : (xun (Int32.ofInt B) : Int) = B % 4294967296 := by
  have e := xun_int (Int32.ofInt B)
  have hl := xun_lt (Int32.ofInt B)
  rw [Int32.toInt_ofInt] at e
  have e2 : B.bmod Int32.size = if B % 4294967296 < 2147483648 then B % 4294967296 else B % 4294967296 - 4294967296 := by
    rw [Int.bmod_def]
    rfl
  rw [e2] at e
  omega
theorem q_mask52 (B : Int) : Int64.ofInt B &&& (4503599627370495 : Int64) = Int64.ofInt (B % 4503599627370496) := by
  apply xul_inj
  have h1 : xul (Int64.ofInt B &&& (4503599627370495 : Int64)) = xul (Int64.ofInt B) % 2 ^ 52 := by rw [← Nat.and_two_pow_sub_one_eq_mod]; rfl
  have h2 := xul_m B
  have h3 := xul_m (B % 4503599627370496)
  rw [h1]
  omega
theorem q_mask32 (B : Int) : Int64.ofInt B &&& (4294967295 : Int64) = Int64.ofInt (B % 4294967296) := by
  apply xul_inj
  have h1 : xul (Int64.ofInt B &&& (4294967295 : Int64)) = xul (Int64.ofInt B) % 2 ^ 32 := by rw [← Nat.and_two_pow_sub_one_eq_mod]; rfl
  have h2 := xul_m B
  have h3 := xul_m (B % 4294967296)
  rw [h1]
  omega
theorem o_mask11 (B : Int) : Int32.ofInt B &&& (2047 : Int32) = Int32.ofInt (B % 2048) := by
  apply xun_inj
  have h1 : xun (Int32.ofInt B &&& (2047 : Int32)) = xun (Int32.ofInt B) % 2 ^ 11 := by rw [← Nat.and_two_pow_sub_one_eq_mod]; rfl
  have h2 := xun_m B
  have h3 := xun_m (B % 2048)
  rw [h1]
  omega
theorem q_or52 {t : Int} (h0 : 0 ≤ t) (h1 : t < 4503599627370496) : Int64.ofInt t ||| (4503599627370496 : Int64) = Int64.ofInt (t + 4503599627370496) := by
  apply xul_inj
  have h2 := xul_m t
  have h3 := xul_m (t + 4503599627370496)
  have e : xul (4503599627370496 : Int64) = 4503599627370496 := rfl
  rw [xul_or, e, Nat.or_comm, xor_add (p := 52) (by decide) (by omega)]
  omega
theorem q_shr52 {t : Int} (h : -9223372036854775808 ≤ t ∧ t < 9223372036854775808) : (Int64.ofInt t) >>> ((52 : Int32).toInt64 &&& 63) = Int64.ofInt (t / 4503599627370496) := q_shr (n := 52) rfl (by decide) h
def sFrD (S : Nat → Nat → Int) (r : Nat) (B mode : Int) : OO :=
  if B / 4503599627370496 % 2048 = 2047 then (if B % 4503599627370496 = 0 then oS 1 (if B < 0 then 1 else 0) (S 128 19) else oS 0 0 (S 128 19))
  else if B / 4503599627370496 % 2048 = 0 ∧ B % 4503599627370496 = 0 then oS 2 (if B < 0 then 1 else 0) (S 128 19)
  else oR (S 153 r) (S 128 17) (S 128 18) (S 128 20) (if B < 0 then 1 else 0) mode 0 (if B / 4503599627370496 % 2048 = 0 then (B % 4503599627370496).toNat else (B % 4503599627370496 + 4503599627370496).toNat) ((if B / 4503599627370496 % 2048 = 0 then 1 else B / 4503599627370496 % 2048) - 1075) (S 128 19)
set_option maxHeartbeats 8000000 in
theorem s_frd {d : Nat} {w0 w : xW} {S : Nat → Nat → Int} {V : Nat → Nat} {r B mode : Int} (hR : mR w0 S V w) (hI : mI S V) (hr : 0 ≤ r ∧ r ≤ 15) (hB : -9223372036854775808 ≤ B ∧ B < 9223372036854775808) (hmo : 0 ≤ mode ∧ mode ≤ 4) : ∃ w', xRun (d + 8) 248 [Value.ref 128, Value.int (Int32.ofInt r), Value.long (Int64.ofInt B), Value.int (Int32.ofInt mode)] w (.inl (some (.int (Int32.ofInt (sFrD S r.toNat B mode).2.2.2.2.1)))) w' ∧ ∃ S' V', mR w0 S' V' w' ∧ oP S S' V V' r.toNat (sFrD S r.toNat B mode) := by
  obtain ⟨hp_r, -⟩ := hI.1 r.toNat (by omega)
  have hi_l := hI.2.1
  have hi_g := hI.2.2.1
  have hi_f := hI.2.2.2
  have key : xEv (d + 8) 248 0 (lv_args 0 [Value.ref 128, Value.int (Int32.ofInt r), Value.long (Int64.ofInt B), Value.int (Int32.ofInt mode)]) [] w (fun o w' => o = .inl (some (.int (Int32.ofInt (sFrD S r.toNat B mode).2.2.2.2.1))) ∧ ∃ S' V', mR w0 S' V' w' ∧ oP S S' V V' r.toNat (sFrD S r.toNat B mode)) := by
    refine i_248_0 (x := Int32.ofInt r) rfl ?_
    have hrun := s_reg1 (d := d + 5) (w := w) (r := r) (by omega) (by omega)
    refine i_248_1 (Nat.le_of_ble_eq_true rfl) hrun ?_
    refine i_248_4 (x := Int32.ofInt mode) rfl ?_
    have hrun := s_mode1 (d := d + 5) (w := w) (r := mode) (by omega) (by omega)
    refine i_248_6 (Nat.le_of_ble_eq_true rfl) hrun ?_
    refine i_248_9 (x := Int64.ofInt B) rfl ?_
    refine i_248_10 ?_
    refine i_248_12 (c := Int64.ofInt (B / 4503599627370496)) (q_shr52 (t := B) ⟨by omega, by omega⟩) ?_
    refine i_248_13 (c := Int32.ofInt (B / 4503599627370496)) (q_l2i (B / 4503599627370496)) ?_
    refine i_248_14 ?_
    refine i_248_17 (c := Int32.ofInt ((B / 4503599627370496) % 2048)) (o_mask11 (B / 4503599627370496)) ?_
    refine i_248_18 (lv2 := [(5, Value.int (Int32.ofInt ((B / 4503599627370496) % 2048))), (0, Value.ref 128), (1, Value.int (Int32.ofInt r)), (2, Value.long (Int64.ofInt B)), (4, Value.int (Int32.ofInt mode))]) rfl ?_
    refine i_248_20 (x := Int64.ofInt B) rfl ?_
    refine i_248_21 ?_
    refine i_248_24 (c := Int64.ofInt (B % 4503599627370496)) (q_mask52 B) ?_
    refine i_248_25 (lv2 := [(6, Value.long (Int64.ofInt (B % 4503599627370496))), (5, Value.int (Int32.ofInt ((B / 4503599627370496) % 2048))), (0, Value.ref 128), (1, Value.int (Int32.ofInt r)), (2, Value.long (Int64.ofInt B)), (4, Value.int (Int32.ofInt mode))]) rfl ?_
    refine i_248_27 (x := Int32.ofInt ((B / 4503599627370496) % 2048)) rfl ?_
    refine i_248_29 ?_
    refine i_248_32 (b_ne (a := (B / 4503599627370496) % 2048) (b := 2047) ⟨by omega, by omega⟩ ⟨by decide, by decide⟩ fun c0 => ?_) (b_eq (a := (B / 4503599627370496) % 2048) (b := 2047) ⟨by omega, by omega⟩ ⟨by decide, by decide⟩ fun c0 => ?_)
    · refine i_248_71 (x := Int32.ofInt ((B / 4503599627370496) % 2048)) rfl ?_
      refine i_248_73 (z_ne (a := (B / 4503599627370496) % 2048) ⟨by omega, by omega⟩ fun c1 => ?_) (z_eq (a := (B / 4503599627370496) % 2048) ⟨by omega, by omega⟩ fun c1 => ?_)
      · refine i_248_101 (x := 128) rfl ?_
        refine i_248_102 (v := Value.ref 129) hR.c128 rfl ?_
        refine i_248_105 (x := Int32.ofInt ((B / 4503599627370496) % 2048)) rfl ?_
        refine i_248_107 (z_ne (a := (B / 4503599627370496) % 2048) ⟨by omega, by omega⟩ fun c2 => ?_) (z_eq (a := (B / 4503599627370496) % 2048) ⟨by omega, by omega⟩ fun c2 => absurd c2 (by omega))
        refine i_248_115 (x := Int64.ofInt (B % 4503599627370496)) rfl ?_
        refine i_248_117 ?_
        refine i_248_120 (c := Int64.ofInt ((B % 4503599627370496) + 4503599627370496)) (q_or52 (t := B % 4503599627370496) (by omega) (by omega)) ?_
        obtain ⟨fs, hobj⟩ := hR.obj (h := 129) (iNw (h := 129) (by decide) (by decide) (by decide))
        obtain ⟨w, hrun, hR⟩ := r_setl (d := d + 5) (x := Int64.ofInt ((B % 4503599627370496) + 4503599627370496)) (v := ((B % 4503599627370496) + 4503599627370496).toNat) hR (iNw (h := 129) (by decide) (by decide) (by decide)) (xul_o (by omega) (by omega))
        refine i_248_121 hobj (Nat.le_of_ble_eq_true rfl) hrun ?_
        refine i_248_124 (x := 128) rfl ?_
        refine i_248_125 (x := Int32.ofInt r) rfl ?_
        refine i_248_126 (x := 128) rfl ?_
        refine i_248_127 (v := Value.ref 129) hR.c128 rfl ?_
        refine i_248_130 (x := Int32.ofInt ((B / 4503599627370496) % 2048)) rfl ?_
        refine i_248_132 (z_ne (a := (B / 4503599627370496) % 2048) ⟨by omega, by omega⟩ fun c3 => ?_) (z_eq (a := (B / 4503599627370496) % 2048) ⟨by omega, by omega⟩ fun c3 => absurd c3 (by omega))
        refine i_248_139 (x := Int32.ofInt ((B / 4503599627370496) % 2048)) rfl ?_
        refine i_248_141 ?_
        refine i_248_144 (c := Int32.ofInt (((B / 4503599627370496) % 2048) - 1075)) (o_sub ((B / 4503599627370496) % 2048) 1075) ?_
        refine i_248_145 ?_
        refine i_248_146 (x := Int64.ofInt B) rfl ?_
        refine i_248_147 ?_
        refine i_248_148 (c := Int32.ofInt (lc B 0)) (q_cmp (a := B) (b := 0) ⟨by omega, by omega⟩ ⟨by decide, by decide⟩) ?_
        refine i_248_149 (lc_ge (a := B) (b := 0) fun c4 => ?_) (lc_lt (a := B) (b := 0) fun c4 => ?_)
        · refine i_248_156 ?_
          refine i_248_157 (x := Int32.ofInt mode) rfl ?_
          have hobj := hR.c128
          have hx : (uv V 129 (((B % 4503599627370496) + 4503599627370496).toNat)) 129 = ((B % 4503599627370496) + 4503599627370496).toNat := uv_s
          obtain ⟨w, S6, V6, hrun, hR, hP⟩ := s_round (d := d + 3) (h := 129) (r := r) (e := ((B / 4503599627370496) % 2048) - 1075) (more := 0) (sg := 0) (mode := mode) hR (iNw (h := 129) (by decide) (by decide) (by decide)) (by omega) (by omega) (by omega) (by omega) (by omega) (by omega) (by omega) (hp_r.1) (hp_r.2) (⟨hi_l.1, Int.le_trans hi_l.2.1 hi_l.2.2⟩) (⟨Int.le_trans hi_l.1 hi_l.2.1, hi_l.2.2⟩) (hi_g) (Or.inl hi_f) (by rw [hx]; exact Nat.le_trans (xbl_le (k := 64) (by omega)) (by decide))
          rw [hx] at hrun hP
          rw [hi_f] at hrun hP
          refine i_248_159 hobj (Nat.le_of_ble_eq_true rfl) hrun ?_
          refine i_248_162 ?_
          have eo : sFrD S r.toNat B mode = oR (S 153 r.toNat) (S 128 17) (S 128 18) (S 128 20) 0 mode 0 (((B % 4503599627370496) + 4503599627370496).toNat) (((B / 4503599627370496) % 2048) - 1075) (S 128 19) := by clear hR hrun; grind [sFrD]
          rw [eo]
          exact ⟨rfl, _, _, hR, oP_round hP (by omega) nS.refl (nV.up nV.refl (by omega))⟩
        · refine i_248_152 ?_
          refine i_248_153 ?_
          refine i_248_157 (x := Int32.ofInt mode) rfl ?_
          have hobj := hR.c128
          have hx : (uv V 129 (((B % 4503599627370496) + 4503599627370496).toNat)) 129 = ((B % 4503599627370496) + 4503599627370496).toNat := uv_s
          obtain ⟨w, S7, V7, hrun, hR, hP⟩ := s_round (d := d + 3) (h := 129) (r := r) (e := ((B / 4503599627370496) % 2048) - 1075) (more := 0) (sg := 1) (mode := mode) hR (iNw (h := 129) (by decide) (by decide) (by decide)) (by omega) (by omega) (by omega) (by omega) (by omega) (by omega) (by omega) (hp_r.1) (hp_r.2) (⟨hi_l.1, Int.le_trans hi_l.2.1 hi_l.2.2⟩) (⟨Int.le_trans hi_l.1 hi_l.2.1, hi_l.2.2⟩) (hi_g) (Or.inl hi_f) (by rw [hx]; exact Nat.le_trans (xbl_le (k := 64) (by omega)) (by decide))
          rw [hx] at hrun hP
          rw [hi_f] at hrun hP
          refine i_248_159 hobj (Nat.le_of_ble_eq_true rfl) hrun ?_
          refine i_248_162 ?_
          have eo : sFrD S r.toNat B mode = oR (S 153 r.toNat) (S 128 17) (S 128 18) (S 128 20) 1 mode 0 (((B % 4503599627370496) + 4503599627370496).toNat) (((B / 4503599627370496) % 2048) - 1075) (S 128 19) := by clear hR hrun; grind [sFrD]
          rw [eo]
          exact ⟨rfl, _, _, hR, oP_round hP (by omega) nS.refl (nV.up nV.refl (by omega))⟩
      · refine i_248_76 (x := Int64.ofInt (B % 4503599627370496)) rfl ?_
        refine i_248_78 ?_
        refine i_248_79 (c := Int32.ofInt (lc (B % 4503599627370496) 0)) (q_cmp (a := B % 4503599627370496) (b := 0) ⟨by omega, by omega⟩ ⟨by decide, by decide⟩) ?_
        refine i_248_80 (lc_ne (a := B % 4503599627370496) (b := 0) fun c7 => ?_) (lc_eq (a := B % 4503599627370496) (b := 0) fun c7 => ?_)
        · refine i_248_101 (x := 128) rfl ?_
          refine i_248_102 (v := Value.ref 129) hR.c128 rfl ?_
          refine i_248_105 (x := Int32.ofInt ((B / 4503599627370496) % 2048)) rfl ?_
          refine i_248_107 (z_ne (a := (B / 4503599627370496) % 2048) ⟨by omega, by omega⟩ fun c8 => absurd c8 (by omega)) (z_eq (a := (B / 4503599627370496) % 2048) ⟨by omega, by omega⟩ fun c8 => ?_)
          refine i_248_110 (x := Int64.ofInt (B % 4503599627370496)) rfl ?_
          refine i_248_112 ?_
          obtain ⟨fs, hobj⟩ := hR.obj (h := 129) (iNw (h := 129) (by decide) (by decide) (by decide))
          obtain ⟨w, hrun, hR⟩ := r_setl (d := d + 5) (x := Int64.ofInt (B % 4503599627370496)) (v := (B % 4503599627370496).toNat) hR (iNw (h := 129) (by decide) (by decide) (by decide)) (xul_o (by omega) (by omega))
          refine i_248_121 hobj (Nat.le_of_ble_eq_true rfl) hrun ?_
          refine i_248_124 (x := 128) rfl ?_
          refine i_248_125 (x := Int32.ofInt r) rfl ?_
          refine i_248_126 (x := 128) rfl ?_
          refine i_248_127 (v := Value.ref 129) hR.c128 rfl ?_
          refine i_248_130 (x := Int32.ofInt ((B / 4503599627370496) % 2048)) rfl ?_
          refine i_248_132 (z_ne (a := (B / 4503599627370496) % 2048) ⟨by omega, by omega⟩ fun c9 => absurd c9 (by omega)) (z_eq (a := (B / 4503599627370496) % 2048) ⟨by omega, by omega⟩ fun c9 => ?_)
          refine i_248_135 ?_
          refine i_248_136 ?_
          refine i_248_141 ?_
          refine i_248_144 (c := (-1074)) rfl ?_
          refine i_248_145 ?_
          refine i_248_146 (x := Int64.ofInt B) rfl ?_
          refine i_248_147 ?_
          refine i_248_148 (c := Int32.ofInt (lc B 0)) (q_cmp (a := B) (b := 0) ⟨by omega, by omega⟩ ⟨by decide, by decide⟩) ?_
          refine i_248_149 (lc_ge (a := B) (b := 0) fun c10 => ?_) (lc_lt (a := B) (b := 0) fun c10 => ?_)
          · refine i_248_156 ?_
            refine i_248_157 (x := Int32.ofInt mode) rfl ?_
            have hobj := hR.c128
            have hx : (uv V 129 ((B % 4503599627370496).toNat)) 129 = (B % 4503599627370496).toNat := uv_s
            obtain ⟨w, S12, V12, hrun, hR, hP⟩ := s_round (d := d + 3) (h := 129) (r := r) (e := (-1074)) (more := 0) (sg := 0) (mode := mode) hR (iNw (h := 129) (by decide) (by decide) (by decide)) (by omega) (by omega) (by omega) (by omega) (by omega) (by omega) (by omega) (hp_r.1) (hp_r.2) (⟨hi_l.1, Int.le_trans hi_l.2.1 hi_l.2.2⟩) (⟨Int.le_trans hi_l.1 hi_l.2.1, hi_l.2.2⟩) (hi_g) (Or.inl hi_f) (by rw [hx]; exact Nat.le_trans (xbl_le (k := 64) (by omega)) (by decide))
            rw [hx] at hrun hP
            rw [hi_f] at hrun hP
            refine i_248_159 hobj (Nat.le_of_ble_eq_true rfl) hrun ?_
            refine i_248_162 ?_
            have eo : sFrD S r.toNat B mode = oR (S 153 r.toNat) (S 128 17) (S 128 18) (S 128 20) 0 mode 0 ((B % 4503599627370496).toNat) (-1074) (S 128 19) := by clear hR hrun; grind [sFrD]
            rw [eo]
            exact ⟨rfl, _, _, hR, oP_round hP (by omega) nS.refl (nV.up nV.refl (by omega))⟩
          · refine i_248_152 ?_
            refine i_248_153 ?_
            refine i_248_157 (x := Int32.ofInt mode) rfl ?_
            have hobj := hR.c128
            have hx : (uv V 129 ((B % 4503599627370496).toNat)) 129 = (B % 4503599627370496).toNat := uv_s
            obtain ⟨w, S13, V13, hrun, hR, hP⟩ := s_round (d := d + 3) (h := 129) (r := r) (e := (-1074)) (more := 0) (sg := 1) (mode := mode) hR (iNw (h := 129) (by decide) (by decide) (by decide)) (by omega) (by omega) (by omega) (by omega) (by omega) (by omega) (by omega) (hp_r.1) (hp_r.2) (⟨hi_l.1, Int.le_trans hi_l.2.1 hi_l.2.2⟩) (⟨Int.le_trans hi_l.1 hi_l.2.1, hi_l.2.2⟩) (hi_g) (Or.inl hi_f) (by rw [hx]; exact Nat.le_trans (xbl_le (k := 64) (by omega)) (by decide))
            rw [hx] at hrun hP
            rw [hi_f] at hrun hP
            refine i_248_159 hobj (Nat.le_of_ble_eq_true rfl) hrun ?_
            refine i_248_162 ?_
            have eo : sFrD S r.toNat B mode = oR (S 153 r.toNat) (S 128 17) (S 128 18) (S 128 20) 1 mode 0 ((B % 4503599627370496).toNat) (-1074) (S 128 19) := by clear hR hrun; grind [sFrD]
            rw [eo]
            exact ⟨rfl, _, _, hR, oP_round hP (by omega) nS.refl (nV.up nV.refl (by omega))⟩
        · refine i_248_83 (x := 128) rfl ?_
          refine i_248_84 (x := Int32.ofInt r) rfl ?_
          refine i_248_85 ?_
          refine i_248_86 (x := Int64.ofInt B) rfl ?_
          refine i_248_87 ?_
          refine i_248_88 (c := Int32.ofInt (lc B 0)) (q_cmp (a := B) (b := 0) ⟨by omega, by omega⟩ ⟨by decide, by decide⟩) ?_
          refine i_248_89 (lc_ge (a := B) (b := 0) fun c13 => ?_) (lc_lt (a := B) (b := 0) fun c13 => ?_)
          · refine i_248_96 ?_
            have hobj := hR.c128
            obtain ⟨w, hrun, hR⟩ := s_special (d := d + 6) (r := r) (k := 2) (s := 0) hR (by omega) (by omega) (by omega)
            refine i_248_97 hobj (Nat.le_of_ble_eq_true rfl) hrun ?_
            refine i_248_100 ?_
            have eo : sFrD S r.toNat B mode = oS 2 0 (S 128 19) := by clear hR hrun; grind [sFrD]
            rw [eo]
            exact ⟨rfl, _, _, hR, oP_special (by omega) (by decide) nS.refl nV.refl rfl⟩
          · refine i_248_92 ?_
            refine i_248_93 ?_
            have hobj := hR.c128
            obtain ⟨w, hrun, hR⟩ := s_special (d := d + 6) (r := r) (k := 2) (s := 1) hR (by omega) (by omega) (by omega)
            refine i_248_97 hobj (Nat.le_of_ble_eq_true rfl) hrun ?_
            refine i_248_100 ?_
            have eo : sFrD S r.toNat B mode = oS 2 1 (S 128 19) := by clear hR hrun; grind [sFrD]
            rw [eo]
            exact ⟨rfl, _, _, hR, oP_special (by omega) (by decide) nS.refl nV.refl rfl⟩
    · refine i_248_35 (x := 128) rfl ?_
      refine i_248_36 (x := Int32.ofInt r) rfl ?_
      refine i_248_37 (x := Int64.ofInt (B % 4503599627370496)) rfl ?_
      refine i_248_39 ?_
      refine i_248_40 (c := Int32.ofInt (lc (B % 4503599627370496) 0)) (q_cmp (a := B % 4503599627370496) (b := 0) ⟨by omega, by omega⟩ ⟨by decide, by decide⟩) ?_
      refine i_248_41 (lc_ne (a := B % 4503599627370496) (b := 0) fun c14 => ?_) (lc_eq (a := B % 4503599627370496) (b := 0) fun c14 => ?_)
      · refine i_248_48 ?_
        refine i_248_49 (x := Int64.ofInt (B % 4503599627370496)) rfl ?_
        refine i_248_51 ?_
        refine i_248_52 (c := Int32.ofInt (lc (B % 4503599627370496) 0)) (q_cmp (a := B % 4503599627370496) (b := 0) ⟨by omega, by omega⟩ ⟨by decide, by decide⟩) ?_
        refine i_248_53 (lc_ne (a := B % 4503599627370496) (b := 0) fun c15 => ?_) (lc_eq (a := B % 4503599627370496) (b := 0) fun c15 => absurd c15 (by omega))
        refine i_248_66 ?_
        have hobj := hR.c128
        obtain ⟨w, hrun, hR⟩ := s_special (d := d + 6) (r := r) (k := 0) (s := 0) hR (by omega) (by omega) (by omega)
        refine i_248_67 hobj (Nat.le_of_ble_eq_true rfl) hrun ?_
        refine i_248_70 ?_
        have eo : sFrD S r.toNat B mode = oS 0 0 (S 128 19) := by clear hR hrun; grind [sFrD]
        rw [eo]
        exact ⟨rfl, _, _, hR, oP_special (by omega) (by decide) nS.refl nV.refl rfl⟩
      · refine i_248_44 ?_
        refine i_248_45 ?_
        refine i_248_49 (x := Int64.ofInt (B % 4503599627370496)) rfl ?_
        refine i_248_51 ?_
        refine i_248_52 (c := Int32.ofInt (lc (B % 4503599627370496) 0)) (q_cmp (a := B % 4503599627370496) (b := 0) ⟨by omega, by omega⟩ ⟨by decide, by decide⟩) ?_
        refine i_248_53 (lc_ne (a := B % 4503599627370496) (b := 0) fun c16 => absurd c16 (by omega)) (lc_eq (a := B % 4503599627370496) (b := 0) fun c16 => ?_)
        refine i_248_56 (x := Int64.ofInt B) rfl ?_
        refine i_248_57 ?_
        refine i_248_58 (c := Int32.ofInt (lc B 0)) (q_cmp (a := B) (b := 0) ⟨by omega, by omega⟩ ⟨by decide, by decide⟩) ?_
        refine i_248_59 (lc_ge (a := B) (b := 0) fun c17 => ?_) (lc_lt (a := B) (b := 0) fun c17 => ?_)
        · refine i_248_66 ?_
          have hobj := hR.c128
          obtain ⟨w, hrun, hR⟩ := s_special (d := d + 6) (r := r) (k := 1) (s := 0) hR (by omega) (by omega) (by omega)
          refine i_248_67 hobj (Nat.le_of_ble_eq_true rfl) hrun ?_
          refine i_248_70 ?_
          have eo : sFrD S r.toNat B mode = oS 1 0 (S 128 19) := by clear hR hrun; grind [sFrD]
          rw [eo]
          exact ⟨rfl, _, _, hR, oP_special (by omega) (by decide) nS.refl nV.refl rfl⟩
        · refine i_248_62 ?_
          refine i_248_63 ?_
          have hobj := hR.c128
          obtain ⟨w, hrun, hR⟩ := s_special (d := d + 6) (r := r) (k := 1) (s := 1) hR (by omega) (by omega) (by omega)
          refine i_248_67 hobj (Nat.le_of_ble_eq_true rfl) hrun ?_
          refine i_248_70 ?_
          have eo : sFrD S r.toNat B mode = oS 1 1 (S 128 19) := by clear hR hrun; grind [sFrD]
          rw [eo]
          exact ⟨rfl, _, _, hR, oP_special (by omega) (by decide) nS.refl nV.refl rfl⟩
  obtain ⟨o, w', h1, rfl, h2⟩ := key.run
  exact ⟨w', h1, h2⟩
theorem b_frd {d : Nat} {w : xW} {r B mode : Int} (b_r : -2147483648 ≤ r ∧ r < 2147483648) (b_mode : -2147483648 ≤ mode ∧ mode < 2147483648) (h : ¬ ((0 ≤ r ∧ r ≤ 15) ∧ (0 ≤ mode ∧ mode ≤ 4))) : xRun (d + 8) 248 [Value.ref 128, Value.int (Int32.ofInt r), Value.long (Int64.ofInt B), Value.int (Int32.ofInt mode)] w (.inr w.length) (w ++ [.inr (14, [])]) := by
  refine xRun.of ?_
  refine i_248_0 (x := Int32.ofInt r) rfl ?_
  rcases Classical.em (0 ≤ r ∧ r ≤ 15) with hc1 | hc1
  · have hrun := s_reg1 (d := d + 5) (w := w) (r := r) (by omega) hc1
    refine i_248_1 (Nat.le_of_ble_eq_true rfl) hrun ?_
    refine i_248_4 (x := Int32.ofInt mode) rfl ?_
    rcases Classical.em (0 ≤ mode ∧ mode ≤ 4) with hc2 | hc2
    · have hrun := s_mode1 (d := d + 5) (w := w) (r := mode) (by omega) hc2
      refine i_248_6 (Nat.le_of_ble_eq_true rfl) hrun ?_
      exfalso; omega
    · have hrun := s_mode0 (d := d) (w := w) (r := mode) (by omega) hc2
      refine j_248_6 (Nat.le_of_ble_eq_true rfl) hrun (xDone.t (ci := 14) xgl rfl rfl ?_)
      exact ⟨rfl, rfl⟩
  · have hrun := s_reg0 (d := d) (w := w) (r := r) (by omega) hc1
    refine j_248_1 (Nat.le_of_ble_eq_true rfl) hrun (xDone.t (ci := 14) xgl rfl rfl ?_)
    exact ⟨rfl, rfl⟩
