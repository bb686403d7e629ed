/-! remainder of the reference -/
/-- an equation that omega does not see -/
def eqq (a b : Nat) : Prop := a = b
theorem sRem_m {S : Nat → Nat → Int} {V : Nat → Nat} {r a b : Nat} {ne mode : Int} (h1 : ¬ (S 154 a = 1 ∨ S 154 b = 2)) (h2 : ¬ (S 154 a = 2 ∨ S 154 b = 1)) : sRem S V r a b ne mode = sRem1 (S 153 r) (S 128 17) (S 128 18) (S 128 20) (S 128 19) (S 156 a) ne mode (remX S V a b) (remX S V b a) (min (ex S a) (ex S b)) := by
  unfold sRem
  rw [if_neg h1, if_neg h2]
theorem remB_e {ne : Int} {X Y R Qn D2 : Nat} (hR : X % Y = R) (hQ : X / Y = Qn) (hD : eqq D2 (R * 2 ^ (1 : Int).toNat)) : remB ne X Y = (!decide (ne = 0) && (decide (0 < ncmp D2 Y) || (decide (ncmp D2 Y = 0) && nbit Qn 0))) := by
  have hD : D2 = R * 2 ^ (1 : Int).toNat := hD
  unfold remB
  rw [hR, hQ, ← hD]
  have h := ncmp_i D2 Y
  have e1 : (0 < ncmp D2 Y) = (Y < D2) := propext ⟨fun _ => by omega, fun _ => by omega⟩
  have e2 : (ncmp D2 Y = 0) = (D2 = Y) := propext ⟨fun _ => by omega, fun _ => by omega⟩
  rw [decide_eq_decide.mpr (by rw [e1] : 0 < ncmp D2 Y ↔ Y < D2), decide_eq_decide.mpr (by rw [e2] : ncmp D2 Y = 0 ↔ D2 = Y)]
set_option maxHeartbeats 8000000 in
theorem s_rem {d : Nat} {w0 w : xW} {S : Nat → Nat → Int} {V : Nat → Nat} {r a b ne mode : Int} (hR : mR w0 S V w) (hI : mI S V) (hr : 0 ≤ r ∧ r < 16) (ha : 0 ≤ a ∧ a < 16) (hb : 0 ≤ b ∧ b < 16) (ka : S 154 a.toNat ≠ 0) (kb : S 154 b.toNat ≠ 0) (hne : ne = 0 ∨ ne = 1) (hmo : 0 ≤ mode ∧ mode ≤ 4) : ∃ w', xRun (d + 6) 219 [Value.ref 128, Value.int (Int32.ofInt r), Value.int (Int32.ofInt a), Value.int (Int32.ofInt b), Value.int (Int32.ofInt ne), Value.int (Int32.ofInt mode)] w (.inl (some (.int (Int32.ofInt (sRem S V r.toNat a.toNat b.toNat ne mode).2.2.2.2.1)))) w' ∧ ∃ S' V', mR w0 S' V' w' ∧ oP S S' V V' r.toNat (sRem S V r.toNat a.toNat b.toNat ne mode) := by
  obtain ⟨hp_r, -⟩ := hI.1 r.toNat (by omega)
  obtain ⟨hp_a, hk_a, hn_a, ht_a, hx_a, -⟩ := hI.1 a.toNat (by omega)
  obtain ⟨hp_b, hk_b, hn_b, ht_b, hx_b, -⟩ := hI.1 b.toNat (by omega)
  have hi_l := hI.2.1
  have hi_g := hI.2.2.1
  have hi_f := hI.2.2.2
  obtain ⟨X, hX0⟩ : ∃ X, eqq X (remX S V a.toNat b.toNat) := ⟨_, rfl⟩
  have hX : X = remX S V a.toNat b.toNat := hX0
  obtain ⟨Y, hY0e⟩ : ∃ Y, eqq Y (remX S V b.toNat a.toNat) := ⟨_, rfl⟩
  have hY : Y = remX S V b.toNat a.toNat := hY0e
  have hXb : xbl X ≤ 60000 := by
    rw [hX]
    refine Nat.le_trans (xbl_powle _ _) ?_
    unfold ex
    omega
  have hYb : xbl Y ≤ 60000 := by
    rw [hY]
    refine Nat.le_trans (xbl_powle _ _) ?_
    unfold ex
    omega
  have hY0' : hid (S 154 b.toNat = 3 → Y ≠ 0) := fun h2 => by
    rw [hY]
    unfold remX
    exact Nat.mul_ne_zero (hI.nz (by omega) h2) (Nat.pos_iff_ne_zero.mp (Nat.two_pow_pos _))
  obtain ⟨Qn, hQn⟩ : ∃ Qn, X / Y = Qn := ⟨_, rfl⟩
  obtain ⟨R, hRn⟩ : ∃ R, X % Y = R := ⟨_, rfl⟩
  obtain ⟨D2, hD2⟩ : ∃ D2, eqq D2 (R * 2 ^ (1 : Int).toNat) := ⟨_, rfl⟩
  have hRb : xbl R ≤ xbl X := by rw [← hRn]; exact xbl_mono (Nat.mod_le _ _)
  have hRb2 : xbl (Y - R) ≤ xbl Y := xbl_mono (Nat.sub_le _ _)
  have hRlt : hid (Y ≠ 0 → R < Y) := fun h => by rw [← hRn]; exact Nat.mod_lt _ (Nat.pos_of_ne_zero h)
  clear hX hY
  have hX := hX0
  clear hX0
  have hY := hY0e
  clear hY0e
  have key : xEv (d + 6) 219 0 (lv_args 0 [Value.ref 128, Value.int (Int32.ofInt r), Value.int (Int32.ofInt a), Value.int (Int32.ofInt b), Value.int (Int32.ofInt ne), Value.int (Int32.ofInt mode)]) [] w (fun o w' => o = .inl (some (.int (Int32.ofInt (sRem S V r.toNat a.toNat b.toNat ne mode).2.2.2.2.1))) ∧ ∃ S' V', mR w0 S' V' w' ∧ oP S S' V V' r.toNat (sRem S V r.toNat a.toNat b.toNat ne mode)) := by
    refine i_219_0 (x := 128) rfl ?_
    refine i_219_1 (v := Value.ref 154) hR.c128 rfl ?_
    refine i_219_4 (x := Int32.ofInt a) rfl ?_
    refine i_219_5 (v := Value.int (Int32.ofInt (S 154 ((a).toNat)))) (hR.row a154) (ix0 (T := a) (by omega) (by omega)) (ix1 (T := a) (by omega) (by omega) (by omega)) (ra (T := a) (by omega) (by omega) rfl) ?_
    refine i_219_6 ?_
    refine i_219_7 (b_eq (a := S 154 ((a).toNat)) (b := 1) ⟨by omega, by omega⟩ ⟨by decide, by decide⟩ fun c0 => ?_) (b_ne (a := S 154 ((a).toNat)) (b := 1) ⟨by omega, by omega⟩ ⟨by decide, by decide⟩ fun c0 => ?_)
    · refine i_219_20 (x := 128) rfl ?_
      refine i_219_21 (x := Int32.ofInt r) rfl ?_
      have hobj := hR.c128
      obtain ⟨w, hrun, hR⟩ := s_invalid (d := d + 3) (r := r) hR (by omega) (by omega)
      refine i_219_22 hobj (Nat.le_of_ble_eq_true rfl) hrun ?_
      refine i_219_25 ?_
      have eo : sRem S V r.toNat a.toNat b.toNat ne mode = oS 0 0 (zor (S 128 19) 8) := by clear hR hrun; unfold sRem; first | rw [if_pos (by omega)] | rw [if_neg (by omega), if_pos (by omega)]
      rw [eo]
      exact ⟨rfl, _, _, hR, oP_flag (by omega) (by decide) nS.refl nV.refl rfl⟩
    · refine i_219_10 (x := 128) rfl ?_
      refine i_219_11 (v := Value.ref 154) hR.c128 rfl ?_
      refine i_219_14 (x := Int32.ofInt b) rfl ?_
      refine i_219_15 (v := Value.int (Int32.ofInt (S 154 ((b).toNat)))) (hR.row a154) (ix0 (T := b) (by omega) (by omega)) (ix1 (T := b) (by omega) (by omega) (by omega)) (ra (T := b) (by omega) (by omega) rfl) ?_
      refine i_219_16 ?_
      refine i_219_17 (b_ne (a := S 154 ((b).toNat)) (b := 2) ⟨by omega, by omega⟩ ⟨by decide, by decide⟩ fun c1 => ?_) (b_eq (a := S 154 ((b).toNat)) (b := 2) ⟨by omega, by omega⟩ ⟨by decide, by decide⟩ fun c1 => ?_)
      · refine i_219_26 (x := 128) rfl ?_
        refine i_219_27 (v := Value.ref 154) hR.c128 rfl ?_
        refine i_219_30 (x := Int32.ofInt a) rfl ?_
        refine i_219_31 (v := Value.int (Int32.ofInt (S 154 ((a).toNat)))) (hR.row a154) (ix0 (T := a) (by omega) (by omega)) (ix1 (T := a) (by omega) (by omega) (by omega)) (ra (T := a) (by omega) (by omega) rfl) ?_
        refine i_219_32 ?_
        refine i_219_33 (b_eq (a := S 154 ((a).toNat)) (b := 2) ⟨by omega, by omega⟩ ⟨by decide, by decide⟩ fun c2 => ?_) (b_ne (a := S 154 ((a).toNat)) (b := 2) ⟨by omega, by omega⟩ ⟨by decide, by decide⟩ fun c2 => ?_)
        · refine i_219_46 (x := 128) rfl ?_
          refine i_219_47 (x := Int32.ofInt r) rfl ?_
          refine i_219_48 (x := Int32.ofInt a) rfl ?_
          refine i_219_49 (x := 128) rfl ?_
          refine i_219_50 (v := Value.ref 156) hR.c128 rfl ?_
          refine i_219_53 (x := Int32.ofInt a) rfl ?_
          refine i_219_54z (v := Value.int (Int32.ofInt (S 156 ((a).toNat)))) (hR.row a156) (ix0 (T := a) (by omega) (by omega)) (ix1 (T := a) (by omega) (by omega) (by omega)) (ra (T := a) (by omega) (by omega) rfl) ?_
          refine i_219_55 (x := Int32.ofInt mode) rfl ?_
          have hobj := hR.c128
          obtain ⟨w, hrun, S2, V2, hR, hP⟩ := s_move (d := d) (r := r) (a := a) (sg := S 156 ((a).toNat)) (mode := mode) hR hI (by omega) (by omega) (by omega) (by omega)
          refine i_219_57 hobj (Nat.le_of_ble_eq_true rfl) hrun ?_
          refine i_219_60 ?_
          have eo : sRem S V r.toNat a.toNat b.toNat ne mode = sMove S V r.toNat a.toNat (S 156 ((a).toNat)) mode := by clear hR hrun hP; unfold sRem; first | rw [if_pos (by omega)] | rw [if_neg (by omega), if_pos (by omega)]
          rw [eo]
          exact ⟨rfl, _, _, hR, hP⟩
        · refine i_219_36 (x := 128) rfl ?_
          refine i_219_37 (v := Value.ref 154) hR.c128 rfl ?_
          refine i_219_40 (x := Int32.ofInt b) rfl ?_
          refine i_219_41 (v := Value.int (Int32.ofInt (S 154 ((b).toNat)))) (hR.row a154) (ix0 (T := b) (by omega) (by omega)) (ix1 (T := b) (by omega) (by omega) (by omega)) (ra (T := b) (by omega) (by omega) rfl) ?_
          refine i_219_42 ?_
          refine i_219_43 (b_ne (a := S 154 ((b).toNat)) (b := 1) ⟨by omega, by omega⟩ ⟨by decide, by decide⟩ fun c3 => ?_) (b_eq (a := S 154 ((b).toNat)) (b := 1) ⟨by omega, by omega⟩ ⟨by decide, by decide⟩ fun c3 => ?_)
          · refine i_219_61 (x := 128) rfl ?_
            refine i_219_62 (x := Int32.ofInt a) rfl ?_
            have hobj := hR.c128
            obtain ⟨w, hrun, hR⟩ := s_exponent (d := d + 4) (r := a) hR (by omega) (by omega)
            refine i_219_63 hobj (Nat.le_of_ble_eq_true rfl) hrun ?_
            refine i_219_66 (x := 128) rfl ?_
            refine i_219_67 (x := Int32.ofInt b) rfl ?_
            have hobj := hR.c128
            obtain ⟨w, hrun, hR⟩ := s_exponent (d := d + 4) (r := b) hR (by omega) (by omega)
            refine i_219_68 hobj (Nat.le_of_ble_eq_true rfl) hrun ?_
            have hrun := s_min (d := d + 4) (w := w) (a := S 155 a.toNat - S 153 a.toNat) (b := S 155 b.toNat - S 153 b.toNat) ⟨by omega, by omega⟩ ⟨by omega, by omega⟩
            refine i_219_71 (Nat.le_of_ble_eq_true rfl) hrun ?_
            refine i_219_74 (lv2 := [(6, Value.int (Int32.ofInt (min (S 155 a.toNat - S 153 a.toNat) (S 155 b.toNat - S 153 b.toNat)))), (0, Value.ref 128), (1, Value.int (Int32.ofInt r)), (2, Value.int (Int32.ofInt a)), (3, Value.int (Int32.ofInt b)), (4, Value.int (Int32.ofInt ne)), (5, Value.int (Int32.ofInt mode))]) rfl ?_
            refine i_219_76 (x := 128) rfl ?_
            refine i_219_77 (v := Value.ref 156) hR.c128 rfl ?_
            refine i_219_80 (x := Int32.ofInt a) rfl ?_
            refine i_219_81z (v := Value.int (Int32.ofInt (S 156 ((a).toNat)))) (hR.row a156) (ix0 (T := a) (by omega) (by omega)) (ix1 (T := a) (by omega) (by omega) (by omega)) (ra (T := a) (by omega) (by omega) rfl) ?_
            refine i_219_82 (lv2 := [(7, Value.int (Int32.ofInt (S 156 ((a).toNat)))), (6, Value.int (Int32.ofInt (min (S 155 a.toNat - S 153 a.toNat) (S 155 b.toNat - S 153 b.toNat)))), (0, Value.ref 128), (1, Value.int (Int32.ofInt r)), (2, Value.int (Int32.ofInt a)), (3, Value.int (Int32.ofInt b)), (4, Value.int (Int32.ofInt ne)), (5, Value.int (Int32.ofInt mode))]) rfl ?_
            refine i_219_84 (x := 128) rfl ?_
            refine i_219_85 (v := Value.ref 131) hR.c128 rfl ?_
            refine i_219_88 (x := 128) rfl ?_
            refine i_219_89 (v := Value.ref 157) hR.c128 rfl ?_
            refine i_219_92 (x := Int32.ofInt a) rfl ?_
            obtain ⟨gp, hgp, hgr⟩ := hR.part (j := (a).toNat) (by omega)
            refine i_219_93 (v := Value.ref (160 + 2 * a.toNat)) hgp (ix0 (by omega) (by omega)) (ix1 (by omega) (by omega) (by omega)) (by rw [ixn (by omega) (by omega)]; exact hgr) ?_
            obtain ⟨fs, hobj⟩ := hR.obj (h := 131) (iNw (h := 131) (by decide) (by decide) (by decide))
            obtain ⟨w, hrun, hR⟩ := r_setn (d := d + 3) (v := V (160 + 2 * a.toNat)) (c := 4700) hR (iNw (h := 131) (by decide) (by decide) (by decide)) (iNp (r := a) (by omega) (by omega)) (rfl) rfl (by omega)
            refine i_219_94 hobj (Nat.le_of_ble_eq_true rfl) hrun ?_
            refine i_219_97 (x := 128) rfl ?_
            refine i_219_98 (v := Value.ref 131) hR.c128 rfl ?_
            refine i_219_101 (x := 128) rfl ?_
            refine i_219_102 (x := Int32.ofInt a) rfl ?_
            have hobj := hR.c128
            obtain ⟨w, hrun, hR⟩ := s_exponent (d := d + 4) (r := a) hR (by omega) (by omega)
            refine i_219_103 hobj (Nat.le_of_ble_eq_true rfl) hrun ?_
            refine i_219_106 (x := Int32.ofInt (min (S 155 a.toNat - S 153 a.toNat) (S 155 b.toNat - S 153 b.toNat))) rfl ?_
            refine i_219_108 (c := Int32.ofInt ((S 155 a.toNat - S 153 a.toNat) - (min (S 155 a.toNat - S 153 a.toNat) (S 155 b.toNat - S 153 b.toNat)))) (o_sub (S 155 a.toNat - S 153 a.toNat) (min (S 155 a.toNat - S 153 a.toNat) (S 155 b.toNat - S 153 b.toNat))) ?_
            obtain ⟨fs, hobj⟩ := hR.obj (h := 131) (iNw (h := 131) (by decide) (by decide) (by decide))
            obtain ⟨w, hrun, hR⟩ := r_up (d := d + 3) (v := V (160 + 2 * a.toNat)) (c := 4700) (k := (S 155 a.toNat - S 153 a.toNat) - (min (S 155 a.toNat - S 153 a.toNat) (S 155 b.toNat - S 153 b.toNat))) hR (iNw (h := 131) (by decide) (by decide) (by decide)) (uv_s) rfl (by omega) (by omega)
            have hXe : (V (160 + 2 * a.toNat)) * 2 ^ ((S 155 a.toNat - S 153 a.toNat) - (min (S 155 a.toNat - S 153 a.toNat) (S 155 b.toNat - S 153 b.toNat)) : Int).toNat = X := by rw [show X = remX S V a.toNat b.toNat from hX]; rfl
            rw [hXe] at hR
            clear hXe
            rw [uvv] at hR
            refine i_219_109 hobj (Nat.le_of_ble_eq_true rfl) hrun ?_
            refine i_219_112 (x := 128) rfl ?_
            refine i_219_113 (v := Value.ref 141) hR.c128 rfl ?_
            refine i_219_116 (x := 128) rfl ?_
            refine i_219_117 (v := Value.ref 157) hR.c128 rfl ?_
            refine i_219_120 (x := Int32.ofInt b) rfl ?_
            obtain ⟨gp, hgp, hgr⟩ := hR.part (j := (b).toNat) (by omega)
            refine i_219_121 (v := Value.ref (160 + 2 * b.toNat)) hgp (ix0 (by omega) (by omega)) (ix1 (by omega) (by omega) (by omega)) (by rw [ixn (by omega) (by omega)]; exact hgr) ?_
            obtain ⟨fs, hobj⟩ := hR.obj (h := 141) (iNw (h := 141) (by decide) (by decide) (by decide))
            obtain ⟨w, hrun, hR⟩ := r_setn (d := d + 3) (v := V (160 + 2 * b.toNat)) (c := 4700) hR (iNw (h := 141) (by decide) (by decide) (by decide)) (iNp (r := b) (by omega) (by omega)) ((uv_n (by omega)).trans (rfl)) rfl (by omega)
            refine i_219_122 hobj (Nat.le_of_ble_eq_true rfl) hrun ?_
            refine i_219_125 (x := 128) rfl ?_
            refine i_219_126 (v := Value.ref 141) hR.c128 rfl ?_
            refine i_219_129 (x := 128) rfl ?_
            refine i_219_130 (x := Int32.ofInt b) rfl ?_
            have hobj := hR.c128
            obtain ⟨w, hrun, hR⟩ := s_exponent (d := d + 4) (r := b) hR (by omega) (by omega)
            refine i_219_131 hobj (Nat.le_of_ble_eq_true rfl) hrun ?_
            refine i_219_134 (x := Int32.ofInt (min (S 155 a.toNat - S 153 a.toNat) (S 155 b.toNat - S 153 b.toNat))) rfl ?_
            refine i_219_136 (c := Int32.ofInt ((S 155 b.toNat - S 153 b.toNat) - (min (S 155 a.toNat - S 153 a.toNat) (S 155 b.toNat - S 153 b.toNat)))) (o_sub (S 155 b.toNat - S 153 b.toNat) (min (S 155 a.toNat - S 153 a.toNat) (S 155 b.toNat - S 153 b.toNat))) ?_
            obtain ⟨fs, hobj⟩ := hR.obj (h := 141) (iNw (h := 141) (by decide) (by decide) (by decide))
            obtain ⟨w, hrun, hR⟩ := r_up (d := d + 3) (v := V (160 + 2 * b.toNat)) (c := 4700) (k := (S 155 b.toNat - S 153 b.toNat) - (min (S 155 a.toNat - S 153 a.toNat) (S 155 b.toNat - S 153 b.toNat))) hR (iNw (h := 141) (by decide) (by decide) (by decide)) (uv_s) rfl (by omega) (by omega)
            have hYe : (V (160 + 2 * b.toNat)) * 2 ^ ((S 155 b.toNat - S 153 b.toNat) - (min (S 155 a.toNat - S 153 a.toNat) (S 155 b.toNat - S 153 b.toNat)) : Int).toNat = Y := by rw [show Y = remX S V b.toNat a.toNat from hY]; exact remX_comm.symm
            rw [hYe] at hR
            clear hYe
            rw [uvv] at hR
            refine i_219_137 hobj (Nat.le_of_ble_eq_true rfl) hrun ?_
            refine i_219_140 (x := 128) rfl ?_
            refine i_219_141 (x := 128) rfl ?_
            refine i_219_142 (v := Value.ref 131) hR.c128 rfl ?_
            refine i_219_145 (x := 128) rfl ?_
            refine i_219_146 (v := Value.ref 141) hR.c128 rfl ?_
            refine i_219_149 (x := 128) rfl ?_
            refine i_219_150 (v := Value.ref 133) hR.c128 rfl ?_
            have hobj := hR.c128
            have hY0 := hY0' (by omega)
            have hRl : R < Y := hRlt hY0
            obtain ⟨w, z5, hrun, hR⟩ := s_divide (d := d + 2) (hx := 131) (hy := 141) (t := 133) (x := X) (y := Y) hR (iNw (h := 131) (by decide) (by decide) (by decide)) (iNw (h := 141) (by decide) (by decide) (by decide)) (by omega) (by omega) (by omega) (by omega) (by omega) (by omega) (by omega) ((uv_n (by omega)).trans (uv_s)) (uv_s) (by exact hY0) (by omega) (by omega)
            rw [hQn, hRn] at hR
            refine i_219_153 hobj (Nat.le_of_ble_eq_true rfl) hrun ?_
            refine i_219_156 (x := 128) rfl ?_
            refine i_219_157 (v := Value.ref 129) hR.c128 rfl ?_
            refine i_219_160 (x := 128) rfl ?_
            refine i_219_161 (v := Value.ref 137) hR.c128 rfl ?_
            obtain ⟨fs, hobj⟩ := hR.obj (h := 129) (iNw (h := 129) (by decide) (by decide) (by decide))
            obtain ⟨w, hrun, hR⟩ := r_setn (d := d + 3) (v := R) (c := 4700) hR (iNw (h := 129) (by decide) (by decide) (by decide)) (iNw (h := 137) (by decide) (by decide) (by decide)) (uv_s) rfl (by omega)
            refine i_219_164 hobj (Nat.le_of_ble_eq_true rfl) hrun ?_
            refine i_219_167 (x := Int32.ofInt ne) rfl ?_
            refine i_219_169 (z_eq (a := ne) ⟨by omega, by omega⟩ fun c5 => ?_) (z_ne (a := ne) ⟨by omega, by omega⟩ fun c5 => ?_)
            · refine i_219_259 (x := 128) rfl ?_
              refine i_219_260 (v := Value.ref 129) hR.c128 rfl ?_
              obtain ⟨n7, hsz, hn7, hz7⟩ := hR.size (h := 129) (v := R) (iNw (h := 129) (by decide) (by decide) (by decide)) (uv_s)
              refine i_219_263 (v := Value.int (Int32.ofInt (n7 : Int))) hsz rfl ?_
              refine i_219_266 (z_ne (a := (n7 : Int)) ⟨by omega, by omega⟩ fun c7 => ?_) (z_eq (a := (n7 : Int)) ⟨by omega, by omega⟩ fun c7 => ?_)
              · refine i_219_282 (x := 128) rfl ?_
                refine i_219_283 (x := Int32.ofInt r) rfl ?_
                refine i_219_284 (x := 128) rfl ?_
                refine i_219_285 (v := Value.ref 129) hR.c128 rfl ?_
                refine i_219_288 (x := Int32.ofInt (min (S 155 a.toNat - S 153 a.toNat) (S 155 b.toNat - S 153 b.toNat))) rfl ?_
                refine i_219_290 ?_
                refine i_219_291 (x := Int32.ofInt (S 156 ((a).toNat))) rfl ?_
                refine i_219_293 (x := Int32.ofInt mode) rfl ?_
                have hobj := hR.c128
                have hx : (uv (uv (uv (uv (uv (uv V 131 X) 141 Y) 139 z5) 133 Qn) 137 R) 129 R) 129 = R := uv_s
                obtain ⟨w, S9, V9, hrun, hR, hP⟩ := s_round (d := d + 1) (h := 129) (r := r) (e := min (S 155 a.toNat - S 153 a.toNat) (S 155 b.toNat - S 153 b.toNat)) (more := 0) (sg := S 156 ((a).toNat)) (mode := mode) hR (iNw (h := 129) (by decide) (by decide) (by decide)) (by omega) (by omega) (by omega) (by omega) (by omega) (by omega) (by omega) (hp_r.1) (hp_r.2) (⟨hi_l.1, Int.le_trans hi_l.2.1 hi_l.2.2⟩) (⟨Int.le_trans hi_l.1 hi_l.2.1, hi_l.2.2⟩) (hi_g) (Or.inl hi_f) (by rw [hx]; omega)
                rw [hx] at hrun hP
                rw [hi_f] at hrun hP
                refine i_219_295 hobj (Nat.le_of_ble_eq_true rfl) hrun ?_
                refine i_219_298 ?_
                have hB : remB ne X Y = false := by rw [remB_e hRn hQn hD2]; first | (simp [*]; done) | (simp [*]; omega)
                have eo : sRem S V r.toNat a.toNat b.toNat ne mode = oR (S 153 r.toNat) (S 128 17) (S 128 18) (S 128 20) (S 156 ((a).toNat)) mode 0 R (min (S 155 a.toNat - S 153 a.toNat) (S 155 b.toNat - S 153 b.toNat)) (S 128 19) := by clear hR hrun; rw [sRem_m (by omega) (by omega), ← show X = remX S V a.toNat b.toNat from hX, ← show Y = remX S V b.toNat a.toNat from hY]; unfold sRem1; rw [if_neg (by rw [hB]; decide), hRn, if_neg (by omega)]; try (first | rfl | (unfold ex; rfl) | (congr 1 <;> omega))
                rw [eo]
                exact ⟨rfl, _, _, hR, oP_round hP (by omega) nS.refl (nV.up (nV.up (nV.up (nV.up (nV.up (nV.up nV.refl (by omega)) (by omega)) (by omega)) (by omega)) (by omega)) (by omega))⟩
              · refine i_219_269 (x := 128) rfl ?_
                refine i_219_270 (x := Int32.ofInt r) rfl ?_
                refine i_219_271 ?_
                refine i_219_272 (x := 128) rfl ?_
                refine i_219_273 (v := Value.ref 156) hR.c128 rfl ?_
                refine i_219_276 (x := Int32.ofInt a) rfl ?_
                refine i_219_277z (v := Value.int (Int32.ofInt (S 156 ((a).toNat)))) (hR.row a156) (ix0 (T := a) (by omega) (by omega)) (ix1 (T := a) (by omega) (by omega) (by omega)) (ra (T := a) (by omega) (by omega) rfl) ?_
                have hobj := hR.c128
                obtain ⟨w, hrun, hR⟩ := s_special (d := d + 4) (r := r) (k := 2) (s := S 156 ((a).toNat)) hR (by omega) (by omega) (by omega)
                refine i_219_278 hobj (Nat.le_of_ble_eq_true rfl) hrun ?_
                refine i_219_281 ?_
                have hB : remB ne X Y = false := by rw [remB_e hRn hQn hD2]; first | (simp [*]; done) | (simp [*]; omega)
                have eo : sRem S V r.toNat a.toNat b.toNat ne mode = oS 2 (S 156 ((a).toNat)) (S 128 19) := by clear hR hrun; rw [sRem_m (by omega) (by omega), ← show X = remX S V a.toNat b.toNat from hX, ← show Y = remX S V b.toNat a.toNat from hY]; unfold sRem1; rw [if_neg (by rw [hB]; decide), hRn, if_pos (by omega)]; try (first | rfl | (unfold ex; rfl) | (congr 1 <;> omega))
                rw [eo]
                exact ⟨rfl, _, _, hR, oP_special (by omega) (by decide) nS.refl (nV.up (nV.up (nV.up (nV.up (nV.up (nV.up nV.refl (by omega)) (by omega)) (by omega)) (by omega)) (by omega)) (by omega)) rfl⟩
            · refine i_219_172 (x := 128) rfl ?_
              refine i_219_173 (v := Value.ref 131) hR.c128 rfl ?_
              refine i_219_176 (x := 128) rfl ?_
              refine i_219_177 (v := Value.ref 129) hR.c128 rfl ?_
              obtain ⟨fs, hobj⟩ := hR.obj (h := 131) (iNw (h := 131) (by decide) (by decide) (by decide))
              obtain ⟨w, hrun, hR⟩ := r_setn (d := d + 3) (v := R) (c := 4700) hR (iNw (h := 131) (by decide) (by decide) (by decide)) (iNw (h := 129) (by decide) (by decide) (by decide)) (uv_s) rfl (by omega)
              refine i_219_180 hobj (Nat.le_of_ble_eq_true rfl) hrun ?_
              refine i_219_183 (x := 128) rfl ?_
              refine i_219_184 (v := Value.ref 131) hR.c128 rfl ?_
              refine i_219_187 ?_
              obtain ⟨fs, hobj⟩ := hR.obj (h := 131) (iNw (h := 131) (by decide) (by decide) (by decide))
              obtain ⟨w, hrun, hR⟩ := r_up (d := d + 3) (v := R) (c := 4700) (k := 1) hR (iNw (h := 131) (by decide) (by decide) (by decide)) (uv_s) rfl (by omega) (by omega)
              rw [show R * 2 ^ (1 : Int).toNat = D2 from hD2.symm] at hR
              rw [uvv] at hR
              refine i_219_188 hobj (Nat.le_of_ble_eq_true rfl) hrun ?_
              refine i_219_191 (x := 128) rfl ?_
              refine i_219_192 (v := Value.ref 131) hR.c128 rfl ?_
              refine i_219_195 (x := 128) rfl ?_
              refine i_219_196 (v := Value.ref 141) hR.c128 rfl ?_
              obtain ⟨fs, hobj⟩ := hR.obj (h := 131) (iNw (h := 131) (by decide) (by decide) (by decide))
              have hrun := r_cmp (d := d + 3) (v := D2) (v2 := Y) hR (iNw (h := 131) (by decide) (by decide) (by decide)) (iNw (h := 141) (by decide) (by decide) (by decide)) (uv_s) ((uv_n (by omega)).trans ((uv_n (by omega)).trans ((uv_n (by omega)).trans ((uv_n (by omega)).trans ((uv_n (by omega)).trans (uv_s))))))
              refine i_219_199 hobj (Nat.le_of_ble_eq_true rfl) hrun ?_
              refine i_219_202 (lv2 := [(8, Value.int (Int32.ofInt (ncmp D2 Y))), (7, Value.int (Int32.ofInt (S 156 ((a).toNat)))), (6, Value.int (Int32.ofInt (min (S 155 a.toNat - S 153 a.toNat) (S 155 b.toNat - S 153 b.toNat)))), (0, Value.ref 128), (1, Value.int (Int32.ofInt r)), (2, Value.int (Int32.ofInt a)), (3, Value.int (Int32.ofInt b)), (4, Value.int (Int32.ofInt ne)), (5, Value.int (Int32.ofInt mode))]) rfl ?_
              refine i_219_204 (x := Int32.ofInt (ncmp D2 Y)) rfl ?_
              refine i_219_206 (z_gt (a := ncmp D2 Y) (ncmp_b _ _) fun c9 => ?_) (z_le (a := ncmp D2 Y) (ncmp_b _ _) fun c9 => ?_)
              · refine i_219_225 (x := 128) rfl ?_
                refine i_219_226 (v := Value.ref 141) hR.c128 rfl ?_
                refine i_219_229 (x := 128) rfl ?_
                refine i_219_230 (v := Value.ref 129) hR.c128 rfl ?_
                obtain ⟨fs, hobj⟩ := hR.obj (h := 141) (iNw (h := 141) (by decide) (by decide) (by decide))
                obtain ⟨w, hrun, hR⟩ := r_less (d := d + 3) (v := Y) (v2 := R) hR (iNw (h := 141) (by decide) (by decide) (by decide)) (iNw (h := 129) (by decide) (by decide) (by decide)) (by omega) ((uv_n (by omega)).trans ((uv_n (by omega)).trans ((uv_n (by omega)).trans ((uv_n (by omega)).trans ((uv_n (by omega)).trans (uv_s)))))) ((uv_n (by omega)).trans (uv_s)) (Nat.le_of_lt (hRlt hY0))
                refine i_219_233 hobj (Nat.le_of_ble_eq_true rfl) hrun ?_
                refine i_219_236 (x := 128) rfl ?_
                refine i_219_237 (v := Value.ref 129) hR.c128 rfl ?_
                refine i_219_240 (x := 128) rfl ?_
                refine i_219_241 (v := Value.ref 141) hR.c128 rfl ?_
                obtain ⟨fs, hobj⟩ := hR.obj (h := 129) (iNw (h := 129) (by decide) (by decide) (by decide))
                obtain ⟨w, hrun, hR⟩ := r_setn (d := d + 3) (v := Y - R) (c := 4700) hR (iNw (h := 129) (by decide) (by decide) (by decide)) (iNw (h := 141) (by decide) (by decide) (by decide)) (uv_s) rfl (by omega)
                refine i_219_244 hobj (Nat.le_of_ble_eq_true rfl) hrun ?_
                refine i_219_247 (x := Int32.ofInt (S 156 ((a).toNat))) rfl ?_
                refine i_219_249 (z_ne (a := S 156 ((a).toNat)) ⟨by omega, by omega⟩ fun c10 => ?_) (z_eq (a := S 156 ((a).toNat)) ⟨by omega, by omega⟩ fun c10 => ?_)
                · refine i_219_256 ?_
                  refine i_219_257 (lv2 := [(7, Value.int 0), (8, Value.int (Int32.ofInt (ncmp D2 Y))), (6, Value.int (Int32.ofInt (min (S 155 a.toNat - S 153 a.toNat) (S 155 b.toNat - S 153 b.toNat)))), (0, Value.ref 128), (1, Value.int (Int32.ofInt r)), (2, Value.int (Int32.ofInt a)), (3, Value.int (Int32.ofInt b)), (4, Value.int (Int32.ofInt ne)), (5, Value.int (Int32.ofInt mode))]) rfl ?_
                  refine i_219_259 (x := 128) rfl ?_
                  refine i_219_260 (v := Value.ref 129) hR.c128 rfl ?_
                  obtain ⟨n12, hsz, hn12, hz12⟩ := hR.size (h := 129) (v := Y - R) (iNw (h := 129) (by decide) (by decide) (by decide)) (uv_s)
                  refine i_219_263 (v := Value.int (Int32.ofInt (n12 : Int))) hsz rfl ?_
                  refine i_219_266 (z_ne (a := (n12 : Int)) ⟨by omega, by omega⟩ fun c12 => ?_) (z_eq (a := (n12 : Int)) ⟨by omega, by omega⟩ fun c12 => ?_)
                  · refine i_219_282 (x := 128) rfl ?_
                    refine i_219_283 (x := Int32.ofInt r) rfl ?_
                    refine i_219_284 (x := 128) rfl ?_
                    refine i_219_285 (v := Value.ref 129) hR.c128 rfl ?_
                    refine i_219_288 (x := Int32.ofInt (min (S 155 a.toNat - S 153 a.toNat) (S 155 b.toNat - S 153 b.toNat))) rfl ?_
                    refine i_219_290 ?_
                    refine i_219_291 (x := 0) rfl ?_
                    refine i_219_293 (x := Int32.ofInt mode) rfl ?_
                    have hobj := hR.c128
                    have hx : (uv (uv (uv (uv (uv (uv (uv (uv (uv V 131 X) 141 Y) 139 z5) 133 Qn) 137 R) 129 R) 131 D2) 141 (Y - R)) 129 (Y - R)) 129 = Y - R := uv_s
                    obtain ⟨w, S14, V14, hrun, hR, hP⟩ := s_round (d := d + 1) (h := 129) (r := r) (e := min (S 155 a.toNat - S 153 a.toNat) (S 155 b.toNat - S 153 b.toNat)) (more := 0) (sg := 0) (mode := mode) hR (iNw (h := 129) (by decide) (by decide) (by decide)) (by omega) (by omega) (by omega) (by omega) (by omega) (by omega) (by omega) (hp_r.1) (hp_r.2) (⟨hi_l.1, Int.le_trans hi_l.2.1 hi_l.2.2⟩) (⟨Int.le_trans hi_l.1 hi_l.2.1, hi_l.2.2⟩) (hi_g) (Or.inl hi_f) (by rw [hx]; omega)
                    rw [hx] at hrun hP
                    rw [hi_f] at hrun hP
                    refine i_219_295 hobj (Nat.le_of_ble_eq_true rfl) hrun ?_
                    refine i_219_298 ?_
                    have hB : remB ne X Y = true := by rw [remB_e hRn hQn hD2]; first | (simp [*]; done) | (simp [*]; omega)
                    have eo : sRem S V r.toNat a.toNat b.toNat ne mode = oR (S 153 r.toNat) (S 128 17) (S 128 18) (S 128 20) 0 mode 0 (Y - R) (min (S 155 a.toNat - S 153 a.toNat) (S 155 b.toNat - S 153 b.toNat)) (S 128 19) := by clear hR hrun; rw [sRem_m (by omega) (by omega), ← show X = remX S V a.toNat b.toNat from hX, ← show Y = remX S V b.toNat a.toNat from hY]; unfold sRem1; rw [if_pos hB, hRn]; try (first | rfl | (unfold ex; rfl) | (congr 1 <;> omega))
                    rw [eo]
                    exact ⟨rfl, _, _, hR, oP_round hP (by omega) nS.refl (nV.up (nV.up (nV.up (nV.up (nV.up (nV.up (nV.up (nV.up (nV.up nV.refl (by omega)) (by omega)) (by omega)) (by omega)) (by omega)) (by omega)) (by omega)) (by omega)) (by omega))⟩
                  · refine i_219_269 (x := 128) rfl ?_
                    refine i_219_270 (x := Int32.ofInt r) rfl ?_
                    refine i_219_271 ?_
                    refine i_219_272 (x := 128) rfl ?_
                    refine i_219_273 (v := Value.ref 156) hR.c128 rfl ?_
                    refine i_219_276 (x := Int32.ofInt a) rfl ?_
                    refine i_219_277z (v := Value.int (Int32.ofInt (S 156 ((a).toNat)))) (hR.row a156) (ix0 (T := a) (by omega) (by omega)) (ix1 (T := a) (by omega) (by omega) (by omega)) (ra (T := a) (by omega) (by omega) rfl) ?_
                    have hobj := hR.c128
                    obtain ⟨w, hrun, hR⟩ := s_special (d := d + 4) (r := r) (k := 2) (s := S 156 ((a).toNat)) hR (by omega) (by omega) (by omega)
                    refine i_219_278 hobj (Nat.le_of_ble_eq_true rfl) hrun ?_
                    refine i_219_281 ?_
                    exfalso
                    omega
                · refine i_219_252 ?_
                  refine i_219_253 ?_
                  refine i_219_257 (lv2 := [(7, Value.int 1), (8, Value.int (Int32.ofInt (ncmp D2 Y))), (6, Value.int (Int32.ofInt (min (S 155 a.toNat - S 153 a.toNat) (S 155 b.toNat - S 153 b.toNat)))), (0, Value.ref 128), (1, Value.int (Int32.ofInt r)), (2, Value.int (Int32.ofInt a)), (3, Value.int (Int32.ofInt b)), (4, Value.int (Int32.ofInt ne)), (5, Value.int (Int32.ofInt mode))]) rfl ?_
                  refine i_219_259 (x := 128) rfl ?_
                  refine i_219_260 (v := Value.ref 129) hR.c128 rfl ?_
                  obtain ⟨n15, hsz, hn15, hz15⟩ := hR.size (h := 129) (v := Y - R) (iNw (h := 129) (by decide) (by decide) (by decide)) (uv_s)
                  refine i_219_263 (v := Value.int (Int32.ofInt (n15 : Int))) hsz rfl ?_
                  refine i_219_266 (z_ne (a := (n15 : Int)) ⟨by omega, by omega⟩ fun c15 => ?_) (z_eq (a := (n15 : Int)) ⟨by omega, by omega⟩ fun c15 => ?_)
                  · refine i_219_282 (x := 128) rfl ?_
                    refine i_219_283 (x := Int32.ofInt r) rfl ?_
                    refine i_219_284 (x := 128) rfl ?_
                    refine i_219_285 (v := Value.ref 129) hR.c128 rfl ?_
                    refine i_219_288 (x := Int32.ofInt (min (S 155 a.toNat - S 153 a.toNat) (S 155 b.toNat - S 153 b.toNat))) rfl ?_
                    refine i_219_290 ?_
                    refine i_219_291 (x := 1) rfl ?_
                    refine i_219_293 (x := Int32.ofInt mode) rfl ?_
                    have hobj := hR.c128
                    have hx : (uv (uv (uv (uv (uv (uv (uv (uv (uv V 131 X) 141 Y) 139 z5) 133 Qn) 137 R) 129 R) 131 D2) 141 (Y - R)) 129 (Y - R)) 129 = Y - R := uv_s
                    obtain ⟨w, S17, V17, hrun, hR, hP⟩ := s_round (d := d + 1) (h := 129) (r := r) (e := min (S 155 a.toNat - S 153 a.toNat) (S 155 b.toNat - S 153 b.toNat)) (more := 0) (sg := 1) (mode := mode) hR (iNw (h := 129) (by decide) (by decide) (by decide)) (by omega) (by omega) (by omega) (by omega) (by omega) (by omega) (by omega) (hp_r.1) (hp_r.2) (⟨hi_l.1, Int.le_trans hi_l.2.1 hi_l.2.2⟩) (⟨Int.le_trans hi_l.1 hi_l.2.1, hi_l.2.2⟩) (hi_g) (Or.inl hi_f) (by rw [hx]; omega)
                    rw [hx] at hrun hP
                    rw [hi_f] at hrun hP
                    refine i_219_295 hobj (Nat.le_of_ble_eq_true rfl) hrun ?_
                    refine i_219_298 ?_
                    have hB : remB ne X Y = true := by rw [remB_e hRn hQn hD2]; first | (simp [*]; done) | (simp [*]; omega)
                    have eo : sRem S V r.toNat a.toNat b.toNat ne mode = oR (S 153 r.toNat) (S 128 17) (S 128 18) (S 128 20) 1 mode 0 (Y - R) (min (S 155 a.toNat - S 153 a.toNat) (S 155 b.toNat - S 153 b.toNat)) (S 128 19) := by clear hR hrun; rw [sRem_m (by omega) (by omega), ← show X = remX S V a.toNat b.toNat from hX, ← show Y = remX S V b.toNat a.toNat from hY]; unfold sRem1; rw [if_pos hB, hRn]; try (first | rfl | (unfold ex; rfl) | (congr 1 <;> omega))
                    rw [eo]
                    exact ⟨rfl, _, _, hR, oP_round hP (by omega) nS.refl (nV.up (nV.up (nV.up (nV.up (nV.up (nV.up (nV.up (nV.up (nV.up nV.refl (by omega)) (by omega)) (by omega)) (by omega)) (by omega)) (by omega)) (by omega)) (by omega)) (by omega))⟩
                  · refine i_219_269 (x := 128) rfl ?_
                    refine i_219_270 (x := Int32.ofInt r) rfl ?_
                    refine i_219_271 ?_
                    refine i_219_272 (x := 128) rfl ?_
                    refine i_219_273 (v := Value.ref 156) hR.c128 rfl ?_
                    refine i_219_276 (x := Int32.ofInt a) rfl ?_
                    refine i_219_277z (v := Value.int (Int32.ofInt (S 156 ((a).toNat)))) (hR.row a156) (ix0 (T := a) (by omega) (by omega)) (ix1 (T := a) (by omega) (by omega) (by omega)) (ra (T := a) (by omega) (by omega) rfl) ?_
                    have hobj := hR.c128
                    obtain ⟨w, hrun, hR⟩ := s_special (d := d + 4) (r := r) (k := 2) (s := S 156 ((a).toNat)) hR (by omega) (by omega) (by omega)
                    refine i_219_278 hobj (Nat.le_of_ble_eq_true rfl) hrun ?_
                    refine i_219_281 ?_
                    exfalso
                    omega
              · refine i_219_209 (x := Int32.ofInt (ncmp D2 Y)) rfl ?_
                refine i_219_211 (z_ne (a := ncmp D2 Y) (ncmp_b _ _) fun c17 => ?_) (z_eq (a := ncmp D2 Y) (ncmp_b _ _) fun c17 => ?_)
                · refine i_219_259 (x := 128) rfl ?_
                  refine i_219_260 (v := Value.ref 129) hR.c128 rfl ?_
                  obtain ⟨n19, hsz, hn19, hz19⟩ := hR.size (h := 129) (v := R) (iNw (h := 129) (by decide) (by decide) (by decide)) ((uv_n (by omega)).trans (uv_s))
                  refine i_219_263 (v := Value.int (Int32.ofInt (n19 : Int))) hsz rfl ?_
                  refine i_219_266 (z_ne (a := (n19 : Int)) ⟨by omega, by omega⟩ fun c19 => ?_) (z_eq (a := (n19 : Int)) ⟨by omega, by omega⟩ fun c19 => ?_)
                  · refine i_219_282 (x := 128) rfl ?_
                    refine i_219_283 (x := Int32.ofInt r) rfl ?_
                    refine i_219_284 (x := 128) rfl ?_
                    refine i_219_285 (v := Value.ref 129) hR.c128 rfl ?_
                    refine i_219_288 (x := Int32.ofInt (min (S 155 a.toNat - S 153 a.toNat) (S 155 b.toNat - S 153 b.toNat))) rfl ?_
                    refine i_219_290 ?_
                    refine i_219_291 (x := Int32.ofInt (S 156 ((a).toNat))) rfl ?_
                    refine i_219_293 (x := Int32.ofInt mode) rfl ?_
                    have hobj := hR.c128
                    have hx : (uv (uv (uv (uv (uv (uv (uv V 131 X) 141 Y) 139 z5) 133 Qn) 137 R) 129 R) 131 D2) 129 = R := (uv_n (by omega)).trans (uv_s)
                    obtain ⟨w, S21, V21, hrun, hR, hP⟩ := s_round (d := d + 1) (h := 129) (r := r) (e := min (S 155 a.toNat - S 153 a.toNat) (S 155 b.toNat - S 153 b.toNat)) (more := 0) (sg := S 156 ((a).toNat)) (mode := mode) hR (iNw (h := 129) (by decide) (by decide) (by decide)) (by omega) (by omega) (by omega) (by omega) (by omega) (by omega) (by omega) (hp_r.1) (hp_r.2) (⟨hi_l.1, Int.le_trans hi_l.2.1 hi_l.2.2⟩) (⟨Int.le_trans hi_l.1 hi_l.2.1, hi_l.2.2⟩) (hi_g) (Or.inl hi_f) (by rw [hx]; omega)
                    rw [hx] at hrun hP
                    rw [hi_f] at hrun hP
                    refine i_219_295 hobj (Nat.le_of_ble_eq_true rfl) hrun ?_
                    refine i_219_298 ?_
                    have hB : remB ne X Y = false := by rw [remB_e hRn hQn hD2]; first | (simp [*]; done) | (simp [*]; omega)
                    have eo : sRem S V r.toNat a.toNat b.toNat ne mode = oR (S 153 r.toNat) (S 128 17) (S 128 18) (S 128 20) (S 156 ((a).toNat)) mode 0 R (min (S 155 a.toNat - S 153 a.toNat) (S 155 b.toNat - S 153 b.toNat)) (S 128 19) := by clear hR hrun; rw [sRem_m (by omega) (by omega), ← show X = remX S V a.toNat b.toNat from hX, ← show Y = remX S V b.toNat a.toNat from hY]; unfold sRem1; rw [if_neg (by rw [hB]; decide), hRn, if_neg (by omega)]; try (first | rfl | (unfold ex; rfl) | (congr 1 <;> omega))
                    rw [eo]
                    exact ⟨rfl, _, _, hR, oP_round hP (by omega) nS.refl (nV.up (nV.up (nV.up (nV.up (nV.up (nV.up (nV.up nV.refl (by omega)) (by omega)) (by omega)) (by omega)) (by omega)) (by omega)) (by omega))⟩
                  · refine i_219_269 (x := 128) rfl ?_
                    refine i_219_270 (x := Int32.ofInt r) rfl ?_
                    refine i_219_271 ?_
                    refine i_219_272 (x := 128) rfl ?_
                    refine i_219_273 (v := Value.ref 156) hR.c128 rfl ?_
                    refine i_219_276 (x := Int32.ofInt a) rfl ?_
                    refine i_219_277z (v := Value.int (Int32.ofInt (S 156 ((a).toNat)))) (hR.row a156) (ix0 (T := a) (by omega) (by omega)) (ix1 (T := a) (by omega) (by omega) (by omega)) (ra (T := a) (by omega) (by omega) rfl) ?_
                    have hobj := hR.c128
                    obtain ⟨w, hrun, hR⟩ := s_special (d := d + 4) (r := r) (k := 2) (s := S 156 ((a).toNat)) hR (by omega) (by omega) (by omega)
                    refine i_219_278 hobj (Nat.le_of_ble_eq_true rfl) hrun ?_
                    refine i_219_281 ?_
                    have hB : remB ne X Y = false := by rw [remB_e hRn hQn hD2]; first | (simp [*]; done) | (simp [*]; omega)
                    have eo : sRem S V r.toNat a.toNat b.toNat ne mode = oS 2 (S 156 ((a).toNat)) (S 128 19) := by clear hR hrun; rw [sRem_m (by omega) (by omega), ← show X = remX S V a.toNat b.toNat from hX, ← show Y = remX S V b.toNat a.toNat from hY]; unfold sRem1; rw [if_neg (by rw [hB]; decide), hRn, if_pos (by omega)]; try (first | rfl | (unfold ex; rfl) | (congr 1 <;> omega))
                    rw [eo]
                    exact ⟨rfl, _, _, hR, oP_special (by omega) (by decide) nS.refl (nV.up (nV.up (nV.up (nV.up (nV.up (nV.up (nV.up nV.refl (by omega)) (by omega)) (by omega)) (by omega)) (by omega)) (by omega)) (by omega)) rfl⟩
                · refine i_219_214 (x := 128) rfl ?_
                  refine i_219_215 (v := Value.ref 133) hR.c128 rfl ?_
                  refine i_219_218 ?_
                  obtain ⟨fs, hobj⟩ := hR.obj (h := 133) (iNw (h := 133) (by decide) (by decide) (by decide))
                  have hrun := r_bit (d := d + 3) (v := Qn) (k := 0) hR (iNw (h := 133) (by decide) (by decide) (by decide)) ((uv_n (by omega)).trans ((uv_n (by omega)).trans ((uv_n (by omega)).trans (uv_s)))) (by omega) (by omega)
                  refine i_219_219 hobj (Nat.le_of_ble_eq_true rfl) hrun ?_
                  refine i_219_222 (zb_f fun c21 => ?_) (zb_t fun c21 => ?_)
                  · refine i_219_259 (x := 128) rfl ?_
                    refine i_219_260 (v := Value.ref 129) hR.c128 rfl ?_
                    obtain ⟨n23, hsz, hn23, hz23⟩ := hR.size (h := 129) (v := R) (iNw (h := 129) (by decide) (by decide) (by decide)) ((uv_n (by omega)).trans (uv_s))
                    refine i_219_263 (v := Value.int (Int32.ofInt (n23 : Int))) hsz rfl ?_
                    refine i_219_266 (z_ne (a := (n23 : Int)) ⟨by omega, by omega⟩ fun c23 => ?_) (z_eq (a := (n23 : Int)) ⟨by omega, by omega⟩ fun c23 => ?_)
                    · refine i_219_282 (x := 128) rfl ?_
                      refine i_219_283 (x := Int32.ofInt r) rfl ?_
                      refine i_219_284 (x := 128) rfl ?_
                      refine i_219_285 (v := Value.ref 129) hR.c128 rfl ?_
                      refine i_219_288 (x := Int32.ofInt (min (S 155 a.toNat - S 153 a.toNat) (S 155 b.toNat - S 153 b.toNat))) rfl ?_
                      refine i_219_290 ?_
                      refine i_219_291 (x := Int32.ofInt (S 156 ((a).toNat))) rfl ?_
                      refine i_219_293 (x := Int32.ofInt mode) rfl ?_
                      have hobj := hR.c128
                      have hx : (uv (uv (uv (uv (uv (uv (uv V 131 X) 141 Y) 139 z5) 133 Qn) 137 R) 129 R) 131 D2) 129 = R := (uv_n (by omega)).trans (uv_s)
                      obtain ⟨w, S25, V25, hrun, hR, hP⟩ := s_round (d := d + 1) (h := 129) (r := r) (e := min (S 155 a.toNat - S 153 a.toNat) (S 155 b.toNat - S 153 b.toNat)) (more := 0) (sg := S 156 ((a).toNat)) (mode := mode) hR (iNw (h := 129) (by decide) (by decide) (by decide)) (by omega) (by omega) (by omega) (by omega) (by omega) (by omega) (by omega) (hp_r.1) (hp_r.2) (⟨hi_l.1, Int.le_trans hi_l.2.1 hi_l.2.2⟩) (⟨Int.le_trans hi_l.1 hi_l.2.1, hi_l.2.2⟩) (hi_g) (Or.inl hi_f) (by rw [hx]; omega)
                      rw [hx] at hrun hP
                      rw [hi_f] at hrun hP
                      refine i_219_295 hobj (Nat.le_of_ble_eq_true rfl) hrun ?_
                      refine i_219_298 ?_
                      have hB : remB ne X Y = false := by rw [remB_e hRn hQn hD2]; first | (simp [*]; done) | (simp [*]; omega)
                      have eo : sRem S V r.toNat a.toNat b.toNat ne mode = oR (S 153 r.toNat) (S 128 17) (S 128 18) (S 128 20) (S 156 ((a).toNat)) mode 0 R (min (S 155 a.toNat - S 153 a.toNat) (S 155 b.toNat - S 153 b.toNat)) (S 128 19) := by clear hR hrun; rw [sRem_m (by omega) (by omega), ← show X = remX S V a.toNat b.toNat from hX, ← show Y = remX S V b.toNat a.toNat from hY]; unfold sRem1; rw [if_neg (by rw [hB]; decide), hRn, if_neg (by omega)]; try (first | rfl | (unfold ex; rfl) | (congr 1 <;> omega))
                      rw [eo]
                      exact ⟨rfl, _, _, hR, oP_round hP (by omega) nS.refl (nV.up (nV.up (nV.up (nV.up (nV.up (nV.up (nV.up nV.refl (by omega)) (by omega)) (by omega)) (by omega)) (by omega)) (by omega)) (by omega))⟩
                    · refine i_219_269 (x := 128) rfl ?_
                      refine i_219_270 (x := Int32.ofInt r) rfl ?_
                      refine i_219_271 ?_
                      refine i_219_272 (x := 128) rfl ?_
                      refine i_219_273 (v := Value.ref 156) hR.c128 rfl ?_
                      refine i_219_276 (x := Int32.ofInt a) rfl ?_
                      refine i_219_277z (v := Value.int (Int32.ofInt (S 156 ((a).toNat)))) (hR.row a156) (ix0 (T := a) (by omega) (by omega)) (ix1 (T := a) (by omega) (by omega) (by omega)) (ra (T := a) (by omega) (by omega) rfl) ?_
                      have hobj := hR.c128
                      obtain ⟨w, hrun, hR⟩ := s_special (d := d + 4) (r := r) (k := 2) (s := S 156 ((a).toNat)) hR (by omega) (by omega) (by omega)
                      refine i_219_278 hobj (Nat.le_of_ble_eq_true rfl) hrun ?_
                      refine i_219_281 ?_
                      have hB : remB ne X Y = false := by rw [remB_e hRn hQn hD2]; first | (simp [*]; done) | (simp [*]; omega)
                      have eo : sRem S V r.toNat a.toNat b.toNat ne mode = oS 2 (S 156 ((a).toNat)) (S 128 19) := by clear hR hrun; rw [sRem_m (by omega) (by omega), ← show X = remX S V a.toNat b.toNat from hX, ← show Y = remX S V b.toNat a.toNat from hY]; unfold sRem1; rw [if_neg (by rw [hB]; decide), hRn, if_pos (by omega)]; try (first | rfl | (unfold ex; rfl) | (congr 1 <;> omega))
                      rw [eo]
                      exact ⟨rfl, _, _, hR, oP_special (by omega) (by decide) nS.refl (nV.up (nV.up (nV.up (nV.up (nV.up (nV.up (nV.up nV.refl (by omega)) (by omega)) (by omega)) (by omega)) (by omega)) (by omega)) (by omega)) rfl⟩
                  · refine i_219_225 (x := 128) rfl ?_
                    refine i_219_226 (v := Value.ref 141) hR.c128 rfl ?_
                    refine i_219_229 (x := 128) rfl ?_
                    refine i_219_230 (v := Value.ref 129) hR.c128 rfl ?_
                    obtain ⟨fs, hobj⟩ := hR.obj (h := 141) (iNw (h := 141) (by decide) (by decide) (by decide))
                    obtain ⟨w, hrun, hR⟩ := r_less (d := d + 3) (v := Y) (v2 := R) hR (iNw (h := 141) (by decide) (by decide) (by decide)) (iNw (h := 129) (by decide) (by decide) (by decide)) (by omega) ((uv_n (by omega)).trans ((uv_n (by omega)).trans ((uv_n (by omega)).trans ((uv_n (by omega)).trans ((uv_n (by omega)).trans (uv_s)))))) ((uv_n (by omega)).trans (uv_s)) (Nat.le_of_lt (hRlt hY0))
                    refine i_219_233 hobj (Nat.le_of_ble_eq_true rfl) hrun ?_
                    refine i_219_236 (x := 128) rfl ?_
                    refine i_219_237 (v := Value.ref 129) hR.c128 rfl ?_
                    refine i_219_240 (x := 128) rfl ?_
                    refine i_219_241 (v := Value.ref 141) hR.c128 rfl ?_
                    obtain ⟨fs, hobj⟩ := hR.obj (h := 129) (iNw (h := 129) (by decide) (by decide) (by decide))
                    obtain ⟨w, hrun, hR⟩ := r_setn (d := d + 3) (v := Y - R) (c := 4700) hR (iNw (h := 129) (by decide) (by decide) (by decide)) (iNw (h := 141) (by decide) (by decide) (by decide)) (uv_s) rfl (by omega)
                    refine i_219_244 hobj (Nat.le_of_ble_eq_true rfl) hrun ?_
                    refine i_219_247 (x := Int32.ofInt (S 156 ((a).toNat))) rfl ?_
                    refine i_219_249 (z_ne (a := S 156 ((a).toNat)) ⟨by omega, by omega⟩ fun c25 => ?_) (z_eq (a := S 156 ((a).toNat)) ⟨by omega, by omega⟩ fun c25 => ?_)
                    · refine i_219_256 ?_
                      refine i_219_257 (lv2 := [(7, Value.int 0), (8, Value.int (Int32.ofInt (ncmp D2 Y))), (6, Value.int (Int32.ofInt (min (S 155 a.toNat - S 153 a.toNat) (S 155 b.toNat - S 153 b.toNat)))), (0, Value.ref 128), (1, Value.int (Int32.ofInt r)), (2, Value.int (Int32.ofInt a)), (3, Value.int (Int32.ofInt b)), (4, Value.int (Int32.ofInt ne)), (5, Value.int (Int32.ofInt mode))]) rfl ?_
                      refine i_219_259 (x := 128) rfl ?_
                      refine i_219_260 (v := Value.ref 129) hR.c128 rfl ?_
                      obtain ⟨n27, hsz, hn27, hz27⟩ := hR.size (h := 129) (v := Y - R) (iNw (h := 129) (by decide) (by decide) (by decide)) (uv_s)
                      refine i_219_263 (v := Value.int (Int32.ofInt (n27 : Int))) hsz rfl ?_
                      refine i_219_266 (z_ne (a := (n27 : Int)) ⟨by omega, by omega⟩ fun c27 => ?_) (z_eq (a := (n27 : Int)) ⟨by omega, by omega⟩ fun c27 => ?_)
                      · refine i_219_282 (x := 128) rfl ?_
                        refine i_219_283 (x := Int32.ofInt r) rfl ?_
                        refine i_219_284 (x := 128) rfl ?_
                        refine i_219_285 (v := Value.ref 129) hR.c128 rfl ?_
                        refine i_219_288 (x := Int32.ofInt (min (S 155 a.toNat - S 153 a.toNat) (S 155 b.toNat - S 153 b.toNat))) rfl ?_
                        refine i_219_290 ?_
                        refine i_219_291 (x := 0) rfl ?_
                        refine i_219_293 (x := Int32.ofInt mode) rfl ?_
                        have hobj := hR.c128
                        have hx : (uv (uv (uv (uv (uv (uv (uv (uv (uv V 131 X) 141 Y) 139 z5) 133 Qn) 137 R) 129 R) 131 D2) 141 (Y - R)) 129 (Y - R)) 129 = Y - R := uv_s
                        obtain ⟨w, S29, V29, hrun, hR, hP⟩ := s_round (d := d + 1) (h := 129) (r := r) (e := min (S 155 a.toNat - S 153 a.toNat) (S 155 b.toNat - S 153 b.toNat)) (more := 0) (sg := 0) (mode := mode) hR (iNw (h := 129) (by decide) (by decide) (by decide)) (by omega) (by omega) (by omega) (by omega) (by omega) (by omega) (by omega) (hp_r.1) (hp_r.2) (⟨hi_l.1, Int.le_trans hi_l.2.1 hi_l.2.2⟩) (⟨Int.le_trans hi_l.1 hi_l.2.1, hi_l.2.2⟩) (hi_g) (Or.inl hi_f) (by rw [hx]; omega)
                        rw [hx] at hrun hP
                        rw [hi_f] at hrun hP
                        refine i_219_295 hobj (Nat.le_of_ble_eq_true rfl) hrun ?_
                        refine i_219_298 ?_
                        have hB : remB ne X Y = true := by rw [remB_e hRn hQn hD2]; first | (simp [*]; done) | (simp [*]; omega)
                        have eo : sRem S V r.toNat a.toNat b.toNat ne mode = oR (S 153 r.toNat) (S 128 17) (S 128 18) (S 128 20) 0 mode 0 (Y - R) (min (S 155 a.toNat - S 153 a.toNat) (S 155 b.toNat - S 153 b.toNat)) (S 128 19) := by clear hR hrun; rw [sRem_m (by omega) (by omega), ← show X = remX S V a.toNat b.toNat from hX, ← show Y = remX S V b.toNat a.toNat from hY]; unfold sRem1; rw [if_pos hB, hRn]; try (first | rfl | (unfold ex; rfl) | (congr 1 <;> omega))
                        rw [eo]
                        exact ⟨rfl, _, _, hR, oP_round hP (by omega) nS.refl (nV.up (nV.up (nV.up (nV.up (nV.up (nV.up (nV.up (nV.up (nV.up nV.refl (by omega)) (by omega)) (by omega)) (by omega)) (by omega)) (by omega)) (by omega)) (by omega)) (by omega))⟩
                      · refine i_219_269 (x := 128) rfl ?_
                        refine i_219_270 (x := Int32.ofInt r) rfl ?_
                        refine i_219_271 ?_
                        refine i_219_272 (x := 128) rfl ?_
                        refine i_219_273 (v := Value.ref 156) hR.c128 rfl ?_
                        refine i_219_276 (x := Int32.ofInt a) rfl ?_
                        refine i_219_277z (v := Value.int (Int32.ofInt (S 156 ((a).toNat)))) (hR.row a156) (ix0 (T := a) (by omega) (by omega)) (ix1 (T := a) (by omega) (by omega) (by omega)) (ra (T := a) (by omega) (by omega) rfl) ?_
                        have hobj := hR.c128
                        obtain ⟨w, hrun, hR⟩ := s_special (d := d + 4) (r := r) (k := 2) (s := S 156 ((a).toNat)) hR (by omega) (by omega) (by omega)
                        refine i_219_278 hobj (Nat.le_of_ble_eq_true rfl) hrun ?_
                        refine i_219_281 ?_
                        exfalso
                        omega
                    · refine i_219_252 ?_
                      refine i_219_253 ?_
                      refine i_219_257 (lv2 := [(7, Value.int 1), (8, Value.int (Int32.ofInt (ncmp D2 Y))), (6, Value.int (Int32.ofInt (min (S 155 a.toNat - S 153 a.toNat) (S 155 b.toNat - S 153 b.toNat)))), (0, Value.ref 128), (1, Value.int (Int32.ofInt r)), (2, Value.int (Int32.ofInt a)), (3, Value.int (Int32.ofInt b)), (4, Value.int (Int32.ofInt ne)), (5, Value.int (Int32.ofInt mode))]) rfl ?_
                      refine i_219_259 (x := 128) rfl ?_
                      refine i_219_260 (v := Value.ref 129) hR.c128 rfl ?_
                      obtain ⟨n30, hsz, hn30, hz30⟩ := hR.size (h := 129) (v := Y - R) (iNw (h := 129) (by decide) (by decide) (by decide)) (uv_s)
                      refine i_219_263 (v := Value.int (Int32.ofInt (n30 : Int))) hsz rfl ?_
                      refine i_219_266 (z_ne (a := (n30 : Int)) ⟨by omega, by omega⟩ fun c30 => ?_) (z_eq (a := (n30 : Int)) ⟨by omega, by omega⟩ fun c30 => ?_)
                      · refine i_219_282 (x := 128) rfl ?_
                        refine i_219_283 (x := Int32.ofInt r) rfl ?_
                        refine i_219_284 (x := 128) rfl ?_
                        refine i_219_285 (v := Value.ref 129) hR.c128 rfl ?_
                        refine i_219_288 (x := Int32.ofInt (min (S 155 a.toNat - S 153 a.toNat) (S 155 b.toNat - S 153 b.toNat))) rfl ?_
                        refine i_219_290 ?_
                        refine i_219_291 (x := 1) rfl ?_
                        refine i_219_293 (x := Int32.ofInt mode) rfl ?_
                        have hobj := hR.c128
                        have hx : (uv (uv (uv (uv (uv (uv (uv (uv (uv V 131 X) 141 Y) 139 z5) 133 Qn) 137 R) 129 R) 131 D2) 141 (Y - R)) 129 (Y - R)) 129 = Y - R := uv_s
                        obtain ⟨w, S32, V32, hrun, hR, hP⟩ := s_round (d := d + 1) (h := 129) (r := r) (e := min (S 155 a.toNat - S 153 a.toNat) (S 155 b.toNat - S 153 b.toNat)) (more := 0) (sg := 1) (mode := mode) hR (iNw (h := 129) (by decide) (by decide) (by decide)) (by omega) (by omega) (by omega) (by omega) (by omega) (by omega) (by omega) (hp_r.1) (hp_r.2) (⟨hi_l.1, Int.le_trans hi_l.2.1 hi_l.2.2⟩) (⟨Int.le_trans hi_l.1 hi_l.2.1, hi_l.2.2⟩) (hi_g) (Or.inl hi_f) (by rw [hx]; omega)
                        rw [hx] at hrun hP
                        rw [hi_f] at hrun hP
                        refine i_219_295 hobj (Nat.le_of_ble_eq_true rfl) hrun ?_
                        refine i_219_298 ?_
                        have hB : remB ne X Y = true := by rw [remB_e hRn hQn hD2]; first | (simp [*]; done) | (simp [*]; omega)
                        have eo : sRem S V r.toNat a.toNat b.toNat ne mode = oR (S 153 r.toNat) (S 128 17) (S 128 18) (S 128 20) 1 mode 0 (Y - R) (min (S 155 a.toNat - S 153 a.toNat) (S 155 b.toNat - S 153 b.toNat)) (S 128 19) := by clear hR hrun; rw [sRem_m (by omega) (by omega), ← show X = remX S V a.toNat b.toNat from hX, ← show Y = remX S V b.toNat a.toNat from hY]; unfold sRem1; rw [if_pos hB, hRn]; try (first | rfl | (unfold ex; rfl) | (congr 1 <;> omega))
                        rw [eo]
                        exact ⟨rfl, _, _, hR, oP_round hP (by omega) nS.refl (nV.up (nV.up (nV.up (nV.up (nV.up (nV.up (nV.up (nV.up (nV.up nV.refl (by omega)) (by omega)) (by omega)) (by omega)) (by omega)) (by omega)) (by omega)) (by omega)) (by omega))⟩
                      · refine i_219_269 (x := 128) rfl ?_
                        refine i_219_270 (x := Int32.ofInt r) rfl ?_
                        refine i_219_271 ?_
                        refine i_219_272 (x := 128) rfl ?_
                        refine i_219_273 (v := Value.ref 156) hR.c128 rfl ?_
                        refine i_219_276 (x := Int32.ofInt a) rfl ?_
                        refine i_219_277z (v := Value.int (Int32.ofInt (S 156 ((a).toNat)))) (hR.row a156) (ix0 (T := a) (by omega) (by omega)) (ix1 (T := a) (by omega) (by omega) (by omega)) (ra (T := a) (by omega) (by omega) rfl) ?_
                        have hobj := hR.c128
                        obtain ⟨w, hrun, hR⟩ := s_special (d := d + 4) (r := r) (k := 2) (s := S 156 ((a).toNat)) hR (by omega) (by omega) (by omega)
                        refine i_219_278 hobj (Nat.le_of_ble_eq_true rfl) hrun ?_
                        refine i_219_281 ?_
                        exfalso
                        omega
          · refine i_219_46 (x := 128) rfl ?_
            refine i_219_47 (x := Int32.ofInt r) rfl ?_
            refine i_219_48 (x := Int32.ofInt a) rfl ?_
            refine i_219_49 (x := 128) rfl ?_
            refine i_219_50 (v := Value.ref 156) hR.c128 rfl ?_
            refine i_219_53 (x := Int32.ofInt a) rfl ?_
            refine i_219_54z (v := Value.int (Int32.ofInt (S 156 ((a).toNat)))) (hR.row a156) (ix0 (T := a) (by omega) (by omega)) (ix1 (T := a) (by omega) (by omega) (by omega)) (ra (T := a) (by omega) (by omega) rfl) ?_
            refine i_219_55 (x := Int32.ofInt mode) rfl ?_
            have hobj := hR.c128
            obtain ⟨w, hrun, S2, V2, hR, hP⟩ := s_move (d := d) (r := r) (a := a) (sg := S 156 ((a).toNat)) (mode := mode) hR hI (by omega) (by omega) (by omega) (by omega)
            refine i_219_57 hobj (Nat.le_of_ble_eq_true rfl) hrun ?_
            refine i_219_60 ?_
            have eo : sRem S V r.toNat a.toNat b.toNat ne mode = sMove S V r.toNat a.toNat (S 156 ((a).toNat)) mode := by clear hR hrun hP; unfold sRem; first | rw [if_pos (by omega)] | rw [if_neg (by omega), if_pos (by omega)]
            rw [eo]
            exact ⟨rfl, _, _, hR, hP⟩
      · refine i_219_20 (x := 128) rfl ?_
        refine i_219_21 (x := Int32.ofInt r) rfl ?_
        have hobj := hR.c128
        obtain ⟨w, hrun, hR⟩ := s_invalid (d := d + 3) (r := r) hR (by omega) (by omega)
        refine i_219_22 hobj (Nat.le_of_ble_eq_true rfl) hrun ?_
        refine i_219_25 ?_
        have eo : sRem S V r.toNat a.toNat b.toNat ne mode = oS 0 0 (zor (S 128 19) 8) := by clear hR hrun; unfold sRem; first | rw [if_pos (by omega)] | rw [if_neg (by omega), if_pos (by omega)]
        rw [eo]
        exact ⟨rfl, _, _, hR, oP_flag (by omega) (by decide) nS.refl nV.refl rfl⟩
  obtain ⟨o, w', h1, rfl, h2⟩ := key.run
  exact ⟨w', h1, h2⟩
