/-! quotient and remainder of the reference -/
set_option maxHeartbeats 8000000 in
theorem s_quo {d : Nat} {w0 w : xW} {S : Nat → Nat → Int} {V : Nat → Nat} {r a b mode : Int} (hR : mR w0 S V w) (hI : mI S V) (hr : 0 ≤ r ∧ r < 16) (ha : 0 ≤ a ∧ a < 16) (hb : 0 ≤ b ∧ b < 16) (ka : S 154 a.toNat ≠ 0) (kb : S 154 b.toNat ≠ 0) (hmo : 0 ≤ mode ∧ mode ≤ 4) : ∃ w', xRun (d + 6) 217 [Value.ref 128, Value.int (Int32.ofInt r), Value.int (Int32.ofInt a), Value.int (Int32.ofInt b), Value.int (Int32.ofInt mode)] w (.inl (some (.int (Int32.ofInt (sQuo S V r.toNat a.toNat b.toNat mode).2.2.2.2.1)))) w' ∧ ∃ S' V', mR w0 S' V' w' ∧ oP S S' V V' r.toNat (sQuo S V r.toNat a.toNat b.toNat mode) := by
  obtain ⟨hp_r, -⟩ := hI.1 r.toNat (by omega)
  obtain ⟨hp_a, hk_a, hn_a, ht_a, hx_a, -⟩ := hI.1 a.toNat (by omega)
  obtain ⟨hp_b, hk_b, hn_b, ht_b, hx_b, -⟩ := hI.1 b.toNat (by omega)
  have hi_l := hI.2.1
  have hi_g := hI.2.2.1
  have hi_f := hI.2.2.2
  have key : xEv (d + 6) 217 0 (lv_args 0 [Value.ref 128, Value.int (Int32.ofInt r), Value.int (Int32.ofInt a), Value.int (Int32.ofInt b), Value.int (Int32.ofInt mode)]) [] w (fun o w' => o = .inl (some (.int (Int32.ofInt (sQuo S V r.toNat a.toNat b.toNat mode).2.2.2.2.1))) ∧ ∃ S' V', mR w0 S' V' w' ∧ oP S S' V V' r.toNat (sQuo S V r.toNat a.toNat b.toNat mode)) := by
    refine i_217_0 (x := 128) rfl ?_
    refine i_217_1 (v := Value.ref 156) hR.c128 rfl ?_
    refine i_217_4 (x := Int32.ofInt a) rfl ?_
    refine i_217_5z (v := Value.int (Int32.ofInt (S 156 ((a).toNat)))) (hR.row a156) (ix0 (T := a) (by omega) (by omega)) (ix1 (T := a) (by omega) (by omega) (by omega)) (ra (T := a) (by omega) (by omega) rfl) ?_
    refine i_217_6 (x := 128) rfl ?_
    refine i_217_7 (v := Value.ref 156) hR.c128 rfl ?_
    refine i_217_10 (x := Int32.ofInt b) rfl ?_
    refine i_217_11z (v := Value.int (Int32.ofInt (S 156 ((b).toNat)))) (hR.row a156) (ix0 (T := b) (by omega) (by omega)) (ix1 (T := b) (by omega) (by omega) (by omega)) (ra (T := b) (by omega) (by omega) rfl) ?_
    refine i_217_12 (b_eq (a := S 156 ((a).toNat)) (b := S 156 ((b).toNat)) ⟨by omega, by omega⟩ ⟨by omega, by omega⟩ fun c0 => ?_) (b_ne (a := S 156 ((a).toNat)) (b := S 156 ((b).toNat)) ⟨by omega, by omega⟩ ⟨by omega, by omega⟩ fun c0 => ?_)
    · refine i_217_19 ?_
      refine i_217_20 (lv2 := [(5, Value.int 0), (0, Value.ref 128), (1, Value.int (Int32.ofInt r)), (2, Value.int (Int32.ofInt a)), (3, Value.int (Int32.ofInt b)), (4, Value.int (Int32.ofInt mode))]) rfl ?_
      refine i_217_22 (x := 128) rfl ?_
      refine i_217_23 (v := Value.ref 154) hR.c128 rfl ?_
      refine i_217_26 (x := Int32.ofInt a) rfl ?_
      refine i_217_27 (v := Value.int (Int32.ofInt (S 154 ((a).toNat)))) (hR.row a154) (ix0 (T := a) (by omega) (by omega)) (ix1 (T := a) (by omega) (by omega) (by omega)) (ra (T := a) (by omega) (by omega) rfl) ?_
      refine i_217_28 (x := 128) rfl ?_
      refine i_217_29 (v := Value.ref 154) hR.c128 rfl ?_
      refine i_217_32 (x := Int32.ofInt b) rfl ?_
      refine i_217_33 (v := Value.int (Int32.ofInt (S 154 ((b).toNat)))) (hR.row a154) (ix0 (T := b) (by omega) (by omega)) (ix1 (T := b) (by omega) (by omega) (by omega)) (ra (T := b) (by omega) (by omega) rfl) ?_
      refine i_217_34 (b_ne (a := S 154 ((a).toNat)) (b := S 154 ((b).toNat)) ⟨by omega, by omega⟩ ⟨by omega, by omega⟩ fun c1 => ?_) (b_eq (a := S 154 ((a).toNat)) (b := S 154 ((b).toNat)) ⟨by omega, by omega⟩ ⟨by omega, by omega⟩ fun c1 => ?_)
      · refine i_217_53 (x := 128) rfl ?_
        refine i_217_54 (v := Value.ref 154) hR.c128 rfl ?_
        refine i_217_57 (x := Int32.ofInt b) rfl ?_
        refine i_217_58 (v := Value.int (Int32.ofInt (S 154 ((b).toNat)))) (hR.row a154) (ix0 (T := b) (by omega) (by omega)) (ix1 (T := b) (by omega) (by omega) (by omega)) (ra (T := b) (by omega) (by omega) rfl) ?_
        refine i_217_59 ?_
        refine i_217_60 (b_ne (a := S 154 ((b).toNat)) (b := 2) ⟨by omega, by omega⟩ ⟨by decide, by decide⟩ fun c2 => ?_) (b_eq (a := S 154 ((b).toNat)) (b := 2) ⟨by omega, by omega⟩ ⟨by decide, by decide⟩ fun c2 => ?_)
        · refine i_217_93 (x := 128) rfl ?_
          refine i_217_94 (v := Value.ref 154) hR.c128 rfl ?_
          refine i_217_97 (x := Int32.ofInt a) rfl ?_
          refine i_217_98 (v := Value.int (Int32.ofInt (S 154 ((a).toNat)))) (hR.row a154) (ix0 (T := a) (by omega) (by omega)) (ix1 (T := a) (by omega) (by omega) (by omega)) (ra (T := a) (by omega) (by omega) rfl) ?_
          refine i_217_99 ?_
          refine i_217_100 (b_ne (a := S 154 ((a).toNat)) (b := 1) ⟨by omega, by omega⟩ ⟨by decide, by decide⟩ fun c3 => ?_) (b_eq (a := S 154 ((a).toNat)) (b := 1) ⟨by omega, by omega⟩ ⟨by decide, by decide⟩ fun c3 => ?_)
          · refine i_217_112 (x := 128) rfl ?_
            refine i_217_113 (v := Value.ref 154) hR.c128 rfl ?_
            refine i_217_116 (x := Int32.ofInt a) rfl ?_
            refine i_217_117 (v := Value.int (Int32.ofInt (S 154 ((a).toNat)))) (hR.row a154) (ix0 (T := a) (by omega) (by omega)) (ix1 (T := a) (by omega) (by omega) (by omega)) (ra (T := a) (by omega) (by omega) rfl) ?_
            refine i_217_118 ?_
            refine i_217_119 (b_eq (a := S 154 ((a).toNat)) (b := 2) ⟨by omega, by omega⟩ ⟨by decide, by decide⟩ fun c4 => ?_) (b_ne (a := S 154 ((a).toNat)) (b := 2) ⟨by omega, by omega⟩ ⟨by decide, by decide⟩ fun c4 => ?_)
            · refine i_217_132 (x := 128) rfl ?_
              refine i_217_133 (x := Int32.ofInt r) rfl ?_
              refine i_217_134 ?_
              refine i_217_135 (x := 0) rfl ?_
              have hobj := hR.c128
              obtain ⟨w, hrun, hR⟩ := s_special (d := d + 4) (r := r) (k := 2) (s := 0) hR (by omega) (by omega) (by omega)
              refine i_217_137 hobj (Nat.le_of_ble_eq_true rfl) hrun ?_
              refine i_217_140 ?_
              have eo : sQuo S V r.toNat a.toNat b.toNat mode = oS 2 0 (S 128 19) := by clear hR hrun; grind [sQuo, xorI, ex]
              rw [eo]
              exact ⟨rfl, _, _, hR, oP_special (by omega) (by decide) nS.refl nV.refl rfl⟩
            · refine i_217_122 (x := 128) rfl ?_
              refine i_217_123 (v := Value.ref 154) hR.c128 rfl ?_
              refine i_217_126 (x := Int32.ofInt b) rfl ?_
              refine i_217_127 (v := Value.int (Int32.ofInt (S 154 ((b).toNat)))) (hR.row a154) (ix0 (T := b) (by omega) (by omega)) (ix1 (T := b) (by omega) (by omega) (by omega)) (ra (T := b) (by omega) (by omega) rfl) ?_
              refine i_217_128 ?_
              refine i_217_129 (b_ne (a := S 154 ((b).toNat)) (b := 1) ⟨by omega, by omega⟩ ⟨by decide, by decide⟩ fun c5 => ?_) (b_eq (a := S 154 ((b).toNat)) (b := 1) ⟨by omega, by omega⟩ ⟨by decide, by decide⟩ fun c5 => ?_)
              · refine i_217_141 (x := 128) rfl ?_
                refine i_217_142 (v := Value.ref 141) hR.c128 rfl ?_
                refine i_217_145 (x := 128) rfl ?_
                refine i_217_146 (v := Value.ref 157) hR.c128 rfl ?_
                refine i_217_149 (x := Int32.ofInt b) rfl ?_
                obtain ⟨gp, hgp, hgr⟩ := hR.part (j := (b).toNat) (by omega)
                refine i_217_150 (v := Value.ref (160 + 2 * b.toNat)) hgp (ix0 (by omega) (by omega)) (ix1 (by omega) (by omega) (by omega)) (by rw [ixn (by omega) (by omega)]; exact hgr) ?_
                obtain ⟨fs, hobj⟩ := hR.obj (h := 141) (iNw (h := 141) (by decide) (by decide) (by decide))
                obtain ⟨w, hrun, hR⟩ := r_setn (d := d + 3) (v := V (160 + 2 * b.toNat)) (c := 4700) hR (iNw (h := 141) (by decide) (by decide) (by decide)) (iNp (r := b) (by omega) (by omega)) (rfl) rfl (by omega)
                refine i_217_151 hobj (Nat.le_of_ble_eq_true rfl) hrun ?_
                refine i_217_154 (x := 128) rfl ?_
                refine i_217_155 (x := Int32.ofInt r) rfl ?_
                refine i_217_156 (x := 128) rfl ?_
                refine i_217_157 (v := Value.ref 157) hR.c128 rfl ?_
                refine i_217_160 (x := Int32.ofInt a) rfl ?_
                obtain ⟨gp, hgp, hgr⟩ := hR.part (j := (a).toNat) (by omega)
                refine i_217_161 (v := Value.ref (160 + 2 * a.toNat)) hgp (ix0 (by omega) (by omega)) (ix1 (by omega) (by omega) (by omega)) (by rw [ixn (by omega) (by omega)]; exact hgr) ?_
                refine i_217_162 (x := 128) rfl ?_
                refine i_217_163 (x := Int32.ofInt a) rfl ?_
                have hobj := hR.c128
                obtain ⟨w, hrun, hR⟩ := s_exponent (d := d + 4) (r := a) hR (by omega) (by omega)
                refine i_217_164 hobj (Nat.le_of_ble_eq_true rfl) hrun ?_
                refine i_217_167 (x := 128) rfl ?_
                refine i_217_168 (v := Value.ref 141) hR.c128 rfl ?_
                refine i_217_171 (x := 128) rfl ?_
                refine i_217_172 (x := Int32.ofInt b) rfl ?_
                have hobj := hR.c128
                obtain ⟨w, hrun, hR⟩ := s_exponent (d := d + 4) (r := b) hR (by omega) (by omega)
                refine i_217_173 hobj (Nat.le_of_ble_eq_true rfl) hrun ?_
                refine i_217_176 (x := 0) rfl ?_
                refine i_217_178 (x := Int32.ofInt mode) rfl ?_
                have hobj := hR.c128
                obtain ⟨w, hrun, S2, V2, hR, hP⟩ := s_ratio (d := d) (h := 160 + 2 * a.toNat) (m := V (160 + 2 * a.toNat)) (dd := V (160 + 2 * b.toNat)) (r := r) (e := S 155 a.toNat - S 153 a.toNat) (f := S 155 b.toNat - S 153 b.toNat) (sg := 0) (mode := mode) hR (nS.mI nS.refl (nV.up nV.refl (by omega)) hI) (iNp (r := a) (by omega) (by omega)) (by omega) ((uv_n (by omega)).trans (rfl)) (uv_s) (by exact hI.nz (by omega) (by omega)) (by omega) (by omega) (by omega) (by omega) (by omega) (by omega) (by omega) (by omega)
                refine i_217_180 hobj (Nat.le_of_ble_eq_true rfl) hrun ?_
                refine i_217_183 ?_
                have eo : sQuo S V r.toNat a.toNat b.toNat mode = sRat S r.toNat (V (160 + 2 * a.toNat)) (S 155 a.toNat - S 153 a.toNat) (V (160 + 2 * b.toNat)) (S 155 b.toNat - S 153 b.toNat) 0 mode := by clear hR hrun hP; grind [sQuo, xorI, ex]
                rw [eo]
                exact ⟨rfl, _, _, hR, oP.near nS.refl (nV.up nV.refl (by omega)) hP⟩
              · refine i_217_132 (x := 128) rfl ?_
                refine i_217_133 (x := Int32.ofInt r) rfl ?_
                refine i_217_134 ?_
                refine i_217_135 (x := 0) rfl ?_
                have hobj := hR.c128
                obtain ⟨w, hrun, hR⟩ := s_special (d := d + 4) (r := r) (k := 2) (s := 0) hR (by omega) (by omega) (by omega)
                refine i_217_137 hobj (Nat.le_of_ble_eq_true rfl) hrun ?_
                refine i_217_140 ?_
                have eo : sQuo S V r.toNat a.toNat b.toNat mode = oS 2 0 (S 128 19) := by clear hR hrun; grind [sQuo, xorI, ex]
                rw [eo]
                exact ⟨rfl, _, _, hR, oP_special (by omega) (by decide) nS.refl nV.refl rfl⟩
          · refine i_217_103 (x := 128) rfl ?_
            refine i_217_104 (x := Int32.ofInt r) rfl ?_
            refine i_217_105 ?_
            refine i_217_106 (x := 0) rfl ?_
            have hobj := hR.c128
            obtain ⟨w, hrun, hR⟩ := s_special (d := d + 4) (r := r) (k := 1) (s := 0) hR (by omega) (by omega) (by omega)
            refine i_217_108 hobj (Nat.le_of_ble_eq_true rfl) hrun ?_
            refine i_217_111 ?_
            have eo : sQuo S V r.toNat a.toNat b.toNat mode = oS 1 0 (S 128 19) := by clear hR hrun; grind [sQuo, xorI, ex]
            rw [eo]
            exact ⟨rfl, _, _, hR, oP_special (by omega) (by decide) nS.refl nV.refl rfl⟩
        · refine i_217_63 (x := 128) rfl ?_
          refine i_217_64 (v := Value.ref 154) hR.c128 rfl ?_
          refine i_217_67 (x := Int32.ofInt a) rfl ?_
          refine i_217_68 (v := Value.int (Int32.ofInt (S 154 ((a).toNat)))) (hR.row a154) (ix0 (T := a) (by omega) (by omega)) (ix1 (T := a) (by omega) (by omega) (by omega)) (ra (T := a) (by omega) (by omega) rfl) ?_
          refine i_217_69 ?_
          refine i_217_70 (b_ne (a := S 154 ((a).toNat)) (b := 3) ⟨by omega, by omega⟩ ⟨by decide, by decide⟩ fun c6 => ?_) (b_eq (a := S 154 ((a).toNat)) (b := 3) ⟨by omega, by omega⟩ ⟨by decide, by decide⟩ fun c6 => ?_)
          · refine i_217_84 (x := 128) rfl ?_
            refine i_217_85 (x := Int32.ofInt r) rfl ?_
            refine i_217_86 ?_
            refine i_217_87 (x := 0) rfl ?_
            have hobj := hR.c128
            obtain ⟨w, hrun, hR⟩ := s_special (d := d + 4) (r := r) (k := 1) (s := 0) hR (by omega) (by omega) (by omega)
            refine i_217_89 hobj (Nat.le_of_ble_eq_true rfl) hrun ?_
            refine i_217_92 ?_
            have eo : sQuo S V r.toNat a.toNat b.toNat mode = oS 1 0 (S 128 19) := by clear hR hrun; grind [sQuo, xorI, ex]
            rw [eo]
            exact ⟨rfl, _, _, hR, oP_special (by omega) (by decide) nS.refl nV.refl rfl⟩
          · refine i_217_73 (x := 128) rfl ?_
            refine i_217_74 rfl ?_
            refine i_217_75 (v := Value.int (Int32.ofInt (S 128 19))) hR.c128 rfl ?_
            refine i_217_78 ?_
            refine i_217_80 (c := Int32.ofInt (zor (S 128 19) 16)) (o_or (S 128 19) 16) ?_
            refine i_217_81 (fs2 := mf (u1 (S 128) 19 (zor (S 128 19) 16))) hR.c128 (Nat.le_of_ble_eq_true rfl) (mfs_19 (v := zor (S 128 19) 16)) (by decide) ?_
            refine xgen (P := mR w0 (u2 S 128 19 (zor (S 128 19) 16)) V) hR.fld2 (fun w hR => ?_)
            refine i_217_84 (x := 128) rfl ?_
            refine i_217_85 (x := Int32.ofInt r) rfl ?_
            refine i_217_86 ?_
            refine i_217_87 (x := 0) rfl ?_
            have hobj := hR.c128
            obtain ⟨w, hrun, hR⟩ := s_special (d := d + 4) (r := r) (k := 1) (s := 0) hR (by omega) (by omega) (by omega)
            refine i_217_89 hobj (Nat.le_of_ble_eq_true rfl) hrun ?_
            refine i_217_92 ?_
            have eo : sQuo S V r.toNat a.toNat b.toNat mode = oS 1 0 (zor (S 128 19) 16) := by clear hR hrun; grind [sQuo, xorI, ex]
            rw [eo]
            exact ⟨rfl, _, _, hR, oP_flag (by omega) (by decide) nS.refl nV.refl rfl⟩
      · refine i_217_37 (x := 128) rfl ?_
        refine i_217_38 (v := Value.ref 154) hR.c128 rfl ?_
        refine i_217_41 (x := Int32.ofInt a) rfl ?_
        refine i_217_42 (v := Value.int (Int32.ofInt (S 154 ((a).toNat)))) (hR.row a154) (ix0 (T := a) (by omega) (by omega)) (ix1 (T := a) (by omega) (by omega) (by omega)) (ra (T := a) (by omega) (by omega) rfl) ?_
        refine i_217_43 ?_
        refine i_217_44 (b_eq (a := S 154 ((a).toNat)) (b := 3) ⟨by omega, by omega⟩ ⟨by decide, by decide⟩ fun c7 => ?_) (b_ne (a := S 154 ((a).toNat)) (b := 3) ⟨by omega, by omega⟩ ⟨by decide, by decide⟩ fun c7 => ?_)
        · refine i_217_53 (x := 128) rfl ?_
          refine i_217_54 (v := Value.ref 154) hR.c128 rfl ?_
          refine i_217_57 (x := Int32.ofInt b) rfl ?_
          refine i_217_58 (v := Value.int (Int32.ofInt (S 154 ((b).toNat)))) (hR.row a154) (ix0 (T := b) (by omega) (by omega)) (ix1 (T := b) (by omega) (by omega) (by omega)) (ra (T := b) (by omega) (by omega) rfl) ?_
          refine i_217_59 ?_
          refine i_217_60 (b_ne (a := S 154 ((b).toNat)) (b := 2) ⟨by omega, by omega⟩ ⟨by decide, by decide⟩ fun c8 => ?_) (b_eq (a := S 154 ((b).toNat)) (b := 2) ⟨by omega, by omega⟩ ⟨by decide, by decide⟩ fun c8 => ?_)
          · refine i_217_93 (x := 128) rfl ?_
            refine i_217_94 (v := Value.ref 154) hR.c128 rfl ?_
            refine i_217_97 (x := Int32.ofInt a) rfl ?_
            refine i_217_98 (v := Value.int (Int32.ofInt (S 154 ((a).toNat)))) (hR.row a154) (ix0 (T := a) (by omega) (by omega)) (ix1 (T := a) (by omega) (by omega) (by omega)) (ra (T := a) (by omega) (by omega) rfl) ?_
            refine i_217_99 ?_
            refine i_217_100 (b_ne (a := S 154 ((a).toNat)) (b := 1) ⟨by omega, by omega⟩ ⟨by decide, by decide⟩ fun c9 => ?_) (b_eq (a := S 154 ((a).toNat)) (b := 1) ⟨by omega, by omega⟩ ⟨by decide, by decide⟩ fun c9 => absurd c9 (by omega))
            refine i_217_112 (x := 128) rfl ?_
            refine i_217_113 (v := Value.ref 154) hR.c128 rfl ?_
            refine i_217_116 (x := Int32.ofInt a) rfl ?_
            refine i_217_117 (v := Value.int (Int32.ofInt (S 154 ((a).toNat)))) (hR.row a154) (ix0 (T := a) (by omega) (by omega)) (ix1 (T := a) (by omega) (by omega) (by omega)) (ra (T := a) (by omega) (by omega) rfl) ?_
            refine i_217_118 ?_
            refine i_217_119 (b_eq (a := S 154 ((a).toNat)) (b := 2) ⟨by omega, by omega⟩ ⟨by decide, by decide⟩ fun c10 => absurd c10 (by omega)) (b_ne (a := S 154 ((a).toNat)) (b := 2) ⟨by omega, by omega⟩ ⟨by decide, by decide⟩ fun c10 => ?_)
            refine i_217_122 (x := 128) rfl ?_
            refine i_217_123 (v := Value.ref 154) hR.c128 rfl ?_
            refine i_217_126 (x := Int32.ofInt b) rfl ?_
            refine i_217_127 (v := Value.int (Int32.ofInt (S 154 ((b).toNat)))) (hR.row a154) (ix0 (T := b) (by omega) (by omega)) (ix1 (T := b) (by omega) (by omega) (by omega)) (ra (T := b) (by omega) (by omega) rfl) ?_
            refine i_217_128 ?_
            refine i_217_129 (b_ne (a := S 154 ((b).toNat)) (b := 1) ⟨by omega, by omega⟩ ⟨by decide, by decide⟩ fun c11 => ?_) (b_eq (a := S 154 ((b).toNat)) (b := 1) ⟨by omega, by omega⟩ ⟨by decide, by decide⟩ fun c11 => ?_)
            · refine i_217_141 (x := 128) rfl ?_
              refine i_217_142 (v := Value.ref 141) hR.c128 rfl ?_
              refine i_217_145 (x := 128) rfl ?_
              refine i_217_146 (v := Value.ref 157) hR.c128 rfl ?_
              refine i_217_149 (x := Int32.ofInt b) rfl ?_
              obtain ⟨gp, hgp, hgr⟩ := hR.part (j := (b).toNat) (by omega)
              refine i_217_150 (v := Value.ref (160 + 2 * b.toNat)) hgp (ix0 (by omega) (by omega)) (ix1 (by omega) (by omega) (by omega)) (by rw [ixn (by omega) (by omega)]; exact hgr) ?_
              obtain ⟨fs, hobj⟩ := hR.obj (h := 141) (iNw (h := 141) (by decide) (by decide) (by decide))
              obtain ⟨w, hrun, hR⟩ := r_setn (d := d + 3) (v := V (160 + 2 * b.toNat)) (c := 4700) hR (iNw (h := 141) (by decide) (by decide) (by decide)) (iNp (r := b) (by omega) (by omega)) (rfl) rfl (by omega)
              refine i_217_151 hobj (Nat.le_of_ble_eq_true rfl) hrun ?_
              refine i_217_154 (x := 128) rfl ?_
              refine i_217_155 (x := Int32.ofInt r) rfl ?_
              refine i_217_156 (x := 128) rfl ?_
              refine i_217_157 (v := Value.ref 157) hR.c128 rfl ?_
              refine i_217_160 (x := Int32.ofInt a) rfl ?_
              obtain ⟨gp, hgp, hgr⟩ := hR.part (j := (a).toNat) (by omega)
              refine i_217_161 (v := Value.ref (160 + 2 * a.toNat)) hgp (ix0 (by omega) (by omega)) (ix1 (by omega) (by omega) (by omega)) (by rw [ixn (by omega) (by omega)]; exact hgr) ?_
              refine i_217_162 (x := 128) rfl ?_
              refine i_217_163 (x := Int32.ofInt a) rfl ?_
              have hobj := hR.c128
              obtain ⟨w, hrun, hR⟩ := s_exponent (d := d + 4) (r := a) hR (by omega) (by omega)
              refine i_217_164 hobj (Nat.le_of_ble_eq_true rfl) hrun ?_
              refine i_217_167 (x := 128) rfl ?_
              refine i_217_168 (v := Value.ref 141) hR.c128 rfl ?_
              refine i_217_171 (x := 128) rfl ?_
              refine i_217_172 (x := Int32.ofInt b) rfl ?_
              have hobj := hR.c128
              obtain ⟨w, hrun, hR⟩ := s_exponent (d := d + 4) (r := b) hR (by omega) (by omega)
              refine i_217_173 hobj (Nat.le_of_ble_eq_true rfl) hrun ?_
              refine i_217_176 (x := 0) rfl ?_
              refine i_217_178 (x := Int32.ofInt mode) rfl ?_
              have hobj := hR.c128
              obtain ⟨w, hrun, S2, V2, hR, hP⟩ := s_ratio (d := d) (h := 160 + 2 * a.toNat) (m := V (160 + 2 * a.toNat)) (dd := V (160 + 2 * b.toNat)) (r := r) (e := S 155 a.toNat - S 153 a.toNat) (f := S 155 b.toNat - S 153 b.toNat) (sg := 0) (mode := mode) hR (nS.mI nS.refl (nV.up nV.refl (by omega)) hI) (iNp (r := a) (by omega) (by omega)) (by omega) ((uv_n (by omega)).trans (rfl)) (uv_s) (by exact hI.nz (by omega) (by omega)) (by omega) (by omega) (by omega) (by omega) (by omega) (by omega) (by omega) (by omega)
              refine i_217_180 hobj (Nat.le_of_ble_eq_true rfl) hrun ?_
              refine i_217_183 ?_
              have eo : sQuo S V r.toNat a.toNat b.toNat mode = sRat S r.toNat (V (160 + 2 * a.toNat)) (S 155 a.toNat - S 153 a.toNat) (V (160 + 2 * b.toNat)) (S 155 b.toNat - S 153 b.toNat) 0 mode := by clear hR hrun hP; grind [sQuo, xorI, ex]
              rw [eo]
              exact ⟨rfl, _, _, hR, oP.near nS.refl (nV.up nV.refl (by omega)) hP⟩
            · refine i_217_132 (x := 128) rfl ?_
              refine i_217_133 (x := Int32.ofInt r) rfl ?_
              refine i_217_134 ?_
              refine i_217_135 (x := 0) rfl ?_
              have hobj := hR.c128
              obtain ⟨w, hrun, hR⟩ := s_special (d := d + 4) (r := r) (k := 2) (s := 0) hR (by omega) (by omega) (by omega)
              refine i_217_137 hobj (Nat.le_of_ble_eq_true rfl) hrun ?_
              refine i_217_140 ?_
              have eo : sQuo S V r.toNat a.toNat b.toNat mode = oS 2 0 (S 128 19) := by clear hR hrun; grind [sQuo, xorI, ex]
              rw [eo]
              exact ⟨rfl, _, _, hR, oP_special (by omega) (by decide) nS.refl nV.refl rfl⟩
          · refine i_217_63 (x := 128) rfl ?_
            refine i_217_64 (v := Value.ref 154) hR.c128 rfl ?_
            refine i_217_67 (x := Int32.ofInt a) rfl ?_
            refine i_217_68 (v := Value.int (Int32.ofInt (S 154 ((a).toNat)))) (hR.row a154) (ix0 (T := a) (by omega) (by omega)) (ix1 (T := a) (by omega) (by omega) (by omega)) (ra (T := a) (by omega) (by omega) rfl) ?_
            refine i_217_69 ?_
            refine i_217_70 (b_ne (a := S 154 ((a).toNat)) (b := 3) ⟨by omega, by omega⟩ ⟨by decide, by decide⟩ fun c12 => absurd c12 (by omega)) (b_eq (a := S 154 ((a).toNat)) (b := 3) ⟨by omega, by omega⟩ ⟨by decide, by decide⟩ fun c12 => ?_)
            refine i_217_73 (x := 128) rfl ?_
            refine i_217_74 rfl ?_
            refine i_217_75 (v := Value.int (Int32.ofInt (S 128 19))) hR.c128 rfl ?_
            refine i_217_78 ?_
            refine i_217_80 (c := Int32.ofInt (zor (S 128 19) 16)) (o_or (S 128 19) 16) ?_
            refine i_217_81 (fs2 := mf (u1 (S 128) 19 (zor (S 128 19) 16))) hR.c128 (Nat.le_of_ble_eq_true rfl) (mfs_19 (v := zor (S 128 19) 16)) (by decide) ?_
            refine xgen (P := mR w0 (u2 S 128 19 (zor (S 128 19) 16)) V) hR.fld2 (fun w hR => ?_)
            refine i_217_84 (x := 128) rfl ?_
            refine i_217_85 (x := Int32.ofInt r) rfl ?_
            refine i_217_86 ?_
            refine i_217_87 (x := 0) rfl ?_
            have hobj := hR.c128
            obtain ⟨w, hrun, hR⟩ := s_special (d := d + 4) (r := r) (k := 1) (s := 0) hR (by omega) (by omega) (by omega)
            refine i_217_89 hobj (Nat.le_of_ble_eq_true rfl) hrun ?_
            refine i_217_92 ?_
            have eo : sQuo S V r.toNat a.toNat b.toNat mode = oS 1 0 (zor (S 128 19) 16) := by clear hR hrun; grind [sQuo, xorI, ex]
            rw [eo]
            exact ⟨rfl, _, _, hR, oP_flag (by omega) (by decide) nS.refl nV.refl rfl⟩
        · refine i_217_47 (x := 128) rfl ?_
          refine i_217_48 (x := Int32.ofInt r) rfl ?_
          have hobj := hR.c128
          obtain ⟨w, hrun, hR⟩ := s_invalid (d := d + 3) (r := r) hR (by omega) (by omega)
          refine i_217_49 hobj (Nat.le_of_ble_eq_true rfl) hrun ?_
          refine i_217_52 ?_
          have eo : sQuo S V r.toNat a.toNat b.toNat mode = oS 0 0 (zor (S 128 19) 8) := by clear hR hrun; grind [sQuo, xorI, ex]
          rw [eo]
          exact ⟨rfl, _, _, hR, oP_flag (by omega) (by decide) nS.refl nV.refl rfl⟩
    · refine i_217_15 ?_
      refine i_217_16 ?_
      refine i_217_20 (lv2 := [(5, Value.int 1), (0, Value.ref 128), (1, Value.int (Int32.ofInt r)), (2, Value.int (Int32.ofInt a)), (3, Value.int (Int32.ofInt b)), (4, Value.int (Int32.ofInt mode))]) rfl ?_
      refine i_217_22 (x := 128) rfl ?_
      refine i_217_23 (v := Value.ref 154) hR.c128 rfl ?_
      refine i_217_26 (x := Int32.ofInt a) rfl ?_
      refine i_217_27 (v := Value.int (Int32.ofInt (S 154 ((a).toNat)))) (hR.row a154) (ix0 (T := a) (by omega) (by omega)) (ix1 (T := a) (by omega) (by omega) (by omega)) (ra (T := a) (by omega) (by omega) rfl) ?_
      refine i_217_28 (x := 128) rfl ?_
      refine i_217_29 (v := Value.ref 154) hR.c128 rfl ?_
      refine i_217_32 (x := Int32.ofInt b) rfl ?_
      refine i_217_33 (v := Value.int (Int32.ofInt (S 154 ((b).toNat)))) (hR.row a154) (ix0 (T := b) (by omega) (by omega)) (ix1 (T := b) (by omega) (by omega) (by omega)) (ra (T := b) (by omega) (by omega) rfl) ?_
      refine i_217_34 (b_ne (a := S 154 ((a).toNat)) (b := S 154 ((b).toNat)) ⟨by omega, by omega⟩ ⟨by omega, by omega⟩ fun c13 => ?_) (b_eq (a := S 154 ((a).toNat)) (b := S 154 ((b).toNat)) ⟨by omega, by omega⟩ ⟨by omega, by omega⟩ fun c13 => ?_)
      · refine i_217_53 (x := 128) rfl ?_
        refine i_217_54 (v := Value.ref 154) hR.c128 rfl ?_
        refine i_217_57 (x := Int32.ofInt b) rfl ?_
        refine i_217_58 (v := Value.int (Int32.ofInt (S 154 ((b).toNat)))) (hR.row a154) (ix0 (T := b) (by omega) (by omega)) (ix1 (T := b) (by omega) (by omega) (by omega)) (ra (T := b) (by omega) (by omega) rfl) ?_
        refine i_217_59 ?_
        refine i_217_60 (b_ne (a := S 154 ((b).toNat)) (b := 2) ⟨by omega, by omega⟩ ⟨by decide, by decide⟩ fun c14 => ?_) (b_eq (a := S 154 ((b).toNat)) (b := 2) ⟨by omega, by omega⟩ ⟨by decide, by decide⟩ fun c14 => ?_)
        · refine i_217_93 (x := 128) rfl ?_
          refine i_217_94 (v := Value.ref 154) hR.c128 rfl ?_
          refine i_217_97 (x := Int32.ofInt a) rfl ?_
          refine i_217_98 (v := Value.int (Int32.ofInt (S 154 ((a).toNat)))) (hR.row a154) (ix0 (T := a) (by omega) (by omega)) (ix1 (T := a) (by omega) (by omega) (by omega)) (ra (T := a) (by omega) (by omega) rfl) ?_
          refine i_217_99 ?_
          refine i_217_100 (b_ne (a := S 154 ((a).toNat)) (b := 1) ⟨by omega, by omega⟩ ⟨by decide, by decide⟩ fun c15 => ?_) (b_eq (a := S 154 ((a).toNat)) (b := 1) ⟨by omega, by omega⟩ ⟨by decide, by decide⟩ fun c15 => ?_)
          · refine i_217_112 (x := 128) rfl ?_
            refine i_217_113 (v := Value.ref 154) hR.c128 rfl ?_
            refine i_217_116 (x := Int32.ofInt a) rfl ?_
            refine i_217_117 (v := Value.int (Int32.ofInt (S 154 ((a).toNat)))) (hR.row a154) (ix0 (T := a) (by omega) (by omega)) (ix1 (T := a) (by omega) (by omega) (by omega)) (ra (T := a) (by omega) (by omega) rfl) ?_
            refine i_217_118 ?_
            refine i_217_119 (b_eq (a := S 154 ((a).toNat)) (b := 2) ⟨by omega, by omega⟩ ⟨by decide, by decide⟩ fun c16 => ?_) (b_ne (a := S 154 ((a).toNat)) (b := 2) ⟨by omega, by omega⟩ ⟨by decide, by decide⟩ fun c16 => ?_)
            · refine i_217_132 (x := 128) rfl ?_
              refine i_217_133 (x := Int32.ofInt r) rfl ?_
              refine i_217_134 ?_
              refine i_217_135 (x := 1) rfl ?_
              have hobj := hR.c128
              obtain ⟨w, hrun, hR⟩ := s_special (d := d + 4) (r := r) (k := 2) (s := 1) hR (by omega) (by omega) (by omega)
              refine i_217_137 hobj (Nat.le_of_ble_eq_true rfl) hrun ?_
              refine i_217_140 ?_
              have eo : sQuo S V r.toNat a.toNat b.toNat mode = oS 2 1 (S 128 19) := by clear hR hrun; grind [sQuo, xorI, ex]
              rw [eo]
              exact ⟨rfl, _, _, hR, oP_special (by omega) (by decide) nS.refl nV.refl rfl⟩
            · refine i_217_122 (x := 128) rfl ?_
              refine i_217_123 (v := Value.ref 154) hR.c128 rfl ?_
              refine i_217_126 (x := Int32.ofInt b) rfl ?_
              refine i_217_127 (v := Value.int (Int32.ofInt (S 154 ((b).toNat)))) (hR.row a154) (ix0 (T := b) (by omega) (by omega)) (ix1 (T := b) (by omega) (by omega) (by omega)) (ra (T := b) (by omega) (by omega) rfl) ?_
              refine i_217_128 ?_
              refine i_217_129 (b_ne (a := S 154 ((b).toNat)) (b := 1) ⟨by omega, by omega⟩ ⟨by decide, by decide⟩ fun c17 => ?_) (b_eq (a := S 154 ((b).toNat)) (b := 1) ⟨by omega, by omega⟩ ⟨by decide, by decide⟩ fun c17 => ?_)
              · refine i_217_141 (x := 128) rfl ?_
                refine i_217_142 (v := Value.ref 141) hR.c128 rfl ?_
                refine i_217_145 (x := 128) rfl ?_
                refine i_217_146 (v := Value.ref 157) hR.c128 rfl ?_
                refine i_217_149 (x := Int32.ofInt b) rfl ?_
                obtain ⟨gp, hgp, hgr⟩ := hR.part (j := (b).toNat) (by omega)
                refine i_217_150 (v := Value.ref (160 + 2 * b.toNat)) hgp (ix0 (by omega) (by omega)) (ix1 (by omega) (by omega) (by omega)) (by rw [ixn (by omega) (by omega)]; exact hgr) ?_
                obtain ⟨fs, hobj⟩ := hR.obj (h := 141) (iNw (h := 141) (by decide) (by decide) (by decide))
                obtain ⟨w, hrun, hR⟩ := r_setn (d := d + 3) (v := V (160 + 2 * b.toNat)) (c := 4700) hR (iNw (h := 141) (by decide) (by decide) (by decide)) (iNp (r := b) (by omega) (by omega)) (rfl) rfl (by omega)
                refine i_217_151 hobj (Nat.le_of_ble_eq_true rfl) hrun ?_
                refine i_217_154 (x := 128) rfl ?_
                refine i_217_155 (x := Int32.ofInt r) rfl ?_
                refine i_217_156 (x := 128) rfl ?_
                refine i_217_157 (v := Value.ref 157) hR.c128 rfl ?_
                refine i_217_160 (x := Int32.ofInt a) rfl ?_
                obtain ⟨gp, hgp, hgr⟩ := hR.part (j := (a).toNat) (by omega)
                refine i_217_161 (v := Value.ref (160 + 2 * a.toNat)) hgp (ix0 (by omega) (by omega)) (ix1 (by omega) (by omega) (by omega)) (by rw [ixn (by omega) (by omega)]; exact hgr) ?_
                refine i_217_162 (x := 128) rfl ?_
                refine i_217_163 (x := Int32.ofInt a) rfl ?_
                have hobj := hR.c128
                obtain ⟨w, hrun, hR⟩ := s_exponent (d := d + 4) (r := a) hR (by omega) (by omega)
                refine i_217_164 hobj (Nat.le_of_ble_eq_true rfl) hrun ?_
                refine i_217_167 (x := 128) rfl ?_
                refine i_217_168 (v := Value.ref 141) hR.c128 rfl ?_
                refine i_217_171 (x := 128) rfl ?_
                refine i_217_172 (x := Int32.ofInt b) rfl ?_
                have hobj := hR.c128
                obtain ⟨w, hrun, hR⟩ := s_exponent (d := d + 4) (r := b) hR (by omega) (by omega)
                refine i_217_173 hobj (Nat.le_of_ble_eq_true rfl) hrun ?_
                refine i_217_176 (x := 1) rfl ?_
                refine i_217_178 (x := Int32.ofInt mode) rfl ?_
                have hobj := hR.c128
                obtain ⟨w, hrun, S2, V2, hR, hP⟩ := s_ratio (d := d) (h := 160 + 2 * a.toNat) (m := V (160 + 2 * a.toNat)) (dd := V (160 + 2 * b.toNat)) (r := r) (e := S 155 a.toNat - S 153 a.toNat) (f := S 155 b.toNat - S 153 b.toNat) (sg := 1) (mode := mode) hR (nS.mI nS.refl (nV.up nV.refl (by omega)) hI) (iNp (r := a) (by omega) (by omega)) (by omega) ((uv_n (by omega)).trans (rfl)) (uv_s) (by exact hI.nz (by omega) (by omega)) (by omega) (by omega) (by omega) (by omega) (by omega) (by omega) (by omega) (by omega)
                refine i_217_180 hobj (Nat.le_of_ble_eq_true rfl) hrun ?_
                refine i_217_183 ?_
                have eo : sQuo S V r.toNat a.toNat b.toNat mode = sRat S r.toNat (V (160 + 2 * a.toNat)) (S 155 a.toNat - S 153 a.toNat) (V (160 + 2 * b.toNat)) (S 155 b.toNat - S 153 b.toNat) 1 mode := by clear hR hrun hP; grind [sQuo, xorI, ex]
                rw [eo]
                exact ⟨rfl, _, _, hR, oP.near nS.refl (nV.up nV.refl (by omega)) hP⟩
              · refine i_217_132 (x := 128) rfl ?_
                refine i_217_133 (x := Int32.ofInt r) rfl ?_
                refine i_217_134 ?_
                refine i_217_135 (x := 1) rfl ?_
                have hobj := hR.c128
                obtain ⟨w, hrun, hR⟩ := s_special (d := d + 4) (r := r) (k := 2) (s := 1) hR (by omega) (by omega) (by omega)
                refine i_217_137 hobj (Nat.le_of_ble_eq_true rfl) hrun ?_
                refine i_217_140 ?_
                have eo : sQuo S V r.toNat a.toNat b.toNat mode = oS 2 1 (S 128 19) := by clear hR hrun; grind [sQuo, xorI, ex]
                rw [eo]
                exact ⟨rfl, _, _, hR, oP_special (by omega) (by decide) nS.refl nV.refl rfl⟩
          · refine i_217_103 (x := 128) rfl ?_
            refine i_217_104 (x := Int32.ofInt r) rfl ?_
            refine i_217_105 ?_
            refine i_217_106 (x := 1) rfl ?_
            have hobj := hR.c128
            obtain ⟨w, hrun, hR⟩ := s_special (d := d + 4) (r := r) (k := 1) (s := 1) hR (by omega) (by omega) (by omega)
            refine i_217_108 hobj (Nat.le_of_ble_eq_true rfl) hrun ?_
            refine i_217_111 ?_
            have eo : sQuo S V r.toNat a.toNat b.toNat mode = oS 1 1 (S 128 19) := by clear hR hrun; grind [sQuo, xorI, ex]
            rw [eo]
            exact ⟨rfl, _, _, hR, oP_special (by omega) (by decide) nS.refl nV.refl rfl⟩
        · refine i_217_63 (x := 128) rfl ?_
          refine i_217_64 (v := Value.ref 154) hR.c128 rfl ?_
          refine i_217_67 (x := Int32.ofInt a) rfl ?_
          refine i_217_68 (v := Value.int (Int32.ofInt (S 154 ((a).toNat)))) (hR.row a154) (ix0 (T := a) (by omega) (by omega)) (ix1 (T := a) (by omega) (by omega) (by omega)) (ra (T := a) (by omega) (by omega) rfl) ?_
          refine i_217_69 ?_
          refine i_217_70 (b_ne (a := S 154 ((a).toNat)) (b := 3) ⟨by omega, by omega⟩ ⟨by decide, by decide⟩ fun c18 => ?_) (b_eq (a := S 154 ((a).toNat)) (b := 3) ⟨by omega, by omega⟩ ⟨by decide, by decide⟩ fun c18 => ?_)
          · refine i_217_84 (x := 128) rfl ?_
            refine i_217_85 (x := Int32.ofInt r) rfl ?_
            refine i_217_86 ?_
            refine i_217_87 (x := 1) rfl ?_
            have hobj := hR.c128
            obtain ⟨w, hrun, hR⟩ := s_special (d := d + 4) (r := r) (k := 1) (s := 1) hR (by omega) (by omega) (by omega)
            refine i_217_89 hobj (Nat.le_of_ble_eq_true rfl) hrun ?_
            refine i_217_92 ?_
            have eo : sQuo S V r.toNat a.toNat b.toNat mode = oS 1 1 (S 128 19) := by clear hR hrun; grind [sQuo, xorI, ex]
            rw [eo]
            exact ⟨rfl, _, _, hR, oP_special (by omega) (by decide) nS.refl nV.refl rfl⟩
          · refine i_217_73 (x := 128) rfl ?_
            refine i_217_74 rfl ?_
            refine i_217_75 (v := Value.int (Int32.ofInt (S 128 19))) hR.c128 rfl ?_
            refine i_217_78 ?_
            refine i_217_80 (c := Int32.ofInt (zor (S 128 19) 16)) (o_or (S 128 19) 16) ?_
            refine i_217_81 (fs2 := mf (u1 (S 128) 19 (zor (S 128 19) 16))) hR.c128 (Nat.le_of_ble_eq_true rfl) (mfs_19 (v := zor (S 128 19) 16)) (by decide) ?_
            refine xgen (P := mR w0 (u2 S 128 19 (zor (S 128 19) 16)) V) hR.fld2 (fun w hR => ?_)
            refine i_217_84 (x := 128) rfl ?_
            refine i_217_85 (x := Int32.ofInt r) rfl ?_
            refine i_217_86 ?_
            refine i_217_87 (x := 1) rfl ?_
            have hobj := hR.c128
            obtain ⟨w, hrun, hR⟩ := s_special (d := d + 4) (r := r) (k := 1) (s := 1) hR (by omega) (by omega) (by omega)
            refine i_217_89 hobj (Nat.le_of_ble_eq_true rfl) hrun ?_
            refine i_217_92 ?_
            have eo : sQuo S V r.toNat a.toNat b.toNat mode = oS 1 1 (zor (S 128 19) 16) := by clear hR hrun; grind [sQuo, xorI, ex]
            rw [eo]
            exact ⟨rfl, _, _, hR, oP_flag (by omega) (by decide) nS.refl nV.refl rfl⟩
      · refine i_217_37 (x := 128) rfl ?_
        refine i_217_38 (v := Value.ref 154) hR.c128 rfl ?_
        refine i_217_41 (x := Int32.ofInt a) rfl ?_
        refine i_217_42 (v := Value.int (Int32.ofInt (S 154 ((a).toNat)))) (hR.row a154) (ix0 (T := a) (by omega) (by omega)) (ix1 (T := a) (by omega) (by omega) (by omega)) (ra (T := a) (by omega) (by omega) rfl) ?_
        refine i_217_43 ?_
        refine i_217_44 (b_eq (a := S 154 ((a).toNat)) (b := 3) ⟨by omega, by omega⟩ ⟨by decide, by decide⟩ fun c19 => ?_) (b_ne (a := S 154 ((a).toNat)) (b := 3) ⟨by omega, by omega⟩ ⟨by decide, by decide⟩ fun c19 => ?_)
        · refine i_217_53 (x := 128) rfl ?_
          refine i_217_54 (v := Value.ref 154) hR.c128 rfl ?_
          refine i_217_57 (x := Int32.ofInt b) rfl ?_
          refine i_217_58 (v := Value.int (Int32.ofInt (S 154 ((b).toNat)))) (hR.row a154) (ix0 (T := b) (by omega) (by omega)) (ix1 (T := b) (by omega) (by omega) (by omega)) (ra (T := b) (by omega) (by omega) rfl) ?_
          refine i_217_59 ?_
          refine i_217_60 (b_ne (a := S 154 ((b).toNat)) (b := 2) ⟨by omega, by omega⟩ ⟨by decide, by decide⟩ fun c20 => ?_) (b_eq (a := S 154 ((b).toNat)) (b := 2) ⟨by omega, by omega⟩ ⟨by decide, by decide⟩ fun c20 => ?_)
          · refine i_217_93 (x := 128) rfl ?_
            refine i_217_94 (v := Value.ref 154) hR.c128 rfl ?_
            refine i_217_97 (x := Int32.ofInt a) rfl ?_
            refine i_217_98 (v := Value.int (Int32.ofInt (S 154 ((a).toNat)))) (hR.row a154) (ix0 (T := a) (by omega) (by omega)) (ix1 (T := a) (by omega) (by omega) (by omega)) (ra (T := a) (by omega) (by omega) rfl) ?_
            refine i_217_99 ?_
            refine i_217_100 (b_ne (a := S 154 ((a).toNat)) (b := 1) ⟨by omega, by omega⟩ ⟨by decide, by decide⟩ fun c21 => ?_) (b_eq (a := S 154 ((a).toNat)) (b := 1) ⟨by omega, by omega⟩ ⟨by decide, by decide⟩ fun c21 => absurd c21 (by omega))
            refine i_217_112 (x := 128) rfl ?_
            refine i_217_113 (v := Value.ref 154) hR.c128 rfl ?_
            refine i_217_116 (x := Int32.ofInt a) rfl ?_
            refine i_217_117 (v := Value.int (Int32.ofInt (S 154 ((a).toNat)))) (hR.row a154) (ix0 (T := a) (by omega) (by omega)) (ix1 (T := a) (by omega) (by omega) (by omega)) (ra (T := a) (by omega) (by omega) rfl) ?_
            refine i_217_118 ?_
            refine i_217_119 (b_eq (a := S 154 ((a).toNat)) (b := 2) ⟨by omega, by omega⟩ ⟨by decide, by decide⟩ fun c22 => absurd c22 (by omega)) (b_ne (a := S 154 ((a).toNat)) (b := 2) ⟨by omega, by omega⟩ ⟨by decide, by decide⟩ fun c22 => ?_)
            refine i_217_122 (x := 128) rfl ?_
            refine i_217_123 (v := Value.ref 154) hR.c128 rfl ?_
            refine i_217_126 (x := Int32.ofInt b) rfl ?_
            refine i_217_127 (v := Value.int (Int32.ofInt (S 154 ((b).toNat)))) (hR.row a154) (ix0 (T := b) (by omega) (by omega)) (ix1 (T := b) (by omega) (by omega) (by omega)) (ra (T := b) (by omega) (by omega) rfl) ?_
            refine i_217_128 ?_
            refine i_217_129 (b_ne (a := S 154 ((b).toNat)) (b := 1) ⟨by omega, by omega⟩ ⟨by decide, by decide⟩ fun c23 => ?_) (b_eq (a := S 154 ((b).toNat)) (b := 1) ⟨by omega, by omega⟩ ⟨by decide, by decide⟩ fun c23 => ?_)
            · refine i_217_141 (x := 128) rfl ?_
              refine i_217_142 (v := Value.ref 141) hR.c128 rfl ?_
              refine i_217_145 (x := 128) rfl ?_
              refine i_217_146 (v := Value.ref 157) hR.c128 rfl ?_
              refine i_217_149 (x := Int32.ofInt b) rfl ?_
              obtain ⟨gp, hgp, hgr⟩ := hR.part (j := (b).toNat) (by omega)
              refine i_217_150 (v := Value.ref (160 + 2 * b.toNat)) hgp (ix0 (by omega) (by omega)) (ix1 (by omega) (by omega) (by omega)) (by rw [ixn (by omega) (by omega)]; exact hgr) ?_
              obtain ⟨fs, hobj⟩ := hR.obj (h := 141) (iNw (h := 141) (by decide) (by decide) (by decide))
              obtain ⟨w, hrun, hR⟩ := r_setn (d := d + 3) (v := V (160 + 2 * b.toNat)) (c := 4700) hR (iNw (h := 141) (by decide) (by decide) (by decide)) (iNp (r := b) (by omega) (by omega)) (rfl) rfl (by omega)
              refine i_217_151 hobj (Nat.le_of_ble_eq_true rfl) hrun ?_
              refine i_217_154 (x := 128) rfl ?_
              refine i_217_155 (x := Int32.ofInt r) rfl ?_
              refine i_217_156 (x := 128) rfl ?_
              refine i_217_157 (v := Value.ref 157) hR.c128 rfl ?_
              refine i_217_160 (x := Int32.ofInt a) rfl ?_
              obtain ⟨gp, hgp, hgr⟩ := hR.part (j := (a).toNat) (by omega)
              refine i_217_161 (v := Value.ref (160 + 2 * a.toNat)) hgp (ix0 (by omega) (by omega)) (ix1 (by omega) (by omega) (by omega)) (by rw [ixn (by omega) (by omega)]; exact hgr) ?_
              refine i_217_162 (x := 128) rfl ?_
              refine i_217_163 (x := Int32.ofInt a) rfl ?_
              have hobj := hR.c128
              obtain ⟨w, hrun, hR⟩ := s_exponent (d := d + 4) (r := a) hR (by omega) (by omega)
              refine i_217_164 hobj (Nat.le_of_ble_eq_true rfl) hrun ?_
              refine i_217_167 (x := 128) rfl ?_
              refine i_217_168 (v := Value.ref 141) hR.c128 rfl ?_
              refine i_217_171 (x := 128) rfl ?_
              refine i_217_172 (x := Int32.ofInt b) rfl ?_
              have hobj := hR.c128
              obtain ⟨w, hrun, hR⟩ := s_exponent (d := d + 4) (r := b) hR (by omega) (by omega)
              refine i_217_173 hobj (Nat.le_of_ble_eq_true rfl) hrun ?_
              refine i_217_176 (x := 1) rfl ?_
              refine i_217_178 (x := Int32.ofInt mode) rfl ?_
              have hobj := hR.c128
              obtain ⟨w, hrun, S2, V2, hR, hP⟩ := s_ratio (d := d) (h := 160 + 2 * a.toNat) (m := V (160 + 2 * a.toNat)) (dd := V (160 + 2 * b.toNat)) (r := r) (e := S 155 a.toNat - S 153 a.toNat) (f := S 155 b.toNat - S 153 b.toNat) (sg := 1) (mode := mode) hR (nS.mI nS.refl (nV.up nV.refl (by omega)) hI) (iNp (r := a) (by omega) (by omega)) (by omega) ((uv_n (by omega)).trans (rfl)) (uv_s) (by exact hI.nz (by omega) (by omega)) (by omega) (by omega) (by omega) (by omega) (by omega) (by omega) (by omega) (by omega)
              refine i_217_180 hobj (Nat.le_of_ble_eq_true rfl) hrun ?_
              refine i_217_183 ?_
              have eo : sQuo S V r.toNat a.toNat b.toNat mode = sRat S r.toNat (V (160 + 2 * a.toNat)) (S 155 a.toNat - S 153 a.toNat) (V (160 + 2 * b.toNat)) (S 155 b.toNat - S 153 b.toNat) 1 mode := by clear hR hrun hP; grind [sQuo, xorI, ex]
              rw [eo]
              exact ⟨rfl, _, _, hR, oP.near nS.refl (nV.up nV.refl (by omega)) hP⟩
            · refine i_217_132 (x := 128) rfl ?_
              refine i_217_133 (x := Int32.ofInt r) rfl ?_
              refine i_217_134 ?_
              refine i_217_135 (x := 1) rfl ?_
              have hobj := hR.c128
              obtain ⟨w, hrun, hR⟩ := s_special (d := d + 4) (r := r) (k := 2) (s := 1) hR (by omega) (by omega) (by omega)
              refine i_217_137 hobj (Nat.le_of_ble_eq_true rfl) hrun ?_
              refine i_217_140 ?_
              have eo : sQuo S V r.toNat a.toNat b.toNat mode = oS 2 1 (S 128 19) := by clear hR hrun; grind [sQuo, xorI, ex]
              rw [eo]
              exact ⟨rfl, _, _, hR, oP_special (by omega) (by decide) nS.refl nV.refl rfl⟩
          · refine i_217_63 (x := 128) rfl ?_
            refine i_217_64 (v := Value.ref 154) hR.c128 rfl ?_
            refine i_217_67 (x := Int32.ofInt a) rfl ?_
            refine i_217_68 (v := Value.int (Int32.ofInt (S 154 ((a).toNat)))) (hR.row a154) (ix0 (T := a) (by omega) (by omega)) (ix1 (T := a) (by omega) (by omega) (by omega)) (ra (T := a) (by omega) (by omega) rfl) ?_
            refine i_217_69 ?_
            refine i_217_70 (b_ne (a := S 154 ((a).toNat)) (b := 3) ⟨by omega, by omega⟩ ⟨by decide, by decide⟩ fun c24 => absurd c24 (by omega)) (b_eq (a := S 154 ((a).toNat)) (b := 3) ⟨by omega, by omega⟩ ⟨by decide, by decide⟩ fun c24 => ?_)
            refine i_217_73 (x := 128) rfl ?_
            refine i_217_74 rfl ?_
            refine i_217_75 (v := Value.int (Int32.ofInt (S 128 19))) hR.c128 rfl ?_
            refine i_217_78 ?_
            refine i_217_80 (c := Int32.ofInt (zor (S 128 19) 16)) (o_or (S 128 19) 16) ?_
            refine i_217_81 (fs2 := mf (u1 (S 128) 19 (zor (S 128 19) 16))) hR.c128 (Nat.le_of_ble_eq_true rfl) (mfs_19 (v := zor (S 128 19) 16)) (by decide) ?_
            refine xgen (P := mR w0 (u2 S 128 19 (zor (S 128 19) 16)) V) hR.fld2 (fun w hR => ?_)
            refine i_217_84 (x := 128) rfl ?_
            refine i_217_85 (x := Int32.ofInt r) rfl ?_
            refine i_217_86 ?_
            refine i_217_87 (x := 1) rfl ?_
            have hobj := hR.c128
            obtain ⟨w, hrun, hR⟩ := s_special (d := d + 4) (r := r) (k := 1) (s := 1) hR (by omega) (by omega) (by omega)
            refine i_217_89 hobj (Nat.le_of_ble_eq_true rfl) hrun ?_
            refine i_217_92 ?_
            have eo : sQuo S V r.toNat a.toNat b.toNat mode = oS 1 1 (zor (S 128 19) 16) := by clear hR hrun; grind [sQuo, xorI, ex]
            rw [eo]
            exact ⟨rfl, _, _, hR, oP_flag (by omega) (by decide) nS.refl nV.refl rfl⟩
        · refine i_217_47 (x := 128) rfl ?_
          refine i_217_48 (x := Int32.ofInt r) rfl ?_
          have hobj := hR.c128
          obtain ⟨w, hrun, hR⟩ := s_invalid (d := d + 3) (r := r) hR (by omega) (by omega)
          refine i_217_49 hobj (Nat.le_of_ble_eq_true rfl) hrun ?_
          refine i_217_52 ?_
          have eo : sQuo S V r.toNat a.toNat b.toNat mode = oS 0 0 (zor (S 128 19) 8) := by clear hR hrun; grind [sQuo, xorI, ex]
          rw [eo]
          exact ⟨rfl, _, _, hR, oP_flag (by omega) (by decide) nS.refl nV.refl rfl⟩
  obtain ⟨o, w', h1, rfl, h2⟩ := key.run
  exact ⟨w', h1, h2⟩
