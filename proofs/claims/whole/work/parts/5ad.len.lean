/-! length, fused, reckon of the reference -/
theorem sRtd_near {S S1 : Nat → Nat → Int} {r : Nat} {e n sg mode : Int} {v : Nat} (h : nS S S1) : sRtd S1 r e n sg mode v = sRtd S r e n sg mode v := by
  unfold sRtd oRt
  rw [h.1 153 _ (by decide), h.2 17 (by decide), h.2 18 (by decide), h.2 19 (by decide), h.2 20 (by decide)]
noncomputable def sLen (S : Nat → Nat → Int) (V : Nat → Nat) (r a b : Nat) (mode : Int) : OO :=
  if S 154 a = 1 ∨ S 154 b = 1 then oS 1 0 (S 128 19)
  else if S 154 a = 0 ∨ S 154 b = 0 then oS 0 0 (S 128 19)
  else if S 154 a = 2 ∧ S 154 b = 2 then oS 2 0 (S 128 19)
  else if S 154 a = 2 ∨ S 154 b = 2 then sMove S V r (if S 154 a = 2 then b else a) 0 mode
  else sRtd S r (2 * min (ex S a) (ex S b)) 2 0 mode (V (160 + 2 * a) * V (160 + 2 * a) * 2 ^ (2 * ex S a - 2 * min (ex S a) (ex S b)).toNat + V (160 + 2 * b) * V (160 + 2 * b) * 2 ^ (2 * ex S b - 2 * min (ex S a) (ex S b)).toNat)
def bas (kz : Bool) (kc e ec : Int) : Int := if kz then ec else if kc = 3 then min e ec else e
def sFus (S : Nat → Nat → Int) (V : Nat → Nat) (r a b c : Nat) (mode : Int) : OO :=
  if S 154 a = 0 ∨ S 154 b = 0 ∨ S 154 c = 0 then oS 0 0 (S 128 19)
  else if (S 154 a = 1 ∨ S 154 b = 1) ∧ ((S 154 a = 2 ∨ S 154 b = 2) ∨ (S 154 c = 1 ∧ S 156 c ≠ xorI (S 156 a) (S 156 b))) then oS 0 0 (zor (S 128 19) 8)
  else if S 154 a = 1 ∨ S 154 b = 1 then oS 1 (xorI (S 156 a) (S 156 b)) (S 128 19)
  else if S 154 c = 1 then oS 1 (S 156 c) (S 128 19)
  else sum2 (S 153 r) (S 128 17) (S 128 18) (S 128 20) (S 128 19) mode (if S 154 a = 2 ∨ S 154 b = 2 then 2 else 3) (xorI (S 156 a) (S 156 b)) (V (160 + 2 * a) * V (160 + 2 * b)) (ex S a + ex S b) (S 154 c) (S 156 c) (V (160 + 2 * c)) (ex S c)
set_option maxHeartbeats 8000000 in
theorem s_len {d : Nat} {w0 w : xW} {S : Nat → Nat → Int} {V : Nat → Nat} {r a b mode : Int} (hR : mR w0 S V w) (hI : mI S V) (hr : 0 ≤ r ∧ r ≤ 15) (ha : 0 ≤ a ∧ a ≤ 15) (hb : 0 ≤ b ∧ b ≤ 15) (hmo : 0 ≤ mode ∧ mode ≤ 4) : ∃ w', xRun (d + 8) 199 [Value.ref 128, Value.int (Int32.ofInt r), Value.int (Int32.ofInt a), Value.int (Int32.ofInt b), Value.int (Int32.ofInt mode)] w (.inl (some (.int (Int32.ofInt (sLen S V r.toNat a.toNat b.toNat mode).2.2.2.2.1)))) w' ∧ ∃ S' V', mR w0 S' V' w' ∧ oP S S' V V' r.toNat (sLen S V r.toNat a.toNat b.toNat mode) := by
  obtain ⟨hp_r, -⟩ := hI.1 r.toNat (by omega)
  obtain ⟨hp_a, hk_a, hn_a, ht_a, hx_a, -⟩ := hI.1 a.toNat (by omega)
  obtain ⟨hp_b, hk_b, hn_b, ht_b, hx_b, -⟩ := hI.1 b.toNat (by omega)
  have hi_l := hI.2.1
  have hi_g := hI.2.2.1
  have hi_f := hI.2.2.2
  have key : xEv (d + 8) 199 0 (lv_args 0 [Value.ref 128, Value.int (Int32.ofInt r), Value.int (Int32.ofInt a), Value.int (Int32.ofInt b), Value.int (Int32.ofInt mode)]) [] w (fun o w' => o = .inl (some (.int (Int32.ofInt (sLen S V r.toNat a.toNat b.toNat mode).2.2.2.2.1))) ∧ ∃ S' V', mR w0 S' V' w' ∧ oP S S' V V' r.toNat (sLen S V r.toNat a.toNat b.toNat mode)) := by
    refine i_199_0 (x := 128) rfl ?_
    refine i_199_1 (v := Value.ref 154) hR.c128 rfl ?_
    refine i_199_4 (x := Int32.ofInt a) rfl ?_
    refine i_199_5 (v := Value.int (Int32.ofInt (S 154 ((a).toNat)))) (hR.row a154) (ix0 (T := a) (by omega) (by omega)) (ix1 (T := a) (by omega) (by omega) (by omega)) (ra (T := a) (by omega) (by omega) rfl) ?_
    refine i_199_6 ?_
    refine i_199_7 (b_eq (a := S 154 ((a).toNat)) (b := 1) ⟨by omega, by omega⟩ ⟨by decide, by decide⟩ fun c0 => ?_) (b_ne (a := S 154 ((a).toNat)) (b := 1) ⟨by omega, by omega⟩ ⟨by decide, by decide⟩ fun c0 => ?_)
    · refine i_199_20 (x := 128) rfl ?_
      refine i_199_21 (x := Int32.ofInt r) rfl ?_
      refine i_199_22 ?_
      refine i_199_23 ?_
      have hobj := hR.c128
      obtain ⟨w, hrun, hR⟩ := s_special (d := d + 6) (r := r) (k := 1) (s := 0) hR (by omega) (by omega) (by omega)
      refine i_199_24 hobj (Nat.le_of_ble_eq_true rfl) hrun ?_
      refine i_199_27 ?_
      have eo : sLen S V r.toNat a.toNat b.toNat mode = oS 1 0 (S 128 19) := by clear hR hrun; first | grind [sLen] | (simp [sLen, ex, *]; done) | grind [sLen, ex]
      rw [eo]
      exact ⟨rfl, _, _, hR, oP_special (by omega) (by decide) nS.refl nV.refl rfl⟩
    · refine i_199_10 (x := 128) rfl ?_
      refine i_199_11 (v := Value.ref 154) hR.c128 rfl ?_
      refine i_199_14 (x := Int32.ofInt b) rfl ?_
      refine i_199_15 (v := Value.int (Int32.ofInt (S 154 ((b).toNat)))) (hR.row a154) (ix0 (T := b) (by omega) (by omega)) (ix1 (T := b) (by omega) (by omega) (by omega)) (ra (T := b) (by omega) (by omega) rfl) ?_
      refine i_199_16 ?_
      refine i_199_17 (b_ne (a := S 154 ((b).toNat)) (b := 1) ⟨by omega, by omega⟩ ⟨by decide, by decide⟩ fun c1 => ?_) (b_eq (a := S 154 ((b).toNat)) (b := 1) ⟨by omega, by omega⟩ ⟨by decide, by decide⟩ fun c1 => ?_)
      · refine i_199_28 (x := 128) rfl ?_
        refine i_199_29 (v := Value.ref 154) hR.c128 rfl ?_
        refine i_199_32 (x := Int32.ofInt a) rfl ?_
        refine i_199_33 (v := Value.int (Int32.ofInt (S 154 ((a).toNat)))) (hR.row a154) (ix0 (T := a) (by omega) (by omega)) (ix1 (T := a) (by omega) (by omega) (by omega)) (ra (T := a) (by omega) (by omega) rfl) ?_
        refine i_199_34 (z_eq (a := S 154 ((a).toNat)) ⟨by omega, by omega⟩ fun c2 => ?_) (z_ne (a := S 154 ((a).toNat)) ⟨by omega, by omega⟩ fun c2 => ?_)
        · refine i_199_46 (x := 128) rfl ?_
          refine i_199_47 (x := Int32.ofInt r) rfl ?_
          refine i_199_48 ?_
          refine i_199_49 ?_
          have hobj := hR.c128
          obtain ⟨w, hrun, hR⟩ := s_special (d := d + 6) (r := r) (k := 0) (s := 0) hR (by omega) (by omega) (by omega)
          refine i_199_50 hobj (Nat.le_of_ble_eq_true rfl) hrun ?_
          refine i_199_53 ?_
          have eo : sLen S V r.toNat a.toNat b.toNat mode = oS 0 0 (S 128 19) := by clear hR hrun; first | grind [sLen] | (simp [sLen, ex, *]; done) | grind [sLen, ex]
          rw [eo]
          exact ⟨rfl, _, _, hR, oP_special (by omega) (by decide) nS.refl nV.refl rfl⟩
        · refine i_199_37 (x := 128) rfl ?_
          refine i_199_38 (v := Value.ref 154) hR.c128 rfl ?_
          refine i_199_41 (x := Int32.ofInt b) rfl ?_
          refine i_199_42 (v := Value.int (Int32.ofInt (S 154 ((b).toNat)))) (hR.row a154) (ix0 (T := b) (by omega) (by omega)) (ix1 (T := b) (by omega) (by omega) (by omega)) (ra (T := b) (by omega) (by omega) rfl) ?_
          refine i_199_43 (z_ne (a := S 154 ((b).toNat)) ⟨by omega, by omega⟩ fun c3 => ?_) (z_eq (a := S 154 ((b).toNat)) ⟨by omega, by omega⟩ fun c3 => ?_)
          · refine i_199_54 (x := 128) rfl ?_
            refine i_199_55 (v := Value.ref 154) hR.c128 rfl ?_
            refine i_199_58 (x := Int32.ofInt a) rfl ?_
            refine i_199_59 (v := Value.int (Int32.ofInt (S 154 ((a).toNat)))) (hR.row a154) (ix0 (T := a) (by omega) (by omega)) (ix1 (T := a) (by omega) (by omega) (by omega)) (ra (T := a) (by omega) (by omega) rfl) ?_
            refine i_199_60 ?_
            refine i_199_61 (b_ne (a := S 154 ((a).toNat)) (b := 2) ⟨by omega, by omega⟩ ⟨by decide, by decide⟩ fun c4 => ?_) (b_eq (a := S 154 ((a).toNat)) (b := 2) ⟨by omega, by omega⟩ ⟨by decide, by decide⟩ fun c4 => ?_)
            · refine i_199_82 (x := 128) rfl ?_
              refine i_199_83 (v := Value.ref 154) hR.c128 rfl ?_
              refine i_199_86 (x := Int32.ofInt a) rfl ?_
              refine i_199_87 (v := Value.int (Int32.ofInt (S 154 ((a).toNat)))) (hR.row a154) (ix0 (T := a) (by omega) (by omega)) (ix1 (T := a) (by omega) (by omega) (by omega)) (ra (T := a) (by omega) (by omega) rfl) ?_
              refine i_199_88 ?_
              refine i_199_89 (b_eq (a := S 154 ((a).toNat)) (b := 2) ⟨by omega, by omega⟩ ⟨by decide, by decide⟩ fun c5 => absurd c5 (by omega)) (b_ne (a := S 154 ((a).toNat)) (b := 2) ⟨by omega, by omega⟩ ⟨by decide, by decide⟩ fun c5 => ?_)
              refine i_199_92 (x := 128) rfl ?_
              refine i_199_93 (v := Value.ref 154) hR.c128 rfl ?_
              refine i_199_96 (x := Int32.ofInt b) rfl ?_
              refine i_199_97 (v := Value.int (Int32.ofInt (S 154 ((b).toNat)))) (hR.row a154) (ix0 (T := b) (by omega) (by omega)) (ix1 (T := b) (by omega) (by omega) (by omega)) (ra (T := b) (by omega) (by omega) rfl) ?_
              refine i_199_98 ?_
              refine i_199_99 (b_ne (a := S 154 ((b).toNat)) (b := 2) ⟨by omega, by omega⟩ ⟨by decide, by decide⟩ fun c6 => ?_) (b_eq (a := S 154 ((b).toNat)) (b := 2) ⟨by omega, by omega⟩ ⟨by decide, by decide⟩ fun c6 => ?_)
              · refine i_199_126 (x := 128) rfl ?_
                refine i_199_127 (x := Int32.ofInt a) rfl ?_
                have hobj := hR.c128
                obtain ⟨w, hrun, hR⟩ := s_exponent (d := d + 6) (r := a) hR (by omega) (by omega)
                refine i_199_128 hobj (Nat.le_of_ble_eq_true rfl) hrun ?_
                refine i_199_131 (x := 128) rfl ?_
                refine i_199_132 (x := Int32.ofInt b) rfl ?_
                have hobj := hR.c128
                obtain ⟨w, hrun, hR⟩ := s_exponent (d := d + 6) (r := b) hR (by omega) (by omega)
                refine i_199_133 hobj (Nat.le_of_ble_eq_true rfl) hrun ?_
                have hrun := s_min (d := d + 6) (w := w) (a := S 155 a.toNat - S 153 a.toNat) (b := S 155 b.toNat - S 153 b.toNat) ⟨by omega, by omega⟩ ⟨by omega, by omega⟩
                refine i_199_136 (Nat.le_of_ble_eq_true rfl) hrun ?_
                refine i_199_139 (lv2 := [(5, Value.int (Int32.ofInt (min (S 155 a.toNat - S 153 a.toNat) (S 155 b.toNat - S 153 b.toNat)))), (0, Value.ref 128), (1, Value.int (Int32.ofInt r)), (2, Value.int (Int32.ofInt a)), (3, Value.int (Int32.ofInt b)), (4, Value.int (Int32.ofInt mode))]) rfl ?_
                refine i_199_141 (x := 128) rfl ?_
                refine i_199_142 ?_
                refine i_199_143 (x := Int32.ofInt (min (S 155 a.toNat - S 153 a.toNat) (S 155 b.toNat - S 153 b.toNat))) rfl ?_
                refine i_199_145 (c := Int32.ofInt (2 * (min (S 155 a.toNat - S 153 a.toNat) (S 155 b.toNat - S 153 b.toNat)))) (o_mul 2 (min (S 155 a.toNat - S 153 a.toNat) (S 155 b.toNat - S 153 b.toNat))) ?_
                have hobj := hR.c128
                obtain ⟨w, S1, V1, hrun, hR, hS⟩ := t_open (d := d + 4) (e := 2 * (min (S 155 a.toNat - S 153 a.toNat) (S 155 b.toNat - S 153 b.toNat))) hR nS.refl nV.refl
                refine i_199_146 hobj (Nat.le_of_ble_eq_true rfl) hrun ?_
                refine i_199_149 (x := 128) rfl ?_
                refine i_199_150 (v := Value.ref 133) hR.c128 rfl ?_
                refine i_199_153 (x := 128) rfl ?_
                refine i_199_154 (v := Value.ref 157) hR.c128 rfl ?_
                refine i_199_157 (x := Int32.ofInt a) rfl ?_
                obtain ⟨gp, hgp, hgr⟩ := hR.part (j := (a).toNat) (by omega)
                refine i_199_158 (v := Value.ref (160 + 2 * a.toNat)) hgp (ix0 (by omega) (by omega)) (ix1 (by omega) (by omega) (by omega)) (by rw [ixn (by omega) (by omega)]; exact hgr) ?_
                refine i_199_159 (x := 128) rfl ?_
                refine i_199_160 (v := Value.ref 157) hR.c128 rfl ?_
                refine i_199_163 (x := Int32.ofInt a) rfl ?_
                obtain ⟨gp, hgp, hgr⟩ := hR.part (j := (a).toNat) (by omega)
                refine i_199_164 (v := Value.ref (160 + 2 * a.toNat)) hgp (ix0 (by omega) (by omega)) (ix1 (by omega) (by omega) (by omega)) (by rw [ixn (by omega) (by omega)]; exact hgr) ?_
                obtain ⟨fs, hobj⟩ := hR.obj (h := 133) (iNw (h := 133) (by decide) (by decide) (by decide))
                obtain ⟨w, hrun, hR⟩ := r_prod (d := d + 5) (v2 := V (160 + 2 * a.toNat)) (v3 := V (160 + 2 * a.toNat)) (c := 4700) hR (iNw (h := 133) (by decide) (by decide) (by decide)) (iNp (r := a) (by omega) (by omega)) (iNp (r := a) (by omega) (by omega)) (by omega) (by omega) ((hS.2.1 _ (by omega))) ((hS.2.1 _ (by omega))) rfl (by omega)
                refine i_199_165 hobj (Nat.le_of_ble_eq_true rfl) hrun ?_
                refine i_199_168 (x := 128) rfl ?_
                refine i_199_169 (x := 128) rfl ?_
                refine i_199_170 (v := Value.ref 133) hR.c128 rfl ?_
                refine i_199_173 ?_
                refine i_199_174 (x := 128) rfl ?_
                refine i_199_175 (x := Int32.ofInt a) rfl ?_
                have hobj := hR.c128
                obtain ⟨w, hrun, hR⟩ := s_exponent (d := d + 6) (r := a) hR (by omega) (by omega)
                rw [hS.1.1 155 _ (by decide), hS.1.1 153 _ (by decide)] at hrun
                refine i_199_176 hobj (Nat.le_of_ble_eq_true rfl) hrun ?_
                refine i_199_179 (c := Int32.ofInt (2 * (S 155 a.toNat - S 153 a.toNat))) (o_mul 2 (S 155 a.toNat - S 153 a.toNat)) ?_
                refine i_199_180 ?_
                have hobj := hR.c128
                obtain ⟨w, S1, V1, hrun, hR, hS⟩ := t_addTo (d := d + 4) (h := 133) (m := (V (160 + 2 * a.toNat)) * (V (160 + 2 * a.toNat))) (e := 2 * (S 155 a.toNat - S 153 a.toNat)) (sg := 0) hR (sS.up hS (by decide) (by decide) (by decide)) (iNw (h := 133) (by decide) (by decide) (by decide)) (uv_s) (by omega) (by omega) (by omega) (by have := xbl_prod (V (160 + 2 * a.toNat)) (V (160 + 2 * a.toNat)); have := xbl_prod (V (160 + 2 * b.toNat)) (V (160 + 2 * b.toNat)); omega) (by first | omega | decide | exact Nat.le_trans (pl_b (n := 90200) (by decide) (Nat.le_trans (xbl_powle _ _) (by have := xbl_prod (V (160 + 2 * a.toNat)) (V (160 + 2 * a.toNat)); have := xbl_prod (V (160 + 2 * b.toNat)) (V (160 + 2 * b.toNat)); omega))) (by decide) | exact Nat.le_trans (mi_b (n := 90200) (by decide) (Nat.le_trans (xbl_powle _ _) (by have := xbl_prod (V (160 + 2 * a.toNat)) (V (160 + 2 * a.toNat)); have := xbl_prod (V (160 + 2 * b.toNat)) (V (160 + 2 * b.toNat)); omega))) (by decide) | exact Nat.le_trans (pl_b (n := 90201) (pl_b (n := 90200) (by decide) (Nat.le_trans (xbl_powle _ _) (by have := xbl_prod (V (160 + 2 * a.toNat)) (V (160 + 2 * a.toNat)); have := xbl_prod (V (160 + 2 * b.toNat)) (V (160 + 2 * b.toNat)); omega))) (Nat.le_trans (xbl_powle _ _) (by have := xbl_prod (V (160 + 2 * a.toNat)) (V (160 + 2 * a.toNat)); have := xbl_prod (V (160 + 2 * b.toNat)) (V (160 + 2 * b.toNat)); omega))) (by decide) | exact Nat.le_trans (mi_b (n := 90201) (mi_b (n := 90200) (by decide) (Nat.le_trans (xbl_powle _ _) (by have := xbl_prod (V (160 + 2 * a.toNat)) (V (160 + 2 * a.toNat)); have := xbl_prod (V (160 + 2 * b.toNat)) (V (160 + 2 * b.toNat)); omega))) (Nat.le_trans (Nat.le_trans (xbl_powle _ _) (by have := xbl_prod (V (160 + 2 * a.toNat)) (V (160 + 2 * a.toNat)); have := xbl_prod (V (160 + 2 * b.toNat)) (V (160 + 2 * b.toNat)); omega)) (by decide))) (by decide)) (by first | omega | decide | exact Nat.le_trans (pl_b (n := 90200) (by decide) (Nat.le_trans (xbl_powle _ _) (by have := xbl_prod (V (160 + 2 * a.toNat)) (V (160 + 2 * a.toNat)); have := xbl_prod (V (160 + 2 * b.toNat)) (V (160 + 2 * b.toNat)); omega))) (by decide) | exact Nat.le_trans (mi_b (n := 90200) (by decide) (Nat.le_trans (xbl_powle _ _) (by have := xbl_prod (V (160 + 2 * a.toNat)) (V (160 + 2 * a.toNat)); have := xbl_prod (V (160 + 2 * b.toNat)) (V (160 + 2 * b.toNat)); omega))) (by decide) | exact Nat.le_trans (pl_b (n := 90201) (pl_b (n := 90200) (by decide) (Nat.le_trans (xbl_powle _ _) (by have := xbl_prod (V (160 + 2 * a.toNat)) (V (160 + 2 * a.toNat)); have := xbl_prod (V (160 + 2 * b.toNat)) (V (160 + 2 * b.toNat)); omega))) (Nat.le_trans (xbl_powle _ _) (by have := xbl_prod (V (160 + 2 * a.toNat)) (V (160 + 2 * a.toNat)); have := xbl_prod (V (160 + 2 * b.toNat)) (V (160 + 2 * b.toNat)); omega))) (by decide) | exact Nat.le_trans (mi_b (n := 90201) (mi_b (n := 90200) (by decide) (Nat.le_trans (xbl_powle _ _) (by have := xbl_prod (V (160 + 2 * a.toNat)) (V (160 + 2 * a.toNat)); have := xbl_prod (V (160 + 2 * b.toNat)) (V (160 + 2 * b.toNat)); omega))) (Nat.le_trans (Nat.le_trans (xbl_powle _ _) (by have := xbl_prod (V (160 + 2 * a.toNat)) (V (160 + 2 * a.toNat)); have := xbl_prod (V (160 + 2 * b.toNat)) (V (160 + 2 * b.toNat)); omega)) (by decide))) (by decide))
                refine i_199_181 hobj (Nat.le_of_ble_eq_true rfl) hrun ?_
                refine i_199_184 (x := 128) rfl ?_
                refine i_199_185 (v := Value.ref 133) hR.c128 rfl ?_
                refine i_199_188 (x := 128) rfl ?_
                refine i_199_189 (v := Value.ref 157) hR.c128 rfl ?_
                refine i_199_192 (x := Int32.ofInt b) rfl ?_
                obtain ⟨gp, hgp, hgr⟩ := hR.part (j := (b).toNat) (by omega)
                refine i_199_193 (v := Value.ref (160 + 2 * b.toNat)) hgp (ix0 (by omega) (by omega)) (ix1 (by omega) (by omega) (by omega)) (by rw [ixn (by omega) (by omega)]; exact hgr) ?_
                refine i_199_194 (x := 128) rfl ?_
                refine i_199_195 (v := Value.ref 157) hR.c128 rfl ?_
                refine i_199_198 (x := Int32.ofInt b) rfl ?_
                obtain ⟨gp, hgp, hgr⟩ := hR.part (j := (b).toNat) (by omega)
                refine i_199_199 (v := Value.ref (160 + 2 * b.toNat)) hgp (ix0 (by omega) (by omega)) (ix1 (by omega) (by omega) (by omega)) (by rw [ixn (by omega) (by omega)]; exact hgr) ?_
                obtain ⟨fs, hobj⟩ := hR.obj (h := 133) (iNw (h := 133) (by decide) (by decide) (by decide))
                obtain ⟨w, hrun, hR⟩ := r_prod (d := d + 5) (v2 := V (160 + 2 * b.toNat)) (v3 := V (160 + 2 * b.toNat)) (c := 4700) hR (iNw (h := 133) (by decide) (by decide) (by decide)) (iNp (r := b) (by omega) (by omega)) (iNp (r := b) (by omega) (by omega)) (by omega) (by omega) ((hS.2.1 _ (by omega))) ((hS.2.1 _ (by omega))) rfl (by omega)
                refine i_199_200 hobj (Nat.le_of_ble_eq_true rfl) hrun ?_
                refine i_199_203 (x := 128) rfl ?_
                refine i_199_204 (x := 128) rfl ?_
                refine i_199_205 (v := Value.ref 133) hR.c128 rfl ?_
                refine i_199_208 ?_
                refine i_199_209 (x := 128) rfl ?_
                refine i_199_210 (x := Int32.ofInt b) rfl ?_
                have hobj := hR.c128
                obtain ⟨w, hrun, hR⟩ := s_exponent (d := d + 6) (r := b) hR (by omega) (by omega)
                rw [hS.1.1 155 _ (by decide), hS.1.1 153 _ (by decide)] at hrun
                refine i_199_211 hobj (Nat.le_of_ble_eq_true rfl) hrun ?_
                refine i_199_214 (c := Int32.ofInt (2 * (S 155 b.toNat - S 153 b.toNat))) (o_mul 2 (S 155 b.toNat - S 153 b.toNat)) ?_
                refine i_199_215 ?_
                have hobj := hR.c128
                obtain ⟨w, S1, V1, hrun, hR, hS⟩ := t_addTo (d := d + 4) (h := 133) (m := (V (160 + 2 * b.toNat)) * (V (160 + 2 * b.toNat))) (e := 2 * (S 155 b.toNat - S 153 b.toNat)) (sg := 0) hR (sS.up hS (by decide) (by decide) (by decide)) (iNw (h := 133) (by decide) (by decide) (by decide)) (uv_s) (by omega) (by omega) (by omega) (by have := xbl_prod (V (160 + 2 * a.toNat)) (V (160 + 2 * a.toNat)); have := xbl_prod (V (160 + 2 * b.toNat)) (V (160 + 2 * b.toNat)); omega) (by first | omega | decide | exact Nat.le_trans (pl_b (n := 90200) (by decide) (Nat.le_trans (xbl_powle _ _) (by have := xbl_prod (V (160 + 2 * a.toNat)) (V (160 + 2 * a.toNat)); have := xbl_prod (V (160 + 2 * b.toNat)) (V (160 + 2 * b.toNat)); omega))) (by decide) | exact Nat.le_trans (mi_b (n := 90200) (by decide) (Nat.le_trans (xbl_powle _ _) (by have := xbl_prod (V (160 + 2 * a.toNat)) (V (160 + 2 * a.toNat)); have := xbl_prod (V (160 + 2 * b.toNat)) (V (160 + 2 * b.toNat)); omega))) (by decide) | exact Nat.le_trans (pl_b (n := 90201) (pl_b (n := 90200) (by decide) (Nat.le_trans (xbl_powle _ _) (by have := xbl_prod (V (160 + 2 * a.toNat)) (V (160 + 2 * a.toNat)); have := xbl_prod (V (160 + 2 * b.toNat)) (V (160 + 2 * b.toNat)); omega))) (Nat.le_trans (xbl_powle _ _) (by have := xbl_prod (V (160 + 2 * a.toNat)) (V (160 + 2 * a.toNat)); have := xbl_prod (V (160 + 2 * b.toNat)) (V (160 + 2 * b.toNat)); omega))) (by decide) | exact Nat.le_trans (mi_b (n := 90201) (mi_b (n := 90200) (by decide) (Nat.le_trans (xbl_powle _ _) (by have := xbl_prod (V (160 + 2 * a.toNat)) (V (160 + 2 * a.toNat)); have := xbl_prod (V (160 + 2 * b.toNat)) (V (160 + 2 * b.toNat)); omega))) (Nat.le_trans (Nat.le_trans (xbl_powle _ _) (by have := xbl_prod (V (160 + 2 * a.toNat)) (V (160 + 2 * a.toNat)); have := xbl_prod (V (160 + 2 * b.toNat)) (V (160 + 2 * b.toNat)); omega)) (by decide))) (by decide)) (by first | omega | decide | exact Nat.le_trans (pl_b (n := 90200) (by decide) (Nat.le_trans (xbl_powle _ _) (by have := xbl_prod (V (160 + 2 * a.toNat)) (V (160 + 2 * a.toNat)); have := xbl_prod (V (160 + 2 * b.toNat)) (V (160 + 2 * b.toNat)); omega))) (by decide) | exact Nat.le_trans (mi_b (n := 90200) (by decide) (Nat.le_trans (xbl_powle _ _) (by have := xbl_prod (V (160 + 2 * a.toNat)) (V (160 + 2 * a.toNat)); have := xbl_prod (V (160 + 2 * b.toNat)) (V (160 + 2 * b.toNat)); omega))) (by decide) | exact Nat.le_trans (pl_b (n := 90201) (pl_b (n := 90200) (by decide) (Nat.le_trans (xbl_powle _ _) (by have := xbl_prod (V (160 + 2 * a.toNat)) (V (160 + 2 * a.toNat)); have := xbl_prod (V (160 + 2 * b.toNat)) (V (160 + 2 * b.toNat)); omega))) (Nat.le_trans (xbl_powle _ _) (by have := xbl_prod (V (160 + 2 * a.toNat)) (V (160 + 2 * a.toNat)); have := xbl_prod (V (160 + 2 * b.toNat)) (V (160 + 2 * b.toNat)); omega))) (by decide) | exact Nat.le_trans (mi_b (n := 90201) (mi_b (n := 90200) (by decide) (Nat.le_trans (xbl_powle _ _) (by have := xbl_prod (V (160 + 2 * a.toNat)) (V (160 + 2 * a.toNat)); have := xbl_prod (V (160 + 2 * b.toNat)) (V (160 + 2 * b.toNat)); omega))) (Nat.le_trans (Nat.le_trans (xbl_powle _ _) (by have := xbl_prod (V (160 + 2 * a.toNat)) (V (160 + 2 * a.toNat)); have := xbl_prod (V (160 + 2 * b.toNat)) (V (160 + 2 * b.toNat)); omega)) (by decide))) (by decide))
                refine i_199_216 hobj (Nat.le_of_ble_eq_true rfl) hrun ?_
                refine i_199_219 (x := 128) rfl ?_
                refine i_199_220 (v := Value.ref 129) hR.c128 rfl ?_
                refine i_199_223 (x := 128) rfl ?_
                refine i_199_224 (v := Value.ref 147) hR.c128 rfl ?_
                obtain ⟨fs, hobj⟩ := hR.obj (h := 129) (iNw (h := 129) (by decide) (by decide) (by decide))
                obtain ⟨w, hrun, hR⟩ := r_setn (d := d + 5) (v := (0 + if 0 = 0 then ((V (160 + 2 * a.toNat)) * (V (160 + 2 * a.toNat))) * 2 ^ ((2 * (S 155 a.toNat - S 153 a.toNat)) - (2 * (min (S 155 a.toNat - S 153 a.toNat) (S 155 b.toNat - S 153 b.toNat)))).toNat else 0) + if 0 = 0 then ((V (160 + 2 * b.toNat)) * (V (160 + 2 * b.toNat))) * 2 ^ ((2 * (S 155 b.toNat - S 153 b.toNat)) - (2 * (min (S 155 a.toNat - S 153 a.toNat) (S 155 b.toNat - S 153 b.toNat)))).toNat else 0) (c := 4700) hR (iNw (h := 129) (by decide) (by decide) (by decide)) (iNw (h := 147) (by decide) (by decide) (by decide)) ((sS.p hS)) rfl (by first | omega | decide | exact Nat.le_trans (pl_b (n := 90200) (by decide) (Nat.le_trans (xbl_powle _ _) (by have := xbl_prod (V (160 + 2 * a.toNat)) (V (160 + 2 * a.toNat)); have := xbl_prod (V (160 + 2 * b.toNat)) (V (160 + 2 * b.toNat)); omega))) (by decide) | exact Nat.le_trans (mi_b (n := 90200) (by decide) (Nat.le_trans (xbl_powle _ _) (by have := xbl_prod (V (160 + 2 * a.toNat)) (V (160 + 2 * a.toNat)); have := xbl_prod (V (160 + 2 * b.toNat)) (V (160 + 2 * b.toNat)); omega))) (by decide) | exact Nat.le_trans (pl_b (n := 90201) (pl_b (n := 90200) (by decide) (Nat.le_trans (xbl_powle _ _) (by have := xbl_prod (V (160 + 2 * a.toNat)) (V (160 + 2 * a.toNat)); have := xbl_prod (V (160 + 2 * b.toNat)) (V (160 + 2 * b.toNat)); omega))) (Nat.le_trans (xbl_powle _ _) (by have := xbl_prod (V (160 + 2 * a.toNat)) (V (160 + 2 * a.toNat)); have := xbl_prod (V (160 + 2 * b.toNat)) (V (160 + 2 * b.toNat)); omega))) (by decide) | exact Nat.le_trans (mi_b (n := 90201) (mi_b (n := 90200) (by decide) (Nat.le_trans (xbl_powle _ _) (by have := xbl_prod (V (160 + 2 * a.toNat)) (V (160 + 2 * a.toNat)); have := xbl_prod (V (160 + 2 * b.toNat)) (V (160 + 2 * b.toNat)); omega))) (Nat.le_trans (Nat.le_trans (xbl_powle _ _) (by have := xbl_prod (V (160 + 2 * a.toNat)) (V (160 + 2 * a.toNat)); have := xbl_prod (V (160 + 2 * b.toNat)) (V (160 + 2 * b.toNat)); omega)) (by decide))) (by decide))
                refine i_199_227 hobj (Nat.le_of_ble_eq_true rfl) hrun ?_
                refine i_199_230 (x := 128) rfl ?_
                refine i_199_231 (x := Int32.ofInt r) rfl ?_
                refine i_199_232 ?_
                refine i_199_233 (x := Int32.ofInt (min (S 155 a.toNat - S 153 a.toNat) (S 155 b.toNat - S 153 b.toNat))) rfl ?_
                refine i_199_235 (c := Int32.ofInt (2 * (min (S 155 a.toNat - S 153 a.toNat) (S 155 b.toNat - S 153 b.toNat)))) (o_mul 2 (min (S 155 a.toNat - S 153 a.toNat) (S 155 b.toNat - S 153 b.toNat))) ?_
                refine i_199_236 ?_
                refine i_199_237 ?_
                refine i_199_238 (x := Int32.ofInt mode) rfl ?_
                have hobj := hR.c128
                obtain ⟨w, hrun, S2, V2, hR, hP⟩ := t_rooted (d := d + 2) (r := r) (e := 2 * (min (S 155 a.toNat - S 153 a.toNat) (S 155 b.toNat - S 153 b.toNat))) (n := 2) (sg := 0) (mode := mode) (v := (0 + if 0 = 0 then ((V (160 + 2 * a.toNat)) * (V (160 + 2 * a.toNat))) * 2 ^ ((2 * (S 155 a.toNat - S 153 a.toNat)) - (2 * (min (S 155 a.toNat - S 153 a.toNat) (S 155 b.toNat - S 153 b.toNat)))).toNat else 0) + if 0 = 0 then ((V (160 + 2 * b.toNat)) * (V (160 + 2 * b.toNat))) * 2 ^ ((2 * (S 155 b.toNat - S 153 b.toNat)) - (2 * (min (S 155 a.toNat - S 153 a.toNat) (S 155 b.toNat - S 153 b.toNat)))).toNat else 0) hR (nS.mI hS.1 (sS.up hS (by decide) (by decide) (by decide)).2.1 hI) (uv_s) (by have h1 := hI.nz (r := a.toNat) (by omega) (by omega); simp only [if_true]; exact Nat.ne_of_gt (Nat.add_pos_left (by rw [Nat.zero_add]; exact Nat.mul_pos (Nat.mul_pos (Nat.pos_of_ne_zero h1) (Nat.pos_of_ne_zero h1)) (Nat.two_pow_pos _)) _)) (by omega) (by omega) (by omega) (by omega) (by omega) (by first | omega | decide | exact Nat.le_trans (pl_b (n := 90200) (by decide) (Nat.le_trans (xbl_powle _ _) (by have := xbl_prod (V (160 + 2 * a.toNat)) (V (160 + 2 * a.toNat)); have := xbl_prod (V (160 + 2 * b.toNat)) (V (160 + 2 * b.toNat)); omega))) (by decide) | exact Nat.le_trans (mi_b (n := 90200) (by decide) (Nat.le_trans (xbl_powle _ _) (by have := xbl_prod (V (160 + 2 * a.toNat)) (V (160 + 2 * a.toNat)); have := xbl_prod (V (160 + 2 * b.toNat)) (V (160 + 2 * b.toNat)); omega))) (by decide) | exact Nat.le_trans (pl_b (n := 90201) (pl_b (n := 90200) (by decide) (Nat.le_trans (xbl_powle _ _) (by have := xbl_prod (V (160 + 2 * a.toNat)) (V (160 + 2 * a.toNat)); have := xbl_prod (V (160 + 2 * b.toNat)) (V (160 + 2 * b.toNat)); omega))) (Nat.le_trans (xbl_powle _ _) (by have := xbl_prod (V (160 + 2 * a.toNat)) (V (160 + 2 * a.toNat)); have := xbl_prod (V (160 + 2 * b.toNat)) (V (160 + 2 * b.toNat)); omega))) (by decide) | exact Nat.le_trans (mi_b (n := 90201) (mi_b (n := 90200) (by decide) (Nat.le_trans (xbl_powle _ _) (by have := xbl_prod (V (160 + 2 * a.toNat)) (V (160 + 2 * a.toNat)); have := xbl_prod (V (160 + 2 * b.toNat)) (V (160 + 2 * b.toNat)); omega))) (Nat.le_trans (Nat.le_trans (xbl_powle _ _) (by have := xbl_prod (V (160 + 2 * a.toNat)) (V (160 + 2 * a.toNat)); have := xbl_prod (V (160 + 2 * b.toNat)) (V (160 + 2 * b.toNat)); omega)) (by decide))) (by decide))
                rw [sRtd_near hS.1] at hrun hP
                refine i_199_240 hobj (Nat.le_of_ble_eq_true rfl) hrun ?_
                refine i_199_243 ?_
                have eo : sLen S V r.toNat a.toNat b.toNat mode = sRtd S r.toNat (2 * (min (S 155 a.toNat - S 153 a.toNat) (S 155 b.toNat - S 153 b.toNat))) 2 0 mode ((0 + if 0 = 0 then ((V (160 + 2 * a.toNat)) * (V (160 + 2 * a.toNat))) * 2 ^ ((2 * (S 155 a.toNat - S 153 a.toNat)) - (2 * (min (S 155 a.toNat - S 153 a.toNat) (S 155 b.toNat - S 153 b.toNat)))).toNat else 0) + if 0 = 0 then ((V (160 + 2 * b.toNat)) * (V (160 + 2 * b.toNat))) * 2 ^ ((2 * (S 155 b.toNat - S 153 b.toNat)) - (2 * (min (S 155 a.toNat - S 153 a.toNat) (S 155 b.toNat - S 153 b.toNat)))).toNat else 0) := by clear hR hrun hP; first | grind [sLen] | (simp [sLen, ex, *]; done) | grind [sLen, ex]
                rw [eo]
                exact ⟨rfl, _, _, hR, oP.near hS.1 (sS.up hS (by decide) (by decide) (by decide)).2.1 hP⟩
              · refine i_199_102 (x := 128) rfl ?_
                refine i_199_103 (x := Int32.ofInt r) rfl ?_
                refine i_199_104 (x := 128) rfl ?_
                refine i_199_105 (v := Value.ref 154) hR.c128 rfl ?_
                refine i_199_108 (x := Int32.ofInt a) rfl ?_
                refine i_199_109 (v := Value.int (Int32.ofInt (S 154 ((a).toNat)))) (hR.row a154) (ix0 (T := a) (by omega) (by omega)) (ix1 (T := a) (by omega) (by omega) (by omega)) (ra (T := a) (by omega) (by omega) rfl) ?_
                refine i_199_110 ?_
                refine i_199_111 (b_ne (a := S 154 ((a).toNat)) (b := 2) ⟨by omega, by omega⟩ ⟨by decide, by decide⟩ fun c7 => ?_) (b_eq (a := S 154 ((a).toNat)) (b := 2) ⟨by omega, by omega⟩ ⟨by decide, by decide⟩ fun c7 => absurd c7 (by omega))
                refine i_199_118 (x := Int32.ofInt a) rfl ?_
                refine i_199_119 ?_
                refine i_199_120 (x := Int32.ofInt mode) rfl ?_
                have hobj := hR.c128
                obtain ⟨w, hrun, S2, V2, hR, hP⟩ := s_move (d := d + 2) (r := r) (a := a) (sg := 0) (mode := mode) hR hI (by omega) (by omega) (by omega) (by omega)
                refine i_199_122 hobj (Nat.le_of_ble_eq_true rfl) hrun ?_
                refine i_199_125 ?_
                have eo : sLen S V r.toNat a.toNat b.toNat mode = sMove S V r.toNat a.toNat 0 mode := by clear hR hrun hP; first | grind [sLen] | (simp [sLen, ex, *]; done) | grind [sLen, ex]
                rw [eo]
                exact ⟨rfl, _, _, hR, hP⟩
            · refine i_199_64 (x := 128) rfl ?_
              refine i_199_65 (v := Value.ref 154) hR.c128 rfl ?_
              refine i_199_68 (x := Int32.ofInt b) rfl ?_
              refine i_199_69 (v := Value.int (Int32.ofInt (S 154 ((b).toNat)))) (hR.row a154) (ix0 (T := b) (by omega) (by omega)) (ix1 (T := b) (by omega) (by omega) (by omega)) (ra (T := b) (by omega) (by omega) rfl) ?_
              refine i_199_70 ?_
              refine i_199_71 (b_ne (a := S 154 ((b).toNat)) (b := 2) ⟨by omega, by omega⟩ ⟨by decide, by decide⟩ fun c8 => ?_) (b_eq (a := S 154 ((b).toNat)) (b := 2) ⟨by omega, by omega⟩ ⟨by decide, by decide⟩ fun c8 => ?_)
              · refine i_199_82 (x := 128) rfl ?_
                refine i_199_83 (v := Value.ref 154) hR.c128 rfl ?_
                refine i_199_86 (x := Int32.ofInt a) rfl ?_
                refine i_199_87 (v := Value.int (Int32.ofInt (S 154 ((a).toNat)))) (hR.row a154) (ix0 (T := a) (by omega) (by omega)) (ix1 (T := a) (by omega) (by omega) (by omega)) (ra (T := a) (by omega) (by omega) rfl) ?_
                refine i_199_88 ?_
                refine i_199_89 (b_eq (a := S 154 ((a).toNat)) (b := 2) ⟨by omega, by omega⟩ ⟨by decide, by decide⟩ fun c9 => ?_) (b_ne (a := S 154 ((a).toNat)) (b := 2) ⟨by omega, by omega⟩ ⟨by decide, by decide⟩ fun c9 => absurd c9 (by omega))
                refine i_199_102 (x := 128) rfl ?_
                refine i_199_103 (x := Int32.ofInt r) rfl ?_
                refine i_199_104 (x := 128) rfl ?_
                refine i_199_105 (v := Value.ref 154) hR.c128 rfl ?_
                refine i_199_108 (x := Int32.ofInt a) rfl ?_
                refine i_199_109 (v := Value.int (Int32.ofInt (S 154 ((a).toNat)))) (hR.row a154) (ix0 (T := a) (by omega) (by omega)) (ix1 (T := a) (by omega) (by omega) (by omega)) (ra (T := a) (by omega) (by omega) rfl) ?_
                refine i_199_110 ?_
                refine i_199_111 (b_ne (a := S 154 ((a).toNat)) (b := 2) ⟨by omega, by omega⟩ ⟨by decide, by decide⟩ fun c10 => absurd c10 (by omega)) (b_eq (a := S 154 ((a).toNat)) (b := 2) ⟨by omega, by omega⟩ ⟨by decide, by decide⟩ fun c10 => ?_)
                refine i_199_114 (x := Int32.ofInt b) rfl ?_
                refine i_199_115 ?_
                refine i_199_119 ?_
                refine i_199_120 (x := Int32.ofInt mode) rfl ?_
                have hobj := hR.c128
                obtain ⟨w, hrun, S2, V2, hR, hP⟩ := s_move (d := d + 2) (r := r) (a := b) (sg := 0) (mode := mode) hR hI (by omega) (by omega) (by omega) (by omega)
                refine i_199_122 hobj (Nat.le_of_ble_eq_true rfl) hrun ?_
                refine i_199_125 ?_
                have eo : sLen S V r.toNat a.toNat b.toNat mode = sMove S V r.toNat b.toNat 0 mode := by clear hR hrun hP; first | grind [sLen] | (simp [sLen, ex, *]; done) | grind [sLen, ex]
                rw [eo]
                exact ⟨rfl, _, _, hR, hP⟩
              · refine i_199_74 (x := 128) rfl ?_
                refine i_199_75 (x := Int32.ofInt r) rfl ?_
                refine i_199_76 ?_
                refine i_199_77 ?_
                have hobj := hR.c128
                obtain ⟨w, hrun, hR⟩ := s_special (d := d + 6) (r := r) (k := 2) (s := 0) hR (by omega) (by omega) (by omega)
                refine i_199_78 hobj (Nat.le_of_ble_eq_true rfl) hrun ?_
                refine i_199_81 ?_
                have eo : sLen S V r.toNat a.toNat b.toNat mode = oS 2 0 (S 128 19) := by clear hR hrun; first | grind [sLen] | (simp [sLen, ex, *]; done) | grind [sLen, ex]
                rw [eo]
                exact ⟨rfl, _, _, hR, oP_special (by omega) (by decide) nS.refl nV.refl rfl⟩
          · refine i_199_46 (x := 128) rfl ?_
            refine i_199_47 (x := Int32.ofInt r) rfl ?_
            refine i_199_48 ?_
            refine i_199_49 ?_
            have hobj := hR.c128
            obtain ⟨w, hrun, hR⟩ := s_special (d := d + 6) (r := r) (k := 0) (s := 0) hR (by omega) (by omega) (by omega)
            refine i_199_50 hobj (Nat.le_of_ble_eq_true rfl) hrun ?_
            refine i_199_53 ?_
            have eo : sLen S V r.toNat a.toNat b.toNat mode = oS 0 0 (S 128 19) := by clear hR hrun; first | grind [sLen] | (simp [sLen, ex, *]; done) | grind [sLen, ex]
            rw [eo]
            exact ⟨rfl, _, _, hR, oP_special (by omega) (by decide) nS.refl nV.refl rfl⟩
      · refine i_199_20 (x := 128) rfl ?_
        refine i_199_21 (x := Int32.ofInt r) rfl ?_
        refine i_199_22 ?_
        refine i_199_23 ?_
        have hobj := hR.c128
        obtain ⟨w, hrun, hR⟩ := s_special (d := d + 6) (r := r) (k := 1) (s := 0) hR (by omega) (by omega) (by omega)
        refine i_199_24 hobj (Nat.le_of_ble_eq_true rfl) hrun ?_
        refine i_199_27 ?_
        have eo : sLen S V r.toNat a.toNat b.toNat mode = oS 1 0 (S 128 19) := by clear hR hrun; first | grind [sLen] | (simp [sLen, ex, *]; done) | grind [sLen, ex]
        rw [eo]
        exact ⟨rfl, _, _, hR, oP_special (by omega) (by decide) nS.refl nV.refl rfl⟩
  obtain ⟨o, w', h1, rfl, h2⟩ := key.run
  exact ⟨w', h1, h2⟩
