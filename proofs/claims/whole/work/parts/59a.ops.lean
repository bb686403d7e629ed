/-! operations of the reference: move, multiply, openSum, addTo, addZero -/
def xorI (a b : Int) : Int := if a = b then 0 else 1
def sMove (S : Nat → Nat → Int) (V : Nat → Nat) (r a : Nat) (sg mode : Int) : OO := if S 154 a = 3 then oR (S 153 r) (S 128 17) (S 128 18) (S 128 20) sg mode 0 (V (160 + 2 * a)) (S 155 a - S 153 a) (S 128 19) else oS (S 154 a) (if S 154 a = 0 then 0 else sg) (S 128 19)
def sMul (S : Nat → Nat → Int) (V : Nat → Nat) (r a b : Nat) (mode : Int) : OO :=
  if (S 154 a = 1 ∧ S 154 b = 2) ∨ (S 154 a = 2 ∧ S 154 b = 1) then oS 0 0 (zor (S 128 19) 8)
  else if S 154 a = 1 ∨ S 154 b = 1 then oS 1 (xorI (S 156 a) (S 156 b)) (S 128 19)
  else if S 154 a = 2 ∨ S 154 b = 2 then oS 2 (xorI (S 156 a) (S 156 b)) (S 128 19)
  else oR (S 153 r) (S 128 17) (S 128 18) (S 128 20) (xorI (S 156 a) (S 156 b)) mode 0 (V (160 + 2 * a) * V (160 + 2 * b)) (S 155 a - S 153 a + (S 155 b - S 153 b)) (S 128 19)
set_option maxHeartbeats 8000000 in
theorem s_move {d : Nat} {w0 w : xW} {S : Nat → Nat → Int} {V : Nat → Nat} {r a sg mode : Int} (hR : mR w0 S V w) (hI : mI S V) (hr : 0 ≤ r ∧ r < 16) (ha : 0 ≤ a ∧ a < 16) (hs : sg = 0 ∨ sg = 1) (hmo : 0 ≤ mode ∧ mode ≤ 4) : ∃ w', xRun (d + 5) 195 [Value.ref 128, Value.int (Int32.ofInt r), Value.int (Int32.ofInt a), Value.int (Int32.ofInt sg), Value.int (Int32.ofInt mode)] w (.inl (some (.int (Int32.ofInt (sMove S V r.toNat a.toNat sg mode).2.2.2.2.1)))) w' ∧ ∃ S' V', mR w0 S' V' w' ∧ oP S S' V V' r.toNat (sMove S V r.toNat a.toNat sg mode) := by
  obtain ⟨hp_r, -⟩ := hI.1 r.toNat (by omega)
  obtain ⟨hp_a, hk_a, hn_a, ht_a, hx_a, -⟩ := hI.1 a.toNat (by omega)
  have hi_l := hI.2.1
  have hi_g := hI.2.2.1
  have hi_f := hI.2.2.2
  have key : xEv (d + 5) 195 0 (lv_args 0 [Value.ref 128, Value.int (Int32.ofInt r), Value.int (Int32.ofInt a), Value.int (Int32.ofInt sg), Value.int (Int32.ofInt mode)]) [] w (fun o w' => o = .inl (some (.int (Int32.ofInt (sMove S V r.toNat a.toNat sg mode).2.2.2.2.1))) ∧ ∃ S' V', mR w0 S' V' w' ∧ oP S S' V V' r.toNat (sMove S V r.toNat a.toNat sg mode)) := by
    refine i_195_0 (x := 128) rfl ?_
    refine i_195_1 (v := Value.ref 154) hR.c128 rfl ?_
    refine i_195_4 (x := Int32.ofInt a) rfl ?_
    refine i_195_5 (v := Value.int (Int32.ofInt (S 154 ((a).toNat)))) (hR.row a154) (ix0 (T := a) (by omega) (by omega)) (ix1 (T := a) (by omega) (by omega) (by omega)) (ra (T := a) (by omega) (by omega) rfl) ?_
    refine i_195_6 ?_
    refine i_195_7 (b_eq (a := S 154 ((a).toNat)) (b := 3) ⟨by omega, by omega⟩ ⟨by decide, by decide⟩ fun c0 => ?_) (b_ne (a := S 154 ((a).toNat)) (b := 3) ⟨by omega, by omega⟩ ⟨by decide, by decide⟩ fun c0 => ?_)
    · refine i_195_40 (x := 128) rfl ?_
      refine i_195_41 (v := Value.ref 129) hR.c128 rfl ?_
      refine i_195_44 (x := 128) rfl ?_
      refine i_195_45 (v := Value.ref 157) hR.c128 rfl ?_
      refine i_195_48 (x := Int32.ofInt a) rfl ?_
      obtain ⟨gp, hgp, hgr⟩ := hR.part (j := (a).toNat) (by omega)
      refine i_195_49 (v := Value.ref (160 + 2 * a.toNat)) hgp (ix0 (by omega) (by omega)) (ix1 (by omega) (by omega) (by omega)) (by rw [ixn (by omega) (by omega)]; exact hgr) ?_
      obtain ⟨fs, hobj⟩ := hR.obj (h := 129) (iNw (h := 129) (by decide) (by decide) (by decide))
      obtain ⟨w, hrun, hR⟩ := r_setn (d := d + 2) (v := V (160 + 2 * a.toNat)) (c := 4700) hR (iNw (h := 129) (by decide) (by decide) (by decide)) (iNp (r := a) (by omega) (by omega)) (rfl) rfl (by omega)
      refine i_195_50 hobj (Nat.le_of_ble_eq_true rfl) hrun ?_
      refine i_195_53 (x := 128) rfl ?_
      refine i_195_54 (x := Int32.ofInt r) rfl ?_
      refine i_195_55 (x := 128) rfl ?_
      refine i_195_56 (v := Value.ref 129) hR.c128 rfl ?_
      refine i_195_59 (x := 128) rfl ?_
      refine i_195_60 (x := Int32.ofInt a) rfl ?_
      have hobj := hR.c128
      obtain ⟨w, hrun, hR⟩ := s_exponent (d := d + 3) (r := a) hR (by omega) (by omega)
      refine i_195_61 hobj (Nat.le_of_ble_eq_true rfl) hrun ?_
      refine i_195_64 ?_
      refine i_195_65 (x := Int32.ofInt sg) rfl ?_
      refine i_195_66 (x := Int32.ofInt mode) rfl ?_
      have hobj := hR.c128
      have hx : (uv V 129 (V (160 + 2 * a.toNat))) 129 = V (160 + 2 * a.toNat) := uv_s
      obtain ⟨w, S2, V2, hrun, hR, hP⟩ := s_round (d := d) (h := 129) (r := r) (e := S 155 a.toNat - S 153 a.toNat) (more := 0) (sg := sg) (mode := mode) hR (iNw (h := 129) (by decide) (by decide) (by decide)) (by omega) (by omega) (by omega) (by omega) (by omega) (by omega) (by omega) (hp_r.1) (hp_r.2) (⟨hi_l.1, Int.le_trans hi_l.2.1 hi_l.2.2⟩) (⟨Int.le_trans hi_l.1 hi_l.2.1, hi_l.2.2⟩) (hi_g) (Or.inl hi_f) (by rw [hx]; omega)
      rw [hx] at hrun hP
      rw [hi_f] at hrun hP
      refine i_195_68 hobj (Nat.le_of_ble_eq_true rfl) hrun ?_
      refine i_195_71 ?_
      have eo : sMove S V r.toNat a.toNat sg mode = oR (S 153 r.toNat) (S 128 17) (S 128 18) (S 128 20) sg mode 0 (V (160 + 2 * a.toNat)) (S 155 a.toNat - S 153 a.toNat) (S 128 19) := by clear hR hrun; grind [sMove, xorI]
      rw [eo]
      exact ⟨rfl, _, _, hR, oP_round hP (by omega) nS.refl (nV.up nV.refl (by omega))⟩
    · refine i_195_10 (x := 128) rfl ?_
      refine i_195_11 (x := Int32.ofInt r) rfl ?_
      refine i_195_12 (x := 128) rfl ?_
      refine i_195_13 (v := Value.ref 154) hR.c128 rfl ?_
      refine i_195_16 (x := Int32.ofInt a) rfl ?_
      refine i_195_17 (v := Value.int (Int32.ofInt (S 154 ((a).toNat)))) (hR.row a154) (ix0 (T := a) (by omega) (by omega)) (ix1 (T := a) (by omega) (by omega) (by omega)) (ra (T := a) (by omega) (by omega) rfl) ?_
      refine i_195_18 (x := 128) rfl ?_
      refine i_195_19 (v := Value.ref 154) hR.c128 rfl ?_
      refine i_195_22 (x := Int32.ofInt a) rfl ?_
      refine i_195_23 (v := Value.int (Int32.ofInt (S 154 ((a).toNat)))) (hR.row a154) (ix0 (T := a) (by omega) (by omega)) (ix1 (T := a) (by omega) (by omega) (by omega)) (ra (T := a) (by omega) (by omega) rfl) ?_
      refine i_195_24 (z_eq (a := S 154 ((a).toNat)) ⟨by omega, by omega⟩ fun c2 => ?_) (z_ne (a := S 154 ((a).toNat)) ⟨by omega, by omega⟩ fun c2 => ?_)
      · refine i_195_35 ?_
        have hobj := hR.c128
        obtain ⟨w, hrun, hR⟩ := s_special (d := d + 3) (r := r) (k := S 154 ((a).toNat)) (s := 0) hR (by omega) (by omega) (by omega)
        refine i_195_36 hobj (Nat.le_of_ble_eq_true rfl) hrun ?_
        refine i_195_39 ?_
        have eo : sMove S V r.toNat a.toNat sg mode = oS (S 154 ((a).toNat)) 0 (S 128 19) := by clear hR hrun; grind [sMove, xorI]
        rw [eo]
        exact ⟨rfl, _, _, hR, oP_special (by omega) (by omega) nS.refl nV.refl rfl⟩
      · refine i_195_27 (x := Int32.ofInt sg) rfl ?_
        refine i_195_28 (z_eq (a := sg) ⟨by omega, by omega⟩ fun c3 => ?_) (z_ne (a := sg) ⟨by omega, by omega⟩ fun c3 => ?_)
        · refine i_195_35 ?_
          have hobj := hR.c128
          obtain ⟨w, hrun, hR⟩ := s_special (d := d + 3) (r := r) (k := S 154 ((a).toNat)) (s := 0) hR (by omega) (by omega) (by omega)
          refine i_195_36 hobj (Nat.le_of_ble_eq_true rfl) hrun ?_
          refine i_195_39 ?_
          have eo : sMove S V r.toNat a.toNat sg mode = oS (S 154 ((a).toNat)) 0 (S 128 19) := by clear hR hrun; grind [sMove, xorI]
          rw [eo]
          exact ⟨rfl, _, _, hR, oP_special (by omega) (by omega) nS.refl nV.refl rfl⟩
        · refine i_195_31 ?_
          refine i_195_32 ?_
          have hobj := hR.c128
          obtain ⟨w, hrun, hR⟩ := s_special (d := d + 3) (r := r) (k := S 154 ((a).toNat)) (s := 1) hR (by omega) (by omega) (by omega)
          refine i_195_36 hobj (Nat.le_of_ble_eq_true rfl) hrun ?_
          refine i_195_39 ?_
          have eo : sMove S V r.toNat a.toNat sg mode = oS (S 154 ((a).toNat)) 1 (S 128 19) := by clear hR hrun; grind [sMove, xorI]
          rw [eo]
          exact ⟨rfl, _, _, hR, oP_special (by omega) (by omega) nS.refl nV.refl rfl⟩
  obtain ⟨o, w', h1, rfl, h2⟩ := key.run
  exact ⟨w', h1, h2⟩
set_option maxHeartbeats 8000000 in
theorem s_mul {d : Nat} {w0 w : xW} {S : Nat → Nat → Int} {V : Nat → Nat} {r a b mode : Int} (hR : mR w0 S V w) (hI : mI S V) (hr : 0 ≤ r ∧ r < 16) (ha : 0 ≤ a ∧ a < 16) (hb : 0 ≤ b ∧ b < 16) (ka : S 154 a.toNat ≠ 0) (kb : S 154 b.toNat ≠ 0) (hmo : 0 ≤ mode ∧ mode ≤ 4) : ∃ w', xRun (d + 5) 216 [Value.ref 128, Value.int (Int32.ofInt r), Value.int (Int32.ofInt a), Value.int (Int32.ofInt b), Value.int (Int32.ofInt mode)] w (.inl (some (.int (Int32.ofInt (sMul S V r.toNat a.toNat b.toNat mode).2.2.2.2.1)))) w' ∧ ∃ S' V', mR w0 S' V' w' ∧ oP S S' V V' r.toNat (sMul S V r.toNat a.toNat b.toNat mode) := by
  obtain ⟨hp_r, -⟩ := hI.1 r.toNat (by omega)
  obtain ⟨hp_a, hk_a, hn_a, ht_a, hx_a, -⟩ := hI.1 a.toNat (by omega)
  obtain ⟨hp_b, hk_b, hn_b, ht_b, hx_b, -⟩ := hI.1 b.toNat (by omega)
  have hi_l := hI.2.1
  have hi_g := hI.2.2.1
  have hi_f := hI.2.2.2
  have key : xEv (d + 5) 216 0 (lv_args 0 [Value.ref 128, Value.int (Int32.ofInt r), Value.int (Int32.ofInt a), Value.int (Int32.ofInt b), Value.int (Int32.ofInt mode)]) [] w (fun o w' => o = .inl (some (.int (Int32.ofInt (sMul S V r.toNat a.toNat b.toNat mode).2.2.2.2.1))) ∧ ∃ S' V', mR w0 S' V' w' ∧ oP S S' V V' r.toNat (sMul S V r.toNat a.toNat b.toNat mode)) := by
    refine i_216_0 (x := 128) rfl ?_
    refine i_216_1 (v := Value.ref 156) hR.c128 rfl ?_
    refine i_216_4 (x := Int32.ofInt a) rfl ?_
    refine i_216_5z (v := Value.int (Int32.ofInt (S 156 ((a).toNat)))) (hR.row a156) (ix0 (T := a) (by omega) (by omega)) (ix1 (T := a) (by omega) (by omega) (by omega)) (ra (T := a) (by omega) (by omega) rfl) ?_
    refine i_216_6 (x := 128) rfl ?_
    refine i_216_7 (v := Value.ref 156) hR.c128 rfl ?_
    refine i_216_10 (x := Int32.ofInt b) rfl ?_
    refine i_216_11z (v := Value.int (Int32.ofInt (S 156 ((b).toNat)))) (hR.row a156) (ix0 (T := b) (by omega) (by omega)) (ix1 (T := b) (by omega) (by omega) (by omega)) (ra (T := b) (by omega) (by omega) rfl) ?_
    refine i_216_12 (b_eq (a := S 156 ((a).toNat)) (b := S 156 ((b).toNat)) ⟨by omega, by omega⟩ ⟨by omega, by omega⟩ fun c0 => ?_) (b_ne (a := S 156 ((a).toNat)) (b := S 156 ((b).toNat)) ⟨by omega, by omega⟩ ⟨by omega, by omega⟩ fun c0 => ?_)
    · refine i_216_19 ?_
      refine i_216_20 (lv2 := [(5, Value.int 0), (0, Value.ref 128), (1, Value.int (Int32.ofInt r)), (2, Value.int (Int32.ofInt a)), (3, Value.int (Int32.ofInt b)), (4, Value.int (Int32.ofInt mode))]) rfl ?_
      refine i_216_22 (x := 128) rfl ?_
      refine i_216_23 (v := Value.ref 154) hR.c128 rfl ?_
      refine i_216_26 (x := Int32.ofInt a) rfl ?_
      refine i_216_27 (v := Value.int (Int32.ofInt (S 154 ((a).toNat)))) (hR.row a154) (ix0 (T := a) (by omega) (by omega)) (ix1 (T := a) (by omega) (by omega) (by omega)) (ra (T := a) (by omega) (by omega) rfl) ?_
      refine i_216_28 ?_
      refine i_216_29 (b_ne (a := S 154 ((a).toNat)) (b := 1) ⟨by omega, by omega⟩ ⟨by decide, by decide⟩ fun c1 => ?_) (b_eq (a := S 154 ((a).toNat)) (b := 1) ⟨by omega, by omega⟩ ⟨by decide, by decide⟩ fun c1 => ?_)
      · refine i_216_42 (x := 128) rfl ?_
        refine i_216_43 (v := Value.ref 154) hR.c128 rfl ?_
        refine i_216_46 (x := Int32.ofInt a) rfl ?_
        refine i_216_47 (v := Value.int (Int32.ofInt (S 154 ((a).toNat)))) (hR.row a154) (ix0 (T := a) (by omega) (by omega)) (ix1 (T := a) (by omega) (by omega) (by omega)) (ra (T := a) (by omega) (by omega) rfl) ?_
        refine i_216_48 ?_
        refine i_216_49 (b_ne (a := S 154 ((a).toNat)) (b := 2) ⟨by omega, by omega⟩ ⟨by decide, by decide⟩ fun c2 => ?_) (b_eq (a := S 154 ((a).toNat)) (b := 2) ⟨by omega, by omega⟩ ⟨by decide, by decide⟩ fun c2 => ?_)
        · refine i_216_68 (x := 128) rfl ?_
          refine i_216_69 (v := Value.ref 154) hR.c128 rfl ?_
          refine i_216_72 (x := Int32.ofInt a) rfl ?_
          refine i_216_73 (v := Value.int (Int32.ofInt (S 154 ((a).toNat)))) (hR.row a154) (ix0 (T := a) (by omega) (by omega)) (ix1 (T := a) (by omega) (by omega) (by omega)) (ra (T := a) (by omega) (by omega) rfl) ?_
          refine i_216_74 ?_
          refine i_216_75 (b_eq (a := S 154 ((a).toNat)) (b := 1) ⟨by omega, by omega⟩ ⟨by decide, by decide⟩ fun c3 => absurd c3 (by omega)) (b_ne (a := S 154 ((a).toNat)) (b := 1) ⟨by omega, by omega⟩ ⟨by decide, by decide⟩ fun c3 => ?_)
          refine i_216_78 (x := 128) rfl ?_
          refine i_216_79 (v := Value.ref 154) hR.c128 rfl ?_
          refine i_216_82 (x := Int32.ofInt b) rfl ?_
          refine i_216_83 (v := Value.int (Int32.ofInt (S 154 ((b).toNat)))) (hR.row a154) (ix0 (T := b) (by omega) (by omega)) (ix1 (T := b) (by omega) (by omega) (by omega)) (ra (T := b) (by omega) (by omega) rfl) ?_
          refine i_216_84 ?_
          refine i_216_85 (b_ne (a := S 154 ((b).toNat)) (b := 1) ⟨by omega, by omega⟩ ⟨by decide, by decide⟩ fun c4 => ?_) (b_eq (a := S 154 ((b).toNat)) (b := 1) ⟨by omega, by omega⟩ ⟨by decide, by decide⟩ fun c4 => ?_)
          · refine i_216_97 (x := 128) rfl ?_
            refine i_216_98 (v := Value.ref 154) hR.c128 rfl ?_
            refine i_216_101 (x := Int32.ofInt a) rfl ?_
            refine i_216_102 (v := Value.int (Int32.ofInt (S 154 ((a).toNat)))) (hR.row a154) (ix0 (T := a) (by omega) (by omega)) (ix1 (T := a) (by omega) (by omega) (by omega)) (ra (T := a) (by omega) (by omega) rfl) ?_
            refine i_216_103 ?_
            refine i_216_104 (b_eq (a := S 154 ((a).toNat)) (b := 2) ⟨by omega, by omega⟩ ⟨by decide, by decide⟩ fun c5 => absurd c5 (by omega)) (b_ne (a := S 154 ((a).toNat)) (b := 2) ⟨by omega, by omega⟩ ⟨by decide, by decide⟩ fun c5 => ?_)
            refine i_216_107 (x := 128) rfl ?_
            refine i_216_108 (v := Value.ref 154) hR.c128 rfl ?_
            refine i_216_111 (x := Int32.ofInt b) rfl ?_
            refine i_216_112 (v := Value.int (Int32.ofInt (S 154 ((b).toNat)))) (hR.row a154) (ix0 (T := b) (by omega) (by omega)) (ix1 (T := b) (by omega) (by omega) (by omega)) (ra (T := b) (by omega) (by omega) rfl) ?_
            refine i_216_113 ?_
            refine i_216_114 (b_ne (a := S 154 ((b).toNat)) (b := 2) ⟨by omega, by omega⟩ ⟨by decide, by decide⟩ fun c6 => ?_) (b_eq (a := S 154 ((b).toNat)) (b := 2) ⟨by omega, by omega⟩ ⟨by decide, by decide⟩ fun c6 => ?_)
            · refine i_216_126 (x := 128) rfl ?_
              refine i_216_127 (v := Value.ref 129) hR.c128 rfl ?_
              refine i_216_130 (x := 128) rfl ?_
              refine i_216_131 (v := Value.ref 157) hR.c128 rfl ?_
              refine i_216_134 (x := Int32.ofInt a) rfl ?_
              obtain ⟨gp, hgp, hgr⟩ := hR.part (j := (a).toNat) (by omega)
              refine i_216_135 (v := Value.ref (160 + 2 * a.toNat)) hgp (ix0 (by omega) (by omega)) (ix1 (by omega) (by omega) (by omega)) (by rw [ixn (by omega) (by omega)]; exact hgr) ?_
              refine i_216_136 (x := 128) rfl ?_
              refine i_216_137 (v := Value.ref 157) hR.c128 rfl ?_
              refine i_216_140 (x := Int32.ofInt b) rfl ?_
              obtain ⟨gp, hgp, hgr⟩ := hR.part (j := (b).toNat) (by omega)
              refine i_216_141 (v := Value.ref (160 + 2 * b.toNat)) hgp (ix0 (by omega) (by omega)) (ix1 (by omega) (by omega) (by omega)) (by rw [ixn (by omega) (by omega)]; exact hgr) ?_
              obtain ⟨fs, hobj⟩ := hR.obj (h := 129) (iNw (h := 129) (by decide) (by decide) (by decide))
              obtain ⟨w, hrun, hR⟩ := r_prod (d := d + 2) (v2 := V (160 + 2 * a.toNat)) (v3 := V (160 + 2 * b.toNat)) (c := 4700) hR (iNw (h := 129) (by decide) (by decide) (by decide)) (iNp (r := a) (by omega) (by omega)) (iNp (r := b) (by omega) (by omega)) (by omega) (by omega) (rfl) (rfl) rfl (by omega)
              refine i_216_142 hobj (Nat.le_of_ble_eq_true rfl) hrun ?_
              refine i_216_145 (x := 128) rfl ?_
              refine i_216_146 (x := Int32.ofInt r) rfl ?_
              refine i_216_147 (x := 128) rfl ?_
              refine i_216_148 (v := Value.ref 129) hR.c128 rfl ?_
              refine i_216_151 (x := 128) rfl ?_
              refine i_216_152 (x := Int32.ofInt a) rfl ?_
              have hobj := hR.c128
              obtain ⟨w, hrun, hR⟩ := s_exponent (d := d + 3) (r := a) hR (by omega) (by omega)
              refine i_216_153 hobj (Nat.le_of_ble_eq_true rfl) hrun ?_
              refine i_216_156 (x := 128) rfl ?_
              refine i_216_157 (x := Int32.ofInt b) rfl ?_
              have hobj := hR.c128
              obtain ⟨w, hrun, hR⟩ := s_exponent (d := d + 3) (r := b) hR (by omega) (by omega)
              refine i_216_158 hobj (Nat.le_of_ble_eq_true rfl) hrun ?_
              refine i_216_161 (c := Int32.ofInt ((S 155 a.toNat - S 153 a.toNat) + (S 155 b.toNat - S 153 b.toNat))) (o_add (S 155 a.toNat - S 153 a.toNat) (S 155 b.toNat - S 153 b.toNat)) ?_
              refine i_216_162 ?_
              refine i_216_163 (x := 0) rfl ?_
              refine i_216_165 (x := Int32.ofInt mode) rfl ?_
              have hobj := hR.c128
              have hx : (uv V 129 ((V (160 + 2 * a.toNat)) * (V (160 + 2 * b.toNat)))) 129 = (V (160 + 2 * a.toNat)) * (V (160 + 2 * b.toNat)) := uv_s
              obtain ⟨w, S8, V8, hrun, hR, hP⟩ := s_round (d := d) (h := 129) (r := r) (e := (S 155 a.toNat - S 153 a.toNat) + (S 155 b.toNat - S 153 b.toNat)) (more := 0) (sg := 0) (mode := mode) hR (iNw (h := 129) (by decide) (by decide) (by decide)) (by omega) (by omega) (by omega) (by omega) (by omega) (by omega) (by omega) (hp_r.1) (hp_r.2) (⟨hi_l.1, Int.le_trans hi_l.2.1 hi_l.2.2⟩) (⟨Int.le_trans hi_l.1 hi_l.2.1, hi_l.2.2⟩) (hi_g) (Or.inl hi_f) (by rw [hx]; exact Nat.le_trans (xbl_prod _ _) (by omega))
              rw [hx] at hrun hP
              rw [hi_f] at hrun hP
              refine i_216_167 hobj (Nat.le_of_ble_eq_true rfl) hrun ?_
              refine i_216_170 ?_
              have eo : sMul S V r.toNat a.toNat b.toNat mode = oR (S 153 r.toNat) (S 128 17) (S 128 18) (S 128 20) 0 mode 0 ((V (160 + 2 * a.toNat)) * (V (160 + 2 * b.toNat))) ((S 155 a.toNat - S 153 a.toNat) + (S 155 b.toNat - S 153 b.toNat)) (S 128 19) := by clear hR hrun; grind [sMul, xorI]
              rw [eo]
              exact ⟨rfl, _, _, hR, oP_round hP (by omega) nS.refl (nV.up nV.refl (by omega))⟩
            · refine i_216_117 (x := 128) rfl ?_
              refine i_216_118 (x := Int32.ofInt r) rfl ?_
              refine i_216_119 ?_
              refine i_216_120 (x := 0) rfl ?_
              have hobj := hR.c128
              obtain ⟨w, hrun, hR⟩ := s_special (d := d + 3) (r := r) (k := 2) (s := 0) hR (by omega) (by omega) (by omega)
              refine i_216_122 hobj (Nat.le_of_ble_eq_true rfl) hrun ?_
              refine i_216_125 ?_
              have eo : sMul S V r.toNat a.toNat b.toNat mode = oS 2 0 (S 128 19) := by clear hR hrun; grind [sMul, xorI]
              rw [eo]
              exact ⟨rfl, _, _, hR, oP_special (by omega) (by decide) nS.refl nV.refl rfl⟩
          · refine i_216_88 (x := 128) rfl ?_
            refine i_216_89 (x := Int32.ofInt r) rfl ?_
            refine i_216_90 ?_
            refine i_216_91 (x := 0) rfl ?_
            have hobj := hR.c128
            obtain ⟨w, hrun, hR⟩ := s_special (d := d + 3) (r := r) (k := 1) (s := 0) hR (by omega) (by omega) (by omega)
            refine i_216_93 hobj (Nat.le_of_ble_eq_true rfl) hrun ?_
            refine i_216_96 ?_
            have eo : sMul S V r.toNat a.toNat b.toNat mode = oS 1 0 (S 128 19) := by clear hR hrun; grind [sMul, xorI]
            rw [eo]
            exact ⟨rfl, _, _, hR, oP_special (by omega) (by decide) nS.refl nV.refl rfl⟩
        · refine i_216_52 (x := 128) rfl ?_
          refine i_216_53 (v := Value.ref 154) hR.c128 rfl ?_
          refine i_216_56 (x := Int32.ofInt b) rfl ?_
          refine i_216_57 (v := Value.int (Int32.ofInt (S 154 ((b).toNat)))) (hR.row a154) (ix0 (T := b) (by omega) (by omega)) (ix1 (T := b) (by omega) (by omega) (by omega)) (ra (T := b) (by omega) (by omega) rfl) ?_
          refine i_216_58 ?_
          refine i_216_59 (b_ne (a := S 154 ((b).toNat)) (b := 1) ⟨by omega, by omega⟩ ⟨by decide, by decide⟩ fun c8 => ?_) (b_eq (a := S 154 ((b).toNat)) (b := 1) ⟨by omega, by omega⟩ ⟨by decide, by decide⟩ fun c8 => ?_)
          · refine i_216_68 (x := 128) rfl ?_
            refine i_216_69 (v := Value.ref 154) hR.c128 rfl ?_
            refine i_216_72 (x := Int32.ofInt a) rfl ?_
            refine i_216_73 (v := Value.int (Int32.ofInt (S 154 ((a).toNat)))) (hR.row a154) (ix0 (T := a) (by omega) (by omega)) (ix1 (T := a) (by omega) (by omega) (by omega)) (ra (T := a) (by omega) (by omega) rfl) ?_
            refine i_216_74 ?_
            refine i_216_75 (b_eq (a := S 154 ((a).toNat)) (b := 1) ⟨by omega, by omega⟩ ⟨by decide, by decide⟩ fun c9 => absurd c9 (by omega)) (b_ne (a := S 154 ((a).toNat)) (b := 1) ⟨by omega, by omega⟩ ⟨by decide, by decide⟩ fun c9 => ?_)
            refine i_216_78 (x := 128) rfl ?_
            refine i_216_79 (v := Value.ref 154) hR.c128 rfl ?_
            refine i_216_82 (x := Int32.ofInt b) rfl ?_
            refine i_216_83 (v := Value.int (Int32.ofInt (S 154 ((b).toNat)))) (hR.row a154) (ix0 (T := b) (by omega) (by omega)) (ix1 (T := b) (by omega) (by omega) (by omega)) (ra (T := b) (by omega) (by omega) rfl) ?_
            refine i_216_84 ?_
            refine i_216_85 (b_ne (a := S 154 ((b).toNat)) (b := 1) ⟨by omega, by omega⟩ ⟨by decide, by decide⟩ fun c10 => ?_) (b_eq (a := S 154 ((b).toNat)) (b := 1) ⟨by omega, by omega⟩ ⟨by decide, by decide⟩ fun c10 => absurd c10 (by omega))
            refine i_216_97 (x := 128) rfl ?_
            refine i_216_98 (v := Value.ref 154) hR.c128 rfl ?_
            refine i_216_101 (x := Int32.ofInt a) rfl ?_
            refine i_216_102 (v := Value.int (Int32.ofInt (S 154 ((a).toNat)))) (hR.row a154) (ix0 (T := a) (by omega) (by omega)) (ix1 (T := a) (by omega) (by omega) (by omega)) (ra (T := a) (by omega) (by omega) rfl) ?_
            refine i_216_103 ?_
            refine i_216_104 (b_eq (a := S 154 ((a).toNat)) (b := 2) ⟨by omega, by omega⟩ ⟨by decide, by decide⟩ fun c11 => ?_) (b_ne (a := S 154 ((a).toNat)) (b := 2) ⟨by omega, by omega⟩ ⟨by decide, by decide⟩ fun c11 => absurd c11 (by omega))
            refine i_216_117 (x := 128) rfl ?_
            refine i_216_118 (x := Int32.ofInt r) rfl ?_
            refine i_216_119 ?_
            refine i_216_120 (x := 0) rfl ?_
            have hobj := hR.c128
            obtain ⟨w, hrun, hR⟩ := s_special (d := d + 3) (r := r) (k := 2) (s := 0) hR (by omega) (by omega) (by omega)
            refine i_216_122 hobj (Nat.le_of_ble_eq_true rfl) hrun ?_
            refine i_216_125 ?_
            have eo : sMul S V r.toNat a.toNat b.toNat mode = oS 2 0 (S 128 19) := by clear hR hrun; grind [sMul, xorI]
            rw [eo]
            exact ⟨rfl, _, _, hR, oP_special (by omega) (by decide) nS.refl nV.refl rfl⟩
          · refine i_216_62 (x := 128) rfl ?_
            refine i_216_63 (x := Int32.ofInt r) rfl ?_
            have hobj := hR.c128
            obtain ⟨w, hrun, hR⟩ := s_invalid (d := d + 2) (r := r) hR (by omega) (by omega)
            refine i_216_64 hobj (Nat.le_of_ble_eq_true rfl) hrun ?_
            refine i_216_67 ?_
            have eo : sMul S V r.toNat a.toNat b.toNat mode = oS 0 0 (zor (S 128 19) 8) := by clear hR hrun; grind [sMul, xorI]
            rw [eo]
            exact ⟨rfl, _, _, hR, oP_flag (by omega) (by decide) nS.refl nV.refl rfl⟩
      · refine i_216_32 (x := 128) rfl ?_
        refine i_216_33 (v := Value.ref 154) hR.c128 rfl ?_
        refine i_216_36 (x := Int32.ofInt b) rfl ?_
        refine i_216_37 (v := Value.int (Int32.ofInt (S 154 ((b).toNat)))) (hR.row a154) (ix0 (T := b) (by omega) (by omega)) (ix1 (T := b) (by omega) (by omega) (by omega)) (ra (T := b) (by omega) (by omega) rfl) ?_
        refine i_216_38 ?_
        refine i_216_39 (b_eq (a := S 154 ((b).toNat)) (b := 2) ⟨by omega, by omega⟩ ⟨by decide, by decide⟩ fun c12 => ?_) (b_ne (a := S 154 ((b).toNat)) (b := 2) ⟨by omega, by omega⟩ ⟨by decide, by decide⟩ fun c12 => ?_)
        · refine i_216_62 (x := 128) rfl ?_
          refine i_216_63 (x := Int32.ofInt r) rfl ?_
          have hobj := hR.c128
          obtain ⟨w, hrun, hR⟩ := s_invalid (d := d + 2) (r := r) hR (by omega) (by omega)
          refine i_216_64 hobj (Nat.le_of_ble_eq_true rfl) hrun ?_
          refine i_216_67 ?_
          have eo : sMul S V r.toNat a.toNat b.toNat mode = oS 0 0 (zor (S 128 19) 8) := by clear hR hrun; grind [sMul, xorI]
          rw [eo]
          exact ⟨rfl, _, _, hR, oP_flag (by omega) (by decide) nS.refl nV.refl rfl⟩
        · refine i_216_42 (x := 128) rfl ?_
          refine i_216_43 (v := Value.ref 154) hR.c128 rfl ?_
          refine i_216_46 (x := Int32.ofInt a) rfl ?_
          refine i_216_47 (v := Value.int (Int32.ofInt (S 154 ((a).toNat)))) (hR.row a154) (ix0 (T := a) (by omega) (by omega)) (ix1 (T := a) (by omega) (by omega) (by omega)) (ra (T := a) (by omega) (by omega) rfl) ?_
          refine i_216_48 ?_
          refine i_216_49 (b_ne (a := S 154 ((a).toNat)) (b := 2) ⟨by omega, by omega⟩ ⟨by decide, by decide⟩ fun c13 => ?_) (b_eq (a := S 154 ((a).toNat)) (b := 2) ⟨by omega, by omega⟩ ⟨by decide, by decide⟩ fun c13 => absurd c13 (by omega))
          refine i_216_68 (x := 128) rfl ?_
          refine i_216_69 (v := Value.ref 154) hR.c128 rfl ?_
          refine i_216_72 (x := Int32.ofInt a) rfl ?_
          refine i_216_73 (v := Value.int (Int32.ofInt (S 154 ((a).toNat)))) (hR.row a154) (ix0 (T := a) (by omega) (by omega)) (ix1 (T := a) (by omega) (by omega) (by omega)) (ra (T := a) (by omega) (by omega) rfl) ?_
          refine i_216_74 ?_
          refine i_216_75 (b_eq (a := S 154 ((a).toNat)) (b := 1) ⟨by omega, by omega⟩ ⟨by decide, by decide⟩ fun c14 => ?_) (b_ne (a := S 154 ((a).toNat)) (b := 1) ⟨by omega, by omega⟩ ⟨by decide, by decide⟩ fun c14 => absurd c14 (by omega))
          refine i_216_88 (x := 128) rfl ?_
          refine i_216_89 (x := Int32.ofInt r) rfl ?_
          refine i_216_90 ?_
          refine i_216_91 (x := 0) rfl ?_
          have hobj := hR.c128
          obtain ⟨w, hrun, hR⟩ := s_special (d := d + 3) (r := r) (k := 1) (s := 0) hR (by omega) (by omega) (by omega)
          refine i_216_93 hobj (Nat.le_of_ble_eq_true rfl) hrun ?_
          refine i_216_96 ?_
          have eo : sMul S V r.toNat a.toNat b.toNat mode = oS 1 0 (S 128 19) := by clear hR hrun; grind [sMul, xorI]
          rw [eo]
          exact ⟨rfl, _, _, hR, oP_special (by omega) (by decide) nS.refl nV.refl rfl⟩
    · refine i_216_15 ?_
      refine i_216_16 ?_
      refine i_216_20 (lv2 := [(5, Value.int 1), (0, Value.ref 128), (1, Value.int (Int32.ofInt r)), (2, Value.int (Int32.ofInt a)), (3, Value.int (Int32.ofInt b)), (4, Value.int (Int32.ofInt mode))]) rfl ?_
      refine i_216_22 (x := 128) rfl ?_
      refine i_216_23 (v := Value.ref 154) hR.c128 rfl ?_
      refine i_216_26 (x := Int32.ofInt a) rfl ?_
      refine i_216_27 (v := Value.int (Int32.ofInt (S 154 ((a).toNat)))) (hR.row a154) (ix0 (T := a) (by omega) (by omega)) (ix1 (T := a) (by omega) (by omega) (by omega)) (ra (T := a) (by omega) (by omega) rfl) ?_
      refine i_216_28 ?_
      refine i_216_29 (b_ne (a := S 154 ((a).toNat)) (b := 1) ⟨by omega, by omega⟩ ⟨by decide, by decide⟩ fun c15 => ?_) (b_eq (a := S 154 ((a).toNat)) (b := 1) ⟨by omega, by omega⟩ ⟨by decide, by decide⟩ fun c15 => ?_)
      · refine i_216_42 (x := 128) rfl ?_
        refine i_216_43 (v := Value.ref 154) hR.c128 rfl ?_
        refine i_216_46 (x := Int32.ofInt a) rfl ?_
        refine i_216_47 (v := Value.int (Int32.ofInt (S 154 ((a).toNat)))) (hR.row a154) (ix0 (T := a) (by omega) (by omega)) (ix1 (T := a) (by omega) (by omega) (by omega)) (ra (T := a) (by omega) (by omega) rfl) ?_
        refine i_216_48 ?_
        refine i_216_49 (b_ne (a := S 154 ((a).toNat)) (b := 2) ⟨by omega, by omega⟩ ⟨by decide, by decide⟩ fun c16 => ?_) (b_eq (a := S 154 ((a).toNat)) (b := 2) ⟨by omega, by omega⟩ ⟨by decide, by decide⟩ fun c16 => ?_)
        · refine i_216_68 (x := 128) rfl ?_
          refine i_216_69 (v := Value.ref 154) hR.c128 rfl ?_
          refine i_216_72 (x := Int32.ofInt a) rfl ?_
          refine i_216_73 (v := Value.int (Int32.ofInt (S 154 ((a).toNat)))) (hR.row a154) (ix0 (T := a) (by omega) (by omega)) (ix1 (T := a) (by omega) (by omega) (by omega)) (ra (T := a) (by omega) (by omega) rfl) ?_
          refine i_216_74 ?_
          refine i_216_75 (b_eq (a := S 154 ((a).toNat)) (b := 1) ⟨by omega, by omega⟩ ⟨by decide, by decide⟩ fun c17 => absurd c17 (by omega)) (b_ne (a := S 154 ((a).toNat)) (b := 1) ⟨by omega, by omega⟩ ⟨by decide, by decide⟩ fun c17 => ?_)
          refine i_216_78 (x := 128) rfl ?_
          refine i_216_79 (v := Value.ref 154) hR.c128 rfl ?_
          refine i_216_82 (x := Int32.ofInt b) rfl ?_
          refine i_216_83 (v := Value.int (Int32.ofInt (S 154 ((b).toNat)))) (hR.row a154) (ix0 (T := b) (by omega) (by omega)) (ix1 (T := b) (by omega) (by omega) (by omega)) (ra (T := b) (by omega) (by omega) rfl) ?_
          refine i_216_84 ?_
          refine i_216_85 (b_ne (a := S 154 ((b).toNat)) (b := 1) ⟨by omega, by omega⟩ ⟨by decide, by decide⟩ fun c18 => ?_) (b_eq (a := S 154 ((b).toNat)) (b := 1) ⟨by omega, by omega⟩ ⟨by decide, by decide⟩ fun c18 => ?_)
          · refine i_216_97 (x := 128) rfl ?_
            refine i_216_98 (v := Value.ref 154) hR.c128 rfl ?_
            refine i_216_101 (x := Int32.ofInt a) rfl ?_
            refine i_216_102 (v := Value.int (Int32.ofInt (S 154 ((a).toNat)))) (hR.row a154) (ix0 (T := a) (by omega) (by omega)) (ix1 (T := a) (by omega) (by omega) (by omega)) (ra (T := a) (by omega) (by omega) rfl) ?_
            refine i_216_103 ?_
            refine i_216_104 (b_eq (a := S 154 ((a).toNat)) (b := 2) ⟨by omega, by omega⟩ ⟨by decide, by decide⟩ fun c19 => absurd c19 (by omega)) (b_ne (a := S 154 ((a).toNat)) (b := 2) ⟨by omega, by omega⟩ ⟨by decide, by decide⟩ fun c19 => ?_)
            refine i_216_107 (x := 128) rfl ?_
            refine i_216_108 (v := Value.ref 154) hR.c128 rfl ?_
            refine i_216_111 (x := Int32.ofInt b) rfl ?_
            refine i_216_112 (v := Value.int (Int32.ofInt (S 154 ((b).toNat)))) (hR.row a154) (ix0 (T := b) (by omega) (by omega)) (ix1 (T := b) (by omega) (by omega) (by omega)) (ra (T := b) (by omega) (by omega) rfl) ?_
            refine i_216_113 ?_
            refine i_216_114 (b_ne (a := S 154 ((b).toNat)) (b := 2) ⟨by omega, by omega⟩ ⟨by decide, by decide⟩ fun c20 => ?_) (b_eq (a := S 154 ((b).toNat)) (b := 2) ⟨by omega, by omega⟩ ⟨by decide, by decide⟩ fun c20 => ?_)
            · refine i_216_126 (x := 128) rfl ?_
              refine i_216_127 (v := Value.ref 129) hR.c128 rfl ?_
              refine i_216_130 (x := 128) rfl ?_
              refine i_216_131 (v := Value.ref 157) hR.c128 rfl ?_
              refine i_216_134 (x := Int32.ofInt a) rfl ?_
              obtain ⟨gp, hgp, hgr⟩ := hR.part (j := (a).toNat) (by omega)
              refine i_216_135 (v := Value.ref (160 + 2 * a.toNat)) hgp (ix0 (by omega) (by omega)) (ix1 (by omega) (by omega) (by omega)) (by rw [ixn (by omega) (by omega)]; exact hgr) ?_
              refine i_216_136 (x := 128) rfl ?_
              refine i_216_137 (v := Value.ref 157) hR.c128 rfl ?_
              refine i_216_140 (x := Int32.ofInt b) rfl ?_
              obtain ⟨gp, hgp, hgr⟩ := hR.part (j := (b).toNat) (by omega)
              refine i_216_141 (v := Value.ref (160 + 2 * b.toNat)) hgp (ix0 (by omega) (by omega)) (ix1 (by omega) (by omega) (by omega)) (by rw [ixn (by omega) (by omega)]; exact hgr) ?_
              obtain ⟨fs, hobj⟩ := hR.obj (h := 129) (iNw (h := 129) (by decide) (by decide) (by decide))
              obtain ⟨w, hrun, hR⟩ := r_prod (d := d + 2) (v2 := V (160 + 2 * a.toNat)) (v3 := V (160 + 2 * b.toNat)) (c := 4700) hR (iNw (h := 129) (by decide) (by decide) (by decide)) (iNp (r := a) (by omega) (by omega)) (iNp (r := b) (by omega) (by omega)) (by omega) (by omega) (rfl) (rfl) rfl (by omega)
              refine i_216_142 hobj (Nat.le_of_ble_eq_true rfl) hrun ?_
              refine i_216_145 (x := 128) rfl ?_
              refine i_216_146 (x := Int32.ofInt r) rfl ?_
              refine i_216_147 (x := 128) rfl ?_
              refine i_216_148 (v := Value.ref 129) hR.c128 rfl ?_
              refine i_216_151 (x := 128) rfl ?_
              refine i_216_152 (x := Int32.ofInt a) rfl ?_
              have hobj := hR.c128
              obtain ⟨w, hrun, hR⟩ := s_exponent (d := d + 3) (r := a) hR (by omega) (by omega)
              refine i_216_153 hobj (Nat.le_of_ble_eq_true rfl) hrun ?_
              refine i_216_156 (x := 128) rfl ?_
              refine i_216_157 (x := Int32.ofInt b) rfl ?_
              have hobj := hR.c128
              obtain ⟨w, hrun, hR⟩ := s_exponent (d := d + 3) (r := b) hR (by omega) (by omega)
              refine i_216_158 hobj (Nat.le_of_ble_eq_true rfl) hrun ?_
              refine i_216_161 (c := Int32.ofInt ((S 155 a.toNat - S 153 a.toNat) + (S 155 b.toNat - S 153 b.toNat))) (o_add (S 155 a.toNat - S 153 a.toNat) (S 155 b.toNat - S 153 b.toNat)) ?_
              refine i_216_162 ?_
              refine i_216_163 (x := 1) rfl ?_
              refine i_216_165 (x := Int32.ofInt mode) rfl ?_
              have hobj := hR.c128
              have hx : (uv V 129 ((V (160 + 2 * a.toNat)) * (V (160 + 2 * b.toNat)))) 129 = (V (160 + 2 * a.toNat)) * (V (160 + 2 * b.toNat)) := uv_s
              obtain ⟨w, S22, V22, hrun, hR, hP⟩ := s_round (d := d) (h := 129) (r := r) (e := (S 155 a.toNat - S 153 a.toNat) + (S 155 b.toNat - S 153 b.toNat)) (more := 0) (sg := 1) (mode := mode) hR (iNw (h := 129) (by decide) (by decide) (by decide)) (by omega) (by omega) (by omega) (by omega) (by omega) (by omega) (by omega) (hp_r.1) (hp_r.2) (⟨hi_l.1, Int.le_trans hi_l.2.1 hi_l.2.2⟩) (⟨Int.le_trans hi_l.1 hi_l.2.1, hi_l.2.2⟩) (hi_g) (Or.inl hi_f) (by rw [hx]; exact Nat.le_trans (xbl_prod _ _) (by omega))
              rw [hx] at hrun hP
              rw [hi_f] at hrun hP
              refine i_216_167 hobj (Nat.le_of_ble_eq_true rfl) hrun ?_
              refine i_216_170 ?_
              have eo : sMul S V r.toNat a.toNat b.toNat mode = oR (S 153 r.toNat) (S 128 17) (S 128 18) (S 128 20) 1 mode 0 ((V (160 + 2 * a.toNat)) * (V (160 + 2 * b.toNat))) ((S 155 a.toNat - S 153 a.toNat) + (S 155 b.toNat - S 153 b.toNat)) (S 128 19) := by clear hR hrun; grind [sMul, xorI]
              rw [eo]
              exact ⟨rfl, _, _, hR, oP_round hP (by omega) nS.refl (nV.up nV.refl (by omega))⟩
            · refine i_216_117 (x := 128) rfl ?_
              refine i_216_118 (x := Int32.ofInt r) rfl ?_
              refine i_216_119 ?_
              refine i_216_120 (x := 1) rfl ?_
              have hobj := hR.c128
              obtain ⟨w, hrun, hR⟩ := s_special (d := d + 3) (r := r) (k := 2) (s := 1) hR (by omega) (by omega) (by omega)
              refine i_216_122 hobj (Nat.le_of_ble_eq_true rfl) hrun ?_
              refine i_216_125 ?_
              have eo : sMul S V r.toNat a.toNat b.toNat mode = oS 2 1 (S 128 19) := by clear hR hrun; grind [sMul, xorI]
              rw [eo]
              exact ⟨rfl, _, _, hR, oP_special (by omega) (by decide) nS.refl nV.refl rfl⟩
          · refine i_216_88 (x := 128) rfl ?_
            refine i_216_89 (x := Int32.ofInt r) rfl ?_
            refine i_216_90 ?_
            refine i_216_91 (x := 1) rfl ?_
            have hobj := hR.c128
            obtain ⟨w, hrun, hR⟩ := s_special (d := d + 3) (r := r) (k := 1) (s := 1) hR (by omega) (by omega) (by omega)
            refine i_216_93 hobj (Nat.le_of_ble_eq_true rfl) hrun ?_
            refine i_216_96 ?_
            have eo : sMul S V r.toNat a.toNat b.toNat mode = oS 1 1 (S 128 19) := by clear hR hrun; grind [sMul, xorI]
            rw [eo]
            exact ⟨rfl, _, _, hR, oP_special (by omega) (by decide) nS.refl nV.refl rfl⟩
        · refine i_216_52 (x := 128) rfl ?_
          refine i_216_53 (v := Value.ref 154) hR.c128 rfl ?_
          refine i_216_56 (x := Int32.ofInt b) rfl ?_
          refine i_216_57 (v := Value.int (Int32.ofInt (S 154 ((b).toNat)))) (hR.row a154) (ix0 (T := b) (by omega) (by omega)) (ix1 (T := b) (by omega) (by omega) (by omega)) (ra (T := b) (by omega) (by omega) rfl) ?_
          refine i_216_58 ?_
          refine i_216_59 (b_ne (a := S 154 ((b).toNat)) (b := 1) ⟨by omega, by omega⟩ ⟨by decide, by decide⟩ fun c22 => ?_) (b_eq (a := S 154 ((b).toNat)) (b := 1) ⟨by omega, by omega⟩ ⟨by decide, by decide⟩ fun c22 => ?_)
          · refine i_216_68 (x := 128) rfl ?_
            refine i_216_69 (v := Value.ref 154) hR.c128 rfl ?_
            refine i_216_72 (x := Int32.ofInt a) rfl ?_
            refine i_216_73 (v := Value.int (Int32.ofInt (S 154 ((a).toNat)))) (hR.row a154) (ix0 (T := a) (by omega) (by omega)) (ix1 (T := a) (by omega) (by omega) (by omega)) (ra (T := a) (by omega) (by omega) rfl) ?_
            refine i_216_74 ?_
            refine i_216_75 (b_eq (a := S 154 ((a).toNat)) (b := 1) ⟨by omega, by omega⟩ ⟨by decide, by decide⟩ fun c23 => absurd c23 (by omega)) (b_ne (a := S 154 ((a).toNat)) (b := 1) ⟨by omega, by omega⟩ ⟨by decide, by decide⟩ fun c23 => ?_)
            refine i_216_78 (x := 128) rfl ?_
            refine i_216_79 (v := Value.ref 154) hR.c128 rfl ?_
            refine i_216_82 (x := Int32.ofInt b) rfl ?_
            refine i_216_83 (v := Value.int (Int32.ofInt (S 154 ((b).toNat)))) (hR.row a154) (ix0 (T := b) (by omega) (by omega)) (ix1 (T := b) (by omega) (by omega) (by omega)) (ra (T := b) (by omega) (by omega) rfl) ?_
            refine i_216_84 ?_
            refine i_216_85 (b_ne (a := S 154 ((b).toNat)) (b := 1) ⟨by omega, by omega⟩ ⟨by decide, by decide⟩ fun c24 => ?_) (b_eq (a := S 154 ((b).toNat)) (b := 1) ⟨by omega, by omega⟩ ⟨by decide, by decide⟩ fun c24 => absurd c24 (by omega))
            refine i_216_97 (x := 128) rfl ?_
            refine i_216_98 (v := Value.ref 154) hR.c128 rfl ?_
            refine i_216_101 (x := Int32.ofInt a) rfl ?_
            refine i_216_102 (v := Value.int (Int32.ofInt (S 154 ((a).toNat)))) (hR.row a154) (ix0 (T := a) (by omega) (by omega)) (ix1 (T := a) (by omega) (by omega) (by omega)) (ra (T := a) (by omega) (by omega) rfl) ?_
            refine i_216_103 ?_
            refine i_216_104 (b_eq (a := S 154 ((a).toNat)) (b := 2) ⟨by omega, by omega⟩ ⟨by decide, by decide⟩ fun c25 => ?_) (b_ne (a := S 154 ((a).toNat)) (b := 2) ⟨by omega, by omega⟩ ⟨by decide, by decide⟩ fun c25 => absurd c25 (by omega))
            refine i_216_117 (x := 128) rfl ?_
            refine i_216_118 (x := Int32.ofInt r) rfl ?_
            refine i_216_119 ?_
            refine i_216_120 (x := 1) rfl ?_
            have hobj := hR.c128
            obtain ⟨w, hrun, hR⟩ := s_special (d := d + 3) (r := r) (k := 2) (s := 1) hR (by omega) (by omega) (by omega)
            refine i_216_122 hobj (Nat.le_of_ble_eq_true rfl) hrun ?_
            refine i_216_125 ?_
            have eo : sMul S V r.toNat a.toNat b.toNat mode = oS 2 1 (S 128 19) := by clear hR hrun; grind [sMul, xorI]
            rw [eo]
            exact ⟨rfl, _, _, hR, oP_special (by omega) (by decide) nS.refl nV.refl rfl⟩
          · refine i_216_62 (x := 128) rfl ?_
            refine i_216_63 (x := Int32.ofInt r) rfl ?_
            have hobj := hR.c128
            obtain ⟨w, hrun, hR⟩ := s_invalid (d := d + 2) (r := r) hR (by omega) (by omega)
            refine i_216_64 hobj (Nat.le_of_ble_eq_true rfl) hrun ?_
            refine i_216_67 ?_
            have eo : sMul S V r.toNat a.toNat b.toNat mode = oS 0 0 (zor (S 128 19) 8) := by clear hR hrun; grind [sMul, xorI]
            rw [eo]
            exact ⟨rfl, _, _, hR, oP_flag (by omega) (by decide) nS.refl nV.refl rfl⟩
      · refine i_216_32 (x := 128) rfl ?_
        refine i_216_33 (v := Value.ref 154) hR.c128 rfl ?_
        refine i_216_36 (x := Int32.ofInt b) rfl ?_
        refine i_216_37 (v := Value.int (Int32.ofInt (S 154 ((b).toNat)))) (hR.row a154) (ix0 (T := b) (by omega) (by omega)) (ix1 (T := b) (by omega) (by omega) (by omega)) (ra (T := b) (by omega) (by omega) rfl) ?_
        refine i_216_38 ?_
        refine i_216_39 (b_eq (a := S 154 ((b).toNat)) (b := 2) ⟨by omega, by omega⟩ ⟨by decide, by decide⟩ fun c26 => ?_) (b_ne (a := S 154 ((b).toNat)) (b := 2) ⟨by omega, by omega⟩ ⟨by decide, by decide⟩ fun c26 => ?_)
        · refine i_216_62 (x := 128) rfl ?_
          refine i_216_63 (x := Int32.ofInt r) rfl ?_
          have hobj := hR.c128
          obtain ⟨w, hrun, hR⟩ := s_invalid (d := d + 2) (r := r) hR (by omega) (by omega)
          refine i_216_64 hobj (Nat.le_of_ble_eq_true rfl) hrun ?_
          refine i_216_67 ?_
          have eo : sMul S V r.toNat a.toNat b.toNat mode = oS 0 0 (zor (S 128 19) 8) := by clear hR hrun; grind [sMul, xorI]
          rw [eo]
          exact ⟨rfl, _, _, hR, oP_flag (by omega) (by decide) nS.refl nV.refl rfl⟩
        · refine i_216_42 (x := 128) rfl ?_
          refine i_216_43 (v := Value.ref 154) hR.c128 rfl ?_
          refine i_216_46 (x := Int32.ofInt a) rfl ?_
          refine i_216_47 (v := Value.int (Int32.ofInt (S 154 ((a).toNat)))) (hR.row a154) (ix0 (T := a) (by omega) (by omega)) (ix1 (T := a) (by omega) (by omega) (by omega)) (ra (T := a) (by omega) (by omega) rfl) ?_
          refine i_216_48 ?_
          refine i_216_49 (b_ne (a := S 154 ((a).toNat)) (b := 2) ⟨by omega, by omega⟩ ⟨by decide, by decide⟩ fun c27 => ?_) (b_eq (a := S 154 ((a).toNat)) (b := 2) ⟨by omega, by omega⟩ ⟨by decide, by decide⟩ fun c27 => absurd c27 (by omega))
          refine i_216_68 (x := 128) rfl ?_
          refine i_216_69 (v := Value.ref 154) hR.c128 rfl ?_
          refine i_216_72 (x := Int32.ofInt a) rfl ?_
          refine i_216_73 (v := Value.int (Int32.ofInt (S 154 ((a).toNat)))) (hR.row a154) (ix0 (T := a) (by omega) (by omega)) (ix1 (T := a) (by omega) (by omega) (by omega)) (ra (T := a) (by omega) (by omega) rfl) ?_
          refine i_216_74 ?_
          refine i_216_75 (b_eq (a := S 154 ((a).toNat)) (b := 1) ⟨by omega, by omega⟩ ⟨by decide, by decide⟩ fun c28 => ?_) (b_ne (a := S 154 ((a).toNat)) (b := 1) ⟨by omega, by omega⟩ ⟨by decide, by decide⟩ fun c28 => absurd c28 (by omega))
          refine i_216_88 (x := 128) rfl ?_
          refine i_216_89 (x := Int32.ofInt r) rfl ?_
          refine i_216_90 ?_
          refine i_216_91 (x := 1) rfl ?_
          have hobj := hR.c128
          obtain ⟨w, hrun, hR⟩ := s_special (d := d + 3) (r := r) (k := 1) (s := 1) hR (by omega) (by omega) (by omega)
          refine i_216_93 hobj (Nat.le_of_ble_eq_true rfl) hrun ?_
          refine i_216_96 ?_
          have eo : sMul S V r.toNat a.toNat b.toNat mode = oS 1 1 (S 128 19) := by clear hR hrun; grind [sMul, xorI]
          rw [eo]
          exact ⟨rfl, _, _, hR, oP_special (by omega) (by decide) nS.refl nV.refl rfl⟩
  obtain ⟨o, w', h1, rfl, h2⟩ := key.run
  exact ⟨w', h1, h2⟩
