/-! reckon of the reference, inside its checks -/
noncomputable def sRec (S : Nat → Nat → Int) (V : Nat → Nat) (op : Int) (r a b : Nat) (mode : Int) : OO :=
  if op = 6 then sLen S V r a b mode
  else if S 154 a = 0 ∨ S 154 b = 0 then oS 0 0 (S 128 19)
  else if op = 0 then sAdd S V r a b 0 mode else if op = 1 then sAdd S V r a b 1 mode else if op = 2 then sMul S V r a b mode else if op = 3 then sQuo S V r a b mode else sRem S V r a b (if op = 4 then 1 else 0) mode
set_option maxHeartbeats 8000000 in
theorem s_rec {d : Nat} {w0 w : xW} {S : Nat → Nat → Int} {V : Nat → Nat} {op r a b mode : Int} (hR : mR w0 S V w) (hI : mI S V) (ho : 0 ≤ op ∧ op ≤ 6) (hr : 0 ≤ r ∧ r ≤ 15) (ha : 0 ≤ a ∧ a ≤ 15) (hb : 0 ≤ b ∧ b ≤ 15) (hmo : 0 ≤ mode ∧ mode ≤ 4) : ∃ w', xRun (d + 9) 198 [Value.ref 128, Value.int (Int32.ofInt op), Value.int (Int32.ofInt r), Value.int (Int32.ofInt a), Value.int (Int32.ofInt b), Value.int (Int32.ofInt mode)] w (.inl (some (.int (Int32.ofInt (sRec S V op r.toNat a.toNat b.toNat mode).2.2.2.2.1)))) w' ∧ ∃ S' V', mR w0 S' V' w' ∧ oP S S' V V' r.toNat (sRec S V op r.toNat a.toNat b.toNat mode) := by
  obtain ⟨hp_r, -⟩ := hI.1 r.toNat (by omega)
  obtain ⟨hp_a, hk_a, hn_a, ht_a, hx_a, -⟩ := hI.1 a.toNat (by omega)
  obtain ⟨hp_b, hk_b, hn_b, ht_b, hx_b, -⟩ := hI.1 b.toNat (by omega)
  have hi_l := hI.2.1
  have hi_g := hI.2.2.1
  have hi_f := hI.2.2.2
  have key : xEv (d + 9) 198 0 (lv_args 0 [Value.ref 128, Value.int (Int32.ofInt op), Value.int (Int32.ofInt r), Value.int (Int32.ofInt a), Value.int (Int32.ofInt b), Value.int (Int32.ofInt mode)]) [] w (fun o w' => o = .inl (some (.int (Int32.ofInt (sRec S V op r.toNat a.toNat b.toNat mode).2.2.2.2.1))) ∧ ∃ S' V', mR w0 S' V' w' ∧ oP S S' V V' r.toNat (sRec S V op r.toNat a.toNat b.toNat mode)) := by
    refine i_198_0 (x := Int32.ofInt op) rfl ?_
    refine i_198_1 ?_
    refine i_198_2 ?_
    have hrun := s_in (d := d + 7) (w := w) (v := op) (lo := 0) (hi := 6) ⟨by omega, by omega⟩ ⟨by decide, by decide⟩ ⟨by decide, by decide⟩
    refine i_198_4 (Nat.le_of_ble_eq_true rfl) hrun ?_
    have hrun := s_ck1 (d := d + 7) (w := w) (b := (decide (0 ≤ op ∧ op ≤ 6))) (decide_eq_true (by omega))
    refine i_198_7 (Nat.le_of_ble_eq_true rfl) hrun ?_
    refine i_198_10 (x := Int32.ofInt r) rfl ?_
    have hrun := s_reg1 (d := d + 6) (w := w) (r := r) (by omega) (by omega)
    refine i_198_11 (Nat.le_of_ble_eq_true rfl) hrun ?_
    refine i_198_14 (x := Int32.ofInt a) rfl ?_
    have hrun := s_reg1 (d := d + 6) (w := w) (r := a) (by omega) (by omega)
    refine i_198_15 (Nat.le_of_ble_eq_true rfl) hrun ?_
    refine i_198_18 (x := Int32.ofInt b) rfl ?_
    have hrun := s_reg1 (d := d + 6) (w := w) (r := b) (by omega) (by omega)
    refine i_198_20 (Nat.le_of_ble_eq_true rfl) hrun ?_
    refine i_198_23 (x := Int32.ofInt mode) rfl ?_
    have hrun := s_mode1 (d := d + 6) (w := w) (r := mode) (by omega) (by omega)
    refine i_198_25 (Nat.le_of_ble_eq_true rfl) hrun ?_
    refine i_198_28 (x := Int32.ofInt op) rfl ?_
    refine i_198_29 ?_
    refine i_198_31 (b_ne (a := op) (b := 6) ⟨by omega, by omega⟩ ⟨by decide, by decide⟩ fun c0 => ?_) (b_eq (a := op) (b := 6) ⟨by omega, by omega⟩ ⟨by decide, by decide⟩ fun c0 => ?_)
    · refine i_198_45 (x := 128) rfl ?_
      refine i_198_46 (v := Value.ref 154) hR.c128 rfl ?_
      refine i_198_49 (x := Int32.ofInt a) rfl ?_
      refine i_198_50 (v := Value.int (Int32.ofInt (S 154 ((a).toNat)))) (hR.row a154) (ix0 (T := a) (by omega) (by omega)) (ix1 (T := a) (by omega) (by omega) (by omega)) (ra (T := a) (by omega) (by omega) rfl) ?_
      refine i_198_51 (z_eq (a := S 154 ((a).toNat)) ⟨by omega, by omega⟩ fun c1 => ?_) (z_ne (a := S 154 ((a).toNat)) ⟨by omega, by omega⟩ fun c1 => ?_)
      · refine i_198_64 (x := 128) rfl ?_
        refine i_198_65 (x := Int32.ofInt r) rfl ?_
        refine i_198_66 ?_
        refine i_198_67 ?_
        have hobj := hR.c128
        obtain ⟨w, hrun, hR⟩ := s_special (d := d + 7) (r := r) (k := 0) (s := 0) hR (by omega) (by omega) (by omega)
        refine i_198_68 hobj (Nat.le_of_ble_eq_true rfl) hrun ?_
        refine i_198_71 ?_
        have eo : sRec S V op r.toNat a.toNat b.toNat mode = oS 0 0 (S 128 19) := by clear hR hrun; unfold sRec; first | rw [if_pos (by omega)] | (rw [if_neg (by omega), if_pos (by omega)]; done) | (rw [if_neg (by omega), if_neg (by omega), if_pos (by omega)]; done) | (rw [if_neg (by omega), if_neg (by omega), if_neg (by omega), if_pos (by omega)]; done) | (rw [if_neg (by omega), if_neg (by omega), if_neg (by omega), if_neg (by omega), if_pos (by omega)]; done) | (rw [if_neg (by omega), if_neg (by omega), if_neg (by omega), if_neg (by omega), if_neg (by omega), if_pos (by omega)]; done) | (rw [if_neg (by omega), if_neg (by omega), if_neg (by omega), if_neg (by omega), if_neg (by omega), if_neg (by omega)]; first | rw [if_pos (by omega)] | rw [if_neg (by omega)])
        rw [eo]
        exact ⟨rfl, _, _, hR, oP_special (by omega) (by decide) nS.refl nV.refl rfl⟩
      · refine i_198_54 (x := 128) rfl ?_
        refine i_198_55 (v := Value.ref 154) hR.c128 rfl ?_
        refine i_198_58 (x := Int32.ofInt b) rfl ?_
        refine i_198_60 (v := Value.int (Int32.ofInt (S 154 ((b).toNat)))) (hR.row a154) (ix0 (T := b) (by omega) (by omega)) (ix1 (T := b) (by omega) (by omega) (by omega)) (ra (T := b) (by omega) (by omega) rfl) ?_
        refine i_198_61 (z_ne (a := S 154 ((b).toNat)) ⟨by omega, by omega⟩ fun c2 => ?_) (z_eq (a := S 154 ((b).toNat)) ⟨by omega, by omega⟩ fun c2 => ?_)
        · refine i_198_72 (x := Int32.ofInt op) rfl ?_
          rcases (show op = 0 ∨ op = 1 ∨ op = 2 ∨ op = 3 ∨ (op < 0 ∨ 3 < op) by omega) with e73 | e73 | e73 | e73 | e73
          · refine i_198_73_0 (by rw [oI (by omega) (by omega)]; exact e73) ?_
            refine i_198_104 (x := 128) rfl ?_
            refine i_198_105 (x := Int32.ofInt r) rfl ?_
            refine i_198_106 (x := Int32.ofInt a) rfl ?_
            refine i_198_107 (x := Int32.ofInt b) rfl ?_
            refine i_198_109 ?_
            refine i_198_110 (x := Int32.ofInt mode) rfl ?_
            have hobj := hR.c128
            obtain ⟨w, hrun, S2, V2, hR, hP⟩ := s_add (d := d + 2) (r := r) (a := a) (b := b) (tu := 0) (mode := mode) hR hI (by omega) (by omega) (by omega) (by omega) (by omega) (by omega) (by omega)
            refine i_198_112 hobj (Nat.le_of_ble_eq_true rfl) hrun ?_
            refine i_198_115 ?_
            have eo : sRec S V op r.toNat a.toNat b.toNat mode = sAdd S V r.toNat a.toNat b.toNat 0 mode := by clear hR hrun hP; unfold sRec; first | rw [if_pos (by omega)] | (rw [if_neg (by omega), if_pos (by omega)]; done) | (rw [if_neg (by omega), if_neg (by omega), if_pos (by omega)]; done) | (rw [if_neg (by omega), if_neg (by omega), if_neg (by omega), if_pos (by omega)]; done) | (rw [if_neg (by omega), if_neg (by omega), if_neg (by omega), if_neg (by omega), if_pos (by omega)]; done) | (rw [if_neg (by omega), if_neg (by omega), if_neg (by omega), if_neg (by omega), if_neg (by omega), if_pos (by omega)]; done) | (rw [if_neg (by omega), if_neg (by omega), if_neg (by omega), if_neg (by omega), if_neg (by omega), if_neg (by omega)]; first | rw [if_pos (by omega)] | rw [if_neg (by omega)])
            rw [eo]
            exact ⟨rfl, _, _, hR, hP⟩
          · refine i_198_73_1 (by rw [oI (by omega) (by omega)]; exact e73) ?_
            refine i_198_116 (x := 128) rfl ?_
            refine i_198_117 (x := Int32.ofInt r) rfl ?_
            refine i_198_118 (x := Int32.ofInt a) rfl ?_
            refine i_198_119 (x := Int32.ofInt b) rfl ?_
            refine i_198_121 ?_
            refine i_198_122 (x := Int32.ofInt mode) rfl ?_
            have hobj := hR.c128
            obtain ⟨w, hrun, S2, V2, hR, hP⟩ := s_add (d := d + 2) (r := r) (a := a) (b := b) (tu := 1) (mode := mode) hR hI (by omega) (by omega) (by omega) (by omega) (by omega) (by omega) (by omega)
            refine i_198_124 hobj (Nat.le_of_ble_eq_true rfl) hrun ?_
            refine i_198_127 ?_
            have eo : sRec S V op r.toNat a.toNat b.toNat mode = sAdd S V r.toNat a.toNat b.toNat 1 mode := by clear hR hrun hP; unfold sRec; first | rw [if_pos (by omega)] | (rw [if_neg (by omega), if_pos (by omega)]; done) | (rw [if_neg (by omega), if_neg (by omega), if_pos (by omega)]; done) | (rw [if_neg (by omega), if_neg (by omega), if_neg (by omega), if_pos (by omega)]; done) | (rw [if_neg (by omega), if_neg (by omega), if_neg (by omega), if_neg (by omega), if_pos (by omega)]; done) | (rw [if_neg (by omega), if_neg (by omega), if_neg (by omega), if_neg (by omega), if_neg (by omega), if_pos (by omega)]; done) | (rw [if_neg (by omega), if_neg (by omega), if_neg (by omega), if_neg (by omega), if_neg (by omega), if_neg (by omega)]; first | rw [if_pos (by omega)] | rw [if_neg (by omega)])
            rw [eo]
            exact ⟨rfl, _, _, hR, hP⟩
          · refine i_198_73_2 (by rw [oI (by omega) (by omega)]; exact e73) ?_
            refine i_198_128 (x := 128) rfl ?_
            refine i_198_129 (x := Int32.ofInt r) rfl ?_
            refine i_198_130 (x := Int32.ofInt a) rfl ?_
            refine i_198_131 (x := Int32.ofInt b) rfl ?_
            refine i_198_133 (x := Int32.ofInt mode) rfl ?_
            have hobj := hR.c128
            obtain ⟨w, hrun, S2, V2, hR, hP⟩ := s_mul (d := d + 3) (r := r) (a := a) (b := b) (mode := mode) hR hI (by omega) (by omega) (by omega) (by omega) (by omega) (by omega)
            refine i_198_135 hobj (Nat.le_of_ble_eq_true rfl) hrun ?_
            refine i_198_138 ?_
            have eo : sRec S V op r.toNat a.toNat b.toNat mode = sMul S V r.toNat a.toNat b.toNat mode := by clear hR hrun hP; unfold sRec; first | rw [if_pos (by omega)] | (rw [if_neg (by omega), if_pos (by omega)]; done) | (rw [if_neg (by omega), if_neg (by omega), if_pos (by omega)]; done) | (rw [if_neg (by omega), if_neg (by omega), if_neg (by omega), if_pos (by omega)]; done) | (rw [if_neg (by omega), if_neg (by omega), if_neg (by omega), if_neg (by omega), if_pos (by omega)]; done) | (rw [if_neg (by omega), if_neg (by omega), if_neg (by omega), if_neg (by omega), if_neg (by omega), if_pos (by omega)]; done) | (rw [if_neg (by omega), if_neg (by omega), if_neg (by omega), if_neg (by omega), if_neg (by omega), if_neg (by omega)]; first | rw [if_pos (by omega)] | rw [if_neg (by omega)])
            rw [eo]
            exact ⟨rfl, _, _, hR, hP⟩
          · refine i_198_73_3 (by rw [oI (by omega) (by omega)]; exact e73) ?_
            refine i_198_139 (x := 128) rfl ?_
            refine i_198_140 (x := Int32.ofInt r) rfl ?_
            refine i_198_141 (x := Int32.ofInt a) rfl ?_
            refine i_198_142 (x := Int32.ofInt b) rfl ?_
            refine i_198_144 (x := Int32.ofInt mode) rfl ?_
            have hobj := hR.c128
            obtain ⟨w, hrun, S2, V2, hR, hP⟩ := s_quo (d := d + 2) (r := r) (a := a) (b := b) (mode := mode) hR hI (by omega) (by omega) (by omega) (by omega) (by omega) (by omega)
            refine i_198_146 hobj (Nat.le_of_ble_eq_true rfl) hrun ?_
            refine i_198_149 ?_
            have eo : sRec S V op r.toNat a.toNat b.toNat mode = sQuo S V r.toNat a.toNat b.toNat mode := by clear hR hrun hP; unfold sRec; first | rw [if_pos (by omega)] | (rw [if_neg (by omega), if_pos (by omega)]; done) | (rw [if_neg (by omega), if_neg (by omega), if_pos (by omega)]; done) | (rw [if_neg (by omega), if_neg (by omega), if_neg (by omega), if_pos (by omega)]; done) | (rw [if_neg (by omega), if_neg (by omega), if_neg (by omega), if_neg (by omega), if_pos (by omega)]; done) | (rw [if_neg (by omega), if_neg (by omega), if_neg (by omega), if_neg (by omega), if_neg (by omega), if_pos (by omega)]; done) | (rw [if_neg (by omega), if_neg (by omega), if_neg (by omega), if_neg (by omega), if_neg (by omega), if_neg (by omega)]; first | rw [if_pos (by omega)] | rw [if_neg (by omega)])
            rw [eo]
            exact ⟨rfl, _, _, hR, hP⟩
          · refine i_198_73_d (by rw [oI (by omega) (by omega)]; exact e73) ?_
            refine i_198_150 (x := 128) rfl ?_
            refine i_198_151 (x := Int32.ofInt r) rfl ?_
            refine i_198_152 (x := Int32.ofInt a) rfl ?_
            refine i_198_153 (x := Int32.ofInt b) rfl ?_
            refine i_198_155 (x := Int32.ofInt op) rfl ?_
            refine i_198_156 ?_
            refine i_198_157 (b_ne (a := op) (b := 4) ⟨by omega, by omega⟩ ⟨by decide, by decide⟩ fun c3 => ?_) (b_eq (a := op) (b := 4) ⟨by omega, by omega⟩ ⟨by decide, by decide⟩ fun c3 => ?_)
            · refine i_198_164 ?_
              refine i_198_165 (x := Int32.ofInt mode) rfl ?_
              have hobj := hR.c128
              obtain ⟨w, hrun, S2, V2, hR, hP⟩ := s_rem (d := d + 2) (r := r) (a := a) (b := b) (ne := 0) (mode := mode) hR hI (by omega) (by omega) (by omega) (by omega) (by omega) (by omega) (by omega)
              refine i_198_167 hobj (Nat.le_of_ble_eq_true rfl) hrun ?_
              refine i_198_170 ?_
              have eo : sRec S V op r.toNat a.toNat b.toNat mode = sRem S V r.toNat a.toNat b.toNat 0 mode := by clear hR hrun hP; unfold sRec; first | rw [if_pos (by omega)] | (rw [if_neg (by omega), if_pos (by omega)]; done) | (rw [if_neg (by omega), if_neg (by omega), if_pos (by omega)]; done) | (rw [if_neg (by omega), if_neg (by omega), if_neg (by omega), if_pos (by omega)]; done) | (rw [if_neg (by omega), if_neg (by omega), if_neg (by omega), if_neg (by omega), if_pos (by omega)]; done) | (rw [if_neg (by omega), if_neg (by omega), if_neg (by omega), if_neg (by omega), if_neg (by omega), if_pos (by omega)]; done) | (rw [if_neg (by omega), if_neg (by omega), if_neg (by omega), if_neg (by omega), if_neg (by omega), if_neg (by omega)]; first | rw [if_pos (by omega)] | rw [if_neg (by omega)])
              rw [eo]
              exact ⟨rfl, _, _, hR, hP⟩
            · refine i_198_160 ?_
              refine i_198_161 ?_
              refine i_198_165 (x := Int32.ofInt mode) rfl ?_
              have hobj := hR.c128
              obtain ⟨w, hrun, S2, V2, hR, hP⟩ := s_rem (d := d + 2) (r := r) (a := a) (b := b) (ne := 1) (mode := mode) hR hI (by omega) (by omega) (by omega) (by omega) (by omega) (by omega) (by omega)
              refine i_198_167 hobj (Nat.le_of_ble_eq_true rfl) hrun ?_
              refine i_198_170 ?_
              have eo : sRec S V op r.toNat a.toNat b.toNat mode = sRem S V r.toNat a.toNat b.toNat 1 mode := by clear hR hrun hP; unfold sRec; first | rw [if_pos (by omega)] | (rw [if_neg (by omega), if_pos (by omega)]; done) | (rw [if_neg (by omega), if_neg (by omega), if_pos (by omega)]; done) | (rw [if_neg (by omega), if_neg (by omega), if_neg (by omega), if_pos (by omega)]; done) | (rw [if_neg (by omega), if_neg (by omega), if_neg (by omega), if_neg (by omega), if_pos (by omega)]; done) | (rw [if_neg (by omega), if_neg (by omega), if_neg (by omega), if_neg (by omega), if_neg (by omega), if_pos (by omega)]; done) | (rw [if_neg (by omega), if_neg (by omega), if_neg (by omega), if_neg (by omega), if_neg (by omega), if_neg (by omega)]; first | rw [if_pos (by omega)] | rw [if_neg (by omega)])
              rw [eo]
              exact ⟨rfl, _, _, hR, hP⟩
        · refine i_198_64 (x := 128) rfl ?_
          refine i_198_65 (x := Int32.ofInt r) rfl ?_
          refine i_198_66 ?_
          refine i_198_67 ?_
          have hobj := hR.c128
          obtain ⟨w, hrun, hR⟩ := s_special (d := d + 7) (r := r) (k := 0) (s := 0) hR (by omega) (by omega) (by omega)
          refine i_198_68 hobj (Nat.le_of_ble_eq_true rfl) hrun ?_
          refine i_198_71 ?_
          have eo : sRec S V op r.toNat a.toNat b.toNat mode = oS 0 0 (S 128 19) := by clear hR hrun; unfold sRec; first | rw [if_pos (by omega)] | (rw [if_neg (by omega), if_pos (by omega)]; done) | (rw [if_neg (by omega), if_neg (by omega), if_pos (by omega)]; done) | (rw [if_neg (by omega), if_neg (by omega), if_neg (by omega), if_pos (by omega)]; done) | (rw [if_neg (by omega), if_neg (by omega), if_neg (by omega), if_neg (by omega), if_pos (by omega)]; done) | (rw [if_neg (by omega), if_neg (by omega), if_neg (by omega), if_neg (by omega), if_neg (by omega), if_pos (by omega)]; done) | (rw [if_neg (by omega), if_neg (by omega), if_neg (by omega), if_neg (by omega), if_neg (by omega), if_neg (by omega)]; first | rw [if_pos (by omega)] | rw [if_neg (by omega)])
          rw [eo]
          exact ⟨rfl, _, _, hR, oP_special (by omega) (by decide) nS.refl nV.refl rfl⟩
    · refine i_198_34 (x := 128) rfl ?_
      refine i_198_35 (x := Int32.ofInt r) rfl ?_
      refine i_198_36 (x := Int32.ofInt a) rfl ?_
      refine i_198_37 (x := Int32.ofInt b) rfl ?_
      refine i_198_39 (x := Int32.ofInt mode) rfl ?_
      have hobj := hR.c128
      obtain ⟨w, hrun, S2, V2, hR, hP⟩ := s_len (d := d) (r := r) (a := a) (b := b) (mode := mode) hR hI (by omega) (by omega) (by omega) (by omega)
      refine i_198_41 hobj (Nat.le_of_ble_eq_true rfl) hrun ?_
      refine i_198_44 ?_
      have eo : sRec S V op r.toNat a.toNat b.toNat mode = sLen S V r.toNat a.toNat b.toNat mode := by clear hR hrun hP; unfold sRec; first | rw [if_pos (by omega)] | (rw [if_neg (by omega), if_pos (by omega)]; done) | (rw [if_neg (by omega), if_neg (by omega), if_pos (by omega)]; done) | (rw [if_neg (by omega), if_neg (by omega), if_neg (by omega), if_pos (by omega)]; done) | (rw [if_neg (by omega), if_neg (by omega), if_neg (by omega), if_neg (by omega), if_pos (by omega)]; done) | (rw [if_neg (by omega), if_neg (by omega), if_neg (by omega), if_neg (by omega), if_neg (by omega), if_pos (by omega)]; done) | (rw [if_neg (by omega), if_neg (by omega), if_neg (by omega), if_neg (by omega), if_neg (by omega), if_neg (by omega)]; first | rw [if_pos (by omega)] | rw [if_neg (by omega)])
      rw [eo]
      exact ⟨rfl, _, _, hR, hP⟩
  obtain ⟨o, w', h1, rfl, h2⟩ := key.run
  exact ⟨w', h1, h2⟩
theorem b_rec {d : Nat} {w : xW} {op r a b mode : Int} (b_op : -2147483648 ≤ op ∧ op < 2147483648) (b_r : -2147483648 ≤ r ∧ r < 2147483648) (b_a : -2147483648 ≤ a ∧ a < 2147483648) (b_b : -2147483648 ≤ b ∧ b < 2147483648) (b_mode : -2147483648 ≤ mode ∧ mode < 2147483648) (h : ¬ ((0 ≤ op ∧ op ≤ 6) ∧ (0 ≤ r ∧ r ≤ 15) ∧ (0 ≤ a ∧ a ≤ 15) ∧ (0 ≤ b ∧ b ≤ 15) ∧ (0 ≤ mode ∧ mode ≤ 4))) : xRun (d + 8) 198 [Value.ref 128, Value.int (Int32.ofInt op), Value.int (Int32.ofInt r), Value.int (Int32.ofInt a), Value.int (Int32.ofInt b), Value.int (Int32.ofInt mode)] w (.inr w.length) (w ++ [.inr (14, [])]) := by
  refine xRun.of ?_
  refine i_198_0 (x := Int32.ofInt op) rfl ?_
  refine i_198_1 ?_
  refine i_198_2 ?_
  have hrun := s_in (d := d + 6) (w := w) (v := op) (lo := 0) (hi := 6) ⟨by omega, by omega⟩ ⟨by decide, by decide⟩ ⟨by decide, by decide⟩
  refine i_198_4 (Nat.le_of_ble_eq_true rfl) hrun ?_
  rcases Classical.em (0 ≤ op ∧ op ≤ 6) with hc1 | hc1
  · have hrun := s_ck1 (d := d + 6) (w := w) (b := (decide (0 ≤ op ∧ op ≤ 6))) (decide_eq_true hc1)
    refine i_198_7 (Nat.le_of_ble_eq_true rfl) hrun ?_
    refine i_198_10 (x := Int32.ofInt r) rfl ?_
    rcases Classical.em (0 ≤ r ∧ r ≤ 15) with hc2 | hc2
    · have hrun := s_reg1 (d := d + 5) (w := w) (r := r) (by omega) hc2
      refine i_198_11 (Nat.le_of_ble_eq_true rfl) hrun ?_
      refine i_198_14 (x := Int32.ofInt a) rfl ?_
      rcases Classical.em (0 ≤ a ∧ a ≤ 15) with hc3 | hc3
      · have hrun := s_reg1 (d := d + 5) (w := w) (r := a) (by omega) hc3
        refine i_198_15 (Nat.le_of_ble_eq_true rfl) hrun ?_
        refine i_198_18 (x := Int32.ofInt b) rfl ?_
        rcases Classical.em (0 ≤ b ∧ b ≤ 15) with hc4 | hc4
        · have hrun := s_reg1 (d := d + 5) (w := w) (r := b) (by omega) hc4
          refine i_198_20 (Nat.le_of_ble_eq_true rfl) hrun ?_
          refine i_198_23 (x := Int32.ofInt mode) rfl ?_
          rcases Classical.em (0 ≤ mode ∧ mode ≤ 4) with hc5 | hc5
          · have hrun := s_mode1 (d := d + 5) (w := w) (r := mode) (by omega) hc5
            refine i_198_25 (Nat.le_of_ble_eq_true rfl) hrun ?_
            exfalso; omega
          · have hrun := s_mode0 (d := d) (w := w) (r := mode) (by omega) hc5
            refine j_198_25 (Nat.le_of_ble_eq_true rfl) hrun (xDone.t (ci := 14) xgl rfl rfl ?_)
            exact ⟨rfl, rfl⟩
        · have hrun := s_reg0 (d := d) (w := w) (r := b) (by omega) hc4
          refine j_198_20 (Nat.le_of_ble_eq_true rfl) hrun (xDone.t (ci := 14) xgl rfl rfl ?_)
          exact ⟨rfl, rfl⟩
      · have hrun := s_reg0 (d := d) (w := w) (r := a) (by omega) hc3
        refine j_198_15 (Nat.le_of_ble_eq_true rfl) hrun (xDone.t (ci := 14) xgl rfl rfl ?_)
        exact ⟨rfl, rfl⟩
    · have hrun := s_reg0 (d := d) (w := w) (r := r) (by omega) hc2
      refine j_198_11 (Nat.le_of_ble_eq_true rfl) hrun (xDone.t (ci := 14) xgl rfl rfl ?_)
      exact ⟨rfl, rfl⟩
  · have hrun := s_ck0 (d := d + 1) (w := w) (b := (decide (0 ≤ op ∧ op ≤ 6))) (decide_eq_false hc1)
    refine j_198_7 (Nat.le_of_ble_eq_true rfl) hrun (xDone.t (ci := 14) xgl rfl rfl ?_)
    exact ⟨rfl, rfl⟩
