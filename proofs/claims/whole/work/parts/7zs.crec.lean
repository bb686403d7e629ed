/-! reckon, root of the class -/
section
variable {w0 w : xW} {L Z : Nat} {S : Nat → Nat → Int} {V : Nat → Nat} {d h t r : Nat}
set_option maxHeartbeats 8000000 in
theorem x_reckon {op r a b mode : Int} (hR : cX w0 L Z S V w) (hI : cI S V) (ho : 0 ≤ op ∧ op ≤ 6) (hr : 0 ≤ r ∧ r ≤ 15) (ha : 0 ≤ a ∧ a ≤ 15) (hb : 0 ≤ b ∧ b ≤ 15) (hmo : 0 ≤ mode ∧ mode ≤ 4) : ∃ w', xRun (d + 13) 58 [Value.ref 7, Value.int (Int32.ofInt op), Value.int (Int32.ofInt r), Value.int (Int32.ofInt a), Value.int (Int32.ofInt b), Value.int (Int32.ofInt mode)] w (.inl (some (.int (Int32.ofInt (sRec (vS S) (vV V) op r.toNat a.toNat b.toNat mode).2.2.2.2.1)))) w' ∧ ∃ S' V', cX w0 L Z S' V' w' ∧ cOut S S' V V' (30 + 3 * r.toNat) (sRec (vS S) (vV V) op r.toNat a.toNat b.toNat mode) := by
  have key : ∀ lv, xld lv 0 = some (Value.ref 7) → xld lv 1 = some (Value.int (Int32.ofInt op)) → xld lv 2 = some (Value.int (Int32.ofInt r)) → xld lv 3 = some (Value.int (Int32.ofInt a)) → xld lv 4 = some (Value.int (Int32.ofInt b)) → xld lv 5 = some (Value.int (Int32.ofInt mode)) → xEv (d + 13) 58 0 lv [] w (fun o w' => o = .inl (some (.int (Int32.ofInt (sRec (vS S) (vV V) op r.toNat a.toNat b.toNat mode).2.2.2.2.1))) ∧ ∃ S' V', cX w0 L Z S' V' w' ∧ cOut S S' V V' (30 + 3 * r.toNat) (sRec (vS S) (vV V) op r.toNat a.toNat b.toNat mode)) := by
    intro lv l0 l1 l2 l3 l4 l5
    obtain ⟨hp_r, hk_r, hn_r, ht_r, hx_r, hz_r⟩ := hI.1 r.toNat (by omega)
    obtain ⟨hp_a, hk_a, hn_a, ht_a, hx_a, hz_a⟩ := hI.1 a.toNat (by omega)
    obtain ⟨hp_b, hk_b, hn_b, ht_b, hx_b, hz_b⟩ := hI.1 b.toNat (by omega)
    have hi_l := hI.2.1
    have hi_g := hI.2.2.1
    refine i_58_0 (x := Int32.ofInt op) l1 ?_
    refine i_58_1 (z_lt (a := op) ⟨by omega, by omega⟩ fun c0 => ?_) (z_ge (a := op) ⟨by omega, by omega⟩ fun c0 => ?_)
    · refine i_58_40 (by omega) (Nat.le_of_ble_eq_true rfl) ?_
      exfalso; omega
    · refine i_58_4 (x := Int32.ofInt op) l1 ?_
      refine i_58_5 ?_
      refine i_58_7 (b_lt (a := 6) (b := op) ⟨by decide, by decide⟩ ⟨by omega, by omega⟩ fun c1 => ?_) (b_le (a := op) (b := 6) ⟨by omega, by omega⟩ ⟨by decide, by decide⟩ fun c1 => ?_)
      · refine i_58_40 (by omega) (Nat.le_of_ble_eq_true rfl) ?_
        exfalso; omega
      · refine i_58_10 (x := Int32.ofInt r) l2 ?_
        have hrun := x_noReg (d := d + 12) (w := w) (r := r) ⟨by omega, by omega⟩
        rw [show (decide (r < 0) || decide (16 ≤ r)) = false from by simp; omega] at hrun
        refine i_58_11 (Nat.le_of_ble_eq_true rfl) hrun ?_
        refine i_58_14 (fun c => absurd c (by decide)) (fun _ => ?_)
        refine i_58_17 (x := Int32.ofInt a) l3 ?_
        have hrun := x_noReg (d := d + 12) (w := w) (r := a) ⟨by omega, by omega⟩
        rw [show (decide (a < 0) || decide (16 ≤ a)) = false from by simp; omega] at hrun
        refine i_58_18 (Nat.le_of_ble_eq_true rfl) hrun ?_
        refine i_58_21 (fun c => absurd c (by decide)) (fun _ => ?_)
        refine i_58_24 (x := Int32.ofInt b) l4 ?_
        have hrun := x_noReg (d := d + 12) (w := w) (r := b) ⟨by omega, by omega⟩
        rw [show (decide (b < 0) || decide (16 ≤ b)) = false from by simp; omega] at hrun
        refine i_58_26 (Nat.le_of_ble_eq_true rfl) hrun ?_
        refine i_58_29 (fun c => absurd c (by decide)) (fun _ => ?_)
        refine i_58_32 (x := Int32.ofInt mode) l5 ?_
        have hrun := x_noMode (d := d + 12) (w := w) (m := mode) ⟨by omega, by omega⟩
        rw [show (decide (mode < 0) || decide (4 < mode)) = false from by simp; omega] at hrun
        refine i_58_34 (Nat.le_of_ble_eq_true rfl) hrun ?_
        refine i_58_37 (fun _ => ?_) (fun c => absurd c (by decide))
        refine i_58_48 (x := 7) l0 ?_
        refine i_58_49 (v := Value.ref 8) (hR.k0 kq_7) rfl ?_
        refine i_58_52 (x := Int32.ofInt r) l2 ?_
        obtain ⟨gr, hgr, hge⟩ := hR.regs
        refine i_58_53 (v := Value.ref (30 + 3 * r.toNat)) hgr (ix0 (T := r) (by omega) (by omega)) (ix1 (T := r) (by omega) (by omega) (by omega)) (by rw [ixn (T := r) (by omega) (by omega)]; exact hge _ (by omega)) ?_
        refine i_58_54 rfl ?_
        refine lgen1 (i := 6) (v := Value.ref (30 + 3 * r.toNat)) (fun lv lg ls => ?_)
        replace l0 := lg 0 _ rfl rfl l0
        replace l1 := lg 1 _ rfl rfl l1
        replace l2 := lg 2 _ rfl rfl l2
        replace l3 := lg 3 _ rfl rfl l3
        replace l4 := lg 4 _ rfl rfl l4
        replace l5 := lg 5 _ rfl rfl l5
        have l6 := ls
        refine i_58_56 (x := 7) l0 ?_
        refine i_58_57 (v := Value.ref 8) (hR.k0 kq_7) rfl ?_
        refine i_58_60 (x := Int32.ofInt a) l3 ?_
        obtain ⟨gr, hgr, hge⟩ := hR.regs
        refine i_58_61 (v := Value.ref (30 + 3 * a.toNat)) hgr (ix0 (T := a) (by omega) (by omega)) (ix1 (T := a) (by omega) (by omega) (by omega)) (by rw [ixn (T := a) (by omega) (by omega)]; exact hge _ (by omega)) ?_
        refine i_58_62 rfl ?_
        refine lgen1 (i := 7) (v := Value.ref (30 + 3 * a.toNat)) (fun lv lg ls => ?_)
        replace l6 := lg 6 _ rfl rfl l6
        replace l0 := lg 0 _ rfl rfl l0
        replace l1 := lg 1 _ rfl rfl l1
        replace l2 := lg 2 _ rfl rfl l2
        replace l3 := lg 3 _ rfl rfl l3
        replace l4 := lg 4 _ rfl rfl l4
        replace l5 := lg 5 _ rfl rfl l5
        have l7 := ls
        refine i_58_64 (x := 7) l0 ?_
        refine i_58_65 (v := Value.ref 8) (hR.k0 kq_7) rfl ?_
        refine i_58_68 (x := Int32.ofInt b) l4 ?_
        obtain ⟨gr, hgr, hge⟩ := hR.regs
        refine i_58_70 (v := Value.ref (30 + 3 * b.toNat)) hgr (ix0 (T := b) (by omega) (by omega)) (ix1 (T := b) (by omega) (by omega) (by omega)) (by rw [ixn (T := b) (by omega) (by omega)]; exact hge _ (by omega)) ?_
        refine i_58_71 rfl ?_
        refine lgen1 (i := 8) (v := Value.ref (30 + 3 * b.toNat)) (fun lv lg ls => ?_)
        replace l7 := lg 7 _ rfl rfl l7
        replace l6 := lg 6 _ rfl rfl l6
        replace l0 := lg 0 _ rfl rfl l0
        replace l1 := lg 1 _ rfl rfl l1
        replace l2 := lg 2 _ rfl rfl l2
        replace l3 := lg 3 _ rfl rfl l3
        replace l4 := lg 4 _ rfl rfl l4
        replace l5 := lg 5 _ rfl rfl l5
        have l8 := ls
        refine i_58_73 (x := Int32.ofInt op) l1 ?_
        rcases (show op = 0 ∨ op = 1 ∨ op = 2 ∨ op = 3 ∨ op = 4 ∨ op = 5 ∨ (op < 0 ∨ 5 < op) by omega) with e74 | e74 | e74 | e74 | e74 | e74 | e74
        · refine i_58_74_0 (by rw [oI (by omega) (by omega)]; exact e74) ?_
          refine i_58_112 (x := 7) l0 ?_
          refine i_58_113 (v := Value.ref 19) (hR.k0 kq_7) rfl ?_
          have hobj := hR.k5 kq_19
          obtain ⟨w, hrun, S3, V3, hR, hA⟩ := aT_begin (d := d + 12) hR
          refine i_58_116 hobj (Nat.le_of_ble_eq_true rfl) hrun ?_
          refine i_58_119 (x := 7) l0 ?_
          refine i_58_120 (v := Value.ref 19) (hR.k0 kq_7) rfl ?_
          refine i_58_123 (x := 30 + 3 * a.toNat) l7 ?_
          refine i_58_125 ?_
          have hobj := hR.k5 kq_19
          have hok4 := (okT_0 (n := 0))
          obtain ⟨w, hrun, S4, V4, hR, hA⟩ := aT_take (d := d + 5) (a := a) (ng := 0) hR hA hI hok4 (by omega) ⟨by omega, by omega⟩ (by omega)
          refine i_58_126 hobj (Nat.le_of_ble_eq_true rfl) hrun ?_
          refine i_58_129 (x := 7) l0 ?_
          refine i_58_130 (v := Value.ref 19) (hR.k0 kq_7) rfl ?_
          refine i_58_133 (x := 30 + 3 * b.toNat) l8 ?_
          refine i_58_135 (x := Int32.ofInt op) l1 ?_
          refine i_58_136 ?_
          refine i_58_137 (b_ne (a := op) (b := 1) ⟨by omega, by omega⟩ ⟨by decide, by decide⟩ fun c4 => ?_) (b_eq (a := op) (b := 1) ⟨by omega, by omega⟩ ⟨by decide, by decide⟩ fun c4 => absurd c4 (by omega))
          refine i_58_144 ?_
          have hobj := hR.k5 kq_19
          have hok6 := (okT_tk (k := S (30 + 3 * a.toNat) 1) (sg := xorI (S (30 + 3 * a.toNat) 2) 0) (m := V (30 + 3 * a.toNat + 1)) (sc := S (30 + 3 * a.toNat) 3 - S (30 + 3 * a.toNat) 0) (by omega) hok4 (fun _ => by omega))
          obtain ⟨w, hrun, S6, V6, hR, hA⟩ := aT_take (d := d + 5) (a := b) (ng := 0) hR hA hI hok6 (by omega) ⟨by omega, by omega⟩ (by omega)
          refine i_58_145 hobj (Nat.le_of_ble_eq_true rfl) hrun ?_
          refine i_58_148 (x := 7) l0 ?_
          refine i_58_149 (v := Value.ref 19) (hR.k0 kq_7) rfl ?_
          refine i_58_152 (x := 7) l0 ?_
          refine i_58_153 (v := Value.ref 78) (hR.k0 kq_7) rfl ?_
          refine i_58_156 (x := 30 + 3 * r.toNat) l6 ?_
          refine i_58_158 (x := Int32.ofInt mode) l5 ?_
          have hobj := hR.k5 kq_19
          have hok7 := (okT_tk (k := S (30 + 3 * b.toNat) 1) (sg := xorI (S (30 + 3 * b.toNat) 2) 0) (m := V (30 + 3 * b.toNat + 1)) (sc := S (30 + 3 * b.toNat) 3 - S (30 + 3 * b.toNat) 0) (by omega) hok6 (fun _ => by omega))
          obtain ⟨w, hrun, S7, V7, hR, hP⟩ := aT_fin (d := d + 2) (r := r) (mode := mode) hR hA hI hok7 (by omega) ⟨by omega, by omega⟩ ⟨by omega, by omega⟩
          refine i_58_160 hobj (Nat.le_of_ble_eq_true rfl) hrun ?_
          refine i_58_163 ?_
          have eo : sFinT (S (30 + 3 * r.toNat) 0) (S 78 0) (S 78 1) (S 78 2) (S 78 3) mode (tk (tk (tk0) (S (30 + 3 * a.toNat) 1) (xorI (S (30 + 3 * a.toNat) 2) 0) (V (30 + 3 * a.toNat + 1)) (S (30 + 3 * a.toNat) 3 - S (30 + 3 * a.toNat) 0)) (S (30 + 3 * b.toNat) 1) (xorI (S (30 + 3 * b.toNat) 2) 0) (V (30 + 3 * b.toNat + 1)) (S (30 + 3 * b.toNat) 3 - S (30 + 3 * b.toNat) 0)) = sRec (vS S) (vV V) op r.toNat a.toNat b.toNat mode := by
            rw [show xorI (S (30 + 3 * a.toNat) 2) 0 = S (30 + 3 * a.toNat) 2 from by unfold xorI; rcases hn_a with g | g <;> rw [g] <;> rfl, fin2 hk_a hk_b hn_a (by unfold xorI; split <;> omega)]
            simp only [sRec, sAdd, sA2, ex, vS_153, vS_154, vS_155, vS_156, vS_17, vS_18, vS_19, vS_20, vV_r]
            rw [if_neg (show ¬ op = 6 by omega), if_pos (show op = 0 by omega)]
            rfl
          rw [eo] at hrun hP ⊢
          exact ⟨rfl, _, _, hR, hP⟩
        · refine i_58_74_1 (by rw [oI (by omega) (by omega)]; exact e74) ?_
          refine i_58_112 (x := 7) l0 ?_
          refine i_58_113 (v := Value.ref 19) (hR.k0 kq_7) rfl ?_
          have hobj := hR.k5 kq_19
          obtain ⟨w, hrun, S8, V8, hR, hA⟩ := aT_begin (d := d + 12) hR
          refine i_58_116 hobj (Nat.le_of_ble_eq_true rfl) hrun ?_
          refine i_58_119 (x := 7) l0 ?_
          refine i_58_120 (v := Value.ref 19) (hR.k0 kq_7) rfl ?_
          refine i_58_123 (x := 30 + 3 * a.toNat) l7 ?_
          refine i_58_125 ?_
          have hobj := hR.k5 kq_19
          have hok9 := (okT_0 (n := 0))
          obtain ⟨w, hrun, S9, V9, hR, hA⟩ := aT_take (d := d + 5) (a := a) (ng := 0) hR hA hI hok9 (by omega) ⟨by omega, by omega⟩ (by omega)
          refine i_58_126 hobj (Nat.le_of_ble_eq_true rfl) hrun ?_
          refine i_58_129 (x := 7) l0 ?_
          refine i_58_130 (v := Value.ref 19) (hR.k0 kq_7) rfl ?_
          refine i_58_133 (x := 30 + 3 * b.toNat) l8 ?_
          refine i_58_135 (x := Int32.ofInt op) l1 ?_
          refine i_58_136 ?_
          refine i_58_137 (b_ne (a := op) (b := 1) ⟨by omega, by omega⟩ ⟨by decide, by decide⟩ fun c9 => absurd c9 (by omega)) (b_eq (a := op) (b := 1) ⟨by omega, by omega⟩ ⟨by decide, by decide⟩ fun c9 => ?_)
          refine i_58_140 ?_
          refine i_58_141 ?_
          have hobj := hR.k5 kq_19
          have hok11 := (okT_tk (k := S (30 + 3 * a.toNat) 1) (sg := xorI (S (30 + 3 * a.toNat) 2) 0) (m := V (30 + 3 * a.toNat + 1)) (sc := S (30 + 3 * a.toNat) 3 - S (30 + 3 * a.toNat) 0) (by omega) hok9 (fun _ => by omega))
          obtain ⟨w, hrun, S11, V11, hR, hA⟩ := aT_take (d := d + 5) (a := b) (ng := 1) hR hA hI hok11 (by omega) ⟨by omega, by omega⟩ (by omega)
          refine i_58_145 hobj (Nat.le_of_ble_eq_true rfl) hrun ?_
          refine i_58_148 (x := 7) l0 ?_
          refine i_58_149 (v := Value.ref 19) (hR.k0 kq_7) rfl ?_
          refine i_58_152 (x := 7) l0 ?_
          refine i_58_153 (v := Value.ref 78) (hR.k0 kq_7) rfl ?_
          refine i_58_156 (x := 30 + 3 * r.toNat) l6 ?_
          refine i_58_158 (x := Int32.ofInt mode) l5 ?_
          have hobj := hR.k5 kq_19
          have hok12 := (okT_tk (k := S (30 + 3 * b.toNat) 1) (sg := xorI (S (30 + 3 * b.toNat) 2) 1) (m := V (30 + 3 * b.toNat + 1)) (sc := S (30 + 3 * b.toNat) 3 - S (30 + 3 * b.toNat) 0) (by omega) hok11 (fun _ => by omega))
          obtain ⟨w, hrun, S12, V12, hR, hP⟩ := aT_fin (d := d + 2) (r := r) (mode := mode) hR hA hI hok12 (by omega) ⟨by omega, by omega⟩ ⟨by omega, by omega⟩
          refine i_58_160 hobj (Nat.le_of_ble_eq_true rfl) hrun ?_
          refine i_58_163 ?_
          have eo : sFinT (S (30 + 3 * r.toNat) 0) (S 78 0) (S 78 1) (S 78 2) (S 78 3) mode (tk (tk (tk0) (S (30 + 3 * a.toNat) 1) (xorI (S (30 + 3 * a.toNat) 2) 0) (V (30 + 3 * a.toNat + 1)) (S (30 + 3 * a.toNat) 3 - S (30 + 3 * a.toNat) 0)) (S (30 + 3 * b.toNat) 1) (xorI (S (30 + 3 * b.toNat) 2) 1) (V (30 + 3 * b.toNat + 1)) (S (30 + 3 * b.toNat) 3 - S (30 + 3 * b.toNat) 0)) = sRec (vS S) (vV V) op r.toNat a.toNat b.toNat mode := by
            rw [show xorI (S (30 + 3 * a.toNat) 2) 0 = S (30 + 3 * a.toNat) 2 from by unfold xorI; rcases hn_a with g | g <;> rw [g] <;> rfl, fin2 hk_a hk_b hn_a (by unfold xorI; split <;> omega)]
            simp only [sRec, sAdd, sA2, ex, vS_153, vS_154, vS_155, vS_156, vS_17, vS_18, vS_19, vS_20, vV_r]
            rw [if_neg (show ¬ op = 6 by omega), if_neg (show ¬ op = 0 by omega), if_pos (show op = 1 by omega)]
            rfl
          rw [eo] at hrun hP ⊢
          exact ⟨rfl, _, _, hR, hP⟩
        · refine i_58_74_2 (by rw [oI (by omega) (by omega)]; exact e74) ?_
          refine i_58_164 (x := 7) l0 ?_
          refine i_58_165 (v := Value.ref 93) (hR.k0 kq_7) rfl ?_
          refine i_58_168 (x := 30 + 3 * r.toNat) l6 ?_
          refine i_58_170 (x := 30 + 3 * a.toNat) l7 ?_
          refine i_58_172 (x := 30 + 3 * b.toNat) l8 ?_
          refine i_58_174 (x := Int32.ofInt mode) l5 ?_
          have hobj := hR.k8 kq_93
          obtain ⟨w, hrun, S9, V9, hR, hP⟩ := x_mul (d := d + 2) (r := r) (a := a) (b := b) (mode := mode) hR hI ⟨by omega, by omega⟩ ⟨by omega, by omega⟩ ⟨by omega, by omega⟩ ⟨by omega, by omega⟩
          refine i_58_176 hobj (Nat.le_of_ble_eq_true rfl) hrun ?_
          refine i_58_179 ?_
          have eo : sMul2 (vS S) (vV V) r.toNat a.toNat b.toNat mode = sRec (vS S) (vV V) op r.toNat a.toNat b.toNat mode := by
            unfold sRec sMul2
            rw [if_neg (show ¬ op = 6 by omega)]
            rw [if_neg (show ¬ op = 0 by omega), if_neg (show ¬ op = 1 by omega), if_pos (show op = 2 by omega)]
          rw [eo] at hrun hP ⊢
          exact ⟨rfl, _, _, hR, hP⟩
        · refine i_58_74_3 (by rw [oI (by omega) (by omega)]; exact e74) ?_
          refine i_58_180 (x := 7) l0 ?_
          refine i_58_181 (v := Value.ref 93) (hR.k0 kq_7) rfl ?_
          refine i_58_184 (x := 30 + 3 * r.toNat) l6 ?_
          refine i_58_186 (x := 30 + 3 * a.toNat) l7 ?_
          refine i_58_188 (x := 30 + 3 * b.toNat) l8 ?_
          refine i_58_190 (x := Int32.ofInt mode) l5 ?_
          have hobj := hR.k8 kq_93
          obtain ⟨w, hrun, S9, V9, hR, hP⟩ := x_div (d := d + 2) (r := r) (a := a) (b := b) (mode := mode) hR hI ⟨by omega, by omega⟩ ⟨by omega, by omega⟩ ⟨by omega, by omega⟩ ⟨by omega, by omega⟩
          refine i_58_192 hobj (Nat.le_of_ble_eq_true rfl) hrun ?_
          refine i_58_195 ?_
          have eo : sQuo2 (vS S) (vV V) r.toNat a.toNat b.toNat mode = sRec (vS S) (vV V) op r.toNat a.toNat b.toNat mode := by
            unfold sRec sQuo2
            rw [if_neg (show ¬ op = 6 by omega)]
            rw [if_neg (show ¬ op = 0 by omega), if_neg (show ¬ op = 1 by omega), if_neg (show ¬ op = 2 by omega), if_pos (show op = 3 by omega)]
          rw [eo] at hrun hP ⊢
          exact ⟨rfl, _, _, hR, hP⟩
        · refine i_58_74_4 (by rw [oI (by omega) (by omega)]; exact e74) ?_
          refine i_58_196 (x := 7) l0 ?_
          refine i_58_197 (v := Value.ref 93) (hR.k0 kq_7) rfl ?_
          refine i_58_200 (x := 30 + 3 * r.toNat) l6 ?_
          refine i_58_202 (x := 30 + 3 * a.toNat) l7 ?_
          refine i_58_204 (x := 30 + 3 * b.toNat) l8 ?_
          refine i_58_206 (x := Int32.ofInt op) l1 ?_
          refine i_58_207 ?_
          refine i_58_208 (b_ne (a := op) (b := 4) ⟨by omega, by omega⟩ ⟨by decide, by decide⟩ fun c12 => absurd c12 (by omega)) (b_eq (a := op) (b := 4) ⟨by omega, by omega⟩ ⟨by decide, by decide⟩ fun c12 => ?_)
          refine i_58_211 ?_
          refine i_58_212 ?_
          refine i_58_216 (x := Int32.ofInt mode) l5 ?_
          have hobj := hR.k8 kq_93
          obtain ⟨w, hrun, S9, V9, hR, hP⟩ := x_rem (d := d + 2) (r := r) (a := a) (b := b) (near := 1) (mode := mode) hR hI ⟨by omega, by omega⟩ ⟨by omega, by omega⟩ ⟨by omega, by omega⟩ (by omega) ⟨by omega, by omega⟩
          refine i_58_218 hobj (Nat.le_of_ble_eq_true rfl) hrun ?_
          refine i_58_221 ?_
          have eo : sRem2 (vS S) (vV V) r.toNat a.toNat b.toNat 1 mode = sRec (vS S) (vV V) op r.toNat a.toNat b.toNat mode := by
            unfold sRec sRem2
            rw [if_neg (show ¬ op = 6 by omega)]
            rw [if_neg (show ¬ op = 0 by omega), if_neg (show ¬ op = 1 by omega), if_neg (show ¬ op = 2 by omega), if_neg (show ¬ op = 3 by omega), if_pos (show op = 4 by omega)]
          rw [eo] at hrun hP ⊢
          exact ⟨rfl, _, _, hR, hP⟩
        · refine i_58_74_5 (by rw [oI (by omega) (by omega)]; exact e74) ?_
          refine i_58_196 (x := 7) l0 ?_
          refine i_58_197 (v := Value.ref 93) (hR.k0 kq_7) rfl ?_
          refine i_58_200 (x := 30 + 3 * r.toNat) l6 ?_
          refine i_58_202 (x := 30 + 3 * a.toNat) l7 ?_
          refine i_58_204 (x := 30 + 3 * b.toNat) l8 ?_
          refine i_58_206 (x := Int32.ofInt op) l1 ?_
          refine i_58_207 ?_
          refine i_58_208 (b_ne (a := op) (b := 4) ⟨by omega, by omega⟩ ⟨by decide, by decide⟩ fun c13 => ?_) (b_eq (a := op) (b := 4) ⟨by omega, by omega⟩ ⟨by decide, by decide⟩ fun c13 => absurd c13 (by omega))
          refine i_58_215 ?_
          refine i_58_216 (x := Int32.ofInt mode) l5 ?_
          have hobj := hR.k8 kq_93
          obtain ⟨w, hrun, S9, V9, hR, hP⟩ := x_rem (d := d + 2) (r := r) (a := a) (b := b) (near := 0) (mode := mode) hR hI ⟨by omega, by omega⟩ ⟨by omega, by omega⟩ ⟨by omega, by omega⟩ (by omega) ⟨by omega, by omega⟩
          refine i_58_218 hobj (Nat.le_of_ble_eq_true rfl) hrun ?_
          refine i_58_221 ?_
          have eo : sRem2 (vS S) (vV V) r.toNat a.toNat b.toNat 0 mode = sRec (vS S) (vV V) op r.toNat a.toNat b.toNat mode := by
            unfold sRec sRem2
            rw [if_neg (show ¬ op = 6 by omega)]
            rw [if_neg (show ¬ op = 0 by omega), if_neg (show ¬ op = 1 by omega), if_neg (show ¬ op = 2 by omega), if_neg (show ¬ op = 3 by omega), if_neg (show ¬ op = 4 by omega)]
          rw [eo] at hrun hP ⊢
          exact ⟨rfl, _, _, hR, hP⟩
        · refine i_58_74_d (by rw [oI (by omega) (by omega)]; exact e74) ?_
          refine i_58_222 (x := 7) l0 ?_
          refine i_58_223 (v := Value.ref 93) (hR.k0 kq_7) rfl ?_
          refine i_58_226 (x := 30 + 3 * r.toNat) l6 ?_
          refine i_58_228 (x := 30 + 3 * a.toNat) l7 ?_
          refine i_58_230 (x := 30 + 3 * b.toNat) l8 ?_
          refine i_58_232 (x := Int32.ofInt mode) l5 ?_
          have hobj := hR.k8 kq_93
          obtain ⟨w, hrun, S9, V9, hR, hP⟩ := x_hyp (d := d + 2) (r := r) (a := a) (b := b) (mode := mode) hR hI ⟨by omega, by omega⟩ ⟨by omega, by omega⟩ ⟨by omega, by omega⟩ ⟨by omega, by omega⟩
          refine i_58_234 hobj (Nat.le_of_ble_eq_true rfl) hrun ?_
          refine i_58_237 ?_
          have eo : sLen (vS S) (vV V) r.toNat a.toNat b.toNat mode = sRec (vS S) (vV V) op r.toNat a.toNat b.toNat mode := by
            unfold sRec
            rw [if_pos (by omega)]
          rw [eo] at hrun hP ⊢
          exact ⟨rfl, _, _, hR, hP⟩
  obtain ⟨o, w', h1, rfl, h2⟩ := (key (lv_args 0 [Value.ref 7, Value.int (Int32.ofInt op), Value.int (Int32.ofInt r), Value.int (Int32.ofInt a), Value.int (Int32.ofInt b), Value.int (Int32.ofInt mode)]) rfl rfl rfl rfl rfl rfl).run
  exact ⟨w', h1, h2⟩
set_option maxHeartbeats 4000000 in
theorem x_root {r a n mode : Int} (hR : cX w0 L Z S V w) (hI : cI S V) (hr : 0 ≤ r ∧ r ≤ 15) (ha : 0 ≤ a ∧ a ≤ 15) (hn : 1 ≤ n ∧ n ≤ 32) (hmo : 0 ≤ mode ∧ mode ≤ 4) : ∃ w', xRun (d + 11) 98 [Value.ref 7, Value.int (Int32.ofInt r), Value.int (Int32.ofInt a), Value.int (Int32.ofInt n), Value.int (Int32.ofInt mode)] w (.inl (some (.int (Int32.ofInt (sRoot (vS S) (vV V) r.toNat a.toNat n mode).2.2.2.2.1)))) w' ∧ ∃ S' V', cX w0 L Z S' V' w' ∧ cOut S S' V V' (30 + 3 * r.toNat) (sRoot (vS S) (vV V) r.toNat a.toNat n mode) := by
  have key : ∀ lv, xld lv 0 = some (Value.ref 7) → xld lv 1 = some (Value.int (Int32.ofInt r)) → xld lv 2 = some (Value.int (Int32.ofInt a)) → xld lv 3 = some (Value.int (Int32.ofInt n)) → xld lv 4 = some (Value.int (Int32.ofInt mode)) → xEv (d + 11) 98 0 lv [] w (fun o w' => o = .inl (some (.int (Int32.ofInt (sRoot (vS S) (vV V) r.toNat a.toNat n mode).2.2.2.2.1))) ∧ ∃ S' V', cX w0 L Z S' V' w' ∧ cOut S S' V V' (30 + 3 * r.toNat) (sRoot (vS S) (vV V) r.toNat a.toNat n mode)) := by
    intro lv l0 l1 l2 l3 l4
    obtain ⟨hp_r, hk_r, hn_r, ht_r, hx_r, hz_r⟩ := hI.1 r.toNat (by omega)
    obtain ⟨hp_a, hk_a, hn_a, ht_a, hx_a, hz_a⟩ := hI.1 a.toNat (by omega)
    have hi_l := hI.2.1
    have hi_g := hI.2.2.1
    refine i_98_0 (x := Int32.ofInt r) l1 ?_
    have hrun := x_noReg (d := d + 10) (w := w) (r := r) ⟨by omega, by omega⟩
    rw [show (decide (r < 0) || decide (16 ≤ r)) = false from by simp; omega] at hrun
    refine i_98_1 (Nat.le_of_ble_eq_true rfl) hrun ?_
    refine i_98_4 (fun c => absurd c (by decide)) (fun _ => ?_)
    refine i_98_7 (x := Int32.ofInt a) l2 ?_
    have hrun := x_noReg (d := d + 10) (w := w) (r := a) ⟨by omega, by omega⟩
    rw [show (decide (a < 0) || decide (16 ≤ a)) = false from by simp; omega] at hrun
    refine i_98_8 (Nat.le_of_ble_eq_true rfl) hrun ?_
    refine i_98_11 (fun c => absurd c (by decide)) (fun _ => ?_)
    refine i_98_14 (x := Int32.ofInt n) l3 ?_
    refine i_98_15 ?_
    refine i_98_16 (b_lt (a := n) (b := 1) ⟨by omega, by omega⟩ ⟨by decide, by decide⟩ fun c0 => ?_) (b_le (a := 1) (b := n) ⟨by decide, by decide⟩ ⟨by omega, by omega⟩ fun c0 => ?_)
    · refine i_98_33 (by omega) (Nat.le_of_ble_eq_true rfl) ?_
      exfalso; omega
    · refine i_98_19 (x := Int32.ofInt n) l3 ?_
      refine i_98_20 ?_
      refine i_98_22 (b_lt (a := 32) (b := n) ⟨by decide, by decide⟩ ⟨by omega, by omega⟩ fun c1 => ?_) (b_le (a := n) (b := 32) ⟨by omega, by omega⟩ ⟨by decide, by decide⟩ fun c1 => ?_)
      · refine i_98_33 (by omega) (Nat.le_of_ble_eq_true rfl) ?_
        exfalso; omega
      · refine i_98_25 (x := Int32.ofInt mode) l4 ?_
        have hrun := x_noMode (d := d + 10) (w := w) (m := mode) ⟨by omega, by omega⟩
        rw [show (decide (mode < 0) || decide (4 < mode)) = false from by simp; omega] at hrun
        refine i_98_27 (Nat.le_of_ble_eq_true rfl) hrun ?_
        refine i_98_30 (fun _ => ?_) (fun c => absurd c (by decide))
        refine i_98_41 (x := 7) l0 ?_
        refine i_98_42 (v := Value.ref 93) (hR.k0 kq_7) rfl ?_
        refine i_98_45 (x := 7) l0 ?_
        refine i_98_46 (v := Value.ref 8) (hR.k0 kq_7) rfl ?_
        refine i_98_49 (x := Int32.ofInt r) l1 ?_
        obtain ⟨gr, hgr, hge⟩ := hR.regs
        refine i_98_50 (v := Value.ref (30 + 3 * r.toNat)) hgr (ix0 (T := r) (by omega) (by omega)) (ix1 (T := r) (by omega) (by omega) (by omega)) (by rw [ixn (T := r) (by omega) (by omega)]; exact hge _ (by omega)) ?_
        refine i_98_51 (x := 7) l0 ?_
        refine i_98_52 (v := Value.ref 8) (hR.k0 kq_7) rfl ?_
        refine i_98_55 (x := Int32.ofInt a) l2 ?_
        obtain ⟨gr, hgr, hge⟩ := hR.regs
        refine i_98_56 (v := Value.ref (30 + 3 * a.toNat)) hgr (ix0 (T := a) (by omega) (by omega)) (ix1 (T := a) (by omega) (by omega) (by omega)) (by rw [ixn (T := a) (by omega) (by omega)]; exact hge _ (by omega)) ?_
        refine i_98_57 (x := Int32.ofInt n) l3 ?_
        refine i_98_58 (x := Int32.ofInt mode) l4 ?_
        have hobj := hR.k8 kq_93
        obtain ⟨w, hrun, S9, V9, hR, hP⟩ := x_extract (d := d) (r := r) (a := a) (n := n) (mode := mode) hR hI ⟨by omega, by omega⟩ ⟨by omega, by omega⟩ ⟨by omega, by omega⟩ ⟨by omega, by omega⟩
        refine i_98_60 hobj (Nat.le_of_ble_eq_true rfl) hrun ?_
        refine i_98_63 ?_
        exact ⟨rfl, _, _, hR, hP⟩
  obtain ⟨o, w', h1, rfl, h2⟩ := (key (lv_args 0 [Value.ref 7, Value.int (Int32.ofInt r), Value.int (Int32.ofInt a), Value.int (Int32.ofInt n), Value.int (Int32.ofInt mode)]) rfl rfl rfl rfl rfl).run
  exact ⟨w', h1, h2⟩
end
