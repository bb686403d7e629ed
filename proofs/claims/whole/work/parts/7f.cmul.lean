/-! copy, multiply of the class -/
def sMul2 (S : Nat → Nat → Int) (V : Nat → Nat) (r a b : Nat) (mode : Int) : OO := if S 154 a = 0 ∨ S 154 b = 0 then oS 0 0 (S 128 19) else sMul S V r a b mode
section
variable {w0 w : xW} {L Z : Nat} {S : Nat → Nat → Int} {V : Nat → Nat} {d h t r : Nat}
set_option maxHeartbeats 4000000 in
theorem x_copy {r a how mode : Int} (hR : cX w0 L Z S V w) (hI : cI S V) (hr : 0 ≤ r ∧ r ≤ 15) (ha : 0 ≤ a ∧ a ≤ 15) (hh : 0 ≤ how ∧ how ≤ 2) (hmo : 0 ≤ mode ∧ mode ≤ 4) : ∃ w', xRun (d + 12) 53 [Value.ref 7, Value.int (Int32.ofInt r), Value.int (Int32.ofInt a), Value.int (Int32.ofInt how), Value.int (Int32.ofInt mode)] w (.inl (some (.int (Int32.ofInt (sCopy (vS S) (vV V) r.toNat a.toNat how mode).2.2.2.2.1)))) w' ∧ ∃ S' V', cX w0 L Z S' V' w' ∧ cOut S S' V V' (30 + 3 * r.toNat) (sCopy (vS S) (vV V) r.toNat a.toNat how mode) := by
  have key : ∀ lv, xld lv 0 = some (Value.ref 7) → xld lv 1 = some (Value.int (Int32.ofInt r)) → xld lv 2 = some (Value.int (Int32.ofInt a)) → xld lv 3 = some (Value.int (Int32.ofInt how)) → xld lv 4 = some (Value.int (Int32.ofInt mode)) → xEv (d + 12) 53 0 lv [] w (fun o w' => o = .inl (some (.int (Int32.ofInt (sCopy (vS S) (vV V) r.toNat a.toNat how mode).2.2.2.2.1))) ∧ ∃ S' V', cX w0 L Z S' V' w' ∧ cOut S S' V V' (30 + 3 * r.toNat) (sCopy (vS S) (vV V) r.toNat a.toNat how mode)) := by
    intro lv l0 l1 l2 l3 l4
    obtain ⟨hp_r, hk_r, hn_r, ht_r, hx_r, hz_r⟩ := hI.1 r.toNat (by omega)
    obtain ⟨hp_a, hk_a, hn_a, ht_a, hx_a, hz_a⟩ := hI.1 a.toNat (by omega)
    have hi_l := hI.2.1
    have hi_g := hI.2.2.1
    refine i_53_0 (x := Int32.ofInt r) l1 ?_
    have hrun := x_noReg (d := d + 11) (w := w) (r := r) ⟨by omega, by omega⟩
    rw [show (decide (r < 0) || decide (16 ≤ r)) = false from by simp; omega] at hrun
    refine i_53_1 (Nat.le_of_ble_eq_true rfl) hrun ?_
    refine i_53_4 (fun c => absurd c (by decide)) (fun _ => ?_)
    refine i_53_7 (x := Int32.ofInt a) l2 ?_
    have hrun := x_noReg (d := d + 11) (w := w) (r := a) ⟨by omega, by omega⟩
    rw [show (decide (a < 0) || decide (16 ≤ a)) = false from by simp; omega] at hrun
    refine i_53_8 (Nat.le_of_ble_eq_true rfl) hrun ?_
    refine i_53_11 (fun c => absurd c (by decide)) (fun _ => ?_)
    refine i_53_14 (x := Int32.ofInt how) l3 ?_
    refine i_53_15 (z_lt (a := how) ⟨by omega, by omega⟩ fun c0 => ?_) (z_ge (a := how) ⟨by omega, by omega⟩ fun c0 => ?_)
    · refine i_53_31 (by omega) (Nat.le_of_ble_eq_true rfl) ?_
      exfalso; omega
    · refine i_53_18 (x := Int32.ofInt how) l3 ?_
      refine i_53_19 ?_
      refine i_53_20 (b_lt (a := 2) (b := how) ⟨by decide, by decide⟩ ⟨by omega, by omega⟩ fun c1 => ?_) (b_le (a := how) (b := 2) ⟨by omega, by omega⟩ ⟨by decide, by decide⟩ fun c1 => ?_)
      · refine i_53_31 (by omega) (Nat.le_of_ble_eq_true rfl) ?_
        exfalso; omega
      · refine i_53_23 (x := Int32.ofInt mode) l4 ?_
        have hrun := x_noMode (d := d + 11) (w := w) (m := mode) ⟨by omega, by omega⟩
        rw [show (decide (mode < 0) || decide (4 < mode)) = false from by simp; omega] at hrun
        refine i_53_25 (Nat.le_of_ble_eq_true rfl) hrun ?_
        refine i_53_28 (fun _ => ?_) (fun c => absurd c (by decide))
        refine i_53_39 (x := 7) l0 ?_
        refine i_53_40 (v := Value.ref 8) (hR.k0 kq_7) rfl ?_
        refine i_53_43 (x := Int32.ofInt a) l2 ?_
        obtain ⟨gr, hgr, hge⟩ := hR.regs
        refine i_53_44 (v := Value.ref (30 + 3 * a.toNat)) hgr (ix0 (T := a) (by omega) (by omega)) (ix1 (T := a) (by omega) (by omega) (by omega)) (by rw [ixn (T := a) (by omega) (by omega)]; exact hge _ (by omega)) ?_
        refine i_53_45 rfl ?_
        refine lgen1 (i := 5) (v := Value.ref (30 + 3 * a.toNat)) (fun lv lg ls => ?_)
        replace l0 := lg 0 _ rfl rfl l0
        replace l1 := lg 1 _ rfl rfl l1
        replace l2 := lg 2 _ rfl rfl l2
        replace l3 := lg 3 _ rfl rfl l3
        replace l4 := lg 4 _ rfl rfl l4
        have l5 := ls
        refine i_53_47 (x := Int32.ofInt how) l3 ?_
        refine i_53_48 (z_ne (a := how) ⟨by omega, by omega⟩ fun c2 => ?_) (z_eq (a := how) ⟨by omega, by omega⟩ fun c2 => ?_)
        · refine i_53_59 (x := Int32.ofInt how) l3 ?_
          refine i_53_60 ?_
          refine i_53_61 (b_ne (a := how) (b := 1) ⟨by omega, by omega⟩ ⟨by decide, by decide⟩ fun c3 => ?_) (b_eq (a := how) (b := 1) ⟨by omega, by omega⟩ ⟨by decide, by decide⟩ fun c3 => ?_)
          · refine i_53_76 ?_
            refine i_53_77 rfl ?_
            refine lgen1 (i := 6) (v := Value.int 0) (fun lv lg ls => ?_)
            replace l5 := lg 5 _ rfl rfl l5
            replace l0 := lg 0 _ rfl rfl l0
            replace l1 := lg 1 _ rfl rfl l1
            replace l2 := lg 2 _ rfl rfl l2
            replace l3 := lg 3 _ rfl rfl l3
            replace l4 := lg 4 _ rfl rfl l4
            have l6 := ls
            refine i_53_79 (x := 7) l0 ?_
            refine i_53_80 (v := Value.ref 93) (hR.k0 kq_7) rfl ?_
            refine i_53_83 (x := 7) l0 ?_
            refine i_53_84 (v := Value.ref 8) (hR.k0 kq_7) rfl ?_
            refine i_53_87 (x := Int32.ofInt r) l1 ?_
            obtain ⟨gr, hgr, hge⟩ := hR.regs
            refine i_53_88 (v := Value.ref (30 + 3 * r.toNat)) hgr (ix0 (T := r) (by omega) (by omega)) (ix1 (T := r) (by omega) (by omega) (by omega)) (by rw [ixn (T := r) (by omega) (by omega)]; exact hge _ (by omega)) ?_
            refine i_53_89 (x := 30 + 3 * a.toNat) l5 ?_
            refine i_53_91 (x := 0) l6 ?_
            refine i_53_93 (x := Int32.ofInt mode) l4 ?_
            have hobj := hR.k8 kq_93
            obtain ⟨w, hrun, S5, V5, hR, hP⟩ := x_ws (d := d + 1) (r := r) (a := a) (sg := 0) (mode := mode) hR hI ⟨by omega, by omega⟩ ⟨by omega, by omega⟩ (by omega) ⟨by omega, by omega⟩
            refine i_53_95 hobj (Nat.le_of_ble_eq_true rfl) hrun ?_
            refine i_53_98 ?_
            have eo : sCopy (vS S) (vV V) r.toNat a.toNat how mode = sMove (vS S) (vV V) r.toNat a.toNat 0 mode := by clear hR; unfold sCopy; rw [vS_156]; congr 1; first | (rw [if_pos (by omega)]; done) | (rw [if_neg (by omega), if_pos ⟨by omega, by omega⟩]; done) | (rw [if_neg (by omega), if_neg (by omega)])
            rw [eo]
            exact ⟨rfl, _, _, hR, hP⟩
          · refine i_53_64 (x := 30 + 3 * a.toNat) l5 ?_
            refine i_53_66 (v := Value.int (Int32.ofInt (S (30 + 3 * a.toNat) 2))) (hR.k2 (kd_reg (r := a.toNat) (by omega))) rfl ?_
            refine i_53_69 (z_ne (a := S (30 + 3 * a.toNat) 2) ⟨by omega, by omega⟩ fun c5 => ?_) (z_eq (a := S (30 + 3 * a.toNat) 2) ⟨by omega, by omega⟩ fun c5 => ?_)
            · refine i_53_76 ?_
              refine i_53_77 rfl ?_
              refine lgen1 (i := 6) (v := Value.int 0) (fun lv lg ls => ?_)
              replace l5 := lg 5 _ rfl rfl l5
              replace l0 := lg 0 _ rfl rfl l0
              replace l1 := lg 1 _ rfl rfl l1
              replace l2 := lg 2 _ rfl rfl l2
              replace l3 := lg 3 _ rfl rfl l3
              replace l4 := lg 4 _ rfl rfl l4
              have l6 := ls
              refine i_53_79 (x := 7) l0 ?_
              refine i_53_80 (v := Value.ref 93) (hR.k0 kq_7) rfl ?_
              refine i_53_83 (x := 7) l0 ?_
              refine i_53_84 (v := Value.ref 8) (hR.k0 kq_7) rfl ?_
              refine i_53_87 (x := Int32.ofInt r) l1 ?_
              obtain ⟨gr, hgr, hge⟩ := hR.regs
              refine i_53_88 (v := Value.ref (30 + 3 * r.toNat)) hgr (ix0 (T := r) (by omega) (by omega)) (ix1 (T := r) (by omega) (by omega) (by omega)) (by rw [ixn (T := r) (by omega) (by omega)]; exact hge _ (by omega)) ?_
              refine i_53_89 (x := 30 + 3 * a.toNat) l5 ?_
              refine i_53_91 (x := 0) l6 ?_
              refine i_53_93 (x := Int32.ofInt mode) l4 ?_
              have hobj := hR.k8 kq_93
              obtain ⟨w, hrun, S7, V7, hR, hP⟩ := x_ws (d := d + 1) (r := r) (a := a) (sg := 0) (mode := mode) hR hI ⟨by omega, by omega⟩ ⟨by omega, by omega⟩ (by omega) ⟨by omega, by omega⟩
              refine i_53_95 hobj (Nat.le_of_ble_eq_true rfl) hrun ?_
              refine i_53_98 ?_
              have eo : sCopy (vS S) (vV V) r.toNat a.toNat how mode = sMove (vS S) (vV V) r.toNat a.toNat 0 mode := by clear hR; unfold sCopy; rw [vS_156]; congr 1; first | (rw [if_pos (by omega)]; done) | (rw [if_neg (by omega), if_pos ⟨by omega, by omega⟩]; done) | (rw [if_neg (by omega), if_neg (by omega)])
              rw [eo]
              exact ⟨rfl, _, _, hR, hP⟩
            · refine i_53_72 ?_
              refine i_53_73 ?_
              refine i_53_77 rfl ?_
              refine lgen1 (i := 6) (v := Value.int 1) (fun lv lg ls => ?_)
              replace l5 := lg 5 _ rfl rfl l5
              replace l0 := lg 0 _ rfl rfl l0
              replace l1 := lg 1 _ rfl rfl l1
              replace l2 := lg 2 _ rfl rfl l2
              replace l3 := lg 3 _ rfl rfl l3
              replace l4 := lg 4 _ rfl rfl l4
              have l6 := ls
              refine i_53_79 (x := 7) l0 ?_
              refine i_53_80 (v := Value.ref 93) (hR.k0 kq_7) rfl ?_
              refine i_53_83 (x := 7) l0 ?_
              refine i_53_84 (v := Value.ref 8) (hR.k0 kq_7) rfl ?_
              refine i_53_87 (x := Int32.ofInt r) l1 ?_
              obtain ⟨gr, hgr, hge⟩ := hR.regs
              refine i_53_88 (v := Value.ref (30 + 3 * r.toNat)) hgr (ix0 (T := r) (by omega) (by omega)) (ix1 (T := r) (by omega) (by omega) (by omega)) (by rw [ixn (T := r) (by omega) (by omega)]; exact hge _ (by omega)) ?_
              refine i_53_89 (x := 30 + 3 * a.toNat) l5 ?_
              refine i_53_91 (x := 1) l6 ?_
              refine i_53_93 (x := Int32.ofInt mode) l4 ?_
              have hobj := hR.k8 kq_93
              obtain ⟨w, hrun, S8, V8, hR, hP⟩ := x_ws (d := d + 1) (r := r) (a := a) (sg := 1) (mode := mode) hR hI ⟨by omega, by omega⟩ ⟨by omega, by omega⟩ (by omega) ⟨by omega, by omega⟩
              refine i_53_95 hobj (Nat.le_of_ble_eq_true rfl) hrun ?_
              refine i_53_98 ?_
              have eo : sCopy (vS S) (vV V) r.toNat a.toNat how mode = sMove (vS S) (vV V) r.toNat a.toNat 1 mode := by clear hR; unfold sCopy; rw [vS_156]; congr 1; first | (rw [if_pos (by omega)]; done) | (rw [if_neg (by omega), if_pos ⟨by omega, by omega⟩]; done) | (rw [if_neg (by omega), if_neg (by omega)])
              rw [eo]
              exact ⟨rfl, _, _, hR, hP⟩
        · refine i_53_51 (x := 30 + 3 * a.toNat) l5 ?_
          refine i_53_53 (v := Value.int (Int32.ofInt (S (30 + 3 * a.toNat) 2))) (hR.k2 (kd_reg (r := a.toNat) (by omega))) rfl ?_
          refine i_53_56 ?_
          refine i_53_77 rfl ?_
          refine lgen1 (i := 6) (v := Value.int (Int32.ofInt (S (30 + 3 * a.toNat) 2))) (fun lv lg ls => ?_)
          replace l5 := lg 5 _ rfl rfl l5
          replace l0 := lg 0 _ rfl rfl l0
          replace l1 := lg 1 _ rfl rfl l1
          replace l2 := lg 2 _ rfl rfl l2
          replace l3 := lg 3 _ rfl rfl l3
          replace l4 := lg 4 _ rfl rfl l4
          have l6 := ls
          refine i_53_79 (x := 7) l0 ?_
          refine i_53_80 (v := Value.ref 93) (hR.k0 kq_7) rfl ?_
          refine i_53_83 (x := 7) l0 ?_
          refine i_53_84 (v := Value.ref 8) (hR.k0 kq_7) rfl ?_
          refine i_53_87 (x := Int32.ofInt r) l1 ?_
          obtain ⟨gr, hgr, hge⟩ := hR.regs
          refine i_53_88 (v := Value.ref (30 + 3 * r.toNat)) hgr (ix0 (T := r) (by omega) (by omega)) (ix1 (T := r) (by omega) (by omega) (by omega)) (by rw [ixn (T := r) (by omega) (by omega)]; exact hge _ (by omega)) ?_
          refine i_53_89 (x := 30 + 3 * a.toNat) l5 ?_
          refine i_53_91 (x := Int32.ofInt (S (30 + 3 * a.toNat) 2)) l6 ?_
          refine i_53_93 (x := Int32.ofInt mode) l4 ?_
          have hobj := hR.k8 kq_93
          obtain ⟨w, hrun, S9, V9, hR, hP⟩ := x_ws (d := d + 1) (r := r) (a := a) (sg := S (30 + 3 * a.toNat) 2) (mode := mode) hR hI ⟨by omega, by omega⟩ ⟨by omega, by omega⟩ (by omega) ⟨by omega, by omega⟩
          refine i_53_95 hobj (Nat.le_of_ble_eq_true rfl) hrun ?_
          refine i_53_98 ?_
          have eo : sCopy (vS S) (vV V) r.toNat a.toNat how mode = sMove (vS S) (vV V) r.toNat a.toNat (S (30 + 3 * a.toNat) 2) mode := by clear hR; unfold sCopy; rw [vS_156]; congr 1; first | (rw [if_pos (by omega)]; done) | (rw [if_neg (by omega), if_pos ⟨by omega, by omega⟩]; done) | (rw [if_neg (by omega), if_neg (by omega)])
          rw [eo]
          exact ⟨rfl, _, _, hR, hP⟩
  obtain ⟨o, w', h1, rfl, h2⟩ := (key (lv_args 0 [Value.ref 7, Value.int (Int32.ofInt r), Value.int (Int32.ofInt a), Value.int (Int32.ofInt how), Value.int (Int32.ofInt mode)]) rfl rfl rfl rfl rfl).run
  exact ⟨w', h1, h2⟩
set_option maxHeartbeats 8000000 in
theorem x_mul {r a b mode : Int} (hR : cX w0 L Z S V w) (hI : cI S V) (hr : 0 ≤ r ∧ r ≤ 15) (ha : 0 ≤ a ∧ a ≤ 15) (hb : 0 ≤ b ∧ b ≤ 15) (hmo : 0 ≤ mode ∧ mode ≤ 4) : ∃ w', xRun (d + 10) 68 [Value.ref 93, Value.ref (30 + 3 * r.toNat), Value.ref (30 + 3 * a.toNat), Value.ref (30 + 3 * b.toNat), Value.int (Int32.ofInt mode)] w (.inl (some (.int (Int32.ofInt (sMul2 (vS S) (vV V) r.toNat a.toNat b.toNat mode).2.2.2.2.1)))) w' ∧ ∃ S' V', cX w0 L Z S' V' w' ∧ cOut S S' V V' (30 + 3 * r.toNat) (sMul2 (vS S) (vV V) r.toNat a.toNat b.toNat mode) := by
  have key : ∀ lv, xld lv 0 = some (Value.ref 93) → xld lv 1 = some (Value.ref (30 + 3 * r.toNat)) → xld lv 2 = some (Value.ref (30 + 3 * a.toNat)) → xld lv 3 = some (Value.ref (30 + 3 * b.toNat)) → xld lv 4 = some (Value.int (Int32.ofInt mode)) → xEv (d + 10) 68 0 lv [] w (fun o w' => o = .inl (some (.int (Int32.ofInt (sMul2 (vS S) (vV V) r.toNat a.toNat b.toNat mode).2.2.2.2.1))) ∧ ∃ S' V', cX w0 L Z S' V' w' ∧ cOut S S' V V' (30 + 3 * r.toNat) (sMul2 (vS S) (vV V) r.toNat a.toNat b.toNat mode)) := by
    intro lv l0 l1 l2 l3 l4
    obtain ⟨hp_r, hk_r, hn_r, ht_r, hx_r, hz_r⟩ := hI.1 r.toNat (by omega)
    obtain ⟨hp_a, hk_a, hn_a, ht_a, hx_a, hz_a⟩ := hI.1 a.toNat (by omega)
    obtain ⟨hp_b, hk_b, hn_b, ht_b, hx_b, hz_b⟩ := hI.1 b.toNat (by omega)
    have hi_l := hI.2.1
    have hi_g := hI.2.2.1
    have hm_a : S (30 + 3 * a.toNat) 1 = 3 → V (30 + 3 * a.toNat + 1) ≠ 0 := fun e => hI.nz (by omega) e
    have hm_b : S (30 + 3 * b.toNat) 1 = 3 → V (30 + 3 * b.toNat + 1) ≠ 0 := fun e => hI.nz (by omega) e
    have tail : ∀ sg lv, sg = xorI (S (30 + 3 * a.toNat) 2) (S (30 + 3 * b.toNat) 2) → (sg = 0 ∨ sg = 1) → xld lv 0 = some (Value.ref 93) → xld lv 1 = some (Value.ref (30 + 3 * r.toNat)) → xld lv 2 = some (Value.ref (30 + 3 * a.toNat)) → xld lv 3 = some (Value.ref (30 + 3 * b.toNat)) → xld lv 4 = some (Value.int (Int32.ofInt mode)) → xEv (d + 10) 68 16 lv [.int (Int32.ofInt sg)] w (fun o w' => o = .inl (some (.int (Int32.ofInt (sMul2 (vS S) (vV V) r.toNat a.toNat b.toNat mode).2.2.2.2.1))) ∧ ∃ S' V', cX w0 L Z S' V' w' ∧ cOut S S' V V' (30 + 3 * r.toNat) (sMul2 (vS S) (vV V) r.toNat a.toNat b.toNat mode)) := by
      intro sg lv hsg hsg1 l0 l1 l2 l3 l4
      refine i_68_16 rfl ?_
      refine lgen1 (i := 5) (v := Value.int (Int32.ofInt sg)) (fun lv lg ls => ?_)
      replace l0 := lg 0 _ rfl rfl l0
      replace l1 := lg 1 _ rfl rfl l1
      replace l2 := lg 2 _ rfl rfl l2
      replace l3 := lg 3 _ rfl rfl l3
      replace l4 := lg 4 _ rfl rfl l4
      have l5 := ls
      refine i_68_18 (x := 30 + 3 * a.toNat) l2 ?_
      refine i_68_19 (v := Value.int (Int32.ofInt (S (30 + 3 * a.toNat) 1))) (hR.k2 (kd_reg (r := a.toNat) (by omega))) rfl ?_
      refine i_68_22 (z_eq (a := S (30 + 3 * a.toNat) 1) ⟨by omega, by omega⟩ fun c20 => ?_) (z_ne (a := S (30 + 3 * a.toNat) 1) ⟨by omega, by omega⟩ fun c20 => ?_)
      · refine i_68_32 (x := 30 + 3 * r.toNat) l1 ?_
        have hobj := hR.k2 (kd_reg (r := r.toNat) (by omega))
        obtain ⟨w, hrun, hR⟩ := x_nan (d := d + 8) (t := 30 + 3 * r.toNat) hR (kd_reg (r := r.toNat) (by omega))
        refine i_68_33 hobj (Nat.le_of_ble_eq_true rfl) hrun ?_
        refine i_68_36 ?_
        have eo : sMul2 (vS S) (vV V) r.toNat a.toNat b.toNat mode = oS 0 0 (S 78 3) := by clear hR; simp only [sMul2, sMul, vS_153, vS_154, vS_155, vS_156, vS_17, vS_18, vS_19, vS_20, vV_r]; grind
        rw [eo]
        exact ⟨rfl, _, _, hR, cP_special (by first | omega | exact bb_01 _) (by decide) nC.refl nW.refl rfl (by omega)⟩
      · refine i_68_25 (x := 30 + 3 * b.toNat) l3 ?_
        refine i_68_26 (v := Value.int (Int32.ofInt (S (30 + 3 * b.toNat) 1))) (hR.k2 (kd_reg (r := b.toNat) (by omega))) rfl ?_
        refine i_68_29 (z_ne (a := S (30 + 3 * b.toNat) 1) ⟨by omega, by omega⟩ fun c21 => ?_) (z_eq (a := S (30 + 3 * b.toNat) 1) ⟨by omega, by omega⟩ fun c21 => ?_)
        · refine i_68_37 (x := 30 + 3 * a.toNat) l2 ?_
          refine i_68_38 (v := Value.int (Int32.ofInt (S (30 + 3 * a.toNat) 1))) (hR.k2 (kd_reg (r := a.toNat) (by omega))) rfl ?_
          refine i_68_41 ?_
          refine i_68_42 (b_ne (a := S (30 + 3 * a.toNat) 1) (b := 2) ⟨by omega, by omega⟩ ⟨by decide, by decide⟩ fun c22 => ?_) (b_eq (a := S (30 + 3 * a.toNat) 1) (b := 2) ⟨by omega, by omega⟩ ⟨by decide, by decide⟩ fun c22 => ?_)
          · refine i_68_53 (x := 30 + 3 * a.toNat) l2 ?_
            refine i_68_54 (v := Value.int (Int32.ofInt (S (30 + 3 * a.toNat) 1))) (hR.k2 (kd_reg (r := a.toNat) (by omega))) rfl ?_
            refine i_68_57 ?_
            refine i_68_58 (b_ne (a := S (30 + 3 * a.toNat) 1) (b := 1) ⟨by omega, by omega⟩ ⟨by decide, by decide⟩ fun c23 => ?_) (b_eq (a := S (30 + 3 * a.toNat) 1) (b := 1) ⟨by omega, by omega⟩ ⟨by decide, by decide⟩ fun c23 => ?_)
            · try replace ht_a := ht_a.resolve_left (by omega)
              try replace hx_a := hx_a.resolve_left (by omega)
              refine i_68_78 (x := 30 + 3 * a.toNat) l2 ?_
              refine i_68_79 (v := Value.int (Int32.ofInt (S (30 + 3 * a.toNat) 1))) (hR.k2 (kd_reg (r := a.toNat) (by omega))) rfl ?_
              refine i_68_82 ?_
              refine i_68_83 (b_ne (a := S (30 + 3 * a.toNat) 1) (b := 3) ⟨by omega, by omega⟩ ⟨by decide, by decide⟩ fun c24 => ?_) (b_eq (a := S (30 + 3 * a.toNat) 1) (b := 3) ⟨by omega, by omega⟩ ⟨by decide, by decide⟩ fun c24 => ?_)
              · refine i_68_94 (x := 30 + 3 * a.toNat) l2 ?_
                refine i_68_95 (v := Value.int (Int32.ofInt (S (30 + 3 * a.toNat) 1))) (hR.k2 (kd_reg (r := a.toNat) (by omega))) rfl ?_
                refine i_68_98 ?_
                refine i_68_99 (b_eq (a := S (30 + 3 * a.toNat) 1) (b := 1) ⟨by omega, by omega⟩ ⟨by decide, by decide⟩ fun c25 => absurd c25 (by omega)) (b_ne (a := S (30 + 3 * a.toNat) 1) (b := 1) ⟨by omega, by omega⟩ ⟨by decide, by decide⟩ fun c25 => ?_)
                refine i_68_102 (x := 30 + 3 * b.toNat) l3 ?_
                refine i_68_103 (v := Value.int (Int32.ofInt (S (30 + 3 * b.toNat) 1))) (hR.k2 (kd_reg (r := b.toNat) (by omega))) rfl ?_
                refine i_68_106 ?_
                refine i_68_107 (b_ne (a := S (30 + 3 * b.toNat) 1) (b := 1) ⟨by omega, by omega⟩ ⟨by decide, by decide⟩ fun c26 => ?_) (b_eq (a := S (30 + 3 * b.toNat) 1) (b := 1) ⟨by omega, by omega⟩ ⟨by decide, by decide⟩ fun c26 => ?_)
                · refine i_68_114 ?_
                  refine i_68_115 rfl ?_
                  refine lgen1 (i := 6) (v := Value.int 0) (fun lv lg ls => ?_)
                  replace l5 := lg 5 _ rfl rfl l5
                  replace l0 := lg 0 _ rfl rfl l0
                  replace l1 := lg 1 _ rfl rfl l1
                  replace l2 := lg 2 _ rfl rfl l2
                  replace l3 := lg 3 _ rfl rfl l3
                  replace l4 := lg 4 _ rfl rfl l4
                  have l6 := ls
                  refine i_68_117 (x := 30 + 3 * r.toNat) l1 ?_
                  refine i_68_118 (x := 0) l6 ?_
                  refine i_68_120 (fun _ => ?_) (fun c => absurd c (by decide))
                  refine i_68_127 ?_
                  refine i_68_128 (x := Int32.ofInt sg) l5 ?_
                  have hobj := hR.k2 (kd_reg (r := r.toNat) (by omega))
                  obtain ⟨w, hrun, hR⟩ := x_spec (d := d + 9) (t := 30 + 3 * r.toNat) (which := 2) (sg := sg) hR (kd_reg (r := r.toNat) (by omega)) (by first | omega | exact bb_01 _)
                  refine i_68_130 hobj (Nat.le_of_ble_eq_true rfl) hrun ?_
                  refine i_68_133 ?_
                  have eo : sMul2 (vS S) (vV V) r.toNat a.toNat b.toNat mode = oS 2 sg (S 78 3) := by clear hR; simp only [sMul2, sMul, vS_153, vS_154, vS_155, vS_156, vS_17, vS_18, vS_19, vS_20, vV_r]; grind
                  rw [eo]
                  exact ⟨rfl, _, _, hR, cP_special (by first | omega | exact bb_01 _) (by decide) nC.refl nW.refl rfl (by omega)⟩
                · refine i_68_110 ?_
                  refine i_68_111 ?_
                  refine i_68_115 rfl ?_
                  refine lgen1 (i := 6) (v := Value.int 1) (fun lv lg ls => ?_)
                  replace l5 := lg 5 _ rfl rfl l5
                  replace l0 := lg 0 _ rfl rfl l0
                  replace l1 := lg 1 _ rfl rfl l1
                  replace l2 := lg 2 _ rfl rfl l2
                  replace l3 := lg 3 _ rfl rfl l3
                  replace l4 := lg 4 _ rfl rfl l4
                  have l6 := ls
                  refine i_68_117 (x := 30 + 3 * r.toNat) l1 ?_
                  refine i_68_118 (x := 1) l6 ?_
                  refine i_68_120 (fun c => absurd c (by decide)) (fun _ => ?_)
                  refine i_68_123 ?_
                  refine i_68_124 ?_
                  refine i_68_128 (x := Int32.ofInt sg) l5 ?_
                  have hobj := hR.k2 (kd_reg (r := r.toNat) (by omega))
                  obtain ⟨w, hrun, hR⟩ := x_spec (d := d + 9) (t := 30 + 3 * r.toNat) (which := 1) (sg := sg) hR (kd_reg (r := r.toNat) (by omega)) (by first | omega | exact bb_01 _)
                  refine i_68_130 hobj (Nat.le_of_ble_eq_true rfl) hrun ?_
                  refine i_68_133 ?_
                  have eo : sMul2 (vS S) (vV V) r.toNat a.toNat b.toNat mode = oS 1 sg (S 78 3) := by clear hR; simp only [sMul2, sMul, vS_153, vS_154, vS_155, vS_156, vS_17, vS_18, vS_19, vS_20, vV_r]; grind
                  rw [eo]
                  exact ⟨rfl, _, _, hR, cP_special (by first | omega | exact bb_01 _) (by decide) nC.refl nW.refl rfl (by omega)⟩
              · refine i_68_86 (x := 30 + 3 * b.toNat) l3 ?_
                refine i_68_87 (v := Value.int (Int32.ofInt (S (30 + 3 * b.toNat) 1))) (hR.k2 (kd_reg (r := b.toNat) (by omega))) rfl ?_
                refine i_68_90 ?_
                refine i_68_91 (b_eq (a := S (30 + 3 * b.toNat) 1) (b := 3) ⟨by omega, by omega⟩ ⟨by decide, by decide⟩ fun c27 => ?_) (b_ne (a := S (30 + 3 * b.toNat) 1) (b := 3) ⟨by omega, by omega⟩ ⟨by decide, by decide⟩ fun c27 => ?_)
                · try replace ht_b := ht_b.resolve_left (by omega)
                  try replace hx_b := hx_b.resolve_left (by omega)
                  refine i_68_134 (x := 93) l0 ?_
                  refine i_68_135 (v := Value.ref 94) (hR.k8 kq_93) rfl ?_
                  refine i_68_138 (x := Int32.ofInt sg) l5 ?_
                  refine i_68_140 (fs2 := f4 94 (u1 (S 94) 0 sg)) (hR.k4 kq_94) (o_bool (by omega)) (Nat.le_of_ble_eq_true rfl) rfl (h7k kq_94 (by decide)) ?_
                  refine xgen (P := cX w0 L Z (u2 S 94 0 sg) V) (hR.p4 kq_94) (fun w hR => ?_)
                  refine i_68_143 (x := 93) l0 ?_
                  refine i_68_144 (v := Value.ref 94) (hR.k8 kq_93) rfl ?_
                  refine i_68_147 (v := Value.ref 95) (hR.k4 kq_94) rfl ?_
                  refine i_68_150 (x := 30 + 3 * a.toNat) l2 ?_
                  refine i_68_151 (v := Value.ref ((30 + 3 * a.toNat) + 1)) (hR.k2 (kd_reg (r := a.toNat) (by omega))) rfl ?_
                  refine i_68_154 (x := 30 + 3 * b.toNat) l3 ?_
                  refine i_68_155 (v := Value.ref ((30 + 3 * b.toNat) + 1)) (hR.k2 (kd_reg (r := b.toNat) (by omega))) rfl ?_
                  obtain ⟨fs, hobj⟩ := hR.nat kq_95
                  obtain ⟨w, hrun, hR⟩ := X_prod (d := d + 6) (h := 95) (ha := (30 + 3 * a.toNat) + 1) (hb := (30 + 3 * b.toNat) + 1) (u := V ((30 + 3 * a.toNat) + 1)) (v2 := V ((30 + 3 * b.toNat) + 1)) hR kq_95 (kd_rem (r := a.toNat) (by omega)) (kd_rem (r := b.toNat) (by omega)) (by omega) (by omega) (rfl) (rfl) (by omega)
                  refine i_68_158 hobj (Nat.le_of_ble_eq_true rfl) hrun ?_
                  refine i_68_161 (x := 93) l0 ?_
                  refine i_68_162 (v := Value.ref 94) (hR.k8 kq_93) rfl ?_
                  refine i_68_165 (x := 30 + 3 * a.toNat) l2 ?_
                  refine i_68_166 (v := Value.int (Int32.ofInt ((u2 S 94 0 sg) (30 + 3 * a.toNat) 3))) (hR.k2 (kd_reg (r := a.toNat) (by omega))) rfl ?_
                  rw [show Int32.ofInt ((u2 S 94 0 sg) (30 + 3 * a.toNat) 3) = Int32.ofInt (S (30 + 3 * a.toNat) 3) by rw [u2_eq, if_neg (fun e => absurd e.2 (by decide))]]
                  refine i_68_169 (x := 30 + 3 * a.toNat) l2 ?_
                  refine i_68_170 (v := Value.int (Int32.ofInt ((u2 S 94 0 sg) (30 + 3 * a.toNat) 0))) (hR.k2 (kd_reg (r := a.toNat) (by omega))) rfl ?_
                  rw [show Int32.ofInt ((u2 S 94 0 sg) (30 + 3 * a.toNat) 0) = Int32.ofInt (S (30 + 3 * a.toNat) 0) by rw [u2_eq, if_neg (fun e => absurd e.1 (by omega))]]
                  refine i_68_173 (c := Int32.ofInt ((S (30 + 3 * a.toNat) 3) - (S (30 + 3 * a.toNat) 0))) (o_sub (S (30 + 3 * a.toNat) 3) (S (30 + 3 * a.toNat) 0)) ?_
                  refine i_68_174 (x := 30 + 3 * b.toNat) l3 ?_
                  refine i_68_175 (v := Value.int (Int32.ofInt ((u2 S 94 0 sg) (30 + 3 * b.toNat) 3))) (hR.k2 (kd_reg (r := b.toNat) (by omega))) rfl ?_
                  rw [show Int32.ofInt ((u2 S 94 0 sg) (30 + 3 * b.toNat) 3) = Int32.ofInt (S (30 + 3 * b.toNat) 3) by rw [u2_eq, if_neg (fun e => absurd e.2 (by decide))]]
                  refine i_68_178 (c := Int32.ofInt (((S (30 + 3 * a.toNat) 3) - (S (30 + 3 * a.toNat) 0)) + (S (30 + 3 * b.toNat) 3))) (o_add ((S (30 + 3 * a.toNat) 3) - (S (30 + 3 * a.toNat) 0)) (S (30 + 3 * b.toNat) 3)) ?_
                  refine i_68_179 (x := 30 + 3 * b.toNat) l3 ?_
                  refine i_68_180 (v := Value.int (Int32.ofInt ((u2 S 94 0 sg) (30 + 3 * b.toNat) 0))) (hR.k2 (kd_reg (r := b.toNat) (by omega))) rfl ?_
                  rw [show Int32.ofInt ((u2 S 94 0 sg) (30 + 3 * b.toNat) 0) = Int32.ofInt (S (30 + 3 * b.toNat) 0) by rw [u2_eq, if_neg (fun e => absurd e.1 (by omega))]]
                  refine i_68_183 (c := Int32.ofInt ((((S (30 + 3 * a.toNat) 3) - (S (30 + 3 * a.toNat) 0)) + (S (30 + 3 * b.toNat) 3)) - (S (30 + 3 * b.toNat) 0))) (o_sub (((S (30 + 3 * a.toNat) 3) - (S (30 + 3 * a.toNat) 0)) + (S (30 + 3 * b.toNat) 3)) (S (30 + 3 * b.toNat) 0)) ?_
                  refine i_68_184 (fs2 := f4 94 (u1 ((u2 S 94 0 sg) 94) 2 ((((S (30 + 3 * a.toNat) 3) - (S (30 + 3 * a.toNat) 0)) + (S (30 + 3 * b.toNat) 3)) - (S (30 + 3 * b.toNat) 0)))) (hR.k4 kq_94) (Nat.le_of_ble_eq_true rfl) rfl (h7k kq_94 (by decide)) ?_
                  refine xgen (P := cX w0 L Z (u2 (u2 S 94 0 sg) 94 2 ((((S (30 + 3 * a.toNat) 3) - (S (30 + 3 * a.toNat) 0)) + (S (30 + 3 * b.toNat) 3)) - (S (30 + 3 * b.toNat) 0))) (uv V 95 ((V ((30 + 3 * a.toNat) + 1)) * (V ((30 + 3 * b.toNat) + 1))))) (hR.p4 kq_94) (fun w hR => ?_)
                  refine i_68_187 (x := 93) l0 ?_
                  refine i_68_188 (v := Value.ref 94) (hR.k8 kq_93) rfl ?_
                  refine i_68_191 ?_
                  refine i_68_192 (fs2 := f4 94 (u1 ((u2 (u2 S 94 0 sg) 94 2 ((((S (30 + 3 * a.toNat) 3) - (S (30 + 3 * a.toNat) 0)) + (S (30 + 3 * b.toNat) 3)) - (S (30 + 3 * b.toNat) 0))) 94) 3 0)) (hR.k4 kq_94) rfl (Nat.le_of_ble_eq_true rfl) rfl (h7k kq_94 (by decide)) ?_
                  refine xgen (P := cX w0 L Z (u2 (u2 (u2 S 94 0 sg) 94 2 ((((S (30 + 3 * a.toNat) 3) - (S (30 + 3 * a.toNat) 0)) + (S (30 + 3 * b.toNat) 3)) - (S (30 + 3 * b.toNat) 0))) 94 3 0) (uv V 95 ((V ((30 + 3 * a.toNat) + 1)) * (V ((30 + 3 * b.toNat) + 1))))) (hR.p4 kq_94) (fun w hR => ?_)
                  refine i_68_195 (x := 93) l0 ?_
                  refine i_68_196 (v := Value.ref 78) (hR.k8 kq_93) rfl ?_
                  refine i_68_199 (x := 30 + 3 * r.toNat) l1 ?_
                  refine i_68_200 (x := 93) l0 ?_
                  refine i_68_201 (v := Value.ref 94) (hR.k8 kq_93) rfl ?_
                  refine i_68_204 (x := Int32.ofInt mode) l4 ?_
                  have hobj := hR.k1 kq_78
                  have ep : (u2 (u2 (u2 S 94 0 sg) 94 2 ((((S (30 + 3 * a.toNat) 3) - (S (30 + 3 * a.toNat) 0)) + (S (30 + 3 * b.toNat) 3)) - (S (30 + 3 * b.toNat) 0))) 94 3 0) (30 + 3 * r.toNat) 0 = S (30 + 3 * r.toNat) 0 := by rw [u2_eq, if_neg (fun e => absurd e.2 (by decide)), u2_eq, if_neg (fun e => absurd e.2 (by decide)), u2_eq, if_neg (fun e => absurd e.1 (by omega))]
                  have el : (u2 (u2 (u2 S 94 0 sg) 94 2 ((((S (30 + 3 * a.toNat) 3) - (S (30 + 3 * a.toNat) 0)) + (S (30 + 3 * b.toNat) 3)) - (S (30 + 3 * b.toNat) 0))) 94 3 0) 78 0 = S 78 0 := by rw [u2_eq, if_neg (fun e => absurd e.2 (by decide)), u2_eq, if_neg (fun e => absurd e.2 (by decide)), u2_eq, if_neg (fun e => absurd e.1 (by decide))]
                  have eg : (u2 (u2 (u2 S 94 0 sg) 94 2 ((((S (30 + 3 * a.toNat) 3) - (S (30 + 3 * a.toNat) 0)) + (S (30 + 3 * b.toNat) 3)) - (S (30 + 3 * b.toNat) 0))) 94 3 0) 78 1 = S 78 1 := by rw [u2_eq, if_neg (fun e => absurd e.2 (by decide)), u2_eq, if_neg (fun e => absurd e.2 (by decide)), u2_eq, if_neg (fun e => absurd e.2 (by decide))]
                  have ed : (u2 (u2 (u2 S 94 0 sg) 94 2 ((((S (30 + 3 * a.toNat) 3) - (S (30 + 3 * a.toNat) 0)) + (S (30 + 3 * b.toNat) 3)) - (S (30 + 3 * b.toNat) 0))) 94 3 0) 78 2 = S 78 2 := by rw [u2_eq, if_neg (fun e => absurd e.2 (by decide)), u2_eq, if_neg (fun e => absurd e.1 (by decide)), u2_eq, if_neg (fun e => absurd e.2 (by decide))]
                  have ef : (u2 (u2 (u2 S 94 0 sg) 94 2 ((((S (30 + 3 * a.toNat) 3) - (S (30 + 3 * a.toNat) 0)) + (S (30 + 3 * b.toNat) 3)) - (S (30 + 3 * b.toNat) 0))) 94 3 0) 78 3 = S 78 3 := by rw [u2_eq, if_neg (fun e => absurd e.1 (by decide)), u2_eq, if_neg (fun e => absurd e.2 (by decide)), u2_eq, if_neg (fun e => absurd e.2 (by decide))]
                  have es : (u2 (u2 (u2 S 94 0 sg) 94 2 ((((S (30 + 3 * a.toNat) 3) - (S (30 + 3 * a.toNat) 0)) + (S (30 + 3 * b.toNat) 3)) - (S (30 + 3 * b.toNat) 0))) 94 3 0) 94 0 = sg := by rw [u2_eq, if_neg (fun e => absurd e.2 (by decide)), u2_eq, if_neg (fun e => absurd e.2 (by decide)), u2_eq, if_pos ⟨rfl, rfl⟩]
                  have ec : (u2 (u2 (u2 S 94 0 sg) 94 2 ((((S (30 + 3 * a.toNat) 3) - (S (30 + 3 * a.toNat) 0)) + (S (30 + 3 * b.toNat) 3)) - (S (30 + 3 * b.toNat) 0))) 94 3 0) 94 2 = (((S (30 + 3 * a.toNat) 3) - (S (30 + 3 * a.toNat) 0)) + (S (30 + 3 * b.toNat) 3)) - (S (30 + 3 * b.toNat) 0) := by rw [u2_eq, if_neg (fun e => absurd e.2 (by decide)), u2_eq, if_pos ⟨rfl, rfl⟩]
                  have em : (u2 (u2 (u2 S 94 0 sg) 94 2 ((((S (30 + 3 * a.toNat) 3) - (S (30 + 3 * a.toNat) 0)) + (S (30 + 3 * b.toNat) 3)) - (S (30 + 3 * b.toNat) 0))) 94 3 0) 94 3 = 0 := by rw [u2_eq, if_pos ⟨rfl, rfl⟩]
                  have ev : (uv V 95 ((V ((30 + 3 * a.toNat) + 1)) * (V ((30 + 3 * b.toNat) + 1)))) 95 = (V ((30 + 3 * a.toNat) + 1)) * (V ((30 + 3 * b.toNat) + 1)) := uv_s
                  obtain ⟨w, hrun, S29, V29, hR, hP⟩ := x_settle (d := d) (g := 78) (t := 30 + 3 * r.toNat) (h := 94) (mode := mode) hR kq_78 (kd_reg (r := r.toNat) (by omega)) kq_94 (by rw [ep]; omega) (by rw [es]; first | omega | exact bb_01 _) (by rw [em]; omega) (by omega) (by rw [ev]; exact Nat.mul_ne_zero (hm_a (by assumption)) (hm_b (by assumption))) (by rw [ev]; exact Nat.le_trans (xbl_prod _ _) (by omega)) (by rw [ec]; omega) (by rw [el, eg]; omega) (by rw [ed]; omega) (by rw [ep, el, ed, ev, ec, em]; exact fun _ _ => Or.inl rfl)
                  rw [ep, el, eg, ed, ef, es, ec, em, ev] at hrun hP
                  refine i_68_206 hobj (Nat.le_of_ble_eq_true rfl) hrun ?_
                  refine i_68_209 ?_
                  have eo : sMul2 (vS S) (vV V) r.toNat a.toNat b.toNat mode = oR (S (30 + 3 * r.toNat) 0) (S 78 0) (S 78 1) (S 78 2) sg mode 0 ((V ((30 + 3 * a.toNat) + 1)) * (V ((30 + 3 * b.toNat) + 1))) ((((S (30 + 3 * a.toNat) 3) - (S (30 + 3 * a.toNat) 0)) + (S (30 + 3 * b.toNat) 3)) - (S (30 + 3 * b.toNat) 0)) (S 78 3) := by clear hR; simp only [sMul2, sMul, vS_153, vS_154, vS_155, vS_156, vS_17, vS_18, vS_19, vS_20, vV_r]; grind
                  rw [eo]
                  exact ⟨rfl, _, _, hR, cP_round hP (by first | omega | exact bb_01 _) (nC.up (nC.up (nC.up nC.refl (by unfold cKeep; omega) (by omega)) (by unfold cKeep; omega) (by omega)) (by unfold cKeep; omega) (by omega)) (nW.up nW.refl (by omega)) (by omega)⟩
                · refine i_68_94 (x := 30 + 3 * a.toNat) l2 ?_
                  refine i_68_95 (v := Value.int (Int32.ofInt (S (30 + 3 * a.toNat) 1))) (hR.k2 (kd_reg (r := a.toNat) (by omega))) rfl ?_
                  refine i_68_98 ?_
                  refine i_68_99 (b_eq (a := S (30 + 3 * a.toNat) 1) (b := 1) ⟨by omega, by omega⟩ ⟨by decide, by decide⟩ fun c29 => absurd c29 (by omega)) (b_ne (a := S (30 + 3 * a.toNat) 1) (b := 1) ⟨by omega, by omega⟩ ⟨by decide, by decide⟩ fun c29 => ?_)
                  refine i_68_102 (x := 30 + 3 * b.toNat) l3 ?_
                  refine i_68_103 (v := Value.int (Int32.ofInt (S (30 + 3 * b.toNat) 1))) (hR.k2 (kd_reg (r := b.toNat) (by omega))) rfl ?_
                  refine i_68_106 ?_
                  refine i_68_107 (b_ne (a := S (30 + 3 * b.toNat) 1) (b := 1) ⟨by omega, by omega⟩ ⟨by decide, by decide⟩ fun c30 => ?_) (b_eq (a := S (30 + 3 * b.toNat) 1) (b := 1) ⟨by omega, by omega⟩ ⟨by decide, by decide⟩ fun c30 => ?_)
                  · refine i_68_114 ?_
                    refine i_68_115 rfl ?_
                    refine lgen1 (i := 6) (v := Value.int 0) (fun lv lg ls => ?_)
                    replace l5 := lg 5 _ rfl rfl l5
                    replace l0 := lg 0 _ rfl rfl l0
                    replace l1 := lg 1 _ rfl rfl l1
                    replace l2 := lg 2 _ rfl rfl l2
                    replace l3 := lg 3 _ rfl rfl l3
                    replace l4 := lg 4 _ rfl rfl l4
                    have l6 := ls
                    refine i_68_117 (x := 30 + 3 * r.toNat) l1 ?_
                    refine i_68_118 (x := 0) l6 ?_
                    refine i_68_120 (fun _ => ?_) (fun c => absurd c (by decide))
                    refine i_68_127 ?_
                    refine i_68_128 (x := Int32.ofInt sg) l5 ?_
                    have hobj := hR.k2 (kd_reg (r := r.toNat) (by omega))
                    obtain ⟨w, hrun, hR⟩ := x_spec (d := d + 9) (t := 30 + 3 * r.toNat) (which := 2) (sg := sg) hR (kd_reg (r := r.toNat) (by omega)) (by first | omega | exact bb_01 _)
                    refine i_68_130 hobj (Nat.le_of_ble_eq_true rfl) hrun ?_
                    refine i_68_133 ?_
                    have eo : sMul2 (vS S) (vV V) r.toNat a.toNat b.toNat mode = oS 2 sg (S 78 3) := by clear hR; simp only [sMul2, sMul, vS_153, vS_154, vS_155, vS_156, vS_17, vS_18, vS_19, vS_20, vV_r]; grind
                    rw [eo]
                    exact ⟨rfl, _, _, hR, cP_special (by first | omega | exact bb_01 _) (by decide) nC.refl nW.refl rfl (by omega)⟩
                  · refine i_68_110 ?_
                    refine i_68_111 ?_
                    refine i_68_115 rfl ?_
                    refine lgen1 (i := 6) (v := Value.int 1) (fun lv lg ls => ?_)
                    replace l5 := lg 5 _ rfl rfl l5
                    replace l0 := lg 0 _ rfl rfl l0
                    replace l1 := lg 1 _ rfl rfl l1
                    replace l2 := lg 2 _ rfl rfl l2
                    replace l3 := lg 3 _ rfl rfl l3
                    replace l4 := lg 4 _ rfl rfl l4
                    have l6 := ls
                    refine i_68_117 (x := 30 + 3 * r.toNat) l1 ?_
                    refine i_68_118 (x := 1) l6 ?_
                    refine i_68_120 (fun c => absurd c (by decide)) (fun _ => ?_)
                    refine i_68_123 ?_
                    refine i_68_124 ?_
                    refine i_68_128 (x := Int32.ofInt sg) l5 ?_
                    have hobj := hR.k2 (kd_reg (r := r.toNat) (by omega))
                    obtain ⟨w, hrun, hR⟩ := x_spec (d := d + 9) (t := 30 + 3 * r.toNat) (which := 1) (sg := sg) hR (kd_reg (r := r.toNat) (by omega)) (by first | omega | exact bb_01 _)
                    refine i_68_130 hobj (Nat.le_of_ble_eq_true rfl) hrun ?_
                    refine i_68_133 ?_
                    have eo : sMul2 (vS S) (vV V) r.toNat a.toNat b.toNat mode = oS 1 sg (S 78 3) := by clear hR; simp only [sMul2, sMul, vS_153, vS_154, vS_155, vS_156, vS_17, vS_18, vS_19, vS_20, vV_r]; grind
                    rw [eo]
                    exact ⟨rfl, _, _, hR, cP_special (by first | omega | exact bb_01 _) (by decide) nC.refl nW.refl rfl (by omega)⟩
            · refine i_68_61 (x := 30 + 3 * b.toNat) l3 ?_
              refine i_68_62 (v := Value.int (Int32.ofInt (S (30 + 3 * b.toNat) 1))) (hR.k2 (kd_reg (r := b.toNat) (by omega))) rfl ?_
              refine i_68_65 ?_
              refine i_68_66 (b_ne (a := S (30 + 3 * b.toNat) 1) (b := 2) ⟨by omega, by omega⟩ ⟨by decide, by decide⟩ fun c31 => ?_) (b_eq (a := S (30 + 3 * b.toNat) 1) (b := 2) ⟨by omega, by omega⟩ ⟨by decide, by decide⟩ fun c31 => ?_)
              · refine i_68_78 (x := 30 + 3 * a.toNat) l2 ?_
                refine i_68_79 (v := Value.int (Int32.ofInt (S (30 + 3 * a.toNat) 1))) (hR.k2 (kd_reg (r := a.toNat) (by omega))) rfl ?_
                refine i_68_82 ?_
                refine i_68_83 (b_ne (a := S (30 + 3 * a.toNat) 1) (b := 3) ⟨by omega, by omega⟩ ⟨by decide, by decide⟩ fun c32 => ?_) (b_eq (a := S (30 + 3 * a.toNat) 1) (b := 3) ⟨by omega, by omega⟩ ⟨by decide, by decide⟩ fun c32 => absurd c32 (by omega))
                refine i_68_94 (x := 30 + 3 * a.toNat) l2 ?_
                refine i_68_95 (v := Value.int (Int32.ofInt (S (30 + 3 * a.toNat) 1))) (hR.k2 (kd_reg (r := a.toNat) (by omega))) rfl ?_
                refine i_68_98 ?_
                refine i_68_99 (b_eq (a := S (30 + 3 * a.toNat) 1) (b := 1) ⟨by omega, by omega⟩ ⟨by decide, by decide⟩ fun c33 => ?_) (b_ne (a := S (30 + 3 * a.toNat) 1) (b := 1) ⟨by omega, by omega⟩ ⟨by decide, by decide⟩ fun c33 => absurd c33 (by omega))
                refine i_68_110 ?_
                refine i_68_111 ?_
                refine i_68_115 rfl ?_
                refine lgen1 (i := 6) (v := Value.int 1) (fun lv lg ls => ?_)
                replace l5 := lg 5 _ rfl rfl l5
                replace l0 := lg 0 _ rfl rfl l0
                replace l1 := lg 1 _ rfl rfl l1
                replace l2 := lg 2 _ rfl rfl l2
                replace l3 := lg 3 _ rfl rfl l3
                replace l4 := lg 4 _ rfl rfl l4
                have l6 := ls
                refine i_68_117 (x := 30 + 3 * r.toNat) l1 ?_
                refine i_68_118 (x := 1) l6 ?_
                refine i_68_120 (fun c => absurd c (by decide)) (fun _ => ?_)
                refine i_68_123 ?_
                refine i_68_124 ?_
                refine i_68_128 (x := Int32.ofInt sg) l5 ?_
                have hobj := hR.k2 (kd_reg (r := r.toNat) (by omega))
                obtain ⟨w, hrun, hR⟩ := x_spec (d := d + 9) (t := 30 + 3 * r.toNat) (which := 1) (sg := sg) hR (kd_reg (r := r.toNat) (by omega)) (by first | omega | exact bb_01 _)
                refine i_68_130 hobj (Nat.le_of_ble_eq_true rfl) hrun ?_
                refine i_68_133 ?_
                have eo : sMul2 (vS S) (vV V) r.toNat a.toNat b.toNat mode = oS 1 sg (S 78 3) := by clear hR; simp only [sMul2, sMul, vS_153, vS_154, vS_155, vS_156, vS_17, vS_18, vS_19, vS_20, vV_r]; grind
                rw [eo]
                exact ⟨rfl, _, _, hR, cP_special (by first | omega | exact bb_01 _) (by decide) nC.refl nW.refl rfl (by omega)⟩
              · refine i_68_69 (x := 93) l0 ?_
                refine i_68_70 (v := Value.ref 78) (hR.k8 kq_93) rfl ?_
                refine i_68_73 (x := 30 + 3 * r.toNat) l1 ?_
                have hobj := hR.k1 kq_78
                obtain ⟨w, hrun, hR⟩ := x_refuse (d := d + 6) (g := 78) (t := 30 + 3 * r.toNat) hR kq_78 (kd_reg (r := r.toNat) (by omega))
                refine i_68_74 hobj (Nat.le_of_ble_eq_true rfl) hrun ?_
                refine i_68_77 ?_
                have eo : sMul2 (vS S) (vV V) r.toNat a.toNat b.toNat mode = oS 0 0 (zor (S 78 3) 8) := by clear hR; simp only [sMul2, sMul, vS_153, vS_154, vS_155, vS_156, vS_17, vS_18, vS_19, vS_20, vV_r]; grind
                rw [eo]
                exact ⟨rfl, _, _, hR, cP_flag (by first | omega | exact bb_01 _) (by decide) nC.refl nW.refl (by omega)⟩
          · refine i_68_45 (x := 30 + 3 * b.toNat) l3 ?_
            refine i_68_46 (v := Value.int (Int32.ofInt (S (30 + 3 * b.toNat) 1))) (hR.k2 (kd_reg (r := b.toNat) (by omega))) rfl ?_
            refine i_68_49 ?_
            refine i_68_50 (b_eq (a := S (30 + 3 * b.toNat) 1) (b := 1) ⟨by omega, by omega⟩ ⟨by decide, by decide⟩ fun c34 => ?_) (b_ne (a := S (30 + 3 * b.toNat) 1) (b := 1) ⟨by omega, by omega⟩ ⟨by decide, by decide⟩ fun c34 => ?_)
            · refine i_68_69 (x := 93) l0 ?_
              refine i_68_70 (v := Value.ref 78) (hR.k8 kq_93) rfl ?_
              refine i_68_73 (x := 30 + 3 * r.toNat) l1 ?_
              have hobj := hR.k1 kq_78
              obtain ⟨w, hrun, hR⟩ := x_refuse (d := d + 6) (g := 78) (t := 30 + 3 * r.toNat) hR kq_78 (kd_reg (r := r.toNat) (by omega))
              refine i_68_74 hobj (Nat.le_of_ble_eq_true rfl) hrun ?_
              refine i_68_77 ?_
              have eo : sMul2 (vS S) (vV V) r.toNat a.toNat b.toNat mode = oS 0 0 (zor (S 78 3) 8) := by clear hR; simp only [sMul2, sMul, vS_153, vS_154, vS_155, vS_156, vS_17, vS_18, vS_19, vS_20, vV_r]; grind
              rw [eo]
              exact ⟨rfl, _, _, hR, cP_flag (by first | omega | exact bb_01 _) (by decide) nC.refl nW.refl (by omega)⟩
            · refine i_68_53 (x := 30 + 3 * a.toNat) l2 ?_
              refine i_68_54 (v := Value.int (Int32.ofInt (S (30 + 3 * a.toNat) 1))) (hR.k2 (kd_reg (r := a.toNat) (by omega))) rfl ?_
              refine i_68_57 ?_
              refine i_68_58 (b_ne (a := S (30 + 3 * a.toNat) 1) (b := 1) ⟨by omega, by omega⟩ ⟨by decide, by decide⟩ fun c35 => ?_) (b_eq (a := S (30 + 3 * a.toNat) 1) (b := 1) ⟨by omega, by omega⟩ ⟨by decide, by decide⟩ fun c35 => absurd c35 (by omega))
              refine i_68_78 (x := 30 + 3 * a.toNat) l2 ?_
              refine i_68_79 (v := Value.int (Int32.ofInt (S (30 + 3 * a.toNat) 1))) (hR.k2 (kd_reg (r := a.toNat) (by omega))) rfl ?_
              refine i_68_82 ?_
              refine i_68_83 (b_ne (a := S (30 + 3 * a.toNat) 1) (b := 3) ⟨by omega, by omega⟩ ⟨by decide, by decide⟩ fun c36 => ?_) (b_eq (a := S (30 + 3 * a.toNat) 1) (b := 3) ⟨by omega, by omega⟩ ⟨by decide, by decide⟩ fun c36 => absurd c36 (by omega))
              refine i_68_94 (x := 30 + 3 * a.toNat) l2 ?_
              refine i_68_95 (v := Value.int (Int32.ofInt (S (30 + 3 * a.toNat) 1))) (hR.k2 (kd_reg (r := a.toNat) (by omega))) rfl ?_
              refine i_68_98 ?_
              refine i_68_99 (b_eq (a := S (30 + 3 * a.toNat) 1) (b := 1) ⟨by omega, by omega⟩ ⟨by decide, by decide⟩ fun c37 => absurd c37 (by omega)) (b_ne (a := S (30 + 3 * a.toNat) 1) (b := 1) ⟨by omega, by omega⟩ ⟨by decide, by decide⟩ fun c37 => ?_)
              refine i_68_102 (x := 30 + 3 * b.toNat) l3 ?_
              refine i_68_103 (v := Value.int (Int32.ofInt (S (30 + 3 * b.toNat) 1))) (hR.k2 (kd_reg (r := b.toNat) (by omega))) rfl ?_
              refine i_68_106 ?_
              refine i_68_107 (b_ne (a := S (30 + 3 * b.toNat) 1) (b := 1) ⟨by omega, by omega⟩ ⟨by decide, by decide⟩ fun c38 => ?_) (b_eq (a := S (30 + 3 * b.toNat) 1) (b := 1) ⟨by omega, by omega⟩ ⟨by decide, by decide⟩ fun c38 => absurd c38 (by omega))
              refine i_68_114 ?_
              refine i_68_115 rfl ?_
              refine lgen1 (i := 6) (v := Value.int 0) (fun lv lg ls => ?_)
              replace l5 := lg 5 _ rfl rfl l5
              replace l0 := lg 0 _ rfl rfl l0
              replace l1 := lg 1 _ rfl rfl l1
              replace l2 := lg 2 _ rfl rfl l2
              replace l3 := lg 3 _ rfl rfl l3
              replace l4 := lg 4 _ rfl rfl l4
              have l6 := ls
              refine i_68_117 (x := 30 + 3 * r.toNat) l1 ?_
              refine i_68_118 (x := 0) l6 ?_
              refine i_68_120 (fun _ => ?_) (fun c => absurd c (by decide))
              refine i_68_127 ?_
              refine i_68_128 (x := Int32.ofInt sg) l5 ?_
              have hobj := hR.k2 (kd_reg (r := r.toNat) (by omega))
              obtain ⟨w, hrun, hR⟩ := x_spec (d := d + 9) (t := 30 + 3 * r.toNat) (which := 2) (sg := sg) hR (kd_reg (r := r.toNat) (by omega)) (by first | omega | exact bb_01 _)
              refine i_68_130 hobj (Nat.le_of_ble_eq_true rfl) hrun ?_
              refine i_68_133 ?_
              have eo : sMul2 (vS S) (vV V) r.toNat a.toNat b.toNat mode = oS 2 sg (S 78 3) := by clear hR; simp only [sMul2, sMul, vS_153, vS_154, vS_155, vS_156, vS_17, vS_18, vS_19, vS_20, vV_r]; grind
              rw [eo]
              exact ⟨rfl, _, _, hR, cP_special (by first | omega | exact bb_01 _) (by decide) nC.refl nW.refl rfl (by omega)⟩
        · refine i_68_32 (x := 30 + 3 * r.toNat) l1 ?_
          have hobj := hR.k2 (kd_reg (r := r.toNat) (by omega))
          obtain ⟨w, hrun, hR⟩ := x_nan (d := d + 8) (t := 30 + 3 * r.toNat) hR (kd_reg (r := r.toNat) (by omega))
          refine i_68_33 hobj (Nat.le_of_ble_eq_true rfl) hrun ?_
          refine i_68_36 ?_
          have eo : sMul2 (vS S) (vV V) r.toNat a.toNat b.toNat mode = oS 0 0 (S 78 3) := by clear hR; simp only [sMul2, sMul, vS_153, vS_154, vS_155, vS_156, vS_17, vS_18, vS_19, vS_20, vV_r]; grind
          rw [eo]
          exact ⟨rfl, _, _, hR, cP_special (by first | omega | exact bb_01 _) (by decide) nC.refl nW.refl rfl (by omega)⟩
    refine i_68_0 (x := 30 + 3 * a.toNat) l2 ?_
    refine i_68_1 (v := Value.int (Int32.ofInt (S (30 + 3 * a.toNat) 2))) (hR.k2 (kd_reg (r := a.toNat) (by omega))) rfl ?_
    refine i_68_4 (x := 30 + 3 * b.toNat) l3 ?_
    refine i_68_5 (v := Value.int (Int32.ofInt (S (30 + 3 * b.toNat) 2))) (hR.k2 (kd_reg (r := b.toNat) (by omega))) rfl ?_
    refine i_68_8 (b_eq (a := S (30 + 3 * a.toNat) 2) (b := S (30 + 3 * b.toNat) 2) ⟨by omega, by omega⟩ ⟨by omega, by omega⟩ fun c0 => ?_) (b_ne (a := S (30 + 3 * a.toNat) 2) (b := S (30 + 3 * b.toNat) 2) ⟨by omega, by omega⟩ ⟨by omega, by omega⟩ fun c0 => ?_)
    · refine i_68_15 ?_
      exact tail 0 lv (by rw [xorI, if_pos c0]) (by omega) l0 l1 l2 l3 l4
    · refine i_68_11 ?_
      refine i_68_12 ?_
      exact tail 1 lv (by rw [xorI, if_neg c0]) (by omega) l0 l1 l2 l3 l4
  obtain ⟨o, w', h1, rfl, h2⟩ := (key (lv_args 0 [Value.ref 93, Value.ref (30 + 3 * r.toNat), Value.ref (30 + 3 * a.toNat), Value.ref (30 + 3 * b.toNat), Value.int (Int32.ofInt mode)]) rfl rfl rfl rfl rfl).run
  exact ⟨w', h1, h2⟩
end
