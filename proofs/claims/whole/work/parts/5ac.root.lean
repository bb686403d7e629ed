/-! root, power, length of the reference, inside their checks -/
noncomputable def rtF (v n : Nat) : Nat := Classical.choose (root_ex v (n - 1))
theorem isRt.uniq {v n g g' : Nat} (hn : 1 ≤ n) (h : isRt v n g) (h' : isRt v n g') : g = g' := by
  rcases Nat.lt_trichotomy g g' with h1 | h1 | h1
  · have := Nat.pow_le_pow_left (show g + 1 ≤ g' from h1) n
    have := h.2
    have := h'.1
    omega
  · exact h1
  · have := Nat.pow_le_pow_left (show g' + 1 ≤ g from h1) n
    have := h'.2
    have := h.1
    omega
theorem rtF_is {v n : Nat} (hn : 1 ≤ n) : isRt v n (rtF v n) := by
  have h := Classical.choose_spec (root_ex v (n - 1))
  unfold rtF
  generalize Classical.choose (root_ex v (n - 1)) = g at h ⊢
  rw [show n - 1 + 1 = n by omega] at h
  exact h
noncomputable def sRtd (S : Nat → Nat → Int) (r : Nat) (e n sg mode : Int) (v : Nat) : OO := oRt S r e n sg mode v (rtF (rtX (S 153 r) n e v) n.toNat)
theorem t_rooted {d : Nat} {w0 w : xW} {S : Nat → Nat → Int} {V : Nat → Nat} {r e n sg mode : Int} {v : Nat} (hR : mR w0 S V w) (hI : mI S V) (hv : V 129 = v) (hv0 : v ≠ 0) (hr : 0 ≤ r ∧ r < 16) (hn : 1 ≤ n ∧ n ≤ 32) (hs : sg = 0 ∨ sg = 1) (hmode : 0 ≤ mode ∧ mode ≤ 4) (he : -200000 ≤ e ∧ e ≤ 200000) (hvb : xbl v ≤ 100000) : ∃ w', xRun (d + 5) 204 [Value.ref 128, Value.int (Int32.ofInt r), Value.int (Int32.ofInt e), Value.int (Int32.ofInt n), Value.int (Int32.ofInt sg), Value.int (Int32.ofInt mode)] w (.inl (some (.int (Int32.ofInt (sRtd S r.toNat e n sg mode v).2.2.2.2.1)))) w' ∧ ∃ S' V', mR w0 S' V' w' ∧ oP S S' V V' r.toNat (sRtd S r.toNat e n sg mode v) := by
  obtain ⟨w', g, h1, h2, h3⟩ := s_rooted (d := d) hR hI hv hv0 hr hn hs hmode he hvb
  have e1 := h1.uniq (by omega) (rtF_is (by omega))
  subst e1
  exact ⟨w', h2, h3⟩
noncomputable def sRoot (S : Nat → Nat → Int) (V : Nat → Nat) (r a : Nat) (n mode : Int) : OO :=
  if S 154 a = 0 then oS 0 0 (S 128 19) else if n % 2 = 0 ∧ S 156 a ≠ 0 ∧ S 154 a ≠ 2 then oS 0 0 (zor (S 128 19) 8) else if S 154 a ≠ 3 then oS (S 154 a) (S 156 a) (S 128 19) else sRtd S r (S 155 a - S 153 a) n (S 156 a) mode (V (160 + 2 * a))
theorem tm2 (n : Int) : (Int.tmod n 2 = 0 ↔ n % 2 = 0) ∧ -2 ≤ Int.tmod n 2 ∧ Int.tmod n 2 < 2 := by
  have h1 := tmod_e (a := n) (b := 2) (by decide)
  have h2 := tmod_b (a := n) (b := 2) (by decide)
  exact ⟨⟨h1.2.1, fun h => Int.tmod_eq_zero_of_dvd (Int.dvd_of_emod_eq_zero h)⟩, h2.1, h2.2⟩
def sPow (S : Nat → Nat → Int) (V : Nat → Nat) (r a : Nat) (n mode : Int) : OO :=
  if n = 0 then oR (S 153 r) (S 128 17) (S 128 18) (S 128 20) 0 mode 0 1 0 (S 128 19)
  else if S 154 a = 0 then oS 0 0 (S 128 19)
  else if S 154 a ≠ 3 then oS (if 0 < n then S 154 a else if S 154 a = 2 then 1 else 2) (if S 156 a ≠ 0 ∧ n % 2 ≠ 0 then 1 else 0) (if n < 0 ∧ S 154 a = 2 then zor (S 128 19) 16 else S 128 19)
  else if 0 < n then oR (S 153 r) (S 128 17) (S 128 18) (S 128 20) (if S 156 a ≠ 0 ∧ n % 2 ≠ 0 then 1 else 0) mode 0 (V (160 + 2 * a) ^ n.natAbs) ((S 155 a - S 153 a) * n.natAbs) (S 128 19)
  else sRat S r 1 0 (V (160 + 2 * a) ^ n.natAbs) ((S 155 a - S 153 a) * n.natAbs) (if S 156 a ≠ 0 ∧ n % 2 ≠ 0 then 1 else 0) mode
theorem xbl_npow (x n : Nat) : xbl (x ^ n) ≤ n * xbl x + 1 := by
  refine Nat.le_trans (xbl_mono (Nat.pow_le_pow_left (Nat.le_of_lt (xbl_lt x)) n)) ?_
  rw [← Nat.pow_mul, xbl_2pow, Nat.mul_comm]
  exact Nat.le_refl _
set_option maxHeartbeats 8000000 in
theorem s_root {d : Nat} {w0 w : xW} {S : Nat → Nat → Int} {V : Nat → Nat} {r a n mode : Int} (hR : mR w0 S V w) (hI : mI S V) (hr : 0 ≤ r ∧ r ≤ 15) (ha : 0 ≤ a ∧ a ≤ 15) (hn : 1 ≤ n ∧ n ≤ 32) (hmo : 0 ≤ mode ∧ mode ≤ 4) : ∃ w', xRun (d + 8) 223 [Value.ref 128, Value.int (Int32.ofInt r), Value.int (Int32.ofInt a), Value.int (Int32.ofInt n), Value.int (Int32.ofInt mode)] w (.inl (some (.int (Int32.ofInt (sRoot S V r.toNat a.toNat n mode).2.2.2.2.1)))) w' ∧ ∃ S' V', mR w0 S' V' w' ∧ oP S S' V V' r.toNat (sRoot S V r.toNat a.toNat n mode) := by
  obtain ⟨hp_r, -⟩ := hI.1 r.toNat (by omega)
  obtain ⟨hp_a, hk_a, hn_a, ht_a, hx_a, -⟩ := hI.1 a.toNat (by omega)
  have hi_l := hI.2.1
  have hi_g := hI.2.2.1
  have hi_f := hI.2.2.2
  have htm := tm2 n
  have key : xEv (d + 8) 223 0 (lv_args 0 [Value.ref 128, Value.int (Int32.ofInt r), Value.int (Int32.ofInt a), Value.int (Int32.ofInt n), Value.int (Int32.ofInt mode)]) [] w (fun o w' => o = .inl (some (.int (Int32.ofInt (sRoot S V r.toNat a.toNat n mode).2.2.2.2.1))) ∧ ∃ S' V', mR w0 S' V' w' ∧ oP S S' V V' r.toNat (sRoot S V r.toNat a.toNat n mode)) := by
    refine i_223_0 (x := Int32.ofInt r) rfl ?_
    have hrun := s_reg1 (d := d + 5) (w := w) (r := r) (by omega) (by omega)
    refine i_223_1 (Nat.le_of_ble_eq_true rfl) hrun ?_
    refine i_223_4 (x := Int32.ofInt a) rfl ?_
    have hrun := s_reg1 (d := d + 5) (w := w) (r := a) (by omega) (by omega)
    refine i_223_5 (Nat.le_of_ble_eq_true rfl) hrun ?_
    refine i_223_8 (x := Int32.ofInt n) rfl ?_
    refine i_223_9 ?_
    refine i_223_10 ?_
    have hrun := s_in (d := d + 6) (w := w) (v := n) (lo := 1) (hi := 32) ⟨by omega, by omega⟩ ⟨by decide, by decide⟩ ⟨by decide, by decide⟩
    refine i_223_12 (Nat.le_of_ble_eq_true rfl) hrun ?_
    have hrun := s_ck1 (d := d + 6) (w := w) (b := (decide (1 ≤ n ∧ n ≤ 32))) (decide_eq_true (by omega))
    refine i_223_15 (Nat.le_of_ble_eq_true rfl) hrun ?_
    refine i_223_18 (x := Int32.ofInt mode) rfl ?_
    have hrun := s_mode1 (d := d + 5) (w := w) (r := mode) (by omega) (by omega)
    refine i_223_20 (Nat.le_of_ble_eq_true rfl) hrun ?_
    refine i_223_23 (x := 128) rfl ?_
    refine i_223_24 (v := Value.ref 154) hR.c128 rfl ?_
    refine i_223_27 (x := Int32.ofInt a) rfl ?_
    refine i_223_28 (v := Value.int (Int32.ofInt (S 154 ((a).toNat)))) (hR.row a154) (ix0 (T := a) (by omega) (by omega)) (ix1 (T := a) (by omega) (by omega) (by omega)) (ra (T := a) (by omega) (by omega) rfl) ?_
    refine i_223_29 (z_ne (a := S 154 ((a).toNat)) ⟨by omega, by omega⟩ fun c0 => ?_) (z_eq (a := S 154 ((a).toNat)) ⟨by omega, by omega⟩ fun c0 => ?_)
    · refine i_223_40 (x := Int32.ofInt n) rfl ?_
      refine i_223_41 ?_
      refine i_223_42 (c := Int32.ofInt (Int.tmod n 2)) (o_nz (b := 2) ⟨by decide, by decide⟩) (o_tmod (a := n) (b := 2) ⟨by omega, by omega⟩ ⟨by decide, by decide⟩) ?_
      refine i_223_43 (z_ne (a := Int.tmod n 2) ⟨by omega, by omega⟩ fun c1 => ?_) (z_eq (a := Int.tmod n 2) ⟨by omega, by omega⟩ fun c1 => ?_)
      · refine i_223_71 (x := 128) rfl ?_
        refine i_223_72 (v := Value.ref 154) hR.c128 rfl ?_
        refine i_223_75 (x := Int32.ofInt a) rfl ?_
        refine i_223_76 (v := Value.int (Int32.ofInt (S 154 ((a).toNat)))) (hR.row a154) (ix0 (T := a) (by omega) (by omega)) (ix1 (T := a) (by omega) (by omega) (by omega)) (ra (T := a) (by omega) (by omega) rfl) ?_
        refine i_223_77 ?_
        refine i_223_78 (b_eq (a := S 154 ((a).toNat)) (b := 3) ⟨by omega, by omega⟩ ⟨by decide, by decide⟩ fun c2 => ?_) (b_ne (a := S 154 ((a).toNat)) (b := 3) ⟨by omega, by omega⟩ ⟨by decide, by decide⟩ fun c2 => ?_)
        · refine i_223_99 (x := 128) rfl ?_
          refine i_223_100 (v := Value.ref 129) hR.c128 rfl ?_
          refine i_223_103 (x := 128) rfl ?_
          refine i_223_104 (v := Value.ref 157) hR.c128 rfl ?_
          refine i_223_107 (x := Int32.ofInt a) rfl ?_
          obtain ⟨gp, hgp, hgr⟩ := hR.part (j := (a).toNat) (by omega)
          refine i_223_108 (v := Value.ref (160 + 2 * a.toNat)) hgp (ix0 (by omega) (by omega)) (ix1 (by omega) (by omega) (by omega)) (by rw [ixn (by omega) (by omega)]; exact hgr) ?_
          obtain ⟨fs, hobj⟩ := hR.obj (h := 129) (iNw (h := 129) (by decide) (by decide) (by decide))
          obtain ⟨w, hrun, hR⟩ := r_setn (d := d + 5) (v := V (160 + 2 * a.toNat)) (c := 4700) hR (iNw (h := 129) (by decide) (by decide) (by decide)) (iNp (r := a) (by omega) (by omega)) (rfl) rfl (by omega)
          refine i_223_109 hobj (Nat.le_of_ble_eq_true rfl) hrun ?_
          refine i_223_112 (x := 128) rfl ?_
          refine i_223_113 (x := Int32.ofInt r) rfl ?_
          refine i_223_114 (x := 128) rfl ?_
          refine i_223_115 (x := Int32.ofInt a) rfl ?_
          have hobj := hR.c128
          obtain ⟨w, hrun, hR⟩ := s_exponent (d := d + 6) (r := a) hR (by omega) (by omega)
          refine i_223_116 hobj (Nat.le_of_ble_eq_true rfl) hrun ?_
          refine i_223_119 (x := Int32.ofInt n) rfl ?_
          refine i_223_120 (x := 128) rfl ?_
          refine i_223_121 (v := Value.ref 156) hR.c128 rfl ?_
          refine i_223_124 (x := Int32.ofInt a) rfl ?_
          refine i_223_125z (v := Value.int (Int32.ofInt (S 156 ((a).toNat)))) (hR.row a156) (ix0 (T := a) (by omega) (by omega)) (ix1 (T := a) (by omega) (by omega) (by omega)) (ra (T := a) (by omega) (by omega) rfl) ?_
          refine i_223_126 (x := Int32.ofInt mode) rfl ?_
          have hobj := hR.c128
          obtain ⟨w, hrun, S2, V2, hR, hP⟩ := t_rooted (d := d + 2) (r := r) (e := S 155 a.toNat - S 153 a.toNat) (n := n) (sg := S 156 ((a).toNat)) (mode := mode) (v := V (160 + 2 * a.toNat)) hR (nS.mI nS.refl (nV.up nV.refl (by omega)) hI) (uv_s) (by exact hI.nz (by omega) (by omega)) (by omega) (by omega) (by omega) (by omega) (by omega) (by omega)
          refine i_223_128 hobj (Nat.le_of_ble_eq_true rfl) hrun ?_
          refine i_223_131 ?_
          have eo : sRoot S V r.toNat a.toNat n mode = sRtd S r.toNat (S 155 a.toNat - S 153 a.toNat) n (S 156 ((a).toNat)) mode (V (160 + 2 * a.toNat)) := by clear hR hrun hP; first | grind [sRoot] | (unfold sRoot; have := tm2 n; grind)
          rw [eo]
          exact ⟨rfl, _, _, hR, oP.near nS.refl (nV.up nV.refl (by omega)) hP⟩
        · refine i_223_81 (x := 128) rfl ?_
          refine i_223_82 (x := Int32.ofInt r) rfl ?_
          refine i_223_83 (x := 128) rfl ?_
          refine i_223_84 (v := Value.ref 154) hR.c128 rfl ?_
          refine i_223_87 (x := Int32.ofInt a) rfl ?_
          refine i_223_88 (v := Value.int (Int32.ofInt (S 154 ((a).toNat)))) (hR.row a154) (ix0 (T := a) (by omega) (by omega)) (ix1 (T := a) (by omega) (by omega) (by omega)) (ra (T := a) (by omega) (by omega) rfl) ?_
          refine i_223_89 (x := 128) rfl ?_
          refine i_223_90 (v := Value.ref 156) hR.c128 rfl ?_
          refine i_223_93 (x := Int32.ofInt a) rfl ?_
          refine i_223_94z (v := Value.int (Int32.ofInt (S 156 ((a).toNat)))) (hR.row a156) (ix0 (T := a) (by omega) (by omega)) (ix1 (T := a) (by omega) (by omega) (by omega)) (ra (T := a) (by omega) (by omega) rfl) ?_
          have hobj := hR.c128
          obtain ⟨w, hrun, hR⟩ := s_special (d := d + 6) (r := r) (k := S 154 ((a).toNat)) (s := S 156 ((a).toNat)) hR (by omega) (by omega) (by omega)
          refine i_223_95 hobj (Nat.le_of_ble_eq_true rfl) hrun ?_
          refine i_223_98 ?_
          have eo : sRoot S V r.toNat a.toNat n mode = oS (S 154 ((a).toNat)) (S 156 ((a).toNat)) (S 128 19) := by clear hR hrun; first | grind [sRoot] | (unfold sRoot; have := tm2 n; grind)
          rw [eo]
          exact ⟨rfl, _, _, hR, oP_special (by omega) (by omega) nS.refl nV.refl rfl⟩
      · refine i_223_46 (x := 128) rfl ?_
        refine i_223_47 (v := Value.ref 156) hR.c128 rfl ?_
        refine i_223_50 (x := Int32.ofInt a) rfl ?_
        refine i_223_51z (v := Value.int (Int32.ofInt (S 156 ((a).toNat)))) (hR.row a156) (ix0 (T := a) (by omega) (by omega)) (ix1 (T := a) (by omega) (by omega) (by omega)) (ra (T := a) (by omega) (by omega) rfl) ?_
        refine i_223_52 (z_eq (a := S 156 ((a).toNat)) ⟨by omega, by omega⟩ fun c3 => ?_) (z_ne (a := S 156 ((a).toNat)) ⟨by omega, by omega⟩ fun c3 => ?_)
        · refine i_223_71 (x := 128) rfl ?_
          refine i_223_72 (v := Value.ref 154) hR.c128 rfl ?_
          refine i_223_75 (x := Int32.ofInt a) rfl ?_
          refine i_223_76 (v := Value.int (Int32.ofInt (S 154 ((a).toNat)))) (hR.row a154) (ix0 (T := a) (by omega) (by omega)) (ix1 (T := a) (by omega) (by omega) (by omega)) (ra (T := a) (by omega) (by omega) rfl) ?_
          refine i_223_77 ?_
          refine i_223_78 (b_eq (a := S 154 ((a).toNat)) (b := 3) ⟨by omega, by omega⟩ ⟨by decide, by decide⟩ fun c4 => ?_) (b_ne (a := S 154 ((a).toNat)) (b := 3) ⟨by omega, by omega⟩ ⟨by decide, by decide⟩ fun c4 => ?_)
          · refine i_223_99 (x := 128) rfl ?_
            refine i_223_100 (v := Value.ref 129) hR.c128 rfl ?_
            refine i_223_103 (x := 128) rfl ?_
            refine i_223_104 (v := Value.ref 157) hR.c128 rfl ?_
            refine i_223_107 (x := Int32.ofInt a) rfl ?_
            obtain ⟨gp, hgp, hgr⟩ := hR.part (j := (a).toNat) (by omega)
            refine i_223_108 (v := Value.ref (160 + 2 * a.toNat)) hgp (ix0 (by omega) (by omega)) (ix1 (by omega) (by omega) (by omega)) (by rw [ixn (by omega) (by omega)]; exact hgr) ?_
            obtain ⟨fs, hobj⟩ := hR.obj (h := 129) (iNw (h := 129) (by decide) (by decide) (by decide))
            obtain ⟨w, hrun, hR⟩ := r_setn (d := d + 5) (v := V (160 + 2 * a.toNat)) (c := 4700) hR (iNw (h := 129) (by decide) (by decide) (by decide)) (iNp (r := a) (by omega) (by omega)) (rfl) rfl (by omega)
            refine i_223_109 hobj (Nat.le_of_ble_eq_true rfl) hrun ?_
            refine i_223_112 (x := 128) rfl ?_
            refine i_223_113 (x := Int32.ofInt r) rfl ?_
            refine i_223_114 (x := 128) rfl ?_
            refine i_223_115 (x := Int32.ofInt a) rfl ?_
            have hobj := hR.c128
            obtain ⟨w, hrun, hR⟩ := s_exponent (d := d + 6) (r := a) hR (by omega) (by omega)
            refine i_223_116 hobj (Nat.le_of_ble_eq_true rfl) hrun ?_
            refine i_223_119 (x := Int32.ofInt n) rfl ?_
            refine i_223_120 (x := 128) rfl ?_
            refine i_223_121 (v := Value.ref 156) hR.c128 rfl ?_
            refine i_223_124 (x := Int32.ofInt a) rfl ?_
            refine i_223_125z (v := Value.int (Int32.ofInt (S 156 ((a).toNat)))) (hR.row a156) (ix0 (T := a) (by omega) (by omega)) (ix1 (T := a) (by omega) (by omega) (by omega)) (ra (T := a) (by omega) (by omega) rfl) ?_
            refine i_223_126 (x := Int32.ofInt mode) rfl ?_
            have hobj := hR.c128
            obtain ⟨w, hrun, S2, V2, hR, hP⟩ := t_rooted (d := d + 2) (r := r) (e := S 155 a.toNat - S 153 a.toNat) (n := n) (sg := S 156 ((a).toNat)) (mode := mode) (v := V (160 + 2 * a.toNat)) hR (nS.mI nS.refl (nV.up nV.refl (by omega)) hI) (uv_s) (by exact hI.nz (by omega) (by omega)) (by omega) (by omega) (by omega) (by omega) (by omega) (by omega)
            refine i_223_128 hobj (Nat.le_of_ble_eq_true rfl) hrun ?_
            refine i_223_131 ?_
            have eo : sRoot S V r.toNat a.toNat n mode = sRtd S r.toNat (S 155 a.toNat - S 153 a.toNat) n (S 156 ((a).toNat)) mode (V (160 + 2 * a.toNat)) := by clear hR hrun hP; first | grind [sRoot] | (unfold sRoot; have := tm2 n; grind)
            rw [eo]
            exact ⟨rfl, _, _, hR, oP.near nS.refl (nV.up nV.refl (by omega)) hP⟩
          · refine i_223_81 (x := 128) rfl ?_
            refine i_223_82 (x := Int32.ofInt r) rfl ?_
            refine i_223_83 (x := 128) rfl ?_
            refine i_223_84 (v := Value.ref 154) hR.c128 rfl ?_
            refine i_223_87 (x := Int32.ofInt a) rfl ?_
            refine i_223_88 (v := Value.int (Int32.ofInt (S 154 ((a).toNat)))) (hR.row a154) (ix0 (T := a) (by omega) (by omega)) (ix1 (T := a) (by omega) (by omega) (by omega)) (ra (T := a) (by omega) (by omega) rfl) ?_
            refine i_223_89 (x := 128) rfl ?_
            refine i_223_90 (v := Value.ref 156) hR.c128 rfl ?_
            refine i_223_93 (x := Int32.ofInt a) rfl ?_
            refine i_223_94z (v := Value.int (Int32.ofInt (S 156 ((a).toNat)))) (hR.row a156) (ix0 (T := a) (by omega) (by omega)) (ix1 (T := a) (by omega) (by omega) (by omega)) (ra (T := a) (by omega) (by omega) rfl) ?_
            have hobj := hR.c128
            obtain ⟨w, hrun, hR⟩ := s_special (d := d + 6) (r := r) (k := S 154 ((a).toNat)) (s := S 156 ((a).toNat)) hR (by omega) (by omega) (by omega)
            refine i_223_95 hobj (Nat.le_of_ble_eq_true rfl) hrun ?_
            refine i_223_98 ?_
            have eo : sRoot S V r.toNat a.toNat n mode = oS (S 154 ((a).toNat)) (S 156 ((a).toNat)) (S 128 19) := by clear hR hrun; first | grind [sRoot] | (unfold sRoot; have := tm2 n; grind)
            rw [eo]
            exact ⟨rfl, _, _, hR, oP_special (by omega) (by omega) nS.refl nV.refl rfl⟩
        · refine i_223_55 (x := 128) rfl ?_
          refine i_223_56 (v := Value.ref 154) hR.c128 rfl ?_
          refine i_223_59 (x := Int32.ofInt a) rfl ?_
          refine i_223_60 (v := Value.int (Int32.ofInt (S 154 ((a).toNat)))) (hR.row a154) (ix0 (T := a) (by omega) (by omega)) (ix1 (T := a) (by omega) (by omega) (by omega)) (ra (T := a) (by omega) (by omega) rfl) ?_
          refine i_223_61 ?_
          refine i_223_62 (b_eq (a := S 154 ((a).toNat)) (b := 2) ⟨by omega, by omega⟩ ⟨by decide, by decide⟩ fun c5 => ?_) (b_ne (a := S 154 ((a).toNat)) (b := 2) ⟨by omega, by omega⟩ ⟨by decide, by decide⟩ fun c5 => ?_)
          · refine i_223_71 (x := 128) rfl ?_
            refine i_223_72 (v := Value.ref 154) hR.c128 rfl ?_
            refine i_223_75 (x := Int32.ofInt a) rfl ?_
            refine i_223_76 (v := Value.int (Int32.ofInt (S 154 ((a).toNat)))) (hR.row a154) (ix0 (T := a) (by omega) (by omega)) (ix1 (T := a) (by omega) (by omega) (by omega)) (ra (T := a) (by omega) (by omega) rfl) ?_
            refine i_223_77 ?_
            refine i_223_78 (b_eq (a := S 154 ((a).toNat)) (b := 3) ⟨by omega, by omega⟩ ⟨by decide, by decide⟩ fun c6 => absurd c6 (by omega)) (b_ne (a := S 154 ((a).toNat)) (b := 3) ⟨by omega, by omega⟩ ⟨by decide, by decide⟩ fun c6 => ?_)
            refine i_223_81 (x := 128) rfl ?_
            refine i_223_82 (x := Int32.ofInt r) rfl ?_
            refine i_223_83 (x := 128) rfl ?_
            refine i_223_84 (v := Value.ref 154) hR.c128 rfl ?_
            refine i_223_87 (x := Int32.ofInt a) rfl ?_
            refine i_223_88 (v := Value.int (Int32.ofInt (S 154 ((a).toNat)))) (hR.row a154) (ix0 (T := a) (by omega) (by omega)) (ix1 (T := a) (by omega) (by omega) (by omega)) (ra (T := a) (by omega) (by omega) rfl) ?_
            refine i_223_89 (x := 128) rfl ?_
            refine i_223_90 (v := Value.ref 156) hR.c128 rfl ?_
            refine i_223_93 (x := Int32.ofInt a) rfl ?_
            refine i_223_94z (v := Value.int (Int32.ofInt (S 156 ((a).toNat)))) (hR.row a156) (ix0 (T := a) (by omega) (by omega)) (ix1 (T := a) (by omega) (by omega) (by omega)) (ra (T := a) (by omega) (by omega) rfl) ?_
            have hobj := hR.c128
            obtain ⟨w, hrun, hR⟩ := s_special (d := d + 6) (r := r) (k := S 154 ((a).toNat)) (s := S 156 ((a).toNat)) hR (by omega) (by omega) (by omega)
            refine i_223_95 hobj (Nat.le_of_ble_eq_true rfl) hrun ?_
            refine i_223_98 ?_
            have eo : sRoot S V r.toNat a.toNat n mode = oS (S 154 ((a).toNat)) (S 156 ((a).toNat)) (S 128 19) := by clear hR hrun; first | grind [sRoot] | (unfold sRoot; have := tm2 n; grind)
            rw [eo]
            exact ⟨rfl, _, _, hR, oP_special (by omega) (by omega) nS.refl nV.refl rfl⟩
          · refine i_223_65 (x := 128) rfl ?_
            refine i_223_66 (x := Int32.ofInt r) rfl ?_
            have hobj := hR.c128
            obtain ⟨w, hrun, hR⟩ := s_invalid (d := d + 5) (r := r) hR (by omega) (by omega)
            refine i_223_67 hobj (Nat.le_of_ble_eq_true rfl) hrun ?_
            refine i_223_70 ?_
            have eo : sRoot S V r.toNat a.toNat n mode = oS 0 0 (zor (S 128 19) 8) := by clear hR hrun; first | grind [sRoot] | (unfold sRoot; have := tm2 n; grind)
            rw [eo]
            exact ⟨rfl, _, _, hR, oP_flag (by omega) (by decide) nS.refl nV.refl rfl⟩
    · refine i_223_32 (x := 128) rfl ?_
      refine i_223_33 (x := Int32.ofInt r) rfl ?_
      refine i_223_34 ?_
      refine i_223_35 ?_
      have hobj := hR.c128
      obtain ⟨w, hrun, hR⟩ := s_special (d := d + 6) (r := r) (k := 0) (s := 0) hR (by omega) (by omega) (by omega)
      refine i_223_36 hobj (Nat.le_of_ble_eq_true rfl) hrun ?_
      refine i_223_39 ?_
      have eo : sRoot S V r.toNat a.toNat n mode = oS 0 0 (S 128 19) := by clear hR hrun; first | grind [sRoot] | (unfold sRoot; have := tm2 n; grind)
      rw [eo]
      exact ⟨rfl, _, _, hR, oP_special (by omega) (by decide) nS.refl nV.refl rfl⟩
  obtain ⟨o, w', h1, rfl, h2⟩ := key.run
  exact ⟨w', h1, h2⟩
theorem b_root {d : Nat} {w : xW} {r a n mode : Int} (b_r : -2147483648 ≤ r ∧ r < 2147483648) (b_a : -2147483648 ≤ a ∧ a < 2147483648) (b_n : -2147483648 ≤ n ∧ n < 2147483648) (b_mode : -2147483648 ≤ mode ∧ mode < 2147483648) (h : ¬ ((0 ≤ r ∧ r ≤ 15) ∧ (0 ≤ a ∧ a ≤ 15) ∧ (1 ≤ n ∧ n ≤ 32) ∧ (0 ≤ mode ∧ mode ≤ 4))) : xRun (d + 8) 223 [Value.ref 128, Value.int (Int32.ofInt r), Value.int (Int32.ofInt a), Value.int (Int32.ofInt n), Value.int (Int32.ofInt mode)] w (.inr w.length) (w ++ [.inr (14, [])]) := by
  refine xRun.of ?_
  refine i_223_0 (x := Int32.ofInt r) rfl ?_
  rcases Classical.em (0 ≤ r ∧ r ≤ 15) with hc1 | hc1
  · have hrun := s_reg1 (d := d + 5) (w := w) (r := r) (by omega) hc1
    refine i_223_1 (Nat.le_of_ble_eq_true rfl) hrun ?_
    refine i_223_4 (x := Int32.ofInt a) rfl ?_
    rcases Classical.em (0 ≤ a ∧ a ≤ 15) with hc2 | hc2
    · have hrun := s_reg1 (d := d + 5) (w := w) (r := a) (by omega) hc2
      refine i_223_5 (Nat.le_of_ble_eq_true rfl) hrun ?_
      refine i_223_8 (x := Int32.ofInt n) rfl ?_
      refine i_223_9 ?_
      refine i_223_10 ?_
      have hrun := s_in (d := d + 6) (w := w) (v := n) (lo := 1) (hi := 32) ⟨by omega, by omega⟩ ⟨by decide, by decide⟩ ⟨by decide, by decide⟩
      refine i_223_12 (Nat.le_of_ble_eq_true rfl) hrun ?_
      rcases Classical.em (1 ≤ n ∧ n ≤ 32) with hc3 | hc3
      · have hrun := s_ck1 (d := d + 6) (w := w) (b := (decide (1 ≤ n ∧ n ≤ 32))) (decide_eq_true hc3)
        refine i_223_15 (Nat.le_of_ble_eq_true rfl) hrun ?_
        refine i_223_18 (x := Int32.ofInt mode) rfl ?_
        rcases Classical.em (0 ≤ mode ∧ mode ≤ 4) with hc4 | hc4
        · have hrun := s_mode1 (d := d + 5) (w := w) (r := mode) (by omega) hc4
          refine i_223_20 (Nat.le_of_ble_eq_true rfl) hrun ?_
          exfalso; omega
        · have hrun := s_mode0 (d := d) (w := w) (r := mode) (by omega) hc4
          refine j_223_20 (Nat.le_of_ble_eq_true rfl) hrun (xDone.t (ci := 14) xgl rfl rfl ?_)
          exact ⟨rfl, rfl⟩
      · have hrun := s_ck0 (d := d + 1) (w := w) (b := (decide (1 ≤ n ∧ n ≤ 32))) (decide_eq_false hc3)
        refine j_223_15 (Nat.le_of_ble_eq_true rfl) hrun (xDone.t (ci := 14) xgl rfl rfl ?_)
        exact ⟨rfl, rfl⟩
    · have hrun := s_reg0 (d := d) (w := w) (r := a) (by omega) hc2
      refine j_223_5 (Nat.le_of_ble_eq_true rfl) hrun (xDone.t (ci := 14) xgl rfl rfl ?_)
      exact ⟨rfl, rfl⟩
  · have hrun := s_reg0 (d := d) (w := w) (r := r) (by omega) hc1
    refine j_223_1 (Nat.le_of_ble_eq_true rfl) hrun (xDone.t (ci := 14) xgl rfl rfl ?_)
    exact ⟨rfl, rfl⟩
set_option maxHeartbeats 8000000 in
theorem s_pow {d : Nat} {w0 w : xW} {S : Nat → Nat → Int} {V : Nat → Nat} {r a n mode : Int} (hR : mR w0 S V w) (hI : mI S V) (hr : 0 ≤ r ∧ r ≤ 15) (ha : 0 ≤ a ∧ a ≤ 15) (hn : -32 ≤ n ∧ n ≤ 32) (hmo : 0 ≤ mode ∧ mode ≤ 4) : ∃ w', xRun (d + 8) 225 [Value.ref 128, Value.int (Int32.ofInt r), Value.int (Int32.ofInt a), Value.int (Int32.ofInt n), Value.int (Int32.ofInt mode)] w (.inl (some (.int (Int32.ofInt (sPow S V r.toNat a.toNat n mode).2.2.2.2.1)))) w' ∧ ∃ S' V', mR w0 S' V' w' ∧ oP S S' V V' r.toNat (sPow S V r.toNat a.toNat n mode) := by
  obtain ⟨hp_r, -⟩ := hI.1 r.toNat (by omega)
  obtain ⟨hp_a, hk_a, hn_a, ht_a, hx_a, -⟩ := hI.1 a.toNat (by omega)
  have hi_l := hI.2.1
  have hi_g := hI.2.2.1
  have hi_f := hI.2.2.2
  have htm := tm2 n
  have hE : -800000 ≤ (S 155 a.toNat - S 153 a.toNat) * (n.natAbs : Int) ∧ (S 155 a.toNat - S 153 a.toNat) * (n.natAbs : Int) ≤ 800000 := by
    have h1 : (S 155 a.toNat - S 153 a.toNat) * (n.natAbs : Int) ≤ 25000 * (n.natAbs : Int) := Int.mul_le_mul_of_nonneg_right (by omega) (by omega)
    have h2 : -25000 * (n.natAbs : Int) ≤ (S 155 a.toNat - S 153 a.toNat) * (n.natAbs : Int) := Int.mul_le_mul_of_nonneg_right (by omega) (by omega)
    omega
  have key : xEv (d + 8) 225 0 (lv_args 0 [Value.ref 128, Value.int (Int32.ofInt r), Value.int (Int32.ofInt a), Value.int (Int32.ofInt n), Value.int (Int32.ofInt mode)]) [] w (fun o w' => o = .inl (some (.int (Int32.ofInt (sPow S V r.toNat a.toNat n mode).2.2.2.2.1))) ∧ ∃ S' V', mR w0 S' V' w' ∧ oP S S' V V' r.toNat (sPow S V r.toNat a.toNat n mode)) := by
    refine i_225_0 (x := Int32.ofInt r) rfl ?_
    have hrun := s_reg1 (d := d + 5) (w := w) (r := r) (by omega) (by omega)
    refine i_225_1 (Nat.le_of_ble_eq_true rfl) hrun ?_
    refine i_225_4 (x := Int32.ofInt a) rfl ?_
    have hrun := s_reg1 (d := d + 5) (w := w) (r := a) (by omega) (by omega)
    refine i_225_5 (Nat.le_of_ble_eq_true rfl) hrun ?_
    refine i_225_8 (x := Int32.ofInt n) rfl ?_
    refine i_225_9 ?_
    refine i_225_11 ?_
    have hrun := s_in (d := d + 6) (w := w) (v := n) (lo := (-32)) (hi := 32) ⟨by omega, by omega⟩ ⟨by decide, by decide⟩ ⟨by decide, by decide⟩
    refine i_225_13 (Nat.le_of_ble_eq_true rfl) hrun ?_
    have hrun := s_ck1 (d := d + 6) (w := w) (b := (decide ((-32) ≤ n ∧ n ≤ 32))) (decide_eq_true (by omega))
    refine i_225_16 (Nat.le_of_ble_eq_true rfl) hrun ?_
    refine i_225_19 (x := Int32.ofInt mode) rfl ?_
    have hrun := s_mode1 (d := d + 5) (w := w) (r := mode) (by omega) (by omega)
    refine i_225_21 (Nat.le_of_ble_eq_true rfl) hrun ?_
    refine i_225_24 (x := 128) rfl ?_
    refine i_225_25 (v := Value.ref 129) hR.c128 rfl ?_
    refine i_225_28 ?_
    obtain ⟨fs, hobj⟩ := hR.obj (h := 129) (iNw (h := 129) (by decide) (by decide) (by decide))
    obtain ⟨w, hrun, hR⟩ := r_setl (d := d + 5) (x := (1 : Int64)) (v := 1) hR (iNw (h := 129) (by decide) (by decide) (by decide)) rfl
    refine i_225_29 hobj (Nat.le_of_ble_eq_true rfl) hrun ?_
    refine i_225_32 (x := Int32.ofInt n) rfl ?_
    refine i_225_33 (z_ne (a := n) ⟨by omega, by omega⟩ fun c0 => ?_) (z_eq (a := n) ⟨by omega, by omega⟩ fun c0 => ?_)
    · refine i_225_51 (x := 128) rfl ?_
      refine i_225_52 (v := Value.ref 154) hR.c128 rfl ?_
      refine i_225_55 (x := Int32.ofInt a) rfl ?_
      refine i_225_56 (v := Value.int (Int32.ofInt (S 154 ((a).toNat)))) (hR.row a154) (ix0 (T := a) (by omega) (by omega)) (ix1 (T := a) (by omega) (by omega) (by omega)) (ra (T := a) (by omega) (by omega) rfl) ?_
      refine i_225_57 (z_ne (a := S 154 ((a).toNat)) ⟨by omega, by omega⟩ fun c1 => ?_) (z_eq (a := S 154 ((a).toNat)) ⟨by omega, by omega⟩ fun c1 => ?_)
      · refine i_225_68 (x := 128) rfl ?_
        refine i_225_69 (v := Value.ref 156) hR.c128 rfl ?_
        refine i_225_72 (x := Int32.ofInt a) rfl ?_
        refine i_225_73z (v := Value.int (Int32.ofInt (S 156 ((a).toNat)))) (hR.row a156) (ix0 (T := a) (by omega) (by omega)) (ix1 (T := a) (by omega) (by omega) (by omega)) (ra (T := a) (by omega) (by omega) rfl) ?_
        refine i_225_74 (z_eq (a := S 156 ((a).toNat)) ⟨by omega, by omega⟩ fun c2 => ?_) (z_ne (a := S 156 ((a).toNat)) ⟨by omega, by omega⟩ fun c2 => ?_)
        · refine i_225_87 ?_
          refine i_225_88 (lv2 := [(5, Value.int 0), (0, Value.ref 128), (1, Value.int (Int32.ofInt r)), (2, Value.int (Int32.ofInt a)), (3, Value.int (Int32.ofInt n)), (4, Value.int (Int32.ofInt mode))]) rfl ?_
          refine i_225_90 (x := 128) rfl ?_
          refine i_225_91 (v := Value.ref 154) hR.c128 rfl ?_
          refine i_225_94 (x := Int32.ofInt a) rfl ?_
          refine i_225_95 (v := Value.int (Int32.ofInt (S 154 ((a).toNat)))) (hR.row a154) (ix0 (T := a) (by omega) (by omega)) (ix1 (T := a) (by omega) (by omega) (by omega)) (ra (T := a) (by omega) (by omega) rfl) ?_
          refine i_225_96 ?_
          refine i_225_97 (b_eq (a := S 154 ((a).toNat)) (b := 3) ⟨by omega, by omega⟩ ⟨by decide, by decide⟩ fun c3 => ?_) (b_ne (a := S 154 ((a).toNat)) (b := 3) ⟨by omega, by omega⟩ ⟨by decide, by decide⟩ fun c3 => ?_)
          · refine i_225_161 (x := Int32.ofInt n) rfl ?_
            have hrun := s_abs (d := d + 6) (w := w) (a := n) (by omega)
            refine i_225_162 (Nat.le_of_ble_eq_true rfl) hrun ?_
            refine i_225_165 (lv2 := [(6, Value.int (Int32.ofInt ((n).natAbs : Int))), (5, Value.int 0), (0, Value.ref 128), (1, Value.int (Int32.ofInt r)), (2, Value.int (Int32.ofInt a)), (3, Value.int (Int32.ofInt n)), (4, Value.int (Int32.ofInt mode))]) rfl ?_
            refine i_225_167 (x := 128) rfl ?_
            refine i_225_168 (x := Int32.ofInt a) rfl ?_
            have hobj := hR.c128
            obtain ⟨w, hrun, hR⟩ := s_exponent (d := d + 6) (r := a) hR (by omega) (by omega)
            refine i_225_169 hobj (Nat.le_of_ble_eq_true rfl) hrun ?_
            refine i_225_172 (x := Int32.ofInt ((n).natAbs : Int)) rfl ?_
            refine i_225_174 (c := Int32.ofInt ((S 155 a.toNat - S 153 a.toNat) * ((n).natAbs : Int))) (o_mul (S 155 a.toNat - S 153 a.toNat) ((n).natAbs : Int)) ?_
            refine i_225_175 (lv2 := [(7, Value.int (Int32.ofInt ((S 155 a.toNat - S 153 a.toNat) * ((n).natAbs : Int)))), (6, Value.int (Int32.ofInt ((n).natAbs : Int))), (5, Value.int 0), (0, Value.ref 128), (1, Value.int (Int32.ofInt r)), (2, Value.int (Int32.ofInt a)), (3, Value.int (Int32.ofInt n)), (4, Value.int (Int32.ofInt mode))]) rfl ?_
            refine i_225_177 (x := 128) rfl ?_
            refine i_225_178 (v := Value.ref 133) hR.c128 rfl ?_
            refine i_225_181 (x := 128) rfl ?_
            refine i_225_182 (v := Value.ref 157) hR.c128 rfl ?_
            refine i_225_185 (x := Int32.ofInt a) rfl ?_
            obtain ⟨gp, hgp, hgr⟩ := hR.part (j := (a).toNat) (by omega)
            refine i_225_186 (v := Value.ref (160 + 2 * a.toNat)) hgp (ix0 (by omega) (by omega)) (ix1 (by omega) (by omega) (by omega)) (by rw [ixn (by omega) (by omega)]; exact hgr) ?_
            obtain ⟨fs, hobj⟩ := hR.obj (h := 133) (iNw (h := 133) (by decide) (by decide) (by decide))
            obtain ⟨w, hrun, hR⟩ := r_setn (d := d + 5) (v := V (160 + 2 * a.toNat)) (c := 4700) hR (iNw (h := 133) (by decide) (by decide) (by decide)) (iNp (r := a) (by omega) (by omega)) ((uv_n (by omega)).trans (rfl)) rfl (by omega)
            refine i_225_187 hobj (Nat.le_of_ble_eq_true rfl) hrun ?_
            refine i_225_190 (x := 128) rfl ?_
            refine i_225_191 (x := 128) rfl ?_
            refine i_225_192 (v := Value.ref 133) hR.c128 rfl ?_
            refine i_225_195 (x := Int32.ofInt ((n).natAbs : Int)) rfl ?_
            have hobj := hR.c128
            obtain ⟨w, u5, hrun, hR⟩ := s_raise (d := d + 4) (h := 133) (x := V (160 + 2 * a.toNat)) (n := ((n).natAbs : Int)) hR (iNw (h := 133) (by decide) (by decide) (by decide)) (by omega) (by omega) (uv_s) (by exact hI.nz (by omega) (by omega)) (by omega) (by omega) (by exact Nat.le_trans (xbl_npow _ _) (by have h9 : (n.natAbs : Int).toNat * xbl (V (160 + 2 * a.toNat)) ≤ 32 * 4096 := Nat.mul_le_mul (by omega) hx_a; omega))
            refine i_225_197 hobj (Nat.le_of_ble_eq_true rfl) hrun ?_
            refine i_225_200 (x := Int32.ofInt n) rfl ?_
            refine i_225_201 (z_le (a := n) ⟨by omega, by omega⟩ fun c5 => ?_) (z_gt (a := n) ⟨by omega, by omega⟩ fun c5 => ?_)
            · refine i_225_232 (x := 128) rfl ?_
              refine i_225_233 (v := Value.ref 133) hR.c128 rfl ?_
              refine i_225_236 ?_
              obtain ⟨fs, hobj⟩ := hR.obj (h := 133) (iNw (h := 133) (by decide) (by decide) (by decide))
              obtain ⟨w, hrun, hR⟩ := r_setl (d := d + 5) (x := (1 : Int64)) (v := 1) hR (iNw (h := 133) (by decide) (by decide) (by decide)) rfl
              refine i_225_237 hobj (Nat.le_of_ble_eq_true rfl) hrun ?_
              refine i_225_240 (x := 128) rfl ?_
              refine i_225_241 (x := Int32.ofInt r) rfl ?_
              refine i_225_242 (x := 128) rfl ?_
              refine i_225_243 (v := Value.ref 133) hR.c128 rfl ?_
              refine i_225_246 ?_
              refine i_225_247 (x := 128) rfl ?_
              refine i_225_248 (v := Value.ref 141) hR.c128 rfl ?_
              refine i_225_251 (x := Int32.ofInt ((S 155 a.toNat - S 153 a.toNat) * ((n).natAbs : Int))) rfl ?_
              refine i_225_253 (x := 0) rfl ?_
              refine i_225_255 (x := Int32.ofInt mode) rfl ?_
              have hobj := hR.c128
              obtain ⟨w, hrun, S2, V2, hR, hP⟩ := s_ratio (d := d + 2) (h := 133) (m := 1) (dd := (V (160 + 2 * a.toNat)) ^ (((n).natAbs : Int) : Int).toNat) (r := r) (e := 0) (f := (S 155 a.toNat - S 153 a.toNat) * ((n).natAbs : Int)) (sg := 0) (mode := mode) hR (nS.mI nS.refl (nV.up (nV.up (nV.up (nV.up (nV.up nV.refl (by omega)) (by omega)) (by omega)) (by omega)) (by omega)) hI) (iNw (h := 133) (by decide) (by decide) (by decide)) (by omega) (uv_s) ((uv_n (by omega)).trans (uv_s)) (by exact Nat.pos_iff_ne_zero.mp (Nat.pow_pos (Nat.pos_of_ne_zero (hI.nz (by omega) (by omega))))) (by omega) (by omega) (by omega) (by decide) (by exact Nat.le_trans (xbl_npow _ _) (by have h9 : (n.natAbs : Int).toNat * xbl (V (160 + 2 * a.toNat)) ≤ 32 * 4096 := Nat.mul_le_mul (by omega) hx_a; omega)) (by omega) (by omega) (by omega)
              refine i_225_257 hobj (Nat.le_of_ble_eq_true rfl) hrun ?_
              refine i_225_260 ?_
              have eo : sPow S V r.toNat a.toNat n mode = sRat S r.toNat 1 0 ((V (160 + 2 * a.toNat)) ^ (((n).natAbs : Int) : Int).toNat) ((S 155 a.toNat - S 153 a.toNat) * ((n).natAbs : Int)) 0 mode := by clear hR hrun hP; grind [sPow]
              rw [eo]
              exact ⟨rfl, _, _, hR, oP.near nS.refl (nV.up (nV.up (nV.up (nV.up (nV.up nV.refl (by omega)) (by omega)) (by omega)) (by omega)) (by omega)) hP⟩
            · refine i_225_204 (x := 128) rfl ?_
              refine i_225_205 (v := Value.ref 129) hR.c128 rfl ?_
              refine i_225_208 (x := 128) rfl ?_
              refine i_225_209 (v := Value.ref 141) hR.c128 rfl ?_
              obtain ⟨fs, hobj⟩ := hR.obj (h := 129) (iNw (h := 129) (by decide) (by decide) (by decide))
              obtain ⟨w, hrun, hR⟩ := r_setn (d := d + 5) (v := (V (160 + 2 * a.toNat)) ^ (((n).natAbs : Int) : Int).toNat) (c := 4700) hR (iNw (h := 129) (by decide) (by decide) (by decide)) (iNw (h := 141) (by decide) (by decide) (by decide)) (uv_s) rfl (by exact Nat.le_trans (xbl_npow _ _) (by have h9 : (n.natAbs : Int).toNat * xbl (V (160 + 2 * a.toNat)) ≤ 32 * 4096 := Nat.mul_le_mul (by omega) hx_a; omega))
              refine i_225_212 hobj (Nat.le_of_ble_eq_true rfl) hrun ?_
              refine i_225_215 (x := 128) rfl ?_
              refine i_225_216 (x := Int32.ofInt r) rfl ?_
              refine i_225_217 (x := 128) rfl ?_
              refine i_225_218 (v := Value.ref 129) hR.c128 rfl ?_
              refine i_225_221 (x := Int32.ofInt ((S 155 a.toNat - S 153 a.toNat) * ((n).natAbs : Int))) rfl ?_
              refine i_225_223 ?_
              refine i_225_224 (x := 0) rfl ?_
              refine i_225_226 (x := Int32.ofInt mode) rfl ?_
              have hobj := hR.c128
              have hx : (uv (uv (uv (uv (uv V 129 1) 133 (V (160 + 2 * a.toNat))) 151 u5) 141 ((V (160 + 2 * a.toNat)) ^ (((n).natAbs : Int) : Int).toNat)) 129 ((V (160 + 2 * a.toNat)) ^ (((n).natAbs : Int) : Int).toNat)) 129 = (V (160 + 2 * a.toNat)) ^ (((n).natAbs : Int) : Int).toNat := uv_s
              obtain ⟨w, S7, V7, hrun, hR, hP⟩ := s_round (d := d + 3) (h := 129) (r := r) (e := (S 155 a.toNat - S 153 a.toNat) * ((n).natAbs : Int)) (more := 0) (sg := 0) (mode := mode) hR (iNw (h := 129) (by decide) (by decide) (by decide)) (by omega) (by omega) (by omega) (by omega) (by omega) (by omega) (by omega) (hp_r.1) (hp_r.2) (⟨hi_l.1, Int.le_trans hi_l.2.1 hi_l.2.2⟩) (⟨Int.le_trans hi_l.1 hi_l.2.1, hi_l.2.2⟩) (hi_g) (Or.inl hi_f) (by rw [hx]; exact Nat.le_trans (xbl_npow _ _) (by have h9 : (n.natAbs : Int).toNat * xbl (V (160 + 2 * a.toNat)) ≤ 32 * 4096 := Nat.mul_le_mul (by omega) hx_a; omega))
              rw [hx] at hrun hP
              rw [hi_f] at hrun hP
              refine i_225_228 hobj (Nat.le_of_ble_eq_true rfl) hrun ?_
              refine i_225_231 ?_
              have eo : sPow S V r.toNat a.toNat n mode = oR (S 153 r.toNat) (S 128 17) (S 128 18) (S 128 20) 0 mode 0 ((V (160 + 2 * a.toNat)) ^ (((n).natAbs : Int) : Int).toNat) ((S 155 a.toNat - S 153 a.toNat) * ((n).natAbs : Int)) (S 128 19) := by clear hR hrun; grind [sPow]
              rw [eo]
              exact ⟨rfl, _, _, hR, oP_round hP (by omega) nS.refl (nV.up (nV.up (nV.up (nV.up (nV.up nV.refl (by omega)) (by omega)) (by omega)) (by omega)) (by omega))⟩
          · refine i_225_100 (x := Int32.ofInt n) rfl ?_
            refine i_225_101 (z_ge (a := n) ⟨by omega, by omega⟩ fun c7 => ?_) (z_lt (a := n) ⟨by omega, by omega⟩ fun c7 => ?_)
            · refine i_225_125 (x := 128) rfl ?_
              refine i_225_126 (x := Int32.ofInt r) rfl ?_
              refine i_225_127 (x := Int32.ofInt n) rfl ?_
              refine i_225_128 (z_le (a := n) ⟨by omega, by omega⟩ fun c8 => ?_) (z_gt (a := n) ⟨by omega, by omega⟩ fun c8 => ?_)
              · refine i_225_140 (x := 128) rfl ?_
                refine i_225_141 (v := Value.ref 154) hR.c128 rfl ?_
                refine i_225_144 (x := Int32.ofInt a) rfl ?_
                refine i_225_145 (v := Value.int (Int32.ofInt (S 154 ((a).toNat)))) (hR.row a154) (ix0 (T := a) (by omega) (by omega)) (ix1 (T := a) (by omega) (by omega) (by omega)) (ra (T := a) (by omega) (by omega) rfl) ?_
                refine i_225_146 ?_
                refine i_225_147 (b_ne (a := S 154 ((a).toNat)) (b := 2) ⟨by omega, by omega⟩ ⟨by decide, by decide⟩ fun c9 => ?_) (b_eq (a := S 154 ((a).toNat)) (b := 2) ⟨by omega, by omega⟩ ⟨by decide, by decide⟩ fun c9 => ?_)
                · refine i_225_154 ?_
                  refine i_225_155 (x := 0) rfl ?_
                  have hobj := hR.c128
                  obtain ⟨w, hrun, hR⟩ := s_special (d := d + 6) (r := r) (k := 2) (s := 0) hR (by omega) (by omega) (by omega)
                  refine i_225_157 hobj (Nat.le_of_ble_eq_true rfl) hrun ?_
                  refine i_225_160 ?_
                  have eo : sPow S V r.toNat a.toNat n mode = oS 2 0 (S 128 19) := by clear hR hrun; grind [sPow]
                  rw [eo]
                  exact ⟨rfl, _, _, hR, oP_special (by omega) (by decide) nS.refl (nV.up nV.refl (by omega)) rfl⟩
                · refine i_225_150 ?_
                  refine i_225_151 ?_
                  refine i_225_155 (x := 0) rfl ?_
                  have hobj := hR.c128
                  obtain ⟨w, hrun, hR⟩ := s_special (d := d + 6) (r := r) (k := 1) (s := 0) hR (by omega) (by omega) (by omega)
                  refine i_225_157 hobj (Nat.le_of_ble_eq_true rfl) hrun ?_
                  refine i_225_160 ?_
                  have eo : sPow S V r.toNat a.toNat n mode = oS 1 0 (S 128 19) := by clear hR hrun; grind [sPow]
                  rw [eo]
                  exact ⟨rfl, _, _, hR, oP_special (by omega) (by decide) nS.refl (nV.up nV.refl (by omega)) rfl⟩
              · refine i_225_131 (x := 128) rfl ?_
                refine i_225_132 (v := Value.ref 154) hR.c128 rfl ?_
                refine i_225_135 (x := Int32.ofInt a) rfl ?_
                refine i_225_136 (v := Value.int (Int32.ofInt (S 154 ((a).toNat)))) (hR.row a154) (ix0 (T := a) (by omega) (by omega)) (ix1 (T := a) (by omega) (by omega) (by omega)) (ra (T := a) (by omega) (by omega) rfl) ?_
                refine i_225_137 ?_
                refine i_225_155 (x := 0) rfl ?_
                have hobj := hR.c128
                obtain ⟨w, hrun, hR⟩ := s_special (d := d + 6) (r := r) (k := S 154 ((a).toNat)) (s := 0) hR (by omega) (by omega) (by omega)
                refine i_225_157 hobj (Nat.le_of_ble_eq_true rfl) hrun ?_
                refine i_225_160 ?_
                have eo : sPow S V r.toNat a.toNat n mode = oS (S 154 ((a).toNat)) 0 (S 128 19) := by clear hR hrun; grind [sPow]
                rw [eo]
                exact ⟨rfl, _, _, hR, oP_special (by omega) (by omega) nS.refl (nV.up nV.refl (by omega)) rfl⟩
            · refine i_225_104 (x := 128) rfl ?_
              refine i_225_105 (v := Value.ref 154) hR.c128 rfl ?_
              refine i_225_108 (x := Int32.ofInt a) rfl ?_
              refine i_225_109 (v := Value.int (Int32.ofInt (S 154 ((a).toNat)))) (hR.row a154) (ix0 (T := a) (by omega) (by omega)) (ix1 (T := a) (by omega) (by omega) (by omega)) (ra (T := a) (by omega) (by omega) rfl) ?_
              refine i_225_110 ?_
              refine i_225_111 (b_ne (a := S 154 ((a).toNat)) (b := 2) ⟨by omega, by omega⟩ ⟨by decide, by decide⟩ fun c10 => ?_) (b_eq (a := S 154 ((a).toNat)) (b := 2) ⟨by omega, by omega⟩ ⟨by decide, by decide⟩ fun c10 => ?_)
              · refine i_225_125 (x := 128) rfl ?_
                refine i_225_126 (x := Int32.ofInt r) rfl ?_
                refine i_225_127 (x := Int32.ofInt n) rfl ?_
                refine i_225_128 (z_le (a := n) ⟨by omega, by omega⟩ fun c11 => ?_) (z_gt (a := n) ⟨by omega, by omega⟩ fun c11 => absurd c11 (by omega))
                refine i_225_140 (x := 128) rfl ?_
                refine i_225_141 (v := Value.ref 154) hR.c128 rfl ?_
                refine i_225_144 (x := Int32.ofInt a) rfl ?_
                refine i_225_145 (v := Value.int (Int32.ofInt (S 154 ((a).toNat)))) (hR.row a154) (ix0 (T := a) (by omega) (by omega)) (ix1 (T := a) (by omega) (by omega) (by omega)) (ra (T := a) (by omega) (by omega) rfl) ?_
                refine i_225_146 ?_
                refine i_225_147 (b_ne (a := S 154 ((a).toNat)) (b := 2) ⟨by omega, by omega⟩ ⟨by decide, by decide⟩ fun c12 => ?_) (b_eq (a := S 154 ((a).toNat)) (b := 2) ⟨by omega, by omega⟩ ⟨by decide, by decide⟩ fun c12 => absurd c12 (by omega))
                refine i_225_154 ?_
                refine i_225_155 (x := 0) rfl ?_
                have hobj := hR.c128
                obtain ⟨w, hrun, hR⟩ := s_special (d := d + 6) (r := r) (k := 2) (s := 0) hR (by omega) (by omega) (by omega)
                refine i_225_157 hobj (Nat.le_of_ble_eq_true rfl) hrun ?_
                refine i_225_160 ?_
                have eo : sPow S V r.toNat a.toNat n mode = oS 2 0 (S 128 19) := by clear hR hrun; grind [sPow]
                rw [eo]
                exact ⟨rfl, _, _, hR, oP_special (by omega) (by decide) nS.refl (nV.up nV.refl (by omega)) rfl⟩
              · refine i_225_114 (x := 128) rfl ?_
                refine i_225_115 rfl ?_
                refine i_225_116 (v := Value.int (Int32.ofInt (S 128 19))) hR.c128 rfl ?_
                refine i_225_119 ?_
                refine i_225_121 (c := Int32.ofInt (zor (S 128 19) 16)) (o_or (S 128 19) 16) ?_
                refine i_225_122 (fs2 := mf (u1 (S 128) 19 (zor (S 128 19) 16))) hR.c128 (Nat.le_of_ble_eq_true rfl) (mfs_19 (v := zor (S 128 19) 16)) (by decide) ?_
                refine xgen (P := mR w0 (u2 S 128 19 (zor (S 128 19) 16)) (uv V 129 1)) hR.fld2 (fun w hR => ?_)
                refine i_225_125 (x := 128) rfl ?_
                refine i_225_126 (x := Int32.ofInt r) rfl ?_
                refine i_225_127 (x := Int32.ofInt n) rfl ?_
                refine i_225_128 (z_le (a := n) ⟨by omega, by omega⟩ fun c13 => ?_) (z_gt (a := n) ⟨by omega, by omega⟩ fun c13 => absurd c13 (by omega))
                refine i_225_140 (x := 128) rfl ?_
                refine i_225_141 (v := Value.ref 154) hR.c128 rfl ?_
                refine i_225_144 (x := Int32.ofInt a) rfl ?_
                refine i_225_145 (v := Value.int (Int32.ofInt (S 154 ((a).toNat)))) (hR.row a154) (ix0 (T := a) (by omega) (by omega)) (ix1 (T := a) (by omega) (by omega) (by omega)) (ra (T := a) (by omega) (by omega) rfl) ?_
                refine i_225_146 ?_
                refine i_225_147 (b_ne (a := S 154 ((a).toNat)) (b := 2) ⟨by omega, by omega⟩ ⟨by decide, by decide⟩ fun c14 => absurd c14 (by omega)) (b_eq (a := S 154 ((a).toNat)) (b := 2) ⟨by omega, by omega⟩ ⟨by decide, by decide⟩ fun c14 => ?_)
                refine i_225_150 ?_
                refine i_225_151 ?_
                refine i_225_155 (x := 0) rfl ?_
                have hobj := hR.c128
                obtain ⟨w, hrun, hR⟩ := s_special (d := d + 6) (r := r) (k := 1) (s := 0) hR (by omega) (by omega) (by omega)
                refine i_225_157 hobj (Nat.le_of_ble_eq_true rfl) hrun ?_
                refine i_225_160 ?_
                have eo : sPow S V r.toNat a.toNat n mode = oS 1 0 (zor (S 128 19) 16) := by clear hR hrun; grind [sPow]
                rw [eo]
                exact ⟨rfl, _, _, hR, oP_flag (by omega) (by decide) nS.refl (nV.up nV.refl (by omega)) rfl⟩
        · refine i_225_77 (x := Int32.ofInt n) rfl ?_
          refine i_225_78 ?_
          refine i_225_79 (c := Int32.ofInt (Int.tmod n 2)) (o_nz (b := 2) ⟨by decide, by decide⟩) (o_tmod (a := n) (b := 2) ⟨by omega, by omega⟩ ⟨by decide, by decide⟩) ?_
          refine i_225_80 (z_eq (a := Int.tmod n 2) ⟨by omega, by omega⟩ fun c15 => ?_) (z_ne (a := Int.tmod n 2) ⟨by omega, by omega⟩ fun c15 => ?_)
          · refine i_225_87 ?_
            refine i_225_88 (lv2 := [(5, Value.int 0), (0, Value.ref 128), (1, Value.int (Int32.ofInt r)), (2, Value.int (Int32.ofInt a)), (3, Value.int (Int32.ofInt n)), (4, Value.int (Int32.ofInt mode))]) rfl ?_
            refine i_225_90 (x := 128) rfl ?_
            refine i_225_91 (v := Value.ref 154) hR.c128 rfl ?_
            refine i_225_94 (x := Int32.ofInt a) rfl ?_
            refine i_225_95 (v := Value.int (Int32.ofInt (S 154 ((a).toNat)))) (hR.row a154) (ix0 (T := a) (by omega) (by omega)) (ix1 (T := a) (by omega) (by omega) (by omega)) (ra (T := a) (by omega) (by omega) rfl) ?_
            refine i_225_96 ?_
            refine i_225_97 (b_eq (a := S 154 ((a).toNat)) (b := 3) ⟨by omega, by omega⟩ ⟨by decide, by decide⟩ fun c16 => ?_) (b_ne (a := S 154 ((a).toNat)) (b := 3) ⟨by omega, by omega⟩ ⟨by decide, by decide⟩ fun c16 => ?_)
            · refine i_225_161 (x := Int32.ofInt n) rfl ?_
              have hrun := s_abs (d := d + 6) (w := w) (a := n) (by omega)
              refine i_225_162 (Nat.le_of_ble_eq_true rfl) hrun ?_
              refine i_225_165 (lv2 := [(6, Value.int (Int32.ofInt ((n).natAbs : Int))), (5, Value.int 0), (0, Value.ref 128), (1, Value.int (Int32.ofInt r)), (2, Value.int (Int32.ofInt a)), (3, Value.int (Int32.ofInt n)), (4, Value.int (Int32.ofInt mode))]) rfl ?_
              refine i_225_167 (x := 128) rfl ?_
              refine i_225_168 (x := Int32.ofInt a) rfl ?_
              have hobj := hR.c128
              obtain ⟨w, hrun, hR⟩ := s_exponent (d := d + 6) (r := a) hR (by omega) (by omega)
              refine i_225_169 hobj (Nat.le_of_ble_eq_true rfl) hrun ?_
              refine i_225_172 (x := Int32.ofInt ((n).natAbs : Int)) rfl ?_
              refine i_225_174 (c := Int32.ofInt ((S 155 a.toNat - S 153 a.toNat) * ((n).natAbs : Int))) (o_mul (S 155 a.toNat - S 153 a.toNat) ((n).natAbs : Int)) ?_
              refine i_225_175 (lv2 := [(7, Value.int (Int32.ofInt ((S 155 a.toNat - S 153 a.toNat) * ((n).natAbs : Int)))), (6, Value.int (Int32.ofInt ((n).natAbs : Int))), (5, Value.int 0), (0, Value.ref 128), (1, Value.int (Int32.ofInt r)), (2, Value.int (Int32.ofInt a)), (3, Value.int (Int32.ofInt n)), (4, Value.int (Int32.ofInt mode))]) rfl ?_
              refine i_225_177 (x := 128) rfl ?_
              refine i_225_178 (v := Value.ref 133) hR.c128 rfl ?_
              refine i_225_181 (x := 128) rfl ?_
              refine i_225_182 (v := Value.ref 157) hR.c128 rfl ?_
              refine i_225_185 (x := Int32.ofInt a) rfl ?_
              obtain ⟨gp, hgp, hgr⟩ := hR.part (j := (a).toNat) (by omega)
              refine i_225_186 (v := Value.ref (160 + 2 * a.toNat)) hgp (ix0 (by omega) (by omega)) (ix1 (by omega) (by omega) (by omega)) (by rw [ixn (by omega) (by omega)]; exact hgr) ?_
              obtain ⟨fs, hobj⟩ := hR.obj (h := 133) (iNw (h := 133) (by decide) (by decide) (by decide))
              obtain ⟨w, hrun, hR⟩ := r_setn (d := d + 5) (v := V (160 + 2 * a.toNat)) (c := 4700) hR (iNw (h := 133) (by decide) (by decide) (by decide)) (iNp (r := a) (by omega) (by omega)) ((uv_n (by omega)).trans (rfl)) rfl (by omega)
              refine i_225_187 hobj (Nat.le_of_ble_eq_true rfl) hrun ?_
              refine i_225_190 (x := 128) rfl ?_
              refine i_225_191 (x := 128) rfl ?_
              refine i_225_192 (v := Value.ref 133) hR.c128 rfl ?_
              refine i_225_195 (x := Int32.ofInt ((n).natAbs : Int)) rfl ?_
              have hobj := hR.c128
              obtain ⟨w, u18, hrun, hR⟩ := s_raise (d := d + 4) (h := 133) (x := V (160 + 2 * a.toNat)) (n := ((n).natAbs : Int)) hR (iNw (h := 133) (by decide) (by decide) (by decide)) (by omega) (by omega) (uv_s) (by exact hI.nz (by omega) (by omega)) (by omega) (by omega) (by exact Nat.le_trans (xbl_npow _ _) (by have h9 : (n.natAbs : Int).toNat * xbl (V (160 + 2 * a.toNat)) ≤ 32 * 4096 := Nat.mul_le_mul (by omega) hx_a; omega))
              refine i_225_197 hobj (Nat.le_of_ble_eq_true rfl) hrun ?_
              refine i_225_200 (x := Int32.ofInt n) rfl ?_
              refine i_225_201 (z_le (a := n) ⟨by omega, by omega⟩ fun c18 => ?_) (z_gt (a := n) ⟨by omega, by omega⟩ fun c18 => ?_)
              · refine i_225_232 (x := 128) rfl ?_
                refine i_225_233 (v := Value.ref 133) hR.c128 rfl ?_
                refine i_225_236 ?_
                obtain ⟨fs, hobj⟩ := hR.obj (h := 133) (iNw (h := 133) (by decide) (by decide) (by decide))
                obtain ⟨w, hrun, hR⟩ := r_setl (d := d + 5) (x := (1 : Int64)) (v := 1) hR (iNw (h := 133) (by decide) (by decide) (by decide)) rfl
                refine i_225_237 hobj (Nat.le_of_ble_eq_true rfl) hrun ?_
                refine i_225_240 (x := 128) rfl ?_
                refine i_225_241 (x := Int32.ofInt r) rfl ?_
                refine i_225_242 (x := 128) rfl ?_
                refine i_225_243 (v := Value.ref 133) hR.c128 rfl ?_
                refine i_225_246 ?_
                refine i_225_247 (x := 128) rfl ?_
                refine i_225_248 (v := Value.ref 141) hR.c128 rfl ?_
                refine i_225_251 (x := Int32.ofInt ((S 155 a.toNat - S 153 a.toNat) * ((n).natAbs : Int))) rfl ?_
                refine i_225_253 (x := 0) rfl ?_
                refine i_225_255 (x := Int32.ofInt mode) rfl ?_
                have hobj := hR.c128
                obtain ⟨w, hrun, S2, V2, hR, hP⟩ := s_ratio (d := d + 2) (h := 133) (m := 1) (dd := (V (160 + 2 * a.toNat)) ^ (((n).natAbs : Int) : Int).toNat) (r := r) (e := 0) (f := (S 155 a.toNat - S 153 a.toNat) * ((n).natAbs : Int)) (sg := 0) (mode := mode) hR (nS.mI nS.refl (nV.up (nV.up (nV.up (nV.up (nV.up nV.refl (by omega)) (by omega)) (by omega)) (by omega)) (by omega)) hI) (iNw (h := 133) (by decide) (by decide) (by decide)) (by omega) (uv_s) ((uv_n (by omega)).trans (uv_s)) (by exact Nat.pos_iff_ne_zero.mp (Nat.pow_pos (Nat.pos_of_ne_zero (hI.nz (by omega) (by omega))))) (by omega) (by omega) (by omega) (by decide) (by exact Nat.le_trans (xbl_npow _ _) (by have h9 : (n.natAbs : Int).toNat * xbl (V (160 + 2 * a.toNat)) ≤ 32 * 4096 := Nat.mul_le_mul (by omega) hx_a; omega)) (by omega) (by omega) (by omega)
                refine i_225_257 hobj (Nat.le_of_ble_eq_true rfl) hrun ?_
                refine i_225_260 ?_
                have eo : sPow S V r.toNat a.toNat n mode = sRat S r.toNat 1 0 ((V (160 + 2 * a.toNat)) ^ (((n).natAbs : Int) : Int).toNat) ((S 155 a.toNat - S 153 a.toNat) * ((n).natAbs : Int)) 0 mode := by clear hR hrun hP; grind [sPow]
                rw [eo]
                exact ⟨rfl, _, _, hR, oP.near nS.refl (nV.up (nV.up (nV.up (nV.up (nV.up nV.refl (by omega)) (by omega)) (by omega)) (by omega)) (by omega)) hP⟩
              · refine i_225_204 (x := 128) rfl ?_
                refine i_225_205 (v := Value.ref 129) hR.c128 rfl ?_
                refine i_225_208 (x := 128) rfl ?_
                refine i_225_209 (v := Value.ref 141) hR.c128 rfl ?_
                obtain ⟨fs, hobj⟩ := hR.obj (h := 129) (iNw (h := 129) (by decide) (by decide) (by decide))
                obtain ⟨w, hrun, hR⟩ := r_setn (d := d + 5) (v := (V (160 + 2 * a.toNat)) ^ (((n).natAbs : Int) : Int).toNat) (c := 4700) hR (iNw (h := 129) (by decide) (by decide) (by decide)) (iNw (h := 141) (by decide) (by decide) (by decide)) (uv_s) rfl (by exact Nat.le_trans (xbl_npow _ _) (by have h9 : (n.natAbs : Int).toNat * xbl (V (160 + 2 * a.toNat)) ≤ 32 * 4096 := Nat.mul_le_mul (by omega) hx_a; omega))
                refine i_225_212 hobj (Nat.le_of_ble_eq_true rfl) hrun ?_
                refine i_225_215 (x := 128) rfl ?_
                refine i_225_216 (x := Int32.ofInt r) rfl ?_
                refine i_225_217 (x := 128) rfl ?_
                refine i_225_218 (v := Value.ref 129) hR.c128 rfl ?_
                refine i_225_221 (x := Int32.ofInt ((S 155 a.toNat - S 153 a.toNat) * ((n).natAbs : Int))) rfl ?_
                refine i_225_223 ?_
                refine i_225_224 (x := 0) rfl ?_
                refine i_225_226 (x := Int32.ofInt mode) rfl ?_
                have hobj := hR.c128
                have hx : (uv (uv (uv (uv (uv V 129 1) 133 (V (160 + 2 * a.toNat))) 151 u18) 141 ((V (160 + 2 * a.toNat)) ^ (((n).natAbs : Int) : Int).toNat)) 129 ((V (160 + 2 * a.toNat)) ^ (((n).natAbs : Int) : Int).toNat)) 129 = (V (160 + 2 * a.toNat)) ^ (((n).natAbs : Int) : Int).toNat := uv_s
                obtain ⟨w, S20, V20, hrun, hR, hP⟩ := s_round (d := d + 3) (h := 129) (r := r) (e := (S 155 a.toNat - S 153 a.toNat) * ((n).natAbs : Int)) (more := 0) (sg := 0) (mode := mode) hR (iNw (h := 129) (by decide) (by decide) (by decide)) (by omega) (by omega) (by omega) (by omega) (by omega) (by omega) (by omega) (hp_r.1) (hp_r.2) (⟨hi_l.1, Int.le_trans hi_l.2.1 hi_l.2.2⟩) (⟨Int.le_trans hi_l.1 hi_l.2.1, hi_l.2.2⟩) (hi_g) (Or.inl hi_f) (by rw [hx]; exact Nat.le_trans (xbl_npow _ _) (by have h9 : (n.natAbs : Int).toNat * xbl (V (160 + 2 * a.toNat)) ≤ 32 * 4096 := Nat.mul_le_mul (by omega) hx_a; omega))
                rw [hx] at hrun hP
                rw [hi_f] at hrun hP
                refine i_225_228 hobj (Nat.le_of_ble_eq_true rfl) hrun ?_
                refine i_225_231 ?_
                have eo : sPow S V r.toNat a.toNat n mode = oR (S 153 r.toNat) (S 128 17) (S 128 18) (S 128 20) 0 mode 0 ((V (160 + 2 * a.toNat)) ^ (((n).natAbs : Int) : Int).toNat) ((S 155 a.toNat - S 153 a.toNat) * ((n).natAbs : Int)) (S 128 19) := by clear hR hrun; grind [sPow]
                rw [eo]
                exact ⟨rfl, _, _, hR, oP_round hP (by omega) nS.refl (nV.up (nV.up (nV.up (nV.up (nV.up nV.refl (by omega)) (by omega)) (by omega)) (by omega)) (by omega))⟩
            · refine i_225_100 (x := Int32.ofInt n) rfl ?_
              refine i_225_101 (z_ge (a := n) ⟨by omega, by omega⟩ fun c20 => ?_) (z_lt (a := n) ⟨by omega, by omega⟩ fun c20 => ?_)
              · refine i_225_125 (x := 128) rfl ?_
                refine i_225_126 (x := Int32.ofInt r) rfl ?_
                refine i_225_127 (x := Int32.ofInt n) rfl ?_
                refine i_225_128 (z_le (a := n) ⟨by omega, by omega⟩ fun c21 => ?_) (z_gt (a := n) ⟨by omega, by omega⟩ fun c21 => ?_)
                · refine i_225_140 (x := 128) rfl ?_
                  refine i_225_141 (v := Value.ref 154) hR.c128 rfl ?_
                  refine i_225_144 (x := Int32.ofInt a) rfl ?_
                  refine i_225_145 (v := Value.int (Int32.ofInt (S 154 ((a).toNat)))) (hR.row a154) (ix0 (T := a) (by omega) (by omega)) (ix1 (T := a) (by omega) (by omega) (by omega)) (ra (T := a) (by omega) (by omega) rfl) ?_
                  refine i_225_146 ?_
                  refine i_225_147 (b_ne (a := S 154 ((a).toNat)) (b := 2) ⟨by omega, by omega⟩ ⟨by decide, by decide⟩ fun c22 => ?_) (b_eq (a := S 154 ((a).toNat)) (b := 2) ⟨by omega, by omega⟩ ⟨by decide, by decide⟩ fun c22 => ?_)
                  · refine i_225_154 ?_
                    refine i_225_155 (x := 0) rfl ?_
                    have hobj := hR.c128
                    obtain ⟨w, hrun, hR⟩ := s_special (d := d + 6) (r := r) (k := 2) (s := 0) hR (by omega) (by omega) (by omega)
                    refine i_225_157 hobj (Nat.le_of_ble_eq_true rfl) hrun ?_
                    refine i_225_160 ?_
                    have eo : sPow S V r.toNat a.toNat n mode = oS 2 0 (S 128 19) := by clear hR hrun; grind [sPow]
                    rw [eo]
                    exact ⟨rfl, _, _, hR, oP_special (by omega) (by decide) nS.refl (nV.up nV.refl (by omega)) rfl⟩
                  · refine i_225_150 ?_
                    refine i_225_151 ?_
                    refine i_225_155 (x := 0) rfl ?_
                    have hobj := hR.c128
                    obtain ⟨w, hrun, hR⟩ := s_special (d := d + 6) (r := r) (k := 1) (s := 0) hR (by omega) (by omega) (by omega)
                    refine i_225_157 hobj (Nat.le_of_ble_eq_true rfl) hrun ?_
                    refine i_225_160 ?_
                    have eo : sPow S V r.toNat a.toNat n mode = oS 1 0 (S 128 19) := by clear hR hrun; grind [sPow]
                    rw [eo]
                    exact ⟨rfl, _, _, hR, oP_special (by omega) (by decide) nS.refl (nV.up nV.refl (by omega)) rfl⟩
                · refine i_225_131 (x := 128) rfl ?_
                  refine i_225_132 (v := Value.ref 154) hR.c128 rfl ?_
                  refine i_225_135 (x := Int32.ofInt a) rfl ?_
                  refine i_225_136 (v := Value.int (Int32.ofInt (S 154 ((a).toNat)))) (hR.row a154) (ix0 (T := a) (by omega) (by omega)) (ix1 (T := a) (by omega) (by omega) (by omega)) (ra (T := a) (by omega) (by omega) rfl) ?_
                  refine i_225_137 ?_
                  refine i_225_155 (x := 0) rfl ?_
                  have hobj := hR.c128
                  obtain ⟨w, hrun, hR⟩ := s_special (d := d + 6) (r := r) (k := S 154 ((a).toNat)) (s := 0) hR (by omega) (by omega) (by omega)
                  refine i_225_157 hobj (Nat.le_of_ble_eq_true rfl) hrun ?_
                  refine i_225_160 ?_
                  have eo : sPow S V r.toNat a.toNat n mode = oS (S 154 ((a).toNat)) 0 (S 128 19) := by clear hR hrun; grind [sPow]
                  rw [eo]
                  exact ⟨rfl, _, _, hR, oP_special (by omega) (by omega) nS.refl (nV.up nV.refl (by omega)) rfl⟩
              · refine i_225_104 (x := 128) rfl ?_
                refine i_225_105 (v := Value.ref 154) hR.c128 rfl ?_
                refine i_225_108 (x := Int32.ofInt a) rfl ?_
                refine i_225_109 (v := Value.int (Int32.ofInt (S 154 ((a).toNat)))) (hR.row a154) (ix0 (T := a) (by omega) (by omega)) (ix1 (T := a) (by omega) (by omega) (by omega)) (ra (T := a) (by omega) (by omega) rfl) ?_
                refine i_225_110 ?_
                refine i_225_111 (b_ne (a := S 154 ((a).toNat)) (b := 2) ⟨by omega, by omega⟩ ⟨by decide, by decide⟩ fun c23 => ?_) (b_eq (a := S 154 ((a).toNat)) (b := 2) ⟨by omega, by omega⟩ ⟨by decide, by decide⟩ fun c23 => ?_)
                · refine i_225_125 (x := 128) rfl ?_
                  refine i_225_126 (x := Int32.ofInt r) rfl ?_
                  refine i_225_127 (x := Int32.ofInt n) rfl ?_
                  refine i_225_128 (z_le (a := n) ⟨by omega, by omega⟩ fun c24 => ?_) (z_gt (a := n) ⟨by omega, by omega⟩ fun c24 => absurd c24 (by omega))
                  refine i_225_140 (x := 128) rfl ?_
                  refine i_225_141 (v := Value.ref 154) hR.c128 rfl ?_
                  refine i_225_144 (x := Int32.ofInt a) rfl ?_
                  refine i_225_145 (v := Value.int (Int32.ofInt (S 154 ((a).toNat)))) (hR.row a154) (ix0 (T := a) (by omega) (by omega)) (ix1 (T := a) (by omega) (by omega) (by omega)) (ra (T := a) (by omega) (by omega) rfl) ?_
                  refine i_225_146 ?_
                  refine i_225_147 (b_ne (a := S 154 ((a).toNat)) (b := 2) ⟨by omega, by omega⟩ ⟨by decide, by decide⟩ fun c25 => ?_) (b_eq (a := S 154 ((a).toNat)) (b := 2) ⟨by omega, by omega⟩ ⟨by decide, by decide⟩ fun c25 => absurd c25 (by omega))
                  refine i_225_154 ?_
                  refine i_225_155 (x := 0) rfl ?_
                  have hobj := hR.c128
                  obtain ⟨w, hrun, hR⟩ := s_special (d := d + 6) (r := r) (k := 2) (s := 0) hR (by omega) (by omega) (by omega)
                  refine i_225_157 hobj (Nat.le_of_ble_eq_true rfl) hrun ?_
                  refine i_225_160 ?_
                  have eo : sPow S V r.toNat a.toNat n mode = oS 2 0 (S 128 19) := by clear hR hrun; grind [sPow]
                  rw [eo]
                  exact ⟨rfl, _, _, hR, oP_special (by omega) (by decide) nS.refl (nV.up nV.refl (by omega)) rfl⟩
                · refine i_225_114 (x := 128) rfl ?_
                  refine i_225_115 rfl ?_
                  refine i_225_116 (v := Value.int (Int32.ofInt (S 128 19))) hR.c128 rfl ?_
                  refine i_225_119 ?_
                  refine i_225_121 (c := Int32.ofInt (zor (S 128 19) 16)) (o_or (S 128 19) 16) ?_
                  refine i_225_122 (fs2 := mf (u1 (S 128) 19 (zor (S 128 19) 16))) hR.c128 (Nat.le_of_ble_eq_true rfl) (mfs_19 (v := zor (S 128 19) 16)) (by decide) ?_
                  refine xgen (P := mR w0 (u2 S 128 19 (zor (S 128 19) 16)) (uv V 129 1)) hR.fld2 (fun w hR => ?_)
                  refine i_225_125 (x := 128) rfl ?_
                  refine i_225_126 (x := Int32.ofInt r) rfl ?_
                  refine i_225_127 (x := Int32.ofInt n) rfl ?_
                  refine i_225_128 (z_le (a := n) ⟨by omega, by omega⟩ fun c26 => ?_) (z_gt (a := n) ⟨by omega, by omega⟩ fun c26 => absurd c26 (by omega))
                  refine i_225_140 (x := 128) rfl ?_
                  refine i_225_141 (v := Value.ref 154) hR.c128 rfl ?_
                  refine i_225_144 (x := Int32.ofInt a) rfl ?_
                  refine i_225_145 (v := Value.int (Int32.ofInt (S 154 ((a).toNat)))) (hR.row a154) (ix0 (T := a) (by omega) (by omega)) (ix1 (T := a) (by omega) (by omega) (by omega)) (ra (T := a) (by omega) (by omega) rfl) ?_
                  refine i_225_146 ?_
                  refine i_225_147 (b_ne (a := S 154 ((a).toNat)) (b := 2) ⟨by omega, by omega⟩ ⟨by decide, by decide⟩ fun c27 => absurd c27 (by omega)) (b_eq (a := S 154 ((a).toNat)) (b := 2) ⟨by omega, by omega⟩ ⟨by decide, by decide⟩ fun c27 => ?_)
                  refine i_225_150 ?_
                  refine i_225_151 ?_
                  refine i_225_155 (x := 0) rfl ?_
                  have hobj := hR.c128
                  obtain ⟨w, hrun, hR⟩ := s_special (d := d + 6) (r := r) (k := 1) (s := 0) hR (by omega) (by omega) (by omega)
                  refine i_225_157 hobj (Nat.le_of_ble_eq_true rfl) hrun ?_
                  refine i_225_160 ?_
                  have eo : sPow S V r.toNat a.toNat n mode = oS 1 0 (zor (S 128 19) 16) := by clear hR hrun; grind [sPow]
                  rw [eo]
                  exact ⟨rfl, _, _, hR, oP_flag (by omega) (by decide) nS.refl (nV.up nV.refl (by omega)) rfl⟩
          · refine i_225_83 ?_
            refine i_225_84 ?_
            refine i_225_88 (lv2 := [(5, Value.int 1), (0, Value.ref 128), (1, Value.int (Int32.ofInt r)), (2, Value.int (Int32.ofInt a)), (3, Value.int (Int32.ofInt n)), (4, Value.int (Int32.ofInt mode))]) rfl ?_
            refine i_225_90 (x := 128) rfl ?_
            refine i_225_91 (v := Value.ref 154) hR.c128 rfl ?_
            refine i_225_94 (x := Int32.ofInt a) rfl ?_
            refine i_225_95 (v := Value.int (Int32.ofInt (S 154 ((a).toNat)))) (hR.row a154) (ix0 (T := a) (by omega) (by omega)) (ix1 (T := a) (by omega) (by omega) (by omega)) (ra (T := a) (by omega) (by omega) rfl) ?_
            refine i_225_96 ?_
            refine i_225_97 (b_eq (a := S 154 ((a).toNat)) (b := 3) ⟨by omega, by omega⟩ ⟨by decide, by decide⟩ fun c28 => ?_) (b_ne (a := S 154 ((a).toNat)) (b := 3) ⟨by omega, by omega⟩ ⟨by decide, by decide⟩ fun c28 => ?_)
            · refine i_225_161 (x := Int32.ofInt n) rfl ?_
              have hrun := s_abs (d := d + 6) (w := w) (a := n) (by omega)
              refine i_225_162 (Nat.le_of_ble_eq_true rfl) hrun ?_
              refine i_225_165 (lv2 := [(6, Value.int (Int32.ofInt ((n).natAbs : Int))), (5, Value.int 1), (0, Value.ref 128), (1, Value.int (Int32.ofInt r)), (2, Value.int (Int32.ofInt a)), (3, Value.int (Int32.ofInt n)), (4, Value.int (Int32.ofInt mode))]) rfl ?_
              refine i_225_167 (x := 128) rfl ?_
              refine i_225_168 (x := Int32.ofInt a) rfl ?_
              have hobj := hR.c128
              obtain ⟨w, hrun, hR⟩ := s_exponent (d := d + 6) (r := a) hR (by omega) (by omega)
              refine i_225_169 hobj (Nat.le_of_ble_eq_true rfl) hrun ?_
              refine i_225_172 (x := Int32.ofInt ((n).natAbs : Int)) rfl ?_
              refine i_225_174 (c := Int32.ofInt ((S 155 a.toNat - S 153 a.toNat) * ((n).natAbs : Int))) (o_mul (S 155 a.toNat - S 153 a.toNat) ((n).natAbs : Int)) ?_
              refine i_225_175 (lv2 := [(7, Value.int (Int32.ofInt ((S 155 a.toNat - S 153 a.toNat) * ((n).natAbs : Int)))), (6, Value.int (Int32.ofInt ((n).natAbs : Int))), (5, Value.int 1), (0, Value.ref 128), (1, Value.int (Int32.ofInt r)), (2, Value.int (Int32.ofInt a)), (3, Value.int (Int32.ofInt n)), (4, Value.int (Int32.ofInt mode))]) rfl ?_
              refine i_225_177 (x := 128) rfl ?_
              refine i_225_178 (v := Value.ref 133) hR.c128 rfl ?_
              refine i_225_181 (x := 128) rfl ?_
              refine i_225_182 (v := Value.ref 157) hR.c128 rfl ?_
              refine i_225_185 (x := Int32.ofInt a) rfl ?_
              obtain ⟨gp, hgp, hgr⟩ := hR.part (j := (a).toNat) (by omega)
              refine i_225_186 (v := Value.ref (160 + 2 * a.toNat)) hgp (ix0 (by omega) (by omega)) (ix1 (by omega) (by omega) (by omega)) (by rw [ixn (by omega) (by omega)]; exact hgr) ?_
              obtain ⟨fs, hobj⟩ := hR.obj (h := 133) (iNw (h := 133) (by decide) (by decide) (by decide))
              obtain ⟨w, hrun, hR⟩ := r_setn (d := d + 5) (v := V (160 + 2 * a.toNat)) (c := 4700) hR (iNw (h := 133) (by decide) (by decide) (by decide)) (iNp (r := a) (by omega) (by omega)) ((uv_n (by omega)).trans (rfl)) rfl (by omega)
              refine i_225_187 hobj (Nat.le_of_ble_eq_true rfl) hrun ?_
              refine i_225_190 (x := 128) rfl ?_
              refine i_225_191 (x := 128) rfl ?_
              refine i_225_192 (v := Value.ref 133) hR.c128 rfl ?_
              refine i_225_195 (x := Int32.ofInt ((n).natAbs : Int)) rfl ?_
              have hobj := hR.c128
              obtain ⟨w, u30, hrun, hR⟩ := s_raise (d := d + 4) (h := 133) (x := V (160 + 2 * a.toNat)) (n := ((n).natAbs : Int)) hR (iNw (h := 133) (by decide) (by decide) (by decide)) (by omega) (by omega) (uv_s) (by exact hI.nz (by omega) (by omega)) (by omega) (by omega) (by exact Nat.le_trans (xbl_npow _ _) (by have h9 : (n.natAbs : Int).toNat * xbl (V (160 + 2 * a.toNat)) ≤ 32 * 4096 := Nat.mul_le_mul (by omega) hx_a; omega))
              refine i_225_197 hobj (Nat.le_of_ble_eq_true rfl) hrun ?_
              refine i_225_200 (x := Int32.ofInt n) rfl ?_
              refine i_225_201 (z_le (a := n) ⟨by omega, by omega⟩ fun c30 => ?_) (z_gt (a := n) ⟨by omega, by omega⟩ fun c30 => ?_)
              · refine i_225_232 (x := 128) rfl ?_
                refine i_225_233 (v := Value.ref 133) hR.c128 rfl ?_
                refine i_225_236 ?_
                obtain ⟨fs, hobj⟩ := hR.obj (h := 133) (iNw (h := 133) (by decide) (by decide) (by decide))
                obtain ⟨w, hrun, hR⟩ := r_setl (d := d + 5) (x := (1 : Int64)) (v := 1) hR (iNw (h := 133) (by decide) (by decide) (by decide)) rfl
                refine i_225_237 hobj (Nat.le_of_ble_eq_true rfl) hrun ?_
                refine i_225_240 (x := 128) rfl ?_
                refine i_225_241 (x := Int32.ofInt r) rfl ?_
                refine i_225_242 (x := 128) rfl ?_
                refine i_225_243 (v := Value.ref 133) hR.c128 rfl ?_
                refine i_225_246 ?_
                refine i_225_247 (x := 128) rfl ?_
                refine i_225_248 (v := Value.ref 141) hR.c128 rfl ?_
                refine i_225_251 (x := Int32.ofInt ((S 155 a.toNat - S 153 a.toNat) * ((n).natAbs : Int))) rfl ?_
                refine i_225_253 (x := 1) rfl ?_
                refine i_225_255 (x := Int32.ofInt mode) rfl ?_
                have hobj := hR.c128
                obtain ⟨w, hrun, S2, V2, hR, hP⟩ := s_ratio (d := d + 2) (h := 133) (m := 1) (dd := (V (160 + 2 * a.toNat)) ^ (((n).natAbs : Int) : Int).toNat) (r := r) (e := 0) (f := (S 155 a.toNat - S 153 a.toNat) * ((n).natAbs : Int)) (sg := 1) (mode := mode) hR (nS.mI nS.refl (nV.up (nV.up (nV.up (nV.up (nV.up nV.refl (by omega)) (by omega)) (by omega)) (by omega)) (by omega)) hI) (iNw (h := 133) (by decide) (by decide) (by decide)) (by omega) (uv_s) ((uv_n (by omega)).trans (uv_s)) (by exact Nat.pos_iff_ne_zero.mp (Nat.pow_pos (Nat.pos_of_ne_zero (hI.nz (by omega) (by omega))))) (by omega) (by omega) (by omega) (by decide) (by exact Nat.le_trans (xbl_npow _ _) (by have h9 : (n.natAbs : Int).toNat * xbl (V (160 + 2 * a.toNat)) ≤ 32 * 4096 := Nat.mul_le_mul (by omega) hx_a; omega)) (by omega) (by omega) (by omega)
                refine i_225_257 hobj (Nat.le_of_ble_eq_true rfl) hrun ?_
                refine i_225_260 ?_
                have eo : sPow S V r.toNat a.toNat n mode = sRat S r.toNat 1 0 ((V (160 + 2 * a.toNat)) ^ (((n).natAbs : Int) : Int).toNat) ((S 155 a.toNat - S 153 a.toNat) * ((n).natAbs : Int)) 1 mode := by clear hR hrun hP; grind [sPow]
                rw [eo]
                exact ⟨rfl, _, _, hR, oP.near nS.refl (nV.up (nV.up (nV.up (nV.up (nV.up nV.refl (by omega)) (by omega)) (by omega)) (by omega)) (by omega)) hP⟩
              · refine i_225_204 (x := 128) rfl ?_
                refine i_225_205 (v := Value.ref 129) hR.c128 rfl ?_
                refine i_225_208 (x := 128) rfl ?_
                refine i_225_209 (v := Value.ref 141) hR.c128 rfl ?_
                obtain ⟨fs, hobj⟩ := hR.obj (h := 129) (iNw (h := 129) (by decide) (by decide) (by decide))
                obtain ⟨w, hrun, hR⟩ := r_setn (d := d + 5) (v := (V (160 + 2 * a.toNat)) ^ (((n).natAbs : Int) : Int).toNat) (c := 4700) hR (iNw (h := 129) (by decide) (by decide) (by decide)) (iNw (h := 141) (by decide) (by decide) (by decide)) (uv_s) rfl (by exact Nat.le_trans (xbl_npow _ _) (by have h9 : (n.natAbs : Int).toNat * xbl (V (160 + 2 * a.toNat)) ≤ 32 * 4096 := Nat.mul_le_mul (by omega) hx_a; omega))
                refine i_225_212 hobj (Nat.le_of_ble_eq_true rfl) hrun ?_
                refine i_225_215 (x := 128) rfl ?_
                refine i_225_216 (x := Int32.ofInt r) rfl ?_
                refine i_225_217 (x := 128) rfl ?_
                refine i_225_218 (v := Value.ref 129) hR.c128 rfl ?_
                refine i_225_221 (x := Int32.ofInt ((S 155 a.toNat - S 153 a.toNat) * ((n).natAbs : Int))) rfl ?_
                refine i_225_223 ?_
                refine i_225_224 (x := 1) rfl ?_
                refine i_225_226 (x := Int32.ofInt mode) rfl ?_
                have hobj := hR.c128
                have hx : (uv (uv (uv (uv (uv V 129 1) 133 (V (160 + 2 * a.toNat))) 151 u30) 141 ((V (160 + 2 * a.toNat)) ^ (((n).natAbs : Int) : Int).toNat)) 129 ((V (160 + 2 * a.toNat)) ^ (((n).natAbs : Int) : Int).toNat)) 129 = (V (160 + 2 * a.toNat)) ^ (((n).natAbs : Int) : Int).toNat := uv_s
                obtain ⟨w, S32, V32, hrun, hR, hP⟩ := s_round (d := d + 3) (h := 129) (r := r) (e := (S 155 a.toNat - S 153 a.toNat) * ((n).natAbs : Int)) (more := 0) (sg := 1) (mode := mode) hR (iNw (h := 129) (by decide) (by decide) (by decide)) (by omega) (by omega) (by omega) (by omega) (by omega) (by omega) (by omega) (hp_r.1) (hp_r.2) (⟨hi_l.1, Int.le_trans hi_l.2.1 hi_l.2.2⟩) (⟨Int.le_trans hi_l.1 hi_l.2.1, hi_l.2.2⟩) (hi_g) (Or.inl hi_f) (by rw [hx]; exact Nat.le_trans (xbl_npow _ _) (by have h9 : (n.natAbs : Int).toNat * xbl (V (160 + 2 * a.toNat)) ≤ 32 * 4096 := Nat.mul_le_mul (by omega) hx_a; omega))
                rw [hx] at hrun hP
                rw [hi_f] at hrun hP
                refine i_225_228 hobj (Nat.le_of_ble_eq_true rfl) hrun ?_
                refine i_225_231 ?_
                have eo : sPow S V r.toNat a.toNat n mode = oR (S 153 r.toNat) (S 128 17) (S 128 18) (S 128 20) 1 mode 0 ((V (160 + 2 * a.toNat)) ^ (((n).natAbs : Int) : Int).toNat) ((S 155 a.toNat - S 153 a.toNat) * ((n).natAbs : Int)) (S 128 19) := by clear hR hrun; grind [sPow]
                rw [eo]
                exact ⟨rfl, _, _, hR, oP_round hP (by omega) nS.refl (nV.up (nV.up (nV.up (nV.up (nV.up nV.refl (by omega)) (by omega)) (by omega)) (by omega)) (by omega))⟩
            · refine i_225_100 (x := Int32.ofInt n) rfl ?_
              refine i_225_101 (z_ge (a := n) ⟨by omega, by omega⟩ fun c32 => ?_) (z_lt (a := n) ⟨by omega, by omega⟩ fun c32 => ?_)
              · refine i_225_125 (x := 128) rfl ?_
                refine i_225_126 (x := Int32.ofInt r) rfl ?_
                refine i_225_127 (x := Int32.ofInt n) rfl ?_
                refine i_225_128 (z_le (a := n) ⟨by omega, by omega⟩ fun c33 => ?_) (z_gt (a := n) ⟨by omega, by omega⟩ fun c33 => ?_)
                · refine i_225_140 (x := 128) rfl ?_
                  refine i_225_141 (v := Value.ref 154) hR.c128 rfl ?_
                  refine i_225_144 (x := Int32.ofInt a) rfl ?_
                  refine i_225_145 (v := Value.int (Int32.ofInt (S 154 ((a).toNat)))) (hR.row a154) (ix0 (T := a) (by omega) (by omega)) (ix1 (T := a) (by omega) (by omega) (by omega)) (ra (T := a) (by omega) (by omega) rfl) ?_
                  refine i_225_146 ?_
                  refine i_225_147 (b_ne (a := S 154 ((a).toNat)) (b := 2) ⟨by omega, by omega⟩ ⟨by decide, by decide⟩ fun c34 => ?_) (b_eq (a := S 154 ((a).toNat)) (b := 2) ⟨by omega, by omega⟩ ⟨by decide, by decide⟩ fun c34 => ?_)
                  · refine i_225_154 ?_
                    refine i_225_155 (x := 1) rfl ?_
                    have hobj := hR.c128
                    obtain ⟨w, hrun, hR⟩ := s_special (d := d + 6) (r := r) (k := 2) (s := 1) hR (by omega) (by omega) (by omega)
                    refine i_225_157 hobj (Nat.le_of_ble_eq_true rfl) hrun ?_
                    refine i_225_160 ?_
                    have eo : sPow S V r.toNat a.toNat n mode = oS 2 1 (S 128 19) := by clear hR hrun; grind [sPow]
                    rw [eo]
                    exact ⟨rfl, _, _, hR, oP_special (by omega) (by decide) nS.refl (nV.up nV.refl (by omega)) rfl⟩
                  · refine i_225_150 ?_
                    refine i_225_151 ?_
                    refine i_225_155 (x := 1) rfl ?_
                    have hobj := hR.c128
                    obtain ⟨w, hrun, hR⟩ := s_special (d := d + 6) (r := r) (k := 1) (s := 1) hR (by omega) (by omega) (by omega)
                    refine i_225_157 hobj (Nat.le_of_ble_eq_true rfl) hrun ?_
                    refine i_225_160 ?_
                    have eo : sPow S V r.toNat a.toNat n mode = oS 1 1 (S 128 19) := by clear hR hrun; grind [sPow]
                    rw [eo]
                    exact ⟨rfl, _, _, hR, oP_special (by omega) (by decide) nS.refl (nV.up nV.refl (by omega)) rfl⟩
                · refine i_225_131 (x := 128) rfl ?_
                  refine i_225_132 (v := Value.ref 154) hR.c128 rfl ?_
                  refine i_225_135 (x := Int32.ofInt a) rfl ?_
                  refine i_225_136 (v := Value.int (Int32.ofInt (S 154 ((a).toNat)))) (hR.row a154) (ix0 (T := a) (by omega) (by omega)) (ix1 (T := a) (by omega) (by omega) (by omega)) (ra (T := a) (by omega) (by omega) rfl) ?_
                  refine i_225_137 ?_
                  refine i_225_155 (x := 1) rfl ?_
                  have hobj := hR.c128
                  obtain ⟨w, hrun, hR⟩ := s_special (d := d + 6) (r := r) (k := S 154 ((a).toNat)) (s := 1) hR (by omega) (by omega) (by omega)
                  refine i_225_157 hobj (Nat.le_of_ble_eq_true rfl) hrun ?_
                  refine i_225_160 ?_
                  have eo : sPow S V r.toNat a.toNat n mode = oS (S 154 ((a).toNat)) 1 (S 128 19) := by clear hR hrun; grind [sPow]
                  rw [eo]
                  exact ⟨rfl, _, _, hR, oP_special (by omega) (by omega) nS.refl (nV.up nV.refl (by omega)) rfl⟩
              · refine i_225_104 (x := 128) rfl ?_
                refine i_225_105 (v := Value.ref 154) hR.c128 rfl ?_
                refine i_225_108 (x := Int32.ofInt a) rfl ?_
                refine i_225_109 (v := Value.int (Int32.ofInt (S 154 ((a).toNat)))) (hR.row a154) (ix0 (T := a) (by omega) (by omega)) (ix1 (T := a) (by omega) (by omega) (by omega)) (ra (T := a) (by omega) (by omega) rfl) ?_
                refine i_225_110 ?_
                refine i_225_111 (b_ne (a := S 154 ((a).toNat)) (b := 2) ⟨by omega, by omega⟩ ⟨by decide, by decide⟩ fun c35 => ?_) (b_eq (a := S 154 ((a).toNat)) (b := 2) ⟨by omega, by omega⟩ ⟨by decide, by decide⟩ fun c35 => ?_)
                · refine i_225_125 (x := 128) rfl ?_
                  refine i_225_126 (x := Int32.ofInt r) rfl ?_
                  refine i_225_127 (x := Int32.ofInt n) rfl ?_
                  refine i_225_128 (z_le (a := n) ⟨by omega, by omega⟩ fun c36 => ?_) (z_gt (a := n) ⟨by omega, by omega⟩ fun c36 => absurd c36 (by omega))
                  refine i_225_140 (x := 128) rfl ?_
                  refine i_225_141 (v := Value.ref 154) hR.c128 rfl ?_
                  refine i_225_144 (x := Int32.ofInt a) rfl ?_
                  refine i_225_145 (v := Value.int (Int32.ofInt (S 154 ((a).toNat)))) (hR.row a154) (ix0 (T := a) (by omega) (by omega)) (ix1 (T := a) (by omega) (by omega) (by omega)) (ra (T := a) (by omega) (by omega) rfl) ?_
                  refine i_225_146 ?_
                  refine i_225_147 (b_ne (a := S 154 ((a).toNat)) (b := 2) ⟨by omega, by omega⟩ ⟨by decide, by decide⟩ fun c37 => ?_) (b_eq (a := S 154 ((a).toNat)) (b := 2) ⟨by omega, by omega⟩ ⟨by decide, by decide⟩ fun c37 => absurd c37 (by omega))
                  refine i_225_154 ?_
                  refine i_225_155 (x := 1) rfl ?_
                  have hobj := hR.c128
                  obtain ⟨w, hrun, hR⟩ := s_special (d := d + 6) (r := r) (k := 2) (s := 1) hR (by omega) (by omega) (by omega)
                  refine i_225_157 hobj (Nat.le_of_ble_eq_true rfl) hrun ?_
                  refine i_225_160 ?_
                  have eo : sPow S V r.toNat a.toNat n mode = oS 2 1 (S 128 19) := by clear hR hrun; grind [sPow]
                  rw [eo]
                  exact ⟨rfl, _, _, hR, oP_special (by omega) (by decide) nS.refl (nV.up nV.refl (by omega)) rfl⟩
                · refine i_225_114 (x := 128) rfl ?_
                  refine i_225_115 rfl ?_
                  refine i_225_116 (v := Value.int (Int32.ofInt (S 128 19))) hR.c128 rfl ?_
                  refine i_225_119 ?_
                  refine i_225_121 (c := Int32.ofInt (zor (S 128 19) 16)) (o_or (S 128 19) 16) ?_
                  refine i_225_122 (fs2 := mf (u1 (S 128) 19 (zor (S 128 19) 16))) hR.c128 (Nat.le_of_ble_eq_true rfl) (mfs_19 (v := zor (S 128 19) 16)) (by decide) ?_
                  refine xgen (P := mR w0 (u2 S 128 19 (zor (S 128 19) 16)) (uv V 129 1)) hR.fld2 (fun w hR => ?_)
                  refine i_225_125 (x := 128) rfl ?_
                  refine i_225_126 (x := Int32.ofInt r) rfl ?_
                  refine i_225_127 (x := Int32.ofInt n) rfl ?_
                  refine i_225_128 (z_le (a := n) ⟨by omega, by omega⟩ fun c38 => ?_) (z_gt (a := n) ⟨by omega, by omega⟩ fun c38 => absurd c38 (by omega))
                  refine i_225_140 (x := 128) rfl ?_
                  refine i_225_141 (v := Value.ref 154) hR.c128 rfl ?_
                  refine i_225_144 (x := Int32.ofInt a) rfl ?_
                  refine i_225_145 (v := Value.int (Int32.ofInt (S 154 ((a).toNat)))) (hR.row a154) (ix0 (T := a) (by omega) (by omega)) (ix1 (T := a) (by omega) (by omega) (by omega)) (ra (T := a) (by omega) (by omega) rfl) ?_
                  refine i_225_146 ?_
                  refine i_225_147 (b_ne (a := S 154 ((a).toNat)) (b := 2) ⟨by omega, by omega⟩ ⟨by decide, by decide⟩ fun c39 => absurd c39 (by omega)) (b_eq (a := S 154 ((a).toNat)) (b := 2) ⟨by omega, by omega⟩ ⟨by decide, by decide⟩ fun c39 => ?_)
                  refine i_225_150 ?_
                  refine i_225_151 ?_
                  refine i_225_155 (x := 1) rfl ?_
                  have hobj := hR.c128
                  obtain ⟨w, hrun, hR⟩ := s_special (d := d + 6) (r := r) (k := 1) (s := 1) hR (by omega) (by omega) (by omega)
                  refine i_225_157 hobj (Nat.le_of_ble_eq_true rfl) hrun ?_
                  refine i_225_160 ?_
                  have eo : sPow S V r.toNat a.toNat n mode = oS 1 1 (zor (S 128 19) 16) := by clear hR hrun; grind [sPow]
                  rw [eo]
                  exact ⟨rfl, _, _, hR, oP_flag (by omega) (by decide) nS.refl (nV.up nV.refl (by omega)) rfl⟩
      · refine i_225_60 (x := 128) rfl ?_
        refine i_225_61 (x := Int32.ofInt r) rfl ?_
        refine i_225_62 ?_
        refine i_225_63 ?_
        have hobj := hR.c128
        obtain ⟨w, hrun, hR⟩ := s_special (d := d + 6) (r := r) (k := 0) (s := 0) hR (by omega) (by omega) (by omega)
        refine i_225_64 hobj (Nat.le_of_ble_eq_true rfl) hrun ?_
        refine i_225_67 ?_
        have eo : sPow S V r.toNat a.toNat n mode = oS 0 0 (S 128 19) := by clear hR hrun; grind [sPow]
        rw [eo]
        exact ⟨rfl, _, _, hR, oP_special (by omega) (by decide) nS.refl (nV.up nV.refl (by omega)) rfl⟩
    · refine i_225_36 (x := 128) rfl ?_
      refine i_225_37 (x := Int32.ofInt r) rfl ?_
      refine i_225_38 (x := 128) rfl ?_
      refine i_225_39 (v := Value.ref 129) hR.c128 rfl ?_
      refine i_225_42 ?_
      refine i_225_43 ?_
      refine i_225_44 ?_
      refine i_225_45 (x := Int32.ofInt mode) rfl ?_
      have hobj := hR.c128
      have hx : (uv V 129 1) 129 = 1 := uv_s
      obtain ⟨w, S41, V41, hrun, hR, hP⟩ := s_round (d := d + 3) (h := 129) (r := r) (e := 0) (more := 0) (sg := 0) (mode := mode) hR (iNw (h := 129) (by decide) (by decide) (by decide)) (by omega) (by omega) (by omega) (by omega) (by omega) (by omega) (by omega) (hp_r.1) (hp_r.2) (⟨hi_l.1, Int.le_trans hi_l.2.1 hi_l.2.2⟩) (⟨Int.le_trans hi_l.1 hi_l.2.1, hi_l.2.2⟩) (hi_g) (Or.inl hi_f) (by rw [hx]; decide)
      rw [hx] at hrun hP
      rw [hi_f] at hrun hP
      refine i_225_47 hobj (Nat.le_of_ble_eq_true rfl) hrun ?_
      refine i_225_50 ?_
      have eo : sPow S V r.toNat a.toNat n mode = oR (S 153 r.toNat) (S 128 17) (S 128 18) (S 128 20) 0 mode 0 1 0 (S 128 19) := by clear hR hrun; grind [sPow]
      rw [eo]
      exact ⟨rfl, _, _, hR, oP_round hP (by omega) nS.refl (nV.up nV.refl (by omega))⟩
  obtain ⟨o, w', h1, rfl, h2⟩ := key.run
  exact ⟨w', h1, h2⟩
theorem b_pow {d : Nat} {w : xW} {r a n mode : Int} (b_r : -2147483648 ≤ r ∧ r < 2147483648) (b_a : -2147483648 ≤ a ∧ a < 2147483648) (b_n : -2147483648 ≤ n ∧ n < 2147483648) (b_mode : -2147483648 ≤ mode ∧ mode < 2147483648) (h : ¬ ((0 ≤ r ∧ r ≤ 15) ∧ (0 ≤ a ∧ a ≤ 15) ∧ (-32 ≤ n ∧ n ≤ 32) ∧ (0 ≤ mode ∧ mode ≤ 4))) : xRun (d + 8) 225 [Value.ref 128, Value.int (Int32.ofInt r), Value.int (Int32.ofInt a), Value.int (Int32.ofInt n), Value.int (Int32.ofInt mode)] w (.inr w.length) (w ++ [.inr (14, [])]) := by
  refine xRun.of ?_
  refine i_225_0 (x := Int32.ofInt r) rfl ?_
  rcases Classical.em (0 ≤ r ∧ r ≤ 15) with hc1 | hc1
  · have hrun := s_reg1 (d := d + 5) (w := w) (r := r) (by omega) hc1
    refine i_225_1 (Nat.le_of_ble_eq_true rfl) hrun ?_
    refine i_225_4 (x := Int32.ofInt a) rfl ?_
    rcases Classical.em (0 ≤ a ∧ a ≤ 15) with hc2 | hc2
    · have hrun := s_reg1 (d := d + 5) (w := w) (r := a) (by omega) hc2
      refine i_225_5 (Nat.le_of_ble_eq_true rfl) hrun ?_
      refine i_225_8 (x := Int32.ofInt n) rfl ?_
      refine i_225_9 ?_
      refine i_225_11 ?_
      have hrun := s_in (d := d + 6) (w := w) (v := n) (lo := (-32)) (hi := 32) ⟨by omega, by omega⟩ ⟨by decide, by decide⟩ ⟨by decide, by decide⟩
      refine i_225_13 (Nat.le_of_ble_eq_true rfl) hrun ?_
      rcases Classical.em ((-32) ≤ n ∧ n ≤ 32) with hc3 | hc3
      · have hrun := s_ck1 (d := d + 6) (w := w) (b := (decide ((-32) ≤ n ∧ n ≤ 32))) (decide_eq_true hc3)
        refine i_225_16 (Nat.le_of_ble_eq_true rfl) hrun ?_
        refine i_225_19 (x := Int32.ofInt mode) rfl ?_
        rcases Classical.em (0 ≤ mode ∧ mode ≤ 4) with hc4 | hc4
        · have hrun := s_mode1 (d := d + 5) (w := w) (r := mode) (by omega) hc4
          refine i_225_21 (Nat.le_of_ble_eq_true rfl) hrun ?_
          exfalso; omega
        · have hrun := s_mode0 (d := d) (w := w) (r := mode) (by omega) hc4
          refine j_225_21 (Nat.le_of_ble_eq_true rfl) hrun (xDone.t (ci := 14) xgl rfl rfl ?_)
          exact ⟨rfl, rfl⟩
      · have hrun := s_ck0 (d := d + 1) (w := w) (b := (decide ((-32) ≤ n ∧ n ≤ 32))) (decide_eq_false hc3)
        refine j_225_16 (Nat.le_of_ble_eq_true rfl) hrun (xDone.t (ci := 14) xgl rfl rfl ?_)
        exact ⟨rfl, rfl⟩
    · have hrun := s_reg0 (d := d) (w := w) (r := a) (by omega) hc2
      refine j_225_5 (Nat.le_of_ble_eq_true rfl) hrun (xDone.t (ci := 14) xgl rfl rfl ?_)
      exact ⟨rfl, rfl⟩
  · have hrun := s_reg0 (d := d) (w := w) (r := r) (by omega) hc1
    refine j_225_1 (Nat.le_of_ble_eq_true rfl) hrun (xDone.t (ci := 14) xgl rfl rfl ?_)
    exact ⟨rfl, rfl⟩
