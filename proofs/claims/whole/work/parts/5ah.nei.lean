/-! neighbours of the reference -/
theorem xbl_nrm {q : Nat} {p : Int} (hq : q ≠ 0) (hp : 0 ≤ p) : (xbl (nrm q p) : Int) = p := by
  unfold nrm
  split
  · rw [xbl_div]; omega
  · have := xbl_mul (n := q) (r := 0) (k := (p - xbl q).toNat) hq (Nat.two_pow_pos _)
    rw [Nat.add_zero] at this
    rw [this]; omega
def fP (S S' : Nat → Nat → Int) (V V' : Nat → Nat) (r : Nat) (o : Int × Int × Nat) : Prop := S' 154 r = o.1 ∧ ((o.1 = 3 → S' 155 r = o.2.1 ∧ V' (160 + 2 * r) = o.2.2) ∧ (o.1 ≠ 3 → mB S V r → mB S' V' r)) ∧ (∀ a j, ¬ (a = 154 ∧ j = r) → ¬ (a = 155 ∧ j = r) → S' a j = S a j) ∧ ∀ k, 160 ≤ k → k ≠ 160 + 2 * r → V' k = V k
def put3 (q : Nat) (e p : Int) : Int × Int × Nat := (3, (xbl q : Int) + e, nrm q p)
theorem t_put {d : Nat} {w0 w : xW} {S S1 : Nat → Nat → Int} {V V1 : Nat → Nat} {h q : Nat} {r e : Int} (hR : mR w0 S V1 w) (hV1 : nV V V1) (hh : isN h) (h137 : h ≠ 137) (hp : h < 160) (hr : 0 ≤ r ∧ r < 16) (p0 : 2 ≤ S 153 r.toNat) (p1 : S 153 r.toNat ≤ 4096) (hv : V1 h = q) (hq0 : q ≠ 0) (hq : xbl q ≤ 140900) : ∃ w' S' V', xRun (d + 3) 192 [.ref 128, .int (Int32.ofInt r), .ref h, .int (Int32.ofInt e)] w (.inl none) w' ∧ mR w0 S' V' w' ∧ fP S S' V V' r.toNat (put3 q e (S 153 r.toNat)) := by
  subst hv
  obtain ⟨w', h1, S', V', hR', k1, k2, k3, k4, k5⟩ := s_put (d := d) (h := h) (r := r) (e := e) hR hh h137 (by omega) hr.1 (by omega) p0 p1 hq0 hq
  exact ⟨w', S', V', h1, hR', k1, ⟨fun _ => ⟨k2, k3⟩, fun h => absurd rfl h⟩, k4, fun k g1 g2 => (k5 k (by omega) g2).trans (hV1 k g1)⟩
def sMost (S : Nat → Nat → Int) (r : Nat) : Int × Int × Nat := put3 (2 ^ (S 153 r).toNat - 1) (S 128 18 - S 153 r) (S 153 r)
def sFar (S : Nat → Nat → Int) (V : Nat → Nat) (r : Nat) : Int × Int × Nat :=
  if S 128 18 < S 155 r then (1, 0, 0)
  else if S 155 r < S 128 17 then (if S 128 20 = 0 then put3 1 (S 128 17 - 1) (S 153 r) else put3 (V (160 + 2 * r) / 2 ^ (S 128 17 - S 155 r).toNat + 1) (S 128 17 - S 153 r) (S 153 r))
  else if S 128 18 < xbl (V (160 + 2 * r) + 1) + (S 155 r - S 153 r) then (1, 0, 0) else put3 (V (160 + 2 * r) + 1) (S 155 r - S 153 r) (S 153 r)
def neaQ (m : Nat) (cut : Int) : Nat := if nany m cut = false ∧ m / 2 ^ cut.toNat ≠ 0 then m / 2 ^ cut.toNat - 1 else m / 2 ^ cut.toNat
def sNea (S : Nat → Nat → Int) (V : Nat → Nat) (r : Nat) : Int × Int × Nat :=
  if S 154 r = 1 ∨ S 128 18 < S 155 r then sMost S r
  else if S 155 r < S 128 17 then (if S 128 20 = 0 ∨ neaQ (V (160 + 2 * r)) (S 128 17 - S 155 r) = 0 then (2, 0, 0) else put3 (neaQ (V (160 + 2 * r)) (S 128 17 - S 155 r)) (S 128 17 - S 153 r) (S 153 r))
  else if nany (V (160 + 2 * r)) (S 153 r - 1) = false ∧ S 155 r = S 128 17 ∧ S 128 20 = 0 then (2, 0, 0)
  else if nany (V (160 + 2 * r)) (S 153 r - 1) = false ∧ S 128 17 < S 155 r then put3 (V (160 + 2 * r) * 2 ^ (1 : Int).toNat - 1) (S 155 r - S 153 r - 1) (S 153 r)
  else put3 (V (160 + 2 * r) - 1) (S 155 r - S 153 r) (S 153 r)
set_option maxHeartbeats 8000000 in
theorem s_most {d : Nat} {w0 w : xW} {S : Nat → Nat → Int} {V : Nat → Nat} {r : Int} (hR : mR w0 S V w) (hI : mI S V) (hr : 0 ≤ r ∧ r ≤ 15) : ∃ w', xRun (d + 4) 236 [.ref 128, .int (Int32.ofInt r)] w (.inl none) w' ∧ ∃ S' V', mR w0 S' V' w' ∧ fP S S' V V' r.toNat (sMost S r.toNat) := by
  obtain ⟨hp_r, hk_r, hn_r, ht_r, hx_r, hq_r⟩ := hI.1 r.toNat (by omega)
  have hi_l := hI.2.1
  have hi_g := hI.2.2.1
  have hx1 : xbl (V (160 + 2 * r.toNat) + 1) ≤ 4097 := xbl_add (n := 4096) (by omega) (by decide)
  have key : xEv (d + 4) 236 0 (lv_args 0 [.ref 128, .int (Int32.ofInt r)]) [] w (fun o w' => o = .inl none ∧ ∃ S' V', mR w0 S' V' w' ∧ fP S S' V V' r.toNat (sMost S r.toNat)) := by
    refine i_236_0 (x := 128) rfl ?_
    refine i_236_1 (v := Value.ref 151) hR.c128 rfl ?_
    refine i_236_4 (x := 128) rfl ?_
    refine i_236_5 (v := Value.ref 153) hR.c128 rfl ?_
    refine i_236_8 (x := Int32.ofInt r) rfl ?_
    refine i_236_9 (v := Value.int (Int32.ofInt (S 153 ((r).toNat)))) (hR.row a153) (ix0 (T := r) (by omega) (by omega)) (ix1 (T := r) (by omega) (by omega) (by omega)) (ra (T := r) (by omega) (by omega) rfl) ?_
    obtain ⟨fs, hobj⟩ := hR.obj (h := 151) (iNw (h := 151) (by decide) (by decide) (by decide))
    obtain ⟨w, hrun, hR⟩ := r_one (d := d + 1) (c := 4700) (k := S 153 ((r).toNat)) hR (iNw (h := 151) (by decide) (by decide) (by decide)) rfl (by omega) (by omega)
    refine i_236_10 hobj (Nat.le_of_ble_eq_true rfl) hrun ?_
    refine i_236_13 (x := 128) rfl ?_
    refine i_236_14 (v := Value.ref 143) hR.c128 rfl ?_
    refine i_236_17 ?_
    obtain ⟨fs, hobj⟩ := hR.obj (h := 143) (iNw (h := 143) (by decide) (by decide) (by decide))
    obtain ⟨w, hrun, hR⟩ := r_setl (d := d + 1) (x := (1 : Int64)) (v := 1) hR (iNw (h := 143) (by decide) (by decide) (by decide)) rfl
    refine i_236_18 hobj (Nat.le_of_ble_eq_true rfl) hrun ?_
    refine i_236_21 (x := 128) rfl ?_
    refine i_236_22 (v := Value.ref 151) hR.c128 rfl ?_
    refine i_236_25 (x := 128) rfl ?_
    refine i_236_26 (v := Value.ref 143) hR.c128 rfl ?_
    obtain ⟨fs, hobj⟩ := hR.obj (h := 151) (iNw (h := 151) (by decide) (by decide) (by decide))
    obtain ⟨w, hrun, hR⟩ := r_less (d := d + 1) (v := 2 ^ (S 153 ((r).toNat) : Int).toNat) (v2 := 1) hR (iNw (h := 151) (by decide) (by decide) (by decide)) (iNw (h := 143) (by decide) (by decide) (by decide)) (by omega) ((uv_n (by omega)).trans (uv_s)) (uv_s) (Nat.one_le_two_pow)
    refine i_236_29 hobj (Nat.le_of_ble_eq_true rfl) hrun ?_
    refine i_236_32 (x := 128) rfl ?_
    refine i_236_33 (x := Int32.ofInt r) rfl ?_
    refine i_236_34 (x := 128) rfl ?_
    refine i_236_35 (v := Value.ref 151) hR.c128 rfl ?_
    refine i_236_38 (x := 128) rfl ?_
    refine i_236_39 (v := Value.int (Int32.ofInt (S 128 18))) hR.c128 rfl ?_
    refine i_236_42 (x := 128) rfl ?_
    refine i_236_43 (v := Value.ref 153) hR.c128 rfl ?_
    refine i_236_46 (x := Int32.ofInt r) rfl ?_
    refine i_236_47 (v := Value.int (Int32.ofInt (S 153 ((r).toNat)))) (hR.row a153) (ix0 (T := r) (by omega) (by omega)) (ix1 (T := r) (by omega) (by omega) (by omega)) (ra (T := r) (by omega) (by omega) rfl) ?_
    refine i_236_48 (c := Int32.ofInt ((S 128 18) - (S 153 ((r).toNat)))) (o_sub (S 128 18) (S 153 ((r).toNat))) ?_
    have hobj := hR.c128
    obtain ⟨w, S2, V2, hrun, hR, hP⟩ := t_put (d := d) (S1 := S) (h := 151) (q := (2 ^ (S 153 ((r).toNat) : Int).toNat) - 1) (r := r) (e := (S 128 18) - (S 153 ((r).toNat))) hR (nV.up (nV.up (nV.up nV.refl (by omega)) (by omega)) (by omega)) (iNw (h := 151) (by decide) (by decide) (by decide)) (by decide) (by decide) (by omega) (by omega) (by omega) (uv_s) (by exact two1 (by omega)) (by exact two2 (by omega) (by omega))
    have f18 : S2 128 18 = S 128 18 := hP.2.2.1 _ _ (by omega) (by omega)
    refine i_236_49 hobj (Nat.le_of_ble_eq_true rfl) hrun ?_
    refine i_236_52 ?_
    have eo : sMost S r.toNat = put3 ((2 ^ (S 153 ((r).toNat) : Int).toNat) - 1) ((S 128 18) - (S 153 ((r).toNat))) (S 153 r.toNat) := by rfl
    rw [eo]
    exact ⟨rfl, _, _, hR, hP⟩
  obtain ⟨o, w', h1, rfl, h2⟩ := key.run
  exact ⟨w', h1, h2⟩
set_option maxHeartbeats 8000000 in
theorem s_far {d : Nat} {w0 w : xW} {S : Nat → Nat → Int} {V : Nat → Nat} {r : Int} (hR : mR w0 S V w) (hI : mI S V) (hr : 0 ≤ r ∧ r ≤ 15) (hk3 : S 154 r.toNat = 3) : ∃ w', xRun (d + 4) 234 [.ref 128, .int (Int32.ofInt r)] w (.inl none) w' ∧ ∃ S' V', mR w0 S' V' w' ∧ fP S S' V V' r.toNat (sFar S V r.toNat) := by
  obtain ⟨hp_r, hk_r, hn_r, ht_r, hx_r, hq_r⟩ := hI.1 r.toNat (by omega)
  have hi_l := hI.2.1
  have hi_g := hI.2.2.1
  have hx1 : xbl (V (160 + 2 * r.toNat) + 1) ≤ 4097 := xbl_add (n := 4096) (by omega) (by decide)
  obtain ⟨hq1, hq2⟩ := hq_r hk3
  have hx2 : xbl (V (160 + 2 * r.toNat) + 1) ≤ (S 153 r.toNat).toNat + 1 := xbl_add (n := (S 153 r.toNat).toNat) (by omega) (by rw [show xbl 1 = 1 from rfl]; omega)
  have hx3 : xbl (V (160 + 2 * r.toNat)) ≤ xbl (V (160 + 2 * r.toNat) + 1) := xbl_mono (by omega)
  have key : xEv (d + 4) 234 0 (lv_args 0 [.ref 128, .int (Int32.ofInt r)]) [] w (fun o w' => o = .inl none ∧ ∃ S' V', mR w0 S' V' w' ∧ fP S S' V V' r.toNat (sFar S V r.toNat)) := by
    refine i_234_0 (x := 128) rfl ?_
    refine i_234_1 (v := Value.ref 153) hR.c128 rfl ?_
    refine i_234_4 (x := Int32.ofInt r) rfl ?_
    refine i_234_5 (v := Value.int (Int32.ofInt (S 153 ((r).toNat)))) (hR.row a153) (ix0 (T := r) (by omega) (by omega)) (ix1 (T := r) (by omega) (by omega) (by omega)) (ra (T := r) (by omega) (by omega) rfl) ?_
    refine i_234_6 (lv2 := [(2, Value.int (Int32.ofInt (S 153 ((r).toNat)))), (0, Value.ref 128), (1, Value.int (Int32.ofInt r))]) rfl ?_
    refine i_234_7 (x := 128) rfl ?_
    refine i_234_8 (v := Value.ref 155) hR.c128 rfl ?_
    refine i_234_11 (x := Int32.ofInt r) rfl ?_
    refine i_234_12 (v := Value.int (Int32.ofInt (S 155 ((r).toNat)))) (hR.row a155) (ix0 (T := r) (by omega) (by omega)) (ix1 (T := r) (by omega) (by omega) (by omega)) (ra (T := r) (by omega) (by omega) rfl) ?_
    refine i_234_13 (x := 128) rfl ?_
    refine i_234_14 (v := Value.int (Int32.ofInt (S 128 18))) hR.c128 rfl ?_
    refine i_234_17 (b_le (a := S 155 ((r).toNat)) (b := S 128 18) ⟨by omega, by omega⟩ ⟨by omega, by omega⟩ fun c0 => ?_) (b_lt (a := S 128 18) (b := S 155 ((r).toNat)) ⟨by omega, by omega⟩ ⟨by omega, by omega⟩ fun c0 => ?_)
    · refine i_234_28 (x := 128) rfl ?_
      refine i_234_29 (v := Value.ref 129) hR.c128 rfl ?_
      refine i_234_32 (x := 128) rfl ?_
      refine i_234_33 (v := Value.ref 157) hR.c128 rfl ?_
      refine i_234_36 (x := Int32.ofInt r) rfl ?_
      obtain ⟨gp, hgp, hgr⟩ := hR.part (j := (r).toNat) (by omega)
      refine i_234_37 (v := Value.ref (160 + 2 * r.toNat)) hgp (ix0 (by omega) (by omega)) (ix1 (by omega) (by omega) (by omega)) (by rw [ixn (by omega) (by omega)]; exact hgr) ?_
      obtain ⟨fs, hobj⟩ := hR.obj (h := 129) (iNw (h := 129) (by decide) (by decide) (by decide))
      obtain ⟨w, hrun, hR⟩ := r_setn (d := d + 1) (v := V (160 + 2 * r.toNat)) (c := 4700) hR (iNw (h := 129) (by decide) (by decide) (by decide)) (iNp (r := r) (by omega) (by omega)) (rfl) rfl (by first | omega | (rw [xbl_div]; omega))
      refine i_234_38 hobj (Nat.le_of_ble_eq_true rfl) hrun ?_
      refine i_234_41 (x := 128) rfl ?_
      refine i_234_42 (v := Value.ref 155) hR.c128 rfl ?_
      refine i_234_45 (x := Int32.ofInt r) rfl ?_
      refine i_234_46 (v := Value.int (Int32.ofInt (S 155 ((r).toNat)))) (hR.row a155) (ix0 (T := r) (by omega) (by omega)) (ix1 (T := r) (by omega) (by omega) (by omega)) (ra (T := r) (by omega) (by omega) rfl) ?_
      refine i_234_47 (x := 128) rfl ?_
      refine i_234_48 (v := Value.int (Int32.ofInt (S 128 17))) hR.c128 rfl ?_
      refine i_234_51 (b_le (a := S 128 17) (b := S 155 ((r).toNat)) ⟨by omega, by omega⟩ ⟨by omega, by omega⟩ fun c1 => ?_) (b_lt (a := S 155 ((r).toNat)) (b := S 128 17) ⟨by omega, by omega⟩ ⟨by omega, by omega⟩ fun c1 => ?_)
      · refine i_234_127 (x := 128) rfl ?_
        refine i_234_128 (v := Value.ref 129) hR.c128 rfl ?_
        refine i_234_131 ?_
        obtain ⟨fs, hobj⟩ := hR.obj (h := 129) (iNw (h := 129) (by decide) (by decide) (by decide))
        obtain ⟨w, hrun, hR⟩ := r_addi (d := d + 1) (v := V (160 + 2 * r.toNat)) (c := 4700) (k := 1) hR (iNw (h := 129) (by decide) (by decide) (by decide)) (uv_s) rfl (by omega) (by omega) (by first | omega | (rw [xbl_div]; omega))
        rw [show (1 : Int).toNat = 1 from rfl] at hR
        rw [uvv] at hR
        refine i_234_132 hobj (Nat.le_of_ble_eq_true rfl) hrun ?_
        refine i_234_135 (x := 128) rfl ?_
        refine i_234_136 (x := Int32.ofInt r) rfl ?_
        refine i_234_137 (x := 128) rfl ?_
        refine i_234_138 (v := Value.ref 129) hR.c128 rfl ?_
        refine i_234_141 (x := 128) rfl ?_
        refine i_234_142 (x := Int32.ofInt r) rfl ?_
        have hobj := hR.c128
        obtain ⟨w, hrun, hR⟩ := s_exponent (d := d + 2) (r := r) hR (by omega) (by omega)
        refine i_234_143 hobj (Nat.le_of_ble_eq_true rfl) hrun ?_
        have hobj := hR.c128
        obtain ⟨w, S2, V2, hrun, hR, hP⟩ := t_put (d := d) (S1 := S) (h := 129) (q := (V (160 + 2 * r.toNat)) + 1) (r := r) (e := S 155 r.toNat - S 153 r.toNat) hR (nV.up nV.refl (by omega)) (iNw (h := 129) (by decide) (by decide) (by decide)) (by decide) (by decide) (by omega) (by omega) (by omega) (uv_s) (by exact Nat.succ_ne_zero _) (by exact Nat.le_trans (xbl_add (n := 5000) (by first | omega | (rw [xbl_div]; omega)) (by decide)) (by decide))
        have f18 : S2 128 18 = S 128 18 := hP.2.2.1 _ _ (by omega) (by omega)
        refine i_234_146 hobj (Nat.le_of_ble_eq_true rfl) hrun ?_
        refine i_234_149 (x := 128) rfl ?_
        refine i_234_150 (v := Value.ref 155) hR.c128 rfl ?_
        refine i_234_153 (x := Int32.ofInt r) rfl ?_
        refine i_234_154 (v := Value.int (Int32.ofInt ((xbl ((V (160 + 2 * r.toNat)) + 1) : Int) + (S 155 r.toNat - S 153 r.toNat)))) (hR.row a155) (ix0 (T := r) (by omega) (by omega)) (ix1 (T := r) (by omega) (by omega) (by omega)) (ra (T := r) (by omega) (by omega) ((hP.2.1.1 rfl).1)) ?_
        refine i_234_155 (x := 128) rfl ?_
        refine i_234_156 (v := Value.int (Int32.ofInt (S2 128 18))) hR.c128 rfl ?_
        refine i_234_159 (b_le (a := (xbl ((V (160 + 2 * r.toNat)) + 1) : Int) + (S 155 r.toNat - S 153 r.toNat)) (b := S2 128 18) ⟨by omega, by omega⟩ ⟨by omega, by omega⟩ fun c2 => ?_) (b_lt (a := S2 128 18) (b := (xbl ((V (160 + 2 * r.toNat)) + 1) : Int) + (S 155 r.toNat - S 153 r.toNat)) ⟨by omega, by omega⟩ ⟨by omega, by omega⟩ fun c2 => ?_)
        · refine i_234_169 ?_
          have eo : sFar S V r.toNat = put3 ((V (160 + 2 * r.toNat)) + 1) (S 155 r.toNat - S 153 r.toNat) (S 153 r.toNat) := by unfold sFar; first | (rw [if_pos (by omega)]; done) | (rw [if_neg (by omega), if_pos (by omega), if_pos (by omega)]; done) | (rw [if_neg (by omega), if_pos (by omega), if_neg (by omega)]; done) | (rw [if_neg (by omega), if_neg (by omega), if_pos (by omega)]; done) | (rw [if_neg (by omega), if_neg (by omega), if_neg (by omega)]; done)
          rw [eo]
          exact ⟨rfl, _, _, hR, hP⟩
        · refine i_234_162 (x := 128) rfl ?_
          refine i_234_163 (v := Value.ref 154) hR.c128 rfl ?_
          refine i_234_166 (x := Int32.ofInt r) rfl ?_
          refine i_234_167 ?_
          refine i_234_168 (v := Value.int (Int32.ofInt 1)) (hR.row a154) (ix0 (T := r) (by omega) (by omega)) (ix1 (T := r) (by omega) (by omega) (by omega)) (by decide) rfl ?_
          rw [ixn (T := r) (by omega) (by omega)]
          refine xgen (P := mR w0 (u2 S2 154 ((r).toNat) 1) V2) (hR.arr a154 rfl) (fun w hR => ?_)
          refine i_234_169 ?_
          have eo : sFar S V r.toNat = (1, 0, 0) := by unfold sFar; first | (rw [if_pos (by omega)]; done) | (rw [if_neg (by omega), if_pos (by omega), if_pos (by omega)]; done) | (rw [if_neg (by omega), if_pos (by omega), if_neg (by omega)]; done) | (rw [if_neg (by omega), if_neg (by omega), if_pos (by omega)]; done) | (rw [if_neg (by omega), if_neg (by omega), if_neg (by omega)]; done)
          rw [eo]
          exact ⟨rfl, _, _, hR, ⟨by simp [u2_e], ⟨fun h => absurd (show (1 : Int) = 3 from h) (by decide), fun _ _ => ⟨by rw [u2_e, if_neg (by omega), (hP.2.1.1 rfl).1]; show -20479 ≤ (xbl ((V (160 + 2 * r.toNat)) + 1) : Int) + (S 155 r.toNat - S 153 r.toNat) ∧ (xbl ((V (160 + 2 * r.toNat)) + 1) : Int) + (S 155 r.toNat - S 153 r.toNat) ≤ 16385; omega, by rw [(hP.2.1.1 rfl).2]; have h9 := xbl_nrm (q := V (160 + 2 * r.toNat) + 1) (p := S 153 r.toNat) (by omega) (by omega); show xbl (nrm (V (160 + 2 * r.toNat) + 1) (S 153 r.toNat)) ≤ 4096; omega⟩⟩, fun a j g1 g2 => by rw [u2_e, if_neg g1]; exact hP.2.2.1 a j g1 g2, fun k g1 g2 => hP.2.2.2 k g1 g2⟩⟩
      · refine i_234_54 (x := 128) rfl ?_
        refine i_234_55 (v := Value.int (Int32.ofInt (S 128 20))) hR.c128 rfl ?_
        refine i_234_58 (z_ne (a := S 128 20) ⟨by omega, by omega⟩ fun c3 => ?_) (z_eq (a := S 128 20) ⟨by omega, by omega⟩ fun c3 => ?_)
        · refine i_234_85 (x := 128) rfl ?_
          refine i_234_86 (v := Value.ref 129) hR.c128 rfl ?_
          refine i_234_89 (x := 128) rfl ?_
          refine i_234_90 (v := Value.int (Int32.ofInt (S 128 17))) hR.c128 rfl ?_
          refine i_234_93 (x := 128) rfl ?_
          refine i_234_94 (v := Value.ref 155) hR.c128 rfl ?_
          refine i_234_97 (x := Int32.ofInt r) rfl ?_
          refine i_234_98 (v := Value.int (Int32.ofInt (S 155 ((r).toNat)))) (hR.row a155) (ix0 (T := r) (by omega) (by omega)) (ix1 (T := r) (by omega) (by omega) (by omega)) (ra (T := r) (by omega) (by omega) rfl) ?_
          refine i_234_99 (c := Int32.ofInt ((S 128 17) - (S 155 ((r).toNat)))) (o_sub (S 128 17) (S 155 ((r).toNat))) ?_
          obtain ⟨fs, hobj⟩ := hR.obj (h := 129) (iNw (h := 129) (by decide) (by decide) (by decide))
          obtain ⟨w, hrun, hR⟩ := r_down (d := d + 1) (v := V (160 + 2 * r.toNat)) (k := (S 128 17) - (S 155 ((r).toNat))) hR (iNw (h := 129) (by decide) (by decide) (by decide)) (uv_s) (by omega) (by omega)
          rw [uvv] at hR
          refine i_234_100 hobj (Nat.le_of_ble_eq_true rfl) hrun ?_
          refine i_234_103 (x := 128) rfl ?_
          refine i_234_104 (v := Value.ref 129) hR.c128 rfl ?_
          refine i_234_107 ?_
          obtain ⟨fs, hobj⟩ := hR.obj (h := 129) (iNw (h := 129) (by decide) (by decide) (by decide))
          obtain ⟨w, hrun, hR⟩ := r_addi (d := d + 1) (v := (V (160 + 2 * r.toNat)) / 2 ^ ((S 128 17) - (S 155 ((r).toNat)) : Int).toNat) (c := 4700) (k := 1) hR (iNw (h := 129) (by decide) (by decide) (by decide)) (uv_s) rfl (by omega) (by omega) (by first | omega | (rw [xbl_div]; omega))
          rw [show (1 : Int).toNat = 1 from rfl] at hR
          rw [uvv] at hR
          refine i_234_108 hobj (Nat.le_of_ble_eq_true rfl) hrun ?_
          refine i_234_111 (x := 128) rfl ?_
          refine i_234_112 (x := Int32.ofInt r) rfl ?_
          refine i_234_113 (x := 128) rfl ?_
          refine i_234_114 (v := Value.ref 129) hR.c128 rfl ?_
          refine i_234_117 (x := 128) rfl ?_
          refine i_234_118 (v := Value.int (Int32.ofInt (S 128 17))) hR.c128 rfl ?_
          refine i_234_121 (x := Int32.ofInt (S 153 ((r).toNat))) rfl ?_
          refine i_234_122 (c := Int32.ofInt ((S 128 17) - (S 153 ((r).toNat)))) (o_sub (S 128 17) (S 153 ((r).toNat))) ?_
          have hobj := hR.c128
          obtain ⟨w, S2, V2, hrun, hR, hP⟩ := t_put (d := d) (S1 := S) (h := 129) (q := ((V (160 + 2 * r.toNat)) / 2 ^ ((S 128 17) - (S 155 ((r).toNat)) : Int).toNat) + 1) (r := r) (e := (S 128 17) - (S 153 ((r).toNat))) hR (nV.up nV.refl (by omega)) (iNw (h := 129) (by decide) (by decide) (by decide)) (by decide) (by decide) (by omega) (by omega) (by omega) (uv_s) (by exact Nat.succ_ne_zero _) (by exact Nat.le_trans (xbl_add (n := 5000) (by first | omega | (rw [xbl_div]; omega)) (by decide)) (by decide))
          have f18 : S2 128 18 = S 128 18 := hP.2.2.1 _ _ (by omega) (by omega)
          refine i_234_123 hobj (Nat.le_of_ble_eq_true rfl) hrun ?_
          refine i_234_126 ?_
          have eo : sFar S V r.toNat = put3 (((V (160 + 2 * r.toNat)) / 2 ^ ((S 128 17) - (S 155 ((r).toNat)) : Int).toNat) + 1) ((S 128 17) - (S 153 ((r).toNat))) (S 153 r.toNat) := by unfold sFar; first | (rw [if_pos (by omega)]; done) | (rw [if_neg (by omega), if_pos (by omega), if_pos (by omega)]; done) | (rw [if_neg (by omega), if_pos (by omega), if_neg (by omega)]; done) | (rw [if_neg (by omega), if_neg (by omega), if_pos (by omega)]; done) | (rw [if_neg (by omega), if_neg (by omega), if_neg (by omega)]; done)
          rw [eo]
          exact ⟨rfl, _, _, hR, hP⟩
        · refine i_234_61 (x := 128) rfl ?_
          refine i_234_62 (v := Value.ref 151) hR.c128 rfl ?_
          refine i_234_65 ?_
          obtain ⟨fs, hobj⟩ := hR.obj (h := 151) (iNw (h := 151) (by decide) (by decide) (by decide))
          obtain ⟨w, hrun, hR⟩ := r_setl (d := d + 1) (x := (1 : Int64)) (v := 1) hR (iNw (h := 151) (by decide) (by decide) (by decide)) rfl
          refine i_234_66 hobj (Nat.le_of_ble_eq_true rfl) hrun ?_
          refine i_234_69 (x := 128) rfl ?_
          refine i_234_70 (x := Int32.ofInt r) rfl ?_
          refine i_234_71 (x := 128) rfl ?_
          refine i_234_72 (v := Value.ref 151) hR.c128 rfl ?_
          refine i_234_75 (x := 128) rfl ?_
          refine i_234_76 (v := Value.int (Int32.ofInt (S 128 17))) hR.c128 rfl ?_
          refine i_234_79 ?_
          refine i_234_80 (c := Int32.ofInt ((S 128 17) - 1)) (o_sub (S 128 17) 1) ?_
          have hobj := hR.c128
          obtain ⟨w, S2, V2, hrun, hR, hP⟩ := t_put (d := d) (S1 := S) (h := 151) (q := 1) (r := r) (e := (S 128 17) - 1) hR (nV.up (nV.up nV.refl (by omega)) (by omega)) (iNw (h := 151) (by decide) (by decide) (by decide)) (by decide) (by decide) (by omega) (by omega) (by omega) (uv_s) (by decide) (by decide)
          have f18 : S2 128 18 = S 128 18 := hP.2.2.1 _ _ (by omega) (by omega)
          refine i_234_81 hobj (Nat.le_of_ble_eq_true rfl) hrun ?_
          refine i_234_84 ?_
          have eo : sFar S V r.toNat = put3 1 ((S 128 17) - 1) (S 153 r.toNat) := by unfold sFar; first | (rw [if_pos (by omega)]; done) | (rw [if_neg (by omega), if_pos (by omega), if_pos (by omega)]; done) | (rw [if_neg (by omega), if_pos (by omega), if_neg (by omega)]; done) | (rw [if_neg (by omega), if_neg (by omega), if_pos (by omega)]; done) | (rw [if_neg (by omega), if_neg (by omega), if_neg (by omega)]; done)
          rw [eo]
          exact ⟨rfl, _, _, hR, hP⟩
    · refine i_234_20 (x := 128) rfl ?_
      refine i_234_21 (v := Value.ref 154) hR.c128 rfl ?_
      refine i_234_24 (x := Int32.ofInt r) rfl ?_
      refine i_234_25 ?_
      refine i_234_26 (v := Value.int (Int32.ofInt 1)) (hR.row a154) (ix0 (T := r) (by omega) (by omega)) (ix1 (T := r) (by omega) (by omega) (by omega)) (by decide) rfl ?_
      rw [ixn (T := r) (by omega) (by omega)]
      refine xgen (P := mR w0 (u2 S 154 ((r).toNat) 1) V) (hR.arr a154 rfl) (fun w hR => ?_)
      refine i_234_27 ?_
      have eo : sFar S V r.toNat = (1, 0, 0) := by unfold sFar; first | (rw [if_pos (by omega)]; done) | (rw [if_neg (by omega), if_pos (by omega), if_pos (by omega)]; done) | (rw [if_neg (by omega), if_pos (by omega), if_neg (by omega)]; done) | (rw [if_neg (by omega), if_neg (by omega), if_pos (by omega)]; done) | (rw [if_neg (by omega), if_neg (by omega), if_neg (by omega)]; done)
      rw [eo]
      exact ⟨rfl, _, _, hR, ⟨by simp [u2_e], ⟨fun h => absurd (show (1 : Int) = 3 from h) (by decide), fun _ => mB_eq (by simp [u2_e]) (nV.refl _ (by omega))⟩, fun a j g1 g2 => by rw [u2_e, if_neg g1], fun k g1 g2 => nV.refl k g1⟩⟩
  obtain ⟨o, w', h1, rfl, h2⟩ := key.run
  exact ⟨w', h1, h2⟩
set_option maxHeartbeats 8000000 in
theorem s_nea {d : Nat} {w0 w : xW} {S : Nat → Nat → Int} {V : Nat → Nat} {r : Int} (hR : mR w0 S V w) (hI : mI S V) (hr : 0 ≤ r ∧ r ≤ 15) (hk : S 154 r.toNat = 1 ∨ S 154 r.toNat = 3) : ∃ w', xRun (d + 5) 235 [.ref 128, .int (Int32.ofInt r)] w (.inl none) w' ∧ ∃ S' V', mR w0 S' V' w' ∧ fP S S' V V' r.toNat (sNea S V r.toNat) := by
  obtain ⟨hp_r, hk_r, hn_r, ht_r, hx_r, hq_r⟩ := hI.1 r.toNat (by omega)
  have hi_l := hI.2.1
  have hi_g := hI.2.2.1
  have hx1 : xbl (V (160 + 2 * r.toNat) + 1) ≤ 4097 := xbl_add (n := 4096) (by omega) (by decide)
  have hM2 : S 154 r.toNat = 3 → 2 ≤ V (160 + 2 * r.toNat) := fun h => by
    have h1 := (hq_r h).1
    have h2 := xbl_of (n := V (160 + 2 * r.toNat)) (by intro e; rw [e, xbl_zero] at h1; omega)
    have h3 : 2 ^ 1 ≤ 2 ^ (xbl (V (160 + 2 * r.toNat)) - 1) := Nat.pow_le_pow_right (by omega) (by omega)
    omega
  have hpw : V (160 + 2 * r.toNat) ≤ V (160 + 2 * r.toNat) * 2 ^ (1 : Int).toNat := Nat.le_mul_of_pos_right _ (Nat.two_pow_pos _)
  have key : xEv (d + 5) 235 0 (lv_args 0 [.ref 128, .int (Int32.ofInt r)]) [] w (fun o w' => o = .inl none ∧ ∃ S' V', mR w0 S' V' w' ∧ fP S S' V V' r.toNat (sNea S V r.toNat)) := by
    refine i_235_0 (x := 128) rfl ?_
    refine i_235_1 (v := Value.ref 153) hR.c128 rfl ?_
    refine i_235_4 (x := Int32.ofInt r) rfl ?_
    refine i_235_5 (v := Value.int (Int32.ofInt (S 153 ((r).toNat)))) (hR.row a153) (ix0 (T := r) (by omega) (by omega)) (ix1 (T := r) (by omega) (by omega) (by omega)) (ra (T := r) (by omega) (by omega) rfl) ?_
    refine i_235_6 (lv2 := [(2, Value.int (Int32.ofInt (S 153 ((r).toNat)))), (0, Value.ref 128), (1, Value.int (Int32.ofInt r))]) rfl ?_
    refine i_235_7 (x := 128) rfl ?_
    refine i_235_8 (v := Value.ref 154) hR.c128 rfl ?_
    refine i_235_11 (x := Int32.ofInt r) rfl ?_
    refine i_235_12 (v := Value.int (Int32.ofInt (S 154 ((r).toNat)))) (hR.row a154) (ix0 (T := r) (by omega) (by omega)) (ix1 (T := r) (by omega) (by omega) (by omega)) (ra (T := r) (by omega) (by omega) rfl) ?_
    refine i_235_13 ?_
    refine i_235_14 (b_eq (a := S 154 ((r).toNat)) (b := 1) ⟨by omega, by omega⟩ ⟨by decide, by decide⟩ fun c0 => ?_) (b_ne (a := S 154 ((r).toNat)) (b := 1) ⟨by omega, by omega⟩ ⟨by decide, by decide⟩ fun c0 => ?_)
    · refine i_235_30 (x := 128) rfl ?_
      refine i_235_31 (x := Int32.ofInt r) rfl ?_
      have hobj := hR.c128
      obtain ⟨w, hrun, S2, V2, hR, hP⟩ := s_most (d := d) (r := r) hR hI (by omega)
      refine i_235_32 hobj (Nat.le_of_ble_eq_true rfl) hrun ?_
      refine i_235_35 ?_
      have eo : sNea S V r.toNat = put3 (2 ^ (S 153 r.toNat).toNat - 1) (S 128 18 - S 153 r.toNat) (S 153 r.toNat) := by first | (unfold sNea; rw [if_pos (by omega)]; rfl) | grind [sNea, neaQ]
      rw [eo]
      exact ⟨rfl, _, _, hR, hP⟩
    · refine i_235_17 (x := 128) rfl ?_
      refine i_235_18 (v := Value.ref 155) hR.c128 rfl ?_
      refine i_235_21 (x := Int32.ofInt r) rfl ?_
      refine i_235_22 (v := Value.int (Int32.ofInt (S 155 ((r).toNat)))) (hR.row a155) (ix0 (T := r) (by omega) (by omega)) (ix1 (T := r) (by omega) (by omega) (by omega)) (ra (T := r) (by omega) (by omega) rfl) ?_
      refine i_235_23 (x := 128) rfl ?_
      refine i_235_24 (v := Value.int (Int32.ofInt (S 128 18))) hR.c128 rfl ?_
      refine i_235_27 (b_le (a := S 155 ((r).toNat)) (b := S 128 18) ⟨by omega, by omega⟩ ⟨by omega, by omega⟩ fun c1 => ?_) (b_lt (a := S 128 18) (b := S 155 ((r).toNat)) ⟨by omega, by omega⟩ ⟨by omega, by omega⟩ fun c1 => ?_)
      · refine i_235_36 (x := 128) rfl ?_
        refine i_235_37 (v := Value.ref 129) hR.c128 rfl ?_
        refine i_235_40 (x := 128) rfl ?_
        refine i_235_41 (v := Value.ref 157) hR.c128 rfl ?_
        refine i_235_44 (x := Int32.ofInt r) rfl ?_
        obtain ⟨gp, hgp, hgr⟩ := hR.part (j := (r).toNat) (by omega)
        refine i_235_45 (v := Value.ref (160 + 2 * r.toNat)) hgp (ix0 (by omega) (by omega)) (ix1 (by omega) (by omega) (by omega)) (by rw [ixn (by omega) (by omega)]; exact hgr) ?_
        obtain ⟨fs, hobj⟩ := hR.obj (h := 129) (iNw (h := 129) (by decide) (by decide) (by decide))
        obtain ⟨w, hrun, hR⟩ := r_setn (d := d + 2) (v := V (160 + 2 * r.toNat)) (c := 4700) hR (iNw (h := 129) (by decide) (by decide) (by decide)) (iNp (r := r) (by omega) (by omega)) (rfl) rfl (by first | omega | (rw [xbl_div]; omega))
        refine i_235_46 hobj (Nat.le_of_ble_eq_true rfl) hrun ?_
        refine i_235_49 (x := 128) rfl ?_
        refine i_235_50 (v := Value.ref 143) hR.c128 rfl ?_
        refine i_235_53 ?_
        obtain ⟨fs, hobj⟩ := hR.obj (h := 143) (iNw (h := 143) (by decide) (by decide) (by decide))
        obtain ⟨w, hrun, hR⟩ := r_setl (d := d + 2) (x := (1 : Int64)) (v := 1) hR (iNw (h := 143) (by decide) (by decide) (by decide)) rfl
        refine i_235_54 hobj (Nat.le_of_ble_eq_true rfl) hrun ?_
        refine i_235_57 (x := 128) rfl ?_
        refine i_235_58 (v := Value.ref 155) hR.c128 rfl ?_
        refine i_235_61 (x := Int32.ofInt r) rfl ?_
        refine i_235_62 (v := Value.int (Int32.ofInt (S 155 ((r).toNat)))) (hR.row a155) (ix0 (T := r) (by omega) (by omega)) (ix1 (T := r) (by omega) (by omega) (by omega)) (ra (T := r) (by omega) (by omega) rfl) ?_
        refine i_235_63 (x := 128) rfl ?_
        refine i_235_64 (v := Value.int (Int32.ofInt (S 128 17))) hR.c128 rfl ?_
        refine i_235_67 (b_le (a := S 128 17) (b := S 155 ((r).toNat)) ⟨by omega, by omega⟩ ⟨by omega, by omega⟩ fun c2 => ?_) (b_lt (a := S 155 ((r).toNat)) (b := S 128 17) ⟨by omega, by omega⟩ ⟨by omega, by omega⟩ fun c2 => ?_)
        · refine i_235_169 (x := 128) rfl ?_
          refine i_235_170 (x := Int32.ofInt r) rfl ?_
          have hobj := hR.c128
          obtain ⟨w, hrun, hR⟩ := s_exponent (d := d + 3) (r := r) hR (by omega) (by omega)
          refine i_235_171 hobj (Nat.le_of_ble_eq_true rfl) hrun ?_
          refine i_235_174 (lv2 := [(3, Value.int (Int32.ofInt (S 155 r.toNat - S 153 r.toNat))), (2, Value.int (Int32.ofInt (S 153 ((r).toNat)))), (0, Value.ref 128), (1, Value.int (Int32.ofInt r))]) rfl ?_
          refine i_235_175 (x := 128) rfl ?_
          refine i_235_176 (v := Value.ref 129) hR.c128 rfl ?_
          refine i_235_179 (x := Int32.ofInt (S 153 ((r).toNat))) rfl ?_
          refine i_235_180 ?_
          refine i_235_181 (c := Int32.ofInt ((S 153 ((r).toNat)) - 1)) (o_sub (S 153 ((r).toNat)) 1) ?_
          obtain ⟨fs, hobj⟩ := hR.obj (h := 129) (iNw (h := 129) (by decide) (by decide) (by decide))
          have hrun := r_any (d := d + 2) (v := V (160 + 2 * r.toNat)) (k := (S 153 ((r).toNat)) - 1) hR (iNw (h := 129) (by decide) (by decide) (by decide)) ((uv_n (by omega)).trans (uv_s)) (by omega) (by omega)
          refine i_235_182 hobj (Nat.le_of_ble_eq_true rfl) hrun ?_
          refine i_235_185 (zb_t fun c3 => ?_) (zb_f fun c3 => ?_)
          · refine i_235_192 ?_
            refine i_235_193 (lv2 := [(4, Value.int 0), (3, Value.int (Int32.ofInt (S 155 r.toNat - S 153 r.toNat))), (2, Value.int (Int32.ofInt (S 153 ((r).toNat)))), (0, Value.ref 128), (1, Value.int (Int32.ofInt r))]) rfl ?_
            refine i_235_195 (x := 0) rfl ?_
            refine i_235_197 (fun _ => ?_) (fun c => absurd c (by decide))
            refine i_235_228 (x := 0) rfl ?_
            refine i_235_230 (fun _ => ?_) (fun c => absurd c (by decide))
            refine i_235_257 (x := 128) rfl ?_
            refine i_235_258 (v := Value.ref 129) hR.c128 rfl ?_
            refine i_235_261 (x := 128) rfl ?_
            refine i_235_262 (v := Value.ref 143) hR.c128 rfl ?_
            obtain ⟨fs, hobj⟩ := hR.obj (h := 129) (iNw (h := 129) (by decide) (by decide) (by decide))
            obtain ⟨w, hrun, hR⟩ := r_less (d := d + 2) (v := V (160 + 2 * r.toNat)) (v2 := 1) hR (iNw (h := 129) (by decide) (by decide) (by decide)) (iNw (h := 143) (by decide) (by decide) (by decide)) (by omega) ((uv_n (by omega)).trans (uv_s)) (uv_s) (Nat.one_le_iff_ne_zero.mpr (by omega))
            refine i_235_265 hobj (Nat.le_of_ble_eq_true rfl) hrun ?_
            refine i_235_268 (x := 128) rfl ?_
            refine i_235_269 (x := Int32.ofInt r) rfl ?_
            refine i_235_270 (x := 128) rfl ?_
            refine i_235_271 (v := Value.ref 129) hR.c128 rfl ?_
            refine i_235_274 (x := Int32.ofInt (S 155 r.toNat - S 153 r.toNat)) rfl ?_
            have hobj := hR.c128
            obtain ⟨w, S2, V2, hrun, hR, hP⟩ := t_put (d := d + 1) (S1 := S) (h := 129) (q := (V (160 + 2 * r.toNat)) - 1) (r := r) (e := S 155 r.toNat - S 153 r.toNat) hR (nV.up (nV.up (nV.up nV.refl (by omega)) (by omega)) (by omega)) (iNw (h := 129) (by decide) (by decide) (by decide)) (by decide) (by decide) (by omega) (by omega) (by omega) (uv_s) (by first | omega | (have := hM2; omega)) (by first | omega | (rw [xbl_div]; omega) | exact Nat.le_trans (xbl_mono (Nat.sub_le _ _)) (by first | omega | (rw [xbl_div]; omega) | exact Nat.le_trans (xbl_powle _ _) (by omega)))
            have f18 : S2 128 18 = S 128 18 := hP.2.2.1 _ _ (by omega) (by omega)
            refine i_235_275 hobj (Nat.le_of_ble_eq_true rfl) hrun ?_
            refine i_235_278 ?_
            have eo : sNea S V r.toNat = put3 ((V (160 + 2 * r.toNat)) - 1) (S 155 r.toNat - S 153 r.toNat) (S 153 r.toNat) := by first | (unfold sNea; rw [if_pos (by omega)]; rfl) | grind [sNea, neaQ]
            rw [eo]
            exact ⟨rfl, _, _, hR, hP⟩
          · refine i_235_188 ?_
            refine i_235_189 ?_
            refine i_235_193 (lv2 := [(4, Value.int 1), (3, Value.int (Int32.ofInt (S 155 r.toNat - S 153 r.toNat))), (2, Value.int (Int32.ofInt (S 153 ((r).toNat)))), (0, Value.ref 128), (1, Value.int (Int32.ofInt r))]) rfl ?_
            refine i_235_195 (x := 1) rfl ?_
            refine i_235_197 (fun c => absurd c (by decide)) (fun _ => ?_)
            refine i_235_200 (x := 128) rfl ?_
            refine i_235_201 (v := Value.ref 155) hR.c128 rfl ?_
            refine i_235_204 (x := Int32.ofInt r) rfl ?_
            refine i_235_205 (v := Value.int (Int32.ofInt (S 155 ((r).toNat)))) (hR.row a155) (ix0 (T := r) (by omega) (by omega)) (ix1 (T := r) (by omega) (by omega) (by omega)) (ra (T := r) (by omega) (by omega) rfl) ?_
            refine i_235_206 (x := 128) rfl ?_
            refine i_235_207 (v := Value.int (Int32.ofInt (S 128 17))) hR.c128 rfl ?_
            refine i_235_210 (b_ne (a := S 155 ((r).toNat)) (b := S 128 17) ⟨by omega, by omega⟩ ⟨by omega, by omega⟩ fun c4 => ?_) (b_eq (a := S 155 ((r).toNat)) (b := S 128 17) ⟨by omega, by omega⟩ ⟨by omega, by omega⟩ fun c4 => ?_)
            · refine i_235_228 (x := 1) rfl ?_
              refine i_235_230 (fun c => absurd c (by decide)) (fun _ => ?_)
              refine i_235_233 (x := 128) rfl ?_
              refine i_235_234 (v := Value.ref 155) hR.c128 rfl ?_
              refine i_235_237 (x := Int32.ofInt r) rfl ?_
              refine i_235_238 (v := Value.int (Int32.ofInt (S 155 ((r).toNat)))) (hR.row a155) (ix0 (T := r) (by omega) (by omega)) (ix1 (T := r) (by omega) (by omega) (by omega)) (ra (T := r) (by omega) (by omega) rfl) ?_
              refine i_235_239 (x := 128) rfl ?_
              refine i_235_240 (v := Value.int (Int32.ofInt (S 128 17))) hR.c128 rfl ?_
              refine i_235_243 (b_le (a := S 155 ((r).toNat)) (b := S 128 17) ⟨by omega, by omega⟩ ⟨by omega, by omega⟩ fun c5 => ?_) (b_lt (a := S 128 17) (b := S 155 ((r).toNat)) ⟨by omega, by omega⟩ ⟨by omega, by omega⟩ fun c5 => ?_)
              · refine i_235_257 (x := 128) rfl ?_
                refine i_235_258 (v := Value.ref 129) hR.c128 rfl ?_
                refine i_235_261 (x := 128) rfl ?_
                refine i_235_262 (v := Value.ref 143) hR.c128 rfl ?_
                obtain ⟨fs, hobj⟩ := hR.obj (h := 129) (iNw (h := 129) (by decide) (by decide) (by decide))
                obtain ⟨w, hrun, hR⟩ := r_less (d := d + 2) (v := V (160 + 2 * r.toNat)) (v2 := 1) hR (iNw (h := 129) (by decide) (by decide) (by decide)) (iNw (h := 143) (by decide) (by decide) (by decide)) (by omega) ((uv_n (by omega)).trans (uv_s)) (uv_s) (Nat.one_le_iff_ne_zero.mpr (by omega))
                refine i_235_265 hobj (Nat.le_of_ble_eq_true rfl) hrun ?_
                refine i_235_268 (x := 128) rfl ?_
                refine i_235_269 (x := Int32.ofInt r) rfl ?_
                refine i_235_270 (x := 128) rfl ?_
                refine i_235_271 (v := Value.ref 129) hR.c128 rfl ?_
                refine i_235_274 (x := Int32.ofInt (S 155 r.toNat - S 153 r.toNat)) rfl ?_
                have hobj := hR.c128
                obtain ⟨w, S2, V2, hrun, hR, hP⟩ := t_put (d := d + 1) (S1 := S) (h := 129) (q := (V (160 + 2 * r.toNat)) - 1) (r := r) (e := S 155 r.toNat - S 153 r.toNat) hR (nV.up (nV.up (nV.up nV.refl (by omega)) (by omega)) (by omega)) (iNw (h := 129) (by decide) (by decide) (by decide)) (by decide) (by decide) (by omega) (by omega) (by omega) (uv_s) (by first | omega | (have := hM2; omega)) (by first | omega | (rw [xbl_div]; omega) | exact Nat.le_trans (xbl_mono (Nat.sub_le _ _)) (by first | omega | (rw [xbl_div]; omega) | exact Nat.le_trans (xbl_powle _ _) (by omega)))
                have f18 : S2 128 18 = S 128 18 := hP.2.2.1 _ _ (by omega) (by omega)
                refine i_235_275 hobj (Nat.le_of_ble_eq_true rfl) hrun ?_
                refine i_235_278 ?_
                have eo : sNea S V r.toNat = put3 ((V (160 + 2 * r.toNat)) - 1) (S 155 r.toNat - S 153 r.toNat) (S 153 r.toNat) := by first | (unfold sNea; rw [if_pos (by omega)]; rfl) | grind [sNea, neaQ]
                rw [eo]
                exact ⟨rfl, _, _, hR, hP⟩
              · refine i_235_246 (x := 128) rfl ?_
                refine i_235_247 (v := Value.ref 129) hR.c128 rfl ?_
                refine i_235_250 ?_
                obtain ⟨fs, hobj⟩ := hR.obj (h := 129) (iNw (h := 129) (by decide) (by decide) (by decide))
                obtain ⟨w, hrun, hR⟩ := r_up (d := d + 2) (v := V (160 + 2 * r.toNat)) (c := 4700) (k := 1) hR (iNw (h := 129) (by decide) (by decide) (by decide)) ((uv_n (by omega)).trans (uv_s)) rfl (by omega) (by first | omega | (rw [xbl_div]; omega))
                refine i_235_251 hobj (Nat.le_of_ble_eq_true rfl) hrun ?_
                refine i_235_254 (x := (Int32.ofInt (S 155 r.toNat - S 153 r.toNat))) (c := (Int32.ofInt (S 155 r.toNat - S 153 r.toNat + (-1)))) (lv2 := [(3, Value.int (Int32.ofInt (S 155 r.toNat - S 153 r.toNat + (-1)))), (4, Value.int 1), (2, Value.int (Int32.ofInt (S 153 ((r).toNat)))), (0, Value.ref 128), (1, Value.int (Int32.ofInt r))]) rfl (o_dec (S 155 r.toNat - S 153 r.toNat)) rfl ?_
                refine i_235_257 (x := 128) rfl ?_
                refine i_235_258 (v := Value.ref 129) hR.c128 rfl ?_
                refine i_235_261 (x := 128) rfl ?_
                refine i_235_262 (v := Value.ref 143) hR.c128 rfl ?_
                obtain ⟨fs, hobj⟩ := hR.obj (h := 129) (iNw (h := 129) (by decide) (by decide) (by decide))
                obtain ⟨w, hrun, hR⟩ := r_less (d := d + 2) (v := (V (160 + 2 * r.toNat)) * 2 ^ (1 : Int).toNat) (v2 := 1) hR (iNw (h := 129) (by decide) (by decide) (by decide)) (iNw (h := 143) (by decide) (by decide) (by decide)) (by omega) (uv_s) ((uv_n (by omega)).trans (uv_s)) (Nat.one_le_iff_ne_zero.mpr (by omega))
                rw [uvv] at hR
                refine i_235_265 hobj (Nat.le_of_ble_eq_true rfl) hrun ?_
                refine i_235_268 (x := 128) rfl ?_
                refine i_235_269 (x := Int32.ofInt r) rfl ?_
                refine i_235_270 (x := 128) rfl ?_
                refine i_235_271 (v := Value.ref 129) hR.c128 rfl ?_
                refine i_235_274 (x := Int32.ofInt (S 155 r.toNat - S 153 r.toNat + (-1))) rfl ?_
                have hobj := hR.c128
                obtain ⟨w, S2, V2, hrun, hR, hP⟩ := t_put (d := d + 1) (S1 := S) (h := 129) (q := ((V (160 + 2 * r.toNat)) * 2 ^ (1 : Int).toNat) - 1) (r := r) (e := S 155 r.toNat - S 153 r.toNat + (-1)) hR (nV.up (nV.up (nV.up nV.refl (by omega)) (by omega)) (by omega)) (iNw (h := 129) (by decide) (by decide) (by decide)) (by decide) (by decide) (by omega) (by omega) (by omega) (uv_s) (by first | omega | (have := hM2; omega)) (by first | omega | (rw [xbl_div]; omega) | exact Nat.le_trans (xbl_mono (Nat.sub_le _ _)) (by first | omega | (rw [xbl_div]; omega) | exact Nat.le_trans (xbl_powle _ _) (by omega)))
                have f18 : S2 128 18 = S 128 18 := hP.2.2.1 _ _ (by omega) (by omega)
                refine i_235_275 hobj (Nat.le_of_ble_eq_true rfl) hrun ?_
                refine i_235_278 ?_
                have eo : sNea S V r.toNat = put3 (((V (160 + 2 * r.toNat)) * 2 ^ (1 : Int).toNat) - 1) (S 155 r.toNat - S 153 r.toNat + (-1)) (S 153 r.toNat) := by first | (unfold sNea; rw [if_pos (by omega)]; rfl) | grind [sNea, neaQ]
                rw [eo]
                exact ⟨rfl, _, _, hR, hP⟩
            · refine i_235_213 (x := 128) rfl ?_
              refine i_235_214 (v := Value.int (Int32.ofInt (S 128 20))) hR.c128 rfl ?_
              refine i_235_217 (z_ne (a := S 128 20) ⟨by omega, by omega⟩ fun c6 => ?_) (z_eq (a := S 128 20) ⟨by omega, by omega⟩ fun c6 => ?_)
              · refine i_235_228 (x := 1) rfl ?_
                refine i_235_230 (fun c => absurd c (by decide)) (fun _ => ?_)
                refine i_235_233 (x := 128) rfl ?_
                refine i_235_234 (v := Value.ref 155) hR.c128 rfl ?_
                refine i_235_237 (x := Int32.ofInt r) rfl ?_
                refine i_235_238 (v := Value.int (Int32.ofInt (S 155 ((r).toNat)))) (hR.row a155) (ix0 (T := r) (by omega) (by omega)) (ix1 (T := r) (by omega) (by omega) (by omega)) (ra (T := r) (by omega) (by omega) rfl) ?_
                refine i_235_239 (x := 128) rfl ?_
                refine i_235_240 (v := Value.int (Int32.ofInt (S 128 17))) hR.c128 rfl ?_
                refine i_235_243 (b_le (a := S 155 ((r).toNat)) (b := S 128 17) ⟨by omega, by omega⟩ ⟨by omega, by omega⟩ fun c7 => ?_) (b_lt (a := S 128 17) (b := S 155 ((r).toNat)) ⟨by omega, by omega⟩ ⟨by omega, by omega⟩ fun c7 => ?_)
                · refine i_235_257 (x := 128) rfl ?_
                  refine i_235_258 (v := Value.ref 129) hR.c128 rfl ?_
                  refine i_235_261 (x := 128) rfl ?_
                  refine i_235_262 (v := Value.ref 143) hR.c128 rfl ?_
                  obtain ⟨fs, hobj⟩ := hR.obj (h := 129) (iNw (h := 129) (by decide) (by decide) (by decide))
                  obtain ⟨w, hrun, hR⟩ := r_less (d := d + 2) (v := V (160 + 2 * r.toNat)) (v2 := 1) hR (iNw (h := 129) (by decide) (by decide) (by decide)) (iNw (h := 143) (by decide) (by decide) (by decide)) (by omega) ((uv_n (by omega)).trans (uv_s)) (uv_s) (Nat.one_le_iff_ne_zero.mpr (by omega))
                  refine i_235_265 hobj (Nat.le_of_ble_eq_true rfl) hrun ?_
                  refine i_235_268 (x := 128) rfl ?_
                  refine i_235_269 (x := Int32.ofInt r) rfl ?_
                  refine i_235_270 (x := 128) rfl ?_
                  refine i_235_271 (v := Value.ref 129) hR.c128 rfl ?_
                  refine i_235_274 (x := Int32.ofInt (S 155 r.toNat - S 153 r.toNat)) rfl ?_
                  have hobj := hR.c128
                  obtain ⟨w, S2, V2, hrun, hR, hP⟩ := t_put (d := d + 1) (S1 := S) (h := 129) (q := (V (160 + 2 * r.toNat)) - 1) (r := r) (e := S 155 r.toNat - S 153 r.toNat) hR (nV.up (nV.up (nV.up nV.refl (by omega)) (by omega)) (by omega)) (iNw (h := 129) (by decide) (by decide) (by decide)) (by decide) (by decide) (by omega) (by omega) (by omega) (uv_s) (by first | omega | (have := hM2; omega)) (by first | omega | (rw [xbl_div]; omega) | exact Nat.le_trans (xbl_mono (Nat.sub_le _ _)) (by first | omega | (rw [xbl_div]; omega) | exact Nat.le_trans (xbl_powle _ _) (by omega)))
                  have f18 : S2 128 18 = S 128 18 := hP.2.2.1 _ _ (by omega) (by omega)
                  refine i_235_275 hobj (Nat.le_of_ble_eq_true rfl) hrun ?_
                  refine i_235_278 ?_
                  have eo : sNea S V r.toNat = put3 ((V (160 + 2 * r.toNat)) - 1) (S 155 r.toNat - S 153 r.toNat) (S 153 r.toNat) := by first | (unfold sNea; rw [if_pos (by omega)]; rfl) | grind [sNea, neaQ]
                  rw [eo]
                  exact ⟨rfl, _, _, hR, hP⟩
                · refine i_235_246 (x := 128) rfl ?_
                  refine i_235_247 (v := Value.ref 129) hR.c128 rfl ?_
                  refine i_235_250 ?_
                  obtain ⟨fs, hobj⟩ := hR.obj (h := 129) (iNw (h := 129) (by decide) (by decide) (by decide))
                  obtain ⟨w, hrun, hR⟩ := r_up (d := d + 2) (v := V (160 + 2 * r.toNat)) (c := 4700) (k := 1) hR (iNw (h := 129) (by decide) (by decide) (by decide)) ((uv_n (by omega)).trans (uv_s)) rfl (by omega) (by first | omega | (rw [xbl_div]; omega))
                  refine i_235_251 hobj (Nat.le_of_ble_eq_true rfl) hrun ?_
                  refine i_235_254 (x := (Int32.ofInt (S 155 r.toNat - S 153 r.toNat))) (c := (Int32.ofInt (S 155 r.toNat - S 153 r.toNat + (-1)))) (lv2 := [(3, Value.int (Int32.ofInt (S 155 r.toNat - S 153 r.toNat + (-1)))), (4, Value.int 1), (2, Value.int (Int32.ofInt (S 153 ((r).toNat)))), (0, Value.ref 128), (1, Value.int (Int32.ofInt r))]) rfl (o_dec (S 155 r.toNat - S 153 r.toNat)) rfl ?_
                  refine i_235_257 (x := 128) rfl ?_
                  refine i_235_258 (v := Value.ref 129) hR.c128 rfl ?_
                  refine i_235_261 (x := 128) rfl ?_
                  refine i_235_262 (v := Value.ref 143) hR.c128 rfl ?_
                  obtain ⟨fs, hobj⟩ := hR.obj (h := 129) (iNw (h := 129) (by decide) (by decide) (by decide))
                  obtain ⟨w, hrun, hR⟩ := r_less (d := d + 2) (v := (V (160 + 2 * r.toNat)) * 2 ^ (1 : Int).toNat) (v2 := 1) hR (iNw (h := 129) (by decide) (by decide) (by decide)) (iNw (h := 143) (by decide) (by decide) (by decide)) (by omega) (uv_s) ((uv_n (by omega)).trans (uv_s)) (Nat.one_le_iff_ne_zero.mpr (by omega))
                  rw [uvv] at hR
                  refine i_235_265 hobj (Nat.le_of_ble_eq_true rfl) hrun ?_
                  refine i_235_268 (x := 128) rfl ?_
                  refine i_235_269 (x := Int32.ofInt r) rfl ?_
                  refine i_235_270 (x := 128) rfl ?_
                  refine i_235_271 (v := Value.ref 129) hR.c128 rfl ?_
                  refine i_235_274 (x := Int32.ofInt (S 155 r.toNat - S 153 r.toNat + (-1))) rfl ?_
                  have hobj := hR.c128
                  obtain ⟨w, S2, V2, hrun, hR, hP⟩ := t_put (d := d + 1) (S1 := S) (h := 129) (q := ((V (160 + 2 * r.toNat)) * 2 ^ (1 : Int).toNat) - 1) (r := r) (e := S 155 r.toNat - S 153 r.toNat + (-1)) hR (nV.up (nV.up (nV.up nV.refl (by omega)) (by omega)) (by omega)) (iNw (h := 129) (by decide) (by decide) (by decide)) (by decide) (by decide) (by omega) (by omega) (by omega) (uv_s) (by first | omega | (have := hM2; omega)) (by first | omega | (rw [xbl_div]; omega) | exact Nat.le_trans (xbl_mono (Nat.sub_le _ _)) (by first | omega | (rw [xbl_div]; omega) | exact Nat.le_trans (xbl_powle _ _) (by omega)))
                  have f18 : S2 128 18 = S 128 18 := hP.2.2.1 _ _ (by omega) (by omega)
                  refine i_235_275 hobj (Nat.le_of_ble_eq_true rfl) hrun ?_
                  refine i_235_278 ?_
                  have eo : sNea S V r.toNat = put3 (((V (160 + 2 * r.toNat)) * 2 ^ (1 : Int).toNat) - 1) (S 155 r.toNat - S 153 r.toNat + (-1)) (S 153 r.toNat) := by first | (unfold sNea; rw [if_pos (by omega)]; rfl) | grind [sNea, neaQ]
                  rw [eo]
                  exact ⟨rfl, _, _, hR, hP⟩
              · refine i_235_220 (x := 128) rfl ?_
                refine i_235_221 (v := Value.ref 154) hR.c128 rfl ?_
                refine i_235_224 (x := Int32.ofInt r) rfl ?_
                refine i_235_225 ?_
                refine i_235_226 (v := Value.int (Int32.ofInt 2)) (hR.row a154) (ix0 (T := r) (by omega) (by omega)) (ix1 (T := r) (by omega) (by omega) (by omega)) (by decide) rfl ?_
                rw [ixn (T := r) (by omega) (by omega)]
                refine xgen (P := mR w0 (u2 S 154 ((r).toNat) 2) (uv (uv V 129 (V (160 + 2 * r.toNat))) 143 1)) (hR.arr a154 rfl) (fun w hR => ?_)
                refine i_235_227 ?_
                have eo : sNea S V r.toNat = (2, 0, 0) := by first | (unfold sNea; rw [if_pos (by omega)]; rfl) | grind [sNea, neaQ]
                rw [eo]
                exact ⟨rfl, _, _, hR, ⟨by simp [u2_e], ⟨fun h => absurd (show (2 : Int) = 3 from h) (by decide), fun _ => mB_eq (by simp [u2_e]) ((nV.up (nV.up nV.refl (by omega)) (by omega)) _ (by omega))⟩, fun a j g1 g2 => by rw [u2_e, if_neg g1], fun k g1 g2 => (nV.up (nV.up nV.refl (by omega)) (by omega)) k g1⟩⟩
        · refine i_235_70 (x := 128) rfl ?_
          refine i_235_71 (v := Value.int (Int32.ofInt (S 128 17))) hR.c128 rfl ?_
          refine i_235_74 (x := 128) rfl ?_
          refine i_235_75 (v := Value.ref 155) hR.c128 rfl ?_
          refine i_235_78 (x := Int32.ofInt r) rfl ?_
          refine i_235_79 (v := Value.int (Int32.ofInt (S 155 ((r).toNat)))) (hR.row a155) (ix0 (T := r) (by omega) (by omega)) (ix1 (T := r) (by omega) (by omega) (by omega)) (ra (T := r) (by omega) (by omega) rfl) ?_
          refine i_235_80 (c := Int32.ofInt ((S 128 17) - (S 155 ((r).toNat)))) (o_sub (S 128 17) (S 155 ((r).toNat))) ?_
          refine i_235_81 (lv2 := [(3, Value.int (Int32.ofInt ((S 128 17) - (S 155 ((r).toNat))))), (2, Value.int (Int32.ofInt (S 153 ((r).toNat)))), (0, Value.ref 128), (1, Value.int (Int32.ofInt r))]) rfl ?_
          refine i_235_82 (x := 128) rfl ?_
          refine i_235_83 (v := Value.ref 129) hR.c128 rfl ?_
          refine i_235_86 (x := Int32.ofInt ((S 128 17) - (S 155 ((r).toNat)))) rfl ?_
          obtain ⟨fs, hobj⟩ := hR.obj (h := 129) (iNw (h := 129) (by decide) (by decide) (by decide))
          have hrun := r_any (d := d + 2) (v := V (160 + 2 * r.toNat)) (k := (S 128 17) - (S 155 ((r).toNat))) hR (iNw (h := 129) (by decide) (by decide) (by decide)) ((uv_n (by omega)).trans (uv_s)) (by omega) (by omega)
          refine i_235_87 hobj (Nat.le_of_ble_eq_true rfl) hrun ?_
          refine i_235_90 (lv2 := [(4, Value.int (Int32.ofInt (bb (nany (V (160 + 2 * r.toNat)) ((S 128 17) - (S 155 ((r).toNat))))))), (3, Value.int (Int32.ofInt ((S 128 17) - (S 155 ((r).toNat))))), (2, Value.int (Int32.ofInt (S 153 ((r).toNat)))), (0, Value.ref 128), (1, Value.int (Int32.ofInt r))]) rfl ?_
          refine i_235_92 (x := 128) rfl ?_
          refine i_235_93 (v := Value.ref 129) hR.c128 rfl ?_
          refine i_235_96 (x := Int32.ofInt ((S 128 17) - (S 155 ((r).toNat)))) rfl ?_
          obtain ⟨fs, hobj⟩ := hR.obj (h := 129) (iNw (h := 129) (by decide) (by decide) (by decide))
          obtain ⟨w, hrun, hR⟩ := r_down (d := d + 2) (v := V (160 + 2 * r.toNat)) (k := (S 128 17) - (S 155 ((r).toNat))) hR (iNw (h := 129) (by decide) (by decide) (by decide)) ((uv_n (by omega)).trans (uv_s)) (by omega) (by omega)
          refine i_235_97 hobj (Nat.le_of_ble_eq_true rfl) hrun ?_
          refine i_235_100 (x := Int32.ofInt (bb (nany (V (160 + 2 * r.toNat)) ((S 128 17) - (S 155 ((r).toNat)))))) rfl ?_
          refine i_235_102 (zb_t fun c8 => ?_) (zb_f fun c8 => ?_)
          · refine i_235_126 (x := 128) rfl ?_
            refine i_235_127 (v := Value.int (Int32.ofInt (S 128 20))) hR.c128 rfl ?_
            refine i_235_130 (z_eq (a := S 128 20) ⟨by omega, by omega⟩ fun c9 => ?_) (z_ne (a := S 128 20) ⟨by omega, by omega⟩ fun c9 => ?_)
            · refine i_235_143 (x := 128) rfl ?_
              refine i_235_144 (v := Value.ref 154) hR.c128 rfl ?_
              refine i_235_147 (x := Int32.ofInt r) rfl ?_
              refine i_235_148 ?_
              refine i_235_149 (v := Value.int (Int32.ofInt 2)) (hR.row a154) (ix0 (T := r) (by omega) (by omega)) (ix1 (T := r) (by omega) (by omega) (by omega)) (by decide) rfl ?_
              rw [ixn (T := r) (by omega) (by omega)]
              refine xgen (P := mR w0 (u2 S 154 ((r).toNat) 2) (uv (uv (uv V 129 (V (160 + 2 * r.toNat))) 143 1) 129 ((V (160 + 2 * r.toNat)) / 2 ^ ((S 128 17) - (S 155 ((r).toNat)) : Int).toNat))) (hR.arr a154 rfl) (fun w hR => ?_)
              refine i_235_150 ?_
              refine i_235_168 ?_
              have eo : sNea S V r.toNat = (2, 0, 0) := by first | (unfold sNea; rw [if_pos (by omega)]; rfl) | grind [sNea, neaQ]
              rw [eo]
              exact ⟨rfl, _, _, hR, ⟨by simp [u2_e], ⟨fun h => absurd (show (2 : Int) = 3 from h) (by decide), fun _ => mB_eq (by simp [u2_e]) ((nV.up (nV.up (nV.up nV.refl (by omega)) (by omega)) (by omega)) _ (by omega))⟩, fun a j g1 g2 => by rw [u2_e, if_neg g1], fun k g1 g2 => (nV.up (nV.up (nV.up nV.refl (by omega)) (by omega)) (by omega)) k g1⟩⟩
            · refine i_235_133 (x := 128) rfl ?_
              refine i_235_134 (v := Value.ref 129) hR.c128 rfl ?_
              obtain ⟨n11, hsz, hn11, hz11⟩ := hR.size (h := 129) (v := (V (160 + 2 * r.toNat)) / 2 ^ ((S 128 17) - (S 155 ((r).toNat)) : Int).toNat) (iNw (h := 129) (by decide) (by decide) (by decide)) (uv_s)
              refine i_235_137 (v := Value.int (Int32.ofInt (n11 : Int))) hsz rfl ?_
              refine i_235_140 (z_ne (a := (n11 : Int)) ⟨by omega, by omega⟩ fun c11 => ?_) (z_eq (a := (n11 : Int)) ⟨by omega, by omega⟩ fun c11 => ?_)
              · refine i_235_153 (x := 128) rfl ?_
                refine i_235_154 (x := Int32.ofInt r) rfl ?_
                refine i_235_155 (x := 128) rfl ?_
                refine i_235_156 (v := Value.ref 129) hR.c128 rfl ?_
                refine i_235_159 (x := 128) rfl ?_
                refine i_235_160 (v := Value.int (Int32.ofInt (S 128 17))) hR.c128 rfl ?_
                refine i_235_163 (x := Int32.ofInt (S 153 ((r).toNat))) rfl ?_
                refine i_235_164 (c := Int32.ofInt ((S 128 17) - (S 153 ((r).toNat)))) (o_sub (S 128 17) (S 153 ((r).toNat))) ?_
                have hobj := hR.c128
                obtain ⟨w, S2, V2, hrun, hR, hP⟩ := t_put (d := d + 1) (S1 := S) (h := 129) (q := (V (160 + 2 * r.toNat)) / 2 ^ ((S 128 17) - (S 155 ((r).toNat)) : Int).toNat) (r := r) (e := (S 128 17) - (S 153 ((r).toNat))) hR (nV.up (nV.up (nV.up nV.refl (by omega)) (by omega)) (by omega)) (iNw (h := 129) (by decide) (by decide) (by decide)) (by decide) (by decide) (by omega) (by omega) (by omega) (uv_s) (by first | omega | (have := hM2; omega)) (by first | omega | (rw [xbl_div]; omega) | exact Nat.le_trans (xbl_mono (Nat.sub_le _ _)) (by first | omega | (rw [xbl_div]; omega) | exact Nat.le_trans (xbl_powle _ _) (by omega)))
                have f18 : S2 128 18 = S 128 18 := hP.2.2.1 _ _ (by omega) (by omega)
                refine i_235_165 hobj (Nat.le_of_ble_eq_true rfl) hrun ?_
                refine i_235_168 ?_
                have eo : sNea S V r.toNat = put3 ((V (160 + 2 * r.toNat)) / 2 ^ ((S 128 17) - (S 155 ((r).toNat)) : Int).toNat) ((S 128 17) - (S 153 ((r).toNat))) (S 153 r.toNat) := by first | (unfold sNea; rw [if_pos (by omega)]; rfl) | grind [sNea, neaQ]
                rw [eo]
                exact ⟨rfl, _, _, hR, hP⟩
              · refine i_235_143 (x := 128) rfl ?_
                refine i_235_144 (v := Value.ref 154) hR.c128 rfl ?_
                refine i_235_147 (x := Int32.ofInt r) rfl ?_
                refine i_235_148 ?_
                refine i_235_149 (v := Value.int (Int32.ofInt 2)) (hR.row a154) (ix0 (T := r) (by omega) (by omega)) (ix1 (T := r) (by omega) (by omega) (by omega)) (by decide) rfl ?_
                rw [ixn (T := r) (by omega) (by omega)]
                refine xgen (P := mR w0 (u2 S 154 ((r).toNat) 2) (uv (uv (uv V 129 (V (160 + 2 * r.toNat))) 143 1) 129 ((V (160 + 2 * r.toNat)) / 2 ^ ((S 128 17) - (S 155 ((r).toNat)) : Int).toNat))) (hR.arr a154 rfl) (fun w hR => ?_)
                refine i_235_150 ?_
                refine i_235_168 ?_
                have eo : sNea S V r.toNat = (2, 0, 0) := by first | (unfold sNea; rw [if_pos (by omega)]; rfl) | grind [sNea, neaQ]
                rw [eo]
                exact ⟨rfl, _, _, hR, ⟨by simp [u2_e], ⟨fun h => absurd (show (2 : Int) = 3 from h) (by decide), fun _ => mB_eq (by simp [u2_e]) ((nV.up (nV.up (nV.up nV.refl (by omega)) (by omega)) (by omega)) _ (by omega))⟩, fun a j g1 g2 => by rw [u2_e, if_neg g1], fun k g1 g2 => (nV.up (nV.up (nV.up nV.refl (by omega)) (by omega)) (by omega)) k g1⟩⟩
          · refine i_235_105 (x := 128) rfl ?_
            refine i_235_106 (v := Value.ref 129) hR.c128 rfl ?_
            obtain ⟨n13, hsz, hn13, hz13⟩ := hR.size (h := 129) (v := (V (160 + 2 * r.toNat)) / 2 ^ ((S 128 17) - (S 155 ((r).toNat)) : Int).toNat) (iNw (h := 129) (by decide) (by decide) (by decide)) (uv_s)
            refine i_235_109 (v := Value.int (Int32.ofInt (n13 : Int))) hsz rfl ?_
            refine i_235_112 (z_le (a := (n13 : Int)) ⟨by omega, by omega⟩ fun c13 => ?_) (z_gt (a := (n13 : Int)) ⟨by omega, by omega⟩ fun c13 => ?_)
            · refine i_235_126 (x := 128) rfl ?_
              refine i_235_127 (v := Value.int (Int32.ofInt (S 128 20))) hR.c128 rfl ?_
              refine i_235_130 (z_eq (a := S 128 20) ⟨by omega, by omega⟩ fun c14 => ?_) (z_ne (a := S 128 20) ⟨by omega, by omega⟩ fun c14 => ?_)
              · refine i_235_143 (x := 128) rfl ?_
                refine i_235_144 (v := Value.ref 154) hR.c128 rfl ?_
                refine i_235_147 (x := Int32.ofInt r) rfl ?_
                refine i_235_148 ?_
                refine i_235_149 (v := Value.int (Int32.ofInt 2)) (hR.row a154) (ix0 (T := r) (by omega) (by omega)) (ix1 (T := r) (by omega) (by omega) (by omega)) (by decide) rfl ?_
                rw [ixn (T := r) (by omega) (by omega)]
                refine xgen (P := mR w0 (u2 S 154 ((r).toNat) 2) (uv (uv (uv V 129 (V (160 + 2 * r.toNat))) 143 1) 129 ((V (160 + 2 * r.toNat)) / 2 ^ ((S 128 17) - (S 155 ((r).toNat)) : Int).toNat))) (hR.arr a154 rfl) (fun w hR => ?_)
                refine i_235_150 ?_
                refine i_235_168 ?_
                have eo : sNea S V r.toNat = (2, 0, 0) := by first | (unfold sNea; rw [if_pos (by omega)]; rfl) | grind [sNea, neaQ]
                rw [eo]
                exact ⟨rfl, _, _, hR, ⟨by simp [u2_e], ⟨fun h => absurd (show (2 : Int) = 3 from h) (by decide), fun _ => mB_eq (by simp [u2_e]) ((nV.up (nV.up (nV.up nV.refl (by omega)) (by omega)) (by omega)) _ (by omega))⟩, fun a j g1 g2 => by rw [u2_e, if_neg g1], fun k g1 g2 => (nV.up (nV.up (nV.up nV.refl (by omega)) (by omega)) (by omega)) k g1⟩⟩
              · refine i_235_133 (x := 128) rfl ?_
                refine i_235_134 (v := Value.ref 129) hR.c128 rfl ?_
                obtain ⟨n16, hsz, hn16, hz16⟩ := hR.size (h := 129) (v := (V (160 + 2 * r.toNat)) / 2 ^ ((S 128 17) - (S 155 ((r).toNat)) : Int).toNat) (iNw (h := 129) (by decide) (by decide) (by decide)) (uv_s)
                refine i_235_137 (v := Value.int (Int32.ofInt (n16 : Int))) hsz rfl ?_
                refine i_235_140 (z_ne (a := (n16 : Int)) ⟨by omega, by omega⟩ fun c16 => ?_) (z_eq (a := (n16 : Int)) ⟨by omega, by omega⟩ fun c16 => ?_)
                · refine i_235_153 (x := 128) rfl ?_
                  refine i_235_154 (x := Int32.ofInt r) rfl ?_
                  refine i_235_155 (x := 128) rfl ?_
                  refine i_235_156 (v := Value.ref 129) hR.c128 rfl ?_
                  refine i_235_159 (x := 128) rfl ?_
                  refine i_235_160 (v := Value.int (Int32.ofInt (S 128 17))) hR.c128 rfl ?_
                  refine i_235_163 (x := Int32.ofInt (S 153 ((r).toNat))) rfl ?_
                  refine i_235_164 (c := Int32.ofInt ((S 128 17) - (S 153 ((r).toNat)))) (o_sub (S 128 17) (S 153 ((r).toNat))) ?_
                  have hobj := hR.c128
                  obtain ⟨w, S2, V2, hrun, hR, hP⟩ := t_put (d := d + 1) (S1 := S) (h := 129) (q := (V (160 + 2 * r.toNat)) / 2 ^ ((S 128 17) - (S 155 ((r).toNat)) : Int).toNat) (r := r) (e := (S 128 17) - (S 153 ((r).toNat))) hR (nV.up (nV.up (nV.up nV.refl (by omega)) (by omega)) (by omega)) (iNw (h := 129) (by decide) (by decide) (by decide)) (by decide) (by decide) (by omega) (by omega) (by omega) (uv_s) (by first | omega | (have := hM2; omega)) (by first | omega | (rw [xbl_div]; omega) | exact Nat.le_trans (xbl_mono (Nat.sub_le _ _)) (by first | omega | (rw [xbl_div]; omega) | exact Nat.le_trans (xbl_powle _ _) (by omega)))
                  have f18 : S2 128 18 = S 128 18 := hP.2.2.1 _ _ (by omega) (by omega)
                  refine i_235_165 hobj (Nat.le_of_ble_eq_true rfl) hrun ?_
                  refine i_235_168 ?_
                  have eo : sNea S V r.toNat = put3 ((V (160 + 2 * r.toNat)) / 2 ^ ((S 128 17) - (S 155 ((r).toNat)) : Int).toNat) ((S 128 17) - (S 153 ((r).toNat))) (S 153 r.toNat) := by first | (unfold sNea; rw [if_pos (by omega)]; rfl) | grind [sNea, neaQ]
                  rw [eo]
                  exact ⟨rfl, _, _, hR, hP⟩
                · refine i_235_143 (x := 128) rfl ?_
                  refine i_235_144 (v := Value.ref 154) hR.c128 rfl ?_
                  refine i_235_147 (x := Int32.ofInt r) rfl ?_
                  refine i_235_148 ?_
                  refine i_235_149 (v := Value.int (Int32.ofInt 2)) (hR.row a154) (ix0 (T := r) (by omega) (by omega)) (ix1 (T := r) (by omega) (by omega) (by omega)) (by decide) rfl ?_
                  rw [ixn (T := r) (by omega) (by omega)]
                  refine xgen (P := mR w0 (u2 S 154 ((r).toNat) 2) (uv (uv (uv V 129 (V (160 + 2 * r.toNat))) 143 1) 129 ((V (160 + 2 * r.toNat)) / 2 ^ ((S 128 17) - (S 155 ((r).toNat)) : Int).toNat))) (hR.arr a154 rfl) (fun w hR => ?_)
                  refine i_235_150 ?_
                  refine i_235_168 ?_
                  have eo : sNea S V r.toNat = (2, 0, 0) := by first | (unfold sNea; rw [if_pos (by omega)]; rfl) | grind [sNea, neaQ]
                  rw [eo]
                  exact ⟨rfl, _, _, hR, ⟨by simp [u2_e], ⟨fun h => absurd (show (2 : Int) = 3 from h) (by decide), fun _ => mB_eq (by simp [u2_e]) ((nV.up (nV.up (nV.up nV.refl (by omega)) (by omega)) (by omega)) _ (by omega))⟩, fun a j g1 g2 => by rw [u2_e, if_neg g1], fun k g1 g2 => (nV.up (nV.up (nV.up nV.refl (by omega)) (by omega)) (by omega)) k g1⟩⟩
            · refine i_235_115 (x := 128) rfl ?_
              refine i_235_116 (v := Value.ref 129) hR.c128 rfl ?_
              refine i_235_119 (x := 128) rfl ?_
              refine i_235_120 (v := Value.ref 143) hR.c128 rfl ?_
              obtain ⟨fs, hobj⟩ := hR.obj (h := 129) (iNw (h := 129) (by decide) (by decide) (by decide))
              obtain ⟨w, hrun, hR⟩ := r_less (d := d + 2) (v := (V (160 + 2 * r.toNat)) / 2 ^ ((S 128 17) - (S 155 ((r).toNat)) : Int).toNat) (v2 := 1) hR (iNw (h := 129) (by decide) (by decide) (by decide)) (iNw (h := 143) (by decide) (by decide) (by decide)) (by omega) (uv_s) ((uv_n (by omega)).trans (uv_s)) (Nat.one_le_iff_ne_zero.mpr (by omega))
              rw [uvv] at hR
              refine i_235_123 hobj (Nat.le_of_ble_eq_true rfl) hrun ?_
              refine i_235_126 (x := 128) rfl ?_
              refine i_235_127 (v := Value.int (Int32.ofInt (S 128 20))) hR.c128 rfl ?_
              refine i_235_130 (z_eq (a := S 128 20) ⟨by omega, by omega⟩ fun c17 => ?_) (z_ne (a := S 128 20) ⟨by omega, by omega⟩ fun c17 => ?_)
              · refine i_235_143 (x := 128) rfl ?_
                refine i_235_144 (v := Value.ref 154) hR.c128 rfl ?_
                refine i_235_147 (x := Int32.ofInt r) rfl ?_
                refine i_235_148 ?_
                refine i_235_149 (v := Value.int (Int32.ofInt 2)) (hR.row a154) (ix0 (T := r) (by omega) (by omega)) (ix1 (T := r) (by omega) (by omega) (by omega)) (by decide) rfl ?_
                rw [ixn (T := r) (by omega) (by omega)]
                refine xgen (P := mR w0 (u2 S 154 ((r).toNat) 2) (uv (uv (uv V 129 (V (160 + 2 * r.toNat))) 143 1) 129 (((V (160 + 2 * r.toNat)) / 2 ^ ((S 128 17) - (S 155 ((r).toNat)) : Int).toNat) - 1))) (hR.arr a154 rfl) (fun w hR => ?_)
                refine i_235_150 ?_
                refine i_235_168 ?_
                have eo : sNea S V r.toNat = (2, 0, 0) := by first | (unfold sNea; rw [if_pos (by omega)]; rfl) | grind [sNea, neaQ]
                rw [eo]
                exact ⟨rfl, _, _, hR, ⟨by simp [u2_e], ⟨fun h => absurd (show (2 : Int) = 3 from h) (by decide), fun _ => mB_eq (by simp [u2_e]) ((nV.up (nV.up (nV.up nV.refl (by omega)) (by omega)) (by omega)) _ (by omega))⟩, fun a j g1 g2 => by rw [u2_e, if_neg g1], fun k g1 g2 => (nV.up (nV.up (nV.up nV.refl (by omega)) (by omega)) (by omega)) k g1⟩⟩
              · refine i_235_133 (x := 128) rfl ?_
                refine i_235_134 (v := Value.ref 129) hR.c128 rfl ?_
                obtain ⟨n19, hsz, hn19, hz19⟩ := hR.size (h := 129) (v := ((V (160 + 2 * r.toNat)) / 2 ^ ((S 128 17) - (S 155 ((r).toNat)) : Int).toNat) - 1) (iNw (h := 129) (by decide) (by decide) (by decide)) (uv_s)
                refine i_235_137 (v := Value.int (Int32.ofInt (n19 : Int))) hsz rfl ?_
                refine i_235_140 (z_ne (a := (n19 : Int)) ⟨by omega, by omega⟩ fun c19 => ?_) (z_eq (a := (n19 : Int)) ⟨by omega, by omega⟩ fun c19 => ?_)
                · refine i_235_153 (x := 128) rfl ?_
                  refine i_235_154 (x := Int32.ofInt r) rfl ?_
                  refine i_235_155 (x := 128) rfl ?_
                  refine i_235_156 (v := Value.ref 129) hR.c128 rfl ?_
                  refine i_235_159 (x := 128) rfl ?_
                  refine i_235_160 (v := Value.int (Int32.ofInt (S 128 17))) hR.c128 rfl ?_
                  refine i_235_163 (x := Int32.ofInt (S 153 ((r).toNat))) rfl ?_
                  refine i_235_164 (c := Int32.ofInt ((S 128 17) - (S 153 ((r).toNat)))) (o_sub (S 128 17) (S 153 ((r).toNat))) ?_
                  have hobj := hR.c128
                  obtain ⟨w, S2, V2, hrun, hR, hP⟩ := t_put (d := d + 1) (S1 := S) (h := 129) (q := ((V (160 + 2 * r.toNat)) / 2 ^ ((S 128 17) - (S 155 ((r).toNat)) : Int).toNat) - 1) (r := r) (e := (S 128 17) - (S 153 ((r).toNat))) hR (nV.up (nV.up (nV.up nV.refl (by omega)) (by omega)) (by omega)) (iNw (h := 129) (by decide) (by decide) (by decide)) (by decide) (by decide) (by omega) (by omega) (by omega) (uv_s) (by first | omega | (have := hM2; omega)) (by first | omega | (rw [xbl_div]; omega) | exact Nat.le_trans (xbl_mono (Nat.sub_le _ _)) (by first | omega | (rw [xbl_div]; omega) | exact Nat.le_trans (xbl_powle _ _) (by omega)))
                  have f18 : S2 128 18 = S 128 18 := hP.2.2.1 _ _ (by omega) (by omega)
                  refine i_235_165 hobj (Nat.le_of_ble_eq_true rfl) hrun ?_
                  refine i_235_168 ?_
                  have eo : sNea S V r.toNat = put3 (((V (160 + 2 * r.toNat)) / 2 ^ ((S 128 17) - (S 155 ((r).toNat)) : Int).toNat) - 1) ((S 128 17) - (S 153 ((r).toNat))) (S 153 r.toNat) := by first | (unfold sNea; rw [if_pos (by omega)]; rfl) | grind [sNea, neaQ]
                  rw [eo]
                  exact ⟨rfl, _, _, hR, hP⟩
                · refine i_235_143 (x := 128) rfl ?_
                  refine i_235_144 (v := Value.ref 154) hR.c128 rfl ?_
                  refine i_235_147 (x := Int32.ofInt r) rfl ?_
                  refine i_235_148 ?_
                  refine i_235_149 (v := Value.int (Int32.ofInt 2)) (hR.row a154) (ix0 (T := r) (by omega) (by omega)) (ix1 (T := r) (by omega) (by omega) (by omega)) (by decide) rfl ?_
                  rw [ixn (T := r) (by omega) (by omega)]
                  refine xgen (P := mR w0 (u2 S 154 ((r).toNat) 2) (uv (uv (uv V 129 (V (160 + 2 * r.toNat))) 143 1) 129 (((V (160 + 2 * r.toNat)) / 2 ^ ((S 128 17) - (S 155 ((r).toNat)) : Int).toNat) - 1))) (hR.arr a154 rfl) (fun w hR => ?_)
                  refine i_235_150 ?_
                  refine i_235_168 ?_
                  have eo : sNea S V r.toNat = (2, 0, 0) := by first | (unfold sNea; rw [if_pos (by omega)]; rfl) | grind [sNea, neaQ]
                  rw [eo]
                  exact ⟨rfl, _, _, hR, ⟨by simp [u2_e], ⟨fun h => absurd (show (2 : Int) = 3 from h) (by decide), fun _ => mB_eq (by simp [u2_e]) ((nV.up (nV.up (nV.up nV.refl (by omega)) (by omega)) (by omega)) _ (by omega))⟩, fun a j g1 g2 => by rw [u2_e, if_neg g1], fun k g1 g2 => (nV.up (nV.up (nV.up nV.refl (by omega)) (by omega)) (by omega)) k g1⟩⟩
      · refine i_235_30 (x := 128) rfl ?_
        refine i_235_31 (x := Int32.ofInt r) rfl ?_
        have hobj := hR.c128
        obtain ⟨w, hrun, S2, V2, hR, hP⟩ := s_most (d := d) (r := r) hR hI (by omega)
        refine i_235_32 hobj (Nat.le_of_ble_eq_true rfl) hrun ?_
        refine i_235_35 ?_
        have eo : sNea S V r.toNat = put3 (2 ^ (S 153 r.toNat).toNat - 1) (S 128 18 - S 153 r.toNat) (S 153 r.toNat) := by first | (unfold sNea; rw [if_pos (by omega)]; rfl) | grind [sNea, neaQ]
        rw [eo]
        exact ⟨rfl, _, _, hR, hP⟩
  obtain ⟨o, w', h1, rfl, h2⟩ := key.run
  exact ⟨w', h1, h2⟩
