/-! precision, range, flags, number, copy of the reference, inside their checks -/
theorem xul_o {t : Int} (h0 : 0 ≤ t) (h1 : t < 18446744073709551616) : xul (Int64.ofInt t) = t.toNat := by
  have e := xul_int (Int64.ofInt t)
  have hl := xul_lt (Int64.ofInt t)
  rw [Int64.toInt_ofInt] at e
  have e2 : t.bmod Int64.size = if t % 18446744073709551616 < 9223372036854775808 then t % 18446744073709551616 else t % 18446744073709551616 - 18446744073709551616 := by
    rw [Int.bmod_def]
    rfl
  rw [e2] at e
  omega
def sNum (S : Nat → Nat → Int) (r : Nat) (v scale mode : Int) : OO := if v = 0 then oS 2 0 (S 128 19) else oR (S 153 r) (S 128 17) (S 128 18) (S 128 20) (if v < 0 then 1 else 0) mode 0 v.natAbs scale (S 128 19)
def sCopy (S : Nat → Nat → Int) (V : Nat → Nat) (r a : Nat) (how mode : Int) : OO := sMove S V r a (if how = 0 then S 156 a else if how = 1 ∧ S 156 a = 0 then 1 else 0) mode
theorem s_prec {d : Nat} {w0 w : xW} {S : Nat → Nat → Int} {V : Nat → Nat} {r p : Int} (hR : mR w0 S V w) (hr : 0 ≤ r ∧ r ≤ 15) (hp : 2 ≤ p ∧ p ≤ 4096) : ∃ w', xRun (d + 3) 167 [Value.ref 128, Value.int (Int32.ofInt r), Value.int (Int32.ofInt p)] w (.inl (some (.int (Int32.ofInt (S 153 r.toNat))))) w' ∧ mR w0 (u2 (u2 (u2 S 153 r.toNat p) 154 r.toNat 0) 156 r.toNat 0) V w' := by
  have key : xEv (d + 3) 167 0 (lv_args 0 [Value.ref 128, Value.int (Int32.ofInt r), Value.int (Int32.ofInt p)]) [] w (fun o w' => o = .inl (some (.int (Int32.ofInt (S 153 r.toNat)))) ∧ mR w0 (u2 (u2 (u2 S 153 r.toNat p) 154 r.toNat 0) 156 r.toNat 0) V w') := by
    refine i_167_0 (x := Int32.ofInt r) rfl ?_
    have hrun := s_reg1 (d := d) (w := w) (r := r) (by omega) (by omega)
    refine i_167_1 (Nat.le_of_ble_eq_true rfl) hrun ?_
    refine i_167_4 (x := Int32.ofInt p) rfl ?_
    refine i_167_5 ?_
    refine i_167_6 ?_
    have hrun := s_in (d := d + 1) (w := w) (v := p) (lo := 2) (hi := 4096) ⟨by omega, by omega⟩ ⟨by decide, by decide⟩ ⟨by decide, by decide⟩
    refine i_167_9 (Nat.le_of_ble_eq_true rfl) hrun ?_
    have hrun := s_ck1 (d := d + 1) (w := w) (b := (decide (2 ≤ p ∧ p ≤ 4096))) (decide_eq_true (by omega))
    refine i_167_12 (Nat.le_of_ble_eq_true rfl) hrun ?_
    refine i_167_15 (x := 128) rfl ?_
    refine i_167_16 (v := Value.ref 153) hR.c128 rfl ?_
    refine i_167_19 (x := Int32.ofInt r) rfl ?_
    refine i_167_20 (v := Value.int (Int32.ofInt (S 153 ((r).toNat)))) (hR.row a153) (ix0 (T := r) (by omega) (by omega)) (ix1 (T := r) (by omega) (by omega) (by omega)) (ra (T := r) (by omega) (by omega) rfl) ?_
    refine i_167_21 (lv2 := [(3, Value.int (Int32.ofInt (S 153 ((r).toNat)))), (0, Value.ref 128), (1, Value.int (Int32.ofInt r)), (2, Value.int (Int32.ofInt p))]) rfl ?_
    refine i_167_22 (x := 128) rfl ?_
    refine i_167_23 (v := Value.ref 153) hR.c128 rfl ?_
    refine i_167_26 (x := Int32.ofInt r) rfl ?_
    refine i_167_27 (x := Int32.ofInt p) rfl ?_
    refine i_167_28 (v := Value.int (Int32.ofInt p)) (hR.row a153) (ix0 (T := r) (by omega) (by omega)) (ix1 (T := r) (by omega) (by omega) (by omega)) (by decide) rfl ?_
    rw [ixn (T := r) (by omega) (by omega)]
    refine xgen (P := mR w0 (u2 S 153 ((r).toNat) p) V) (hR.arr a153 rfl) (fun w hR => ?_)
    refine i_167_29 (x := 128) rfl ?_
    refine i_167_30 (x := Int32.ofInt r) rfl ?_
    refine i_167_31 ?_
    refine i_167_32 ?_
    have hobj := hR.c128
    obtain ⟨w, hrun, hR⟩ := s_special (d := d + 1) (r := r) (k := 0) (s := 0) hR (by omega) (by omega) (by omega)
    refine i_167_33 hobj (Nat.le_of_ble_eq_true rfl) hrun ?_
    refine i_167_36 rfl ?_
    refine i_167_37 (x := Int32.ofInt (S 153 ((r).toNat))) rfl ?_
    refine i_167_38 ?_
    exact ⟨rfl, hR⟩
  obtain ⟨o, w', h1, rfl, h2⟩ := key.run
  exact ⟨w', h1, h2⟩
theorem b_prec {d : Nat} {w : xW} {r p : Int} (b_r : -2147483648 ≤ r ∧ r < 2147483648) (b_p : -2147483648 ≤ p ∧ p < 2147483648) (h : ¬ ((0 ≤ r ∧ r ≤ 15) ∧ (2 ≤ p ∧ p ≤ 4096))) : xRun (d + 8) 167 [Value.ref 128, Value.int (Int32.ofInt r), Value.int (Int32.ofInt p)] w (.inr w.length) (w ++ [.inr (14, [])]) := by
  refine xRun.of ?_
  refine i_167_0 (x := Int32.ofInt r) rfl ?_
  rcases Classical.em (0 ≤ r ∧ r ≤ 15) with hc1 | hc1
  · have hrun := s_reg1 (d := d + 5) (w := w) (r := r) (by omega) hc1
    refine i_167_1 (Nat.le_of_ble_eq_true rfl) hrun ?_
    refine i_167_4 (x := Int32.ofInt p) rfl ?_
    refine i_167_5 ?_
    refine i_167_6 ?_
    have hrun := s_in (d := d + 6) (w := w) (v := p) (lo := 2) (hi := 4096) ⟨by omega, by omega⟩ ⟨by decide, by decide⟩ ⟨by decide, by decide⟩
    refine i_167_9 (Nat.le_of_ble_eq_true rfl) hrun ?_
    rcases Classical.em (2 ≤ p ∧ p ≤ 4096) with hc2 | hc2
    · have hrun := s_ck1 (d := d + 6) (w := w) (b := (decide (2 ≤ p ∧ p ≤ 4096))) (decide_eq_true hc2)
      refine i_167_12 (Nat.le_of_ble_eq_true rfl) hrun ?_
      exfalso; omega
    · have hrun := s_ck0 (d := d + 1) (w := w) (b := (decide (2 ≤ p ∧ p ≤ 4096))) (decide_eq_false hc2)
      refine j_167_12 (Nat.le_of_ble_eq_true rfl) hrun (xDone.t (ci := 14) xgl rfl rfl ?_)
      exact ⟨rfl, rfl⟩
  · have hrun := s_reg0 (d := d) (w := w) (r := r) (by omega) hc1
    refine j_167_1 (Nat.le_of_ble_eq_true rfl) hrun (xDone.t (ci := 14) xgl rfl rfl ?_)
    exact ⟨rfl, rfl⟩
theorem s_range {d : Nat} {w0 w : xW} {S : Nat → Nat → Int} {V : Nat → Nat} {l g s : Int} (hR : mR w0 S V w) (hl : -16384 ≤ l ∧ l ≤ 16384) (hg : l ≤ g ∧ g ≤ 16384) (hs : s = 0 ∨ s = 1) : ∃ w', xRun (d + 2) 173 [Value.ref 128, Value.int (Int32.ofInt l), Value.int (Int32.ofInt g), Value.int (Int32.ofInt s)] w (.inl (some (.int (Int32.ofInt (S 128 18))))) w' ∧ mR w0 (u2 (u2 (u2 S 128 17 l) 128 18 g) 128 20 s) V w' := by
  have key : xEv (d + 2) 173 0 (lv_args 0 [Value.ref 128, Value.int (Int32.ofInt l), Value.int (Int32.ofInt g), Value.int (Int32.ofInt s)]) [] w (fun o w' => o = .inl (some (.int (Int32.ofInt (S 128 18)))) ∧ mR w0 (u2 (u2 (u2 S 128 17 l) 128 18 g) 128 20 s) V w') := by
    refine i_173_0 (x := Int32.ofInt l) rfl ?_
    refine i_173_1 ?_
    refine i_173_4 ?_
    have hrun := s_in (d := d) (w := w) (v := l) (lo := (-16384)) (hi := 16384) ⟨by omega, by omega⟩ ⟨by decide, by decide⟩ ⟨by decide, by decide⟩
    refine i_173_7 (Nat.le_of_ble_eq_true rfl) hrun ?_
    refine i_173_10 (zb_f fun c0 => absurd c0 (by simp; omega)) (zb_t fun c0 => ?_)
    refine i_173_13 (x := Int32.ofInt g) rfl ?_
    refine i_173_14 (x := Int32.ofInt l) rfl ?_
    refine i_173_15 ?_
    have hrun := s_in (d := d) (w := w) (v := g) (lo := l) (hi := 16384) ⟨by omega, by omega⟩ ⟨by omega, by omega⟩ ⟨by decide, by decide⟩
    refine i_173_18 (Nat.le_of_ble_eq_true rfl) hrun ?_
    refine i_173_21 (zb_f fun c1 => absurd c1 (by simp; omega)) (zb_t fun c1 => ?_)
    refine i_173_24 ?_
    refine i_173_25 ?_
    have hrun := s_ck1 (d := d) (w := w) (b := true) rfl
    refine i_173_29 (Nat.le_of_ble_eq_true rfl) hrun ?_
    refine i_173_32 (x := 128) rfl ?_
    refine i_173_33 (v := Value.int (Int32.ofInt (S 128 18))) hR.c128 rfl ?_
    refine i_173_36 (lv2 := [(4, Value.int (Int32.ofInt (S 128 18))), (0, Value.ref 128), (1, Value.int (Int32.ofInt l)), (2, Value.int (Int32.ofInt g)), (3, Value.int (Int32.ofInt s))]) rfl ?_
    refine i_173_38 (x := 128) rfl ?_
    refine i_173_39 (x := Int32.ofInt l) rfl ?_
    refine i_173_40 (fs2 := mf (u1 (S 128) 17 l)) hR.c128 (Nat.le_of_ble_eq_true rfl) (mfs_17 (v := l)) (by decide) ?_
    refine xgen (P := mR w0 (u2 S 128 17 l) V) hR.fld2 (fun w hR => ?_)
    refine i_173_43 (x := 128) rfl ?_
    refine i_173_44 (x := Int32.ofInt g) rfl ?_
    refine i_173_45 (fs2 := mf (u1 ((u2 S 128 17 l) 128) 18 g)) hR.c128 (Nat.le_of_ble_eq_true rfl) (mfs_18 (v := g)) (by decide) ?_
    refine xgen (P := mR w0 (u2 (u2 S 128 17 l) 128 18 g) V) hR.fld2 (fun w hR => ?_)
    refine i_173_48 (x := 128) rfl ?_
    refine i_173_49 (x := Int32.ofInt s) rfl ?_
    refine i_173_50 (fs2 := mf (u1 ((u2 (u2 S 128 17 l) 128 18 g) 128) 20 s)) hR.c128 (o_bool (by omega)) (Nat.le_of_ble_eq_true rfl) (mfs_20 (v := s)) (by decide) ?_
    refine xgen (P := mR w0 (u2 (u2 (u2 S 128 17 l) 128 18 g) 128 20 s) V) hR.fld2 (fun w hR => ?_)
    refine i_173_53 (x := Int32.ofInt (S 128 18)) rfl ?_
    refine i_173_55 ?_
    exact ⟨rfl, hR⟩
  obtain ⟨o, w', h1, rfl, h2⟩ := key.run
  exact ⟨w', h1, h2⟩
theorem b_range {d : Nat} {w : xW} {l g s : Int} (b_l : -2147483648 ≤ l ∧ l < 2147483648) (b_g : -2147483648 ≤ g ∧ g < 2147483648) (h : ¬ ((-16384 ≤ l ∧ l ≤ 16384) ∧ (l ≤ g ∧ g ≤ 16384))) : xRun (d + 8) 173 [Value.ref 128, Value.int (Int32.ofInt l), Value.int (Int32.ofInt g), Value.int (Int32.ofInt s)] w (.inr w.length) (w ++ [.inr (14, [])]) := by
  refine xRun.of ?_
  refine i_173_0 (x := Int32.ofInt l) rfl ?_
  refine i_173_1 ?_
  refine i_173_4 ?_
  have hrun := s_in (d := d + 6) (w := w) (v := l) (lo := (-16384)) (hi := 16384) ⟨by omega, by omega⟩ ⟨by decide, by decide⟩ ⟨by decide, by decide⟩
  refine i_173_7 (Nat.le_of_ble_eq_true rfl) hrun ?_
  refine i_173_10 (zb_f fun c0 => ?_) (zb_t fun c0 => ?_)
  · refine i_173_28 ?_
    rcases Classical.em ((false : Bool) = true) with hc2 | hc2
    · have hrun := s_ck1 (d := d + 6) (w := w) (b := false) hc2
      refine i_173_29 (Nat.le_of_ble_eq_true rfl) hrun ?_
      exfalso; simp at * <;> omega
    · have hrun := s_ck0 (d := d + 1) (w := w) (b := false) (by simpa using hc2)
      refine j_173_29 (Nat.le_of_ble_eq_true rfl) hrun (xDone.t (ci := 14) xgl rfl rfl ?_)
      exact ⟨rfl, rfl⟩
  · refine i_173_13 (x := Int32.ofInt g) rfl ?_
    refine i_173_14 (x := Int32.ofInt l) rfl ?_
    refine i_173_15 ?_
    have hrun := s_in (d := d + 6) (w := w) (v := g) (lo := l) (hi := 16384) ⟨by omega, by omega⟩ ⟨by omega, by omega⟩ ⟨by decide, by decide⟩
    refine i_173_18 (Nat.le_of_ble_eq_true rfl) hrun ?_
    refine i_173_21 (zb_f fun c2 => ?_) (zb_t fun c2 => ?_)
    · refine i_173_28 ?_
      rcases Classical.em ((false : Bool) = true) with hc4 | hc4
      · have hrun := s_ck1 (d := d + 6) (w := w) (b := false) hc4
        refine i_173_29 (Nat.le_of_ble_eq_true rfl) hrun ?_
        exfalso; simp at * <;> omega
      · have hrun := s_ck0 (d := d + 1) (w := w) (b := false) (by simpa using hc4)
        refine j_173_29 (Nat.le_of_ble_eq_true rfl) hrun (xDone.t (ci := 14) xgl rfl rfl ?_)
        exact ⟨rfl, rfl⟩
    · refine i_173_24 ?_
      refine i_173_25 ?_
      rcases Classical.em ((true : Bool) = true) with hc5 | hc5
      · have hrun := s_ck1 (d := d + 6) (w := w) (b := true) hc5
        refine i_173_29 (Nat.le_of_ble_eq_true rfl) hrun ?_
        exfalso; simp at * <;> omega
      · have hrun := s_ck0 (d := d + 1) (w := w) (b := true) (by simpa using hc5)
        refine j_173_29 (Nat.le_of_ble_eq_true rfl) hrun (xDone.t (ci := 14) xgl rfl rfl ?_)
        exact ⟨rfl, rfl⟩
theorem s_flags {d : Nat} {w0 w : xW} {S : Nat → Nat → Int} {V : Nat → Nat} {t : Int} (hR : mR w0 S V w) (ht : t = 0 ∨ t = 1) : ∃ w', xRun (d + 1) 175 [Value.ref 128, Value.int (Int32.ofInt t)] w (.inl (some (.int (Int32.ofInt (S 128 19))))) w' ∧ mR w0 (u2 S 128 19 (if t = 0 then S 128 19 else 0)) V w' := by
  have key : xEv (d + 1) 175 0 (lv_args 0 [Value.ref 128, Value.int (Int32.ofInt t)]) [] w (fun o w' => o = .inl (some (.int (Int32.ofInt (S 128 19)))) ∧ mR w0 (u2 S 128 19 (if t = 0 then S 128 19 else 0)) V w') := by
    refine i_175_0 (x := 128) rfl ?_
    refine i_175_1 (v := Value.int (Int32.ofInt (S 128 19))) hR.c128 rfl ?_
    refine i_175_4 (lv2 := [(2, Value.int (Int32.ofInt (S 128 19))), (0, Value.ref 128), (1, Value.int (Int32.ofInt t))]) rfl ?_
    refine i_175_5 (x := Int32.ofInt t) rfl ?_
    refine i_175_6 (z_eq (a := t) ⟨by omega, by omega⟩ fun c0 => ?_) (z_ne (a := t) ⟨by omega, by omega⟩ fun c0 => ?_)
    · refine i_175_14 (x := Int32.ofInt (S 128 19)) rfl ?_
      refine i_175_15 ?_
      have e : (if t = 0 then S 128 19 else 0) = S 128 19 := if_pos (by omega)
      rw [e]
      exact ⟨rfl, by rw [u2_id]; exact hR⟩
    · refine i_175_9 (x := 128) rfl ?_
      refine i_175_10 ?_
      refine i_175_11 (fs2 := mf (u1 (S 128) 19 0)) hR.c128 (Nat.le_of_ble_eq_true rfl) (mfs_19 (v := 0)) (by decide) ?_
      refine xgen (P := mR w0 (u2 S 128 19 0) V) hR.fld2 (fun w hR => ?_)
      refine i_175_14 (x := Int32.ofInt (S 128 19)) rfl ?_
      refine i_175_15 ?_
      have e : (if t = 0 then S 128 19 else 0) = 0 := if_neg (by omega)
      rw [e]
      exact ⟨rfl, hR⟩
  obtain ⟨o, w', h1, rfl, h2⟩ := key.run
  exact ⟨w', h1, h2⟩
set_option maxHeartbeats 8000000 in
theorem s_num {d : Nat} {w0 w : xW} {S : Nat → Nat → Int} {V : Nat → Nat} {r v sc mode : Int} (hR : mR w0 S V w) (hI : mI S V) (hr : 0 ≤ r ∧ r ≤ 15) (hv : -9223372036854775808 ≤ v ∧ v < 9223372036854775808) (hsc : -40000 ≤ sc ∧ sc ≤ 40000) (hmo : 0 ≤ mode ∧ mode ≤ 4) : ∃ w', xRun (d + 8) 177 [Value.ref 128, Value.int (Int32.ofInt r), Value.long (Int64.ofInt v), Value.int (Int32.ofInt sc), Value.int (Int32.ofInt mode)] w (.inl (some (.int (Int32.ofInt (sNum S r.toNat v sc mode).2.2.2.2.1)))) w' ∧ ∃ S' V', mR w0 S' V' w' ∧ oP S S' V V' r.toNat (sNum S r.toNat v sc mode) := by
  obtain ⟨hp_r, -⟩ := hI.1 r.toNat (by omega)
  have hi_l := hI.2.1
  have hi_g := hI.2.2.1
  have hi_f := hI.2.2.2
  have key : xEv (d + 8) 177 0 (lv_args 0 [Value.ref 128, Value.int (Int32.ofInt r), Value.long (Int64.ofInt v), Value.int (Int32.ofInt sc), Value.int (Int32.ofInt mode)]) [] w (fun o w' => o = .inl (some (.int (Int32.ofInt (sNum S r.toNat v sc mode).2.2.2.2.1))) ∧ ∃ S' V', mR w0 S' V' w' ∧ oP S S' V V' r.toNat (sNum S r.toNat v sc mode)) := by
    refine i_177_0 (x := Int32.ofInt r) rfl ?_
    have hrun := s_reg1 (d := d + 5) (w := w) (r := r) (by omega) (by omega)
    refine i_177_1 (Nat.le_of_ble_eq_true rfl) hrun ?_
    refine i_177_4 (x := Int32.ofInt sc) rfl ?_
    refine i_177_6 ?_
    refine i_177_8 ?_
    have hrun := s_in (d := d + 6) (w := w) (v := sc) (lo := (-40000)) (hi := 40000) ⟨by omega, by omega⟩ ⟨by decide, by decide⟩ ⟨by decide, by decide⟩
    refine i_177_10 (Nat.le_of_ble_eq_true rfl) hrun ?_
    have hrun := s_ck1 (d := d + 6) (w := w) (b := (decide ((-40000) ≤ sc ∧ sc ≤ 40000))) (decide_eq_true (by omega))
    refine i_177_13 (Nat.le_of_ble_eq_true rfl) hrun ?_
    refine i_177_16 (x := Int32.ofInt mode) rfl ?_
    have hrun := s_mode1 (d := d + 5) (w := w) (r := mode) (by omega) (by omega)
    refine i_177_18 (Nat.le_of_ble_eq_true rfl) hrun ?_
    refine i_177_21 (x := Int64.ofInt v) rfl ?_
    refine i_177_22 ?_
    refine i_177_23 (c := Int32.ofInt (lc v 0)) (q_cmp (a := v) (b := 0) ⟨by omega, by omega⟩ ⟨by decide, by decide⟩) ?_
    refine i_177_24 (lc_ne (a := v) (b := 0) fun c0 => ?_) (lc_eq (a := v) (b := 0) fun c0 => ?_)
    · refine i_177_35 (x := 128) rfl ?_
      refine i_177_36 (v := Value.ref 129) hR.c128 rfl ?_
      refine i_177_39 (x := Int64.ofInt v) rfl ?_
      refine i_177_40 ?_
      refine i_177_41 (c := Int32.ofInt (lc v 0)) (q_cmp (a := v) (b := 0) ⟨by omega, by omega⟩ ⟨by decide, by decide⟩) ?_
      refine i_177_42 (lc_ge (a := v) (b := 0) fun c1 => ?_) (lc_lt (a := v) (b := 0) fun c1 => ?_)
      · refine i_177_50 (x := Int64.ofInt v) rfl ?_
        obtain ⟨fs, hobj⟩ := hR.obj (h := 129) (iNw (h := 129) (by decide) (by decide) (by decide))
        obtain ⟨w, hrun, hR⟩ := r_setl (d := d + 5) (x := Int64.ofInt v) (v := (v).toNat) hR (iNw (h := 129) (by decide) (by decide) (by decide)) (xul_o (by omega) (by omega))
        refine i_177_51 hobj (Nat.le_of_ble_eq_true rfl) hrun ?_
        refine i_177_54 (x := 128) rfl ?_
        refine i_177_55 (x := Int32.ofInt r) rfl ?_
        refine i_177_56 (x := 128) rfl ?_
        refine i_177_57 (v := Value.ref 129) hR.c128 rfl ?_
        refine i_177_60 (x := Int32.ofInt sc) rfl ?_
        refine i_177_62 ?_
        refine i_177_63 (x := Int64.ofInt v) rfl ?_
        refine i_177_64 ?_
        refine i_177_65 (c := Int32.ofInt (lc v 0)) (q_cmp (a := v) (b := 0) ⟨by omega, by omega⟩ ⟨by decide, by decide⟩) ?_
        refine i_177_66 (lc_ge (a := v) (b := 0) fun c2 => ?_) (lc_lt (a := v) (b := 0) fun c2 => absurd c2 (by omega))
        refine i_177_73 ?_
        refine i_177_74 (x := Int32.ofInt mode) rfl ?_
        have hobj := hR.c128
        have hx : (uv V 129 ((v).toNat)) 129 = (v).toNat := uv_s
        obtain ⟨w, S4, V4, hrun, hR, hP⟩ := s_round (d := d + 3) (h := 129) (r := r) (e := sc) (more := 0) (sg := 0) (mode := mode) hR (iNw (h := 129) (by decide) (by decide) (by decide)) (by omega) (by omega) (by omega) (by omega) (by omega) (by omega) (by omega) (hp_r.1) (hp_r.2) (⟨hi_l.1, Int.le_trans hi_l.2.1 hi_l.2.2⟩) (⟨Int.le_trans hi_l.1 hi_l.2.1, hi_l.2.2⟩) (hi_g) (Or.inl hi_f) (by rw [hx]; exact Nat.le_trans (xbl_le (k := 64) (by omega)) (by decide))
        rw [hx] at hrun hP
        rw [hi_f] at hrun hP
        refine i_177_76 hobj (Nat.le_of_ble_eq_true rfl) hrun ?_
        refine i_177_79 ?_
        have eo : sNum S r.toNat v sc mode = oR (S 153 r.toNat) (S 128 17) (S 128 18) (S 128 20) 0 mode 0 ((v).toNat) sc (S 128 19) := by clear hR hrun; unfold sNum; first | rw [if_pos (by omega)] | (rw [if_neg (by omega), if_pos (by omega)]; congr 1; omega) | (rw [if_neg (by omega), if_neg (by omega)]; congr 1; omega)
        rw [eo]
        exact ⟨rfl, _, _, hR, oP_round hP (by omega) nS.refl (nV.up nV.refl (by omega))⟩
      · refine i_177_45 (x := Int64.ofInt v) rfl ?_
        refine i_177_46 (c := Int64.ofInt (-v)) (q_neg v) ?_
        refine i_177_47 ?_
        obtain ⟨fs, hobj⟩ := hR.obj (h := 129) (iNw (h := 129) (by decide) (by decide) (by decide))
        obtain ⟨w, hrun, hR⟩ := r_setl (d := d + 5) (x := Int64.ofInt (-v)) (v := (-v).toNat) hR (iNw (h := 129) (by decide) (by decide) (by decide)) (xul_o (by omega) (by omega))
        refine i_177_51 hobj (Nat.le_of_ble_eq_true rfl) hrun ?_
        refine i_177_54 (x := 128) rfl ?_
        refine i_177_55 (x := Int32.ofInt r) rfl ?_
        refine i_177_56 (x := 128) rfl ?_
        refine i_177_57 (v := Value.ref 129) hR.c128 rfl ?_
        refine i_177_60 (x := Int32.ofInt sc) rfl ?_
        refine i_177_62 ?_
        refine i_177_63 (x := Int64.ofInt v) rfl ?_
        refine i_177_64 ?_
        refine i_177_65 (c := Int32.ofInt (lc v 0)) (q_cmp (a := v) (b := 0) ⟨by omega, by omega⟩ ⟨by decide, by decide⟩) ?_
        refine i_177_66 (lc_ge (a := v) (b := 0) fun c4 => absurd c4 (by omega)) (lc_lt (a := v) (b := 0) fun c4 => ?_)
        refine i_177_69 ?_
        refine i_177_70 ?_
        refine i_177_74 (x := Int32.ofInt mode) rfl ?_
        have hobj := hR.c128
        have hx : (uv V 129 ((-v).toNat)) 129 = (-v).toNat := uv_s
        obtain ⟨w, S6, V6, hrun, hR, hP⟩ := s_round (d := d + 3) (h := 129) (r := r) (e := sc) (more := 0) (sg := 1) (mode := mode) hR (iNw (h := 129) (by decide) (by decide) (by decide)) (by omega) (by omega) (by omega) (by omega) (by omega) (by omega) (by omega) (hp_r.1) (hp_r.2) (⟨hi_l.1, Int.le_trans hi_l.2.1 hi_l.2.2⟩) (⟨Int.le_trans hi_l.1 hi_l.2.1, hi_l.2.2⟩) (hi_g) (Or.inl hi_f) (by rw [hx]; exact Nat.le_trans (xbl_le (k := 64) (by omega)) (by decide))
        rw [hx] at hrun hP
        rw [hi_f] at hrun hP
        refine i_177_76 hobj (Nat.le_of_ble_eq_true rfl) hrun ?_
        refine i_177_79 ?_
        have eo : sNum S r.toNat v sc mode = oR (S 153 r.toNat) (S 128 17) (S 128 18) (S 128 20) 1 mode 0 ((-v).toNat) sc (S 128 19) := by clear hR hrun; unfold sNum; first | rw [if_pos (by omega)] | (rw [if_neg (by omega), if_pos (by omega)]; congr 1; omega) | (rw [if_neg (by omega), if_neg (by omega)]; congr 1; omega)
        rw [eo]
        exact ⟨rfl, _, _, hR, oP_round hP (by omega) nS.refl (nV.up nV.refl (by omega))⟩
    · refine i_177_27 (x := 128) rfl ?_
      refine i_177_28 (x := Int32.ofInt r) rfl ?_
      refine i_177_29 ?_
      refine i_177_30 ?_
      have hobj := hR.c128
      obtain ⟨w, hrun, hR⟩ := s_special (d := d + 6) (r := r) (k := 2) (s := 0) hR (by omega) (by omega) (by omega)
      refine i_177_31 hobj (Nat.le_of_ble_eq_true rfl) hrun ?_
      refine i_177_34 ?_
      have eo : sNum S r.toNat v sc mode = oS 2 0 (S 128 19) := by clear hR hrun; unfold sNum; first | rw [if_pos (by omega)] | (rw [if_neg (by omega), if_pos (by omega)]; congr 1; omega) | (rw [if_neg (by omega), if_neg (by omega)]; congr 1; omega)
      rw [eo]
      exact ⟨rfl, _, _, hR, oP_special (by omega) (by decide) nS.refl nV.refl rfl⟩
  obtain ⟨o, w', h1, rfl, h2⟩ := key.run
  exact ⟨w', h1, h2⟩
theorem b_num {d : Nat} {w : xW} {r v sc mode : Int} (b_r : -2147483648 ≤ r ∧ r < 2147483648) (b_sc : -2147483648 ≤ sc ∧ sc < 2147483648) (b_mode : -2147483648 ≤ mode ∧ mode < 2147483648) (h : ¬ ((0 ≤ r ∧ r ≤ 15) ∧ (-40000 ≤ sc ∧ sc ≤ 40000) ∧ (0 ≤ mode ∧ mode ≤ 4))) : xRun (d + 8) 177 [Value.ref 128, Value.int (Int32.ofInt r), Value.long (Int64.ofInt v), Value.int (Int32.ofInt sc), Value.int (Int32.ofInt mode)] w (.inr w.length) (w ++ [.inr (14, [])]) := by
  refine xRun.of ?_
  refine i_177_0 (x := Int32.ofInt r) rfl ?_
  rcases Classical.em (0 ≤ r ∧ r ≤ 15) with hc1 | hc1
  · have hrun := s_reg1 (d := d + 5) (w := w) (r := r) (by omega) hc1
    refine i_177_1 (Nat.le_of_ble_eq_true rfl) hrun ?_
    refine i_177_4 (x := Int32.ofInt sc) rfl ?_
    refine i_177_6 ?_
    refine i_177_8 ?_
    have hrun := s_in (d := d + 6) (w := w) (v := sc) (lo := (-40000)) (hi := 40000) ⟨by omega, by omega⟩ ⟨by decide, by decide⟩ ⟨by decide, by decide⟩
    refine i_177_10 (Nat.le_of_ble_eq_true rfl) hrun ?_
    rcases Classical.em ((-40000) ≤ sc ∧ sc ≤ 40000) with hc2 | hc2
    · have hrun := s_ck1 (d := d + 6) (w := w) (b := (decide ((-40000) ≤ sc ∧ sc ≤ 40000))) (decide_eq_true hc2)
      refine i_177_13 (Nat.le_of_ble_eq_true rfl) hrun ?_
      refine i_177_16 (x := Int32.ofInt mode) rfl ?_
      rcases Classical.em (0 ≤ mode ∧ mode ≤ 4) with hc3 | hc3
      · have hrun := s_mode1 (d := d + 5) (w := w) (r := mode) (by omega) hc3
        refine i_177_18 (Nat.le_of_ble_eq_true rfl) hrun ?_
        exfalso; omega
      · have hrun := s_mode0 (d := d) (w := w) (r := mode) (by omega) hc3
        refine j_177_18 (Nat.le_of_ble_eq_true rfl) hrun (xDone.t (ci := 14) xgl rfl rfl ?_)
        exact ⟨rfl, rfl⟩
    · have hrun := s_ck0 (d := d + 1) (w := w) (b := (decide ((-40000) ≤ sc ∧ sc ≤ 40000))) (decide_eq_false hc2)
      refine j_177_13 (Nat.le_of_ble_eq_true rfl) hrun (xDone.t (ci := 14) xgl rfl rfl ?_)
      exact ⟨rfl, rfl⟩
  · have hrun := s_reg0 (d := d) (w := w) (r := r) (by omega) hc1
    refine j_177_1 (Nat.le_of_ble_eq_true rfl) hrun (xDone.t (ci := 14) xgl rfl rfl ?_)
    exact ⟨rfl, rfl⟩
set_option maxHeartbeats 8000000 in
theorem s_copy {d : Nat} {w0 w : xW} {S : Nat → Nat → Int} {V : Nat → Nat} {r a how mode : Int} (hR : mR w0 S V w) (hI : mI S V) (hr : 0 ≤ r ∧ r ≤ 15) (ha : 0 ≤ a ∧ a ≤ 15) (hh : 0 ≤ how ∧ how ≤ 2) (hmo : 0 ≤ mode ∧ mode ≤ 4) : ∃ w', xRun (d + 8) 194 [Value.ref 128, Value.int (Int32.ofInt r), Value.int (Int32.ofInt a), Value.int (Int32.ofInt how), Value.int (Int32.ofInt mode)] w (.inl (some (.int (Int32.ofInt (sCopy S V r.toNat a.toNat how mode).2.2.2.2.1)))) w' ∧ ∃ S' V', mR w0 S' V' w' ∧ oP S S' V V' r.toNat (sCopy S V r.toNat a.toNat how mode) := by
  obtain ⟨hp_r, -⟩ := hI.1 r.toNat (by omega)
  obtain ⟨hp_a, hk_a, hn_a, ht_a, hx_a, -⟩ := hI.1 a.toNat (by omega)
  have hi_l := hI.2.1
  have hi_g := hI.2.2.1
  have hi_f := hI.2.2.2
  have key : xEv (d + 8) 194 0 (lv_args 0 [Value.ref 128, Value.int (Int32.ofInt r), Value.int (Int32.ofInt a), Value.int (Int32.ofInt how), Value.int (Int32.ofInt mode)]) [] w (fun o w' => o = .inl (some (.int (Int32.ofInt (sCopy S V r.toNat a.toNat how mode).2.2.2.2.1))) ∧ ∃ S' V', mR w0 S' V' w' ∧ oP S S' V V' r.toNat (sCopy S V r.toNat a.toNat how mode)) := by
    refine i_194_0 (x := Int32.ofInt r) rfl ?_
    have hrun := s_reg1 (d := d + 5) (w := w) (r := r) (by omega) (by omega)
    refine i_194_1 (Nat.le_of_ble_eq_true rfl) hrun ?_
    refine i_194_4 (x := Int32.ofInt a) rfl ?_
    have hrun := s_reg1 (d := d + 5) (w := w) (r := a) (by omega) (by omega)
    refine i_194_5 (Nat.le_of_ble_eq_true rfl) hrun ?_
    refine i_194_8 (x := Int32.ofInt how) rfl ?_
    refine i_194_9 ?_
    refine i_194_10 ?_
    have hrun := s_in (d := d + 6) (w := w) (v := how) (lo := 0) (hi := 2) ⟨by omega, by omega⟩ ⟨by decide, by decide⟩ ⟨by decide, by decide⟩
    refine i_194_11 (Nat.le_of_ble_eq_true rfl) hrun ?_
    have hrun := s_ck1 (d := d + 6) (w := w) (b := (decide (0 ≤ how ∧ how ≤ 2))) (decide_eq_true (by omega))
    refine i_194_14 (Nat.le_of_ble_eq_true rfl) hrun ?_
    refine i_194_17 (x := Int32.ofInt mode) rfl ?_
    have hrun := s_mode1 (d := d + 5) (w := w) (r := mode) (by omega) (by omega)
    refine i_194_19 (Nat.le_of_ble_eq_true rfl) hrun ?_
    refine i_194_22 (x := 128) rfl ?_
    refine i_194_23 (x := Int32.ofInt r) rfl ?_
    refine i_194_24 (x := Int32.ofInt a) rfl ?_
    refine i_194_25 (x := Int32.ofInt how) rfl ?_
    refine i_194_26 (z_ne (a := how) ⟨by omega, by omega⟩ fun c0 => ?_) (z_eq (a := how) ⟨by omega, by omega⟩ fun c0 => ?_)
    · refine i_194_38 (x := Int32.ofInt how) rfl ?_
      refine i_194_39 ?_
      refine i_194_40 (b_ne (a := how) (b := 1) ⟨by omega, by omega⟩ ⟨by decide, by decide⟩ fun c1 => ?_) (b_eq (a := how) (b := 1) ⟨by omega, by omega⟩ ⟨by decide, by decide⟩ fun c1 => ?_)
      · refine i_194_56 ?_
        refine i_194_57 (x := Int32.ofInt mode) rfl ?_
        have hobj := hR.c128
        obtain ⟨w, hrun, S2, V2, hR, hP⟩ := s_move (d := d + 2) (r := r) (a := a) (sg := 0) (mode := mode) hR hI (by omega) (by omega) (by omega) (by omega)
        refine i_194_59 hobj (Nat.le_of_ble_eq_true rfl) hrun ?_
        refine i_194_62 ?_
        have eo : sCopy S V r.toNat a.toNat how mode = sMove S V r.toNat a.toNat 0 mode := by clear hR hrun hP; unfold sCopy; congr 1; first | exact if_pos (by omega) | (rw [if_neg (by omega)]; first | exact if_pos (by omega) | exact if_neg (by omega))
        rw [eo]
        exact ⟨rfl, _, _, hR, hP⟩
      · refine i_194_43 (x := 128) rfl ?_
        refine i_194_44 (v := Value.ref 156) hR.c128 rfl ?_
        refine i_194_47 (x := Int32.ofInt a) rfl ?_
        refine i_194_48z (v := Value.int (Int32.ofInt (S 156 ((a).toNat)))) (hR.row a156) (ix0 (T := a) (by omega) (by omega)) (ix1 (T := a) (by omega) (by omega) (by omega)) (ra (T := a) (by omega) (by omega) rfl) ?_
        refine i_194_49 (z_ne (a := S 156 ((a).toNat)) ⟨by omega, by omega⟩ fun c2 => ?_) (z_eq (a := S 156 ((a).toNat)) ⟨by omega, by omega⟩ fun c2 => ?_)
        · refine i_194_56 ?_
          refine i_194_57 (x := Int32.ofInt mode) rfl ?_
          have hobj := hR.c128
          obtain ⟨w, hrun, S2, V2, hR, hP⟩ := s_move (d := d + 2) (r := r) (a := a) (sg := 0) (mode := mode) hR hI (by omega) (by omega) (by omega) (by omega)
          refine i_194_59 hobj (Nat.le_of_ble_eq_true rfl) hrun ?_
          refine i_194_62 ?_
          have eo : sCopy S V r.toNat a.toNat how mode = sMove S V r.toNat a.toNat 0 mode := by clear hR hrun hP; unfold sCopy; congr 1; first | exact if_pos (by omega) | (rw [if_neg (by omega)]; first | exact if_pos (by omega) | exact if_neg (by omega))
          rw [eo]
          exact ⟨rfl, _, _, hR, hP⟩
        · refine i_194_52 ?_
          refine i_194_53 ?_
          refine i_194_57 (x := Int32.ofInt mode) rfl ?_
          have hobj := hR.c128
          obtain ⟨w, hrun, S2, V2, hR, hP⟩ := s_move (d := d + 2) (r := r) (a := a) (sg := 1) (mode := mode) hR hI (by omega) (by omega) (by omega) (by omega)
          refine i_194_59 hobj (Nat.le_of_ble_eq_true rfl) hrun ?_
          refine i_194_62 ?_
          have eo : sCopy S V r.toNat a.toNat how mode = sMove S V r.toNat a.toNat 1 mode := by clear hR hrun hP; unfold sCopy; congr 1; first | exact if_pos (by omega) | (rw [if_neg (by omega)]; first | exact if_pos (by omega) | exact if_neg (by omega))
          rw [eo]
          exact ⟨rfl, _, _, hR, hP⟩
    · refine i_194_29 (x := 128) rfl ?_
      refine i_194_30 (v := Value.ref 156) hR.c128 rfl ?_
      refine i_194_33 (x := Int32.ofInt a) rfl ?_
      refine i_194_34z (v := Value.int (Int32.ofInt (S 156 ((a).toNat)))) (hR.row a156) (ix0 (T := a) (by omega) (by omega)) (ix1 (T := a) (by omega) (by omega) (by omega)) (ra (T := a) (by omega) (by omega) rfl) ?_
      refine i_194_35 ?_
      refine i_194_57 (x := Int32.ofInt mode) rfl ?_
      have hobj := hR.c128
      obtain ⟨w, hrun, S2, V2, hR, hP⟩ := s_move (d := d + 2) (r := r) (a := a) (sg := S 156 ((a).toNat)) (mode := mode) hR hI (by omega) (by omega) (by omega) (by omega)
      refine i_194_59 hobj (Nat.le_of_ble_eq_true rfl) hrun ?_
      refine i_194_62 ?_
      have eo : sCopy S V r.toNat a.toNat how mode = sMove S V r.toNat a.toNat (S 156 ((a).toNat)) mode := by clear hR hrun hP; unfold sCopy; congr 1; first | exact if_pos (by omega) | (rw [if_neg (by omega)]; first | exact if_pos (by omega) | exact if_neg (by omega))
      rw [eo]
      exact ⟨rfl, _, _, hR, hP⟩
  obtain ⟨o, w', h1, rfl, h2⟩ := key.run
  exact ⟨w', h1, h2⟩
theorem b_copy {d : Nat} {w : xW} {r a how mode : Int} (b_r : -2147483648 ≤ r ∧ r < 2147483648) (b_a : -2147483648 ≤ a ∧ a < 2147483648) (b_how : -2147483648 ≤ how ∧ how < 2147483648) (b_mode : -2147483648 ≤ mode ∧ mode < 2147483648) (h : ¬ ((0 ≤ r ∧ r ≤ 15) ∧ (0 ≤ a ∧ a ≤ 15) ∧ (0 ≤ how ∧ how ≤ 2) ∧ (0 ≤ mode ∧ mode ≤ 4))) : xRun (d + 8) 194 [Value.ref 128, Value.int (Int32.ofInt r), Value.int (Int32.ofInt a), Value.int (Int32.ofInt how), Value.int (Int32.ofInt mode)] w (.inr w.length) (w ++ [.inr (14, [])]) := by
  refine xRun.of ?_
  refine i_194_0 (x := Int32.ofInt r) rfl ?_
  rcases Classical.em (0 ≤ r ∧ r ≤ 15) with hc1 | hc1
  · have hrun := s_reg1 (d := d + 5) (w := w) (r := r) (by omega) hc1
    refine i_194_1 (Nat.le_of_ble_eq_true rfl) hrun ?_
    refine i_194_4 (x := Int32.ofInt a) rfl ?_
    rcases Classical.em (0 ≤ a ∧ a ≤ 15) with hc2 | hc2
    · have hrun := s_reg1 (d := d + 5) (w := w) (r := a) (by omega) hc2
      refine i_194_5 (Nat.le_of_ble_eq_true rfl) hrun ?_
      refine i_194_8 (x := Int32.ofInt how) rfl ?_
      refine i_194_9 ?_
      refine i_194_10 ?_
      have hrun := s_in (d := d + 6) (w := w) (v := how) (lo := 0) (hi := 2) ⟨by omega, by omega⟩ ⟨by decide, by decide⟩ ⟨by decide, by decide⟩
      refine i_194_11 (Nat.le_of_ble_eq_true rfl) hrun ?_
      rcases Classical.em (0 ≤ how ∧ how ≤ 2) with hc3 | hc3
      · have hrun := s_ck1 (d := d + 6) (w := w) (b := (decide (0 ≤ how ∧ how ≤ 2))) (decide_eq_true hc3)
        refine i_194_14 (Nat.le_of_ble_eq_true rfl) hrun ?_
        refine i_194_17 (x := Int32.ofInt mode) rfl ?_
        rcases Classical.em (0 ≤ mode ∧ mode ≤ 4) with hc4 | hc4
        · have hrun := s_mode1 (d := d + 5) (w := w) (r := mode) (by omega) hc4
          refine i_194_19 (Nat.le_of_ble_eq_true rfl) hrun ?_
          exfalso; omega
        · have hrun := s_mode0 (d := d) (w := w) (r := mode) (by omega) hc4
          refine j_194_19 (Nat.le_of_ble_eq_true rfl) hrun (xDone.t (ci := 14) xgl rfl rfl ?_)
          exact ⟨rfl, rfl⟩
      · have hrun := s_ck0 (d := d + 1) (w := w) (b := (decide (0 ≤ how ∧ how ≤ 2))) (decide_eq_false hc3)
        refine j_194_14 (Nat.le_of_ble_eq_true rfl) hrun (xDone.t (ci := 14) xgl rfl rfl ?_)
        exact ⟨rfl, rfl⟩
    · have hrun := s_reg0 (d := d) (w := w) (r := a) (by omega) hc2
      refine j_194_5 (Nat.le_of_ble_eq_true rfl) hrun (xDone.t (ci := 14) xgl rfl rfl ?_)
      exact ⟨rfl, rfl⟩
  · have hrun := s_reg0 (d := d) (w := w) (r := r) (by omega) hc1
    refine j_194_1 (Nat.le_of_ble_eq_true rfl) hrun (xDone.t (ci := 14) xgl rfl rfl ?_)
    exact ⟨rfl, rfl⟩
