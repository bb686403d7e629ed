/-! octet, end, feed of the reference -/
theorem o_shrm {t : Int} {k : Nat} {s : Int} (h : -2147483648 ≤ t ∧ t < 2147483648) (hk : s = 24 - 8 * (k : Int)) (h4 : k < 4) : Int32.ofInt t >>> (Int32.ofInt s &&& 31) = Int32.ofInt (t / 2 ^ (24 - 8 * k)) := by
  subst hk
  apply Int32.toInt_inj.mp
  have hb : ∀ n : Nat, -2147483648 ≤ t / 2 ^ n ∧ t / 2 ^ n < 2147483648 := by
    intro n
    have p : (0 : Int) < 2 ^ n := Int.pow_pos (by decide)
    constructor
    · exact Int.le_ediv_of_mul_le p (by have : (-2147483648 : Int) * 2 ^ n ≤ -2147483648 * 1 := Int.mul_le_mul_of_nonpos_left (by decide) (by omega); omega)
    · by_cases g : 0 ≤ t
      · exact Int.lt_of_le_of_lt (Int.ediv_le_self _ g) h.2
      · have := Int.ediv_neg_of_neg_of_pos (show t < 0 by omega) p; omega
  rw [oI (hb _).1 (hb _).2]
  show ((Int32.ofInt t).toBitVec.sshiftRight' ((Int32.ofInt (24 - 8 * (k : Int)) &&& 31).toBitVec.smod 32)).toInt = _
  rw [show (Int32.ofInt (24 - 8 * (k : Int)) &&& 31).toBitVec.smod 32 = BitVec.ofNat 32 (24 - 8 * k) by
    rcases (show k = 0 ∨ k = 1 ∨ k = 2 ∨ k = 3 by omega) with e | e | e | e <;> subst e <;> decide, BitVec.sshiftRight_eq', BitVec.toInt_sshiftRight]
  show ((Int32.ofInt t).toInt) >>> (BitVec.ofNat 32 (24 - 8 * k)).toNat = _
  rw [oI h.1 h.2, show (BitVec.ofNat 32 (24 - 8 * k)).toNat = 24 - 8 * k by rcases (show k = 0 ∨ k = 1 ∨ k = 2 ∨ k = 3 by omega) with e | e | e | e <;> subst e <;> rfl, Int.shiftRight_eq_div_pow]
  congr 1
def fdB (fv : Nat → Int) (k : Nat) : Int := bty (fv (k / 4) / 2 ^ (24 - 8 * (k % 4)))
/-- the tape with k bytes more from T on -/
def fd20 (S : Nat → Nat → Int) (T : Nat) (fv : Nat → Int) (k : Nat) : Nat → Nat → Int := fun a j => if a = 158 ∧ T ≤ j ∧ j < T + k then fdB fv (j - T) else S a j
theorem fd_0 {S : Nat → Nat → Int} {T : Nat} {fv : Nat → Int} : fd20 S T fv 0 = S := by
  funext a j
  unfold fd20
  rw [if_neg (by omega)]
theorem fd_step {S : Nat → Nat → Int} {T k : Nat} {fv : Nat → Int} : u2 (fd20 S T fv k) 158 (T + k) (fdB fv k) = fd20 S T fv (k + 1) := by
  funext a j
  rw [u2_e]
  unfold fd20
  by_cases h : a = 158 ∧ j = T + k
  · rw [if_pos h, if_pos (by omega), show j - T = k by omega]
  · rw [if_neg h]
    by_cases g : a = 158 ∧ T ≤ j ∧ j < T + k
    · rw [if_pos g, if_pos (by omega)]
    · rw [if_neg g, if_neg (by omega)]
theorem fd_f {S : Nat → Nat → Int} {T k a j : Nat} {fv : Nat → Int} (h : a ≠ 158) : fd20 S T fv k a j = S a j := if_neg (fun c => h c.1)
theorem set_l {w : xW} {c c' : xC} {l : Nat} (h : w.length = l) : (w ++ [c]).set l c' = w ++ [c'] := by subst h; simp
def fv5 (v1 v2 v3 v4 v5 : Int) (j : Nat) : Int := if j = 0 then v1 else if j = 1 then v2 else if j = 2 then v3 else if j = 3 then v4 else v5
section
variable {d : Nat} {w0 w : xW} {S : Nat → Nat → Int} {V : Nat → Nat} {lv : xLv} {Q : Option Value ⊕ Nat → xW → Prop}
theorem s_oct {d : Nat} {w0 w : xW} {S : Nat → Nat → Int} {V : Nat → Nat} {k : Int} (hR : mR w0 S V w) (hk : -1 ≤ k ∧ k ≤ S 128 25 - 1) (hz : 0 ≤ S 128 25 ∧ S 128 25 ≤ 5000) : ∃ w', xRun (d + 8) 271 [Value.ref 128, Value.int (Int32.ofInt k)] w (.inl (some (.int (Int32.ofInt (if k < 0 then S 128 25 else S 159 k.toNat))))) w' ∧ mR w0 S V w' := by
  have key : xEv (d + 8) 271 0 (lv_args 0 [Value.ref 128, Value.int (Int32.ofInt k)]) [] w (fun o w' => o = .inl (some (.int (Int32.ofInt (if k < 0 then S 128 25 else S 159 k.toNat)))) ∧ mR w0 S V w') := by
    refine i_271_0 (x := Int32.ofInt k) rfl ?_
    refine i_271_1 ?_
    refine i_271_2 (x := 128) rfl ?_
    refine i_271_3 (v := Value.int (Int32.ofInt (S 128 25))) hR.c128 rfl ?_
    refine i_271_6 ?_
    refine i_271_7 (c := Int32.ofInt ((S 128 25) - 1)) (o_sub (S 128 25) 1) ?_
    have hrun := s_in (d := d + 6) (w := w) (v := k) (lo := (-1)) (hi := (S 128 25) - 1) ⟨by omega, by omega⟩ ⟨by decide, by decide⟩ ⟨by omega, by omega⟩
    refine i_271_8 (Nat.le_of_ble_eq_true rfl) hrun ?_
    rw [show Int32.ofInt (bb (decide ((-1) ≤ k ∧ k ≤ (S 128 25) - 1))) = 1 by rw [decide_eq_true (show (-1) ≤ k ∧ k ≤ (S 128 25) - 1 by omega)]; rfl]
    have hrun := s_there1 (d := d + 6) (w := w)
    refine i_271_11 (Nat.le_of_ble_eq_true rfl) hrun ?_
    refine i_271_14 (x := Int32.ofInt k) rfl ?_
    refine i_271_15 (z_ge (a := k) ⟨by omega, by omega⟩ fun c0 => ?_) (z_lt (a := k) ⟨by omega, by omega⟩ fun c0 => ?_)
    · refine i_271_25 (x := 128) rfl ?_
      refine i_271_26 (v := Value.ref 159) hR.c128 rfl ?_
      refine i_271_29 (x := Int32.ofInt k) rfl ?_
      refine i_271_30 (v := Value.int (Int32.ofInt (S 159 ((k).toNat)))) (hR.row a159) (ix0 (T := k) (by omega) (by omega)) (ix1 (T := k) (by omega) (by omega) (by omega)) (ra (T := k) (by omega) (by omega) rfl) ?_
      refine i_271_31 ?_
      have e : (if k < 0 then S 128 25 else S 159 k.toNat) = S 159 ((k).toNat) := if_neg (by omega)
      rw [e]
      exact ⟨rfl, hR⟩
    · refine i_271_18 (x := 128) rfl ?_
      refine i_271_19 (v := Value.int (Int32.ofInt (S 128 25))) hR.c128 rfl ?_
      refine i_271_22 ?_
      refine i_271_31 ?_
      have e : (if k < 0 then S 128 25 else S 159 k.toNat) = S 128 25 := if_pos (by omega)
      rw [e]
      exact ⟨rfl, hR⟩
  obtain ⟨o, w', h1, rfl, h2⟩ := key.run
  exact ⟨w', h1, h2⟩
theorem n_oct {k : Int} (hR : mR w0 S V w) (hkb : -2147483648 ≤ k ∧ k < 2147483648) (hk : ¬ (-1 ≤ k ∧ k ≤ S 128 25 - 1)) (hz : 0 ≤ S 128 25 ∧ S 128 25 ≤ 5000) : xRun (d + 8) 271 [Value.ref 128, Value.int (Int32.ofInt k)] w (.inr w.length) (w ++ [.inr (16, [])]) := by
  refine xRun.of ?_
  refine i_271_0 (x := Int32.ofInt k) rfl ?_
  refine i_271_1 ?_
  refine i_271_2 (x := 128) rfl ?_
  refine i_271_3 (v := Value.int (Int32.ofInt (S 128 25))) hR.c128 rfl ?_
  refine i_271_6 ?_
  refine i_271_7 (c := Int32.ofInt ((S 128 25) - 1)) (o_sub (S 128 25) 1) ?_
  have hrun := s_in (d := d + 6) (w := w) (v := k) (lo := (-1)) (hi := (S 128 25) - 1) ⟨by omega, by omega⟩ ⟨by decide, by decide⟩ ⟨by omega, by omega⟩
  refine i_271_8 (Nat.le_of_ble_eq_true rfl) hrun ?_
  rw [show Int32.ofInt (bb (decide ((-1) ≤ k ∧ k ≤ (S 128 25) - 1))) = 0 by rw [decide_eq_false (show ¬ ((-1) ≤ k ∧ k ≤ (S 128 25) - 1) by omega)]; rfl]
  have hrun := s_there0 (d := d + 1) (w := w)
  refine j_271_11 (Nat.le_of_ble_eq_true rfl) hrun (xDone.t (ci := 16) xgl rfl rfl ?_)
  exact ⟨rfl, rfl⟩
theorem b_end {n : Int} (hR : mR w0 S V w) (hnb : -2147483648 ≤ n ∧ n < 2147483648) (hn : ¬ (0 ≤ n ∧ n ≤ S 128 24)) (ht : 0 ≤ S 128 24 ∧ S 128 24 ≤ 4096) : xRun (d + 8) 256 [Value.ref 128, Value.int (Int32.ofInt n)] w (.inr w.length) (w ++ [.inr (14, [])]) := by
  refine xRun.of ?_
  refine i_256_0 (x := Int32.ofInt n) rfl ?_
  refine i_256_1 ?_
  refine i_256_2 (x := 128) rfl ?_
  refine i_256_3 (v := Value.int (Int32.ofInt (S 128 24))) hR.c128 rfl ?_
  have hrun := s_in (d := d + 6) (w := w) (v := n) (lo := 0) (hi := S 128 24) ⟨by omega, by omega⟩ ⟨by decide, by decide⟩ ⟨by omega, by omega⟩
  refine i_256_6 (Nat.le_of_ble_eq_true rfl) hrun ?_
  rcases Classical.em (0 ≤ n ∧ n ≤ S 128 24) with hc1 | hc1
  · have hrun := s_ck1 (d := d + 6) (w := w) (b := (decide (0 ≤ n ∧ n ≤ S 128 24))) (decide_eq_true hc1)
    refine i_256_9 (Nat.le_of_ble_eq_true rfl) hrun ?_
    exfalso; omega
  · have hrun := s_ck0 (d := d + 1) (w := w) (b := (decide (0 ≤ n ∧ n ≤ S 128 24))) (decide_eq_false hc1)
    refine j_256_9 (Nat.le_of_ble_eq_true rfl) hrun (xDone.t (ci := 14) xgl rfl rfl ?_)
    exact ⟨rfl, rfl⟩
set_option maxHeartbeats 2000000 in
theorem fd_loop {T l : Nat} {fv : Nat → Int} {g : Nat → Value} {w2 : xW} (hT : S 128 24 = (T : Int)) (hT2 : T + 20 ≤ 4096) (hl : w2.length = l) (hl2 : 194 ≤ l) (hg : ∀ j, j < 5 → g j = Value.int (Int32.ofInt (fv j))) (hfv : ∀ j, -2147483648 ≤ fv j ∧ fv j < 2147483648) (hQ : ∀ {lv : xLv} {w : xW}, mR (w2 ++ [.inl (0, 5, g)]) (fd20 S T fv 20) V w → xld lv 0 = some (Value.ref 128) → xEv (d + 1) 254 97 lv [] w Q) : ∀ (f k : Nat) {lv : xLv} {w : xW}, k + f = 20 → mR (w2 ++ [.inl (0, 5, g)]) (fd20 S T fv k) V w → xld lv 0 = some (Value.ref 128) → xld lv 6 = some (Value.ref l) → xld lv 7 = some (Value.int (Int32.ofInt (k : Int))) → xEv (d + 1) 254 53 lv [] w Q := by
  intro f
  induction f with
  | zero =>
    intro k lv w hk hR l0 l6 l7
    refine i_254_53 l7 ?_
    refine i_254_55 ?_
    rw [show k = 20 by omega] at hR
    exact i_254_57 (fun _ => hQ hR l0) (fun c => absurd c (by rw [show k = 20 by omega]; decide))
  | succ f ih =>
    intro k lv w hk hR l0 l6 l7
    have h24 : fd20 S T fv k 128 24 = (T : Int) := (fd_f (by decide)).trans hT
    refine i_254_53 (x := Int32.ofInt (k : Int)) l7 ?_
    refine i_254_55 ?_
    refine i_254_57 (b_le (a := 20) (b := (k : Int)) ⟨by decide, by decide⟩ ⟨by omega, by omega⟩ fun c0 => absurd c0 (by omega)) (b_lt (a := (k : Int)) (b := 20) ⟨by omega, by omega⟩ ⟨by decide, by decide⟩ fun c0 => ?_)
    refine i_254_60 (x := 128) l0 ?_
    refine i_254_61 (v := Value.ref 158) hR.c128 rfl ?_
    refine i_254_64 (x := 128) l0 ?_
    refine i_254_65 (v := Value.int (Int32.ofInt ((fd20 S T fv k) 128 24))) hR.c128 rfl ?_
    refine i_254_68 (x := Int32.ofInt (k : Int)) l7 ?_
    refine i_254_70 (c := Int32.ofInt (((fd20 S T fv k) 128 24) + (k : Int))) (o_add ((fd20 S T fv k) 128 24) (k : Int)) ?_
    refine i_254_71 (x := l) l6 ?_
    refine i_254_73 (x := Int32.ofInt (k : Int)) l7 ?_
    refine i_254_75 ?_
    refine i_254_76 (c := Int32.ofInt ((k / 4 : Nat) : Int)) (by decide) (by rw [show (4 : Int32) = Int32.ofInt 4 from rfl, o_tdiv (a := (k : Int)) (b := 4) ⟨by omega, by omega⟩ ⟨by decide, by decide⟩, Int.tdiv_eq_ediv_of_nonneg (by omega)]; rfl) ?_
    refine i_254_77 (v := Value.int (Int32.ofInt (fv (k / 4)))) (hR.1.2.2 l (by omega) |>.trans (xgl2 hl)) (ix0 (by omega) (by omega)) (ix1 (by omega) (by omega) (by omega)) (by rw [ixn (by omega) (by omega)]; exact hg _ (by omega)) ?_
    refine i_254_78 ?_
    refine i_254_80 ?_
    refine i_254_82 (x := Int32.ofInt (k : Int)) l7 ?_
    refine i_254_84 ?_
    refine i_254_85 (c := Int32.ofInt ((k % 4 : Nat) : Int)) (by decide) (by rw [show (4 : Int32) = Int32.ofInt 4 from rfl, o_tmod (a := (k : Int)) (b := 4) ⟨by omega, by omega⟩ ⟨by decide, by decide⟩, Int.tmod_eq_emod_of_nonneg (by omega)]; rfl) ?_
    refine i_254_86 (c := Int32.ofInt (8 * ((k % 4 : Nat) : Int))) (o_mul 8 ((k % 4 : Nat) : Int)) ?_
    refine i_254_87 (c := Int32.ofInt (24 - (8 * ((k % 4 : Nat) : Int)))) (o_sub 24 (8 * ((k % 4 : Nat) : Int))) ?_
    refine i_254_88 (c := Int32.ofInt (fv (k / 4) / 2 ^ (24 - 8 * (k % 4)))) (o_shrm (k := k % 4) (hfv _) (by omega) (by omega)) ?_
    refine i_254_89 (c := Int32.ofInt (fdB fv k)) (o_i2b _) ?_
    refine i_254_90 (v := Value.int (Int32.ofInt (fdB fv k))) (hR.row a158) (ix0 (T := ((fd20 S T fv k) 128 24) + (k : Int)) (by omega) (by omega)) (ix1 (T := ((fd20 S T fv k) 128 24) + (k : Int)) (by omega) (by omega) (by omega)) (by decide) (n_byte _) ?_
    rw [ixn (T := ((fd20 S T fv k) 128 24) + (k : Int)) (by omega) (by omega), show (((fd20 S T fv k) 128 24) + (k : Int)).toNat = T + k by omega]
    refine xgen (P := mR (w2 ++ [.inl (0, 5, g)]) (fd20 S T fv (k + 1)) V) (by rw [← fd_step]; exact hR.arr a158 rfl) (fun w hR => ?_)
    refine i_254_91 (x := (Int32.ofInt (k : Int))) (c := (Int32.ofInt ((k : Int) + 1))) l7 (o_add (k : Int) 1) rfl ?_
    refine lgen1 (i := 7) (v := Value.int (Int32.ofInt ((k : Int) + 1))) (fun lv lg ls => ?_)
    replace l0 := lg 0 _ rfl rfl l0
    replace l6 := lg 6 _ rfl rfl l6
    have l7 := ls
    refine i_254_94 ?_
    exact ih (k + 1) (by omega) hR l0 l6 l7
set_option maxHeartbeats 2000000 in
theorem s_feed {v1 v2 v3 v4 v5 : Int} (hR : mR w0 S V w) (hl2 : 194 ≤ w.length) (hn : 0 ≤ S 128 24 ∧ S 128 24 + 20 ≤ 4096) (hv1 : -2147483648 ≤ v1 ∧ v1 < 2147483648) (hv2 : -2147483648 ≤ v2 ∧ v2 < 2147483648) (hv3 : -2147483648 ≤ v3 ∧ v3 < 2147483648) (hv4 : -2147483648 ≤ v4 ∧ v4 < 2147483648) (hv5 : -2147483648 ≤ v5 ∧ v5 < 2147483648) : ∃ w', xRun (d + 1) 254 [Value.ref 128, Value.int (Int32.ofInt v1), Value.int (Int32.ofInt v2), Value.int (Int32.ofInt v3), Value.int (Int32.ofInt v4), Value.int (Int32.ofInt v5)] w (.inl none) w' ∧ ∃ g, mR (w0 ++ [.inl (0, 5, g)]) (u2 (fd20 S (S 128 24).toNat (fv5 v1 v2 v3 v4 v5) 20) 128 24 (((S 128 24).toNat : Int) + 20)) V w' := by
  obtain ⟨l, hl⟩ : ∃ l, w.length = l := ⟨_, rfl⟩
  have hR0 := hR
  have key : xEv (d + 1) 254 0 (lv_args 0 [Value.ref 128, Value.int (Int32.ofInt v1), Value.int (Int32.ofInt v2), Value.int (Int32.ofInt v3), Value.int (Int32.ofInt v4), Value.int (Int32.ofInt v5)]) [] w (fun o w' => o = .inl none ∧ ∃ g, mR (w0 ++ [.inl (0, 5, g)]) (u2 (fd20 S (S 128 24).toNat (fv5 v1 v2 v3 v4 v5) 20) 128 24 (((S 128 24).toNat : Int) + 20)) V w') := by
    refine i_254_0 (x := 128) rfl ?_
    refine i_254_1 (v := Value.int (Int32.ofInt (S 128 24))) hR.c128 rfl ?_
    refine i_254_4 ?_
    refine i_254_6 (c := Int32.ofInt ((S 128 24) + 20)) (o_add (S 128 24) 20) ?_
    refine i_254_7 (x := 128) rfl ?_
    refine i_254_8 (v := Value.ref 158) hR.c128 rfl ?_
    refine i_254_11 (c := 4096) (hR.row a158) rfl ?_
    refine i_254_12 (b_le (a := (S 128 24) + 20) (b := 4096) ⟨by omega, by omega⟩ ⟨by decide, by decide⟩ fun c0 => ?_) (b_lt (a := 4096) (b := (S 128 24) + 20) ⟨by decide, by decide⟩ ⟨by omega, by omega⟩ fun c0 => absurd c0 (by omega))
    refine i_254_23 ?_
    refine i_254_24 (m := 5) (l := l) (by decide) rfl (by decide) hl ?_
    refine i_254_26 rfl ?_
    refine i_254_27 ?_
    refine i_254_28 (x := Int32.ofInt v1) rfl ?_
    refine i_254_29 (v := Value.int (Int32.ofInt v1)) (xgl2 hl) (by decide) (by decide) (by omega) rfl ?_
    rw [set_l hl]
    refine i_254_30 rfl ?_
    refine i_254_31 ?_
    refine i_254_32 (x := Int32.ofInt v2) rfl ?_
    refine i_254_33 (v := Value.int (Int32.ofInt v2)) (xgl2 hl) (by decide) (by decide) (by omega) rfl ?_
    rw [set_l hl]
    refine i_254_34 rfl ?_
    refine i_254_35 ?_
    refine i_254_36 (x := Int32.ofInt v3) rfl ?_
    refine i_254_37 (v := Value.int (Int32.ofInt v3)) (xgl2 hl) (by decide) (by decide) (by omega) rfl ?_
    rw [set_l hl]
    refine i_254_38 rfl ?_
    refine i_254_39 ?_
    refine i_254_40 (x := Int32.ofInt v4) rfl ?_
    refine i_254_42 (v := Value.int (Int32.ofInt v4)) (xgl2 hl) (by decide) (by decide) (by omega) rfl ?_
    rw [set_l hl]
    refine i_254_43 rfl ?_
    refine i_254_44 ?_
    refine i_254_45 (x := Int32.ofInt v5) rfl ?_
    refine i_254_47 (v := Value.int (Int32.ofInt v5)) (xgl2 hl) (by decide) (by decide) (by omega) rfl ?_
    rw [set_l hl]
    refine i_254_48 (lv2 := [(6, Value.ref l), (0, Value.ref 128), (1, Value.int (Int32.ofInt v1)), (2, Value.int (Int32.ofInt v2)), (3, Value.int (Int32.ofInt v3)), (4, Value.int (Int32.ofInt v4)), (5, Value.int (Int32.ofInt v5))]) rfl ?_
    refine i_254_50 ?_
    refine i_254_51 (lv2 := [(7, Value.int 0), (6, Value.ref l), (0, Value.ref 128), (1, Value.int (Int32.ofInt v1)), (2, Value.int (Int32.ofInt v2)), (3, Value.int (Int32.ofInt v3)), (4, Value.int (Int32.ofInt v4)), (5, Value.int (Int32.ofInt v5))]) rfl ?_
    have hR := hR.app (c := .inl (0, 5, (xup (xup (xup (xup (xup (fun _ => Value.int 0) 0 (Value.int (Int32.ofInt v1))) 1 (Value.int (Int32.ofInt v2))) 2 (Value.int (Int32.ofInt v3))) 3 (Value.int (Int32.ofInt v4))) 4 (Value.int (Int32.ofInt v5))))) hl2
    obtain ⟨T, hT⟩ : ∃ T : Nat, S 128 24 = (T : Int) := ⟨(S 128 24).toNat, by omega⟩
    rw [hT, Int.toNat_natCast]
    refine fd_loop (g := (xup (xup (xup (xup (xup (fun _ => Value.int 0) 0 (Value.int (Int32.ofInt v1))) 1 (Value.int (Int32.ofInt v2))) 2 (Value.int (Int32.ofInt v3))) 3 (Value.int (Int32.ofInt v4))) 4 (Value.int (Int32.ofInt v5)))) (fv := fv5 v1 v2 v3 v4 v5) hT (by omega) (hR0.1.1.symm.trans hl) (by omega) (fun j hj => by rcases (show j = 0 ∨ j = 1 ∨ j = 2 ∨ j = 3 ∨ j = 4 by omega) with e | e | e | e | e <;> subst e <;> rfl) (fun j => by unfold fv5; split <;> (try split) <;> (try split) <;> (try split) <;> assumption) (fun {lv w} hR l0 => ?_) 20 0 rfl (by rw [fd_0]; exact hR) rfl rfl rfl
    refine i_254_97 (x := 128) l0 ?_
    refine i_254_98 rfl ?_
    refine i_254_99 (v := Value.int (Int32.ofInt ((fd20 S T (fv5 v1 v2 v3 v4 v5) 20) 128 24))) hR.c128 rfl ?_
    refine i_254_102 ?_
    refine i_254_104 (c := Int32.ofInt (((fd20 S T (fv5 v1 v2 v3 v4 v5) 20) 128 24) + 20)) (o_add ((fd20 S T (fv5 v1 v2 v3 v4 v5) 20) 128 24) 20) ?_
    refine i_254_105 (fs2 := mf (u1 ((fd20 S T (fv5 v1 v2 v3 v4 v5) 20) 128) 24 (((fd20 S T (fv5 v1 v2 v3 v4 v5) 20) 128 24) + 20))) hR.c128 (Nat.le_of_ble_eq_true rfl) (mfs_24 (v := ((fd20 S T (fv5 v1 v2 v3 v4 v5) 20) 128 24) + 20)) (by decide) ?_
    refine xgen (P := mR (w0 ++ [.inl (0, 5, (xup (xup (xup (xup (xup (fun _ => Value.int 0) 0 (Value.int (Int32.ofInt v1))) 1 (Value.int (Int32.ofInt v2))) 2 (Value.int (Int32.ofInt v3))) 3 (Value.int (Int32.ofInt v4))) 4 (Value.int (Int32.ofInt v5))))]) (u2 (fd20 S T (fv5 v1 v2 v3 v4 v5) 20) 128 24 (((fd20 S T (fv5 v1 v2 v3 v4 v5) 20) 128 24) + 20)) V) hR.fld2 (fun w hR => ?_)
    refine i_254_108 ?_
    rw [show fd20 S T (fv5 v1 v2 v3 v4 v5) 20 128 24 = (T : Int) from (fd_f (by decide)).trans hT] at hR
    exact ⟨rfl, _, hR⟩
  obtain ⟨o, w', h1, rfl, h2⟩ := key.run
  exact ⟨w', h1, h2⟩
theorem b_feed {v1 v2 v3 v4 v5 : Int} (hR : mR w0 S V w) (hn : 0 ≤ S 128 24 ∧ S 128 24 ≤ 4096) (hb : 4096 < S 128 24 + 20) : xRun (d + 6) 254 [Value.ref 128, Value.int (Int32.ofInt v1), Value.int (Int32.ofInt v2), Value.int (Int32.ofInt v3), Value.int (Int32.ofInt v4), Value.int (Int32.ofInt v5)] w (.inr w.length) (w ++ [.inr (17, [])]) := by
  refine xRun.of ?_
  refine i_254_0 (x := 128) rfl ?_
  refine i_254_1 (v := Value.int (Int32.ofInt (S 128 24))) hR.c128 rfl ?_
  refine i_254_4 ?_
  refine i_254_6 (c := Int32.ofInt ((S 128 24) + 20)) (o_add (S 128 24) 20) ?_
  refine i_254_7 (x := 128) rfl ?_
  refine i_254_8 (v := Value.ref 158) hR.c128 rfl ?_
  refine i_254_11 (c := 4096) (hR.row a158) rfl ?_
  refine i_254_12 (b_le (a := (S 128 24) + 20) (b := 4096) ⟨by omega, by omega⟩ ⟨by decide, by decide⟩ fun c0 => absurd c0 (by omega)) (b_lt (a := 4096) (b := (S 128 24) + 20) ⟨by decide, by decide⟩ ⟨by omega, by omega⟩ fun c0 => ?_)
  refine i_254_15 (by omega) (Nat.le_of_ble_eq_true rfl) ?_
  exact ⟨rfl, rfl⟩
end
