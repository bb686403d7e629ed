/-! word of the reference -/
theorem bits_step {M b j n : Nat} : M / 2 ^ (b + j) % 2 ^ (n + 1) = 2 * (M / 2 ^ (b + (j + 1)) % 2 ^ n) + M / 2 ^ (b + j) % 2 := by
  have e1 : M / 2 ^ (b + (j + 1)) = M / 2 ^ (b + j) / 2 := by rw [Nat.div_div_eq_div_mul, ← Nat.pow_succ]; rfl
  rw [e1, Nat.pow_succ, Nat.mul_comm (2 ^ n) 2, Nat.mod_mul]
  omega
theorem nbit_v {M : Nat} {k : Nat} : bb (nbit M (k : Int)) = ((M / 2 ^ k % 2 : Nat) : Int) := by
  unfold nbit
  rw [decide_eq_true (show (0 : Int) ≤ (k : Int) by omega), Bool.true_and, show ((k : Int)).toNat = k from rfl]
  rcases Nat.mod_two_eq_zero_or_one (M / 2 ^ k) with h | h <;> rw [h] <;> rfl
theorem wd_loop {d : Nat} {w0 w : xW} {S : Nat → Nat → Int} {V : Nat → Nat} {r k : Int} {Q : Option Value ⊕ Nat → xW → Prop} (hR : mR w0 S V w) (hr : 0 ≤ r ∧ r ≤ 15) (hk : 0 ≤ k ∧ k ≤ 127) (hQ : ∀ lv, xld lv 0 = some (Value.ref 128) → xld lv 1 = some (Value.int (Int32.ofInt r)) → xld lv 2 = some (Value.int (Int32.ofInt k)) → xld lv 3 = some (Value.long (Int64.ofInt ((V (160 + 2 * r.toNat) / 2 ^ (32 * k.toNat + 0) % 2 ^ (32 - 0) : Nat) : Int))) → xEv (d + 3) 246 81 lv [] w Q) (j : Nat) : ∀ lv, j ≤ 32 → xld lv 0 = some (Value.ref 128) → xld lv 1 = some (Value.int (Int32.ofInt r)) → xld lv 2 = some (Value.int (Int32.ofInt k)) → xld lv 5 = some (Value.int (Int32.ofInt ((j : Int) - 1))) → xld lv 3 = some (Value.long (Int64.ofInt ((V (160 + 2 * r.toNat) / 2 ^ (32 * k.toNat + j) % 2 ^ (32 - j) : Nat) : Int))) → xEv (d + 3) 246 38 lv [] w Q := by
  induction j with
  | zero =>
    intro lv hj l0 l1 l2 l5 l3
    refine i_246_38 (x := Int32.ofInt (((0 : Nat) : Int) - 1)) l5 ?_
    refine i_246_40 (z_lt (a := ((0 : Nat) : Int) - 1) ⟨by omega, by omega⟩ fun c0 => ?_) (z_ge (a := ((0 : Nat) : Int) - 1) ⟨by omega, by omega⟩ fun c0 => absurd c0 (by omega))
    exact hQ _ l0 l1 l2 l3
  | succ j ih =>
    intro lv hj l0 l1 l2 l5 l3
    rw [show ((j + 1 : Nat) : Int) - 1 = (j : Int) by omega] at l5
    refine i_246_38 (x := Int32.ofInt (j : Int)) l5 ?_
    refine i_246_40 (z_lt (a := (j : Int)) ⟨by omega, by omega⟩ fun c0 => absurd c0 (by omega)) (z_ge (a := (j : Int)) ⟨by omega, by omega⟩ fun c0 => ?_)
    refine i_246_43 ?_
    refine i_246_46 (x := Int64.ofInt ((V (160 + 2 * r.toNat) / 2 ^ (32 * k.toNat + (j + 1)) % 2 ^ (32 - (j + 1)) : Nat) : Int)) l3 ?_
    refine i_246_47 (c := Int64.ofInt (2 * ((V (160 + 2 * r.toNat) / 2 ^ (32 * k.toNat + (j + 1)) % 2 ^ (32 - (j + 1)) : Nat) : Int))) (q_mul 2 ((V (160 + 2 * r.toNat) / 2 ^ (32 * k.toNat + (j + 1)) % 2 ^ (32 - (j + 1)) : Nat) : Int)) ?_
    refine i_246_48 (x := 128) l0 ?_
    refine i_246_49 (v := Value.ref 157) hR.c128 rfl ?_
    refine i_246_52 (x := Int32.ofInt r) l1 ?_
    obtain ⟨gp, hgp, hgr⟩ := hR.part (j := (r).toNat) (by omega)
    refine i_246_53 (v := Value.ref (160 + 2 * r.toNat)) hgp (ix0 (by omega) (by omega)) (ix1 (by omega) (by omega) (by omega)) (by rw [ixn (by omega) (by omega)]; exact hgr) ?_
    refine i_246_54 ?_
    refine i_246_56 (x := Int32.ofInt k) l2 ?_
    refine i_246_57 (c := Int32.ofInt (32 * k)) (o_mul 32 k) ?_
    refine i_246_58 (x := Int32.ofInt (j : Int)) l5 ?_
    refine i_246_60 (c := Int32.ofInt ((32 * k) + (j : Int))) (o_add (32 * k) (j : Int)) ?_
    obtain ⟨fs, hobj⟩ := hR.obj (h := 160 + 2 * r.toNat) (iNp (r := r) (by omega) (by omega))
    have hrun := r_bit (d := d) (v := V (160 + 2 * r.toNat)) (k := (32 * k) + (j : Int)) hR (iNp (r := r) (by omega) (by omega)) (rfl) (by omega) (by omega)
    obtain ⟨b2, hbb⟩ : ∃ b, nbit (V (160 + 2 * r.toNat)) ((32 * k.toNat + j : Nat) : Int) = b := ⟨_, rfl⟩
    rw [show nbit (V (160 + 2 * r.toNat)) ((32 * k) + (j : Int)) = b2 by rw [← hbb]; congr 1; omega] at hrun
    refine i_246_61 hobj (Nat.le_of_ble_eq_true rfl) hrun ?_
    refine i_246_64 (zb_f fun c2 => ?_) (zb_t fun c2 => ?_)
    · refine i_246_71 ?_
      refine i_246_72 (c := Int64.ofInt 0) rfl ?_
      refine i_246_73 (c := Int64.ofInt ((2 * ((V (160 + 2 * r.toNat) / 2 ^ (32 * k.toNat + (j + 1)) % 2 ^ (32 - (j + 1)) : Nat) : Int)) + 0)) (q_add (2 * ((V (160 + 2 * r.toNat) / 2 ^ (32 * k.toNat + (j + 1)) % 2 ^ (32 - (j + 1)) : Nat) : Int)) 0) ?_
      refine i_246_74 rfl ?_
      refine lgen2 (i := 3) (v := Value.long (Int64.ofInt ((2 * ((V (160 + 2 * r.toNat) / 2 ^ (32 * k.toNat + (j + 1)) % 2 ^ (32 - (j + 1)) : Nat) : Int)) + 0))) (fun lv lg ls => ?_)
      replace l0 := lg 0 _ rfl rfl l0
      replace l1 := lg 1 _ rfl rfl l1
      replace l2 := lg 2 _ rfl rfl l2
      replace l5 := lg 5 _ rfl rfl l5
      have l3 := ls
      refine i_246_75 (x := (Int32.ofInt (j : Int))) (c := (Int32.ofInt ((j : Int) + (-1)))) l5 (o_dec (j : Int)) rfl ?_
      refine lgen1 (i := 5) (v := Value.int (Int32.ofInt ((j : Int) + (-1)))) (fun lv lg ls => ?_)
      replace l3 := lg 3 _ rfl rfl l3
      replace l0 := lg 0 _ rfl rfl l0
      replace l1 := lg 1 _ rfl rfl l1
      replace l2 := lg 2 _ rfl rfl l2
      have l5 := ls
      refine i_246_78 ?_
      have hs := bits_step (M := V (160 + 2 * r.toNat)) (b := 32 * k.toNat) (j := j) (n := 32 - (j + 1))
      rw [show 32 - (j + 1) + 1 = 32 - j by omega] at hs
      have hb := nbit_v (M := V (160 + 2 * r.toNat)) (k := 32 * k.toNat + j)
      refine ih _ (by omega) l0 l1 l2 l5 ?_
      rw [hs]
      have e : (2 * ((V (160 + 2 * r.toNat) / 2 ^ (32 * k.toNat + (j + 1)) % 2 ^ (32 - (j + 1)) : Nat) : Int)) + 0 = ((2 * (V (160 + 2 * r.toNat) / 2 ^ (32 * k.toNat + (j + 1)) % 2 ^ (32 - (j + 1))) + V (160 + 2 * r.toNat) / 2 ^ (32 * k.toNat + j) % 2 : Nat) : Int) := by rw [Int.natCast_add, Int.natCast_mul, ← hb, hbb, show b2 = false by assumption]; rfl
      rw [← e]; exact l3
    · refine i_246_67 ?_
      refine i_246_68 ?_
      refine i_246_72 (c := Int64.ofInt 1) rfl ?_
      refine i_246_73 (c := Int64.ofInt ((2 * ((V (160 + 2 * r.toNat) / 2 ^ (32 * k.toNat + (j + 1)) % 2 ^ (32 - (j + 1)) : Nat) : Int)) + 1)) (q_add (2 * ((V (160 + 2 * r.toNat) / 2 ^ (32 * k.toNat + (j + 1)) % 2 ^ (32 - (j + 1)) : Nat) : Int)) 1) ?_
      refine i_246_74 rfl ?_
      refine lgen2 (i := 3) (v := Value.long (Int64.ofInt ((2 * ((V (160 + 2 * r.toNat) / 2 ^ (32 * k.toNat + (j + 1)) % 2 ^ (32 - (j + 1)) : Nat) : Int)) + 1))) (fun lv lg ls => ?_)
      replace l0 := lg 0 _ rfl rfl l0
      replace l1 := lg 1 _ rfl rfl l1
      replace l2 := lg 2 _ rfl rfl l2
      replace l5 := lg 5 _ rfl rfl l5
      have l3 := ls
      refine i_246_75 (x := (Int32.ofInt (j : Int))) (c := (Int32.ofInt ((j : Int) + (-1)))) l5 (o_dec (j : Int)) rfl ?_
      refine lgen1 (i := 5) (v := Value.int (Int32.ofInt ((j : Int) + (-1)))) (fun lv lg ls => ?_)
      replace l3 := lg 3 _ rfl rfl l3
      replace l0 := lg 0 _ rfl rfl l0
      replace l1 := lg 1 _ rfl rfl l1
      replace l2 := lg 2 _ rfl rfl l2
      have l5 := ls
      refine i_246_78 ?_
      have hs := bits_step (M := V (160 + 2 * r.toNat)) (b := 32 * k.toNat) (j := j) (n := 32 - (j + 1))
      rw [show 32 - (j + 1) + 1 = 32 - j by omega] at hs
      have hb := nbit_v (M := V (160 + 2 * r.toNat)) (k := 32 * k.toNat + j)
      refine ih _ (by omega) l0 l1 l2 l5 ?_
      rw [hs]
      have e : (2 * ((V (160 + 2 * r.toNat) / 2 ^ (32 * k.toNat + (j + 1)) % 2 ^ (32 - (j + 1)) : Nat) : Int)) + 1 = ((2 * (V (160 + 2 * r.toNat) / 2 ^ (32 * k.toNat + (j + 1)) % 2 ^ (32 - (j + 1))) + V (160 + 2 * r.toNat) / 2 ^ (32 * k.toNat + j) % 2 : Nat) : Int) := by rw [Int.natCast_add, Int.natCast_mul, ← hb, hbb, show b2 = true by assumption]; rfl
      rw [← e]; exact l3
theorem s_word {d : Nat} {w0 w : xW} {S : Nat → Nat → Int} {V : Nat → Nat} {r k : Int} (hR : mR w0 S V w) (hI : mI S V) (hr : 0 ≤ r ∧ r ≤ 15) (hk : 0 ≤ k ∧ k ≤ 127) (h3 : S 154 r.toNat = 3) : ∃ w', xRun (d + 8) 246 [Value.ref 128, Value.int (Int32.ofInt r), Value.int (Int32.ofInt k)] w (.inl (some (.long (Int64.ofInt ((V (160 + 2 * r.toNat) / 2 ^ (32 * k.toNat + 0) % 2 ^ (32 - 0) : Nat) : Int))))) w' ∧ mR w0 S V w' := by
  obtain ⟨hp_r, hk_r, hn_r, ht_r, hx_r, -⟩ := hI.1 r.toNat (by omega)
  have key : xEv (d + 8) 246 0 (lv_args 0 [Value.ref 128, Value.int (Int32.ofInt r), Value.int (Int32.ofInt k)]) [] w (fun o w' => o = .inl (some (.long (Int64.ofInt ((V (160 + 2 * r.toNat) / 2 ^ (32 * k.toNat + 0) % 2 ^ (32 - 0) : Nat) : Int)))) ∧ mR w0 S V w') := by
    refine i_246_0 (x := Int32.ofInt r) rfl ?_
    have hrun := s_reg1 (d := d + 5) (w := w) (r := r) (by omega) (by omega)
    refine i_246_1 (Nat.le_of_ble_eq_true rfl) hrun ?_
    refine i_246_4 (x := Int32.ofInt k) rfl ?_
    refine i_246_5 ?_
    refine i_246_6 ?_
    have hrun := s_in (d := d + 6) (w := w) (v := k) (lo := 0) (hi := 127) ⟨by omega, by omega⟩ ⟨by decide, by decide⟩ ⟨by decide, by decide⟩
    refine i_246_8 (Nat.le_of_ble_eq_true rfl) hrun ?_
    have hrun := s_ck1 (d := d + 6) (w := w) (b := (decide (0 ≤ k ∧ k ≤ 127))) (decide_eq_true (by omega))
    refine i_246_11 (Nat.le_of_ble_eq_true rfl) hrun ?_
    refine i_246_14 (x := 128) rfl ?_
    refine i_246_15 (v := Value.ref 154) hR.c128 rfl ?_
    refine i_246_18 (x := Int32.ofInt r) rfl ?_
    refine i_246_19 (v := Value.int (Int32.ofInt (S 154 ((r).toNat)))) (hR.row a154) (ix0 (T := r) (by omega) (by omega)) (ix1 (T := r) (by omega) (by omega) (by omega)) (ra (T := r) (by omega) (by omega) rfl) ?_
    refine i_246_20 ?_
    refine i_246_21 (b_ne (a := S 154 ((r).toNat)) (b := 3) ⟨by omega, by omega⟩ ⟨by decide, by decide⟩ fun c0 => ?_) (b_eq (a := S 154 ((r).toNat)) (b := 3) ⟨by omega, by omega⟩ ⟨by decide, by decide⟩ fun c0 => ?_)
    · refine i_246_28 ?_
      have hrun := s_there0 (d := d + 1) (w := w)
      refine j_246_29 (Nat.le_of_ble_eq_true rfl) hrun (xDone.t (ci := 16) xgl rfl rfl ?_)
      exfalso; omega
    · refine i_246_24 ?_
      refine i_246_25 ?_
      have hrun := s_there1 (d := d + 6) (w := w)
      refine i_246_29 (Nat.le_of_ble_eq_true rfl) hrun ?_
      refine i_246_32 ?_
      refine i_246_33 (lv2 := [(3, Value.long 0), (0, Value.ref 128), (1, Value.int (Int32.ofInt r)), (2, Value.int (Int32.ofInt k))]) rfl ?_
      refine i_246_34 ?_
      refine i_246_36 (lv2 := [(5, Value.int 31), (3, Value.long 0), (0, Value.ref 128), (1, Value.int (Int32.ofInt r)), (2, Value.int (Int32.ofInt k))]) rfl ?_
      refine wd_loop (d := d + 5) hR (by omega) (by omega) ?_ 32 _ (by omega) rfl rfl rfl rfl (by rw [Nat.sub_self, Nat.pow_zero, Nat.mod_one]; rfl)
      intro lv l0 l1 l2 l3
      refine i_246_81 (x := Int64.ofInt ((V (160 + 2 * r.toNat) / 2 ^ (32 * k.toNat + 0) % 2 ^ (32 - 0) : Nat) : Int)) l3 ?_
      exact i_246_82 ⟨rfl, hR⟩
  obtain ⟨o, w', h1, rfl, h2⟩ := key.run
  exact ⟨w', h1, h2⟩
theorem b_word {d : Nat} {w : xW} {r k : Int} (b_r : -2147483648 ≤ r ∧ r < 2147483648) (b_k : -2147483648 ≤ k ∧ k < 2147483648) (h : ¬ ((0 ≤ r ∧ r ≤ 15) ∧ (0 ≤ k ∧ k ≤ 127))) : xRun (d + 8) 246 [Value.ref 128, Value.int (Int32.ofInt r), Value.int (Int32.ofInt k)] w (.inr w.length) (w ++ [.inr (14, [])]) := by
  refine xRun.of ?_
  refine i_246_0 (x := Int32.ofInt r) rfl ?_
  rcases Classical.em (0 ≤ r ∧ r ≤ 15) with hc1 | hc1
  · have hrun := s_reg1 (d := d + 5) (w := w) (r := r) (by omega) hc1
    refine i_246_1 (Nat.le_of_ble_eq_true rfl) hrun ?_
    refine i_246_4 (x := Int32.ofInt k) rfl ?_
    refine i_246_5 ?_
    refine i_246_6 ?_
    have hrun := s_in (d := d + 6) (w := w) (v := k) (lo := 0) (hi := 127) ⟨by omega, by omega⟩ ⟨by decide, by decide⟩ ⟨by decide, by decide⟩
    refine i_246_8 (Nat.le_of_ble_eq_true rfl) hrun ?_
    rcases Classical.em (0 ≤ k ∧ k ≤ 127) with hc2 | hc2
    · have hrun := s_ck1 (d := d + 6) (w := w) (b := (decide (0 ≤ k ∧ k ≤ 127))) (decide_eq_true hc2)
      refine i_246_11 (Nat.le_of_ble_eq_true rfl) hrun ?_
      exfalso; omega
    · have hrun := s_ck0 (d := d + 1) (w := w) (b := (decide (0 ≤ k ∧ k ≤ 127))) (decide_eq_false hc2)
      refine j_246_11 (Nat.le_of_ble_eq_true rfl) hrun (xDone.t (ci := 14) xgl rfl rfl ?_)
      exact ⟨rfl, rfl⟩
  · have hrun := s_reg0 (d := d) (w := w) (r := r) (by omega) hc1
    refine j_246_1 (Nat.le_of_ble_eq_true rfl) hrun (xDone.t (ci := 14) xgl rfl rfl ?_)
    exact ⟨rfl, rfl⟩
theorem n_word {d : Nat} {w0 w : xW} {S : Nat → Nat → Int} {V : Nat → Nat} {r k : Int} (hR : mR w0 S V w) (hI : mI S V) (hr : 0 ≤ r ∧ r ≤ 15) (hk : 0 ≤ k ∧ k ≤ 127) (h3 : S 154 r.toNat ≠ 3) : xRun (d + 8) 246 [Value.ref 128, Value.int (Int32.ofInt r), Value.int (Int32.ofInt k)] w (.inr w.length) (w ++ [.inr (16, [])]) := by
  obtain ⟨hp_r, hk_r, hn_r, ht_r, hx_r, -⟩ := hI.1 r.toNat (by omega)
  refine xRun.of ?_
  refine i_246_0 (x := Int32.ofInt r) rfl ?_
  have hrun := s_reg1 (d := d + 5) (w := w) (r := r) (by omega) (by omega)
  refine i_246_1 (Nat.le_of_ble_eq_true rfl) hrun ?_
  refine i_246_4 (x := Int32.ofInt k) rfl ?_
  refine i_246_5 ?_
  refine i_246_6 ?_
  have hrun := s_in (d := d + 6) (w := w) (v := k) (lo := 0) (hi := 127) ⟨by omega, by omega⟩ ⟨by decide, by decide⟩ ⟨by decide, by decide⟩
  refine i_246_8 (Nat.le_of_ble_eq_true rfl) hrun ?_
  have hrun := s_ck1 (d := d + 6) (w := w) (b := (decide (0 ≤ k ∧ k ≤ 127))) (decide_eq_true (by omega))
  refine i_246_11 (Nat.le_of_ble_eq_true rfl) hrun ?_
  refine i_246_14 (x := 128) rfl ?_
  refine i_246_15 (v := Value.ref 154) hR.c128 rfl ?_
  refine i_246_18 (x := Int32.ofInt r) rfl ?_
  refine i_246_19 (v := Value.int (Int32.ofInt (S 154 ((r).toNat)))) (hR.row a154) (ix0 (T := r) (by omega) (by omega)) (ix1 (T := r) (by omega) (by omega) (by omega)) (ra (T := r) (by omega) (by omega) rfl) ?_
  refine i_246_20 ?_
  refine i_246_21 (b_ne (a := S 154 ((r).toNat)) (b := 3) ⟨by omega, by omega⟩ ⟨by decide, by decide⟩ fun c0 => ?_) (b_eq (a := S 154 ((r).toNat)) (b := 3) ⟨by omega, by omega⟩ ⟨by decide, by decide⟩ fun c0 => ?_)
  · refine i_246_28 ?_
    have hrun := s_there0 (d := d + 1) (w := w)
    refine j_246_29 (Nat.le_of_ble_eq_true rfl) hrun (xDone.t (ci := 16) xgl rfl rfl ?_)
    exact ⟨rfl, rfl⟩
  · refine i_246_24 ?_
    refine i_246_25 ?_
    have hrun := s_there1 (d := d + 6) (w := w)
    refine i_246_29 (Nat.le_of_ble_eq_true rfl) hrun ?_
    exfalso; omega
