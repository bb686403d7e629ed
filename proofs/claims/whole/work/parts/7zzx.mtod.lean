/-! toDouble of the reference -/
theorem q_orS {sv sb x : Int} (h : (sv = 0 ∧ sb = 0) ∨ (sv = -9223372036854775808 ∧ sb = 9223372036854775808)) (h0 : 0 ≤ x) (h1 : x < 9223372036854775808) : Int64.ofInt sv ||| Int64.ofInt x = Int64.ofInt (sb + x) := by
  rcases h with ⟨rfl, rfl⟩ | ⟨rfl, rfl⟩
  · exact q_or0
  · exact q_orM h0 h1
/-- register 16 alone changed -/
def mD (S S' : Nat → Nat → Int) (V V' : Nat → Nat) : Prop := (∀ a j, ¬ ((a = 153 ∨ a = 154 ∨ a = 155 ∨ a = 156) ∧ j = 16) → S' a j = S a j) ∧ ∀ k, 160 ≤ k → k ≠ 192 → V' k = V k
theorem mD.mI {S S' : Nat → Nat → Int} {V V' : Nat → Nat} (h : mD S S' V V') (hI : mI S V) : mI S' V' := by
  obtain ⟨i1, i2, i3, i4⟩ := hI
  have n : ∀ a j, j ≠ 16 → S' a j = S a j := fun a j hj => h.1 a j (fun c => hj c.2)
  refine ⟨fun r hr => ?_, ?_, ?_, ?_⟩
  · rw [n 153 r (by omega), n 154 r (by omega), n 155 r (by omega), n 156 r (by omega), h.2 _ (by omega) (by omega)]; exact i1 r hr
  · rw [n 128 17 (by decide), n 128 18 (by decide)]; exact i2
  · rw [n 128 20 (by decide)]; exact i3
  · rw [n 128 21 (by decide)]; exact i4
section
variable {d : Nat} {w0 w : xW} {S : Nat → Nat → Int} {V : Nat → Nat} {r mode : Int} {lv : xLv} {Q : Option Value ⊕ Nat → xW → Prop}
theorem tdm_loop {d : Nat} {w0 w : xW} {S : Nat → Nat → Int} {V : Nat → Nat} {r mode sv : Int} {Q : Option Value ⊕ Nat → xW → Prop} (hR : mR w0 S V w) (hQ : ∀ lv, xld lv 0 = some (Value.ref 128) → xld lv 1 = some (Value.int (Int32.ofInt r)) → xld lv 2 = some (Value.int (Int32.ofInt mode)) → xld lv 3 = some (Value.long (Int64.ofInt sv)) → xld lv 9 = some (Value.long (Int64.ofInt ((V 192 / 2 ^ (0 + 0) % 2 ^ (53 - 0) : Nat) : Int))) → xEv (d + 3) 250 261 lv [] w Q) (j : Nat) : ∀ lv, j ≤ 53 → xld lv 0 = some (Value.ref 128) → xld lv 1 = some (Value.int (Int32.ofInt r)) → xld lv 2 = some (Value.int (Int32.ofInt mode)) → xld lv 3 = some (Value.long (Int64.ofInt sv)) → xld lv 11 = some (Value.int (Int32.ofInt ((j : Int) - 1))) → xld lv 9 = some (Value.long (Int64.ofInt ((V 192 / 2 ^ (0 + j) % 2 ^ (53 - j) : Nat) : Int))) → xEv (d + 3) 250 220 lv [] w Q := by
  induction j with
  | zero =>
    intro lv hj l0 l1 l2 l3 l11 l9
    refine i_250_220 (x := Int32.ofInt (((0 : Nat) : Int) - 1)) l11 ?_
    refine i_250_222 (z_lt (a := ((0 : Nat) : Int) - 1) ⟨by omega, by omega⟩ fun c0 => ?_) (z_ge (a := ((0 : Nat) : Int) - 1) ⟨by omega, by omega⟩ fun c0 => absurd c0 (by omega))
    exact hQ _ l0 l1 l2 l3 l9
  | succ j ih =>
    intro lv hj l0 l1 l2 l3 l11 l9
    rw [show ((j + 1 : Nat) : Int) - 1 = (j : Int) by omega] at l11
    refine i_250_220 (x := Int32.ofInt (j : Int)) l11 ?_
    refine i_250_222 (z_lt (a := (j : Int)) ⟨by omega, by omega⟩ fun c0 => absurd c0 (by omega)) (z_ge (a := (j : Int)) ⟨by omega, by omega⟩ fun c0 => ?_)
    refine i_250_225 ?_
    refine i_250_228 (x := Int64.ofInt ((V 192 / 2 ^ (0 + (j + 1)) % 2 ^ (53 - (j + 1)) : Nat) : Int)) l9 ?_
    refine i_250_230 (c := Int64.ofInt (2 * ((V 192 / 2 ^ (0 + (j + 1)) % 2 ^ (53 - (j + 1)) : Nat) : Int))) (q_mul 2 ((V 192 / 2 ^ (0 + (j + 1)) % 2 ^ (53 - (j + 1)) : Nat) : Int)) ?_
    refine i_250_231 (x := 128) l0 ?_
    refine i_250_232 (v := Value.ref 157) hR.c128 rfl ?_
    refine i_250_235 ?_
    obtain ⟨gp, hgp, hgr⟩ := hR.part (j := 16) (by decide)
    refine i_250_237 (v := Value.ref 192) hgp (by decide) (by decide) hgr ?_
    refine i_250_238 (x := Int32.ofInt (j : Int)) l11 ?_
    obtain ⟨fs, hobj⟩ := hR.obj (h := 192) (show isN 192 from iNp (r := 16) (by decide) (by decide))
    have hrun := r_bit (d := d) (v := V 192) (k := (j : Int)) hR (show isN 192 from iNp (r := 16) (by decide) (by decide)) (rfl) (by omega) (by omega)
    obtain ⟨b2, hbb⟩ : ∃ b, nbit (V 192) ((0 + j : Nat) : Int) = b := ⟨_, rfl⟩
    rw [show nbit (V 192) ((j : Int)) = b2 by rw [← hbb]; congr 1; omega] at hrun
    refine i_250_240 hobj (Nat.le_of_ble_eq_true rfl) hrun ?_
    refine i_250_243 (zb_f fun c2 => ?_) (zb_t fun c2 => ?_)
    · refine i_250_250 ?_
      refine i_250_251 (c := Int64.ofInt 0) rfl ?_
      refine i_250_252 (c := Int64.ofInt ((2 * ((V 192 / 2 ^ (0 + (j + 1)) % 2 ^ (53 - (j + 1)) : Nat) : Int)) + 0)) (q_add (2 * ((V 192 / 2 ^ (0 + (j + 1)) % 2 ^ (53 - (j + 1)) : Nat) : Int)) 0) ?_
      refine i_250_253 rfl ?_
      refine lgen2 (i := 9) (v := Value.long (Int64.ofInt ((2 * ((V 192 / 2 ^ (0 + (j + 1)) % 2 ^ (53 - (j + 1)) : Nat) : Int)) + 0))) (fun lv lg ls => ?_)
      replace l0 := lg 0 _ rfl rfl l0
      replace l1 := lg 1 _ rfl rfl l1
      replace l2 := lg 2 _ rfl rfl l2
      replace l3 := lg 3 _ rfl rfl l3
      replace l11 := lg 11 _ rfl rfl l11
      have l9 := ls
      refine i_250_255 (x := (Int32.ofInt (j : Int))) (c := (Int32.ofInt ((j : Int) + (-1)))) l11 (o_dec (j : Int)) rfl ?_
      refine lgen1 (i := 11) (v := Value.int (Int32.ofInt ((j : Int) + (-1)))) (fun lv lg ls => ?_)
      replace l9 := lg 9 _ rfl rfl l9
      replace l0 := lg 0 _ rfl rfl l0
      replace l1 := lg 1 _ rfl rfl l1
      replace l2 := lg 2 _ rfl rfl l2
      replace l3 := lg 3 _ rfl rfl l3
      have l11 := ls
      refine i_250_258 ?_
      have hs := bits_step (M := V 192) (b := 0) (j := j) (n := 53 - (j + 1))
      rw [show 53 - (j + 1) + 1 = 53 - j by omega] at hs
      have hb := nbit_v (M := V 192) (k := 0 + j)
      refine ih _ (by omega) l0 l1 l2 l3 l11 ?_
      rw [hs]
      have e : (2 * ((V 192 / 2 ^ (0 + (j + 1)) % 2 ^ (53 - (j + 1)) : Nat) : Int)) + 0 = ((2 * (V 192 / 2 ^ (0 + (j + 1)) % 2 ^ (53 - (j + 1))) + V 192 / 2 ^ (0 + j) % 2 : Nat) : Int) := by rw [Int.natCast_add, Int.natCast_mul, ← hb, hbb, show b2 = false by assumption]; rfl
      rw [← e]; exact l9
    · refine i_250_246 ?_
      refine i_250_247 ?_
      refine i_250_251 (c := Int64.ofInt 1) rfl ?_
      refine i_250_252 (c := Int64.ofInt ((2 * ((V 192 / 2 ^ (0 + (j + 1)) % 2 ^ (53 - (j + 1)) : Nat) : Int)) + 1)) (q_add (2 * ((V 192 / 2 ^ (0 + (j + 1)) % 2 ^ (53 - (j + 1)) : Nat) : Int)) 1) ?_
      refine i_250_253 rfl ?_
      refine lgen2 (i := 9) (v := Value.long (Int64.ofInt ((2 * ((V 192 / 2 ^ (0 + (j + 1)) % 2 ^ (53 - (j + 1)) : Nat) : Int)) + 1))) (fun lv lg ls => ?_)
      replace l0 := lg 0 _ rfl rfl l0
      replace l1 := lg 1 _ rfl rfl l1
      replace l2 := lg 2 _ rfl rfl l2
      replace l3 := lg 3 _ rfl rfl l3
      replace l11 := lg 11 _ rfl rfl l11
      have l9 := ls
      refine i_250_255 (x := (Int32.ofInt (j : Int))) (c := (Int32.ofInt ((j : Int) + (-1)))) l11 (o_dec (j : Int)) rfl ?_
      refine lgen1 (i := 11) (v := Value.int (Int32.ofInt ((j : Int) + (-1)))) (fun lv lg ls => ?_)
      replace l9 := lg 9 _ rfl rfl l9
      replace l0 := lg 0 _ rfl rfl l0
      replace l1 := lg 1 _ rfl rfl l1
      replace l2 := lg 2 _ rfl rfl l2
      replace l3 := lg 3 _ rfl rfl l3
      have l11 := ls
      refine i_250_258 ?_
      have hs := bits_step (M := V 192) (b := 0) (j := j) (n := 53 - (j + 1))
      rw [show 53 - (j + 1) + 1 = 53 - j by omega] at hs
      have hb := nbit_v (M := V 192) (k := 0 + j)
      refine ih _ (by omega) l0 l1 l2 l3 l11 ?_
      rw [hs]
      have e : (2 * ((V 192 / 2 ^ (0 + (j + 1)) % 2 ^ (53 - (j + 1)) : Nat) : Int)) + 1 = ((2 * (V 192 / 2 ^ (0 + (j + 1)) % 2 ^ (53 - (j + 1))) + V 192 / 2 ^ (0 + j) % 2 : Nat) : Int) := by rw [Int.natCast_add, Int.natCast_mul, ← hb, hbb, show b2 = true by assumption]; rfl
      rw [← e]; exact l9
set_option maxHeartbeats 8000000 in
theorem td_A {sv sb : Int} (hR : mR w0 S V w) (hI : mI S V) (hr : 0 ≤ r ∧ r ≤ 15) (hmo : 0 ≤ mode ∧ mode ≤ 4) (hsv : (sv = 0 ∧ sb = 0) ∨ (sv = -9223372036854775808 ∧ sb = 9223372036854775808)) (hsb : sb = if S 156 r.toNat = 0 then 0 else 9223372036854775808) (l0 : xld lv 0 = some (Value.ref 128)) (l1 : xld lv 1 = some (Value.int (Int32.ofInt r))) (l2 : xld lv 2 = some (Value.int (Int32.ofInt mode))) (l3 : xld lv 3 = some (Value.long (Int64.ofInt sv))) : xEv (d + 8) 250 25 lv [] w (fun o w' => o = .inl (some (.long (Int64.ofInt (sTd S V r.toNat mode)))) ∧ ∃ S' V', mR w0 S' V' w' ∧ mD S S' V V') := by
  obtain ⟨hp_r, hk_r, hn_r, ht_r, hx_r, -⟩ := hI.1 r.toNat (by omega)
  have hi_l := hI.2.1
  have hi_g := hI.2.2.1
  have hi_f := hI.2.2.2
  refine i_250_25 (x := 128) l0 ?_
  refine i_250_26 (v := Value.ref 154) hR.c128 rfl ?_
  refine i_250_29 (x := Int32.ofInt r) l1 ?_
  refine i_250_30 (v := Value.int (Int32.ofInt (S 154 ((r).toNat)))) (hR.row a154) (ix0 (T := r) (by omega) (by omega)) (ix1 (T := r) (by omega) (by omega) (by omega)) (ra (T := r) (by omega) (by omega) rfl) ?_
  refine i_250_31 (z_ne (a := S 154 ((r).toNat)) ⟨by omega, by omega⟩ fun c0 => ?_) (z_eq (a := S 154 ((r).toNat)) ⟨by omega, by omega⟩ fun c0 => ?_)
  · refine i_250_38 (x := 128) l0 ?_
    refine i_250_39 (v := Value.ref 154) hR.c128 rfl ?_
    refine i_250_42 (x := Int32.ofInt r) l1 ?_
    refine i_250_43 (v := Value.int (Int32.ofInt (S 154 ((r).toNat)))) (hR.row a154) (ix0 (T := r) (by omega) (by omega)) (ix1 (T := r) (by omega) (by omega) (by omega)) (ra (T := r) (by omega) (by omega) rfl) ?_
    refine i_250_44 ?_
    refine i_250_45 (b_eq (a := S 154 ((r).toNat)) (b := 3) ⟨by omega, by omega⟩ ⟨by decide, by decide⟩ fun c1 => ?_) (b_ne (a := S 154 ((r).toNat)) (b := 3) ⟨by omega, by omega⟩ ⟨by decide, by decide⟩ fun c1 => ?_)
    · refine i_250_68 (x := 128) l0 ?_
      refine i_250_69 (v := Value.int (Int32.ofInt (S 128 17))) hR.c128 rfl ?_
      refine i_250_72 rfl ?_
      refine lgen1 (i := 5) (v := Value.int (Int32.ofInt (S 128 17))) (fun lv lg ls => ?_)
      replace l0 := lg 0 _ rfl rfl l0
      replace l1 := lg 1 _ rfl rfl l1
      replace l2 := lg 2 _ rfl rfl l2
      replace l3 := lg 3 _ rfl rfl l3
      have l5 := ls
      refine i_250_74 (x := 128) l0 ?_
      refine i_250_75 (v := Value.int (Int32.ofInt (S 128 18))) hR.c128 rfl ?_
      refine i_250_78 rfl ?_
      refine lgen1 (i := 6) (v := Value.int (Int32.ofInt (S 128 18))) (fun lv lg ls => ?_)
      replace l5 := lg 5 _ rfl rfl l5
      replace l0 := lg 0 _ rfl rfl l0
      replace l1 := lg 1 _ rfl rfl l1
      replace l2 := lg 2 _ rfl rfl l2
      replace l3 := lg 3 _ rfl rfl l3
      have l6 := ls
      refine i_250_80 (x := 128) l0 ?_
      refine i_250_81 (v := Value.int (Int32.ofInt (S 128 19))) hR.c128 rfl ?_
      refine i_250_84 rfl ?_
      refine lgen1 (i := 7) (v := Value.int (Int32.ofInt (S 128 19))) (fun lv lg ls => ?_)
      replace l6 := lg 6 _ rfl rfl l6
      replace l5 := lg 5 _ rfl rfl l5
      replace l0 := lg 0 _ rfl rfl l0
      replace l1 := lg 1 _ rfl rfl l1
      replace l2 := lg 2 _ rfl rfl l2
      replace l3 := lg 3 _ rfl rfl l3
      have l7 := ls
      refine i_250_86 (x := 128) l0 ?_
      refine i_250_87 (v := Value.int (Int32.ofInt (S 128 20))) hR.c128 rfl ?_
      refine i_250_90 rfl ?_
      refine lgen1 (i := 8) (v := Value.int (Int32.ofInt (S 128 20))) (fun lv lg ls => ?_)
      replace l7 := lg 7 _ rfl rfl l7
      replace l6 := lg 6 _ rfl rfl l6
      replace l5 := lg 5 _ rfl rfl l5
      replace l0 := lg 0 _ rfl rfl l0
      replace l1 := lg 1 _ rfl rfl l1
      replace l2 := lg 2 _ rfl rfl l2
      replace l3 := lg 3 _ rfl rfl l3
      have l8 := ls
      refine i_250_92 (x := 128) l0 ?_
      refine i_250_93 ?_
      refine i_250_96 (fs2 := mf (u1 (S 128) 17 (-1021))) hR.c128 (Nat.le_of_ble_eq_true rfl) (mfs_17 (v := (-1021))) (by decide) ?_
      refine xgen (P := mR w0 (u2 S 128 17 (-1021)) V) hR.fld2 (fun w hR => ?_)
      refine i_250_99 (x := 128) l0 ?_
      refine i_250_100 ?_
      refine i_250_103 (fs2 := mf (u1 ((u2 S 128 17 (-1021)) 128) 18 1024)) hR.c128 (Nat.le_of_ble_eq_true rfl) (mfs_18 (v := 1024)) (by decide) ?_
      refine xgen (P := mR w0 (u2 (u2 S 128 17 (-1021)) 128 18 1024) V) hR.fld2 (fun w hR => ?_)
      refine i_250_106 (x := 128) l0 ?_
      refine i_250_107 ?_
      refine i_250_108 (fs2 := mf (u1 ((u2 (u2 S 128 17 (-1021)) 128 18 1024) 128) 20 1)) hR.c128 rfl (Nat.le_of_ble_eq_true rfl) (mfs_20 (v := 1)) (by decide) ?_
      refine xgen (P := mR w0 (u2 (u2 (u2 S 128 17 (-1021)) 128 18 1024) 128 20 1) V) hR.fld2 (fun w hR => ?_)
      refine i_250_111 (x := 128) l0 ?_
      refine i_250_112 (v := Value.ref 153) hR.c128 rfl ?_
      refine i_250_115 ?_
      refine i_250_117 ?_
      refine i_250_119 (v := Value.int (Int32.ofInt 53)) (hR.row a153) (by decide) (by decide) (by decide) rfl ?_
      refine xgen (P := mR w0 (u2 (u2 (u2 (u2 S 128 17 (-1021)) 128 18 1024) 128 20 1) 153 16 53) V) (hR.arr (r := 16) a153 rfl) (fun w hR => ?_)
      refine i_250_120 (x := 128) l0 ?_
      refine i_250_121 (v := Value.ref 129) hR.c128 rfl ?_
      refine i_250_124 (x := 128) l0 ?_
      refine i_250_125 (v := Value.ref 157) hR.c128 rfl ?_
      refine i_250_128 (x := Int32.ofInt r) l1 ?_
      obtain ⟨gp, hgp, hgr⟩ := hR.part (j := (r).toNat) (by omega)
      refine i_250_129 (v := Value.ref (160 + 2 * r.toNat)) hgp (ix0 (by omega) (by omega)) (ix1 (by omega) (by omega) (by omega)) (by rw [ixn (by omega) (by omega)]; exact hgr) ?_
      obtain ⟨fs, hobj⟩ := hR.obj (h := 129) (iNw (h := 129) (by decide) (by decide) (by decide))
      obtain ⟨w, hrun, hR⟩ := r_setn (d := d + 5) (v := V (160 + 2 * r.toNat)) (c := 4700) hR (iNw (h := 129) (by decide) (by decide) (by decide)) (iNp (r := r) (by omega) (by omega)) (rfl) rfl (by omega)
      refine i_250_130 hobj (Nat.le_of_ble_eq_true rfl) hrun ?_
      refine i_250_133 (x := 128) l0 ?_
      refine i_250_134 ?_
      refine i_250_136 (x := 128) l0 ?_
      refine i_250_137 (v := Value.ref 129) hR.c128 rfl ?_
      refine i_250_140 (x := 128) l0 ?_
      refine i_250_141 (x := Int32.ofInt r) l1 ?_
      have hobj := hR.c128
      obtain ⟨w, hrun, hR⟩ := s_exponent (d := d + 6) (r := r) hR (by omega) (by omega)
      simp only [show (u2 (u2 (u2 (u2 S 128 17 (-1021)) 128 18 1024) 128 20 1) 153 16 53) 155 r.toNat = S 155 r.toNat by simp [u2_e], show (u2 (u2 (u2 (u2 S 128 17 (-1021)) 128 18 1024) 128 20 1) 153 16 53) 153 r.toNat = S 153 r.toNat by simp [u2_e]; omega] at hrun
      refine i_250_142 hobj (Nat.le_of_ble_eq_true rfl) hrun ?_
      refine i_250_145 ?_
      refine i_250_146 (x := 128) l0 ?_
      refine i_250_147 (v := Value.ref 156) hR.c128 rfl ?_
      refine i_250_150 (x := Int32.ofInt r) l1 ?_
      refine i_250_151z (v := Value.int (Int32.ofInt (S 156 ((r).toNat)))) (hR.row a156) (ix0 (T := r) (by omega) (by omega)) (ix1 (T := r) (by omega) (by omega) (by omega)) (ra (T := r) (by omega) (by omega) rfl) ?_
      refine i_250_152 (x := Int32.ofInt mode) l2 ?_
      have hobj := hR.c128
      have hx : (uv V 129 (V (160 + 2 * r.toNat))) 129 = V (160 + 2 * r.toNat) := uv_s
      have e53 : (u2 (u2 (u2 (u2 S 128 17 (-1021)) 128 18 1024) 128 20 1) 153 16 53) 153 16 = 53 := by simp [u2_e]
      have e17 : (u2 (u2 (u2 (u2 S 128 17 (-1021)) 128 18 1024) 128 20 1) 153 16 53) 128 17 = -1021 := by simp [u2_e]
      have e18 : (u2 (u2 (u2 (u2 S 128 17 (-1021)) 128 18 1024) 128 20 1) 153 16 53) 128 18 = 1024 := by simp [u2_e]
      have e20 : (u2 (u2 (u2 (u2 S 128 17 (-1021)) 128 18 1024) 128 20 1) 153 16 53) 128 20 = 1 := by simp [u2_e]
      have e21 : (u2 (u2 (u2 (u2 S 128 17 (-1021)) 128 18 1024) 128 20 1) 153 16 53) 128 21 = 0 := by simp [u2_e]; exact hi_f
      have e19 : (u2 (u2 (u2 (u2 S 128 17 (-1021)) 128 18 1024) 128 20 1) 153 16 53) 128 19 = S 128 19 := by simp [u2_e]
      obtain ⟨w, S9, V9, hrun, hR, hP⟩ := s_round (d := d + 3) (h := 129) (r := 16) (e := (S 155 r.toNat - S 153 r.toNat)) (more := 0) (sg := S 156 r.toNat) (mode := mode) hR (iNw (h := 129) (by decide) (by decide) (by decide)) (by decide) (by decide) (by decide) (Or.inl rfl) hn_r (by omega) hmo (by rw [show (16 : Int).toNat = 16 from rfl, e53]; decide) (by rw [show (16 : Int).toNat = 16 from rfl, e53]; decide) (by rw [e17]; decide) (by rw [e18]; decide) (by rw [e20]; exact Or.inr rfl) (by rw [e21]; exact Or.inl rfl) (by rw [hx]; omega)
      rw [show (16 : Int).toNat = 16 from rfl, hx, e53, e17, e18, e20, e21, e19] at hrun hP
      have hok := rnd_ok (p := 53) (least := -1021) (greatest := 1024) (gradual := 1) (sg := S 156 r.toNat) (mode := mode) (more := 0) (e := (S 155 r.toNat - S 153 r.toNat)) (f := S 128 19) (m := V (160 + 2 * r.toNat)) (by decide) (by decide)
      have htd := rnd_td (sg := S 156 r.toNat) (mode := mode) (e := (S 155 r.toNat - S 153 r.toNat)) (f := S 128 19) (m := V (160 + 2 * r.toNat))
      have hf0 := rnd_f (p := 53) (least := -1021) (greatest := 1024) (gradual := 1) (free := 0) (sg := S 156 r.toNat) (mode := mode) (more := 0) (e := (S 155 r.toNat - S 153 r.toNat)) (f := S 128 19) (f' := 0) (m := V (160 + 2 * r.toNat))
      have hTd : sTd S V r.toNat mode = dbl (tdR (S 156 r.toNat) mode (V (160 + 2 * r.toNat)) (S 155 r.toNat - S 153 r.toNat)).1 (S 156 r.toNat) (tdR (S 156 r.toNat) mode (V (160 + 2 * r.toNat)) (S 155 r.toNat - S 153 r.toNat)).2.1 (tdR (S 156 r.toNat) mode (V (160 + 2 * r.toNat)) (S 155 r.toNat - S 153 r.toNat)).2.2.1 := if_neg (by omega)
      unfold tdR at hTd
      rw [← hf0.1, ← hf0.2.1, ← hf0.2.2] at hTd
      clear hf0
      generalize rnd 53 (-1021) 1024 1 0 (S 156 r.toNat) mode 0 (V (160 + 2 * r.toNat)) (S 155 r.toNat - S 153 r.toNat) (S 128 19) = R9 at hrun hP hok htd hTd
      obtain ⟨K, T, m9, t9, F⟩ := R9
      obtain ⟨g1, g2, ⟨g3, -⟩, g4, g5, g6⟩ := hP
      have g1 : S9 154 16 = K := g1
      have hTd : sTd S V r.toNat mode = dbl K (S 156 r.toNat) T m9 := hTd
      have hok : okO 53 K T m9 := hok
      obtain ⟨hK, -, hm9⟩ := hok
      have htd : K ≠ 3 ∨ (-1073 ≤ T ∧ T ≤ 1024) := htd
      have hg3 : hid (K = 3 → S9 155 16 = T ∧ V9 (160 + 2 * 16) = m9) := g3
      have hm9h : hid (K = 3 → (xbl m9 : Int) = 53) := hm9
      clear g3 hm9
      have hg5 : hid (∀ a j, ¬ (a = 154 ∧ j = 16) → ¬ (a = 155 ∧ j = 16) → ¬ (a = 156 ∧ j = 16) → ¬ (a = 128 ∧ j = 19) → S9 a j = (u2 (u2 (u2 (u2 S 128 17 (-1021)) 128 18 1024) 128 20 1) 153 16 53) a j) := g5
      have hg6 : hid (∀ k, k ≠ 135 → k ≠ 137 → k ≠ 143 → k ≠ 151 → k ≠ 160 + 2 * 16 → V9 k = (uv V 129 (V (160 + 2 * r.toNat))) k) := g6
      clear g5 g6
      refine i_250_153 hobj (Nat.le_of_ble_eq_true rfl) hrun ?_
      refine i_250_156 rfl ?_
      refine i_250_157 (x := 128) l0 ?_
      refine i_250_158 (x := Int32.ofInt (S 128 17)) l5 ?_
      refine i_250_160 (fs2 := mf (u1 (S9 128) 17 (S 128 17))) hR.c128 (Nat.le_of_ble_eq_true rfl) (mfs_17 (v := S 128 17)) (by decide) ?_
      refine xgen (P := mR w0 (u2 S9 128 17 (S 128 17)) V9) hR.fld2 (fun w hR => ?_)
      refine i_250_163 (x := 128) l0 ?_
      refine i_250_164 (x := Int32.ofInt (S 128 18)) l6 ?_
      refine i_250_166 (fs2 := mf (u1 ((u2 S9 128 17 (S 128 17)) 128) 18 (S 128 18))) hR.c128 (Nat.le_of_ble_eq_true rfl) (mfs_18 (v := S 128 18)) (by decide) ?_
      refine xgen (P := mR w0 (u2 (u2 S9 128 17 (S 128 17)) 128 18 (S 128 18)) V9) hR.fld2 (fun w hR => ?_)
      refine i_250_169 (x := 128) l0 ?_
      refine i_250_170 (x := Int32.ofInt (S 128 20)) l8 ?_
      refine i_250_172 (fs2 := mf (u1 ((u2 (u2 S9 128 17 (S 128 17)) 128 18 (S 128 18)) 128) 20 (S 128 20))) hR.c128 (o_bool (by omega)) (Nat.le_of_ble_eq_true rfl) (mfs_20 (v := S 128 20)) (by decide) ?_
      refine xgen (P := mR w0 (u2 (u2 (u2 S9 128 17 (S 128 17)) 128 18 (S 128 18)) 128 20 (S 128 20)) V9) hR.fld2 (fun w hR => ?_)
      refine i_250_175 (x := 128) l0 ?_
      refine i_250_176 (x := Int32.ofInt (S 128 19)) l7 ?_
      refine i_250_178 (fs2 := mf (u1 ((u2 (u2 (u2 S9 128 17 (S 128 17)) 128 18 (S 128 18)) 128 20 (S 128 20)) 128) 19 (S 128 19))) hR.c128 (Nat.le_of_ble_eq_true rfl) (mfs_19 (v := S 128 19)) (by decide) ?_
      refine xgen (P := mR w0 (u2 (u2 (u2 (u2 S9 128 17 (S 128 17)) 128 18 (S 128 18)) 128 20 (S 128 20)) 128 19 (S 128 19)) V9) hR.fld2 (fun w hR => ?_)
      refine i_250_181 (x := 128) l0 ?_
      refine i_250_182 (v := Value.ref 154) hR.c128 rfl ?_
      refine i_250_185 ?_
      refine i_250_187 (v := Value.int (Int32.ofInt (S9 154 16))) (hR.row a154) (ix0 (T := 16) (by omega) (by omega)) (ix1 (T := 16) (by omega) (by omega) (by omega)) (ra (T := 16) (by omega) (by omega) rfl) ?_
      refine i_250_188 ?_
      refine i_250_189 (b_eq (a := S9 154 16) (b := 3) ⟨by omega, by omega⟩ ⟨by decide, by decide⟩ fun c2 => ?_) (b_ne (a := S9 154 16) (b := 3) ⟨by omega, by omega⟩ ⟨by decide, by decide⟩ fun c2 => ?_)
      · refine i_250_213 ?_
        refine i_250_214 rfl ?_
        refine lgen2 (i := 9) (v := Value.long 0) (fun lv lg ls => ?_)
        replace l8 := lg 8 _ rfl rfl l8
        replace l7 := lg 7 _ rfl rfl l7
        replace l6 := lg 6 _ rfl rfl l6
        replace l5 := lg 5 _ rfl rfl l5
        replace l0 := lg 0 _ rfl rfl l0
        replace l1 := lg 1 _ rfl rfl l1
        replace l2 := lg 2 _ rfl rfl l2
        replace l3 := lg 3 _ rfl rfl l3
        have l9 := ls
        refine i_250_216 ?_
        refine i_250_218 rfl ?_
        refine lgen1 (i := 11) (v := Value.int 52) (fun lv lg ls => ?_)
        replace l9 := lg 9 _ rfl rfl l9
        replace l8 := lg 8 _ rfl rfl l8
        replace l7 := lg 7 _ rfl rfl l7
        replace l6 := lg 6 _ rfl rfl l6
        replace l5 := lg 5 _ rfl rfl l5
        replace l0 := lg 0 _ rfl rfl l0
        replace l1 := lg 1 _ rfl rfl l1
        replace l2 := lg 2 _ rfl rfl l2
        replace l3 := lg 3 _ rfl rfl l3
        have l11 := ls
        have hK3 : K = 3 := by omega
        obtain ⟨g155, gV⟩ := hid.o hg3 hK3
        have hm9 := hid.o hm9h hK3
        have htd := htd.resolve_left (by omega)
        have hm9l : m9 < 9007199254740992 := by have := xbl_lt m9; rw [show xbl m9 = 53 by omega] at this; exact this
        refine tdm_loop (d := d + 5) hR ?_ 53 _ (by omega) l0 l1 l2 l3 l11 (by rw [Nat.sub_self, Nat.pow_zero, Nat.mod_one]; exact l9)
        intro lv l0 l1 l2 l3 l9
        rw [show V9 192 = m9 from gV, Nat.zero_add, Nat.pow_zero, Nat.div_one, Nat.sub_zero, Nat.mod_eq_of_lt hm9l] at l9
        refine i_250_261 (x := 128) l0 ?_
        refine i_250_262 (v := Value.ref 155) hR.c128 rfl ?_
        refine i_250_265 ?_
        refine i_250_267 (v := Value.int (Int32.ofInt T)) (hR.row a155) (ix0 (T := 16) (by omega) (by omega)) (ix1 (T := 16) (by omega) (by omega) (by omega)) (ra (T := 16) (by omega) (by omega) g155) ?_
        refine i_250_268 ?_
        refine i_250_271 (b_le (a := (-1021)) (b := T) ⟨by decide, by decide⟩ ⟨by omega, by omega⟩ fun c0 => ?_) (b_lt (a := T) (b := (-1021)) ⟨by omega, by omega⟩ ⟨by decide, by decide⟩ fun c0 => ?_)
        · refine i_250_291 (x := Int64.ofInt sv) l3 ?_
          refine i_250_292 (x := 128) l0 ?_
          refine i_250_293 (v := Value.ref 155) hR.c128 rfl ?_
          refine i_250_296 ?_
          refine i_250_298 (v := Value.int (Int32.ofInt T)) (hR.row a155) (ix0 (T := 16) (by omega) (by omega)) (ix1 (T := 16) (by omega) (by omega) (by omega)) (ra (T := 16) (by omega) (by omega) g155) ?_
          refine i_250_299 ?_
          refine i_250_302 (c := Int32.ofInt (T + 1022)) (o_add T 1022) ?_
          refine i_250_303 (c := Int64.ofInt (T + 1022)) (q_i2l (a := T + 1022) ⟨by omega, by omega⟩) ?_
          refine i_250_304 ?_
          refine i_250_306 (c := Int64.ofInt ((T + 1022) * 4503599627370496)) (q_shlZ (q := 52) rfl (by decide)) ?_
          refine i_250_307 (c := Int64.ofInt (sb + ((T + 1022) * 4503599627370496))) (q_orS (x := (T + 1022) * 4503599627370496) hsv (by omega) (by omega)) ?_
          refine i_250_308 (x := Int64.ofInt (m9 : Int)) l9 ?_
          refine i_250_310 ?_
          refine i_250_313 (c := Int64.ofInt ((m9 : Int) % 4503599627370496)) (q_mask52 (m9 : Int)) ?_
          refine i_250_314 (c := Int64.ofInt ((sb + ((T + 1022) * 4503599627370496)) + ((m9 : Int) % 4503599627370496))) (q_or52b (by omega) (by omega) (by omega) (by omega) (by omega)) ?_
          refine i_250_315 ?_
          have eo : sTd S V r.toNat mode = (sb + ((T + 1022) * 4503599627370496)) + ((m9 : Int) % 4503599627370496) := by
            rw [hTd]
            unfold dbl
            rw [if_neg (by omega), ← hsb, if_neg (by omega), if_neg (by omega), if_neg (by omega), Int.natCast_emod, ← Int.add_assoc]; rfl
          rw [eo]
          have hmD : mD S (u2 (u2 (u2 (u2 S9 128 17 (S 128 17)) 128 18 (S 128 18)) 128 20 (S 128 20)) 128 19 (S 128 19)) V V9 := by
            refine ⟨fun a j hj => ?_, fun k k1 k2 => (hid.o hg6 k (by omega) (by omega) (by omega) (by omega) k2).trans ?_⟩
            · simp only [u2_e]
              by_cases c19 : a = 128 ∧ j = 19
              · rw [if_pos c19, c19.1, c19.2]
              · rw [if_neg c19]
                by_cases c20 : a = 128 ∧ j = 20
                · rw [if_pos c20, c20.1, c20.2]
                · rw [if_neg c20]
                  by_cases c18 : a = 128 ∧ j = 18
                  · rw [if_pos c18, c18.1, c18.2]
                  · rw [if_neg c18]
                    by_cases c17 : a = 128 ∧ j = 17
                    · rw [if_pos c17, c17.1, c17.2]
                    · rw [if_neg c17, hid.o hg5 a j (by omega) (by omega) (by omega) c19]
                      simp only [u2_e]
                      rw [if_neg (by omega), if_neg c20, if_neg c18, if_neg c17]
            · exact uv_n (by omega)
          exact ⟨rfl, _, _, hR, hmD⟩
        · refine i_250_274 (x := Int64.ofInt sv) l3 ?_
          refine i_250_275 (x := Int64.ofInt (m9 : Int)) l9 ?_
          refine i_250_277 ?_
          refine i_250_280 (x := 128) l0 ?_
          refine i_250_281 (v := Value.ref 155) hR.c128 rfl ?_
          refine i_250_284 ?_
          refine i_250_286 (v := Value.int (Int32.ofInt T)) (hR.row a155) (ix0 (T := 16) (by omega) (by omega)) (ix1 (T := 16) (by omega) (by omega) (by omega)) (ra (T := 16) (by omega) (by omega) g155) ?_
          refine i_250_287 (c := Int32.ofInt (-1021 - T)) (by rw [show (-1021 : Int32) = Int32.ofInt (-1021) by decide]; exact o_sub (-1021) T) ?_
          obtain ⟨D9, hD9⟩ : ∃ D9, m9 / 2 ^ (-1021 - T).toNat = D9 := ⟨_, rfl⟩
          have hdv : D9 ≤ m9 := by rw [← hD9]; exact Nat.div_le_self _ _
          refine i_250_288 (c := Int64.ofInt (D9 : Int)) (by rw [← hD9, q_shr (n := (-1021 - T).toNat) (by rw [oI (by omega) (by omega)]; omega) (by omega) ⟨by omega, by omega⟩, Int.natCast_ediv, Int.natCast_pow]; rfl) ?_
          refine i_250_289 (c := Int64.ofInt (sb + (D9 : Int))) (q_orS (x := (D9 : Int)) hsv (by omega) (by omega)) ?_
          refine i_250_290 ?_
          have eo : sTd S V r.toNat mode = sb + (D9 : Int) := by
            rw [hTd]
            unfold dbl
            rw [if_neg (by omega), ← hsb, if_neg (by omega), if_neg (by omega), if_pos (by omega), hD9]
          rw [eo]
          have hmD : mD S (u2 (u2 (u2 (u2 S9 128 17 (S 128 17)) 128 18 (S 128 18)) 128 20 (S 128 20)) 128 19 (S 128 19)) V V9 := by
            refine ⟨fun a j hj => ?_, fun k k1 k2 => (hid.o hg6 k (by omega) (by omega) (by omega) (by omega) k2).trans ?_⟩
            · simp only [u2_e]
              by_cases c19 : a = 128 ∧ j = 19
              · rw [if_pos c19, c19.1, c19.2]
              · rw [if_neg c19]
                by_cases c20 : a = 128 ∧ j = 20
                · rw [if_pos c20, c20.1, c20.2]
                · rw [if_neg c20]
                  by_cases c18 : a = 128 ∧ j = 18
                  · rw [if_pos c18, c18.1, c18.2]
                  · rw [if_neg c18]
                    by_cases c17 : a = 128 ∧ j = 17
                    · rw [if_pos c17, c17.1, c17.2]
                    · rw [if_neg c17, hid.o hg5 a j (by omega) (by omega) (by omega) c19]
                      simp only [u2_e]
                      rw [if_neg (by omega), if_neg c20, if_neg c18, if_neg c17]
            · exact uv_n (by omega)
          exact ⟨rfl, _, _, hR, hmD⟩
      · refine i_250_192 (x := Int64.ofInt sv) l3 ?_
        refine i_250_193 (x := 128) l0 ?_
        refine i_250_194 (v := Value.ref 154) hR.c128 rfl ?_
        refine i_250_197 ?_
        refine i_250_199 (v := Value.int (Int32.ofInt (S9 154 16))) (hR.row a154) (ix0 (T := 16) (by omega) (by omega)) (ix1 (T := 16) (by omega) (by omega) (by omega)) (ra (T := 16) (by omega) (by omega) rfl) ?_
        refine i_250_200 ?_
        refine i_250_201 (b_ne (a := S9 154 16) (b := 1) ⟨by omega, by omega⟩ ⟨by decide, by decide⟩ fun c3 => ?_) (b_eq (a := S9 154 16) (b := 1) ⟨by omega, by omega⟩ ⟨by decide, by decide⟩ fun c3 => ?_)
        · refine i_250_210 ?_
          refine i_250_211 (c := Int64.ofInt (sb + 0)) (q_orS (x := 0) hsv (by decide) (by decide)) ?_
          refine i_250_212 ?_
          have eo : sTd S V r.toNat mode = sb + 0 := by
            rw [hTd]
            unfold dbl
            rw [if_neg (by omega), ← hsb, if_pos (by omega)]
          rw [eo]
          have hmD : mD S (u2 (u2 (u2 (u2 S9 128 17 (S 128 17)) 128 18 (S 128 18)) 128 20 (S 128 20)) 128 19 (S 128 19)) V V9 := by
            refine ⟨fun a j hj => ?_, fun k k1 k2 => (hid.o hg6 k (by omega) (by omega) (by omega) (by omega) k2).trans ?_⟩
            · simp only [u2_e]
              by_cases c19 : a = 128 ∧ j = 19
              · rw [if_pos c19, c19.1, c19.2]
              · rw [if_neg c19]
                by_cases c20 : a = 128 ∧ j = 20
                · rw [if_pos c20, c20.1, c20.2]
                · rw [if_neg c20]
                  by_cases c18 : a = 128 ∧ j = 18
                  · rw [if_pos c18, c18.1, c18.2]
                  · rw [if_neg c18]
                    by_cases c17 : a = 128 ∧ j = 17
                    · rw [if_pos c17, c17.1, c17.2]
                    · rw [if_neg c17, hid.o hg5 a j (by omega) (by omega) (by omega) c19]
                      simp only [u2_e]
                      rw [if_neg (by omega), if_neg c20, if_neg c18, if_neg c17]
            · exact uv_n (by omega)
          exact ⟨rfl, _, _, hR, hmD⟩
        · refine i_250_204 ?_
          refine i_250_207 ?_
          refine i_250_211 (c := Int64.ofInt (sb + 9218868437227405312)) (q_orS (x := 9218868437227405312) hsv (by decide) (by decide)) ?_
          refine i_250_212 ?_
          have eo : sTd S V r.toNat mode = sb + 9218868437227405312 := by
            rw [hTd]
            unfold dbl
            rw [if_neg (by omega), ← hsb, if_neg (by omega), if_pos (by omega)]
          rw [eo]
          have hmD : mD S (u2 (u2 (u2 (u2 S9 128 17 (S 128 17)) 128 18 (S 128 18)) 128 20 (S 128 20)) 128 19 (S 128 19)) V V9 := by
            refine ⟨fun a j hj => ?_, fun k k1 k2 => (hid.o hg6 k (by omega) (by omega) (by omega) (by omega) k2).trans ?_⟩
            · simp only [u2_e]
              by_cases c19 : a = 128 ∧ j = 19
              · rw [if_pos c19, c19.1, c19.2]
              · rw [if_neg c19]
                by_cases c20 : a = 128 ∧ j = 20
                · rw [if_pos c20, c20.1, c20.2]
                · rw [if_neg c20]
                  by_cases c18 : a = 128 ∧ j = 18
                  · rw [if_pos c18, c18.1, c18.2]
                  · rw [if_neg c18]
                    by_cases c17 : a = 128 ∧ j = 17
                    · rw [if_pos c17, c17.1, c17.2]
                    · rw [if_neg c17, hid.o hg5 a j (by omega) (by omega) (by omega) c19]
                      simp only [u2_e]
                      rw [if_neg (by omega), if_neg c20, if_neg c18, if_neg c17]
            · exact uv_n (by omega)
          exact ⟨rfl, _, _, hR, hmD⟩
    · refine i_250_48 (x := Int64.ofInt sv) l3 ?_
      refine i_250_49 (x := 128) l0 ?_
      refine i_250_50 (v := Value.ref 154) hR.c128 rfl ?_
      refine i_250_53 (x := Int32.ofInt r) l1 ?_
      refine i_250_54 (v := Value.int (Int32.ofInt (S 154 ((r).toNat)))) (hR.row a154) (ix0 (T := r) (by omega) (by omega)) (ix1 (T := r) (by omega) (by omega) (by omega)) (ra (T := r) (by omega) (by omega) rfl) ?_
      refine i_250_55 ?_
      refine i_250_56 (b_ne (a := S 154 ((r).toNat)) (b := 1) ⟨by omega, by omega⟩ ⟨by decide, by decide⟩ fun c4 => ?_) (b_eq (a := S 154 ((r).toNat)) (b := 1) ⟨by omega, by omega⟩ ⟨by decide, by decide⟩ fun c4 => ?_)
      · refine i_250_65 ?_
        refine i_250_66 (c := Int64.ofInt (sb + 0)) (q_orS (x := 0) hsv (by decide) (by decide)) ?_
        refine i_250_67 ?_
        have eo : sTd S V r.toNat mode = sb + 0 := by
          unfold sTd dbl
          rw [if_pos (by omega), if_neg (by omega), ← hsb, if_pos (by omega)]
        rw [eo]
        exact ⟨rfl, _, _, hR, fun _ _ _ => rfl, fun _ _ _ => rfl⟩
      · refine i_250_59 ?_
        refine i_250_62 ?_
        refine i_250_66 (c := Int64.ofInt (sb + 9218868437227405312)) (q_orS (x := 9218868437227405312) hsv (by decide) (by decide)) ?_
        refine i_250_67 ?_
        have eo : sTd S V r.toNat mode = sb + 9218868437227405312 := by
          unfold sTd dbl
          rw [if_pos (by omega), if_neg (by omega), ← hsb, if_neg (by omega), if_pos (by omega)]
        rw [eo]
        exact ⟨rfl, _, _, hR, fun _ _ _ => rfl, fun _ _ _ => rfl⟩
  · refine i_250_34 ?_
    refine i_250_37 ?_
    have eo : sTd S V r.toNat mode = 9221120237041090560 := by
      unfold sTd dbl
      rw [if_pos (by omega), if_pos (by omega)]
    rw [eo]
    exact ⟨rfl, _, _, hR, fun _ _ _ => rfl, fun _ _ _ => rfl⟩
theorem s_tod (hR : mR w0 S V w) (hI : mI S V) (hr : 0 ≤ r ∧ r ≤ 15) (hmo : 0 ≤ mode ∧ mode ≤ 4) : ∃ w', xRun (d + 8) 250 [Value.ref 128, Value.int (Int32.ofInt r), Value.int (Int32.ofInt mode)] w (.inl (some (.long (Int64.ofInt (sTd S V r.toNat mode))))) w' ∧ ∃ S' V', mR w0 S' V' w' ∧ mD S S' V V' := by
  obtain ⟨hp_r, hk_r, hn_r, ht_r, hx_r, -⟩ := hI.1 r.toNat (by omega)
  have hi_l := hI.2.1
  have hi_g := hI.2.2.1
  have hi_f := hI.2.2.2
  have key : xEv (d + 8) 250 0 (lv_args 0 [Value.ref 128, Value.int (Int32.ofInt r), Value.int (Int32.ofInt mode)]) [] w (fun o w' => o = .inl (some (.long (Int64.ofInt (sTd S V r.toNat mode)))) ∧ ∃ S' V', mR w0 S' V' w' ∧ mD S S' V V') := by
    refine i_250_0 (x := Int32.ofInt r) rfl ?_
    have hrun := s_reg1 (d := d + 5) (w := w) (r := r) (by omega) (by omega)
    refine i_250_1 (Nat.le_of_ble_eq_true rfl) hrun ?_
    refine i_250_4 (x := Int32.ofInt mode) rfl ?_
    have hrun := s_mode1 (d := d + 5) (w := w) (r := mode) (by omega) (by omega)
    refine i_250_5 (Nat.le_of_ble_eq_true rfl) hrun ?_
    refine i_250_8 (x := 128) rfl ?_
    refine i_250_9 (v := Value.ref 156) hR.c128 rfl ?_
    refine i_250_12 (x := Int32.ofInt r) rfl ?_
    refine i_250_13z (v := Value.int (Int32.ofInt (S 156 ((r).toNat)))) (hR.row a156) (ix0 (T := r) (by omega) (by omega)) (ix1 (T := r) (by omega) (by omega) (by omega)) (ra (T := r) (by omega) (by omega) rfl) ?_
    refine i_250_14 (z_eq (a := S 156 ((r).toNat)) ⟨by omega, by omega⟩ fun c0 => ?_) (z_ne (a := S 156 ((r).toNat)) ⟨by omega, by omega⟩ fun c0 => ?_)
    · refine i_250_23 ?_
      refine i_250_24 (lv2 := [(3, Value.long 0), (0, Value.ref 128), (1, Value.int (Int32.ofInt r)), (2, Value.int (Int32.ofInt mode))]) rfl ?_
      exact td_A (sv := 0) (sb := 0) hR hI hr hmo (Or.inl ⟨rfl, rfl⟩) (by rw [if_pos (by omega)]) rfl rfl rfl rfl
    · refine i_250_17 ?_
      refine i_250_20 ?_
      refine i_250_24 (lv2 := [(3, Value.long (-9223372036854775808)), (0, Value.ref 128), (1, Value.int (Int32.ofInt r)), (2, Value.int (Int32.ofInt mode))]) rfl ?_
      exact td_A (sv := -9223372036854775808) (sb := 9223372036854775808) hR hI hr hmo (Or.inr ⟨rfl, rfl⟩) (by rw [if_neg (by omega)]) rfl rfl rfl rfl
  obtain ⟨o, w', h1, rfl, h2⟩ := key.run
  exact ⟨w', h1, h2⟩
theorem b_tod {d : Nat} {w : xW} {r mode : Int} (b_r : -2147483648 ≤ r ∧ r < 2147483648) (b_mode : -2147483648 ≤ mode ∧ mode < 2147483648) (h : ¬ ((0 ≤ r ∧ r ≤ 15) ∧ (0 ≤ mode ∧ mode ≤ 4))) : xRun (d + 8) 250 [Value.ref 128, Value.int (Int32.ofInt r), Value.int (Int32.ofInt mode)] w (.inr w.length) (w ++ [.inr (14, [])]) := by
  refine xRun.of ?_
  refine i_250_0 (x := Int32.ofInt r) rfl ?_
  rcases Classical.em (0 ≤ r ∧ r ≤ 15) with hc1 | hc1
  · have hrun := s_reg1 (d := d + 5) (w := w) (r := r) (by omega) hc1
    refine i_250_1 (Nat.le_of_ble_eq_true rfl) hrun ?_
    refine i_250_4 (x := Int32.ofInt mode) rfl ?_
    rcases Classical.em (0 ≤ mode ∧ mode ≤ 4) with hc2 | hc2
    · have hrun := s_mode1 (d := d + 5) (w := w) (r := mode) (by omega) hc2
      refine i_250_5 (Nat.le_of_ble_eq_true rfl) hrun ?_
      exfalso; omega
    · have hrun := s_mode0 (d := d) (w := w) (r := mode) (by omega) hc2
      refine j_250_5 (Nat.le_of_ble_eq_true rfl) hrun (xDone.t (ci := 14) xgl rfl rfl ?_)
      exact ⟨rfl, rfl⟩
  · have hrun := s_reg0 (d := d) (w := w) (r := r) (by omega) hc1
    refine j_250_1 (Nat.le_of_ble_eq_true rfl) hrun (xDone.t (ci := 14) xgl rfl rfl ?_)
    exact ⟨rfl, rfl⟩
end
