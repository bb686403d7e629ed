/-! toLong of the reference -/
theorem mR.bl {w0 w : xW} {S : Nat → Nat → Int} {V : Nat → Nat} {h v : Nat} (hR : mR w0 S V w) (hh : isN h) (hv : V h = v) : xbl v ≤ 141000 := by
  obtain ⟨n, g, e1, e2, e3, e4, e5, e6⟩ := hR.2.2.2.2 h hh
  have h1 := xbl_le (xvl_lt e4)
  have h2 : ncap h ≤ 4700 := by unfold ncap; split <;> omega
  rw [e5, hv] at h1
  omega
def tlX (S : Nat → Nat → Int) (V : Nat → Nat) (r : Nat) (mode : Int) : Nat :=
  if S 155 r - S 153 r < 0 then V (160 + 2 * r) / 2 ^ (-(S 155 r - S 153 r)).toNat + (bb (gU (V (160 + 2 * r)) (-(S 155 r - S 153 r)) 0 (S 156 r) mode (bb (nbit (V (160 + 2 * r)) (-(S 155 r - S 153 r)))))).toNat
  else V (160 + 2 * r) * 2 ^ (S 155 r - S 153 r).toNat
def tlOk (S : Nat → Nat → Int) (V : Nat → Nat) (r : Nat) (mode : Int) : Prop := xbl (tlX S V r mode) ≤ 63 ∨ (S 156 r ≠ 0 ∧ xbl (tlX S V r mode) = 64 ∧ nany (tlX S V r mode) 63 = false)
theorem tl_loop {d : Nat} {w0 w : xW} {S : Nat → Nat → Int} {V : Nat → Nat} {r : Int} {Q : Option Value ⊕ Nat → xW → Prop} (hR : mR w0 S V w) (hQ : ∀ lv, xld lv 0 = some (Value.ref 128) → xld lv 1 = some (Value.int (Int32.ofInt r)) → xld lv 5 = some (Value.long (Int64.ofInt ((V 129 / 2 ^ (0 + 0) % 2 ^ (64 - 0) : Nat) : Int))) → xEv (d + 3) 252 267 lv [] w Q) (j : Nat) : ∀ lv, j ≤ 64 → xld lv 0 = some (Value.ref 128) → xld lv 1 = some (Value.int (Int32.ofInt r)) → xld lv 7 = some (Value.int (Int32.ofInt ((j : Int) - 1))) → xld lv 5 = some (Value.long (Int64.ofInt ((V 129 / 2 ^ (0 + j) % 2 ^ (64 - j) : Nat) : Int))) → xEv (d + 3) 252 229 lv [] w Q := by
  induction j with
  | zero =>
    intro lv hj l0 l1 l7 l5
    refine i_252_229 (x := Int32.ofInt (((0 : Nat) : Int) - 1)) l7 ?_
    refine i_252_231 (z_lt (a := ((0 : Nat) : Int) - 1) ⟨by omega, by omega⟩ fun c0 => ?_) (z_ge (a := ((0 : Nat) : Int) - 1) ⟨by omega, by omega⟩ fun c0 => absurd c0 (by omega))
    exact hQ _ l0 l1 l5
  | succ j ih =>
    intro lv hj l0 l1 l7 l5
    rw [show ((j + 1 : Nat) : Int) - 1 = (j : Int) by omega] at l7
    refine i_252_229 (x := Int32.ofInt (j : Int)) l7 ?_
    refine i_252_231 (z_lt (a := (j : Int)) ⟨by omega, by omega⟩ fun c0 => absurd c0 (by omega)) (z_ge (a := (j : Int)) ⟨by omega, by omega⟩ fun c0 => ?_)
    refine i_252_234 ?_
    refine i_252_237 (x := Int64.ofInt ((V 129 / 2 ^ (0 + (j + 1)) % 2 ^ (64 - (j + 1)) : Nat) : Int)) l5 ?_
    refine i_252_239 (c := Int64.ofInt (2 * ((V 129 / 2 ^ (0 + (j + 1)) % 2 ^ (64 - (j + 1)) : Nat) : Int))) (q_mul 2 ((V 129 / 2 ^ (0 + (j + 1)) % 2 ^ (64 - (j + 1)) : Nat) : Int)) ?_
    refine i_252_240 (x := 128) l0 ?_
    refine i_252_241 (v := Value.ref 129) hR.c128 rfl ?_
    refine i_252_244 (x := Int32.ofInt (j : Int)) l7 ?_
    obtain ⟨fs, hobj⟩ := hR.obj (h := 129) (iNw (h := 129) (by decide) (by decide) (by decide))
    have hrun := r_bit (d := d) (v := V 129) (k := (j : Int)) hR (iNw (h := 129) (by decide) (by decide) (by decide)) (rfl) (by omega) (by omega)
    obtain ⟨b2, hbb⟩ : ∃ b, nbit (V 129) ((0 + j : Nat) : Int) = b := ⟨_, rfl⟩
    rw [show nbit (V 129) ((j : Int)) = b2 by rw [← hbb]; congr 1; omega] at hrun
    refine i_252_246 hobj (Nat.le_of_ble_eq_true rfl) hrun ?_
    refine i_252_249 (zb_f fun c2 => ?_) (zb_t fun c2 => ?_)
    · refine i_252_256 ?_
      refine i_252_257 (c := Int64.ofInt 0) rfl ?_
      refine i_252_258 (c := Int64.ofInt ((2 * ((V 129 / 2 ^ (0 + (j + 1)) % 2 ^ (64 - (j + 1)) : Nat) : Int)) + 0)) (q_add (2 * ((V 129 / 2 ^ (0 + (j + 1)) % 2 ^ (64 - (j + 1)) : Nat) : Int)) 0) ?_
      refine i_252_259 rfl ?_
      refine lgen2 (i := 5) (v := Value.long (Int64.ofInt ((2 * ((V 129 / 2 ^ (0 + (j + 1)) % 2 ^ (64 - (j + 1)) : Nat) : Int)) + 0))) (fun lv lg ls => ?_)
      replace l0 := lg 0 _ rfl rfl l0
      replace l1 := lg 1 _ rfl rfl l1
      replace l7 := lg 7 _ rfl rfl l7
      have l5 := ls
      refine i_252_261 (x := (Int32.ofInt (j : Int))) (c := (Int32.ofInt ((j : Int) + (-1)))) l7 (o_dec (j : Int)) rfl ?_
      refine lgen1 (i := 7) (v := Value.int (Int32.ofInt ((j : Int) + (-1)))) (fun lv lg ls => ?_)
      replace l5 := lg 5 _ rfl rfl l5
      replace l0 := lg 0 _ rfl rfl l0
      replace l1 := lg 1 _ rfl rfl l1
      have l7 := ls
      refine i_252_264 ?_
      have hs := bits_step (M := V 129) (b := 0) (j := j) (n := 64 - (j + 1))
      rw [show 64 - (j + 1) + 1 = 64 - j by omega] at hs
      have hb := nbit_v (M := V 129) (k := 0 + j)
      refine ih _ (by omega) l0 l1 l7 ?_
      rw [hs]
      have e : (2 * ((V 129 / 2 ^ (0 + (j + 1)) % 2 ^ (64 - (j + 1)) : Nat) : Int)) + 0 = ((2 * (V 129 / 2 ^ (0 + (j + 1)) % 2 ^ (64 - (j + 1))) + V 129 / 2 ^ (0 + j) % 2 : Nat) : Int) := by rw [Int.natCast_add, Int.natCast_mul, ← hb, hbb, show b2 = false by assumption]; rfl
      rw [← e]; exact l5
    · refine i_252_252 ?_
      refine i_252_253 ?_
      refine i_252_257 (c := Int64.ofInt 1) rfl ?_
      refine i_252_258 (c := Int64.ofInt ((2 * ((V 129 / 2 ^ (0 + (j + 1)) % 2 ^ (64 - (j + 1)) : Nat) : Int)) + 1)) (q_add (2 * ((V 129 / 2 ^ (0 + (j + 1)) % 2 ^ (64 - (j + 1)) : Nat) : Int)) 1) ?_
      refine i_252_259 rfl ?_
      refine lgen2 (i := 5) (v := Value.long (Int64.ofInt ((2 * ((V 129 / 2 ^ (0 + (j + 1)) % 2 ^ (64 - (j + 1)) : Nat) : Int)) + 1))) (fun lv lg ls => ?_)
      replace l0 := lg 0 _ rfl rfl l0
      replace l1 := lg 1 _ rfl rfl l1
      replace l7 := lg 7 _ rfl rfl l7
      have l5 := ls
      refine i_252_261 (x := (Int32.ofInt (j : Int))) (c := (Int32.ofInt ((j : Int) + (-1)))) l7 (o_dec (j : Int)) rfl ?_
      refine lgen1 (i := 7) (v := Value.int (Int32.ofInt ((j : Int) + (-1)))) (fun lv lg ls => ?_)
      replace l5 := lg 5 _ rfl rfl l5
      replace l0 := lg 0 _ rfl rfl l0
      replace l1 := lg 1 _ rfl rfl l1
      have l7 := ls
      refine i_252_264 ?_
      have hs := bits_step (M := V 129) (b := 0) (j := j) (n := 64 - (j + 1))
      rw [show 64 - (j + 1) + 1 = 64 - j by omega] at hs
      have hb := nbit_v (M := V 129) (k := 0 + j)
      refine ih _ (by omega) l0 l1 l7 ?_
      rw [hs]
      have e : (2 * ((V 129 / 2 ^ (0 + (j + 1)) % 2 ^ (64 - (j + 1)) : Nat) : Int)) + 1 = ((2 * (V 129 / 2 ^ (0 + (j + 1)) % 2 ^ (64 - (j + 1))) + V 129 / 2 ^ (0 + j) % 2 : Nat) : Int) := by rw [Int.natCast_add, Int.natCast_mul, ← hb, hbb, show b2 = true by assumption]; rfl
      rw [← e]; exact l5
set_option maxHeartbeats 8000000 in
theorem s_tol {d : Nat} {w0 w : xW} {S : Nat → Nat → Int} {V : Nat → Nat} {r mode : Int} (hR : mR w0 S V w) (hI : mI S V) (hr : 0 ≤ r ∧ r ≤ 15) (hmo : 0 ≤ mode ∧ mode ≤ 4) (hok : S 154 r.toNat = 2 ∨ (S 154 r.toNat = 3 ∧ S 155 r.toNat ≤ 64 ∧ hid (tlOk S V r.toNat mode))) : ∃ w', xRun (d + 8) 252 [Value.ref 128, Value.int (Int32.ofInt r), Value.int (Int32.ofInt mode)] w (.inl (some (.long (Int64.ofInt (if S 154 r.toNat = 2 then (0 : Int) else if S 156 r.toNat = 0 then ((tlX S V r.toNat mode % 2 ^ 64 : Nat) : Int) else -((tlX S V r.toNat mode % 2 ^ 64 : Nat) : Int)))))) w' ∧ ∃ V', mR w0 S V' w' ∧ nV V V' := by
  obtain ⟨hp_r, hk_r, hn_r, ht_r, hx_r, -⟩ := hI.1 r.toNat (by omega)
  have key : xEv (d + 8) 252 0 (lv_args 0 [Value.ref 128, Value.int (Int32.ofInt r), Value.int (Int32.ofInt mode)]) [] w (fun o w' => o = .inl (some (.long (Int64.ofInt (if S 154 r.toNat = 2 then (0 : Int) else if S 156 r.toNat = 0 then ((tlX S V r.toNat mode % 2 ^ 64 : Nat) : Int) else -((tlX S V r.toNat mode % 2 ^ 64 : Nat) : Int))))) ∧ ∃ V', mR w0 S V' w' ∧ nV V V') := by
    refine i_252_0 (x := Int32.ofInt r) rfl ?_
    have hrun := s_reg1 (d := d + 5) (w := w) (r := r) (by omega) (by omega)
    refine i_252_1 (Nat.le_of_ble_eq_true rfl) hrun ?_
    refine i_252_4 (x := Int32.ofInt mode) rfl ?_
    have hrun := s_mode1 (d := d + 5) (w := w) (r := mode) (by omega) (by omega)
    refine i_252_5 (Nat.le_of_ble_eq_true rfl) hrun ?_
    refine i_252_8 (x := 128) rfl ?_
    refine i_252_9 (x := 128) rfl ?_
    refine i_252_10 (v := Value.ref 154) hR.c128 rfl ?_
    refine i_252_13 (x := Int32.ofInt r) rfl ?_
    refine i_252_14 (v := Value.int (Int32.ofInt (S 154 ((r).toNat)))) (hR.row a154) (ix0 (T := r) (by omega) (by omega)) (ix1 (T := r) (by omega) (by omega) (by omega)) (ra (T := r) (by omega) (by omega) rfl) ?_
    refine i_252_15 (z_eq (a := S 154 ((r).toNat)) ⟨by omega, by omega⟩ fun c0 => ?_) (z_ne (a := S 154 ((r).toNat)) ⟨by omega, by omega⟩ fun c0 => ?_)
    · refine i_252_28 ?_
      refine i_252_29 ?_
      have hobj := hR.c128
      obtain ⟨w, hrun, hR⟩ := s_dis1 (d := d + 1) hR
      refine j_252_33 hobj (Nat.le_of_ble_eq_true rfl) hrun (xDone.t (ci := 15) xgl rfl rfl ?_)
      exfalso; omega
    · refine i_252_18 (x := 128) rfl ?_
      refine i_252_19 (v := Value.ref 154) hR.c128 rfl ?_
      refine i_252_22 (x := Int32.ofInt r) rfl ?_
      refine i_252_23 (v := Value.int (Int32.ofInt (S 154 ((r).toNat)))) (hR.row a154) (ix0 (T := r) (by omega) (by omega)) (ix1 (T := r) (by omega) (by omega) (by omega)) (ra (T := r) (by omega) (by omega) rfl) ?_
      refine i_252_24 ?_
      refine i_252_25 (b_ne (a := S 154 ((r).toNat)) (b := 1) ⟨by omega, by omega⟩ ⟨by decide, by decide⟩ fun c1 => ?_) (b_eq (a := S 154 ((r).toNat)) (b := 1) ⟨by omega, by omega⟩ ⟨by decide, by decide⟩ fun c1 => ?_)
      · refine i_252_32 ?_
        have hobj := hR.c128
        have hrun := s_dis0 (d := d + 6) (w := w)
        refine i_252_33 hobj (Nat.le_of_ble_eq_true rfl) hrun ?_
        refine i_252_36 (x := 128) rfl ?_
        refine i_252_37 (v := Value.ref 154) hR.c128 rfl ?_
        refine i_252_40 (x := Int32.ofInt r) rfl ?_
        refine i_252_41 (v := Value.int (Int32.ofInt (S 154 ((r).toNat)))) (hR.row a154) (ix0 (T := r) (by omega) (by omega)) (ix1 (T := r) (by omega) (by omega) (by omega)) (ra (T := r) (by omega) (by omega) rfl) ?_
        refine i_252_42 ?_
        refine i_252_43 (b_ne (a := S 154 ((r).toNat)) (b := 2) ⟨by omega, by omega⟩ ⟨by decide, by decide⟩ fun c2 => ?_) (b_eq (a := S 154 ((r).toNat)) (b := 2) ⟨by omega, by omega⟩ ⟨by decide, by decide⟩ fun c2 => ?_)
        · refine i_252_48 (x := 128) rfl ?_
          refine i_252_49 (x := 128) rfl ?_
          refine i_252_50 (v := Value.ref 155) hR.c128 rfl ?_
          refine i_252_53 (x := Int32.ofInt r) rfl ?_
          refine i_252_54 (v := Value.int (Int32.ofInt (S 155 ((r).toNat)))) (hR.row a155) (ix0 (T := r) (by omega) (by omega)) (ix1 (T := r) (by omega) (by omega) (by omega)) (ra (T := r) (by omega) (by omega) rfl) ?_
          refine i_252_55 ?_
          refine i_252_57 (b_le (a := S 155 ((r).toNat)) (b := 64) ⟨by omega, by omega⟩ ⟨by decide, by decide⟩ fun c3 => ?_) (b_lt (a := 64) (b := S 155 ((r).toNat)) ⟨by decide, by decide⟩ ⟨by omega, by omega⟩ fun c3 => ?_)
          · refine i_252_64 ?_
            have hobj := hR.c128
            have hrun := s_dis0 (d := d + 6) (w := w)
            refine i_252_65 hobj (Nat.le_of_ble_eq_true rfl) hrun ?_
            refine i_252_68 (x := 128) rfl ?_
            refine i_252_69 (x := Int32.ofInt r) rfl ?_
            have hobj := hR.c128
            obtain ⟨w, hrun, hR⟩ := s_exponent (d := d + 6) (r := r) hR (by omega) (by omega)
            refine i_252_70 hobj (Nat.le_of_ble_eq_true rfl) hrun ?_
            refine i_252_73 (lv2 := [(3, Value.int (Int32.ofInt (S 155 r.toNat - S 153 r.toNat))), (0, Value.ref 128), (1, Value.int (Int32.ofInt r)), (2, Value.int (Int32.ofInt mode))]) rfl ?_
            refine i_252_74 (x := 128) rfl ?_
            refine i_252_75 (v := Value.ref 129) hR.c128 rfl ?_
            refine i_252_78 (x := 128) rfl ?_
            refine i_252_79 (v := Value.ref 157) hR.c128 rfl ?_
            refine i_252_82 (x := Int32.ofInt r) rfl ?_
            obtain ⟨gp, hgp, hgr⟩ := hR.part (j := (r).toNat) (by omega)
            refine i_252_83 (v := Value.ref (160 + 2 * r.toNat)) hgp (ix0 (by omega) (by omega)) (ix1 (by omega) (by omega) (by omega)) (by rw [ixn (by omega) (by omega)]; exact hgr) ?_
            obtain ⟨fs, hobj⟩ := hR.obj (h := 129) (iNw (h := 129) (by decide) (by decide) (by decide))
            obtain ⟨w, hrun, hR⟩ := r_setn (d := d + 5) (v := V (160 + 2 * r.toNat)) (c := 4700) hR (iNw (h := 129) (by decide) (by decide) (by decide)) (iNp (r := r) (by omega) (by omega)) (rfl) rfl (by first | omega | (rw [xbl_div]; omega))
            refine i_252_84 hobj (Nat.le_of_ble_eq_true rfl) hrun ?_
            refine i_252_87 (x := Int32.ofInt (S 155 r.toNat - S 153 r.toNat)) rfl ?_
            refine i_252_88 (z_ge (a := S 155 r.toNat - S 153 r.toNat) ⟨by omega, by omega⟩ fun c4 => ?_) (z_lt (a := S 155 r.toNat - S 153 r.toNat) ⟨by omega, by omega⟩ fun c4 => ?_)
            · refine i_252_148 (x := 128) rfl ?_
              refine i_252_149 (v := Value.ref 129) hR.c128 rfl ?_
              refine i_252_152 (x := Int32.ofInt (S 155 r.toNat - S 153 r.toNat)) rfl ?_
              obtain ⟨fs, hobj⟩ := hR.obj (h := 129) (iNw (h := 129) (by decide) (by decide) (by decide))
              obtain ⟨w, hrun, hR⟩ := r_up (d := d + 5) (v := V (160 + 2 * r.toNat)) (c := 4700) (k := S 155 r.toNat - S 153 r.toNat) hR (iNw (h := 129) (by decide) (by decide) (by decide)) (uv_s) rfl (by omega) (by first | omega | (rw [xbl_div]; omega))
              rw [uvv] at hR
              refine i_252_153 hobj (Nat.le_of_ble_eq_true rfl) hrun ?_
              refine i_252_156 (x := 128) rfl ?_
              refine i_252_157 (v := Value.ref 156) hR.c128 rfl ?_
              refine i_252_160 (x := Int32.ofInt r) rfl ?_
              refine i_252_161z (v := Value.int (Int32.ofInt (S 156 ((r).toNat)))) (hR.row a156) (ix0 (T := r) (by omega) (by omega)) (ix1 (T := r) (by omega) (by omega) (by omega)) (ra (T := r) (by omega) (by omega) rfl) ?_
              refine i_252_162 (z_eq (a := S 156 ((r).toNat)) ⟨by omega, by omega⟩ fun c5 => ?_) (z_ne (a := S 156 ((r).toNat)) ⟨by omega, by omega⟩ fun c5 => ?_)
              · refine i_252_193 ?_
                refine i_252_194 (lv2 := [(4, Value.int 0), (3, Value.int (Int32.ofInt (S 155 r.toNat - S 153 r.toNat))), (0, Value.ref 128), (1, Value.int (Int32.ofInt r)), (2, Value.int (Int32.ofInt mode))]) rfl ?_
                refine i_252_196 (x := 128) rfl ?_
                refine i_252_197 (x := 128) rfl ?_
                refine i_252_198 (v := Value.ref 129) hR.c128 rfl ?_
                obtain ⟨fs, hobj⟩ := hR.obj (h := 129) (iNw (h := 129) (by decide) (by decide) (by decide))
                have hbl7 : xbl ((V (160 + 2 * r.toNat)) * 2 ^ (S 155 r.toNat - S 153 r.toNat : Int).toNat) ≤ 141000 := hR.bl (iNw (h := 129) (by decide) (by decide) (by decide)) (uv_s)
                have hrun := r_bits (d := d + 5) (v := (V (160 + 2 * r.toNat)) * 2 ^ (S 155 r.toNat - S 153 r.toNat : Int).toNat) hR (iNw (h := 129) (by decide) (by decide) (by decide)) (uv_s)
                refine i_252_201 hobj (Nat.le_of_ble_eq_true rfl) hrun ?_
                refine i_252_204 ?_
                refine i_252_206 (b_le (a := (xbl ((V (160 + 2 * r.toNat)) * 2 ^ (S 155 r.toNat - S 153 r.toNat : Int).toNat) : Int)) (b := 63) ⟨by omega, by omega⟩ ⟨by decide, by decide⟩ fun c7 => ?_) (b_lt (a := 63) (b := (xbl ((V (160 + 2 * r.toNat)) * 2 ^ (S 155 r.toNat - S 153 r.toNat : Int).toNat) : Int)) ⟨by decide, by decide⟩ ⟨by omega, by omega⟩ fun c7 => ?_)
                · refine i_252_218 ?_
                  have hobj := hR.c128
                  have hrun := s_dis0 (d := d + 6) (w := w)
                  refine i_252_219 hobj (Nat.le_of_ble_eq_true rfl) hrun ?_
                  refine i_252_222 ?_
                  refine i_252_223 (lv2 := [(5, Value.long 0), (4, Value.int 0), (3, Value.int (Int32.ofInt (S 155 r.toNat - S 153 r.toNat))), (0, Value.ref 128), (1, Value.int (Int32.ofInt r)), (2, Value.int (Int32.ofInt mode))]) rfl ?_
                  refine i_252_225 ?_
                  refine i_252_227 (lv2 := [(7, Value.int 63), (5, Value.long 0), (4, Value.int 0), (3, Value.int (Int32.ofInt (S 155 r.toNat - S 153 r.toNat))), (0, Value.ref 128), (1, Value.int (Int32.ofInt r)), (2, Value.int (Int32.ofInt mode))]) rfl ?_
                  have hX : tlX S V r.toNat mode = (V (160 + 2 * r.toNat)) * 2 ^ (S 155 r.toNat - S 153 r.toNat : Int).toNat := by unfold tlX; rw [if_neg (by omega)]
                  have hV9 : (uv V 129 ((V (160 + 2 * r.toNat)) * 2 ^ (S 155 r.toNat - S 153 r.toNat : Int).toNat)) 129 = tlX S V r.toNat mode := by rw [hX]; exact uv_s
                  refine tl_loop (d := d + 5) hR ?_ 64 _ (by omega) rfl rfl rfl (by rw [Nat.sub_self, Nat.pow_zero, Nat.mod_one]; rfl)
                  intro lv l0 l1 l5
                  rw [hV9, Nat.zero_add, Nat.pow_zero, Nat.div_one, Nat.sub_zero] at l5
                  refine i_252_267 (x := 128) l0 ?_
                  refine i_252_268 (v := Value.ref 156) hR.c128 rfl ?_
                  refine i_252_271 (x := Int32.ofInt r) l1 ?_
                  refine i_252_272z (v := Value.int (Int32.ofInt (S 156 ((r).toNat)))) (hR.row a156) (ix0 (T := r) (by omega) (by omega)) (ix1 (T := r) (by omega) (by omega) (by omega)) (ra (T := r) (by omega) (by omega) rfl) ?_
                  refine i_252_273 (z_eq (a := S 156 ((r).toNat)) ⟨by omega, by omega⟩ fun c0 => ?_) (z_ne (a := S 156 ((r).toNat)) ⟨by omega, by omega⟩ fun c0 => ?_)
                  · refine i_252_282 (x := Int64.ofInt ((tlX S V r.toNat mode % 2 ^ 64 : Nat) : Int)) l5 ?_
                    refine i_252_284 ?_
                    have e : (if S 154 r.toNat = 2 then (0 : Int) else if S 156 r.toNat = 0 then ((tlX S V r.toNat mode % 2 ^ 64 : Nat) : Int) else -((tlX S V r.toNat mode % 2 ^ 64 : Nat) : Int)) = ((tlX S V r.toNat mode % 2 ^ 64 : Nat) : Int) := by rw [if_neg (by omega)]; exact if_pos (by omega)
                    rw [e]
                    exact ⟨rfl, _, hR, (nV.up nV.refl (by omega))⟩
                  · refine i_252_276 (x := Int64.ofInt ((tlX S V r.toNat mode % 2 ^ 64 : Nat) : Int)) l5 ?_
                    refine i_252_278 (c := Int64.ofInt (-((tlX S V r.toNat mode % 2 ^ 64 : Nat) : Int))) (q_neg ((tlX S V r.toNat mode % 2 ^ 64 : Nat) : Int)) ?_
                    refine i_252_279 ?_
                    refine i_252_284 ?_
                    have e : (if S 154 r.toNat = 2 then (0 : Int) else if S 156 r.toNat = 0 then ((tlX S V r.toNat mode % 2 ^ 64 : Nat) : Int) else -((tlX S V r.toNat mode % 2 ^ 64 : Nat) : Int)) = -((tlX S V r.toNat mode % 2 ^ 64 : Nat) : Int) := by rw [if_neg (by omega)]; exact if_neg (by omega)
                    rw [e]
                    exact ⟨rfl, _, hR, (nV.up nV.refl (by omega))⟩
                · refine i_252_209 (x := 0) rfl ?_
                  refine i_252_211 (fun c => absurd c (by decide)) (fun _ => ?_)
                  refine i_252_214 ?_
                  refine i_252_215 ?_
                  have hobj := hR.c128
                  obtain ⟨w, hrun, hR⟩ := s_dis1 (d := d + 1) hR
                  refine j_252_219 hobj (Nat.le_of_ble_eq_true rfl) hrun (xDone.t (ci := 15) xgl rfl rfl ?_)
                  exfalso
                  have hX : tlX S V r.toNat mode = (V (160 + 2 * r.toNat)) * 2 ^ (S 155 r.toNat - S 153 r.toNat : Int).toNat := by unfold tlX; rw [if_neg (by omega)]
                  rcases hok with h | h
                  · omega
                  · unfold tlOk at h; rw [hX] at h; rcases h.2.2 with h | h
                    · omega
                    · first | omega | simp_all
              · refine i_252_165 (x := 128) rfl ?_
                refine i_252_166 (v := Value.ref 129) hR.c128 rfl ?_
                obtain ⟨fs, hobj⟩ := hR.obj (h := 129) (iNw (h := 129) (by decide) (by decide) (by decide))
                have hbl9 : xbl ((V (160 + 2 * r.toNat)) * 2 ^ (S 155 r.toNat - S 153 r.toNat : Int).toNat) ≤ 141000 := hR.bl (iNw (h := 129) (by decide) (by decide) (by decide)) (uv_s)
                have hrun := r_bits (d := d + 5) (v := (V (160 + 2 * r.toNat)) * 2 ^ (S 155 r.toNat - S 153 r.toNat : Int).toNat) hR (iNw (h := 129) (by decide) (by decide) (by decide)) (uv_s)
                refine i_252_169 hobj (Nat.le_of_ble_eq_true rfl) hrun ?_
                refine i_252_172 ?_
                refine i_252_174 (b_ne (a := (xbl ((V (160 + 2 * r.toNat)) * 2 ^ (S 155 r.toNat - S 153 r.toNat : Int).toNat) : Int)) (b := 64) ⟨by omega, by omega⟩ ⟨by decide, by decide⟩ fun c9 => ?_) (b_eq (a := (xbl ((V (160 + 2 * r.toNat)) * 2 ^ (S 155 r.toNat - S 153 r.toNat : Int).toNat) : Int)) (b := 64) ⟨by omega, by omega⟩ ⟨by decide, by decide⟩ fun c9 => ?_)
                · refine i_252_193 ?_
                  refine i_252_194 (lv2 := [(4, Value.int 0), (3, Value.int (Int32.ofInt (S 155 r.toNat - S 153 r.toNat))), (0, Value.ref 128), (1, Value.int (Int32.ofInt r)), (2, Value.int (Int32.ofInt mode))]) rfl ?_
                  refine i_252_196 (x := 128) rfl ?_
                  refine i_252_197 (x := 128) rfl ?_
                  refine i_252_198 (v := Value.ref 129) hR.c128 rfl ?_
                  obtain ⟨fs, hobj⟩ := hR.obj (h := 129) (iNw (h := 129) (by decide) (by decide) (by decide))
                  have hbl11 : xbl ((V (160 + 2 * r.toNat)) * 2 ^ (S 155 r.toNat - S 153 r.toNat : Int).toNat) ≤ 141000 := hR.bl (iNw (h := 129) (by decide) (by decide) (by decide)) (uv_s)
                  have hrun := r_bits (d := d + 5) (v := (V (160 + 2 * r.toNat)) * 2 ^ (S 155 r.toNat - S 153 r.toNat : Int).toNat) hR (iNw (h := 129) (by decide) (by decide) (by decide)) (uv_s)
                  refine i_252_201 hobj (Nat.le_of_ble_eq_true rfl) hrun ?_
                  refine i_252_204 ?_
                  refine i_252_206 (b_le (a := (xbl ((V (160 + 2 * r.toNat)) * 2 ^ (S 155 r.toNat - S 153 r.toNat : Int).toNat) : Int)) (b := 63) ⟨by omega, by omega⟩ ⟨by decide, by decide⟩ fun c11 => ?_) (b_lt (a := 63) (b := (xbl ((V (160 + 2 * r.toNat)) * 2 ^ (S 155 r.toNat - S 153 r.toNat : Int).toNat) : Int)) ⟨by decide, by decide⟩ ⟨by omega, by omega⟩ fun c11 => ?_)
                  · refine i_252_218 ?_
                    have hobj := hR.c128
                    have hrun := s_dis0 (d := d + 6) (w := w)
                    refine i_252_219 hobj (Nat.le_of_ble_eq_true rfl) hrun ?_
                    refine i_252_222 ?_
                    refine i_252_223 (lv2 := [(5, Value.long 0), (4, Value.int 0), (3, Value.int (Int32.ofInt (S 155 r.toNat - S 153 r.toNat))), (0, Value.ref 128), (1, Value.int (Int32.ofInt r)), (2, Value.int (Int32.ofInt mode))]) rfl ?_
                    refine i_252_225 ?_
                    refine i_252_227 (lv2 := [(7, Value.int 63), (5, Value.long 0), (4, Value.int 0), (3, Value.int (Int32.ofInt (S 155 r.toNat - S 153 r.toNat))), (0, Value.ref 128), (1, Value.int (Int32.ofInt r)), (2, Value.int (Int32.ofInt mode))]) rfl ?_
                    have hX : tlX S V r.toNat mode = (V (160 + 2 * r.toNat)) * 2 ^ (S 155 r.toNat - S 153 r.toNat : Int).toNat := by unfold tlX; rw [if_neg (by omega)]
                    have hV9 : (uv V 129 ((V (160 + 2 * r.toNat)) * 2 ^ (S 155 r.toNat - S 153 r.toNat : Int).toNat)) 129 = tlX S V r.toNat mode := by rw [hX]; exact uv_s
                    refine tl_loop (d := d + 5) hR ?_ 64 _ (by omega) rfl rfl rfl (by rw [Nat.sub_self, Nat.pow_zero, Nat.mod_one]; rfl)
                    intro lv l0 l1 l5
                    rw [hV9, Nat.zero_add, Nat.pow_zero, Nat.div_one, Nat.sub_zero] at l5
                    refine i_252_267 (x := 128) l0 ?_
                    refine i_252_268 (v := Value.ref 156) hR.c128 rfl ?_
                    refine i_252_271 (x := Int32.ofInt r) l1 ?_
                    refine i_252_272z (v := Value.int (Int32.ofInt (S 156 ((r).toNat)))) (hR.row a156) (ix0 (T := r) (by omega) (by omega)) (ix1 (T := r) (by omega) (by omega) (by omega)) (ra (T := r) (by omega) (by omega) rfl) ?_
                    refine i_252_273 (z_eq (a := S 156 ((r).toNat)) ⟨by omega, by omega⟩ fun c0 => ?_) (z_ne (a := S 156 ((r).toNat)) ⟨by omega, by omega⟩ fun c0 => ?_)
                    · refine i_252_282 (x := Int64.ofInt ((tlX S V r.toNat mode % 2 ^ 64 : Nat) : Int)) l5 ?_
                      refine i_252_284 ?_
                      have e : (if S 154 r.toNat = 2 then (0 : Int) else if S 156 r.toNat = 0 then ((tlX S V r.toNat mode % 2 ^ 64 : Nat) : Int) else -((tlX S V r.toNat mode % 2 ^ 64 : Nat) : Int)) = ((tlX S V r.toNat mode % 2 ^ 64 : Nat) : Int) := by rw [if_neg (by omega)]; exact if_pos (by omega)
                      rw [e]
                      exact ⟨rfl, _, hR, (nV.up nV.refl (by omega))⟩
                    · refine i_252_276 (x := Int64.ofInt ((tlX S V r.toNat mode % 2 ^ 64 : Nat) : Int)) l5 ?_
                      refine i_252_278 (c := Int64.ofInt (-((tlX S V r.toNat mode % 2 ^ 64 : Nat) : Int))) (q_neg ((tlX S V r.toNat mode % 2 ^ 64 : Nat) : Int)) ?_
                      refine i_252_279 ?_
                      refine i_252_284 ?_
                      have e : (if S 154 r.toNat = 2 then (0 : Int) else if S 156 r.toNat = 0 then ((tlX S V r.toNat mode % 2 ^ 64 : Nat) : Int) else -((tlX S V r.toNat mode % 2 ^ 64 : Nat) : Int)) = -((tlX S V r.toNat mode % 2 ^ 64 : Nat) : Int) := by rw [if_neg (by omega)]; exact if_neg (by omega)
                      rw [e]
                      exact ⟨rfl, _, hR, (nV.up nV.refl (by omega))⟩
                  · refine i_252_209 (x := 0) rfl ?_
                    refine i_252_211 (fun c => absurd c (by decide)) (fun _ => ?_)
                    refine i_252_214 ?_
                    refine i_252_215 ?_
                    have hobj := hR.c128
                    obtain ⟨w, hrun, hR⟩ := s_dis1 (d := d + 1) hR
                    refine j_252_219 hobj (Nat.le_of_ble_eq_true rfl) hrun (xDone.t (ci := 15) xgl rfl rfl ?_)
                    exfalso
                    have hX : tlX S V r.toNat mode = (V (160 + 2 * r.toNat)) * 2 ^ (S 155 r.toNat - S 153 r.toNat : Int).toNat := by unfold tlX; rw [if_neg (by omega)]
                    rcases hok with h | h
                    · omega
                    · unfold tlOk at h; rw [hX] at h; rcases h.2.2 with h | h
                      · omega
                      · first | omega | simp_all
                · refine i_252_177 (x := 128) rfl ?_
                  refine i_252_178 (v := Value.ref 129) hR.c128 rfl ?_
                  refine i_252_181 ?_
                  obtain ⟨fs, hobj⟩ := hR.obj (h := 129) (iNw (h := 129) (by decide) (by decide) (by decide))
                  have hrun := r_any (d := d + 5) (v := (V (160 + 2 * r.toNat)) * 2 ^ (S 155 r.toNat - S 153 r.toNat : Int).toNat) (k := 63) hR (iNw (h := 129) (by decide) (by decide) (by decide)) (uv_s) (by omega) (by omega)
                  refine i_252_183 hobj (Nat.le_of_ble_eq_true rfl) hrun ?_
                  refine i_252_186 (zb_t fun c12 => ?_) (zb_f fun c12 => ?_)
                  · refine i_252_193 ?_
                    refine i_252_194 (lv2 := [(4, Value.int 0), (3, Value.int (Int32.ofInt (S 155 r.toNat - S 153 r.toNat))), (0, Value.ref 128), (1, Value.int (Int32.ofInt r)), (2, Value.int (Int32.ofInt mode))]) rfl ?_
                    refine i_252_196 (x := 128) rfl ?_
                    refine i_252_197 (x := 128) rfl ?_
                    refine i_252_198 (v := Value.ref 129) hR.c128 rfl ?_
                    obtain ⟨fs, hobj⟩ := hR.obj (h := 129) (iNw (h := 129) (by decide) (by decide) (by decide))
                    have hbl14 : xbl ((V (160 + 2 * r.toNat)) * 2 ^ (S 155 r.toNat - S 153 r.toNat : Int).toNat) ≤ 141000 := hR.bl (iNw (h := 129) (by decide) (by decide) (by decide)) (uv_s)
                    have hrun := r_bits (d := d + 5) (v := (V (160 + 2 * r.toNat)) * 2 ^ (S 155 r.toNat - S 153 r.toNat : Int).toNat) hR (iNw (h := 129) (by decide) (by decide) (by decide)) (uv_s)
                    refine i_252_201 hobj (Nat.le_of_ble_eq_true rfl) hrun ?_
                    refine i_252_204 ?_
                    refine i_252_206 (b_le (a := (xbl ((V (160 + 2 * r.toNat)) * 2 ^ (S 155 r.toNat - S 153 r.toNat : Int).toNat) : Int)) (b := 63) ⟨by omega, by omega⟩ ⟨by decide, by decide⟩ fun c14 => absurd c14 (by omega)) (b_lt (a := 63) (b := (xbl ((V (160 + 2 * r.toNat)) * 2 ^ (S 155 r.toNat - S 153 r.toNat : Int).toNat) : Int)) ⟨by decide, by decide⟩ ⟨by omega, by omega⟩ fun c14 => ?_)
                    refine i_252_209 (x := 0) rfl ?_
                    refine i_252_211 (fun c => absurd c (by decide)) (fun _ => ?_)
                    refine i_252_214 ?_
                    refine i_252_215 ?_
                    have hobj := hR.c128
                    obtain ⟨w, hrun, hR⟩ := s_dis1 (d := d + 1) hR
                    refine j_252_219 hobj (Nat.le_of_ble_eq_true rfl) hrun (xDone.t (ci := 15) xgl rfl rfl ?_)
                    exfalso
                    have hX : tlX S V r.toNat mode = (V (160 + 2 * r.toNat)) * 2 ^ (S 155 r.toNat - S 153 r.toNat : Int).toNat := by unfold tlX; rw [if_neg (by omega)]
                    rcases hok with h | h
                    · omega
                    · unfold tlOk at h; rw [hX] at h; rcases h.2.2 with h | h
                      · omega
                      · first | omega | simp_all
                  · refine i_252_189 ?_
                    refine i_252_190 ?_
                    refine i_252_194 (lv2 := [(4, Value.int 1), (3, Value.int (Int32.ofInt (S 155 r.toNat - S 153 r.toNat))), (0, Value.ref 128), (1, Value.int (Int32.ofInt r)), (2, Value.int (Int32.ofInt mode))]) rfl ?_
                    refine i_252_196 (x := 128) rfl ?_
                    refine i_252_197 (x := 128) rfl ?_
                    refine i_252_198 (v := Value.ref 129) hR.c128 rfl ?_
                    obtain ⟨fs, hobj⟩ := hR.obj (h := 129) (iNw (h := 129) (by decide) (by decide) (by decide))
                    have hbl16 : xbl ((V (160 + 2 * r.toNat)) * 2 ^ (S 155 r.toNat - S 153 r.toNat : Int).toNat) ≤ 141000 := hR.bl (iNw (h := 129) (by decide) (by decide) (by decide)) (uv_s)
                    have hrun := r_bits (d := d + 5) (v := (V (160 + 2 * r.toNat)) * 2 ^ (S 155 r.toNat - S 153 r.toNat : Int).toNat) hR (iNw (h := 129) (by decide) (by decide) (by decide)) (uv_s)
                    refine i_252_201 hobj (Nat.le_of_ble_eq_true rfl) hrun ?_
                    refine i_252_204 ?_
                    refine i_252_206 (b_le (a := (xbl ((V (160 + 2 * r.toNat)) * 2 ^ (S 155 r.toNat - S 153 r.toNat : Int).toNat) : Int)) (b := 63) ⟨by omega, by omega⟩ ⟨by decide, by decide⟩ fun c16 => absurd c16 (by omega)) (b_lt (a := 63) (b := (xbl ((V (160 + 2 * r.toNat)) * 2 ^ (S 155 r.toNat - S 153 r.toNat : Int).toNat) : Int)) ⟨by decide, by decide⟩ ⟨by omega, by omega⟩ fun c16 => ?_)
                    refine i_252_209 (x := 1) rfl ?_
                    refine i_252_211 (fun _ => ?_) (fun c => absurd c (by decide))
                    refine i_252_218 ?_
                    have hobj := hR.c128
                    have hrun := s_dis0 (d := d + 6) (w := w)
                    refine i_252_219 hobj (Nat.le_of_ble_eq_true rfl) hrun ?_
                    refine i_252_222 ?_
                    refine i_252_223 (lv2 := [(5, Value.long 0), (4, Value.int 1), (3, Value.int (Int32.ofInt (S 155 r.toNat - S 153 r.toNat))), (0, Value.ref 128), (1, Value.int (Int32.ofInt r)), (2, Value.int (Int32.ofInt mode))]) rfl ?_
                    refine i_252_225 ?_
                    refine i_252_227 (lv2 := [(7, Value.int 63), (5, Value.long 0), (4, Value.int 1), (3, Value.int (Int32.ofInt (S 155 r.toNat - S 153 r.toNat))), (0, Value.ref 128), (1, Value.int (Int32.ofInt r)), (2, Value.int (Int32.ofInt mode))]) rfl ?_
                    have hX : tlX S V r.toNat mode = (V (160 + 2 * r.toNat)) * 2 ^ (S 155 r.toNat - S 153 r.toNat : Int).toNat := by unfold tlX; rw [if_neg (by omega)]
                    have hV9 : (uv V 129 ((V (160 + 2 * r.toNat)) * 2 ^ (S 155 r.toNat - S 153 r.toNat : Int).toNat)) 129 = tlX S V r.toNat mode := by rw [hX]; exact uv_s
                    refine tl_loop (d := d + 5) hR ?_ 64 _ (by omega) rfl rfl rfl (by rw [Nat.sub_self, Nat.pow_zero, Nat.mod_one]; rfl)
                    intro lv l0 l1 l5
                    rw [hV9, Nat.zero_add, Nat.pow_zero, Nat.div_one, Nat.sub_zero] at l5
                    refine i_252_267 (x := 128) l0 ?_
                    refine i_252_268 (v := Value.ref 156) hR.c128 rfl ?_
                    refine i_252_271 (x := Int32.ofInt r) l1 ?_
                    refine i_252_272z (v := Value.int (Int32.ofInt (S 156 ((r).toNat)))) (hR.row a156) (ix0 (T := r) (by omega) (by omega)) (ix1 (T := r) (by omega) (by omega) (by omega)) (ra (T := r) (by omega) (by omega) rfl) ?_
                    refine i_252_273 (z_eq (a := S 156 ((r).toNat)) ⟨by omega, by omega⟩ fun c0 => ?_) (z_ne (a := S 156 ((r).toNat)) ⟨by omega, by omega⟩ fun c0 => ?_)
                    · refine i_252_282 (x := Int64.ofInt ((tlX S V r.toNat mode % 2 ^ 64 : Nat) : Int)) l5 ?_
                      refine i_252_284 ?_
                      have e : (if S 154 r.toNat = 2 then (0 : Int) else if S 156 r.toNat = 0 then ((tlX S V r.toNat mode % 2 ^ 64 : Nat) : Int) else -((tlX S V r.toNat mode % 2 ^ 64 : Nat) : Int)) = ((tlX S V r.toNat mode % 2 ^ 64 : Nat) : Int) := by rw [if_neg (by omega)]; exact if_pos (by omega)
                      rw [e]
                      exact ⟨rfl, _, hR, (nV.up nV.refl (by omega))⟩
                    · refine i_252_276 (x := Int64.ofInt ((tlX S V r.toNat mode % 2 ^ 64 : Nat) : Int)) l5 ?_
                      refine i_252_278 (c := Int64.ofInt (-((tlX S V r.toNat mode % 2 ^ 64 : Nat) : Int))) (q_neg ((tlX S V r.toNat mode % 2 ^ 64 : Nat) : Int)) ?_
                      refine i_252_279 ?_
                      refine i_252_284 ?_
                      have e : (if S 154 r.toNat = 2 then (0 : Int) else if S 156 r.toNat = 0 then ((tlX S V r.toNat mode % 2 ^ 64 : Nat) : Int) else -((tlX S V r.toNat mode % 2 ^ 64 : Nat) : Int)) = -((tlX S V r.toNat mode % 2 ^ 64 : Nat) : Int) := by rw [if_neg (by omega)]; exact if_neg (by omega)
                      rw [e]
                      exact ⟨rfl, _, hR, (nV.up nV.refl (by omega))⟩
            · refine i_252_91 (x := 128) rfl ?_
              refine i_252_92 (v := Value.ref 157) hR.c128 rfl ?_
              refine i_252_95 (x := Int32.ofInt r) rfl ?_
              obtain ⟨gp, hgp, hgr⟩ := hR.part (j := (r).toNat) (by omega)
              refine i_252_96 (v := Value.ref (160 + 2 * r.toNat)) hgp (ix0 (by omega) (by omega)) (ix1 (by omega) (by omega) (by omega)) (by rw [ixn (by omega) (by omega)]; exact hgr) ?_
              refine i_252_97 (x := Int32.ofInt (S 155 r.toNat - S 153 r.toNat)) rfl ?_
              refine i_252_98 (c := Int32.ofInt (-(S 155 r.toNat - S 153 r.toNat))) (o_neg (S 155 r.toNat - S 153 r.toNat)) ?_
              refine i_252_99 ?_
              refine i_252_100 (x := 128) rfl ?_
              refine i_252_101 (v := Value.ref 156) hR.c128 rfl ?_
              refine i_252_104 (x := Int32.ofInt r) rfl ?_
              refine i_252_105z (v := Value.int (Int32.ofInt (S 156 ((r).toNat)))) (hR.row a156) (ix0 (T := r) (by omega) (by omega)) (ix1 (T := r) (by omega) (by omega) (by omega)) (ra (T := r) (by omega) (by omega) rfl) ?_
              refine i_252_106 (x := Int32.ofInt mode) rfl ?_
              refine i_252_107 (x := 128) rfl ?_
              refine i_252_108 (v := Value.ref 157) hR.c128 rfl ?_
              refine i_252_111 (x := Int32.ofInt r) rfl ?_
              obtain ⟨gp, hgp, hgr⟩ := hR.part (j := (r).toNat) (by omega)
              refine i_252_112 (v := Value.ref (160 + 2 * r.toNat)) hgp (ix0 (by omega) (by omega)) (ix1 (by omega) (by omega) (by omega)) (by rw [ixn (by omega) (by omega)]; exact hgr) ?_
              refine i_252_113 (x := Int32.ofInt (S 155 r.toNat - S 153 r.toNat)) rfl ?_
              refine i_252_114 (c := Int32.ofInt (-(S 155 r.toNat - S 153 r.toNat))) (o_neg (S 155 r.toNat - S 153 r.toNat)) ?_
              obtain ⟨fs, hobj⟩ := hR.obj (h := 160 + 2 * r.toNat) (iNp (r := r) (by omega) (by omega))
              have hrun := r_bit (d := d + 5) (v := V (160 + 2 * r.toNat)) (k := -(S 155 r.toNat - S 153 r.toNat)) hR (iNp (r := r) (by omega) (by omega)) ((uv_n (by omega)).trans (rfl)) (by omega) (by omega)
              refine i_252_115 hobj (Nat.le_of_ble_eq_true rfl) hrun ?_
              obtain ⟨w, hrun, hR⟩ := s_goesUp (d := d + 4) (h := 160 + 2 * r.toNat) (cut := -(S 155 r.toNat - S 153 r.toNat)) (more := 0) (sg := S 156 ((r).toNat)) (mode := mode) (odd := bb (nbit (V (160 + 2 * r.toNat)) (-(S 155 r.toNat - S 153 r.toNat)))) hR (iNp (r := r) (by omega) (by omega)) (by omega) (by omega) (by first | omega | exact bb_01 _) (by omega) (by omega) (by omega)
              rw [show (uv V 129 (V (160 + 2 * r.toNat))) (160 + 2 * r.toNat) = V (160 + 2 * r.toNat) from (uv_n (by omega)).trans (rfl)] at hrun
              refine i_252_118 (Nat.le_of_ble_eq_true rfl) hrun ?_
              refine i_252_121 (lv2 := [(4, Value.int (Int32.ofInt (bb (gU (V (160 + 2 * r.toNat)) (-(S 155 r.toNat - S 153 r.toNat)) 0 (S 156 ((r).toNat)) mode (bb (nbit (V (160 + 2 * r.toNat)) (-(S 155 r.toNat - S 153 r.toNat)))))))), (3, Value.int (Int32.ofInt (S 155 r.toNat - S 153 r.toNat))), (0, Value.ref 128), (1, Value.int (Int32.ofInt r)), (2, Value.int (Int32.ofInt mode))]) rfl ?_
              refine i_252_123 (x := 128) rfl ?_
              refine i_252_124 (v := Value.ref 129) hR.c128 rfl ?_
              refine i_252_127 (x := Int32.ofInt (S 155 r.toNat - S 153 r.toNat)) rfl ?_
              refine i_252_128 (c := Int32.ofInt (-(S 155 r.toNat - S 153 r.toNat))) (o_neg (S 155 r.toNat - S 153 r.toNat)) ?_
              obtain ⟨fs, hobj⟩ := hR.obj (h := 129) (iNw (h := 129) (by decide) (by decide) (by decide))
              obtain ⟨w, hrun, hR⟩ := r_down (d := d + 5) (v := V (160 + 2 * r.toNat)) (k := -(S 155 r.toNat - S 153 r.toNat)) hR (iNw (h := 129) (by decide) (by decide) (by decide)) (uv_s) (by omega) (by omega)
              rw [uvv] at hR
              refine i_252_129 hobj (Nat.le_of_ble_eq_true rfl) hrun ?_
              refine i_252_132 (x := Int32.ofInt (bb (gU (V (160 + 2 * r.toNat)) (-(S 155 r.toNat - S 153 r.toNat)) 0 (S 156 ((r).toNat)) mode (bb (nbit (V (160 + 2 * r.toNat)) (-(S 155 r.toNat - S 153 r.toNat))))))) rfl ?_
              refine i_252_134 (zb_f fun c17 => ?_) (zb_t fun c17 => ?_)
              · refine i_252_145 ?_
                refine i_252_156 (x := 128) rfl ?_
                refine i_252_157 (v := Value.ref 156) hR.c128 rfl ?_
                refine i_252_160 (x := Int32.ofInt r) rfl ?_
                refine i_252_161z (v := Value.int (Int32.ofInt (S 156 ((r).toNat)))) (hR.row a156) (ix0 (T := r) (by omega) (by omega)) (ix1 (T := r) (by omega) (by omega) (by omega)) (ra (T := r) (by omega) (by omega) rfl) ?_
                refine i_252_162 (z_eq (a := S 156 ((r).toNat)) ⟨by omega, by omega⟩ fun c18 => ?_) (z_ne (a := S 156 ((r).toNat)) ⟨by omega, by omega⟩ fun c18 => ?_)
                · refine i_252_193 ?_
                  refine i_252_194 (lv2 := [(4, Value.int 0), (3, Value.int (Int32.ofInt (S 155 r.toNat - S 153 r.toNat))), (0, Value.ref 128), (1, Value.int (Int32.ofInt r)), (2, Value.int (Int32.ofInt mode))]) rfl ?_
                  refine i_252_196 (x := 128) rfl ?_
                  refine i_252_197 (x := 128) rfl ?_
                  refine i_252_198 (v := Value.ref 129) hR.c128 rfl ?_
                  obtain ⟨fs, hobj⟩ := hR.obj (h := 129) (iNw (h := 129) (by decide) (by decide) (by decide))
                  have hbl20 : xbl ((V (160 + 2 * r.toNat)) / 2 ^ (-(S 155 r.toNat - S 153 r.toNat) : Int).toNat) ≤ 141000 := hR.bl (iNw (h := 129) (by decide) (by decide) (by decide)) (uv_s)
                  have hrun := r_bits (d := d + 5) (v := (V (160 + 2 * r.toNat)) / 2 ^ (-(S 155 r.toNat - S 153 r.toNat) : Int).toNat) hR (iNw (h := 129) (by decide) (by decide) (by decide)) (uv_s)
                  refine i_252_201 hobj (Nat.le_of_ble_eq_true rfl) hrun ?_
                  refine i_252_204 ?_
                  refine i_252_206 (b_le (a := (xbl ((V (160 + 2 * r.toNat)) / 2 ^ (-(S 155 r.toNat - S 153 r.toNat) : Int).toNat) : Int)) (b := 63) ⟨by omega, by omega⟩ ⟨by decide, by decide⟩ fun c20 => ?_) (b_lt (a := 63) (b := (xbl ((V (160 + 2 * r.toNat)) / 2 ^ (-(S 155 r.toNat - S 153 r.toNat) : Int).toNat) : Int)) ⟨by decide, by decide⟩ ⟨by omega, by omega⟩ fun c20 => ?_)
                  · refine i_252_218 ?_
                    have hobj := hR.c128
                    have hrun := s_dis0 (d := d + 6) (w := w)
                    refine i_252_219 hobj (Nat.le_of_ble_eq_true rfl) hrun ?_
                    refine i_252_222 ?_
                    refine i_252_223 (lv2 := [(5, Value.long 0), (4, Value.int 0), (3, Value.int (Int32.ofInt (S 155 r.toNat - S 153 r.toNat))), (0, Value.ref 128), (1, Value.int (Int32.ofInt r)), (2, Value.int (Int32.ofInt mode))]) rfl ?_
                    refine i_252_225 ?_
                    refine i_252_227 (lv2 := [(7, Value.int 63), (5, Value.long 0), (4, Value.int 0), (3, Value.int (Int32.ofInt (S 155 r.toNat - S 153 r.toNat))), (0, Value.ref 128), (1, Value.int (Int32.ofInt r)), (2, Value.int (Int32.ofInt mode))]) rfl ?_
                    have hX : tlX S V r.toNat mode = (V (160 + 2 * r.toNat)) / 2 ^ (-(S 155 r.toNat - S 153 r.toNat) : Int).toNat := by unfold tlX; rw [if_pos (by omega), show gU _ _ _ _ _ _ = false by assumption]; rfl
                    have hV9 : (uv V 129 ((V (160 + 2 * r.toNat)) / 2 ^ (-(S 155 r.toNat - S 153 r.toNat) : Int).toNat)) 129 = tlX S V r.toNat mode := by rw [hX]; exact uv_s
                    refine tl_loop (d := d + 5) hR ?_ 64 _ (by omega) rfl rfl rfl (by rw [Nat.sub_self, Nat.pow_zero, Nat.mod_one]; rfl)
                    intro lv l0 l1 l5
                    rw [hV9, Nat.zero_add, Nat.pow_zero, Nat.div_one, Nat.sub_zero] at l5
                    refine i_252_267 (x := 128) l0 ?_
                    refine i_252_268 (v := Value.ref 156) hR.c128 rfl ?_
                    refine i_252_271 (x := Int32.ofInt r) l1 ?_
                    refine i_252_272z (v := Value.int (Int32.ofInt (S 156 ((r).toNat)))) (hR.row a156) (ix0 (T := r) (by omega) (by omega)) (ix1 (T := r) (by omega) (by omega) (by omega)) (ra (T := r) (by omega) (by omega) rfl) ?_
                    refine i_252_273 (z_eq (a := S 156 ((r).toNat)) ⟨by omega, by omega⟩ fun c0 => ?_) (z_ne (a := S 156 ((r).toNat)) ⟨by omega, by omega⟩ fun c0 => ?_)
                    · refine i_252_282 (x := Int64.ofInt ((tlX S V r.toNat mode % 2 ^ 64 : Nat) : Int)) l5 ?_
                      refine i_252_284 ?_
                      have e : (if S 154 r.toNat = 2 then (0 : Int) else if S 156 r.toNat = 0 then ((tlX S V r.toNat mode % 2 ^ 64 : Nat) : Int) else -((tlX S V r.toNat mode % 2 ^ 64 : Nat) : Int)) = ((tlX S V r.toNat mode % 2 ^ 64 : Nat) : Int) := by rw [if_neg (by omega)]; exact if_pos (by omega)
                      rw [e]
                      exact ⟨rfl, _, hR, (nV.up nV.refl (by omega))⟩
                    · refine i_252_276 (x := Int64.ofInt ((tlX S V r.toNat mode % 2 ^ 64 : Nat) : Int)) l5 ?_
                      refine i_252_278 (c := Int64.ofInt (-((tlX S V r.toNat mode % 2 ^ 64 : Nat) : Int))) (q_neg ((tlX S V r.toNat mode % 2 ^ 64 : Nat) : Int)) ?_
                      refine i_252_279 ?_
                      refine i_252_284 ?_
                      have e : (if S 154 r.toNat = 2 then (0 : Int) else if S 156 r.toNat = 0 then ((tlX S V r.toNat mode % 2 ^ 64 : Nat) : Int) else -((tlX S V r.toNat mode % 2 ^ 64 : Nat) : Int)) = -((tlX S V r.toNat mode % 2 ^ 64 : Nat) : Int) := by rw [if_neg (by omega)]; exact if_neg (by omega)
                      rw [e]
                      exact ⟨rfl, _, hR, (nV.up nV.refl (by omega))⟩
                  · refine i_252_209 (x := 0) rfl ?_
                    refine i_252_211 (fun c => absurd c (by decide)) (fun _ => ?_)
                    refine i_252_214 ?_
                    refine i_252_215 ?_
                    have hobj := hR.c128
                    obtain ⟨w, hrun, hR⟩ := s_dis1 (d := d + 1) hR
                    refine j_252_219 hobj (Nat.le_of_ble_eq_true rfl) hrun (xDone.t (ci := 15) xgl rfl rfl ?_)
                    exfalso
                    have hX : tlX S V r.toNat mode = (V (160 + 2 * r.toNat)) / 2 ^ (-(S 155 r.toNat - S 153 r.toNat) : Int).toNat := by unfold tlX; rw [if_pos (by omega), show gU _ _ _ _ _ _ = false by assumption]; rfl
                    rcases hok with h | h
                    · omega
                    · unfold tlOk at h; rw [hX] at h; rcases h.2.2 with h | h
                      · omega
                      · first | omega | simp_all
                · refine i_252_165 (x := 128) rfl ?_
                  refine i_252_166 (v := Value.ref 129) hR.c128 rfl ?_
                  obtain ⟨fs, hobj⟩ := hR.obj (h := 129) (iNw (h := 129) (by decide) (by decide) (by decide))
                  have hbl22 : xbl ((V (160 + 2 * r.toNat)) / 2 ^ (-(S 155 r.toNat - S 153 r.toNat) : Int).toNat) ≤ 141000 := hR.bl (iNw (h := 129) (by decide) (by decide) (by decide)) (uv_s)
                  have hrun := r_bits (d := d + 5) (v := (V (160 + 2 * r.toNat)) / 2 ^ (-(S 155 r.toNat - S 153 r.toNat) : Int).toNat) hR (iNw (h := 129) (by decide) (by decide) (by decide)) (uv_s)
                  refine i_252_169 hobj (Nat.le_of_ble_eq_true rfl) hrun ?_
                  refine i_252_172 ?_
                  refine i_252_174 (b_ne (a := (xbl ((V (160 + 2 * r.toNat)) / 2 ^ (-(S 155 r.toNat - S 153 r.toNat) : Int).toNat) : Int)) (b := 64) ⟨by omega, by omega⟩ ⟨by decide, by decide⟩ fun c22 => ?_) (b_eq (a := (xbl ((V (160 + 2 * r.toNat)) / 2 ^ (-(S 155 r.toNat - S 153 r.toNat) : Int).toNat) : Int)) (b := 64) ⟨by omega, by omega⟩ ⟨by decide, by decide⟩ fun c22 => ?_)
                  · refine i_252_193 ?_
                    refine i_252_194 (lv2 := [(4, Value.int 0), (3, Value.int (Int32.ofInt (S 155 r.toNat - S 153 r.toNat))), (0, Value.ref 128), (1, Value.int (Int32.ofInt r)), (2, Value.int (Int32.ofInt mode))]) rfl ?_
                    refine i_252_196 (x := 128) rfl ?_
                    refine i_252_197 (x := 128) rfl ?_
                    refine i_252_198 (v := Value.ref 129) hR.c128 rfl ?_
                    obtain ⟨fs, hobj⟩ := hR.obj (h := 129) (iNw (h := 129) (by decide) (by decide) (by decide))
                    have hbl24 : xbl ((V (160 + 2 * r.toNat)) / 2 ^ (-(S 155 r.toNat - S 153 r.toNat) : Int).toNat) ≤ 141000 := hR.bl (iNw (h := 129) (by decide) (by decide) (by decide)) (uv_s)
                    have hrun := r_bits (d := d + 5) (v := (V (160 + 2 * r.toNat)) / 2 ^ (-(S 155 r.toNat - S 153 r.toNat) : Int).toNat) hR (iNw (h := 129) (by decide) (by decide) (by decide)) (uv_s)
                    refine i_252_201 hobj (Nat.le_of_ble_eq_true rfl) hrun ?_
                    refine i_252_204 ?_
                    refine i_252_206 (b_le (a := (xbl ((V (160 + 2 * r.toNat)) / 2 ^ (-(S 155 r.toNat - S 153 r.toNat) : Int).toNat) : Int)) (b := 63) ⟨by omega, by omega⟩ ⟨by decide, by decide⟩ fun c24 => ?_) (b_lt (a := 63) (b := (xbl ((V (160 + 2 * r.toNat)) / 2 ^ (-(S 155 r.toNat - S 153 r.toNat) : Int).toNat) : Int)) ⟨by decide, by decide⟩ ⟨by omega, by omega⟩ fun c24 => ?_)
                    · refine i_252_218 ?_
                      have hobj := hR.c128
                      have hrun := s_dis0 (d := d + 6) (w := w)
                      refine i_252_219 hobj (Nat.le_of_ble_eq_true rfl) hrun ?_
                      refine i_252_222 ?_
                      refine i_252_223 (lv2 := [(5, Value.long 0), (4, Value.int 0), (3, Value.int (Int32.ofInt (S 155 r.toNat - S 153 r.toNat))), (0, Value.ref 128), (1, Value.int (Int32.ofInt r)), (2, Value.int (Int32.ofInt mode))]) rfl ?_
                      refine i_252_225 ?_
                      refine i_252_227 (lv2 := [(7, Value.int 63), (5, Value.long 0), (4, Value.int 0), (3, Value.int (Int32.ofInt (S 155 r.toNat - S 153 r.toNat))), (0, Value.ref 128), (1, Value.int (Int32.ofInt r)), (2, Value.int (Int32.ofInt mode))]) rfl ?_
                      have hX : tlX S V r.toNat mode = (V (160 + 2 * r.toNat)) / 2 ^ (-(S 155 r.toNat - S 153 r.toNat) : Int).toNat := by unfold tlX; rw [if_pos (by omega), show gU _ _ _ _ _ _ = false by assumption]; rfl
                      have hV9 : (uv V 129 ((V (160 + 2 * r.toNat)) / 2 ^ (-(S 155 r.toNat - S 153 r.toNat) : Int).toNat)) 129 = tlX S V r.toNat mode := by rw [hX]; exact uv_s
                      refine tl_loop (d := d + 5) hR ?_ 64 _ (by omega) rfl rfl rfl (by rw [Nat.sub_self, Nat.pow_zero, Nat.mod_one]; rfl)
                      intro lv l0 l1 l5
                      rw [hV9, Nat.zero_add, Nat.pow_zero, Nat.div_one, Nat.sub_zero] at l5
                      refine i_252_267 (x := 128) l0 ?_
                      refine i_252_268 (v := Value.ref 156) hR.c128 rfl ?_
                      refine i_252_271 (x := Int32.ofInt r) l1 ?_
                      refine i_252_272z (v := Value.int (Int32.ofInt (S 156 ((r).toNat)))) (hR.row a156) (ix0 (T := r) (by omega) (by omega)) (ix1 (T := r) (by omega) (by omega) (by omega)) (ra (T := r) (by omega) (by omega) rfl) ?_
                      refine i_252_273 (z_eq (a := S 156 ((r).toNat)) ⟨by omega, by omega⟩ fun c0 => ?_) (z_ne (a := S 156 ((r).toNat)) ⟨by omega, by omega⟩ fun c0 => ?_)
                      · refine i_252_282 (x := Int64.ofInt ((tlX S V r.toNat mode % 2 ^ 64 : Nat) : Int)) l5 ?_
                        refine i_252_284 ?_
                        have e : (if S 154 r.toNat = 2 then (0 : Int) else if S 156 r.toNat = 0 then ((tlX S V r.toNat mode % 2 ^ 64 : Nat) : Int) else -((tlX S V r.toNat mode % 2 ^ 64 : Nat) : Int)) = ((tlX S V r.toNat mode % 2 ^ 64 : Nat) : Int) := by rw [if_neg (by omega)]; exact if_pos (by omega)
                        rw [e]
                        exact ⟨rfl, _, hR, (nV.up nV.refl (by omega))⟩
                      · refine i_252_276 (x := Int64.ofInt ((tlX S V r.toNat mode % 2 ^ 64 : Nat) : Int)) l5 ?_
                        refine i_252_278 (c := Int64.ofInt (-((tlX S V r.toNat mode % 2 ^ 64 : Nat) : Int))) (q_neg ((tlX S V r.toNat mode % 2 ^ 64 : Nat) : Int)) ?_
                        refine i_252_279 ?_
                        refine i_252_284 ?_
                        have e : (if S 154 r.toNat = 2 then (0 : Int) else if S 156 r.toNat = 0 then ((tlX S V r.toNat mode % 2 ^ 64 : Nat) : Int) else -((tlX S V r.toNat mode % 2 ^ 64 : Nat) : Int)) = -((tlX S V r.toNat mode % 2 ^ 64 : Nat) : Int) := by rw [if_neg (by omega)]; exact if_neg (by omega)
                        rw [e]
                        exact ⟨rfl, _, hR, (nV.up nV.refl (by omega))⟩
                    · refine i_252_209 (x := 0) rfl ?_
                      refine i_252_211 (fun c => absurd c (by decide)) (fun _ => ?_)
                      refine i_252_214 ?_
                      refine i_252_215 ?_
                      have hobj := hR.c128
                      obtain ⟨w, hrun, hR⟩ := s_dis1 (d := d + 1) hR
                      refine j_252_219 hobj (Nat.le_of_ble_eq_true rfl) hrun (xDone.t (ci := 15) xgl rfl rfl ?_)
                      exfalso
                      have hX : tlX S V r.toNat mode = (V (160 + 2 * r.toNat)) / 2 ^ (-(S 155 r.toNat - S 153 r.toNat) : Int).toNat := by unfold tlX; rw [if_pos (by omega), show gU _ _ _ _ _ _ = false by assumption]; rfl
                      rcases hok with h | h
                      · omega
                      · unfold tlOk at h; rw [hX] at h; rcases h.2.2 with h | h
                        · omega
                        · first | omega | simp_all
                  · refine i_252_177 (x := 128) rfl ?_
                    refine i_252_178 (v := Value.ref 129) hR.c128 rfl ?_
                    refine i_252_181 ?_
                    obtain ⟨fs, hobj⟩ := hR.obj (h := 129) (iNw (h := 129) (by decide) (by decide) (by decide))
                    have hrun := r_any (d := d + 5) (v := (V (160 + 2 * r.toNat)) / 2 ^ (-(S 155 r.toNat - S 153 r.toNat) : Int).toNat) (k := 63) hR (iNw (h := 129) (by decide) (by decide) (by decide)) (uv_s) (by omega) (by omega)
                    refine i_252_183 hobj (Nat.le_of_ble_eq_true rfl) hrun ?_
                    refine i_252_186 (zb_t fun c25 => ?_) (zb_f fun c25 => ?_)
                    · refine i_252_193 ?_
                      refine i_252_194 (lv2 := [(4, Value.int 0), (3, Value.int (Int32.ofInt (S 155 r.toNat - S 153 r.toNat))), (0, Value.ref 128), (1, Value.int (Int32.ofInt r)), (2, Value.int (Int32.ofInt mode))]) rfl ?_
                      refine i_252_196 (x := 128) rfl ?_
                      refine i_252_197 (x := 128) rfl ?_
                      refine i_252_198 (v := Value.ref 129) hR.c128 rfl ?_
                      obtain ⟨fs, hobj⟩ := hR.obj (h := 129) (iNw (h := 129) (by decide) (by decide) (by decide))
                      have hbl27 : xbl ((V (160 + 2 * r.toNat)) / 2 ^ (-(S 155 r.toNat - S 153 r.toNat) : Int).toNat) ≤ 141000 := hR.bl (iNw (h := 129) (by decide) (by decide) (by decide)) (uv_s)
                      have hrun := r_bits (d := d + 5) (v := (V (160 + 2 * r.toNat)) / 2 ^ (-(S 155 r.toNat - S 153 r.toNat) : Int).toNat) hR (iNw (h := 129) (by decide) (by decide) (by decide)) (uv_s)
                      refine i_252_201 hobj (Nat.le_of_ble_eq_true rfl) hrun ?_
                      refine i_252_204 ?_
                      refine i_252_206 (b_le (a := (xbl ((V (160 + 2 * r.toNat)) / 2 ^ (-(S 155 r.toNat - S 153 r.toNat) : Int).toNat) : Int)) (b := 63) ⟨by omega, by omega⟩ ⟨by decide, by decide⟩ fun c27 => absurd c27 (by omega)) (b_lt (a := 63) (b := (xbl ((V (160 + 2 * r.toNat)) / 2 ^ (-(S 155 r.toNat - S 153 r.toNat) : Int).toNat) : Int)) ⟨by decide, by decide⟩ ⟨by omega, by omega⟩ fun c27 => ?_)
                      refine i_252_209 (x := 0) rfl ?_
                      refine i_252_211 (fun c => absurd c (by decide)) (fun _ => ?_)
                      refine i_252_214 ?_
                      refine i_252_215 ?_
                      have hobj := hR.c128
                      obtain ⟨w, hrun, hR⟩ := s_dis1 (d := d + 1) hR
                      refine j_252_219 hobj (Nat.le_of_ble_eq_true rfl) hrun (xDone.t (ci := 15) xgl rfl rfl ?_)
                      exfalso
                      have hX : tlX S V r.toNat mode = (V (160 + 2 * r.toNat)) / 2 ^ (-(S 155 r.toNat - S 153 r.toNat) : Int).toNat := by unfold tlX; rw [if_pos (by omega), show gU _ _ _ _ _ _ = false by assumption]; rfl
                      rcases hok with h | h
                      · omega
                      · unfold tlOk at h; rw [hX] at h; rcases h.2.2 with h | h
                        · omega
                        · first | omega | simp_all
                    · refine i_252_189 ?_
                      refine i_252_190 ?_
                      refine i_252_194 (lv2 := [(4, Value.int 1), (3, Value.int (Int32.ofInt (S 155 r.toNat - S 153 r.toNat))), (0, Value.ref 128), (1, Value.int (Int32.ofInt r)), (2, Value.int (Int32.ofInt mode))]) rfl ?_
                      refine i_252_196 (x := 128) rfl ?_
                      refine i_252_197 (x := 128) rfl ?_
                      refine i_252_198 (v := Value.ref 129) hR.c128 rfl ?_
                      obtain ⟨fs, hobj⟩ := hR.obj (h := 129) (iNw (h := 129) (by decide) (by decide) (by decide))
                      have hbl29 : xbl ((V (160 + 2 * r.toNat)) / 2 ^ (-(S 155 r.toNat - S 153 r.toNat) : Int).toNat) ≤ 141000 := hR.bl (iNw (h := 129) (by decide) (by decide) (by decide)) (uv_s)
                      have hrun := r_bits (d := d + 5) (v := (V (160 + 2 * r.toNat)) / 2 ^ (-(S 155 r.toNat - S 153 r.toNat) : Int).toNat) hR (iNw (h := 129) (by decide) (by decide) (by decide)) (uv_s)
                      refine i_252_201 hobj (Nat.le_of_ble_eq_true rfl) hrun ?_
                      refine i_252_204 ?_
                      refine i_252_206 (b_le (a := (xbl ((V (160 + 2 * r.toNat)) / 2 ^ (-(S 155 r.toNat - S 153 r.toNat) : Int).toNat) : Int)) (b := 63) ⟨by omega, by omega⟩ ⟨by decide, by decide⟩ fun c29 => absurd c29 (by omega)) (b_lt (a := 63) (b := (xbl ((V (160 + 2 * r.toNat)) / 2 ^ (-(S 155 r.toNat - S 153 r.toNat) : Int).toNat) : Int)) ⟨by decide, by decide⟩ ⟨by omega, by omega⟩ fun c29 => ?_)
                      refine i_252_209 (x := 1) rfl ?_
                      refine i_252_211 (fun _ => ?_) (fun c => absurd c (by decide))
                      refine i_252_218 ?_
                      have hobj := hR.c128
                      have hrun := s_dis0 (d := d + 6) (w := w)
                      refine i_252_219 hobj (Nat.le_of_ble_eq_true rfl) hrun ?_
                      refine i_252_222 ?_
                      refine i_252_223 (lv2 := [(5, Value.long 0), (4, Value.int 1), (3, Value.int (Int32.ofInt (S 155 r.toNat - S 153 r.toNat))), (0, Value.ref 128), (1, Value.int (Int32.ofInt r)), (2, Value.int (Int32.ofInt mode))]) rfl ?_
                      refine i_252_225 ?_
                      refine i_252_227 (lv2 := [(7, Value.int 63), (5, Value.long 0), (4, Value.int 1), (3, Value.int (Int32.ofInt (S 155 r.toNat - S 153 r.toNat))), (0, Value.ref 128), (1, Value.int (Int32.ofInt r)), (2, Value.int (Int32.ofInt mode))]) rfl ?_
                      have hX : tlX S V r.toNat mode = (V (160 + 2 * r.toNat)) / 2 ^ (-(S 155 r.toNat - S 153 r.toNat) : Int).toNat := by unfold tlX; rw [if_pos (by omega), show gU _ _ _ _ _ _ = false by assumption]; rfl
                      have hV9 : (uv V 129 ((V (160 + 2 * r.toNat)) / 2 ^ (-(S 155 r.toNat - S 153 r.toNat) : Int).toNat)) 129 = tlX S V r.toNat mode := by rw [hX]; exact uv_s
                      refine tl_loop (d := d + 5) hR ?_ 64 _ (by omega) rfl rfl rfl (by rw [Nat.sub_self, Nat.pow_zero, Nat.mod_one]; rfl)
                      intro lv l0 l1 l5
                      rw [hV9, Nat.zero_add, Nat.pow_zero, Nat.div_one, Nat.sub_zero] at l5
                      refine i_252_267 (x := 128) l0 ?_
                      refine i_252_268 (v := Value.ref 156) hR.c128 rfl ?_
                      refine i_252_271 (x := Int32.ofInt r) l1 ?_
                      refine i_252_272z (v := Value.int (Int32.ofInt (S 156 ((r).toNat)))) (hR.row a156) (ix0 (T := r) (by omega) (by omega)) (ix1 (T := r) (by omega) (by omega) (by omega)) (ra (T := r) (by omega) (by omega) rfl) ?_
                      refine i_252_273 (z_eq (a := S 156 ((r).toNat)) ⟨by omega, by omega⟩ fun c0 => ?_) (z_ne (a := S 156 ((r).toNat)) ⟨by omega, by omega⟩ fun c0 => ?_)
                      · refine i_252_282 (x := Int64.ofInt ((tlX S V r.toNat mode % 2 ^ 64 : Nat) : Int)) l5 ?_
                        refine i_252_284 ?_
                        have e : (if S 154 r.toNat = 2 then (0 : Int) else if S 156 r.toNat = 0 then ((tlX S V r.toNat mode % 2 ^ 64 : Nat) : Int) else -((tlX S V r.toNat mode % 2 ^ 64 : Nat) : Int)) = ((tlX S V r.toNat mode % 2 ^ 64 : Nat) : Int) := by rw [if_neg (by omega)]; exact if_pos (by omega)
                        rw [e]
                        exact ⟨rfl, _, hR, (nV.up nV.refl (by omega))⟩
                      · refine i_252_276 (x := Int64.ofInt ((tlX S V r.toNat mode % 2 ^ 64 : Nat) : Int)) l5 ?_
                        refine i_252_278 (c := Int64.ofInt (-((tlX S V r.toNat mode % 2 ^ 64 : Nat) : Int))) (q_neg ((tlX S V r.toNat mode % 2 ^ 64 : Nat) : Int)) ?_
                        refine i_252_279 ?_
                        refine i_252_284 ?_
                        have e : (if S 154 r.toNat = 2 then (0 : Int) else if S 156 r.toNat = 0 then ((tlX S V r.toNat mode % 2 ^ 64 : Nat) : Int) else -((tlX S V r.toNat mode % 2 ^ 64 : Nat) : Int)) = -((tlX S V r.toNat mode % 2 ^ 64 : Nat) : Int) := by rw [if_neg (by omega)]; exact if_neg (by omega)
                        rw [e]
                        exact ⟨rfl, _, hR, (nV.up nV.refl (by omega))⟩
              · refine i_252_137 (x := 128) rfl ?_
                refine i_252_138 (v := Value.ref 129) hR.c128 rfl ?_
                refine i_252_141 ?_
                obtain ⟨fs, hobj⟩ := hR.obj (h := 129) (iNw (h := 129) (by decide) (by decide) (by decide))
                obtain ⟨w, hrun, hR⟩ := r_addi (d := d + 5) (v := (V (160 + 2 * r.toNat)) / 2 ^ (-(S 155 r.toNat - S 153 r.toNat) : Int).toNat) (c := 4700) (k := 1) hR (iNw (h := 129) (by decide) (by decide) (by decide)) (uv_s) rfl (by omega) (by omega) (by first | omega | (rw [xbl_div]; omega))
                rw [show (1 : Int).toNat = 1 from rfl] at hR
                rw [uvv] at hR
                refine i_252_142 hobj (Nat.le_of_ble_eq_true rfl) hrun ?_
                refine i_252_145 ?_
                refine i_252_156 (x := 128) rfl ?_
                refine i_252_157 (v := Value.ref 156) hR.c128 rfl ?_
                refine i_252_160 (x := Int32.ofInt r) rfl ?_
                refine i_252_161z (v := Value.int (Int32.ofInt (S 156 ((r).toNat)))) (hR.row a156) (ix0 (T := r) (by omega) (by omega)) (ix1 (T := r) (by omega) (by omega) (by omega)) (ra (T := r) (by omega) (by omega) rfl) ?_
                refine i_252_162 (z_eq (a := S 156 ((r).toNat)) ⟨by omega, by omega⟩ fun c30 => ?_) (z_ne (a := S 156 ((r).toNat)) ⟨by omega, by omega⟩ fun c30 => ?_)
                · refine i_252_193 ?_
                  refine i_252_194 (lv2 := [(4, Value.int 0), (3, Value.int (Int32.ofInt (S 155 r.toNat - S 153 r.toNat))), (0, Value.ref 128), (1, Value.int (Int32.ofInt r)), (2, Value.int (Int32.ofInt mode))]) rfl ?_
                  refine i_252_196 (x := 128) rfl ?_
                  refine i_252_197 (x := 128) rfl ?_
                  refine i_252_198 (v := Value.ref 129) hR.c128 rfl ?_
                  obtain ⟨fs, hobj⟩ := hR.obj (h := 129) (iNw (h := 129) (by decide) (by decide) (by decide))
                  have hbl32 : xbl (((V (160 + 2 * r.toNat)) / 2 ^ (-(S 155 r.toNat - S 153 r.toNat) : Int).toNat) + 1) ≤ 141000 := hR.bl (iNw (h := 129) (by decide) (by decide) (by decide)) (uv_s)
                  have hrun := r_bits (d := d + 5) (v := ((V (160 + 2 * r.toNat)) / 2 ^ (-(S 155 r.toNat - S 153 r.toNat) : Int).toNat) + 1) hR (iNw (h := 129) (by decide) (by decide) (by decide)) (uv_s)
                  refine i_252_201 hobj (Nat.le_of_ble_eq_true rfl) hrun ?_
                  refine i_252_204 ?_
                  refine i_252_206 (b_le (a := (xbl (((V (160 + 2 * r.toNat)) / 2 ^ (-(S 155 r.toNat - S 153 r.toNat) : Int).toNat) + 1) : Int)) (b := 63) ⟨by omega, by omega⟩ ⟨by decide, by decide⟩ fun c32 => ?_) (b_lt (a := 63) (b := (xbl (((V (160 + 2 * r.toNat)) / 2 ^ (-(S 155 r.toNat - S 153 r.toNat) : Int).toNat) + 1) : Int)) ⟨by decide, by decide⟩ ⟨by omega, by omega⟩ fun c32 => ?_)
                  · refine i_252_218 ?_
                    have hobj := hR.c128
                    have hrun := s_dis0 (d := d + 6) (w := w)
                    refine i_252_219 hobj (Nat.le_of_ble_eq_true rfl) hrun ?_
                    refine i_252_222 ?_
                    refine i_252_223 (lv2 := [(5, Value.long 0), (4, Value.int 0), (3, Value.int (Int32.ofInt (S 155 r.toNat - S 153 r.toNat))), (0, Value.ref 128), (1, Value.int (Int32.ofInt r)), (2, Value.int (Int32.ofInt mode))]) rfl ?_
                    refine i_252_225 ?_
                    refine i_252_227 (lv2 := [(7, Value.int 63), (5, Value.long 0), (4, Value.int 0), (3, Value.int (Int32.ofInt (S 155 r.toNat - S 153 r.toNat))), (0, Value.ref 128), (1, Value.int (Int32.ofInt r)), (2, Value.int (Int32.ofInt mode))]) rfl ?_
                    have hX : tlX S V r.toNat mode = ((V (160 + 2 * r.toNat)) / 2 ^ (-(S 155 r.toNat - S 153 r.toNat) : Int).toNat) + 1 := by unfold tlX; rw [if_pos (by omega), show gU _ _ _ _ _ _ = true by assumption]; rfl
                    have hV9 : (uv V 129 (((V (160 + 2 * r.toNat)) / 2 ^ (-(S 155 r.toNat - S 153 r.toNat) : Int).toNat) + 1)) 129 = tlX S V r.toNat mode := by rw [hX]; exact uv_s
                    refine tl_loop (d := d + 5) hR ?_ 64 _ (by omega) rfl rfl rfl (by rw [Nat.sub_self, Nat.pow_zero, Nat.mod_one]; rfl)
                    intro lv l0 l1 l5
                    rw [hV9, Nat.zero_add, Nat.pow_zero, Nat.div_one, Nat.sub_zero] at l5
                    refine i_252_267 (x := 128) l0 ?_
                    refine i_252_268 (v := Value.ref 156) hR.c128 rfl ?_
                    refine i_252_271 (x := Int32.ofInt r) l1 ?_
                    refine i_252_272z (v := Value.int (Int32.ofInt (S 156 ((r).toNat)))) (hR.row a156) (ix0 (T := r) (by omega) (by omega)) (ix1 (T := r) (by omega) (by omega) (by omega)) (ra (T := r) (by omega) (by omega) rfl) ?_
                    refine i_252_273 (z_eq (a := S 156 ((r).toNat)) ⟨by omega, by omega⟩ fun c0 => ?_) (z_ne (a := S 156 ((r).toNat)) ⟨by omega, by omega⟩ fun c0 => ?_)
                    · refine i_252_282 (x := Int64.ofInt ((tlX S V r.toNat mode % 2 ^ 64 : Nat) : Int)) l5 ?_
                      refine i_252_284 ?_
                      have e : (if S 154 r.toNat = 2 then (0 : Int) else if S 156 r.toNat = 0 then ((tlX S V r.toNat mode % 2 ^ 64 : Nat) : Int) else -((tlX S V r.toNat mode % 2 ^ 64 : Nat) : Int)) = ((tlX S V r.toNat mode % 2 ^ 64 : Nat) : Int) := by rw [if_neg (by omega)]; exact if_pos (by omega)
                      rw [e]
                      exact ⟨rfl, _, hR, (nV.up nV.refl (by omega))⟩
                    · refine i_252_276 (x := Int64.ofInt ((tlX S V r.toNat mode % 2 ^ 64 : Nat) : Int)) l5 ?_
                      refine i_252_278 (c := Int64.ofInt (-((tlX S V r.toNat mode % 2 ^ 64 : Nat) : Int))) (q_neg ((tlX S V r.toNat mode % 2 ^ 64 : Nat) : Int)) ?_
                      refine i_252_279 ?_
                      refine i_252_284 ?_
                      have e : (if S 154 r.toNat = 2 then (0 : Int) else if S 156 r.toNat = 0 then ((tlX S V r.toNat mode % 2 ^ 64 : Nat) : Int) else -((tlX S V r.toNat mode % 2 ^ 64 : Nat) : Int)) = -((tlX S V r.toNat mode % 2 ^ 64 : Nat) : Int) := by rw [if_neg (by omega)]; exact if_neg (by omega)
                      rw [e]
                      exact ⟨rfl, _, hR, (nV.up nV.refl (by omega))⟩
                  · refine i_252_209 (x := 0) rfl ?_
                    refine i_252_211 (fun c => absurd c (by decide)) (fun _ => ?_)
                    refine i_252_214 ?_
                    refine i_252_215 ?_
                    have hobj := hR.c128
                    obtain ⟨w, hrun, hR⟩ := s_dis1 (d := d + 1) hR
                    refine j_252_219 hobj (Nat.le_of_ble_eq_true rfl) hrun (xDone.t (ci := 15) xgl rfl rfl ?_)
                    exfalso
                    have hX : tlX S V r.toNat mode = ((V (160 + 2 * r.toNat)) / 2 ^ (-(S 155 r.toNat - S 153 r.toNat) : Int).toNat) + 1 := by unfold tlX; rw [if_pos (by omega), show gU _ _ _ _ _ _ = true by assumption]; rfl
                    rcases hok with h | h
                    · omega
                    · unfold tlOk at h; rw [hX] at h; rcases h.2.2 with h | h
                      · omega
                      · first | omega | simp_all
                · refine i_252_165 (x := 128) rfl ?_
                  refine i_252_166 (v := Value.ref 129) hR.c128 rfl ?_
                  obtain ⟨fs, hobj⟩ := hR.obj (h := 129) (iNw (h := 129) (by decide) (by decide) (by decide))
                  have hbl34 : xbl (((V (160 + 2 * r.toNat)) / 2 ^ (-(S 155 r.toNat - S 153 r.toNat) : Int).toNat) + 1) ≤ 141000 := hR.bl (iNw (h := 129) (by decide) (by decide) (by decide)) (uv_s)
                  have hrun := r_bits (d := d + 5) (v := ((V (160 + 2 * r.toNat)) / 2 ^ (-(S 155 r.toNat - S 153 r.toNat) : Int).toNat) + 1) hR (iNw (h := 129) (by decide) (by decide) (by decide)) (uv_s)
                  refine i_252_169 hobj (Nat.le_of_ble_eq_true rfl) hrun ?_
                  refine i_252_172 ?_
                  refine i_252_174 (b_ne (a := (xbl (((V (160 + 2 * r.toNat)) / 2 ^ (-(S 155 r.toNat - S 153 r.toNat) : Int).toNat) + 1) : Int)) (b := 64) ⟨by omega, by omega⟩ ⟨by decide, by decide⟩ fun c34 => ?_) (b_eq (a := (xbl (((V (160 + 2 * r.toNat)) / 2 ^ (-(S 155 r.toNat - S 153 r.toNat) : Int).toNat) + 1) : Int)) (b := 64) ⟨by omega, by omega⟩ ⟨by decide, by decide⟩ fun c34 => ?_)
                  · refine i_252_193 ?_
                    refine i_252_194 (lv2 := [(4, Value.int 0), (3, Value.int (Int32.ofInt (S 155 r.toNat - S 153 r.toNat))), (0, Value.ref 128), (1, Value.int (Int32.ofInt r)), (2, Value.int (Int32.ofInt mode))]) rfl ?_
                    refine i_252_196 (x := 128) rfl ?_
                    refine i_252_197 (x := 128) rfl ?_
                    refine i_252_198 (v := Value.ref 129) hR.c128 rfl ?_
                    obtain ⟨fs, hobj⟩ := hR.obj (h := 129) (iNw (h := 129) (by decide) (by decide) (by decide))
                    have hbl36 : xbl (((V (160 + 2 * r.toNat)) / 2 ^ (-(S 155 r.toNat - S 153 r.toNat) : Int).toNat) + 1) ≤ 141000 := hR.bl (iNw (h := 129) (by decide) (by decide) (by decide)) (uv_s)
                    have hrun := r_bits (d := d + 5) (v := ((V (160 + 2 * r.toNat)) / 2 ^ (-(S 155 r.toNat - S 153 r.toNat) : Int).toNat) + 1) hR (iNw (h := 129) (by decide) (by decide) (by decide)) (uv_s)
                    refine i_252_201 hobj (Nat.le_of_ble_eq_true rfl) hrun ?_
                    refine i_252_204 ?_
                    refine i_252_206 (b_le (a := (xbl (((V (160 + 2 * r.toNat)) / 2 ^ (-(S 155 r.toNat - S 153 r.toNat) : Int).toNat) + 1) : Int)) (b := 63) ⟨by omega, by omega⟩ ⟨by decide, by decide⟩ fun c36 => ?_) (b_lt (a := 63) (b := (xbl (((V (160 + 2 * r.toNat)) / 2 ^ (-(S 155 r.toNat - S 153 r.toNat) : Int).toNat) + 1) : Int)) ⟨by decide, by decide⟩ ⟨by omega, by omega⟩ fun c36 => ?_)
                    · refine i_252_218 ?_
                      have hobj := hR.c128
                      have hrun := s_dis0 (d := d + 6) (w := w)
                      refine i_252_219 hobj (Nat.le_of_ble_eq_true rfl) hrun ?_
                      refine i_252_222 ?_
                      refine i_252_223 (lv2 := [(5, Value.long 0), (4, Value.int 0), (3, Value.int (Int32.ofInt (S 155 r.toNat - S 153 r.toNat))), (0, Value.ref 128), (1, Value.int (Int32.ofInt r)), (2, Value.int (Int32.ofInt mode))]) rfl ?_
                      refine i_252_225 ?_
                      refine i_252_227 (lv2 := [(7, Value.int 63), (5, Value.long 0), (4, Value.int 0), (3, Value.int (Int32.ofInt (S 155 r.toNat - S 153 r.toNat))), (0, Value.ref 128), (1, Value.int (Int32.ofInt r)), (2, Value.int (Int32.ofInt mode))]) rfl ?_
                      have hX : tlX S V r.toNat mode = ((V (160 + 2 * r.toNat)) / 2 ^ (-(S 155 r.toNat - S 153 r.toNat) : Int).toNat) + 1 := by unfold tlX; rw [if_pos (by omega), show gU _ _ _ _ _ _ = true by assumption]; rfl
                      have hV9 : (uv V 129 (((V (160 + 2 * r.toNat)) / 2 ^ (-(S 155 r.toNat - S 153 r.toNat) : Int).toNat) + 1)) 129 = tlX S V r.toNat mode := by rw [hX]; exact uv_s
                      refine tl_loop (d := d + 5) hR ?_ 64 _ (by omega) rfl rfl rfl (by rw [Nat.sub_self, Nat.pow_zero, Nat.mod_one]; rfl)
                      intro lv l0 l1 l5
                      rw [hV9, Nat.zero_add, Nat.pow_zero, Nat.div_one, Nat.sub_zero] at l5
                      refine i_252_267 (x := 128) l0 ?_
                      refine i_252_268 (v := Value.ref 156) hR.c128 rfl ?_
                      refine i_252_271 (x := Int32.ofInt r) l1 ?_
                      refine i_252_272z (v := Value.int (Int32.ofInt (S 156 ((r).toNat)))) (hR.row a156) (ix0 (T := r) (by omega) (by omega)) (ix1 (T := r) (by omega) (by omega) (by omega)) (ra (T := r) (by omega) (by omega) rfl) ?_
                      refine i_252_273 (z_eq (a := S 156 ((r).toNat)) ⟨by omega, by omega⟩ fun c0 => ?_) (z_ne (a := S 156 ((r).toNat)) ⟨by omega, by omega⟩ fun c0 => ?_)
                      · refine i_252_282 (x := Int64.ofInt ((tlX S V r.toNat mode % 2 ^ 64 : Nat) : Int)) l5 ?_
                        refine i_252_284 ?_
                        have e : (if S 154 r.toNat = 2 then (0 : Int) else if S 156 r.toNat = 0 then ((tlX S V r.toNat mode % 2 ^ 64 : Nat) : Int) else -((tlX S V r.toNat mode % 2 ^ 64 : Nat) : Int)) = ((tlX S V r.toNat mode % 2 ^ 64 : Nat) : Int) := by rw [if_neg (by omega)]; exact if_pos (by omega)
                        rw [e]
                        exact ⟨rfl, _, hR, (nV.up nV.refl (by omega))⟩
                      · refine i_252_276 (x := Int64.ofInt ((tlX S V r.toNat mode % 2 ^ 64 : Nat) : Int)) l5 ?_
                        refine i_252_278 (c := Int64.ofInt (-((tlX S V r.toNat mode % 2 ^ 64 : Nat) : Int))) (q_neg ((tlX S V r.toNat mode % 2 ^ 64 : Nat) : Int)) ?_
                        refine i_252_279 ?_
                        refine i_252_284 ?_
                        have e : (if S 154 r.toNat = 2 then (0 : Int) else if S 156 r.toNat = 0 then ((tlX S V r.toNat mode % 2 ^ 64 : Nat) : Int) else -((tlX S V r.toNat mode % 2 ^ 64 : Nat) : Int)) = -((tlX S V r.toNat mode % 2 ^ 64 : Nat) : Int) := by rw [if_neg (by omega)]; exact if_neg (by omega)
                        rw [e]
                        exact ⟨rfl, _, hR, (nV.up nV.refl (by omega))⟩
                    · refine i_252_209 (x := 0) rfl ?_
                      refine i_252_211 (fun c => absurd c (by decide)) (fun _ => ?_)
                      refine i_252_214 ?_
                      refine i_252_215 ?_
                      have hobj := hR.c128
                      obtain ⟨w, hrun, hR⟩ := s_dis1 (d := d + 1) hR
                      refine j_252_219 hobj (Nat.le_of_ble_eq_true rfl) hrun (xDone.t (ci := 15) xgl rfl rfl ?_)
                      exfalso
                      have hX : tlX S V r.toNat mode = ((V (160 + 2 * r.toNat)) / 2 ^ (-(S 155 r.toNat - S 153 r.toNat) : Int).toNat) + 1 := by unfold tlX; rw [if_pos (by omega), show gU _ _ _ _ _ _ = true by assumption]; rfl
                      rcases hok with h | h
                      · omega
                      · unfold tlOk at h; rw [hX] at h; rcases h.2.2 with h | h
                        · omega
                        · first | omega | simp_all
                  · refine i_252_177 (x := 128) rfl ?_
                    refine i_252_178 (v := Value.ref 129) hR.c128 rfl ?_
                    refine i_252_181 ?_
                    obtain ⟨fs, hobj⟩ := hR.obj (h := 129) (iNw (h := 129) (by decide) (by decide) (by decide))
                    have hrun := r_any (d := d + 5) (v := ((V (160 + 2 * r.toNat)) / 2 ^ (-(S 155 r.toNat - S 153 r.toNat) : Int).toNat) + 1) (k := 63) hR (iNw (h := 129) (by decide) (by decide) (by decide)) (uv_s) (by omega) (by omega)
                    refine i_252_183 hobj (Nat.le_of_ble_eq_true rfl) hrun ?_
                    refine i_252_186 (zb_t fun c37 => ?_) (zb_f fun c37 => ?_)
                    · refine i_252_193 ?_
                      refine i_252_194 (lv2 := [(4, Value.int 0), (3, Value.int (Int32.ofInt (S 155 r.toNat - S 153 r.toNat))), (0, Value.ref 128), (1, Value.int (Int32.ofInt r)), (2, Value.int (Int32.ofInt mode))]) rfl ?_
                      refine i_252_196 (x := 128) rfl ?_
                      refine i_252_197 (x := 128) rfl ?_
                      refine i_252_198 (v := Value.ref 129) hR.c128 rfl ?_
                      obtain ⟨fs, hobj⟩ := hR.obj (h := 129) (iNw (h := 129) (by decide) (by decide) (by decide))
                      have hbl39 : xbl (((V (160 + 2 * r.toNat)) / 2 ^ (-(S 155 r.toNat - S 153 r.toNat) : Int).toNat) + 1) ≤ 141000 := hR.bl (iNw (h := 129) (by decide) (by decide) (by decide)) (uv_s)
                      have hrun := r_bits (d := d + 5) (v := ((V (160 + 2 * r.toNat)) / 2 ^ (-(S 155 r.toNat - S 153 r.toNat) : Int).toNat) + 1) hR (iNw (h := 129) (by decide) (by decide) (by decide)) (uv_s)
                      refine i_252_201 hobj (Nat.le_of_ble_eq_true rfl) hrun ?_
                      refine i_252_204 ?_
                      refine i_252_206 (b_le (a := (xbl (((V (160 + 2 * r.toNat)) / 2 ^ (-(S 155 r.toNat - S 153 r.toNat) : Int).toNat) + 1) : Int)) (b := 63) ⟨by omega, by omega⟩ ⟨by decide, by decide⟩ fun c39 => absurd c39 (by omega)) (b_lt (a := 63) (b := (xbl (((V (160 + 2 * r.toNat)) / 2 ^ (-(S 155 r.toNat - S 153 r.toNat) : Int).toNat) + 1) : Int)) ⟨by decide, by decide⟩ ⟨by omega, by omega⟩ fun c39 => ?_)
                      refine i_252_209 (x := 0) rfl ?_
                      refine i_252_211 (fun c => absurd c (by decide)) (fun _ => ?_)
                      refine i_252_214 ?_
                      refine i_252_215 ?_
                      have hobj := hR.c128
                      obtain ⟨w, hrun, hR⟩ := s_dis1 (d := d + 1) hR
                      refine j_252_219 hobj (Nat.le_of_ble_eq_true rfl) hrun (xDone.t (ci := 15) xgl rfl rfl ?_)
                      exfalso
                      have hX : tlX S V r.toNat mode = ((V (160 + 2 * r.toNat)) / 2 ^ (-(S 155 r.toNat - S 153 r.toNat) : Int).toNat) + 1 := by unfold tlX; rw [if_pos (by omega), show gU _ _ _ _ _ _ = true by assumption]; rfl
                      rcases hok with h | h
                      · omega
                      · unfold tlOk at h; rw [hX] at h; rcases h.2.2 with h | h
                        · omega
                        · first | omega | simp_all
                    · refine i_252_189 ?_
                      refine i_252_190 ?_
                      refine i_252_194 (lv2 := [(4, Value.int 1), (3, Value.int (Int32.ofInt (S 155 r.toNat - S 153 r.toNat))), (0, Value.ref 128), (1, Value.int (Int32.ofInt r)), (2, Value.int (Int32.ofInt mode))]) rfl ?_
                      refine i_252_196 (x := 128) rfl ?_
                      refine i_252_197 (x := 128) rfl ?_
                      refine i_252_198 (v := Value.ref 129) hR.c128 rfl ?_
                      obtain ⟨fs, hobj⟩ := hR.obj (h := 129) (iNw (h := 129) (by decide) (by decide) (by decide))
                      have hbl41 : xbl (((V (160 + 2 * r.toNat)) / 2 ^ (-(S 155 r.toNat - S 153 r.toNat) : Int).toNat) + 1) ≤ 141000 := hR.bl (iNw (h := 129) (by decide) (by decide) (by decide)) (uv_s)
                      have hrun := r_bits (d := d + 5) (v := ((V (160 + 2 * r.toNat)) / 2 ^ (-(S 155 r.toNat - S 153 r.toNat) : Int).toNat) + 1) hR (iNw (h := 129) (by decide) (by decide) (by decide)) (uv_s)
                      refine i_252_201 hobj (Nat.le_of_ble_eq_true rfl) hrun ?_
                      refine i_252_204 ?_
                      refine i_252_206 (b_le (a := (xbl (((V (160 + 2 * r.toNat)) / 2 ^ (-(S 155 r.toNat - S 153 r.toNat) : Int).toNat) + 1) : Int)) (b := 63) ⟨by omega, by omega⟩ ⟨by decide, by decide⟩ fun c41 => absurd c41 (by omega)) (b_lt (a := 63) (b := (xbl (((V (160 + 2 * r.toNat)) / 2 ^ (-(S 155 r.toNat - S 153 r.toNat) : Int).toNat) + 1) : Int)) ⟨by decide, by decide⟩ ⟨by omega, by omega⟩ fun c41 => ?_)
                      refine i_252_209 (x := 1) rfl ?_
                      refine i_252_211 (fun _ => ?_) (fun c => absurd c (by decide))
                      refine i_252_218 ?_
                      have hobj := hR.c128
                      have hrun := s_dis0 (d := d + 6) (w := w)
                      refine i_252_219 hobj (Nat.le_of_ble_eq_true rfl) hrun ?_
                      refine i_252_222 ?_
                      refine i_252_223 (lv2 := [(5, Value.long 0), (4, Value.int 1), (3, Value.int (Int32.ofInt (S 155 r.toNat - S 153 r.toNat))), (0, Value.ref 128), (1, Value.int (Int32.ofInt r)), (2, Value.int (Int32.ofInt mode))]) rfl ?_
                      refine i_252_225 ?_
                      refine i_252_227 (lv2 := [(7, Value.int 63), (5, Value.long 0), (4, Value.int 1), (3, Value.int (Int32.ofInt (S 155 r.toNat - S 153 r.toNat))), (0, Value.ref 128), (1, Value.int (Int32.ofInt r)), (2, Value.int (Int32.ofInt mode))]) rfl ?_
                      have hX : tlX S V r.toNat mode = ((V (160 + 2 * r.toNat)) / 2 ^ (-(S 155 r.toNat - S 153 r.toNat) : Int).toNat) + 1 := by unfold tlX; rw [if_pos (by omega), show gU _ _ _ _ _ _ = true by assumption]; rfl
                      have hV9 : (uv V 129 (((V (160 + 2 * r.toNat)) / 2 ^ (-(S 155 r.toNat - S 153 r.toNat) : Int).toNat) + 1)) 129 = tlX S V r.toNat mode := by rw [hX]; exact uv_s
                      refine tl_loop (d := d + 5) hR ?_ 64 _ (by omega) rfl rfl rfl (by rw [Nat.sub_self, Nat.pow_zero, Nat.mod_one]; rfl)
                      intro lv l0 l1 l5
                      rw [hV9, Nat.zero_add, Nat.pow_zero, Nat.div_one, Nat.sub_zero] at l5
                      refine i_252_267 (x := 128) l0 ?_
                      refine i_252_268 (v := Value.ref 156) hR.c128 rfl ?_
                      refine i_252_271 (x := Int32.ofInt r) l1 ?_
                      refine i_252_272z (v := Value.int (Int32.ofInt (S 156 ((r).toNat)))) (hR.row a156) (ix0 (T := r) (by omega) (by omega)) (ix1 (T := r) (by omega) (by omega) (by omega)) (ra (T := r) (by omega) (by omega) rfl) ?_
                      refine i_252_273 (z_eq (a := S 156 ((r).toNat)) ⟨by omega, by omega⟩ fun c0 => ?_) (z_ne (a := S 156 ((r).toNat)) ⟨by omega, by omega⟩ fun c0 => ?_)
                      · refine i_252_282 (x := Int64.ofInt ((tlX S V r.toNat mode % 2 ^ 64 : Nat) : Int)) l5 ?_
                        refine i_252_284 ?_
                        have e : (if S 154 r.toNat = 2 then (0 : Int) else if S 156 r.toNat = 0 then ((tlX S V r.toNat mode % 2 ^ 64 : Nat) : Int) else -((tlX S V r.toNat mode % 2 ^ 64 : Nat) : Int)) = ((tlX S V r.toNat mode % 2 ^ 64 : Nat) : Int) := by rw [if_neg (by omega)]; exact if_pos (by omega)
                        rw [e]
                        exact ⟨rfl, _, hR, (nV.up nV.refl (by omega))⟩
                      · refine i_252_276 (x := Int64.ofInt ((tlX S V r.toNat mode % 2 ^ 64 : Nat) : Int)) l5 ?_
                        refine i_252_278 (c := Int64.ofInt (-((tlX S V r.toNat mode % 2 ^ 64 : Nat) : Int))) (q_neg ((tlX S V r.toNat mode % 2 ^ 64 : Nat) : Int)) ?_
                        refine i_252_279 ?_
                        refine i_252_284 ?_
                        have e : (if S 154 r.toNat = 2 then (0 : Int) else if S 156 r.toNat = 0 then ((tlX S V r.toNat mode % 2 ^ 64 : Nat) : Int) else -((tlX S V r.toNat mode % 2 ^ 64 : Nat) : Int)) = -((tlX S V r.toNat mode % 2 ^ 64 : Nat) : Int) := by rw [if_neg (by omega)]; exact if_neg (by omega)
                        rw [e]
                        exact ⟨rfl, _, hR, (nV.up nV.refl (by omega))⟩
          · refine i_252_60 ?_
            refine i_252_61 ?_
            have hobj := hR.c128
            obtain ⟨w, hrun, hR⟩ := s_dis1 (d := d + 1) hR
            refine j_252_65 hobj (Nat.le_of_ble_eq_true rfl) hrun (xDone.t (ci := 15) xgl rfl rfl ?_)
            exfalso; omega
        · refine i_252_46 ?_
          refine i_252_47 ?_
          have e : (if S 154 r.toNat = 2 then (0 : Int) else if S 156 r.toNat = 0 then ((tlX S V r.toNat mode % 2 ^ 64 : Nat) : Int) else -((tlX S V r.toNat mode % 2 ^ 64 : Nat) : Int)) = 0 := if_pos (by omega)
          rw [e]
          exact ⟨rfl, _, hR, nV.refl⟩
      · refine i_252_28 ?_
        refine i_252_29 ?_
        have hobj := hR.c128
        obtain ⟨w, hrun, hR⟩ := s_dis1 (d := d + 1) hR
        refine j_252_33 hobj (Nat.le_of_ble_eq_true rfl) hrun (xDone.t (ci := 15) xgl rfl rfl ?_)
        exfalso; omega
  obtain ⟨o, w', h1, rfl, h2⟩ := key.run
  exact ⟨w', h1, h2⟩
set_option maxHeartbeats 8000000 in
theorem n_tol {d : Nat} {w0 w : xW} {S : Nat → Nat → Int} {V : Nat → Nat} {r mode : Int} (hR : mR w0 S V w) (hI : mI S V) (hr : 0 ≤ r ∧ r ≤ 15) (hmo : 0 ≤ mode ∧ mode ≤ 4) (hbad : (S 154 r.toNat ≠ 2 ∧ S 154 r.toNat ≠ 3) ∨ (S 154 r.toNat = 3 ∧ S 155 r.toNat ≤ 64 ∧ hid (¬ tlOk S V r.toNat mode)) ∨ (S 154 r.toNat = 3 ∧ 64 < S 155 r.toNat)) : ∃ w1 V1, xRun (d + 8) 252 [Value.ref 128, Value.int (Int32.ofInt r), Value.int (Int32.ofInt mode)] w (.inr w1.length) (w1 ++ [.inr (15, [])]) ∧ mR w0 (u2 S 128 19 (zor (S 128 19) 32)) V1 w1 ∧ nV V V1 := by
  obtain ⟨hp_r, hk_r, hn_r, ht_r, hx_r, -⟩ := hI.1 r.toNat (by omega)
  have key : xEv (d + 8) 252 0 (lv_args 0 [Value.ref 128, Value.int (Int32.ofInt r), Value.int (Int32.ofInt mode)]) [] w (fun o w' => ∃ w1 V1, o = .inr w1.length ∧ w' = w1 ++ [.inr (15, [])] ∧ mR w0 (u2 S 128 19 (zor (S 128 19) 32)) V1 w1 ∧ nV V V1) := by
    refine i_252_0 (x := Int32.ofInt r) rfl ?_
    have hrun := s_reg1 (d := d + 5) (w := w) (r := r) (by omega) (by omega)
    refine i_252_1 (Nat.le_of_ble_eq_true rfl) hrun ?_
    refine i_252_4 (x := Int32.ofInt mode) rfl ?_
    have hrun := s_mode1 (d := d + 5) (w := w) (r := mode) (by omega) (by omega)
    refine i_252_5 (Nat.le_of_ble_eq_true rfl) hrun ?_
    refine i_252_8 (x := 128) rfl ?_
    refine i_252_9 (x := 128) rfl ?_
    refine i_252_10 (v := Value.ref 154) hR.c128 rfl ?_
    refine i_252_13 (x := Int32.ofInt r) rfl ?_
    refine i_252_14 (v := Value.int (Int32.ofInt (S 154 ((r).toNat)))) (hR.row a154) (ix0 (T := r) (by omega) (by omega)) (ix1 (T := r) (by omega) (by omega) (by omega)) (ra (T := r) (by omega) (by omega) rfl) ?_
    refine i_252_15 (z_eq (a := S 154 ((r).toNat)) ⟨by omega, by omega⟩ fun c0 => ?_) (z_ne (a := S 154 ((r).toNat)) ⟨by omega, by omega⟩ fun c0 => ?_)
    · refine i_252_28 ?_
      refine i_252_29 ?_
      have hobj := hR.c128
      obtain ⟨w, hrun, hR⟩ := s_dis1 (d := d + 1) hR
      refine j_252_33 hobj (Nat.le_of_ble_eq_true rfl) hrun (xDone.t (ci := 15) xgl rfl rfl ?_)
      exact ⟨w, _, rfl, rfl, hR, nV.refl⟩
    · refine i_252_18 (x := 128) rfl ?_
      refine i_252_19 (v := Value.ref 154) hR.c128 rfl ?_
      refine i_252_22 (x := Int32.ofInt r) rfl ?_
      refine i_252_23 (v := Value.int (Int32.ofInt (S 154 ((r).toNat)))) (hR.row a154) (ix0 (T := r) (by omega) (by omega)) (ix1 (T := r) (by omega) (by omega) (by omega)) (ra (T := r) (by omega) (by omega) rfl) ?_
      refine i_252_24 ?_
      refine i_252_25 (b_ne (a := S 154 ((r).toNat)) (b := 1) ⟨by omega, by omega⟩ ⟨by decide, by decide⟩ fun c1 => ?_) (b_eq (a := S 154 ((r).toNat)) (b := 1) ⟨by omega, by omega⟩ ⟨by decide, by decide⟩ fun c1 => ?_)
      · refine i_252_32 ?_
        have hobj := hR.c128
        have hrun := s_dis0 (d := d + 6) (w := w)
        refine i_252_33 hobj (Nat.le_of_ble_eq_true rfl) hrun ?_
        refine i_252_36 (x := 128) rfl ?_
        refine i_252_37 (v := Value.ref 154) hR.c128 rfl ?_
        refine i_252_40 (x := Int32.ofInt r) rfl ?_
        refine i_252_41 (v := Value.int (Int32.ofInt (S 154 ((r).toNat)))) (hR.row a154) (ix0 (T := r) (by omega) (by omega)) (ix1 (T := r) (by omega) (by omega) (by omega)) (ra (T := r) (by omega) (by omega) rfl) ?_
        refine i_252_42 ?_
        refine i_252_43 (b_ne (a := S 154 ((r).toNat)) (b := 2) ⟨by omega, by omega⟩ ⟨by decide, by decide⟩ fun c2 => ?_) (b_eq (a := S 154 ((r).toNat)) (b := 2) ⟨by omega, by omega⟩ ⟨by decide, by decide⟩ fun c2 => ?_)
        · refine i_252_48 (x := 128) rfl ?_
          refine i_252_49 (x := 128) rfl ?_
          refine i_252_50 (v := Value.ref 155) hR.c128 rfl ?_
          refine i_252_53 (x := Int32.ofInt r) rfl ?_
          refine i_252_54 (v := Value.int (Int32.ofInt (S 155 ((r).toNat)))) (hR.row a155) (ix0 (T := r) (by omega) (by omega)) (ix1 (T := r) (by omega) (by omega) (by omega)) (ra (T := r) (by omega) (by omega) rfl) ?_
          refine i_252_55 ?_
          refine i_252_57 (b_le (a := S 155 ((r).toNat)) (b := 64) ⟨by omega, by omega⟩ ⟨by decide, by decide⟩ fun c3 => ?_) (b_lt (a := 64) (b := S 155 ((r).toNat)) ⟨by decide, by decide⟩ ⟨by omega, by omega⟩ fun c3 => ?_)
          · refine i_252_64 ?_
            have hobj := hR.c128
            have hrun := s_dis0 (d := d + 6) (w := w)
            refine i_252_65 hobj (Nat.le_of_ble_eq_true rfl) hrun ?_
            refine i_252_68 (x := 128) rfl ?_
            refine i_252_69 (x := Int32.ofInt r) rfl ?_
            have hobj := hR.c128
            obtain ⟨w, hrun, hR⟩ := s_exponent (d := d + 6) (r := r) hR (by omega) (by omega)
            refine i_252_70 hobj (Nat.le_of_ble_eq_true rfl) hrun ?_
            refine i_252_73 (lv2 := [(3, Value.int (Int32.ofInt (S 155 r.toNat - S 153 r.toNat))), (0, Value.ref 128), (1, Value.int (Int32.ofInt r)), (2, Value.int (Int32.ofInt mode))]) rfl ?_
            refine i_252_74 (x := 128) rfl ?_
            refine i_252_75 (v := Value.ref 129) hR.c128 rfl ?_
            refine i_252_78 (x := 128) rfl ?_
            refine i_252_79 (v := Value.ref 157) hR.c128 rfl ?_
            refine i_252_82 (x := Int32.ofInt r) rfl ?_
            obtain ⟨gp, hgp, hgr⟩ := hR.part (j := (r).toNat) (by omega)
            refine i_252_83 (v := Value.ref (160 + 2 * r.toNat)) hgp (ix0 (by omega) (by omega)) (ix1 (by omega) (by omega) (by omega)) (by rw [ixn (by omega) (by omega)]; exact hgr) ?_
            obtain ⟨fs, hobj⟩ := hR.obj (h := 129) (iNw (h := 129) (by decide) (by decide) (by decide))
            obtain ⟨w, hrun, hR⟩ := r_setn (d := d + 5) (v := V (160 + 2 * r.toNat)) (c := 4700) hR (iNw (h := 129) (by decide) (by decide) (by decide)) (iNp (r := r) (by omega) (by omega)) (rfl) rfl (by first | omega | (rw [xbl_div]; omega))
            refine i_252_84 hobj (Nat.le_of_ble_eq_true rfl) hrun ?_
            refine i_252_87 (x := Int32.ofInt (S 155 r.toNat - S 153 r.toNat)) rfl ?_
            refine i_252_88 (z_ge (a := S 155 r.toNat - S 153 r.toNat) ⟨by omega, by omega⟩ fun c4 => ?_) (z_lt (a := S 155 r.toNat - S 153 r.toNat) ⟨by omega, by omega⟩ fun c4 => ?_)
            · refine i_252_148 (x := 128) rfl ?_
              refine i_252_149 (v := Value.ref 129) hR.c128 rfl ?_
              refine i_252_152 (x := Int32.ofInt (S 155 r.toNat - S 153 r.toNat)) rfl ?_
              obtain ⟨fs, hobj⟩ := hR.obj (h := 129) (iNw (h := 129) (by decide) (by decide) (by decide))
              obtain ⟨w, hrun, hR⟩ := r_up (d := d + 5) (v := V (160 + 2 * r.toNat)) (c := 4700) (k := S 155 r.toNat - S 153 r.toNat) hR (iNw (h := 129) (by decide) (by decide) (by decide)) (uv_s) rfl (by omega) (by first | omega | (rw [xbl_div]; omega))
              rw [uvv] at hR
              refine i_252_153 hobj (Nat.le_of_ble_eq_true rfl) hrun ?_
              refine i_252_156 (x := 128) rfl ?_
              refine i_252_157 (v := Value.ref 156) hR.c128 rfl ?_
              refine i_252_160 (x := Int32.ofInt r) rfl ?_
              refine i_252_161z (v := Value.int (Int32.ofInt (S 156 ((r).toNat)))) (hR.row a156) (ix0 (T := r) (by omega) (by omega)) (ix1 (T := r) (by omega) (by omega) (by omega)) (ra (T := r) (by omega) (by omega) rfl) ?_
              refine i_252_162 (z_eq (a := S 156 ((r).toNat)) ⟨by omega, by omega⟩ fun c5 => ?_) (z_ne (a := S 156 ((r).toNat)) ⟨by omega, by omega⟩ fun c5 => ?_)
              · refine i_252_193 ?_
                refine i_252_194 (lv2 := [(4, Value.int 0), (3, Value.int (Int32.ofInt (S 155 r.toNat - S 153 r.toNat))), (0, Value.ref 128), (1, Value.int (Int32.ofInt r)), (2, Value.int (Int32.ofInt mode))]) rfl ?_
                refine i_252_196 (x := 128) rfl ?_
                refine i_252_197 (x := 128) rfl ?_
                refine i_252_198 (v := Value.ref 129) hR.c128 rfl ?_
                obtain ⟨fs, hobj⟩ := hR.obj (h := 129) (iNw (h := 129) (by decide) (by decide) (by decide))
                have hbl7 : xbl ((V (160 + 2 * r.toNat)) * 2 ^ (S 155 r.toNat - S 153 r.toNat : Int).toNat) ≤ 141000 := hR.bl (iNw (h := 129) (by decide) (by decide) (by decide)) (uv_s)
                have hrun := r_bits (d := d + 5) (v := (V (160 + 2 * r.toNat)) * 2 ^ (S 155 r.toNat - S 153 r.toNat : Int).toNat) hR (iNw (h := 129) (by decide) (by decide) (by decide)) (uv_s)
                refine i_252_201 hobj (Nat.le_of_ble_eq_true rfl) hrun ?_
                refine i_252_204 ?_
                refine i_252_206 (b_le (a := (xbl ((V (160 + 2 * r.toNat)) * 2 ^ (S 155 r.toNat - S 153 r.toNat : Int).toNat) : Int)) (b := 63) ⟨by omega, by omega⟩ ⟨by decide, by decide⟩ fun c7 => ?_) (b_lt (a := 63) (b := (xbl ((V (160 + 2 * r.toNat)) * 2 ^ (S 155 r.toNat - S 153 r.toNat : Int).toNat) : Int)) ⟨by decide, by decide⟩ ⟨by omega, by omega⟩ fun c7 => ?_)
                · refine i_252_218 ?_
                  have hobj := hR.c128
                  have hrun := s_dis0 (d := d + 6) (w := w)
                  refine i_252_219 hobj (Nat.le_of_ble_eq_true rfl) hrun ?_
                  refine i_252_222 ?_
                  refine i_252_223 (lv2 := [(5, Value.long 0), (4, Value.int 0), (3, Value.int (Int32.ofInt (S 155 r.toNat - S 153 r.toNat))), (0, Value.ref 128), (1, Value.int (Int32.ofInt r)), (2, Value.int (Int32.ofInt mode))]) rfl ?_
                  refine i_252_225 ?_
                  refine i_252_227 (lv2 := [(7, Value.int 63), (5, Value.long 0), (4, Value.int 0), (3, Value.int (Int32.ofInt (S 155 r.toNat - S 153 r.toNat))), (0, Value.ref 128), (1, Value.int (Int32.ofInt r)), (2, Value.int (Int32.ofInt mode))]) rfl ?_
                  exfalso
                  have hX : tlX S V r.toNat mode = (V (160 + 2 * r.toNat)) * 2 ^ (S 155 r.toNat - S 153 r.toNat : Int).toNat := by unfold tlX; rw [if_neg (by omega)]
                  rcases hbad with h | h | h
                  · omega
                  · refine h.2.2 ?_
                    unfold tlOk
                    rw [hX]
                    first | (left; omega) | (right; refine ⟨by omega, by omega, by assumption⟩)
                  · omega
                · refine i_252_209 (x := 0) rfl ?_
                  refine i_252_211 (fun c => absurd c (by decide)) (fun _ => ?_)
                  refine i_252_214 ?_
                  refine i_252_215 ?_
                  have hobj := hR.c128
                  obtain ⟨w, hrun, hR⟩ := s_dis1 (d := d + 1) hR
                  refine j_252_219 hobj (Nat.le_of_ble_eq_true rfl) hrun (xDone.t (ci := 15) xgl rfl rfl ?_)
                  exact ⟨w, _, rfl, rfl, hR, (nV.up nV.refl (by omega))⟩
              · refine i_252_165 (x := 128) rfl ?_
                refine i_252_166 (v := Value.ref 129) hR.c128 rfl ?_
                obtain ⟨fs, hobj⟩ := hR.obj (h := 129) (iNw (h := 129) (by decide) (by decide) (by decide))
                have hbl9 : xbl ((V (160 + 2 * r.toNat)) * 2 ^ (S 155 r.toNat - S 153 r.toNat : Int).toNat) ≤ 141000 := hR.bl (iNw (h := 129) (by decide) (by decide) (by decide)) (uv_s)
                have hrun := r_bits (d := d + 5) (v := (V (160 + 2 * r.toNat)) * 2 ^ (S 155 r.toNat - S 153 r.toNat : Int).toNat) hR (iNw (h := 129) (by decide) (by decide) (by decide)) (uv_s)
                refine i_252_169 hobj (Nat.le_of_ble_eq_true rfl) hrun ?_
                refine i_252_172 ?_
                refine i_252_174 (b_ne (a := (xbl ((V (160 + 2 * r.toNat)) * 2 ^ (S 155 r.toNat - S 153 r.toNat : Int).toNat) : Int)) (b := 64) ⟨by omega, by omega⟩ ⟨by decide, by decide⟩ fun c9 => ?_) (b_eq (a := (xbl ((V (160 + 2 * r.toNat)) * 2 ^ (S 155 r.toNat - S 153 r.toNat : Int).toNat) : Int)) (b := 64) ⟨by omega, by omega⟩ ⟨by decide, by decide⟩ fun c9 => ?_)
                · refine i_252_193 ?_
                  refine i_252_194 (lv2 := [(4, Value.int 0), (3, Value.int (Int32.ofInt (S 155 r.toNat - S 153 r.toNat))), (0, Value.ref 128), (1, Value.int (Int32.ofInt r)), (2, Value.int (Int32.ofInt mode))]) rfl ?_
                  refine i_252_196 (x := 128) rfl ?_
                  refine i_252_197 (x := 128) rfl ?_
                  refine i_252_198 (v := Value.ref 129) hR.c128 rfl ?_
                  obtain ⟨fs, hobj⟩ := hR.obj (h := 129) (iNw (h := 129) (by decide) (by decide) (by decide))
                  have hbl11 : xbl ((V (160 + 2 * r.toNat)) * 2 ^ (S 155 r.toNat - S 153 r.toNat : Int).toNat) ≤ 141000 := hR.bl (iNw (h := 129) (by decide) (by decide) (by decide)) (uv_s)
                  have hrun := r_bits (d := d + 5) (v := (V (160 + 2 * r.toNat)) * 2 ^ (S 155 r.toNat - S 153 r.toNat : Int).toNat) hR (iNw (h := 129) (by decide) (by decide) (by decide)) (uv_s)
                  refine i_252_201 hobj (Nat.le_of_ble_eq_true rfl) hrun ?_
                  refine i_252_204 ?_
                  refine i_252_206 (b_le (a := (xbl ((V (160 + 2 * r.toNat)) * 2 ^ (S 155 r.toNat - S 153 r.toNat : Int).toNat) : Int)) (b := 63) ⟨by omega, by omega⟩ ⟨by decide, by decide⟩ fun c11 => ?_) (b_lt (a := 63) (b := (xbl ((V (160 + 2 * r.toNat)) * 2 ^ (S 155 r.toNat - S 153 r.toNat : Int).toNat) : Int)) ⟨by decide, by decide⟩ ⟨by omega, by omega⟩ fun c11 => ?_)
                  · refine i_252_218 ?_
                    have hobj := hR.c128
                    have hrun := s_dis0 (d := d + 6) (w := w)
                    refine i_252_219 hobj (Nat.le_of_ble_eq_true rfl) hrun ?_
                    refine i_252_222 ?_
                    refine i_252_223 (lv2 := [(5, Value.long 0), (4, Value.int 0), (3, Value.int (Int32.ofInt (S 155 r.toNat - S 153 r.toNat))), (0, Value.ref 128), (1, Value.int (Int32.ofInt r)), (2, Value.int (Int32.ofInt mode))]) rfl ?_
                    refine i_252_225 ?_
                    refine i_252_227 (lv2 := [(7, Value.int 63), (5, Value.long 0), (4, Value.int 0), (3, Value.int (Int32.ofInt (S 155 r.toNat - S 153 r.toNat))), (0, Value.ref 128), (1, Value.int (Int32.ofInt r)), (2, Value.int (Int32.ofInt mode))]) rfl ?_
                    exfalso
                    have hX : tlX S V r.toNat mode = (V (160 + 2 * r.toNat)) * 2 ^ (S 155 r.toNat - S 153 r.toNat : Int).toNat := by unfold tlX; rw [if_neg (by omega)]
                    rcases hbad with h | h | h
                    · omega
                    · refine h.2.2 ?_
                      unfold tlOk
                      rw [hX]
                      first | (left; omega) | (right; refine ⟨by omega, by omega, by assumption⟩)
                    · omega
                  · refine i_252_209 (x := 0) rfl ?_
                    refine i_252_211 (fun c => absurd c (by decide)) (fun _ => ?_)
                    refine i_252_214 ?_
                    refine i_252_215 ?_
                    have hobj := hR.c128
                    obtain ⟨w, hrun, hR⟩ := s_dis1 (d := d + 1) hR
                    refine j_252_219 hobj (Nat.le_of_ble_eq_true rfl) hrun (xDone.t (ci := 15) xgl rfl rfl ?_)
                    exact ⟨w, _, rfl, rfl, hR, (nV.up nV.refl (by omega))⟩
                · refine i_252_177 (x := 128) rfl ?_
                  refine i_252_178 (v := Value.ref 129) hR.c128 rfl ?_
                  refine i_252_181 ?_
                  obtain ⟨fs, hobj⟩ := hR.obj (h := 129) (iNw (h := 129) (by decide) (by decide) (by decide))
                  have hrun := r_any (d := d + 5) (v := (V (160 + 2 * r.toNat)) * 2 ^ (S 155 r.toNat - S 153 r.toNat : Int).toNat) (k := 63) hR (iNw (h := 129) (by decide) (by decide) (by decide)) (uv_s) (by omega) (by omega)
                  refine i_252_183 hobj (Nat.le_of_ble_eq_true rfl) hrun ?_
                  refine i_252_186 (zb_t fun c12 => ?_) (zb_f fun c12 => ?_)
                  · refine i_252_193 ?_
                    refine i_252_194 (lv2 := [(4, Value.int 0), (3, Value.int (Int32.ofInt (S 155 r.toNat - S 153 r.toNat))), (0, Value.ref 128), (1, Value.int (Int32.ofInt r)), (2, Value.int (Int32.ofInt mode))]) rfl ?_
                    refine i_252_196 (x := 128) rfl ?_
                    refine i_252_197 (x := 128) rfl ?_
                    refine i_252_198 (v := Value.ref 129) hR.c128 rfl ?_
                    obtain ⟨fs, hobj⟩ := hR.obj (h := 129) (iNw (h := 129) (by decide) (by decide) (by decide))
                    have hbl14 : xbl ((V (160 + 2 * r.toNat)) * 2 ^ (S 155 r.toNat - S 153 r.toNat : Int).toNat) ≤ 141000 := hR.bl (iNw (h := 129) (by decide) (by decide) (by decide)) (uv_s)
                    have hrun := r_bits (d := d + 5) (v := (V (160 + 2 * r.toNat)) * 2 ^ (S 155 r.toNat - S 153 r.toNat : Int).toNat) hR (iNw (h := 129) (by decide) (by decide) (by decide)) (uv_s)
                    refine i_252_201 hobj (Nat.le_of_ble_eq_true rfl) hrun ?_
                    refine i_252_204 ?_
                    refine i_252_206 (b_le (a := (xbl ((V (160 + 2 * r.toNat)) * 2 ^ (S 155 r.toNat - S 153 r.toNat : Int).toNat) : Int)) (b := 63) ⟨by omega, by omega⟩ ⟨by decide, by decide⟩ fun c14 => absurd c14 (by omega)) (b_lt (a := 63) (b := (xbl ((V (160 + 2 * r.toNat)) * 2 ^ (S 155 r.toNat - S 153 r.toNat : Int).toNat) : Int)) ⟨by decide, by decide⟩ ⟨by omega, by omega⟩ fun c14 => ?_)
                    refine i_252_209 (x := 0) rfl ?_
                    refine i_252_211 (fun c => absurd c (by decide)) (fun _ => ?_)
                    refine i_252_214 ?_
                    refine i_252_215 ?_
                    have hobj := hR.c128
                    obtain ⟨w, hrun, hR⟩ := s_dis1 (d := d + 1) hR
                    refine j_252_219 hobj (Nat.le_of_ble_eq_true rfl) hrun (xDone.t (ci := 15) xgl rfl rfl ?_)
                    exact ⟨w, _, rfl, rfl, hR, (nV.up nV.refl (by omega))⟩
                  · refine i_252_189 ?_
                    refine i_252_190 ?_
                    refine i_252_194 (lv2 := [(4, Value.int 1), (3, Value.int (Int32.ofInt (S 155 r.toNat - S 153 r.toNat))), (0, Value.ref 128), (1, Value.int (Int32.ofInt r)), (2, Value.int (Int32.ofInt mode))]) rfl ?_
                    refine i_252_196 (x := 128) rfl ?_
                    refine i_252_197 (x := 128) rfl ?_
                    refine i_252_198 (v := Value.ref 129) hR.c128 rfl ?_
                    obtain ⟨fs, hobj⟩ := hR.obj (h := 129) (iNw (h := 129) (by decide) (by decide) (by decide))
                    have hbl16 : xbl ((V (160 + 2 * r.toNat)) * 2 ^ (S 155 r.toNat - S 153 r.toNat : Int).toNat) ≤ 141000 := hR.bl (iNw (h := 129) (by decide) (by decide) (by decide)) (uv_s)
                    have hrun := r_bits (d := d + 5) (v := (V (160 + 2 * r.toNat)) * 2 ^ (S 155 r.toNat - S 153 r.toNat : Int).toNat) hR (iNw (h := 129) (by decide) (by decide) (by decide)) (uv_s)
                    refine i_252_201 hobj (Nat.le_of_ble_eq_true rfl) hrun ?_
                    refine i_252_204 ?_
                    refine i_252_206 (b_le (a := (xbl ((V (160 + 2 * r.toNat)) * 2 ^ (S 155 r.toNat - S 153 r.toNat : Int).toNat) : Int)) (b := 63) ⟨by omega, by omega⟩ ⟨by decide, by decide⟩ fun c16 => absurd c16 (by omega)) (b_lt (a := 63) (b := (xbl ((V (160 + 2 * r.toNat)) * 2 ^ (S 155 r.toNat - S 153 r.toNat : Int).toNat) : Int)) ⟨by decide, by decide⟩ ⟨by omega, by omega⟩ fun c16 => ?_)
                    refine i_252_209 (x := 1) rfl ?_
                    refine i_252_211 (fun _ => ?_) (fun c => absurd c (by decide))
                    refine i_252_218 ?_
                    have hobj := hR.c128
                    have hrun := s_dis0 (d := d + 6) (w := w)
                    refine i_252_219 hobj (Nat.le_of_ble_eq_true rfl) hrun ?_
                    refine i_252_222 ?_
                    refine i_252_223 (lv2 := [(5, Value.long 0), (4, Value.int 1), (3, Value.int (Int32.ofInt (S 155 r.toNat - S 153 r.toNat))), (0, Value.ref 128), (1, Value.int (Int32.ofInt r)), (2, Value.int (Int32.ofInt mode))]) rfl ?_
                    refine i_252_225 ?_
                    refine i_252_227 (lv2 := [(7, Value.int 63), (5, Value.long 0), (4, Value.int 1), (3, Value.int (Int32.ofInt (S 155 r.toNat - S 153 r.toNat))), (0, Value.ref 128), (1, Value.int (Int32.ofInt r)), (2, Value.int (Int32.ofInt mode))]) rfl ?_
                    exfalso
                    have hX : tlX S V r.toNat mode = (V (160 + 2 * r.toNat)) * 2 ^ (S 155 r.toNat - S 153 r.toNat : Int).toNat := by unfold tlX; rw [if_neg (by omega)]
                    rcases hbad with h | h | h
                    · omega
                    · refine h.2.2 ?_
                      unfold tlOk
                      rw [hX]
                      first | (left; omega) | (right; refine ⟨by omega, by omega, by assumption⟩)
                    · omega
            · refine i_252_91 (x := 128) rfl ?_
              refine i_252_92 (v := Value.ref 157) hR.c128 rfl ?_
              refine i_252_95 (x := Int32.ofInt r) rfl ?_
              obtain ⟨gp, hgp, hgr⟩ := hR.part (j := (r).toNat) (by omega)
              refine i_252_96 (v := Value.ref (160 + 2 * r.toNat)) hgp (ix0 (by omega) (by omega)) (ix1 (by omega) (by omega) (by omega)) (by rw [ixn (by omega) (by omega)]; exact hgr) ?_
              refine i_252_97 (x := Int32.ofInt (S 155 r.toNat - S 153 r.toNat)) rfl ?_
              refine i_252_98 (c := Int32.ofInt (-(S 155 r.toNat - S 153 r.toNat))) (o_neg (S 155 r.toNat - S 153 r.toNat)) ?_
              refine i_252_99 ?_
              refine i_252_100 (x := 128) rfl ?_
              refine i_252_101 (v := Value.ref 156) hR.c128 rfl ?_
              refine i_252_104 (x := Int32.ofInt r) rfl ?_
              refine i_252_105z (v := Value.int (Int32.ofInt (S 156 ((r).toNat)))) (hR.row a156) (ix0 (T := r) (by omega) (by omega)) (ix1 (T := r) (by omega) (by omega) (by omega)) (ra (T := r) (by omega) (by omega) rfl) ?_
              refine i_252_106 (x := Int32.ofInt mode) rfl ?_
              refine i_252_107 (x := 128) rfl ?_
              refine i_252_108 (v := Value.ref 157) hR.c128 rfl ?_
              refine i_252_111 (x := Int32.ofInt r) rfl ?_
              obtain ⟨gp, hgp, hgr⟩ := hR.part (j := (r).toNat) (by omega)
              refine i_252_112 (v := Value.ref (160 + 2 * r.toNat)) hgp (ix0 (by omega) (by omega)) (ix1 (by omega) (by omega) (by omega)) (by rw [ixn (by omega) (by omega)]; exact hgr) ?_
              refine i_252_113 (x := Int32.ofInt (S 155 r.toNat - S 153 r.toNat)) rfl ?_
              refine i_252_114 (c := Int32.ofInt (-(S 155 r.toNat - S 153 r.toNat))) (o_neg (S 155 r.toNat - S 153 r.toNat)) ?_
              obtain ⟨fs, hobj⟩ := hR.obj (h := 160 + 2 * r.toNat) (iNp (r := r) (by omega) (by omega))
              have hrun := r_bit (d := d + 5) (v := V (160 + 2 * r.toNat)) (k := -(S 155 r.toNat - S 153 r.toNat)) hR (iNp (r := r) (by omega) (by omega)) ((uv_n (by omega)).trans (rfl)) (by omega) (by omega)
              refine i_252_115 hobj (Nat.le_of_ble_eq_true rfl) hrun ?_
              obtain ⟨w, hrun, hR⟩ := s_goesUp (d := d + 4) (h := 160 + 2 * r.toNat) (cut := -(S 155 r.toNat - S 153 r.toNat)) (more := 0) (sg := S 156 ((r).toNat)) (mode := mode) (odd := bb (nbit (V (160 + 2 * r.toNat)) (-(S 155 r.toNat - S 153 r.toNat)))) hR (iNp (r := r) (by omega) (by omega)) (by omega) (by omega) (by first | omega | exact bb_01 _) (by omega) (by omega) (by omega)
              rw [show (uv V 129 (V (160 + 2 * r.toNat))) (160 + 2 * r.toNat) = V (160 + 2 * r.toNat) from (uv_n (by omega)).trans (rfl)] at hrun
              refine i_252_118 (Nat.le_of_ble_eq_true rfl) hrun ?_
              refine i_252_121 (lv2 := [(4, Value.int (Int32.ofInt (bb (gU (V (160 + 2 * r.toNat)) (-(S 155 r.toNat - S 153 r.toNat)) 0 (S 156 ((r).toNat)) mode (bb (nbit (V (160 + 2 * r.toNat)) (-(S 155 r.toNat - S 153 r.toNat)))))))), (3, Value.int (Int32.ofInt (S 155 r.toNat - S 153 r.toNat))), (0, Value.ref 128), (1, Value.int (Int32.ofInt r)), (2, Value.int (Int32.ofInt mode))]) rfl ?_
              refine i_252_123 (x := 128) rfl ?_
              refine i_252_124 (v := Value.ref 129) hR.c128 rfl ?_
              refine i_252_127 (x := Int32.ofInt (S 155 r.toNat - S 153 r.toNat)) rfl ?_
              refine i_252_128 (c := Int32.ofInt (-(S 155 r.toNat - S 153 r.toNat))) (o_neg (S 155 r.toNat - S 153 r.toNat)) ?_
              obtain ⟨fs, hobj⟩ := hR.obj (h := 129) (iNw (h := 129) (by decide) (by decide) (by decide))
              obtain ⟨w, hrun, hR⟩ := r_down (d := d + 5) (v := V (160 + 2 * r.toNat)) (k := -(S 155 r.toNat - S 153 r.toNat)) hR (iNw (h := 129) (by decide) (by decide) (by decide)) (uv_s) (by omega) (by omega)
              rw [uvv] at hR
              refine i_252_129 hobj (Nat.le_of_ble_eq_true rfl) hrun ?_
              refine i_252_132 (x := Int32.ofInt (bb (gU (V (160 + 2 * r.toNat)) (-(S 155 r.toNat - S 153 r.toNat)) 0 (S 156 ((r).toNat)) mode (bb (nbit (V (160 + 2 * r.toNat)) (-(S 155 r.toNat - S 153 r.toNat))))))) rfl ?_
              refine i_252_134 (zb_f fun c17 => ?_) (zb_t fun c17 => ?_)
              · refine i_252_145 ?_
                refine i_252_156 (x := 128) rfl ?_
                refine i_252_157 (v := Value.ref 156) hR.c128 rfl ?_
                refine i_252_160 (x := Int32.ofInt r) rfl ?_
                refine i_252_161z (v := Value.int (Int32.ofInt (S 156 ((r).toNat)))) (hR.row a156) (ix0 (T := r) (by omega) (by omega)) (ix1 (T := r) (by omega) (by omega) (by omega)) (ra (T := r) (by omega) (by omega) rfl) ?_
                refine i_252_162 (z_eq (a := S 156 ((r).toNat)) ⟨by omega, by omega⟩ fun c18 => ?_) (z_ne (a := S 156 ((r).toNat)) ⟨by omega, by omega⟩ fun c18 => ?_)
                · refine i_252_193 ?_
                  refine i_252_194 (lv2 := [(4, Value.int 0), (3, Value.int (Int32.ofInt (S 155 r.toNat - S 153 r.toNat))), (0, Value.ref 128), (1, Value.int (Int32.ofInt r)), (2, Value.int (Int32.ofInt mode))]) rfl ?_
                  refine i_252_196 (x := 128) rfl ?_
                  refine i_252_197 (x := 128) rfl ?_
                  refine i_252_198 (v := Value.ref 129) hR.c128 rfl ?_
                  obtain ⟨fs, hobj⟩ := hR.obj (h := 129) (iNw (h := 129) (by decide) (by decide) (by decide))
                  have hbl20 : xbl ((V (160 + 2 * r.toNat)) / 2 ^ (-(S 155 r.toNat - S 153 r.toNat) : Int).toNat) ≤ 141000 := hR.bl (iNw (h := 129) (by decide) (by decide) (by decide)) (uv_s)
                  have hrun := r_bits (d := d + 5) (v := (V (160 + 2 * r.toNat)) / 2 ^ (-(S 155 r.toNat - S 153 r.toNat) : Int).toNat) hR (iNw (h := 129) (by decide) (by decide) (by decide)) (uv_s)
                  refine i_252_201 hobj (Nat.le_of_ble_eq_true rfl) hrun ?_
                  refine i_252_204 ?_
                  refine i_252_206 (b_le (a := (xbl ((V (160 + 2 * r.toNat)) / 2 ^ (-(S 155 r.toNat - S 153 r.toNat) : Int).toNat) : Int)) (b := 63) ⟨by omega, by omega⟩ ⟨by decide, by decide⟩ fun c20 => ?_) (b_lt (a := 63) (b := (xbl ((V (160 + 2 * r.toNat)) / 2 ^ (-(S 155 r.toNat - S 153 r.toNat) : Int).toNat) : Int)) ⟨by decide, by decide⟩ ⟨by omega, by omega⟩ fun c20 => ?_)
                  · refine i_252_218 ?_
                    have hobj := hR.c128
                    have hrun := s_dis0 (d := d + 6) (w := w)
                    refine i_252_219 hobj (Nat.le_of_ble_eq_true rfl) hrun ?_
                    refine i_252_222 ?_
                    refine i_252_223 (lv2 := [(5, Value.long 0), (4, Value.int 0), (3, Value.int (Int32.ofInt (S 155 r.toNat - S 153 r.toNat))), (0, Value.ref 128), (1, Value.int (Int32.ofInt r)), (2, Value.int (Int32.ofInt mode))]) rfl ?_
                    refine i_252_225 ?_
                    refine i_252_227 (lv2 := [(7, Value.int 63), (5, Value.long 0), (4, Value.int 0), (3, Value.int (Int32.ofInt (S 155 r.toNat - S 153 r.toNat))), (0, Value.ref 128), (1, Value.int (Int32.ofInt r)), (2, Value.int (Int32.ofInt mode))]) rfl ?_
                    exfalso
                    have hX : tlX S V r.toNat mode = (V (160 + 2 * r.toNat)) / 2 ^ (-(S 155 r.toNat - S 153 r.toNat) : Int).toNat := by unfold tlX; rw [if_pos (by omega), show gU _ _ _ _ _ _ = false by assumption]; rfl
                    rcases hbad with h | h | h
                    · omega
                    · refine h.2.2 ?_
                      unfold tlOk
                      rw [hX]
                      first | (left; omega) | (right; refine ⟨by omega, by omega, by assumption⟩)
                    · omega
                  · refine i_252_209 (x := 0) rfl ?_
                    refine i_252_211 (fun c => absurd c (by decide)) (fun _ => ?_)
                    refine i_252_214 ?_
                    refine i_252_215 ?_
                    have hobj := hR.c128
                    obtain ⟨w, hrun, hR⟩ := s_dis1 (d := d + 1) hR
                    refine j_252_219 hobj (Nat.le_of_ble_eq_true rfl) hrun (xDone.t (ci := 15) xgl rfl rfl ?_)
                    exact ⟨w, _, rfl, rfl, hR, (nV.up nV.refl (by omega))⟩
                · refine i_252_165 (x := 128) rfl ?_
                  refine i_252_166 (v := Value.ref 129) hR.c128 rfl ?_
                  obtain ⟨fs, hobj⟩ := hR.obj (h := 129) (iNw (h := 129) (by decide) (by decide) (by decide))
                  have hbl22 : xbl ((V (160 + 2 * r.toNat)) / 2 ^ (-(S 155 r.toNat - S 153 r.toNat) : Int).toNat) ≤ 141000 := hR.bl (iNw (h := 129) (by decide) (by decide) (by decide)) (uv_s)
                  have hrun := r_bits (d := d + 5) (v := (V (160 + 2 * r.toNat)) / 2 ^ (-(S 155 r.toNat - S 153 r.toNat) : Int).toNat) hR (iNw (h := 129) (by decide) (by decide) (by decide)) (uv_s)
                  refine i_252_169 hobj (Nat.le_of_ble_eq_true rfl) hrun ?_
                  refine i_252_172 ?_
                  refine i_252_174 (b_ne (a := (xbl ((V (160 + 2 * r.toNat)) / 2 ^ (-(S 155 r.toNat - S 153 r.toNat) : Int).toNat) : Int)) (b := 64) ⟨by omega, by omega⟩ ⟨by decide, by decide⟩ fun c22 => ?_) (b_eq (a := (xbl ((V (160 + 2 * r.toNat)) / 2 ^ (-(S 155 r.toNat - S 153 r.toNat) : Int).toNat) : Int)) (b := 64) ⟨by omega, by omega⟩ ⟨by decide, by decide⟩ fun c22 => ?_)
                  · refine i_252_193 ?_
                    refine i_252_194 (lv2 := [(4, Value.int 0), (3, Value.int (Int32.ofInt (S 155 r.toNat - S 153 r.toNat))), (0, Value.ref 128), (1, Value.int (Int32.ofInt r)), (2, Value.int (Int32.ofInt mode))]) rfl ?_
                    refine i_252_196 (x := 128) rfl ?_
                    refine i_252_197 (x := 128) rfl ?_
                    refine i_252_198 (v := Value.ref 129) hR.c128 rfl ?_
                    obtain ⟨fs, hobj⟩ := hR.obj (h := 129) (iNw (h := 129) (by decide) (by decide) (by decide))
                    have hbl24 : xbl ((V (160 + 2 * r.toNat)) / 2 ^ (-(S 155 r.toNat - S 153 r.toNat) : Int).toNat) ≤ 141000 := hR.bl (iNw (h := 129) (by decide) (by decide) (by decide)) (uv_s)
                    have hrun := r_bits (d := d + 5) (v := (V (160 + 2 * r.toNat)) / 2 ^ (-(S 155 r.toNat - S 153 r.toNat) : Int).toNat) hR (iNw (h := 129) (by decide) (by decide) (by decide)) (uv_s)
                    refine i_252_201 hobj (Nat.le_of_ble_eq_true rfl) hrun ?_
                    refine i_252_204 ?_
                    refine i_252_206 (b_le (a := (xbl ((V (160 + 2 * r.toNat)) / 2 ^ (-(S 155 r.toNat - S 153 r.toNat) : Int).toNat) : Int)) (b := 63) ⟨by omega, by omega⟩ ⟨by decide, by decide⟩ fun c24 => ?_) (b_lt (a := 63) (b := (xbl ((V (160 + 2 * r.toNat)) / 2 ^ (-(S 155 r.toNat - S 153 r.toNat) : Int).toNat) : Int)) ⟨by decide, by decide⟩ ⟨by omega, by omega⟩ fun c24 => ?_)
                    · refine i_252_218 ?_
                      have hobj := hR.c128
                      have hrun := s_dis0 (d := d + 6) (w := w)
                      refine i_252_219 hobj (Nat.le_of_ble_eq_true rfl) hrun ?_
                      refine i_252_222 ?_
                      refine i_252_223 (lv2 := [(5, Value.long 0), (4, Value.int 0), (3, Value.int (Int32.ofInt (S 155 r.toNat - S 153 r.toNat))), (0, Value.ref 128), (1, Value.int (Int32.ofInt r)), (2, Value.int (Int32.ofInt mode))]) rfl ?_
                      refine i_252_225 ?_
                      refine i_252_227 (lv2 := [(7, Value.int 63), (5, Value.long 0), (4, Value.int 0), (3, Value.int (Int32.ofInt (S 155 r.toNat - S 153 r.toNat))), (0, Value.ref 128), (1, Value.int (Int32.ofInt r)), (2, Value.int (Int32.ofInt mode))]) rfl ?_
                      exfalso
                      have hX : tlX S V r.toNat mode = (V (160 + 2 * r.toNat)) / 2 ^ (-(S 155 r.toNat - S 153 r.toNat) : Int).toNat := by unfold tlX; rw [if_pos (by omega), show gU _ _ _ _ _ _ = false by assumption]; rfl
                      rcases hbad with h | h | h
                      · omega
                      · refine h.2.2 ?_
                        unfold tlOk
                        rw [hX]
                        first | (left; omega) | (right; refine ⟨by omega, by omega, by assumption⟩)
                      · omega
                    · refine i_252_209 (x := 0) rfl ?_
                      refine i_252_211 (fun c => absurd c (by decide)) (fun _ => ?_)
                      refine i_252_214 ?_
                      refine i_252_215 ?_
                      have hobj := hR.c128
                      obtain ⟨w, hrun, hR⟩ := s_dis1 (d := d + 1) hR
                      refine j_252_219 hobj (Nat.le_of_ble_eq_true rfl) hrun (xDone.t (ci := 15) xgl rfl rfl ?_)
                      exact ⟨w, _, rfl, rfl, hR, (nV.up nV.refl (by omega))⟩
                  · refine i_252_177 (x := 128) rfl ?_
                    refine i_252_178 (v := Value.ref 129) hR.c128 rfl ?_
                    refine i_252_181 ?_
                    obtain ⟨fs, hobj⟩ := hR.obj (h := 129) (iNw (h := 129) (by decide) (by decide) (by decide))
                    have hrun := r_any (d := d + 5) (v := (V (160 + 2 * r.toNat)) / 2 ^ (-(S 155 r.toNat - S 153 r.toNat) : Int).toNat) (k := 63) hR (iNw (h := 129) (by decide) (by decide) (by decide)) (uv_s) (by omega) (by omega)
                    refine i_252_183 hobj (Nat.le_of_ble_eq_true rfl) hrun ?_
                    refine i_252_186 (zb_t fun c25 => ?_) (zb_f fun c25 => ?_)
                    · refine i_252_193 ?_
                      refine i_252_194 (lv2 := [(4, Value.int 0), (3, Value.int (Int32.ofInt (S 155 r.toNat - S 153 r.toNat))), (0, Value.ref 128), (1, Value.int (Int32.ofInt r)), (2, Value.int (Int32.ofInt mode))]) rfl ?_
                      refine i_252_196 (x := 128) rfl ?_
                      refine i_252_197 (x := 128) rfl ?_
                      refine i_252_198 (v := Value.ref 129) hR.c128 rfl ?_
                      obtain ⟨fs, hobj⟩ := hR.obj (h := 129) (iNw (h := 129) (by decide) (by decide) (by decide))
                      have hbl27 : xbl ((V (160 + 2 * r.toNat)) / 2 ^ (-(S 155 r.toNat - S 153 r.toNat) : Int).toNat) ≤ 141000 := hR.bl (iNw (h := 129) (by decide) (by decide) (by decide)) (uv_s)
                      have hrun := r_bits (d := d + 5) (v := (V (160 + 2 * r.toNat)) / 2 ^ (-(S 155 r.toNat - S 153 r.toNat) : Int).toNat) hR (iNw (h := 129) (by decide) (by decide) (by decide)) (uv_s)
                      refine i_252_201 hobj (Nat.le_of_ble_eq_true rfl) hrun ?_
                      refine i_252_204 ?_
                      refine i_252_206 (b_le (a := (xbl ((V (160 + 2 * r.toNat)) / 2 ^ (-(S 155 r.toNat - S 153 r.toNat) : Int).toNat) : Int)) (b := 63) ⟨by omega, by omega⟩ ⟨by decide, by decide⟩ fun c27 => absurd c27 (by omega)) (b_lt (a := 63) (b := (xbl ((V (160 + 2 * r.toNat)) / 2 ^ (-(S 155 r.toNat - S 153 r.toNat) : Int).toNat) : Int)) ⟨by decide, by decide⟩ ⟨by omega, by omega⟩ fun c27 => ?_)
                      refine i_252_209 (x := 0) rfl ?_
                      refine i_252_211 (fun c => absurd c (by decide)) (fun _ => ?_)
                      refine i_252_214 ?_
                      refine i_252_215 ?_
                      have hobj := hR.c128
                      obtain ⟨w, hrun, hR⟩ := s_dis1 (d := d + 1) hR
                      refine j_252_219 hobj (Nat.le_of_ble_eq_true rfl) hrun (xDone.t (ci := 15) xgl rfl rfl ?_)
                      exact ⟨w, _, rfl, rfl, hR, (nV.up nV.refl (by omega))⟩
                    · refine i_252_189 ?_
                      refine i_252_190 ?_
                      refine i_252_194 (lv2 := [(4, Value.int 1), (3, Value.int (Int32.ofInt (S 155 r.toNat - S 153 r.toNat))), (0, Value.ref 128), (1, Value.int (Int32.ofInt r)), (2, Value.int (Int32.ofInt mode))]) rfl ?_
                      refine i_252_196 (x := 128) rfl ?_
                      refine i_252_197 (x := 128) rfl ?_
                      refine i_252_198 (v := Value.ref 129) hR.c128 rfl ?_
                      obtain ⟨fs, hobj⟩ := hR.obj (h := 129) (iNw (h := 129) (by decide) (by decide) (by decide))
                      have hbl29 : xbl ((V (160 + 2 * r.toNat)) / 2 ^ (-(S 155 r.toNat - S 153 r.toNat) : Int).toNat) ≤ 141000 := hR.bl (iNw (h := 129) (by decide) (by decide) (by decide)) (uv_s)
                      have hrun := r_bits (d := d + 5) (v := (V (160 + 2 * r.toNat)) / 2 ^ (-(S 155 r.toNat - S 153 r.toNat) : Int).toNat) hR (iNw (h := 129) (by decide) (by decide) (by decide)) (uv_s)
                      refine i_252_201 hobj (Nat.le_of_ble_eq_true rfl) hrun ?_
                      refine i_252_204 ?_
                      refine i_252_206 (b_le (a := (xbl ((V (160 + 2 * r.toNat)) / 2 ^ (-(S 155 r.toNat - S 153 r.toNat) : Int).toNat) : Int)) (b := 63) ⟨by omega, by omega⟩ ⟨by decide, by decide⟩ fun c29 => absurd c29 (by omega)) (b_lt (a := 63) (b := (xbl ((V (160 + 2 * r.toNat)) / 2 ^ (-(S 155 r.toNat - S 153 r.toNat) : Int).toNat) : Int)) ⟨by decide, by decide⟩ ⟨by omega, by omega⟩ fun c29 => ?_)
                      refine i_252_209 (x := 1) rfl ?_
                      refine i_252_211 (fun _ => ?_) (fun c => absurd c (by decide))
                      refine i_252_218 ?_
                      have hobj := hR.c128
                      have hrun := s_dis0 (d := d + 6) (w := w)
                      refine i_252_219 hobj (Nat.le_of_ble_eq_true rfl) hrun ?_
                      refine i_252_222 ?_
                      refine i_252_223 (lv2 := [(5, Value.long 0), (4, Value.int 1), (3, Value.int (Int32.ofInt (S 155 r.toNat - S 153 r.toNat))), (0, Value.ref 128), (1, Value.int (Int32.ofInt r)), (2, Value.int (Int32.ofInt mode))]) rfl ?_
                      refine i_252_225 ?_
                      refine i_252_227 (lv2 := [(7, Value.int 63), (5, Value.long 0), (4, Value.int 1), (3, Value.int (Int32.ofInt (S 155 r.toNat - S 153 r.toNat))), (0, Value.ref 128), (1, Value.int (Int32.ofInt r)), (2, Value.int (Int32.ofInt mode))]) rfl ?_
                      exfalso
                      have hX : tlX S V r.toNat mode = (V (160 + 2 * r.toNat)) / 2 ^ (-(S 155 r.toNat - S 153 r.toNat) : Int).toNat := by unfold tlX; rw [if_pos (by omega), show gU _ _ _ _ _ _ = false by assumption]; rfl
                      rcases hbad with h | h | h
                      · omega
                      · refine h.2.2 ?_
                        unfold tlOk
                        rw [hX]
                        first | (left; omega) | (right; refine ⟨by omega, by omega, by assumption⟩)
                      · omega
              · refine i_252_137 (x := 128) rfl ?_
                refine i_252_138 (v := Value.ref 129) hR.c128 rfl ?_
                refine i_252_141 ?_
                obtain ⟨fs, hobj⟩ := hR.obj (h := 129) (iNw (h := 129) (by decide) (by decide) (by decide))
                obtain ⟨w, hrun, hR⟩ := r_addi (d := d + 5) (v := (V (160 + 2 * r.toNat)) / 2 ^ (-(S 155 r.toNat - S 153 r.toNat) : Int).toNat) (c := 4700) (k := 1) hR (iNw (h := 129) (by decide) (by decide) (by decide)) (uv_s) rfl (by omega) (by omega) (by first | omega | (rw [xbl_div]; omega))
                rw [show (1 : Int).toNat = 1 from rfl] at hR
                rw [uvv] at hR
                refine i_252_142 hobj (Nat.le_of_ble_eq_true rfl) hrun ?_
                refine i_252_145 ?_
                refine i_252_156 (x := 128) rfl ?_
                refine i_252_157 (v := Value.ref 156) hR.c128 rfl ?_
                refine i_252_160 (x := Int32.ofInt r) rfl ?_
                refine i_252_161z (v := Value.int (Int32.ofInt (S 156 ((r).toNat)))) (hR.row a156) (ix0 (T := r) (by omega) (by omega)) (ix1 (T := r) (by omega) (by omega) (by omega)) (ra (T := r) (by omega) (by omega) rfl) ?_
                refine i_252_162 (z_eq (a := S 156 ((r).toNat)) ⟨by omega, by omega⟩ fun c30 => ?_) (z_ne (a := S 156 ((r).toNat)) ⟨by omega, by omega⟩ fun c30 => ?_)
                · refine i_252_193 ?_
                  refine i_252_194 (lv2 := [(4, Value.int 0), (3, Value.int (Int32.ofInt (S 155 r.toNat - S 153 r.toNat))), (0, Value.ref 128), (1, Value.int (Int32.ofInt r)), (2, Value.int (Int32.ofInt mode))]) rfl ?_
                  refine i_252_196 (x := 128) rfl ?_
                  refine i_252_197 (x := 128) rfl ?_
                  refine i_252_198 (v := Value.ref 129) hR.c128 rfl ?_
                  obtain ⟨fs, hobj⟩ := hR.obj (h := 129) (iNw (h := 129) (by decide) (by decide) (by decide))
                  have hbl32 : xbl (((V (160 + 2 * r.toNat)) / 2 ^ (-(S 155 r.toNat - S 153 r.toNat) : Int).toNat) + 1) ≤ 141000 := hR.bl (iNw (h := 129) (by decide) (by decide) (by decide)) (uv_s)
                  have hrun := r_bits (d := d + 5) (v := ((V (160 + 2 * r.toNat)) / 2 ^ (-(S 155 r.toNat - S 153 r.toNat) : Int).toNat) + 1) hR (iNw (h := 129) (by decide) (by decide) (by decide)) (uv_s)
                  refine i_252_201 hobj (Nat.le_of_ble_eq_true rfl) hrun ?_
                  refine i_252_204 ?_
                  refine i_252_206 (b_le (a := (xbl (((V (160 + 2 * r.toNat)) / 2 ^ (-(S 155 r.toNat - S 153 r.toNat) : Int).toNat) + 1) : Int)) (b := 63) ⟨by omega, by omega⟩ ⟨by decide, by decide⟩ fun c32 => ?_) (b_lt (a := 63) (b := (xbl (((V (160 + 2 * r.toNat)) / 2 ^ (-(S 155 r.toNat - S 153 r.toNat) : Int).toNat) + 1) : Int)) ⟨by decide, by decide⟩ ⟨by omega, by omega⟩ fun c32 => ?_)
                  · refine i_252_218 ?_
                    have hobj := hR.c128
                    have hrun := s_dis0 (d := d + 6) (w := w)
                    refine i_252_219 hobj (Nat.le_of_ble_eq_true rfl) hrun ?_
                    refine i_252_222 ?_
                    refine i_252_223 (lv2 := [(5, Value.long 0), (4, Value.int 0), (3, Value.int (Int32.ofInt (S 155 r.toNat - S 153 r.toNat))), (0, Value.ref 128), (1, Value.int (Int32.ofInt r)), (2, Value.int (Int32.ofInt mode))]) rfl ?_
                    refine i_252_225 ?_
                    refine i_252_227 (lv2 := [(7, Value.int 63), (5, Value.long 0), (4, Value.int 0), (3, Value.int (Int32.ofInt (S 155 r.toNat - S 153 r.toNat))), (0, Value.ref 128), (1, Value.int (Int32.ofInt r)), (2, Value.int (Int32.ofInt mode))]) rfl ?_
                    exfalso
                    have hX : tlX S V r.toNat mode = ((V (160 + 2 * r.toNat)) / 2 ^ (-(S 155 r.toNat - S 153 r.toNat) : Int).toNat) + 1 := by unfold tlX; rw [if_pos (by omega), show gU _ _ _ _ _ _ = true by assumption]; rfl
                    rcases hbad with h | h | h
                    · omega
                    · refine h.2.2 ?_
                      unfold tlOk
                      rw [hX]
                      first | (left; omega) | (right; refine ⟨by omega, by omega, by assumption⟩)
                    · omega
                  · refine i_252_209 (x := 0) rfl ?_
                    refine i_252_211 (fun c => absurd c (by decide)) (fun _ => ?_)
                    refine i_252_214 ?_
                    refine i_252_215 ?_
                    have hobj := hR.c128
                    obtain ⟨w, hrun, hR⟩ := s_dis1 (d := d + 1) hR
                    refine j_252_219 hobj (Nat.le_of_ble_eq_true rfl) hrun (xDone.t (ci := 15) xgl rfl rfl ?_)
                    exact ⟨w, _, rfl, rfl, hR, (nV.up nV.refl (by omega))⟩
                · refine i_252_165 (x := 128) rfl ?_
                  refine i_252_166 (v := Value.ref 129) hR.c128 rfl ?_
                  obtain ⟨fs, hobj⟩ := hR.obj (h := 129) (iNw (h := 129) (by decide) (by decide) (by decide))
                  have hbl34 : xbl (((V (160 + 2 * r.toNat)) / 2 ^ (-(S 155 r.toNat - S 153 r.toNat) : Int).toNat) + 1) ≤ 141000 := hR.bl (iNw (h := 129) (by decide) (by decide) (by decide)) (uv_s)
                  have hrun := r_bits (d := d + 5) (v := ((V (160 + 2 * r.toNat)) / 2 ^ (-(S 155 r.toNat - S 153 r.toNat) : Int).toNat) + 1) hR (iNw (h := 129) (by decide) (by decide) (by decide)) (uv_s)
                  refine i_252_169 hobj (Nat.le_of_ble_eq_true rfl) hrun ?_
                  refine i_252_172 ?_
                  refine i_252_174 (b_ne (a := (xbl (((V (160 + 2 * r.toNat)) / 2 ^ (-(S 155 r.toNat - S 153 r.toNat) : Int).toNat) + 1) : Int)) (b := 64) ⟨by omega, by omega⟩ ⟨by decide, by decide⟩ fun c34 => ?_) (b_eq (a := (xbl (((V (160 + 2 * r.toNat)) / 2 ^ (-(S 155 r.toNat - S 153 r.toNat) : Int).toNat) + 1) : Int)) (b := 64) ⟨by omega, by omega⟩ ⟨by decide, by decide⟩ fun c34 => ?_)
                  · refine i_252_193 ?_
                    refine i_252_194 (lv2 := [(4, Value.int 0), (3, Value.int (Int32.ofInt (S 155 r.toNat - S 153 r.toNat))), (0, Value.ref 128), (1, Value.int (Int32.ofInt r)), (2, Value.int (Int32.ofInt mode))]) rfl ?_
                    refine i_252_196 (x := 128) rfl ?_
                    refine i_252_197 (x := 128) rfl ?_
                    refine i_252_198 (v := Value.ref 129) hR.c128 rfl ?_
                    obtain ⟨fs, hobj⟩ := hR.obj (h := 129) (iNw (h := 129) (by decide) (by decide) (by decide))
                    have hbl36 : xbl (((V (160 + 2 * r.toNat)) / 2 ^ (-(S 155 r.toNat - S 153 r.toNat) : Int).toNat) + 1) ≤ 141000 := hR.bl (iNw (h := 129) (by decide) (by decide) (by decide)) (uv_s)
                    have hrun := r_bits (d := d + 5) (v := ((V (160 + 2 * r.toNat)) / 2 ^ (-(S 155 r.toNat - S 153 r.toNat) : Int).toNat) + 1) hR (iNw (h := 129) (by decide) (by decide) (by decide)) (uv_s)
                    refine i_252_201 hobj (Nat.le_of_ble_eq_true rfl) hrun ?_
                    refine i_252_204 ?_
                    refine i_252_206 (b_le (a := (xbl (((V (160 + 2 * r.toNat)) / 2 ^ (-(S 155 r.toNat - S 153 r.toNat) : Int).toNat) + 1) : Int)) (b := 63) ⟨by omega, by omega⟩ ⟨by decide, by decide⟩ fun c36 => ?_) (b_lt (a := 63) (b := (xbl (((V (160 + 2 * r.toNat)) / 2 ^ (-(S 155 r.toNat - S 153 r.toNat) : Int).toNat) + 1) : Int)) ⟨by decide, by decide⟩ ⟨by omega, by omega⟩ fun c36 => ?_)
                    · refine i_252_218 ?_
                      have hobj := hR.c128
                      have hrun := s_dis0 (d := d + 6) (w := w)
                      refine i_252_219 hobj (Nat.le_of_ble_eq_true rfl) hrun ?_
                      refine i_252_222 ?_
                      refine i_252_223 (lv2 := [(5, Value.long 0), (4, Value.int 0), (3, Value.int (Int32.ofInt (S 155 r.toNat - S 153 r.toNat))), (0, Value.ref 128), (1, Value.int (Int32.ofInt r)), (2, Value.int (Int32.ofInt mode))]) rfl ?_
                      refine i_252_225 ?_
                      refine i_252_227 (lv2 := [(7, Value.int 63), (5, Value.long 0), (4, Value.int 0), (3, Value.int (Int32.ofInt (S 155 r.toNat - S 153 r.toNat))), (0, Value.ref 128), (1, Value.int (Int32.ofInt r)), (2, Value.int (Int32.ofInt mode))]) rfl ?_
                      exfalso
                      have hX : tlX S V r.toNat mode = ((V (160 + 2 * r.toNat)) / 2 ^ (-(S 155 r.toNat - S 153 r.toNat) : Int).toNat) + 1 := by unfold tlX; rw [if_pos (by omega), show gU _ _ _ _ _ _ = true by assumption]; rfl
                      rcases hbad with h | h | h
                      · omega
                      · refine h.2.2 ?_
                        unfold tlOk
                        rw [hX]
                        first | (left; omega) | (right; refine ⟨by omega, by omega, by assumption⟩)
                      · omega
                    · refine i_252_209 (x := 0) rfl ?_
                      refine i_252_211 (fun c => absurd c (by decide)) (fun _ => ?_)
                      refine i_252_214 ?_
                      refine i_252_215 ?_
                      have hobj := hR.c128
                      obtain ⟨w, hrun, hR⟩ := s_dis1 (d := d + 1) hR
                      refine j_252_219 hobj (Nat.le_of_ble_eq_true rfl) hrun (xDone.t (ci := 15) xgl rfl rfl ?_)
                      exact ⟨w, _, rfl, rfl, hR, (nV.up nV.refl (by omega))⟩
                  · refine i_252_177 (x := 128) rfl ?_
                    refine i_252_178 (v := Value.ref 129) hR.c128 rfl ?_
                    refine i_252_181 ?_
                    obtain ⟨fs, hobj⟩ := hR.obj (h := 129) (iNw (h := 129) (by decide) (by decide) (by decide))
                    have hrun := r_any (d := d + 5) (v := ((V (160 + 2 * r.toNat)) / 2 ^ (-(S 155 r.toNat - S 153 r.toNat) : Int).toNat) + 1) (k := 63) hR (iNw (h := 129) (by decide) (by decide) (by decide)) (uv_s) (by omega) (by omega)
                    refine i_252_183 hobj (Nat.le_of_ble_eq_true rfl) hrun ?_
                    refine i_252_186 (zb_t fun c37 => ?_) (zb_f fun c37 => ?_)
                    · refine i_252_193 ?_
                      refine i_252_194 (lv2 := [(4, Value.int 0), (3, Value.int (Int32.ofInt (S 155 r.toNat - S 153 r.toNat))), (0, Value.ref 128), (1, Value.int (Int32.ofInt r)), (2, Value.int (Int32.ofInt mode))]) rfl ?_
                      refine i_252_196 (x := 128) rfl ?_
                      refine i_252_197 (x := 128) rfl ?_
                      refine i_252_198 (v := Value.ref 129) hR.c128 rfl ?_
                      obtain ⟨fs, hobj⟩ := hR.obj (h := 129) (iNw (h := 129) (by decide) (by decide) (by decide))
                      have hbl39 : xbl (((V (160 + 2 * r.toNat)) / 2 ^ (-(S 155 r.toNat - S 153 r.toNat) : Int).toNat) + 1) ≤ 141000 := hR.bl (iNw (h := 129) (by decide) (by decide) (by decide)) (uv_s)
                      have hrun := r_bits (d := d + 5) (v := ((V (160 + 2 * r.toNat)) / 2 ^ (-(S 155 r.toNat - S 153 r.toNat) : Int).toNat) + 1) hR (iNw (h := 129) (by decide) (by decide) (by decide)) (uv_s)
                      refine i_252_201 hobj (Nat.le_of_ble_eq_true rfl) hrun ?_
                      refine i_252_204 ?_
                      refine i_252_206 (b_le (a := (xbl (((V (160 + 2 * r.toNat)) / 2 ^ (-(S 155 r.toNat - S 153 r.toNat) : Int).toNat) + 1) : Int)) (b := 63) ⟨by omega, by omega⟩ ⟨by decide, by decide⟩ fun c39 => absurd c39 (by omega)) (b_lt (a := 63) (b := (xbl (((V (160 + 2 * r.toNat)) / 2 ^ (-(S 155 r.toNat - S 153 r.toNat) : Int).toNat) + 1) : Int)) ⟨by decide, by decide⟩ ⟨by omega, by omega⟩ fun c39 => ?_)
                      refine i_252_209 (x := 0) rfl ?_
                      refine i_252_211 (fun c => absurd c (by decide)) (fun _ => ?_)
                      refine i_252_214 ?_
                      refine i_252_215 ?_
                      have hobj := hR.c128
                      obtain ⟨w, hrun, hR⟩ := s_dis1 (d := d + 1) hR
                      refine j_252_219 hobj (Nat.le_of_ble_eq_true rfl) hrun (xDone.t (ci := 15) xgl rfl rfl ?_)
                      exact ⟨w, _, rfl, rfl, hR, (nV.up nV.refl (by omega))⟩
                    · refine i_252_189 ?_
                      refine i_252_190 ?_
                      refine i_252_194 (lv2 := [(4, Value.int 1), (3, Value.int (Int32.ofInt (S 155 r.toNat - S 153 r.toNat))), (0, Value.ref 128), (1, Value.int (Int32.ofInt r)), (2, Value.int (Int32.ofInt mode))]) rfl ?_
                      refine i_252_196 (x := 128) rfl ?_
                      refine i_252_197 (x := 128) rfl ?_
                      refine i_252_198 (v := Value.ref 129) hR.c128 rfl ?_
                      obtain ⟨fs, hobj⟩ := hR.obj (h := 129) (iNw (h := 129) (by decide) (by decide) (by decide))
                      have hbl41 : xbl (((V (160 + 2 * r.toNat)) / 2 ^ (-(S 155 r.toNat - S 153 r.toNat) : Int).toNat) + 1) ≤ 141000 := hR.bl (iNw (h := 129) (by decide) (by decide) (by decide)) (uv_s)
                      have hrun := r_bits (d := d + 5) (v := ((V (160 + 2 * r.toNat)) / 2 ^ (-(S 155 r.toNat - S 153 r.toNat) : Int).toNat) + 1) hR (iNw (h := 129) (by decide) (by decide) (by decide)) (uv_s)
                      refine i_252_201 hobj (Nat.le_of_ble_eq_true rfl) hrun ?_
                      refine i_252_204 ?_
                      refine i_252_206 (b_le (a := (xbl (((V (160 + 2 * r.toNat)) / 2 ^ (-(S 155 r.toNat - S 153 r.toNat) : Int).toNat) + 1) : Int)) (b := 63) ⟨by omega, by omega⟩ ⟨by decide, by decide⟩ fun c41 => absurd c41 (by omega)) (b_lt (a := 63) (b := (xbl (((V (160 + 2 * r.toNat)) / 2 ^ (-(S 155 r.toNat - S 153 r.toNat) : Int).toNat) + 1) : Int)) ⟨by decide, by decide⟩ ⟨by omega, by omega⟩ fun c41 => ?_)
                      refine i_252_209 (x := 1) rfl ?_
                      refine i_252_211 (fun _ => ?_) (fun c => absurd c (by decide))
                      refine i_252_218 ?_
                      have hobj := hR.c128
                      have hrun := s_dis0 (d := d + 6) (w := w)
                      refine i_252_219 hobj (Nat.le_of_ble_eq_true rfl) hrun ?_
                      refine i_252_222 ?_
                      refine i_252_223 (lv2 := [(5, Value.long 0), (4, Value.int 1), (3, Value.int (Int32.ofInt (S 155 r.toNat - S 153 r.toNat))), (0, Value.ref 128), (1, Value.int (Int32.ofInt r)), (2, Value.int (Int32.ofInt mode))]) rfl ?_
                      refine i_252_225 ?_
                      refine i_252_227 (lv2 := [(7, Value.int 63), (5, Value.long 0), (4, Value.int 1), (3, Value.int (Int32.ofInt (S 155 r.toNat - S 153 r.toNat))), (0, Value.ref 128), (1, Value.int (Int32.ofInt r)), (2, Value.int (Int32.ofInt mode))]) rfl ?_
                      exfalso
                      have hX : tlX S V r.toNat mode = ((V (160 + 2 * r.toNat)) / 2 ^ (-(S 155 r.toNat - S 153 r.toNat) : Int).toNat) + 1 := by unfold tlX; rw [if_pos (by omega), show gU _ _ _ _ _ _ = true by assumption]; rfl
                      rcases hbad with h | h | h
                      · omega
                      · refine h.2.2 ?_
                        unfold tlOk
                        rw [hX]
                        first | (left; omega) | (right; refine ⟨by omega, by omega, by assumption⟩)
                      · omega
          · refine i_252_60 ?_
            refine i_252_61 ?_
            have hobj := hR.c128
            obtain ⟨w, hrun, hR⟩ := s_dis1 (d := d + 1) hR
            refine j_252_65 hobj (Nat.le_of_ble_eq_true rfl) hrun (xDone.t (ci := 15) xgl rfl rfl ?_)
            exact ⟨w, _, rfl, rfl, hR, nV.refl⟩
        · refine i_252_46 ?_
          refine i_252_47 ?_
          exfalso; omega
      · refine i_252_28 ?_
        refine i_252_29 ?_
        have hobj := hR.c128
        obtain ⟨w, hrun, hR⟩ := s_dis1 (d := d + 1) hR
        refine j_252_33 hobj (Nat.le_of_ble_eq_true rfl) hrun (xDone.t (ci := 15) xgl rfl rfl ?_)
        exact ⟨w, _, rfl, rfl, hR, nV.refl⟩
  obtain ⟨o, w', h1, w1, V1, rfl, rfl, h2⟩ := key.run
  exact ⟨w1, V1, h1, h2⟩
