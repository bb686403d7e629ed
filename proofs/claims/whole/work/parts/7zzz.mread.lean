/-! reading of the reference -/
/-- what read leaves: of a good text, of a bad one -/
def rdQ (w0 : xW) (S : Nat → Nat → Int) (V : Nat → Nat) (r : Nat) (mode : Int) (rx : Nat) (x : Option (Int × Int × Nat × Int)) (o : Option Value ⊕ Nat) (w' : xW) : Prop := match x with
  | some x => o = .inl (some (.int (Int32.ofInt (sRdO (S 153 r) (S 128 17) (S 128 18) (S 128 20) (S 128 19) mode rx x).2.2.2.2.1))) ∧ ∃ S' V', mR w0 S' V' w' ∧ oP S S' V V' r (sRdO (S 153 r) (S 128 17) (S 128 18) (S 128 20) (S 128 19) mode rx x)
  | none => ∃ w1 V1, o = .inr w1.length ∧ w' = w1 ++ [.inr (15, [])] ∧ mR w0 S V1 w1 ∧ nV V V1
theorem hid.i {P : Prop} (h : P) : hid P := h
theorem rd_bl {v c rx dg : Nat} (h : xbl v ≤ 6 * c) (hr : rx ≤ 36) (hd : dg < rx) : xbl (v * rx + dg) ≤ 6 * (c + 1) := by
  refine xbl_le ?_
  have h1 := Nat.lt_of_lt_of_le (xbl_lt v) (Nat.pow_le_pow_right (show 0 < 2 by decide) h)
  have h2 : (v + 1) * rx ≤ 2 ^ (6 * c) * 64 := Nat.mul_le_mul h1 (by omega)
  rw [show 6 * (c + 1) = 6 * c + 6 by omega, Nat.pow_add]
  rw [Nat.add_mul] at h2
  have : (2 : Nat) ^ 6 = 64 := by decide
  omega
section
variable {d rx n : Nat} {w0 w : xW} {S : Nat → Nat → Int} {V V1 : Nat → Nat} {r mode sg : Int} {lv : xLv} {Q : Option Value ⊕ Nat → xW → Prop}
set_option maxHeartbeats 4000000 in
theorem rr_F {v b : Nat} {e : Int} (hR : mR w0 S V1 w) (hI : mI S V) (hnV : nV V V1) (h129 : V1 129 = v) (hv : xbl v ≤ 24576) (hB : ∀ j, -128 ≤ S 158 j ∧ S 158 j ≤ 127) (hn : n ≤ 4096) (hrx : 2 ≤ rx ∧ rx ≤ 36) (hsg : sg = 0 ∨ sg = 1) (hr : 0 ≤ r ∧ r ≤ 15) (hmo : 0 ≤ mode ∧ mode ≤ 4) (hb : b ≤ 4096) (he : -1000000 ≤ e ∧ e ≤ 1000000) (l0 : xld lv 0 = some (Value.ref 128)) (l1 : xld lv 1 = some (Value.int (Int32.ofInt r))) (l2 : xld lv 2 = some (Value.int (Int32.ofInt (rx : Int)))) (l3 : xld lv 3 = some (Value.int (Int32.ofInt mode))) (l4 : xld lv 4 = some (Value.int (Int32.ofInt (n : Int)))) (l6 : xld lv 6 = some (Value.int (Int32.ofInt sg))) (l8 : xld lv 8 = some (Value.int (Int32.ofInt (b : Int)))) (l11 : xld lv 11 = some (Value.int (Int32.ofInt e))) : xEv (d + 8) 258 451 lv [] w (rdQ w0 S V r.toNat mode rx (some (if v = 0 then 2 else 3, sg, v, -((b : Nat) : Int) + e))) := by
  obtain ⟨hp_r, -⟩ := hI.1 r.toNat (by omega)
  have hi_l := hI.2.1
  have hi_g := hI.2.2.1
  have hi_f := hI.2.2.2
  refine i_258_451 (x := 128) l0 ?_
  refine i_258_452 (v := Value.ref 129) hR.c128 rfl ?_
  obtain ⟨n1, hsz, hn1, hz1⟩ := hR.size (h := 129) (v := v) (iNw (h := 129) (by decide) (by decide) (by decide)) (h129)
  refine i_258_455 (v := Value.int (Int32.ofInt (n1 : Int))) hsz rfl ?_
  refine i_258_458 (z_ne (a := (n1 : Int)) ⟨by omega, by omega⟩ fun c1 => ?_) (z_eq (a := (n1 : Int)) ⟨by omega, by omega⟩ fun c1 => ?_)
  · refine i_258_470 (x := 128) l0 ?_
    refine i_258_471 (x := Int32.ofInt r) l1 ?_
    refine i_258_472 (x := Int32.ofInt (rx : Int)) l2 ?_
    refine i_258_473 (x := Int32.ofInt e) l11 ?_
    refine i_258_475 (x := Int32.ofInt (b : Int)) l8 ?_
    refine i_258_477 (c := Int32.ofInt (e - (b : Int))) (o_sub e (b : Int)) ?_
    refine i_258_478 (x := Int32.ofInt sg) l6 ?_
    refine i_258_480 (x := Int32.ofInt mode) l3 ?_
    have hobj := hR.c128
    obtain ⟨w, hrun, S2, V2, hR, hP⟩ := s_scl (d := d) (r := r) (rx := rx) (sc := e - (b : Int)) (sg := sg) (mode := mode) (v := v) hR (nS.mI nS.refl hnV hI) h129 hv hr hrx (by omega) hsg hmo
    refine i_258_481 hobj (Nat.le_of_ble_eq_true rfl) hrun ?_
    refine i_258_484 ?_
    have eo : sRdO (S 153 r.toNat) (S 128 17) (S 128 18) (S 128 20) (S 128 19) mode rx (if v = 0 then 2 else 3, sg, v, -((b : Nat) : Int) + e) = sScl (S 153 r.toNat) (S 128 17) (S 128 18) (S 128 20) sg mode rx v (e - (b : Int)) (S 128 19) := by
      unfold sRdO
      rw [if_neg (by omega : ¬ v = 0)]
      dsimp only
      rw [if_neg (by decide), show -((b : Nat) : Int) + e = e - (b : Int) by omega]
    unfold rdQ
    dsimp only
    rw [eo]
    exact ⟨rfl, _, _, hR, oP.near nS.refl hnV hP⟩
  · refine i_258_461 (x := 128) l0 ?_
    refine i_258_462 (x := Int32.ofInt r) l1 ?_
    refine i_258_463 ?_
    refine i_258_464 (x := Int32.ofInt sg) l6 ?_
    have hobj := hR.c128
    obtain ⟨w, hrun, hR⟩ := s_special (d := d + 6) (r := r) (k := 2) (s := sg) hR (by omega) (by omega) (by omega)
    refine i_258_466 hobj (Nat.le_of_ble_eq_true rfl) hrun ?_
    refine i_258_469 ?_
    have eo : sRdO (S 153 r.toNat) (S 128 17) (S 128 18) (S 128 20) (S 128 19) mode rx (if v = 0 then 2 else 3, sg, v, -((b : Nat) : Int) + e) = oS 2 sg (S 128 19) := by
      unfold sRdO
      rw [if_pos (by omega : v = 0)]
      dsimp only
      rw [if_pos (by decide)]
    unfold rdQ
    dsimp only
    rw [eo]
    exact ⟨rfl, _, _, hR, oP_special (by omega) (by decide) nS.refl hnV rfl⟩
set_option maxHeartbeats 4000000 in
theorem rr_E {b : Nat} {dn : Int} {X : Option Nat} (hB : ∀ j, -128 ≤ S 158 j ∧ S 158 j ≤ 127) (hn : n ≤ 4096) (hrx : 2 ≤ rx ∧ rx ≤ 36) (hsg : sg = 0 ∨ sg = 1) (hr : 0 ≤ r ∧ r ≤ 15) (hmo : 0 ≤ mode ∧ mode ≤ 4) (hb : b ≤ 4096) (hdn : dn = 0 ∨ dn = 1) (hQ1 : X = none → ∀ {w : xW}, mR w0 S V1 w → Q (.inr w.length) (w ++ [.inr (15, [])])) (hQ2 : ∀ (x : Nat), X = some x → x ≤ 1000000 → ∀ {lv : xLv} {w : xW}, mR w0 S V1 w → xld lv 0 = some (Value.ref 128) → xld lv 1 = some (Value.int (Int32.ofInt r)) → xld lv 2 = some (Value.int (Int32.ofInt (rx : Int))) → xld lv 3 = some (Value.int (Int32.ofInt mode)) → xld lv 4 = some (Value.int (Int32.ofInt (n : Int))) → xld lv 6 = some (Value.int (Int32.ofInt sg)) → xld lv 8 = some (Value.int (Int32.ofInt (b : Int))) → xld lv 12 = some (Value.int (Int32.ofInt dn)) → xld lv 11 = some (Value.int (Int32.ofInt (x : Int))) → xEv (d + 8) 258 441 lv [] w Q) : ∀ (f a e : Nat) {lv : xLv} {w : xW}, n = a + f → e ≤ 1000000 → rdE (S 158) n f a e = X → mR w0 S V1 w → xld lv 0 = some (Value.ref 128) → xld lv 1 = some (Value.int (Int32.ofInt r)) → xld lv 2 = some (Value.int (Int32.ofInt (rx : Int))) → xld lv 3 = some (Value.int (Int32.ofInt mode)) → xld lv 4 = some (Value.int (Int32.ofInt (n : Int))) → xld lv 6 = some (Value.int (Int32.ofInt sg)) → xld lv 5 = some (Value.int (Int32.ofInt (a : Int))) → xld lv 8 = some (Value.int (Int32.ofInt (b : Int))) → xld lv 11 = some (Value.int (Int32.ofInt (e : Int))) → xld lv 12 = some (Value.int (Int32.ofInt dn)) → xEv (d + 8) 258 372 lv [] w Q := by
  intro f
  induction f with
  | zero =>
    intro a e lv w ha he hX hR l0 l1 l2 l3 l4 l6 l5 l8 l11 l12
    refine i_258_372 l5 ?_
    refine i_258_374 l4 ?_
    refine i_258_376 (b_le (a := (n : Int)) (b := (a : Int)) ⟨by omega, by omega⟩ ⟨by omega, by omega⟩ fun _ => ?_) (b_lt (a := (a : Int)) (b := (n : Int)) ⟨by omega, by omega⟩ ⟨by omega, by omega⟩ fun c => absurd c (by omega))
    rw [rdE] at hX
    exact hQ2 e hX.symm he hR l0 l1 l2 l3 l4 l6 l8 l12 l11
  | succ f ih =>
    intro a e lv w ha he hX hR l0 l1 l2 l3 l4 l6 l5 l8 l11 l12
    have hBa := hB a
    have hx2 : dv (S 158 a) < 0 ∨ 9 < dv (S 158 a) → rdE (S 158) n (f + 1) a e = none := fun h => by rw [rdE, if_neg (by omega), if_pos h]
    have hx3 : ¬ (dv (S 158 a) < 0 ∨ 9 < dv (S 158 a)) → rdE (S 158) n (f + 1) a e = rdE (S 158) n f (a + 1) (min 1000000 (10 * e + (dv (S 158 a)).toNat)) := fun h => by rw [rdE, if_neg (by omega), if_neg h]
    have hx2 := hid.i hx2
    have hx3 := hid.i hx3
    have hB := hid.i hB
    refine i_258_372 (x := Int32.ofInt (a : Int)) l5 ?_
    refine i_258_374 (x := Int32.ofInt (n : Int)) l4 ?_
    refine i_258_376 (b_le (a := (n : Int)) (b := (a : Int)) ⟨by omega, by omega⟩ ⟨by omega, by omega⟩ fun c0 => absurd c0 (by omega)) (b_lt (a := (a : Int)) (b := (n : Int)) ⟨by omega, by omega⟩ ⟨by omega, by omega⟩ fun c0 => ?_)
    refine i_258_379 (x := 128) l0 ?_
    refine i_258_380 (v := Value.ref 158) hR.c128 rfl ?_
    refine i_258_383 (x := Int32.ofInt (a : Int)) l5 ?_
    refine i_258_385 (v := Value.int (Int32.ofInt (S 158 a))) (hR.row a158) (ix0 (T := (a : Int)) (by omega) (by omega)) (ix1 (T := (a : Int)) (by omega) (by omega) (by omega)) (ra (T := (a : Int)) (by omega) (by omega) (by rw [show ((a : Int)).toNat = a by omega])) ?_
    refine i_258_386 ?_
    refine i_258_388 (b_lt (a := S 158 a) (b := 48) ⟨by omega, by omega⟩ ⟨by decide, by decide⟩ fun c1 => ?_) (b_le (a := 48) (b := S 158 a) ⟨by decide, by decide⟩ ⟨by omega, by omega⟩ fun c1 => ?_)
    · have hdg : dv (S 158 a) < 0 ∨ 9 < dv (S 158 a) := by unfold dv; rw [if_neg (by omega)]; split <;> (try split) <;> omega
      refine i_258_407 ?_
      have hrun := s_text0 (d := d + 1) (w := w)
      refine j_258_408 (Nat.le_of_ble_eq_true rfl) hrun (xDone.t (ci := 15) xgl rfl rfl ?_)
      rw [hid.o hx2 hdg] at hX
      exact hQ1 hX.symm hR
    · refine i_258_391 (x := 128) l0 ?_
      refine i_258_392 (v := Value.ref 158) hR.c128 rfl ?_
      refine i_258_395 (x := Int32.ofInt (a : Int)) l5 ?_
      refine i_258_397 (v := Value.int (Int32.ofInt (S 158 a))) (hR.row a158) (ix0 (T := (a : Int)) (by omega) (by omega)) (ix1 (T := (a : Int)) (by omega) (by omega) (by omega)) (ra (T := (a : Int)) (by omega) (by omega) (by rw [show ((a : Int)).toNat = a by omega])) ?_
      refine i_258_398 ?_
      refine i_258_400 (b_lt (a := 57) (b := S 158 a) ⟨by decide, by decide⟩ ⟨by omega, by omega⟩ fun c2 => ?_) (b_le (a := S 158 a) (b := 57) ⟨by omega, by omega⟩ ⟨by decide, by decide⟩ fun c2 => ?_)
      · have hdg : dv (S 158 a) < 0 ∨ 9 < dv (S 158 a) := by unfold dv; rw [if_neg (by omega)]; split <;> (try split) <;> omega
        refine i_258_407 ?_
        have hrun := s_text0 (d := d + 1) (w := w)
        refine j_258_408 (Nat.le_of_ble_eq_true rfl) hrun (xDone.t (ci := 15) xgl rfl rfl ?_)
        rw [hid.o hx2 hdg] at hX
        exact hQ1 hX.symm hR
      · have hdv : dv (S 158 a) = S 158 a - 48 := if_pos (by omega)
        refine i_258_403 ?_
        refine i_258_404 ?_
        have hrun := s_text1 (d := d + 6) (w := w)
        refine i_258_408 (Nat.le_of_ble_eq_true rfl) hrun ?_
        refine i_258_411 ?_
        refine i_258_414 ?_
        refine i_258_416 (x := Int32.ofInt (e : Int)) l11 ?_
        refine i_258_418 (c := Int32.ofInt (10 * (e : Int))) (o_mul 10 (e : Int)) ?_
        refine i_258_419 (x := 128) l0 ?_
        refine i_258_420 (v := Value.ref 158) hR.c128 rfl ?_
        refine i_258_423 (x := Int32.ofInt (a : Int)) l5 ?_
        refine i_258_425 (v := Value.int (Int32.ofInt (S 158 a))) (hR.row a158) (ix0 (T := (a : Int)) (by omega) (by omega)) (ix1 (T := (a : Int)) (by omega) (by omega) (by omega)) (ra (T := (a : Int)) (by omega) (by omega) (by rw [show ((a : Int)).toNat = a by omega])) ?_
        refine i_258_426 (c := Int32.ofInt ((10 * (e : Int)) + (S 158 a))) (o_add (10 * (e : Int)) (S 158 a)) ?_
        refine i_258_427 ?_
        refine i_258_429 (c := Int32.ofInt (((10 * (e : Int)) + (S 158 a)) - 48)) (o_sub ((10 * (e : Int)) + (S 158 a)) 48) ?_
        have hrun := s_min (d := d + 6) (w := w) (a := 1000000) (b := ((10 * (e : Int)) + (S 158 a)) - 48) ⟨by decide, by decide⟩ ⟨by omega, by omega⟩
        rw [show min 1000000 (((10 * (e : Int)) + (S 158 a)) - 48) = ((min 1000000 (10 * e + (dv (S 158 a)).toNat) : Nat) : Int) by rw [hdv]; omega] at hrun
        refine i_258_430 (Nat.le_of_ble_eq_true rfl) hrun ?_
        refine i_258_433 rfl ?_
        refine lgen1 (i := 11) (v := Value.int (Int32.ofInt ((min 1000000 (10 * e + (dv (S 158 a)).toNat) : Nat) : Int))) (fun lv lg ls => ?_)
        replace l0 := lg 0 _ rfl rfl l0
        replace l1 := lg 1 _ rfl rfl l1
        replace l2 := lg 2 _ rfl rfl l2
        replace l3 := lg 3 _ rfl rfl l3
        replace l4 := lg 4 _ rfl rfl l4
        replace l6 := lg 6 _ rfl rfl l6
        replace l5 := lg 5 _ rfl rfl l5
        replace l8 := lg 8 _ rfl rfl l8
        replace l12 := lg 12 _ rfl rfl l12
        have l11 := ls
        refine i_258_435 (x := (Int32.ofInt (a : Int))) (c := (Int32.ofInt ((a : Int) + 1))) l5 (o_add (a : Int) 1) rfl ?_
        refine lgen1 (i := 5) (v := Value.int (Int32.ofInt ((a : Int) + 1))) (fun lv lg ls => ?_)
        replace l11 := lg 11 _ rfl rfl l11
        replace l0 := lg 0 _ rfl rfl l0
        replace l1 := lg 1 _ rfl rfl l1
        replace l2 := lg 2 _ rfl rfl l2
        replace l3 := lg 3 _ rfl rfl l3
        replace l4 := lg 4 _ rfl rfl l4
        replace l6 := lg 6 _ rfl rfl l6
        replace l8 := lg 8 _ rfl rfl l8
        replace l12 := lg 12 _ rfl rfl l12
        have l5 := ls
        refine i_258_438 ?_
        rw [show (a : Int) + 1 = ((a + 1 : Nat) : Int) by omega] at l5
        rw [hid.o hx3 (by rw [hdv]; omega)] at hX
        exact ih (a + 1) _ (by omega) (by omega) hX hR l0 l1 l2 l3 l4 l6 l5 l8 l11 l12
set_option maxHeartbeats 4000000 in
theorem rr_D {v b a c x : Nat} {dn : Int} (hR : mR w0 S V1 w) (hI : mI S V) (hnV : nV V V1) (h129 : V1 129 = v) (hv : xbl v ≤ 24576) (hB : ∀ j, -128 ≤ S 158 j ∧ S 158 j ≤ 127) (hn : n ≤ 4096) (hrx : 2 ≤ rx ∧ rx ≤ 36) (hsg : sg = 0 ∨ sg = 1) (hr : 0 ≤ r ∧ r ≤ 15) (hmo : 0 ≤ mode ∧ mode ≤ 4) (hb : b ≤ 4096) (hdn : dn = 0 ∨ dn = 1) (hx : x ≤ 1000000) (hX : unS2 (S 158) n sg (a, c, b, v) = some (if v = 0 then 2 else 3, sg, v, -((b : Nat) : Int) + (if dn = 0 then (x : Int) else -(x : Int)))) (l0 : xld lv 0 = some (Value.ref 128)) (l1 : xld lv 1 = some (Value.int (Int32.ofInt r))) (l2 : xld lv 2 = some (Value.int (Int32.ofInt (rx : Int)))) (l3 : xld lv 3 = some (Value.int (Int32.ofInt mode))) (l4 : xld lv 4 = some (Value.int (Int32.ofInt (n : Int)))) (l6 : xld lv 6 = some (Value.int (Int32.ofInt sg))) (l8 : xld lv 8 = some (Value.int (Int32.ofInt (b : Int)))) (l12 : xld lv 12 = some (Value.int (Int32.ofInt dn))) (l11 : xld lv 11 = some (Value.int (Int32.ofInt (x : Int)))) : xEv (d + 8) 258 441 lv [] w (rdQ w0 S V r.toNat mode rx (unS2 (S 158) n sg (a, c, b, v))) := by
  refine i_258_441 (x := Int32.ofInt dn) l12 ?_
  refine i_258_443 (z_eq (a := dn) ⟨by omega, by omega⟩ fun c0 => ?_) (z_ne (a := dn) ⟨by omega, by omega⟩ fun c0 => ?_)
  · rw [hX, if_pos (show dn = 0 by omega)]
    exact rr_F hR hI hnV h129 hv hB hn hrx hsg hr hmo hb (by omega) l0 l1 l2 l3 l4 l6 l8 l11
  · refine i_258_446 (x := Int32.ofInt (x : Int)) l11 ?_
    refine i_258_448 (c := Int32.ofInt (-(x : Int))) (o_neg (x : Int)) ?_
    refine i_258_449 rfl ?_
    refine lgen1 (i := 11) (v := Value.int (Int32.ofInt (-(x : Int)))) (fun lv lg ls => ?_)
    replace l0 := lg 0 _ rfl rfl l0
    replace l1 := lg 1 _ rfl rfl l1
    replace l2 := lg 2 _ rfl rfl l2
    replace l3 := lg 3 _ rfl rfl l3
    replace l4 := lg 4 _ rfl rfl l4
    replace l6 := lg 6 _ rfl rfl l6
    replace l8 := lg 8 _ rfl rfl l8
    replace l12 := lg 12 _ rfl rfl l12
    have l11 := ls
    rw [hX, if_neg (show ¬ dn = 0 by omega)]
    exact rr_F hR hI hnV h129 hv hB hn hrx hsg hr hmo hb (by omega) l0 l1 l2 l3 l4 l6 l8 l11
set_option maxHeartbeats 8000000 in
theorem rr_G {v b a c : Nat} (hR : mR w0 S V1 w) (hI : mI S V) (hnV : nV V V1) (h129 : V1 129 = v) (hv : xbl v ≤ 24576) (hB : ∀ j, -128 ≤ S 158 j ∧ S 158 j ≤ 127) (hn : n ≤ 4096) (hrx : 2 ≤ rx ∧ rx ≤ 36) (hsg : sg = 0 ∨ sg = 1) (hr : 0 ≤ r ∧ r ≤ 15) (hmo : 0 ≤ mode ∧ mode ≤ 4) (hb : b ≤ 4096) (hc : c ≠ 0) (ha : a ≤ n) (l0 : xld lv 0 = some (Value.ref 128)) (l1 : xld lv 1 = some (Value.int (Int32.ofInt r))) (l2 : xld lv 2 = some (Value.int (Int32.ofInt (rx : Int)))) (l3 : xld lv 3 = some (Value.int (Int32.ofInt mode))) (l4 : xld lv 4 = some (Value.int (Int32.ofInt (n : Int)))) (l6 : xld lv 6 = some (Value.int (Int32.ofInt sg))) (l5 : xld lv 5 = some (Value.int (Int32.ofInt (a : Int)))) (l8 : xld lv 8 = some (Value.int (Int32.ofInt (b : Int)))) : xEv (d + 8) 258 264 lv [] w (rdQ w0 S V r.toNat mode rx (unS2 (S 158) n sg (a, c, b, v))) := by
  have hBa := hB a
  have hBb := hB (a + 1)
  have hB1 := hB
  replace hB := hid.i hB
  refine i_258_264 ?_
  refine i_258_265 rfl ?_
  refine lgen1 (i := 11) (v := Value.int 0) (fun lv lg ls => ?_)
  replace l0 := lg 0 _ rfl rfl l0
  replace l1 := lg 1 _ rfl rfl l1
  replace l2 := lg 2 _ rfl rfl l2
  replace l3 := lg 3 _ rfl rfl l3
  replace l4 := lg 4 _ rfl rfl l4
  replace l6 := lg 6 _ rfl rfl l6
  replace l5 := lg 5 _ rfl rfl l5
  replace l8 := lg 8 _ rfl rfl l8
  have l11 := ls
  refine i_258_267 (x := Int32.ofInt (a : Int)) l5 ?_
  refine i_258_269 (x := Int32.ofInt (n : Int)) l4 ?_
  refine i_258_271 (b_le (a := (n : Int)) (b := (a : Int)) ⟨by omega, by omega⟩ ⟨by omega, by omega⟩ fun c0 => ?_) (b_lt (a := (a : Int)) (b := (n : Int)) ⟨by omega, by omega⟩ ⟨by omega, by omega⟩ fun c0 => ?_)
  · have hX : unS2 (S 158) n sg (a, c, b, v) = some (if v = 0 then 2 else 3, sg, v, -((b : Nat) : Int) + 0) := by
      unfold unS2
      rw [if_neg (by omega)]
      rw [if_neg (by omega), Int.add_zero]
    rw [hX]
    exact rr_F hR hI hnV h129 hv (hid.o hB) hn hrx hsg hr hmo hb (by decide) l0 l1 l2 l3 l4 l6 l8 l11
  · refine i_258_274 (x := 128) l0 ?_
    refine i_258_275 (v := Value.ref 158) hR.c128 rfl ?_
    refine i_258_278 (x := Int32.ofInt (a : Int)) l5 ?_
    refine i_258_280 (v := Value.int (Int32.ofInt (S 158 a))) (hR.row a158) (ix0 (T := (a : Int)) (by omega) (by omega)) (ix1 (T := (a : Int)) (by omega) (by omega) (by omega)) (ra (T := (a : Int)) (by omega) (by omega) (by rw [show ((a : Int)).toNat = a by omega])) ?_
    refine i_258_281 ?_
    refine i_258_283 (b_ne (a := S 158 a) (b := 64) ⟨by omega, by omega⟩ ⟨by decide, by decide⟩ fun c1 => ?_) (b_eq (a := S 158 a) (b := 64) ⟨by omega, by omega⟩ ⟨by decide, by decide⟩ fun c1 => ?_)
    · refine i_258_290 ?_
      have hrun := s_text0 (d := d + 1) (w := w)
      refine j_258_291 (Nat.le_of_ble_eq_true rfl) hrun (xDone.t (ci := 15) xgl rfl rfl ?_)
      have hX : unS2 (S 158) n sg (a, c, b, v) = none := by
        unfold unS2
        rw [if_neg (by omega)]
        rw [if_pos (by omega), show exS (S 158) n a = none by
          unfold exS
          first
          | exact if_pos (by omega)
          | (rw [if_neg (by omega), if_pos (by omega), if_pos (by omega)]; done)
          | (rw [if_neg (by omega), if_neg (by omega), if_pos (by omega)]; done)]
      rw [hX]
      exact ⟨w, V1, rfl, rfl, hR, hnV⟩
    · refine i_258_286 ?_
      refine i_258_287 ?_
      have hrun := s_text1 (d := d + 6) (w := w)
      refine i_258_291 (Nat.le_of_ble_eq_true rfl) hrun ?_
      refine i_258_294 (x := (Int32.ofInt (a : Int))) (c := (Int32.ofInt ((a : Int) + 1))) l5 (o_add (a : Int) 1) rfl ?_
      refine lgen1 (i := 5) (v := Value.int (Int32.ofInt ((a : Int) + 1))) (fun lv lg ls => ?_)
      replace l11 := lg 11 _ rfl rfl l11
      replace l0 := lg 0 _ rfl rfl l0
      replace l1 := lg 1 _ rfl rfl l1
      replace l2 := lg 2 _ rfl rfl l2
      replace l3 := lg 3 _ rfl rfl l3
      replace l4 := lg 4 _ rfl rfl l4
      replace l6 := lg 6 _ rfl rfl l6
      replace l8 := lg 8 _ rfl rfl l8
      have l5 := ls
      refine i_258_297 (x := Int32.ofInt ((a : Int) + 1)) l5 ?_
      refine i_258_299 (x := Int32.ofInt (n : Int)) l4 ?_
      refine i_258_301 (b_le (a := (n : Int)) (b := (a : Int) + 1) ⟨by omega, by omega⟩ ⟨by omega, by omega⟩ fun c2 => ?_) (b_lt (a := (a : Int) + 1) (b := (n : Int)) ⟨by omega, by omega⟩ ⟨by omega, by omega⟩ fun c2 => ?_)
      · refine i_258_320 ?_
        refine i_258_321 rfl ?_
        refine lgen1 (i := 12) (v := Value.int 0) (fun lv lg ls => ?_)
        replace l5 := lg 5 _ rfl rfl l5
        replace l11 := lg 11 _ rfl rfl l11
        replace l0 := lg 0 _ rfl rfl l0
        replace l1 := lg 1 _ rfl rfl l1
        replace l2 := lg 2 _ rfl rfl l2
        replace l3 := lg 3 _ rfl rfl l3
        replace l4 := lg 4 _ rfl rfl l4
        replace l6 := lg 6 _ rfl rfl l6
        replace l8 := lg 8 _ rfl rfl l8
        have l12 := ls
        refine i_258_323 (x := Int32.ofInt ((a : Int) + 1)) l5 ?_
        refine i_258_325 (x := Int32.ofInt (n : Int)) l4 ?_
        refine i_258_327 (b_le (a := (n : Int)) (b := (a : Int) + 1) ⟨by omega, by omega⟩ ⟨by omega, by omega⟩ fun c3 => ?_) (b_lt (a := (a : Int) + 1) (b := (n : Int)) ⟨by omega, by omega⟩ ⟨by omega, by omega⟩ fun c3 => absurd c3 (by omega))
        refine i_258_357 (x := Int32.ofInt ((a : Int) + 1)) l5 ?_
        refine i_258_359 (x := Int32.ofInt (n : Int)) l4 ?_
        refine i_258_361 (b_le (a := (n : Int)) (b := (a : Int) + 1) ⟨by omega, by omega⟩ ⟨by omega, by omega⟩ fun c4 => ?_) (b_lt (a := (a : Int) + 1) (b := (n : Int)) ⟨by omega, by omega⟩ ⟨by omega, by omega⟩ fun c4 => absurd c4 (by omega))
        refine i_258_368 ?_
        have hrun := s_text0 (d := d + 1) (w := w)
        refine j_258_369 (Nat.le_of_ble_eq_true rfl) hrun (xDone.t (ci := 15) xgl rfl rfl ?_)
        have hX : unS2 (S 158) n sg (a, c, b, v) = none := by
          unfold unS2
          rw [if_neg (by omega)]
          rw [if_pos (by omega), show exS (S 158) n a = none by
            unfold exS
            first
            | exact if_pos (by omega)
            | (rw [if_neg (by omega), if_pos (by omega), if_pos (by omega)]; done)
            | (rw [if_neg (by omega), if_neg (by omega), if_pos (by omega)]; done)]
        rw [hX]
        exact ⟨w, V1, rfl, rfl, hR, hnV⟩
      · refine i_258_304 (x := 128) l0 ?_
        refine i_258_305 (v := Value.ref 158) hR.c128 rfl ?_
        refine i_258_308 (x := Int32.ofInt ((a : Int) + 1)) l5 ?_
        refine i_258_310 (v := Value.int (Int32.ofInt (S 158 (a + 1)))) (hR.row a158) (ix0 (T := (a : Int) + 1) (by omega) (by omega)) (ix1 (T := (a : Int) + 1) (by omega) (by omega) (by omega)) (ra (T := (a : Int) + 1) (by omega) (by omega) (by rw [show ((a : Int) + 1).toNat = (a + 1) by omega])) ?_
        refine i_258_311 ?_
        refine i_258_313 (b_ne (a := S 158 (a + 1)) (b := 45) ⟨by omega, by omega⟩ ⟨by decide, by decide⟩ fun c5 => ?_) (b_eq (a := S 158 (a + 1)) (b := 45) ⟨by omega, by omega⟩ ⟨by decide, by decide⟩ fun c5 => ?_)
        · refine i_258_320 ?_
          refine i_258_321 rfl ?_
          refine lgen1 (i := 12) (v := Value.int 0) (fun lv lg ls => ?_)
          replace l5 := lg 5 _ rfl rfl l5
          replace l11 := lg 11 _ rfl rfl l11
          replace l0 := lg 0 _ rfl rfl l0
          replace l1 := lg 1 _ rfl rfl l1
          replace l2 := lg 2 _ rfl rfl l2
          replace l3 := lg 3 _ rfl rfl l3
          replace l4 := lg 4 _ rfl rfl l4
          replace l6 := lg 6 _ rfl rfl l6
          replace l8 := lg 8 _ rfl rfl l8
          have l12 := ls
          refine i_258_323 (x := Int32.ofInt ((a : Int) + 1)) l5 ?_
          refine i_258_325 (x := Int32.ofInt (n : Int)) l4 ?_
          refine i_258_327 (b_le (a := (n : Int)) (b := (a : Int) + 1) ⟨by omega, by omega⟩ ⟨by omega, by omega⟩ fun c6 => absurd c6 (by omega)) (b_lt (a := (a : Int) + 1) (b := (n : Int)) ⟨by omega, by omega⟩ ⟨by omega, by omega⟩ fun c6 => ?_)
          refine i_258_330 (x := 128) l0 ?_
          refine i_258_331 (v := Value.ref 158) hR.c128 rfl ?_
          refine i_258_334 (x := Int32.ofInt ((a : Int) + 1)) l5 ?_
          refine i_258_336 (v := Value.int (Int32.ofInt (S 158 (a + 1)))) (hR.row a158) (ix0 (T := (a : Int) + 1) (by omega) (by omega)) (ix1 (T := (a : Int) + 1) (by omega) (by omega) (by omega)) (ra (T := (a : Int) + 1) (by omega) (by omega) (by rw [show ((a : Int) + 1).toNat = (a + 1) by omega])) ?_
          refine i_258_337 ?_
          refine i_258_339 (b_eq (a := S 158 (a + 1)) (b := 45) ⟨by omega, by omega⟩ ⟨by decide, by decide⟩ fun c7 => absurd c7 (by omega)) (b_ne (a := S 158 (a + 1)) (b := 45) ⟨by omega, by omega⟩ ⟨by decide, by decide⟩ fun c7 => ?_)
          refine i_258_342 (x := 128) l0 ?_
          refine i_258_343 (v := Value.ref 158) hR.c128 rfl ?_
          refine i_258_346 (x := Int32.ofInt ((a : Int) + 1)) l5 ?_
          refine i_258_348 (v := Value.int (Int32.ofInt (S 158 (a + 1)))) (hR.row a158) (ix0 (T := (a : Int) + 1) (by omega) (by omega)) (ix1 (T := (a : Int) + 1) (by omega) (by omega) (by omega)) (ra (T := (a : Int) + 1) (by omega) (by omega) (by rw [show ((a : Int) + 1).toNat = (a + 1) by omega])) ?_
          refine i_258_349 ?_
          refine i_258_351 (b_ne (a := S 158 (a + 1)) (b := 43) ⟨by omega, by omega⟩ ⟨by decide, by decide⟩ fun c8 => ?_) (b_eq (a := S 158 (a + 1)) (b := 43) ⟨by omega, by omega⟩ ⟨by decide, by decide⟩ fun c8 => ?_)
          · refine i_258_357 (x := Int32.ofInt ((a : Int) + 1)) l5 ?_
            refine i_258_359 (x := Int32.ofInt (n : Int)) l4 ?_
            refine i_258_361 (b_le (a := (n : Int)) (b := (a : Int) + 1) ⟨by omega, by omega⟩ ⟨by omega, by omega⟩ fun c9 => absurd c9 (by omega)) (b_lt (a := (a : Int) + 1) (b := (n : Int)) ⟨by omega, by omega⟩ ⟨by omega, by omega⟩ fun c9 => ?_)
            refine i_258_364 ?_
            refine i_258_365 ?_
            have hrun := s_text1 (d := d + 6) (w := w)
            refine i_258_369 (Nat.le_of_ble_eq_true rfl) hrun ?_
            rw [show (a : Int) + 1 = ((a + 1 : Nat) : Int) by omega] at l5
            have hxs : exS (S 158) n a = (rdE (S 158) n (n - (a + 1)) (a + 1) 0).map (fun (e : Nat) => (e : Int)) := by
              unfold exS; rw [if_neg (by omega), if_neg (by omega), if_neg (by omega)]
            refine rr_E (V1 := V1) (b := b) (dn := 0) (hid.o hB) hn hrx hsg hr hmo hb (by omega) (fun hx {w} hR => ?_) (fun x hx hxl {lv w} hR l0 l1 l2 l3 l4 l6 l8 l12 l11 => ?_) (n - (a + 1)) (a + 1) 0 (by omega) (by omega) rfl hR l0 l1 l2 l3 l4 l6 l5 l8 l11 l12
            · have hX : unS2 (S 158) n sg (a, c, b, v) = none := by
                unfold unS2
                rw [if_neg (by omega)]
                rw [if_pos (by omega), hxs, hx]
                rfl
              rw [hX]
              exact ⟨w, V1, rfl, rfl, hR, hnV⟩
            · refine rr_D (a := a) (c := c) (dn := 0) hR hI hnV h129 hv (hid.o hB) hn hrx hsg hr hmo hb (by omega) hxl ?_ l0 l1 l2 l3 l4 l6 l8 l12 l11
              have hX : unS2 (S 158) n sg (a, c, b, v) = some (if v = 0 then 2 else 3, sg, v, -((b : Nat) : Int) + (if (0 : Int) = 0 then (x : Int) else -(x : Int))) := by
                unfold unS2
                rw [if_neg (by omega)]
                rw [if_pos (by omega), hxs, hx]
                rfl
              exact hX
          · refine i_258_354 (x := (Int32.ofInt ((a : Int) + 1))) (c := (Int32.ofInt ((a : Int) + 1 + 1))) l5 (o_add ((a : Int) + 1) 1) rfl ?_
            refine lgen1 (i := 5) (v := Value.int (Int32.ofInt ((a : Int) + 1 + 1))) (fun lv lg ls => ?_)
            replace l12 := lg 12 _ rfl rfl l12
            replace l11 := lg 11 _ rfl rfl l11
            replace l0 := lg 0 _ rfl rfl l0
            replace l1 := lg 1 _ rfl rfl l1
            replace l2 := lg 2 _ rfl rfl l2
            replace l3 := lg 3 _ rfl rfl l3
            replace l4 := lg 4 _ rfl rfl l4
            replace l6 := lg 6 _ rfl rfl l6
            replace l8 := lg 8 _ rfl rfl l8
            have l5 := ls
            refine i_258_357 (x := Int32.ofInt ((a : Int) + 1 + 1)) l5 ?_
            refine i_258_359 (x := Int32.ofInt (n : Int)) l4 ?_
            refine i_258_361 (b_le (a := (n : Int)) (b := (a : Int) + 1 + 1) ⟨by omega, by omega⟩ ⟨by omega, by omega⟩ fun c10 => ?_) (b_lt (a := (a : Int) + 1 + 1) (b := (n : Int)) ⟨by omega, by omega⟩ ⟨by omega, by omega⟩ fun c10 => ?_)
            · refine i_258_368 ?_
              have hrun := s_text0 (d := d + 1) (w := w)
              refine j_258_369 (Nat.le_of_ble_eq_true rfl) hrun (xDone.t (ci := 15) xgl rfl rfl ?_)
              have hX : unS2 (S 158) n sg (a, c, b, v) = none := by
                unfold unS2
                rw [if_neg (by omega)]
                rw [if_pos (by omega), show exS (S 158) n a = none by
                  unfold exS
                  first
                  | exact if_pos (by omega)
                  | (rw [if_neg (by omega), if_pos (by omega), if_pos (by omega)]; done)
                  | (rw [if_neg (by omega), if_neg (by omega), if_pos (by omega)]; done)]
              rw [hX]
              exact ⟨w, V1, rfl, rfl, hR, hnV⟩
            · refine i_258_364 ?_
              refine i_258_365 ?_
              have hrun := s_text1 (d := d + 6) (w := w)
              refine i_258_369 (Nat.le_of_ble_eq_true rfl) hrun ?_
              rw [show (a : Int) + 1 + 1 = ((a + 2 : Nat) : Int) by omega] at l5
              have hxs : exS (S 158) n a = (rdE (S 158) n (n - (a + 2)) (a + 2) 0).map (fun (e : Nat) => if S 158 (a + 1) = 45 then -(e : Int) else (e : Int)) := by
                unfold exS; rw [if_neg (by omega), if_pos (by omega), if_neg (by omega)]
              refine rr_E (V1 := V1) (b := b) (dn := 0) (hid.o hB) hn hrx hsg hr hmo hb (by omega) (fun hx {w} hR => ?_) (fun x hx hxl {lv w} hR l0 l1 l2 l3 l4 l6 l8 l12 l11 => ?_) (n - (a + 2)) (a + 2) 0 (by omega) (by omega) rfl hR l0 l1 l2 l3 l4 l6 l5 l8 l11 l12
              · have hX : unS2 (S 158) n sg (a, c, b, v) = none := by
                  unfold unS2
                  rw [if_neg (by omega)]
                  rw [if_pos (by omega), hxs, hx]
                  rfl
                rw [hX]
                exact ⟨w, V1, rfl, rfl, hR, hnV⟩
              · refine rr_D (a := a) (c := c) (dn := 0) hR hI hnV h129 hv (hid.o hB) hn hrx hsg hr hmo hb (by omega) hxl ?_ l0 l1 l2 l3 l4 l6 l8 l12 l11
                have hX : unS2 (S 158) n sg (a, c, b, v) = some (if v = 0 then 2 else 3, sg, v, -((b : Nat) : Int) + (if (0 : Int) = 0 then (x : Int) else -(x : Int))) := by
                  unfold unS2
                  rw [if_neg (by omega)]
                  rw [if_pos (by omega), hxs, hx]
                  show (some (if v = 0 then 2 else 3, sg, v, -((b : Nat) : Int) + (if S 158 (a + 1) = 45 then -(x : Int) else (x : Int))) : Option (Int × Int × Nat × Int)) = _; rw [if_neg (show ¬ S 158 (a + 1) = 45 by omega), if_pos (show (0 : Int) = 0 from rfl)]
                exact hX
        · refine i_258_316 ?_
          refine i_258_317 ?_
          refine i_258_321 rfl ?_
          refine lgen1 (i := 12) (v := Value.int 1) (fun lv lg ls => ?_)
          replace l5 := lg 5 _ rfl rfl l5
          replace l11 := lg 11 _ rfl rfl l11
          replace l0 := lg 0 _ rfl rfl l0
          replace l1 := lg 1 _ rfl rfl l1
          replace l2 := lg 2 _ rfl rfl l2
          replace l3 := lg 3 _ rfl rfl l3
          replace l4 := lg 4 _ rfl rfl l4
          replace l6 := lg 6 _ rfl rfl l6
          replace l8 := lg 8 _ rfl rfl l8
          have l12 := ls
          refine i_258_323 (x := Int32.ofInt ((a : Int) + 1)) l5 ?_
          refine i_258_325 (x := Int32.ofInt (n : Int)) l4 ?_
          refine i_258_327 (b_le (a := (n : Int)) (b := (a : Int) + 1) ⟨by omega, by omega⟩ ⟨by omega, by omega⟩ fun c11 => absurd c11 (by omega)) (b_lt (a := (a : Int) + 1) (b := (n : Int)) ⟨by omega, by omega⟩ ⟨by omega, by omega⟩ fun c11 => ?_)
          refine i_258_330 (x := 128) l0 ?_
          refine i_258_331 (v := Value.ref 158) hR.c128 rfl ?_
          refine i_258_334 (x := Int32.ofInt ((a : Int) + 1)) l5 ?_
          refine i_258_336 (v := Value.int (Int32.ofInt (S 158 (a + 1)))) (hR.row a158) (ix0 (T := (a : Int) + 1) (by omega) (by omega)) (ix1 (T := (a : Int) + 1) (by omega) (by omega) (by omega)) (ra (T := (a : Int) + 1) (by omega) (by omega) (by rw [show ((a : Int) + 1).toNat = (a + 1) by omega])) ?_
          refine i_258_337 ?_
          refine i_258_339 (b_eq (a := S 158 (a + 1)) (b := 45) ⟨by omega, by omega⟩ ⟨by decide, by decide⟩ fun c12 => ?_) (b_ne (a := S 158 (a + 1)) (b := 45) ⟨by omega, by omega⟩ ⟨by decide, by decide⟩ fun c12 => absurd c12 (by omega))
          refine i_258_354 (x := (Int32.ofInt ((a : Int) + 1))) (c := (Int32.ofInt ((a : Int) + 1 + 1))) l5 (o_add ((a : Int) + 1) 1) rfl ?_
          refine lgen1 (i := 5) (v := Value.int (Int32.ofInt ((a : Int) + 1 + 1))) (fun lv lg ls => ?_)
          replace l12 := lg 12 _ rfl rfl l12
          replace l11 := lg 11 _ rfl rfl l11
          replace l0 := lg 0 _ rfl rfl l0
          replace l1 := lg 1 _ rfl rfl l1
          replace l2 := lg 2 _ rfl rfl l2
          replace l3 := lg 3 _ rfl rfl l3
          replace l4 := lg 4 _ rfl rfl l4
          replace l6 := lg 6 _ rfl rfl l6
          replace l8 := lg 8 _ rfl rfl l8
          have l5 := ls
          refine i_258_357 (x := Int32.ofInt ((a : Int) + 1 + 1)) l5 ?_
          refine i_258_359 (x := Int32.ofInt (n : Int)) l4 ?_
          refine i_258_361 (b_le (a := (n : Int)) (b := (a : Int) + 1 + 1) ⟨by omega, by omega⟩ ⟨by omega, by omega⟩ fun c13 => ?_) (b_lt (a := (a : Int) + 1 + 1) (b := (n : Int)) ⟨by omega, by omega⟩ ⟨by omega, by omega⟩ fun c13 => ?_)
          · refine i_258_368 ?_
            have hrun := s_text0 (d := d + 1) (w := w)
            refine j_258_369 (Nat.le_of_ble_eq_true rfl) hrun (xDone.t (ci := 15) xgl rfl rfl ?_)
            have hX : unS2 (S 158) n sg (a, c, b, v) = none := by
              unfold unS2
              rw [if_neg (by omega)]
              rw [if_pos (by omega), show exS (S 158) n a = none by
                unfold exS
                first
                | exact if_pos (by omega)
                | (rw [if_neg (by omega), if_pos (by omega), if_pos (by omega)]; done)
                | (rw [if_neg (by omega), if_neg (by omega), if_pos (by omega)]; done)]
            rw [hX]
            exact ⟨w, V1, rfl, rfl, hR, hnV⟩
          · refine i_258_364 ?_
            refine i_258_365 ?_
            have hrun := s_text1 (d := d + 6) (w := w)
            refine i_258_369 (Nat.le_of_ble_eq_true rfl) hrun ?_
            rw [show (a : Int) + 1 + 1 = ((a + 2 : Nat) : Int) by omega] at l5
            have hxs : exS (S 158) n a = (rdE (S 158) n (n - (a + 2)) (a + 2) 0).map (fun (e : Nat) => if S 158 (a + 1) = 45 then -(e : Int) else (e : Int)) := by
              unfold exS; rw [if_neg (by omega), if_pos (by omega), if_neg (by omega)]
            refine rr_E (V1 := V1) (b := b) (dn := 1) (hid.o hB) hn hrx hsg hr hmo hb (by omega) (fun hx {w} hR => ?_) (fun x hx hxl {lv w} hR l0 l1 l2 l3 l4 l6 l8 l12 l11 => ?_) (n - (a + 2)) (a + 2) 0 (by omega) (by omega) rfl hR l0 l1 l2 l3 l4 l6 l5 l8 l11 l12
            · have hX : unS2 (S 158) n sg (a, c, b, v) = none := by
                unfold unS2
                rw [if_neg (by omega)]
                rw [if_pos (by omega), hxs, hx]
                rfl
              rw [hX]
              exact ⟨w, V1, rfl, rfl, hR, hnV⟩
            · refine rr_D (a := a) (c := c) (dn := 1) hR hI hnV h129 hv (hid.o hB) hn hrx hsg hr hmo hb (by omega) hxl ?_ l0 l1 l2 l3 l4 l6 l8 l12 l11
              have hX : unS2 (S 158) n sg (a, c, b, v) = some (if v = 0 then 2 else 3, sg, v, -((b : Nat) : Int) + (if (1 : Int) = 0 then (x : Int) else -(x : Int))) := by
                unfold unS2
                rw [if_neg (by omega)]
                rw [if_pos (by omega), hxs, hx]
                show (some (if v = 0 then 2 else 3, sg, v, -((b : Nat) : Int) + (if S 158 (a + 1) = 45 then -(x : Int) else (x : Int))) : Option (Int × Int × Nat × Int)) = _; rw [if_pos (show S 158 (a + 1) = 45 by omega), if_neg (show ¬ (1 : Int) = 0 by decide)]
              exact hX
theorem dgn {c : Int} {dg : Int} (h : dgR c rx = dg) (hd : dg < 0) : dv c < 0 ∨ (rx : Int) ≤ dv c := by
  refine Classical.byContradiction fun k => ?_
  unfold dgR at h
  rw [if_neg k] at h
  omega
theorem dgp {c : Int} {dg : Int} (h : dgR c rx = dg) (hd : 0 ≤ dg) : ¬ (dv c < 0 ∨ (rx : Int) ≤ dv c) ∧ dg = dv c := by
  unfold dgR at h
  by_cases k : dv c < 0 ∨ (rx : Int) ≤ dv c
  · rw [if_pos k] at h; omega
  · rw [if_neg k] at h; exact ⟨k, h.symm⟩
set_option maxHeartbeats 8000000 in
theorem rr_L {X : Nat × Nat × Nat × Nat} (hB : ∀ j, -128 ≤ S 158 j ∧ S 158 j ≤ 127) (hn : n ≤ 4096) (hrx : 2 ≤ rx ∧ rx ≤ 36) (hsg : sg = 0 ∨ sg = 1) (hr : 0 ≤ r ∧ r ≤ 15) (hmo : 0 ≤ mode ∧ mode ≤ 4) (hQ : ∀ {lv : xLv} {w : xW} {V1 : Nat → Nat}, mR w0 S V1 w → nV V V1 → V1 129 = X.2.2.2 → xbl X.2.2.2 ≤ 24576 → X.1 ≤ n → X.2.1 ≤ 4096 → X.2.2.1 ≤ 4096 → xld lv 0 = some (Value.ref 128) → xld lv 1 = some (Value.int (Int32.ofInt r)) → xld lv 2 = some (Value.int (Int32.ofInt (rx : Int))) → xld lv 3 = some (Value.int (Int32.ofInt mode)) → xld lv 4 = some (Value.int (Int32.ofInt (n : Int))) → xld lv 6 = some (Value.int (Int32.ofInt sg)) → xld lv 5 = some (Value.int (Int32.ofInt (X.1 : Int))) → xld lv 7 = some (Value.int (Int32.ofInt (X.2.1 : Int))) → xld lv 8 = some (Value.int (Int32.ofInt (X.2.2.1 : Int))) → xEv (d + 8) 258 251 lv [] w Q) : ∀ (f a c b v : Nat) (pt : Int) {lv : xLv} {w : xW} {V1 : Nat → Nat}, n = a + f → (pt = 0 ∨ pt = 1) → c ≤ a → xbl v ≤ 6 * c → b ≤ c → rdS (S 158) rx n f a pt c b v = X → mR w0 S V1 w → nV V V1 → V1 129 = v → xld lv 0 = some (Value.ref 128) → xld lv 1 = some (Value.int (Int32.ofInt r)) → xld lv 2 = some (Value.int (Int32.ofInt (rx : Int))) → xld lv 3 = some (Value.int (Int32.ofInt mode)) → xld lv 4 = some (Value.int (Int32.ofInt (n : Int))) → xld lv 6 = some (Value.int (Int32.ofInt sg)) → xld lv 5 = some (Value.int (Int32.ofInt (a : Int))) → xld lv 7 = some (Value.int (Int32.ofInt (c : Int))) → xld lv 8 = some (Value.int (Int32.ofInt (b : Int))) → xld lv 9 = some (Value.int (Int32.ofInt pt)) → xld lv 10 = some (Value.int 1) → xEv (d + 8) 258 155 lv [] w Q := by
  intro f
  induction f with
  | zero =>
    intro a c b v pt lv w V1 ha hpt hc hv hb hX hR hnV h129 l0 l1 l2 l3 l4 l6 l5 l7 l8 l9 l10
    refine i_258_155 l5 ?_
    refine i_258_157 l4 ?_
    refine i_258_159 (b_le (a := (n : Int)) (b := (a : Int)) ⟨by omega, by omega⟩ ⟨by omega, by omega⟩ fun _ => ?_) (b_lt (a := (a : Int)) (b := (n : Int)) ⟨by omega, by omega⟩ ⟨by omega, by omega⟩ fun c => absurd c (by omega))
    rw [rdS] at hX
    subst hX
    exact hQ hR hnV h129 (show xbl v ≤ 24576 by omega) (show a ≤ n by omega) (show c ≤ 4096 by omega) (show b ≤ 4096 by omega) l0 l1 l2 l3 l4 l6 l5 l7 l8
  | succ f ih =>
    intro a c b v pt lv w V1 ha hpt hc hv hb hX hR hnV h129 l0 l1 l2 l3 l4 l6 l5 l7 l8 l9 l10
    have hBa := hB a
    replace hB := hid.i hB
    refine i_258_155 (x := Int32.ofInt (a : Int)) l5 ?_
    refine i_258_157 (x := Int32.ofInt (n : Int)) l4 ?_
    refine i_258_159 (b_le (a := (n : Int)) (b := (a : Int)) ⟨by omega, by omega⟩ ⟨by omega, by omega⟩ fun c0 => absurd c0 (by omega)) (b_lt (a := (a : Int)) (b := (n : Int)) ⟨by omega, by omega⟩ ⟨by omega, by omega⟩ fun c0 => ?_)
    refine i_258_162 (x := 1) l10 ?_
    refine i_258_164 (fun c => absurd c (by decide)) (fun _ => ?_)
    refine i_258_167 (x := 128) l0 ?_
    refine i_258_168 (v := Value.ref 158) hR.c128 rfl ?_
    refine i_258_171 (x := Int32.ofInt (a : Int)) l5 ?_
    refine i_258_173 (v := Value.int (Int32.ofInt (S 158 a))) (hR.row a158) (ix0 (T := (a : Int)) (by omega) (by omega)) (ix1 (T := (a : Int)) (by omega) (by omega) (by omega)) (ra (T := (a : Int)) (by omega) (by omega) (by rw [show ((a : Int)).toNat = a by omega])) ?_
    refine i_258_174 (x := Int32.ofInt (rx : Int)) l2 ?_
    have hrun := s_dig (d := d + 6) (w := w) (c := S 158 a) hBa hrx
    obtain ⟨dg, hdg⟩ : ∃ g, dgR (S 158 a) rx = g := ⟨_, rfl⟩
    rw [hdg] at hrun
    have hdb : -1 ≤ dg ∧ dg < rx := by rw [← hdg]; unfold dgR; have := dv_b (S 158 a); split <;> omega
    refine i_258_175 (Nat.le_of_ble_eq_true rfl) hrun ?_
    refine i_258_178 rfl ?_
    refine lgen1 (i := 11) (v := Value.int (Int32.ofInt dg)) (fun lv lg ls => ?_)
    replace l0 := lg 0 _ rfl rfl l0
    replace l1 := lg 1 _ rfl rfl l1
    replace l2 := lg 2 _ rfl rfl l2
    replace l3 := lg 3 _ rfl rfl l3
    replace l4 := lg 4 _ rfl rfl l4
    replace l6 := lg 6 _ rfl rfl l6
    replace l5 := lg 5 _ rfl rfl l5
    replace l7 := lg 7 _ rfl rfl l7
    replace l8 := lg 8 _ rfl rfl l8
    replace l9 := lg 9 _ rfl rfl l9
    replace l10 := lg 10 _ rfl rfl l10
    have l11 := ls
    refine i_258_180 (x := 128) l0 ?_
    refine i_258_181 (v := Value.ref 158) hR.c128 rfl ?_
    refine i_258_184 (x := Int32.ofInt (a : Int)) l5 ?_
    refine i_258_186 (v := Value.int (Int32.ofInt (S 158 a))) (hR.row a158) (ix0 (T := (a : Int)) (by omega) (by omega)) (ix1 (T := (a : Int)) (by omega) (by omega) (by omega)) (ra (T := (a : Int)) (by omega) (by omega) (by rw [show ((a : Int)).toNat = a by omega])) ?_
    refine i_258_187 ?_
    refine i_258_189 (b_ne (a := S 158 a) (b := 46) ⟨by omega, by omega⟩ ⟨by decide, by decide⟩ fun c1 => ?_) (b_eq (a := S 158 a) (b := 46) ⟨by omega, by omega⟩ ⟨by decide, by decide⟩ fun c1 => ?_)
    · refine i_258_203 (x := Int32.ofInt dg) l11 ?_
      refine i_258_205 (z_lt (a := dg) ⟨by omega, by omega⟩ fun c2 => ?_) (z_ge (a := dg) ⟨by omega, by omega⟩ fun c2 => ?_)
      · refine i_258_239 ?_
        refine i_258_240 rfl ?_
        refine lgen1 (i := 10) (v := Value.int 0) (fun lv lg ls => ?_)
        replace l11 := lg 11 _ rfl rfl l11
        replace l0 := lg 0 _ rfl rfl l0
        replace l1 := lg 1 _ rfl rfl l1
        replace l2 := lg 2 _ rfl rfl l2
        replace l3 := lg 3 _ rfl rfl l3
        replace l4 := lg 4 _ rfl rfl l4
        replace l6 := lg 6 _ rfl rfl l6
        replace l5 := lg 5 _ rfl rfl l5
        replace l7 := lg 7 _ rfl rfl l7
        replace l8 := lg 8 _ rfl rfl l8
        replace l9 := lg 9 _ rfl rfl l9
        have l10 := ls
        refine i_258_242 (x := (Int32.ofInt (a : Int))) (c := (Int32.ofInt ((a : Int) + (-1)))) l5 (o_dec (a : Int)) rfl ?_
        refine lgen1 (i := 5) (v := Value.int (Int32.ofInt ((a : Int) + (-1)))) (fun lv lg ls => ?_)
        replace l10 := lg 10 _ rfl rfl l10
        replace l11 := lg 11 _ rfl rfl l11
        replace l0 := lg 0 _ rfl rfl l0
        replace l1 := lg 1 _ rfl rfl l1
        replace l2 := lg 2 _ rfl rfl l2
        replace l3 := lg 3 _ rfl rfl l3
        replace l4 := lg 4 _ rfl rfl l4
        replace l6 := lg 6 _ rfl rfl l6
        replace l7 := lg 7 _ rfl rfl l7
        replace l8 := lg 8 _ rfl rfl l8
        replace l9 := lg 9 _ rfl rfl l9
        have l5 := ls
        refine i_258_245 (x := (Int32.ofInt ((a : Int) + (-1)))) (c := (Int32.ofInt ((a : Int) + (-1) + 1))) l5 (o_add ((a : Int) + (-1)) 1) rfl ?_
        refine lgen1 (i := 5) (v := Value.int (Int32.ofInt ((a : Int) + (-1) + 1))) (fun lv lg ls => ?_)
        replace l10 := lg 10 _ rfl rfl l10
        replace l11 := lg 11 _ rfl rfl l11
        replace l0 := lg 0 _ rfl rfl l0
        replace l1 := lg 1 _ rfl rfl l1
        replace l2 := lg 2 _ rfl rfl l2
        replace l3 := lg 3 _ rfl rfl l3
        replace l4 := lg 4 _ rfl rfl l4
        replace l6 := lg 6 _ rfl rfl l6
        replace l7 := lg 7 _ rfl rfl l7
        replace l8 := lg 8 _ rfl rfl l8
        replace l9 := lg 9 _ rfl rfl l9
        have l5 := ls
        refine i_258_248 ?_
        rw [show (a : Int) + (-1) + 1 = (a : Int) by omega] at l5
        refine i_258_155 l5 ?_
        refine i_258_157 l4 ?_
        refine i_258_159 (b_le (a := (n : Int)) (b := (a : Int)) ⟨by omega, by omega⟩ ⟨by omega, by omega⟩ fun c => absurd c (by omega)) (b_lt (a := (a : Int)) (b := (n : Int)) ⟨by omega, by omega⟩ ⟨by omega, by omega⟩ fun _ => ?_)
        refine i_258_162 l10 ?_
        refine i_258_164 (fun _ => ?_) (fun c => absurd rfl c)
        rw [rdS, if_neg (by omega), if_neg (by omega), if_pos (dgn hdg (by omega))] at hX
        subst hX
        exact hQ hR hnV h129 (show xbl v ≤ 24576 by omega) (show a ≤ n by omega) (show c ≤ 4096 by omega) (show b ≤ 4096 by omega) l0 l1 l2 l3 l4 l6 l5 l7 l8
      · refine i_258_208 (x := 128) l0 ?_
        refine i_258_209 (v := Value.ref 129) hR.c128 rfl ?_
        refine i_258_212 (x := Int32.ofInt (rx : Int)) l2 ?_
        obtain ⟨fs, hobj⟩ := hR.obj (h := 129) (iNw (h := 129) (by decide) (by decide) (by decide))
        obtain ⟨w, hrun, hR⟩ := r_times (d := d + 5) (v := v) (c := 4700) (k := (rx : Int)) hR (iNw (h := 129) (by decide) (by decide) (by decide)) (h129) rfl (by omega) (by omega) (by omega)
        rw [Int.toNat_natCast] at hR
        have hxt := xbl_prod v rx
        have hx6 : xbl rx ≤ 6 := xbl_le (by omega)
        refine i_258_213 hobj (Nat.le_of_ble_eq_true rfl) hrun ?_
        refine i_258_216 (x := 128) l0 ?_
        refine i_258_217 (v := Value.ref 129) hR.c128 rfl ?_
        refine i_258_220 (x := Int32.ofInt dg) l11 ?_
        obtain ⟨fs, hobj⟩ := hR.obj (h := 129) (iNw (h := 129) (by decide) (by decide) (by decide))
        obtain ⟨w, hrun, hR⟩ := r_addi (d := d + 5) (v := v * rx) (c := 4700) (k := dg) hR (iNw (h := 129) (by decide) (by decide) (by decide)) (uv_s) rfl (by omega) (by omega) (by omega)
        rw [uvv] at hR
        refine i_258_222 hobj (Nat.le_of_ble_eq_true rfl) hrun ?_
        refine i_258_225 (x := (Int32.ofInt (c : Int))) (c := (Int32.ofInt ((c : Int) + 1))) l7 (o_add (c : Int) 1) rfl ?_
        refine lgen1 (i := 7) (v := Value.int (Int32.ofInt ((c : Int) + 1))) (fun lv lg ls => ?_)
        replace l11 := lg 11 _ rfl rfl l11
        replace l0 := lg 0 _ rfl rfl l0
        replace l1 := lg 1 _ rfl rfl l1
        replace l2 := lg 2 _ rfl rfl l2
        replace l3 := lg 3 _ rfl rfl l3
        replace l4 := lg 4 _ rfl rfl l4
        replace l6 := lg 6 _ rfl rfl l6
        replace l5 := lg 5 _ rfl rfl l5
        replace l8 := lg 8 _ rfl rfl l8
        replace l9 := lg 9 _ rfl rfl l9
        replace l10 := lg 10 _ rfl rfl l10
        have l7 := ls
        refine i_258_228 (x := Int32.ofInt pt) l9 ?_
        refine i_258_230 (z_eq (a := pt) ⟨by omega, by omega⟩ fun c3 => ?_) (z_ne (a := pt) ⟨by omega, by omega⟩ fun c3 => ?_)
        · refine i_258_245 (x := (Int32.ofInt (a : Int))) (c := (Int32.ofInt ((a : Int) + 1))) l5 (o_add (a : Int) 1) rfl ?_
          refine lgen1 (i := 5) (v := Value.int (Int32.ofInt ((a : Int) + 1))) (fun lv lg ls => ?_)
          replace l7 := lg 7 _ rfl rfl l7
          replace l11 := lg 11 _ rfl rfl l11
          replace l0 := lg 0 _ rfl rfl l0
          replace l1 := lg 1 _ rfl rfl l1
          replace l2 := lg 2 _ rfl rfl l2
          replace l3 := lg 3 _ rfl rfl l3
          replace l4 := lg 4 _ rfl rfl l4
          replace l6 := lg 6 _ rfl rfl l6
          replace l8 := lg 8 _ rfl rfl l8
          replace l9 := lg 9 _ rfl rfl l9
          replace l10 := lg 10 _ rfl rfl l10
          have l5 := ls
          refine i_258_248 ?_
          rw [show (a : Int) + 1 = ((a + 1 : Nat) : Int) by omega] at l5
          rw [show (c : Int) + 1 = ((c + 1 : Nat) : Int) by omega] at l7
          have hdp := dgp hdg (by omega)
          rw [rdS, if_neg (by omega), if_neg (by omega), if_neg hdp.1, ← hdp.2, show pt.toNat = 0 by omega, Nat.add_zero] at hX
          exact ih (a + 1) (c + 1) b (v * rx + dg.toNat) pt (by omega) hpt (by omega) (rd_bl hv (by omega) (by omega)) (by omega) hX hR (nV.up hnV (by omega)) (uv_s) l0 l1 l2 l3 l4 l6 l5 l7 l8 l9 l10
        · refine i_258_233 (x := (Int32.ofInt (b : Int))) (c := (Int32.ofInt ((b : Int) + 1))) l8 (o_add (b : Int) 1) rfl ?_
          refine lgen1 (i := 8) (v := Value.int (Int32.ofInt ((b : Int) + 1))) (fun lv lg ls => ?_)
          replace l7 := lg 7 _ rfl rfl l7
          replace l11 := lg 11 _ rfl rfl l11
          replace l0 := lg 0 _ rfl rfl l0
          replace l1 := lg 1 _ rfl rfl l1
          replace l2 := lg 2 _ rfl rfl l2
          replace l3 := lg 3 _ rfl rfl l3
          replace l4 := lg 4 _ rfl rfl l4
          replace l6 := lg 6 _ rfl rfl l6
          replace l5 := lg 5 _ rfl rfl l5
          replace l9 := lg 9 _ rfl rfl l9
          replace l10 := lg 10 _ rfl rfl l10
          have l8 := ls
          refine i_258_236 ?_
          refine i_258_245 (x := (Int32.ofInt (a : Int))) (c := (Int32.ofInt ((a : Int) + 1))) l5 (o_add (a : Int) 1) rfl ?_
          refine lgen1 (i := 5) (v := Value.int (Int32.ofInt ((a : Int) + 1))) (fun lv lg ls => ?_)
          replace l8 := lg 8 _ rfl rfl l8
          replace l7 := lg 7 _ rfl rfl l7
          replace l11 := lg 11 _ rfl rfl l11
          replace l0 := lg 0 _ rfl rfl l0
          replace l1 := lg 1 _ rfl rfl l1
          replace l2 := lg 2 _ rfl rfl l2
          replace l3 := lg 3 _ rfl rfl l3
          replace l4 := lg 4 _ rfl rfl l4
          replace l6 := lg 6 _ rfl rfl l6
          replace l9 := lg 9 _ rfl rfl l9
          replace l10 := lg 10 _ rfl rfl l10
          have l5 := ls
          refine i_258_248 ?_
          rw [show (a : Int) + 1 = ((a + 1 : Nat) : Int) by omega] at l5
          rw [show (c : Int) + 1 = ((c + 1 : Nat) : Int) by omega] at l7
          rw [show (b : Int) + 1 = ((b + 1 : Nat) : Int) by omega] at l8
          have hdp := dgp hdg (by omega)
          rw [rdS, if_neg (by omega), if_neg (by omega), if_neg hdp.1, ← hdp.2, show pt.toNat = 1 by omega] at hX
          exact ih (a + 1) (c + 1) (b + 1) (v * rx + dg.toNat) pt (by omega) hpt (by omega) (rd_bl hv (by omega) (by omega)) (by omega) hX hR (nV.up hnV (by omega)) (uv_s) l0 l1 l2 l3 l4 l6 l5 l7 l8 l9 l10
    · refine i_258_192 (x := Int32.ofInt pt) l9 ?_
      refine i_258_194 (z_ne (a := pt) ⟨by omega, by omega⟩ fun c4 => ?_) (z_eq (a := pt) ⟨by omega, by omega⟩ fun c4 => ?_)
      · refine i_258_203 (x := Int32.ofInt dg) l11 ?_
        refine i_258_205 (z_lt (a := dg) ⟨by omega, by omega⟩ fun c5 => ?_) (z_ge (a := dg) ⟨by omega, by omega⟩ fun c5 => ?_)
        · refine i_258_239 ?_
          refine i_258_240 rfl ?_
          refine lgen1 (i := 10) (v := Value.int 0) (fun lv lg ls => ?_)
          replace l11 := lg 11 _ rfl rfl l11
          replace l0 := lg 0 _ rfl rfl l0
          replace l1 := lg 1 _ rfl rfl l1
          replace l2 := lg 2 _ rfl rfl l2
          replace l3 := lg 3 _ rfl rfl l3
          replace l4 := lg 4 _ rfl rfl l4
          replace l6 := lg 6 _ rfl rfl l6
          replace l5 := lg 5 _ rfl rfl l5
          replace l7 := lg 7 _ rfl rfl l7
          replace l8 := lg 8 _ rfl rfl l8
          replace l9 := lg 9 _ rfl rfl l9
          have l10 := ls
          refine i_258_242 (x := (Int32.ofInt (a : Int))) (c := (Int32.ofInt ((a : Int) + (-1)))) l5 (o_dec (a : Int)) rfl ?_
          refine lgen1 (i := 5) (v := Value.int (Int32.ofInt ((a : Int) + (-1)))) (fun lv lg ls => ?_)
          replace l10 := lg 10 _ rfl rfl l10
          replace l11 := lg 11 _ rfl rfl l11
          replace l0 := lg 0 _ rfl rfl l0
          replace l1 := lg 1 _ rfl rfl l1
          replace l2 := lg 2 _ rfl rfl l2
          replace l3 := lg 3 _ rfl rfl l3
          replace l4 := lg 4 _ rfl rfl l4
          replace l6 := lg 6 _ rfl rfl l6
          replace l7 := lg 7 _ rfl rfl l7
          replace l8 := lg 8 _ rfl rfl l8
          replace l9 := lg 9 _ rfl rfl l9
          have l5 := ls
          refine i_258_245 (x := (Int32.ofInt ((a : Int) + (-1)))) (c := (Int32.ofInt ((a : Int) + (-1) + 1))) l5 (o_add ((a : Int) + (-1)) 1) rfl ?_
          refine lgen1 (i := 5) (v := Value.int (Int32.ofInt ((a : Int) + (-1) + 1))) (fun lv lg ls => ?_)
          replace l10 := lg 10 _ rfl rfl l10
          replace l11 := lg 11 _ rfl rfl l11
          replace l0 := lg 0 _ rfl rfl l0
          replace l1 := lg 1 _ rfl rfl l1
          replace l2 := lg 2 _ rfl rfl l2
          replace l3 := lg 3 _ rfl rfl l3
          replace l4 := lg 4 _ rfl rfl l4
          replace l6 := lg 6 _ rfl rfl l6
          replace l7 := lg 7 _ rfl rfl l7
          replace l8 := lg 8 _ rfl rfl l8
          replace l9 := lg 9 _ rfl rfl l9
          have l5 := ls
          refine i_258_248 ?_
          rw [show (a : Int) + (-1) + 1 = (a : Int) by omega] at l5
          refine i_258_155 l5 ?_
          refine i_258_157 l4 ?_
          refine i_258_159 (b_le (a := (n : Int)) (b := (a : Int)) ⟨by omega, by omega⟩ ⟨by omega, by omega⟩ fun c => absurd c (by omega)) (b_lt (a := (a : Int)) (b := (n : Int)) ⟨by omega, by omega⟩ ⟨by omega, by omega⟩ fun _ => ?_)
          refine i_258_162 l10 ?_
          refine i_258_164 (fun _ => ?_) (fun c => absurd rfl c)
          rw [rdS, if_neg (by omega), if_neg (by omega), if_pos (dgn hdg (by omega))] at hX
          subst hX
          exact hQ hR hnV h129 (show xbl v ≤ 24576 by omega) (show a ≤ n by omega) (show c ≤ 4096 by omega) (show b ≤ 4096 by omega) l0 l1 l2 l3 l4 l6 l5 l7 l8
        · refine i_258_208 (x := 128) l0 ?_
          refine i_258_209 (v := Value.ref 129) hR.c128 rfl ?_
          refine i_258_212 (x := Int32.ofInt (rx : Int)) l2 ?_
          obtain ⟨fs, hobj⟩ := hR.obj (h := 129) (iNw (h := 129) (by decide) (by decide) (by decide))
          obtain ⟨w, hrun, hR⟩ := r_times (d := d + 5) (v := v) (c := 4700) (k := (rx : Int)) hR (iNw (h := 129) (by decide) (by decide) (by decide)) (h129) rfl (by omega) (by omega) (by omega)
          rw [Int.toNat_natCast] at hR
          have hxt := xbl_prod v rx
          have hx6 : xbl rx ≤ 6 := xbl_le (by omega)
          refine i_258_213 hobj (Nat.le_of_ble_eq_true rfl) hrun ?_
          refine i_258_216 (x := 128) l0 ?_
          refine i_258_217 (v := Value.ref 129) hR.c128 rfl ?_
          refine i_258_220 (x := Int32.ofInt dg) l11 ?_
          obtain ⟨fs, hobj⟩ := hR.obj (h := 129) (iNw (h := 129) (by decide) (by decide) (by decide))
          obtain ⟨w, hrun, hR⟩ := r_addi (d := d + 5) (v := v * rx) (c := 4700) (k := dg) hR (iNw (h := 129) (by decide) (by decide) (by decide)) (uv_s) rfl (by omega) (by omega) (by omega)
          rw [uvv] at hR
          refine i_258_222 hobj (Nat.le_of_ble_eq_true rfl) hrun ?_
          refine i_258_225 (x := (Int32.ofInt (c : Int))) (c := (Int32.ofInt ((c : Int) + 1))) l7 (o_add (c : Int) 1) rfl ?_
          refine lgen1 (i := 7) (v := Value.int (Int32.ofInt ((c : Int) + 1))) (fun lv lg ls => ?_)
          replace l11 := lg 11 _ rfl rfl l11
          replace l0 := lg 0 _ rfl rfl l0
          replace l1 := lg 1 _ rfl rfl l1
          replace l2 := lg 2 _ rfl rfl l2
          replace l3 := lg 3 _ rfl rfl l3
          replace l4 := lg 4 _ rfl rfl l4
          replace l6 := lg 6 _ rfl rfl l6
          replace l5 := lg 5 _ rfl rfl l5
          replace l8 := lg 8 _ rfl rfl l8
          replace l9 := lg 9 _ rfl rfl l9
          replace l10 := lg 10 _ rfl rfl l10
          have l7 := ls
          refine i_258_228 (x := Int32.ofInt pt) l9 ?_
          refine i_258_230 (z_eq (a := pt) ⟨by omega, by omega⟩ fun c6 => absurd c6 (by omega)) (z_ne (a := pt) ⟨by omega, by omega⟩ fun c6 => ?_)
          refine i_258_233 (x := (Int32.ofInt (b : Int))) (c := (Int32.ofInt ((b : Int) + 1))) l8 (o_add (b : Int) 1) rfl ?_
          refine lgen1 (i := 8) (v := Value.int (Int32.ofInt ((b : Int) + 1))) (fun lv lg ls => ?_)
          replace l7 := lg 7 _ rfl rfl l7
          replace l11 := lg 11 _ rfl rfl l11
          replace l0 := lg 0 _ rfl rfl l0
          replace l1 := lg 1 _ rfl rfl l1
          replace l2 := lg 2 _ rfl rfl l2
          replace l3 := lg 3 _ rfl rfl l3
          replace l4 := lg 4 _ rfl rfl l4
          replace l6 := lg 6 _ rfl rfl l6
          replace l5 := lg 5 _ rfl rfl l5
          replace l9 := lg 9 _ rfl rfl l9
          replace l10 := lg 10 _ rfl rfl l10
          have l8 := ls
          refine i_258_236 ?_
          refine i_258_245 (x := (Int32.ofInt (a : Int))) (c := (Int32.ofInt ((a : Int) + 1))) l5 (o_add (a : Int) 1) rfl ?_
          refine lgen1 (i := 5) (v := Value.int (Int32.ofInt ((a : Int) + 1))) (fun lv lg ls => ?_)
          replace l8 := lg 8 _ rfl rfl l8
          replace l7 := lg 7 _ rfl rfl l7
          replace l11 := lg 11 _ rfl rfl l11
          replace l0 := lg 0 _ rfl rfl l0
          replace l1 := lg 1 _ rfl rfl l1
          replace l2 := lg 2 _ rfl rfl l2
          replace l3 := lg 3 _ rfl rfl l3
          replace l4 := lg 4 _ rfl rfl l4
          replace l6 := lg 6 _ rfl rfl l6
          replace l9 := lg 9 _ rfl rfl l9
          replace l10 := lg 10 _ rfl rfl l10
          have l5 := ls
          refine i_258_248 ?_
          rw [show (a : Int) + 1 = ((a + 1 : Nat) : Int) by omega] at l5
          rw [show (c : Int) + 1 = ((c + 1 : Nat) : Int) by omega] at l7
          rw [show (b : Int) + 1 = ((b + 1 : Nat) : Int) by omega] at l8
          have hdp := dgp hdg (by omega)
          rw [rdS, if_neg (by omega), if_neg (by omega), if_neg hdp.1, ← hdp.2, show pt.toNat = 1 by omega] at hX
          exact ih (a + 1) (c + 1) (b + 1) (v * rx + dg.toNat) pt (by omega) hpt (by omega) (rd_bl hv (by omega) (by omega)) (by omega) hX hR (nV.up hnV (by omega)) (uv_s) l0 l1 l2 l3 l4 l6 l5 l7 l8 l9 l10
      · refine i_258_197 ?_
        refine i_258_198 rfl ?_
        refine lgen1 (i := 9) (v := Value.int 1) (fun lv lg ls => ?_)
        replace l11 := lg 11 _ rfl rfl l11
        replace l0 := lg 0 _ rfl rfl l0
        replace l1 := lg 1 _ rfl rfl l1
        replace l2 := lg 2 _ rfl rfl l2
        replace l3 := lg 3 _ rfl rfl l3
        replace l4 := lg 4 _ rfl rfl l4
        replace l6 := lg 6 _ rfl rfl l6
        replace l5 := lg 5 _ rfl rfl l5
        replace l7 := lg 7 _ rfl rfl l7
        replace l8 := lg 8 _ rfl rfl l8
        replace l10 := lg 10 _ rfl rfl l10
        have l9 := ls
        refine i_258_200 ?_
        refine i_258_245 (x := (Int32.ofInt (a : Int))) (c := (Int32.ofInt ((a : Int) + 1))) l5 (o_add (a : Int) 1) rfl ?_
        refine lgen1 (i := 5) (v := Value.int (Int32.ofInt ((a : Int) + 1))) (fun lv lg ls => ?_)
        replace l9 := lg 9 _ rfl rfl l9
        replace l11 := lg 11 _ rfl rfl l11
        replace l0 := lg 0 _ rfl rfl l0
        replace l1 := lg 1 _ rfl rfl l1
        replace l2 := lg 2 _ rfl rfl l2
        replace l3 := lg 3 _ rfl rfl l3
        replace l4 := lg 4 _ rfl rfl l4
        replace l6 := lg 6 _ rfl rfl l6
        replace l7 := lg 7 _ rfl rfl l7
        replace l8 := lg 8 _ rfl rfl l8
        replace l10 := lg 10 _ rfl rfl l10
        have l5 := ls
        refine i_258_248 ?_
        rw [show (a : Int) + 1 = ((a + 1 : Nat) : Int) by omega] at l5
        rw [rdS, if_neg (by omega), if_pos ⟨by omega, by omega⟩] at hX
        exact ih (a + 1) c b v 1 (by omega) (Or.inr rfl) (by omega) hv hb hX hR hnV h129 l0 l1 l2 l3 l4 l6 l5 l7 l8 l9 l10
end
