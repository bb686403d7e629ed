theorem two1 {p : Int} (h : 2 ≤ p) : 2 ^ p.toNat - 1 ≠ 0 := by
  have : 2 ^ 1 ≤ 2 ^ p.toNat := Nat.pow_le_pow_right (by omega) (by omega)
  omega
theorem two2 {p : Int} (h : 2 ≤ p) (h1 : p ≤ 4096) : xbl (2 ^ p.toNat - 1) ≤ 140900 := by
  rw [xbl_ones]
  omega
theorem rd_D {d : Nat} {w0 w : xW} {S : Nat → Nat → Int} {V : Nat → Nat} {lv : xLv} {Q : Option Value ⊕ Nat → xW → Prop} {h q : Nat} {r more sg mode p x u way : Int} (hR : mR w0 S (uv V 135 q) w) (l0 : xld lv 0 = some (Value.ref 128)) (l1 : xld lv 1 = some (Value.int (Int32.ofInt r))) (l2 : xld lv 2 = some (Value.ref h)) (l4 : xld lv 4 = some (Value.int (Int32.ofInt more))) (l5 : xld lv 5 = some (Value.int (Int32.ofInt sg))) (l6 : xld lv 6 = some (Value.int (Int32.ofInt mode))) (l7 : xld lv 7 = some (Value.int (Int32.ofInt p))) (l8 : xld lv 8 = some (Value.int (Int32.ofInt x))) (l9 : xld lv 9 = some (Value.int (Int32.ofInt u))) (l13 : xld lv 13 = some (Value.int (Int32.ofInt ((xbl q : Int) + u)))) (hh : isN h) (h135 : h ≠ 135) (hp : S 153 r.toNat = p) (p0 : 2 ≤ S 153 r.toNat) (p1 : S 153 r.toNat ≤ 4096) (hneg : S 156 r.toNat = sg) (h0 : 0 ≤ r) (h1 : r < 17) (hm : more = 0 ∨ more = 1) (hs : sg = 0 ∨ sg = 1) (hmo : 0 ≤ mode ∧ mode ≤ 4) (hx : -4000000 ≤ x ∧ x ≤ 4000000) (hu : -4000000 ≤ u ∧ u ≤ 4000000) (hl : -16384 ≤ S 128 17 ∧ S 128 17 ≤ 16384) (hg : -16384 ≤ S 128 18 ∧ S 128 18 ≤ 16384) (hgr : S 128 20 = 0 ∨ S 128 20 = 1) (hfr : S 128 21 = 0 ∨ S 128 21 = 1) (hq : xbl q ≤ 140900) (hvm : xbl (V h) ≤ 141000) (k : ∀ lv S' V' w o, o = rD p (S 128 17) (S 128 18) (S 128 20) (S 128 21) sg mode x more (V h) q u way (S 128 19) → xld lv 0 = some (Value.ref 128) → xld lv 5 = some (Value.int (Int32.ofInt sg)) → xld lv 8 = some (Value.int (Int32.ofInt x)) → xld lv 14 = some (Value.int (Int32.ofInt o.2.2.2.1)) → mR w0 S' V' w → rPost S S' V V' r.toNat sg o → xEv (d + 4) 180 591 lv [] w Q)  : xEv (d + 4) 180 205 lv [Value.int (Int32.ofInt way)] w Q := by
  refine i_180_205 rfl ?_
  refine lgen1 (i := 14) (v := Value.int (Int32.ofInt way)) (fun lv lg ls => ?_)
  replace l0 := lg 0 _ rfl rfl l0
  replace l1 := lg 1 _ rfl rfl l1
  replace l2 := lg 2 _ rfl rfl l2
  replace l4 := lg 4 _ rfl rfl l4
  replace l5 := lg 5 _ rfl rfl l5
  replace l6 := lg 6 _ rfl rfl l6
  replace l7 := lg 7 _ rfl rfl l7
  replace l8 := lg 8 _ rfl rfl l8
  replace l9 := lg 9 _ rfl rfl l9
  replace l13 := lg 13 _ rfl rfl l13
  have l14 := ls
  refine i_180_207 (x := 128) l0 ?_
  refine i_180_208 (v := Value.int (Int32.ofInt (S 128 21))) hR.c128 rfl ?_
  refine i_180_211 (z_ne (a := S 128 21) ⟨by omega, by omega⟩ fun c0 => ?_) (z_eq (a := S 128 21) ⟨by omega, by omega⟩ fun c0 => ?_)
  · refine i_180_367 (x := 128) l0 ?_
    refine i_180_368 (v := Value.ref 135) hR.c128 rfl ?_
    obtain ⟨n2, hsz, hn2, hz2⟩ := hR.size (h := 135) (v := q) (iNw (h := 135) (by decide) (by decide) (by decide)) (uv_s)
    refine i_180_371 (v := Value.int (Int32.ofInt (n2 : Int))) hsz rfl ?_
    refine i_180_374 (z_ne (a := (n2 : Int)) ⟨by omega, by omega⟩ fun c2 => ?_) (z_eq (a := (n2 : Int)) ⟨by omega, by omega⟩ fun c2 => ?_)
    · refine i_180_392 (x := 128) l0 ?_
      refine i_180_393 (v := Value.int (Int32.ofInt (S 128 21))) hR.c128 rfl ?_
      refine i_180_396 (z_ne (a := S 128 21) ⟨by omega, by omega⟩ fun c3 => ?_) (z_eq (a := S 128 21) ⟨by omega, by omega⟩ fun c3 => absurd c3 (by omega))
      refine i_180_580 (x := 128) l0 ?_
      refine i_180_581 (x := Int32.ofInt r) l1 ?_
      refine i_180_582 (x := 128) l0 ?_
      refine i_180_583 (v := Value.ref 135) hR.c128 rfl ?_
      refine i_180_586 (x := Int32.ofInt u) l9 ?_
      have hobj := hR.c128
      obtain ⟨w, hrun, S5, V5, hR, hk5, ht5, hq5, hS5, hV5⟩ := s_put (d := d) (h := 135) (r := r) (e := u) hR (iNw (h := 135) (by decide) (by decide) (by decide)) (by omega) (by omega) (by omega) (by omega) (by simpa [u2_e] using p0) (by simpa [u2_e] using p1) (by rw [show (uv V 135 q) 135 = q from uv_s]; omega) (by rw [show (uv V 135 q) 135 = q from uv_s]; exact hq)
      rw [show (uv V 135 q) 135 = q from uv_s] at ht5 hq5
      refine i_180_588 hobj (Nat.le_of_ble_eq_true rfl) hrun ?_
      have eo : rD p (S 128 17) (S 128 18) (S 128 20) (S 128 21) sg mode x more (V h) q u way (S 128 19) = (3, (xbl q : Int) + (u), nrm q p, way, S 128 19) := by unfold rD; rw [if_neg (by omega), if_neg (by omega), if_neg (by omega)]
      refine k _ _ _ _ _ eo.symm l0 l5 l8 l14 hR ?_
      refine ⟨?_, ?_, ⟨fun _ => ⟨?_, ?_⟩, fun h => absurd rfl h⟩, ?_, ?_, ?_⟩
      · exact hk5
      · rw [hS5 _ _ (by omega) (by omega)]; exact hneg
      · exact ht5
      · simpa [u2_e, hp] using hq5
      · rw [hS5 _ _ (by omega) (by omega)]
      · intro a j g1 g2 g3 g4; rw [hS5 a j g1 g2]
      · intro k g1 g2 g3 g4 g5; rw [hV5 k g2 g5, uv_n (by omega)]
    · refine i_180_377 (x := 128) l0 ?_
      refine i_180_378 (x := Int32.ofInt r) l1 ?_
      refine i_180_379 ?_
      refine i_180_380 (x := Int32.ofInt sg) l5 ?_
      have hobj := hR.c128
      obtain ⟨w, hrun, hR⟩ := s_special (d := d + 2) (r := r) (k := 2) (s := sg) hR (by omega) (by omega) (by omega)
      refine i_180_382 hobj (Nat.le_of_ble_eq_true rfl) hrun ?_
      refine i_180_385 rfl ?_
      refine i_180_386 ?_
      refine i_180_387 rfl ?_
      refine lgen1 (i := 14) (v := Value.int (-1)) (fun lv lg ls => ?_)
      replace l0 := lg 0 _ rfl rfl l0
      replace l1 := lg 1 _ rfl rfl l1
      replace l2 := lg 2 _ rfl rfl l2
      replace l4 := lg 4 _ rfl rfl l4
      replace l5 := lg 5 _ rfl rfl l5
      replace l6 := lg 6 _ rfl rfl l6
      replace l7 := lg 7 _ rfl rfl l7
      replace l8 := lg 8 _ rfl rfl l8
      replace l9 := lg 9 _ rfl rfl l9
      replace l13 := lg 13 _ rfl rfl l13
      have l14 := ls
      refine i_180_389 ?_
      have eo : rD p (S 128 17) (S 128 18) (S 128 20) (S 128 21) sg mode x more (V h) q u way (S 128 19) = (2, 0, 0, (-1), S 128 19) := by unfold rD; rw [if_neg (by omega), if_pos (by omega)]
      refine k _ _ _ _ _ eo.symm l0 l5 l8 l14 hR ?_
      refine ⟨by simp [u2_e], by simp [u2_e], ⟨fun h => absurd (show (2 : Int) = 3 from h) (by decide), fun _ => ⟨by simp [u2_e], by repeat rw [uv_n (by omega)]⟩⟩, by simp [u2_e], ?_, ?_⟩
      · intro a j g1 g2 g3 g4; simp [u2_e, g1, g3, g4]
      · intro k g1 g2 g3 g4 g5; rw [uv_n (by omega)]
  · refine i_180_214 (x := 128) l0 ?_
    refine i_180_215 (v := Value.ref 135) hR.c128 rfl ?_
    obtain ⟨n6, hsz, hn6, hz6⟩ := hR.size (h := 135) (v := q) (iNw (h := 135) (by decide) (by decide) (by decide)) (uv_s)
    refine i_180_218 (v := Value.int (Int32.ofInt (n6 : Int))) hsz rfl ?_
    refine i_180_221 (z_le (a := (n6 : Int)) ⟨by omega, by omega⟩ fun c6 => ?_) (z_gt (a := (n6 : Int)) ⟨by omega, by omega⟩ fun c6 => ?_)
    · refine i_180_367 (x := 128) l0 ?_
      refine i_180_368 (v := Value.ref 135) hR.c128 rfl ?_
      obtain ⟨n8, hsz, hn8, hz8⟩ := hR.size (h := 135) (v := q) (iNw (h := 135) (by decide) (by decide) (by decide)) (uv_s)
      refine i_180_371 (v := Value.int (Int32.ofInt (n8 : Int))) hsz rfl ?_
      refine i_180_374 (z_ne (a := (n8 : Int)) ⟨by omega, by omega⟩ fun c8 => ?_) (z_eq (a := (n8 : Int)) ⟨by omega, by omega⟩ fun c8 => ?_)
      · refine i_180_392 (x := 128) l0 ?_
        refine i_180_393 (v := Value.int (Int32.ofInt (S 128 21))) hR.c128 rfl ?_
        refine i_180_396 (z_ne (a := S 128 21) ⟨by omega, by omega⟩ fun c9 => absurd c9 (by omega)) (z_eq (a := S 128 21) ⟨by omega, by omega⟩ fun c9 => ?_)
        refine i_180_399 (x := 128) l0 ?_
        refine i_180_400 (v := Value.int (Int32.ofInt (S 128 20))) hR.c128 rfl ?_
        refine i_180_403 (z_ne (a := S 128 20) ⟨by omega, by omega⟩ fun c10 => ?_) (z_eq (a := S 128 20) ⟨by omega, by omega⟩ fun c10 => ?_)
        · refine i_180_580 (x := 128) l0 ?_
          refine i_180_581 (x := Int32.ofInt r) l1 ?_
          refine i_180_582 (x := 128) l0 ?_
          refine i_180_583 (v := Value.ref 135) hR.c128 rfl ?_
          refine i_180_586 (x := Int32.ofInt u) l9 ?_
          have hobj := hR.c128
          obtain ⟨w, hrun, S12, V12, hR, hk12, ht12, hq12, hS12, hV12⟩ := s_put (d := d) (h := 135) (r := r) (e := u) hR (iNw (h := 135) (by decide) (by decide) (by decide)) (by omega) (by omega) (by omega) (by omega) (by simpa [u2_e] using p0) (by simpa [u2_e] using p1) (by rw [show (uv V 135 q) 135 = q from uv_s]; omega) (by rw [show (uv V 135 q) 135 = q from uv_s]; exact hq)
          rw [show (uv V 135 q) 135 = q from uv_s] at ht12 hq12
          refine i_180_588 hobj (Nat.le_of_ble_eq_true rfl) hrun ?_
          have eo : rD p (S 128 17) (S 128 18) (S 128 20) (S 128 21) sg mode x more (V h) q u way (S 128 19) = (3, (xbl q : Int) + (u), nrm q p, way, S 128 19) := by unfold rD; rw [if_neg (by omega), if_neg (by omega), if_neg (by omega)]
          refine k _ _ _ _ _ eo.symm l0 l5 l8 l14 hR ?_
          refine ⟨?_, ?_, ⟨fun _ => ⟨?_, ?_⟩, fun h => absurd rfl h⟩, ?_, ?_, ?_⟩
          · exact hk12
          · rw [hS12 _ _ (by omega) (by omega)]; exact hneg
          · exact ht12
          · simpa [u2_e, hp] using hq12
          · rw [hS12 _ _ (by omega) (by omega)]
          · intro a j g1 g2 g3 g4; rw [hS12 a j g1 g2]
          · intro k g1 g2 g3 g4 g5; rw [hV12 k g2 g5, uv_n (by omega)]
        · refine i_180_406 (x := Int32.ofInt ((xbl q : Int) + u)) l13 ?_
          refine i_180_408 (x := 128) l0 ?_
          refine i_180_409 (v := Value.int (Int32.ofInt (S 128 17))) hR.c128 rfl ?_
          refine i_180_412 (b_le (a := S 128 17) (b := (xbl q : Int) + u) ⟨by omega, by omega⟩ ⟨by omega, by omega⟩ fun c12 => ?_) (b_lt (a := (xbl q : Int) + u) (b := S 128 17) ⟨by omega, by omega⟩ ⟨by omega, by omega⟩ fun c12 => ?_)
          · refine i_180_580 (x := 128) l0 ?_
            refine i_180_581 (x := Int32.ofInt r) l1 ?_
            refine i_180_582 (x := 128) l0 ?_
            refine i_180_583 (v := Value.ref 135) hR.c128 rfl ?_
            refine i_180_586 (x := Int32.ofInt u) l9 ?_
            have hobj := hR.c128
            obtain ⟨w, hrun, S14, V14, hR, hk14, ht14, hq14, hS14, hV14⟩ := s_put (d := d) (h := 135) (r := r) (e := u) hR (iNw (h := 135) (by decide) (by decide) (by decide)) (by omega) (by omega) (by omega) (by omega) (by simpa [u2_e] using p0) (by simpa [u2_e] using p1) (by rw [show (uv V 135 q) 135 = q from uv_s]; omega) (by rw [show (uv V 135 q) 135 = q from uv_s]; exact hq)
            rw [show (uv V 135 q) 135 = q from uv_s] at ht14 hq14
            refine i_180_588 hobj (Nat.le_of_ble_eq_true rfl) hrun ?_
            have eo : rD p (S 128 17) (S 128 18) (S 128 20) (S 128 21) sg mode x more (V h) q u way (S 128 19) = (3, (xbl q : Int) + (u), nrm q p, way, S 128 19) := by unfold rD; rw [if_neg (by omega), if_neg (by omega), if_neg (by omega)]
            refine k _ _ _ _ _ eo.symm l0 l5 l8 l14 hR ?_
            refine ⟨?_, ?_, ⟨fun _ => ⟨?_, ?_⟩, fun h => absurd rfl h⟩, ?_, ?_, ?_⟩
            · exact hk14
            · rw [hS14 _ _ (by omega) (by omega)]; exact hneg
            · exact ht14
            · simpa [u2_e, hp] using hq14
            · rw [hS14 _ _ (by omega) (by omega)]
            · intro a j g1 g2 g3 g4; rw [hS14 a j g1 g2]
            · intro k g1 g2 g3 g4 g5; rw [hV14 k g2 g5, uv_n (by omega)]
          · refine i_180_415 (x := 128) l0 ?_
            refine i_180_416 rfl ?_
            refine i_180_417 (v := Value.int (Int32.ofInt (S 128 19))) hR.c128 rfl ?_
            refine i_180_420 ?_
            refine i_180_421 (c := Int32.ofInt (zor (S 128 19) 4)) (o_or (S 128 19) 4) ?_
            refine i_180_422 (fs2 := mf (u1 (S 128) 19 (zor (S 128 19) 4))) hR.c128 (Nat.le_of_ble_eq_true rfl) mfs_19 (by decide) ?_
            refine xgen (P := mR w0 (u2 S 128 19 (zor (S 128 19) 4)) (uv V 135 q)) hR.fld2 (fun w hR => ?_)
            refine i_180_425 (x := Int32.ofInt x) l8 ?_
            refine i_180_427 (x := 128) l0 ?_
            refine i_180_428 (v := Value.int (Int32.ofInt (S 128 17))) hR.c128 rfl ?_
            refine i_180_431 ?_
            refine i_180_432 (c := Int32.ofInt ((S 128 17) - 1)) (o_sub (S 128 17) 1) ?_
            refine i_180_433 (b_lt (a := (S 128 17) - 1) (b := x) ⟨by omega, by omega⟩ ⟨by omega, by omega⟩ fun c14 => ?_) (b_le (a := x) (b := (S 128 17) - 1) ⟨by omega, by omega⟩ ⟨by omega, by omega⟩ fun c14 => ?_)
            · refine i_180_465 ?_
              refine i_180_466 ?_
              refine i_180_470 rfl ?_
              refine lgen1 (i := 15) (v := Value.int 1) (fun lv lg ls => ?_)
              replace l14 := lg 14 _ rfl rfl l14
              replace l0 := lg 0 _ rfl rfl l0
              replace l1 := lg 1 _ rfl rfl l1
              replace l2 := lg 2 _ rfl rfl l2
              replace l4 := lg 4 _ rfl rfl l4
              replace l5 := lg 5 _ rfl rfl l5
              replace l6 := lg 6 _ rfl rfl l6
              replace l7 := lg 7 _ rfl rfl l7
              replace l8 := lg 8 _ rfl rfl l8
              replace l9 := lg 9 _ rfl rfl l9
              replace l13 := lg 13 _ rfl rfl l13
              have l15 := ls
              refine i_180_472 (x := Int32.ofInt mode) l6 ?_
              refine i_180_474 ?_
              refine i_180_475 (b_eq (a := mode) (b := 4) ⟨by omega, by omega⟩ ⟨by decide, by decide⟩ fun c15 => ?_) (b_ne (a := mode) (b := 4) ⟨by omega, by omega⟩ ⟨by decide, by decide⟩ fun c15 => ?_)
              · refine i_180_510 ?_
                refine i_180_511 ?_
                refine i_180_515 rfl ?_
                refine lgen1 (i := 16) (v := Value.int 1) (fun lv lg ls => ?_)
                replace l15 := lg 15 _ rfl rfl l15
                replace l14 := lg 14 _ rfl rfl l14
                replace l0 := lg 0 _ rfl rfl l0
                replace l1 := lg 1 _ rfl rfl l1
                replace l2 := lg 2 _ rfl rfl l2
                replace l4 := lg 4 _ rfl rfl l4
                replace l5 := lg 5 _ rfl rfl l5
                replace l6 := lg 6 _ rfl rfl l6
                replace l7 := lg 7 _ rfl rfl l7
                replace l8 := lg 8 _ rfl rfl l8
                replace l9 := lg 9 _ rfl rfl l9
                replace l13 := lg 13 _ rfl rfl l13
                have l16 := ls
                refine i_180_517 (x := 1) l16 ?_
                refine i_180_519 (fun c => absurd c (by decide)) (fun _ => ?_)
                refine i_180_522 (x := 128) l0 ?_
                refine i_180_523 (v := Value.ref 151) hR.c128 rfl ?_
                refine i_180_526 ?_
                obtain ⟨fs, hobj⟩ := hR.obj (h := 151) (iNw (h := 151) (by decide) (by decide) (by decide))
                obtain ⟨w, hrun, hR⟩ := r_setl (d := d + 1) (x := (1 : Int64)) (v := 1) hR (iNw (h := 151) (by decide) (by decide) (by decide)) rfl
                refine i_180_527 hobj (Nat.le_of_ble_eq_true rfl) hrun ?_
                refine i_180_530 (x := 128) l0 ?_
                refine i_180_531 (x := Int32.ofInt r) l1 ?_
                refine i_180_532 (x := 128) l0 ?_
                refine i_180_533 (v := Value.ref 151) hR.c128 rfl ?_
                refine i_180_536 (x := 128) l0 ?_
                refine i_180_537 (v := Value.int (Int32.ofInt (S 128 17))) hR.c128 rfl ?_
                refine i_180_540 ?_
                refine i_180_541 (c := Int32.ofInt ((S 128 17) - 1)) (o_sub (S 128 17) 1) ?_
                have hobj := hR.c128
                obtain ⟨w, hrun, S17, V17, hR, hk17, ht17, hq17, hS17, hV17⟩ := s_put (d := d) (h := 151) (r := r) (e := (S 128 17) - 1) hR (iNw (h := 151) (by decide) (by decide) (by decide)) (by omega) (by omega) (by omega) (by omega) (by simpa [u2_e] using p0) (by simpa [u2_e] using p1) (by rw [show (uv (uv V 135 q) 151 1) 151 = 1 from uv_s]; decide) (by rw [show (uv (uv V 135 q) 151 1) 151 = 1 from uv_s]; decide)
                rw [show (uv (uv V 135 q) 151 1) 151 = 1 from uv_s] at ht17 hq17
                refine i_180_542 hobj (Nat.le_of_ble_eq_true rfl) hrun ?_
                refine i_180_545 (x := 128) l0 ?_
                refine i_180_546 (v := Value.ref 156) hR.c128 rfl ?_
                refine i_180_549 (x := Int32.ofInt r) l1 ?_
                refine i_180_550 (x := Int32.ofInt sg) l5 ?_
                refine i_180_552z (v := Value.int (Int32.ofInt sg)) (hR.row a156) (ix0 (T := r) (by omega) (by omega)) (ix1 (T := r) (by omega) (by omega) (by omega)) (by decide) (nrb (by omega)) ?_
                rw [ixn (T := r) (by omega) (by omega)]
                refine xgen (P := mR w0 (u2 S17 156 ((r).toNat) sg) V17) (hR.arr a156 rfl) (fun w hR => ?_)
                refine i_180_553 ?_
                refine i_180_565 (x := 1) l16 ?_
                refine i_180_567 (fun c => absurd c (by decide)) (fun _ => ?_)
                refine i_180_570 ?_
                refine i_180_571 ?_
                refine i_180_575 rfl ?_
                refine lgen1 (i := 14) (v := Value.int 1) (fun lv lg ls => ?_)
                replace l16 := lg 16 _ rfl rfl l16
                replace l15 := lg 15 _ rfl rfl l15
                replace l0 := lg 0 _ rfl rfl l0
                replace l1 := lg 1 _ rfl rfl l1
                replace l2 := lg 2 _ rfl rfl l2
                replace l4 := lg 4 _ rfl rfl l4
                replace l5 := lg 5 _ rfl rfl l5
                replace l6 := lg 6 _ rfl rfl l6
                replace l7 := lg 7 _ rfl rfl l7
                replace l8 := lg 8 _ rfl rfl l8
                replace l9 := lg 9 _ rfl rfl l9
                replace l13 := lg 13 _ rfl rfl l13
                have l14 := ls
                refine i_180_577 ?_
                have eo : rD p (S 128 17) (S 128 18) (S 128 20) (S 128 21) sg mode x more (V h) q u way (S 128 19) = (3, (xbl 1 : Int) + ((S 128 17) - 1), nrm 1 p, 1, zor (S 128 19) 4) := by unfold rD; rw [if_neg (by omega), if_neg (by omega), if_pos (by omega), if_pos (by simp [upU, away, *])]
                refine k _ _ _ _ _ eo.symm l0 l5 l8 l14 hR ?_
                refine ⟨?_, ?_, ⟨fun _ => ⟨?_, ?_⟩, fun h => absurd rfl h⟩, ?_, ?_, ?_⟩
                · simp [u2_e, hk17]
                · simp [u2_e]
                · rw [u2_e, if_neg (by omega)]; exact ht17
                · simpa [u2_e, hp] using hq17
                · rw [u2_e, if_neg (by omega)]; rw [hS17 _ _ (by omega) (by omega)]; simp [u2_e]
                · intro a j g1 g2 g3 g4; rw [u2_e, if_neg g3]; rw [hS17 a j g1 g2]; rw [u2_e, if_neg g4]
                · intro k g1 g2 g3 g4 g5; rw [hV17 k g2 g5, uv_n (by omega), uv_n (by omega)]
              · refine i_180_478 (x := Int32.ofInt mode) l6 ?_
                refine i_180_480 ?_
                refine i_180_481 (b_ne (a := mode) (b := 2) ⟨by omega, by omega⟩ ⟨by decide, by decide⟩ fun c17 => ?_) (b_eq (a := mode) (b := 2) ⟨by omega, by omega⟩ ⟨by decide, by decide⟩ fun c17 => ?_)
                · refine i_180_489 (x := Int32.ofInt mode) l6 ?_
                  refine i_180_491 ?_
                  refine i_180_492 (b_ne (a := mode) (b := 3) ⟨by omega, by omega⟩ ⟨by decide, by decide⟩ fun c18 => ?_) (b_eq (a := mode) (b := 3) ⟨by omega, by omega⟩ ⟨by decide, by decide⟩ fun c18 => ?_)
                  · refine i_180_500 (x := Int32.ofInt mode) l6 ?_
                    refine i_180_502 (z_ne (a := mode) ⟨by omega, by omega⟩ fun c19 => ?_) (z_eq (a := mode) ⟨by omega, by omega⟩ fun c19 => ?_)
                    · refine i_180_514 ?_
                      refine i_180_515 rfl ?_
                      refine lgen1 (i := 16) (v := Value.int 0) (fun lv lg ls => ?_)
                      replace l15 := lg 15 _ rfl rfl l15
                      replace l14 := lg 14 _ rfl rfl l14
                      replace l0 := lg 0 _ rfl rfl l0
                      replace l1 := lg 1 _ rfl rfl l1
                      replace l2 := lg 2 _ rfl rfl l2
                      replace l4 := lg 4 _ rfl rfl l4
                      replace l5 := lg 5 _ rfl rfl l5
                      replace l6 := lg 6 _ rfl rfl l6
                      replace l7 := lg 7 _ rfl rfl l7
                      replace l8 := lg 8 _ rfl rfl l8
                      replace l9 := lg 9 _ rfl rfl l9
                      replace l13 := lg 13 _ rfl rfl l13
                      have l16 := ls
                      refine i_180_517 (x := 0) l16 ?_
                      refine i_180_519 (fun _ => ?_) (fun c => absurd c (by decide))
                      refine i_180_556 (x := 128) l0 ?_
                      refine i_180_557 (x := Int32.ofInt r) l1 ?_
                      refine i_180_558 ?_
                      refine i_180_559 (x := Int32.ofInt sg) l5 ?_
                      have hobj := hR.c128
                      obtain ⟨w, hrun, hR⟩ := s_special (d := d + 2) (r := r) (k := 2) (s := sg) hR (by omega) (by omega) (by omega)
                      refine i_180_561 hobj (Nat.le_of_ble_eq_true rfl) hrun ?_
                      refine i_180_564 rfl ?_
                      refine i_180_565 (x := 0) l16 ?_
                      refine i_180_567 (fun _ => ?_) (fun c => absurd c (by decide))
                      refine i_180_574 ?_
                      refine i_180_575 rfl ?_
                      refine lgen1 (i := 14) (v := Value.int (-1)) (fun lv lg ls => ?_)
                      replace l16 := lg 16 _ rfl rfl l16
                      replace l15 := lg 15 _ rfl rfl l15
                      replace l0 := lg 0 _ rfl rfl l0
                      replace l1 := lg 1 _ rfl rfl l1
                      replace l2 := lg 2 _ rfl rfl l2
                      replace l4 := lg 4 _ rfl rfl l4
                      replace l5 := lg 5 _ rfl rfl l5
                      replace l6 := lg 6 _ rfl rfl l6
                      replace l7 := lg 7 _ rfl rfl l7
                      replace l8 := lg 8 _ rfl rfl l8
                      replace l9 := lg 9 _ rfl rfl l9
                      replace l13 := lg 13 _ rfl rfl l13
                      have l14 := ls
                      refine i_180_577 ?_
                      have eo : rD p (S 128 17) (S 128 18) (S 128 20) (S 128 21) sg mode x more (V h) q u way (S 128 19) = (2, 0, 0, (-1), zor (S 128 19) 4) := by unfold rD; rw [if_neg (by omega), if_neg (by omega), if_pos (by omega), if_neg (by simp [upU, away, *])]
                      refine k _ _ _ _ _ eo.symm l0 l5 l8 l14 hR ?_
                      refine ⟨by simp [u2_e], by simp [u2_e], ⟨fun h => absurd (show (2 : Int) = 3 from h) (by decide), fun _ => ⟨by simp [u2_e], by repeat rw [uv_n (by omega)]⟩⟩, by simp [u2_e], ?_, ?_⟩
                      · intro a j g1 g2 g3 g4; simp [u2_e, g1, g3, g4]
                      · intro k g1 g2 g3 g4 g5; rw [uv_n (by omega)]
                    · refine i_180_505 (x := 1) l15 ?_
                      refine i_180_507 (fun c => absurd c (by decide)) (fun _ => ?_)
                      refine i_180_510 ?_
                      refine i_180_511 ?_
                      refine i_180_515 rfl ?_
                      refine lgen1 (i := 16) (v := Value.int 1) (fun lv lg ls => ?_)
                      replace l15 := lg 15 _ rfl rfl l15
                      replace l14 := lg 14 _ rfl rfl l14
                      replace l0 := lg 0 _ rfl rfl l0
                      replace l1 := lg 1 _ rfl rfl l1
                      replace l2 := lg 2 _ rfl rfl l2
                      replace l4 := lg 4 _ rfl rfl l4
                      replace l5 := lg 5 _ rfl rfl l5
                      replace l6 := lg 6 _ rfl rfl l6
                      replace l7 := lg 7 _ rfl rfl l7
                      replace l8 := lg 8 _ rfl rfl l8
                      replace l9 := lg 9 _ rfl rfl l9
                      replace l13 := lg 13 _ rfl rfl l13
                      have l16 := ls
                      refine i_180_517 (x := 1) l16 ?_
                      refine i_180_519 (fun c => absurd c (by decide)) (fun _ => ?_)
                      refine i_180_522 (x := 128) l0 ?_
                      refine i_180_523 (v := Value.ref 151) hR.c128 rfl ?_
                      refine i_180_526 ?_
                      obtain ⟨fs, hobj⟩ := hR.obj (h := 151) (iNw (h := 151) (by decide) (by decide) (by decide))
                      obtain ⟨w, hrun, hR⟩ := r_setl (d := d + 1) (x := (1 : Int64)) (v := 1) hR (iNw (h := 151) (by decide) (by decide) (by decide)) rfl
                      refine i_180_527 hobj (Nat.le_of_ble_eq_true rfl) hrun ?_
                      refine i_180_530 (x := 128) l0 ?_
                      refine i_180_531 (x := Int32.ofInt r) l1 ?_
                      refine i_180_532 (x := 128) l0 ?_
                      refine i_180_533 (v := Value.ref 151) hR.c128 rfl ?_
                      refine i_180_536 (x := 128) l0 ?_
                      refine i_180_537 (v := Value.int (Int32.ofInt (S 128 17))) hR.c128 rfl ?_
                      refine i_180_540 ?_
                      refine i_180_541 (c := Int32.ofInt ((S 128 17) - 1)) (o_sub (S 128 17) 1) ?_
                      have hobj := hR.c128
                      obtain ⟨w, hrun, S21, V21, hR, hk21, ht21, hq21, hS21, hV21⟩ := s_put (d := d) (h := 151) (r := r) (e := (S 128 17) - 1) hR (iNw (h := 151) (by decide) (by decide) (by decide)) (by omega) (by omega) (by omega) (by omega) (by simpa [u2_e] using p0) (by simpa [u2_e] using p1) (by rw [show (uv (uv V 135 q) 151 1) 151 = 1 from uv_s]; decide) (by rw [show (uv (uv V 135 q) 151 1) 151 = 1 from uv_s]; decide)
                      rw [show (uv (uv V 135 q) 151 1) 151 = 1 from uv_s] at ht21 hq21
                      refine i_180_542 hobj (Nat.le_of_ble_eq_true rfl) hrun ?_
                      refine i_180_545 (x := 128) l0 ?_
                      refine i_180_546 (v := Value.ref 156) hR.c128 rfl ?_
                      refine i_180_549 (x := Int32.ofInt r) l1 ?_
                      refine i_180_550 (x := Int32.ofInt sg) l5 ?_
                      refine i_180_552z (v := Value.int (Int32.ofInt sg)) (hR.row a156) (ix0 (T := r) (by omega) (by omega)) (ix1 (T := r) (by omega) (by omega) (by omega)) (by decide) (nrb (by omega)) ?_
                      rw [ixn (T := r) (by omega) (by omega)]
                      refine xgen (P := mR w0 (u2 S21 156 ((r).toNat) sg) V21) (hR.arr a156 rfl) (fun w hR => ?_)
                      refine i_180_553 ?_
                      refine i_180_565 (x := 1) l16 ?_
                      refine i_180_567 (fun c => absurd c (by decide)) (fun _ => ?_)
                      refine i_180_570 ?_
                      refine i_180_571 ?_
                      refine i_180_575 rfl ?_
                      refine lgen1 (i := 14) (v := Value.int 1) (fun lv lg ls => ?_)
                      replace l16 := lg 16 _ rfl rfl l16
                      replace l15 := lg 15 _ rfl rfl l15
                      replace l0 := lg 0 _ rfl rfl l0
                      replace l1 := lg 1 _ rfl rfl l1
                      replace l2 := lg 2 _ rfl rfl l2
                      replace l4 := lg 4 _ rfl rfl l4
                      replace l5 := lg 5 _ rfl rfl l5
                      replace l6 := lg 6 _ rfl rfl l6
                      replace l7 := lg 7 _ rfl rfl l7
                      replace l8 := lg 8 _ rfl rfl l8
                      replace l9 := lg 9 _ rfl rfl l9
                      replace l13 := lg 13 _ rfl rfl l13
                      have l14 := ls
                      refine i_180_577 ?_
                      have eo : rD p (S 128 17) (S 128 18) (S 128 20) (S 128 21) sg mode x more (V h) q u way (S 128 19) = (3, (xbl 1 : Int) + ((S 128 17) - 1), nrm 1 p, 1, zor (S 128 19) 4) := by unfold rD; rw [if_neg (by omega), if_neg (by omega), if_pos (by omega), if_pos (by simp [upU, away, *])]
                      refine k _ _ _ _ _ eo.symm l0 l5 l8 l14 hR ?_
                      refine ⟨?_, ?_, ⟨fun _ => ⟨?_, ?_⟩, fun h => absurd rfl h⟩, ?_, ?_, ?_⟩
                      · simp [u2_e, hk21]
                      · simp [u2_e]
                      · rw [u2_e, if_neg (by omega)]; exact ht21
                      · simpa [u2_e, hp] using hq21
                      · rw [u2_e, if_neg (by omega)]; rw [hS21 _ _ (by omega) (by omega)]; simp [u2_e]
                      · intro a j g1 g2 g3 g4; rw [u2_e, if_neg g3]; rw [hS21 a j g1 g2]; rw [u2_e, if_neg g4]
                      · intro k g1 g2 g3 g4 g5; rw [hV21 k g2 g5, uv_n (by omega), uv_n (by omega)]
                  · refine i_180_495 (x := Int32.ofInt sg) l5 ?_
                    refine i_180_497 (z_ne (a := sg) ⟨by omega, by omega⟩ fun c21 => ?_) (z_eq (a := sg) ⟨by omega, by omega⟩ fun c21 => ?_)
                    · refine i_180_510 ?_
                      refine i_180_511 ?_
                      refine i_180_515 rfl ?_
                      refine lgen1 (i := 16) (v := Value.int 1) (fun lv lg ls => ?_)
                      replace l15 := lg 15 _ rfl rfl l15
                      replace l14 := lg 14 _ rfl rfl l14
                      replace l0 := lg 0 _ rfl rfl l0
                      replace l1 := lg 1 _ rfl rfl l1
                      replace l2 := lg 2 _ rfl rfl l2
                      replace l4 := lg 4 _ rfl rfl l4
                      replace l5 := lg 5 _ rfl rfl l5
                      replace l6 := lg 6 _ rfl rfl l6
                      replace l7 := lg 7 _ rfl rfl l7
                      replace l8 := lg 8 _ rfl rfl l8
                      replace l9 := lg 9 _ rfl rfl l9
                      replace l13 := lg 13 _ rfl rfl l13
                      have l16 := ls
                      refine i_180_517 (x := 1) l16 ?_
                      refine i_180_519 (fun c => absurd c (by decide)) (fun _ => ?_)
                      refine i_180_522 (x := 128) l0 ?_
                      refine i_180_523 (v := Value.ref 151) hR.c128 rfl ?_
                      refine i_180_526 ?_
                      obtain ⟨fs, hobj⟩ := hR.obj (h := 151) (iNw (h := 151) (by decide) (by decide) (by decide))
                      obtain ⟨w, hrun, hR⟩ := r_setl (d := d + 1) (x := (1 : Int64)) (v := 1) hR (iNw (h := 151) (by decide) (by decide) (by decide)) rfl
                      refine i_180_527 hobj (Nat.le_of_ble_eq_true rfl) hrun ?_
                      refine i_180_530 (x := 128) l0 ?_
                      refine i_180_531 (x := Int32.ofInt r) l1 ?_
                      refine i_180_532 (x := 128) l0 ?_
                      refine i_180_533 (v := Value.ref 151) hR.c128 rfl ?_
                      refine i_180_536 (x := 128) l0 ?_
                      refine i_180_537 (v := Value.int (Int32.ofInt (S 128 17))) hR.c128 rfl ?_
                      refine i_180_540 ?_
                      refine i_180_541 (c := Int32.ofInt ((S 128 17) - 1)) (o_sub (S 128 17) 1) ?_
                      have hobj := hR.c128
                      obtain ⟨w, hrun, S23, V23, hR, hk23, ht23, hq23, hS23, hV23⟩ := s_put (d := d) (h := 151) (r := r) (e := (S 128 17) - 1) hR (iNw (h := 151) (by decide) (by decide) (by decide)) (by omega) (by omega) (by omega) (by omega) (by simpa [u2_e] using p0) (by simpa [u2_e] using p1) (by rw [show (uv (uv V 135 q) 151 1) 151 = 1 from uv_s]; decide) (by rw [show (uv (uv V 135 q) 151 1) 151 = 1 from uv_s]; decide)
                      rw [show (uv (uv V 135 q) 151 1) 151 = 1 from uv_s] at ht23 hq23
                      refine i_180_542 hobj (Nat.le_of_ble_eq_true rfl) hrun ?_
                      refine i_180_545 (x := 128) l0 ?_
                      refine i_180_546 (v := Value.ref 156) hR.c128 rfl ?_
                      refine i_180_549 (x := Int32.ofInt r) l1 ?_
                      refine i_180_550 (x := Int32.ofInt sg) l5 ?_
                      refine i_180_552z (v := Value.int (Int32.ofInt sg)) (hR.row a156) (ix0 (T := r) (by omega) (by omega)) (ix1 (T := r) (by omega) (by omega) (by omega)) (by decide) (nrb (by omega)) ?_
                      rw [ixn (T := r) (by omega) (by omega)]
                      refine xgen (P := mR w0 (u2 S23 156 ((r).toNat) sg) V23) (hR.arr a156 rfl) (fun w hR => ?_)
                      refine i_180_553 ?_
                      refine i_180_565 (x := 1) l16 ?_
                      refine i_180_567 (fun c => absurd c (by decide)) (fun _ => ?_)
                      refine i_180_570 ?_
                      refine i_180_571 ?_
                      refine i_180_575 rfl ?_
                      refine lgen1 (i := 14) (v := Value.int 1) (fun lv lg ls => ?_)
                      replace l16 := lg 16 _ rfl rfl l16
                      replace l15 := lg 15 _ rfl rfl l15
                      replace l0 := lg 0 _ rfl rfl l0
                      replace l1 := lg 1 _ rfl rfl l1
                      replace l2 := lg 2 _ rfl rfl l2
                      replace l4 := lg 4 _ rfl rfl l4
                      replace l5 := lg 5 _ rfl rfl l5
                      replace l6 := lg 6 _ rfl rfl l6
                      replace l7 := lg 7 _ rfl rfl l7
                      replace l8 := lg 8 _ rfl rfl l8
                      replace l9 := lg 9 _ rfl rfl l9
                      replace l13 := lg 13 _ rfl rfl l13
                      have l14 := ls
                      refine i_180_577 ?_
                      have eo : rD p (S 128 17) (S 128 18) (S 128 20) (S 128 21) sg mode x more (V h) q u way (S 128 19) = (3, (xbl 1 : Int) + ((S 128 17) - 1), nrm 1 p, 1, zor (S 128 19) 4) := by unfold rD; rw [if_neg (by omega), if_neg (by omega), if_pos (by omega), if_pos (by simp [upU, away, *])]
                      refine k _ _ _ _ _ eo.symm l0 l5 l8 l14 hR ?_
                      refine ⟨?_, ?_, ⟨fun _ => ⟨?_, ?_⟩, fun h => absurd rfl h⟩, ?_, ?_, ?_⟩
                      · simp [u2_e, hk23]
                      · simp [u2_e]
                      · rw [u2_e, if_neg (by omega)]; exact ht23
                      · simpa [u2_e, hp] using hq23
                      · rw [u2_e, if_neg (by omega)]; rw [hS23 _ _ (by omega) (by omega)]; simp [u2_e]
                      · intro a j g1 g2 g3 g4; rw [u2_e, if_neg g3]; rw [hS23 a j g1 g2]; rw [u2_e, if_neg g4]
                      · intro k g1 g2 g3 g4 g5; rw [hV23 k g2 g5, uv_n (by omega), uv_n (by omega)]
                    · refine i_180_500 (x := Int32.ofInt mode) l6 ?_
                      refine i_180_502 (z_ne (a := mode) ⟨by omega, by omega⟩ fun c23 => ?_) (z_eq (a := mode) ⟨by omega, by omega⟩ fun c23 => absurd c23 (by omega))
                      refine i_180_514 ?_
                      refine i_180_515 rfl ?_
                      refine lgen1 (i := 16) (v := Value.int 0) (fun lv lg ls => ?_)
                      replace l15 := lg 15 _ rfl rfl l15
                      replace l14 := lg 14 _ rfl rfl l14
                      replace l0 := lg 0 _ rfl rfl l0
                      replace l1 := lg 1 _ rfl rfl l1
                      replace l2 := lg 2 _ rfl rfl l2
                      replace l4 := lg 4 _ rfl rfl l4
                      replace l5 := lg 5 _ rfl rfl l5
                      replace l6 := lg 6 _ rfl rfl l6
                      replace l7 := lg 7 _ rfl rfl l7
                      replace l8 := lg 8 _ rfl rfl l8
                      replace l9 := lg 9 _ rfl rfl l9
                      replace l13 := lg 13 _ rfl rfl l13
                      have l16 := ls
                      refine i_180_517 (x := 0) l16 ?_
                      refine i_180_519 (fun _ => ?_) (fun c => absurd c (by decide))
                      refine i_180_556 (x := 128) l0 ?_
                      refine i_180_557 (x := Int32.ofInt r) l1 ?_
                      refine i_180_558 ?_
                      refine i_180_559 (x := Int32.ofInt sg) l5 ?_
                      have hobj := hR.c128
                      obtain ⟨w, hrun, hR⟩ := s_special (d := d + 2) (r := r) (k := 2) (s := sg) hR (by omega) (by omega) (by omega)
                      refine i_180_561 hobj (Nat.le_of_ble_eq_true rfl) hrun ?_
                      refine i_180_564 rfl ?_
                      refine i_180_565 (x := 0) l16 ?_
                      refine i_180_567 (fun _ => ?_) (fun c => absurd c (by decide))
                      refine i_180_574 ?_
                      refine i_180_575 rfl ?_
                      refine lgen1 (i := 14) (v := Value.int (-1)) (fun lv lg ls => ?_)
                      replace l16 := lg 16 _ rfl rfl l16
                      replace l15 := lg 15 _ rfl rfl l15
                      replace l0 := lg 0 _ rfl rfl l0
                      replace l1 := lg 1 _ rfl rfl l1
                      replace l2 := lg 2 _ rfl rfl l2
                      replace l4 := lg 4 _ rfl rfl l4
                      replace l5 := lg 5 _ rfl rfl l5
                      replace l6 := lg 6 _ rfl rfl l6
                      replace l7 := lg 7 _ rfl rfl l7
                      replace l8 := lg 8 _ rfl rfl l8
                      replace l9 := lg 9 _ rfl rfl l9
                      replace l13 := lg 13 _ rfl rfl l13
                      have l14 := ls
                      refine i_180_577 ?_
                      have eo : rD p (S 128 17) (S 128 18) (S 128 20) (S 128 21) sg mode x more (V h) q u way (S 128 19) = (2, 0, 0, (-1), zor (S 128 19) 4) := by unfold rD; rw [if_neg (by omega), if_neg (by omega), if_pos (by omega), if_neg (by simp [upU, away, *])]
                      refine k _ _ _ _ _ eo.symm l0 l5 l8 l14 hR ?_
                      refine ⟨by simp [u2_e], by simp [u2_e], ⟨fun h => absurd (show (2 : Int) = 3 from h) (by decide), fun _ => ⟨by simp [u2_e], by repeat rw [uv_n (by omega)]⟩⟩, by simp [u2_e], ?_, ?_⟩
                      · intro a j g1 g2 g3 g4; simp [u2_e, g1, g3, g4]
                      · intro k g1 g2 g3 g4 g5; rw [uv_n (by omega)]
                · refine i_180_484 (x := Int32.ofInt sg) l5 ?_
                  refine i_180_486 (z_eq (a := sg) ⟨by omega, by omega⟩ fun c24 => ?_) (z_ne (a := sg) ⟨by omega, by omega⟩ fun c24 => ?_)
                  · refine i_180_510 ?_
                    refine i_180_511 ?_
                    refine i_180_515 rfl ?_
                    refine lgen1 (i := 16) (v := Value.int 1) (fun lv lg ls => ?_)
                    replace l15 := lg 15 _ rfl rfl l15
                    replace l14 := lg 14 _ rfl rfl l14
                    replace l0 := lg 0 _ rfl rfl l0
                    replace l1 := lg 1 _ rfl rfl l1
                    replace l2 := lg 2 _ rfl rfl l2
                    replace l4 := lg 4 _ rfl rfl l4
                    replace l5 := lg 5 _ rfl rfl l5
                    replace l6 := lg 6 _ rfl rfl l6
                    replace l7 := lg 7 _ rfl rfl l7
                    replace l8 := lg 8 _ rfl rfl l8
                    replace l9 := lg 9 _ rfl rfl l9
                    replace l13 := lg 13 _ rfl rfl l13
                    have l16 := ls
                    refine i_180_517 (x := 1) l16 ?_
                    refine i_180_519 (fun c => absurd c (by decide)) (fun _ => ?_)
                    refine i_180_522 (x := 128) l0 ?_
                    refine i_180_523 (v := Value.ref 151) hR.c128 rfl ?_
                    refine i_180_526 ?_
                    obtain ⟨fs, hobj⟩ := hR.obj (h := 151) (iNw (h := 151) (by decide) (by decide) (by decide))
                    obtain ⟨w, hrun, hR⟩ := r_setl (d := d + 1) (x := (1 : Int64)) (v := 1) hR (iNw (h := 151) (by decide) (by decide) (by decide)) rfl
                    refine i_180_527 hobj (Nat.le_of_ble_eq_true rfl) hrun ?_
                    refine i_180_530 (x := 128) l0 ?_
                    refine i_180_531 (x := Int32.ofInt r) l1 ?_
                    refine i_180_532 (x := 128) l0 ?_
                    refine i_180_533 (v := Value.ref 151) hR.c128 rfl ?_
                    refine i_180_536 (x := 128) l0 ?_
                    refine i_180_537 (v := Value.int (Int32.ofInt (S 128 17))) hR.c128 rfl ?_
                    refine i_180_540 ?_
                    refine i_180_541 (c := Int32.ofInt ((S 128 17) - 1)) (o_sub (S 128 17) 1) ?_
                    have hobj := hR.c128
                    obtain ⟨w, hrun, S26, V26, hR, hk26, ht26, hq26, hS26, hV26⟩ := s_put (d := d) (h := 151) (r := r) (e := (S 128 17) - 1) hR (iNw (h := 151) (by decide) (by decide) (by decide)) (by omega) (by omega) (by omega) (by omega) (by simpa [u2_e] using p0) (by simpa [u2_e] using p1) (by rw [show (uv (uv V 135 q) 151 1) 151 = 1 from uv_s]; decide) (by rw [show (uv (uv V 135 q) 151 1) 151 = 1 from uv_s]; decide)
                    rw [show (uv (uv V 135 q) 151 1) 151 = 1 from uv_s] at ht26 hq26
                    refine i_180_542 hobj (Nat.le_of_ble_eq_true rfl) hrun ?_
                    refine i_180_545 (x := 128) l0 ?_
                    refine i_180_546 (v := Value.ref 156) hR.c128 rfl ?_
                    refine i_180_549 (x := Int32.ofInt r) l1 ?_
                    refine i_180_550 (x := Int32.ofInt sg) l5 ?_
                    refine i_180_552z (v := Value.int (Int32.ofInt sg)) (hR.row a156) (ix0 (T := r) (by omega) (by omega)) (ix1 (T := r) (by omega) (by omega) (by omega)) (by decide) (nrb (by omega)) ?_
                    rw [ixn (T := r) (by omega) (by omega)]
                    refine xgen (P := mR w0 (u2 S26 156 ((r).toNat) sg) V26) (hR.arr a156 rfl) (fun w hR => ?_)
                    refine i_180_553 ?_
                    refine i_180_565 (x := 1) l16 ?_
                    refine i_180_567 (fun c => absurd c (by decide)) (fun _ => ?_)
                    refine i_180_570 ?_
                    refine i_180_571 ?_
                    refine i_180_575 rfl ?_
                    refine lgen1 (i := 14) (v := Value.int 1) (fun lv lg ls => ?_)
                    replace l16 := lg 16 _ rfl rfl l16
                    replace l15 := lg 15 _ rfl rfl l15
                    replace l0 := lg 0 _ rfl rfl l0
                    replace l1 := lg 1 _ rfl rfl l1
                    replace l2 := lg 2 _ rfl rfl l2
                    replace l4 := lg 4 _ rfl rfl l4
                    replace l5 := lg 5 _ rfl rfl l5
                    replace l6 := lg 6 _ rfl rfl l6
                    replace l7 := lg 7 _ rfl rfl l7
                    replace l8 := lg 8 _ rfl rfl l8
                    replace l9 := lg 9 _ rfl rfl l9
                    replace l13 := lg 13 _ rfl rfl l13
                    have l14 := ls
                    refine i_180_577 ?_
                    have eo : rD p (S 128 17) (S 128 18) (S 128 20) (S 128 21) sg mode x more (V h) q u way (S 128 19) = (3, (xbl 1 : Int) + ((S 128 17) - 1), nrm 1 p, 1, zor (S 128 19) 4) := by unfold rD; rw [if_neg (by omega), if_neg (by omega), if_pos (by omega), if_pos (by simp [upU, away, *])]
                    refine k _ _ _ _ _ eo.symm l0 l5 l8 l14 hR ?_
                    refine ⟨?_, ?_, ⟨fun _ => ⟨?_, ?_⟩, fun h => absurd rfl h⟩, ?_, ?_, ?_⟩
                    · simp [u2_e, hk26]
                    · simp [u2_e]
                    · rw [u2_e, if_neg (by omega)]; exact ht26
                    · simpa [u2_e, hp] using hq26
                    · rw [u2_e, if_neg (by omega)]; rw [hS26 _ _ (by omega) (by omega)]; simp [u2_e]
                    · intro a j g1 g2 g3 g4; rw [u2_e, if_neg g3]; rw [hS26 a j g1 g2]; rw [u2_e, if_neg g4]
                    · intro k g1 g2 g3 g4 g5; rw [hV26 k g2 g5, uv_n (by omega), uv_n (by omega)]
                  · refine i_180_489 (x := Int32.ofInt mode) l6 ?_
                    refine i_180_491 ?_
                    refine i_180_492 (b_ne (a := mode) (b := 3) ⟨by omega, by omega⟩ ⟨by decide, by decide⟩ fun c26 => ?_) (b_eq (a := mode) (b := 3) ⟨by omega, by omega⟩ ⟨by decide, by decide⟩ fun c26 => absurd c26 (by omega))
                    refine i_180_500 (x := Int32.ofInt mode) l6 ?_
                    refine i_180_502 (z_ne (a := mode) ⟨by omega, by omega⟩ fun c27 => ?_) (z_eq (a := mode) ⟨by omega, by omega⟩ fun c27 => absurd c27 (by omega))
                    refine i_180_514 ?_
                    refine i_180_515 rfl ?_
                    refine lgen1 (i := 16) (v := Value.int 0) (fun lv lg ls => ?_)
                    replace l15 := lg 15 _ rfl rfl l15
                    replace l14 := lg 14 _ rfl rfl l14
                    replace l0 := lg 0 _ rfl rfl l0
                    replace l1 := lg 1 _ rfl rfl l1
                    replace l2 := lg 2 _ rfl rfl l2
                    replace l4 := lg 4 _ rfl rfl l4
                    replace l5 := lg 5 _ rfl rfl l5
                    replace l6 := lg 6 _ rfl rfl l6
                    replace l7 := lg 7 _ rfl rfl l7
                    replace l8 := lg 8 _ rfl rfl l8
                    replace l9 := lg 9 _ rfl rfl l9
                    replace l13 := lg 13 _ rfl rfl l13
                    have l16 := ls
                    refine i_180_517 (x := 0) l16 ?_
                    refine i_180_519 (fun _ => ?_) (fun c => absurd c (by decide))
                    refine i_180_556 (x := 128) l0 ?_
                    refine i_180_557 (x := Int32.ofInt r) l1 ?_
                    refine i_180_558 ?_
                    refine i_180_559 (x := Int32.ofInt sg) l5 ?_
                    have hobj := hR.c128
                    obtain ⟨w, hrun, hR⟩ := s_special (d := d + 2) (r := r) (k := 2) (s := sg) hR (by omega) (by omega) (by omega)
                    refine i_180_561 hobj (Nat.le_of_ble_eq_true rfl) hrun ?_
                    refine i_180_564 rfl ?_
                    refine i_180_565 (x := 0) l16 ?_
                    refine i_180_567 (fun _ => ?_) (fun c => absurd c (by decide))
                    refine i_180_574 ?_
                    refine i_180_575 rfl ?_
                    refine lgen1 (i := 14) (v := Value.int (-1)) (fun lv lg ls => ?_)
                    replace l16 := lg 16 _ rfl rfl l16
                    replace l15 := lg 15 _ rfl rfl l15
                    replace l0 := lg 0 _ rfl rfl l0
                    replace l1 := lg 1 _ rfl rfl l1
                    replace l2 := lg 2 _ rfl rfl l2
                    replace l4 := lg 4 _ rfl rfl l4
                    replace l5 := lg 5 _ rfl rfl l5
                    replace l6 := lg 6 _ rfl rfl l6
                    replace l7 := lg 7 _ rfl rfl l7
                    replace l8 := lg 8 _ rfl rfl l8
                    replace l9 := lg 9 _ rfl rfl l9
                    replace l13 := lg 13 _ rfl rfl l13
                    have l14 := ls
                    refine i_180_577 ?_
                    have eo : rD p (S 128 17) (S 128 18) (S 128 20) (S 128 21) sg mode x more (V h) q u way (S 128 19) = (2, 0, 0, (-1), zor (S 128 19) 4) := by unfold rD; rw [if_neg (by omega), if_neg (by omega), if_pos (by omega), if_neg (by simp [upU, away, *])]
                    refine k _ _ _ _ _ eo.symm l0 l5 l8 l14 hR ?_
                    refine ⟨by simp [u2_e], by simp [u2_e], ⟨fun h => absurd (show (2 : Int) = 3 from h) (by decide), fun _ => ⟨by simp [u2_e], by repeat rw [uv_n (by omega)]⟩⟩, by simp [u2_e], ?_, ?_⟩
                    · intro a j g1 g2 g3 g4; simp [u2_e, g1, g3, g4]
                    · intro k g1 g2 g3 g4 g5; rw [uv_n (by omega)]
            · refine i_180_436 (x := Int32.ofInt x) l8 ?_
              refine i_180_438 (x := 128) l0 ?_
              refine i_180_439 (v := Value.int (Int32.ofInt (S 128 17))) hR.c128 rfl ?_
              refine i_180_442 ?_
              refine i_180_443 (c := Int32.ofInt ((S 128 17) - 1)) (o_sub (S 128 17) 1) ?_
              refine i_180_444 (b_ne (a := x) (b := (S 128 17) - 1) ⟨by omega, by omega⟩ ⟨by omega, by omega⟩ fun c28 => ?_) (b_eq (a := x) (b := (S 128 17) - 1) ⟨by omega, by omega⟩ ⟨by omega, by omega⟩ fun c28 => ?_)
              · refine i_180_469 ?_
                refine i_180_470 rfl ?_
                refine lgen1 (i := 15) (v := Value.int 0) (fun lv lg ls => ?_)
                replace l14 := lg 14 _ rfl rfl l14
                replace l0 := lg 0 _ rfl rfl l0
                replace l1 := lg 1 _ rfl rfl l1
                replace l2 := lg 2 _ rfl rfl l2
                replace l4 := lg 4 _ rfl rfl l4
                replace l5 := lg 5 _ rfl rfl l5
                replace l6 := lg 6 _ rfl rfl l6
                replace l7 := lg 7 _ rfl rfl l7
                replace l8 := lg 8 _ rfl rfl l8
                replace l9 := lg 9 _ rfl rfl l9
                replace l13 := lg 13 _ rfl rfl l13
                have l15 := ls
                refine i_180_472 (x := Int32.ofInt mode) l6 ?_
                refine i_180_474 ?_
                refine i_180_475 (b_eq (a := mode) (b := 4) ⟨by omega, by omega⟩ ⟨by decide, by decide⟩ fun c29 => ?_) (b_ne (a := mode) (b := 4) ⟨by omega, by omega⟩ ⟨by decide, by decide⟩ fun c29 => ?_)
                · refine i_180_510 ?_
                  refine i_180_511 ?_
                  refine i_180_515 rfl ?_
                  refine lgen1 (i := 16) (v := Value.int 1) (fun lv lg ls => ?_)
                  replace l15 := lg 15 _ rfl rfl l15
                  replace l14 := lg 14 _ rfl rfl l14
                  replace l0 := lg 0 _ rfl rfl l0
                  replace l1 := lg 1 _ rfl rfl l1
                  replace l2 := lg 2 _ rfl rfl l2
                  replace l4 := lg 4 _ rfl rfl l4
                  replace l5 := lg 5 _ rfl rfl l5
                  replace l6 := lg 6 _ rfl rfl l6
                  replace l7 := lg 7 _ rfl rfl l7
                  replace l8 := lg 8 _ rfl rfl l8
                  replace l9 := lg 9 _ rfl rfl l9
                  replace l13 := lg 13 _ rfl rfl l13
                  have l16 := ls
                  refine i_180_517 (x := 1) l16 ?_
                  refine i_180_519 (fun c => absurd c (by decide)) (fun _ => ?_)
                  refine i_180_522 (x := 128) l0 ?_
                  refine i_180_523 (v := Value.ref 151) hR.c128 rfl ?_
                  refine i_180_526 ?_
                  obtain ⟨fs, hobj⟩ := hR.obj (h := 151) (iNw (h := 151) (by decide) (by decide) (by decide))
                  obtain ⟨w, hrun, hR⟩ := r_setl (d := d + 1) (x := (1 : Int64)) (v := 1) hR (iNw (h := 151) (by decide) (by decide) (by decide)) rfl
                  refine i_180_527 hobj (Nat.le_of_ble_eq_true rfl) hrun ?_
                  refine i_180_530 (x := 128) l0 ?_
                  refine i_180_531 (x := Int32.ofInt r) l1 ?_
                  refine i_180_532 (x := 128) l0 ?_
                  refine i_180_533 (v := Value.ref 151) hR.c128 rfl ?_
                  refine i_180_536 (x := 128) l0 ?_
                  refine i_180_537 (v := Value.int (Int32.ofInt (S 128 17))) hR.c128 rfl ?_
                  refine i_180_540 ?_
                  refine i_180_541 (c := Int32.ofInt ((S 128 17) - 1)) (o_sub (S 128 17) 1) ?_
                  have hobj := hR.c128
                  obtain ⟨w, hrun, S31, V31, hR, hk31, ht31, hq31, hS31, hV31⟩ := s_put (d := d) (h := 151) (r := r) (e := (S 128 17) - 1) hR (iNw (h := 151) (by decide) (by decide) (by decide)) (by omega) (by omega) (by omega) (by omega) (by simpa [u2_e] using p0) (by simpa [u2_e] using p1) (by rw [show (uv (uv V 135 q) 151 1) 151 = 1 from uv_s]; decide) (by rw [show (uv (uv V 135 q) 151 1) 151 = 1 from uv_s]; decide)
                  rw [show (uv (uv V 135 q) 151 1) 151 = 1 from uv_s] at ht31 hq31
                  refine i_180_542 hobj (Nat.le_of_ble_eq_true rfl) hrun ?_
                  refine i_180_545 (x := 128) l0 ?_
                  refine i_180_546 (v := Value.ref 156) hR.c128 rfl ?_
                  refine i_180_549 (x := Int32.ofInt r) l1 ?_
                  refine i_180_550 (x := Int32.ofInt sg) l5 ?_
                  refine i_180_552z (v := Value.int (Int32.ofInt sg)) (hR.row a156) (ix0 (T := r) (by omega) (by omega)) (ix1 (T := r) (by omega) (by omega) (by omega)) (by decide) (nrb (by omega)) ?_
                  rw [ixn (T := r) (by omega) (by omega)]
                  refine xgen (P := mR w0 (u2 S31 156 ((r).toNat) sg) V31) (hR.arr a156 rfl) (fun w hR => ?_)
                  refine i_180_553 ?_
                  refine i_180_565 (x := 1) l16 ?_
                  refine i_180_567 (fun c => absurd c (by decide)) (fun _ => ?_)
                  refine i_180_570 ?_
                  refine i_180_571 ?_
                  refine i_180_575 rfl ?_
                  refine lgen1 (i := 14) (v := Value.int 1) (fun lv lg ls => ?_)
                  replace l16 := lg 16 _ rfl rfl l16
                  replace l15 := lg 15 _ rfl rfl l15
                  replace l0 := lg 0 _ rfl rfl l0
                  replace l1 := lg 1 _ rfl rfl l1
                  replace l2 := lg 2 _ rfl rfl l2
                  replace l4 := lg 4 _ rfl rfl l4
                  replace l5 := lg 5 _ rfl rfl l5
                  replace l6 := lg 6 _ rfl rfl l6
                  replace l7 := lg 7 _ rfl rfl l7
                  replace l8 := lg 8 _ rfl rfl l8
                  replace l9 := lg 9 _ rfl rfl l9
                  replace l13 := lg 13 _ rfl rfl l13
                  have l14 := ls
                  refine i_180_577 ?_
                  have eo : rD p (S 128 17) (S 128 18) (S 128 20) (S 128 21) sg mode x more (V h) q u way (S 128 19) = (3, (xbl 1 : Int) + ((S 128 17) - 1), nrm 1 p, 1, zor (S 128 19) 4) := by unfold rD; rw [if_neg (by omega), if_neg (by omega), if_pos (by omega), if_pos (by simp [upU, away, *])]
                  refine k _ _ _ _ _ eo.symm l0 l5 l8 l14 hR ?_
                  refine ⟨?_, ?_, ⟨fun _ => ⟨?_, ?_⟩, fun h => absurd rfl h⟩, ?_, ?_, ?_⟩
                  · simp [u2_e, hk31]
                  · simp [u2_e]
                  · rw [u2_e, if_neg (by omega)]; exact ht31
                  · simpa [u2_e, hp] using hq31
                  · rw [u2_e, if_neg (by omega)]; rw [hS31 _ _ (by omega) (by omega)]; simp [u2_e]
                  · intro a j g1 g2 g3 g4; rw [u2_e, if_neg g3]; rw [hS31 a j g1 g2]; rw [u2_e, if_neg g4]
                  · intro k g1 g2 g3 g4 g5; rw [hV31 k g2 g5, uv_n (by omega), uv_n (by omega)]
                · refine i_180_478 (x := Int32.ofInt mode) l6 ?_
                  refine i_180_480 ?_
                  refine i_180_481 (b_ne (a := mode) (b := 2) ⟨by omega, by omega⟩ ⟨by decide, by decide⟩ fun c31 => ?_) (b_eq (a := mode) (b := 2) ⟨by omega, by omega⟩ ⟨by decide, by decide⟩ fun c31 => ?_)
                  · refine i_180_489 (x := Int32.ofInt mode) l6 ?_
                    refine i_180_491 ?_
                    refine i_180_492 (b_ne (a := mode) (b := 3) ⟨by omega, by omega⟩ ⟨by decide, by decide⟩ fun c32 => ?_) (b_eq (a := mode) (b := 3) ⟨by omega, by omega⟩ ⟨by decide, by decide⟩ fun c32 => ?_)
                    · refine i_180_500 (x := Int32.ofInt mode) l6 ?_
                      refine i_180_502 (z_ne (a := mode) ⟨by omega, by omega⟩ fun c33 => ?_) (z_eq (a := mode) ⟨by omega, by omega⟩ fun c33 => ?_)
                      · refine i_180_514 ?_
                        refine i_180_515 rfl ?_
                        refine lgen1 (i := 16) (v := Value.int 0) (fun lv lg ls => ?_)
                        replace l15 := lg 15 _ rfl rfl l15
                        replace l14 := lg 14 _ rfl rfl l14
                        replace l0 := lg 0 _ rfl rfl l0
                        replace l1 := lg 1 _ rfl rfl l1
                        replace l2 := lg 2 _ rfl rfl l2
                        replace l4 := lg 4 _ rfl rfl l4
                        replace l5 := lg 5 _ rfl rfl l5
                        replace l6 := lg 6 _ rfl rfl l6
                        replace l7 := lg 7 _ rfl rfl l7
                        replace l8 := lg 8 _ rfl rfl l8
                        replace l9 := lg 9 _ rfl rfl l9
                        replace l13 := lg 13 _ rfl rfl l13
                        have l16 := ls
                        refine i_180_517 (x := 0) l16 ?_
                        refine i_180_519 (fun _ => ?_) (fun c => absurd c (by decide))
                        refine i_180_556 (x := 128) l0 ?_
                        refine i_180_557 (x := Int32.ofInt r) l1 ?_
                        refine i_180_558 ?_
                        refine i_180_559 (x := Int32.ofInt sg) l5 ?_
                        have hobj := hR.c128
                        obtain ⟨w, hrun, hR⟩ := s_special (d := d + 2) (r := r) (k := 2) (s := sg) hR (by omega) (by omega) (by omega)
                        refine i_180_561 hobj (Nat.le_of_ble_eq_true rfl) hrun ?_
                        refine i_180_564 rfl ?_
                        refine i_180_565 (x := 0) l16 ?_
                        refine i_180_567 (fun _ => ?_) (fun c => absurd c (by decide))
                        refine i_180_574 ?_
                        refine i_180_575 rfl ?_
                        refine lgen1 (i := 14) (v := Value.int (-1)) (fun lv lg ls => ?_)
                        replace l16 := lg 16 _ rfl rfl l16
                        replace l15 := lg 15 _ rfl rfl l15
                        replace l0 := lg 0 _ rfl rfl l0
                        replace l1 := lg 1 _ rfl rfl l1
                        replace l2 := lg 2 _ rfl rfl l2
                        replace l4 := lg 4 _ rfl rfl l4
                        replace l5 := lg 5 _ rfl rfl l5
                        replace l6 := lg 6 _ rfl rfl l6
                        replace l7 := lg 7 _ rfl rfl l7
                        replace l8 := lg 8 _ rfl rfl l8
                        replace l9 := lg 9 _ rfl rfl l9
                        replace l13 := lg 13 _ rfl rfl l13
                        have l14 := ls
                        refine i_180_577 ?_
                        have eo : rD p (S 128 17) (S 128 18) (S 128 20) (S 128 21) sg mode x more (V h) q u way (S 128 19) = (2, 0, 0, (-1), zor (S 128 19) 4) := by unfold rD; rw [if_neg (by omega), if_neg (by omega), if_pos (by omega), if_neg (by simp [upU, away, *])]
                        refine k _ _ _ _ _ eo.symm l0 l5 l8 l14 hR ?_
                        refine ⟨by simp [u2_e], by simp [u2_e], ⟨fun h => absurd (show (2 : Int) = 3 from h) (by decide), fun _ => ⟨by simp [u2_e], by repeat rw [uv_n (by omega)]⟩⟩, by simp [u2_e], ?_, ?_⟩
                        · intro a j g1 g2 g3 g4; simp [u2_e, g1, g3, g4]
                        · intro k g1 g2 g3 g4 g5; rw [uv_n (by omega)]
                      · refine i_180_505 (x := 0) l15 ?_
                        refine i_180_507 (fun _ => ?_) (fun c => absurd c (by decide))
                        refine i_180_514 ?_
                        refine i_180_515 rfl ?_
                        refine lgen1 (i := 16) (v := Value.int 0) (fun lv lg ls => ?_)
                        replace l15 := lg 15 _ rfl rfl l15
                        replace l14 := lg 14 _ rfl rfl l14
                        replace l0 := lg 0 _ rfl rfl l0
                        replace l1 := lg 1 _ rfl rfl l1
                        replace l2 := lg 2 _ rfl rfl l2
                        replace l4 := lg 4 _ rfl rfl l4
                        replace l5 := lg 5 _ rfl rfl l5
                        replace l6 := lg 6 _ rfl rfl l6
                        replace l7 := lg 7 _ rfl rfl l7
                        replace l8 := lg 8 _ rfl rfl l8
                        replace l9 := lg 9 _ rfl rfl l9
                        replace l13 := lg 13 _ rfl rfl l13
                        have l16 := ls
                        refine i_180_517 (x := 0) l16 ?_
                        refine i_180_519 (fun _ => ?_) (fun c => absurd c (by decide))
                        refine i_180_556 (x := 128) l0 ?_
                        refine i_180_557 (x := Int32.ofInt r) l1 ?_
                        refine i_180_558 ?_
                        refine i_180_559 (x := Int32.ofInt sg) l5 ?_
                        have hobj := hR.c128
                        obtain ⟨w, hrun, hR⟩ := s_special (d := d + 2) (r := r) (k := 2) (s := sg) hR (by omega) (by omega) (by omega)
                        refine i_180_561 hobj (Nat.le_of_ble_eq_true rfl) hrun ?_
                        refine i_180_564 rfl ?_
                        refine i_180_565 (x := 0) l16 ?_
                        refine i_180_567 (fun _ => ?_) (fun c => absurd c (by decide))
                        refine i_180_574 ?_
                        refine i_180_575 rfl ?_
                        refine lgen1 (i := 14) (v := Value.int (-1)) (fun lv lg ls => ?_)
                        replace l16 := lg 16 _ rfl rfl l16
                        replace l15 := lg 15 _ rfl rfl l15
                        replace l0 := lg 0 _ rfl rfl l0
                        replace l1 := lg 1 _ rfl rfl l1
                        replace l2 := lg 2 _ rfl rfl l2
                        replace l4 := lg 4 _ rfl rfl l4
                        replace l5 := lg 5 _ rfl rfl l5
                        replace l6 := lg 6 _ rfl rfl l6
                        replace l7 := lg 7 _ rfl rfl l7
                        replace l8 := lg 8 _ rfl rfl l8
                        replace l9 := lg 9 _ rfl rfl l9
                        replace l13 := lg 13 _ rfl rfl l13
                        have l14 := ls
                        refine i_180_577 ?_
                        have eo : rD p (S 128 17) (S 128 18) (S 128 20) (S 128 21) sg mode x more (V h) q u way (S 128 19) = (2, 0, 0, (-1), zor (S 128 19) 4) := by unfold rD; rw [if_neg (by omega), if_neg (by omega), if_pos (by omega), if_neg (by simp [upU, away, *])]
                        refine k _ _ _ _ _ eo.symm l0 l5 l8 l14 hR ?_
                        refine ⟨by simp [u2_e], by simp [u2_e], ⟨fun h => absurd (show (2 : Int) = 3 from h) (by decide), fun _ => ⟨by simp [u2_e], by repeat rw [uv_n (by omega)]⟩⟩, by simp [u2_e], ?_, ?_⟩
                        · intro a j g1 g2 g3 g4; simp [u2_e, g1, g3, g4]
                        · intro k g1 g2 g3 g4 g5; rw [uv_n (by omega)]
                    · refine i_180_495 (x := Int32.ofInt sg) l5 ?_
                      refine i_180_497 (z_ne (a := sg) ⟨by omega, by omega⟩ fun c34 => ?_) (z_eq (a := sg) ⟨by omega, by omega⟩ fun c34 => ?_)
                      · refine i_180_510 ?_
                        refine i_180_511 ?_
                        refine i_180_515 rfl ?_
                        refine lgen1 (i := 16) (v := Value.int 1) (fun lv lg ls => ?_)
                        replace l15 := lg 15 _ rfl rfl l15
                        replace l14 := lg 14 _ rfl rfl l14
                        replace l0 := lg 0 _ rfl rfl l0
                        replace l1 := lg 1 _ rfl rfl l1
                        replace l2 := lg 2 _ rfl rfl l2
                        replace l4 := lg 4 _ rfl rfl l4
                        replace l5 := lg 5 _ rfl rfl l5
                        replace l6 := lg 6 _ rfl rfl l6
                        replace l7 := lg 7 _ rfl rfl l7
                        replace l8 := lg 8 _ rfl rfl l8
                        replace l9 := lg 9 _ rfl rfl l9
                        replace l13 := lg 13 _ rfl rfl l13
                        have l16 := ls
                        refine i_180_517 (x := 1) l16 ?_
                        refine i_180_519 (fun c => absurd c (by decide)) (fun _ => ?_)
                        refine i_180_522 (x := 128) l0 ?_
                        refine i_180_523 (v := Value.ref 151) hR.c128 rfl ?_
                        refine i_180_526 ?_
                        obtain ⟨fs, hobj⟩ := hR.obj (h := 151) (iNw (h := 151) (by decide) (by decide) (by decide))
                        obtain ⟨w, hrun, hR⟩ := r_setl (d := d + 1) (x := (1 : Int64)) (v := 1) hR (iNw (h := 151) (by decide) (by decide) (by decide)) rfl
                        refine i_180_527 hobj (Nat.le_of_ble_eq_true rfl) hrun ?_
                        refine i_180_530 (x := 128) l0 ?_
                        refine i_180_531 (x := Int32.ofInt r) l1 ?_
                        refine i_180_532 (x := 128) l0 ?_
                        refine i_180_533 (v := Value.ref 151) hR.c128 rfl ?_
                        refine i_180_536 (x := 128) l0 ?_
                        refine i_180_537 (v := Value.int (Int32.ofInt (S 128 17))) hR.c128 rfl ?_
                        refine i_180_540 ?_
                        refine i_180_541 (c := Int32.ofInt ((S 128 17) - 1)) (o_sub (S 128 17) 1) ?_
                        have hobj := hR.c128
                        obtain ⟨w, hrun, S36, V36, hR, hk36, ht36, hq36, hS36, hV36⟩ := s_put (d := d) (h := 151) (r := r) (e := (S 128 17) - 1) hR (iNw (h := 151) (by decide) (by decide) (by decide)) (by omega) (by omega) (by omega) (by omega) (by simpa [u2_e] using p0) (by simpa [u2_e] using p1) (by rw [show (uv (uv V 135 q) 151 1) 151 = 1 from uv_s]; decide) (by rw [show (uv (uv V 135 q) 151 1) 151 = 1 from uv_s]; decide)
                        rw [show (uv (uv V 135 q) 151 1) 151 = 1 from uv_s] at ht36 hq36
                        refine i_180_542 hobj (Nat.le_of_ble_eq_true rfl) hrun ?_
                        refine i_180_545 (x := 128) l0 ?_
                        refine i_180_546 (v := Value.ref 156) hR.c128 rfl ?_
                        refine i_180_549 (x := Int32.ofInt r) l1 ?_
                        refine i_180_550 (x := Int32.ofInt sg) l5 ?_
                        refine i_180_552z (v := Value.int (Int32.ofInt sg)) (hR.row a156) (ix0 (T := r) (by omega) (by omega)) (ix1 (T := r) (by omega) (by omega) (by omega)) (by decide) (nrb (by omega)) ?_
                        rw [ixn (T := r) (by omega) (by omega)]
                        refine xgen (P := mR w0 (u2 S36 156 ((r).toNat) sg) V36) (hR.arr a156 rfl) (fun w hR => ?_)
                        refine i_180_553 ?_
                        refine i_180_565 (x := 1) l16 ?_
                        refine i_180_567 (fun c => absurd c (by decide)) (fun _ => ?_)
                        refine i_180_570 ?_
                        refine i_180_571 ?_
                        refine i_180_575 rfl ?_
                        refine lgen1 (i := 14) (v := Value.int 1) (fun lv lg ls => ?_)
                        replace l16 := lg 16 _ rfl rfl l16
                        replace l15 := lg 15 _ rfl rfl l15
                        replace l0 := lg 0 _ rfl rfl l0
                        replace l1 := lg 1 _ rfl rfl l1
                        replace l2 := lg 2 _ rfl rfl l2
                        replace l4 := lg 4 _ rfl rfl l4
                        replace l5 := lg 5 _ rfl rfl l5
                        replace l6 := lg 6 _ rfl rfl l6
                        replace l7 := lg 7 _ rfl rfl l7
                        replace l8 := lg 8 _ rfl rfl l8
                        replace l9 := lg 9 _ rfl rfl l9
                        replace l13 := lg 13 _ rfl rfl l13
                        have l14 := ls
                        refine i_180_577 ?_
                        have eo : rD p (S 128 17) (S 128 18) (S 128 20) (S 128 21) sg mode x more (V h) q u way (S 128 19) = (3, (xbl 1 : Int) + ((S 128 17) - 1), nrm 1 p, 1, zor (S 128 19) 4) := by unfold rD; rw [if_neg (by omega), if_neg (by omega), if_pos (by omega), if_pos (by simp [upU, away, *])]
                        refine k _ _ _ _ _ eo.symm l0 l5 l8 l14 hR ?_
                        refine ⟨?_, ?_, ⟨fun _ => ⟨?_, ?_⟩, fun h => absurd rfl h⟩, ?_, ?_, ?_⟩
                        · simp [u2_e, hk36]
                        · simp [u2_e]
                        · rw [u2_e, if_neg (by omega)]; exact ht36
                        · simpa [u2_e, hp] using hq36
                        · rw [u2_e, if_neg (by omega)]; rw [hS36 _ _ (by omega) (by omega)]; simp [u2_e]
                        · intro a j g1 g2 g3 g4; rw [u2_e, if_neg g3]; rw [hS36 a j g1 g2]; rw [u2_e, if_neg g4]
                        · intro k g1 g2 g3 g4 g5; rw [hV36 k g2 g5, uv_n (by omega), uv_n (by omega)]
                      · refine i_180_500 (x := Int32.ofInt mode) l6 ?_
                        refine i_180_502 (z_ne (a := mode) ⟨by omega, by omega⟩ fun c36 => ?_) (z_eq (a := mode) ⟨by omega, by omega⟩ fun c36 => absurd c36 (by omega))
                        refine i_180_514 ?_
                        refine i_180_515 rfl ?_
                        refine lgen1 (i := 16) (v := Value.int 0) (fun lv lg ls => ?_)
                        replace l15 := lg 15 _ rfl rfl l15
                        replace l14 := lg 14 _ rfl rfl l14
                        replace l0 := lg 0 _ rfl rfl l0
                        replace l1 := lg 1 _ rfl rfl l1
                        replace l2 := lg 2 _ rfl rfl l2
                        replace l4 := lg 4 _ rfl rfl l4
                        replace l5 := lg 5 _ rfl rfl l5
                        replace l6 := lg 6 _ rfl rfl l6
                        replace l7 := lg 7 _ rfl rfl l7
                        replace l8 := lg 8 _ rfl rfl l8
                        replace l9 := lg 9 _ rfl rfl l9
                        replace l13 := lg 13 _ rfl rfl l13
                        have l16 := ls
                        refine i_180_517 (x := 0) l16 ?_
                        refine i_180_519 (fun _ => ?_) (fun c => absurd c (by decide))
                        refine i_180_556 (x := 128) l0 ?_
                        refine i_180_557 (x := Int32.ofInt r) l1 ?_
                        refine i_180_558 ?_
                        refine i_180_559 (x := Int32.ofInt sg) l5 ?_
                        have hobj := hR.c128
                        obtain ⟨w, hrun, hR⟩ := s_special (d := d + 2) (r := r) (k := 2) (s := sg) hR (by omega) (by omega) (by omega)
                        refine i_180_561 hobj (Nat.le_of_ble_eq_true rfl) hrun ?_
                        refine i_180_564 rfl ?_
                        refine i_180_565 (x := 0) l16 ?_
                        refine i_180_567 (fun _ => ?_) (fun c => absurd c (by decide))
                        refine i_180_574 ?_
                        refine i_180_575 rfl ?_
                        refine lgen1 (i := 14) (v := Value.int (-1)) (fun lv lg ls => ?_)
                        replace l16 := lg 16 _ rfl rfl l16
                        replace l15 := lg 15 _ rfl rfl l15
                        replace l0 := lg 0 _ rfl rfl l0
                        replace l1 := lg 1 _ rfl rfl l1
                        replace l2 := lg 2 _ rfl rfl l2
                        replace l4 := lg 4 _ rfl rfl l4
                        replace l5 := lg 5 _ rfl rfl l5
                        replace l6 := lg 6 _ rfl rfl l6
                        replace l7 := lg 7 _ rfl rfl l7
                        replace l8 := lg 8 _ rfl rfl l8
                        replace l9 := lg 9 _ rfl rfl l9
                        replace l13 := lg 13 _ rfl rfl l13
                        have l14 := ls
                        refine i_180_577 ?_
                        have eo : rD p (S 128 17) (S 128 18) (S 128 20) (S 128 21) sg mode x more (V h) q u way (S 128 19) = (2, 0, 0, (-1), zor (S 128 19) 4) := by unfold rD; rw [if_neg (by omega), if_neg (by omega), if_pos (by omega), if_neg (by simp [upU, away, *])]
                        refine k _ _ _ _ _ eo.symm l0 l5 l8 l14 hR ?_
                        refine ⟨by simp [u2_e], by simp [u2_e], ⟨fun h => absurd (show (2 : Int) = 3 from h) (by decide), fun _ => ⟨by simp [u2_e], by repeat rw [uv_n (by omega)]⟩⟩, by simp [u2_e], ?_, ?_⟩
                        · intro a j g1 g2 g3 g4; simp [u2_e, g1, g3, g4]
                        · intro k g1 g2 g3 g4 g5; rw [uv_n (by omega)]
                  · refine i_180_484 (x := Int32.ofInt sg) l5 ?_
                    refine i_180_486 (z_eq (a := sg) ⟨by omega, by omega⟩ fun c37 => ?_) (z_ne (a := sg) ⟨by omega, by omega⟩ fun c37 => ?_)
                    · refine i_180_510 ?_
                      refine i_180_511 ?_
                      refine i_180_515 rfl ?_
                      refine lgen1 (i := 16) (v := Value.int 1) (fun lv lg ls => ?_)
                      replace l15 := lg 15 _ rfl rfl l15
                      replace l14 := lg 14 _ rfl rfl l14
                      replace l0 := lg 0 _ rfl rfl l0
                      replace l1 := lg 1 _ rfl rfl l1
                      replace l2 := lg 2 _ rfl rfl l2
                      replace l4 := lg 4 _ rfl rfl l4
                      replace l5 := lg 5 _ rfl rfl l5
                      replace l6 := lg 6 _ rfl rfl l6
                      replace l7 := lg 7 _ rfl rfl l7
                      replace l8 := lg 8 _ rfl rfl l8
                      replace l9 := lg 9 _ rfl rfl l9
                      replace l13 := lg 13 _ rfl rfl l13
                      have l16 := ls
                      refine i_180_517 (x := 1) l16 ?_
                      refine i_180_519 (fun c => absurd c (by decide)) (fun _ => ?_)
                      refine i_180_522 (x := 128) l0 ?_
                      refine i_180_523 (v := Value.ref 151) hR.c128 rfl ?_
                      refine i_180_526 ?_
                      obtain ⟨fs, hobj⟩ := hR.obj (h := 151) (iNw (h := 151) (by decide) (by decide) (by decide))
                      obtain ⟨w, hrun, hR⟩ := r_setl (d := d + 1) (x := (1 : Int64)) (v := 1) hR (iNw (h := 151) (by decide) (by decide) (by decide)) rfl
                      refine i_180_527 hobj (Nat.le_of_ble_eq_true rfl) hrun ?_
                      refine i_180_530 (x := 128) l0 ?_
                      refine i_180_531 (x := Int32.ofInt r) l1 ?_
                      refine i_180_532 (x := 128) l0 ?_
                      refine i_180_533 (v := Value.ref 151) hR.c128 rfl ?_
                      refine i_180_536 (x := 128) l0 ?_
                      refine i_180_537 (v := Value.int (Int32.ofInt (S 128 17))) hR.c128 rfl ?_
                      refine i_180_540 ?_
                      refine i_180_541 (c := Int32.ofInt ((S 128 17) - 1)) (o_sub (S 128 17) 1) ?_
                      have hobj := hR.c128
                      obtain ⟨w, hrun, S39, V39, hR, hk39, ht39, hq39, hS39, hV39⟩ := s_put (d := d) (h := 151) (r := r) (e := (S 128 17) - 1) hR (iNw (h := 151) (by decide) (by decide) (by decide)) (by omega) (by omega) (by omega) (by omega) (by simpa [u2_e] using p0) (by simpa [u2_e] using p1) (by rw [show (uv (uv V 135 q) 151 1) 151 = 1 from uv_s]; decide) (by rw [show (uv (uv V 135 q) 151 1) 151 = 1 from uv_s]; decide)
                      rw [show (uv (uv V 135 q) 151 1) 151 = 1 from uv_s] at ht39 hq39
                      refine i_180_542 hobj (Nat.le_of_ble_eq_true rfl) hrun ?_
                      refine i_180_545 (x := 128) l0 ?_
                      refine i_180_546 (v := Value.ref 156) hR.c128 rfl ?_
                      refine i_180_549 (x := Int32.ofInt r) l1 ?_
                      refine i_180_550 (x := Int32.ofInt sg) l5 ?_
                      refine i_180_552z (v := Value.int (Int32.ofInt sg)) (hR.row a156) (ix0 (T := r) (by omega) (by omega)) (ix1 (T := r) (by omega) (by omega) (by omega)) (by decide) (nrb (by omega)) ?_
                      rw [ixn (T := r) (by omega) (by omega)]
                      refine xgen (P := mR w0 (u2 S39 156 ((r).toNat) sg) V39) (hR.arr a156 rfl) (fun w hR => ?_)
                      refine i_180_553 ?_
                      refine i_180_565 (x := 1) l16 ?_
                      refine i_180_567 (fun c => absurd c (by decide)) (fun _ => ?_)
                      refine i_180_570 ?_
                      refine i_180_571 ?_
                      refine i_180_575 rfl ?_
                      refine lgen1 (i := 14) (v := Value.int 1) (fun lv lg ls => ?_)
                      replace l16 := lg 16 _ rfl rfl l16
                      replace l15 := lg 15 _ rfl rfl l15
                      replace l0 := lg 0 _ rfl rfl l0
                      replace l1 := lg 1 _ rfl rfl l1
                      replace l2 := lg 2 _ rfl rfl l2
                      replace l4 := lg 4 _ rfl rfl l4
                      replace l5 := lg 5 _ rfl rfl l5
                      replace l6 := lg 6 _ rfl rfl l6
                      replace l7 := lg 7 _ rfl rfl l7
                      replace l8 := lg 8 _ rfl rfl l8
                      replace l9 := lg 9 _ rfl rfl l9
                      replace l13 := lg 13 _ rfl rfl l13
                      have l14 := ls
                      refine i_180_577 ?_
                      have eo : rD p (S 128 17) (S 128 18) (S 128 20) (S 128 21) sg mode x more (V h) q u way (S 128 19) = (3, (xbl 1 : Int) + ((S 128 17) - 1), nrm 1 p, 1, zor (S 128 19) 4) := by unfold rD; rw [if_neg (by omega), if_neg (by omega), if_pos (by omega), if_pos (by simp [upU, away, *])]
                      refine k _ _ _ _ _ eo.symm l0 l5 l8 l14 hR ?_
                      refine ⟨?_, ?_, ⟨fun _ => ⟨?_, ?_⟩, fun h => absurd rfl h⟩, ?_, ?_, ?_⟩
                      · simp [u2_e, hk39]
                      · simp [u2_e]
                      · rw [u2_e, if_neg (by omega)]; exact ht39
                      · simpa [u2_e, hp] using hq39
                      · rw [u2_e, if_neg (by omega)]; rw [hS39 _ _ (by omega) (by omega)]; simp [u2_e]
                      · intro a j g1 g2 g3 g4; rw [u2_e, if_neg g3]; rw [hS39 a j g1 g2]; rw [u2_e, if_neg g4]
                      · intro k g1 g2 g3 g4 g5; rw [hV39 k g2 g5, uv_n (by omega), uv_n (by omega)]
                    · refine i_180_489 (x := Int32.ofInt mode) l6 ?_
                      refine i_180_491 ?_
                      refine i_180_492 (b_ne (a := mode) (b := 3) ⟨by omega, by omega⟩ ⟨by decide, by decide⟩ fun c39 => ?_) (b_eq (a := mode) (b := 3) ⟨by omega, by omega⟩ ⟨by decide, by decide⟩ fun c39 => absurd c39 (by omega))
                      refine i_180_500 (x := Int32.ofInt mode) l6 ?_
                      refine i_180_502 (z_ne (a := mode) ⟨by omega, by omega⟩ fun c40 => ?_) (z_eq (a := mode) ⟨by omega, by omega⟩ fun c40 => absurd c40 (by omega))
                      refine i_180_514 ?_
                      refine i_180_515 rfl ?_
                      refine lgen1 (i := 16) (v := Value.int 0) (fun lv lg ls => ?_)
                      replace l15 := lg 15 _ rfl rfl l15
                      replace l14 := lg 14 _ rfl rfl l14
                      replace l0 := lg 0 _ rfl rfl l0
                      replace l1 := lg 1 _ rfl rfl l1
                      replace l2 := lg 2 _ rfl rfl l2
                      replace l4 := lg 4 _ rfl rfl l4
                      replace l5 := lg 5 _ rfl rfl l5
                      replace l6 := lg 6 _ rfl rfl l6
                      replace l7 := lg 7 _ rfl rfl l7
                      replace l8 := lg 8 _ rfl rfl l8
                      replace l9 := lg 9 _ rfl rfl l9
                      replace l13 := lg 13 _ rfl rfl l13
                      have l16 := ls
                      refine i_180_517 (x := 0) l16 ?_
                      refine i_180_519 (fun _ => ?_) (fun c => absurd c (by decide))
                      refine i_180_556 (x := 128) l0 ?_
                      refine i_180_557 (x := Int32.ofInt r) l1 ?_
                      refine i_180_558 ?_
                      refine i_180_559 (x := Int32.ofInt sg) l5 ?_
                      have hobj := hR.c128
                      obtain ⟨w, hrun, hR⟩ := s_special (d := d + 2) (r := r) (k := 2) (s := sg) hR (by omega) (by omega) (by omega)
                      refine i_180_561 hobj (Nat.le_of_ble_eq_true rfl) hrun ?_
                      refine i_180_564 rfl ?_
                      refine i_180_565 (x := 0) l16 ?_
                      refine i_180_567 (fun _ => ?_) (fun c => absurd c (by decide))
                      refine i_180_574 ?_
                      refine i_180_575 rfl ?_
                      refine lgen1 (i := 14) (v := Value.int (-1)) (fun lv lg ls => ?_)
                      replace l16 := lg 16 _ rfl rfl l16
                      replace l15 := lg 15 _ rfl rfl l15
                      replace l0 := lg 0 _ rfl rfl l0
                      replace l1 := lg 1 _ rfl rfl l1
                      replace l2 := lg 2 _ rfl rfl l2
                      replace l4 := lg 4 _ rfl rfl l4
                      replace l5 := lg 5 _ rfl rfl l5
                      replace l6 := lg 6 _ rfl rfl l6
                      replace l7 := lg 7 _ rfl rfl l7
                      replace l8 := lg 8 _ rfl rfl l8
                      replace l9 := lg 9 _ rfl rfl l9
                      replace l13 := lg 13 _ rfl rfl l13
                      have l14 := ls
                      refine i_180_577 ?_
                      have eo : rD p (S 128 17) (S 128 18) (S 128 20) (S 128 21) sg mode x more (V h) q u way (S 128 19) = (2, 0, 0, (-1), zor (S 128 19) 4) := by unfold rD; rw [if_neg (by omega), if_neg (by omega), if_pos (by omega), if_neg (by simp [upU, away, *])]
                      refine k _ _ _ _ _ eo.symm l0 l5 l8 l14 hR ?_
                      refine ⟨by simp [u2_e], by simp [u2_e], ⟨fun h => absurd (show (2 : Int) = 3 from h) (by decide), fun _ => ⟨by simp [u2_e], by repeat rw [uv_n (by omega)]⟩⟩, by simp [u2_e], ?_, ?_⟩
                      · intro a j g1 g2 g3 g4; simp [u2_e, g1, g3, g4]
                      · intro k g1 g2 g3 g4 g5; rw [uv_n (by omega)]
              · refine i_180_447 (x := Int32.ofInt more) l4 ?_
                refine i_180_449 (z_ne (a := more) ⟨by omega, by omega⟩ fun c41 => ?_) (z_eq (a := more) ⟨by omega, by omega⟩ fun c41 => ?_)
                · refine i_180_465 ?_
                  refine i_180_466 ?_
                  refine i_180_470 rfl ?_
                  refine lgen1 (i := 15) (v := Value.int 1) (fun lv lg ls => ?_)
                  replace l14 := lg 14 _ rfl rfl l14
                  replace l0 := lg 0 _ rfl rfl l0
                  replace l1 := lg 1 _ rfl rfl l1
                  replace l2 := lg 2 _ rfl rfl l2
                  replace l4 := lg 4 _ rfl rfl l4
                  replace l5 := lg 5 _ rfl rfl l5
                  replace l6 := lg 6 _ rfl rfl l6
                  replace l7 := lg 7 _ rfl rfl l7
                  replace l8 := lg 8 _ rfl rfl l8
                  replace l9 := lg 9 _ rfl rfl l9
                  replace l13 := lg 13 _ rfl rfl l13
                  have l15 := ls
                  refine i_180_472 (x := Int32.ofInt mode) l6 ?_
                  refine i_180_474 ?_
                  refine i_180_475 (b_eq (a := mode) (b := 4) ⟨by omega, by omega⟩ ⟨by decide, by decide⟩ fun c42 => ?_) (b_ne (a := mode) (b := 4) ⟨by omega, by omega⟩ ⟨by decide, by decide⟩ fun c42 => ?_)
                  · refine i_180_510 ?_
                    refine i_180_511 ?_
                    refine i_180_515 rfl ?_
                    refine lgen1 (i := 16) (v := Value.int 1) (fun lv lg ls => ?_)
                    replace l15 := lg 15 _ rfl rfl l15
                    replace l14 := lg 14 _ rfl rfl l14
                    replace l0 := lg 0 _ rfl rfl l0
                    replace l1 := lg 1 _ rfl rfl l1
                    replace l2 := lg 2 _ rfl rfl l2
                    replace l4 := lg 4 _ rfl rfl l4
                    replace l5 := lg 5 _ rfl rfl l5
                    replace l6 := lg 6 _ rfl rfl l6
                    replace l7 := lg 7 _ rfl rfl l7
                    replace l8 := lg 8 _ rfl rfl l8
                    replace l9 := lg 9 _ rfl rfl l9
                    replace l13 := lg 13 _ rfl rfl l13
                    have l16 := ls
                    refine i_180_517 (x := 1) l16 ?_
                    refine i_180_519 (fun c => absurd c (by decide)) (fun _ => ?_)
                    refine i_180_522 (x := 128) l0 ?_
                    refine i_180_523 (v := Value.ref 151) hR.c128 rfl ?_
                    refine i_180_526 ?_
                    obtain ⟨fs, hobj⟩ := hR.obj (h := 151) (iNw (h := 151) (by decide) (by decide) (by decide))
                    obtain ⟨w, hrun, hR⟩ := r_setl (d := d + 1) (x := (1 : Int64)) (v := 1) hR (iNw (h := 151) (by decide) (by decide) (by decide)) rfl
                    refine i_180_527 hobj (Nat.le_of_ble_eq_true rfl) hrun ?_
                    refine i_180_530 (x := 128) l0 ?_
                    refine i_180_531 (x := Int32.ofInt r) l1 ?_
                    refine i_180_532 (x := 128) l0 ?_
                    refine i_180_533 (v := Value.ref 151) hR.c128 rfl ?_
                    refine i_180_536 (x := 128) l0 ?_
                    refine i_180_537 (v := Value.int (Int32.ofInt (S 128 17))) hR.c128 rfl ?_
                    refine i_180_540 ?_
                    refine i_180_541 (c := Int32.ofInt ((S 128 17) - 1)) (o_sub (S 128 17) 1) ?_
                    have hobj := hR.c128
                    obtain ⟨w, hrun, S44, V44, hR, hk44, ht44, hq44, hS44, hV44⟩ := s_put (d := d) (h := 151) (r := r) (e := (S 128 17) - 1) hR (iNw (h := 151) (by decide) (by decide) (by decide)) (by omega) (by omega) (by omega) (by omega) (by simpa [u2_e] using p0) (by simpa [u2_e] using p1) (by rw [show (uv (uv V 135 q) 151 1) 151 = 1 from uv_s]; decide) (by rw [show (uv (uv V 135 q) 151 1) 151 = 1 from uv_s]; decide)
                    rw [show (uv (uv V 135 q) 151 1) 151 = 1 from uv_s] at ht44 hq44
                    refine i_180_542 hobj (Nat.le_of_ble_eq_true rfl) hrun ?_
                    refine i_180_545 (x := 128) l0 ?_
                    refine i_180_546 (v := Value.ref 156) hR.c128 rfl ?_
                    refine i_180_549 (x := Int32.ofInt r) l1 ?_
                    refine i_180_550 (x := Int32.ofInt sg) l5 ?_
                    refine i_180_552z (v := Value.int (Int32.ofInt sg)) (hR.row a156) (ix0 (T := r) (by omega) (by omega)) (ix1 (T := r) (by omega) (by omega) (by omega)) (by decide) (nrb (by omega)) ?_
                    rw [ixn (T := r) (by omega) (by omega)]
                    refine xgen (P := mR w0 (u2 S44 156 ((r).toNat) sg) V44) (hR.arr a156 rfl) (fun w hR => ?_)
                    refine i_180_553 ?_
                    refine i_180_565 (x := 1) l16 ?_
                    refine i_180_567 (fun c => absurd c (by decide)) (fun _ => ?_)
                    refine i_180_570 ?_
                    refine i_180_571 ?_
                    refine i_180_575 rfl ?_
                    refine lgen1 (i := 14) (v := Value.int 1) (fun lv lg ls => ?_)
                    replace l16 := lg 16 _ rfl rfl l16
                    replace l15 := lg 15 _ rfl rfl l15
                    replace l0 := lg 0 _ rfl rfl l0
                    replace l1 := lg 1 _ rfl rfl l1
                    replace l2 := lg 2 _ rfl rfl l2
                    replace l4 := lg 4 _ rfl rfl l4
                    replace l5 := lg 5 _ rfl rfl l5
                    replace l6 := lg 6 _ rfl rfl l6
                    replace l7 := lg 7 _ rfl rfl l7
                    replace l8 := lg 8 _ rfl rfl l8
                    replace l9 := lg 9 _ rfl rfl l9
                    replace l13 := lg 13 _ rfl rfl l13
                    have l14 := ls
                    refine i_180_577 ?_
                    have eo : rD p (S 128 17) (S 128 18) (S 128 20) (S 128 21) sg mode x more (V h) q u way (S 128 19) = (3, (xbl 1 : Int) + ((S 128 17) - 1), nrm 1 p, 1, zor (S 128 19) 4) := by unfold rD; rw [if_neg (by omega), if_neg (by omega), if_pos (by omega), if_pos (by simp [upU, away, *])]
                    refine k _ _ _ _ _ eo.symm l0 l5 l8 l14 hR ?_
                    refine ⟨?_, ?_, ⟨fun _ => ⟨?_, ?_⟩, fun h => absurd rfl h⟩, ?_, ?_, ?_⟩
                    · simp [u2_e, hk44]
                    · simp [u2_e]
                    · rw [u2_e, if_neg (by omega)]; exact ht44
                    · simpa [u2_e, hp] using hq44
                    · rw [u2_e, if_neg (by omega)]; rw [hS44 _ _ (by omega) (by omega)]; simp [u2_e]
                    · intro a j g1 g2 g3 g4; rw [u2_e, if_neg g3]; rw [hS44 a j g1 g2]; rw [u2_e, if_neg g4]
                    · intro k g1 g2 g3 g4 g5; rw [hV44 k g2 g5, uv_n (by omega), uv_n (by omega)]
                  · refine i_180_478 (x := Int32.ofInt mode) l6 ?_
                    refine i_180_480 ?_
                    refine i_180_481 (b_ne (a := mode) (b := 2) ⟨by omega, by omega⟩ ⟨by decide, by decide⟩ fun c44 => ?_) (b_eq (a := mode) (b := 2) ⟨by omega, by omega⟩ ⟨by decide, by decide⟩ fun c44 => ?_)
                    · refine i_180_489 (x := Int32.ofInt mode) l6 ?_
                      refine i_180_491 ?_
                      refine i_180_492 (b_ne (a := mode) (b := 3) ⟨by omega, by omega⟩ ⟨by decide, by decide⟩ fun c45 => ?_) (b_eq (a := mode) (b := 3) ⟨by omega, by omega⟩ ⟨by decide, by decide⟩ fun c45 => ?_)
                      · refine i_180_500 (x := Int32.ofInt mode) l6 ?_
                        refine i_180_502 (z_ne (a := mode) ⟨by omega, by omega⟩ fun c46 => ?_) (z_eq (a := mode) ⟨by omega, by omega⟩ fun c46 => ?_)
                        · refine i_180_514 ?_
                          refine i_180_515 rfl ?_
                          refine lgen1 (i := 16) (v := Value.int 0) (fun lv lg ls => ?_)
                          replace l15 := lg 15 _ rfl rfl l15
                          replace l14 := lg 14 _ rfl rfl l14
                          replace l0 := lg 0 _ rfl rfl l0
                          replace l1 := lg 1 _ rfl rfl l1
                          replace l2 := lg 2 _ rfl rfl l2
                          replace l4 := lg 4 _ rfl rfl l4
                          replace l5 := lg 5 _ rfl rfl l5
                          replace l6 := lg 6 _ rfl rfl l6
                          replace l7 := lg 7 _ rfl rfl l7
                          replace l8 := lg 8 _ rfl rfl l8
                          replace l9 := lg 9 _ rfl rfl l9
                          replace l13 := lg 13 _ rfl rfl l13
                          have l16 := ls
                          refine i_180_517 (x := 0) l16 ?_
                          refine i_180_519 (fun _ => ?_) (fun c => absurd c (by decide))
                          refine i_180_556 (x := 128) l0 ?_
                          refine i_180_557 (x := Int32.ofInt r) l1 ?_
                          refine i_180_558 ?_
                          refine i_180_559 (x := Int32.ofInt sg) l5 ?_
                          have hobj := hR.c128
                          obtain ⟨w, hrun, hR⟩ := s_special (d := d + 2) (r := r) (k := 2) (s := sg) hR (by omega) (by omega) (by omega)
                          refine i_180_561 hobj (Nat.le_of_ble_eq_true rfl) hrun ?_
                          refine i_180_564 rfl ?_
                          refine i_180_565 (x := 0) l16 ?_
                          refine i_180_567 (fun _ => ?_) (fun c => absurd c (by decide))
                          refine i_180_574 ?_
                          refine i_180_575 rfl ?_
                          refine lgen1 (i := 14) (v := Value.int (-1)) (fun lv lg ls => ?_)
                          replace l16 := lg 16 _ rfl rfl l16
                          replace l15 := lg 15 _ rfl rfl l15
                          replace l0 := lg 0 _ rfl rfl l0
                          replace l1 := lg 1 _ rfl rfl l1
                          replace l2 := lg 2 _ rfl rfl l2
                          replace l4 := lg 4 _ rfl rfl l4
                          replace l5 := lg 5 _ rfl rfl l5
                          replace l6 := lg 6 _ rfl rfl l6
                          replace l7 := lg 7 _ rfl rfl l7
                          replace l8 := lg 8 _ rfl rfl l8
                          replace l9 := lg 9 _ rfl rfl l9
                          replace l13 := lg 13 _ rfl rfl l13
                          have l14 := ls
                          refine i_180_577 ?_
                          have eo : rD p (S 128 17) (S 128 18) (S 128 20) (S 128 21) sg mode x more (V h) q u way (S 128 19) = (2, 0, 0, (-1), zor (S 128 19) 4) := by unfold rD; rw [if_neg (by omega), if_neg (by omega), if_pos (by omega), if_neg (by simp [upU, away, *])]
                          refine k _ _ _ _ _ eo.symm l0 l5 l8 l14 hR ?_
                          refine ⟨by simp [u2_e], by simp [u2_e], ⟨fun h => absurd (show (2 : Int) = 3 from h) (by decide), fun _ => ⟨by simp [u2_e], by repeat rw [uv_n (by omega)]⟩⟩, by simp [u2_e], ?_, ?_⟩
                          · intro a j g1 g2 g3 g4; simp [u2_e, g1, g3, g4]
                          · intro k g1 g2 g3 g4 g5; rw [uv_n (by omega)]
                        · refine i_180_505 (x := 1) l15 ?_
                          refine i_180_507 (fun c => absurd c (by decide)) (fun _ => ?_)
                          refine i_180_510 ?_
                          refine i_180_511 ?_
                          refine i_180_515 rfl ?_
                          refine lgen1 (i := 16) (v := Value.int 1) (fun lv lg ls => ?_)
                          replace l15 := lg 15 _ rfl rfl l15
                          replace l14 := lg 14 _ rfl rfl l14
                          replace l0 := lg 0 _ rfl rfl l0
                          replace l1 := lg 1 _ rfl rfl l1
                          replace l2 := lg 2 _ rfl rfl l2
                          replace l4 := lg 4 _ rfl rfl l4
                          replace l5 := lg 5 _ rfl rfl l5
                          replace l6 := lg 6 _ rfl rfl l6
                          replace l7 := lg 7 _ rfl rfl l7
                          replace l8 := lg 8 _ rfl rfl l8
                          replace l9 := lg 9 _ rfl rfl l9
                          replace l13 := lg 13 _ rfl rfl l13
                          have l16 := ls
                          refine i_180_517 (x := 1) l16 ?_
                          refine i_180_519 (fun c => absurd c (by decide)) (fun _ => ?_)
                          refine i_180_522 (x := 128) l0 ?_
                          refine i_180_523 (v := Value.ref 151) hR.c128 rfl ?_
                          refine i_180_526 ?_
                          obtain ⟨fs, hobj⟩ := hR.obj (h := 151) (iNw (h := 151) (by decide) (by decide) (by decide))
                          obtain ⟨w, hrun, hR⟩ := r_setl (d := d + 1) (x := (1 : Int64)) (v := 1) hR (iNw (h := 151) (by decide) (by decide) (by decide)) rfl
                          refine i_180_527 hobj (Nat.le_of_ble_eq_true rfl) hrun ?_
                          refine i_180_530 (x := 128) l0 ?_
                          refine i_180_531 (x := Int32.ofInt r) l1 ?_
                          refine i_180_532 (x := 128) l0 ?_
                          refine i_180_533 (v := Value.ref 151) hR.c128 rfl ?_
                          refine i_180_536 (x := 128) l0 ?_
                          refine i_180_537 (v := Value.int (Int32.ofInt (S 128 17))) hR.c128 rfl ?_
                          refine i_180_540 ?_
                          refine i_180_541 (c := Int32.ofInt ((S 128 17) - 1)) (o_sub (S 128 17) 1) ?_
                          have hobj := hR.c128
                          obtain ⟨w, hrun, S48, V48, hR, hk48, ht48, hq48, hS48, hV48⟩ := s_put (d := d) (h := 151) (r := r) (e := (S 128 17) - 1) hR (iNw (h := 151) (by decide) (by decide) (by decide)) (by omega) (by omega) (by omega) (by omega) (by simpa [u2_e] using p0) (by simpa [u2_e] using p1) (by rw [show (uv (uv V 135 q) 151 1) 151 = 1 from uv_s]; decide) (by rw [show (uv (uv V 135 q) 151 1) 151 = 1 from uv_s]; decide)
                          rw [show (uv (uv V 135 q) 151 1) 151 = 1 from uv_s] at ht48 hq48
                          refine i_180_542 hobj (Nat.le_of_ble_eq_true rfl) hrun ?_
                          refine i_180_545 (x := 128) l0 ?_
                          refine i_180_546 (v := Value.ref 156) hR.c128 rfl ?_
                          refine i_180_549 (x := Int32.ofInt r) l1 ?_
                          refine i_180_550 (x := Int32.ofInt sg) l5 ?_
                          refine i_180_552z (v := Value.int (Int32.ofInt sg)) (hR.row a156) (ix0 (T := r) (by omega) (by omega)) (ix1 (T := r) (by omega) (by omega) (by omega)) (by decide) (nrb (by omega)) ?_
                          rw [ixn (T := r) (by omega) (by omega)]
                          refine xgen (P := mR w0 (u2 S48 156 ((r).toNat) sg) V48) (hR.arr a156 rfl) (fun w hR => ?_)
                          refine i_180_553 ?_
                          refine i_180_565 (x := 1) l16 ?_
                          refine i_180_567 (fun c => absurd c (by decide)) (fun _ => ?_)
                          refine i_180_570 ?_
                          refine i_180_571 ?_
                          refine i_180_575 rfl ?_
                          refine lgen1 (i := 14) (v := Value.int 1) (fun lv lg ls => ?_)
                          replace l16 := lg 16 _ rfl rfl l16
                          replace l15 := lg 15 _ rfl rfl l15
                          replace l0 := lg 0 _ rfl rfl l0
                          replace l1 := lg 1 _ rfl rfl l1
                          replace l2 := lg 2 _ rfl rfl l2
                          replace l4 := lg 4 _ rfl rfl l4
                          replace l5 := lg 5 _ rfl rfl l5
                          replace l6 := lg 6 _ rfl rfl l6
                          replace l7 := lg 7 _ rfl rfl l7
                          replace l8 := lg 8 _ rfl rfl l8
                          replace l9 := lg 9 _ rfl rfl l9
                          replace l13 := lg 13 _ rfl rfl l13
                          have l14 := ls
                          refine i_180_577 ?_
                          have eo : rD p (S 128 17) (S 128 18) (S 128 20) (S 128 21) sg mode x more (V h) q u way (S 128 19) = (3, (xbl 1 : Int) + ((S 128 17) - 1), nrm 1 p, 1, zor (S 128 19) 4) := by unfold rD; rw [if_neg (by omega), if_neg (by omega), if_pos (by omega), if_pos (by simp [upU, away, *])]
                          refine k _ _ _ _ _ eo.symm l0 l5 l8 l14 hR ?_
                          refine ⟨?_, ?_, ⟨fun _ => ⟨?_, ?_⟩, fun h => absurd rfl h⟩, ?_, ?_, ?_⟩
                          · simp [u2_e, hk48]
                          · simp [u2_e]
                          · rw [u2_e, if_neg (by omega)]; exact ht48
                          · simpa [u2_e, hp] using hq48
                          · rw [u2_e, if_neg (by omega)]; rw [hS48 _ _ (by omega) (by omega)]; simp [u2_e]
                          · intro a j g1 g2 g3 g4; rw [u2_e, if_neg g3]; rw [hS48 a j g1 g2]; rw [u2_e, if_neg g4]
                          · intro k g1 g2 g3 g4 g5; rw [hV48 k g2 g5, uv_n (by omega), uv_n (by omega)]
                      · refine i_180_495 (x := Int32.ofInt sg) l5 ?_
                        refine i_180_497 (z_ne (a := sg) ⟨by omega, by omega⟩ fun c48 => ?_) (z_eq (a := sg) ⟨by omega, by omega⟩ fun c48 => ?_)
                        · refine i_180_510 ?_
                          refine i_180_511 ?_
                          refine i_180_515 rfl ?_
                          refine lgen1 (i := 16) (v := Value.int 1) (fun lv lg ls => ?_)
                          replace l15 := lg 15 _ rfl rfl l15
                          replace l14 := lg 14 _ rfl rfl l14
                          replace l0 := lg 0 _ rfl rfl l0
                          replace l1 := lg 1 _ rfl rfl l1
                          replace l2 := lg 2 _ rfl rfl l2
                          replace l4 := lg 4 _ rfl rfl l4
                          replace l5 := lg 5 _ rfl rfl l5
                          replace l6 := lg 6 _ rfl rfl l6
                          replace l7 := lg 7 _ rfl rfl l7
                          replace l8 := lg 8 _ rfl rfl l8
                          replace l9 := lg 9 _ rfl rfl l9
                          replace l13 := lg 13 _ rfl rfl l13
                          have l16 := ls
                          refine i_180_517 (x := 1) l16 ?_
                          refine i_180_519 (fun c => absurd c (by decide)) (fun _ => ?_)
                          refine i_180_522 (x := 128) l0 ?_
                          refine i_180_523 (v := Value.ref 151) hR.c128 rfl ?_
                          refine i_180_526 ?_
                          obtain ⟨fs, hobj⟩ := hR.obj (h := 151) (iNw (h := 151) (by decide) (by decide) (by decide))
                          obtain ⟨w, hrun, hR⟩ := r_setl (d := d + 1) (x := (1 : Int64)) (v := 1) hR (iNw (h := 151) (by decide) (by decide) (by decide)) rfl
                          refine i_180_527 hobj (Nat.le_of_ble_eq_true rfl) hrun ?_
                          refine i_180_530 (x := 128) l0 ?_
                          refine i_180_531 (x := Int32.ofInt r) l1 ?_
                          refine i_180_532 (x := 128) l0 ?_
                          refine i_180_533 (v := Value.ref 151) hR.c128 rfl ?_
                          refine i_180_536 (x := 128) l0 ?_
                          refine i_180_537 (v := Value.int (Int32.ofInt (S 128 17))) hR.c128 rfl ?_
                          refine i_180_540 ?_
                          refine i_180_541 (c := Int32.ofInt ((S 128 17) - 1)) (o_sub (S 128 17) 1) ?_
                          have hobj := hR.c128
                          obtain ⟨w, hrun, S50, V50, hR, hk50, ht50, hq50, hS50, hV50⟩ := s_put (d := d) (h := 151) (r := r) (e := (S 128 17) - 1) hR (iNw (h := 151) (by decide) (by decide) (by decide)) (by omega) (by omega) (by omega) (by omega) (by simpa [u2_e] using p0) (by simpa [u2_e] using p1) (by rw [show (uv (uv V 135 q) 151 1) 151 = 1 from uv_s]; decide) (by rw [show (uv (uv V 135 q) 151 1) 151 = 1 from uv_s]; decide)
                          rw [show (uv (uv V 135 q) 151 1) 151 = 1 from uv_s] at ht50 hq50
                          refine i_180_542 hobj (Nat.le_of_ble_eq_true rfl) hrun ?_
                          refine i_180_545 (x := 128) l0 ?_
                          refine i_180_546 (v := Value.ref 156) hR.c128 rfl ?_
                          refine i_180_549 (x := Int32.ofInt r) l1 ?_
                          refine i_180_550 (x := Int32.ofInt sg) l5 ?_
                          refine i_180_552z (v := Value.int (Int32.ofInt sg)) (hR.row a156) (ix0 (T := r) (by omega) (by omega)) (ix1 (T := r) (by omega) (by omega) (by omega)) (by decide) (nrb (by omega)) ?_
                          rw [ixn (T := r) (by omega) (by omega)]
                          refine xgen (P := mR w0 (u2 S50 156 ((r).toNat) sg) V50) (hR.arr a156 rfl) (fun w hR => ?_)
                          refine i_180_553 ?_
                          refine i_180_565 (x := 1) l16 ?_
                          refine i_180_567 (fun c => absurd c (by decide)) (fun _ => ?_)
                          refine i_180_570 ?_
                          refine i_180_571 ?_
                          refine i_180_575 rfl ?_
                          refine lgen1 (i := 14) (v := Value.int 1) (fun lv lg ls => ?_)
                          replace l16 := lg 16 _ rfl rfl l16
                          replace l15 := lg 15 _ rfl rfl l15
                          replace l0 := lg 0 _ rfl rfl l0
                          replace l1 := lg 1 _ rfl rfl l1
                          replace l2 := lg 2 _ rfl rfl l2
                          replace l4 := lg 4 _ rfl rfl l4
                          replace l5 := lg 5 _ rfl rfl l5
                          replace l6 := lg 6 _ rfl rfl l6
                          replace l7 := lg 7 _ rfl rfl l7
                          replace l8 := lg 8 _ rfl rfl l8
                          replace l9 := lg 9 _ rfl rfl l9
                          replace l13 := lg 13 _ rfl rfl l13
                          have l14 := ls
                          refine i_180_577 ?_
                          have eo : rD p (S 128 17) (S 128 18) (S 128 20) (S 128 21) sg mode x more (V h) q u way (S 128 19) = (3, (xbl 1 : Int) + ((S 128 17) - 1), nrm 1 p, 1, zor (S 128 19) 4) := by unfold rD; rw [if_neg (by omega), if_neg (by omega), if_pos (by omega), if_pos (by simp [upU, away, *])]
                          refine k _ _ _ _ _ eo.symm l0 l5 l8 l14 hR ?_
                          refine ⟨?_, ?_, ⟨fun _ => ⟨?_, ?_⟩, fun h => absurd rfl h⟩, ?_, ?_, ?_⟩
                          · simp [u2_e, hk50]
                          · simp [u2_e]
                          · rw [u2_e, if_neg (by omega)]; exact ht50
                          · simpa [u2_e, hp] using hq50
                          · rw [u2_e, if_neg (by omega)]; rw [hS50 _ _ (by omega) (by omega)]; simp [u2_e]
                          · intro a j g1 g2 g3 g4; rw [u2_e, if_neg g3]; rw [hS50 a j g1 g2]; rw [u2_e, if_neg g4]
                          · intro k g1 g2 g3 g4 g5; rw [hV50 k g2 g5, uv_n (by omega), uv_n (by omega)]
                        · refine i_180_500 (x := Int32.ofInt mode) l6 ?_
                          refine i_180_502 (z_ne (a := mode) ⟨by omega, by omega⟩ fun c50 => ?_) (z_eq (a := mode) ⟨by omega, by omega⟩ fun c50 => absurd c50 (by omega))
                          refine i_180_514 ?_
                          refine i_180_515 rfl ?_
                          refine lgen1 (i := 16) (v := Value.int 0) (fun lv lg ls => ?_)
                          replace l15 := lg 15 _ rfl rfl l15
                          replace l14 := lg 14 _ rfl rfl l14
                          replace l0 := lg 0 _ rfl rfl l0
                          replace l1 := lg 1 _ rfl rfl l1
                          replace l2 := lg 2 _ rfl rfl l2
                          replace l4 := lg 4 _ rfl rfl l4
                          replace l5 := lg 5 _ rfl rfl l5
                          replace l6 := lg 6 _ rfl rfl l6
                          replace l7 := lg 7 _ rfl rfl l7
                          replace l8 := lg 8 _ rfl rfl l8
                          replace l9 := lg 9 _ rfl rfl l9
                          replace l13 := lg 13 _ rfl rfl l13
                          have l16 := ls
                          refine i_180_517 (x := 0) l16 ?_
                          refine i_180_519 (fun _ => ?_) (fun c => absurd c (by decide))
                          refine i_180_556 (x := 128) l0 ?_
                          refine i_180_557 (x := Int32.ofInt r) l1 ?_
                          refine i_180_558 ?_
                          refine i_180_559 (x := Int32.ofInt sg) l5 ?_
                          have hobj := hR.c128
                          obtain ⟨w, hrun, hR⟩ := s_special (d := d + 2) (r := r) (k := 2) (s := sg) hR (by omega) (by omega) (by omega)
                          refine i_180_561 hobj (Nat.le_of_ble_eq_true rfl) hrun ?_
                          refine i_180_564 rfl ?_
                          refine i_180_565 (x := 0) l16 ?_
                          refine i_180_567 (fun _ => ?_) (fun c => absurd c (by decide))
                          refine i_180_574 ?_
                          refine i_180_575 rfl ?_
                          refine lgen1 (i := 14) (v := Value.int (-1)) (fun lv lg ls => ?_)
                          replace l16 := lg 16 _ rfl rfl l16
                          replace l15 := lg 15 _ rfl rfl l15
                          replace l0 := lg 0 _ rfl rfl l0
                          replace l1 := lg 1 _ rfl rfl l1
                          replace l2 := lg 2 _ rfl rfl l2
                          replace l4 := lg 4 _ rfl rfl l4
                          replace l5 := lg 5 _ rfl rfl l5
                          replace l6 := lg 6 _ rfl rfl l6
                          replace l7 := lg 7 _ rfl rfl l7
                          replace l8 := lg 8 _ rfl rfl l8
                          replace l9 := lg 9 _ rfl rfl l9
                          replace l13 := lg 13 _ rfl rfl l13
                          have l14 := ls
                          refine i_180_577 ?_
                          have eo : rD p (S 128 17) (S 128 18) (S 128 20) (S 128 21) sg mode x more (V h) q u way (S 128 19) = (2, 0, 0, (-1), zor (S 128 19) 4) := by unfold rD; rw [if_neg (by omega), if_neg (by omega), if_pos (by omega), if_neg (by simp [upU, away, *])]
                          refine k _ _ _ _ _ eo.symm l0 l5 l8 l14 hR ?_
                          refine ⟨by simp [u2_e], by simp [u2_e], ⟨fun h => absurd (show (2 : Int) = 3 from h) (by decide), fun _ => ⟨by simp [u2_e], by repeat rw [uv_n (by omega)]⟩⟩, by simp [u2_e], ?_, ?_⟩
                          · intro a j g1 g2 g3 g4; simp [u2_e, g1, g3, g4]
                          · intro k g1 g2 g3 g4 g5; rw [uv_n (by omega)]
                    · refine i_180_484 (x := Int32.ofInt sg) l5 ?_
                      refine i_180_486 (z_eq (a := sg) ⟨by omega, by omega⟩ fun c51 => ?_) (z_ne (a := sg) ⟨by omega, by omega⟩ fun c51 => ?_)
                      · refine i_180_510 ?_
                        refine i_180_511 ?_
                        refine i_180_515 rfl ?_
                        refine lgen1 (i := 16) (v := Value.int 1) (fun lv lg ls => ?_)
                        replace l15 := lg 15 _ rfl rfl l15
                        replace l14 := lg 14 _ rfl rfl l14
                        replace l0 := lg 0 _ rfl rfl l0
                        replace l1 := lg 1 _ rfl rfl l1
                        replace l2 := lg 2 _ rfl rfl l2
                        replace l4 := lg 4 _ rfl rfl l4
                        replace l5 := lg 5 _ rfl rfl l5
                        replace l6 := lg 6 _ rfl rfl l6
                        replace l7 := lg 7 _ rfl rfl l7
                        replace l8 := lg 8 _ rfl rfl l8
                        replace l9 := lg 9 _ rfl rfl l9
                        replace l13 := lg 13 _ rfl rfl l13
                        have l16 := ls
                        refine i_180_517 (x := 1) l16 ?_
                        refine i_180_519 (fun c => absurd c (by decide)) (fun _ => ?_)
                        refine i_180_522 (x := 128) l0 ?_
                        refine i_180_523 (v := Value.ref 151) hR.c128 rfl ?_
                        refine i_180_526 ?_
                        obtain ⟨fs, hobj⟩ := hR.obj (h := 151) (iNw (h := 151) (by decide) (by decide) (by decide))
                        obtain ⟨w, hrun, hR⟩ := r_setl (d := d + 1) (x := (1 : Int64)) (v := 1) hR (iNw (h := 151) (by decide) (by decide) (by decide)) rfl
                        refine i_180_527 hobj (Nat.le_of_ble_eq_true rfl) hrun ?_
                        refine i_180_530 (x := 128) l0 ?_
                        refine i_180_531 (x := Int32.ofInt r) l1 ?_
                        refine i_180_532 (x := 128) l0 ?_
                        refine i_180_533 (v := Value.ref 151) hR.c128 rfl ?_
                        refine i_180_536 (x := 128) l0 ?_
                        refine i_180_537 (v := Value.int (Int32.ofInt (S 128 17))) hR.c128 rfl ?_
                        refine i_180_540 ?_
                        refine i_180_541 (c := Int32.ofInt ((S 128 17) - 1)) (o_sub (S 128 17) 1) ?_
                        have hobj := hR.c128
                        obtain ⟨w, hrun, S53, V53, hR, hk53, ht53, hq53, hS53, hV53⟩ := s_put (d := d) (h := 151) (r := r) (e := (S 128 17) - 1) hR (iNw (h := 151) (by decide) (by decide) (by decide)) (by omega) (by omega) (by omega) (by omega) (by simpa [u2_e] using p0) (by simpa [u2_e] using p1) (by rw [show (uv (uv V 135 q) 151 1) 151 = 1 from uv_s]; decide) (by rw [show (uv (uv V 135 q) 151 1) 151 = 1 from uv_s]; decide)
                        rw [show (uv (uv V 135 q) 151 1) 151 = 1 from uv_s] at ht53 hq53
                        refine i_180_542 hobj (Nat.le_of_ble_eq_true rfl) hrun ?_
                        refine i_180_545 (x := 128) l0 ?_
                        refine i_180_546 (v := Value.ref 156) hR.c128 rfl ?_
                        refine i_180_549 (x := Int32.ofInt r) l1 ?_
                        refine i_180_550 (x := Int32.ofInt sg) l5 ?_
                        refine i_180_552z (v := Value.int (Int32.ofInt sg)) (hR.row a156) (ix0 (T := r) (by omega) (by omega)) (ix1 (T := r) (by omega) (by omega) (by omega)) (by decide) (nrb (by omega)) ?_
                        rw [ixn (T := r) (by omega) (by omega)]
                        refine xgen (P := mR w0 (u2 S53 156 ((r).toNat) sg) V53) (hR.arr a156 rfl) (fun w hR => ?_)
                        refine i_180_553 ?_
                        refine i_180_565 (x := 1) l16 ?_
                        refine i_180_567 (fun c => absurd c (by decide)) (fun _ => ?_)
                        refine i_180_570 ?_
                        refine i_180_571 ?_
                        refine i_180_575 rfl ?_
                        refine lgen1 (i := 14) (v := Value.int 1) (fun lv lg ls => ?_)
                        replace l16 := lg 16 _ rfl rfl l16
                        replace l15 := lg 15 _ rfl rfl l15
                        replace l0 := lg 0 _ rfl rfl l0
                        replace l1 := lg 1 _ rfl rfl l1
                        replace l2 := lg 2 _ rfl rfl l2
                        replace l4 := lg 4 _ rfl rfl l4
                        replace l5 := lg 5 _ rfl rfl l5
                        replace l6 := lg 6 _ rfl rfl l6
                        replace l7 := lg 7 _ rfl rfl l7
                        replace l8 := lg 8 _ rfl rfl l8
                        replace l9 := lg 9 _ rfl rfl l9
                        replace l13 := lg 13 _ rfl rfl l13
                        have l14 := ls
                        refine i_180_577 ?_
                        have eo : rD p (S 128 17) (S 128 18) (S 128 20) (S 128 21) sg mode x more (V h) q u way (S 128 19) = (3, (xbl 1 : Int) + ((S 128 17) - 1), nrm 1 p, 1, zor (S 128 19) 4) := by unfold rD; rw [if_neg (by omega), if_neg (by omega), if_pos (by omega), if_pos (by simp [upU, away, *])]
                        refine k _ _ _ _ _ eo.symm l0 l5 l8 l14 hR ?_
                        refine ⟨?_, ?_, ⟨fun _ => ⟨?_, ?_⟩, fun h => absurd rfl h⟩, ?_, ?_, ?_⟩
                        · simp [u2_e, hk53]
                        · simp [u2_e]
                        · rw [u2_e, if_neg (by omega)]; exact ht53
                        · simpa [u2_e, hp] using hq53
                        · rw [u2_e, if_neg (by omega)]; rw [hS53 _ _ (by omega) (by omega)]; simp [u2_e]
                        · intro a j g1 g2 g3 g4; rw [u2_e, if_neg g3]; rw [hS53 a j g1 g2]; rw [u2_e, if_neg g4]
                        · intro k g1 g2 g3 g4 g5; rw [hV53 k g2 g5, uv_n (by omega), uv_n (by omega)]
                      · refine i_180_489 (x := Int32.ofInt mode) l6 ?_
                        refine i_180_491 ?_
                        refine i_180_492 (b_ne (a := mode) (b := 3) ⟨by omega, by omega⟩ ⟨by decide, by decide⟩ fun c53 => ?_) (b_eq (a := mode) (b := 3) ⟨by omega, by omega⟩ ⟨by decide, by decide⟩ fun c53 => absurd c53 (by omega))
                        refine i_180_500 (x := Int32.ofInt mode) l6 ?_
                        refine i_180_502 (z_ne (a := mode) ⟨by omega, by omega⟩ fun c54 => ?_) (z_eq (a := mode) ⟨by omega, by omega⟩ fun c54 => absurd c54 (by omega))
                        refine i_180_514 ?_
                        refine i_180_515 rfl ?_
                        refine lgen1 (i := 16) (v := Value.int 0) (fun lv lg ls => ?_)
                        replace l15 := lg 15 _ rfl rfl l15
                        replace l14 := lg 14 _ rfl rfl l14
                        replace l0 := lg 0 _ rfl rfl l0
                        replace l1 := lg 1 _ rfl rfl l1
                        replace l2 := lg 2 _ rfl rfl l2
                        replace l4 := lg 4 _ rfl rfl l4
                        replace l5 := lg 5 _ rfl rfl l5
                        replace l6 := lg 6 _ rfl rfl l6
                        replace l7 := lg 7 _ rfl rfl l7
                        replace l8 := lg 8 _ rfl rfl l8
                        replace l9 := lg 9 _ rfl rfl l9
                        replace l13 := lg 13 _ rfl rfl l13
                        have l16 := ls
                        refine i_180_517 (x := 0) l16 ?_
                        refine i_180_519 (fun _ => ?_) (fun c => absurd c (by decide))
                        refine i_180_556 (x := 128) l0 ?_
                        refine i_180_557 (x := Int32.ofInt r) l1 ?_
                        refine i_180_558 ?_
                        refine i_180_559 (x := Int32.ofInt sg) l5 ?_
                        have hobj := hR.c128
                        obtain ⟨w, hrun, hR⟩ := s_special (d := d + 2) (r := r) (k := 2) (s := sg) hR (by omega) (by omega) (by omega)
                        refine i_180_561 hobj (Nat.le_of_ble_eq_true rfl) hrun ?_
                        refine i_180_564 rfl ?_
                        refine i_180_565 (x := 0) l16 ?_
                        refine i_180_567 (fun _ => ?_) (fun c => absurd c (by decide))
                        refine i_180_574 ?_
                        refine i_180_575 rfl ?_
                        refine lgen1 (i := 14) (v := Value.int (-1)) (fun lv lg ls => ?_)
                        replace l16 := lg 16 _ rfl rfl l16
                        replace l15 := lg 15 _ rfl rfl l15
                        replace l0 := lg 0 _ rfl rfl l0
                        replace l1 := lg 1 _ rfl rfl l1
                        replace l2 := lg 2 _ rfl rfl l2
                        replace l4 := lg 4 _ rfl rfl l4
                        replace l5 := lg 5 _ rfl rfl l5
                        replace l6 := lg 6 _ rfl rfl l6
                        replace l7 := lg 7 _ rfl rfl l7
                        replace l8 := lg 8 _ rfl rfl l8
                        replace l9 := lg 9 _ rfl rfl l9
                        replace l13 := lg 13 _ rfl rfl l13
                        have l14 := ls
                        refine i_180_577 ?_
                        have eo : rD p (S 128 17) (S 128 18) (S 128 20) (S 128 21) sg mode x more (V h) q u way (S 128 19) = (2, 0, 0, (-1), zor (S 128 19) 4) := by unfold rD; rw [if_neg (by omega), if_neg (by omega), if_pos (by omega), if_neg (by simp [upU, away, *])]
                        refine k _ _ _ _ _ eo.symm l0 l5 l8 l14 hR ?_
                        refine ⟨by simp [u2_e], by simp [u2_e], ⟨fun h => absurd (show (2 : Int) = 3 from h) (by decide), fun _ => ⟨by simp [u2_e], by repeat rw [uv_n (by omega)]⟩⟩, by simp [u2_e], ?_, ?_⟩
                        · intro a j g1 g2 g3 g4; simp [u2_e, g1, g3, g4]
                        · intro k g1 g2 g3 g4 g5; rw [uv_n (by omega)]
                · refine i_180_452 (x := h) l2 ?_
                  refine i_180_453 (x := h) l2 ?_
                  obtain ⟨fs, hobj⟩ := hR.obj (h := h) hh
                  have hrun := r_bits (d := d + 1) (v := V h) hR hh ((uv_n (by omega)).trans (rfl))
                  refine i_180_454 hobj (Nat.le_of_ble_eq_true rfl) hrun ?_
                  refine i_180_457 ?_
                  refine i_180_458 (c := Int32.ofInt ((xbl (V h) : Int) - 1)) (o_sub (xbl (V h) : Int) 1) ?_
                  obtain ⟨fs, hobj⟩ := hR.obj (h := h) hh
                  have hrun := r_any (d := d + 1) (v := V h) (k := (xbl (V h) : Int) - 1) hR hh ((uv_n (by omega)).trans (rfl)) (by omega) (by omega)
                  refine i_180_459 hobj (Nat.le_of_ble_eq_true rfl) hrun ?_
                  refine i_180_462 (zb_f fun c55 => ?_) (zb_t fun c55 => ?_)
                  · refine i_180_469 ?_
                    refine i_180_470 rfl ?_
                    refine lgen1 (i := 15) (v := Value.int 0) (fun lv lg ls => ?_)
                    replace l14 := lg 14 _ rfl rfl l14
                    replace l0 := lg 0 _ rfl rfl l0
                    replace l1 := lg 1 _ rfl rfl l1
                    replace l2 := lg 2 _ rfl rfl l2
                    replace l4 := lg 4 _ rfl rfl l4
                    replace l5 := lg 5 _ rfl rfl l5
                    replace l6 := lg 6 _ rfl rfl l6
                    replace l7 := lg 7 _ rfl rfl l7
                    replace l8 := lg 8 _ rfl rfl l8
                    replace l9 := lg 9 _ rfl rfl l9
                    replace l13 := lg 13 _ rfl rfl l13
                    have l15 := ls
                    refine i_180_472 (x := Int32.ofInt mode) l6 ?_
                    refine i_180_474 ?_
                    refine i_180_475 (b_eq (a := mode) (b := 4) ⟨by omega, by omega⟩ ⟨by decide, by decide⟩ fun c56 => ?_) (b_ne (a := mode) (b := 4) ⟨by omega, by omega⟩ ⟨by decide, by decide⟩ fun c56 => ?_)
                    · refine i_180_510 ?_
                      refine i_180_511 ?_
                      refine i_180_515 rfl ?_
                      refine lgen1 (i := 16) (v := Value.int 1) (fun lv lg ls => ?_)
                      replace l15 := lg 15 _ rfl rfl l15
                      replace l14 := lg 14 _ rfl rfl l14
                      replace l0 := lg 0 _ rfl rfl l0
                      replace l1 := lg 1 _ rfl rfl l1
                      replace l2 := lg 2 _ rfl rfl l2
                      replace l4 := lg 4 _ rfl rfl l4
                      replace l5 := lg 5 _ rfl rfl l5
                      replace l6 := lg 6 _ rfl rfl l6
                      replace l7 := lg 7 _ rfl rfl l7
                      replace l8 := lg 8 _ rfl rfl l8
                      replace l9 := lg 9 _ rfl rfl l9
                      replace l13 := lg 13 _ rfl rfl l13
                      have l16 := ls
                      refine i_180_517 (x := 1) l16 ?_
                      refine i_180_519 (fun c => absurd c (by decide)) (fun _ => ?_)
                      refine i_180_522 (x := 128) l0 ?_
                      refine i_180_523 (v := Value.ref 151) hR.c128 rfl ?_
                      refine i_180_526 ?_
                      obtain ⟨fs, hobj⟩ := hR.obj (h := 151) (iNw (h := 151) (by decide) (by decide) (by decide))
                      obtain ⟨w, hrun, hR⟩ := r_setl (d := d + 1) (x := (1 : Int64)) (v := 1) hR (iNw (h := 151) (by decide) (by decide) (by decide)) rfl
                      refine i_180_527 hobj (Nat.le_of_ble_eq_true rfl) hrun ?_
                      refine i_180_530 (x := 128) l0 ?_
                      refine i_180_531 (x := Int32.ofInt r) l1 ?_
                      refine i_180_532 (x := 128) l0 ?_
                      refine i_180_533 (v := Value.ref 151) hR.c128 rfl ?_
                      refine i_180_536 (x := 128) l0 ?_
                      refine i_180_537 (v := Value.int (Int32.ofInt (S 128 17))) hR.c128 rfl ?_
                      refine i_180_540 ?_
                      refine i_180_541 (c := Int32.ofInt ((S 128 17) - 1)) (o_sub (S 128 17) 1) ?_
                      have hobj := hR.c128
                      obtain ⟨w, hrun, S58, V58, hR, hk58, ht58, hq58, hS58, hV58⟩ := s_put (d := d) (h := 151) (r := r) (e := (S 128 17) - 1) hR (iNw (h := 151) (by decide) (by decide) (by decide)) (by omega) (by omega) (by omega) (by omega) (by simpa [u2_e] using p0) (by simpa [u2_e] using p1) (by rw [show (uv (uv V 135 q) 151 1) 151 = 1 from uv_s]; decide) (by rw [show (uv (uv V 135 q) 151 1) 151 = 1 from uv_s]; decide)
                      rw [show (uv (uv V 135 q) 151 1) 151 = 1 from uv_s] at ht58 hq58
                      refine i_180_542 hobj (Nat.le_of_ble_eq_true rfl) hrun ?_
                      refine i_180_545 (x := 128) l0 ?_
                      refine i_180_546 (v := Value.ref 156) hR.c128 rfl ?_
                      refine i_180_549 (x := Int32.ofInt r) l1 ?_
                      refine i_180_550 (x := Int32.ofInt sg) l5 ?_
                      refine i_180_552z (v := Value.int (Int32.ofInt sg)) (hR.row a156) (ix0 (T := r) (by omega) (by omega)) (ix1 (T := r) (by omega) (by omega) (by omega)) (by decide) (nrb (by omega)) ?_
                      rw [ixn (T := r) (by omega) (by omega)]
                      refine xgen (P := mR w0 (u2 S58 156 ((r).toNat) sg) V58) (hR.arr a156 rfl) (fun w hR => ?_)
                      refine i_180_553 ?_
                      refine i_180_565 (x := 1) l16 ?_
                      refine i_180_567 (fun c => absurd c (by decide)) (fun _ => ?_)
                      refine i_180_570 ?_
                      refine i_180_571 ?_
                      refine i_180_575 rfl ?_
                      refine lgen1 (i := 14) (v := Value.int 1) (fun lv lg ls => ?_)
                      replace l16 := lg 16 _ rfl rfl l16
                      replace l15 := lg 15 _ rfl rfl l15
                      replace l0 := lg 0 _ rfl rfl l0
                      replace l1 := lg 1 _ rfl rfl l1
                      replace l2 := lg 2 _ rfl rfl l2
                      replace l4 := lg 4 _ rfl rfl l4
                      replace l5 := lg 5 _ rfl rfl l5
                      replace l6 := lg 6 _ rfl rfl l6
                      replace l7 := lg 7 _ rfl rfl l7
                      replace l8 := lg 8 _ rfl rfl l8
                      replace l9 := lg 9 _ rfl rfl l9
                      replace l13 := lg 13 _ rfl rfl l13
                      have l14 := ls
                      refine i_180_577 ?_
                      have eo : rD p (S 128 17) (S 128 18) (S 128 20) (S 128 21) sg mode x more (V h) q u way (S 128 19) = (3, (xbl 1 : Int) + ((S 128 17) - 1), nrm 1 p, 1, zor (S 128 19) 4) := by unfold rD; rw [if_neg (by omega), if_neg (by omega), if_pos (by omega), if_pos (by simp [upU, away, *])]
                      refine k _ _ _ _ _ eo.symm l0 l5 l8 l14 hR ?_
                      refine ⟨?_, ?_, ⟨fun _ => ⟨?_, ?_⟩, fun h => absurd rfl h⟩, ?_, ?_, ?_⟩
                      · simp [u2_e, hk58]
                      · simp [u2_e]
                      · rw [u2_e, if_neg (by omega)]; exact ht58
                      · simpa [u2_e, hp] using hq58
                      · rw [u2_e, if_neg (by omega)]; rw [hS58 _ _ (by omega) (by omega)]; simp [u2_e]
                      · intro a j g1 g2 g3 g4; rw [u2_e, if_neg g3]; rw [hS58 a j g1 g2]; rw [u2_e, if_neg g4]
                      · intro k g1 g2 g3 g4 g5; rw [hV58 k g2 g5, uv_n (by omega), uv_n (by omega)]
                    · refine i_180_478 (x := Int32.ofInt mode) l6 ?_
                      refine i_180_480 ?_
                      refine i_180_481 (b_ne (a := mode) (b := 2) ⟨by omega, by omega⟩ ⟨by decide, by decide⟩ fun c58 => ?_) (b_eq (a := mode) (b := 2) ⟨by omega, by omega⟩ ⟨by decide, by decide⟩ fun c58 => ?_)
                      · refine i_180_489 (x := Int32.ofInt mode) l6 ?_
                        refine i_180_491 ?_
                        refine i_180_492 (b_ne (a := mode) (b := 3) ⟨by omega, by omega⟩ ⟨by decide, by decide⟩ fun c59 => ?_) (b_eq (a := mode) (b := 3) ⟨by omega, by omega⟩ ⟨by decide, by decide⟩ fun c59 => ?_)
                        · refine i_180_500 (x := Int32.ofInt mode) l6 ?_
                          refine i_180_502 (z_ne (a := mode) ⟨by omega, by omega⟩ fun c60 => ?_) (z_eq (a := mode) ⟨by omega, by omega⟩ fun c60 => ?_)
                          · refine i_180_514 ?_
                            refine i_180_515 rfl ?_
                            refine lgen1 (i := 16) (v := Value.int 0) (fun lv lg ls => ?_)
                            replace l15 := lg 15 _ rfl rfl l15
                            replace l14 := lg 14 _ rfl rfl l14
                            replace l0 := lg 0 _ rfl rfl l0
                            replace l1 := lg 1 _ rfl rfl l1
                            replace l2 := lg 2 _ rfl rfl l2
                            replace l4 := lg 4 _ rfl rfl l4
                            replace l5 := lg 5 _ rfl rfl l5
                            replace l6 := lg 6 _ rfl rfl l6
                            replace l7 := lg 7 _ rfl rfl l7
                            replace l8 := lg 8 _ rfl rfl l8
                            replace l9 := lg 9 _ rfl rfl l9
                            replace l13 := lg 13 _ rfl rfl l13
                            have l16 := ls
                            refine i_180_517 (x := 0) l16 ?_
                            refine i_180_519 (fun _ => ?_) (fun c => absurd c (by decide))
                            refine i_180_556 (x := 128) l0 ?_
                            refine i_180_557 (x := Int32.ofInt r) l1 ?_
                            refine i_180_558 ?_
                            refine i_180_559 (x := Int32.ofInt sg) l5 ?_
                            have hobj := hR.c128
                            obtain ⟨w, hrun, hR⟩ := s_special (d := d + 2) (r := r) (k := 2) (s := sg) hR (by omega) (by omega) (by omega)
                            refine i_180_561 hobj (Nat.le_of_ble_eq_true rfl) hrun ?_
                            refine i_180_564 rfl ?_
                            refine i_180_565 (x := 0) l16 ?_
                            refine i_180_567 (fun _ => ?_) (fun c => absurd c (by decide))
                            refine i_180_574 ?_
                            refine i_180_575 rfl ?_
                            refine lgen1 (i := 14) (v := Value.int (-1)) (fun lv lg ls => ?_)
                            replace l16 := lg 16 _ rfl rfl l16
                            replace l15 := lg 15 _ rfl rfl l15
                            replace l0 := lg 0 _ rfl rfl l0
                            replace l1 := lg 1 _ rfl rfl l1
                            replace l2 := lg 2 _ rfl rfl l2
                            replace l4 := lg 4 _ rfl rfl l4
                            replace l5 := lg 5 _ rfl rfl l5
                            replace l6 := lg 6 _ rfl rfl l6
                            replace l7 := lg 7 _ rfl rfl l7
                            replace l8 := lg 8 _ rfl rfl l8
                            replace l9 := lg 9 _ rfl rfl l9
                            replace l13 := lg 13 _ rfl rfl l13
                            have l14 := ls
                            refine i_180_577 ?_
                            have eo : rD p (S 128 17) (S 128 18) (S 128 20) (S 128 21) sg mode x more (V h) q u way (S 128 19) = (2, 0, 0, (-1), zor (S 128 19) 4) := by unfold rD; rw [if_neg (by omega), if_neg (by omega), if_pos (by omega), if_neg (by simp [upU, away, *])]
                            refine k _ _ _ _ _ eo.symm l0 l5 l8 l14 hR ?_
                            refine ⟨by simp [u2_e], by simp [u2_e], ⟨fun h => absurd (show (2 : Int) = 3 from h) (by decide), fun _ => ⟨by simp [u2_e], by repeat rw [uv_n (by omega)]⟩⟩, by simp [u2_e], ?_, ?_⟩
                            · intro a j g1 g2 g3 g4; simp [u2_e, g1, g3, g4]
                            · intro k g1 g2 g3 g4 g5; rw [uv_n (by omega)]
                          · refine i_180_505 (x := 0) l15 ?_
                            refine i_180_507 (fun _ => ?_) (fun c => absurd c (by decide))
                            refine i_180_514 ?_
                            refine i_180_515 rfl ?_
                            refine lgen1 (i := 16) (v := Value.int 0) (fun lv lg ls => ?_)
                            replace l15 := lg 15 _ rfl rfl l15
                            replace l14 := lg 14 _ rfl rfl l14
                            replace l0 := lg 0 _ rfl rfl l0
                            replace l1 := lg 1 _ rfl rfl l1
                            replace l2 := lg 2 _ rfl rfl l2
                            replace l4 := lg 4 _ rfl rfl l4
                            replace l5 := lg 5 _ rfl rfl l5
                            replace l6 := lg 6 _ rfl rfl l6
                            replace l7 := lg 7 _ rfl rfl l7
                            replace l8 := lg 8 _ rfl rfl l8
                            replace l9 := lg 9 _ rfl rfl l9
                            replace l13 := lg 13 _ rfl rfl l13
                            have l16 := ls
                            refine i_180_517 (x := 0) l16 ?_
                            refine i_180_519 (fun _ => ?_) (fun c => absurd c (by decide))
                            refine i_180_556 (x := 128) l0 ?_
                            refine i_180_557 (x := Int32.ofInt r) l1 ?_
                            refine i_180_558 ?_
                            refine i_180_559 (x := Int32.ofInt sg) l5 ?_
                            have hobj := hR.c128
                            obtain ⟨w, hrun, hR⟩ := s_special (d := d + 2) (r := r) (k := 2) (s := sg) hR (by omega) (by omega) (by omega)
                            refine i_180_561 hobj (Nat.le_of_ble_eq_true rfl) hrun ?_
                            refine i_180_564 rfl ?_
                            refine i_180_565 (x := 0) l16 ?_
                            refine i_180_567 (fun _ => ?_) (fun c => absurd c (by decide))
                            refine i_180_574 ?_
                            refine i_180_575 rfl ?_
                            refine lgen1 (i := 14) (v := Value.int (-1)) (fun lv lg ls => ?_)
                            replace l16 := lg 16 _ rfl rfl l16
                            replace l15 := lg 15 _ rfl rfl l15
                            replace l0 := lg 0 _ rfl rfl l0
                            replace l1 := lg 1 _ rfl rfl l1
                            replace l2 := lg 2 _ rfl rfl l2
                            replace l4 := lg 4 _ rfl rfl l4
                            replace l5 := lg 5 _ rfl rfl l5
                            replace l6 := lg 6 _ rfl rfl l6
                            replace l7 := lg 7 _ rfl rfl l7
                            replace l8 := lg 8 _ rfl rfl l8
                            replace l9 := lg 9 _ rfl rfl l9
                            replace l13 := lg 13 _ rfl rfl l13
                            have l14 := ls
                            refine i_180_577 ?_
                            have eo : rD p (S 128 17) (S 128 18) (S 128 20) (S 128 21) sg mode x more (V h) q u way (S 128 19) = (2, 0, 0, (-1), zor (S 128 19) 4) := by unfold rD; rw [if_neg (by omega), if_neg (by omega), if_pos (by omega), if_neg (by simp [upU, away, *])]
                            refine k _ _ _ _ _ eo.symm l0 l5 l8 l14 hR ?_
                            refine ⟨by simp [u2_e], by simp [u2_e], ⟨fun h => absurd (show (2 : Int) = 3 from h) (by decide), fun _ => ⟨by simp [u2_e], by repeat rw [uv_n (by omega)]⟩⟩, by simp [u2_e], ?_, ?_⟩
                            · intro a j g1 g2 g3 g4; simp [u2_e, g1, g3, g4]
                            · intro k g1 g2 g3 g4 g5; rw [uv_n (by omega)]
                        · refine i_180_495 (x := Int32.ofInt sg) l5 ?_
                          refine i_180_497 (z_ne (a := sg) ⟨by omega, by omega⟩ fun c61 => ?_) (z_eq (a := sg) ⟨by omega, by omega⟩ fun c61 => ?_)
                          · refine i_180_510 ?_
                            refine i_180_511 ?_
                            refine i_180_515 rfl ?_
                            refine lgen1 (i := 16) (v := Value.int 1) (fun lv lg ls => ?_)
                            replace l15 := lg 15 _ rfl rfl l15
                            replace l14 := lg 14 _ rfl rfl l14
                            replace l0 := lg 0 _ rfl rfl l0
                            replace l1 := lg 1 _ rfl rfl l1
                            replace l2 := lg 2 _ rfl rfl l2
                            replace l4 := lg 4 _ rfl rfl l4
                            replace l5 := lg 5 _ rfl rfl l5
                            replace l6 := lg 6 _ rfl rfl l6
                            replace l7 := lg 7 _ rfl rfl l7
                            replace l8 := lg 8 _ rfl rfl l8
                            replace l9 := lg 9 _ rfl rfl l9
                            replace l13 := lg 13 _ rfl rfl l13
                            have l16 := ls
                            refine i_180_517 (x := 1) l16 ?_
                            refine i_180_519 (fun c => absurd c (by decide)) (fun _ => ?_)
                            refine i_180_522 (x := 128) l0 ?_
                            refine i_180_523 (v := Value.ref 151) hR.c128 rfl ?_
                            refine i_180_526 ?_
                            obtain ⟨fs, hobj⟩ := hR.obj (h := 151) (iNw (h := 151) (by decide) (by decide) (by decide))
                            obtain ⟨w, hrun, hR⟩ := r_setl (d := d + 1) (x := (1 : Int64)) (v := 1) hR (iNw (h := 151) (by decide) (by decide) (by decide)) rfl
                            refine i_180_527 hobj (Nat.le_of_ble_eq_true rfl) hrun ?_
                            refine i_180_530 (x := 128) l0 ?_
                            refine i_180_531 (x := Int32.ofInt r) l1 ?_
                            refine i_180_532 (x := 128) l0 ?_
                            refine i_180_533 (v := Value.ref 151) hR.c128 rfl ?_
                            refine i_180_536 (x := 128) l0 ?_
                            refine i_180_537 (v := Value.int (Int32.ofInt (S 128 17))) hR.c128 rfl ?_
                            refine i_180_540 ?_
                            refine i_180_541 (c := Int32.ofInt ((S 128 17) - 1)) (o_sub (S 128 17) 1) ?_
                            have hobj := hR.c128
                            obtain ⟨w, hrun, S63, V63, hR, hk63, ht63, hq63, hS63, hV63⟩ := s_put (d := d) (h := 151) (r := r) (e := (S 128 17) - 1) hR (iNw (h := 151) (by decide) (by decide) (by decide)) (by omega) (by omega) (by omega) (by omega) (by simpa [u2_e] using p0) (by simpa [u2_e] using p1) (by rw [show (uv (uv V 135 q) 151 1) 151 = 1 from uv_s]; decide) (by rw [show (uv (uv V 135 q) 151 1) 151 = 1 from uv_s]; decide)
                            rw [show (uv (uv V 135 q) 151 1) 151 = 1 from uv_s] at ht63 hq63
                            refine i_180_542 hobj (Nat.le_of_ble_eq_true rfl) hrun ?_
                            refine i_180_545 (x := 128) l0 ?_
                            refine i_180_546 (v := Value.ref 156) hR.c128 rfl ?_
                            refine i_180_549 (x := Int32.ofInt r) l1 ?_
                            refine i_180_550 (x := Int32.ofInt sg) l5 ?_
                            refine i_180_552z (v := Value.int (Int32.ofInt sg)) (hR.row a156) (ix0 (T := r) (by omega) (by omega)) (ix1 (T := r) (by omega) (by omega) (by omega)) (by decide) (nrb (by omega)) ?_
                            rw [ixn (T := r) (by omega) (by omega)]
                            refine xgen (P := mR w0 (u2 S63 156 ((r).toNat) sg) V63) (hR.arr a156 rfl) (fun w hR => ?_)
                            refine i_180_553 ?_
                            refine i_180_565 (x := 1) l16 ?_
                            refine i_180_567 (fun c => absurd c (by decide)) (fun _ => ?_)
                            refine i_180_570 ?_
                            refine i_180_571 ?_
                            refine i_180_575 rfl ?_
                            refine lgen1 (i := 14) (v := Value.int 1) (fun lv lg ls => ?_)
                            replace l16 := lg 16 _ rfl rfl l16
                            replace l15 := lg 15 _ rfl rfl l15
                            replace l0 := lg 0 _ rfl rfl l0
                            replace l1 := lg 1 _ rfl rfl l1
                            replace l2 := lg 2 _ rfl rfl l2
                            replace l4 := lg 4 _ rfl rfl l4
                            replace l5 := lg 5 _ rfl rfl l5
                            replace l6 := lg 6 _ rfl rfl l6
                            replace l7 := lg 7 _ rfl rfl l7
                            replace l8 := lg 8 _ rfl rfl l8
                            replace l9 := lg 9 _ rfl rfl l9
                            replace l13 := lg 13 _ rfl rfl l13
                            have l14 := ls
                            refine i_180_577 ?_
                            have eo : rD p (S 128 17) (S 128 18) (S 128 20) (S 128 21) sg mode x more (V h) q u way (S 128 19) = (3, (xbl 1 : Int) + ((S 128 17) - 1), nrm 1 p, 1, zor (S 128 19) 4) := by unfold rD; rw [if_neg (by omega), if_neg (by omega), if_pos (by omega), if_pos (by simp [upU, away, *])]
                            refine k _ _ _ _ _ eo.symm l0 l5 l8 l14 hR ?_
                            refine ⟨?_, ?_, ⟨fun _ => ⟨?_, ?_⟩, fun h => absurd rfl h⟩, ?_, ?_, ?_⟩
                            · simp [u2_e, hk63]
                            · simp [u2_e]
                            · rw [u2_e, if_neg (by omega)]; exact ht63
                            · simpa [u2_e, hp] using hq63
                            · rw [u2_e, if_neg (by omega)]; rw [hS63 _ _ (by omega) (by omega)]; simp [u2_e]
                            · intro a j g1 g2 g3 g4; rw [u2_e, if_neg g3]; rw [hS63 a j g1 g2]; rw [u2_e, if_neg g4]
                            · intro k g1 g2 g3 g4 g5; rw [hV63 k g2 g5, uv_n (by omega), uv_n (by omega)]
                          · refine i_180_500 (x := Int32.ofInt mode) l6 ?_
                            refine i_180_502 (z_ne (a := mode) ⟨by omega, by omega⟩ fun c63 => ?_) (z_eq (a := mode) ⟨by omega, by omega⟩ fun c63 => absurd c63 (by omega))
                            refine i_180_514 ?_
                            refine i_180_515 rfl ?_
                            refine lgen1 (i := 16) (v := Value.int 0) (fun lv lg ls => ?_)
                            replace l15 := lg 15 _ rfl rfl l15
                            replace l14 := lg 14 _ rfl rfl l14
                            replace l0 := lg 0 _ rfl rfl l0
                            replace l1 := lg 1 _ rfl rfl l1
                            replace l2 := lg 2 _ rfl rfl l2
                            replace l4 := lg 4 _ rfl rfl l4
                            replace l5 := lg 5 _ rfl rfl l5
                            replace l6 := lg 6 _ rfl rfl l6
                            replace l7 := lg 7 _ rfl rfl l7
                            replace l8 := lg 8 _ rfl rfl l8
                            replace l9 := lg 9 _ rfl rfl l9
                            replace l13 := lg 13 _ rfl rfl l13
                            have l16 := ls
                            refine i_180_517 (x := 0) l16 ?_
                            refine i_180_519 (fun _ => ?_) (fun c => absurd c (by decide))
                            refine i_180_556 (x := 128) l0 ?_
                            refine i_180_557 (x := Int32.ofInt r) l1 ?_
                            refine i_180_558 ?_
                            refine i_180_559 (x := Int32.ofInt sg) l5 ?_
                            have hobj := hR.c128
                            obtain ⟨w, hrun, hR⟩ := s_special (d := d + 2) (r := r) (k := 2) (s := sg) hR (by omega) (by omega) (by omega)
                            refine i_180_561 hobj (Nat.le_of_ble_eq_true rfl) hrun ?_
                            refine i_180_564 rfl ?_
                            refine i_180_565 (x := 0) l16 ?_
                            refine i_180_567 (fun _ => ?_) (fun c => absurd c (by decide))
                            refine i_180_574 ?_
                            refine i_180_575 rfl ?_
                            refine lgen1 (i := 14) (v := Value.int (-1)) (fun lv lg ls => ?_)
                            replace l16 := lg 16 _ rfl rfl l16
                            replace l15 := lg 15 _ rfl rfl l15
                            replace l0 := lg 0 _ rfl rfl l0
                            replace l1 := lg 1 _ rfl rfl l1
                            replace l2 := lg 2 _ rfl rfl l2
                            replace l4 := lg 4 _ rfl rfl l4
                            replace l5 := lg 5 _ rfl rfl l5
                            replace l6 := lg 6 _ rfl rfl l6
                            replace l7 := lg 7 _ rfl rfl l7
                            replace l8 := lg 8 _ rfl rfl l8
                            replace l9 := lg 9 _ rfl rfl l9
                            replace l13 := lg 13 _ rfl rfl l13
                            have l14 := ls
                            refine i_180_577 ?_
                            have eo : rD p (S 128 17) (S 128 18) (S 128 20) (S 128 21) sg mode x more (V h) q u way (S 128 19) = (2, 0, 0, (-1), zor (S 128 19) 4) := by unfold rD; rw [if_neg (by omega), if_neg (by omega), if_pos (by omega), if_neg (by simp [upU, away, *])]
                            refine k _ _ _ _ _ eo.symm l0 l5 l8 l14 hR ?_
                            refine ⟨by simp [u2_e], by simp [u2_e], ⟨fun h => absurd (show (2 : Int) = 3 from h) (by decide), fun _ => ⟨by simp [u2_e], by repeat rw [uv_n (by omega)]⟩⟩, by simp [u2_e], ?_, ?_⟩
                            · intro a j g1 g2 g3 g4; simp [u2_e, g1, g3, g4]
                            · intro k g1 g2 g3 g4 g5; rw [uv_n (by omega)]
                      · refine i_180_484 (x := Int32.ofInt sg) l5 ?_
                        refine i_180_486 (z_eq (a := sg) ⟨by omega, by omega⟩ fun c64 => ?_) (z_ne (a := sg) ⟨by omega, by omega⟩ fun c64 => ?_)
                        · refine i_180_510 ?_
                          refine i_180_511 ?_
                          refine i_180_515 rfl ?_
                          refine lgen1 (i := 16) (v := Value.int 1) (fun lv lg ls => ?_)
                          replace l15 := lg 15 _ rfl rfl l15
                          replace l14 := lg 14 _ rfl rfl l14
                          replace l0 := lg 0 _ rfl rfl l0
                          replace l1 := lg 1 _ rfl rfl l1
                          replace l2 := lg 2 _ rfl rfl l2
                          replace l4 := lg 4 _ rfl rfl l4
                          replace l5 := lg 5 _ rfl rfl l5
                          replace l6 := lg 6 _ rfl rfl l6
                          replace l7 := lg 7 _ rfl rfl l7
                          replace l8 := lg 8 _ rfl rfl l8
                          replace l9 := lg 9 _ rfl rfl l9
                          replace l13 := lg 13 _ rfl rfl l13
                          have l16 := ls
                          refine i_180_517 (x := 1) l16 ?_
                          refine i_180_519 (fun c => absurd c (by decide)) (fun _ => ?_)
                          refine i_180_522 (x := 128) l0 ?_
                          refine i_180_523 (v := Value.ref 151) hR.c128 rfl ?_
                          refine i_180_526 ?_
                          obtain ⟨fs, hobj⟩ := hR.obj (h := 151) (iNw (h := 151) (by decide) (by decide) (by decide))
                          obtain ⟨w, hrun, hR⟩ := r_setl (d := d + 1) (x := (1 : Int64)) (v := 1) hR (iNw (h := 151) (by decide) (by decide) (by decide)) rfl
                          refine i_180_527 hobj (Nat.le_of_ble_eq_true rfl) hrun ?_
                          refine i_180_530 (x := 128) l0 ?_
                          refine i_180_531 (x := Int32.ofInt r) l1 ?_
                          refine i_180_532 (x := 128) l0 ?_
                          refine i_180_533 (v := Value.ref 151) hR.c128 rfl ?_
                          refine i_180_536 (x := 128) l0 ?_
                          refine i_180_537 (v := Value.int (Int32.ofInt (S 128 17))) hR.c128 rfl ?_
                          refine i_180_540 ?_
                          refine i_180_541 (c := Int32.ofInt ((S 128 17) - 1)) (o_sub (S 128 17) 1) ?_
                          have hobj := hR.c128
                          obtain ⟨w, hrun, S66, V66, hR, hk66, ht66, hq66, hS66, hV66⟩ := s_put (d := d) (h := 151) (r := r) (e := (S 128 17) - 1) hR (iNw (h := 151) (by decide) (by decide) (by decide)) (by omega) (by omega) (by omega) (by omega) (by simpa [u2_e] using p0) (by simpa [u2_e] using p1) (by rw [show (uv (uv V 135 q) 151 1) 151 = 1 from uv_s]; decide) (by rw [show (uv (uv V 135 q) 151 1) 151 = 1 from uv_s]; decide)
                          rw [show (uv (uv V 135 q) 151 1) 151 = 1 from uv_s] at ht66 hq66
                          refine i_180_542 hobj (Nat.le_of_ble_eq_true rfl) hrun ?_
                          refine i_180_545 (x := 128) l0 ?_
                          refine i_180_546 (v := Value.ref 156) hR.c128 rfl ?_
                          refine i_180_549 (x := Int32.ofInt r) l1 ?_
                          refine i_180_550 (x := Int32.ofInt sg) l5 ?_
                          refine i_180_552z (v := Value.int (Int32.ofInt sg)) (hR.row a156) (ix0 (T := r) (by omega) (by omega)) (ix1 (T := r) (by omega) (by omega) (by omega)) (by decide) (nrb (by omega)) ?_
                          rw [ixn (T := r) (by omega) (by omega)]
                          refine xgen (P := mR w0 (u2 S66 156 ((r).toNat) sg) V66) (hR.arr a156 rfl) (fun w hR => ?_)
                          refine i_180_553 ?_
                          refine i_180_565 (x := 1) l16 ?_
                          refine i_180_567 (fun c => absurd c (by decide)) (fun _ => ?_)
                          refine i_180_570 ?_
                          refine i_180_571 ?_
                          refine i_180_575 rfl ?_
                          refine lgen1 (i := 14) (v := Value.int 1) (fun lv lg ls => ?_)
                          replace l16 := lg 16 _ rfl rfl l16
                          replace l15 := lg 15 _ rfl rfl l15
                          replace l0 := lg 0 _ rfl rfl l0
                          replace l1 := lg 1 _ rfl rfl l1
                          replace l2 := lg 2 _ rfl rfl l2
                          replace l4 := lg 4 _ rfl rfl l4
                          replace l5 := lg 5 _ rfl rfl l5
                          replace l6 := lg 6 _ rfl rfl l6
                          replace l7 := lg 7 _ rfl rfl l7
                          replace l8 := lg 8 _ rfl rfl l8
                          replace l9 := lg 9 _ rfl rfl l9
                          replace l13 := lg 13 _ rfl rfl l13
                          have l14 := ls
                          refine i_180_577 ?_
                          have eo : rD p (S 128 17) (S 128 18) (S 128 20) (S 128 21) sg mode x more (V h) q u way (S 128 19) = (3, (xbl 1 : Int) + ((S 128 17) - 1), nrm 1 p, 1, zor (S 128 19) 4) := by unfold rD; rw [if_neg (by omega), if_neg (by omega), if_pos (by omega), if_pos (by simp [upU, away, *])]
                          refine k _ _ _ _ _ eo.symm l0 l5 l8 l14 hR ?_
                          refine ⟨?_, ?_, ⟨fun _ => ⟨?_, ?_⟩, fun h => absurd rfl h⟩, ?_, ?_, ?_⟩
                          · simp [u2_e, hk66]
                          · simp [u2_e]
                          · rw [u2_e, if_neg (by omega)]; exact ht66
                          · simpa [u2_e, hp] using hq66
                          · rw [u2_e, if_neg (by omega)]; rw [hS66 _ _ (by omega) (by omega)]; simp [u2_e]
                          · intro a j g1 g2 g3 g4; rw [u2_e, if_neg g3]; rw [hS66 a j g1 g2]; rw [u2_e, if_neg g4]
                          · intro k g1 g2 g3 g4 g5; rw [hV66 k g2 g5, uv_n (by omega), uv_n (by omega)]
                        · refine i_180_489 (x := Int32.ofInt mode) l6 ?_
                          refine i_180_491 ?_
                          refine i_180_492 (b_ne (a := mode) (b := 3) ⟨by omega, by omega⟩ ⟨by decide, by decide⟩ fun c66 => ?_) (b_eq (a := mode) (b := 3) ⟨by omega, by omega⟩ ⟨by decide, by decide⟩ fun c66 => absurd c66 (by omega))
                          refine i_180_500 (x := Int32.ofInt mode) l6 ?_
                          refine i_180_502 (z_ne (a := mode) ⟨by omega, by omega⟩ fun c67 => ?_) (z_eq (a := mode) ⟨by omega, by omega⟩ fun c67 => absurd c67 (by omega))
                          refine i_180_514 ?_
                          refine i_180_515 rfl ?_
                          refine lgen1 (i := 16) (v := Value.int 0) (fun lv lg ls => ?_)
                          replace l15 := lg 15 _ rfl rfl l15
                          replace l14 := lg 14 _ rfl rfl l14
                          replace l0 := lg 0 _ rfl rfl l0
                          replace l1 := lg 1 _ rfl rfl l1
                          replace l2 := lg 2 _ rfl rfl l2
                          replace l4 := lg 4 _ rfl rfl l4
                          replace l5 := lg 5 _ rfl rfl l5
                          replace l6 := lg 6 _ rfl rfl l6
                          replace l7 := lg 7 _ rfl rfl l7
                          replace l8 := lg 8 _ rfl rfl l8
                          replace l9 := lg 9 _ rfl rfl l9
                          replace l13 := lg 13 _ rfl rfl l13
                          have l16 := ls
                          refine i_180_517 (x := 0) l16 ?_
                          refine i_180_519 (fun _ => ?_) (fun c => absurd c (by decide))
                          refine i_180_556 (x := 128) l0 ?_
                          refine i_180_557 (x := Int32.ofInt r) l1 ?_
                          refine i_180_558 ?_
                          refine i_180_559 (x := Int32.ofInt sg) l5 ?_
                          have hobj := hR.c128
                          obtain ⟨w, hrun, hR⟩ := s_special (d := d + 2) (r := r) (k := 2) (s := sg) hR (by omega) (by omega) (by omega)
                          refine i_180_561 hobj (Nat.le_of_ble_eq_true rfl) hrun ?_
                          refine i_180_564 rfl ?_
                          refine i_180_565 (x := 0) l16 ?_
                          refine i_180_567 (fun _ => ?_) (fun c => absurd c (by decide))
                          refine i_180_574 ?_
                          refine i_180_575 rfl ?_
                          refine lgen1 (i := 14) (v := Value.int (-1)) (fun lv lg ls => ?_)
                          replace l16 := lg 16 _ rfl rfl l16
                          replace l15 := lg 15 _ rfl rfl l15
                          replace l0 := lg 0 _ rfl rfl l0
                          replace l1 := lg 1 _ rfl rfl l1
                          replace l2 := lg 2 _ rfl rfl l2
                          replace l4 := lg 4 _ rfl rfl l4
                          replace l5 := lg 5 _ rfl rfl l5
                          replace l6 := lg 6 _ rfl rfl l6
                          replace l7 := lg 7 _ rfl rfl l7
                          replace l8 := lg 8 _ rfl rfl l8
                          replace l9 := lg 9 _ rfl rfl l9
                          replace l13 := lg 13 _ rfl rfl l13
                          have l14 := ls
                          refine i_180_577 ?_
                          have eo : rD p (S 128 17) (S 128 18) (S 128 20) (S 128 21) sg mode x more (V h) q u way (S 128 19) = (2, 0, 0, (-1), zor (S 128 19) 4) := by unfold rD; rw [if_neg (by omega), if_neg (by omega), if_pos (by omega), if_neg (by simp [upU, away, *])]
                          refine k _ _ _ _ _ eo.symm l0 l5 l8 l14 hR ?_
                          refine ⟨by simp [u2_e], by simp [u2_e], ⟨fun h => absurd (show (2 : Int) = 3 from h) (by decide), fun _ => ⟨by simp [u2_e], by repeat rw [uv_n (by omega)]⟩⟩, by simp [u2_e], ?_, ?_⟩
                          · intro a j g1 g2 g3 g4; simp [u2_e, g1, g3, g4]
                          · intro k g1 g2 g3 g4 g5; rw [uv_n (by omega)]
                  · refine i_180_465 ?_
                    refine i_180_466 ?_
                    refine i_180_470 rfl ?_
                    refine lgen1 (i := 15) (v := Value.int 1) (fun lv lg ls => ?_)
                    replace l14 := lg 14 _ rfl rfl l14
                    replace l0 := lg 0 _ rfl rfl l0
                    replace l1 := lg 1 _ rfl rfl l1
                    replace l2 := lg 2 _ rfl rfl l2
                    replace l4 := lg 4 _ rfl rfl l4
                    replace l5 := lg 5 _ rfl rfl l5
                    replace l6 := lg 6 _ rfl rfl l6
                    replace l7 := lg 7 _ rfl rfl l7
                    replace l8 := lg 8 _ rfl rfl l8
                    replace l9 := lg 9 _ rfl rfl l9
                    replace l13 := lg 13 _ rfl rfl l13
                    have l15 := ls
                    refine i_180_472 (x := Int32.ofInt mode) l6 ?_
                    refine i_180_474 ?_
                    refine i_180_475 (b_eq (a := mode) (b := 4) ⟨by omega, by omega⟩ ⟨by decide, by decide⟩ fun c68 => ?_) (b_ne (a := mode) (b := 4) ⟨by omega, by omega⟩ ⟨by decide, by decide⟩ fun c68 => ?_)
                    · refine i_180_510 ?_
                      refine i_180_511 ?_
                      refine i_180_515 rfl ?_
                      refine lgen1 (i := 16) (v := Value.int 1) (fun lv lg ls => ?_)
                      replace l15 := lg 15 _ rfl rfl l15
                      replace l14 := lg 14 _ rfl rfl l14
                      replace l0 := lg 0 _ rfl rfl l0
                      replace l1 := lg 1 _ rfl rfl l1
                      replace l2 := lg 2 _ rfl rfl l2
                      replace l4 := lg 4 _ rfl rfl l4
                      replace l5 := lg 5 _ rfl rfl l5
                      replace l6 := lg 6 _ rfl rfl l6
                      replace l7 := lg 7 _ rfl rfl l7
                      replace l8 := lg 8 _ rfl rfl l8
                      replace l9 := lg 9 _ rfl rfl l9
                      replace l13 := lg 13 _ rfl rfl l13
                      have l16 := ls
                      refine i_180_517 (x := 1) l16 ?_
                      refine i_180_519 (fun c => absurd c (by decide)) (fun _ => ?_)
                      refine i_180_522 (x := 128) l0 ?_
                      refine i_180_523 (v := Value.ref 151) hR.c128 rfl ?_
                      refine i_180_526 ?_
                      obtain ⟨fs, hobj⟩ := hR.obj (h := 151) (iNw (h := 151) (by decide) (by decide) (by decide))
                      obtain ⟨w, hrun, hR⟩ := r_setl (d := d + 1) (x := (1 : Int64)) (v := 1) hR (iNw (h := 151) (by decide) (by decide) (by decide)) rfl
                      refine i_180_527 hobj (Nat.le_of_ble_eq_true rfl) hrun ?_
                      refine i_180_530 (x := 128) l0 ?_
                      refine i_180_531 (x := Int32.ofInt r) l1 ?_
                      refine i_180_532 (x := 128) l0 ?_
                      refine i_180_533 (v := Value.ref 151) hR.c128 rfl ?_
                      refine i_180_536 (x := 128) l0 ?_
                      refine i_180_537 (v := Value.int (Int32.ofInt (S 128 17))) hR.c128 rfl ?_
                      refine i_180_540 ?_
                      refine i_180_541 (c := Int32.ofInt ((S 128 17) - 1)) (o_sub (S 128 17) 1) ?_
                      have hobj := hR.c128
                      obtain ⟨w, hrun, S70, V70, hR, hk70, ht70, hq70, hS70, hV70⟩ := s_put (d := d) (h := 151) (r := r) (e := (S 128 17) - 1) hR (iNw (h := 151) (by decide) (by decide) (by decide)) (by omega) (by omega) (by omega) (by omega) (by simpa [u2_e] using p0) (by simpa [u2_e] using p1) (by rw [show (uv (uv V 135 q) 151 1) 151 = 1 from uv_s]; decide) (by rw [show (uv (uv V 135 q) 151 1) 151 = 1 from uv_s]; decide)
                      rw [show (uv (uv V 135 q) 151 1) 151 = 1 from uv_s] at ht70 hq70
                      refine i_180_542 hobj (Nat.le_of_ble_eq_true rfl) hrun ?_
                      refine i_180_545 (x := 128) l0 ?_
                      refine i_180_546 (v := Value.ref 156) hR.c128 rfl ?_
                      refine i_180_549 (x := Int32.ofInt r) l1 ?_
                      refine i_180_550 (x := Int32.ofInt sg) l5 ?_
                      refine i_180_552z (v := Value.int (Int32.ofInt sg)) (hR.row a156) (ix0 (T := r) (by omega) (by omega)) (ix1 (T := r) (by omega) (by omega) (by omega)) (by decide) (nrb (by omega)) ?_
                      rw [ixn (T := r) (by omega) (by omega)]
                      refine xgen (P := mR w0 (u2 S70 156 ((r).toNat) sg) V70) (hR.arr a156 rfl) (fun w hR => ?_)
                      refine i_180_553 ?_
                      refine i_180_565 (x := 1) l16 ?_
                      refine i_180_567 (fun c => absurd c (by decide)) (fun _ => ?_)
                      refine i_180_570 ?_
                      refine i_180_571 ?_
                      refine i_180_575 rfl ?_
                      refine lgen1 (i := 14) (v := Value.int 1) (fun lv lg ls => ?_)
                      replace l16 := lg 16 _ rfl rfl l16
                      replace l15 := lg 15 _ rfl rfl l15
                      replace l0 := lg 0 _ rfl rfl l0
                      replace l1 := lg 1 _ rfl rfl l1
                      replace l2 := lg 2 _ rfl rfl l2
                      replace l4 := lg 4 _ rfl rfl l4
                      replace l5 := lg 5 _ rfl rfl l5
                      replace l6 := lg 6 _ rfl rfl l6
                      replace l7 := lg 7 _ rfl rfl l7
                      replace l8 := lg 8 _ rfl rfl l8
                      replace l9 := lg 9 _ rfl rfl l9
                      replace l13 := lg 13 _ rfl rfl l13
                      have l14 := ls
                      refine i_180_577 ?_
                      have eo : rD p (S 128 17) (S 128 18) (S 128 20) (S 128 21) sg mode x more (V h) q u way (S 128 19) = (3, (xbl 1 : Int) + ((S 128 17) - 1), nrm 1 p, 1, zor (S 128 19) 4) := by unfold rD; rw [if_neg (by omega), if_neg (by omega), if_pos (by omega), if_pos (by simp [upU, away, *])]
                      refine k _ _ _ _ _ eo.symm l0 l5 l8 l14 hR ?_
                      refine ⟨?_, ?_, ⟨fun _ => ⟨?_, ?_⟩, fun h => absurd rfl h⟩, ?_, ?_, ?_⟩
                      · simp [u2_e, hk70]
                      · simp [u2_e]
                      · rw [u2_e, if_neg (by omega)]; exact ht70
                      · simpa [u2_e, hp] using hq70
                      · rw [u2_e, if_neg (by omega)]; rw [hS70 _ _ (by omega) (by omega)]; simp [u2_e]
                      · intro a j g1 g2 g3 g4; rw [u2_e, if_neg g3]; rw [hS70 a j g1 g2]; rw [u2_e, if_neg g4]
                      · intro k g1 g2 g3 g4 g5; rw [hV70 k g2 g5, uv_n (by omega), uv_n (by omega)]
                    · refine i_180_478 (x := Int32.ofInt mode) l6 ?_
                      refine i_180_480 ?_
                      refine i_180_481 (b_ne (a := mode) (b := 2) ⟨by omega, by omega⟩ ⟨by decide, by decide⟩ fun c70 => ?_) (b_eq (a := mode) (b := 2) ⟨by omega, by omega⟩ ⟨by decide, by decide⟩ fun c70 => ?_)
                      · refine i_180_489 (x := Int32.ofInt mode) l6 ?_
                        refine i_180_491 ?_
                        refine i_180_492 (b_ne (a := mode) (b := 3) ⟨by omega, by omega⟩ ⟨by decide, by decide⟩ fun c71 => ?_) (b_eq (a := mode) (b := 3) ⟨by omega, by omega⟩ ⟨by decide, by decide⟩ fun c71 => ?_)
                        · refine i_180_500 (x := Int32.ofInt mode) l6 ?_
                          refine i_180_502 (z_ne (a := mode) ⟨by omega, by omega⟩ fun c72 => ?_) (z_eq (a := mode) ⟨by omega, by omega⟩ fun c72 => ?_)
                          · refine i_180_514 ?_
                            refine i_180_515 rfl ?_
                            refine lgen1 (i := 16) (v := Value.int 0) (fun lv lg ls => ?_)
                            replace l15 := lg 15 _ rfl rfl l15
                            replace l14 := lg 14 _ rfl rfl l14
                            replace l0 := lg 0 _ rfl rfl l0
                            replace l1 := lg 1 _ rfl rfl l1
                            replace l2 := lg 2 _ rfl rfl l2
                            replace l4 := lg 4 _ rfl rfl l4
                            replace l5 := lg 5 _ rfl rfl l5
                            replace l6 := lg 6 _ rfl rfl l6
                            replace l7 := lg 7 _ rfl rfl l7
                            replace l8 := lg 8 _ rfl rfl l8
                            replace l9 := lg 9 _ rfl rfl l9
                            replace l13 := lg 13 _ rfl rfl l13
                            have l16 := ls
                            refine i_180_517 (x := 0) l16 ?_
                            refine i_180_519 (fun _ => ?_) (fun c => absurd c (by decide))
                            refine i_180_556 (x := 128) l0 ?_
                            refine i_180_557 (x := Int32.ofInt r) l1 ?_
                            refine i_180_558 ?_
                            refine i_180_559 (x := Int32.ofInt sg) l5 ?_
                            have hobj := hR.c128
                            obtain ⟨w, hrun, hR⟩ := s_special (d := d + 2) (r := r) (k := 2) (s := sg) hR (by omega) (by omega) (by omega)
                            refine i_180_561 hobj (Nat.le_of_ble_eq_true rfl) hrun ?_
                            refine i_180_564 rfl ?_
                            refine i_180_565 (x := 0) l16 ?_
                            refine i_180_567 (fun _ => ?_) (fun c => absurd c (by decide))
                            refine i_180_574 ?_
                            refine i_180_575 rfl ?_
                            refine lgen1 (i := 14) (v := Value.int (-1)) (fun lv lg ls => ?_)
                            replace l16 := lg 16 _ rfl rfl l16
                            replace l15 := lg 15 _ rfl rfl l15
                            replace l0 := lg 0 _ rfl rfl l0
                            replace l1 := lg 1 _ rfl rfl l1
                            replace l2 := lg 2 _ rfl rfl l2
                            replace l4 := lg 4 _ rfl rfl l4
                            replace l5 := lg 5 _ rfl rfl l5
                            replace l6 := lg 6 _ rfl rfl l6
                            replace l7 := lg 7 _ rfl rfl l7
                            replace l8 := lg 8 _ rfl rfl l8
                            replace l9 := lg 9 _ rfl rfl l9
                            replace l13 := lg 13 _ rfl rfl l13
                            have l14 := ls
                            refine i_180_577 ?_
                            have eo : rD p (S 128 17) (S 128 18) (S 128 20) (S 128 21) sg mode x more (V h) q u way (S 128 19) = (2, 0, 0, (-1), zor (S 128 19) 4) := by unfold rD; rw [if_neg (by omega), if_neg (by omega), if_pos (by omega), if_neg (by simp [upU, away, *])]
                            refine k _ _ _ _ _ eo.symm l0 l5 l8 l14 hR ?_
                            refine ⟨by simp [u2_e], by simp [u2_e], ⟨fun h => absurd (show (2 : Int) = 3 from h) (by decide), fun _ => ⟨by simp [u2_e], by repeat rw [uv_n (by omega)]⟩⟩, by simp [u2_e], ?_, ?_⟩
                            · intro a j g1 g2 g3 g4; simp [u2_e, g1, g3, g4]
                            · intro k g1 g2 g3 g4 g5; rw [uv_n (by omega)]
                          · refine i_180_505 (x := 1) l15 ?_
                            refine i_180_507 (fun c => absurd c (by decide)) (fun _ => ?_)
                            refine i_180_510 ?_
                            refine i_180_511 ?_
                            refine i_180_515 rfl ?_
                            refine lgen1 (i := 16) (v := Value.int 1) (fun lv lg ls => ?_)
                            replace l15 := lg 15 _ rfl rfl l15
                            replace l14 := lg 14 _ rfl rfl l14
                            replace l0 := lg 0 _ rfl rfl l0
                            replace l1 := lg 1 _ rfl rfl l1
                            replace l2 := lg 2 _ rfl rfl l2
                            replace l4 := lg 4 _ rfl rfl l4
                            replace l5 := lg 5 _ rfl rfl l5
                            replace l6 := lg 6 _ rfl rfl l6
                            replace l7 := lg 7 _ rfl rfl l7
                            replace l8 := lg 8 _ rfl rfl l8
                            replace l9 := lg 9 _ rfl rfl l9
                            replace l13 := lg 13 _ rfl rfl l13
                            have l16 := ls
                            refine i_180_517 (x := 1) l16 ?_
                            refine i_180_519 (fun c => absurd c (by decide)) (fun _ => ?_)
                            refine i_180_522 (x := 128) l0 ?_
                            refine i_180_523 (v := Value.ref 151) hR.c128 rfl ?_
                            refine i_180_526 ?_
                            obtain ⟨fs, hobj⟩ := hR.obj (h := 151) (iNw (h := 151) (by decide) (by decide) (by decide))
                            obtain ⟨w, hrun, hR⟩ := r_setl (d := d + 1) (x := (1 : Int64)) (v := 1) hR (iNw (h := 151) (by decide) (by decide) (by decide)) rfl
                            refine i_180_527 hobj (Nat.le_of_ble_eq_true rfl) hrun ?_
                            refine i_180_530 (x := 128) l0 ?_
                            refine i_180_531 (x := Int32.ofInt r) l1 ?_
                            refine i_180_532 (x := 128) l0 ?_
                            refine i_180_533 (v := Value.ref 151) hR.c128 rfl ?_
                            refine i_180_536 (x := 128) l0 ?_
                            refine i_180_537 (v := Value.int (Int32.ofInt (S 128 17))) hR.c128 rfl ?_
                            refine i_180_540 ?_
                            refine i_180_541 (c := Int32.ofInt ((S 128 17) - 1)) (o_sub (S 128 17) 1) ?_
                            have hobj := hR.c128
                            obtain ⟨w, hrun, S74, V74, hR, hk74, ht74, hq74, hS74, hV74⟩ := s_put (d := d) (h := 151) (r := r) (e := (S 128 17) - 1) hR (iNw (h := 151) (by decide) (by decide) (by decide)) (by omega) (by omega) (by omega) (by omega) (by simpa [u2_e] using p0) (by simpa [u2_e] using p1) (by rw [show (uv (uv V 135 q) 151 1) 151 = 1 from uv_s]; decide) (by rw [show (uv (uv V 135 q) 151 1) 151 = 1 from uv_s]; decide)
                            rw [show (uv (uv V 135 q) 151 1) 151 = 1 from uv_s] at ht74 hq74
                            refine i_180_542 hobj (Nat.le_of_ble_eq_true rfl) hrun ?_
                            refine i_180_545 (x := 128) l0 ?_
                            refine i_180_546 (v := Value.ref 156) hR.c128 rfl ?_
                            refine i_180_549 (x := Int32.ofInt r) l1 ?_
                            refine i_180_550 (x := Int32.ofInt sg) l5 ?_
                            refine i_180_552z (v := Value.int (Int32.ofInt sg)) (hR.row a156) (ix0 (T := r) (by omega) (by omega)) (ix1 (T := r) (by omega) (by omega) (by omega)) (by decide) (nrb (by omega)) ?_
                            rw [ixn (T := r) (by omega) (by omega)]
                            refine xgen (P := mR w0 (u2 S74 156 ((r).toNat) sg) V74) (hR.arr a156 rfl) (fun w hR => ?_)
                            refine i_180_553 ?_
                            refine i_180_565 (x := 1) l16 ?_
                            refine i_180_567 (fun c => absurd c (by decide)) (fun _ => ?_)
                            refine i_180_570 ?_
                            refine i_180_571 ?_
                            refine i_180_575 rfl ?_
                            refine lgen1 (i := 14) (v := Value.int 1) (fun lv lg ls => ?_)
                            replace l16 := lg 16 _ rfl rfl l16
                            replace l15 := lg 15 _ rfl rfl l15
                            replace l0 := lg 0 _ rfl rfl l0
                            replace l1 := lg 1 _ rfl rfl l1
                            replace l2 := lg 2 _ rfl rfl l2
                            replace l4 := lg 4 _ rfl rfl l4
                            replace l5 := lg 5 _ rfl rfl l5
                            replace l6 := lg 6 _ rfl rfl l6
                            replace l7 := lg 7 _ rfl rfl l7
                            replace l8 := lg 8 _ rfl rfl l8
                            replace l9 := lg 9 _ rfl rfl l9
                            replace l13 := lg 13 _ rfl rfl l13
                            have l14 := ls
                            refine i_180_577 ?_
                            have eo : rD p (S 128 17) (S 128 18) (S 128 20) (S 128 21) sg mode x more (V h) q u way (S 128 19) = (3, (xbl 1 : Int) + ((S 128 17) - 1), nrm 1 p, 1, zor (S 128 19) 4) := by unfold rD; rw [if_neg (by omega), if_neg (by omega), if_pos (by omega), if_pos (by simp [upU, away, *])]
                            refine k _ _ _ _ _ eo.symm l0 l5 l8 l14 hR ?_
                            refine ⟨?_, ?_, ⟨fun _ => ⟨?_, ?_⟩, fun h => absurd rfl h⟩, ?_, ?_, ?_⟩
                            · simp [u2_e, hk74]
                            · simp [u2_e]
                            · rw [u2_e, if_neg (by omega)]; exact ht74
                            · simpa [u2_e, hp] using hq74
                            · rw [u2_e, if_neg (by omega)]; rw [hS74 _ _ (by omega) (by omega)]; simp [u2_e]
                            · intro a j g1 g2 g3 g4; rw [u2_e, if_neg g3]; rw [hS74 a j g1 g2]; rw [u2_e, if_neg g4]
                            · intro k g1 g2 g3 g4 g5; rw [hV74 k g2 g5, uv_n (by omega), uv_n (by omega)]
                        · refine i_180_495 (x := Int32.ofInt sg) l5 ?_
                          refine i_180_497 (z_ne (a := sg) ⟨by omega, by omega⟩ fun c74 => ?_) (z_eq (a := sg) ⟨by omega, by omega⟩ fun c74 => ?_)
                          · refine i_180_510 ?_
                            refine i_180_511 ?_
                            refine i_180_515 rfl ?_
                            refine lgen1 (i := 16) (v := Value.int 1) (fun lv lg ls => ?_)
                            replace l15 := lg 15 _ rfl rfl l15
                            replace l14 := lg 14 _ rfl rfl l14
                            replace l0 := lg 0 _ rfl rfl l0
                            replace l1 := lg 1 _ rfl rfl l1
                            replace l2 := lg 2 _ rfl rfl l2
                            replace l4 := lg 4 _ rfl rfl l4
                            replace l5 := lg 5 _ rfl rfl l5
                            replace l6 := lg 6 _ rfl rfl l6
                            replace l7 := lg 7 _ rfl rfl l7
                            replace l8 := lg 8 _ rfl rfl l8
                            replace l9 := lg 9 _ rfl rfl l9
                            replace l13 := lg 13 _ rfl rfl l13
                            have l16 := ls
                            refine i_180_517 (x := 1) l16 ?_
                            refine i_180_519 (fun c => absurd c (by decide)) (fun _ => ?_)
                            refine i_180_522 (x := 128) l0 ?_
                            refine i_180_523 (v := Value.ref 151) hR.c128 rfl ?_
                            refine i_180_526 ?_
                            obtain ⟨fs, hobj⟩ := hR.obj (h := 151) (iNw (h := 151) (by decide) (by decide) (by decide))
                            obtain ⟨w, hrun, hR⟩ := r_setl (d := d + 1) (x := (1 : Int64)) (v := 1) hR (iNw (h := 151) (by decide) (by decide) (by decide)) rfl
                            refine i_180_527 hobj (Nat.le_of_ble_eq_true rfl) hrun ?_
                            refine i_180_530 (x := 128) l0 ?_
                            refine i_180_531 (x := Int32.ofInt r) l1 ?_
                            refine i_180_532 (x := 128) l0 ?_
                            refine i_180_533 (v := Value.ref 151) hR.c128 rfl ?_
                            refine i_180_536 (x := 128) l0 ?_
                            refine i_180_537 (v := Value.int (Int32.ofInt (S 128 17))) hR.c128 rfl ?_
                            refine i_180_540 ?_
                            refine i_180_541 (c := Int32.ofInt ((S 128 17) - 1)) (o_sub (S 128 17) 1) ?_
                            have hobj := hR.c128
                            obtain ⟨w, hrun, S76, V76, hR, hk76, ht76, hq76, hS76, hV76⟩ := s_put (d := d) (h := 151) (r := r) (e := (S 128 17) - 1) hR (iNw (h := 151) (by decide) (by decide) (by decide)) (by omega) (by omega) (by omega) (by omega) (by simpa [u2_e] using p0) (by simpa [u2_e] using p1) (by rw [show (uv (uv V 135 q) 151 1) 151 = 1 from uv_s]; decide) (by rw [show (uv (uv V 135 q) 151 1) 151 = 1 from uv_s]; decide)
                            rw [show (uv (uv V 135 q) 151 1) 151 = 1 from uv_s] at ht76 hq76
                            refine i_180_542 hobj (Nat.le_of_ble_eq_true rfl) hrun ?_
                            refine i_180_545 (x := 128) l0 ?_
                            refine i_180_546 (v := Value.ref 156) hR.c128 rfl ?_
                            refine i_180_549 (x := Int32.ofInt r) l1 ?_
                            refine i_180_550 (x := Int32.ofInt sg) l5 ?_
                            refine i_180_552z (v := Value.int (Int32.ofInt sg)) (hR.row a156) (ix0 (T := r) (by omega) (by omega)) (ix1 (T := r) (by omega) (by omega) (by omega)) (by decide) (nrb (by omega)) ?_
                            rw [ixn (T := r) (by omega) (by omega)]
                            refine xgen (P := mR w0 (u2 S76 156 ((r).toNat) sg) V76) (hR.arr a156 rfl) (fun w hR => ?_)
                            refine i_180_553 ?_
                            refine i_180_565 (x := 1) l16 ?_
                            refine i_180_567 (fun c => absurd c (by decide)) (fun _ => ?_)
                            refine i_180_570 ?_
                            refine i_180_571 ?_
                            refine i_180_575 rfl ?_
                            refine lgen1 (i := 14) (v := Value.int 1) (fun lv lg ls => ?_)
                            replace l16 := lg 16 _ rfl rfl l16
                            replace l15 := lg 15 _ rfl rfl l15
                            replace l0 := lg 0 _ rfl rfl l0
                            replace l1 := lg 1 _ rfl rfl l1
                            replace l2 := lg 2 _ rfl rfl l2
                            replace l4 := lg 4 _ rfl rfl l4
                            replace l5 := lg 5 _ rfl rfl l5
                            replace l6 := lg 6 _ rfl rfl l6
                            replace l7 := lg 7 _ rfl rfl l7
                            replace l8 := lg 8 _ rfl rfl l8
                            replace l9 := lg 9 _ rfl rfl l9
                            replace l13 := lg 13 _ rfl rfl l13
                            have l14 := ls
                            refine i_180_577 ?_
                            have eo : rD p (S 128 17) (S 128 18) (S 128 20) (S 128 21) sg mode x more (V h) q u way (S 128 19) = (3, (xbl 1 : Int) + ((S 128 17) - 1), nrm 1 p, 1, zor (S 128 19) 4) := by unfold rD; rw [if_neg (by omega), if_neg (by omega), if_pos (by omega), if_pos (by simp [upU, away, *])]
                            refine k _ _ _ _ _ eo.symm l0 l5 l8 l14 hR ?_
                            refine ⟨?_, ?_, ⟨fun _ => ⟨?_, ?_⟩, fun h => absurd rfl h⟩, ?_, ?_, ?_⟩
                            · simp [u2_e, hk76]
                            · simp [u2_e]
                            · rw [u2_e, if_neg (by omega)]; exact ht76
                            · simpa [u2_e, hp] using hq76
                            · rw [u2_e, if_neg (by omega)]; rw [hS76 _ _ (by omega) (by omega)]; simp [u2_e]
                            · intro a j g1 g2 g3 g4; rw [u2_e, if_neg g3]; rw [hS76 a j g1 g2]; rw [u2_e, if_neg g4]
                            · intro k g1 g2 g3 g4 g5; rw [hV76 k g2 g5, uv_n (by omega), uv_n (by omega)]
                          · refine i_180_500 (x := Int32.ofInt mode) l6 ?_
                            refine i_180_502 (z_ne (a := mode) ⟨by omega, by omega⟩ fun c76 => ?_) (z_eq (a := mode) ⟨by omega, by omega⟩ fun c76 => absurd c76 (by omega))
                            refine i_180_514 ?_
                            refine i_180_515 rfl ?_
                            refine lgen1 (i := 16) (v := Value.int 0) (fun lv lg ls => ?_)
                            replace l15 := lg 15 _ rfl rfl l15
                            replace l14 := lg 14 _ rfl rfl l14
                            replace l0 := lg 0 _ rfl rfl l0
                            replace l1 := lg 1 _ rfl rfl l1
                            replace l2 := lg 2 _ rfl rfl l2
                            replace l4 := lg 4 _ rfl rfl l4
                            replace l5 := lg 5 _ rfl rfl l5
                            replace l6 := lg 6 _ rfl rfl l6
                            replace l7 := lg 7 _ rfl rfl l7
                            replace l8 := lg 8 _ rfl rfl l8
                            replace l9 := lg 9 _ rfl rfl l9
                            replace l13 := lg 13 _ rfl rfl l13
                            have l16 := ls
                            refine i_180_517 (x := 0) l16 ?_
                            refine i_180_519 (fun _ => ?_) (fun c => absurd c (by decide))
                            refine i_180_556 (x := 128) l0 ?_
                            refine i_180_557 (x := Int32.ofInt r) l1 ?_
                            refine i_180_558 ?_
                            refine i_180_559 (x := Int32.ofInt sg) l5 ?_
                            have hobj := hR.c128
                            obtain ⟨w, hrun, hR⟩ := s_special (d := d + 2) (r := r) (k := 2) (s := sg) hR (by omega) (by omega) (by omega)
                            refine i_180_561 hobj (Nat.le_of_ble_eq_true rfl) hrun ?_
                            refine i_180_564 rfl ?_
                            refine i_180_565 (x := 0) l16 ?_
                            refine i_180_567 (fun _ => ?_) (fun c => absurd c (by decide))
                            refine i_180_574 ?_
                            refine i_180_575 rfl ?_
                            refine lgen1 (i := 14) (v := Value.int (-1)) (fun lv lg ls => ?_)
                            replace l16 := lg 16 _ rfl rfl l16
                            replace l15 := lg 15 _ rfl rfl l15
                            replace l0 := lg 0 _ rfl rfl l0
                            replace l1 := lg 1 _ rfl rfl l1
                            replace l2 := lg 2 _ rfl rfl l2
                            replace l4 := lg 4 _ rfl rfl l4
                            replace l5 := lg 5 _ rfl rfl l5
                            replace l6 := lg 6 _ rfl rfl l6
                            replace l7 := lg 7 _ rfl rfl l7
                            replace l8 := lg 8 _ rfl rfl l8
                            replace l9 := lg 9 _ rfl rfl l9
                            replace l13 := lg 13 _ rfl rfl l13
                            have l14 := ls
                            refine i_180_577 ?_
                            have eo : rD p (S 128 17) (S 128 18) (S 128 20) (S 128 21) sg mode x more (V h) q u way (S 128 19) = (2, 0, 0, (-1), zor (S 128 19) 4) := by unfold rD; rw [if_neg (by omega), if_neg (by omega), if_pos (by omega), if_neg (by simp [upU, away, *])]
                            refine k _ _ _ _ _ eo.symm l0 l5 l8 l14 hR ?_
                            refine ⟨by simp [u2_e], by simp [u2_e], ⟨fun h => absurd (show (2 : Int) = 3 from h) (by decide), fun _ => ⟨by simp [u2_e], by repeat rw [uv_n (by omega)]⟩⟩, by simp [u2_e], ?_, ?_⟩
                            · intro a j g1 g2 g3 g4; simp [u2_e, g1, g3, g4]
                            · intro k g1 g2 g3 g4 g5; rw [uv_n (by omega)]
                      · refine i_180_484 (x := Int32.ofInt sg) l5 ?_
                        refine i_180_486 (z_eq (a := sg) ⟨by omega, by omega⟩ fun c77 => ?_) (z_ne (a := sg) ⟨by omega, by omega⟩ fun c77 => ?_)
                        · refine i_180_510 ?_
                          refine i_180_511 ?_
                          refine i_180_515 rfl ?_
                          refine lgen1 (i := 16) (v := Value.int 1) (fun lv lg ls => ?_)
                          replace l15 := lg 15 _ rfl rfl l15
                          replace l14 := lg 14 _ rfl rfl l14
                          replace l0 := lg 0 _ rfl rfl l0
                          replace l1 := lg 1 _ rfl rfl l1
                          replace l2 := lg 2 _ rfl rfl l2
                          replace l4 := lg 4 _ rfl rfl l4
                          replace l5 := lg 5 _ rfl rfl l5
                          replace l6 := lg 6 _ rfl rfl l6
                          replace l7 := lg 7 _ rfl rfl l7
                          replace l8 := lg 8 _ rfl rfl l8
                          replace l9 := lg 9 _ rfl rfl l9
                          replace l13 := lg 13 _ rfl rfl l13
                          have l16 := ls
                          refine i_180_517 (x := 1) l16 ?_
                          refine i_180_519 (fun c => absurd c (by decide)) (fun _ => ?_)
                          refine i_180_522 (x := 128) l0 ?_
                          refine i_180_523 (v := Value.ref 151) hR.c128 rfl ?_
                          refine i_180_526 ?_
                          obtain ⟨fs, hobj⟩ := hR.obj (h := 151) (iNw (h := 151) (by decide) (by decide) (by decide))
                          obtain ⟨w, hrun, hR⟩ := r_setl (d := d + 1) (x := (1 : Int64)) (v := 1) hR (iNw (h := 151) (by decide) (by decide) (by decide)) rfl
                          refine i_180_527 hobj (Nat.le_of_ble_eq_true rfl) hrun ?_
                          refine i_180_530 (x := 128) l0 ?_
                          refine i_180_531 (x := Int32.ofInt r) l1 ?_
                          refine i_180_532 (x := 128) l0 ?_
                          refine i_180_533 (v := Value.ref 151) hR.c128 rfl ?_
                          refine i_180_536 (x := 128) l0 ?_
                          refine i_180_537 (v := Value.int (Int32.ofInt (S 128 17))) hR.c128 rfl ?_
                          refine i_180_540 ?_
                          refine i_180_541 (c := Int32.ofInt ((S 128 17) - 1)) (o_sub (S 128 17) 1) ?_
                          have hobj := hR.c128
                          obtain ⟨w, hrun, S79, V79, hR, hk79, ht79, hq79, hS79, hV79⟩ := s_put (d := d) (h := 151) (r := r) (e := (S 128 17) - 1) hR (iNw (h := 151) (by decide) (by decide) (by decide)) (by omega) (by omega) (by omega) (by omega) (by simpa [u2_e] using p0) (by simpa [u2_e] using p1) (by rw [show (uv (uv V 135 q) 151 1) 151 = 1 from uv_s]; decide) (by rw [show (uv (uv V 135 q) 151 1) 151 = 1 from uv_s]; decide)
                          rw [show (uv (uv V 135 q) 151 1) 151 = 1 from uv_s] at ht79 hq79
                          refine i_180_542 hobj (Nat.le_of_ble_eq_true rfl) hrun ?_
                          refine i_180_545 (x := 128) l0 ?_
                          refine i_180_546 (v := Value.ref 156) hR.c128 rfl ?_
                          refine i_180_549 (x := Int32.ofInt r) l1 ?_
                          refine i_180_550 (x := Int32.ofInt sg) l5 ?_
                          refine i_180_552z (v := Value.int (Int32.ofInt sg)) (hR.row a156) (ix0 (T := r) (by omega) (by omega)) (ix1 (T := r) (by omega) (by omega) (by omega)) (by decide) (nrb (by omega)) ?_
                          rw [ixn (T := r) (by omega) (by omega)]
                          refine xgen (P := mR w0 (u2 S79 156 ((r).toNat) sg) V79) (hR.arr a156 rfl) (fun w hR => ?_)
                          refine i_180_553 ?_
                          refine i_180_565 (x := 1) l16 ?_
                          refine i_180_567 (fun c => absurd c (by decide)) (fun _ => ?_)
                          refine i_180_570 ?_
                          refine i_180_571 ?_
                          refine i_180_575 rfl ?_
                          refine lgen1 (i := 14) (v := Value.int 1) (fun lv lg ls => ?_)
                          replace l16 := lg 16 _ rfl rfl l16
                          replace l15 := lg 15 _ rfl rfl l15
                          replace l0 := lg 0 _ rfl rfl l0
                          replace l1 := lg 1 _ rfl rfl l1
                          replace l2 := lg 2 _ rfl rfl l2
                          replace l4 := lg 4 _ rfl rfl l4
                          replace l5 := lg 5 _ rfl rfl l5
                          replace l6 := lg 6 _ rfl rfl l6
                          replace l7 := lg 7 _ rfl rfl l7
                          replace l8 := lg 8 _ rfl rfl l8
                          replace l9 := lg 9 _ rfl rfl l9
                          replace l13 := lg 13 _ rfl rfl l13
                          have l14 := ls
                          refine i_180_577 ?_
                          have eo : rD p (S 128 17) (S 128 18) (S 128 20) (S 128 21) sg mode x more (V h) q u way (S 128 19) = (3, (xbl 1 : Int) + ((S 128 17) - 1), nrm 1 p, 1, zor (S 128 19) 4) := by unfold rD; rw [if_neg (by omega), if_neg (by omega), if_pos (by omega), if_pos (by simp [upU, away, *])]
                          refine k _ _ _ _ _ eo.symm l0 l5 l8 l14 hR ?_
                          refine ⟨?_, ?_, ⟨fun _ => ⟨?_, ?_⟩, fun h => absurd rfl h⟩, ?_, ?_, ?_⟩
                          · simp [u2_e, hk79]
                          · simp [u2_e]
                          · rw [u2_e, if_neg (by omega)]; exact ht79
                          · simpa [u2_e, hp] using hq79
                          · rw [u2_e, if_neg (by omega)]; rw [hS79 _ _ (by omega) (by omega)]; simp [u2_e]
                          · intro a j g1 g2 g3 g4; rw [u2_e, if_neg g3]; rw [hS79 a j g1 g2]; rw [u2_e, if_neg g4]
                          · intro k g1 g2 g3 g4 g5; rw [hV79 k g2 g5, uv_n (by omega), uv_n (by omega)]
                        · refine i_180_489 (x := Int32.ofInt mode) l6 ?_
                          refine i_180_491 ?_
                          refine i_180_492 (b_ne (a := mode) (b := 3) ⟨by omega, by omega⟩ ⟨by decide, by decide⟩ fun c79 => ?_) (b_eq (a := mode) (b := 3) ⟨by omega, by omega⟩ ⟨by decide, by decide⟩ fun c79 => absurd c79 (by omega))
                          refine i_180_500 (x := Int32.ofInt mode) l6 ?_
                          refine i_180_502 (z_ne (a := mode) ⟨by omega, by omega⟩ fun c80 => ?_) (z_eq (a := mode) ⟨by omega, by omega⟩ fun c80 => absurd c80 (by omega))
                          refine i_180_514 ?_
                          refine i_180_515 rfl ?_
                          refine lgen1 (i := 16) (v := Value.int 0) (fun lv lg ls => ?_)
                          replace l15 := lg 15 _ rfl rfl l15
                          replace l14 := lg 14 _ rfl rfl l14
                          replace l0 := lg 0 _ rfl rfl l0
                          replace l1 := lg 1 _ rfl rfl l1
                          replace l2 := lg 2 _ rfl rfl l2
                          replace l4 := lg 4 _ rfl rfl l4
                          replace l5 := lg 5 _ rfl rfl l5
                          replace l6 := lg 6 _ rfl rfl l6
                          replace l7 := lg 7 _ rfl rfl l7
                          replace l8 := lg 8 _ rfl rfl l8
                          replace l9 := lg 9 _ rfl rfl l9
                          replace l13 := lg 13 _ rfl rfl l13
                          have l16 := ls
                          refine i_180_517 (x := 0) l16 ?_
                          refine i_180_519 (fun _ => ?_) (fun c => absurd c (by decide))
                          refine i_180_556 (x := 128) l0 ?_
                          refine i_180_557 (x := Int32.ofInt r) l1 ?_
                          refine i_180_558 ?_
                          refine i_180_559 (x := Int32.ofInt sg) l5 ?_
                          have hobj := hR.c128
                          obtain ⟨w, hrun, hR⟩ := s_special (d := d + 2) (r := r) (k := 2) (s := sg) hR (by omega) (by omega) (by omega)
                          refine i_180_561 hobj (Nat.le_of_ble_eq_true rfl) hrun ?_
                          refine i_180_564 rfl ?_
                          refine i_180_565 (x := 0) l16 ?_
                          refine i_180_567 (fun _ => ?_) (fun c => absurd c (by decide))
                          refine i_180_574 ?_
                          refine i_180_575 rfl ?_
                          refine lgen1 (i := 14) (v := Value.int (-1)) (fun lv lg ls => ?_)
                          replace l16 := lg 16 _ rfl rfl l16
                          replace l15 := lg 15 _ rfl rfl l15
                          replace l0 := lg 0 _ rfl rfl l0
                          replace l1 := lg 1 _ rfl rfl l1
                          replace l2 := lg 2 _ rfl rfl l2
                          replace l4 := lg 4 _ rfl rfl l4
                          replace l5 := lg 5 _ rfl rfl l5
                          replace l6 := lg 6 _ rfl rfl l6
                          replace l7 := lg 7 _ rfl rfl l7
                          replace l8 := lg 8 _ rfl rfl l8
                          replace l9 := lg 9 _ rfl rfl l9
                          replace l13 := lg 13 _ rfl rfl l13
                          have l14 := ls
                          refine i_180_577 ?_
                          have eo : rD p (S 128 17) (S 128 18) (S 128 20) (S 128 21) sg mode x more (V h) q u way (S 128 19) = (2, 0, 0, (-1), zor (S 128 19) 4) := by unfold rD; rw [if_neg (by omega), if_neg (by omega), if_pos (by omega), if_neg (by simp [upU, away, *])]
                          refine k _ _ _ _ _ eo.symm l0 l5 l8 l14 hR ?_
                          refine ⟨by simp [u2_e], by simp [u2_e], ⟨fun h => absurd (show (2 : Int) = 3 from h) (by decide), fun _ => ⟨by simp [u2_e], by repeat rw [uv_n (by omega)]⟩⟩, by simp [u2_e], ?_, ?_⟩
                          · intro a j g1 g2 g3 g4; simp [u2_e, g1, g3, g4]
                          · intro k g1 g2 g3 g4 g5; rw [uv_n (by omega)]
      · refine i_180_377 (x := 128) l0 ?_
        refine i_180_378 (x := Int32.ofInt r) l1 ?_
        refine i_180_379 ?_
        refine i_180_380 (x := Int32.ofInt sg) l5 ?_
        have hobj := hR.c128
        obtain ⟨w, hrun, hR⟩ := s_special (d := d + 2) (r := r) (k := 2) (s := sg) hR (by omega) (by omega) (by omega)
        refine i_180_382 hobj (Nat.le_of_ble_eq_true rfl) hrun ?_
        refine i_180_385 rfl ?_
        refine i_180_386 ?_
        refine i_180_387 rfl ?_
        refine lgen1 (i := 14) (v := Value.int (-1)) (fun lv lg ls => ?_)
        replace l0 := lg 0 _ rfl rfl l0
        replace l1 := lg 1 _ rfl rfl l1
        replace l2 := lg 2 _ rfl rfl l2
        replace l4 := lg 4 _ rfl rfl l4
        replace l5 := lg 5 _ rfl rfl l5
        replace l6 := lg 6 _ rfl rfl l6
        replace l7 := lg 7 _ rfl rfl l7
        replace l8 := lg 8 _ rfl rfl l8
        replace l9 := lg 9 _ rfl rfl l9
        replace l13 := lg 13 _ rfl rfl l13
        have l14 := ls
        refine i_180_389 ?_
        have eo : rD p (S 128 17) (S 128 18) (S 128 20) (S 128 21) sg mode x more (V h) q u way (S 128 19) = (2, 0, 0, (-1), S 128 19) := by unfold rD; rw [if_neg (by omega), if_pos (by omega)]
        refine k _ _ _ _ _ eo.symm l0 l5 l8 l14 hR ?_
        refine ⟨by simp [u2_e], by simp [u2_e], ⟨fun h => absurd (show (2 : Int) = 3 from h) (by decide), fun _ => ⟨by simp [u2_e], by repeat rw [uv_n (by omega)]⟩⟩, by simp [u2_e], ?_, ?_⟩
        · intro a j g1 g2 g3 g4; simp [u2_e, g1, g3, g4]
        · intro k g1 g2 g3 g4 g5; rw [uv_n (by omega)]
    · refine i_180_224 (x := Int32.ofInt ((xbl q : Int) + u)) l13 ?_
      refine i_180_226 (x := 128) l0 ?_
      refine i_180_227 (v := Value.int (Int32.ofInt (S 128 18))) hR.c128 rfl ?_
      refine i_180_230 (b_le (a := (xbl q : Int) + u) (b := S 128 18) ⟨by omega, by omega⟩ ⟨by omega, by omega⟩ fun c81 => ?_) (b_lt (a := S 128 18) (b := (xbl q : Int) + u) ⟨by omega, by omega⟩ ⟨by omega, by omega⟩ fun c81 => ?_)
      · refine i_180_367 (x := 128) l0 ?_
        refine i_180_368 (v := Value.ref 135) hR.c128 rfl ?_
        obtain ⟨n83, hsz, hn83, hz83⟩ := hR.size (h := 135) (v := q) (iNw (h := 135) (by decide) (by decide) (by decide)) (uv_s)
        refine i_180_371 (v := Value.int (Int32.ofInt (n83 : Int))) hsz rfl ?_
        refine i_180_374 (z_ne (a := (n83 : Int)) ⟨by omega, by omega⟩ fun c83 => ?_) (z_eq (a := (n83 : Int)) ⟨by omega, by omega⟩ fun c83 => ?_)
        · refine i_180_392 (x := 128) l0 ?_
          refine i_180_393 (v := Value.int (Int32.ofInt (S 128 21))) hR.c128 rfl ?_
          refine i_180_396 (z_ne (a := S 128 21) ⟨by omega, by omega⟩ fun c84 => absurd c84 (by omega)) (z_eq (a := S 128 21) ⟨by omega, by omega⟩ fun c84 => ?_)
          refine i_180_399 (x := 128) l0 ?_
          refine i_180_400 (v := Value.int (Int32.ofInt (S 128 20))) hR.c128 rfl ?_
          refine i_180_403 (z_ne (a := S 128 20) ⟨by omega, by omega⟩ fun c85 => ?_) (z_eq (a := S 128 20) ⟨by omega, by omega⟩ fun c85 => ?_)
          · refine i_180_580 (x := 128) l0 ?_
            refine i_180_581 (x := Int32.ofInt r) l1 ?_
            refine i_180_582 (x := 128) l0 ?_
            refine i_180_583 (v := Value.ref 135) hR.c128 rfl ?_
            refine i_180_586 (x := Int32.ofInt u) l9 ?_
            have hobj := hR.c128
            obtain ⟨w, hrun, S87, V87, hR, hk87, ht87, hq87, hS87, hV87⟩ := s_put (d := d) (h := 135) (r := r) (e := u) hR (iNw (h := 135) (by decide) (by decide) (by decide)) (by omega) (by omega) (by omega) (by omega) (by simpa [u2_e] using p0) (by simpa [u2_e] using p1) (by rw [show (uv V 135 q) 135 = q from uv_s]; omega) (by rw [show (uv V 135 q) 135 = q from uv_s]; exact hq)
            rw [show (uv V 135 q) 135 = q from uv_s] at ht87 hq87
            refine i_180_588 hobj (Nat.le_of_ble_eq_true rfl) hrun ?_
            have eo : rD p (S 128 17) (S 128 18) (S 128 20) (S 128 21) sg mode x more (V h) q u way (S 128 19) = (3, (xbl q : Int) + (u), nrm q p, way, S 128 19) := by unfold rD; rw [if_neg (by omega), if_neg (by omega), if_neg (by omega)]
            refine k _ _ _ _ _ eo.symm l0 l5 l8 l14 hR ?_
            refine ⟨?_, ?_, ⟨fun _ => ⟨?_, ?_⟩, fun h => absurd rfl h⟩, ?_, ?_, ?_⟩
            · exact hk87
            · rw [hS87 _ _ (by omega) (by omega)]; exact hneg
            · exact ht87
            · simpa [u2_e, hp] using hq87
            · rw [hS87 _ _ (by omega) (by omega)]
            · intro a j g1 g2 g3 g4; rw [hS87 a j g1 g2]
            · intro k g1 g2 g3 g4 g5; rw [hV87 k g2 g5, uv_n (by omega)]
          · refine i_180_406 (x := Int32.ofInt ((xbl q : Int) + u)) l13 ?_
            refine i_180_408 (x := 128) l0 ?_
            refine i_180_409 (v := Value.int (Int32.ofInt (S 128 17))) hR.c128 rfl ?_
            refine i_180_412 (b_le (a := S 128 17) (b := (xbl q : Int) + u) ⟨by omega, by omega⟩ ⟨by omega, by omega⟩ fun c87 => ?_) (b_lt (a := (xbl q : Int) + u) (b := S 128 17) ⟨by omega, by omega⟩ ⟨by omega, by omega⟩ fun c87 => ?_)
            · refine i_180_580 (x := 128) l0 ?_
              refine i_180_581 (x := Int32.ofInt r) l1 ?_
              refine i_180_582 (x := 128) l0 ?_
              refine i_180_583 (v := Value.ref 135) hR.c128 rfl ?_
              refine i_180_586 (x := Int32.ofInt u) l9 ?_
              have hobj := hR.c128
              obtain ⟨w, hrun, S89, V89, hR, hk89, ht89, hq89, hS89, hV89⟩ := s_put (d := d) (h := 135) (r := r) (e := u) hR (iNw (h := 135) (by decide) (by decide) (by decide)) (by omega) (by omega) (by omega) (by omega) (by simpa [u2_e] using p0) (by simpa [u2_e] using p1) (by rw [show (uv V 135 q) 135 = q from uv_s]; omega) (by rw [show (uv V 135 q) 135 = q from uv_s]; exact hq)
              rw [show (uv V 135 q) 135 = q from uv_s] at ht89 hq89
              refine i_180_588 hobj (Nat.le_of_ble_eq_true rfl) hrun ?_
              have eo : rD p (S 128 17) (S 128 18) (S 128 20) (S 128 21) sg mode x more (V h) q u way (S 128 19) = (3, (xbl q : Int) + (u), nrm q p, way, S 128 19) := by unfold rD; rw [if_neg (by omega), if_neg (by omega), if_neg (by omega)]
              refine k _ _ _ _ _ eo.symm l0 l5 l8 l14 hR ?_
              refine ⟨?_, ?_, ⟨fun _ => ⟨?_, ?_⟩, fun h => absurd rfl h⟩, ?_, ?_, ?_⟩
              · exact hk89
              · rw [hS89 _ _ (by omega) (by omega)]; exact hneg
              · exact ht89
              · simpa [u2_e, hp] using hq89
              · rw [hS89 _ _ (by omega) (by omega)]
              · intro a j g1 g2 g3 g4; rw [hS89 a j g1 g2]
              · intro k g1 g2 g3 g4 g5; rw [hV89 k g2 g5, uv_n (by omega)]
            · refine i_180_415 (x := 128) l0 ?_
              refine i_180_416 rfl ?_
              refine i_180_417 (v := Value.int (Int32.ofInt (S 128 19))) hR.c128 rfl ?_
              refine i_180_420 ?_
              refine i_180_421 (c := Int32.ofInt (zor (S 128 19) 4)) (o_or (S 128 19) 4) ?_
              refine i_180_422 (fs2 := mf (u1 (S 128) 19 (zor (S 128 19) 4))) hR.c128 (Nat.le_of_ble_eq_true rfl) mfs_19 (by decide) ?_
              refine xgen (P := mR w0 (u2 S 128 19 (zor (S 128 19) 4)) (uv V 135 q)) hR.fld2 (fun w hR => ?_)
              refine i_180_425 (x := Int32.ofInt x) l8 ?_
              refine i_180_427 (x := 128) l0 ?_
              refine i_180_428 (v := Value.int (Int32.ofInt (S 128 17))) hR.c128 rfl ?_
              refine i_180_431 ?_
              refine i_180_432 (c := Int32.ofInt ((S 128 17) - 1)) (o_sub (S 128 17) 1) ?_
              refine i_180_433 (b_lt (a := (S 128 17) - 1) (b := x) ⟨by omega, by omega⟩ ⟨by omega, by omega⟩ fun c89 => ?_) (b_le (a := x) (b := (S 128 17) - 1) ⟨by omega, by omega⟩ ⟨by omega, by omega⟩ fun c89 => ?_)
              · refine i_180_465 ?_
                refine i_180_466 ?_
                refine i_180_470 rfl ?_
                refine lgen1 (i := 15) (v := Value.int 1) (fun lv lg ls => ?_)
                replace l14 := lg 14 _ rfl rfl l14
                replace l0 := lg 0 _ rfl rfl l0
                replace l1 := lg 1 _ rfl rfl l1
                replace l2 := lg 2 _ rfl rfl l2
                replace l4 := lg 4 _ rfl rfl l4
                replace l5 := lg 5 _ rfl rfl l5
                replace l6 := lg 6 _ rfl rfl l6
                replace l7 := lg 7 _ rfl rfl l7
                replace l8 := lg 8 _ rfl rfl l8
                replace l9 := lg 9 _ rfl rfl l9
                replace l13 := lg 13 _ rfl rfl l13
                have l15 := ls
                refine i_180_472 (x := Int32.ofInt mode) l6 ?_
                refine i_180_474 ?_
                refine i_180_475 (b_eq (a := mode) (b := 4) ⟨by omega, by omega⟩ ⟨by decide, by decide⟩ fun c90 => ?_) (b_ne (a := mode) (b := 4) ⟨by omega, by omega⟩ ⟨by decide, by decide⟩ fun c90 => ?_)
                · refine i_180_510 ?_
                  refine i_180_511 ?_
                  refine i_180_515 rfl ?_
                  refine lgen1 (i := 16) (v := Value.int 1) (fun lv lg ls => ?_)
                  replace l15 := lg 15 _ rfl rfl l15
                  replace l14 := lg 14 _ rfl rfl l14
                  replace l0 := lg 0 _ rfl rfl l0
                  replace l1 := lg 1 _ rfl rfl l1
                  replace l2 := lg 2 _ rfl rfl l2
                  replace l4 := lg 4 _ rfl rfl l4
                  replace l5 := lg 5 _ rfl rfl l5
                  replace l6 := lg 6 _ rfl rfl l6
                  replace l7 := lg 7 _ rfl rfl l7
                  replace l8 := lg 8 _ rfl rfl l8
                  replace l9 := lg 9 _ rfl rfl l9
                  replace l13 := lg 13 _ rfl rfl l13
                  have l16 := ls
                  refine i_180_517 (x := 1) l16 ?_
                  refine i_180_519 (fun c => absurd c (by decide)) (fun _ => ?_)
                  refine i_180_522 (x := 128) l0 ?_
                  refine i_180_523 (v := Value.ref 151) hR.c128 rfl ?_
                  refine i_180_526 ?_
                  obtain ⟨fs, hobj⟩ := hR.obj (h := 151) (iNw (h := 151) (by decide) (by decide) (by decide))
                  obtain ⟨w, hrun, hR⟩ := r_setl (d := d + 1) (x := (1 : Int64)) (v := 1) hR (iNw (h := 151) (by decide) (by decide) (by decide)) rfl
                  refine i_180_527 hobj (Nat.le_of_ble_eq_true rfl) hrun ?_
                  refine i_180_530 (x := 128) l0 ?_
                  refine i_180_531 (x := Int32.ofInt r) l1 ?_
                  refine i_180_532 (x := 128) l0 ?_
                  refine i_180_533 (v := Value.ref 151) hR.c128 rfl ?_
                  refine i_180_536 (x := 128) l0 ?_
                  refine i_180_537 (v := Value.int (Int32.ofInt (S 128 17))) hR.c128 rfl ?_
                  refine i_180_540 ?_
                  refine i_180_541 (c := Int32.ofInt ((S 128 17) - 1)) (o_sub (S 128 17) 1) ?_
                  have hobj := hR.c128
                  obtain ⟨w, hrun, S92, V92, hR, hk92, ht92, hq92, hS92, hV92⟩ := s_put (d := d) (h := 151) (r := r) (e := (S 128 17) - 1) hR (iNw (h := 151) (by decide) (by decide) (by decide)) (by omega) (by omega) (by omega) (by omega) (by simpa [u2_e] using p0) (by simpa [u2_e] using p1) (by rw [show (uv (uv V 135 q) 151 1) 151 = 1 from uv_s]; decide) (by rw [show (uv (uv V 135 q) 151 1) 151 = 1 from uv_s]; decide)
                  rw [show (uv (uv V 135 q) 151 1) 151 = 1 from uv_s] at ht92 hq92
                  refine i_180_542 hobj (Nat.le_of_ble_eq_true rfl) hrun ?_
                  refine i_180_545 (x := 128) l0 ?_
                  refine i_180_546 (v := Value.ref 156) hR.c128 rfl ?_
                  refine i_180_549 (x := Int32.ofInt r) l1 ?_
                  refine i_180_550 (x := Int32.ofInt sg) l5 ?_
                  refine i_180_552z (v := Value.int (Int32.ofInt sg)) (hR.row a156) (ix0 (T := r) (by omega) (by omega)) (ix1 (T := r) (by omega) (by omega) (by omega)) (by decide) (nrb (by omega)) ?_
                  rw [ixn (T := r) (by omega) (by omega)]
                  refine xgen (P := mR w0 (u2 S92 156 ((r).toNat) sg) V92) (hR.arr a156 rfl) (fun w hR => ?_)
                  refine i_180_553 ?_
                  refine i_180_565 (x := 1) l16 ?_
                  refine i_180_567 (fun c => absurd c (by decide)) (fun _ => ?_)
                  refine i_180_570 ?_
                  refine i_180_571 ?_
                  refine i_180_575 rfl ?_
                  refine lgen1 (i := 14) (v := Value.int 1) (fun lv lg ls => ?_)
                  replace l16 := lg 16 _ rfl rfl l16
                  replace l15 := lg 15 _ rfl rfl l15
                  replace l0 := lg 0 _ rfl rfl l0
                  replace l1 := lg 1 _ rfl rfl l1
                  replace l2 := lg 2 _ rfl rfl l2
                  replace l4 := lg 4 _ rfl rfl l4
                  replace l5 := lg 5 _ rfl rfl l5
                  replace l6 := lg 6 _ rfl rfl l6
                  replace l7 := lg 7 _ rfl rfl l7
                  replace l8 := lg 8 _ rfl rfl l8
                  replace l9 := lg 9 _ rfl rfl l9
                  replace l13 := lg 13 _ rfl rfl l13
                  have l14 := ls
                  refine i_180_577 ?_
                  have eo : rD p (S 128 17) (S 128 18) (S 128 20) (S 128 21) sg mode x more (V h) q u way (S 128 19) = (3, (xbl 1 : Int) + ((S 128 17) - 1), nrm 1 p, 1, zor (S 128 19) 4) := by unfold rD; rw [if_neg (by omega), if_neg (by omega), if_pos (by omega), if_pos (by simp [upU, away, *])]
                  refine k _ _ _ _ _ eo.symm l0 l5 l8 l14 hR ?_
                  refine ⟨?_, ?_, ⟨fun _ => ⟨?_, ?_⟩, fun h => absurd rfl h⟩, ?_, ?_, ?_⟩
                  · simp [u2_e, hk92]
                  · simp [u2_e]
                  · rw [u2_e, if_neg (by omega)]; exact ht92
                  · simpa [u2_e, hp] using hq92
                  · rw [u2_e, if_neg (by omega)]; rw [hS92 _ _ (by omega) (by omega)]; simp [u2_e]
                  · intro a j g1 g2 g3 g4; rw [u2_e, if_neg g3]; rw [hS92 a j g1 g2]; rw [u2_e, if_neg g4]
                  · intro k g1 g2 g3 g4 g5; rw [hV92 k g2 g5, uv_n (by omega), uv_n (by omega)]
                · refine i_180_478 (x := Int32.ofInt mode) l6 ?_
                  refine i_180_480 ?_
                  refine i_180_481 (b_ne (a := mode) (b := 2) ⟨by omega, by omega⟩ ⟨by decide, by decide⟩ fun c92 => ?_) (b_eq (a := mode) (b := 2) ⟨by omega, by omega⟩ ⟨by decide, by decide⟩ fun c92 => ?_)
                  · refine i_180_489 (x := Int32.ofInt mode) l6 ?_
                    refine i_180_491 ?_
                    refine i_180_492 (b_ne (a := mode) (b := 3) ⟨by omega, by omega⟩ ⟨by decide, by decide⟩ fun c93 => ?_) (b_eq (a := mode) (b := 3) ⟨by omega, by omega⟩ ⟨by decide, by decide⟩ fun c93 => ?_)
                    · refine i_180_500 (x := Int32.ofInt mode) l6 ?_
                      refine i_180_502 (z_ne (a := mode) ⟨by omega, by omega⟩ fun c94 => ?_) (z_eq (a := mode) ⟨by omega, by omega⟩ fun c94 => ?_)
                      · refine i_180_514 ?_
                        refine i_180_515 rfl ?_
                        refine lgen1 (i := 16) (v := Value.int 0) (fun lv lg ls => ?_)
                        replace l15 := lg 15 _ rfl rfl l15
                        replace l14 := lg 14 _ rfl rfl l14
                        replace l0 := lg 0 _ rfl rfl l0
                        replace l1 := lg 1 _ rfl rfl l1
                        replace l2 := lg 2 _ rfl rfl l2
                        replace l4 := lg 4 _ rfl rfl l4
                        replace l5 := lg 5 _ rfl rfl l5
                        replace l6 := lg 6 _ rfl rfl l6
                        replace l7 := lg 7 _ rfl rfl l7
                        replace l8 := lg 8 _ rfl rfl l8
                        replace l9 := lg 9 _ rfl rfl l9
                        replace l13 := lg 13 _ rfl rfl l13
                        have l16 := ls
                        refine i_180_517 (x := 0) l16 ?_
                        refine i_180_519 (fun _ => ?_) (fun c => absurd c (by decide))
                        refine i_180_556 (x := 128) l0 ?_
                        refine i_180_557 (x := Int32.ofInt r) l1 ?_
                        refine i_180_558 ?_
                        refine i_180_559 (x := Int32.ofInt sg) l5 ?_
                        have hobj := hR.c128
                        obtain ⟨w, hrun, hR⟩ := s_special (d := d + 2) (r := r) (k := 2) (s := sg) hR (by omega) (by omega) (by omega)
                        refine i_180_561 hobj (Nat.le_of_ble_eq_true rfl) hrun ?_
                        refine i_180_564 rfl ?_
                        refine i_180_565 (x := 0) l16 ?_
                        refine i_180_567 (fun _ => ?_) (fun c => absurd c (by decide))
                        refine i_180_574 ?_
                        refine i_180_575 rfl ?_
                        refine lgen1 (i := 14) (v := Value.int (-1)) (fun lv lg ls => ?_)
                        replace l16 := lg 16 _ rfl rfl l16
                        replace l15 := lg 15 _ rfl rfl l15
                        replace l0 := lg 0 _ rfl rfl l0
                        replace l1 := lg 1 _ rfl rfl l1
                        replace l2 := lg 2 _ rfl rfl l2
                        replace l4 := lg 4 _ rfl rfl l4
                        replace l5 := lg 5 _ rfl rfl l5
                        replace l6 := lg 6 _ rfl rfl l6
                        replace l7 := lg 7 _ rfl rfl l7
                        replace l8 := lg 8 _ rfl rfl l8
                        replace l9 := lg 9 _ rfl rfl l9
                        replace l13 := lg 13 _ rfl rfl l13
                        have l14 := ls
                        refine i_180_577 ?_
                        have eo : rD p (S 128 17) (S 128 18) (S 128 20) (S 128 21) sg mode x more (V h) q u way (S 128 19) = (2, 0, 0, (-1), zor (S 128 19) 4) := by unfold rD; rw [if_neg (by omega), if_neg (by omega), if_pos (by omega), if_neg (by simp [upU, away, *])]
                        refine k _ _ _ _ _ eo.symm l0 l5 l8 l14 hR ?_
                        refine ⟨by simp [u2_e], by simp [u2_e], ⟨fun h => absurd (show (2 : Int) = 3 from h) (by decide), fun _ => ⟨by simp [u2_e], by repeat rw [uv_n (by omega)]⟩⟩, by simp [u2_e], ?_, ?_⟩
                        · intro a j g1 g2 g3 g4; simp [u2_e, g1, g3, g4]
                        · intro k g1 g2 g3 g4 g5; rw [uv_n (by omega)]
                      · refine i_180_505 (x := 1) l15 ?_
                        refine i_180_507 (fun c => absurd c (by decide)) (fun _ => ?_)
                        refine i_180_510 ?_
                        refine i_180_511 ?_
                        refine i_180_515 rfl ?_
                        refine lgen1 (i := 16) (v := Value.int 1) (fun lv lg ls => ?_)
                        replace l15 := lg 15 _ rfl rfl l15
                        replace l14 := lg 14 _ rfl rfl l14
                        replace l0 := lg 0 _ rfl rfl l0
                        replace l1 := lg 1 _ rfl rfl l1
                        replace l2 := lg 2 _ rfl rfl l2
                        replace l4 := lg 4 _ rfl rfl l4
                        replace l5 := lg 5 _ rfl rfl l5
                        replace l6 := lg 6 _ rfl rfl l6
                        replace l7 := lg 7 _ rfl rfl l7
                        replace l8 := lg 8 _ rfl rfl l8
                        replace l9 := lg 9 _ rfl rfl l9
                        replace l13 := lg 13 _ rfl rfl l13
                        have l16 := ls
                        refine i_180_517 (x := 1) l16 ?_
                        refine i_180_519 (fun c => absurd c (by decide)) (fun _ => ?_)
                        refine i_180_522 (x := 128) l0 ?_
                        refine i_180_523 (v := Value.ref 151) hR.c128 rfl ?_
                        refine i_180_526 ?_
                        obtain ⟨fs, hobj⟩ := hR.obj (h := 151) (iNw (h := 151) (by decide) (by decide) (by decide))
                        obtain ⟨w, hrun, hR⟩ := r_setl (d := d + 1) (x := (1 : Int64)) (v := 1) hR (iNw (h := 151) (by decide) (by decide) (by decide)) rfl
                        refine i_180_527 hobj (Nat.le_of_ble_eq_true rfl) hrun ?_
                        refine i_180_530 (x := 128) l0 ?_
                        refine i_180_531 (x := Int32.ofInt r) l1 ?_
                        refine i_180_532 (x := 128) l0 ?_
                        refine i_180_533 (v := Value.ref 151) hR.c128 rfl ?_
                        refine i_180_536 (x := 128) l0 ?_
                        refine i_180_537 (v := Value.int (Int32.ofInt (S 128 17))) hR.c128 rfl ?_
                        refine i_180_540 ?_
                        refine i_180_541 (c := Int32.ofInt ((S 128 17) - 1)) (o_sub (S 128 17) 1) ?_
                        have hobj := hR.c128
                        obtain ⟨w, hrun, S96, V96, hR, hk96, ht96, hq96, hS96, hV96⟩ := s_put (d := d) (h := 151) (r := r) (e := (S 128 17) - 1) hR (iNw (h := 151) (by decide) (by decide) (by decide)) (by omega) (by omega) (by omega) (by omega) (by simpa [u2_e] using p0) (by simpa [u2_e] using p1) (by rw [show (uv (uv V 135 q) 151 1) 151 = 1 from uv_s]; decide) (by rw [show (uv (uv V 135 q) 151 1) 151 = 1 from uv_s]; decide)
                        rw [show (uv (uv V 135 q) 151 1) 151 = 1 from uv_s] at ht96 hq96
                        refine i_180_542 hobj (Nat.le_of_ble_eq_true rfl) hrun ?_
                        refine i_180_545 (x := 128) l0 ?_
                        refine i_180_546 (v := Value.ref 156) hR.c128 rfl ?_
                        refine i_180_549 (x := Int32.ofInt r) l1 ?_
                        refine i_180_550 (x := Int32.ofInt sg) l5 ?_
                        refine i_180_552z (v := Value.int (Int32.ofInt sg)) (hR.row a156) (ix0 (T := r) (by omega) (by omega)) (ix1 (T := r) (by omega) (by omega) (by omega)) (by decide) (nrb (by omega)) ?_
                        rw [ixn (T := r) (by omega) (by omega)]
                        refine xgen (P := mR w0 (u2 S96 156 ((r).toNat) sg) V96) (hR.arr a156 rfl) (fun w hR => ?_)
                        refine i_180_553 ?_
                        refine i_180_565 (x := 1) l16 ?_
                        refine i_180_567 (fun c => absurd c (by decide)) (fun _ => ?_)
                        refine i_180_570 ?_
                        refine i_180_571 ?_
                        refine i_180_575 rfl ?_
                        refine lgen1 (i := 14) (v := Value.int 1) (fun lv lg ls => ?_)
                        replace l16 := lg 16 _ rfl rfl l16
                        replace l15 := lg 15 _ rfl rfl l15
                        replace l0 := lg 0 _ rfl rfl l0
                        replace l1 := lg 1 _ rfl rfl l1
                        replace l2 := lg 2 _ rfl rfl l2
                        replace l4 := lg 4 _ rfl rfl l4
                        replace l5 := lg 5 _ rfl rfl l5
                        replace l6 := lg 6 _ rfl rfl l6
                        replace l7 := lg 7 _ rfl rfl l7
                        replace l8 := lg 8 _ rfl rfl l8
                        replace l9 := lg 9 _ rfl rfl l9
                        replace l13 := lg 13 _ rfl rfl l13
                        have l14 := ls
                        refine i_180_577 ?_
                        have eo : rD p (S 128 17) (S 128 18) (S 128 20) (S 128 21) sg mode x more (V h) q u way (S 128 19) = (3, (xbl 1 : Int) + ((S 128 17) - 1), nrm 1 p, 1, zor (S 128 19) 4) := by unfold rD; rw [if_neg (by omega), if_neg (by omega), if_pos (by omega), if_pos (by simp [upU, away, *])]
                        refine k _ _ _ _ _ eo.symm l0 l5 l8 l14 hR ?_
                        refine ⟨?_, ?_, ⟨fun _ => ⟨?_, ?_⟩, fun h => absurd rfl h⟩, ?_, ?_, ?_⟩
                        · simp [u2_e, hk96]
                        · simp [u2_e]
                        · rw [u2_e, if_neg (by omega)]; exact ht96
                        · simpa [u2_e, hp] using hq96
                        · rw [u2_e, if_neg (by omega)]; rw [hS96 _ _ (by omega) (by omega)]; simp [u2_e]
                        · intro a j g1 g2 g3 g4; rw [u2_e, if_neg g3]; rw [hS96 a j g1 g2]; rw [u2_e, if_neg g4]
                        · intro k g1 g2 g3 g4 g5; rw [hV96 k g2 g5, uv_n (by omega), uv_n (by omega)]
                    · refine i_180_495 (x := Int32.ofInt sg) l5 ?_
                      refine i_180_497 (z_ne (a := sg) ⟨by omega, by omega⟩ fun c96 => ?_) (z_eq (a := sg) ⟨by omega, by omega⟩ fun c96 => ?_)
                      · refine i_180_510 ?_
                        refine i_180_511 ?_
                        refine i_180_515 rfl ?_
                        refine lgen1 (i := 16) (v := Value.int 1) (fun lv lg ls => ?_)
                        replace l15 := lg 15 _ rfl rfl l15
                        replace l14 := lg 14 _ rfl rfl l14
                        replace l0 := lg 0 _ rfl rfl l0
                        replace l1 := lg 1 _ rfl rfl l1
                        replace l2 := lg 2 _ rfl rfl l2
                        replace l4 := lg 4 _ rfl rfl l4
                        replace l5 := lg 5 _ rfl rfl l5
                        replace l6 := lg 6 _ rfl rfl l6
                        replace l7 := lg 7 _ rfl rfl l7
                        replace l8 := lg 8 _ rfl rfl l8
                        replace l9 := lg 9 _ rfl rfl l9
                        replace l13 := lg 13 _ rfl rfl l13
                        have l16 := ls
                        refine i_180_517 (x := 1) l16 ?_
                        refine i_180_519 (fun c => absurd c (by decide)) (fun _ => ?_)
                        refine i_180_522 (x := 128) l0 ?_
                        refine i_180_523 (v := Value.ref 151) hR.c128 rfl ?_
                        refine i_180_526 ?_
                        obtain ⟨fs, hobj⟩ := hR.obj (h := 151) (iNw (h := 151) (by decide) (by decide) (by decide))
                        obtain ⟨w, hrun, hR⟩ := r_setl (d := d + 1) (x := (1 : Int64)) (v := 1) hR (iNw (h := 151) (by decide) (by decide) (by decide)) rfl
                        refine i_180_527 hobj (Nat.le_of_ble_eq_true rfl) hrun ?_
                        refine i_180_530 (x := 128) l0 ?_
                        refine i_180_531 (x := Int32.ofInt r) l1 ?_
                        refine i_180_532 (x := 128) l0 ?_
                        refine i_180_533 (v := Value.ref 151) hR.c128 rfl ?_
                        refine i_180_536 (x := 128) l0 ?_
                        refine i_180_537 (v := Value.int (Int32.ofInt (S 128 17))) hR.c128 rfl ?_
                        refine i_180_540 ?_
                        refine i_180_541 (c := Int32.ofInt ((S 128 17) - 1)) (o_sub (S 128 17) 1) ?_
                        have hobj := hR.c128
                        obtain ⟨w, hrun, S98, V98, hR, hk98, ht98, hq98, hS98, hV98⟩ := s_put (d := d) (h := 151) (r := r) (e := (S 128 17) - 1) hR (iNw (h := 151) (by decide) (by decide) (by decide)) (by omega) (by omega) (by omega) (by omega) (by simpa [u2_e] using p0) (by simpa [u2_e] using p1) (by rw [show (uv (uv V 135 q) 151 1) 151 = 1 from uv_s]; decide) (by rw [show (uv (uv V 135 q) 151 1) 151 = 1 from uv_s]; decide)
                        rw [show (uv (uv V 135 q) 151 1) 151 = 1 from uv_s] at ht98 hq98
                        refine i_180_542 hobj (Nat.le_of_ble_eq_true rfl) hrun ?_
                        refine i_180_545 (x := 128) l0 ?_
                        refine i_180_546 (v := Value.ref 156) hR.c128 rfl ?_
                        refine i_180_549 (x := Int32.ofInt r) l1 ?_
                        refine i_180_550 (x := Int32.ofInt sg) l5 ?_
                        refine i_180_552z (v := Value.int (Int32.ofInt sg)) (hR.row a156) (ix0 (T := r) (by omega) (by omega)) (ix1 (T := r) (by omega) (by omega) (by omega)) (by decide) (nrb (by omega)) ?_
                        rw [ixn (T := r) (by omega) (by omega)]
                        refine xgen (P := mR w0 (u2 S98 156 ((r).toNat) sg) V98) (hR.arr a156 rfl) (fun w hR => ?_)
                        refine i_180_553 ?_
                        refine i_180_565 (x := 1) l16 ?_
                        refine i_180_567 (fun c => absurd c (by decide)) (fun _ => ?_)
                        refine i_180_570 ?_
                        refine i_180_571 ?_
                        refine i_180_575 rfl ?_
                        refine lgen1 (i := 14) (v := Value.int 1) (fun lv lg ls => ?_)
                        replace l16 := lg 16 _ rfl rfl l16
                        replace l15 := lg 15 _ rfl rfl l15
                        replace l0 := lg 0 _ rfl rfl l0
                        replace l1 := lg 1 _ rfl rfl l1
                        replace l2 := lg 2 _ rfl rfl l2
                        replace l4 := lg 4 _ rfl rfl l4
                        replace l5 := lg 5 _ rfl rfl l5
                        replace l6 := lg 6 _ rfl rfl l6
                        replace l7 := lg 7 _ rfl rfl l7
                        replace l8 := lg 8 _ rfl rfl l8
                        replace l9 := lg 9 _ rfl rfl l9
                        replace l13 := lg 13 _ rfl rfl l13
                        have l14 := ls
                        refine i_180_577 ?_
                        have eo : rD p (S 128 17) (S 128 18) (S 128 20) (S 128 21) sg mode x more (V h) q u way (S 128 19) = (3, (xbl 1 : Int) + ((S 128 17) - 1), nrm 1 p, 1, zor (S 128 19) 4) := by unfold rD; rw [if_neg (by omega), if_neg (by omega), if_pos (by omega), if_pos (by simp [upU, away, *])]
                        refine k _ _ _ _ _ eo.symm l0 l5 l8 l14 hR ?_
                        refine ⟨?_, ?_, ⟨fun _ => ⟨?_, ?_⟩, fun h => absurd rfl h⟩, ?_, ?_, ?_⟩
                        · simp [u2_e, hk98]
                        · simp [u2_e]
                        · rw [u2_e, if_neg (by omega)]; exact ht98
                        · simpa [u2_e, hp] using hq98
                        · rw [u2_e, if_neg (by omega)]; rw [hS98 _ _ (by omega) (by omega)]; simp [u2_e]
                        · intro a j g1 g2 g3 g4; rw [u2_e, if_neg g3]; rw [hS98 a j g1 g2]; rw [u2_e, if_neg g4]
                        · intro k g1 g2 g3 g4 g5; rw [hV98 k g2 g5, uv_n (by omega), uv_n (by omega)]
                      · refine i_180_500 (x := Int32.ofInt mode) l6 ?_
                        refine i_180_502 (z_ne (a := mode) ⟨by omega, by omega⟩ fun c98 => ?_) (z_eq (a := mode) ⟨by omega, by omega⟩ fun c98 => absurd c98 (by omega))
                        refine i_180_514 ?_
                        refine i_180_515 rfl ?_
                        refine lgen1 (i := 16) (v := Value.int 0) (fun lv lg ls => ?_)
                        replace l15 := lg 15 _ rfl rfl l15
                        replace l14 := lg 14 _ rfl rfl l14
                        replace l0 := lg 0 _ rfl rfl l0
                        replace l1 := lg 1 _ rfl rfl l1
                        replace l2 := lg 2 _ rfl rfl l2
                        replace l4 := lg 4 _ rfl rfl l4
                        replace l5 := lg 5 _ rfl rfl l5
                        replace l6 := lg 6 _ rfl rfl l6
                        replace l7 := lg 7 _ rfl rfl l7
                        replace l8 := lg 8 _ rfl rfl l8
                        replace l9 := lg 9 _ rfl rfl l9
                        replace l13 := lg 13 _ rfl rfl l13
                        have l16 := ls
                        refine i_180_517 (x := 0) l16 ?_
                        refine i_180_519 (fun _ => ?_) (fun c => absurd c (by decide))
                        refine i_180_556 (x := 128) l0 ?_
                        refine i_180_557 (x := Int32.ofInt r) l1 ?_
                        refine i_180_558 ?_
                        refine i_180_559 (x := Int32.ofInt sg) l5 ?_
                        have hobj := hR.c128
                        obtain ⟨w, hrun, hR⟩ := s_special (d := d + 2) (r := r) (k := 2) (s := sg) hR (by omega) (by omega) (by omega)
                        refine i_180_561 hobj (Nat.le_of_ble_eq_true rfl) hrun ?_
                        refine i_180_564 rfl ?_
                        refine i_180_565 (x := 0) l16 ?_
                        refine i_180_567 (fun _ => ?_) (fun c => absurd c (by decide))
                        refine i_180_574 ?_
                        refine i_180_575 rfl ?_
                        refine lgen1 (i := 14) (v := Value.int (-1)) (fun lv lg ls => ?_)
                        replace l16 := lg 16 _ rfl rfl l16
                        replace l15 := lg 15 _ rfl rfl l15
                        replace l0 := lg 0 _ rfl rfl l0
                        replace l1 := lg 1 _ rfl rfl l1
                        replace l2 := lg 2 _ rfl rfl l2
                        replace l4 := lg 4 _ rfl rfl l4
                        replace l5 := lg 5 _ rfl rfl l5
                        replace l6 := lg 6 _ rfl rfl l6
                        replace l7 := lg 7 _ rfl rfl l7
                        replace l8 := lg 8 _ rfl rfl l8
                        replace l9 := lg 9 _ rfl rfl l9
                        replace l13 := lg 13 _ rfl rfl l13
                        have l14 := ls
                        refine i_180_577 ?_
                        have eo : rD p (S 128 17) (S 128 18) (S 128 20) (S 128 21) sg mode x more (V h) q u way (S 128 19) = (2, 0, 0, (-1), zor (S 128 19) 4) := by unfold rD; rw [if_neg (by omega), if_neg (by omega), if_pos (by omega), if_neg (by simp [upU, away, *])]
                        refine k _ _ _ _ _ eo.symm l0 l5 l8 l14 hR ?_
                        refine ⟨by simp [u2_e], by simp [u2_e], ⟨fun h => absurd (show (2 : Int) = 3 from h) (by decide), fun _ => ⟨by simp [u2_e], by repeat rw [uv_n (by omega)]⟩⟩, by simp [u2_e], ?_, ?_⟩
                        · intro a j g1 g2 g3 g4; simp [u2_e, g1, g3, g4]
                        · intro k g1 g2 g3 g4 g5; rw [uv_n (by omega)]
                  · refine i_180_484 (x := Int32.ofInt sg) l5 ?_
                    refine i_180_486 (z_eq (a := sg) ⟨by omega, by omega⟩ fun c99 => ?_) (z_ne (a := sg) ⟨by omega, by omega⟩ fun c99 => ?_)
                    · refine i_180_510 ?_
                      refine i_180_511 ?_
                      refine i_180_515 rfl ?_
                      refine lgen1 (i := 16) (v := Value.int 1) (fun lv lg ls => ?_)
                      replace l15 := lg 15 _ rfl rfl l15
                      replace l14 := lg 14 _ rfl rfl l14
                      replace l0 := lg 0 _ rfl rfl l0
                      replace l1 := lg 1 _ rfl rfl l1
                      replace l2 := lg 2 _ rfl rfl l2
                      replace l4 := lg 4 _ rfl rfl l4
                      replace l5 := lg 5 _ rfl rfl l5
                      replace l6 := lg 6 _ rfl rfl l6
                      replace l7 := lg 7 _ rfl rfl l7
                      replace l8 := lg 8 _ rfl rfl l8
                      replace l9 := lg 9 _ rfl rfl l9
                      replace l13 := lg 13 _ rfl rfl l13
                      have l16 := ls
                      refine i_180_517 (x := 1) l16 ?_
                      refine i_180_519 (fun c => absurd c (by decide)) (fun _ => ?_)
                      refine i_180_522 (x := 128) l0 ?_
                      refine i_180_523 (v := Value.ref 151) hR.c128 rfl ?_
                      refine i_180_526 ?_
                      obtain ⟨fs, hobj⟩ := hR.obj (h := 151) (iNw (h := 151) (by decide) (by decide) (by decide))
                      obtain ⟨w, hrun, hR⟩ := r_setl (d := d + 1) (x := (1 : Int64)) (v := 1) hR (iNw (h := 151) (by decide) (by decide) (by decide)) rfl
                      refine i_180_527 hobj (Nat.le_of_ble_eq_true rfl) hrun ?_
                      refine i_180_530 (x := 128) l0 ?_
                      refine i_180_531 (x := Int32.ofInt r) l1 ?_
                      refine i_180_532 (x := 128) l0 ?_
                      refine i_180_533 (v := Value.ref 151) hR.c128 rfl ?_
                      refine i_180_536 (x := 128) l0 ?_
                      refine i_180_537 (v := Value.int (Int32.ofInt (S 128 17))) hR.c128 rfl ?_
                      refine i_180_540 ?_
                      refine i_180_541 (c := Int32.ofInt ((S 128 17) - 1)) (o_sub (S 128 17) 1) ?_
                      have hobj := hR.c128
                      obtain ⟨w, hrun, S101, V101, hR, hk101, ht101, hq101, hS101, hV101⟩ := s_put (d := d) (h := 151) (r := r) (e := (S 128 17) - 1) hR (iNw (h := 151) (by decide) (by decide) (by decide)) (by omega) (by omega) (by omega) (by omega) (by simpa [u2_e] using p0) (by simpa [u2_e] using p1) (by rw [show (uv (uv V 135 q) 151 1) 151 = 1 from uv_s]; decide) (by rw [show (uv (uv V 135 q) 151 1) 151 = 1 from uv_s]; decide)
                      rw [show (uv (uv V 135 q) 151 1) 151 = 1 from uv_s] at ht101 hq101
                      refine i_180_542 hobj (Nat.le_of_ble_eq_true rfl) hrun ?_
                      refine i_180_545 (x := 128) l0 ?_
                      refine i_180_546 (v := Value.ref 156) hR.c128 rfl ?_
                      refine i_180_549 (x := Int32.ofInt r) l1 ?_
                      refine i_180_550 (x := Int32.ofInt sg) l5 ?_
                      refine i_180_552z (v := Value.int (Int32.ofInt sg)) (hR.row a156) (ix0 (T := r) (by omega) (by omega)) (ix1 (T := r) (by omega) (by omega) (by omega)) (by decide) (nrb (by omega)) ?_
                      rw [ixn (T := r) (by omega) (by omega)]
                      refine xgen (P := mR w0 (u2 S101 156 ((r).toNat) sg) V101) (hR.arr a156 rfl) (fun w hR => ?_)
                      refine i_180_553 ?_
                      refine i_180_565 (x := 1) l16 ?_
                      refine i_180_567 (fun c => absurd c (by decide)) (fun _ => ?_)
                      refine i_180_570 ?_
                      refine i_180_571 ?_
                      refine i_180_575 rfl ?_
                      refine lgen1 (i := 14) (v := Value.int 1) (fun lv lg ls => ?_)
                      replace l16 := lg 16 _ rfl rfl l16
                      replace l15 := lg 15 _ rfl rfl l15
                      replace l0 := lg 0 _ rfl rfl l0
                      replace l1 := lg 1 _ rfl rfl l1
                      replace l2 := lg 2 _ rfl rfl l2
                      replace l4 := lg 4 _ rfl rfl l4
                      replace l5 := lg 5 _ rfl rfl l5
                      replace l6 := lg 6 _ rfl rfl l6
                      replace l7 := lg 7 _ rfl rfl l7
                      replace l8 := lg 8 _ rfl rfl l8
                      replace l9 := lg 9 _ rfl rfl l9
                      replace l13 := lg 13 _ rfl rfl l13
                      have l14 := ls
                      refine i_180_577 ?_
                      have eo : rD p (S 128 17) (S 128 18) (S 128 20) (S 128 21) sg mode x more (V h) q u way (S 128 19) = (3, (xbl 1 : Int) + ((S 128 17) - 1), nrm 1 p, 1, zor (S 128 19) 4) := by unfold rD; rw [if_neg (by omega), if_neg (by omega), if_pos (by omega), if_pos (by simp [upU, away, *])]
                      refine k _ _ _ _ _ eo.symm l0 l5 l8 l14 hR ?_
                      refine ⟨?_, ?_, ⟨fun _ => ⟨?_, ?_⟩, fun h => absurd rfl h⟩, ?_, ?_, ?_⟩
                      · simp [u2_e, hk101]
                      · simp [u2_e]
                      · rw [u2_e, if_neg (by omega)]; exact ht101
                      · simpa [u2_e, hp] using hq101
                      · rw [u2_e, if_neg (by omega)]; rw [hS101 _ _ (by omega) (by omega)]; simp [u2_e]
                      · intro a j g1 g2 g3 g4; rw [u2_e, if_neg g3]; rw [hS101 a j g1 g2]; rw [u2_e, if_neg g4]
                      · intro k g1 g2 g3 g4 g5; rw [hV101 k g2 g5, uv_n (by omega), uv_n (by omega)]
                    · refine i_180_489 (x := Int32.ofInt mode) l6 ?_
                      refine i_180_491 ?_
                      refine i_180_492 (b_ne (a := mode) (b := 3) ⟨by omega, by omega⟩ ⟨by decide, by decide⟩ fun c101 => ?_) (b_eq (a := mode) (b := 3) ⟨by omega, by omega⟩ ⟨by decide, by decide⟩ fun c101 => absurd c101 (by omega))
                      refine i_180_500 (x := Int32.ofInt mode) l6 ?_
                      refine i_180_502 (z_ne (a := mode) ⟨by omega, by omega⟩ fun c102 => ?_) (z_eq (a := mode) ⟨by omega, by omega⟩ fun c102 => absurd c102 (by omega))
                      refine i_180_514 ?_
                      refine i_180_515 rfl ?_
                      refine lgen1 (i := 16) (v := Value.int 0) (fun lv lg ls => ?_)
                      replace l15 := lg 15 _ rfl rfl l15
                      replace l14 := lg 14 _ rfl rfl l14
                      replace l0 := lg 0 _ rfl rfl l0
                      replace l1 := lg 1 _ rfl rfl l1
                      replace l2 := lg 2 _ rfl rfl l2
                      replace l4 := lg 4 _ rfl rfl l4
                      replace l5 := lg 5 _ rfl rfl l5
                      replace l6 := lg 6 _ rfl rfl l6
                      replace l7 := lg 7 _ rfl rfl l7
                      replace l8 := lg 8 _ rfl rfl l8
                      replace l9 := lg 9 _ rfl rfl l9
                      replace l13 := lg 13 _ rfl rfl l13
                      have l16 := ls
                      refine i_180_517 (x := 0) l16 ?_
                      refine i_180_519 (fun _ => ?_) (fun c => absurd c (by decide))
                      refine i_180_556 (x := 128) l0 ?_
                      refine i_180_557 (x := Int32.ofInt r) l1 ?_
                      refine i_180_558 ?_
                      refine i_180_559 (x := Int32.ofInt sg) l5 ?_
                      have hobj := hR.c128
                      obtain ⟨w, hrun, hR⟩ := s_special (d := d + 2) (r := r) (k := 2) (s := sg) hR (by omega) (by omega) (by omega)
                      refine i_180_561 hobj (Nat.le_of_ble_eq_true rfl) hrun ?_
                      refine i_180_564 rfl ?_
                      refine i_180_565 (x := 0) l16 ?_
                      refine i_180_567 (fun _ => ?_) (fun c => absurd c (by decide))
                      refine i_180_574 ?_
                      refine i_180_575 rfl ?_
                      refine lgen1 (i := 14) (v := Value.int (-1)) (fun lv lg ls => ?_)
                      replace l16 := lg 16 _ rfl rfl l16
                      replace l15 := lg 15 _ rfl rfl l15
                      replace l0 := lg 0 _ rfl rfl l0
                      replace l1 := lg 1 _ rfl rfl l1
                      replace l2 := lg 2 _ rfl rfl l2
                      replace l4 := lg 4 _ rfl rfl l4
                      replace l5 := lg 5 _ rfl rfl l5
                      replace l6 := lg 6 _ rfl rfl l6
                      replace l7 := lg 7 _ rfl rfl l7
                      replace l8 := lg 8 _ rfl rfl l8
                      replace l9 := lg 9 _ rfl rfl l9
                      replace l13 := lg 13 _ rfl rfl l13
                      have l14 := ls
                      refine i_180_577 ?_
                      have eo : rD p (S 128 17) (S 128 18) (S 128 20) (S 128 21) sg mode x more (V h) q u way (S 128 19) = (2, 0, 0, (-1), zor (S 128 19) 4) := by unfold rD; rw [if_neg (by omega), if_neg (by omega), if_pos (by omega), if_neg (by simp [upU, away, *])]
                      refine k _ _ _ _ _ eo.symm l0 l5 l8 l14 hR ?_
                      refine ⟨by simp [u2_e], by simp [u2_e], ⟨fun h => absurd (show (2 : Int) = 3 from h) (by decide), fun _ => ⟨by simp [u2_e], by repeat rw [uv_n (by omega)]⟩⟩, by simp [u2_e], ?_, ?_⟩
                      · intro a j g1 g2 g3 g4; simp [u2_e, g1, g3, g4]
                      · intro k g1 g2 g3 g4 g5; rw [uv_n (by omega)]
              · refine i_180_436 (x := Int32.ofInt x) l8 ?_
                refine i_180_438 (x := 128) l0 ?_
                refine i_180_439 (v := Value.int (Int32.ofInt (S 128 17))) hR.c128 rfl ?_
                refine i_180_442 ?_
                refine i_180_443 (c := Int32.ofInt ((S 128 17) - 1)) (o_sub (S 128 17) 1) ?_
                refine i_180_444 (b_ne (a := x) (b := (S 128 17) - 1) ⟨by omega, by omega⟩ ⟨by omega, by omega⟩ fun c103 => ?_) (b_eq (a := x) (b := (S 128 17) - 1) ⟨by omega, by omega⟩ ⟨by omega, by omega⟩ fun c103 => ?_)
                · refine i_180_469 ?_
                  refine i_180_470 rfl ?_
                  refine lgen1 (i := 15) (v := Value.int 0) (fun lv lg ls => ?_)
                  replace l14 := lg 14 _ rfl rfl l14
                  replace l0 := lg 0 _ rfl rfl l0
                  replace l1 := lg 1 _ rfl rfl l1
                  replace l2 := lg 2 _ rfl rfl l2
                  replace l4 := lg 4 _ rfl rfl l4
                  replace l5 := lg 5 _ rfl rfl l5
                  replace l6 := lg 6 _ rfl rfl l6
                  replace l7 := lg 7 _ rfl rfl l7
                  replace l8 := lg 8 _ rfl rfl l8
                  replace l9 := lg 9 _ rfl rfl l9
                  replace l13 := lg 13 _ rfl rfl l13
                  have l15 := ls
                  refine i_180_472 (x := Int32.ofInt mode) l6 ?_
                  refine i_180_474 ?_
                  refine i_180_475 (b_eq (a := mode) (b := 4) ⟨by omega, by omega⟩ ⟨by decide, by decide⟩ fun c104 => ?_) (b_ne (a := mode) (b := 4) ⟨by omega, by omega⟩ ⟨by decide, by decide⟩ fun c104 => ?_)
                  · refine i_180_510 ?_
                    refine i_180_511 ?_
                    refine i_180_515 rfl ?_
                    refine lgen1 (i := 16) (v := Value.int 1) (fun lv lg ls => ?_)
                    replace l15 := lg 15 _ rfl rfl l15
                    replace l14 := lg 14 _ rfl rfl l14
                    replace l0 := lg 0 _ rfl rfl l0
                    replace l1 := lg 1 _ rfl rfl l1
                    replace l2 := lg 2 _ rfl rfl l2
                    replace l4 := lg 4 _ rfl rfl l4
                    replace l5 := lg 5 _ rfl rfl l5
                    replace l6 := lg 6 _ rfl rfl l6
                    replace l7 := lg 7 _ rfl rfl l7
                    replace l8 := lg 8 _ rfl rfl l8
                    replace l9 := lg 9 _ rfl rfl l9
                    replace l13 := lg 13 _ rfl rfl l13
                    have l16 := ls
                    refine i_180_517 (x := 1) l16 ?_
                    refine i_180_519 (fun c => absurd c (by decide)) (fun _ => ?_)
                    refine i_180_522 (x := 128) l0 ?_
                    refine i_180_523 (v := Value.ref 151) hR.c128 rfl ?_
                    refine i_180_526 ?_
                    obtain ⟨fs, hobj⟩ := hR.obj (h := 151) (iNw (h := 151) (by decide) (by decide) (by decide))
                    obtain ⟨w, hrun, hR⟩ := r_setl (d := d + 1) (x := (1 : Int64)) (v := 1) hR (iNw (h := 151) (by decide) (by decide) (by decide)) rfl
                    refine i_180_527 hobj (Nat.le_of_ble_eq_true rfl) hrun ?_
                    refine i_180_530 (x := 128) l0 ?_
                    refine i_180_531 (x := Int32.ofInt r) l1 ?_
                    refine i_180_532 (x := 128) l0 ?_
                    refine i_180_533 (v := Value.ref 151) hR.c128 rfl ?_
                    refine i_180_536 (x := 128) l0 ?_
                    refine i_180_537 (v := Value.int (Int32.ofInt (S 128 17))) hR.c128 rfl ?_
                    refine i_180_540 ?_
                    refine i_180_541 (c := Int32.ofInt ((S 128 17) - 1)) (o_sub (S 128 17) 1) ?_
                    have hobj := hR.c128
                    obtain ⟨w, hrun, S106, V106, hR, hk106, ht106, hq106, hS106, hV106⟩ := s_put (d := d) (h := 151) (r := r) (e := (S 128 17) - 1) hR (iNw (h := 151) (by decide) (by decide) (by decide)) (by omega) (by omega) (by omega) (by omega) (by simpa [u2_e] using p0) (by simpa [u2_e] using p1) (by rw [show (uv (uv V 135 q) 151 1) 151 = 1 from uv_s]; decide) (by rw [show (uv (uv V 135 q) 151 1) 151 = 1 from uv_s]; decide)
                    rw [show (uv (uv V 135 q) 151 1) 151 = 1 from uv_s] at ht106 hq106
                    refine i_180_542 hobj (Nat.le_of_ble_eq_true rfl) hrun ?_
                    refine i_180_545 (x := 128) l0 ?_
                    refine i_180_546 (v := Value.ref 156) hR.c128 rfl ?_
                    refine i_180_549 (x := Int32.ofInt r) l1 ?_
                    refine i_180_550 (x := Int32.ofInt sg) l5 ?_
                    refine i_180_552z (v := Value.int (Int32.ofInt sg)) (hR.row a156) (ix0 (T := r) (by omega) (by omega)) (ix1 (T := r) (by omega) (by omega) (by omega)) (by decide) (nrb (by omega)) ?_
                    rw [ixn (T := r) (by omega) (by omega)]
                    refine xgen (P := mR w0 (u2 S106 156 ((r).toNat) sg) V106) (hR.arr a156 rfl) (fun w hR => ?_)
                    refine i_180_553 ?_
                    refine i_180_565 (x := 1) l16 ?_
                    refine i_180_567 (fun c => absurd c (by decide)) (fun _ => ?_)
                    refine i_180_570 ?_
                    refine i_180_571 ?_
                    refine i_180_575 rfl ?_
                    refine lgen1 (i := 14) (v := Value.int 1) (fun lv lg ls => ?_)
                    replace l16 := lg 16 _ rfl rfl l16
                    replace l15 := lg 15 _ rfl rfl l15
                    replace l0 := lg 0 _ rfl rfl l0
                    replace l1 := lg 1 _ rfl rfl l1
                    replace l2 := lg 2 _ rfl rfl l2
                    replace l4 := lg 4 _ rfl rfl l4
                    replace l5 := lg 5 _ rfl rfl l5
                    replace l6 := lg 6 _ rfl rfl l6
                    replace l7 := lg 7 _ rfl rfl l7
                    replace l8 := lg 8 _ rfl rfl l8
                    replace l9 := lg 9 _ rfl rfl l9
                    replace l13 := lg 13 _ rfl rfl l13
                    have l14 := ls
                    refine i_180_577 ?_
                    have eo : rD p (S 128 17) (S 128 18) (S 128 20) (S 128 21) sg mode x more (V h) q u way (S 128 19) = (3, (xbl 1 : Int) + ((S 128 17) - 1), nrm 1 p, 1, zor (S 128 19) 4) := by unfold rD; rw [if_neg (by omega), if_neg (by omega), if_pos (by omega), if_pos (by simp [upU, away, *])]
                    refine k _ _ _ _ _ eo.symm l0 l5 l8 l14 hR ?_
                    refine ⟨?_, ?_, ⟨fun _ => ⟨?_, ?_⟩, fun h => absurd rfl h⟩, ?_, ?_, ?_⟩
                    · simp [u2_e, hk106]
                    · simp [u2_e]
                    · rw [u2_e, if_neg (by omega)]; exact ht106
                    · simpa [u2_e, hp] using hq106
                    · rw [u2_e, if_neg (by omega)]; rw [hS106 _ _ (by omega) (by omega)]; simp [u2_e]
                    · intro a j g1 g2 g3 g4; rw [u2_e, if_neg g3]; rw [hS106 a j g1 g2]; rw [u2_e, if_neg g4]
                    · intro k g1 g2 g3 g4 g5; rw [hV106 k g2 g5, uv_n (by omega), uv_n (by omega)]
                  · refine i_180_478 (x := Int32.ofInt mode) l6 ?_
                    refine i_180_480 ?_
                    refine i_180_481 (b_ne (a := mode) (b := 2) ⟨by omega, by omega⟩ ⟨by decide, by decide⟩ fun c106 => ?_) (b_eq (a := mode) (b := 2) ⟨by omega, by omega⟩ ⟨by decide, by decide⟩ fun c106 => ?_)
                    · refine i_180_489 (x := Int32.ofInt mode) l6 ?_
                      refine i_180_491 ?_
                      refine i_180_492 (b_ne (a := mode) (b := 3) ⟨by omega, by omega⟩ ⟨by decide, by decide⟩ fun c107 => ?_) (b_eq (a := mode) (b := 3) ⟨by omega, by omega⟩ ⟨by decide, by decide⟩ fun c107 => ?_)
                      · refine i_180_500 (x := Int32.ofInt mode) l6 ?_
                        refine i_180_502 (z_ne (a := mode) ⟨by omega, by omega⟩ fun c108 => ?_) (z_eq (a := mode) ⟨by omega, by omega⟩ fun c108 => ?_)
                        · refine i_180_514 ?_
                          refine i_180_515 rfl ?_
                          refine lgen1 (i := 16) (v := Value.int 0) (fun lv lg ls => ?_)
                          replace l15 := lg 15 _ rfl rfl l15
                          replace l14 := lg 14 _ rfl rfl l14
                          replace l0 := lg 0 _ rfl rfl l0
                          replace l1 := lg 1 _ rfl rfl l1
                          replace l2 := lg 2 _ rfl rfl l2
                          replace l4 := lg 4 _ rfl rfl l4
                          replace l5 := lg 5 _ rfl rfl l5
                          replace l6 := lg 6 _ rfl rfl l6
                          replace l7 := lg 7 _ rfl rfl l7
                          replace l8 := lg 8 _ rfl rfl l8
                          replace l9 := lg 9 _ rfl rfl l9
                          replace l13 := lg 13 _ rfl rfl l13
                          have l16 := ls
                          refine i_180_517 (x := 0) l16 ?_
                          refine i_180_519 (fun _ => ?_) (fun c => absurd c (by decide))
                          refine i_180_556 (x := 128) l0 ?_
                          refine i_180_557 (x := Int32.ofInt r) l1 ?_
                          refine i_180_558 ?_
                          refine i_180_559 (x := Int32.ofInt sg) l5 ?_
                          have hobj := hR.c128
                          obtain ⟨w, hrun, hR⟩ := s_special (d := d + 2) (r := r) (k := 2) (s := sg) hR (by omega) (by omega) (by omega)
                          refine i_180_561 hobj (Nat.le_of_ble_eq_true rfl) hrun ?_
                          refine i_180_564 rfl ?_
                          refine i_180_565 (x := 0) l16 ?_
                          refine i_180_567 (fun _ => ?_) (fun c => absurd c (by decide))
                          refine i_180_574 ?_
                          refine i_180_575 rfl ?_
                          refine lgen1 (i := 14) (v := Value.int (-1)) (fun lv lg ls => ?_)
                          replace l16 := lg 16 _ rfl rfl l16
                          replace l15 := lg 15 _ rfl rfl l15
                          replace l0 := lg 0 _ rfl rfl l0
                          replace l1 := lg 1 _ rfl rfl l1
                          replace l2 := lg 2 _ rfl rfl l2
                          replace l4 := lg 4 _ rfl rfl l4
                          replace l5 := lg 5 _ rfl rfl l5
                          replace l6 := lg 6 _ rfl rfl l6
                          replace l7 := lg 7 _ rfl rfl l7
                          replace l8 := lg 8 _ rfl rfl l8
                          replace l9 := lg 9 _ rfl rfl l9
                          replace l13 := lg 13 _ rfl rfl l13
                          have l14 := ls
                          refine i_180_577 ?_
                          have eo : rD p (S 128 17) (S 128 18) (S 128 20) (S 128 21) sg mode x more (V h) q u way (S 128 19) = (2, 0, 0, (-1), zor (S 128 19) 4) := by unfold rD; rw [if_neg (by omega), if_neg (by omega), if_pos (by omega), if_neg (by simp [upU, away, *])]
                          refine k _ _ _ _ _ eo.symm l0 l5 l8 l14 hR ?_
                          refine ⟨by simp [u2_e], by simp [u2_e], ⟨fun h => absurd (show (2 : Int) = 3 from h) (by decide), fun _ => ⟨by simp [u2_e], by repeat rw [uv_n (by omega)]⟩⟩, by simp [u2_e], ?_, ?_⟩
                          · intro a j g1 g2 g3 g4; simp [u2_e, g1, g3, g4]
                          · intro k g1 g2 g3 g4 g5; rw [uv_n (by omega)]
                        · refine i_180_505 (x := 0) l15 ?_
                          refine i_180_507 (fun _ => ?_) (fun c => absurd c (by decide))
                          refine i_180_514 ?_
                          refine i_180_515 rfl ?_
                          refine lgen1 (i := 16) (v := Value.int 0) (fun lv lg ls => ?_)
                          replace l15 := lg 15 _ rfl rfl l15
                          replace l14 := lg 14 _ rfl rfl l14
                          replace l0 := lg 0 _ rfl rfl l0
                          replace l1 := lg 1 _ rfl rfl l1
                          replace l2 := lg 2 _ rfl rfl l2
                          replace l4 := lg 4 _ rfl rfl l4
                          replace l5 := lg 5 _ rfl rfl l5
                          replace l6 := lg 6 _ rfl rfl l6
                          replace l7 := lg 7 _ rfl rfl l7
                          replace l8 := lg 8 _ rfl rfl l8
                          replace l9 := lg 9 _ rfl rfl l9
                          replace l13 := lg 13 _ rfl rfl l13
                          have l16 := ls
                          refine i_180_517 (x := 0) l16 ?_
                          refine i_180_519 (fun _ => ?_) (fun c => absurd c (by decide))
                          refine i_180_556 (x := 128) l0 ?_
                          refine i_180_557 (x := Int32.ofInt r) l1 ?_
                          refine i_180_558 ?_
                          refine i_180_559 (x := Int32.ofInt sg) l5 ?_
                          have hobj := hR.c128
                          obtain ⟨w, hrun, hR⟩ := s_special (d := d + 2) (r := r) (k := 2) (s := sg) hR (by omega) (by omega) (by omega)
                          refine i_180_561 hobj (Nat.le_of_ble_eq_true rfl) hrun ?_
                          refine i_180_564 rfl ?_
                          refine i_180_565 (x := 0) l16 ?_
                          refine i_180_567 (fun _ => ?_) (fun c => absurd c (by decide))
                          refine i_180_574 ?_
                          refine i_180_575 rfl ?_
                          refine lgen1 (i := 14) (v := Value.int (-1)) (fun lv lg ls => ?_)
                          replace l16 := lg 16 _ rfl rfl l16
                          replace l15 := lg 15 _ rfl rfl l15
                          replace l0 := lg 0 _ rfl rfl l0
                          replace l1 := lg 1 _ rfl rfl l1
                          replace l2 := lg 2 _ rfl rfl l2
                          replace l4 := lg 4 _ rfl rfl l4
                          replace l5 := lg 5 _ rfl rfl l5
                          replace l6 := lg 6 _ rfl rfl l6
                          replace l7 := lg 7 _ rfl rfl l7
                          replace l8 := lg 8 _ rfl rfl l8
                          replace l9 := lg 9 _ rfl rfl l9
                          replace l13 := lg 13 _ rfl rfl l13
                          have l14 := ls
                          refine i_180_577 ?_
                          have eo : rD p (S 128 17) (S 128 18) (S 128 20) (S 128 21) sg mode x more (V h) q u way (S 128 19) = (2, 0, 0, (-1), zor (S 128 19) 4) := by unfold rD; rw [if_neg (by omega), if_neg (by omega), if_pos (by omega), if_neg (by simp [upU, away, *])]
                          refine k _ _ _ _ _ eo.symm l0 l5 l8 l14 hR ?_
                          refine ⟨by simp [u2_e], by simp [u2_e], ⟨fun h => absurd (show (2 : Int) = 3 from h) (by decide), fun _ => ⟨by simp [u2_e], by repeat rw [uv_n (by omega)]⟩⟩, by simp [u2_e], ?_, ?_⟩
                          · intro a j g1 g2 g3 g4; simp [u2_e, g1, g3, g4]
                          · intro k g1 g2 g3 g4 g5; rw [uv_n (by omega)]
                      · refine i_180_495 (x := Int32.ofInt sg) l5 ?_
                        refine i_180_497 (z_ne (a := sg) ⟨by omega, by omega⟩ fun c109 => ?_) (z_eq (a := sg) ⟨by omega, by omega⟩ fun c109 => ?_)
                        · refine i_180_510 ?_
                          refine i_180_511 ?_
                          refine i_180_515 rfl ?_
                          refine lgen1 (i := 16) (v := Value.int 1) (fun lv lg ls => ?_)
                          replace l15 := lg 15 _ rfl rfl l15
                          replace l14 := lg 14 _ rfl rfl l14
                          replace l0 := lg 0 _ rfl rfl l0
                          replace l1 := lg 1 _ rfl rfl l1
                          replace l2 := lg 2 _ rfl rfl l2
                          replace l4 := lg 4 _ rfl rfl l4
                          replace l5 := lg 5 _ rfl rfl l5
                          replace l6 := lg 6 _ rfl rfl l6
                          replace l7 := lg 7 _ rfl rfl l7
                          replace l8 := lg 8 _ rfl rfl l8
                          replace l9 := lg 9 _ rfl rfl l9
                          replace l13 := lg 13 _ rfl rfl l13
                          have l16 := ls
                          refine i_180_517 (x := 1) l16 ?_
                          refine i_180_519 (fun c => absurd c (by decide)) (fun _ => ?_)
                          refine i_180_522 (x := 128) l0 ?_
                          refine i_180_523 (v := Value.ref 151) hR.c128 rfl ?_
                          refine i_180_526 ?_
                          obtain ⟨fs, hobj⟩ := hR.obj (h := 151) (iNw (h := 151) (by decide) (by decide) (by decide))
                          obtain ⟨w, hrun, hR⟩ := r_setl (d := d + 1) (x := (1 : Int64)) (v := 1) hR (iNw (h := 151) (by decide) (by decide) (by decide)) rfl
                          refine i_180_527 hobj (Nat.le_of_ble_eq_true rfl) hrun ?_
                          refine i_180_530 (x := 128) l0 ?_
                          refine i_180_531 (x := Int32.ofInt r) l1 ?_
                          refine i_180_532 (x := 128) l0 ?_
                          refine i_180_533 (v := Value.ref 151) hR.c128 rfl ?_
                          refine i_180_536 (x := 128) l0 ?_
                          refine i_180_537 (v := Value.int (Int32.ofInt (S 128 17))) hR.c128 rfl ?_
                          refine i_180_540 ?_
                          refine i_180_541 (c := Int32.ofInt ((S 128 17) - 1)) (o_sub (S 128 17) 1) ?_
                          have hobj := hR.c128
                          obtain ⟨w, hrun, S111, V111, hR, hk111, ht111, hq111, hS111, hV111⟩ := s_put (d := d) (h := 151) (r := r) (e := (S 128 17) - 1) hR (iNw (h := 151) (by decide) (by decide) (by decide)) (by omega) (by omega) (by omega) (by omega) (by simpa [u2_e] using p0) (by simpa [u2_e] using p1) (by rw [show (uv (uv V 135 q) 151 1) 151 = 1 from uv_s]; decide) (by rw [show (uv (uv V 135 q) 151 1) 151 = 1 from uv_s]; decide)
                          rw [show (uv (uv V 135 q) 151 1) 151 = 1 from uv_s] at ht111 hq111
                          refine i_180_542 hobj (Nat.le_of_ble_eq_true rfl) hrun ?_
                          refine i_180_545 (x := 128) l0 ?_
                          refine i_180_546 (v := Value.ref 156) hR.c128 rfl ?_
                          refine i_180_549 (x := Int32.ofInt r) l1 ?_
                          refine i_180_550 (x := Int32.ofInt sg) l5 ?_
                          refine i_180_552z (v := Value.int (Int32.ofInt sg)) (hR.row a156) (ix0 (T := r) (by omega) (by omega)) (ix1 (T := r) (by omega) (by omega) (by omega)) (by decide) (nrb (by omega)) ?_
                          rw [ixn (T := r) (by omega) (by omega)]
                          refine xgen (P := mR w0 (u2 S111 156 ((r).toNat) sg) V111) (hR.arr a156 rfl) (fun w hR => ?_)
                          refine i_180_553 ?_
                          refine i_180_565 (x := 1) l16 ?_
                          refine i_180_567 (fun c => absurd c (by decide)) (fun _ => ?_)
                          refine i_180_570 ?_
                          refine i_180_571 ?_
                          refine i_180_575 rfl ?_
                          refine lgen1 (i := 14) (v := Value.int 1) (fun lv lg ls => ?_)
                          replace l16 := lg 16 _ rfl rfl l16
                          replace l15 := lg 15 _ rfl rfl l15
                          replace l0 := lg 0 _ rfl rfl l0
                          replace l1 := lg 1 _ rfl rfl l1
                          replace l2 := lg 2 _ rfl rfl l2
                          replace l4 := lg 4 _ rfl rfl l4
                          replace l5 := lg 5 _ rfl rfl l5
                          replace l6 := lg 6 _ rfl rfl l6
                          replace l7 := lg 7 _ rfl rfl l7
                          replace l8 := lg 8 _ rfl rfl l8
                          replace l9 := lg 9 _ rfl rfl l9
                          replace l13 := lg 13 _ rfl rfl l13
                          have l14 := ls
                          refine i_180_577 ?_
                          have eo : rD p (S 128 17) (S 128 18) (S 128 20) (S 128 21) sg mode x more (V h) q u way (S 128 19) = (3, (xbl 1 : Int) + ((S 128 17) - 1), nrm 1 p, 1, zor (S 128 19) 4) := by unfold rD; rw [if_neg (by omega), if_neg (by omega), if_pos (by omega), if_pos (by simp [upU, away, *])]
                          refine k _ _ _ _ _ eo.symm l0 l5 l8 l14 hR ?_
                          refine ⟨?_, ?_, ⟨fun _ => ⟨?_, ?_⟩, fun h => absurd rfl h⟩, ?_, ?_, ?_⟩
                          · simp [u2_e, hk111]
                          · simp [u2_e]
                          · rw [u2_e, if_neg (by omega)]; exact ht111
                          · simpa [u2_e, hp] using hq111
                          · rw [u2_e, if_neg (by omega)]; rw [hS111 _ _ (by omega) (by omega)]; simp [u2_e]
                          · intro a j g1 g2 g3 g4; rw [u2_e, if_neg g3]; rw [hS111 a j g1 g2]; rw [u2_e, if_neg g4]
                          · intro k g1 g2 g3 g4 g5; rw [hV111 k g2 g5, uv_n (by omega), uv_n (by omega)]
                        · refine i_180_500 (x := Int32.ofInt mode) l6 ?_
                          refine i_180_502 (z_ne (a := mode) ⟨by omega, by omega⟩ fun c111 => ?_) (z_eq (a := mode) ⟨by omega, by omega⟩ fun c111 => absurd c111 (by omega))
                          refine i_180_514 ?_
                          refine i_180_515 rfl ?_
                          refine lgen1 (i := 16) (v := Value.int 0) (fun lv lg ls => ?_)
                          replace l15 := lg 15 _ rfl rfl l15
                          replace l14 := lg 14 _ rfl rfl l14
                          replace l0 := lg 0 _ rfl rfl l0
                          replace l1 := lg 1 _ rfl rfl l1
                          replace l2 := lg 2 _ rfl rfl l2
                          replace l4 := lg 4 _ rfl rfl l4
                          replace l5 := lg 5 _ rfl rfl l5
                          replace l6 := lg 6 _ rfl rfl l6
                          replace l7 := lg 7 _ rfl rfl l7
                          replace l8 := lg 8 _ rfl rfl l8
                          replace l9 := lg 9 _ rfl rfl l9
                          replace l13 := lg 13 _ rfl rfl l13
                          have l16 := ls
                          refine i_180_517 (x := 0) l16 ?_
                          refine i_180_519 (fun _ => ?_) (fun c => absurd c (by decide))
                          refine i_180_556 (x := 128) l0 ?_
                          refine i_180_557 (x := Int32.ofInt r) l1 ?_
                          refine i_180_558 ?_
                          refine i_180_559 (x := Int32.ofInt sg) l5 ?_
                          have hobj := hR.c128
                          obtain ⟨w, hrun, hR⟩ := s_special (d := d + 2) (r := r) (k := 2) (s := sg) hR (by omega) (by omega) (by omega)
                          refine i_180_561 hobj (Nat.le_of_ble_eq_true rfl) hrun ?_
                          refine i_180_564 rfl ?_
                          refine i_180_565 (x := 0) l16 ?_
                          refine i_180_567 (fun _ => ?_) (fun c => absurd c (by decide))
                          refine i_180_574 ?_
                          refine i_180_575 rfl ?_
                          refine lgen1 (i := 14) (v := Value.int (-1)) (fun lv lg ls => ?_)
                          replace l16 := lg 16 _ rfl rfl l16
                          replace l15 := lg 15 _ rfl rfl l15
                          replace l0 := lg 0 _ rfl rfl l0
                          replace l1 := lg 1 _ rfl rfl l1
                          replace l2 := lg 2 _ rfl rfl l2
                          replace l4 := lg 4 _ rfl rfl l4
                          replace l5 := lg 5 _ rfl rfl l5
                          replace l6 := lg 6 _ rfl rfl l6
                          replace l7 := lg 7 _ rfl rfl l7
                          replace l8 := lg 8 _ rfl rfl l8
                          replace l9 := lg 9 _ rfl rfl l9
                          replace l13 := lg 13 _ rfl rfl l13
                          have l14 := ls
                          refine i_180_577 ?_
                          have eo : rD p (S 128 17) (S 128 18) (S 128 20) (S 128 21) sg mode x more (V h) q u way (S 128 19) = (2, 0, 0, (-1), zor (S 128 19) 4) := by unfold rD; rw [if_neg (by omega), if_neg (by omega), if_pos (by omega), if_neg (by simp [upU, away, *])]
                          refine k _ _ _ _ _ eo.symm l0 l5 l8 l14 hR ?_
                          refine ⟨by simp [u2_e], by simp [u2_e], ⟨fun h => absurd (show (2 : Int) = 3 from h) (by decide), fun _ => ⟨by simp [u2_e], by repeat rw [uv_n (by omega)]⟩⟩, by simp [u2_e], ?_, ?_⟩
                          · intro a j g1 g2 g3 g4; simp [u2_e, g1, g3, g4]
                          · intro k g1 g2 g3 g4 g5; rw [uv_n (by omega)]
                    · refine i_180_484 (x := Int32.ofInt sg) l5 ?_
                      refine i_180_486 (z_eq (a := sg) ⟨by omega, by omega⟩ fun c112 => ?_) (z_ne (a := sg) ⟨by omega, by omega⟩ fun c112 => ?_)
                      · refine i_180_510 ?_
                        refine i_180_511 ?_
                        refine i_180_515 rfl ?_
                        refine lgen1 (i := 16) (v := Value.int 1) (fun lv lg ls => ?_)
                        replace l15 := lg 15 _ rfl rfl l15
                        replace l14 := lg 14 _ rfl rfl l14
                        replace l0 := lg 0 _ rfl rfl l0
                        replace l1 := lg 1 _ rfl rfl l1
                        replace l2 := lg 2 _ rfl rfl l2
                        replace l4 := lg 4 _ rfl rfl l4
                        replace l5 := lg 5 _ rfl rfl l5
                        replace l6 := lg 6 _ rfl rfl l6
                        replace l7 := lg 7 _ rfl rfl l7
                        replace l8 := lg 8 _ rfl rfl l8
                        replace l9 := lg 9 _ rfl rfl l9
                        replace l13 := lg 13 _ rfl rfl l13
                        have l16 := ls
                        refine i_180_517 (x := 1) l16 ?_
                        refine i_180_519 (fun c => absurd c (by decide)) (fun _ => ?_)
                        refine i_180_522 (x := 128) l0 ?_
                        refine i_180_523 (v := Value.ref 151) hR.c128 rfl ?_
                        refine i_180_526 ?_
                        obtain ⟨fs, hobj⟩ := hR.obj (h := 151) (iNw (h := 151) (by decide) (by decide) (by decide))
                        obtain ⟨w, hrun, hR⟩ := r_setl (d := d + 1) (x := (1 : Int64)) (v := 1) hR (iNw (h := 151) (by decide) (by decide) (by decide)) rfl
                        refine i_180_527 hobj (Nat.le_of_ble_eq_true rfl) hrun ?_
                        refine i_180_530 (x := 128) l0 ?_
                        refine i_180_531 (x := Int32.ofInt r) l1 ?_
                        refine i_180_532 (x := 128) l0 ?_
                        refine i_180_533 (v := Value.ref 151) hR.c128 rfl ?_
                        refine i_180_536 (x := 128) l0 ?_
                        refine i_180_537 (v := Value.int (Int32.ofInt (S 128 17))) hR.c128 rfl ?_
                        refine i_180_540 ?_
                        refine i_180_541 (c := Int32.ofInt ((S 128 17) - 1)) (o_sub (S 128 17) 1) ?_
                        have hobj := hR.c128
                        obtain ⟨w, hrun, S114, V114, hR, hk114, ht114, hq114, hS114, hV114⟩ := s_put (d := d) (h := 151) (r := r) (e := (S 128 17) - 1) hR (iNw (h := 151) (by decide) (by decide) (by decide)) (by omega) (by omega) (by omega) (by omega) (by simpa [u2_e] using p0) (by simpa [u2_e] using p1) (by rw [show (uv (uv V 135 q) 151 1) 151 = 1 from uv_s]; decide) (by rw [show (uv (uv V 135 q) 151 1) 151 = 1 from uv_s]; decide)
                        rw [show (uv (uv V 135 q) 151 1) 151 = 1 from uv_s] at ht114 hq114
                        refine i_180_542 hobj (Nat.le_of_ble_eq_true rfl) hrun ?_
                        refine i_180_545 (x := 128) l0 ?_
                        refine i_180_546 (v := Value.ref 156) hR.c128 rfl ?_
                        refine i_180_549 (x := Int32.ofInt r) l1 ?_
                        refine i_180_550 (x := Int32.ofInt sg) l5 ?_
                        refine i_180_552z (v := Value.int (Int32.ofInt sg)) (hR.row a156) (ix0 (T := r) (by omega) (by omega)) (ix1 (T := r) (by omega) (by omega) (by omega)) (by decide) (nrb (by omega)) ?_
                        rw [ixn (T := r) (by omega) (by omega)]
                        refine xgen (P := mR w0 (u2 S114 156 ((r).toNat) sg) V114) (hR.arr a156 rfl) (fun w hR => ?_)
                        refine i_180_553 ?_
                        refine i_180_565 (x := 1) l16 ?_
                        refine i_180_567 (fun c => absurd c (by decide)) (fun _ => ?_)
                        refine i_180_570 ?_
                        refine i_180_571 ?_
                        refine i_180_575 rfl ?_
                        refine lgen1 (i := 14) (v := Value.int 1) (fun lv lg ls => ?_)
                        replace l16 := lg 16 _ rfl rfl l16
                        replace l15 := lg 15 _ rfl rfl l15
                        replace l0 := lg 0 _ rfl rfl l0
                        replace l1 := lg 1 _ rfl rfl l1
                        replace l2 := lg 2 _ rfl rfl l2
                        replace l4 := lg 4 _ rfl rfl l4
                        replace l5 := lg 5 _ rfl rfl l5
                        replace l6 := lg 6 _ rfl rfl l6
                        replace l7 := lg 7 _ rfl rfl l7
                        replace l8 := lg 8 _ rfl rfl l8
                        replace l9 := lg 9 _ rfl rfl l9
                        replace l13 := lg 13 _ rfl rfl l13
                        have l14 := ls
                        refine i_180_577 ?_
                        have eo : rD p (S 128 17) (S 128 18) (S 128 20) (S 128 21) sg mode x more (V h) q u way (S 128 19) = (3, (xbl 1 : Int) + ((S 128 17) - 1), nrm 1 p, 1, zor (S 128 19) 4) := by unfold rD; rw [if_neg (by omega), if_neg (by omega), if_pos (by omega), if_pos (by simp [upU, away, *])]
                        refine k _ _ _ _ _ eo.symm l0 l5 l8 l14 hR ?_
                        refine ⟨?_, ?_, ⟨fun _ => ⟨?_, ?_⟩, fun h => absurd rfl h⟩, ?_, ?_, ?_⟩
                        · simp [u2_e, hk114]
                        · simp [u2_e]
                        · rw [u2_e, if_neg (by omega)]; exact ht114
                        · simpa [u2_e, hp] using hq114
                        · rw [u2_e, if_neg (by omega)]; rw [hS114 _ _ (by omega) (by omega)]; simp [u2_e]
                        · intro a j g1 g2 g3 g4; rw [u2_e, if_neg g3]; rw [hS114 a j g1 g2]; rw [u2_e, if_neg g4]
                        · intro k g1 g2 g3 g4 g5; rw [hV114 k g2 g5, uv_n (by omega), uv_n (by omega)]
                      · refine i_180_489 (x := Int32.ofInt mode) l6 ?_
                        refine i_180_491 ?_
                        refine i_180_492 (b_ne (a := mode) (b := 3) ⟨by omega, by omega⟩ ⟨by decide, by decide⟩ fun c114 => ?_) (b_eq (a := mode) (b := 3) ⟨by omega, by omega⟩ ⟨by decide, by decide⟩ fun c114 => absurd c114 (by omega))
                        refine i_180_500 (x := Int32.ofInt mode) l6 ?_
                        refine i_180_502 (z_ne (a := mode) ⟨by omega, by omega⟩ fun c115 => ?_) (z_eq (a := mode) ⟨by omega, by omega⟩ fun c115 => absurd c115 (by omega))
                        refine i_180_514 ?_
                        refine i_180_515 rfl ?_
                        refine lgen1 (i := 16) (v := Value.int 0) (fun lv lg ls => ?_)
                        replace l15 := lg 15 _ rfl rfl l15
                        replace l14 := lg 14 _ rfl rfl l14
                        replace l0 := lg 0 _ rfl rfl l0
                        replace l1 := lg 1 _ rfl rfl l1
                        replace l2 := lg 2 _ rfl rfl l2
                        replace l4 := lg 4 _ rfl rfl l4
                        replace l5 := lg 5 _ rfl rfl l5
                        replace l6 := lg 6 _ rfl rfl l6
                        replace l7 := lg 7 _ rfl rfl l7
                        replace l8 := lg 8 _ rfl rfl l8
                        replace l9 := lg 9 _ rfl rfl l9
                        replace l13 := lg 13 _ rfl rfl l13
                        have l16 := ls
                        refine i_180_517 (x := 0) l16 ?_
                        refine i_180_519 (fun _ => ?_) (fun c => absurd c (by decide))
                        refine i_180_556 (x := 128) l0 ?_
                        refine i_180_557 (x := Int32.ofInt r) l1 ?_
                        refine i_180_558 ?_
                        refine i_180_559 (x := Int32.ofInt sg) l5 ?_
                        have hobj := hR.c128
                        obtain ⟨w, hrun, hR⟩ := s_special (d := d + 2) (r := r) (k := 2) (s := sg) hR (by omega) (by omega) (by omega)
                        refine i_180_561 hobj (Nat.le_of_ble_eq_true rfl) hrun ?_
                        refine i_180_564 rfl ?_
                        refine i_180_565 (x := 0) l16 ?_
                        refine i_180_567 (fun _ => ?_) (fun c => absurd c (by decide))
                        refine i_180_574 ?_
                        refine i_180_575 rfl ?_
                        refine lgen1 (i := 14) (v := Value.int (-1)) (fun lv lg ls => ?_)
                        replace l16 := lg 16 _ rfl rfl l16
                        replace l15 := lg 15 _ rfl rfl l15
                        replace l0 := lg 0 _ rfl rfl l0
                        replace l1 := lg 1 _ rfl rfl l1
                        replace l2 := lg 2 _ rfl rfl l2
                        replace l4 := lg 4 _ rfl rfl l4
                        replace l5 := lg 5 _ rfl rfl l5
                        replace l6 := lg 6 _ rfl rfl l6
                        replace l7 := lg 7 _ rfl rfl l7
                        replace l8 := lg 8 _ rfl rfl l8
                        replace l9 := lg 9 _ rfl rfl l9
                        replace l13 := lg 13 _ rfl rfl l13
                        have l14 := ls
                        refine i_180_577 ?_
                        have eo : rD p (S 128 17) (S 128 18) (S 128 20) (S 128 21) sg mode x more (V h) q u way (S 128 19) = (2, 0, 0, (-1), zor (S 128 19) 4) := by unfold rD; rw [if_neg (by omega), if_neg (by omega), if_pos (by omega), if_neg (by simp [upU, away, *])]
                        refine k _ _ _ _ _ eo.symm l0 l5 l8 l14 hR ?_
                        refine ⟨by simp [u2_e], by simp [u2_e], ⟨fun h => absurd (show (2 : Int) = 3 from h) (by decide), fun _ => ⟨by simp [u2_e], by repeat rw [uv_n (by omega)]⟩⟩, by simp [u2_e], ?_, ?_⟩
                        · intro a j g1 g2 g3 g4; simp [u2_e, g1, g3, g4]
                        · intro k g1 g2 g3 g4 g5; rw [uv_n (by omega)]
                · refine i_180_447 (x := Int32.ofInt more) l4 ?_
                  refine i_180_449 (z_ne (a := more) ⟨by omega, by omega⟩ fun c116 => ?_) (z_eq (a := more) ⟨by omega, by omega⟩ fun c116 => ?_)
                  · refine i_180_465 ?_
                    refine i_180_466 ?_
                    refine i_180_470 rfl ?_
                    refine lgen1 (i := 15) (v := Value.int 1) (fun lv lg ls => ?_)
                    replace l14 := lg 14 _ rfl rfl l14
                    replace l0 := lg 0 _ rfl rfl l0
                    replace l1 := lg 1 _ rfl rfl l1
                    replace l2 := lg 2 _ rfl rfl l2
                    replace l4 := lg 4 _ rfl rfl l4
                    replace l5 := lg 5 _ rfl rfl l5
                    replace l6 := lg 6 _ rfl rfl l6
                    replace l7 := lg 7 _ rfl rfl l7
                    replace l8 := lg 8 _ rfl rfl l8
                    replace l9 := lg 9 _ rfl rfl l9
                    replace l13 := lg 13 _ rfl rfl l13
                    have l15 := ls
                    refine i_180_472 (x := Int32.ofInt mode) l6 ?_
                    refine i_180_474 ?_
                    refine i_180_475 (b_eq (a := mode) (b := 4) ⟨by omega, by omega⟩ ⟨by decide, by decide⟩ fun c117 => ?_) (b_ne (a := mode) (b := 4) ⟨by omega, by omega⟩ ⟨by decide, by decide⟩ fun c117 => ?_)
                    · refine i_180_510 ?_
                      refine i_180_511 ?_
                      refine i_180_515 rfl ?_
                      refine lgen1 (i := 16) (v := Value.int 1) (fun lv lg ls => ?_)
                      replace l15 := lg 15 _ rfl rfl l15
                      replace l14 := lg 14 _ rfl rfl l14
                      replace l0 := lg 0 _ rfl rfl l0
                      replace l1 := lg 1 _ rfl rfl l1
                      replace l2 := lg 2 _ rfl rfl l2
                      replace l4 := lg 4 _ rfl rfl l4
                      replace l5 := lg 5 _ rfl rfl l5
                      replace l6 := lg 6 _ rfl rfl l6
                      replace l7 := lg 7 _ rfl rfl l7
                      replace l8 := lg 8 _ rfl rfl l8
                      replace l9 := lg 9 _ rfl rfl l9
                      replace l13 := lg 13 _ rfl rfl l13
                      have l16 := ls
                      refine i_180_517 (x := 1) l16 ?_
                      refine i_180_519 (fun c => absurd c (by decide)) (fun _ => ?_)
                      refine i_180_522 (x := 128) l0 ?_
                      refine i_180_523 (v := Value.ref 151) hR.c128 rfl ?_
                      refine i_180_526 ?_
                      obtain ⟨fs, hobj⟩ := hR.obj (h := 151) (iNw (h := 151) (by decide) (by decide) (by decide))
                      obtain ⟨w, hrun, hR⟩ := r_setl (d := d + 1) (x := (1 : Int64)) (v := 1) hR (iNw (h := 151) (by decide) (by decide) (by decide)) rfl
                      refine i_180_527 hobj (Nat.le_of_ble_eq_true rfl) hrun ?_
                      refine i_180_530 (x := 128) l0 ?_
                      refine i_180_531 (x := Int32.ofInt r) l1 ?_
                      refine i_180_532 (x := 128) l0 ?_
                      refine i_180_533 (v := Value.ref 151) hR.c128 rfl ?_
                      refine i_180_536 (x := 128) l0 ?_
                      refine i_180_537 (v := Value.int (Int32.ofInt (S 128 17))) hR.c128 rfl ?_
                      refine i_180_540 ?_
                      refine i_180_541 (c := Int32.ofInt ((S 128 17) - 1)) (o_sub (S 128 17) 1) ?_
                      have hobj := hR.c128
                      obtain ⟨w, hrun, S119, V119, hR, hk119, ht119, hq119, hS119, hV119⟩ := s_put (d := d) (h := 151) (r := r) (e := (S 128 17) - 1) hR (iNw (h := 151) (by decide) (by decide) (by decide)) (by omega) (by omega) (by omega) (by omega) (by simpa [u2_e] using p0) (by simpa [u2_e] using p1) (by rw [show (uv (uv V 135 q) 151 1) 151 = 1 from uv_s]; decide) (by rw [show (uv (uv V 135 q) 151 1) 151 = 1 from uv_s]; decide)
                      rw [show (uv (uv V 135 q) 151 1) 151 = 1 from uv_s] at ht119 hq119
                      refine i_180_542 hobj (Nat.le_of_ble_eq_true rfl) hrun ?_
                      refine i_180_545 (x := 128) l0 ?_
                      refine i_180_546 (v := Value.ref 156) hR.c128 rfl ?_
                      refine i_180_549 (x := Int32.ofInt r) l1 ?_
                      refine i_180_550 (x := Int32.ofInt sg) l5 ?_
                      refine i_180_552z (v := Value.int (Int32.ofInt sg)) (hR.row a156) (ix0 (T := r) (by omega) (by omega)) (ix1 (T := r) (by omega) (by omega) (by omega)) (by decide) (nrb (by omega)) ?_
                      rw [ixn (T := r) (by omega) (by omega)]
                      refine xgen (P := mR w0 (u2 S119 156 ((r).toNat) sg) V119) (hR.arr a156 rfl) (fun w hR => ?_)
                      refine i_180_553 ?_
                      refine i_180_565 (x := 1) l16 ?_
                      refine i_180_567 (fun c => absurd c (by decide)) (fun _ => ?_)
                      refine i_180_570 ?_
                      refine i_180_571 ?_
                      refine i_180_575 rfl ?_
                      refine lgen1 (i := 14) (v := Value.int 1) (fun lv lg ls => ?_)
                      replace l16 := lg 16 _ rfl rfl l16
                      replace l15 := lg 15 _ rfl rfl l15
                      replace l0 := lg 0 _ rfl rfl l0
                      replace l1 := lg 1 _ rfl rfl l1
                      replace l2 := lg 2 _ rfl rfl l2
                      replace l4 := lg 4 _ rfl rfl l4
                      replace l5 := lg 5 _ rfl rfl l5
                      replace l6 := lg 6 _ rfl rfl l6
                      replace l7 := lg 7 _ rfl rfl l7
                      replace l8 := lg 8 _ rfl rfl l8
                      replace l9 := lg 9 _ rfl rfl l9
                      replace l13 := lg 13 _ rfl rfl l13
                      have l14 := ls
                      refine i_180_577 ?_
                      have eo : rD p (S 128 17) (S 128 18) (S 128 20) (S 128 21) sg mode x more (V h) q u way (S 128 19) = (3, (xbl 1 : Int) + ((S 128 17) - 1), nrm 1 p, 1, zor (S 128 19) 4) := by unfold rD; rw [if_neg (by omega), if_neg (by omega), if_pos (by omega), if_pos (by simp [upU, away, *])]
                      refine k _ _ _ _ _ eo.symm l0 l5 l8 l14 hR ?_
                      refine ⟨?_, ?_, ⟨fun _ => ⟨?_, ?_⟩, fun h => absurd rfl h⟩, ?_, ?_, ?_⟩
                      · simp [u2_e, hk119]
                      · simp [u2_e]
                      · rw [u2_e, if_neg (by omega)]; exact ht119
                      · simpa [u2_e, hp] using hq119
                      · rw [u2_e, if_neg (by omega)]; rw [hS119 _ _ (by omega) (by omega)]; simp [u2_e]
                      · intro a j g1 g2 g3 g4; rw [u2_e, if_neg g3]; rw [hS119 a j g1 g2]; rw [u2_e, if_neg g4]
                      · intro k g1 g2 g3 g4 g5; rw [hV119 k g2 g5, uv_n (by omega), uv_n (by omega)]
                    · refine i_180_478 (x := Int32.ofInt mode) l6 ?_
                      refine i_180_480 ?_
                      refine i_180_481 (b_ne (a := mode) (b := 2) ⟨by omega, by omega⟩ ⟨by decide, by decide⟩ fun c119 => ?_) (b_eq (a := mode) (b := 2) ⟨by omega, by omega⟩ ⟨by decide, by decide⟩ fun c119 => ?_)
                      · refine i_180_489 (x := Int32.ofInt mode) l6 ?_
                        refine i_180_491 ?_
                        refine i_180_492 (b_ne (a := mode) (b := 3) ⟨by omega, by omega⟩ ⟨by decide, by decide⟩ fun c120 => ?_) (b_eq (a := mode) (b := 3) ⟨by omega, by omega⟩ ⟨by decide, by decide⟩ fun c120 => ?_)
                        · refine i_180_500 (x := Int32.ofInt mode) l6 ?_
                          refine i_180_502 (z_ne (a := mode) ⟨by omega, by omega⟩ fun c121 => ?_) (z_eq (a := mode) ⟨by omega, by omega⟩ fun c121 => ?_)
                          · refine i_180_514 ?_
                            refine i_180_515 rfl ?_
                            refine lgen1 (i := 16) (v := Value.int 0) (fun lv lg ls => ?_)
                            replace l15 := lg 15 _ rfl rfl l15
                            replace l14 := lg 14 _ rfl rfl l14
                            replace l0 := lg 0 _ rfl rfl l0
                            replace l1 := lg 1 _ rfl rfl l1
                            replace l2 := lg 2 _ rfl rfl l2
                            replace l4 := lg 4 _ rfl rfl l4
                            replace l5 := lg 5 _ rfl rfl l5
                            replace l6 := lg 6 _ rfl rfl l6
                            replace l7 := lg 7 _ rfl rfl l7
                            replace l8 := lg 8 _ rfl rfl l8
                            replace l9 := lg 9 _ rfl rfl l9
                            replace l13 := lg 13 _ rfl rfl l13
                            have l16 := ls
                            refine i_180_517 (x := 0) l16 ?_
                            refine i_180_519 (fun _ => ?_) (fun c => absurd c (by decide))
                            refine i_180_556 (x := 128) l0 ?_
                            refine i_180_557 (x := Int32.ofInt r) l1 ?_
                            refine i_180_558 ?_
                            refine i_180_559 (x := Int32.ofInt sg) l5 ?_
                            have hobj := hR.c128
                            obtain ⟨w, hrun, hR⟩ := s_special (d := d + 2) (r := r) (k := 2) (s := sg) hR (by omega) (by omega) (by omega)
                            refine i_180_561 hobj (Nat.le_of_ble_eq_true rfl) hrun ?_
                            refine i_180_564 rfl ?_
                            refine i_180_565 (x := 0) l16 ?_
                            refine i_180_567 (fun _ => ?_) (fun c => absurd c (by decide))
                            refine i_180_574 ?_
                            refine i_180_575 rfl ?_
                            refine lgen1 (i := 14) (v := Value.int (-1)) (fun lv lg ls => ?_)
                            replace l16 := lg 16 _ rfl rfl l16
                            replace l15 := lg 15 _ rfl rfl l15
                            replace l0 := lg 0 _ rfl rfl l0
                            replace l1 := lg 1 _ rfl rfl l1
                            replace l2 := lg 2 _ rfl rfl l2
                            replace l4 := lg 4 _ rfl rfl l4
                            replace l5 := lg 5 _ rfl rfl l5
                            replace l6 := lg 6 _ rfl rfl l6
                            replace l7 := lg 7 _ rfl rfl l7
                            replace l8 := lg 8 _ rfl rfl l8
                            replace l9 := lg 9 _ rfl rfl l9
                            replace l13 := lg 13 _ rfl rfl l13
                            have l14 := ls
                            refine i_180_577 ?_
                            have eo : rD p (S 128 17) (S 128 18) (S 128 20) (S 128 21) sg mode x more (V h) q u way (S 128 19) = (2, 0, 0, (-1), zor (S 128 19) 4) := by unfold rD; rw [if_neg (by omega), if_neg (by omega), if_pos (by omega), if_neg (by simp [upU, away, *])]
                            refine k _ _ _ _ _ eo.symm l0 l5 l8 l14 hR ?_
                            refine ⟨by simp [u2_e], by simp [u2_e], ⟨fun h => absurd (show (2 : Int) = 3 from h) (by decide), fun _ => ⟨by simp [u2_e], by repeat rw [uv_n (by omega)]⟩⟩, by simp [u2_e], ?_, ?_⟩
                            · intro a j g1 g2 g3 g4; simp [u2_e, g1, g3, g4]
                            · intro k g1 g2 g3 g4 g5; rw [uv_n (by omega)]
                          · refine i_180_505 (x := 1) l15 ?_
                            refine i_180_507 (fun c => absurd c (by decide)) (fun _ => ?_)
                            refine i_180_510 ?_
                            refine i_180_511 ?_
                            refine i_180_515 rfl ?_
                            refine lgen1 (i := 16) (v := Value.int 1) (fun lv lg ls => ?_)
                            replace l15 := lg 15 _ rfl rfl l15
                            replace l14 := lg 14 _ rfl rfl l14
                            replace l0 := lg 0 _ rfl rfl l0
                            replace l1 := lg 1 _ rfl rfl l1
                            replace l2 := lg 2 _ rfl rfl l2
                            replace l4 := lg 4 _ rfl rfl l4
                            replace l5 := lg 5 _ rfl rfl l5
                            replace l6 := lg 6 _ rfl rfl l6
                            replace l7 := lg 7 _ rfl rfl l7
                            replace l8 := lg 8 _ rfl rfl l8
                            replace l9 := lg 9 _ rfl rfl l9
                            replace l13 := lg 13 _ rfl rfl l13
                            have l16 := ls
                            refine i_180_517 (x := 1) l16 ?_
                            refine i_180_519 (fun c => absurd c (by decide)) (fun _ => ?_)
                            refine i_180_522 (x := 128) l0 ?_
                            refine i_180_523 (v := Value.ref 151) hR.c128 rfl ?_
                            refine i_180_526 ?_
                            obtain ⟨fs, hobj⟩ := hR.obj (h := 151) (iNw (h := 151) (by decide) (by decide) (by decide))
                            obtain ⟨w, hrun, hR⟩ := r_setl (d := d + 1) (x := (1 : Int64)) (v := 1) hR (iNw (h := 151) (by decide) (by decide) (by decide)) rfl
                            refine i_180_527 hobj (Nat.le_of_ble_eq_true rfl) hrun ?_
                            refine i_180_530 (x := 128) l0 ?_
                            refine i_180_531 (x := Int32.ofInt r) l1 ?_
                            refine i_180_532 (x := 128) l0 ?_
                            refine i_180_533 (v := Value.ref 151) hR.c128 rfl ?_
                            refine i_180_536 (x := 128) l0 ?_
                            refine i_180_537 (v := Value.int (Int32.ofInt (S 128 17))) hR.c128 rfl ?_
                            refine i_180_540 ?_
                            refine i_180_541 (c := Int32.ofInt ((S 128 17) - 1)) (o_sub (S 128 17) 1) ?_
                            have hobj := hR.c128
                            obtain ⟨w, hrun, S123, V123, hR, hk123, ht123, hq123, hS123, hV123⟩ := s_put (d := d) (h := 151) (r := r) (e := (S 128 17) - 1) hR (iNw (h := 151) (by decide) (by decide) (by decide)) (by omega) (by omega) (by omega) (by omega) (by simpa [u2_e] using p0) (by simpa [u2_e] using p1) (by rw [show (uv (uv V 135 q) 151 1) 151 = 1 from uv_s]; decide) (by rw [show (uv (uv V 135 q) 151 1) 151 = 1 from uv_s]; decide)
                            rw [show (uv (uv V 135 q) 151 1) 151 = 1 from uv_s] at ht123 hq123
                            refine i_180_542 hobj (Nat.le_of_ble_eq_true rfl) hrun ?_
                            refine i_180_545 (x := 128) l0 ?_
                            refine i_180_546 (v := Value.ref 156) hR.c128 rfl ?_
                            refine i_180_549 (x := Int32.ofInt r) l1 ?_
                            refine i_180_550 (x := Int32.ofInt sg) l5 ?_
                            refine i_180_552z (v := Value.int (Int32.ofInt sg)) (hR.row a156) (ix0 (T := r) (by omega) (by omega)) (ix1 (T := r) (by omega) (by omega) (by omega)) (by decide) (nrb (by omega)) ?_
                            rw [ixn (T := r) (by omega) (by omega)]
                            refine xgen (P := mR w0 (u2 S123 156 ((r).toNat) sg) V123) (hR.arr a156 rfl) (fun w hR => ?_)
                            refine i_180_553 ?_
                            refine i_180_565 (x := 1) l16 ?_
                            refine i_180_567 (fun c => absurd c (by decide)) (fun _ => ?_)
                            refine i_180_570 ?_
                            refine i_180_571 ?_
                            refine i_180_575 rfl ?_
                            refine lgen1 (i := 14) (v := Value.int 1) (fun lv lg ls => ?_)
                            replace l16 := lg 16 _ rfl rfl l16
                            replace l15 := lg 15 _ rfl rfl l15
                            replace l0 := lg 0 _ rfl rfl l0
                            replace l1 := lg 1 _ rfl rfl l1
                            replace l2 := lg 2 _ rfl rfl l2
                            replace l4 := lg 4 _ rfl rfl l4
                            replace l5 := lg 5 _ rfl rfl l5
                            replace l6 := lg 6 _ rfl rfl l6
                            replace l7 := lg 7 _ rfl rfl l7
                            replace l8 := lg 8 _ rfl rfl l8
                            replace l9 := lg 9 _ rfl rfl l9
                            replace l13 := lg 13 _ rfl rfl l13
                            have l14 := ls
                            refine i_180_577 ?_
                            have eo : rD p (S 128 17) (S 128 18) (S 128 20) (S 128 21) sg mode x more (V h) q u way (S 128 19) = (3, (xbl 1 : Int) + ((S 128 17) - 1), nrm 1 p, 1, zor (S 128 19) 4) := by unfold rD; rw [if_neg (by omega), if_neg (by omega), if_pos (by omega), if_pos (by simp [upU, away, *])]
                            refine k _ _ _ _ _ eo.symm l0 l5 l8 l14 hR ?_
                            refine ⟨?_, ?_, ⟨fun _ => ⟨?_, ?_⟩, fun h => absurd rfl h⟩, ?_, ?_, ?_⟩
                            · simp [u2_e, hk123]
                            · simp [u2_e]
                            · rw [u2_e, if_neg (by omega)]; exact ht123
                            · simpa [u2_e, hp] using hq123
                            · rw [u2_e, if_neg (by omega)]; rw [hS123 _ _ (by omega) (by omega)]; simp [u2_e]
                            · intro a j g1 g2 g3 g4; rw [u2_e, if_neg g3]; rw [hS123 a j g1 g2]; rw [u2_e, if_neg g4]
                            · intro k g1 g2 g3 g4 g5; rw [hV123 k g2 g5, uv_n (by omega), uv_n (by omega)]
                        · refine i_180_495 (x := Int32.ofInt sg) l5 ?_
                          refine i_180_497 (z_ne (a := sg) ⟨by omega, by omega⟩ fun c123 => ?_) (z_eq (a := sg) ⟨by omega, by omega⟩ fun c123 => ?_)
                          · refine i_180_510 ?_
                            refine i_180_511 ?_
                            refine i_180_515 rfl ?_
                            refine lgen1 (i := 16) (v := Value.int 1) (fun lv lg ls => ?_)
                            replace l15 := lg 15 _ rfl rfl l15
                            replace l14 := lg 14 _ rfl rfl l14
                            replace l0 := lg 0 _ rfl rfl l0
                            replace l1 := lg 1 _ rfl rfl l1
                            replace l2 := lg 2 _ rfl rfl l2
                            replace l4 := lg 4 _ rfl rfl l4
                            replace l5 := lg 5 _ rfl rfl l5
                            replace l6 := lg 6 _ rfl rfl l6
                            replace l7 := lg 7 _ rfl rfl l7
                            replace l8 := lg 8 _ rfl rfl l8
                            replace l9 := lg 9 _ rfl rfl l9
                            replace l13 := lg 13 _ rfl rfl l13
                            have l16 := ls
                            refine i_180_517 (x := 1) l16 ?_
                            refine i_180_519 (fun c => absurd c (by decide)) (fun _ => ?_)
                            refine i_180_522 (x := 128) l0 ?_
                            refine i_180_523 (v := Value.ref 151) hR.c128 rfl ?_
                            refine i_180_526 ?_
                            obtain ⟨fs, hobj⟩ := hR.obj (h := 151) (iNw (h := 151) (by decide) (by decide) (by decide))
                            obtain ⟨w, hrun, hR⟩ := r_setl (d := d + 1) (x := (1 : Int64)) (v := 1) hR (iNw (h := 151) (by decide) (by decide) (by decide)) rfl
                            refine i_180_527 hobj (Nat.le_of_ble_eq_true rfl) hrun ?_
                            refine i_180_530 (x := 128) l0 ?_
                            refine i_180_531 (x := Int32.ofInt r) l1 ?_
                            refine i_180_532 (x := 128) l0 ?_
                            refine i_180_533 (v := Value.ref 151) hR.c128 rfl ?_
                            refine i_180_536 (x := 128) l0 ?_
                            refine i_180_537 (v := Value.int (Int32.ofInt (S 128 17))) hR.c128 rfl ?_
                            refine i_180_540 ?_
                            refine i_180_541 (c := Int32.ofInt ((S 128 17) - 1)) (o_sub (S 128 17) 1) ?_
                            have hobj := hR.c128
                            obtain ⟨w, hrun, S125, V125, hR, hk125, ht125, hq125, hS125, hV125⟩ := s_put (d := d) (h := 151) (r := r) (e := (S 128 17) - 1) hR (iNw (h := 151) (by decide) (by decide) (by decide)) (by omega) (by omega) (by omega) (by omega) (by simpa [u2_e] using p0) (by simpa [u2_e] using p1) (by rw [show (uv (uv V 135 q) 151 1) 151 = 1 from uv_s]; decide) (by rw [show (uv (uv V 135 q) 151 1) 151 = 1 from uv_s]; decide)
                            rw [show (uv (uv V 135 q) 151 1) 151 = 1 from uv_s] at ht125 hq125
                            refine i_180_542 hobj (Nat.le_of_ble_eq_true rfl) hrun ?_
                            refine i_180_545 (x := 128) l0 ?_
                            refine i_180_546 (v := Value.ref 156) hR.c128 rfl ?_
                            refine i_180_549 (x := Int32.ofInt r) l1 ?_
                            refine i_180_550 (x := Int32.ofInt sg) l5 ?_
                            refine i_180_552z (v := Value.int (Int32.ofInt sg)) (hR.row a156) (ix0 (T := r) (by omega) (by omega)) (ix1 (T := r) (by omega) (by omega) (by omega)) (by decide) (nrb (by omega)) ?_
                            rw [ixn (T := r) (by omega) (by omega)]
                            refine xgen (P := mR w0 (u2 S125 156 ((r).toNat) sg) V125) (hR.arr a156 rfl) (fun w hR => ?_)
                            refine i_180_553 ?_
                            refine i_180_565 (x := 1) l16 ?_
                            refine i_180_567 (fun c => absurd c (by decide)) (fun _ => ?_)
                            refine i_180_570 ?_
                            refine i_180_571 ?_
                            refine i_180_575 rfl ?_
                            refine lgen1 (i := 14) (v := Value.int 1) (fun lv lg ls => ?_)
                            replace l16 := lg 16 _ rfl rfl l16
                            replace l15 := lg 15 _ rfl rfl l15
                            replace l0 := lg 0 _ rfl rfl l0
                            replace l1 := lg 1 _ rfl rfl l1
                            replace l2 := lg 2 _ rfl rfl l2
                            replace l4 := lg 4 _ rfl rfl l4
                            replace l5 := lg 5 _ rfl rfl l5
                            replace l6 := lg 6 _ rfl rfl l6
                            replace l7 := lg 7 _ rfl rfl l7
                            replace l8 := lg 8 _ rfl rfl l8
                            replace l9 := lg 9 _ rfl rfl l9
                            replace l13 := lg 13 _ rfl rfl l13
                            have l14 := ls
                            refine i_180_577 ?_
                            have eo : rD p (S 128 17) (S 128 18) (S 128 20) (S 128 21) sg mode x more (V h) q u way (S 128 19) = (3, (xbl 1 : Int) + ((S 128 17) - 1), nrm 1 p, 1, zor (S 128 19) 4) := by unfold rD; rw [if_neg (by omega), if_neg (by omega), if_pos (by omega), if_pos (by simp [upU, away, *])]
                            refine k _ _ _ _ _ eo.symm l0 l5 l8 l14 hR ?_
                            refine ⟨?_, ?_, ⟨fun _ => ⟨?_, ?_⟩, fun h => absurd rfl h⟩, ?_, ?_, ?_⟩
                            · simp [u2_e, hk125]
                            · simp [u2_e]
                            · rw [u2_e, if_neg (by omega)]; exact ht125
                            · simpa [u2_e, hp] using hq125
                            · rw [u2_e, if_neg (by omega)]; rw [hS125 _ _ (by omega) (by omega)]; simp [u2_e]
                            · intro a j g1 g2 g3 g4; rw [u2_e, if_neg g3]; rw [hS125 a j g1 g2]; rw [u2_e, if_neg g4]
                            · intro k g1 g2 g3 g4 g5; rw [hV125 k g2 g5, uv_n (by omega), uv_n (by omega)]
                          · refine i_180_500 (x := Int32.ofInt mode) l6 ?_
                            refine i_180_502 (z_ne (a := mode) ⟨by omega, by omega⟩ fun c125 => ?_) (z_eq (a := mode) ⟨by omega, by omega⟩ fun c125 => absurd c125 (by omega))
                            refine i_180_514 ?_
                            refine i_180_515 rfl ?_
                            refine lgen1 (i := 16) (v := Value.int 0) (fun lv lg ls => ?_)
                            replace l15 := lg 15 _ rfl rfl l15
                            replace l14 := lg 14 _ rfl rfl l14
                            replace l0 := lg 0 _ rfl rfl l0
                            replace l1 := lg 1 _ rfl rfl l1
                            replace l2 := lg 2 _ rfl rfl l2
                            replace l4 := lg 4 _ rfl rfl l4
                            replace l5 := lg 5 _ rfl rfl l5
                            replace l6 := lg 6 _ rfl rfl l6
                            replace l7 := lg 7 _ rfl rfl l7
                            replace l8 := lg 8 _ rfl rfl l8
                            replace l9 := lg 9 _ rfl rfl l9
                            replace l13 := lg 13 _ rfl rfl l13
                            have l16 := ls
                            refine i_180_517 (x := 0) l16 ?_
                            refine i_180_519 (fun _ => ?_) (fun c => absurd c (by decide))
                            refine i_180_556 (x := 128) l0 ?_
                            refine i_180_557 (x := Int32.ofInt r) l1 ?_
                            refine i_180_558 ?_
                            refine i_180_559 (x := Int32.ofInt sg) l5 ?_
                            have hobj := hR.c128
                            obtain ⟨w, hrun, hR⟩ := s_special (d := d + 2) (r := r) (k := 2) (s := sg) hR (by omega) (by omega) (by omega)
                            refine i_180_561 hobj (Nat.le_of_ble_eq_true rfl) hrun ?_
                            refine i_180_564 rfl ?_
                            refine i_180_565 (x := 0) l16 ?_
                            refine i_180_567 (fun _ => ?_) (fun c => absurd c (by decide))
                            refine i_180_574 ?_
                            refine i_180_575 rfl ?_
                            refine lgen1 (i := 14) (v := Value.int (-1)) (fun lv lg ls => ?_)
                            replace l16 := lg 16 _ rfl rfl l16
                            replace l15 := lg 15 _ rfl rfl l15
                            replace l0 := lg 0 _ rfl rfl l0
                            replace l1 := lg 1 _ rfl rfl l1
                            replace l2 := lg 2 _ rfl rfl l2
                            replace l4 := lg 4 _ rfl rfl l4
                            replace l5 := lg 5 _ rfl rfl l5
                            replace l6 := lg 6 _ rfl rfl l6
                            replace l7 := lg 7 _ rfl rfl l7
                            replace l8 := lg 8 _ rfl rfl l8
                            replace l9 := lg 9 _ rfl rfl l9
                            replace l13 := lg 13 _ rfl rfl l13
                            have l14 := ls
                            refine i_180_577 ?_
                            have eo : rD p (S 128 17) (S 128 18) (S 128 20) (S 128 21) sg mode x more (V h) q u way (S 128 19) = (2, 0, 0, (-1), zor (S 128 19) 4) := by unfold rD; rw [if_neg (by omega), if_neg (by omega), if_pos (by omega), if_neg (by simp [upU, away, *])]
                            refine k _ _ _ _ _ eo.symm l0 l5 l8 l14 hR ?_
                            refine ⟨by simp [u2_e], by simp [u2_e], ⟨fun h => absurd (show (2 : Int) = 3 from h) (by decide), fun _ => ⟨by simp [u2_e], by repeat rw [uv_n (by omega)]⟩⟩, by simp [u2_e], ?_, ?_⟩
                            · intro a j g1 g2 g3 g4; simp [u2_e, g1, g3, g4]
                            · intro k g1 g2 g3 g4 g5; rw [uv_n (by omega)]
                      · refine i_180_484 (x := Int32.ofInt sg) l5 ?_
                        refine i_180_486 (z_eq (a := sg) ⟨by omega, by omega⟩ fun c126 => ?_) (z_ne (a := sg) ⟨by omega, by omega⟩ fun c126 => ?_)
                        · refine i_180_510 ?_
                          refine i_180_511 ?_
                          refine i_180_515 rfl ?_
                          refine lgen1 (i := 16) (v := Value.int 1) (fun lv lg ls => ?_)
                          replace l15 := lg 15 _ rfl rfl l15
                          replace l14 := lg 14 _ rfl rfl l14
                          replace l0 := lg 0 _ rfl rfl l0
                          replace l1 := lg 1 _ rfl rfl l1
                          replace l2 := lg 2 _ rfl rfl l2
                          replace l4 := lg 4 _ rfl rfl l4
                          replace l5 := lg 5 _ rfl rfl l5
                          replace l6 := lg 6 _ rfl rfl l6
                          replace l7 := lg 7 _ rfl rfl l7
                          replace l8 := lg 8 _ rfl rfl l8
                          replace l9 := lg 9 _ rfl rfl l9
                          replace l13 := lg 13 _ rfl rfl l13
                          have l16 := ls
                          refine i_180_517 (x := 1) l16 ?_
                          refine i_180_519 (fun c => absurd c (by decide)) (fun _ => ?_)
                          refine i_180_522 (x := 128) l0 ?_
                          refine i_180_523 (v := Value.ref 151) hR.c128 rfl ?_
                          refine i_180_526 ?_
                          obtain ⟨fs, hobj⟩ := hR.obj (h := 151) (iNw (h := 151) (by decide) (by decide) (by decide))
                          obtain ⟨w, hrun, hR⟩ := r_setl (d := d + 1) (x := (1 : Int64)) (v := 1) hR (iNw (h := 151) (by decide) (by decide) (by decide)) rfl
                          refine i_180_527 hobj (Nat.le_of_ble_eq_true rfl) hrun ?_
                          refine i_180_530 (x := 128) l0 ?_
                          refine i_180_531 (x := Int32.ofInt r) l1 ?_
                          refine i_180_532 (x := 128) l0 ?_
                          refine i_180_533 (v := Value.ref 151) hR.c128 rfl ?_
                          refine i_180_536 (x := 128) l0 ?_
                          refine i_180_537 (v := Value.int (Int32.ofInt (S 128 17))) hR.c128 rfl ?_
                          refine i_180_540 ?_
                          refine i_180_541 (c := Int32.ofInt ((S 128 17) - 1)) (o_sub (S 128 17) 1) ?_
                          have hobj := hR.c128
                          obtain ⟨w, hrun, S128, V128, hR, hk128, ht128, hq128, hS128, hV128⟩ := s_put (d := d) (h := 151) (r := r) (e := (S 128 17) - 1) hR (iNw (h := 151) (by decide) (by decide) (by decide)) (by omega) (by omega) (by omega) (by omega) (by simpa [u2_e] using p0) (by simpa [u2_e] using p1) (by rw [show (uv (uv V 135 q) 151 1) 151 = 1 from uv_s]; decide) (by rw [show (uv (uv V 135 q) 151 1) 151 = 1 from uv_s]; decide)
                          rw [show (uv (uv V 135 q) 151 1) 151 = 1 from uv_s] at ht128 hq128
                          refine i_180_542 hobj (Nat.le_of_ble_eq_true rfl) hrun ?_
                          refine i_180_545 (x := 128) l0 ?_
                          refine i_180_546 (v := Value.ref 156) hR.c128 rfl ?_
                          refine i_180_549 (x := Int32.ofInt r) l1 ?_
                          refine i_180_550 (x := Int32.ofInt sg) l5 ?_
                          refine i_180_552z (v := Value.int (Int32.ofInt sg)) (hR.row a156) (ix0 (T := r) (by omega) (by omega)) (ix1 (T := r) (by omega) (by omega) (by omega)) (by decide) (nrb (by omega)) ?_
                          rw [ixn (T := r) (by omega) (by omega)]
                          refine xgen (P := mR w0 (u2 S128 156 ((r).toNat) sg) V128) (hR.arr a156 rfl) (fun w hR => ?_)
                          refine i_180_553 ?_
                          refine i_180_565 (x := 1) l16 ?_
                          refine i_180_567 (fun c => absurd c (by decide)) (fun _ => ?_)
                          refine i_180_570 ?_
                          refine i_180_571 ?_
                          refine i_180_575 rfl ?_
                          refine lgen1 (i := 14) (v := Value.int 1) (fun lv lg ls => ?_)
                          replace l16 := lg 16 _ rfl rfl l16
                          replace l15 := lg 15 _ rfl rfl l15
                          replace l0 := lg 0 _ rfl rfl l0
                          replace l1 := lg 1 _ rfl rfl l1
                          replace l2 := lg 2 _ rfl rfl l2
                          replace l4 := lg 4 _ rfl rfl l4
                          replace l5 := lg 5 _ rfl rfl l5
                          replace l6 := lg 6 _ rfl rfl l6
                          replace l7 := lg 7 _ rfl rfl l7
                          replace l8 := lg 8 _ rfl rfl l8
                          replace l9 := lg 9 _ rfl rfl l9
                          replace l13 := lg 13 _ rfl rfl l13
                          have l14 := ls
                          refine i_180_577 ?_
                          have eo : rD p (S 128 17) (S 128 18) (S 128 20) (S 128 21) sg mode x more (V h) q u way (S 128 19) = (3, (xbl 1 : Int) + ((S 128 17) - 1), nrm 1 p, 1, zor (S 128 19) 4) := by unfold rD; rw [if_neg (by omega), if_neg (by omega), if_pos (by omega), if_pos (by simp [upU, away, *])]
                          refine k _ _ _ _ _ eo.symm l0 l5 l8 l14 hR ?_
                          refine ⟨?_, ?_, ⟨fun _ => ⟨?_, ?_⟩, fun h => absurd rfl h⟩, ?_, ?_, ?_⟩
                          · simp [u2_e, hk128]
                          · simp [u2_e]
                          · rw [u2_e, if_neg (by omega)]; exact ht128
                          · simpa [u2_e, hp] using hq128
                          · rw [u2_e, if_neg (by omega)]; rw [hS128 _ _ (by omega) (by omega)]; simp [u2_e]
                          · intro a j g1 g2 g3 g4; rw [u2_e, if_neg g3]; rw [hS128 a j g1 g2]; rw [u2_e, if_neg g4]
                          · intro k g1 g2 g3 g4 g5; rw [hV128 k g2 g5, uv_n (by omega), uv_n (by omega)]
                        · refine i_180_489 (x := Int32.ofInt mode) l6 ?_
                          refine i_180_491 ?_
                          refine i_180_492 (b_ne (a := mode) (b := 3) ⟨by omega, by omega⟩ ⟨by decide, by decide⟩ fun c128 => ?_) (b_eq (a := mode) (b := 3) ⟨by omega, by omega⟩ ⟨by decide, by decide⟩ fun c128 => absurd c128 (by omega))
                          refine i_180_500 (x := Int32.ofInt mode) l6 ?_
                          refine i_180_502 (z_ne (a := mode) ⟨by omega, by omega⟩ fun c129 => ?_) (z_eq (a := mode) ⟨by omega, by omega⟩ fun c129 => absurd c129 (by omega))
                          refine i_180_514 ?_
                          refine i_180_515 rfl ?_
                          refine lgen1 (i := 16) (v := Value.int 0) (fun lv lg ls => ?_)
                          replace l15 := lg 15 _ rfl rfl l15
                          replace l14 := lg 14 _ rfl rfl l14
                          replace l0 := lg 0 _ rfl rfl l0
                          replace l1 := lg 1 _ rfl rfl l1
                          replace l2 := lg 2 _ rfl rfl l2
                          replace l4 := lg 4 _ rfl rfl l4
                          replace l5 := lg 5 _ rfl rfl l5
                          replace l6 := lg 6 _ rfl rfl l6
                          replace l7 := lg 7 _ rfl rfl l7
                          replace l8 := lg 8 _ rfl rfl l8
                          replace l9 := lg 9 _ rfl rfl l9
                          replace l13 := lg 13 _ rfl rfl l13
                          have l16 := ls
                          refine i_180_517 (x := 0) l16 ?_
                          refine i_180_519 (fun _ => ?_) (fun c => absurd c (by decide))
                          refine i_180_556 (x := 128) l0 ?_
                          refine i_180_557 (x := Int32.ofInt r) l1 ?_
                          refine i_180_558 ?_
                          refine i_180_559 (x := Int32.ofInt sg) l5 ?_
                          have hobj := hR.c128
                          obtain ⟨w, hrun, hR⟩ := s_special (d := d + 2) (r := r) (k := 2) (s := sg) hR (by omega) (by omega) (by omega)
                          refine i_180_561 hobj (Nat.le_of_ble_eq_true rfl) hrun ?_
                          refine i_180_564 rfl ?_
                          refine i_180_565 (x := 0) l16 ?_
                          refine i_180_567 (fun _ => ?_) (fun c => absurd c (by decide))
                          refine i_180_574 ?_
                          refine i_180_575 rfl ?_
                          refine lgen1 (i := 14) (v := Value.int (-1)) (fun lv lg ls => ?_)
                          replace l16 := lg 16 _ rfl rfl l16
                          replace l15 := lg 15 _ rfl rfl l15
                          replace l0 := lg 0 _ rfl rfl l0
                          replace l1 := lg 1 _ rfl rfl l1
                          replace l2 := lg 2 _ rfl rfl l2
                          replace l4 := lg 4 _ rfl rfl l4
                          replace l5 := lg 5 _ rfl rfl l5
                          replace l6 := lg 6 _ rfl rfl l6
                          replace l7 := lg 7 _ rfl rfl l7
                          replace l8 := lg 8 _ rfl rfl l8
                          replace l9 := lg 9 _ rfl rfl l9
                          replace l13 := lg 13 _ rfl rfl l13
                          have l14 := ls
                          refine i_180_577 ?_
                          have eo : rD p (S 128 17) (S 128 18) (S 128 20) (S 128 21) sg mode x more (V h) q u way (S 128 19) = (2, 0, 0, (-1), zor (S 128 19) 4) := by unfold rD; rw [if_neg (by omega), if_neg (by omega), if_pos (by omega), if_neg (by simp [upU, away, *])]
                          refine k _ _ _ _ _ eo.symm l0 l5 l8 l14 hR ?_
                          refine ⟨by simp [u2_e], by simp [u2_e], ⟨fun h => absurd (show (2 : Int) = 3 from h) (by decide), fun _ => ⟨by simp [u2_e], by repeat rw [uv_n (by omega)]⟩⟩, by simp [u2_e], ?_, ?_⟩
                          · intro a j g1 g2 g3 g4; simp [u2_e, g1, g3, g4]
                          · intro k g1 g2 g3 g4 g5; rw [uv_n (by omega)]
                  · refine i_180_452 (x := h) l2 ?_
                    refine i_180_453 (x := h) l2 ?_
                    obtain ⟨fs, hobj⟩ := hR.obj (h := h) hh
                    have hrun := r_bits (d := d + 1) (v := V h) hR hh ((uv_n (by omega)).trans (rfl))
                    refine i_180_454 hobj (Nat.le_of_ble_eq_true rfl) hrun ?_
                    refine i_180_457 ?_
                    refine i_180_458 (c := Int32.ofInt ((xbl (V h) : Int) - 1)) (o_sub (xbl (V h) : Int) 1) ?_
                    obtain ⟨fs, hobj⟩ := hR.obj (h := h) hh
                    have hrun := r_any (d := d + 1) (v := V h) (k := (xbl (V h) : Int) - 1) hR hh ((uv_n (by omega)).trans (rfl)) (by omega) (by omega)
                    refine i_180_459 hobj (Nat.le_of_ble_eq_true rfl) hrun ?_
                    refine i_180_462 (zb_f fun c130 => ?_) (zb_t fun c130 => ?_)
                    · refine i_180_469 ?_
                      refine i_180_470 rfl ?_
                      refine lgen1 (i := 15) (v := Value.int 0) (fun lv lg ls => ?_)
                      replace l14 := lg 14 _ rfl rfl l14
                      replace l0 := lg 0 _ rfl rfl l0
                      replace l1 := lg 1 _ rfl rfl l1
                      replace l2 := lg 2 _ rfl rfl l2
                      replace l4 := lg 4 _ rfl rfl l4
                      replace l5 := lg 5 _ rfl rfl l5
                      replace l6 := lg 6 _ rfl rfl l6
                      replace l7 := lg 7 _ rfl rfl l7
                      replace l8 := lg 8 _ rfl rfl l8
                      replace l9 := lg 9 _ rfl rfl l9
                      replace l13 := lg 13 _ rfl rfl l13
                      have l15 := ls
                      refine i_180_472 (x := Int32.ofInt mode) l6 ?_
                      refine i_180_474 ?_
                      refine i_180_475 (b_eq (a := mode) (b := 4) ⟨by omega, by omega⟩ ⟨by decide, by decide⟩ fun c131 => ?_) (b_ne (a := mode) (b := 4) ⟨by omega, by omega⟩ ⟨by decide, by decide⟩ fun c131 => ?_)
                      · refine i_180_510 ?_
                        refine i_180_511 ?_
                        refine i_180_515 rfl ?_
                        refine lgen1 (i := 16) (v := Value.int 1) (fun lv lg ls => ?_)
                        replace l15 := lg 15 _ rfl rfl l15
                        replace l14 := lg 14 _ rfl rfl l14
                        replace l0 := lg 0 _ rfl rfl l0
                        replace l1 := lg 1 _ rfl rfl l1
                        replace l2 := lg 2 _ rfl rfl l2
                        replace l4 := lg 4 _ rfl rfl l4
                        replace l5 := lg 5 _ rfl rfl l5
                        replace l6 := lg 6 _ rfl rfl l6
                        replace l7 := lg 7 _ rfl rfl l7
                        replace l8 := lg 8 _ rfl rfl l8
                        replace l9 := lg 9 _ rfl rfl l9
                        replace l13 := lg 13 _ rfl rfl l13
                        have l16 := ls
                        refine i_180_517 (x := 1) l16 ?_
                        refine i_180_519 (fun c => absurd c (by decide)) (fun _ => ?_)
                        refine i_180_522 (x := 128) l0 ?_
                        refine i_180_523 (v := Value.ref 151) hR.c128 rfl ?_
                        refine i_180_526 ?_
                        obtain ⟨fs, hobj⟩ := hR.obj (h := 151) (iNw (h := 151) (by decide) (by decide) (by decide))
                        obtain ⟨w, hrun, hR⟩ := r_setl (d := d + 1) (x := (1 : Int64)) (v := 1) hR (iNw (h := 151) (by decide) (by decide) (by decide)) rfl
                        refine i_180_527 hobj (Nat.le_of_ble_eq_true rfl) hrun ?_
                        refine i_180_530 (x := 128) l0 ?_
                        refine i_180_531 (x := Int32.ofInt r) l1 ?_
                        refine i_180_532 (x := 128) l0 ?_
                        refine i_180_533 (v := Value.ref 151) hR.c128 rfl ?_
                        refine i_180_536 (x := 128) l0 ?_
                        refine i_180_537 (v := Value.int (Int32.ofInt (S 128 17))) hR.c128 rfl ?_
                        refine i_180_540 ?_
                        refine i_180_541 (c := Int32.ofInt ((S 128 17) - 1)) (o_sub (S 128 17) 1) ?_
                        have hobj := hR.c128
                        obtain ⟨w, hrun, S133, V133, hR, hk133, ht133, hq133, hS133, hV133⟩ := s_put (d := d) (h := 151) (r := r) (e := (S 128 17) - 1) hR (iNw (h := 151) (by decide) (by decide) (by decide)) (by omega) (by omega) (by omega) (by omega) (by simpa [u2_e] using p0) (by simpa [u2_e] using p1) (by rw [show (uv (uv V 135 q) 151 1) 151 = 1 from uv_s]; decide) (by rw [show (uv (uv V 135 q) 151 1) 151 = 1 from uv_s]; decide)
                        rw [show (uv (uv V 135 q) 151 1) 151 = 1 from uv_s] at ht133 hq133
                        refine i_180_542 hobj (Nat.le_of_ble_eq_true rfl) hrun ?_
                        refine i_180_545 (x := 128) l0 ?_
                        refine i_180_546 (v := Value.ref 156) hR.c128 rfl ?_
                        refine i_180_549 (x := Int32.ofInt r) l1 ?_
                        refine i_180_550 (x := Int32.ofInt sg) l5 ?_
                        refine i_180_552z (v := Value.int (Int32.ofInt sg)) (hR.row a156) (ix0 (T := r) (by omega) (by omega)) (ix1 (T := r) (by omega) (by omega) (by omega)) (by decide) (nrb (by omega)) ?_
                        rw [ixn (T := r) (by omega) (by omega)]
                        refine xgen (P := mR w0 (u2 S133 156 ((r).toNat) sg) V133) (hR.arr a156 rfl) (fun w hR => ?_)
                        refine i_180_553 ?_
                        refine i_180_565 (x := 1) l16 ?_
                        refine i_180_567 (fun c => absurd c (by decide)) (fun _ => ?_)
                        refine i_180_570 ?_
                        refine i_180_571 ?_
                        refine i_180_575 rfl ?_
                        refine lgen1 (i := 14) (v := Value.int 1) (fun lv lg ls => ?_)
                        replace l16 := lg 16 _ rfl rfl l16
                        replace l15 := lg 15 _ rfl rfl l15
                        replace l0 := lg 0 _ rfl rfl l0
                        replace l1 := lg 1 _ rfl rfl l1
                        replace l2 := lg 2 _ rfl rfl l2
                        replace l4 := lg 4 _ rfl rfl l4
                        replace l5 := lg 5 _ rfl rfl l5
                        replace l6 := lg 6 _ rfl rfl l6
                        replace l7 := lg 7 _ rfl rfl l7
                        replace l8 := lg 8 _ rfl rfl l8
                        replace l9 := lg 9 _ rfl rfl l9
                        replace l13 := lg 13 _ rfl rfl l13
                        have l14 := ls
                        refine i_180_577 ?_
                        have eo : rD p (S 128 17) (S 128 18) (S 128 20) (S 128 21) sg mode x more (V h) q u way (S 128 19) = (3, (xbl 1 : Int) + ((S 128 17) - 1), nrm 1 p, 1, zor (S 128 19) 4) := by unfold rD; rw [if_neg (by omega), if_neg (by omega), if_pos (by omega), if_pos (by simp [upU, away, *])]
                        refine k _ _ _ _ _ eo.symm l0 l5 l8 l14 hR ?_
                        refine ⟨?_, ?_, ⟨fun _ => ⟨?_, ?_⟩, fun h => absurd rfl h⟩, ?_, ?_, ?_⟩
                        · simp [u2_e, hk133]
                        · simp [u2_e]
                        · rw [u2_e, if_neg (by omega)]; exact ht133
                        · simpa [u2_e, hp] using hq133
                        · rw [u2_e, if_neg (by omega)]; rw [hS133 _ _ (by omega) (by omega)]; simp [u2_e]
                        · intro a j g1 g2 g3 g4; rw [u2_e, if_neg g3]; rw [hS133 a j g1 g2]; rw [u2_e, if_neg g4]
                        · intro k g1 g2 g3 g4 g5; rw [hV133 k g2 g5, uv_n (by omega), uv_n (by omega)]
                      · refine i_180_478 (x := Int32.ofInt mode) l6 ?_
                        refine i_180_480 ?_
                        refine i_180_481 (b_ne (a := mode) (b := 2) ⟨by omega, by omega⟩ ⟨by decide, by decide⟩ fun c133 => ?_) (b_eq (a := mode) (b := 2) ⟨by omega, by omega⟩ ⟨by decide, by decide⟩ fun c133 => ?_)
                        · refine i_180_489 (x := Int32.ofInt mode) l6 ?_
                          refine i_180_491 ?_
                          refine i_180_492 (b_ne (a := mode) (b := 3) ⟨by omega, by omega⟩ ⟨by decide, by decide⟩ fun c134 => ?_) (b_eq (a := mode) (b := 3) ⟨by omega, by omega⟩ ⟨by decide, by decide⟩ fun c134 => ?_)
                          · refine i_180_500 (x := Int32.ofInt mode) l6 ?_
                            refine i_180_502 (z_ne (a := mode) ⟨by omega, by omega⟩ fun c135 => ?_) (z_eq (a := mode) ⟨by omega, by omega⟩ fun c135 => ?_)
                            · refine i_180_514 ?_
                              refine i_180_515 rfl ?_
                              refine lgen1 (i := 16) (v := Value.int 0) (fun lv lg ls => ?_)
                              replace l15 := lg 15 _ rfl rfl l15
                              replace l14 := lg 14 _ rfl rfl l14
                              replace l0 := lg 0 _ rfl rfl l0
                              replace l1 := lg 1 _ rfl rfl l1
                              replace l2 := lg 2 _ rfl rfl l2
                              replace l4 := lg 4 _ rfl rfl l4
                              replace l5 := lg 5 _ rfl rfl l5
                              replace l6 := lg 6 _ rfl rfl l6
                              replace l7 := lg 7 _ rfl rfl l7
                              replace l8 := lg 8 _ rfl rfl l8
                              replace l9 := lg 9 _ rfl rfl l9
                              replace l13 := lg 13 _ rfl rfl l13
                              have l16 := ls
                              refine i_180_517 (x := 0) l16 ?_
                              refine i_180_519 (fun _ => ?_) (fun c => absurd c (by decide))
                              refine i_180_556 (x := 128) l0 ?_
                              refine i_180_557 (x := Int32.ofInt r) l1 ?_
                              refine i_180_558 ?_
                              refine i_180_559 (x := Int32.ofInt sg) l5 ?_
                              have hobj := hR.c128
                              obtain ⟨w, hrun, hR⟩ := s_special (d := d + 2) (r := r) (k := 2) (s := sg) hR (by omega) (by omega) (by omega)
                              refine i_180_561 hobj (Nat.le_of_ble_eq_true rfl) hrun ?_
                              refine i_180_564 rfl ?_
                              refine i_180_565 (x := 0) l16 ?_
                              refine i_180_567 (fun _ => ?_) (fun c => absurd c (by decide))
                              refine i_180_574 ?_
                              refine i_180_575 rfl ?_
                              refine lgen1 (i := 14) (v := Value.int (-1)) (fun lv lg ls => ?_)
                              replace l16 := lg 16 _ rfl rfl l16
                              replace l15 := lg 15 _ rfl rfl l15
                              replace l0 := lg 0 _ rfl rfl l0
                              replace l1 := lg 1 _ rfl rfl l1
                              replace l2 := lg 2 _ rfl rfl l2
                              replace l4 := lg 4 _ rfl rfl l4
                              replace l5 := lg 5 _ rfl rfl l5
                              replace l6 := lg 6 _ rfl rfl l6
                              replace l7 := lg 7 _ rfl rfl l7
                              replace l8 := lg 8 _ rfl rfl l8
                              replace l9 := lg 9 _ rfl rfl l9
                              replace l13 := lg 13 _ rfl rfl l13
                              have l14 := ls
                              refine i_180_577 ?_
                              have eo : rD p (S 128 17) (S 128 18) (S 128 20) (S 128 21) sg mode x more (V h) q u way (S 128 19) = (2, 0, 0, (-1), zor (S 128 19) 4) := by unfold rD; rw [if_neg (by omega), if_neg (by omega), if_pos (by omega), if_neg (by simp [upU, away, *])]
                              refine k _ _ _ _ _ eo.symm l0 l5 l8 l14 hR ?_
                              refine ⟨by simp [u2_e], by simp [u2_e], ⟨fun h => absurd (show (2 : Int) = 3 from h) (by decide), fun _ => ⟨by simp [u2_e], by repeat rw [uv_n (by omega)]⟩⟩, by simp [u2_e], ?_, ?_⟩
                              · intro a j g1 g2 g3 g4; simp [u2_e, g1, g3, g4]
                              · intro k g1 g2 g3 g4 g5; rw [uv_n (by omega)]
                            · refine i_180_505 (x := 0) l15 ?_
                              refine i_180_507 (fun _ => ?_) (fun c => absurd c (by decide))
                              refine i_180_514 ?_
                              refine i_180_515 rfl ?_
                              refine lgen1 (i := 16) (v := Value.int 0) (fun lv lg ls => ?_)
                              replace l15 := lg 15 _ rfl rfl l15
                              replace l14 := lg 14 _ rfl rfl l14
                              replace l0 := lg 0 _ rfl rfl l0
                              replace l1 := lg 1 _ rfl rfl l1
                              replace l2 := lg 2 _ rfl rfl l2
                              replace l4 := lg 4 _ rfl rfl l4
                              replace l5 := lg 5 _ rfl rfl l5
                              replace l6 := lg 6 _ rfl rfl l6
                              replace l7 := lg 7 _ rfl rfl l7
                              replace l8 := lg 8 _ rfl rfl l8
                              replace l9 := lg 9 _ rfl rfl l9
                              replace l13 := lg 13 _ rfl rfl l13
                              have l16 := ls
                              refine i_180_517 (x := 0) l16 ?_
                              refine i_180_519 (fun _ => ?_) (fun c => absurd c (by decide))
                              refine i_180_556 (x := 128) l0 ?_
                              refine i_180_557 (x := Int32.ofInt r) l1 ?_
                              refine i_180_558 ?_
                              refine i_180_559 (x := Int32.ofInt sg) l5 ?_
                              have hobj := hR.c128
                              obtain ⟨w, hrun, hR⟩ := s_special (d := d + 2) (r := r) (k := 2) (s := sg) hR (by omega) (by omega) (by omega)
                              refine i_180_561 hobj (Nat.le_of_ble_eq_true rfl) hrun ?_
                              refine i_180_564 rfl ?_
                              refine i_180_565 (x := 0) l16 ?_
                              refine i_180_567 (fun _ => ?_) (fun c => absurd c (by decide))
                              refine i_180_574 ?_
                              refine i_180_575 rfl ?_
                              refine lgen1 (i := 14) (v := Value.int (-1)) (fun lv lg ls => ?_)
                              replace l16 := lg 16 _ rfl rfl l16
                              replace l15 := lg 15 _ rfl rfl l15
                              replace l0 := lg 0 _ rfl rfl l0
                              replace l1 := lg 1 _ rfl rfl l1
                              replace l2 := lg 2 _ rfl rfl l2
                              replace l4 := lg 4 _ rfl rfl l4
                              replace l5 := lg 5 _ rfl rfl l5
                              replace l6 := lg 6 _ rfl rfl l6
                              replace l7 := lg 7 _ rfl rfl l7
                              replace l8 := lg 8 _ rfl rfl l8
                              replace l9 := lg 9 _ rfl rfl l9
                              replace l13 := lg 13 _ rfl rfl l13
                              have l14 := ls
                              refine i_180_577 ?_
                              have eo : rD p (S 128 17) (S 128 18) (S 128 20) (S 128 21) sg mode x more (V h) q u way (S 128 19) = (2, 0, 0, (-1), zor (S 128 19) 4) := by unfold rD; rw [if_neg (by omega), if_neg (by omega), if_pos (by omega), if_neg (by simp [upU, away, *])]
                              refine k _ _ _ _ _ eo.symm l0 l5 l8 l14 hR ?_
                              refine ⟨by simp [u2_e], by simp [u2_e], ⟨fun h => absurd (show (2 : Int) = 3 from h) (by decide), fun _ => ⟨by simp [u2_e], by repeat rw [uv_n (by omega)]⟩⟩, by simp [u2_e], ?_, ?_⟩
                              · intro a j g1 g2 g3 g4; simp [u2_e, g1, g3, g4]
                              · intro k g1 g2 g3 g4 g5; rw [uv_n (by omega)]
                          · refine i_180_495 (x := Int32.ofInt sg) l5 ?_
                            refine i_180_497 (z_ne (a := sg) ⟨by omega, by omega⟩ fun c136 => ?_) (z_eq (a := sg) ⟨by omega, by omega⟩ fun c136 => ?_)
                            · refine i_180_510 ?_
                              refine i_180_511 ?_
                              refine i_180_515 rfl ?_
                              refine lgen1 (i := 16) (v := Value.int 1) (fun lv lg ls => ?_)
                              replace l15 := lg 15 _ rfl rfl l15
                              replace l14 := lg 14 _ rfl rfl l14
                              replace l0 := lg 0 _ rfl rfl l0
                              replace l1 := lg 1 _ rfl rfl l1
                              replace l2 := lg 2 _ rfl rfl l2
                              replace l4 := lg 4 _ rfl rfl l4
                              replace l5 := lg 5 _ rfl rfl l5
                              replace l6 := lg 6 _ rfl rfl l6
                              replace l7 := lg 7 _ rfl rfl l7
                              replace l8 := lg 8 _ rfl rfl l8
                              replace l9 := lg 9 _ rfl rfl l9
                              replace l13 := lg 13 _ rfl rfl l13
                              have l16 := ls
                              refine i_180_517 (x := 1) l16 ?_
                              refine i_180_519 (fun c => absurd c (by decide)) (fun _ => ?_)
                              refine i_180_522 (x := 128) l0 ?_
                              refine i_180_523 (v := Value.ref 151) hR.c128 rfl ?_
                              refine i_180_526 ?_
                              obtain ⟨fs, hobj⟩ := hR.obj (h := 151) (iNw (h := 151) (by decide) (by decide) (by decide))
                              obtain ⟨w, hrun, hR⟩ := r_setl (d := d + 1) (x := (1 : Int64)) (v := 1) hR (iNw (h := 151) (by decide) (by decide) (by decide)) rfl
                              refine i_180_527 hobj (Nat.le_of_ble_eq_true rfl) hrun ?_
                              refine i_180_530 (x := 128) l0 ?_
                              refine i_180_531 (x := Int32.ofInt r) l1 ?_
                              refine i_180_532 (x := 128) l0 ?_
                              refine i_180_533 (v := Value.ref 151) hR.c128 rfl ?_
                              refine i_180_536 (x := 128) l0 ?_
                              refine i_180_537 (v := Value.int (Int32.ofInt (S 128 17))) hR.c128 rfl ?_
                              refine i_180_540 ?_
                              refine i_180_541 (c := Int32.ofInt ((S 128 17) - 1)) (o_sub (S 128 17) 1) ?_
                              have hobj := hR.c128
                              obtain ⟨w, hrun, S138, V138, hR, hk138, ht138, hq138, hS138, hV138⟩ := s_put (d := d) (h := 151) (r := r) (e := (S 128 17) - 1) hR (iNw (h := 151) (by decide) (by decide) (by decide)) (by omega) (by omega) (by omega) (by omega) (by simpa [u2_e] using p0) (by simpa [u2_e] using p1) (by rw [show (uv (uv V 135 q) 151 1) 151 = 1 from uv_s]; decide) (by rw [show (uv (uv V 135 q) 151 1) 151 = 1 from uv_s]; decide)
                              rw [show (uv (uv V 135 q) 151 1) 151 = 1 from uv_s] at ht138 hq138
                              refine i_180_542 hobj (Nat.le_of_ble_eq_true rfl) hrun ?_
                              refine i_180_545 (x := 128) l0 ?_
                              refine i_180_546 (v := Value.ref 156) hR.c128 rfl ?_
                              refine i_180_549 (x := Int32.ofInt r) l1 ?_
                              refine i_180_550 (x := Int32.ofInt sg) l5 ?_
                              refine i_180_552z (v := Value.int (Int32.ofInt sg)) (hR.row a156) (ix0 (T := r) (by omega) (by omega)) (ix1 (T := r) (by omega) (by omega) (by omega)) (by decide) (nrb (by omega)) ?_
                              rw [ixn (T := r) (by omega) (by omega)]
                              refine xgen (P := mR w0 (u2 S138 156 ((r).toNat) sg) V138) (hR.arr a156 rfl) (fun w hR => ?_)
                              refine i_180_553 ?_
                              refine i_180_565 (x := 1) l16 ?_
                              refine i_180_567 (fun c => absurd c (by decide)) (fun _ => ?_)
                              refine i_180_570 ?_
                              refine i_180_571 ?_
                              refine i_180_575 rfl ?_
                              refine lgen1 (i := 14) (v := Value.int 1) (fun lv lg ls => ?_)
                              replace l16 := lg 16 _ rfl rfl l16
                              replace l15 := lg 15 _ rfl rfl l15
                              replace l0 := lg 0 _ rfl rfl l0
                              replace l1 := lg 1 _ rfl rfl l1
                              replace l2 := lg 2 _ rfl rfl l2
                              replace l4 := lg 4 _ rfl rfl l4
                              replace l5 := lg 5 _ rfl rfl l5
                              replace l6 := lg 6 _ rfl rfl l6
                              replace l7 := lg 7 _ rfl rfl l7
                              replace l8 := lg 8 _ rfl rfl l8
                              replace l9 := lg 9 _ rfl rfl l9
                              replace l13 := lg 13 _ rfl rfl l13
                              have l14 := ls
                              refine i_180_577 ?_
                              have eo : rD p (S 128 17) (S 128 18) (S 128 20) (S 128 21) sg mode x more (V h) q u way (S 128 19) = (3, (xbl 1 : Int) + ((S 128 17) - 1), nrm 1 p, 1, zor (S 128 19) 4) := by unfold rD; rw [if_neg (by omega), if_neg (by omega), if_pos (by omega), if_pos (by simp [upU, away, *])]
                              refine k _ _ _ _ _ eo.symm l0 l5 l8 l14 hR ?_
                              refine ⟨?_, ?_, ⟨fun _ => ⟨?_, ?_⟩, fun h => absurd rfl h⟩, ?_, ?_, ?_⟩
                              · simp [u2_e, hk138]
                              · simp [u2_e]
                              · rw [u2_e, if_neg (by omega)]; exact ht138
                              · simpa [u2_e, hp] using hq138
                              · rw [u2_e, if_neg (by omega)]; rw [hS138 _ _ (by omega) (by omega)]; simp [u2_e]
                              · intro a j g1 g2 g3 g4; rw [u2_e, if_neg g3]; rw [hS138 a j g1 g2]; rw [u2_e, if_neg g4]
                              · intro k g1 g2 g3 g4 g5; rw [hV138 k g2 g5, uv_n (by omega), uv_n (by omega)]
                            · refine i_180_500 (x := Int32.ofInt mode) l6 ?_
                              refine i_180_502 (z_ne (a := mode) ⟨by omega, by omega⟩ fun c138 => ?_) (z_eq (a := mode) ⟨by omega, by omega⟩ fun c138 => absurd c138 (by omega))
                              refine i_180_514 ?_
                              refine i_180_515 rfl ?_
                              refine lgen1 (i := 16) (v := Value.int 0) (fun lv lg ls => ?_)
                              replace l15 := lg 15 _ rfl rfl l15
                              replace l14 := lg 14 _ rfl rfl l14
                              replace l0 := lg 0 _ rfl rfl l0
                              replace l1 := lg 1 _ rfl rfl l1
                              replace l2 := lg 2 _ rfl rfl l2
                              replace l4 := lg 4 _ rfl rfl l4
                              replace l5 := lg 5 _ rfl rfl l5
                              replace l6 := lg 6 _ rfl rfl l6
                              replace l7 := lg 7 _ rfl rfl l7
                              replace l8 := lg 8 _ rfl rfl l8
                              replace l9 := lg 9 _ rfl rfl l9
                              replace l13 := lg 13 _ rfl rfl l13
                              have l16 := ls
                              refine i_180_517 (x := 0) l16 ?_
                              refine i_180_519 (fun _ => ?_) (fun c => absurd c (by decide))
                              refine i_180_556 (x := 128) l0 ?_
                              refine i_180_557 (x := Int32.ofInt r) l1 ?_
                              refine i_180_558 ?_
                              refine i_180_559 (x := Int32.ofInt sg) l5 ?_
                              have hobj := hR.c128
                              obtain ⟨w, hrun, hR⟩ := s_special (d := d + 2) (r := r) (k := 2) (s := sg) hR (by omega) (by omega) (by omega)
                              refine i_180_561 hobj (Nat.le_of_ble_eq_true rfl) hrun ?_
                              refine i_180_564 rfl ?_
                              refine i_180_565 (x := 0) l16 ?_
                              refine i_180_567 (fun _ => ?_) (fun c => absurd c (by decide))
                              refine i_180_574 ?_
                              refine i_180_575 rfl ?_
                              refine lgen1 (i := 14) (v := Value.int (-1)) (fun lv lg ls => ?_)
                              replace l16 := lg 16 _ rfl rfl l16
                              replace l15 := lg 15 _ rfl rfl l15
                              replace l0 := lg 0 _ rfl rfl l0
                              replace l1 := lg 1 _ rfl rfl l1
                              replace l2 := lg 2 _ rfl rfl l2
                              replace l4 := lg 4 _ rfl rfl l4
                              replace l5 := lg 5 _ rfl rfl l5
                              replace l6 := lg 6 _ rfl rfl l6
                              replace l7 := lg 7 _ rfl rfl l7
                              replace l8 := lg 8 _ rfl rfl l8
                              replace l9 := lg 9 _ rfl rfl l9
                              replace l13 := lg 13 _ rfl rfl l13
                              have l14 := ls
                              refine i_180_577 ?_
                              have eo : rD p (S 128 17) (S 128 18) (S 128 20) (S 128 21) sg mode x more (V h) q u way (S 128 19) = (2, 0, 0, (-1), zor (S 128 19) 4) := by unfold rD; rw [if_neg (by omega), if_neg (by omega), if_pos (by omega), if_neg (by simp [upU, away, *])]
                              refine k _ _ _ _ _ eo.symm l0 l5 l8 l14 hR ?_
                              refine ⟨by simp [u2_e], by simp [u2_e], ⟨fun h => absurd (show (2 : Int) = 3 from h) (by decide), fun _ => ⟨by simp [u2_e], by repeat rw [uv_n (by omega)]⟩⟩, by simp [u2_e], ?_, ?_⟩
                              · intro a j g1 g2 g3 g4; simp [u2_e, g1, g3, g4]
                              · intro k g1 g2 g3 g4 g5; rw [uv_n (by omega)]
                        · refine i_180_484 (x := Int32.ofInt sg) l5 ?_
                          refine i_180_486 (z_eq (a := sg) ⟨by omega, by omega⟩ fun c139 => ?_) (z_ne (a := sg) ⟨by omega, by omega⟩ fun c139 => ?_)
                          · refine i_180_510 ?_
                            refine i_180_511 ?_
                            refine i_180_515 rfl ?_
                            refine lgen1 (i := 16) (v := Value.int 1) (fun lv lg ls => ?_)
                            replace l15 := lg 15 _ rfl rfl l15
                            replace l14 := lg 14 _ rfl rfl l14
                            replace l0 := lg 0 _ rfl rfl l0
                            replace l1 := lg 1 _ rfl rfl l1
                            replace l2 := lg 2 _ rfl rfl l2
                            replace l4 := lg 4 _ rfl rfl l4
                            replace l5 := lg 5 _ rfl rfl l5
                            replace l6 := lg 6 _ rfl rfl l6
                            replace l7 := lg 7 _ rfl rfl l7
                            replace l8 := lg 8 _ rfl rfl l8
                            replace l9 := lg 9 _ rfl rfl l9
                            replace l13 := lg 13 _ rfl rfl l13
                            have l16 := ls
                            refine i_180_517 (x := 1) l16 ?_
                            refine i_180_519 (fun c => absurd c (by decide)) (fun _ => ?_)
                            refine i_180_522 (x := 128) l0 ?_
                            refine i_180_523 (v := Value.ref 151) hR.c128 rfl ?_
                            refine i_180_526 ?_
                            obtain ⟨fs, hobj⟩ := hR.obj (h := 151) (iNw (h := 151) (by decide) (by decide) (by decide))
                            obtain ⟨w, hrun, hR⟩ := r_setl (d := d + 1) (x := (1 : Int64)) (v := 1) hR (iNw (h := 151) (by decide) (by decide) (by decide)) rfl
                            refine i_180_527 hobj (Nat.le_of_ble_eq_true rfl) hrun ?_
                            refine i_180_530 (x := 128) l0 ?_
                            refine i_180_531 (x := Int32.ofInt r) l1 ?_
                            refine i_180_532 (x := 128) l0 ?_
                            refine i_180_533 (v := Value.ref 151) hR.c128 rfl ?_
                            refine i_180_536 (x := 128) l0 ?_
                            refine i_180_537 (v := Value.int (Int32.ofInt (S 128 17))) hR.c128 rfl ?_
                            refine i_180_540 ?_
                            refine i_180_541 (c := Int32.ofInt ((S 128 17) - 1)) (o_sub (S 128 17) 1) ?_
                            have hobj := hR.c128
                            obtain ⟨w, hrun, S141, V141, hR, hk141, ht141, hq141, hS141, hV141⟩ := s_put (d := d) (h := 151) (r := r) (e := (S 128 17) - 1) hR (iNw (h := 151) (by decide) (by decide) (by decide)) (by omega) (by omega) (by omega) (by omega) (by simpa [u2_e] using p0) (by simpa [u2_e] using p1) (by rw [show (uv (uv V 135 q) 151 1) 151 = 1 from uv_s]; decide) (by rw [show (uv (uv V 135 q) 151 1) 151 = 1 from uv_s]; decide)
                            rw [show (uv (uv V 135 q) 151 1) 151 = 1 from uv_s] at ht141 hq141
                            refine i_180_542 hobj (Nat.le_of_ble_eq_true rfl) hrun ?_
                            refine i_180_545 (x := 128) l0 ?_
                            refine i_180_546 (v := Value.ref 156) hR.c128 rfl ?_
                            refine i_180_549 (x := Int32.ofInt r) l1 ?_
                            refine i_180_550 (x := Int32.ofInt sg) l5 ?_
                            refine i_180_552z (v := Value.int (Int32.ofInt sg)) (hR.row a156) (ix0 (T := r) (by omega) (by omega)) (ix1 (T := r) (by omega) (by omega) (by omega)) (by decide) (nrb (by omega)) ?_
                            rw [ixn (T := r) (by omega) (by omega)]
                            refine xgen (P := mR w0 (u2 S141 156 ((r).toNat) sg) V141) (hR.arr a156 rfl) (fun w hR => ?_)
                            refine i_180_553 ?_
                            refine i_180_565 (x := 1) l16 ?_
                            refine i_180_567 (fun c => absurd c (by decide)) (fun _ => ?_)
                            refine i_180_570 ?_
                            refine i_180_571 ?_
                            refine i_180_575 rfl ?_
                            refine lgen1 (i := 14) (v := Value.int 1) (fun lv lg ls => ?_)
                            replace l16 := lg 16 _ rfl rfl l16
                            replace l15 := lg 15 _ rfl rfl l15
                            replace l0 := lg 0 _ rfl rfl l0
                            replace l1 := lg 1 _ rfl rfl l1
                            replace l2 := lg 2 _ rfl rfl l2
                            replace l4 := lg 4 _ rfl rfl l4
                            replace l5 := lg 5 _ rfl rfl l5
                            replace l6 := lg 6 _ rfl rfl l6
                            replace l7 := lg 7 _ rfl rfl l7
                            replace l8 := lg 8 _ rfl rfl l8
                            replace l9 := lg 9 _ rfl rfl l9
                            replace l13 := lg 13 _ rfl rfl l13
                            have l14 := ls
                            refine i_180_577 ?_
                            have eo : rD p (S 128 17) (S 128 18) (S 128 20) (S 128 21) sg mode x more (V h) q u way (S 128 19) = (3, (xbl 1 : Int) + ((S 128 17) - 1), nrm 1 p, 1, zor (S 128 19) 4) := by unfold rD; rw [if_neg (by omega), if_neg (by omega), if_pos (by omega), if_pos (by simp [upU, away, *])]
                            refine k _ _ _ _ _ eo.symm l0 l5 l8 l14 hR ?_
                            refine ⟨?_, ?_, ⟨fun _ => ⟨?_, ?_⟩, fun h => absurd rfl h⟩, ?_, ?_, ?_⟩
                            · simp [u2_e, hk141]
                            · simp [u2_e]
                            · rw [u2_e, if_neg (by omega)]; exact ht141
                            · simpa [u2_e, hp] using hq141
                            · rw [u2_e, if_neg (by omega)]; rw [hS141 _ _ (by omega) (by omega)]; simp [u2_e]
                            · intro a j g1 g2 g3 g4; rw [u2_e, if_neg g3]; rw [hS141 a j g1 g2]; rw [u2_e, if_neg g4]
                            · intro k g1 g2 g3 g4 g5; rw [hV141 k g2 g5, uv_n (by omega), uv_n (by omega)]
                          · refine i_180_489 (x := Int32.ofInt mode) l6 ?_
                            refine i_180_491 ?_
                            refine i_180_492 (b_ne (a := mode) (b := 3) ⟨by omega, by omega⟩ ⟨by decide, by decide⟩ fun c141 => ?_) (b_eq (a := mode) (b := 3) ⟨by omega, by omega⟩ ⟨by decide, by decide⟩ fun c141 => absurd c141 (by omega))
                            refine i_180_500 (x := Int32.ofInt mode) l6 ?_
                            refine i_180_502 (z_ne (a := mode) ⟨by omega, by omega⟩ fun c142 => ?_) (z_eq (a := mode) ⟨by omega, by omega⟩ fun c142 => absurd c142 (by omega))
                            refine i_180_514 ?_
                            refine i_180_515 rfl ?_
                            refine lgen1 (i := 16) (v := Value.int 0) (fun lv lg ls => ?_)
                            replace l15 := lg 15 _ rfl rfl l15
                            replace l14 := lg 14 _ rfl rfl l14
                            replace l0 := lg 0 _ rfl rfl l0
                            replace l1 := lg 1 _ rfl rfl l1
                            replace l2 := lg 2 _ rfl rfl l2
                            replace l4 := lg 4 _ rfl rfl l4
                            replace l5 := lg 5 _ rfl rfl l5
                            replace l6 := lg 6 _ rfl rfl l6
                            replace l7 := lg 7 _ rfl rfl l7
                            replace l8 := lg 8 _ rfl rfl l8
                            replace l9 := lg 9 _ rfl rfl l9
                            replace l13 := lg 13 _ rfl rfl l13
                            have l16 := ls
                            refine i_180_517 (x := 0) l16 ?_
                            refine i_180_519 (fun _ => ?_) (fun c => absurd c (by decide))
                            refine i_180_556 (x := 128) l0 ?_
                            refine i_180_557 (x := Int32.ofInt r) l1 ?_
                            refine i_180_558 ?_
                            refine i_180_559 (x := Int32.ofInt sg) l5 ?_
                            have hobj := hR.c128
                            obtain ⟨w, hrun, hR⟩ := s_special (d := d + 2) (r := r) (k := 2) (s := sg) hR (by omega) (by omega) (by omega)
                            refine i_180_561 hobj (Nat.le_of_ble_eq_true rfl) hrun ?_
                            refine i_180_564 rfl ?_
                            refine i_180_565 (x := 0) l16 ?_
                            refine i_180_567 (fun _ => ?_) (fun c => absurd c (by decide))
                            refine i_180_574 ?_
                            refine i_180_575 rfl ?_
                            refine lgen1 (i := 14) (v := Value.int (-1)) (fun lv lg ls => ?_)
                            replace l16 := lg 16 _ rfl rfl l16
                            replace l15 := lg 15 _ rfl rfl l15
                            replace l0 := lg 0 _ rfl rfl l0
                            replace l1 := lg 1 _ rfl rfl l1
                            replace l2 := lg 2 _ rfl rfl l2
                            replace l4 := lg 4 _ rfl rfl l4
                            replace l5 := lg 5 _ rfl rfl l5
                            replace l6 := lg 6 _ rfl rfl l6
                            replace l7 := lg 7 _ rfl rfl l7
                            replace l8 := lg 8 _ rfl rfl l8
                            replace l9 := lg 9 _ rfl rfl l9
                            replace l13 := lg 13 _ rfl rfl l13
                            have l14 := ls
                            refine i_180_577 ?_
                            have eo : rD p (S 128 17) (S 128 18) (S 128 20) (S 128 21) sg mode x more (V h) q u way (S 128 19) = (2, 0, 0, (-1), zor (S 128 19) 4) := by unfold rD; rw [if_neg (by omega), if_neg (by omega), if_pos (by omega), if_neg (by simp [upU, away, *])]
                            refine k _ _ _ _ _ eo.symm l0 l5 l8 l14 hR ?_
                            refine ⟨by simp [u2_e], by simp [u2_e], ⟨fun h => absurd (show (2 : Int) = 3 from h) (by decide), fun _ => ⟨by simp [u2_e], by repeat rw [uv_n (by omega)]⟩⟩, by simp [u2_e], ?_, ?_⟩
                            · intro a j g1 g2 g3 g4; simp [u2_e, g1, g3, g4]
                            · intro k g1 g2 g3 g4 g5; rw [uv_n (by omega)]
                    · refine i_180_465 ?_
                      refine i_180_466 ?_
                      refine i_180_470 rfl ?_
                      refine lgen1 (i := 15) (v := Value.int 1) (fun lv lg ls => ?_)
                      replace l14 := lg 14 _ rfl rfl l14
                      replace l0 := lg 0 _ rfl rfl l0
                      replace l1 := lg 1 _ rfl rfl l1
                      replace l2 := lg 2 _ rfl rfl l2
                      replace l4 := lg 4 _ rfl rfl l4
                      replace l5 := lg 5 _ rfl rfl l5
                      replace l6 := lg 6 _ rfl rfl l6
                      replace l7 := lg 7 _ rfl rfl l7
                      replace l8 := lg 8 _ rfl rfl l8
                      replace l9 := lg 9 _ rfl rfl l9
                      replace l13 := lg 13 _ rfl rfl l13
                      have l15 := ls
                      refine i_180_472 (x := Int32.ofInt mode) l6 ?_
                      refine i_180_474 ?_
                      refine i_180_475 (b_eq (a := mode) (b := 4) ⟨by omega, by omega⟩ ⟨by decide, by decide⟩ fun c143 => ?_) (b_ne (a := mode) (b := 4) ⟨by omega, by omega⟩ ⟨by decide, by decide⟩ fun c143 => ?_)
                      · refine i_180_510 ?_
                        refine i_180_511 ?_
                        refine i_180_515 rfl ?_
                        refine lgen1 (i := 16) (v := Value.int 1) (fun lv lg ls => ?_)
                        replace l15 := lg 15 _ rfl rfl l15
                        replace l14 := lg 14 _ rfl rfl l14
                        replace l0 := lg 0 _ rfl rfl l0
                        replace l1 := lg 1 _ rfl rfl l1
                        replace l2 := lg 2 _ rfl rfl l2
                        replace l4 := lg 4 _ rfl rfl l4
                        replace l5 := lg 5 _ rfl rfl l5
                        replace l6 := lg 6 _ rfl rfl l6
                        replace l7 := lg 7 _ rfl rfl l7
                        replace l8 := lg 8 _ rfl rfl l8
                        replace l9 := lg 9 _ rfl rfl l9
                        replace l13 := lg 13 _ rfl rfl l13
                        have l16 := ls
                        refine i_180_517 (x := 1) l16 ?_
                        refine i_180_519 (fun c => absurd c (by decide)) (fun _ => ?_)
                        refine i_180_522 (x := 128) l0 ?_
                        refine i_180_523 (v := Value.ref 151) hR.c128 rfl ?_
                        refine i_180_526 ?_
                        obtain ⟨fs, hobj⟩ := hR.obj (h := 151) (iNw (h := 151) (by decide) (by decide) (by decide))
                        obtain ⟨w, hrun, hR⟩ := r_setl (d := d + 1) (x := (1 : Int64)) (v := 1) hR (iNw (h := 151) (by decide) (by decide) (by decide)) rfl
                        refine i_180_527 hobj (Nat.le_of_ble_eq_true rfl) hrun ?_
                        refine i_180_530 (x := 128) l0 ?_
                        refine i_180_531 (x := Int32.ofInt r) l1 ?_
                        refine i_180_532 (x := 128) l0 ?_
                        refine i_180_533 (v := Value.ref 151) hR.c128 rfl ?_
                        refine i_180_536 (x := 128) l0 ?_
                        refine i_180_537 (v := Value.int (Int32.ofInt (S 128 17))) hR.c128 rfl ?_
                        refine i_180_540 ?_
                        refine i_180_541 (c := Int32.ofInt ((S 128 17) - 1)) (o_sub (S 128 17) 1) ?_
                        have hobj := hR.c128
                        obtain ⟨w, hrun, S145, V145, hR, hk145, ht145, hq145, hS145, hV145⟩ := s_put (d := d) (h := 151) (r := r) (e := (S 128 17) - 1) hR (iNw (h := 151) (by decide) (by decide) (by decide)) (by omega) (by omega) (by omega) (by omega) (by simpa [u2_e] using p0) (by simpa [u2_e] using p1) (by rw [show (uv (uv V 135 q) 151 1) 151 = 1 from uv_s]; decide) (by rw [show (uv (uv V 135 q) 151 1) 151 = 1 from uv_s]; decide)
                        rw [show (uv (uv V 135 q) 151 1) 151 = 1 from uv_s] at ht145 hq145
                        refine i_180_542 hobj (Nat.le_of_ble_eq_true rfl) hrun ?_
                        refine i_180_545 (x := 128) l0 ?_
                        refine i_180_546 (v := Value.ref 156) hR.c128 rfl ?_
                        refine i_180_549 (x := Int32.ofInt r) l1 ?_
                        refine i_180_550 (x := Int32.ofInt sg) l5 ?_
                        refine i_180_552z (v := Value.int (Int32.ofInt sg)) (hR.row a156) (ix0 (T := r) (by omega) (by omega)) (ix1 (T := r) (by omega) (by omega) (by omega)) (by decide) (nrb (by omega)) ?_
                        rw [ixn (T := r) (by omega) (by omega)]
                        refine xgen (P := mR w0 (u2 S145 156 ((r).toNat) sg) V145) (hR.arr a156 rfl) (fun w hR => ?_)
                        refine i_180_553 ?_
                        refine i_180_565 (x := 1) l16 ?_
                        refine i_180_567 (fun c => absurd c (by decide)) (fun _ => ?_)
                        refine i_180_570 ?_
                        refine i_180_571 ?_
                        refine i_180_575 rfl ?_
                        refine lgen1 (i := 14) (v := Value.int 1) (fun lv lg ls => ?_)
                        replace l16 := lg 16 _ rfl rfl l16
                        replace l15 := lg 15 _ rfl rfl l15
                        replace l0 := lg 0 _ rfl rfl l0
                        replace l1 := lg 1 _ rfl rfl l1
                        replace l2 := lg 2 _ rfl rfl l2
                        replace l4 := lg 4 _ rfl rfl l4
                        replace l5 := lg 5 _ rfl rfl l5
                        replace l6 := lg 6 _ rfl rfl l6
                        replace l7 := lg 7 _ rfl rfl l7
                        replace l8 := lg 8 _ rfl rfl l8
                        replace l9 := lg 9 _ rfl rfl l9
                        replace l13 := lg 13 _ rfl rfl l13
                        have l14 := ls
                        refine i_180_577 ?_
                        have eo : rD p (S 128 17) (S 128 18) (S 128 20) (S 128 21) sg mode x more (V h) q u way (S 128 19) = (3, (xbl 1 : Int) + ((S 128 17) - 1), nrm 1 p, 1, zor (S 128 19) 4) := by unfold rD; rw [if_neg (by omega), if_neg (by omega), if_pos (by omega), if_pos (by simp [upU, away, *])]
                        refine k _ _ _ _ _ eo.symm l0 l5 l8 l14 hR ?_
                        refine ⟨?_, ?_, ⟨fun _ => ⟨?_, ?_⟩, fun h => absurd rfl h⟩, ?_, ?_, ?_⟩
                        · simp [u2_e, hk145]
                        · simp [u2_e]
                        · rw [u2_e, if_neg (by omega)]; exact ht145
                        · simpa [u2_e, hp] using hq145
                        · rw [u2_e, if_neg (by omega)]; rw [hS145 _ _ (by omega) (by omega)]; simp [u2_e]
                        · intro a j g1 g2 g3 g4; rw [u2_e, if_neg g3]; rw [hS145 a j g1 g2]; rw [u2_e, if_neg g4]
                        · intro k g1 g2 g3 g4 g5; rw [hV145 k g2 g5, uv_n (by omega), uv_n (by omega)]
                      · refine i_180_478 (x := Int32.ofInt mode) l6 ?_
                        refine i_180_480 ?_
                        refine i_180_481 (b_ne (a := mode) (b := 2) ⟨by omega, by omega⟩ ⟨by decide, by decide⟩ fun c145 => ?_) (b_eq (a := mode) (b := 2) ⟨by omega, by omega⟩ ⟨by decide, by decide⟩ fun c145 => ?_)
                        · refine i_180_489 (x := Int32.ofInt mode) l6 ?_
                          refine i_180_491 ?_
                          refine i_180_492 (b_ne (a := mode) (b := 3) ⟨by omega, by omega⟩ ⟨by decide, by decide⟩ fun c146 => ?_) (b_eq (a := mode) (b := 3) ⟨by omega, by omega⟩ ⟨by decide, by decide⟩ fun c146 => ?_)
                          · refine i_180_500 (x := Int32.ofInt mode) l6 ?_
                            refine i_180_502 (z_ne (a := mode) ⟨by omega, by omega⟩ fun c147 => ?_) (z_eq (a := mode) ⟨by omega, by omega⟩ fun c147 => ?_)
                            · refine i_180_514 ?_
                              refine i_180_515 rfl ?_
                              refine lgen1 (i := 16) (v := Value.int 0) (fun lv lg ls => ?_)
                              replace l15 := lg 15 _ rfl rfl l15
                              replace l14 := lg 14 _ rfl rfl l14
                              replace l0 := lg 0 _ rfl rfl l0
                              replace l1 := lg 1 _ rfl rfl l1
                              replace l2 := lg 2 _ rfl rfl l2
                              replace l4 := lg 4 _ rfl rfl l4
                              replace l5 := lg 5 _ rfl rfl l5
                              replace l6 := lg 6 _ rfl rfl l6
                              replace l7 := lg 7 _ rfl rfl l7
                              replace l8 := lg 8 _ rfl rfl l8
                              replace l9 := lg 9 _ rfl rfl l9
                              replace l13 := lg 13 _ rfl rfl l13
                              have l16 := ls
                              refine i_180_517 (x := 0) l16 ?_
                              refine i_180_519 (fun _ => ?_) (fun c => absurd c (by decide))
                              refine i_180_556 (x := 128) l0 ?_
                              refine i_180_557 (x := Int32.ofInt r) l1 ?_
                              refine i_180_558 ?_
                              refine i_180_559 (x := Int32.ofInt sg) l5 ?_
                              have hobj := hR.c128
                              obtain ⟨w, hrun, hR⟩ := s_special (d := d + 2) (r := r) (k := 2) (s := sg) hR (by omega) (by omega) (by omega)
                              refine i_180_561 hobj (Nat.le_of_ble_eq_true rfl) hrun ?_
                              refine i_180_564 rfl ?_
                              refine i_180_565 (x := 0) l16 ?_
                              refine i_180_567 (fun _ => ?_) (fun c => absurd c (by decide))
                              refine i_180_574 ?_
                              refine i_180_575 rfl ?_
                              refine lgen1 (i := 14) (v := Value.int (-1)) (fun lv lg ls => ?_)
                              replace l16 := lg 16 _ rfl rfl l16
                              replace l15 := lg 15 _ rfl rfl l15
                              replace l0 := lg 0 _ rfl rfl l0
                              replace l1 := lg 1 _ rfl rfl l1
                              replace l2 := lg 2 _ rfl rfl l2
                              replace l4 := lg 4 _ rfl rfl l4
                              replace l5 := lg 5 _ rfl rfl l5
                              replace l6 := lg 6 _ rfl rfl l6
                              replace l7 := lg 7 _ rfl rfl l7
                              replace l8 := lg 8 _ rfl rfl l8
                              replace l9 := lg 9 _ rfl rfl l9
                              replace l13 := lg 13 _ rfl rfl l13
                              have l14 := ls
                              refine i_180_577 ?_
                              have eo : rD p (S 128 17) (S 128 18) (S 128 20) (S 128 21) sg mode x more (V h) q u way (S 128 19) = (2, 0, 0, (-1), zor (S 128 19) 4) := by unfold rD; rw [if_neg (by omega), if_neg (by omega), if_pos (by omega), if_neg (by simp [upU, away, *])]
                              refine k _ _ _ _ _ eo.symm l0 l5 l8 l14 hR ?_
                              refine ⟨by simp [u2_e], by simp [u2_e], ⟨fun h => absurd (show (2 : Int) = 3 from h) (by decide), fun _ => ⟨by simp [u2_e], by repeat rw [uv_n (by omega)]⟩⟩, by simp [u2_e], ?_, ?_⟩
                              · intro a j g1 g2 g3 g4; simp [u2_e, g1, g3, g4]
                              · intro k g1 g2 g3 g4 g5; rw [uv_n (by omega)]
                            · refine i_180_505 (x := 1) l15 ?_
                              refine i_180_507 (fun c => absurd c (by decide)) (fun _ => ?_)
                              refine i_180_510 ?_
                              refine i_180_511 ?_
                              refine i_180_515 rfl ?_
                              refine lgen1 (i := 16) (v := Value.int 1) (fun lv lg ls => ?_)
                              replace l15 := lg 15 _ rfl rfl l15
                              replace l14 := lg 14 _ rfl rfl l14
                              replace l0 := lg 0 _ rfl rfl l0
                              replace l1 := lg 1 _ rfl rfl l1
                              replace l2 := lg 2 _ rfl rfl l2
                              replace l4 := lg 4 _ rfl rfl l4
                              replace l5 := lg 5 _ rfl rfl l5
                              replace l6 := lg 6 _ rfl rfl l6
                              replace l7 := lg 7 _ rfl rfl l7
                              replace l8 := lg 8 _ rfl rfl l8
                              replace l9 := lg 9 _ rfl rfl l9
                              replace l13 := lg 13 _ rfl rfl l13
                              have l16 := ls
                              refine i_180_517 (x := 1) l16 ?_
                              refine i_180_519 (fun c => absurd c (by decide)) (fun _ => ?_)
                              refine i_180_522 (x := 128) l0 ?_
                              refine i_180_523 (v := Value.ref 151) hR.c128 rfl ?_
                              refine i_180_526 ?_
                              obtain ⟨fs, hobj⟩ := hR.obj (h := 151) (iNw (h := 151) (by decide) (by decide) (by decide))
                              obtain ⟨w, hrun, hR⟩ := r_setl (d := d + 1) (x := (1 : Int64)) (v := 1) hR (iNw (h := 151) (by decide) (by decide) (by decide)) rfl
                              refine i_180_527 hobj (Nat.le_of_ble_eq_true rfl) hrun ?_
                              refine i_180_530 (x := 128) l0 ?_
                              refine i_180_531 (x := Int32.ofInt r) l1 ?_
                              refine i_180_532 (x := 128) l0 ?_
                              refine i_180_533 (v := Value.ref 151) hR.c128 rfl ?_
                              refine i_180_536 (x := 128) l0 ?_
                              refine i_180_537 (v := Value.int (Int32.ofInt (S 128 17))) hR.c128 rfl ?_
                              refine i_180_540 ?_
                              refine i_180_541 (c := Int32.ofInt ((S 128 17) - 1)) (o_sub (S 128 17) 1) ?_
                              have hobj := hR.c128
                              obtain ⟨w, hrun, S149, V149, hR, hk149, ht149, hq149, hS149, hV149⟩ := s_put (d := d) (h := 151) (r := r) (e := (S 128 17) - 1) hR (iNw (h := 151) (by decide) (by decide) (by decide)) (by omega) (by omega) (by omega) (by omega) (by simpa [u2_e] using p0) (by simpa [u2_e] using p1) (by rw [show (uv (uv V 135 q) 151 1) 151 = 1 from uv_s]; decide) (by rw [show (uv (uv V 135 q) 151 1) 151 = 1 from uv_s]; decide)
                              rw [show (uv (uv V 135 q) 151 1) 151 = 1 from uv_s] at ht149 hq149
                              refine i_180_542 hobj (Nat.le_of_ble_eq_true rfl) hrun ?_
                              refine i_180_545 (x := 128) l0 ?_
                              refine i_180_546 (v := Value.ref 156) hR.c128 rfl ?_
                              refine i_180_549 (x := Int32.ofInt r) l1 ?_
                              refine i_180_550 (x := Int32.ofInt sg) l5 ?_
                              refine i_180_552z (v := Value.int (Int32.ofInt sg)) (hR.row a156) (ix0 (T := r) (by omega) (by omega)) (ix1 (T := r) (by omega) (by omega) (by omega)) (by decide) (nrb (by omega)) ?_
                              rw [ixn (T := r) (by omega) (by omega)]
                              refine xgen (P := mR w0 (u2 S149 156 ((r).toNat) sg) V149) (hR.arr a156 rfl) (fun w hR => ?_)
                              refine i_180_553 ?_
                              refine i_180_565 (x := 1) l16 ?_
                              refine i_180_567 (fun c => absurd c (by decide)) (fun _ => ?_)
                              refine i_180_570 ?_
                              refine i_180_571 ?_
                              refine i_180_575 rfl ?_
                              refine lgen1 (i := 14) (v := Value.int 1) (fun lv lg ls => ?_)
                              replace l16 := lg 16 _ rfl rfl l16
                              replace l15 := lg 15 _ rfl rfl l15
                              replace l0 := lg 0 _ rfl rfl l0
                              replace l1 := lg 1 _ rfl rfl l1
                              replace l2 := lg 2 _ rfl rfl l2
                              replace l4 := lg 4 _ rfl rfl l4
                              replace l5 := lg 5 _ rfl rfl l5
                              replace l6 := lg 6 _ rfl rfl l6
                              replace l7 := lg 7 _ rfl rfl l7
                              replace l8 := lg 8 _ rfl rfl l8
                              replace l9 := lg 9 _ rfl rfl l9
                              replace l13 := lg 13 _ rfl rfl l13
                              have l14 := ls
                              refine i_180_577 ?_
                              have eo : rD p (S 128 17) (S 128 18) (S 128 20) (S 128 21) sg mode x more (V h) q u way (S 128 19) = (3, (xbl 1 : Int) + ((S 128 17) - 1), nrm 1 p, 1, zor (S 128 19) 4) := by unfold rD; rw [if_neg (by omega), if_neg (by omega), if_pos (by omega), if_pos (by simp [upU, away, *])]
                              refine k _ _ _ _ _ eo.symm l0 l5 l8 l14 hR ?_
                              refine ⟨?_, ?_, ⟨fun _ => ⟨?_, ?_⟩, fun h => absurd rfl h⟩, ?_, ?_, ?_⟩
                              · simp [u2_e, hk149]
                              · simp [u2_e]
                              · rw [u2_e, if_neg (by omega)]; exact ht149
                              · simpa [u2_e, hp] using hq149
                              · rw [u2_e, if_neg (by omega)]; rw [hS149 _ _ (by omega) (by omega)]; simp [u2_e]
                              · intro a j g1 g2 g3 g4; rw [u2_e, if_neg g3]; rw [hS149 a j g1 g2]; rw [u2_e, if_neg g4]
                              · intro k g1 g2 g3 g4 g5; rw [hV149 k g2 g5, uv_n (by omega), uv_n (by omega)]
                          · refine i_180_495 (x := Int32.ofInt sg) l5 ?_
                            refine i_180_497 (z_ne (a := sg) ⟨by omega, by omega⟩ fun c149 => ?_) (z_eq (a := sg) ⟨by omega, by omega⟩ fun c149 => ?_)
                            · refine i_180_510 ?_
                              refine i_180_511 ?_
                              refine i_180_515 rfl ?_
                              refine lgen1 (i := 16) (v := Value.int 1) (fun lv lg ls => ?_)
                              replace l15 := lg 15 _ rfl rfl l15
                              replace l14 := lg 14 _ rfl rfl l14
                              replace l0 := lg 0 _ rfl rfl l0
                              replace l1 := lg 1 _ rfl rfl l1
                              replace l2 := lg 2 _ rfl rfl l2
                              replace l4 := lg 4 _ rfl rfl l4
                              replace l5 := lg 5 _ rfl rfl l5
                              replace l6 := lg 6 _ rfl rfl l6
                              replace l7 := lg 7 _ rfl rfl l7
                              replace l8 := lg 8 _ rfl rfl l8
                              replace l9 := lg 9 _ rfl rfl l9
                              replace l13 := lg 13 _ rfl rfl l13
                              have l16 := ls
                              refine i_180_517 (x := 1) l16 ?_
                              refine i_180_519 (fun c => absurd c (by decide)) (fun _ => ?_)
                              refine i_180_522 (x := 128) l0 ?_
                              refine i_180_523 (v := Value.ref 151) hR.c128 rfl ?_
                              refine i_180_526 ?_
                              obtain ⟨fs, hobj⟩ := hR.obj (h := 151) (iNw (h := 151) (by decide) (by decide) (by decide))
                              obtain ⟨w, hrun, hR⟩ := r_setl (d := d + 1) (x := (1 : Int64)) (v := 1) hR (iNw (h := 151) (by decide) (by decide) (by decide)) rfl
                              refine i_180_527 hobj (Nat.le_of_ble_eq_true rfl) hrun ?_
                              refine i_180_530 (x := 128) l0 ?_
                              refine i_180_531 (x := Int32.ofInt r) l1 ?_
                              refine i_180_532 (x := 128) l0 ?_
                              refine i_180_533 (v := Value.ref 151) hR.c128 rfl ?_
                              refine i_180_536 (x := 128) l0 ?_
                              refine i_180_537 (v := Value.int (Int32.ofInt (S 128 17))) hR.c128 rfl ?_
                              refine i_180_540 ?_
                              refine i_180_541 (c := Int32.ofInt ((S 128 17) - 1)) (o_sub (S 128 17) 1) ?_
                              have hobj := hR.c128
                              obtain ⟨w, hrun, S151, V151, hR, hk151, ht151, hq151, hS151, hV151⟩ := s_put (d := d) (h := 151) (r := r) (e := (S 128 17) - 1) hR (iNw (h := 151) (by decide) (by decide) (by decide)) (by omega) (by omega) (by omega) (by omega) (by simpa [u2_e] using p0) (by simpa [u2_e] using p1) (by rw [show (uv (uv V 135 q) 151 1) 151 = 1 from uv_s]; decide) (by rw [show (uv (uv V 135 q) 151 1) 151 = 1 from uv_s]; decide)
                              rw [show (uv (uv V 135 q) 151 1) 151 = 1 from uv_s] at ht151 hq151
                              refine i_180_542 hobj (Nat.le_of_ble_eq_true rfl) hrun ?_
                              refine i_180_545 (x := 128) l0 ?_
                              refine i_180_546 (v := Value.ref 156) hR.c128 rfl ?_
                              refine i_180_549 (x := Int32.ofInt r) l1 ?_
                              refine i_180_550 (x := Int32.ofInt sg) l5 ?_
                              refine i_180_552z (v := Value.int (Int32.ofInt sg)) (hR.row a156) (ix0 (T := r) (by omega) (by omega)) (ix1 (T := r) (by omega) (by omega) (by omega)) (by decide) (nrb (by omega)) ?_
                              rw [ixn (T := r) (by omega) (by omega)]
                              refine xgen (P := mR w0 (u2 S151 156 ((r).toNat) sg) V151) (hR.arr a156 rfl) (fun w hR => ?_)
                              refine i_180_553 ?_
                              refine i_180_565 (x := 1) l16 ?_
                              refine i_180_567 (fun c => absurd c (by decide)) (fun _ => ?_)
                              refine i_180_570 ?_
                              refine i_180_571 ?_
                              refine i_180_575 rfl ?_
                              refine lgen1 (i := 14) (v := Value.int 1) (fun lv lg ls => ?_)
                              replace l16 := lg 16 _ rfl rfl l16
                              replace l15 := lg 15 _ rfl rfl l15
                              replace l0 := lg 0 _ rfl rfl l0
                              replace l1 := lg 1 _ rfl rfl l1
                              replace l2 := lg 2 _ rfl rfl l2
                              replace l4 := lg 4 _ rfl rfl l4
                              replace l5 := lg 5 _ rfl rfl l5
                              replace l6 := lg 6 _ rfl rfl l6
                              replace l7 := lg 7 _ rfl rfl l7
                              replace l8 := lg 8 _ rfl rfl l8
                              replace l9 := lg 9 _ rfl rfl l9
                              replace l13 := lg 13 _ rfl rfl l13
                              have l14 := ls
                              refine i_180_577 ?_
                              have eo : rD p (S 128 17) (S 128 18) (S 128 20) (S 128 21) sg mode x more (V h) q u way (S 128 19) = (3, (xbl 1 : Int) + ((S 128 17) - 1), nrm 1 p, 1, zor (S 128 19) 4) := by unfold rD; rw [if_neg (by omega), if_neg (by omega), if_pos (by omega), if_pos (by simp [upU, away, *])]
                              refine k _ _ _ _ _ eo.symm l0 l5 l8 l14 hR ?_
                              refine ⟨?_, ?_, ⟨fun _ => ⟨?_, ?_⟩, fun h => absurd rfl h⟩, ?_, ?_, ?_⟩
                              · simp [u2_e, hk151]
                              · simp [u2_e]
                              · rw [u2_e, if_neg (by omega)]; exact ht151
                              · simpa [u2_e, hp] using hq151
                              · rw [u2_e, if_neg (by omega)]; rw [hS151 _ _ (by omega) (by omega)]; simp [u2_e]
                              · intro a j g1 g2 g3 g4; rw [u2_e, if_neg g3]; rw [hS151 a j g1 g2]; rw [u2_e, if_neg g4]
                              · intro k g1 g2 g3 g4 g5; rw [hV151 k g2 g5, uv_n (by omega), uv_n (by omega)]
                            · refine i_180_500 (x := Int32.ofInt mode) l6 ?_
                              refine i_180_502 (z_ne (a := mode) ⟨by omega, by omega⟩ fun c151 => ?_) (z_eq (a := mode) ⟨by omega, by omega⟩ fun c151 => absurd c151 (by omega))
                              refine i_180_514 ?_
                              refine i_180_515 rfl ?_
                              refine lgen1 (i := 16) (v := Value.int 0) (fun lv lg ls => ?_)
                              replace l15 := lg 15 _ rfl rfl l15
                              replace l14 := lg 14 _ rfl rfl l14
                              replace l0 := lg 0 _ rfl rfl l0
                              replace l1 := lg 1 _ rfl rfl l1
                              replace l2 := lg 2 _ rfl rfl l2
                              replace l4 := lg 4 _ rfl rfl l4
                              replace l5 := lg 5 _ rfl rfl l5
                              replace l6 := lg 6 _ rfl rfl l6
                              replace l7 := lg 7 _ rfl rfl l7
                              replace l8 := lg 8 _ rfl rfl l8
                              replace l9 := lg 9 _ rfl rfl l9
                              replace l13 := lg 13 _ rfl rfl l13
                              have l16 := ls
                              refine i_180_517 (x := 0) l16 ?_
                              refine i_180_519 (fun _ => ?_) (fun c => absurd c (by decide))
                              refine i_180_556 (x := 128) l0 ?_
                              refine i_180_557 (x := Int32.ofInt r) l1 ?_
                              refine i_180_558 ?_
                              refine i_180_559 (x := Int32.ofInt sg) l5 ?_
                              have hobj := hR.c128
                              obtain ⟨w, hrun, hR⟩ := s_special (d := d + 2) (r := r) (k := 2) (s := sg) hR (by omega) (by omega) (by omega)
                              refine i_180_561 hobj (Nat.le_of_ble_eq_true rfl) hrun ?_
                              refine i_180_564 rfl ?_
                              refine i_180_565 (x := 0) l16 ?_
                              refine i_180_567 (fun _ => ?_) (fun c => absurd c (by decide))
                              refine i_180_574 ?_
                              refine i_180_575 rfl ?_
                              refine lgen1 (i := 14) (v := Value.int (-1)) (fun lv lg ls => ?_)
                              replace l16 := lg 16 _ rfl rfl l16
                              replace l15 := lg 15 _ rfl rfl l15
                              replace l0 := lg 0 _ rfl rfl l0
                              replace l1 := lg 1 _ rfl rfl l1
                              replace l2 := lg 2 _ rfl rfl l2
                              replace l4 := lg 4 _ rfl rfl l4
                              replace l5 := lg 5 _ rfl rfl l5
                              replace l6 := lg 6 _ rfl rfl l6
                              replace l7 := lg 7 _ rfl rfl l7
                              replace l8 := lg 8 _ rfl rfl l8
                              replace l9 := lg 9 _ rfl rfl l9
                              replace l13 := lg 13 _ rfl rfl l13
                              have l14 := ls
                              refine i_180_577 ?_
                              have eo : rD p (S 128 17) (S 128 18) (S 128 20) (S 128 21) sg mode x more (V h) q u way (S 128 19) = (2, 0, 0, (-1), zor (S 128 19) 4) := by unfold rD; rw [if_neg (by omega), if_neg (by omega), if_pos (by omega), if_neg (by simp [upU, away, *])]
                              refine k _ _ _ _ _ eo.symm l0 l5 l8 l14 hR ?_
                              refine ⟨by simp [u2_e], by simp [u2_e], ⟨fun h => absurd (show (2 : Int) = 3 from h) (by decide), fun _ => ⟨by simp [u2_e], by repeat rw [uv_n (by omega)]⟩⟩, by simp [u2_e], ?_, ?_⟩
                              · intro a j g1 g2 g3 g4; simp [u2_e, g1, g3, g4]
                              · intro k g1 g2 g3 g4 g5; rw [uv_n (by omega)]
                        · refine i_180_484 (x := Int32.ofInt sg) l5 ?_
                          refine i_180_486 (z_eq (a := sg) ⟨by omega, by omega⟩ fun c152 => ?_) (z_ne (a := sg) ⟨by omega, by omega⟩ fun c152 => ?_)
                          · refine i_180_510 ?_
                            refine i_180_511 ?_
                            refine i_180_515 rfl ?_
                            refine lgen1 (i := 16) (v := Value.int 1) (fun lv lg ls => ?_)
                            replace l15 := lg 15 _ rfl rfl l15
                            replace l14 := lg 14 _ rfl rfl l14
                            replace l0 := lg 0 _ rfl rfl l0
                            replace l1 := lg 1 _ rfl rfl l1
                            replace l2 := lg 2 _ rfl rfl l2
                            replace l4 := lg 4 _ rfl rfl l4
                            replace l5 := lg 5 _ rfl rfl l5
                            replace l6 := lg 6 _ rfl rfl l6
                            replace l7 := lg 7 _ rfl rfl l7
                            replace l8 := lg 8 _ rfl rfl l8
                            replace l9 := lg 9 _ rfl rfl l9
                            replace l13 := lg 13 _ rfl rfl l13
                            have l16 := ls
                            refine i_180_517 (x := 1) l16 ?_
                            refine i_180_519 (fun c => absurd c (by decide)) (fun _ => ?_)
                            refine i_180_522 (x := 128) l0 ?_
                            refine i_180_523 (v := Value.ref 151) hR.c128 rfl ?_
                            refine i_180_526 ?_
                            obtain ⟨fs, hobj⟩ := hR.obj (h := 151) (iNw (h := 151) (by decide) (by decide) (by decide))
                            obtain ⟨w, hrun, hR⟩ := r_setl (d := d + 1) (x := (1 : Int64)) (v := 1) hR (iNw (h := 151) (by decide) (by decide) (by decide)) rfl
                            refine i_180_527 hobj (Nat.le_of_ble_eq_true rfl) hrun ?_
                            refine i_180_530 (x := 128) l0 ?_
                            refine i_180_531 (x := Int32.ofInt r) l1 ?_
                            refine i_180_532 (x := 128) l0 ?_
                            refine i_180_533 (v := Value.ref 151) hR.c128 rfl ?_
                            refine i_180_536 (x := 128) l0 ?_
                            refine i_180_537 (v := Value.int (Int32.ofInt (S 128 17))) hR.c128 rfl ?_
                            refine i_180_540 ?_
                            refine i_180_541 (c := Int32.ofInt ((S 128 17) - 1)) (o_sub (S 128 17) 1) ?_
                            have hobj := hR.c128
                            obtain ⟨w, hrun, S154, V154, hR, hk154, ht154, hq154, hS154, hV154⟩ := s_put (d := d) (h := 151) (r := r) (e := (S 128 17) - 1) hR (iNw (h := 151) (by decide) (by decide) (by decide)) (by omega) (by omega) (by omega) (by omega) (by simpa [u2_e] using p0) (by simpa [u2_e] using p1) (by rw [show (uv (uv V 135 q) 151 1) 151 = 1 from uv_s]; decide) (by rw [show (uv (uv V 135 q) 151 1) 151 = 1 from uv_s]; decide)
                            rw [show (uv (uv V 135 q) 151 1) 151 = 1 from uv_s] at ht154 hq154
                            refine i_180_542 hobj (Nat.le_of_ble_eq_true rfl) hrun ?_
                            refine i_180_545 (x := 128) l0 ?_
                            refine i_180_546 (v := Value.ref 156) hR.c128 rfl ?_
                            refine i_180_549 (x := Int32.ofInt r) l1 ?_
                            refine i_180_550 (x := Int32.ofInt sg) l5 ?_
                            refine i_180_552z (v := Value.int (Int32.ofInt sg)) (hR.row a156) (ix0 (T := r) (by omega) (by omega)) (ix1 (T := r) (by omega) (by omega) (by omega)) (by decide) (nrb (by omega)) ?_
                            rw [ixn (T := r) (by omega) (by omega)]
                            refine xgen (P := mR w0 (u2 S154 156 ((r).toNat) sg) V154) (hR.arr a156 rfl) (fun w hR => ?_)
                            refine i_180_553 ?_
                            refine i_180_565 (x := 1) l16 ?_
                            refine i_180_567 (fun c => absurd c (by decide)) (fun _ => ?_)
                            refine i_180_570 ?_
                            refine i_180_571 ?_
                            refine i_180_575 rfl ?_
                            refine lgen1 (i := 14) (v := Value.int 1) (fun lv lg ls => ?_)
                            replace l16 := lg 16 _ rfl rfl l16
                            replace l15 := lg 15 _ rfl rfl l15
                            replace l0 := lg 0 _ rfl rfl l0
                            replace l1 := lg 1 _ rfl rfl l1
                            replace l2 := lg 2 _ rfl rfl l2
                            replace l4 := lg 4 _ rfl rfl l4
                            replace l5 := lg 5 _ rfl rfl l5
                            replace l6 := lg 6 _ rfl rfl l6
                            replace l7 := lg 7 _ rfl rfl l7
                            replace l8 := lg 8 _ rfl rfl l8
                            replace l9 := lg 9 _ rfl rfl l9
                            replace l13 := lg 13 _ rfl rfl l13
                            have l14 := ls
                            refine i_180_577 ?_
                            have eo : rD p (S 128 17) (S 128 18) (S 128 20) (S 128 21) sg mode x more (V h) q u way (S 128 19) = (3, (xbl 1 : Int) + ((S 128 17) - 1), nrm 1 p, 1, zor (S 128 19) 4) := by unfold rD; rw [if_neg (by omega), if_neg (by omega), if_pos (by omega), if_pos (by simp [upU, away, *])]
                            refine k _ _ _ _ _ eo.symm l0 l5 l8 l14 hR ?_
                            refine ⟨?_, ?_, ⟨fun _ => ⟨?_, ?_⟩, fun h => absurd rfl h⟩, ?_, ?_, ?_⟩
                            · simp [u2_e, hk154]
                            · simp [u2_e]
                            · rw [u2_e, if_neg (by omega)]; exact ht154
                            · simpa [u2_e, hp] using hq154
                            · rw [u2_e, if_neg (by omega)]; rw [hS154 _ _ (by omega) (by omega)]; simp [u2_e]
                            · intro a j g1 g2 g3 g4; rw [u2_e, if_neg g3]; rw [hS154 a j g1 g2]; rw [u2_e, if_neg g4]
                            · intro k g1 g2 g3 g4 g5; rw [hV154 k g2 g5, uv_n (by omega), uv_n (by omega)]
                          · refine i_180_489 (x := Int32.ofInt mode) l6 ?_
                            refine i_180_491 ?_
                            refine i_180_492 (b_ne (a := mode) (b := 3) ⟨by omega, by omega⟩ ⟨by decide, by decide⟩ fun c154 => ?_) (b_eq (a := mode) (b := 3) ⟨by omega, by omega⟩ ⟨by decide, by decide⟩ fun c154 => absurd c154 (by omega))
                            refine i_180_500 (x := Int32.ofInt mode) l6 ?_
                            refine i_180_502 (z_ne (a := mode) ⟨by omega, by omega⟩ fun c155 => ?_) (z_eq (a := mode) ⟨by omega, by omega⟩ fun c155 => absurd c155 (by omega))
                            refine i_180_514 ?_
                            refine i_180_515 rfl ?_
                            refine lgen1 (i := 16) (v := Value.int 0) (fun lv lg ls => ?_)
                            replace l15 := lg 15 _ rfl rfl l15
                            replace l14 := lg 14 _ rfl rfl l14
                            replace l0 := lg 0 _ rfl rfl l0
                            replace l1 := lg 1 _ rfl rfl l1
                            replace l2 := lg 2 _ rfl rfl l2
                            replace l4 := lg 4 _ rfl rfl l4
                            replace l5 := lg 5 _ rfl rfl l5
                            replace l6 := lg 6 _ rfl rfl l6
                            replace l7 := lg 7 _ rfl rfl l7
                            replace l8 := lg 8 _ rfl rfl l8
                            replace l9 := lg 9 _ rfl rfl l9
                            replace l13 := lg 13 _ rfl rfl l13
                            have l16 := ls
                            refine i_180_517 (x := 0) l16 ?_
                            refine i_180_519 (fun _ => ?_) (fun c => absurd c (by decide))
                            refine i_180_556 (x := 128) l0 ?_
                            refine i_180_557 (x := Int32.ofInt r) l1 ?_
                            refine i_180_558 ?_
                            refine i_180_559 (x := Int32.ofInt sg) l5 ?_
                            have hobj := hR.c128
                            obtain ⟨w, hrun, hR⟩ := s_special (d := d + 2) (r := r) (k := 2) (s := sg) hR (by omega) (by omega) (by omega)
                            refine i_180_561 hobj (Nat.le_of_ble_eq_true rfl) hrun ?_
                            refine i_180_564 rfl ?_
                            refine i_180_565 (x := 0) l16 ?_
                            refine i_180_567 (fun _ => ?_) (fun c => absurd c (by decide))
                            refine i_180_574 ?_
                            refine i_180_575 rfl ?_
                            refine lgen1 (i := 14) (v := Value.int (-1)) (fun lv lg ls => ?_)
                            replace l16 := lg 16 _ rfl rfl l16
                            replace l15 := lg 15 _ rfl rfl l15
                            replace l0 := lg 0 _ rfl rfl l0
                            replace l1 := lg 1 _ rfl rfl l1
                            replace l2 := lg 2 _ rfl rfl l2
                            replace l4 := lg 4 _ rfl rfl l4
                            replace l5 := lg 5 _ rfl rfl l5
                            replace l6 := lg 6 _ rfl rfl l6
                            replace l7 := lg 7 _ rfl rfl l7
                            replace l8 := lg 8 _ rfl rfl l8
                            replace l9 := lg 9 _ rfl rfl l9
                            replace l13 := lg 13 _ rfl rfl l13
                            have l14 := ls
                            refine i_180_577 ?_
                            have eo : rD p (S 128 17) (S 128 18) (S 128 20) (S 128 21) sg mode x more (V h) q u way (S 128 19) = (2, 0, 0, (-1), zor (S 128 19) 4) := by unfold rD; rw [if_neg (by omega), if_neg (by omega), if_pos (by omega), if_neg (by simp [upU, away, *])]
                            refine k _ _ _ _ _ eo.symm l0 l5 l8 l14 hR ?_
                            refine ⟨by simp [u2_e], by simp [u2_e], ⟨fun h => absurd (show (2 : Int) = 3 from h) (by decide), fun _ => ⟨by simp [u2_e], by repeat rw [uv_n (by omega)]⟩⟩, by simp [u2_e], ?_, ?_⟩
                            · intro a j g1 g2 g3 g4; simp [u2_e, g1, g3, g4]
                            · intro k g1 g2 g3 g4 g5; rw [uv_n (by omega)]
        · refine i_180_377 (x := 128) l0 ?_
          refine i_180_378 (x := Int32.ofInt r) l1 ?_
          refine i_180_379 ?_
          refine i_180_380 (x := Int32.ofInt sg) l5 ?_
          have hobj := hR.c128
          obtain ⟨w, hrun, hR⟩ := s_special (d := d + 2) (r := r) (k := 2) (s := sg) hR (by omega) (by omega) (by omega)
          refine i_180_382 hobj (Nat.le_of_ble_eq_true rfl) hrun ?_
          refine i_180_385 rfl ?_
          refine i_180_386 ?_
          refine i_180_387 rfl ?_
          refine lgen1 (i := 14) (v := Value.int (-1)) (fun lv lg ls => ?_)
          replace l0 := lg 0 _ rfl rfl l0
          replace l1 := lg 1 _ rfl rfl l1
          replace l2 := lg 2 _ rfl rfl l2
          replace l4 := lg 4 _ rfl rfl l4
          replace l5 := lg 5 _ rfl rfl l5
          replace l6 := lg 6 _ rfl rfl l6
          replace l7 := lg 7 _ rfl rfl l7
          replace l8 := lg 8 _ rfl rfl l8
          replace l9 := lg 9 _ rfl rfl l9
          replace l13 := lg 13 _ rfl rfl l13
          have l14 := ls
          refine i_180_389 ?_
          have eo : rD p (S 128 17) (S 128 18) (S 128 20) (S 128 21) sg mode x more (V h) q u way (S 128 19) = (2, 0, 0, (-1), S 128 19) := by unfold rD; rw [if_neg (by omega), if_pos (by omega)]
          refine k _ _ _ _ _ eo.symm l0 l5 l8 l14 hR ?_
          refine ⟨by simp [u2_e], by simp [u2_e], ⟨fun h => absurd (show (2 : Int) = 3 from h) (by decide), fun _ => ⟨by simp [u2_e], by repeat rw [uv_n (by omega)]⟩⟩, by simp [u2_e], ?_, ?_⟩
          · intro a j g1 g2 g3 g4; simp [u2_e, g1, g3, g4]
          · intro k g1 g2 g3 g4 g5; rw [uv_n (by omega)]
      · refine i_180_233 (x := 128) l0 ?_
        refine i_180_234 rfl ?_
        refine i_180_235 (v := Value.int (Int32.ofInt (S 128 19))) hR.c128 rfl ?_
        refine i_180_238 ?_
        refine i_180_239 (c := Int32.ofInt (zor (S 128 19) 2)) (o_or (S 128 19) 2) ?_
        refine i_180_240 (fs2 := mf (u1 (S 128) 19 (zor (S 128 19) 2))) hR.c128 (Nat.le_of_ble_eq_true rfl) mfs_19 (by decide) ?_
        refine xgen (P := mR w0 (u2 S 128 19 (zor (S 128 19) 2)) (uv V 135 q)) hR.fld2 (fun w hR => ?_)
        refine i_180_243 (x := Int32.ofInt mode) l6 ?_
        refine i_180_245 (z_eq (a := mode) ⟨by omega, by omega⟩ fun c156 => ?_) (z_ne (a := mode) ⟨by omega, by omega⟩ fun c156 => ?_)
        · refine i_180_276 ?_
          refine i_180_277 ?_
          refine i_180_281 rfl ?_
          refine lgen1 (i := 15) (v := Value.int 1) (fun lv lg ls => ?_)
          replace l14 := lg 14 _ rfl rfl l14
          replace l0 := lg 0 _ rfl rfl l0
          replace l1 := lg 1 _ rfl rfl l1
          replace l2 := lg 2 _ rfl rfl l2
          replace l4 := lg 4 _ rfl rfl l4
          replace l5 := lg 5 _ rfl rfl l5
          replace l6 := lg 6 _ rfl rfl l6
          replace l7 := lg 7 _ rfl rfl l7
          replace l8 := lg 8 _ rfl rfl l8
          replace l9 := lg 9 _ rfl rfl l9
          replace l13 := lg 13 _ rfl rfl l13
          have l15 := ls
          refine i_180_283 (x := 1) l15 ?_
          refine i_180_285 (fun c => absurd c (by decide)) (fun _ => ?_)
          refine i_180_288 (x := 128) l0 ?_
          refine i_180_289 (x := Int32.ofInt r) l1 ?_
          refine i_180_290 ?_
          refine i_180_291 (x := Int32.ofInt sg) l5 ?_
          have hobj := hR.c128
          obtain ⟨w, hrun, hR⟩ := s_special (d := d + 2) (r := r) (k := 1) (s := sg) hR (by omega) (by omega) (by omega)
          refine i_180_293 hobj (Nat.le_of_ble_eq_true rfl) hrun ?_
          refine i_180_296 rfl ?_
          refine i_180_297 ?_
          refine i_180_352 (x := 1) l15 ?_
          refine i_180_354 (fun c => absurd c (by decide)) (fun _ => ?_)
          refine i_180_357 ?_
          refine i_180_358 ?_
          refine i_180_362 rfl ?_
          refine lgen1 (i := 14) (v := Value.int 1) (fun lv lg ls => ?_)
          replace l15 := lg 15 _ rfl rfl l15
          replace l0 := lg 0 _ rfl rfl l0
          replace l1 := lg 1 _ rfl rfl l1
          replace l2 := lg 2 _ rfl rfl l2
          replace l4 := lg 4 _ rfl rfl l4
          replace l5 := lg 5 _ rfl rfl l5
          replace l6 := lg 6 _ rfl rfl l6
          replace l7 := lg 7 _ rfl rfl l7
          replace l8 := lg 8 _ rfl rfl l8
          replace l9 := lg 9 _ rfl rfl l9
          replace l13 := lg 13 _ rfl rfl l13
          have l14 := ls
          refine i_180_364 ?_
          have eo : rD p (S 128 17) (S 128 18) (S 128 20) (S 128 21) sg mode x more (V h) q u way (S 128 19) = (1, 0, 0, 1, zor (S 128 19) 2) := by unfold rD; rw [if_pos (by omega), if_pos (by simp [far, *])]
          refine k _ _ _ _ _ eo.symm l0 l5 l8 l14 hR ?_
          refine ⟨by simp [u2_e], by simp [u2_e], ⟨fun h => absurd (show (1 : Int) = 3 from h) (by decide), fun _ => ⟨by simp [u2_e], by repeat rw [uv_n (by omega)]⟩⟩, by simp [u2_e], ?_, ?_⟩
          · intro a j g1 g2 g3 g4; simp [u2_e, g1, g3, g4]
          · intro k g1 g2 g3 g4 g5; rw [uv_n (by omega)]
        · refine i_180_248 (x := Int32.ofInt mode) l6 ?_
          refine i_180_250 ?_
          refine i_180_251 (b_eq (a := mode) (b := 4) ⟨by omega, by omega⟩ ⟨by decide, by decide⟩ fun c157 => ?_) (b_ne (a := mode) (b := 4) ⟨by omega, by omega⟩ ⟨by decide, by decide⟩ fun c157 => ?_)
          · refine i_180_276 ?_
            refine i_180_277 ?_
            refine i_180_281 rfl ?_
            refine lgen1 (i := 15) (v := Value.int 1) (fun lv lg ls => ?_)
            replace l14 := lg 14 _ rfl rfl l14
            replace l0 := lg 0 _ rfl rfl l0
            replace l1 := lg 1 _ rfl rfl l1
            replace l2 := lg 2 _ rfl rfl l2
            replace l4 := lg 4 _ rfl rfl l4
            replace l5 := lg 5 _ rfl rfl l5
            replace l6 := lg 6 _ rfl rfl l6
            replace l7 := lg 7 _ rfl rfl l7
            replace l8 := lg 8 _ rfl rfl l8
            replace l9 := lg 9 _ rfl rfl l9
            replace l13 := lg 13 _ rfl rfl l13
            have l15 := ls
            refine i_180_283 (x := 1) l15 ?_
            refine i_180_285 (fun c => absurd c (by decide)) (fun _ => ?_)
            refine i_180_288 (x := 128) l0 ?_
            refine i_180_289 (x := Int32.ofInt r) l1 ?_
            refine i_180_290 ?_
            refine i_180_291 (x := Int32.ofInt sg) l5 ?_
            have hobj := hR.c128
            obtain ⟨w, hrun, hR⟩ := s_special (d := d + 2) (r := r) (k := 1) (s := sg) hR (by omega) (by omega) (by omega)
            refine i_180_293 hobj (Nat.le_of_ble_eq_true rfl) hrun ?_
            refine i_180_296 rfl ?_
            refine i_180_297 ?_
            refine i_180_352 (x := 1) l15 ?_
            refine i_180_354 (fun c => absurd c (by decide)) (fun _ => ?_)
            refine i_180_357 ?_
            refine i_180_358 ?_
            refine i_180_362 rfl ?_
            refine lgen1 (i := 14) (v := Value.int 1) (fun lv lg ls => ?_)
            replace l15 := lg 15 _ rfl rfl l15
            replace l0 := lg 0 _ rfl rfl l0
            replace l1 := lg 1 _ rfl rfl l1
            replace l2 := lg 2 _ rfl rfl l2
            replace l4 := lg 4 _ rfl rfl l4
            replace l5 := lg 5 _ rfl rfl l5
            replace l6 := lg 6 _ rfl rfl l6
            replace l7 := lg 7 _ rfl rfl l7
            replace l8 := lg 8 _ rfl rfl l8
            replace l9 := lg 9 _ rfl rfl l9
            replace l13 := lg 13 _ rfl rfl l13
            have l14 := ls
            refine i_180_364 ?_
            have eo : rD p (S 128 17) (S 128 18) (S 128 20) (S 128 21) sg mode x more (V h) q u way (S 128 19) = (1, 0, 0, 1, zor (S 128 19) 2) := by unfold rD; rw [if_pos (by omega), if_pos (by simp [far, *])]
            refine k _ _ _ _ _ eo.symm l0 l5 l8 l14 hR ?_
            refine ⟨by simp [u2_e], by simp [u2_e], ⟨fun h => absurd (show (1 : Int) = 3 from h) (by decide), fun _ => ⟨by simp [u2_e], by repeat rw [uv_n (by omega)]⟩⟩, by simp [u2_e], ?_, ?_⟩
            · intro a j g1 g2 g3 g4; simp [u2_e, g1, g3, g4]
            · intro k g1 g2 g3 g4 g5; rw [uv_n (by omega)]
          · refine i_180_254 (x := Int32.ofInt mode) l6 ?_
            refine i_180_256 ?_
            refine i_180_257 (b_ne (a := mode) (b := 2) ⟨by omega, by omega⟩ ⟨by decide, by decide⟩ fun c158 => ?_) (b_eq (a := mode) (b := 2) ⟨by omega, by omega⟩ ⟨by decide, by decide⟩ fun c158 => ?_)
            · refine i_180_265 (x := Int32.ofInt mode) l6 ?_
              refine i_180_267 ?_
              refine i_180_268 (b_ne (a := mode) (b := 3) ⟨by omega, by omega⟩ ⟨by decide, by decide⟩ fun c159 => ?_) (b_eq (a := mode) (b := 3) ⟨by omega, by omega⟩ ⟨by decide, by decide⟩ fun c159 => ?_)
              · refine i_180_280 ?_
                refine i_180_281 rfl ?_
                refine lgen1 (i := 15) (v := Value.int 0) (fun lv lg ls => ?_)
                replace l14 := lg 14 _ rfl rfl l14
                replace l0 := lg 0 _ rfl rfl l0
                replace l1 := lg 1 _ rfl rfl l1
                replace l2 := lg 2 _ rfl rfl l2
                replace l4 := lg 4 _ rfl rfl l4
                replace l5 := lg 5 _ rfl rfl l5
                replace l6 := lg 6 _ rfl rfl l6
                replace l7 := lg 7 _ rfl rfl l7
                replace l8 := lg 8 _ rfl rfl l8
                replace l9 := lg 9 _ rfl rfl l9
                replace l13 := lg 13 _ rfl rfl l13
                have l15 := ls
                refine i_180_283 (x := 0) l15 ?_
                refine i_180_285 (fun _ => ?_) (fun c => absurd c (by decide))
                refine i_180_300 (x := 128) l0 ?_
                refine i_180_301 (v := Value.ref 151) hR.c128 rfl ?_
                refine i_180_304 (x := Int32.ofInt p) l7 ?_
                obtain ⟨fs, hobj⟩ := hR.obj (h := 151) (iNw (h := 151) (by decide) (by decide) (by decide))
                obtain ⟨w, hrun, hR⟩ := r_one (d := d + 1) (c := 4700) (k := p) hR (iNw (h := 151) (by decide) (by decide) (by decide)) rfl (by omega) (by omega)
                refine i_180_306 hobj (Nat.le_of_ble_eq_true rfl) hrun ?_
                refine i_180_309 (x := 128) l0 ?_
                refine i_180_310 (v := Value.ref 143) hR.c128 rfl ?_
                refine i_180_313 ?_
                obtain ⟨fs, hobj⟩ := hR.obj (h := 143) (iNw (h := 143) (by decide) (by decide) (by decide))
                obtain ⟨w, hrun, hR⟩ := r_setl (d := d + 1) (x := (1 : Int64)) (v := 1) hR (iNw (h := 143) (by decide) (by decide) (by decide)) rfl
                refine i_180_314 hobj (Nat.le_of_ble_eq_true rfl) hrun ?_
                refine i_180_317 (x := 128) l0 ?_
                refine i_180_318 (v := Value.ref 151) hR.c128 rfl ?_
                refine i_180_321 (x := 128) l0 ?_
                refine i_180_322 (v := Value.ref 143) hR.c128 rfl ?_
                obtain ⟨fs, hobj⟩ := hR.obj (h := 151) (iNw (h := 151) (by decide) (by decide) (by decide))
                obtain ⟨w, hrun, hR⟩ := r_less (d := d + 1) (v := 2 ^ (p : Int).toNat) (v2 := 1) hR (iNw (h := 151) (by decide) (by decide) (by decide)) (iNw (h := 143) (by decide) (by decide) (by decide)) (by omega) ((uv_n (by omega)).trans (uv_s)) (uv_s) (Nat.one_le_two_pow)
                refine i_180_325 hobj (Nat.le_of_ble_eq_true rfl) hrun ?_
                refine i_180_328 (x := 128) l0 ?_
                refine i_180_329 (x := Int32.ofInt r) l1 ?_
                refine i_180_330 (x := 128) l0 ?_
                refine i_180_331 (v := Value.ref 151) hR.c128 rfl ?_
                refine i_180_334 (x := 128) l0 ?_
                refine i_180_335 (v := Value.int (Int32.ofInt (S 128 18))) hR.c128 rfl ?_
                refine i_180_338 (x := Int32.ofInt p) l7 ?_
                refine i_180_340 (c := Int32.ofInt ((S 128 18) - p)) (o_sub (S 128 18) p) ?_
                have hobj := hR.c128
                obtain ⟨w, hrun, S161, V161, hR, hk161, ht161, hq161, hS161, hV161⟩ := s_put (d := d) (h := 151) (r := r) (e := (S 128 18) - p) hR (iNw (h := 151) (by decide) (by decide) (by decide)) (by omega) (by omega) (by omega) (by omega) (by simpa [u2_e] using p0) (by simpa [u2_e] using p1) (by rw [show (uv (uv (uv (uv V 135 q) 151 (2 ^ (p : Int).toNat)) 143 1) 151 ((2 ^ (p : Int).toNat) - 1)) 151 = (2 ^ (p : Int).toNat) - 1 from uv_s]; exact two1 (by omega)) (by rw [show (uv (uv (uv (uv V 135 q) 151 (2 ^ (p : Int).toNat)) 143 1) 151 ((2 ^ (p : Int).toNat) - 1)) 151 = (2 ^ (p : Int).toNat) - 1 from uv_s]; exact two2 (by omega) (by omega))
                rw [show (uv (uv (uv (uv V 135 q) 151 (2 ^ (p : Int).toNat)) 143 1) 151 ((2 ^ (p : Int).toNat) - 1)) 151 = (2 ^ (p : Int).toNat) - 1 from uv_s] at ht161 hq161
                refine i_180_341 hobj (Nat.le_of_ble_eq_true rfl) hrun ?_
                refine i_180_344 (x := 128) l0 ?_
                refine i_180_345 (v := Value.ref 156) hR.c128 rfl ?_
                refine i_180_348 (x := Int32.ofInt r) l1 ?_
                refine i_180_349 (x := Int32.ofInt sg) l5 ?_
                refine i_180_351z (v := Value.int (Int32.ofInt sg)) (hR.row a156) (ix0 (T := r) (by omega) (by omega)) (ix1 (T := r) (by omega) (by omega) (by omega)) (by decide) (nrb (by omega)) ?_
                rw [ixn (T := r) (by omega) (by omega)]
                refine xgen (P := mR w0 (u2 S161 156 ((r).toNat) sg) V161) (hR.arr a156 rfl) (fun w hR => ?_)
                refine i_180_352 (x := 0) l15 ?_
                refine i_180_354 (fun _ => ?_) (fun c => absurd c (by decide))
                refine i_180_361 ?_
                refine i_180_362 rfl ?_
                refine lgen1 (i := 14) (v := Value.int (-1)) (fun lv lg ls => ?_)
                replace l15 := lg 15 _ rfl rfl l15
                replace l0 := lg 0 _ rfl rfl l0
                replace l1 := lg 1 _ rfl rfl l1
                replace l2 := lg 2 _ rfl rfl l2
                replace l4 := lg 4 _ rfl rfl l4
                replace l5 := lg 5 _ rfl rfl l5
                replace l6 := lg 6 _ rfl rfl l6
                replace l7 := lg 7 _ rfl rfl l7
                replace l8 := lg 8 _ rfl rfl l8
                replace l9 := lg 9 _ rfl rfl l9
                replace l13 := lg 13 _ rfl rfl l13
                have l14 := ls
                refine i_180_364 ?_
                have eo : rD p (S 128 17) (S 128 18) (S 128 20) (S 128 21) sg mode x more (V h) q u way (S 128 19) = (3, (xbl ((2 ^ (p : Int).toNat) - 1) : Int) + ((S 128 18) - p), nrm ((2 ^ (p : Int).toNat) - 1) p, (-1), zor (S 128 19) 2) := by unfold rD; rw [if_pos (by omega), if_neg (by simp [far, *])]
                refine k _ _ _ _ _ eo.symm l0 l5 l8 l14 hR ?_
                refine ⟨?_, ?_, ⟨fun _ => ⟨?_, ?_⟩, fun h => absurd rfl h⟩, ?_, ?_, ?_⟩
                · simp [u2_e, hk161]
                · simp [u2_e]
                · rw [u2_e, if_neg (by omega)]; exact ht161
                · simpa [u2_e, hp] using hq161
                · rw [u2_e, if_neg (by omega)]; rw [hS161 _ _ (by omega) (by omega)]; simp [u2_e]
                · intro a j g1 g2 g3 g4; rw [u2_e, if_neg g3]; rw [hS161 a j g1 g2]; rw [u2_e, if_neg g4]
                · intro k g1 g2 g3 g4 g5; rw [hV161 k g2 g5, uv_n (by omega), uv_n (by omega), uv_n (by omega), uv_n (by omega)]
              · refine i_180_271 (x := Int32.ofInt sg) l5 ?_
                refine i_180_273 (z_eq (a := sg) ⟨by omega, by omega⟩ fun c161 => ?_) (z_ne (a := sg) ⟨by omega, by omega⟩ fun c161 => ?_)
                · refine i_180_280 ?_
                  refine i_180_281 rfl ?_
                  refine lgen1 (i := 15) (v := Value.int 0) (fun lv lg ls => ?_)
                  replace l14 := lg 14 _ rfl rfl l14
                  replace l0 := lg 0 _ rfl rfl l0
                  replace l1 := lg 1 _ rfl rfl l1
                  replace l2 := lg 2 _ rfl rfl l2
                  replace l4 := lg 4 _ rfl rfl l4
                  replace l5 := lg 5 _ rfl rfl l5
                  replace l6 := lg 6 _ rfl rfl l6
                  replace l7 := lg 7 _ rfl rfl l7
                  replace l8 := lg 8 _ rfl rfl l8
                  replace l9 := lg 9 _ rfl rfl l9
                  replace l13 := lg 13 _ rfl rfl l13
                  have l15 := ls
                  refine i_180_283 (x := 0) l15 ?_
                  refine i_180_285 (fun _ => ?_) (fun c => absurd c (by decide))
                  refine i_180_300 (x := 128) l0 ?_
                  refine i_180_301 (v := Value.ref 151) hR.c128 rfl ?_
                  refine i_180_304 (x := Int32.ofInt p) l7 ?_
                  obtain ⟨fs, hobj⟩ := hR.obj (h := 151) (iNw (h := 151) (by decide) (by decide) (by decide))
                  obtain ⟨w, hrun, hR⟩ := r_one (d := d + 1) (c := 4700) (k := p) hR (iNw (h := 151) (by decide) (by decide) (by decide)) rfl (by omega) (by omega)
                  refine i_180_306 hobj (Nat.le_of_ble_eq_true rfl) hrun ?_
                  refine i_180_309 (x := 128) l0 ?_
                  refine i_180_310 (v := Value.ref 143) hR.c128 rfl ?_
                  refine i_180_313 ?_
                  obtain ⟨fs, hobj⟩ := hR.obj (h := 143) (iNw (h := 143) (by decide) (by decide) (by decide))
                  obtain ⟨w, hrun, hR⟩ := r_setl (d := d + 1) (x := (1 : Int64)) (v := 1) hR (iNw (h := 143) (by decide) (by decide) (by decide)) rfl
                  refine i_180_314 hobj (Nat.le_of_ble_eq_true rfl) hrun ?_
                  refine i_180_317 (x := 128) l0 ?_
                  refine i_180_318 (v := Value.ref 151) hR.c128 rfl ?_
                  refine i_180_321 (x := 128) l0 ?_
                  refine i_180_322 (v := Value.ref 143) hR.c128 rfl ?_
                  obtain ⟨fs, hobj⟩ := hR.obj (h := 151) (iNw (h := 151) (by decide) (by decide) (by decide))
                  obtain ⟨w, hrun, hR⟩ := r_less (d := d + 1) (v := 2 ^ (p : Int).toNat) (v2 := 1) hR (iNw (h := 151) (by decide) (by decide) (by decide)) (iNw (h := 143) (by decide) (by decide) (by decide)) (by omega) ((uv_n (by omega)).trans (uv_s)) (uv_s) (Nat.one_le_two_pow)
                  refine i_180_325 hobj (Nat.le_of_ble_eq_true rfl) hrun ?_
                  refine i_180_328 (x := 128) l0 ?_
                  refine i_180_329 (x := Int32.ofInt r) l1 ?_
                  refine i_180_330 (x := 128) l0 ?_
                  refine i_180_331 (v := Value.ref 151) hR.c128 rfl ?_
                  refine i_180_334 (x := 128) l0 ?_
                  refine i_180_335 (v := Value.int (Int32.ofInt (S 128 18))) hR.c128 rfl ?_
                  refine i_180_338 (x := Int32.ofInt p) l7 ?_
                  refine i_180_340 (c := Int32.ofInt ((S 128 18) - p)) (o_sub (S 128 18) p) ?_
                  have hobj := hR.c128
                  obtain ⟨w, hrun, S163, V163, hR, hk163, ht163, hq163, hS163, hV163⟩ := s_put (d := d) (h := 151) (r := r) (e := (S 128 18) - p) hR (iNw (h := 151) (by decide) (by decide) (by decide)) (by omega) (by omega) (by omega) (by omega) (by simpa [u2_e] using p0) (by simpa [u2_e] using p1) (by rw [show (uv (uv (uv (uv V 135 q) 151 (2 ^ (p : Int).toNat)) 143 1) 151 ((2 ^ (p : Int).toNat) - 1)) 151 = (2 ^ (p : Int).toNat) - 1 from uv_s]; exact two1 (by omega)) (by rw [show (uv (uv (uv (uv V 135 q) 151 (2 ^ (p : Int).toNat)) 143 1) 151 ((2 ^ (p : Int).toNat) - 1)) 151 = (2 ^ (p : Int).toNat) - 1 from uv_s]; exact two2 (by omega) (by omega))
                  rw [show (uv (uv (uv (uv V 135 q) 151 (2 ^ (p : Int).toNat)) 143 1) 151 ((2 ^ (p : Int).toNat) - 1)) 151 = (2 ^ (p : Int).toNat) - 1 from uv_s] at ht163 hq163
                  refine i_180_341 hobj (Nat.le_of_ble_eq_true rfl) hrun ?_
                  refine i_180_344 (x := 128) l0 ?_
                  refine i_180_345 (v := Value.ref 156) hR.c128 rfl ?_
                  refine i_180_348 (x := Int32.ofInt r) l1 ?_
                  refine i_180_349 (x := Int32.ofInt sg) l5 ?_
                  refine i_180_351z (v := Value.int (Int32.ofInt sg)) (hR.row a156) (ix0 (T := r) (by omega) (by omega)) (ix1 (T := r) (by omega) (by omega) (by omega)) (by decide) (nrb (by omega)) ?_
                  rw [ixn (T := r) (by omega) (by omega)]
                  refine xgen (P := mR w0 (u2 S163 156 ((r).toNat) sg) V163) (hR.arr a156 rfl) (fun w hR => ?_)
                  refine i_180_352 (x := 0) l15 ?_
                  refine i_180_354 (fun _ => ?_) (fun c => absurd c (by decide))
                  refine i_180_361 ?_
                  refine i_180_362 rfl ?_
                  refine lgen1 (i := 14) (v := Value.int (-1)) (fun lv lg ls => ?_)
                  replace l15 := lg 15 _ rfl rfl l15
                  replace l0 := lg 0 _ rfl rfl l0
                  replace l1 := lg 1 _ rfl rfl l1
                  replace l2 := lg 2 _ rfl rfl l2
                  replace l4 := lg 4 _ rfl rfl l4
                  replace l5 := lg 5 _ rfl rfl l5
                  replace l6 := lg 6 _ rfl rfl l6
                  replace l7 := lg 7 _ rfl rfl l7
                  replace l8 := lg 8 _ rfl rfl l8
                  replace l9 := lg 9 _ rfl rfl l9
                  replace l13 := lg 13 _ rfl rfl l13
                  have l14 := ls
                  refine i_180_364 ?_
                  have eo : rD p (S 128 17) (S 128 18) (S 128 20) (S 128 21) sg mode x more (V h) q u way (S 128 19) = (3, (xbl ((2 ^ (p : Int).toNat) - 1) : Int) + ((S 128 18) - p), nrm ((2 ^ (p : Int).toNat) - 1) p, (-1), zor (S 128 19) 2) := by unfold rD; rw [if_pos (by omega), if_neg (by simp [far, *])]
                  refine k _ _ _ _ _ eo.symm l0 l5 l8 l14 hR ?_
                  refine ⟨?_, ?_, ⟨fun _ => ⟨?_, ?_⟩, fun h => absurd rfl h⟩, ?_, ?_, ?_⟩
                  · simp [u2_e, hk163]
                  · simp [u2_e]
                  · rw [u2_e, if_neg (by omega)]; exact ht163
                  · simpa [u2_e, hp] using hq163
                  · rw [u2_e, if_neg (by omega)]; rw [hS163 _ _ (by omega) (by omega)]; simp [u2_e]
                  · intro a j g1 g2 g3 g4; rw [u2_e, if_neg g3]; rw [hS163 a j g1 g2]; rw [u2_e, if_neg g4]
                  · intro k g1 g2 g3 g4 g5; rw [hV163 k g2 g5, uv_n (by omega), uv_n (by omega), uv_n (by omega), uv_n (by omega)]
                · refine i_180_276 ?_
                  refine i_180_277 ?_
                  refine i_180_281 rfl ?_
                  refine lgen1 (i := 15) (v := Value.int 1) (fun lv lg ls => ?_)
                  replace l14 := lg 14 _ rfl rfl l14
                  replace l0 := lg 0 _ rfl rfl l0
                  replace l1 := lg 1 _ rfl rfl l1
                  replace l2 := lg 2 _ rfl rfl l2
                  replace l4 := lg 4 _ rfl rfl l4
                  replace l5 := lg 5 _ rfl rfl l5
                  replace l6 := lg 6 _ rfl rfl l6
                  replace l7 := lg 7 _ rfl rfl l7
                  replace l8 := lg 8 _ rfl rfl l8
                  replace l9 := lg 9 _ rfl rfl l9
                  replace l13 := lg 13 _ rfl rfl l13
                  have l15 := ls
                  refine i_180_283 (x := 1) l15 ?_
                  refine i_180_285 (fun c => absurd c (by decide)) (fun _ => ?_)
                  refine i_180_288 (x := 128) l0 ?_
                  refine i_180_289 (x := Int32.ofInt r) l1 ?_
                  refine i_180_290 ?_
                  refine i_180_291 (x := Int32.ofInt sg) l5 ?_
                  have hobj := hR.c128
                  obtain ⟨w, hrun, hR⟩ := s_special (d := d + 2) (r := r) (k := 1) (s := sg) hR (by omega) (by omega) (by omega)
                  refine i_180_293 hobj (Nat.le_of_ble_eq_true rfl) hrun ?_
                  refine i_180_296 rfl ?_
                  refine i_180_297 ?_
                  refine i_180_352 (x := 1) l15 ?_
                  refine i_180_354 (fun c => absurd c (by decide)) (fun _ => ?_)
                  refine i_180_357 ?_
                  refine i_180_358 ?_
                  refine i_180_362 rfl ?_
                  refine lgen1 (i := 14) (v := Value.int 1) (fun lv lg ls => ?_)
                  replace l15 := lg 15 _ rfl rfl l15
                  replace l0 := lg 0 _ rfl rfl l0
                  replace l1 := lg 1 _ rfl rfl l1
                  replace l2 := lg 2 _ rfl rfl l2
                  replace l4 := lg 4 _ rfl rfl l4
                  replace l5 := lg 5 _ rfl rfl l5
                  replace l6 := lg 6 _ rfl rfl l6
                  replace l7 := lg 7 _ rfl rfl l7
                  replace l8 := lg 8 _ rfl rfl l8
                  replace l9 := lg 9 _ rfl rfl l9
                  replace l13 := lg 13 _ rfl rfl l13
                  have l14 := ls
                  refine i_180_364 ?_
                  have eo : rD p (S 128 17) (S 128 18) (S 128 20) (S 128 21) sg mode x more (V h) q u way (S 128 19) = (1, 0, 0, 1, zor (S 128 19) 2) := by unfold rD; rw [if_pos (by omega), if_pos (by simp [far, *])]
                  refine k _ _ _ _ _ eo.symm l0 l5 l8 l14 hR ?_
                  refine ⟨by simp [u2_e], by simp [u2_e], ⟨fun h => absurd (show (1 : Int) = 3 from h) (by decide), fun _ => ⟨by simp [u2_e], by repeat rw [uv_n (by omega)]⟩⟩, by simp [u2_e], ?_, ?_⟩
                  · intro a j g1 g2 g3 g4; simp [u2_e, g1, g3, g4]
                  · intro k g1 g2 g3 g4 g5; rw [uv_n (by omega)]
            · refine i_180_260 (x := Int32.ofInt sg) l5 ?_
              refine i_180_262 (z_eq (a := sg) ⟨by omega, by omega⟩ fun c163 => ?_) (z_ne (a := sg) ⟨by omega, by omega⟩ fun c163 => ?_)
              · refine i_180_276 ?_
                refine i_180_277 ?_
                refine i_180_281 rfl ?_
                refine lgen1 (i := 15) (v := Value.int 1) (fun lv lg ls => ?_)
                replace l14 := lg 14 _ rfl rfl l14
                replace l0 := lg 0 _ rfl rfl l0
                replace l1 := lg 1 _ rfl rfl l1
                replace l2 := lg 2 _ rfl rfl l2
                replace l4 := lg 4 _ rfl rfl l4
                replace l5 := lg 5 _ rfl rfl l5
                replace l6 := lg 6 _ rfl rfl l6
                replace l7 := lg 7 _ rfl rfl l7
                replace l8 := lg 8 _ rfl rfl l8
                replace l9 := lg 9 _ rfl rfl l9
                replace l13 := lg 13 _ rfl rfl l13
                have l15 := ls
                refine i_180_283 (x := 1) l15 ?_
                refine i_180_285 (fun c => absurd c (by decide)) (fun _ => ?_)
                refine i_180_288 (x := 128) l0 ?_
                refine i_180_289 (x := Int32.ofInt r) l1 ?_
                refine i_180_290 ?_
                refine i_180_291 (x := Int32.ofInt sg) l5 ?_
                have hobj := hR.c128
                obtain ⟨w, hrun, hR⟩ := s_special (d := d + 2) (r := r) (k := 1) (s := sg) hR (by omega) (by omega) (by omega)
                refine i_180_293 hobj (Nat.le_of_ble_eq_true rfl) hrun ?_
                refine i_180_296 rfl ?_
                refine i_180_297 ?_
                refine i_180_352 (x := 1) l15 ?_
                refine i_180_354 (fun c => absurd c (by decide)) (fun _ => ?_)
                refine i_180_357 ?_
                refine i_180_358 ?_
                refine i_180_362 rfl ?_
                refine lgen1 (i := 14) (v := Value.int 1) (fun lv lg ls => ?_)
                replace l15 := lg 15 _ rfl rfl l15
                replace l0 := lg 0 _ rfl rfl l0
                replace l1 := lg 1 _ rfl rfl l1
                replace l2 := lg 2 _ rfl rfl l2
                replace l4 := lg 4 _ rfl rfl l4
                replace l5 := lg 5 _ rfl rfl l5
                replace l6 := lg 6 _ rfl rfl l6
                replace l7 := lg 7 _ rfl rfl l7
                replace l8 := lg 8 _ rfl rfl l8
                replace l9 := lg 9 _ rfl rfl l9
                replace l13 := lg 13 _ rfl rfl l13
                have l14 := ls
                refine i_180_364 ?_
                have eo : rD p (S 128 17) (S 128 18) (S 128 20) (S 128 21) sg mode x more (V h) q u way (S 128 19) = (1, 0, 0, 1, zor (S 128 19) 2) := by unfold rD; rw [if_pos (by omega), if_pos (by simp [far, *])]
                refine k _ _ _ _ _ eo.symm l0 l5 l8 l14 hR ?_
                refine ⟨by simp [u2_e], by simp [u2_e], ⟨fun h => absurd (show (1 : Int) = 3 from h) (by decide), fun _ => ⟨by simp [u2_e], by repeat rw [uv_n (by omega)]⟩⟩, by simp [u2_e], ?_, ?_⟩
                · intro a j g1 g2 g3 g4; simp [u2_e, g1, g3, g4]
                · intro k g1 g2 g3 g4 g5; rw [uv_n (by omega)]
              · refine i_180_265 (x := Int32.ofInt mode) l6 ?_
                refine i_180_267 ?_
                refine i_180_268 (b_ne (a := mode) (b := 3) ⟨by omega, by omega⟩ ⟨by decide, by decide⟩ fun c164 => ?_) (b_eq (a := mode) (b := 3) ⟨by omega, by omega⟩ ⟨by decide, by decide⟩ fun c164 => absurd c164 (by omega))
                refine i_180_280 ?_
                refine i_180_281 rfl ?_
                refine lgen1 (i := 15) (v := Value.int 0) (fun lv lg ls => ?_)
                replace l14 := lg 14 _ rfl rfl l14
                replace l0 := lg 0 _ rfl rfl l0
                replace l1 := lg 1 _ rfl rfl l1
                replace l2 := lg 2 _ rfl rfl l2
                replace l4 := lg 4 _ rfl rfl l4
                replace l5 := lg 5 _ rfl rfl l5
                replace l6 := lg 6 _ rfl rfl l6
                replace l7 := lg 7 _ rfl rfl l7
                replace l8 := lg 8 _ rfl rfl l8
                replace l9 := lg 9 _ rfl rfl l9
                replace l13 := lg 13 _ rfl rfl l13
                have l15 := ls
                refine i_180_283 (x := 0) l15 ?_
                refine i_180_285 (fun _ => ?_) (fun c => absurd c (by decide))
                refine i_180_300 (x := 128) l0 ?_
                refine i_180_301 (v := Value.ref 151) hR.c128 rfl ?_
                refine i_180_304 (x := Int32.ofInt p) l7 ?_
                obtain ⟨fs, hobj⟩ := hR.obj (h := 151) (iNw (h := 151) (by decide) (by decide) (by decide))
                obtain ⟨w, hrun, hR⟩ := r_one (d := d + 1) (c := 4700) (k := p) hR (iNw (h := 151) (by decide) (by decide) (by decide)) rfl (by omega) (by omega)
                refine i_180_306 hobj (Nat.le_of_ble_eq_true rfl) hrun ?_
                refine i_180_309 (x := 128) l0 ?_
                refine i_180_310 (v := Value.ref 143) hR.c128 rfl ?_
                refine i_180_313 ?_
                obtain ⟨fs, hobj⟩ := hR.obj (h := 143) (iNw (h := 143) (by decide) (by decide) (by decide))
                obtain ⟨w, hrun, hR⟩ := r_setl (d := d + 1) (x := (1 : Int64)) (v := 1) hR (iNw (h := 143) (by decide) (by decide) (by decide)) rfl
                refine i_180_314 hobj (Nat.le_of_ble_eq_true rfl) hrun ?_
                refine i_180_317 (x := 128) l0 ?_
                refine i_180_318 (v := Value.ref 151) hR.c128 rfl ?_
                refine i_180_321 (x := 128) l0 ?_
                refine i_180_322 (v := Value.ref 143) hR.c128 rfl ?_
                obtain ⟨fs, hobj⟩ := hR.obj (h := 151) (iNw (h := 151) (by decide) (by decide) (by decide))
                obtain ⟨w, hrun, hR⟩ := r_less (d := d + 1) (v := 2 ^ (p : Int).toNat) (v2 := 1) hR (iNw (h := 151) (by decide) (by decide) (by decide)) (iNw (h := 143) (by decide) (by decide) (by decide)) (by omega) ((uv_n (by omega)).trans (uv_s)) (uv_s) (Nat.one_le_two_pow)
                refine i_180_325 hobj (Nat.le_of_ble_eq_true rfl) hrun ?_
                refine i_180_328 (x := 128) l0 ?_
                refine i_180_329 (x := Int32.ofInt r) l1 ?_
                refine i_180_330 (x := 128) l0 ?_
                refine i_180_331 (v := Value.ref 151) hR.c128 rfl ?_
                refine i_180_334 (x := 128) l0 ?_
                refine i_180_335 (v := Value.int (Int32.ofInt (S 128 18))) hR.c128 rfl ?_
                refine i_180_338 (x := Int32.ofInt p) l7 ?_
                refine i_180_340 (c := Int32.ofInt ((S 128 18) - p)) (o_sub (S 128 18) p) ?_
                have hobj := hR.c128
                obtain ⟨w, hrun, S166, V166, hR, hk166, ht166, hq166, hS166, hV166⟩ := s_put (d := d) (h := 151) (r := r) (e := (S 128 18) - p) hR (iNw (h := 151) (by decide) (by decide) (by decide)) (by omega) (by omega) (by omega) (by omega) (by simpa [u2_e] using p0) (by simpa [u2_e] using p1) (by rw [show (uv (uv (uv (uv V 135 q) 151 (2 ^ (p : Int).toNat)) 143 1) 151 ((2 ^ (p : Int).toNat) - 1)) 151 = (2 ^ (p : Int).toNat) - 1 from uv_s]; exact two1 (by omega)) (by rw [show (uv (uv (uv (uv V 135 q) 151 (2 ^ (p : Int).toNat)) 143 1) 151 ((2 ^ (p : Int).toNat) - 1)) 151 = (2 ^ (p : Int).toNat) - 1 from uv_s]; exact two2 (by omega) (by omega))
                rw [show (uv (uv (uv (uv V 135 q) 151 (2 ^ (p : Int).toNat)) 143 1) 151 ((2 ^ (p : Int).toNat) - 1)) 151 = (2 ^ (p : Int).toNat) - 1 from uv_s] at ht166 hq166
                refine i_180_341 hobj (Nat.le_of_ble_eq_true rfl) hrun ?_
                refine i_180_344 (x := 128) l0 ?_
                refine i_180_345 (v := Value.ref 156) hR.c128 rfl ?_
                refine i_180_348 (x := Int32.ofInt r) l1 ?_
                refine i_180_349 (x := Int32.ofInt sg) l5 ?_
                refine i_180_351z (v := Value.int (Int32.ofInt sg)) (hR.row a156) (ix0 (T := r) (by omega) (by omega)) (ix1 (T := r) (by omega) (by omega) (by omega)) (by decide) (nrb (by omega)) ?_
                rw [ixn (T := r) (by omega) (by omega)]
                refine xgen (P := mR w0 (u2 S166 156 ((r).toNat) sg) V166) (hR.arr a156 rfl) (fun w hR => ?_)
                refine i_180_352 (x := 0) l15 ?_
                refine i_180_354 (fun _ => ?_) (fun c => absurd c (by decide))
                refine i_180_361 ?_
                refine i_180_362 rfl ?_
                refine lgen1 (i := 14) (v := Value.int (-1)) (fun lv lg ls => ?_)
                replace l15 := lg 15 _ rfl rfl l15
                replace l0 := lg 0 _ rfl rfl l0
                replace l1 := lg 1 _ rfl rfl l1
                replace l2 := lg 2 _ rfl rfl l2
                replace l4 := lg 4 _ rfl rfl l4
                replace l5 := lg 5 _ rfl rfl l5
                replace l6 := lg 6 _ rfl rfl l6
                replace l7 := lg 7 _ rfl rfl l7
                replace l8 := lg 8 _ rfl rfl l8
                replace l9 := lg 9 _ rfl rfl l9
                replace l13 := lg 13 _ rfl rfl l13
                have l14 := ls
                refine i_180_364 ?_
                have eo : rD p (S 128 17) (S 128 18) (S 128 20) (S 128 21) sg mode x more (V h) q u way (S 128 19) = (3, (xbl ((2 ^ (p : Int).toNat) - 1) : Int) + ((S 128 18) - p), nrm ((2 ^ (p : Int).toNat) - 1) p, (-1), zor (S 128 19) 2) := by unfold rD; rw [if_pos (by omega), if_neg (by simp [far, *])]
                refine k _ _ _ _ _ eo.symm l0 l5 l8 l14 hR ?_
                refine ⟨?_, ?_, ⟨fun _ => ⟨?_, ?_⟩, fun h => absurd rfl h⟩, ?_, ?_, ?_⟩
                · simp [u2_e, hk166]
                · simp [u2_e]
                · rw [u2_e, if_neg (by omega)]; exact ht166
                · simpa [u2_e, hp] using hq166
                · rw [u2_e, if_neg (by omega)]; rw [hS166 _ _ (by omega) (by omega)]; simp [u2_e]
                · intro a j g1 g2 g3 g4; rw [u2_e, if_neg g3]; rw [hS166 a j g1 g2]; rw [u2_e, if_neg g4]
                · intro k g1 g2 g3 g4 g5; rw [hV166 k g2 g5, uv_n (by omega), uv_n (by omega), uv_n (by omega), uv_n (by omega)]
