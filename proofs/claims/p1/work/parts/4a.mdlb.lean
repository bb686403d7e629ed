theorem sf0_12 {d : Nat} {xs : Nat → Int32} {m : Int64} {sc md : Int32} {w : xW} {B E U C q0 q1 q2 nn : Int32} {g : Nat → Value} (hk : ∀ h, 131 ≤ h → h < 194 → h ≠ 135 → h ≠ 136 → h ≠ 156 → w[h]? = (W0 6 xs)[h]?) (hm : w[128]? = some (Sum.inr (12, [Value.ref 129, Value.ref 131, Value.ref 133, Value.ref 135, Value.ref 137, Value.ref 139, Value.ref 141, Value.ref 143, Value.ref 145, Value.ref 147, Value.ref 149, Value.ref 151, Value.ref 153, Value.ref 154, Value.ref 155, Value.ref 156, Value.ref 157, Value.int (-16384), Value.int 16384, Value.int 0, Value.int 0, Value.int 0, Value.ref 158, Value.ref 159, Value.int 0, Value.int 0, Value.int 0, Value.int 0, Value.int 0, Value.int 0, Value.int 0, Value.int 0]))) (hv : w[129]? = some (Sum.inr (13, [Value.ref 130, Value.int nn]))) (hq : w[135]? = some (Sum.inr (13, [Value.ref 136, Value.int 3]))) (hqw : w[136]? = some (Sum.inl (0, 4700, g))) (hg0 : g (0 : Int32).toInt.toNat = Value.int q0) (hg1 : g (1 : Int32).toInt.toNat = Value.int q1) (hg2 : g (2 : Int32).toInt.toNat = Value.int q2) (hn : w[156]? = some (Sum.inl (2, 17, xup (fun _ => Value.int 0) (xs 1).toInt.toNat (Value.int 0)))) (hbits : ∀ (d' : Nat) (w' : xW), w'[129]? = w[129]? → w'[130]? = w[130]? → xRun d' 181 [Value.ref 129] w' (.inl (some (Value.int B))) w') (hany0 : xPW m → ∀ (d' : Nat) (w' : xW), w'[129]? = w[129]? → w'[130]? = w[130]? → xRun d' 183 [Value.ref 129, Value.int (B - (1 : Int32))] w' (.inl (some (Value.int 0))) w') (hany1 : ¬ xPW m → ∀ (d' : Nat) (w' : xW), w'[129]? = w[129]? → w'[130]? = w[130]? → xRun d' 183 [Value.ref 129, Value.int (B - (1 : Int32))] w' (.inl (some (Value.int 1))) w') (c0 : 0 ≤ (xs 1).toInt) (c1 : (xs 1).toInt < 16) (c2 : (-40000) ≤ sc.toInt) (c3 : sc.toInt ≤ 40000) (c4 : 0 ≤ md.toInt) (c5 : md.toInt ≤ 4) (c6 : 1 ≤ B.toInt) (c7 : B.toInt ≤ 64) (c8 : E.toInt = B.toInt + sc.toInt) (c9 : U.toInt = E.toInt - 64) (c10 : 0 ≤ q2.toInt) (c11 : (xbn q2).toInt = 4) (c12 : E.toInt ≤ 16384) (c13 : E.toInt < (-16384)) (c14 : E.toInt = (-16385)) (c15 : ¬ xPW m) (c16 : md.toInt ≠ 4) (c17 : md.toInt ≠ 2) (c18 : md.toInt = 3) : ∃ w2, xEv (d + 6) 180 207 [(14, Value.int 0), (13, Value.int E), (12, Value.int 1), (11, Value.int 0), (10, Value.int C), (9, Value.int U), (8, Value.int E), (7, Value.int 64), (0, Value.ref 128), (1, Value.int (xs 1)), (2, Value.ref 129), (3, Value.int sc), (4, Value.int 0), (5, Value.int 0), (6, Value.int md)] [] w (fun o' w' => o' = .inl (some (Value.int (-1))) ∧ w' = w2) ∧ xKp w w2 xPM ∧ w2[128]? = some (Sum.inr (12, [Value.ref 129, Value.ref 131, Value.ref 133, Value.ref 135, Value.ref 137, Value.ref 139, Value.ref 141, Value.ref 143, Value.ref 145, Value.ref 147, Value.ref 149, Value.ref 151, Value.ref 153, Value.ref 154, Value.ref 155, Value.ref 156, Value.ref 157, Value.int (-16384), Value.int 16384, Value.int 5, Value.int 0, Value.int 0, Value.ref 158, Value.ref 159, Value.int 0, Value.int 0, Value.int 0, Value.int 0, Value.int 0, Value.int 0, Value.int 0, Value.int 0])) := by
  refine ⟨((((w.set 128 (Sum.inr (12, [Value.ref 129, Value.ref 131, Value.ref 133, Value.ref 135, Value.ref 137, Value.ref 139, Value.ref 141, Value.ref 143, Value.ref 145, Value.ref 147, Value.ref 149, Value.ref 151, Value.ref 153, Value.ref 154, Value.ref 155, Value.ref 156, Value.ref 157, Value.int (-16384), Value.int 16384, Value.int 4, Value.int 0, Value.int 0, Value.ref 158, Value.ref 159, Value.int 0, Value.int 0, Value.int 0, Value.int 0, Value.int 0, Value.int 0, Value.int 0, Value.int 0]))).set 154 (Sum.inl (0, 17, xup (fun _ => Value.int 0) (xs 1).toInt.toNat (Value.int 2)))).set 156 (Sum.inl (2, 17, xup (xup (fun _ => Value.int 0) (xs 1).toInt.toNat (Value.int 0)) (xs 1).toInt.toNat (Value.int 0)))).set 128 (Sum.inr (12, [Value.ref 129, Value.ref 131, Value.ref 133, Value.ref 135, Value.ref 137, Value.ref 139, Value.ref 141, Value.ref 143, Value.ref 145, Value.ref 147, Value.ref 149, Value.ref 151, Value.ref 153, Value.ref 154, Value.ref 155, Value.ref 156, Value.ref 157, Value.int (-16384), Value.int 16384, Value.int 5, Value.int 0, Value.int 0, Value.ref 158, Value.ref 159, Value.int 0, Value.int 0, Value.int 0, Value.int 0, Value.int 0, Value.int 0, Value.int 0, Value.int 0]))), ?_, ?_, xgs (xgn (by decide) (xgn (by decide) (xgs hm)))⟩
  · refine i_180_207 (x := 128) rfl ?_
    refine i_180_208 (v := Value.int 0) hm rfl ?_
    refine i_180_211 (fun h => absurd h (by decide)) (fun _ => ?_)
    refine i_180_214 (x := 128) rfl ?_
    refine i_180_215 (v := Value.ref 135) hm rfl ?_
    refine i_180_218 (v := Value.int 3) hq rfl ?_
    refine i_180_221 (fun h => absurd h (by decide)) (fun _ => ?_)
    refine i_180_224 (x := E) rfl ?_
    refine i_180_226 (x := 128) rfl ?_
    refine i_180_227 (v := Value.int 16384) hm rfl ?_
    refine i_180_230 (fun _ => ?_) (fun h => absurd (show E.toInt ≤ 16384 by omega) (Int.not_le.mpr h))
    refine i_180_367 (x := 128) rfl ?_
    refine i_180_368 (v := Value.ref 135) hm rfl ?_
    refine i_180_371 (v := Value.int 3) hq rfl ?_
    refine i_180_374 (fun _ => ?_) (fun h => absurd h (by decide))
    refine i_180_392 (x := 128) rfl ?_
    refine i_180_393 (v := Value.int 0) hm rfl ?_
    refine i_180_396 (fun h => absurd h (by decide)) (fun _ => ?_)
    refine i_180_399 (x := 128) rfl ?_
    refine i_180_400 (v := Value.int 0) hm rfl ?_
    refine i_180_403 (fun h => absurd h (by decide)) (fun _ => ?_)
    refine i_180_406 (x := E) rfl ?_
    refine i_180_408 (x := 128) rfl ?_
    refine i_180_409 (v := Value.int (-16384)) hm rfl ?_
    refine i_180_412 (fun h => absurd (show E.toInt < (-16384) by omega) (Int.not_lt.mpr h)) (fun _ => ?_)
    refine i_180_415 (x := 128) rfl ?_
    refine i_180_416 rfl ?_
    refine i_180_417 (v := Value.int 0) hm rfl ?_
    refine i_180_420 ?_
    refine i_180_421 (c := 4) (by decide) ?_
    refine i_180_422 (fs2 := [Value.ref 129, Value.ref 131, Value.ref 133, Value.ref 135, Value.ref 137, Value.ref 139, Value.ref 141, Value.ref 143, Value.ref 145, Value.ref 147, Value.ref 149, Value.ref 151, Value.ref 153, Value.ref 154, Value.ref 155, Value.ref 156, Value.ref 157, Value.int (-16384), Value.int 16384, Value.int 4, Value.int 0, Value.int 0, Value.ref 158, Value.ref 159, Value.int 0, Value.int 0, Value.int 0, Value.int 0, Value.int 0, Value.int 0, Value.int 0, Value.int 0]) hm (Nat.le_of_ble_eq_true rfl) rfl (by omega) ?_
    refine i_180_425 (x := E) rfl ?_
    refine i_180_427 (x := 128) rfl ?_
    refine i_180_428 (v := Value.int (-16384)) (xgs hm) rfl ?_
    refine i_180_431 ?_
    refine i_180_432 (c := (-16385)) (by decide) ?_
    refine i_180_433 (fun h => absurd (show E.toInt ≤ (-16385) by omega) (Int.not_le.mpr h)) (fun _ => ?_)
    refine i_180_436 (x := E) rfl ?_
    refine i_180_438 (x := 128) rfl ?_
    refine i_180_439 (v := Value.int (-16384)) (xgs hm) rfl ?_
    refine i_180_442 ?_
    refine i_180_443 (c := (-16385)) (by decide) ?_
    refine i_180_444 (fun h => absurd (show E.toInt = (-16385) by omega) h) (fun _ => ?_)
    refine i_180_447 (x := 0) rfl ?_
    refine i_180_449 (fun h => absurd h (by decide)) (fun _ => ?_)
    refine i_180_452 (x := 129) rfl ?_
    refine i_180_453 (x := 129) rfl ?_
    refine i_180_454 (xgn (by decide) hv) (Nat.le_of_ble_eq_true rfl) (hbits _ _ (xgn (by omega) (rfl)) (xgn (by omega) (rfl))) ?_
    refine i_180_457 ?_
    refine i_180_458 (c := (B - (1 : Int32))) rfl ?_
    refine i_180_459 (xgn (by decide) hv) (Nat.le_of_ble_eq_true rfl) (hany1 c15 _ _ (xgn (by omega) (rfl)) (xgn (by omega) (rfl))) ?_
    refine i_180_462 (fun h => absurd h (by decide)) (fun _ => ?_)
    refine i_180_465 ?_
    refine i_180_466 ?_
    refine i_180_470 (lv2 := [(15, Value.int 1), (14, Value.int 0), (13, Value.int E), (12, Value.int 1), (11, Value.int 0), (10, Value.int C), (9, Value.int U), (8, Value.int E), (7, Value.int 64), (0, Value.ref 128), (1, Value.int (xs 1)), (2, Value.ref 129), (3, Value.int sc), (4, Value.int 0), (5, Value.int 0), (6, Value.int md)]) rfl ?_
    refine i_180_472 (x := md) rfl ?_
    refine i_180_474 ?_
    refine i_180_475 (fun h => absurd (show md.toInt ≠ 4 by omega) (fun g => g h)) (fun _ => ?_)
    refine i_180_478 (x := md) rfl ?_
    refine i_180_480 ?_
    refine i_180_481 (fun _ => ?_) (fun h => absurd (show md.toInt ≠ 2 by omega) (fun g => g h))
    refine i_180_489 (x := md) rfl ?_
    refine i_180_491 ?_
    refine i_180_492 (fun h => absurd (show md.toInt = 3 by omega) h) (fun _ => ?_)
    refine i_180_495 (x := 0) rfl ?_
    refine i_180_497 (fun h => absurd h (by decide)) (fun _ => ?_)
    refine i_180_500 (x := md) rfl ?_
    refine i_180_502 (fun _ => ?_) (fun h => absurd (show md.toInt ≠ 0 by omega) (fun g => g h))
    refine i_180_514 ?_
    refine i_180_515 (lv2 := [(16, Value.int 0), (15, Value.int 1), (14, Value.int 0), (13, Value.int E), (12, Value.int 1), (11, Value.int 0), (10, Value.int C), (9, Value.int U), (8, Value.int E), (7, Value.int 64), (0, Value.ref 128), (1, Value.int (xs 1)), (2, Value.ref 129), (3, Value.int sc), (4, Value.int 0), (5, Value.int 0), (6, Value.int md)]) rfl ?_
    refine i_180_517 (x := 0) rfl ?_
    refine i_180_519 (fun _ => ?_) (fun h => absurd h (by decide))
    refine i_180_556 (x := 128) rfl ?_
    refine i_180_557 (x := (xs 1)) rfl ?_
    refine i_180_558 ?_
    refine i_180_559 (x := 0) rfl ?_
    refine i_180_561 (xgs hm) (Nat.le_of_ble_eq_true rfl) (s_171_1 (xgs hm) (xgn (by decide) (((hk 154 (by decide) (by decide) (by decide) (by decide) (by decide)).trans W0_154))) (by omega) (by omega) (xgn (by decide) hn)) ?_
    refine i_180_564 rfl ?_
    refine i_180_565 (x := 0) rfl ?_
    refine i_180_567 (fun _ => ?_) (fun h => absurd h (by decide))
    refine i_180_574 ?_
    refine i_180_575 (lv2 := [(14, Value.int (-1)), (16, Value.int 0), (15, Value.int 1), (13, Value.int E), (12, Value.int 1), (11, Value.int 0), (10, Value.int C), (9, Value.int U), (8, Value.int E), (7, Value.int 64), (0, Value.ref 128), (1, Value.int (xs 1)), (2, Value.ref 129), (3, Value.int sc), (4, Value.int 0), (5, Value.int 0), (6, Value.int md)]) rfl ?_
    refine i_180_577 ?_
    refine i_180_591 (x := 128) rfl ?_
    refine i_180_592 (v := Value.int 0) (xgn (by decide) (xgn (by decide) (xgs hm))) rfl ?_
    refine i_180_595 (fun h => absurd h (by decide)) (fun _ => ?_)
    refine i_180_598 (x := 128) rfl ?_
    refine i_180_599 (v := Value.int 0) (xgn (by decide) (xgn (by decide) (xgs hm))) rfl ?_
    refine i_180_602 (fun _ => ?_) (fun h => absurd h (by decide))
    refine i_180_629 (x := (-1)) rfl ?_
    refine i_180_631 (fun h => absurd h (by decide)) (fun _ => ?_)
    refine i_180_634 (x := 128) rfl ?_
    refine i_180_635 rfl ?_
    refine i_180_636 (v := Value.int 4) (xgn (by decide) (xgn (by decide) (xgs hm))) rfl ?_
    refine i_180_639 ?_
    refine i_180_640 (c := 5) (by decide) ?_
    refine i_180_641 (fs2 := [Value.ref 129, Value.ref 131, Value.ref 133, Value.ref 135, Value.ref 137, Value.ref 139, Value.ref 141, Value.ref 143, Value.ref 145, Value.ref 147, Value.ref 149, Value.ref 151, Value.ref 153, Value.ref 154, Value.ref 155, Value.ref 156, Value.ref 157, Value.int (-16384), Value.int 16384, Value.int 5, Value.int 0, Value.int 0, Value.ref 158, Value.ref 159, Value.int 0, Value.int 0, Value.int 0, Value.int 0, Value.int 0, Value.int 0, Value.int 0, Value.int 0]) (xgn (by decide) (xgn (by decide) (xgs hm))) (Nat.le_of_ble_eq_true rfl) rfl (by omega) ?_
    refine i_180_644 (x := 0) rfl ?_
    refine i_180_646 (fun _ => ?_) (fun h => absurd h (by decide))
    refine i_180_655 (x := (-1)) rfl ?_
    exact i_180_657 ⟨rfl, rfl⟩
  · refine xKp.set ?_ (fun h hh => by unfold xPM at hh; omega) (xgn (by decide) (xgn (by decide) (xgs hm))) xcs_o
    refine xKp.set ?_ (fun h hh => by unfold xPM at hh; omega) (xgn (by decide) (xgn (by decide) hn)) xcs_a
    refine xKp.set ?_ (fun h hh => by unfold xPM at hh; omega) (xgn (by decide) (((hk 154 (by decide) (by decide) (by decide) (by decide) (by decide)).trans W0_154))) xcs_a
    refine xKp.set ?_ (fun h hh => by unfold xPM at hh; omega) (hm) xcs_o
    exact xKp.refl
theorem sf0_13 {d : Nat} {xs : Nat → Int32} {m : Int64} {sc md : Int32} {w : xW} {B E U C q0 q1 q2 nn : Int32} {g : Nat → Value} (hk : ∀ h, 131 ≤ h → h < 194 → h ≠ 135 → h ≠ 136 → h ≠ 156 → w[h]? = (W0 6 xs)[h]?) (hm : w[128]? = some (Sum.inr (12, [Value.ref 129, Value.ref 131, Value.ref 133, Value.ref 135, Value.ref 137, Value.ref 139, Value.ref 141, Value.ref 143, Value.ref 145, Value.ref 147, Value.ref 149, Value.ref 151, Value.ref 153, Value.ref 154, Value.ref 155, Value.ref 156, Value.ref 157, Value.int (-16384), Value.int 16384, Value.int 0, Value.int 0, Value.int 0, Value.ref 158, Value.ref 159, Value.int 0, Value.int 0, Value.int 0, Value.int 0, Value.int 0, Value.int 0, Value.int 0, Value.int 0]))) (hv : w[129]? = some (Sum.inr (13, [Value.ref 130, Value.int nn]))) (hq : w[135]? = some (Sum.inr (13, [Value.ref 136, Value.int 3]))) (hqw : w[136]? = some (Sum.inl (0, 4700, g))) (hg0 : g (0 : Int32).toInt.toNat = Value.int q0) (hg1 : g (1 : Int32).toInt.toNat = Value.int q1) (hg2 : g (2 : Int32).toInt.toNat = Value.int q2) (hn : w[156]? = some (Sum.inl (2, 17, xup (fun _ => Value.int 0) (xs 1).toInt.toNat (Value.int 0)))) (hbits : ∀ (d' : Nat) (w' : xW), w'[129]? = w[129]? → w'[130]? = w[130]? → xRun d' 181 [Value.ref 129] w' (.inl (some (Value.int B))) w') (hany0 : xPW m → ∀ (d' : Nat) (w' : xW), w'[129]? = w[129]? → w'[130]? = w[130]? → xRun d' 183 [Value.ref 129, Value.int (B - (1 : Int32))] w' (.inl (some (Value.int 0))) w') (hany1 : ¬ xPW m → ∀ (d' : Nat) (w' : xW), w'[129]? = w[129]? → w'[130]? = w[130]? → xRun d' 183 [Value.ref 129, Value.int (B - (1 : Int32))] w' (.inl (some (Value.int 1))) w') (c0 : 0 ≤ (xs 1).toInt) (c1 : (xs 1).toInt < 16) (c2 : (-40000) ≤ sc.toInt) (c3 : sc.toInt ≤ 40000) (c4 : 0 ≤ md.toInt) (c5 : md.toInt ≤ 4) (c6 : 1 ≤ B.toInt) (c7 : B.toInt ≤ 64) (c8 : E.toInt = B.toInt + sc.toInt) (c9 : U.toInt = E.toInt - 64) (c10 : 0 ≤ q2.toInt) (c11 : (xbn q2).toInt = 4) (c12 : E.toInt ≤ 16384) (c13 : E.toInt < (-16384)) (c14 : E.toInt = (-16385)) (c15 : ¬ xPW m) (c16 : md.toInt ≠ 4) (c17 : md.toInt ≠ 2) (c18 : md.toInt ≠ 3) (c19 : md.toInt = 0) : ∃ w2, xEv (d + 6) 180 207 [(14, Value.int 0), (13, Value.int E), (12, Value.int 1), (11, Value.int 0), (10, Value.int C), (9, Value.int U), (8, Value.int E), (7, Value.int 64), (0, Value.ref 128), (1, Value.int (xs 1)), (2, Value.ref 129), (3, Value.int sc), (4, Value.int 0), (5, Value.int 0), (6, Value.int md)] [] w (fun o' w' => o' = .inl (some (Value.int 1)) ∧ w' = w2) ∧ xKp w w2 xPM ∧ w2[128]? = some (Sum.inr (12, [Value.ref 129, Value.ref 131, Value.ref 133, Value.ref 135, Value.ref 137, Value.ref 139, Value.ref 141, Value.ref 143, Value.ref 145, Value.ref 147, Value.ref 149, Value.ref 151, Value.ref 153, Value.ref 154, Value.ref 155, Value.ref 156, Value.ref 157, Value.int (-16384), Value.int 16384, Value.int 5, Value.int 0, Value.int 0, Value.ref 158, Value.ref 159, Value.int 0, Value.int 0, Value.int 0, Value.int 0, Value.int 0, Value.int 0, Value.int 0, Value.int 0])) := by
  refine ⟨(((((((((((((((w.set 128 (Sum.inr (12, [Value.ref 129, Value.ref 131, Value.ref 133, Value.ref 135, Value.ref 137, Value.ref 139, Value.ref 141, Value.ref 143, Value.ref 145, Value.ref 147, Value.ref 149, Value.ref 151, Value.ref 153, Value.ref 154, Value.ref 155, Value.ref 156, Value.ref 157, Value.int (-16384), Value.int 16384, Value.int 4, Value.int 0, Value.int 0, Value.ref 158, Value.ref 159, Value.int 0, Value.int 0, Value.int 0, Value.int 0, Value.int 0, Value.int 0, Value.int 0, Value.int 0]))).set 151 (Sum.inr (13, [Value.ref 152, Value.int 0]))).set 152 (Sum.inl (0, 4700, xup (fun _ => Value.int 0) (0 : Int32).toInt.toNat (Value.int 1)))).set 151 (Sum.inr (13, [Value.ref 152, Value.int 1]))).set (160 + 2 * (xs 1).toInt.toNat) (Sum.inr (13, [Value.ref (161 + 2 * (xs 1).toInt.toNat), Value.int 0]))).set 138 (Sum.inl (0, 4700, xcp (xup (fun _ => Value.int 0) (0 : Int32).toInt.toNat (Value.int 1)) (fun _ => Value.int 0) (0 : Int32).toInt.toNat (0 : Int32).toInt.toNat (1 : Int32).toInt.toNat))).set 137 (Sum.inr (13, [Value.ref 138, Value.int 1]))).set 138 (Sum.inl (0, 4700, xup (xup (xup (xup (xup (xcp (xup (fun _ => Value.int 0) (0 : Int32).toInt.toNat (Value.int 1)) (fun _ => Value.int 0) (0 : Int32).toInt.toNat (0 : Int32).toInt.toNat (1 : Int32).toInt.toNat) (3 : Int32).toInt.toNat (Value.int 0)) (3 : Int32).toInt.toNat (Value.int 0)) (2 : Int32).toInt.toNat (Value.int 8)) (0 : Int32).toInt.toNat (Value.int 0)) (1 : Int32).toInt.toNat (Value.int 0)))).set 137 (Sum.inr (13, [Value.ref 138, Value.int 3]))).set (161 + 2 * (xs 1).toInt.toNat) (Sum.inl (0, 140, xcp (xup (xup (xup (xup (xup (xcp (xup (fun _ => Value.int 0) (0 : Int32).toInt.toNat (Value.int 1)) (fun _ => Value.int 0) (0 : Int32).toInt.toNat (0 : Int32).toInt.toNat (1 : Int32).toInt.toNat) (3 : Int32).toInt.toNat (Value.int 0)) (3 : Int32).toInt.toNat (Value.int 0)) (2 : Int32).toInt.toNat (Value.int 8)) (0 : Int32).toInt.toNat (Value.int 0)) (1 : Int32).toInt.toNat (Value.int 0)) (fun _ => Value.int 0) (0 : Int32).toInt.toNat (0 : Int32).toInt.toNat (3 : Int32).toInt.toNat))).set (160 + 2 * (xs 1).toInt.toNat) (Sum.inr (13, [Value.ref (161 + 2 * (xs 1).toInt.toNat), Value.int 3]))).set 154 (Sum.inl (0, 17, xup (fun _ => Value.int 0) (xs 1).toInt.toNat (Value.int 3)))).set 155 (Sum.inl (0, 17, xup (fun _ => Value.int 0) (xs 1).toInt.toNat (Value.int (-16384))))).set 156 (Sum.inl (2, 17, xup (xup (fun _ => Value.int 0) (xs 1).toInt.toNat (Value.int 0)) (xs 1).toInt.toNat (Value.int 0)))).set 128 (Sum.inr (12, [Value.ref 129, Value.ref 131, Value.ref 133, Value.ref 135, Value.ref 137, Value.ref 139, Value.ref 141, Value.ref 143, Value.ref 145, Value.ref 147, Value.ref 149, Value.ref 151, Value.ref 153, Value.ref 154, Value.ref 155, Value.ref 156, Value.ref 157, Value.int (-16384), Value.int 16384, Value.int 5, Value.int 0, Value.int 0, Value.ref 158, Value.ref 159, Value.int 0, Value.int 0, Value.int 0, Value.int 0, Value.int 0, Value.int 0, Value.int 0, Value.int 0]))), ?_, ?_, xgs (xgn (by decide) (xgn (by decide) (xgn (by decide) (xgn (by omega) (xgn (by omega) (xgn (by decide) (xgn (by decide) (xgn (by decide) (xgn (by decide) (xgn (by omega) (xgn (by decide) (xgn (by decide) (xgn (by decide) (xgs hm))))))))))))))⟩
  · refine i_180_207 (x := 128) rfl ?_
    refine i_180_208 (v := Value.int 0) hm rfl ?_
    refine i_180_211 (fun h => absurd h (by decide)) (fun _ => ?_)
    refine i_180_214 (x := 128) rfl ?_
    refine i_180_215 (v := Value.ref 135) hm rfl ?_
    refine i_180_218 (v := Value.int 3) hq rfl ?_
    refine i_180_221 (fun h => absurd h (by decide)) (fun _ => ?_)
    refine i_180_224 (x := E) rfl ?_
    refine i_180_226 (x := 128) rfl ?_
    refine i_180_227 (v := Value.int 16384) hm rfl ?_
    refine i_180_230 (fun _ => ?_) (fun h => absurd (show E.toInt ≤ 16384 by omega) (Int.not_le.mpr h))
    refine i_180_367 (x := 128) rfl ?_
    refine i_180_368 (v := Value.ref 135) hm rfl ?_
    refine i_180_371 (v := Value.int 3) hq rfl ?_
    refine i_180_374 (fun _ => ?_) (fun h => absurd h (by decide))
    refine i_180_392 (x := 128) rfl ?_
    refine i_180_393 (v := Value.int 0) hm rfl ?_
    refine i_180_396 (fun h => absurd h (by decide)) (fun _ => ?_)
    refine i_180_399 (x := 128) rfl ?_
    refine i_180_400 (v := Value.int 0) hm rfl ?_
    refine i_180_403 (fun h => absurd h (by decide)) (fun _ => ?_)
    refine i_180_406 (x := E) rfl ?_
    refine i_180_408 (x := 128) rfl ?_
    refine i_180_409 (v := Value.int (-16384)) hm rfl ?_
    refine i_180_412 (fun h => absurd (show E.toInt < (-16384) by omega) (Int.not_lt.mpr h)) (fun _ => ?_)
    refine i_180_415 (x := 128) rfl ?_
    refine i_180_416 rfl ?_
    refine i_180_417 (v := Value.int 0) hm rfl ?_
    refine i_180_420 ?_
    refine i_180_421 (c := 4) (by decide) ?_
    refine i_180_422 (fs2 := [Value.ref 129, Value.ref 131, Value.ref 133, Value.ref 135, Value.ref 137, Value.ref 139, Value.ref 141, Value.ref 143, Value.ref 145, Value.ref 147, Value.ref 149, Value.ref 151, Value.ref 153, Value.ref 154, Value.ref 155, Value.ref 156, Value.ref 157, Value.int (-16384), Value.int 16384, Value.int 4, Value.int 0, Value.int 0, Value.ref 158, Value.ref 159, Value.int 0, Value.int 0, Value.int 0, Value.int 0, Value.int 0, Value.int 0, Value.int 0, Value.int 0]) hm (Nat.le_of_ble_eq_true rfl) rfl (by omega) ?_
    refine i_180_425 (x := E) rfl ?_
    refine i_180_427 (x := 128) rfl ?_
    refine i_180_428 (v := Value.int (-16384)) (xgs hm) rfl ?_
    refine i_180_431 ?_
    refine i_180_432 (c := (-16385)) (by decide) ?_
    refine i_180_433 (fun h => absurd (show E.toInt ≤ (-16385) by omega) (Int.not_le.mpr h)) (fun _ => ?_)
    refine i_180_436 (x := E) rfl ?_
    refine i_180_438 (x := 128) rfl ?_
    refine i_180_439 (v := Value.int (-16384)) (xgs hm) rfl ?_
    refine i_180_442 ?_
    refine i_180_443 (c := (-16385)) (by decide) ?_
    refine i_180_444 (fun h => absurd (show E.toInt = (-16385) by omega) h) (fun _ => ?_)
    refine i_180_447 (x := 0) rfl ?_
    refine i_180_449 (fun h => absurd h (by decide)) (fun _ => ?_)
    refine i_180_452 (x := 129) rfl ?_
    refine i_180_453 (x := 129) rfl ?_
    refine i_180_454 (xgn (by decide) hv) (Nat.le_of_ble_eq_true rfl) (hbits _ _ (xgn (by omega) (rfl)) (xgn (by omega) (rfl))) ?_
    refine i_180_457 ?_
    refine i_180_458 (c := (B - (1 : Int32))) rfl ?_
    refine i_180_459 (xgn (by decide) hv) (Nat.le_of_ble_eq_true rfl) (hany1 c15 _ _ (xgn (by omega) (rfl)) (xgn (by omega) (rfl))) ?_
    refine i_180_462 (fun h => absurd h (by decide)) (fun _ => ?_)
    refine i_180_465 ?_
    refine i_180_466 ?_
    refine i_180_470 (lv2 := [(15, Value.int 1), (14, Value.int 0), (13, Value.int E), (12, Value.int 1), (11, Value.int 0), (10, Value.int C), (9, Value.int U), (8, Value.int E), (7, Value.int 64), (0, Value.ref 128), (1, Value.int (xs 1)), (2, Value.ref 129), (3, Value.int sc), (4, Value.int 0), (5, Value.int 0), (6, Value.int md)]) rfl ?_
    refine i_180_472 (x := md) rfl ?_
    refine i_180_474 ?_
    refine i_180_475 (fun h => absurd (show md.toInt ≠ 4 by omega) (fun g => g h)) (fun _ => ?_)
    refine i_180_478 (x := md) rfl ?_
    refine i_180_480 ?_
    refine i_180_481 (fun _ => ?_) (fun h => absurd (show md.toInt ≠ 2 by omega) (fun g => g h))
    refine i_180_489 (x := md) rfl ?_
    refine i_180_491 ?_
    refine i_180_492 (fun _ => ?_) (fun h => absurd (show md.toInt ≠ 3 by omega) (fun g => g h))
    refine i_180_500 (x := md) rfl ?_
    refine i_180_502 (fun h => absurd (show md.toInt = 0 by omega) h) (fun _ => ?_)
    refine i_180_505 (x := 1) rfl ?_
    refine i_180_507 (fun h => absurd h (by decide)) (fun _ => ?_)
    refine i_180_510 ?_
    refine i_180_511 ?_
    refine i_180_515 (lv2 := [(16, Value.int 1), (15, Value.int 1), (14, Value.int 0), (13, Value.int E), (12, Value.int 1), (11, Value.int 0), (10, Value.int C), (9, Value.int U), (8, Value.int E), (7, Value.int 64), (0, Value.ref 128), (1, Value.int (xs 1)), (2, Value.ref 129), (3, Value.int sc), (4, Value.int 0), (5, Value.int 0), (6, Value.int md)]) rfl ?_
    refine i_180_517 (x := 1) rfl ?_
    refine i_180_519 (fun h => absurd h (by decide)) (fun _ => ?_)
    refine i_180_522 (x := 128) rfl ?_
    refine i_180_523 (v := Value.ref 151) (xgs hm) rfl ?_
    refine i_180_526 ?_
    refine i_180_527 (xgn (by decide) (((hk 151 (by decide) (by decide) (by decide) (by decide) (by decide)).trans W0_151))) (Nat.le_of_ble_eq_true rfl) (s_179_2 (xgn (by decide) (((hk 151 (by decide) (by decide) (by decide) (by decide) (by decide)).trans W0_151))) (xgn (by decide) (((hk 152 (by decide) (by decide) (by decide) (by decide) (by decide)).trans W0_152)))) ?_
    refine i_180_530 (x := 128) rfl ?_
    refine i_180_531 (x := (xs 1)) rfl ?_
    refine i_180_532 (x := 128) rfl ?_
    refine i_180_533 (v := Value.ref 151) (xgn (by decide) (xgn (by decide) (xgn (by decide) (xgs hm)))) rfl ?_
    refine i_180_536 (x := 128) rfl ?_
    refine i_180_537 (v := Value.int (-16384)) (xgn (by decide) (xgn (by decide) (xgn (by decide) (xgs hm)))) rfl ?_
    refine i_180_540 ?_
    refine i_180_541 (c := (-16385)) (by decide) ?_
    refine i_180_542 (xgn (by decide) (xgn (by decide) (xgn (by decide) (xgs hm)))) (Nat.le_of_ble_eq_true rfl) (s_192_1 (xgn (by decide) (xgn (by decide) (xgn (by decide) (xgs hm)))) (xgn (by decide) (xgn (by decide) (xgn (by decide) (xgn (by decide) (((hk 153 (by decide) (by decide) (by decide) (by decide) (by decide)).trans W0_153)))))) (by omega) (by omega) (gprec_at (by omega)) (xgs (xgn (by decide) (xgs (xgn (by decide) (((hk 151 (by decide) (by decide) (by decide) (by decide) (by decide)).trans W0_151)))))) (xgn (by decide) (xgs (xgn (by decide) (xgn (by decide) (((hk 152 (by decide) (by decide) (by decide) (by decide) (by decide)).trans W0_152)))))) xup_s (xgn (by decide) (xgn (by decide) (xgn (by decide) (xgn (by decide) (((hk 157 (by decide) (by decide) (by decide) (by decide) (by decide)).trans W0_157)))))) (gpart_at (by omega)) (xgn (by omega) (xgn (by omega) (xgn (by omega) (xgn (by omega) (((hk _ (by omega) (by omega) (by omega) (by omega) (by omega)).trans (W0_part (by omega)))))))) (by omega) (by omega) (by omega) (xgn (by decide) (xgn (by decide) (xgn (by decide) (xgn (by decide) (((hk 137 (by decide) (by decide) (by decide) (by decide) (by decide)).trans W0_137)))))) (by omega) (by omega) (by omega) (xgn (by decide) (xgn (by decide) (xgn (by decide) (xgn (by decide) (((hk 138 (by decide) (by decide) (by decide) (by decide) (by decide)).trans W0_138)))))) (by omega) (by omega) (by omega) (by omega) (by omega) (by omega) (xgn (by omega) (xgn (by omega) (xgn (by omega) (xgn (by omega) (((hk _ (by omega) (by omega) (by omega) (by omega) (by omega)).trans (W0_pw (by omega)))))))) (by omega) (by omega) (by omega) (by omega) (by omega) (by omega) (xgn (by decide) (xgn (by decide) (xgn (by decide) (xgn (by decide) (((hk 154 (by decide) (by decide) (by decide) (by decide) (by decide)).trans W0_154)))))) (by omega) (by omega) (xgn (by decide) (xgn (by decide) (xgn (by decide) (xgn (by decide) (((hk 155 (by decide) (by decide) (by decide) (by decide) (by decide)).trans W0_155))))))) ?_
    refine i_180_545 (x := 128) rfl ?_
    refine i_180_546 (v := Value.ref 156) (xgn (by decide) (xgn (by decide) (xgn (by omega) (xgn (by omega) (xgn (by decide) (xgn (by decide) (xgn (by decide) (xgn (by decide) (xgn (by omega) (xgn (by decide) (xgn (by decide) (xgn (by decide) (xgs hm))))))))))))) rfl ?_
    refine i_180_549 (x := (xs 1)) rfl ?_
    refine i_180_550 (x := 0) rfl ?_
    refine i_180_552z (v := Value.int 0) (xgn (by decide) (xgn (by decide) (xgn (by omega) (xgn (by omega) (xgn (by decide) (xgn (by decide) (xgn (by decide) (xgn (by decide) (xgn (by omega) (xgn (by decide) (xgn (by decide) (xgn (by decide) (xgn (by decide) hn))))))))))))) (by omega) (by omega) (by omega) rfl ?_
    refine i_180_553 ?_
    refine i_180_565 (x := 1) rfl ?_
    refine i_180_567 (fun h => absurd h (by decide)) (fun _ => ?_)
    refine i_180_570 ?_
    refine i_180_571 ?_
    refine i_180_575 (lv2 := [(14, Value.int 1), (16, Value.int 1), (15, Value.int 1), (13, Value.int E), (12, Value.int 1), (11, Value.int 0), (10, Value.int C), (9, Value.int U), (8, Value.int E), (7, Value.int 64), (0, Value.ref 128), (1, Value.int (xs 1)), (2, Value.ref 129), (3, Value.int sc), (4, Value.int 0), (5, Value.int 0), (6, Value.int md)]) rfl ?_
    refine i_180_577 ?_
    refine i_180_591 (x := 128) rfl ?_
    refine i_180_592 (v := Value.int 0) (xgn (by decide) (xgn (by decide) (xgn (by decide) (xgn (by omega) (xgn (by omega) (xgn (by decide) (xgn (by decide) (xgn (by decide) (xgn (by decide) (xgn (by omega) (xgn (by decide) (xgn (by decide) (xgn (by decide) (xgs hm)))))))))))))) rfl ?_
    refine i_180_595 (fun h => absurd h (by decide)) (fun _ => ?_)
    refine i_180_598 (x := 128) rfl ?_
    refine i_180_599 (v := Value.int 0) (xgn (by decide) (xgn (by decide) (xgn (by decide) (xgn (by omega) (xgn (by omega) (xgn (by decide) (xgn (by decide) (xgn (by decide) (xgn (by decide) (xgn (by omega) (xgn (by decide) (xgn (by decide) (xgn (by decide) (xgs hm)))))))))))))) rfl ?_
    refine i_180_602 (fun _ => ?_) (fun h => absurd h (by decide))
    refine i_180_629 (x := 1) rfl ?_
    refine i_180_631 (fun h => absurd h (by decide)) (fun _ => ?_)
    refine i_180_634 (x := 128) rfl ?_
    refine i_180_635 rfl ?_
    refine i_180_636 (v := Value.int 4) (xgn (by decide) (xgn (by decide) (xgn (by decide) (xgn (by omega) (xgn (by omega) (xgn (by decide) (xgn (by decide) (xgn (by decide) (xgn (by decide) (xgn (by omega) (xgn (by decide) (xgn (by decide) (xgn (by decide) (xgs hm)))))))))))))) rfl ?_
    refine i_180_639 ?_
    refine i_180_640 (c := 5) (by decide) ?_
    refine i_180_641 (fs2 := [Value.ref 129, Value.ref 131, Value.ref 133, Value.ref 135, Value.ref 137, Value.ref 139, Value.ref 141, Value.ref 143, Value.ref 145, Value.ref 147, Value.ref 149, Value.ref 151, Value.ref 153, Value.ref 154, Value.ref 155, Value.ref 156, Value.ref 157, Value.int (-16384), Value.int 16384, Value.int 5, Value.int 0, Value.int 0, Value.ref 158, Value.ref 159, Value.int 0, Value.int 0, Value.int 0, Value.int 0, Value.int 0, Value.int 0, Value.int 0, Value.int 0]) (xgn (by decide) (xgn (by decide) (xgn (by decide) (xgn (by omega) (xgn (by omega) (xgn (by decide) (xgn (by decide) (xgn (by decide) (xgn (by decide) (xgn (by omega) (xgn (by decide) (xgn (by decide) (xgn (by decide) (xgs hm)))))))))))))) (Nat.le_of_ble_eq_true rfl) rfl (by omega) ?_
    refine i_180_644 (x := 0) rfl ?_
    refine i_180_646 (fun _ => ?_) (fun h => absurd h (by decide))
    refine i_180_655 (x := 1) rfl ?_
    exact i_180_657 ⟨rfl, rfl⟩
  · refine xKp.set ?_ (fun h hh => by unfold xPM at hh; omega) (xgn (by decide) (xgn (by decide) (xgn (by decide) (xgn (by omega) (xgn (by omega) (xgn (by decide) (xgn (by decide) (xgn (by decide) (xgn (by decide) (xgn (by omega) (xgn (by decide) (xgn (by decide) (xgn (by decide) (xgs hm)))))))))))))) xcs_o
    refine xKp.set ?_ (fun h hh => by unfold xPM at hh; omega) (xgn (by decide) (xgn (by decide) (xgn (by omega) (xgn (by omega) (xgn (by decide) (xgn (by decide) (xgn (by decide) (xgn (by decide) (xgn (by omega) (xgn (by decide) (xgn (by decide) (xgn (by decide) (xgn (by decide) hn))))))))))))) xcs_a
    refine xKp.set ?_ (fun h hh => by unfold xPM at hh; omega) (xgn (by decide) (xgn (by omega) (xgn (by omega) (xgn (by decide) (xgn (by decide) (xgn (by decide) (xgn (by decide) (xgn (by omega) (xgn (by decide) (xgn (by decide) (xgn (by decide) (xgn (by decide) (((hk 155 (by decide) (by decide) (by decide) (by decide) (by decide)).trans W0_155)))))))))))))) xcs_a
    refine xKp.set ?_ (fun h hh => by unfold xPM at hh; omega) (xgn (by omega) (xgn (by omega) (xgn (by decide) (xgn (by decide) (xgn (by decide) (xgn (by decide) (xgn (by omega) (xgn (by decide) (xgn (by decide) (xgn (by decide) (xgn (by decide) (((hk 154 (by decide) (by decide) (by decide) (by decide) (by decide)).trans W0_154))))))))))))) xcs_a
    refine xKp.set ?_ (fun h hh => by unfold xPM at hh; omega) (xgn (by omega) (xgn (by omega) (xgn (by omega) (xgn (by omega) (xgn (by omega) (xgs (xgn (by omega) (xgn (by omega) (xgn (by omega) (xgn (by omega) (((hk _ (by omega) (by omega) (by omega) (by omega) (by omega)).trans (W0_part (by omega)))))))))))))) xcs_o
    refine xKp.set ?_ (fun h hh => by unfold xPM at hh; omega) (xgn (by omega) (xgn (by omega) (xgn (by omega) (xgn (by omega) (xgn (by omega) (xgn (by omega) (xgn (by omega) (xgn (by omega) (xgn (by omega) (((hk _ (by omega) (by omega) (by omega) (by omega) (by omega)).trans (W0_pw (by omega))))))))))))) xcs_a
    refine xKp.set ?_ (fun h hh => by unfold xPM at hh; omega) (xgn (by decide) (xgs (xgn (by decide) (xgn (by omega) (xgn (by decide) (xgn (by decide) (xgn (by decide) (xgn (by decide) (((hk 137 (by decide) (by decide) (by decide) (by decide) (by decide)).trans W0_137)))))))))) xcs_o
    refine xKp.set ?_ (fun h hh => by unfold xPM at hh; omega) (xgn (by decide) (xgs (xgn (by omega) (xgn (by decide) (xgn (by decide) (xgn (by decide) (xgn (by decide) (((hk 138 (by decide) (by decide) (by decide) (by decide) (by decide)).trans W0_138))))))))) xcs_a
    refine xKp.set ?_ (fun h hh => by unfold xPM at hh; omega) (xgn (by decide) (xgn (by omega) (xgn (by decide) (xgn (by decide) (xgn (by decide) (xgn (by decide) (((hk 137 (by decide) (by decide) (by decide) (by decide) (by decide)).trans W0_137)))))))) xcs_o
    refine xKp.set ?_ (fun h hh => by unfold xPM at hh; omega) (xgn (by omega) (xgn (by decide) (xgn (by decide) (xgn (by decide) (xgn (by decide) (((hk 138 (by decide) (by decide) (by decide) (by decide) (by decide)).trans W0_138))))))) xcs_a
    refine xKp.set ?_ (fun h hh => by unfold xPM at hh; omega) (xgn (by omega) (xgn (by omega) (xgn (by omega) (xgn (by omega) (((hk _ (by omega) (by omega) (by omega) (by omega) (by omega)).trans (W0_part (by omega)))))))) xcs_o
    refine xKp.set ?_ (fun h hh => by unfold xPM at hh; omega) (xgn (by decide) (xgs (xgn (by decide) (((hk 151 (by decide) (by decide) (by decide) (by decide) (by decide)).trans W0_151))))) xcs_o
    refine xKp.set ?_ (fun h hh => by unfold xPM at hh; omega) (xgn (by decide) (xgn (by decide) (((hk 152 (by decide) (by decide) (by decide) (by decide) (by decide)).trans W0_152)))) xcs_a
    refine xKp.set ?_ (fun h hh => by unfold xPM at hh; omega) (xgn (by decide) (((hk 151 (by decide) (by decide) (by decide) (by decide) (by decide)).trans W0_151))) xcs_o
    refine xKp.set ?_ (fun h hh => by unfold xPM at hh; omega) (hm) xcs_o
    exact xKp.refl
theorem sf0_14 {d : Nat} {xs : Nat → Int32} {m : Int64} {sc md : Int32} {w : xW} {B E U C q0 q1 q2 nn : Int32} {g : Nat → Value} (hk : ∀ h, 131 ≤ h → h < 194 → h ≠ 135 → h ≠ 136 → h ≠ 156 → w[h]? = (W0 6 xs)[h]?) (hm : w[128]? = some (Sum.inr (12, [Value.ref 129, Value.ref 131, Value.ref 133, Value.ref 135, Value.ref 137, Value.ref 139, Value.ref 141, Value.ref 143, Value.ref 145, Value.ref 147, Value.ref 149, Value.ref 151, Value.ref 153, Value.ref 154, Value.ref 155, Value.ref 156, Value.ref 157, Value.int (-16384), Value.int 16384, Value.int 0, Value.int 0, Value.int 0, Value.ref 158, Value.ref 159, Value.int 0, Value.int 0, Value.int 0, Value.int 0, Value.int 0, Value.int 0, Value.int 0, Value.int 0]))) (hv : w[129]? = some (Sum.inr (13, [Value.ref 130, Value.int nn]))) (hq : w[135]? = some (Sum.inr (13, [Value.ref 136, Value.int 3]))) (hqw : w[136]? = some (Sum.inl (0, 4700, g))) (hg0 : g (0 : Int32).toInt.toNat = Value.int q0) (hg1 : g (1 : Int32).toInt.toNat = Value.int q1) (hg2 : g (2 : Int32).toInt.toNat = Value.int q2) (hn : w[156]? = some (Sum.inl (2, 17, xup (fun _ => Value.int 0) (xs 1).toInt.toNat (Value.int 0)))) (hbits : ∀ (d' : Nat) (w' : xW), w'[129]? = w[129]? → w'[130]? = w[130]? → xRun d' 181 [Value.ref 129] w' (.inl (some (Value.int B))) w') (hany0 : xPW m → ∀ (d' : Nat) (w' : xW), w'[129]? = w[129]? → w'[130]? = w[130]? → xRun d' 183 [Value.ref 129, Value.int (B - (1 : Int32))] w' (.inl (some (Value.int 0))) w') (hany1 : ¬ xPW m → ∀ (d' : Nat) (w' : xW), w'[129]? = w[129]? → w'[130]? = w[130]? → xRun d' 183 [Value.ref 129, Value.int (B - (1 : Int32))] w' (.inl (some (Value.int 1))) w') (c0 : 0 ≤ (xs 1).toInt) (c1 : (xs 1).toInt < 16) (c2 : (-40000) ≤ sc.toInt) (c3 : sc.toInt ≤ 40000) (c4 : 0 ≤ md.toInt) (c5 : md.toInt ≤ 4) (c6 : 1 ≤ B.toInt) (c7 : B.toInt ≤ 64) (c8 : E.toInt = B.toInt + sc.toInt) (c9 : U.toInt = E.toInt - 64) (c10 : 0 ≤ q2.toInt) (c11 : (xbn q2).toInt = 4) (c12 : E.toInt ≤ 16384) (c13 : E.toInt < (-16384)) (c14 : E.toInt = (-16385)) (c15 : ¬ xPW m) (c16 : md.toInt ≠ 4) (c17 : md.toInt ≠ 2) (c18 : md.toInt ≠ 3) (c19 : md.toInt ≠ 0) : ∃ w2, xEv (d + 6) 180 207 [(14, Value.int 0), (13, Value.int E), (12, Value.int 1), (11, Value.int 0), (10, Value.int C), (9, Value.int U), (8, Value.int E), (7, Value.int 64), (0, Value.ref 128), (1, Value.int (xs 1)), (2, Value.ref 129), (3, Value.int sc), (4, Value.int 0), (5, Value.int 0), (6, Value.int md)] [] w (fun o' w' => o' = .inl (some (Value.int (-1))) ∧ w' = w2) ∧ xKp w w2 xPM ∧ w2[128]? = some (Sum.inr (12, [Value.ref 129, Value.ref 131, Value.ref 133, Value.ref 135, Value.ref 137, Value.ref 139, Value.ref 141, Value.ref 143, Value.ref 145, Value.ref 147, Value.ref 149, Value.ref 151, Value.ref 153, Value.ref 154, Value.ref 155, Value.ref 156, Value.ref 157, Value.int (-16384), Value.int 16384, Value.int 5, Value.int 0, Value.int 0, Value.ref 158, Value.ref 159, Value.int 0, Value.int 0, Value.int 0, Value.int 0, Value.int 0, Value.int 0, Value.int 0, Value.int 0])) := by
  refine ⟨((((w.set 128 (Sum.inr (12, [Value.ref 129, Value.ref 131, Value.ref 133, Value.ref 135, Value.ref 137, Value.ref 139, Value.ref 141, Value.ref 143, Value.ref 145, Value.ref 147, Value.ref 149, Value.ref 151, Value.ref 153, Value.ref 154, Value.ref 155, Value.ref 156, Value.ref 157, Value.int (-16384), Value.int 16384, Value.int 4, Value.int 0, Value.int 0, Value.ref 158, Value.ref 159, Value.int 0, Value.int 0, Value.int 0, Value.int 0, Value.int 0, Value.int 0, Value.int 0, Value.int 0]))).set 154 (Sum.inl (0, 17, xup (fun _ => Value.int 0) (xs 1).toInt.toNat (Value.int 2)))).set 156 (Sum.inl (2, 17, xup (xup (fun _ => Value.int 0) (xs 1).toInt.toNat (Value.int 0)) (xs 1).toInt.toNat (Value.int 0)))).set 128 (Sum.inr (12, [Value.ref 129, Value.ref 131, Value.ref 133, Value.ref 135, Value.ref 137, Value.ref 139, Value.ref 141, Value.ref 143, Value.ref 145, Value.ref 147, Value.ref 149, Value.ref 151, Value.ref 153, Value.ref 154, Value.ref 155, Value.ref 156, Value.ref 157, Value.int (-16384), Value.int 16384, Value.int 5, Value.int 0, Value.int 0, Value.ref 158, Value.ref 159, Value.int 0, Value.int 0, Value.int 0, Value.int 0, Value.int 0, Value.int 0, Value.int 0, Value.int 0]))), ?_, ?_, xgs (xgn (by decide) (xgn (by decide) (xgs hm)))⟩
  · refine i_180_207 (x := 128) rfl ?_
    refine i_180_208 (v := Value.int 0) hm rfl ?_
    refine i_180_211 (fun h => absurd h (by decide)) (fun _ => ?_)
    refine i_180_214 (x := 128) rfl ?_
    refine i_180_215 (v := Value.ref 135) hm rfl ?_
    refine i_180_218 (v := Value.int 3) hq rfl ?_
    refine i_180_221 (fun h => absurd h (by decide)) (fun _ => ?_)
    refine i_180_224 (x := E) rfl ?_
    refine i_180_226 (x := 128) rfl ?_
    refine i_180_227 (v := Value.int 16384) hm rfl ?_
    refine i_180_230 (fun _ => ?_) (fun h => absurd (show E.toInt ≤ 16384 by omega) (Int.not_le.mpr h))
    refine i_180_367 (x := 128) rfl ?_
    refine i_180_368 (v := Value.ref 135) hm rfl ?_
    refine i_180_371 (v := Value.int 3) hq rfl ?_
    refine i_180_374 (fun _ => ?_) (fun h => absurd h (by decide))
    refine i_180_392 (x := 128) rfl ?_
    refine i_180_393 (v := Value.int 0) hm rfl ?_
    refine i_180_396 (fun h => absurd h (by decide)) (fun _ => ?_)
    refine i_180_399 (x := 128) rfl ?_
    refine i_180_400 (v := Value.int 0) hm rfl ?_
    refine i_180_403 (fun h => absurd h (by decide)) (fun _ => ?_)
    refine i_180_406 (x := E) rfl ?_
    refine i_180_408 (x := 128) rfl ?_
    refine i_180_409 (v := Value.int (-16384)) hm rfl ?_
    refine i_180_412 (fun h => absurd (show E.toInt < (-16384) by omega) (Int.not_lt.mpr h)) (fun _ => ?_)
    refine i_180_415 (x := 128) rfl ?_
    refine i_180_416 rfl ?_
    refine i_180_417 (v := Value.int 0) hm rfl ?_
    refine i_180_420 ?_
    refine i_180_421 (c := 4) (by decide) ?_
    refine i_180_422 (fs2 := [Value.ref 129, Value.ref 131, Value.ref 133, Value.ref 135, Value.ref 137, Value.ref 139, Value.ref 141, Value.ref 143, Value.ref 145, Value.ref 147, Value.ref 149, Value.ref 151, Value.ref 153, Value.ref 154, Value.ref 155, Value.ref 156, Value.ref 157, Value.int (-16384), Value.int 16384, Value.int 4, Value.int 0, Value.int 0, Value.ref 158, Value.ref 159, Value.int 0, Value.int 0, Value.int 0, Value.int 0, Value.int 0, Value.int 0, Value.int 0, Value.int 0]) hm (Nat.le_of_ble_eq_true rfl) rfl (by omega) ?_
    refine i_180_425 (x := E) rfl ?_
    refine i_180_427 (x := 128) rfl ?_
    refine i_180_428 (v := Value.int (-16384)) (xgs hm) rfl ?_
    refine i_180_431 ?_
    refine i_180_432 (c := (-16385)) (by decide) ?_
    refine i_180_433 (fun h => absurd (show E.toInt ≤ (-16385) by omega) (Int.not_le.mpr h)) (fun _ => ?_)
    refine i_180_436 (x := E) rfl ?_
    refine i_180_438 (x := 128) rfl ?_
    refine i_180_439 (v := Value.int (-16384)) (xgs hm) rfl ?_
    refine i_180_442 ?_
    refine i_180_443 (c := (-16385)) (by decide) ?_
    refine i_180_444 (fun h => absurd (show E.toInt = (-16385) by omega) h) (fun _ => ?_)
    refine i_180_447 (x := 0) rfl ?_
    refine i_180_449 (fun h => absurd h (by decide)) (fun _ => ?_)
    refine i_180_452 (x := 129) rfl ?_
    refine i_180_453 (x := 129) rfl ?_
    refine i_180_454 (xgn (by decide) hv) (Nat.le_of_ble_eq_true rfl) (hbits _ _ (xgn (by omega) (rfl)) (xgn (by omega) (rfl))) ?_
    refine i_180_457 ?_
    refine i_180_458 (c := (B - (1 : Int32))) rfl ?_
    refine i_180_459 (xgn (by decide) hv) (Nat.le_of_ble_eq_true rfl) (hany1 c15 _ _ (xgn (by omega) (rfl)) (xgn (by omega) (rfl))) ?_
    refine i_180_462 (fun h => absurd h (by decide)) (fun _ => ?_)
    refine i_180_465 ?_
    refine i_180_466 ?_
    refine i_180_470 (lv2 := [(15, Value.int 1), (14, Value.int 0), (13, Value.int E), (12, Value.int 1), (11, Value.int 0), (10, Value.int C), (9, Value.int U), (8, Value.int E), (7, Value.int 64), (0, Value.ref 128), (1, Value.int (xs 1)), (2, Value.ref 129), (3, Value.int sc), (4, Value.int 0), (5, Value.int 0), (6, Value.int md)]) rfl ?_
    refine i_180_472 (x := md) rfl ?_
    refine i_180_474 ?_
    refine i_180_475 (fun h => absurd (show md.toInt ≠ 4 by omega) (fun g => g h)) (fun _ => ?_)
    refine i_180_478 (x := md) rfl ?_
    refine i_180_480 ?_
    refine i_180_481 (fun _ => ?_) (fun h => absurd (show md.toInt ≠ 2 by omega) (fun g => g h))
    refine i_180_489 (x := md) rfl ?_
    refine i_180_491 ?_
    refine i_180_492 (fun _ => ?_) (fun h => absurd (show md.toInt ≠ 3 by omega) (fun g => g h))
    refine i_180_500 (x := md) rfl ?_
    refine i_180_502 (fun _ => ?_) (fun h => absurd (show md.toInt ≠ 0 by omega) (fun g => g h))
    refine i_180_514 ?_
    refine i_180_515 (lv2 := [(16, Value.int 0), (15, Value.int 1), (14, Value.int 0), (13, Value.int E), (12, Value.int 1), (11, Value.int 0), (10, Value.int C), (9, Value.int U), (8, Value.int E), (7, Value.int 64), (0, Value.ref 128), (1, Value.int (xs 1)), (2, Value.ref 129), (3, Value.int sc), (4, Value.int 0), (5, Value.int 0), (6, Value.int md)]) rfl ?_
    refine i_180_517 (x := 0) rfl ?_
    refine i_180_519 (fun _ => ?_) (fun h => absurd h (by decide))
    refine i_180_556 (x := 128) rfl ?_
    refine i_180_557 (x := (xs 1)) rfl ?_
    refine i_180_558 ?_
    refine i_180_559 (x := 0) rfl ?_
    refine i_180_561 (xgs hm) (Nat.le_of_ble_eq_true rfl) (s_171_1 (xgs hm) (xgn (by decide) (((hk 154 (by decide) (by decide) (by decide) (by decide) (by decide)).trans W0_154))) (by omega) (by omega) (xgn (by decide) hn)) ?_
    refine i_180_564 rfl ?_
    refine i_180_565 (x := 0) rfl ?_
    refine i_180_567 (fun _ => ?_) (fun h => absurd h (by decide))
    refine i_180_574 ?_
    refine i_180_575 (lv2 := [(14, Value.int (-1)), (16, Value.int 0), (15, Value.int 1), (13, Value.int E), (12, Value.int 1), (11, Value.int 0), (10, Value.int C), (9, Value.int U), (8, Value.int E), (7, Value.int 64), (0, Value.ref 128), (1, Value.int (xs 1)), (2, Value.ref 129), (3, Value.int sc), (4, Value.int 0), (5, Value.int 0), (6, Value.int md)]) rfl ?_
    refine i_180_577 ?_
    refine i_180_591 (x := 128) rfl ?_
    refine i_180_592 (v := Value.int 0) (xgn (by decide) (xgn (by decide) (xgs hm))) rfl ?_
    refine i_180_595 (fun h => absurd h (by decide)) (fun _ => ?_)
    refine i_180_598 (x := 128) rfl ?_
    refine i_180_599 (v := Value.int 0) (xgn (by decide) (xgn (by decide) (xgs hm))) rfl ?_
    refine i_180_602 (fun _ => ?_) (fun h => absurd h (by decide))
    refine i_180_629 (x := (-1)) rfl ?_
    refine i_180_631 (fun h => absurd h (by decide)) (fun _ => ?_)
    refine i_180_634 (x := 128) rfl ?_
    refine i_180_635 rfl ?_
    refine i_180_636 (v := Value.int 4) (xgn (by decide) (xgn (by decide) (xgs hm))) rfl ?_
    refine i_180_639 ?_
    refine i_180_640 (c := 5) (by decide) ?_
    refine i_180_641 (fs2 := [Value.ref 129, Value.ref 131, Value.ref 133, Value.ref 135, Value.ref 137, Value.ref 139, Value.ref 141, Value.ref 143, Value.ref 145, Value.ref 147, Value.ref 149, Value.ref 151, Value.ref 153, Value.ref 154, Value.ref 155, Value.ref 156, Value.ref 157, Value.int (-16384), Value.int 16384, Value.int 5, Value.int 0, Value.int 0, Value.ref 158, Value.ref 159, Value.int 0, Value.int 0, Value.int 0, Value.int 0, Value.int 0, Value.int 0, Value.int 0, Value.int 0]) (xgn (by decide) (xgn (by decide) (xgs hm))) (Nat.le_of_ble_eq_true rfl) rfl (by omega) ?_
    refine i_180_644 (x := 0) rfl ?_
    refine i_180_646 (fun _ => ?_) (fun h => absurd h (by decide))
    refine i_180_655 (x := (-1)) rfl ?_
    exact i_180_657 ⟨rfl, rfl⟩
  · refine xKp.set ?_ (fun h hh => by unfold xPM at hh; omega) (xgn (by decide) (xgn (by decide) (xgs hm))) xcs_o
    refine xKp.set ?_ (fun h hh => by unfold xPM at hh; omega) (xgn (by decide) (xgn (by decide) hn)) xcs_a
    refine xKp.set ?_ (fun h hh => by unfold xPM at hh; omega) (xgn (by decide) (((hk 154 (by decide) (by decide) (by decide) (by decide) (by decide)).trans W0_154))) xcs_a
    refine xKp.set ?_ (fun h hh => by unfold xPM at hh; omega) (hm) xcs_o
    exact xKp.refl
theorem sf0_15 {d : Nat} {xs : Nat → Int32} {m : Int64} {sc md : Int32} {w : xW} {B E U C q0 q1 q2 nn : Int32} {g : Nat → Value} (hk : ∀ h, 131 ≤ h → h < 194 → h ≠ 135 → h ≠ 136 → h ≠ 156 → w[h]? = (W0 6 xs)[h]?) (hm : w[128]? = some (Sum.inr (12, [Value.ref 129, Value.ref 131, Value.ref 133, Value.ref 135, Value.ref 137, Value.ref 139, Value.ref 141, Value.ref 143, Value.ref 145, Value.ref 147, Value.ref 149, Value.ref 151, Value.ref 153, Value.ref 154, Value.ref 155, Value.ref 156, Value.ref 157, Value.int (-16384), Value.int 16384, Value.int 0, Value.int 0, Value.int 0, Value.ref 158, Value.ref 159, Value.int 0, Value.int 0, Value.int 0, Value.int 0, Value.int 0, Value.int 0, Value.int 0, Value.int 0]))) (hv : w[129]? = some (Sum.inr (13, [Value.ref 130, Value.int nn]))) (hq : w[135]? = some (Sum.inr (13, [Value.ref 136, Value.int 3]))) (hqw : w[136]? = some (Sum.inl (0, 4700, g))) (hg0 : g (0 : Int32).toInt.toNat = Value.int q0) (hg1 : g (1 : Int32).toInt.toNat = Value.int q1) (hg2 : g (2 : Int32).toInt.toNat = Value.int q2) (hn : w[156]? = some (Sum.inl (2, 17, xup (fun _ => Value.int 0) (xs 1).toInt.toNat (Value.int 0)))) (hbits : ∀ (d' : Nat) (w' : xW), w'[129]? = w[129]? → w'[130]? = w[130]? → xRun d' 181 [Value.ref 129] w' (.inl (some (Value.int B))) w') (hany0 : xPW m → ∀ (d' : Nat) (w' : xW), w'[129]? = w[129]? → w'[130]? = w[130]? → xRun d' 183 [Value.ref 129, Value.int (B - (1 : Int32))] w' (.inl (some (Value.int 0))) w') (hany1 : ¬ xPW m → ∀ (d' : Nat) (w' : xW), w'[129]? = w[129]? → w'[130]? = w[130]? → xRun d' 183 [Value.ref 129, Value.int (B - (1 : Int32))] w' (.inl (some (Value.int 1))) w') (c0 : 0 ≤ (xs 1).toInt) (c1 : (xs 1).toInt < 16) (c2 : (-40000) ≤ sc.toInt) (c3 : sc.toInt ≤ 40000) (c4 : 0 ≤ md.toInt) (c5 : md.toInt ≤ 4) (c6 : 1 ≤ B.toInt) (c7 : B.toInt ≤ 64) (c8 : E.toInt = B.toInt + sc.toInt) (c9 : U.toInt = E.toInt - 64) (c10 : 0 ≤ q2.toInt) (c11 : (xbn q2).toInt = 4) (c12 : E.toInt ≤ 16384) (c13 : E.toInt < (-16384)) (c14 : E.toInt ≠ (-16385)) (c15 : md.toInt = 4) : ∃ w2, xEv (d + 6) 180 207 [(14, Value.int 0), (13, Value.int E), (12, Value.int 1), (11, Value.int 0), (10, Value.int C), (9, Value.int U), (8, Value.int E), (7, Value.int 64), (0, Value.ref 128), (1, Value.int (xs 1)), (2, Value.ref 129), (3, Value.int sc), (4, Value.int 0), (5, Value.int 0), (6, Value.int md)] [] w (fun o' w' => o' = .inl (some (Value.int 1)) ∧ w' = w2) ∧ xKp w w2 xPM ∧ w2[128]? = some (Sum.inr (12, [Value.ref 129, Value.ref 131, Value.ref 133, Value.ref 135, Value.ref 137, Value.ref 139, Value.ref 141, Value.ref 143, Value.ref 145, Value.ref 147, Value.ref 149, Value.ref 151, Value.ref 153, Value.ref 154, Value.ref 155, Value.ref 156, Value.ref 157, Value.int (-16384), Value.int 16384, Value.int 5, Value.int 0, Value.int 0, Value.ref 158, Value.ref 159, Value.int 0, Value.int 0, Value.int 0, Value.int 0, Value.int 0, Value.int 0, Value.int 0, Value.int 0])) := by
  refine ⟨(((((((((((((((w.set 128 (Sum.inr (12, [Value.ref 129, Value.ref 131, Value.ref 133, Value.ref 135, Value.ref 137, Value.ref 139, Value.ref 141, Value.ref 143, Value.ref 145, Value.ref 147, Value.ref 149, Value.ref 151, Value.ref 153, Value.ref 154, Value.ref 155, Value.ref 156, Value.ref 157, Value.int (-16384), Value.int 16384, Value.int 4, Value.int 0, Value.int 0, Value.ref 158, Value.ref 159, Value.int 0, Value.int 0, Value.int 0, Value.int 0, Value.int 0, Value.int 0, Value.int 0, Value.int 0]))).set 151 (Sum.inr (13, [Value.ref 152, Value.int 0]))).set 152 (Sum.inl (0, 4700, xup (fun _ => Value.int 0) (0 : Int32).toInt.toNat (Value.int 1)))).set 151 (Sum.inr (13, [Value.ref 152, Value.int 1]))).set (160 + 2 * (xs 1).toInt.toNat) (Sum.inr (13, [Value.ref (161 + 2 * (xs 1).toInt.toNat), Value.int 0]))).set 138 (Sum.inl (0, 4700, xcp (xup (fun _ => Value.int 0) (0 : Int32).toInt.toNat (Value.int 1)) (fun _ => Value.int 0) (0 : Int32).toInt.toNat (0 : Int32).toInt.toNat (1 : Int32).toInt.toNat))).set 137 (Sum.inr (13, [Value.ref 138, Value.int 1]))).set 138 (Sum.inl (0, 4700, xup (xup (xup (xup (xup (xcp (xup (fun _ => Value.int 0) (0 : Int32).toInt.toNat (Value.int 1)) (fun _ => Value.int 0) (0 : Int32).toInt.toNat (0 : Int32).toInt.toNat (1 : Int32).toInt.toNat) (3 : Int32).toInt.toNat (Value.int 0)) (3 : Int32).toInt.toNat (Value.int 0)) (2 : Int32).toInt.toNat (Value.int 8)) (0 : Int32).toInt.toNat (Value.int 0)) (1 : Int32).toInt.toNat (Value.int 0)))).set 137 (Sum.inr (13, [Value.ref 138, Value.int 3]))).set (161 + 2 * (xs 1).toInt.toNat) (Sum.inl (0, 140, xcp (xup (xup (xup (xup (xup (xcp (xup (fun _ => Value.int 0) (0 : Int32).toInt.toNat (Value.int 1)) (fun _ => Value.int 0) (0 : Int32).toInt.toNat (0 : Int32).toInt.toNat (1 : Int32).toInt.toNat) (3 : Int32).toInt.toNat (Value.int 0)) (3 : Int32).toInt.toNat (Value.int 0)) (2 : Int32).toInt.toNat (Value.int 8)) (0 : Int32).toInt.toNat (Value.int 0)) (1 : Int32).toInt.toNat (Value.int 0)) (fun _ => Value.int 0) (0 : Int32).toInt.toNat (0 : Int32).toInt.toNat (3 : Int32).toInt.toNat))).set (160 + 2 * (xs 1).toInt.toNat) (Sum.inr (13, [Value.ref (161 + 2 * (xs 1).toInt.toNat), Value.int 3]))).set 154 (Sum.inl (0, 17, xup (fun _ => Value.int 0) (xs 1).toInt.toNat (Value.int 3)))).set 155 (Sum.inl (0, 17, xup (fun _ => Value.int 0) (xs 1).toInt.toNat (Value.int (-16384))))).set 156 (Sum.inl (2, 17, xup (xup (fun _ => Value.int 0) (xs 1).toInt.toNat (Value.int 0)) (xs 1).toInt.toNat (Value.int 0)))).set 128 (Sum.inr (12, [Value.ref 129, Value.ref 131, Value.ref 133, Value.ref 135, Value.ref 137, Value.ref 139, Value.ref 141, Value.ref 143, Value.ref 145, Value.ref 147, Value.ref 149, Value.ref 151, Value.ref 153, Value.ref 154, Value.ref 155, Value.ref 156, Value.ref 157, Value.int (-16384), Value.int 16384, Value.int 5, Value.int 0, Value.int 0, Value.ref 158, Value.ref 159, Value.int 0, Value.int 0, Value.int 0, Value.int 0, Value.int 0, Value.int 0, Value.int 0, Value.int 0]))), ?_, ?_, xgs (xgn (by decide) (xgn (by decide) (xgn (by decide) (xgn (by omega) (xgn (by omega) (xgn (by decide) (xgn (by decide) (xgn (by decide) (xgn (by decide) (xgn (by omega) (xgn (by decide) (xgn (by decide) (xgn (by decide) (xgs hm))))))))))))))⟩
  · refine i_180_207 (x := 128) rfl ?_
    refine i_180_208 (v := Value.int 0) hm rfl ?_
    refine i_180_211 (fun h => absurd h (by decide)) (fun _ => ?_)
    refine i_180_214 (x := 128) rfl ?_
    refine i_180_215 (v := Value.ref 135) hm rfl ?_
    refine i_180_218 (v := Value.int 3) hq rfl ?_
    refine i_180_221 (fun h => absurd h (by decide)) (fun _ => ?_)
    refine i_180_224 (x := E) rfl ?_
    refine i_180_226 (x := 128) rfl ?_
    refine i_180_227 (v := Value.int 16384) hm rfl ?_
    refine i_180_230 (fun _ => ?_) (fun h => absurd (show E.toInt ≤ 16384 by omega) (Int.not_le.mpr h))
    refine i_180_367 (x := 128) rfl ?_
    refine i_180_368 (v := Value.ref 135) hm rfl ?_
    refine i_180_371 (v := Value.int 3) hq rfl ?_
    refine i_180_374 (fun _ => ?_) (fun h => absurd h (by decide))
    refine i_180_392 (x := 128) rfl ?_
    refine i_180_393 (v := Value.int 0) hm rfl ?_
    refine i_180_396 (fun h => absurd h (by decide)) (fun _ => ?_)
    refine i_180_399 (x := 128) rfl ?_
    refine i_180_400 (v := Value.int 0) hm rfl ?_
    refine i_180_403 (fun h => absurd h (by decide)) (fun _ => ?_)
    refine i_180_406 (x := E) rfl ?_
    refine i_180_408 (x := 128) rfl ?_
    refine i_180_409 (v := Value.int (-16384)) hm rfl ?_
    refine i_180_412 (fun h => absurd (show E.toInt < (-16384) by omega) (Int.not_lt.mpr h)) (fun _ => ?_)
    refine i_180_415 (x := 128) rfl ?_
    refine i_180_416 rfl ?_
    refine i_180_417 (v := Value.int 0) hm rfl ?_
    refine i_180_420 ?_
    refine i_180_421 (c := 4) (by decide) ?_
    refine i_180_422 (fs2 := [Value.ref 129, Value.ref 131, Value.ref 133, Value.ref 135, Value.ref 137, Value.ref 139, Value.ref 141, Value.ref 143, Value.ref 145, Value.ref 147, Value.ref 149, Value.ref 151, Value.ref 153, Value.ref 154, Value.ref 155, Value.ref 156, Value.ref 157, Value.int (-16384), Value.int 16384, Value.int 4, Value.int 0, Value.int 0, Value.ref 158, Value.ref 159, Value.int 0, Value.int 0, Value.int 0, Value.int 0, Value.int 0, Value.int 0, Value.int 0, Value.int 0]) hm (Nat.le_of_ble_eq_true rfl) rfl (by omega) ?_
    refine i_180_425 (x := E) rfl ?_
    refine i_180_427 (x := 128) rfl ?_
    refine i_180_428 (v := Value.int (-16384)) (xgs hm) rfl ?_
    refine i_180_431 ?_
    refine i_180_432 (c := (-16385)) (by decide) ?_
    refine i_180_433 (fun h => absurd (show E.toInt ≤ (-16385) by omega) (Int.not_le.mpr h)) (fun _ => ?_)
    refine i_180_436 (x := E) rfl ?_
    refine i_180_438 (x := 128) rfl ?_
    refine i_180_439 (v := Value.int (-16384)) (xgs hm) rfl ?_
    refine i_180_442 ?_
    refine i_180_443 (c := (-16385)) (by decide) ?_
    refine i_180_444 (fun _ => ?_) (fun h => absurd (show E.toInt ≠ (-16385) by omega) (fun g => g h))
    refine i_180_469 ?_
    refine i_180_470 (lv2 := [(15, Value.int 0), (14, Value.int 0), (13, Value.int E), (12, Value.int 1), (11, Value.int 0), (10, Value.int C), (9, Value.int U), (8, Value.int E), (7, Value.int 64), (0, Value.ref 128), (1, Value.int (xs 1)), (2, Value.ref 129), (3, Value.int sc), (4, Value.int 0), (5, Value.int 0), (6, Value.int md)]) rfl ?_
    refine i_180_472 (x := md) rfl ?_
    refine i_180_474 ?_
    refine i_180_475 (fun _ => ?_) (fun h => absurd (show md.toInt = 4 by omega) h)
    refine i_180_510 ?_
    refine i_180_511 ?_
    refine i_180_515 (lv2 := [(16, Value.int 1), (15, Value.int 0), (14, Value.int 0), (13, Value.int E), (12, Value.int 1), (11, Value.int 0), (10, Value.int C), (9, Value.int U), (8, Value.int E), (7, Value.int 64), (0, Value.ref 128), (1, Value.int (xs 1)), (2, Value.ref 129), (3, Value.int sc), (4, Value.int 0), (5, Value.int 0), (6, Value.int md)]) rfl ?_
    refine i_180_517 (x := 1) rfl ?_
    refine i_180_519 (fun h => absurd h (by decide)) (fun _ => ?_)
    refine i_180_522 (x := 128) rfl ?_
    refine i_180_523 (v := Value.ref 151) (xgs hm) rfl ?_
    refine i_180_526 ?_
    refine i_180_527 (xgn (by decide) (((hk 151 (by decide) (by decide) (by decide) (by decide) (by decide)).trans W0_151))) (Nat.le_of_ble_eq_true rfl) (s_179_2 (xgn (by decide) (((hk 151 (by decide) (by decide) (by decide) (by decide) (by decide)).trans W0_151))) (xgn (by decide) (((hk 152 (by decide) (by decide) (by decide) (by decide) (by decide)).trans W0_152)))) ?_
    refine i_180_530 (x := 128) rfl ?_
    refine i_180_531 (x := (xs 1)) rfl ?_
    refine i_180_532 (x := 128) rfl ?_
    refine i_180_533 (v := Value.ref 151) (xgn (by decide) (xgn (by decide) (xgn (by decide) (xgs hm)))) rfl ?_
    refine i_180_536 (x := 128) rfl ?_
    refine i_180_537 (v := Value.int (-16384)) (xgn (by decide) (xgn (by decide) (xgn (by decide) (xgs hm)))) rfl ?_
    refine i_180_540 ?_
    refine i_180_541 (c := (-16385)) (by decide) ?_
    refine i_180_542 (xgn (by decide) (xgn (by decide) (xgn (by decide) (xgs hm)))) (Nat.le_of_ble_eq_true rfl) (s_192_1 (xgn (by decide) (xgn (by decide) (xgn (by decide) (xgs hm)))) (xgn (by decide) (xgn (by decide) (xgn (by decide) (xgn (by decide) (((hk 153 (by decide) (by decide) (by decide) (by decide) (by decide)).trans W0_153)))))) (by omega) (by omega) (gprec_at (by omega)) (xgs (xgn (by decide) (xgs (xgn (by decide) (((hk 151 (by decide) (by decide) (by decide) (by decide) (by decide)).trans W0_151)))))) (xgn (by decide) (xgs (xgn (by decide) (xgn (by decide) (((hk 152 (by decide) (by decide) (by decide) (by decide) (by decide)).trans W0_152)))))) xup_s (xgn (by decide) (xgn (by decide) (xgn (by decide) (xgn (by decide) (((hk 157 (by decide) (by decide) (by decide) (by decide) (by decide)).trans W0_157)))))) (gpart_at (by omega)) (xgn (by omega) (xgn (by omega) (xgn (by omega) (xgn (by omega) (((hk _ (by omega) (by omega) (by omega) (by omega) (by omega)).trans (W0_part (by omega)))))))) (by omega) (by omega) (by omega) (xgn (by decide) (xgn (by decide) (xgn (by decide) (xgn (by decide) (((hk 137 (by decide) (by decide) (by decide) (by decide) (by decide)).trans W0_137)))))) (by omega) (by omega) (by omega) (xgn (by decide) (xgn (by decide) (xgn (by decide) (xgn (by decide) (((hk 138 (by decide) (by decide) (by decide) (by decide) (by decide)).trans W0_138)))))) (by omega) (by omega) (by omega) (by omega) (by omega) (by omega) (xgn (by omega) (xgn (by omega) (xgn (by omega) (xgn (by omega) (((hk _ (by omega) (by omega) (by omega) (by omega) (by omega)).trans (W0_pw (by omega)))))))) (by omega) (by omega) (by omega) (by omega) (by omega) (by omega) (xgn (by decide) (xgn (by decide) (xgn (by decide) (xgn (by decide) (((hk 154 (by decide) (by decide) (by decide) (by decide) (by decide)).trans W0_154)))))) (by omega) (by omega) (xgn (by decide) (xgn (by decide) (xgn (by decide) (xgn (by decide) (((hk 155 (by decide) (by decide) (by decide) (by decide) (by decide)).trans W0_155))))))) ?_
    refine i_180_545 (x := 128) rfl ?_
    refine i_180_546 (v := Value.ref 156) (xgn (by decide) (xgn (by decide) (xgn (by omega) (xgn (by omega) (xgn (by decide) (xgn (by decide) (xgn (by decide) (xgn (by decide) (xgn (by omega) (xgn (by decide) (xgn (by decide) (xgn (by decide) (xgs hm))))))))))))) rfl ?_
    refine i_180_549 (x := (xs 1)) rfl ?_
    refine i_180_550 (x := 0) rfl ?_
    refine i_180_552z (v := Value.int 0) (xgn (by decide) (xgn (by decide) (xgn (by omega) (xgn (by omega) (xgn (by decide) (xgn (by decide) (xgn (by decide) (xgn (by decide) (xgn (by omega) (xgn (by decide) (xgn (by decide) (xgn (by decide) (xgn (by decide) hn))))))))))))) (by omega) (by omega) (by omega) rfl ?_
    refine i_180_553 ?_
    refine i_180_565 (x := 1) rfl ?_
    refine i_180_567 (fun h => absurd h (by decide)) (fun _ => ?_)
    refine i_180_570 ?_
    refine i_180_571 ?_
    refine i_180_575 (lv2 := [(14, Value.int 1), (16, Value.int 1), (15, Value.int 0), (13, Value.int E), (12, Value.int 1), (11, Value.int 0), (10, Value.int C), (9, Value.int U), (8, Value.int E), (7, Value.int 64), (0, Value.ref 128), (1, Value.int (xs 1)), (2, Value.ref 129), (3, Value.int sc), (4, Value.int 0), (5, Value.int 0), (6, Value.int md)]) rfl ?_
    refine i_180_577 ?_
    refine i_180_591 (x := 128) rfl ?_
    refine i_180_592 (v := Value.int 0) (xgn (by decide) (xgn (by decide) (xgn (by decide) (xgn (by omega) (xgn (by omega) (xgn (by decide) (xgn (by decide) (xgn (by decide) (xgn (by decide) (xgn (by omega) (xgn (by decide) (xgn (by decide) (xgn (by decide) (xgs hm)))))))))))))) rfl ?_
    refine i_180_595 (fun h => absurd h (by decide)) (fun _ => ?_)
    refine i_180_598 (x := 128) rfl ?_
    refine i_180_599 (v := Value.int 0) (xgn (by decide) (xgn (by decide) (xgn (by decide) (xgn (by omega) (xgn (by omega) (xgn (by decide) (xgn (by decide) (xgn (by decide) (xgn (by decide) (xgn (by omega) (xgn (by decide) (xgn (by decide) (xgn (by decide) (xgs hm)))))))))))))) rfl ?_
    refine i_180_602 (fun _ => ?_) (fun h => absurd h (by decide))
    refine i_180_629 (x := 1) rfl ?_
    refine i_180_631 (fun h => absurd h (by decide)) (fun _ => ?_)
    refine i_180_634 (x := 128) rfl ?_
    refine i_180_635 rfl ?_
    refine i_180_636 (v := Value.int 4) (xgn (by decide) (xgn (by decide) (xgn (by decide) (xgn (by omega) (xgn (by omega) (xgn (by decide) (xgn (by decide) (xgn (by decide) (xgn (by decide) (xgn (by omega) (xgn (by decide) (xgn (by decide) (xgn (by decide) (xgs hm)))))))))))))) rfl ?_
    refine i_180_639 ?_
    refine i_180_640 (c := 5) (by decide) ?_
    refine i_180_641 (fs2 := [Value.ref 129, Value.ref 131, Value.ref 133, Value.ref 135, Value.ref 137, Value.ref 139, Value.ref 141, Value.ref 143, Value.ref 145, Value.ref 147, Value.ref 149, Value.ref 151, Value.ref 153, Value.ref 154, Value.ref 155, Value.ref 156, Value.ref 157, Value.int (-16384), Value.int 16384, Value.int 5, Value.int 0, Value.int 0, Value.ref 158, Value.ref 159, Value.int 0, Value.int 0, Value.int 0, Value.int 0, Value.int 0, Value.int 0, Value.int 0, Value.int 0]) (xgn (by decide) (xgn (by decide) (xgn (by decide) (xgn (by omega) (xgn (by omega) (xgn (by decide) (xgn (by decide) (xgn (by decide) (xgn (by decide) (xgn (by omega) (xgn (by decide) (xgn (by decide) (xgn (by decide) (xgs hm)))))))))))))) (Nat.le_of_ble_eq_true rfl) rfl (by omega) ?_
    refine i_180_644 (x := 0) rfl ?_
    refine i_180_646 (fun _ => ?_) (fun h => absurd h (by decide))
    refine i_180_655 (x := 1) rfl ?_
    exact i_180_657 ⟨rfl, rfl⟩
  · refine xKp.set ?_ (fun h hh => by unfold xPM at hh; omega) (xgn (by decide) (xgn (by decide) (xgn (by decide) (xgn (by omega) (xgn (by omega) (xgn (by decide) (xgn (by decide) (xgn (by decide) (xgn (by decide) (xgn (by omega) (xgn (by decide) (xgn (by decide) (xgn (by decide) (xgs hm)))))))))))))) xcs_o
    refine xKp.set ?_ (fun h hh => by unfold xPM at hh; omega) (xgn (by decide) (xgn (by decide) (xgn (by omega) (xgn (by omega) (xgn (by decide) (xgn (by decide) (xgn (by decide) (xgn (by decide) (xgn (by omega) (xgn (by decide) (xgn (by decide) (xgn (by decide) (xgn (by decide) hn))))))))))))) xcs_a
    refine xKp.set ?_ (fun h hh => by unfold xPM at hh; omega) (xgn (by decide) (xgn (by omega) (xgn (by omega) (xgn (by decide) (xgn (by decide) (xgn (by decide) (xgn (by decide) (xgn (by omega) (xgn (by decide) (xgn (by decide) (xgn (by decide) (xgn (by decide) (((hk 155 (by decide) (by decide) (by decide) (by decide) (by decide)).trans W0_155)))))))))))))) xcs_a
    refine xKp.set ?_ (fun h hh => by unfold xPM at hh; omega) (xgn (by omega) (xgn (by omega) (xgn (by decide) (xgn (by decide) (xgn (by decide) (xgn (by decide) (xgn (by omega) (xgn (by decide) (xgn (by decide) (xgn (by decide) (xgn (by decide) (((hk 154 (by decide) (by decide) (by decide) (by decide) (by decide)).trans W0_154))))))))))))) xcs_a
    refine xKp.set ?_ (fun h hh => by unfold xPM at hh; omega) (xgn (by omega) (xgn (by omega) (xgn (by omega) (xgn (by omega) (xgn (by omega) (xgs (xgn (by omega) (xgn (by omega) (xgn (by omega) (xgn (by omega) (((hk _ (by omega) (by omega) (by omega) (by omega) (by omega)).trans (W0_part (by omega)))))))))))))) xcs_o
    refine xKp.set ?_ (fun h hh => by unfold xPM at hh; omega) (xgn (by omega) (xgn (by omega) (xgn (by omega) (xgn (by omega) (xgn (by omega) (xgn (by omega) (xgn (by omega) (xgn (by omega) (xgn (by omega) (((hk _ (by omega) (by omega) (by omega) (by omega) (by omega)).trans (W0_pw (by omega))))))))))))) xcs_a
    refine xKp.set ?_ (fun h hh => by unfold xPM at hh; omega) (xgn (by decide) (xgs (xgn (by decide) (xgn (by omega) (xgn (by decide) (xgn (by decide) (xgn (by decide) (xgn (by decide) (((hk 137 (by decide) (by decide) (by decide) (by decide) (by decide)).trans W0_137)))))))))) xcs_o
    refine xKp.set ?_ (fun h hh => by unfold xPM at hh; omega) (xgn (by decide) (xgs (xgn (by omega) (xgn (by decide) (xgn (by decide) (xgn (by decide) (xgn (by decide) (((hk 138 (by decide) (by decide) (by decide) (by decide) (by decide)).trans W0_138))))))))) xcs_a
    refine xKp.set ?_ (fun h hh => by unfold xPM at hh; omega) (xgn (by decide) (xgn (by omega) (xgn (by decide) (xgn (by decide) (xgn (by decide) (xgn (by decide) (((hk 137 (by decide) (by decide) (by decide) (by decide) (by decide)).trans W0_137)))))))) xcs_o
    refine xKp.set ?_ (fun h hh => by unfold xPM at hh; omega) (xgn (by omega) (xgn (by decide) (xgn (by decide) (xgn (by decide) (xgn (by decide) (((hk 138 (by decide) (by decide) (by decide) (by decide) (by decide)).trans W0_138))))))) xcs_a
    refine xKp.set ?_ (fun h hh => by unfold xPM at hh; omega) (xgn (by omega) (xgn (by omega) (xgn (by omega) (xgn (by omega) (((hk _ (by omega) (by omega) (by omega) (by omega) (by omega)).trans (W0_part (by omega)))))))) xcs_o
    refine xKp.set ?_ (fun h hh => by unfold xPM at hh; omega) (xgn (by decide) (xgs (xgn (by decide) (((hk 151 (by decide) (by decide) (by decide) (by decide) (by decide)).trans W0_151))))) xcs_o
    refine xKp.set ?_ (fun h hh => by unfold xPM at hh; omega) (xgn (by decide) (xgn (by decide) (((hk 152 (by decide) (by decide) (by decide) (by decide) (by decide)).trans W0_152)))) xcs_a
    refine xKp.set ?_ (fun h hh => by unfold xPM at hh; omega) (xgn (by decide) (((hk 151 (by decide) (by decide) (by decide) (by decide) (by decide)).trans W0_151))) xcs_o
    refine xKp.set ?_ (fun h hh => by unfold xPM at hh; omega) (hm) xcs_o
    exact xKp.refl
theorem sf0_16 {d : Nat} {xs : Nat → Int32} {m : Int64} {sc md : Int32} {w : xW} {B E U C q0 q1 q2 nn : Int32} {g : Nat → Value} (hk : ∀ h, 131 ≤ h → h < 194 → h ≠ 135 → h ≠ 136 → h ≠ 156 → w[h]? = (W0 6 xs)[h]?) (hm : w[128]? = some (Sum.inr (12, [Value.ref 129, Value.ref 131, Value.ref 133, Value.ref 135, Value.ref 137, Value.ref 139, Value.ref 141, Value.ref 143, Value.ref 145, Value.ref 147, Value.ref 149, Value.ref 151, Value.ref 153, Value.ref 154, Value.ref 155, Value.ref 156, Value.ref 157, Value.int (-16384), Value.int 16384, Value.int 0, Value.int 0, Value.int 0, Value.ref 158, Value.ref 159, Value.int 0, Value.int 0, Value.int 0, Value.int 0, Value.int 0, Value.int 0, Value.int 0, Value.int 0]))) (hv : w[129]? = some (Sum.inr (13, [Value.ref 130, Value.int nn]))) (hq : w[135]? = some (Sum.inr (13, [Value.ref 136, Value.int 3]))) (hqw : w[136]? = some (Sum.inl (0, 4700, g))) (hg0 : g (0 : Int32).toInt.toNat = Value.int q0) (hg1 : g (1 : Int32).toInt.toNat = Value.int q1) (hg2 : g (2 : Int32).toInt.toNat = Value.int q2) (hn : w[156]? = some (Sum.inl (2, 17, xup (fun _ => Value.int 0) (xs 1).toInt.toNat (Value.int 0)))) (hbits : ∀ (d' : Nat) (w' : xW), w'[129]? = w[129]? → w'[130]? = w[130]? → xRun d' 181 [Value.ref 129] w' (.inl (some (Value.int B))) w') (hany0 : xPW m → ∀ (d' : Nat) (w' : xW), w'[129]? = w[129]? → w'[130]? = w[130]? → xRun d' 183 [Value.ref 129, Value.int (B - (1 : Int32))] w' (.inl (some (Value.int 0))) w') (hany1 : ¬ xPW m → ∀ (d' : Nat) (w' : xW), w'[129]? = w[129]? → w'[130]? = w[130]? → xRun d' 183 [Value.ref 129, Value.int (B - (1 : Int32))] w' (.inl (some (Value.int 1))) w') (c0 : 0 ≤ (xs 1).toInt) (c1 : (xs 1).toInt < 16) (c2 : (-40000) ≤ sc.toInt) (c3 : sc.toInt ≤ 40000) (c4 : 0 ≤ md.toInt) (c5 : md.toInt ≤ 4) (c6 : 1 ≤ B.toInt) (c7 : B.toInt ≤ 64) (c8 : E.toInt = B.toInt + sc.toInt) (c9 : U.toInt = E.toInt - 64) (c10 : 0 ≤ q2.toInt) (c11 : (xbn q2).toInt = 4) (c12 : E.toInt ≤ 16384) (c13 : E.toInt < (-16384)) (c14 : E.toInt ≠ (-16385)) (c15 : md.toInt ≠ 4) (c16 : md.toInt = 2) : ∃ w2, xEv (d + 6) 180 207 [(14, Value.int 0), (13, Value.int E), (12, Value.int 1), (11, Value.int 0), (10, Value.int C), (9, Value.int U), (8, Value.int E), (7, Value.int 64), (0, Value.ref 128), (1, Value.int (xs 1)), (2, Value.ref 129), (3, Value.int sc), (4, Value.int 0), (5, Value.int 0), (6, Value.int md)] [] w (fun o' w' => o' = .inl (some (Value.int 1)) ∧ w' = w2) ∧ xKp w w2 xPM ∧ w2[128]? = some (Sum.inr (12, [Value.ref 129, Value.ref 131, Value.ref 133, Value.ref 135, Value.ref 137, Value.ref 139, Value.ref 141, Value.ref 143, Value.ref 145, Value.ref 147, Value.ref 149, Value.ref 151, Value.ref 153, Value.ref 154, Value.ref 155, Value.ref 156, Value.ref 157, Value.int (-16384), Value.int 16384, Value.int 5, Value.int 0, Value.int 0, Value.ref 158, Value.ref 159, Value.int 0, Value.int 0, Value.int 0, Value.int 0, Value.int 0, Value.int 0, Value.int 0, Value.int 0])) := by
  refine ⟨(((((((((((((((w.set 128 (Sum.inr (12, [Value.ref 129, Value.ref 131, Value.ref 133, Value.ref 135, Value.ref 137, Value.ref 139, Value.ref 141, Value.ref 143, Value.ref 145, Value.ref 147, Value.ref 149, Value.ref 151, Value.ref 153, Value.ref 154, Value.ref 155, Value.ref 156, Value.ref 157, Value.int (-16384), Value.int 16384, Value.int 4, Value.int 0, Value.int 0, Value.ref 158, Value.ref 159, Value.int 0, Value.int 0, Value.int 0, Value.int 0, Value.int 0, Value.int 0, Value.int 0, Value.int 0]))).set 151 (Sum.inr (13, [Value.ref 152, Value.int 0]))).set 152 (Sum.inl (0, 4700, xup (fun _ => Value.int 0) (0 : Int32).toInt.toNat (Value.int 1)))).set 151 (Sum.inr (13, [Value.ref 152, Value.int 1]))).set (160 + 2 * (xs 1).toInt.toNat) (Sum.inr (13, [Value.ref (161 + 2 * (xs 1).toInt.toNat), Value.int 0]))).set 138 (Sum.inl (0, 4700, xcp (xup (fun _ => Value.int 0) (0 : Int32).toInt.toNat (Value.int 1)) (fun _ => Value.int 0) (0 : Int32).toInt.toNat (0 : Int32).toInt.toNat (1 : Int32).toInt.toNat))).set 137 (Sum.inr (13, [Value.ref 138, Value.int 1]))).set 138 (Sum.inl (0, 4700, xup (xup (xup (xup (xup (xcp (xup (fun _ => Value.int 0) (0 : Int32).toInt.toNat (Value.int 1)) (fun _ => Value.int 0) (0 : Int32).toInt.toNat (0 : Int32).toInt.toNat (1 : Int32).toInt.toNat) (3 : Int32).toInt.toNat (Value.int 0)) (3 : Int32).toInt.toNat (Value.int 0)) (2 : Int32).toInt.toNat (Value.int 8)) (0 : Int32).toInt.toNat (Value.int 0)) (1 : Int32).toInt.toNat (Value.int 0)))).set 137 (Sum.inr (13, [Value.ref 138, Value.int 3]))).set (161 + 2 * (xs 1).toInt.toNat) (Sum.inl (0, 140, xcp (xup (xup (xup (xup (xup (xcp (xup (fun _ => Value.int 0) (0 : Int32).toInt.toNat (Value.int 1)) (fun _ => Value.int 0) (0 : Int32).toInt.toNat (0 : Int32).toInt.toNat (1 : Int32).toInt.toNat) (3 : Int32).toInt.toNat (Value.int 0)) (3 : Int32).toInt.toNat (Value.int 0)) (2 : Int32).toInt.toNat (Value.int 8)) (0 : Int32).toInt.toNat (Value.int 0)) (1 : Int32).toInt.toNat (Value.int 0)) (fun _ => Value.int 0) (0 : Int32).toInt.toNat (0 : Int32).toInt.toNat (3 : Int32).toInt.toNat))).set (160 + 2 * (xs 1).toInt.toNat) (Sum.inr (13, [Value.ref (161 + 2 * (xs 1).toInt.toNat), Value.int 3]))).set 154 (Sum.inl (0, 17, xup (fun _ => Value.int 0) (xs 1).toInt.toNat (Value.int 3)))).set 155 (Sum.inl (0, 17, xup (fun _ => Value.int 0) (xs 1).toInt.toNat (Value.int (-16384))))).set 156 (Sum.inl (2, 17, xup (xup (fun _ => Value.int 0) (xs 1).toInt.toNat (Value.int 0)) (xs 1).toInt.toNat (Value.int 0)))).set 128 (Sum.inr (12, [Value.ref 129, Value.ref 131, Value.ref 133, Value.ref 135, Value.ref 137, Value.ref 139, Value.ref 141, Value.ref 143, Value.ref 145, Value.ref 147, Value.ref 149, Value.ref 151, Value.ref 153, Value.ref 154, Value.ref 155, Value.ref 156, Value.ref 157, Value.int (-16384), Value.int 16384, Value.int 5, Value.int 0, Value.int 0, Value.ref 158, Value.ref 159, Value.int 0, Value.int 0, Value.int 0, Value.int 0, Value.int 0, Value.int 0, Value.int 0, Value.int 0]))), ?_, ?_, xgs (xgn (by decide) (xgn (by decide) (xgn (by decide) (xgn (by omega) (xgn (by omega) (xgn (by decide) (xgn (by decide) (xgn (by decide) (xgn (by decide) (xgn (by omega) (xgn (by decide) (xgn (by decide) (xgn (by decide) (xgs hm))))))))))))))⟩
  · refine i_180_207 (x := 128) rfl ?_
    refine i_180_208 (v := Value.int 0) hm rfl ?_
    refine i_180_211 (fun h => absurd h (by decide)) (fun _ => ?_)
    refine i_180_214 (x := 128) rfl ?_
    refine i_180_215 (v := Value.ref 135) hm rfl ?_
    refine i_180_218 (v := Value.int 3) hq rfl ?_
    refine i_180_221 (fun h => absurd h (by decide)) (fun _ => ?_)
    refine i_180_224 (x := E) rfl ?_
    refine i_180_226 (x := 128) rfl ?_
    refine i_180_227 (v := Value.int 16384) hm rfl ?_
    refine i_180_230 (fun _ => ?_) (fun h => absurd (show E.toInt ≤ 16384 by omega) (Int.not_le.mpr h))
    refine i_180_367 (x := 128) rfl ?_
    refine i_180_368 (v := Value.ref 135) hm rfl ?_
    refine i_180_371 (v := Value.int 3) hq rfl ?_
    refine i_180_374 (fun _ => ?_) (fun h => absurd h (by decide))
    refine i_180_392 (x := 128) rfl ?_
    refine i_180_393 (v := Value.int 0) hm rfl ?_
    refine i_180_396 (fun h => absurd h (by decide)) (fun _ => ?_)
    refine i_180_399 (x := 128) rfl ?_
    refine i_180_400 (v := Value.int 0) hm rfl ?_
    refine i_180_403 (fun h => absurd h (by decide)) (fun _ => ?_)
    refine i_180_406 (x := E) rfl ?_
    refine i_180_408 (x := 128) rfl ?_
    refine i_180_409 (v := Value.int (-16384)) hm rfl ?_
    refine i_180_412 (fun h => absurd (show E.toInt < (-16384) by omega) (Int.not_lt.mpr h)) (fun _ => ?_)
    refine i_180_415 (x := 128) rfl ?_
    refine i_180_416 rfl ?_
    refine i_180_417 (v := Value.int 0) hm rfl ?_
    refine i_180_420 ?_
    refine i_180_421 (c := 4) (by decide) ?_
    refine i_180_422 (fs2 := [Value.ref 129, Value.ref 131, Value.ref 133, Value.ref 135, Value.ref 137, Value.ref 139, Value.ref 141, Value.ref 143, Value.ref 145, Value.ref 147, Value.ref 149, Value.ref 151, Value.ref 153, Value.ref 154, Value.ref 155, Value.ref 156, Value.ref 157, Value.int (-16384), Value.int 16384, Value.int 4, Value.int 0, Value.int 0, Value.ref 158, Value.ref 159, Value.int 0, Value.int 0, Value.int 0, Value.int 0, Value.int 0, Value.int 0, Value.int 0, Value.int 0]) hm (Nat.le_of_ble_eq_true rfl) rfl (by omega) ?_
    refine i_180_425 (x := E) rfl ?_
    refine i_180_427 (x := 128) rfl ?_
    refine i_180_428 (v := Value.int (-16384)) (xgs hm) rfl ?_
    refine i_180_431 ?_
    refine i_180_432 (c := (-16385)) (by decide) ?_
    refine i_180_433 (fun h => absurd (show E.toInt ≤ (-16385) by omega) (Int.not_le.mpr h)) (fun _ => ?_)
    refine i_180_436 (x := E) rfl ?_
    refine i_180_438 (x := 128) rfl ?_
    refine i_180_439 (v := Value.int (-16384)) (xgs hm) rfl ?_
    refine i_180_442 ?_
    refine i_180_443 (c := (-16385)) (by decide) ?_
    refine i_180_444 (fun _ => ?_) (fun h => absurd (show E.toInt ≠ (-16385) by omega) (fun g => g h))
    refine i_180_469 ?_
    refine i_180_470 (lv2 := [(15, Value.int 0), (14, Value.int 0), (13, Value.int E), (12, Value.int 1), (11, Value.int 0), (10, Value.int C), (9, Value.int U), (8, Value.int E), (7, Value.int 64), (0, Value.ref 128), (1, Value.int (xs 1)), (2, Value.ref 129), (3, Value.int sc), (4, Value.int 0), (5, Value.int 0), (6, Value.int md)]) rfl ?_
    refine i_180_472 (x := md) rfl ?_
    refine i_180_474 ?_
    refine i_180_475 (fun h => absurd (show md.toInt ≠ 4 by omega) (fun g => g h)) (fun _ => ?_)
    refine i_180_478 (x := md) rfl ?_
    refine i_180_480 ?_
    refine i_180_481 (fun h => absurd (show md.toInt = 2 by omega) h) (fun _ => ?_)
    refine i_180_484 (x := 0) rfl ?_
    refine i_180_486 (fun _ => ?_) (fun h => absurd h (by decide))
    refine i_180_510 ?_
    refine i_180_511 ?_
    refine i_180_515 (lv2 := [(16, Value.int 1), (15, Value.int 0), (14, Value.int 0), (13, Value.int E), (12, Value.int 1), (11, Value.int 0), (10, Value.int C), (9, Value.int U), (8, Value.int E), (7, Value.int 64), (0, Value.ref 128), (1, Value.int (xs 1)), (2, Value.ref 129), (3, Value.int sc), (4, Value.int 0), (5, Value.int 0), (6, Value.int md)]) rfl ?_
    refine i_180_517 (x := 1) rfl ?_
    refine i_180_519 (fun h => absurd h (by decide)) (fun _ => ?_)
    refine i_180_522 (x := 128) rfl ?_
    refine i_180_523 (v := Value.ref 151) (xgs hm) rfl ?_
    refine i_180_526 ?_
    refine i_180_527 (xgn (by decide) (((hk 151 (by decide) (by decide) (by decide) (by decide) (by decide)).trans W0_151))) (Nat.le_of_ble_eq_true rfl) (s_179_2 (xgn (by decide) (((hk 151 (by decide) (by decide) (by decide) (by decide) (by decide)).trans W0_151))) (xgn (by decide) (((hk 152 (by decide) (by decide) (by decide) (by decide) (by decide)).trans W0_152)))) ?_
    refine i_180_530 (x := 128) rfl ?_
    refine i_180_531 (x := (xs 1)) rfl ?_
    refine i_180_532 (x := 128) rfl ?_
    refine i_180_533 (v := Value.ref 151) (xgn (by decide) (xgn (by decide) (xgn (by decide) (xgs hm)))) rfl ?_
    refine i_180_536 (x := 128) rfl ?_
    refine i_180_537 (v := Value.int (-16384)) (xgn (by decide) (xgn (by decide) (xgn (by decide) (xgs hm)))) rfl ?_
    refine i_180_540 ?_
    refine i_180_541 (c := (-16385)) (by decide) ?_
    refine i_180_542 (xgn (by decide) (xgn (by decide) (xgn (by decide) (xgs hm)))) (Nat.le_of_ble_eq_true rfl) (s_192_1 (xgn (by decide) (xgn (by decide) (xgn (by decide) (xgs hm)))) (xgn (by decide) (xgn (by decide) (xgn (by decide) (xgn (by decide) (((hk 153 (by decide) (by decide) (by decide) (by decide) (by decide)).trans W0_153)))))) (by omega) (by omega) (gprec_at (by omega)) (xgs (xgn (by decide) (xgs (xgn (by decide) (((hk 151 (by decide) (by decide) (by decide) (by decide) (by decide)).trans W0_151)))))) (xgn (by decide) (xgs (xgn (by decide) (xgn (by decide) (((hk 152 (by decide) (by decide) (by decide) (by decide) (by decide)).trans W0_152)))))) xup_s (xgn (by decide) (xgn (by decide) (xgn (by decide) (xgn (by decide) (((hk 157 (by decide) (by decide) (by decide) (by decide) (by decide)).trans W0_157)))))) (gpart_at (by omega)) (xgn (by omega) (xgn (by omega) (xgn (by omega) (xgn (by omega) (((hk _ (by omega) (by omega) (by omega) (by omega) (by omega)).trans (W0_part (by omega)))))))) (by omega) (by omega) (by omega) (xgn (by decide) (xgn (by decide) (xgn (by decide) (xgn (by decide) (((hk 137 (by decide) (by decide) (by decide) (by decide) (by decide)).trans W0_137)))))) (by omega) (by omega) (by omega) (xgn (by decide) (xgn (by decide) (xgn (by decide) (xgn (by decide) (((hk 138 (by decide) (by decide) (by decide) (by decide) (by decide)).trans W0_138)))))) (by omega) (by omega) (by omega) (by omega) (by omega) (by omega) (xgn (by omega) (xgn (by omega) (xgn (by omega) (xgn (by omega) (((hk _ (by omega) (by omega) (by omega) (by omega) (by omega)).trans (W0_pw (by omega)))))))) (by omega) (by omega) (by omega) (by omega) (by omega) (by omega) (xgn (by decide) (xgn (by decide) (xgn (by decide) (xgn (by decide) (((hk 154 (by decide) (by decide) (by decide) (by decide) (by decide)).trans W0_154)))))) (by omega) (by omega) (xgn (by decide) (xgn (by decide) (xgn (by decide) (xgn (by decide) (((hk 155 (by decide) (by decide) (by decide) (by decide) (by decide)).trans W0_155))))))) ?_
    refine i_180_545 (x := 128) rfl ?_
    refine i_180_546 (v := Value.ref 156) (xgn (by decide) (xgn (by decide) (xgn (by omega) (xgn (by omega) (xgn (by decide) (xgn (by decide) (xgn (by decide) (xgn (by decide) (xgn (by omega) (xgn (by decide) (xgn (by decide) (xgn (by decide) (xgs hm))))))))))))) rfl ?_
    refine i_180_549 (x := (xs 1)) rfl ?_
    refine i_180_550 (x := 0) rfl ?_
    refine i_180_552z (v := Value.int 0) (xgn (by decide) (xgn (by decide) (xgn (by omega) (xgn (by omega) (xgn (by decide) (xgn (by decide) (xgn (by decide) (xgn (by decide) (xgn (by omega) (xgn (by decide) (xgn (by decide) (xgn (by decide) (xgn (by decide) hn))))))))))))) (by omega) (by omega) (by omega) rfl ?_
    refine i_180_553 ?_
    refine i_180_565 (x := 1) rfl ?_
    refine i_180_567 (fun h => absurd h (by decide)) (fun _ => ?_)
    refine i_180_570 ?_
    refine i_180_571 ?_
    refine i_180_575 (lv2 := [(14, Value.int 1), (16, Value.int 1), (15, Value.int 0), (13, Value.int E), (12, Value.int 1), (11, Value.int 0), (10, Value.int C), (9, Value.int U), (8, Value.int E), (7, Value.int 64), (0, Value.ref 128), (1, Value.int (xs 1)), (2, Value.ref 129), (3, Value.int sc), (4, Value.int 0), (5, Value.int 0), (6, Value.int md)]) rfl ?_
    refine i_180_577 ?_
    refine i_180_591 (x := 128) rfl ?_
    refine i_180_592 (v := Value.int 0) (xgn (by decide) (xgn (by decide) (xgn (by decide) (xgn (by omega) (xgn (by omega) (xgn (by decide) (xgn (by decide) (xgn (by decide) (xgn (by decide) (xgn (by omega) (xgn (by decide) (xgn (by decide) (xgn (by decide) (xgs hm)))))))))))))) rfl ?_
    refine i_180_595 (fun h => absurd h (by decide)) (fun _ => ?_)
    refine i_180_598 (x := 128) rfl ?_
    refine i_180_599 (v := Value.int 0) (xgn (by decide) (xgn (by decide) (xgn (by decide) (xgn (by omega) (xgn (by omega) (xgn (by decide) (xgn (by decide) (xgn (by decide) (xgn (by decide) (xgn (by omega) (xgn (by decide) (xgn (by decide) (xgn (by decide) (xgs hm)))))))))))))) rfl ?_
    refine i_180_602 (fun _ => ?_) (fun h => absurd h (by decide))
    refine i_180_629 (x := 1) rfl ?_
    refine i_180_631 (fun h => absurd h (by decide)) (fun _ => ?_)
    refine i_180_634 (x := 128) rfl ?_
    refine i_180_635 rfl ?_
    refine i_180_636 (v := Value.int 4) (xgn (by decide) (xgn (by decide) (xgn (by decide) (xgn (by omega) (xgn (by omega) (xgn (by decide) (xgn (by decide) (xgn (by decide) (xgn (by decide) (xgn (by omega) (xgn (by decide) (xgn (by decide) (xgn (by decide) (xgs hm)))))))))))))) rfl ?_
    refine i_180_639 ?_
    refine i_180_640 (c := 5) (by decide) ?_
    refine i_180_641 (fs2 := [Value.ref 129, Value.ref 131, Value.ref 133, Value.ref 135, Value.ref 137, Value.ref 139, Value.ref 141, Value.ref 143, Value.ref 145, Value.ref 147, Value.ref 149, Value.ref 151, Value.ref 153, Value.ref 154, Value.ref 155, Value.ref 156, Value.ref 157, Value.int (-16384), Value.int 16384, Value.int 5, Value.int 0, Value.int 0, Value.ref 158, Value.ref 159, Value.int 0, Value.int 0, Value.int 0, Value.int 0, Value.int 0, Value.int 0, Value.int 0, Value.int 0]) (xgn (by decide) (xgn (by decide) (xgn (by decide) (xgn (by omega) (xgn (by omega) (xgn (by decide) (xgn (by decide) (xgn (by decide) (xgn (by decide) (xgn (by omega) (xgn (by decide) (xgn (by decide) (xgn (by decide) (xgs hm)))))))))))))) (Nat.le_of_ble_eq_true rfl) rfl (by omega) ?_
    refine i_180_644 (x := 0) rfl ?_
    refine i_180_646 (fun _ => ?_) (fun h => absurd h (by decide))
    refine i_180_655 (x := 1) rfl ?_
    exact i_180_657 ⟨rfl, rfl⟩
  · refine xKp.set ?_ (fun h hh => by unfold xPM at hh; omega) (xgn (by decide) (xgn (by decide) (xgn (by decide) (xgn (by omega) (xgn (by omega) (xgn (by decide) (xgn (by decide) (xgn (by decide) (xgn (by decide) (xgn (by omega) (xgn (by decide) (xgn (by decide) (xgn (by decide) (xgs hm)))))))))))))) xcs_o
    refine xKp.set ?_ (fun h hh => by unfold xPM at hh; omega) (xgn (by decide) (xgn (by decide) (xgn (by omega) (xgn (by omega) (xgn (by decide) (xgn (by decide) (xgn (by decide) (xgn (by decide) (xgn (by omega) (xgn (by decide) (xgn (by decide) (xgn (by decide) (xgn (by decide) hn))))))))))))) xcs_a
    refine xKp.set ?_ (fun h hh => by unfold xPM at hh; omega) (xgn (by decide) (xgn (by omega) (xgn (by omega) (xgn (by decide) (xgn (by decide) (xgn (by decide) (xgn (by decide) (xgn (by omega) (xgn (by decide) (xgn (by decide) (xgn (by decide) (xgn (by decide) (((hk 155 (by decide) (by decide) (by decide) (by decide) (by decide)).trans W0_155)))))))))))))) xcs_a
    refine xKp.set ?_ (fun h hh => by unfold xPM at hh; omega) (xgn (by omega) (xgn (by omega) (xgn (by decide) (xgn (by decide) (xgn (by decide) (xgn (by decide) (xgn (by omega) (xgn (by decide) (xgn (by decide) (xgn (by decide) (xgn (by decide) (((hk 154 (by decide) (by decide) (by decide) (by decide) (by decide)).trans W0_154))))))))))))) xcs_a
    refine xKp.set ?_ (fun h hh => by unfold xPM at hh; omega) (xgn (by omega) (xgn (by omega) (xgn (by omega) (xgn (by omega) (xgn (by omega) (xgs (xgn (by omega) (xgn (by omega) (xgn (by omega) (xgn (by omega) (((hk _ (by omega) (by omega) (by omega) (by omega) (by omega)).trans (W0_part (by omega)))))))))))))) xcs_o
    refine xKp.set ?_ (fun h hh => by unfold xPM at hh; omega) (xgn (by omega) (xgn (by omega) (xgn (by omega) (xgn (by omega) (xgn (by omega) (xgn (by omega) (xgn (by omega) (xgn (by omega) (xgn (by omega) (((hk _ (by omega) (by omega) (by omega) (by omega) (by omega)).trans (W0_pw (by omega))))))))))))) xcs_a
    refine xKp.set ?_ (fun h hh => by unfold xPM at hh; omega) (xgn (by decide) (xgs (xgn (by decide) (xgn (by omega) (xgn (by decide) (xgn (by decide) (xgn (by decide) (xgn (by decide) (((hk 137 (by decide) (by decide) (by decide) (by decide) (by decide)).trans W0_137)))))))))) xcs_o
    refine xKp.set ?_ (fun h hh => by unfold xPM at hh; omega) (xgn (by decide) (xgs (xgn (by omega) (xgn (by decide) (xgn (by decide) (xgn (by decide) (xgn (by decide) (((hk 138 (by decide) (by decide) (by decide) (by decide) (by decide)).trans W0_138))))))))) xcs_a
    refine xKp.set ?_ (fun h hh => by unfold xPM at hh; omega) (xgn (by decide) (xgn (by omega) (xgn (by decide) (xgn (by decide) (xgn (by decide) (xgn (by decide) (((hk 137 (by decide) (by decide) (by decide) (by decide) (by decide)).trans W0_137)))))))) xcs_o
    refine xKp.set ?_ (fun h hh => by unfold xPM at hh; omega) (xgn (by omega) (xgn (by decide) (xgn (by decide) (xgn (by decide) (xgn (by decide) (((hk 138 (by decide) (by decide) (by decide) (by decide) (by decide)).trans W0_138))))))) xcs_a
    refine xKp.set ?_ (fun h hh => by unfold xPM at hh; omega) (xgn (by omega) (xgn (by omega) (xgn (by omega) (xgn (by omega) (((hk _ (by omega) (by omega) (by omega) (by omega) (by omega)).trans (W0_part (by omega)))))))) xcs_o
    refine xKp.set ?_ (fun h hh => by unfold xPM at hh; omega) (xgn (by decide) (xgs (xgn (by decide) (((hk 151 (by decide) (by decide) (by decide) (by decide) (by decide)).trans W0_151))))) xcs_o
    refine xKp.set ?_ (fun h hh => by unfold xPM at hh; omega) (xgn (by decide) (xgn (by decide) (((hk 152 (by decide) (by decide) (by decide) (by decide) (by decide)).trans W0_152)))) xcs_a
    refine xKp.set ?_ (fun h hh => by unfold xPM at hh; omega) (xgn (by decide) (((hk 151 (by decide) (by decide) (by decide) (by decide) (by decide)).trans W0_151))) xcs_o
    refine xKp.set ?_ (fun h hh => by unfold xPM at hh; omega) (hm) xcs_o
    exact xKp.refl
theorem sf0_17 {d : Nat} {xs : Nat → Int32} {m : Int64} {sc md : Int32} {w : xW} {B E U C q0 q1 q2 nn : Int32} {g : Nat → Value} (hk : ∀ h, 131 ≤ h → h < 194 → h ≠ 135 → h ≠ 136 → h ≠ 156 → w[h]? = (W0 6 xs)[h]?) (hm : w[128]? = some (Sum.inr (12, [Value.ref 129, Value.ref 131, Value.ref 133, Value.ref 135, Value.ref 137, Value.ref 139, Value.ref 141, Value.ref 143, Value.ref 145, Value.ref 147, Value.ref 149, Value.ref 151, Value.ref 153, Value.ref 154, Value.ref 155, Value.ref 156, Value.ref 157, Value.int (-16384), Value.int 16384, Value.int 0, Value.int 0, Value.int 0, Value.ref 158, Value.ref 159, Value.int 0, Value.int 0, Value.int 0, Value.int 0, Value.int 0, Value.int 0, Value.int 0, Value.int 0]))) (hv : w[129]? = some (Sum.inr (13, [Value.ref 130, Value.int nn]))) (hq : w[135]? = some (Sum.inr (13, [Value.ref 136, Value.int 3]))) (hqw : w[136]? = some (Sum.inl (0, 4700, g))) (hg0 : g (0 : Int32).toInt.toNat = Value.int q0) (hg1 : g (1 : Int32).toInt.toNat = Value.int q1) (hg2 : g (2 : Int32).toInt.toNat = Value.int q2) (hn : w[156]? = some (Sum.inl (2, 17, xup (fun _ => Value.int 0) (xs 1).toInt.toNat (Value.int 0)))) (hbits : ∀ (d' : Nat) (w' : xW), w'[129]? = w[129]? → w'[130]? = w[130]? → xRun d' 181 [Value.ref 129] w' (.inl (some (Value.int B))) w') (hany0 : xPW m → ∀ (d' : Nat) (w' : xW), w'[129]? = w[129]? → w'[130]? = w[130]? → xRun d' 183 [Value.ref 129, Value.int (B - (1 : Int32))] w' (.inl (some (Value.int 0))) w') (hany1 : ¬ xPW m → ∀ (d' : Nat) (w' : xW), w'[129]? = w[129]? → w'[130]? = w[130]? → xRun d' 183 [Value.ref 129, Value.int (B - (1 : Int32))] w' (.inl (some (Value.int 1))) w') (c0 : 0 ≤ (xs 1).toInt) (c1 : (xs 1).toInt < 16) (c2 : (-40000) ≤ sc.toInt) (c3 : sc.toInt ≤ 40000) (c4 : 0 ≤ md.toInt) (c5 : md.toInt ≤ 4) (c6 : 1 ≤ B.toInt) (c7 : B.toInt ≤ 64) (c8 : E.toInt = B.toInt + sc.toInt) (c9 : U.toInt = E.toInt - 64) (c10 : 0 ≤ q2.toInt) (c11 : (xbn q2).toInt = 4) (c12 : E.toInt ≤ 16384) (c13 : E.toInt < (-16384)) (c14 : E.toInt ≠ (-16385)) (c15 : md.toInt ≠ 4) (c16 : md.toInt ≠ 2) (c17 : md.toInt = 3) : ∃ w2, xEv (d + 6) 180 207 [(14, Value.int 0), (13, Value.int E), (12, Value.int 1), (11, Value.int 0), (10, Value.int C), (9, Value.int U), (8, Value.int E), (7, Value.int 64), (0, Value.ref 128), (1, Value.int (xs 1)), (2, Value.ref 129), (3, Value.int sc), (4, Value.int 0), (5, Value.int 0), (6, Value.int md)] [] w (fun o' w' => o' = .inl (some (Value.int (-1))) ∧ w' = w2) ∧ xKp w w2 xPM ∧ w2[128]? = some (Sum.inr (12, [Value.ref 129, Value.ref 131, Value.ref 133, Value.ref 135, Value.ref 137, Value.ref 139, Value.ref 141, Value.ref 143, Value.ref 145, Value.ref 147, Value.ref 149, Value.ref 151, Value.ref 153, Value.ref 154, Value.ref 155, Value.ref 156, Value.ref 157, Value.int (-16384), Value.int 16384, Value.int 5, Value.int 0, Value.int 0, Value.ref 158, Value.ref 159, Value.int 0, Value.int 0, Value.int 0, Value.int 0, Value.int 0, Value.int 0, Value.int 0, Value.int 0])) := by
  refine ⟨((((w.set 128 (Sum.inr (12, [Value.ref 129, Value.ref 131, Value.ref 133, Value.ref 135, Value.ref 137, Value.ref 139, Value.ref 141, Value.ref 143, Value.ref 145, Value.ref 147, Value.ref 149, Value.ref 151, Value.ref 153, Value.ref 154, Value.ref 155, Value.ref 156, Value.ref 157, Value.int (-16384), Value.int 16384, Value.int 4, Value.int 0, Value.int 0, Value.ref 158, Value.ref 159, Value.int 0, Value.int 0, Value.int 0, Value.int 0, Value.int 0, Value.int 0, Value.int 0, Value.int 0]))).set 154 (Sum.inl (0, 17, xup (fun _ => Value.int 0) (xs 1).toInt.toNat (Value.int 2)))).set 156 (Sum.inl (2, 17, xup (xup (fun _ => Value.int 0) (xs 1).toInt.toNat (Value.int 0)) (xs 1).toInt.toNat (Value.int 0)))).set 128 (Sum.inr (12, [Value.ref 129, Value.ref 131, Value.ref 133, Value.ref 135, Value.ref 137, Value.ref 139, Value.ref 141, Value.ref 143, Value.ref 145, Value.ref 147, Value.ref 149, Value.ref 151, Value.ref 153, Value.ref 154, Value.ref 155, Value.ref 156, Value.ref 157, Value.int (-16384), Value.int 16384, Value.int 5, Value.int 0, Value.int 0, Value.ref 158, Value.ref 159, Value.int 0, Value.int 0, Value.int 0, Value.int 0, Value.int 0, Value.int 0, Value.int 0, Value.int 0]))), ?_, ?_, xgs (xgn (by decide) (xgn (by decide) (xgs hm)))⟩
  · refine i_180_207 (x := 128) rfl ?_
    refine i_180_208 (v := Value.int 0) hm rfl ?_
    refine i_180_211 (fun h => absurd h (by decide)) (fun _ => ?_)
    refine i_180_214 (x := 128) rfl ?_
    refine i_180_215 (v := Value.ref 135) hm rfl ?_
    refine i_180_218 (v := Value.int 3) hq rfl ?_
    refine i_180_221 (fun h => absurd h (by decide)) (fun _ => ?_)
    refine i_180_224 (x := E) rfl ?_
    refine i_180_226 (x := 128) rfl ?_
    refine i_180_227 (v := Value.int 16384) hm rfl ?_
    refine i_180_230 (fun _ => ?_) (fun h => absurd (show E.toInt ≤ 16384 by omega) (Int.not_le.mpr h))
    refine i_180_367 (x := 128) rfl ?_
    refine i_180_368 (v := Value.ref 135) hm rfl ?_
    refine i_180_371 (v := Value.int 3) hq rfl ?_
    refine i_180_374 (fun _ => ?_) (fun h => absurd h (by decide))
    refine i_180_392 (x := 128) rfl ?_
    refine i_180_393 (v := Value.int 0) hm rfl ?_
    refine i_180_396 (fun h => absurd h (by decide)) (fun _ => ?_)
    refine i_180_399 (x := 128) rfl ?_
    refine i_180_400 (v := Value.int 0) hm rfl ?_
    refine i_180_403 (fun h => absurd h (by decide)) (fun _ => ?_)
    refine i_180_406 (x := E) rfl ?_
    refine i_180_408 (x := 128) rfl ?_
    refine i_180_409 (v := Value.int (-16384)) hm rfl ?_
    refine i_180_412 (fun h => absurd (show E.toInt < (-16384) by omega) (Int.not_lt.mpr h)) (fun _ => ?_)
    refine i_180_415 (x := 128) rfl ?_
    refine i_180_416 rfl ?_
    refine i_180_417 (v := Value.int 0) hm rfl ?_
    refine i_180_420 ?_
    refine i_180_421 (c := 4) (by decide) ?_
    refine i_180_422 (fs2 := [Value.ref 129, Value.ref 131, Value.ref 133, Value.ref 135, Value.ref 137, Value.ref 139, Value.ref 141, Value.ref 143, Value.ref 145, Value.ref 147, Value.ref 149, Value.ref 151, Value.ref 153, Value.ref 154, Value.ref 155, Value.ref 156, Value.ref 157, Value.int (-16384), Value.int 16384, Value.int 4, Value.int 0, Value.int 0, Value.ref 158, Value.ref 159, Value.int 0, Value.int 0, Value.int 0, Value.int 0, Value.int 0, Value.int 0, Value.int 0, Value.int 0]) hm (Nat.le_of_ble_eq_true rfl) rfl (by omega) ?_
    refine i_180_425 (x := E) rfl ?_
    refine i_180_427 (x := 128) rfl ?_
    refine i_180_428 (v := Value.int (-16384)) (xgs hm) rfl ?_
    refine i_180_431 ?_
    refine i_180_432 (c := (-16385)) (by decide) ?_
    refine i_180_433 (fun h => absurd (show E.toInt ≤ (-16385) by omega) (Int.not_le.mpr h)) (fun _ => ?_)
    refine i_180_436 (x := E) rfl ?_
    refine i_180_438 (x := 128) rfl ?_
    refine i_180_439 (v := Value.int (-16384)) (xgs hm) rfl ?_
    refine i_180_442 ?_
    refine i_180_443 (c := (-16385)) (by decide) ?_
    refine i_180_444 (fun _ => ?_) (fun h => absurd (show E.toInt ≠ (-16385) by omega) (fun g => g h))
    refine i_180_469 ?_
    refine i_180_470 (lv2 := [(15, Value.int 0), (14, Value.int 0), (13, Value.int E), (12, Value.int 1), (11, Value.int 0), (10, Value.int C), (9, Value.int U), (8, Value.int E), (7, Value.int 64), (0, Value.ref 128), (1, Value.int (xs 1)), (2, Value.ref 129), (3, Value.int sc), (4, Value.int 0), (5, Value.int 0), (6, Value.int md)]) rfl ?_
    refine i_180_472 (x := md) rfl ?_
    refine i_180_474 ?_
    refine i_180_475 (fun h => absurd (show md.toInt ≠ 4 by omega) (fun g => g h)) (fun _ => ?_)
    refine i_180_478 (x := md) rfl ?_
    refine i_180_480 ?_
    refine i_180_481 (fun _ => ?_) (fun h => absurd (show md.toInt ≠ 2 by omega) (fun g => g h))
    refine i_180_489 (x := md) rfl ?_
    refine i_180_491 ?_
    refine i_180_492 (fun h => absurd (show md.toInt = 3 by omega) h) (fun _ => ?_)
    refine i_180_495 (x := 0) rfl ?_
    refine i_180_497 (fun h => absurd h (by decide)) (fun _ => ?_)
    refine i_180_500 (x := md) rfl ?_
    refine i_180_502 (fun _ => ?_) (fun h => absurd (show md.toInt ≠ 0 by omega) (fun g => g h))
    refine i_180_514 ?_
    refine i_180_515 (lv2 := [(16, Value.int 0), (15, Value.int 0), (14, Value.int 0), (13, Value.int E), (12, Value.int 1), (11, Value.int 0), (10, Value.int C), (9, Value.int U), (8, Value.int E), (7, Value.int 64), (0, Value.ref 128), (1, Value.int (xs 1)), (2, Value.ref 129), (3, Value.int sc), (4, Value.int 0), (5, Value.int 0), (6, Value.int md)]) rfl ?_
    refine i_180_517 (x := 0) rfl ?_
    refine i_180_519 (fun _ => ?_) (fun h => absurd h (by decide))
    refine i_180_556 (x := 128) rfl ?_
    refine i_180_557 (x := (xs 1)) rfl ?_
    refine i_180_558 ?_
    refine i_180_559 (x := 0) rfl ?_
    refine i_180_561 (xgs hm) (Nat.le_of_ble_eq_true rfl) (s_171_1 (xgs hm) (xgn (by decide) (((hk 154 (by decide) (by decide) (by decide) (by decide) (by decide)).trans W0_154))) (by omega) (by omega) (xgn (by decide) hn)) ?_
    refine i_180_564 rfl ?_
    refine i_180_565 (x := 0) rfl ?_
    refine i_180_567 (fun _ => ?_) (fun h => absurd h (by decide))
    refine i_180_574 ?_
    refine i_180_575 (lv2 := [(14, Value.int (-1)), (16, Value.int 0), (15, Value.int 0), (13, Value.int E), (12, Value.int 1), (11, Value.int 0), (10, Value.int C), (9, Value.int U), (8, Value.int E), (7, Value.int 64), (0, Value.ref 128), (1, Value.int (xs 1)), (2, Value.ref 129), (3, Value.int sc), (4, Value.int 0), (5, Value.int 0), (6, Value.int md)]) rfl ?_
    refine i_180_577 ?_
    refine i_180_591 (x := 128) rfl ?_
    refine i_180_592 (v := Value.int 0) (xgn (by decide) (xgn (by decide) (xgs hm))) rfl ?_
    refine i_180_595 (fun h => absurd h (by decide)) (fun _ => ?_)
    refine i_180_598 (x := 128) rfl ?_
    refine i_180_599 (v := Value.int 0) (xgn (by decide) (xgn (by decide) (xgs hm))) rfl ?_
    refine i_180_602 (fun _ => ?_) (fun h => absurd h (by decide))
    refine i_180_629 (x := (-1)) rfl ?_
    refine i_180_631 (fun h => absurd h (by decide)) (fun _ => ?_)
    refine i_180_634 (x := 128) rfl ?_
    refine i_180_635 rfl ?_
    refine i_180_636 (v := Value.int 4) (xgn (by decide) (xgn (by decide) (xgs hm))) rfl ?_
    refine i_180_639 ?_
    refine i_180_640 (c := 5) (by decide) ?_
    refine i_180_641 (fs2 := [Value.ref 129, Value.ref 131, Value.ref 133, Value.ref 135, Value.ref 137, Value.ref 139, Value.ref 141, Value.ref 143, Value.ref 145, Value.ref 147, Value.ref 149, Value.ref 151, Value.ref 153, Value.ref 154, Value.ref 155, Value.ref 156, Value.ref 157, Value.int (-16384), Value.int 16384, Value.int 5, Value.int 0, Value.int 0, Value.ref 158, Value.ref 159, Value.int 0, Value.int 0, Value.int 0, Value.int 0, Value.int 0, Value.int 0, Value.int 0, Value.int 0]) (xgn (by decide) (xgn (by decide) (xgs hm))) (Nat.le_of_ble_eq_true rfl) rfl (by omega) ?_
    refine i_180_644 (x := 0) rfl ?_
    refine i_180_646 (fun _ => ?_) (fun h => absurd h (by decide))
    refine i_180_655 (x := (-1)) rfl ?_
    exact i_180_657 ⟨rfl, rfl⟩
  · refine xKp.set ?_ (fun h hh => by unfold xPM at hh; omega) (xgn (by decide) (xgn (by decide) (xgs hm))) xcs_o
    refine xKp.set ?_ (fun h hh => by unfold xPM at hh; omega) (xgn (by decide) (xgn (by decide) hn)) xcs_a
    refine xKp.set ?_ (fun h hh => by unfold xPM at hh; omega) (xgn (by decide) (((hk 154 (by decide) (by decide) (by decide) (by decide) (by decide)).trans W0_154))) xcs_a
    refine xKp.set ?_ (fun h hh => by unfold xPM at hh; omega) (hm) xcs_o
    exact xKp.refl
theorem sf0_18 {d : Nat} {xs : Nat → Int32} {m : Int64} {sc md : Int32} {w : xW} {B E U C q0 q1 q2 nn : Int32} {g : Nat → Value} (hk : ∀ h, 131 ≤ h → h < 194 → h ≠ 135 → h ≠ 136 → h ≠ 156 → w[h]? = (W0 6 xs)[h]?) (hm : w[128]? = some (Sum.inr (12, [Value.ref 129, Value.ref 131, Value.ref 133, Value.ref 135, Value.ref 137, Value.ref 139, Value.ref 141, Value.ref 143, Value.ref 145, Value.ref 147, Value.ref 149, Value.ref 151, Value.ref 153, Value.ref 154, Value.ref 155, Value.ref 156, Value.ref 157, Value.int (-16384), Value.int 16384, Value.int 0, Value.int 0, Value.int 0, Value.ref 158, Value.ref 159, Value.int 0, Value.int 0, Value.int 0, Value.int 0, Value.int 0, Value.int 0, Value.int 0, Value.int 0]))) (hv : w[129]? = some (Sum.inr (13, [Value.ref 130, Value.int nn]))) (hq : w[135]? = some (Sum.inr (13, [Value.ref 136, Value.int 3]))) (hqw : w[136]? = some (Sum.inl (0, 4700, g))) (hg0 : g (0 : Int32).toInt.toNat = Value.int q0) (hg1 : g (1 : Int32).toInt.toNat = Value.int q1) (hg2 : g (2 : Int32).toInt.toNat = Value.int q2) (hn : w[156]? = some (Sum.inl (2, 17, xup (fun _ => Value.int 0) (xs 1).toInt.toNat (Value.int 0)))) (hbits : ∀ (d' : Nat) (w' : xW), w'[129]? = w[129]? → w'[130]? = w[130]? → xRun d' 181 [Value.ref 129] w' (.inl (some (Value.int B))) w') (hany0 : xPW m → ∀ (d' : Nat) (w' : xW), w'[129]? = w[129]? → w'[130]? = w[130]? → xRun d' 183 [Value.ref 129, Value.int (B - (1 : Int32))] w' (.inl (some (Value.int 0))) w') (hany1 : ¬ xPW m → ∀ (d' : Nat) (w' : xW), w'[129]? = w[129]? → w'[130]? = w[130]? → xRun d' 183 [Value.ref 129, Value.int (B - (1 : Int32))] w' (.inl (some (Value.int 1))) w') (c0 : 0 ≤ (xs 1).toInt) (c1 : (xs 1).toInt < 16) (c2 : (-40000) ≤ sc.toInt) (c3 : sc.toInt ≤ 40000) (c4 : 0 ≤ md.toInt) (c5 : md.toInt ≤ 4) (c6 : 1 ≤ B.toInt) (c7 : B.toInt ≤ 64) (c8 : E.toInt = B.toInt + sc.toInt) (c9 : U.toInt = E.toInt - 64) (c10 : 0 ≤ q2.toInt) (c11 : (xbn q2).toInt = 4) (c12 : E.toInt ≤ 16384) (c13 : E.toInt < (-16384)) (c14 : E.toInt ≠ (-16385)) (c15 : md.toInt ≠ 4) (c16 : md.toInt ≠ 2) (c17 : md.toInt ≠ 3) (c18 : md.toInt = 0) : ∃ w2, xEv (d + 6) 180 207 [(14, Value.int 0), (13, Value.int E), (12, Value.int 1), (11, Value.int 0), (10, Value.int C), (9, Value.int U), (8, Value.int E), (7, Value.int 64), (0, Value.ref 128), (1, Value.int (xs 1)), (2, Value.ref 129), (3, Value.int sc), (4, Value.int 0), (5, Value.int 0), (6, Value.int md)] [] w (fun o' w' => o' = .inl (some (Value.int (-1))) ∧ w' = w2) ∧ xKp w w2 xPM ∧ w2[128]? = some (Sum.inr (12, [Value.ref 129, Value.ref 131, Value.ref 133, Value.ref 135, Value.ref 137, Value.ref 139, Value.ref 141, Value.ref 143, Value.ref 145, Value.ref 147, Value.ref 149, Value.ref 151, Value.ref 153, Value.ref 154, Value.ref 155, Value.ref 156, Value.ref 157, Value.int (-16384), Value.int 16384, Value.int 5, Value.int 0, Value.int 0, Value.ref 158, Value.ref 159, Value.int 0, Value.int 0, Value.int 0, Value.int 0, Value.int 0, Value.int 0, Value.int 0, Value.int 0])) := by
  refine ⟨((((w.set 128 (Sum.inr (12, [Value.ref 129, Value.ref 131, Value.ref 133, Value.ref 135, Value.ref 137, Value.ref 139, Value.ref 141, Value.ref 143, Value.ref 145, Value.ref 147, Value.ref 149, Value.ref 151, Value.ref 153, Value.ref 154, Value.ref 155, Value.ref 156, Value.ref 157, Value.int (-16384), Value.int 16384, Value.int 4, Value.int 0, Value.int 0, Value.ref 158, Value.ref 159, Value.int 0, Value.int 0, Value.int 0, Value.int 0, Value.int 0, Value.int 0, Value.int 0, Value.int 0]))).set 154 (Sum.inl (0, 17, xup (fun _ => Value.int 0) (xs 1).toInt.toNat (Value.int 2)))).set 156 (Sum.inl (2, 17, xup (xup (fun _ => Value.int 0) (xs 1).toInt.toNat (Value.int 0)) (xs 1).toInt.toNat (Value.int 0)))).set 128 (Sum.inr (12, [Value.ref 129, Value.ref 131, Value.ref 133, Value.ref 135, Value.ref 137, Value.ref 139, Value.ref 141, Value.ref 143, Value.ref 145, Value.ref 147, Value.ref 149, Value.ref 151, Value.ref 153, Value.ref 154, Value.ref 155, Value.ref 156, Value.ref 157, Value.int (-16384), Value.int 16384, Value.int 5, Value.int 0, Value.int 0, Value.ref 158, Value.ref 159, Value.int 0, Value.int 0, Value.int 0, Value.int 0, Value.int 0, Value.int 0, Value.int 0, Value.int 0]))), ?_, ?_, xgs (xgn (by decide) (xgn (by decide) (xgs hm)))⟩
  · refine i_180_207 (x := 128) rfl ?_
    refine i_180_208 (v := Value.int 0) hm rfl ?_
    refine i_180_211 (fun h => absurd h (by decide)) (fun _ => ?_)
    refine i_180_214 (x := 128) rfl ?_
    refine i_180_215 (v := Value.ref 135) hm rfl ?_
    refine i_180_218 (v := Value.int 3) hq rfl ?_
    refine i_180_221 (fun h => absurd h (by decide)) (fun _ => ?_)
    refine i_180_224 (x := E) rfl ?_
    refine i_180_226 (x := 128) rfl ?_
    refine i_180_227 (v := Value.int 16384) hm rfl ?_
    refine i_180_230 (fun _ => ?_) (fun h => absurd (show E.toInt ≤ 16384 by omega) (Int.not_le.mpr h))
    refine i_180_367 (x := 128) rfl ?_
    refine i_180_368 (v := Value.ref 135) hm rfl ?_
    refine i_180_371 (v := Value.int 3) hq rfl ?_
    refine i_180_374 (fun _ => ?_) (fun h => absurd h (by decide))
    refine i_180_392 (x := 128) rfl ?_
    refine i_180_393 (v := Value.int 0) hm rfl ?_
    refine i_180_396 (fun h => absurd h (by decide)) (fun _ => ?_)
    refine i_180_399 (x := 128) rfl ?_
    refine i_180_400 (v := Value.int 0) hm rfl ?_
    refine i_180_403 (fun h => absurd h (by decide)) (fun _ => ?_)
    refine i_180_406 (x := E) rfl ?_
    refine i_180_408 (x := 128) rfl ?_
    refine i_180_409 (v := Value.int (-16384)) hm rfl ?_
    refine i_180_412 (fun h => absurd (show E.toInt < (-16384) by omega) (Int.not_lt.mpr h)) (fun _ => ?_)
    refine i_180_415 (x := 128) rfl ?_
    refine i_180_416 rfl ?_
    refine i_180_417 (v := Value.int 0) hm rfl ?_
    refine i_180_420 ?_
    refine i_180_421 (c := 4) (by decide) ?_
    refine i_180_422 (fs2 := [Value.ref 129, Value.ref 131, Value.ref 133, Value.ref 135, Value.ref 137, Value.ref 139, Value.ref 141, Value.ref 143, Value.ref 145, Value.ref 147, Value.ref 149, Value.ref 151, Value.ref 153, Value.ref 154, Value.ref 155, Value.ref 156, Value.ref 157, Value.int (-16384), Value.int 16384, Value.int 4, Value.int 0, Value.int 0, Value.ref 158, Value.ref 159, Value.int 0, Value.int 0, Value.int 0, Value.int 0, Value.int 0, Value.int 0, Value.int 0, Value.int 0]) hm (Nat.le_of_ble_eq_true rfl) rfl (by omega) ?_
    refine i_180_425 (x := E) rfl ?_
    refine i_180_427 (x := 128) rfl ?_
    refine i_180_428 (v := Value.int (-16384)) (xgs hm) rfl ?_
    refine i_180_431 ?_
    refine i_180_432 (c := (-16385)) (by decide) ?_
    refine i_180_433 (fun h => absurd (show E.toInt ≤ (-16385) by omega) (Int.not_le.mpr h)) (fun _ => ?_)
    refine i_180_436 (x := E) rfl ?_
    refine i_180_438 (x := 128) rfl ?_
    refine i_180_439 (v := Value.int (-16384)) (xgs hm) rfl ?_
    refine i_180_442 ?_
    refine i_180_443 (c := (-16385)) (by decide) ?_
    refine i_180_444 (fun _ => ?_) (fun h => absurd (show E.toInt ≠ (-16385) by omega) (fun g => g h))
    refine i_180_469 ?_
    refine i_180_470 (lv2 := [(15, Value.int 0), (14, Value.int 0), (13, Value.int E), (12, Value.int 1), (11, Value.int 0), (10, Value.int C), (9, Value.int U), (8, Value.int E), (7, Value.int 64), (0, Value.ref 128), (1, Value.int (xs 1)), (2, Value.ref 129), (3, Value.int sc), (4, Value.int 0), (5, Value.int 0), (6, Value.int md)]) rfl ?_
    refine i_180_472 (x := md) rfl ?_
    refine i_180_474 ?_
    refine i_180_475 (fun h => absurd (show md.toInt ≠ 4 by omega) (fun g => g h)) (fun _ => ?_)
    refine i_180_478 (x := md) rfl ?_
    refine i_180_480 ?_
    refine i_180_481 (fun _ => ?_) (fun h => absurd (show md.toInt ≠ 2 by omega) (fun g => g h))
    refine i_180_489 (x := md) rfl ?_
    refine i_180_491 ?_
    refine i_180_492 (fun _ => ?_) (fun h => absurd (show md.toInt ≠ 3 by omega) (fun g => g h))
    refine i_180_500 (x := md) rfl ?_
    refine i_180_502 (fun h => absurd (show md.toInt = 0 by omega) h) (fun _ => ?_)
    refine i_180_505 (x := 0) rfl ?_
    refine i_180_507 (fun _ => ?_) (fun h => absurd h (by decide))
    refine i_180_514 ?_
    refine i_180_515 (lv2 := [(16, Value.int 0), (15, Value.int 0), (14, Value.int 0), (13, Value.int E), (12, Value.int 1), (11, Value.int 0), (10, Value.int C), (9, Value.int U), (8, Value.int E), (7, Value.int 64), (0, Value.ref 128), (1, Value.int (xs 1)), (2, Value.ref 129), (3, Value.int sc), (4, Value.int 0), (5, Value.int 0), (6, Value.int md)]) rfl ?_
    refine i_180_517 (x := 0) rfl ?_
    refine i_180_519 (fun _ => ?_) (fun h => absurd h (by decide))
    refine i_180_556 (x := 128) rfl ?_
    refine i_180_557 (x := (xs 1)) rfl ?_
    refine i_180_558 ?_
    refine i_180_559 (x := 0) rfl ?_
    refine i_180_561 (xgs hm) (Nat.le_of_ble_eq_true rfl) (s_171_1 (xgs hm) (xgn (by decide) (((hk 154 (by decide) (by decide) (by decide) (by decide) (by decide)).trans W0_154))) (by omega) (by omega) (xgn (by decide) hn)) ?_
    refine i_180_564 rfl ?_
    refine i_180_565 (x := 0) rfl ?_
    refine i_180_567 (fun _ => ?_) (fun h => absurd h (by decide))
    refine i_180_574 ?_
    refine i_180_575 (lv2 := [(14, Value.int (-1)), (16, Value.int 0), (15, Value.int 0), (13, Value.int E), (12, Value.int 1), (11, Value.int 0), (10, Value.int C), (9, Value.int U), (8, Value.int E), (7, Value.int 64), (0, Value.ref 128), (1, Value.int (xs 1)), (2, Value.ref 129), (3, Value.int sc), (4, Value.int 0), (5, Value.int 0), (6, Value.int md)]) rfl ?_
    refine i_180_577 ?_
    refine i_180_591 (x := 128) rfl ?_
    refine i_180_592 (v := Value.int 0) (xgn (by decide) (xgn (by decide) (xgs hm))) rfl ?_
    refine i_180_595 (fun h => absurd h (by decide)) (fun _ => ?_)
    refine i_180_598 (x := 128) rfl ?_
    refine i_180_599 (v := Value.int 0) (xgn (by decide) (xgn (by decide) (xgs hm))) rfl ?_
    refine i_180_602 (fun _ => ?_) (fun h => absurd h (by decide))
    refine i_180_629 (x := (-1)) rfl ?_
    refine i_180_631 (fun h => absurd h (by decide)) (fun _ => ?_)
    refine i_180_634 (x := 128) rfl ?_
    refine i_180_635 rfl ?_
    refine i_180_636 (v := Value.int 4) (xgn (by decide) (xgn (by decide) (xgs hm))) rfl ?_
    refine i_180_639 ?_
    refine i_180_640 (c := 5) (by decide) ?_
    refine i_180_641 (fs2 := [Value.ref 129, Value.ref 131, Value.ref 133, Value.ref 135, Value.ref 137, Value.ref 139, Value.ref 141, Value.ref 143, Value.ref 145, Value.ref 147, Value.ref 149, Value.ref 151, Value.ref 153, Value.ref 154, Value.ref 155, Value.ref 156, Value.ref 157, Value.int (-16384), Value.int 16384, Value.int 5, Value.int 0, Value.int 0, Value.ref 158, Value.ref 159, Value.int 0, Value.int 0, Value.int 0, Value.int 0, Value.int 0, Value.int 0, Value.int 0, Value.int 0]) (xgn (by decide) (xgn (by decide) (xgs hm))) (Nat.le_of_ble_eq_true rfl) rfl (by omega) ?_
    refine i_180_644 (x := 0) rfl ?_
    refine i_180_646 (fun _ => ?_) (fun h => absurd h (by decide))
    refine i_180_655 (x := (-1)) rfl ?_
    exact i_180_657 ⟨rfl, rfl⟩
  · refine xKp.set ?_ (fun h hh => by unfold xPM at hh; omega) (xgn (by decide) (xgn (by decide) (xgs hm))) xcs_o
    refine xKp.set ?_ (fun h hh => by unfold xPM at hh; omega) (xgn (by decide) (xgn (by decide) hn)) xcs_a
    refine xKp.set ?_ (fun h hh => by unfold xPM at hh; omega) (xgn (by decide) (((hk 154 (by decide) (by decide) (by decide) (by decide) (by decide)).trans W0_154))) xcs_a
    refine xKp.set ?_ (fun h hh => by unfold xPM at hh; omega) (hm) xcs_o
    exact xKp.refl
theorem sf0_19 {d : Nat} {xs : Nat → Int32} {m : Int64} {sc md : Int32} {w : xW} {B E U C q0 q1 q2 nn : Int32} {g : Nat → Value} (hk : ∀ h, 131 ≤ h → h < 194 → h ≠ 135 → h ≠ 136 → h ≠ 156 → w[h]? = (W0 6 xs)[h]?) (hm : w[128]? = some (Sum.inr (12, [Value.ref 129, Value.ref 131, Value.ref 133, Value.ref 135, Value.ref 137, Value.ref 139, Value.ref 141, Value.ref 143, Value.ref 145, Value.ref 147, Value.ref 149, Value.ref 151, Value.ref 153, Value.ref 154, Value.ref 155, Value.ref 156, Value.ref 157, Value.int (-16384), Value.int 16384, Value.int 0, Value.int 0, Value.int 0, Value.ref 158, Value.ref 159, Value.int 0, Value.int 0, Value.int 0, Value.int 0, Value.int 0, Value.int 0, Value.int 0, Value.int 0]))) (hv : w[129]? = some (Sum.inr (13, [Value.ref 130, Value.int nn]))) (hq : w[135]? = some (Sum.inr (13, [Value.ref 136, Value.int 3]))) (hqw : w[136]? = some (Sum.inl (0, 4700, g))) (hg0 : g (0 : Int32).toInt.toNat = Value.int q0) (hg1 : g (1 : Int32).toInt.toNat = Value.int q1) (hg2 : g (2 : Int32).toInt.toNat = Value.int q2) (hn : w[156]? = some (Sum.inl (2, 17, xup (fun _ => Value.int 0) (xs 1).toInt.toNat (Value.int 0)))) (hbits : ∀ (d' : Nat) (w' : xW), w'[129]? = w[129]? → w'[130]? = w[130]? → xRun d' 181 [Value.ref 129] w' (.inl (some (Value.int B))) w') (hany0 : xPW m → ∀ (d' : Nat) (w' : xW), w'[129]? = w[129]? → w'[130]? = w[130]? → xRun d' 183 [Value.ref 129, Value.int (B - (1 : Int32))] w' (.inl (some (Value.int 0))) w') (hany1 : ¬ xPW m → ∀ (d' : Nat) (w' : xW), w'[129]? = w[129]? → w'[130]? = w[130]? → xRun d' 183 [Value.ref 129, Value.int (B - (1 : Int32))] w' (.inl (some (Value.int 1))) w') (c0 : 0 ≤ (xs 1).toInt) (c1 : (xs 1).toInt < 16) (c2 : (-40000) ≤ sc.toInt) (c3 : sc.toInt ≤ 40000) (c4 : 0 ≤ md.toInt) (c5 : md.toInt ≤ 4) (c6 : 1 ≤ B.toInt) (c7 : B.toInt ≤ 64) (c8 : E.toInt = B.toInt + sc.toInt) (c9 : U.toInt = E.toInt - 64) (c10 : 0 ≤ q2.toInt) (c11 : (xbn q2).toInt = 4) (c12 : E.toInt ≤ 16384) (c13 : E.toInt < (-16384)) (c14 : E.toInt ≠ (-16385)) (c15 : md.toInt ≠ 4) (c16 : md.toInt ≠ 2) (c17 : md.toInt ≠ 3) (c18 : md.toInt ≠ 0) : ∃ w2, xEv (d + 6) 180 207 [(14, Value.int 0), (13, Value.int E), (12, Value.int 1), (11, Value.int 0), (10, Value.int C), (9, Value.int U), (8, Value.int E), (7, Value.int 64), (0, Value.ref 128), (1, Value.int (xs 1)), (2, Value.ref 129), (3, Value.int sc), (4, Value.int 0), (5, Value.int 0), (6, Value.int md)] [] w (fun o' w' => o' = .inl (some (Value.int (-1))) ∧ w' = w2) ∧ xKp w w2 xPM ∧ w2[128]? = some (Sum.inr (12, [Value.ref 129, Value.ref 131, Value.ref 133, Value.ref 135, Value.ref 137, Value.ref 139, Value.ref 141, Value.ref 143, Value.ref 145, Value.ref 147, Value.ref 149, Value.ref 151, Value.ref 153, Value.ref 154, Value.ref 155, Value.ref 156, Value.ref 157, Value.int (-16384), Value.int 16384, Value.int 5, Value.int 0, Value.int 0, Value.ref 158, Value.ref 159, Value.int 0, Value.int 0, Value.int 0, Value.int 0, Value.int 0, Value.int 0, Value.int 0, Value.int 0])) := by
  refine ⟨((((w.set 128 (Sum.inr (12, [Value.ref 129, Value.ref 131, Value.ref 133, Value.ref 135, Value.ref 137, Value.ref 139, Value.ref 141, Value.ref 143, Value.ref 145, Value.ref 147, Value.ref 149, Value.ref 151, Value.ref 153, Value.ref 154, Value.ref 155, Value.ref 156, Value.ref 157, Value.int (-16384), Value.int 16384, Value.int 4, Value.int 0, Value.int 0, Value.ref 158, Value.ref 159, Value.int 0, Value.int 0, Value.int 0, Value.int 0, Value.int 0, Value.int 0, Value.int 0, Value.int 0]))).set 154 (Sum.inl (0, 17, xup (fun _ => Value.int 0) (xs 1).toInt.toNat (Value.int 2)))).set 156 (Sum.inl (2, 17, xup (xup (fun _ => Value.int 0) (xs 1).toInt.toNat (Value.int 0)) (xs 1).toInt.toNat (Value.int 0)))).set 128 (Sum.inr (12, [Value.ref 129, Value.ref 131, Value.ref 133, Value.ref 135, Value.ref 137, Value.ref 139, Value.ref 141, Value.ref 143, Value.ref 145, Value.ref 147, Value.ref 149, Value.ref 151, Value.ref 153, Value.ref 154, Value.ref 155, Value.ref 156, Value.ref 157, Value.int (-16384), Value.int 16384, Value.int 5, Value.int 0, Value.int 0, Value.ref 158, Value.ref 159, Value.int 0, Value.int 0, Value.int 0, Value.int 0, Value.int 0, Value.int 0, Value.int 0, Value.int 0]))), ?_, ?_, xgs (xgn (by decide) (xgn (by decide) (xgs hm)))⟩
  · refine i_180_207 (x := 128) rfl ?_
    refine i_180_208 (v := Value.int 0) hm rfl ?_
    refine i_180_211 (fun h => absurd h (by decide)) (fun _ => ?_)
    refine i_180_214 (x := 128) rfl ?_
    refine i_180_215 (v := Value.ref 135) hm rfl ?_
    refine i_180_218 (v := Value.int 3) hq rfl ?_
    refine i_180_221 (fun h => absurd h (by decide)) (fun _ => ?_)
    refine i_180_224 (x := E) rfl ?_
    refine i_180_226 (x := 128) rfl ?_
    refine i_180_227 (v := Value.int 16384) hm rfl ?_
    refine i_180_230 (fun _ => ?_) (fun h => absurd (show E.toInt ≤ 16384 by omega) (Int.not_le.mpr h))
    refine i_180_367 (x := 128) rfl ?_
    refine i_180_368 (v := Value.ref 135) hm rfl ?_
    refine i_180_371 (v := Value.int 3) hq rfl ?_
    refine i_180_374 (fun _ => ?_) (fun h => absurd h (by decide))
    refine i_180_392 (x := 128) rfl ?_
    refine i_180_393 (v := Value.int 0) hm rfl ?_
    refine i_180_396 (fun h => absurd h (by decide)) (fun _ => ?_)
    refine i_180_399 (x := 128) rfl ?_
    refine i_180_400 (v := Value.int 0) hm rfl ?_
    refine i_180_403 (fun h => absurd h (by decide)) (fun _ => ?_)
    refine i_180_406 (x := E) rfl ?_
    refine i_180_408 (x := 128) rfl ?_
    refine i_180_409 (v := Value.int (-16384)) hm rfl ?_
    refine i_180_412 (fun h => absurd (show E.toInt < (-16384) by omega) (Int.not_lt.mpr h)) (fun _ => ?_)
    refine i_180_415 (x := 128) rfl ?_
    refine i_180_416 rfl ?_
    refine i_180_417 (v := Value.int 0) hm rfl ?_
    refine i_180_420 ?_
    refine i_180_421 (c := 4) (by decide) ?_
    refine i_180_422 (fs2 := [Value.ref 129, Value.ref 131, Value.ref 133, Value.ref 135, Value.ref 137, Value.ref 139, Value.ref 141, Value.ref 143, Value.ref 145, Value.ref 147, Value.ref 149, Value.ref 151, Value.ref 153, Value.ref 154, Value.ref 155, Value.ref 156, Value.ref 157, Value.int (-16384), Value.int 16384, Value.int 4, Value.int 0, Value.int 0, Value.ref 158, Value.ref 159, Value.int 0, Value.int 0, Value.int 0, Value.int 0, Value.int 0, Value.int 0, Value.int 0, Value.int 0]) hm (Nat.le_of_ble_eq_true rfl) rfl (by omega) ?_
    refine i_180_425 (x := E) rfl ?_
    refine i_180_427 (x := 128) rfl ?_
    refine i_180_428 (v := Value.int (-16384)) (xgs hm) rfl ?_
    refine i_180_431 ?_
    refine i_180_432 (c := (-16385)) (by decide) ?_
    refine i_180_433 (fun h => absurd (show E.toInt ≤ (-16385) by omega) (Int.not_le.mpr h)) (fun _ => ?_)
    refine i_180_436 (x := E) rfl ?_
    refine i_180_438 (x := 128) rfl ?_
    refine i_180_439 (v := Value.int (-16384)) (xgs hm) rfl ?_
    refine i_180_442 ?_
    refine i_180_443 (c := (-16385)) (by decide) ?_
    refine i_180_444 (fun _ => ?_) (fun h => absurd (show E.toInt ≠ (-16385) by omega) (fun g => g h))
    refine i_180_469 ?_
    refine i_180_470 (lv2 := [(15, Value.int 0), (14, Value.int 0), (13, Value.int E), (12, Value.int 1), (11, Value.int 0), (10, Value.int C), (9, Value.int U), (8, Value.int E), (7, Value.int 64), (0, Value.ref 128), (1, Value.int (xs 1)), (2, Value.ref 129), (3, Value.int sc), (4, Value.int 0), (5, Value.int 0), (6, Value.int md)]) rfl ?_
    refine i_180_472 (x := md) rfl ?_
    refine i_180_474 ?_
    refine i_180_475 (fun h => absurd (show md.toInt ≠ 4 by omega) (fun g => g h)) (fun _ => ?_)
    refine i_180_478 (x := md) rfl ?_
    refine i_180_480 ?_
    refine i_180_481 (fun _ => ?_) (fun h => absurd (show md.toInt ≠ 2 by omega) (fun g => g h))
    refine i_180_489 (x := md) rfl ?_
    refine i_180_491 ?_
    refine i_180_492 (fun _ => ?_) (fun h => absurd (show md.toInt ≠ 3 by omega) (fun g => g h))
    refine i_180_500 (x := md) rfl ?_
    refine i_180_502 (fun _ => ?_) (fun h => absurd (show md.toInt ≠ 0 by omega) (fun g => g h))
    refine i_180_514 ?_
    refine i_180_515 (lv2 := [(16, Value.int 0), (15, Value.int 0), (14, Value.int 0), (13, Value.int E), (12, Value.int 1), (11, Value.int 0), (10, Value.int C), (9, Value.int U), (8, Value.int E), (7, Value.int 64), (0, Value.ref 128), (1, Value.int (xs 1)), (2, Value.ref 129), (3, Value.int sc), (4, Value.int 0), (5, Value.int 0), (6, Value.int md)]) rfl ?_
    refine i_180_517 (x := 0) rfl ?_
    refine i_180_519 (fun _ => ?_) (fun h => absurd h (by decide))
    refine i_180_556 (x := 128) rfl ?_
    refine i_180_557 (x := (xs 1)) rfl ?_
    refine i_180_558 ?_
    refine i_180_559 (x := 0) rfl ?_
    refine i_180_561 (xgs hm) (Nat.le_of_ble_eq_true rfl) (s_171_1 (xgs hm) (xgn (by decide) (((hk 154 (by decide) (by decide) (by decide) (by decide) (by decide)).trans W0_154))) (by omega) (by omega) (xgn (by decide) hn)) ?_
    refine i_180_564 rfl ?_
    refine i_180_565 (x := 0) rfl ?_
    refine i_180_567 (fun _ => ?_) (fun h => absurd h (by decide))
    refine i_180_574 ?_
    refine i_180_575 (lv2 := [(14, Value.int (-1)), (16, Value.int 0), (15, Value.int 0), (13, Value.int E), (12, Value.int 1), (11, Value.int 0), (10, Value.int C), (9, Value.int U), (8, Value.int E), (7, Value.int 64), (0, Value.ref 128), (1, Value.int (xs 1)), (2, Value.ref 129), (3, Value.int sc), (4, Value.int 0), (5, Value.int 0), (6, Value.int md)]) rfl ?_
    refine i_180_577 ?_
    refine i_180_591 (x := 128) rfl ?_
    refine i_180_592 (v := Value.int 0) (xgn (by decide) (xgn (by decide) (xgs hm))) rfl ?_
    refine i_180_595 (fun h => absurd h (by decide)) (fun _ => ?_)
    refine i_180_598 (x := 128) rfl ?_
    refine i_180_599 (v := Value.int 0) (xgn (by decide) (xgn (by decide) (xgs hm))) rfl ?_
    refine i_180_602 (fun _ => ?_) (fun h => absurd h (by decide))
    refine i_180_629 (x := (-1)) rfl ?_
    refine i_180_631 (fun h => absurd h (by decide)) (fun _ => ?_)
    refine i_180_634 (x := 128) rfl ?_
    refine i_180_635 rfl ?_
    refine i_180_636 (v := Value.int 4) (xgn (by decide) (xgn (by decide) (xgs hm))) rfl ?_
    refine i_180_639 ?_
    refine i_180_640 (c := 5) (by decide) ?_
    refine i_180_641 (fs2 := [Value.ref 129, Value.ref 131, Value.ref 133, Value.ref 135, Value.ref 137, Value.ref 139, Value.ref 141, Value.ref 143, Value.ref 145, Value.ref 147, Value.ref 149, Value.ref 151, Value.ref 153, Value.ref 154, Value.ref 155, Value.ref 156, Value.ref 157, Value.int (-16384), Value.int 16384, Value.int 5, Value.int 0, Value.int 0, Value.ref 158, Value.ref 159, Value.int 0, Value.int 0, Value.int 0, Value.int 0, Value.int 0, Value.int 0, Value.int 0, Value.int 0]) (xgn (by decide) (xgn (by decide) (xgs hm))) (Nat.le_of_ble_eq_true rfl) rfl (by omega) ?_
    refine i_180_644 (x := 0) rfl ?_
    refine i_180_646 (fun _ => ?_) (fun h => absurd h (by decide))
    refine i_180_655 (x := (-1)) rfl ?_
    exact i_180_657 ⟨rfl, rfl⟩
  · refine xKp.set ?_ (fun h hh => by unfold xPM at hh; omega) (xgn (by decide) (xgn (by decide) (xgs hm))) xcs_o
    refine xKp.set ?_ (fun h hh => by unfold xPM at hh; omega) (xgn (by decide) (xgn (by decide) hn)) xcs_a
    refine xKp.set ?_ (fun h hh => by unfold xPM at hh; omega) (xgn (by decide) (((hk 154 (by decide) (by decide) (by decide) (by decide) (by decide)).trans W0_154))) xcs_a
    refine xKp.set ?_ (fun h hh => by unfold xPM at hh; omega) (hm) xcs_o
    exact xKp.refl
theorem s_182_7 {d : Nat} {w : xW} {g0 : Nat → Value} {a0 : Int32} {a1 : Int32} {a2 : Int32} (hw0 : w[135]? = some (Sum.inr (13, [Value.ref 136, Value.int 3]))) (hw1 : w[137]? = some (Sum.inr (13, [Value.ref 138, Value.int 0]))) (hw2 : w[136]? = some (Sum.inl (0, 4700, g0))) (hw3 : w[138]? = some (Sum.inl (0, 4700, fun _ => Value.int 0))) (hg4 : g0 (0 : Int32).toInt.toNat = Value.int a0) (hg5 : g0 (1 : Int32).toInt.toNat = Value.int a1) (hg6 : g0 (2 : Int32).toInt.toNat = Value.int a2) : xRun (d + 1) 182 [Value.ref 137, Value.ref 135] w (.inl none) ((w.set 138 (Sum.inl (0, 4700, xcp g0 (fun _ => Value.int 0) (0 : Int32).toInt.toNat (0 : Int32).toInt.toNat (3 : Int32).toInt.toNat))).set 137 (Sum.inr (13, [Value.ref 138, Value.int 3]))) := by
  refine xRun.of ?_
  refine i_182_0 (x := 135) rfl ?_
  refine i_182_1 (v := Value.ref 136) hw0 rfl ?_
  refine i_182_4 ?_
  refine i_182_5 (x := 137) rfl ?_
  refine i_182_6 (v := Value.ref 138) hw1 rfl ?_
  refine i_182_9 ?_
  refine i_182_10 (x := 135) rfl ?_
  refine i_182_11 (v := Value.int 3) hw0 rfl ?_
  refine i_182_14 hw2 hw3 (by decide) (by decide) (by decide) (by decide) (by decide) (by decide) (xci3 hg4 hg5 hg6) (Nat.le_of_ble_eq_true rfl) ?_
  refine i_182_17 (x := 137) rfl ?_
  refine i_182_18 (x := 135) rfl ?_
  refine i_182_19 (v := Value.int 3) (xgn (by decide) hw0) rfl ?_
  refine i_182_22 (fs2 := [Value.ref 138, Value.int 3]) (xgn (by decide) hw1) (Nat.le_of_ble_eq_true rfl) rfl (by decide) ?_
  exact i_182_25 ⟨rfl, rfl⟩
theorem s_182_8 {d : Nat} {w : xW} {h0 : Nat} {h1 : Nat} {g0 : Nat → Value} {a0 : Int32} {a1 : Int32} {a2 : Int32} (hw0 : w[137]? = some (Sum.inr (13, [Value.ref 138, Value.int 3]))) (hw1 : w[h0]? = some (Sum.inr (13, [Value.ref h1, Value.int 0]))) (hw2 : w[138]? = some (Sum.inl (0, 4700, g0))) (hw3 : w[h1]? = some (Sum.inl (0, 140, fun _ => Value.int 0))) (hg4 : g0 (0 : Int32).toInt.toNat = Value.int a0) (hg5 : g0 (1 : Int32).toInt.toNat = Value.int a1) (hg6 : g0 (2 : Int32).toInt.toNat = Value.int a2) (e7 : 7 ≤ h1) (e8 : h1 ≠ 137) (e9 : h1 ≠ h0) (e10 : 7 ≤ h0) : xRun (d + 1) 182 [Value.ref h0, Value.ref 137] w (.inl none) ((w.set h1 (Sum.inl (0, 140, xcp g0 (fun _ => Value.int 0) (0 : Int32).toInt.toNat (0 : Int32).toInt.toNat (3 : Int32).toInt.toNat))).set h0 (Sum.inr (13, [Value.ref h1, Value.int 3]))) := by
  refine xRun.of ?_
  refine i_182_0 (x := 137) rfl ?_
  refine i_182_1 (v := Value.ref 138) hw0 rfl ?_
  refine i_182_4 ?_
  refine i_182_5 (x := h0) rfl ?_
  refine i_182_6 (v := Value.ref h1) hw1 rfl ?_
  refine i_182_9 ?_
  refine i_182_10 (x := 137) rfl ?_
  refine i_182_11 (v := Value.int 3) hw0 rfl ?_
  refine i_182_14 hw2 hw3 (by decide) (by decide) (by decide) (by decide) (by decide) e7 (xci3 hg4 hg5 hg6) (Nat.le_of_ble_eq_true rfl) ?_
  refine i_182_17 (x := h0) rfl ?_
  refine i_182_18 (x := 137) rfl ?_
  refine i_182_19 (v := Value.int 3) (xgn e8 hw0) rfl ?_
  refine i_182_22 (fs2 := [Value.ref h1, Value.int 3]) (xgn e9 hw1) (Nat.le_of_ble_eq_true rfl) rfl e10 ?_
  exact i_182_25 ⟨rfl, rfl⟩
theorem s_192_2 {d : Nat} {w : xW} {a0 : Int32} {a1 : Int32} {g0 : Nat → Value} {g1 : Nat → Value} {a2 : Int32} {g2 : Nat → Value} {h0 : Nat} {h1 : Nat} {a3 : Int32} {a4 : Int32} {a5 : Int32} (hw0 : w[128]? = some (Sum.inr (12, [Value.ref 129, Value.ref 131, Value.ref 133, Value.ref 135, Value.ref 137, Value.ref 139, Value.ref 141, Value.ref 143, Value.ref 145, Value.ref 147, Value.ref 149, Value.ref 151, Value.ref 153, Value.ref 154, Value.ref 155, Value.ref 156, Value.ref 157, Value.int (-16384), Value.int 16384, Value.int 0, Value.int 0, Value.int 0, Value.ref 158, Value.ref 159, Value.int 0, Value.int 0, Value.int 0, Value.int 0, Value.int 0, Value.int 0, Value.int 0, Value.int 0]))) (hw1 : w[153]? = some (Sum.inl (0, 17, g0))) (e2 : 0 ≤ a0.toInt) (e3 : a0.toInt < 17) (hg4 : g0 a0.toInt.toNat = Value.int 64) (hw5 : w[135]? = some (Sum.inr (13, [Value.ref 136, Value.int 3]))) (hw6 : w[136]? = some (Sum.inl (0, 4700, g1))) (hg7 : g1 (2 : Int32).toInt.toNat = Value.int a2) (hg8 : ((60 : Int32) + (xbn a2)) = 64) (e9 : 0 ≤ a2.toInt) (hw10 : w[157]? = some (Sum.inl (5, 17, g2))) (hg11 : g2 a0.toInt.toNat = Value.ref h0) (hw12 : w[h0]? = some (Sum.inr (13, [Value.ref h1, Value.int 0]))) (e13 : 7 ≤ h0) (e14 : h0 ≠ 128) (e15 : h0 ≠ 137) (hw16 : w[137]? = some (Sum.inr (13, [Value.ref 138, Value.int 0]))) (e17 : h0 ≠ 135) (e18 : h0 ≠ 136) (e19 : h0 ≠ 138) (hw20 : w[138]? = some (Sum.inl (0, 4700, fun _ => Value.int 0))) (hg21 : g1 (0 : Int32).toInt.toNat = Value.int a3) (hg22 : g1 (1 : Int32).toInt.toNat = Value.int a4) (e23 : h0 ≠ 157) (e24 : 137 ≠ h0) (e25 : 138 ≠ h0) (e26 : 137 ≠ h1) (e27 : 138 ≠ h1) (e28 : h0 ≠ h1) (hw29 : w[h1]? = some (Sum.inl (0, 140, fun _ => Value.int 0))) (e30 : 7 ≤ h1) (e31 : h1 ≠ 137) (e32 : h1 ≠ h0) (e33 : h1 ≠ 128) (e34 : h0 ≠ 154) (e35 : h1 ≠ 154) (hw36 : w[154]? = some (Sum.inl (0, 17, fun _ => Value.int 0))) (hg37 : ((64 : Int32) + a1) = a5) (e38 : h0 ≠ 155) (e39 : h1 ≠ 155) (hw40 : w[155]? = some (Sum.inl (0, 17, fun _ => Value.int 0))) : xRun (d + 2) 192 [Value.ref 128, Value.int a0, Value.ref 135, Value.int a1] w (.inl none) (((((((w.set h0 (Sum.inr (13, [Value.ref h1, Value.int 0]))).set 138 (Sum.inl (0, 4700, xcp g1 (fun _ => Value.int 0) (0 : Int32).toInt.toNat (0 : Int32).toInt.toNat (3 : Int32).toInt.toNat))).set 137 (Sum.inr (13, [Value.ref 138, Value.int 3]))).set h1 (Sum.inl (0, 140, xcp (xcp g1 (fun _ => Value.int 0) (0 : Int32).toInt.toNat (0 : Int32).toInt.toNat (3 : Int32).toInt.toNat) (fun _ => Value.int 0) (0 : Int32).toInt.toNat (0 : Int32).toInt.toNat (3 : Int32).toInt.toNat))).set h0 (Sum.inr (13, [Value.ref h1, Value.int 3]))).set 154 (Sum.inl (0, 17, xup (fun _ => Value.int 0) a0.toInt.toNat (Value.int 3)))).set 155 (Sum.inl (0, 17, xup (fun _ => Value.int 0) a0.toInt.toNat (Value.int a5)))) := by
  refine xRun.of ?_
  refine i_192_0 (x := 128) rfl ?_
  refine i_192_1 (v := Value.ref 153) hw0 rfl ?_
  refine i_192_4 (x := a0) rfl ?_
  refine i_192_5 (v := Value.int 64) hw1 e2 e3 hg4 ?_
  refine i_192_6 (lv2 := [(4, Value.int 64), (0, Value.ref 128), (1, Value.int a0), (2, Value.ref 135), (3, Value.int a1)]) rfl ?_
  refine i_192_8 (x := 135) rfl ?_
  refine i_192_9 hw5 (Nat.le_of_ble_eq_true rfl) (mb_run3 hw5 hw6 hg7 e9 hg8) ?_
  refine i_192_12 (lv2 := [(5, Value.int 64), (4, Value.int 64), (0, Value.ref 128), (1, Value.int a0), (2, Value.ref 135), (3, Value.int a1)]) rfl ?_
  refine i_192_14 (x := 128) rfl ?_
  refine i_192_15 (v := Value.ref 157) hw0 rfl ?_
  refine i_192_18 (x := a0) rfl ?_
  refine i_192_19 (v := Value.ref h0) hw10 e2 e3 hg11 ?_
  refine i_192_20 ?_
  refine i_192_21 hw12 (Nat.le_of_ble_eq_true rfl) (s_179_1 hw12 e13) ?_
  refine i_192_24 (x := 64) rfl ?_
  refine i_192_26 (x := 64) rfl ?_
  refine i_192_28 (fun _ => ?_) (fun h => absurd h (by decide))
  refine i_192_67 (x := 128) rfl ?_
  refine i_192_68 (v := Value.ref 137) (xgn e14 hw0) rfl ?_
  refine i_192_71 (x := 135) rfl ?_
  refine i_192_72 (xgn e15 hw16) (Nat.le_of_ble_eq_true rfl) (s_182_7 (xgn e17 hw5) (xgn e15 hw16) (xgn e18 hw6) (xgn e19 hw20) hg21 hg22 hg7) ?_
  refine i_192_75 (x := 128) rfl ?_
  refine i_192_76 (v := Value.ref 137) (xgn (by decide) (xgn (by decide) (xgn e14 hw0))) rfl ?_
  refine i_192_79 (x := 64) rfl ?_
  refine i_192_81 (x := 64) rfl ?_
  refine i_192_83 (c := 0) (by decide) ?_
  refine i_192_84 (xgs (xgn (by decide) (xgn e15 hw16))) (Nat.le_of_ble_eq_true rfl) (s_188_6 (xgs (xgn (by decide) (xgn e15 hw16)))) ?_
  refine i_192_87 (x := 128) rfl ?_
  refine i_192_88 (v := Value.ref 157) (xgn (by decide) (xgn (by decide) (xgn e14 hw0))) rfl ?_
  refine i_192_91 (x := a0) rfl ?_
  refine i_192_92 (v := Value.ref h0) (xgn (by decide) (xgn (by decide) (xgn e23 hw10))) e2 e3 hg11 ?_
  refine i_192_93 (x := 128) rfl ?_
  refine i_192_94 (v := Value.ref 137) (xgn (by decide) (xgn (by decide) (xgn e14 hw0))) rfl ?_
  refine i_192_97 (xgn e24 (xgn e25 (xgs hw12))) (Nat.le_of_ble_eq_true rfl) (s_182_8 (xgs (xgn (by decide) (xgn e15 hw16))) (xgn e24 (xgn e25 (xgs hw12))) (xgn (by decide) (xgs (xgn e19 hw20))) (xgn e26 (xgn e27 (xgn e28 hw29))) (xcp_i rfl hg21) (xcp_i rfl hg22) (xcp_i rfl hg7) e30 e31 e32 e13) ?_
  refine i_192_100 (x := 128) rfl ?_
  refine i_192_101 (v := Value.ref 154) (xgn e14 (xgn e33 (xgn (by decide) (xgn (by decide) (xgn e14 hw0))))) rfl ?_
  refine i_192_104 (x := a0) rfl ?_
  refine i_192_105 ?_
  refine i_192_106 (v := Value.int 3) (xgn e34 (xgn e35 (xgn (by decide) (xgn (by decide) (xgn e34 hw36))))) e2 e3 (by decide) rfl ?_
  refine i_192_107 (x := 128) rfl ?_
  refine i_192_108 (v := Value.ref 155) (xgn (by decide) (xgn e14 (xgn e33 (xgn (by decide) (xgn (by decide) (xgn e14 hw0)))))) rfl ?_
  refine i_192_111 (x := a0) rfl ?_
  refine i_192_112 (x := 64) rfl ?_
  refine i_192_114 (x := a1) rfl ?_
  refine i_192_115 (c := a5) hg37 ?_
  refine i_192_116 (v := Value.int a5) (xgn (by decide) (xgn e38 (xgn e39 (xgn (by decide) (xgn (by decide) (xgn e38 hw40)))))) e2 e3 (by decide) rfl ?_
  exact i_192_117 ⟨rfl, rfl⟩
theorem sf0_20 {d : Nat} {xs : Nat → Int32} {m : Int64} {sc md : Int32} {w : xW} {B E U C q0 q1 q2 nn : Int32} {g : Nat → Value} (hk : ∀ h, 131 ≤ h → h < 194 → h ≠ 135 → h ≠ 136 → h ≠ 156 → w[h]? = (W0 6 xs)[h]?) (hm : w[128]? = some (Sum.inr (12, [Value.ref 129, Value.ref 131, Value.ref 133, Value.ref 135, Value.ref 137, Value.ref 139, Value.ref 141, Value.ref 143, Value.ref 145, Value.ref 147, Value.ref 149, Value.ref 151, Value.ref 153, Value.ref 154, Value.ref 155, Value.ref 156, Value.ref 157, Value.int (-16384), Value.int 16384, Value.int 0, Value.int 0, Value.int 0, Value.ref 158, Value.ref 159, Value.int 0, Value.int 0, Value.int 0, Value.int 0, Value.int 0, Value.int 0, Value.int 0, Value.int 0]))) (hv : w[129]? = some (Sum.inr (13, [Value.ref 130, Value.int nn]))) (hq : w[135]? = some (Sum.inr (13, [Value.ref 136, Value.int 3]))) (hqw : w[136]? = some (Sum.inl (0, 4700, g))) (hg0 : g (0 : Int32).toInt.toNat = Value.int q0) (hg1 : g (1 : Int32).toInt.toNat = Value.int q1) (hg2 : g (2 : Int32).toInt.toNat = Value.int q2) (hn : w[156]? = some (Sum.inl (2, 17, xup (fun _ => Value.int 0) (xs 1).toInt.toNat (Value.int 0)))) (hbits : ∀ (d' : Nat) (w' : xW), w'[129]? = w[129]? → w'[130]? = w[130]? → xRun d' 181 [Value.ref 129] w' (.inl (some (Value.int B))) w') (hany0 : xPW m → ∀ (d' : Nat) (w' : xW), w'[129]? = w[129]? → w'[130]? = w[130]? → xRun d' 183 [Value.ref 129, Value.int (B - (1 : Int32))] w' (.inl (some (Value.int 0))) w') (hany1 : ¬ xPW m → ∀ (d' : Nat) (w' : xW), w'[129]? = w[129]? → w'[130]? = w[130]? → xRun d' 183 [Value.ref 129, Value.int (B - (1 : Int32))] w' (.inl (some (Value.int 1))) w') (c0 : 0 ≤ (xs 1).toInt) (c1 : (xs 1).toInt < 16) (c2 : (-40000) ≤ sc.toInt) (c3 : sc.toInt ≤ 40000) (c4 : 0 ≤ md.toInt) (c5 : md.toInt ≤ 4) (c6 : 1 ≤ B.toInt) (c7 : B.toInt ≤ 64) (c8 : E.toInt = B.toInt + sc.toInt) (c9 : U.toInt = E.toInt - 64) (c10 : 0 ≤ q2.toInt) (c11 : (xbn q2).toInt = 4) (c12 : E.toInt ≤ 16384) (c13 : (-16384) ≤ E.toInt) : ∃ w2, xEv (d + 6) 180 207 [(14, Value.int 0), (13, Value.int E), (12, Value.int 1), (11, Value.int 0), (10, Value.int C), (9, Value.int U), (8, Value.int E), (7, Value.int 64), (0, Value.ref 128), (1, Value.int (xs 1)), (2, Value.ref 129), (3, Value.int sc), (4, Value.int 0), (5, Value.int 0), (6, Value.int md)] [] w (fun o' w' => o' = .inl (some (Value.int 0)) ∧ w' = w2) ∧ xKp w w2 xPM ∧ w2[128]? = some (Sum.inr (12, [Value.ref 129, Value.ref 131, Value.ref 133, Value.ref 135, Value.ref 137, Value.ref 139, Value.ref 141, Value.ref 143, Value.ref 145, Value.ref 147, Value.ref 149, Value.ref 151, Value.ref 153, Value.ref 154, Value.ref 155, Value.ref 156, Value.ref 157, Value.int (-16384), Value.int 16384, Value.int 0, Value.int 0, Value.int 0, Value.ref 158, Value.ref 159, Value.int 0, Value.int 0, Value.int 0, Value.int 0, Value.int 0, Value.int 0, Value.int 0, Value.int 0])) := by
  have f0 : ((60 : Int32) + (xbn q2)).toInt = 60 + (xbn q2).toInt := xadd_g rfl rfl (by omega) (by omega)
  have f1 : ((64 : Int32) + U).toInt = 64 + U.toInt := xadd_g rfl rfl (by omega) (by omega)
  refine ⟨(((((((w.set (160 + 2 * (xs 1).toInt.toNat) (Sum.inr (13, [Value.ref (161 + 2 * (xs 1).toInt.toNat), Value.int 0]))).set 138 (Sum.inl (0, 4700, xcp g (fun _ => Value.int 0) (0 : Int32).toInt.toNat (0 : Int32).toInt.toNat (3 : Int32).toInt.toNat))).set 137 (Sum.inr (13, [Value.ref 138, Value.int 3]))).set (161 + 2 * (xs 1).toInt.toNat) (Sum.inl (0, 140, xcp (xcp g (fun _ => Value.int 0) (0 : Int32).toInt.toNat (0 : Int32).toInt.toNat (3 : Int32).toInt.toNat) (fun _ => Value.int 0) (0 : Int32).toInt.toNat (0 : Int32).toInt.toNat (3 : Int32).toInt.toNat))).set (160 + 2 * (xs 1).toInt.toNat) (Sum.inr (13, [Value.ref (161 + 2 * (xs 1).toInt.toNat), Value.int 3]))).set 154 (Sum.inl (0, 17, xup (fun _ => Value.int 0) (xs 1).toInt.toNat (Value.int 3)))).set 155 (Sum.inl (0, 17, xup (fun _ => Value.int 0) (xs 1).toInt.toNat (Value.int E)))), ?_, ?_, xgn (by decide) (xgn (by decide) (xgn (by omega) (xgn (by omega) (xgn (by decide) (xgn (by decide) (xgn (by omega) hm))))))⟩
  · refine i_180_207 (x := 128) rfl ?_
    refine i_180_208 (v := Value.int 0) hm rfl ?_
    refine i_180_211 (fun h => absurd h (by decide)) (fun _ => ?_)
    refine i_180_214 (x := 128) rfl ?_
    refine i_180_215 (v := Value.ref 135) hm rfl ?_
    refine i_180_218 (v := Value.int 3) hq rfl ?_
    refine i_180_221 (fun h => absurd h (by decide)) (fun _ => ?_)
    refine i_180_224 (x := E) rfl ?_
    refine i_180_226 (x := 128) rfl ?_
    refine i_180_227 (v := Value.int 16384) hm rfl ?_
    refine i_180_230 (fun _ => ?_) (fun h => absurd (show E.toInt ≤ 16384 by omega) (Int.not_le.mpr h))
    refine i_180_367 (x := 128) rfl ?_
    refine i_180_368 (v := Value.ref 135) hm rfl ?_
    refine i_180_371 (v := Value.int 3) hq rfl ?_
    refine i_180_374 (fun _ => ?_) (fun h => absurd h (by decide))
    refine i_180_392 (x := 128) rfl ?_
    refine i_180_393 (v := Value.int 0) hm rfl ?_
    refine i_180_396 (fun h => absurd h (by decide)) (fun _ => ?_)
    refine i_180_399 (x := 128) rfl ?_
    refine i_180_400 (v := Value.int 0) hm rfl ?_
    refine i_180_403 (fun h => absurd h (by decide)) (fun _ => ?_)
    refine i_180_406 (x := E) rfl ?_
    refine i_180_408 (x := 128) rfl ?_
    refine i_180_409 (v := Value.int (-16384)) hm rfl ?_
    refine i_180_412 (fun _ => ?_) (fun h => absurd (show (-16384) ≤ E.toInt by omega) (Int.not_le.mpr h))
    refine i_180_580 (x := 128) rfl ?_
    refine i_180_581 (x := (xs 1)) rfl ?_
    refine i_180_582 (x := 128) rfl ?_
    refine i_180_583 (v := Value.ref 135) hm rfl ?_
    refine i_180_586 (x := U) rfl ?_
    refine i_180_588 hm (Nat.le_of_ble_eq_true rfl) (s_192_2 hm ((hk 153 (by decide) (by decide) (by decide) (by decide) (by decide)).trans W0_153) (by omega) (by omega) (gprec_at (by omega)) hq hqw hg2 (show ((60 : Int32) + (xbn q2)) = 64 from (xge_c (n := 64) (by omega) rfl)) (by omega) ((hk 157 (by decide) (by decide) (by decide) (by decide) (by decide)).trans W0_157) (gpart_at (by omega)) ((hk _ (by omega) (by omega) (by omega) (by omega) (by omega)).trans (W0_part (by omega))) (by omega) (by omega) (by omega) ((hk 137 (by decide) (by decide) (by decide) (by decide) (by decide)).trans W0_137) (by omega) (by omega) (by omega) ((hk 138 (by decide) (by decide) (by decide) (by decide) (by decide)).trans W0_138) hg0 hg1 (by omega) (by omega) (by omega) (by omega) (by omega) (by omega) ((hk _ (by omega) (by omega) (by omega) (by omega) (by omega)).trans (W0_pw (by omega))) (by omega) (by omega) (by omega) (by omega) (by omega) (by omega) ((hk 154 (by decide) (by decide) (by decide) (by decide) (by decide)).trans W0_154) (show ((64 : Int32) + U) = E from (xge_i (by omega))) (by omega) (by omega) ((hk 155 (by decide) (by decide) (by decide) (by decide) (by decide)).trans W0_155)) ?_
    refine i_180_591 (x := 128) rfl ?_
    refine i_180_592 (v := Value.int 0) (xgn (by decide) (xgn (by decide) (xgn (by omega) (xgn (by omega) (xgn (by decide) (xgn (by decide) (xgn (by omega) hm))))))) rfl ?_
    refine i_180_595 (fun h => absurd h (by decide)) (fun _ => ?_)
    refine i_180_598 (x := 128) rfl ?_
    refine i_180_599 (v := Value.int 0) (xgn (by decide) (xgn (by decide) (xgn (by omega) (xgn (by omega) (xgn (by decide) (xgn (by decide) (xgn (by omega) hm))))))) rfl ?_
    refine i_180_602 (fun _ => ?_) (fun h => absurd h (by decide))
    refine i_180_629 (x := 0) rfl ?_
    refine i_180_631 (fun _ => ?_) (fun h => absurd h (by decide))
    refine i_180_644 (x := 0) rfl ?_
    refine i_180_646 (fun _ => ?_) (fun h => absurd h (by decide))
    refine i_180_655 (x := 0) rfl ?_
    exact i_180_657 ⟨rfl, rfl⟩
  · refine xKp.set ?_ (fun h hh => by unfold xPM at hh; omega) (xgn (by decide) (xgn (by omega) (xgn (by omega) (xgn (by decide) (xgn (by decide) (xgn (by omega) (((hk 155 (by decide) (by decide) (by decide) (by decide) (by decide)).trans W0_155)))))))) xcs_a
    refine xKp.set ?_ (fun h hh => by unfold xPM at hh; omega) (xgn (by omega) (xgn (by omega) (xgn (by decide) (xgn (by decide) (xgn (by omega) (((hk 154 (by decide) (by decide) (by decide) (by decide) (by decide)).trans W0_154))))))) xcs_a
    refine xKp.set ?_ (fun h hh => by unfold xPM at hh; omega) (xgn (by omega) (xgn (by omega) (xgn (by omega) (xgs ((hk _ (by omega) (by omega) (by omega) (by omega) (by omega)).trans (W0_part (by omega))))))) xcs_o
    refine xKp.set ?_ (fun h hh => by unfold xPM at hh; omega) (xgn (by omega) (xgn (by omega) (xgn (by omega) (((hk _ (by omega) (by omega) (by omega) (by omega) (by omega)).trans (W0_pw (by omega))))))) xcs_a
    refine xKp.set ?_ (fun h hh => by unfold xPM at hh; omega) (xgn (by decide) (xgn (by omega) (((hk 137 (by decide) (by decide) (by decide) (by decide) (by decide)).trans W0_137)))) xcs_o
    refine xKp.set ?_ (fun h hh => by unfold xPM at hh; omega) (xgn (by omega) (((hk 138 (by decide) (by decide) (by decide) (by decide) (by decide)).trans W0_138))) xcs_a
    refine xKp.set ?_ (fun h hh => by unfold xPM at hh; omega) (((hk _ (by omega) (by omega) (by omega) (by omega) (by omega)).trans (W0_part (by omega)))) xcs_o
    exact xKp.refl
theorem suf_0 {d : Nat} {xs : Nat → Int32} {m : Int64} {sc md : Int32} {w : xW} {B E U C q0 q1 q2 nn : Int32} {g : Nat → Value} (hB : B.toInt = (xbl (xul m) : Int)) (hk : ∀ h, 131 ≤ h → h < 194 → h ≠ 135 → h ≠ 136 → h ≠ 156 → w[h]? = (W0 6 xs)[h]?) (hm : w[128]? = some (Sum.inr (12, [Value.ref 129, Value.ref 131, Value.ref 133, Value.ref 135, Value.ref 137, Value.ref 139, Value.ref 141, Value.ref 143, Value.ref 145, Value.ref 147, Value.ref 149, Value.ref 151, Value.ref 153, Value.ref 154, Value.ref 155, Value.ref 156, Value.ref 157, Value.int (-16384), Value.int 16384, Value.int 0, Value.int 0, Value.int 0, Value.ref 158, Value.ref 159, Value.int 0, Value.int 0, Value.int 0, Value.int 0, Value.int 0, Value.int 0, Value.int 0, Value.int 0]))) (hv : w[129]? = some (Sum.inr (13, [Value.ref 130, Value.int nn]))) (hq : w[135]? = some (Sum.inr (13, [Value.ref 136, Value.int 3]))) (hqw : w[136]? = some (Sum.inl (0, 4700, g))) (hg0 : g (0 : Int32).toInt.toNat = Value.int q0) (hg1 : g (1 : Int32).toInt.toNat = Value.int q1) (hg2 : g (2 : Int32).toInt.toNat = Value.int q2) (hn : w[156]? = some (Sum.inl (2, 17, xup (fun _ => Value.int 0) (xs 1).toInt.toNat (Value.int 0)))) (hbits : ∀ (d' : Nat) (w' : xW), w'[129]? = w[129]? → w'[130]? = w[130]? → xRun d' 181 [Value.ref 129] w' (.inl (some (Value.int B))) w') (hany0 : xPW m → ∀ (d' : Nat) (w' : xW), w'[129]? = w[129]? → w'[130]? = w[130]? → xRun d' 183 [Value.ref 129, Value.int (B - (1 : Int32))] w' (.inl (some (Value.int 0))) w') (hany1 : ¬ xPW m → ∀ (d' : Nat) (w' : xW), w'[129]? = w[129]? → w'[130]? = w[130]? → xRun d' 183 [Value.ref 129, Value.int (B - (1 : Int32))] w' (.inl (some (Value.int 1))) w') (c0 : 0 ≤ (xs 1).toInt) (c1 : (xs 1).toInt < 16) (c2 : (-40000) ≤ sc.toInt) (c3 : sc.toInt ≤ 40000) (c4 : 0 ≤ md.toInt) (c5 : md.toInt ≤ 4) (c6 : 1 ≤ B.toInt) (c7 : B.toInt ≤ 64) (c8 : E.toInt = B.toInt + sc.toInt) (c9 : U.toInt = E.toInt - 64) (c10 : 0 ≤ q2.toInt) (c11 : (xbn q2).toInt = 4) : ∃ w2, xEv (d + 6) 180 207 [(14, Value.int 0), (13, Value.int E), (12, Value.int 1), (11, Value.int 0), (10, Value.int C), (9, Value.int U), (8, Value.int E), (7, Value.int 64), (0, Value.ref 128), (1, Value.int (xs 1)), (2, Value.ref 129), (3, Value.int sc), (4, Value.int 0), (5, Value.int 0), (6, Value.int md)] [] w (fun o' w' => o' = .inl (some (Value.int (xres 0 m sc md))) ∧ w' = w2) ∧ xKp w w2 xPM ∧ ∃ f, w2[128]? = some (xmo f) := by
  rcases Int.lt_or_le (16384) E.toInt with c12 | c12
  · by_cases c13 : md.toInt = 0
    · have e : xres 0 m sc md = 1 := (by unfold xres; rw [← hB, ← c8]; exact (xans_o1 (by omega) (by omega)).trans rfl)
      rw [e]
      obtain ⟨w2, h1, h2, h3⟩ := sf0_0 (d := d) hk hm hv hq hqw hg0 hg1 hg2 hn hbits hany0 hany1 c0 c1 c2 c3 c4 c5 c6 c7 c8 c9 c10 c11 c12 c13
      exact ⟨w2, h1, h2, 3, h3⟩
    · by_cases c14 : md.toInt = 4
      · have e : xres 0 m sc md = 1 := (by unfold xres; rw [← hB, ← c8]; exact (xans_o1 (by omega) (by omega)).trans rfl)
        rw [e]
        obtain ⟨w2, h1, h2, h3⟩ := sf0_1 (d := d) hk hm hv hq hqw hg0 hg1 hg2 hn hbits hany0 hany1 c0 c1 c2 c3 c4 c5 c6 c7 c8 c9 c10 c11 c12 c13 c14
        exact ⟨w2, h1, h2, 3, h3⟩
      · by_cases c15 : md.toInt = 2
        · have e : xres 0 m sc md = 1 := (by unfold xres; rw [← hB, ← c8]; exact (xans_o1 (by omega) (by omega)).trans rfl)
          rw [e]
          obtain ⟨w2, h1, h2, h3⟩ := sf0_2 (d := d) hk hm hv hq hqw hg0 hg1 hg2 hn hbits hany0 hany1 c0 c1 c2 c3 c4 c5 c6 c7 c8 c9 c10 c11 c12 c13 c14 c15
          exact ⟨w2, h1, h2, 3, h3⟩
        · by_cases c16 : md.toInt = 3
          · have e : xres 0 m sc md = (-1) := (by unfold xres; rw [← hB, ← c8]; exact (xans_o0 (by omega) (by omega)).trans rfl)
            rw [e]
            obtain ⟨w2, h1, h2, h3⟩ := sf0_3 (d := d) hk hm hv hq hqw hg0 hg1 hg2 hn hbits hany0 hany1 c0 c1 c2 c3 c4 c5 c6 c7 c8 c9 c10 c11 c12 c13 c14 c15 c16
            exact ⟨w2, h1, h2, 3, h3⟩
          · have e : xres 0 m sc md = (-1) := (by unfold xres; rw [← hB, ← c8]; exact (xans_o0 (by omega) (by omega)).trans rfl)
            rw [e]
            obtain ⟨w2, h1, h2, h3⟩ := sf0_4 (d := d) hk hm hv hq hqw hg0 hg1 hg2 hn hbits hany0 hany1 c0 c1 c2 c3 c4 c5 c6 c7 c8 c9 c10 c11 c12 c13 c14 c15 c16
            exact ⟨w2, h1, h2, 3, h3⟩
  · rcases Int.lt_or_le E.toInt (-16384) with c13 | c13
    · by_cases c14 : E.toInt = (-16385)
      · by_cases c15 : xPW m
        · by_cases c16 : md.toInt = 4
          · have e : xres 0 m sc md = 1 := (by unfold xres; rw [← hB, ← c8]; exact (xans_u1 (by omega) (by omega)).trans rfl)
            rw [e]
            obtain ⟨w2, h1, h2, h3⟩ := sf0_5 (d := d) hk hm hv hq hqw hg0 hg1 hg2 hn hbits hany0 hany1 c0 c1 c2 c3 c4 c5 c6 c7 c8 c9 c10 c11 c12 c13 c14 c15 c16
            exact ⟨w2, h1, h2, 5, h3⟩
          · by_cases c17 : md.toInt = 2
            · have e : xres 0 m sc md = 1 := (by unfold xres; rw [← hB, ← c8]; exact (xans_u1 (by omega) (by omega)).trans rfl)
              rw [e]
              obtain ⟨w2, h1, h2, h3⟩ := sf0_6 (d := d) hk hm hv hq hqw hg0 hg1 hg2 hn hbits hany0 hany1 c0 c1 c2 c3 c4 c5 c6 c7 c8 c9 c10 c11 c12 c13 c14 c15 c16 c17
              exact ⟨w2, h1, h2, 5, h3⟩
            · by_cases c18 : md.toInt = 3
              · have e : xres 0 m sc md = (-1) := (by unfold xres; rw [← hB, ← c8]; exact (xans_u0 (by omega) (by omega) (fun _ _ => c15)).trans rfl)
                rw [e]
                obtain ⟨w2, h1, h2, h3⟩ := sf0_7 (d := d) hk hm hv hq hqw hg0 hg1 hg2 hn hbits hany0 hany1 c0 c1 c2 c3 c4 c5 c6 c7 c8 c9 c10 c11 c12 c13 c14 c15 c16 c17 c18
                exact ⟨w2, h1, h2, 5, h3⟩
              · by_cases c19 : md.toInt = 0
                · have e : xres 0 m sc md = (-1) := (by unfold xres; rw [← hB, ← c8]; exact (xans_u0 (by omega) (by omega) (fun _ _ => c15)).trans rfl)
                  rw [e]
                  obtain ⟨w2, h1, h2, h3⟩ := sf0_8 (d := d) hk hm hv hq hqw hg0 hg1 hg2 hn hbits hany0 hany1 c0 c1 c2 c3 c4 c5 c6 c7 c8 c9 c10 c11 c12 c13 c14 c15 c16 c17 c18 c19
                  exact ⟨w2, h1, h2, 5, h3⟩
                · have e : xres 0 m sc md = (-1) := (by unfold xres; rw [← hB, ← c8]; exact (xans_u0 (by omega) (by omega) (fun _ _ => c15)).trans rfl)
                  rw [e]
                  obtain ⟨w2, h1, h2, h3⟩ := sf0_9 (d := d) hk hm hv hq hqw hg0 hg1 hg2 hn hbits hany0 hany1 c0 c1 c2 c3 c4 c5 c6 c7 c8 c9 c10 c11 c12 c13 c14 c15 c16 c17 c18 c19
                  exact ⟨w2, h1, h2, 5, h3⟩
        · by_cases c16 : md.toInt = 4
          · have e : xres 0 m sc md = 1 := (by unfold xres; rw [← hB, ← c8]; exact (xans_u1 (by omega) (by omega)).trans rfl)
            rw [e]
            obtain ⟨w2, h1, h2, h3⟩ := sf0_10 (d := d) hk hm hv hq hqw hg0 hg1 hg2 hn hbits hany0 hany1 c0 c1 c2 c3 c4 c5 c6 c7 c8 c9 c10 c11 c12 c13 c14 c15 c16
            exact ⟨w2, h1, h2, 5, h3⟩
          · by_cases c17 : md.toInt = 2
            · have e : xres 0 m sc md = 1 := (by unfold xres; rw [← hB, ← c8]; exact (xans_u1 (by omega) (by omega)).trans rfl)
              rw [e]
              obtain ⟨w2, h1, h2, h3⟩ := sf0_11 (d := d) hk hm hv hq hqw hg0 hg1 hg2 hn hbits hany0 hany1 c0 c1 c2 c3 c4 c5 c6 c7 c8 c9 c10 c11 c12 c13 c14 c15 c16 c17
              exact ⟨w2, h1, h2, 5, h3⟩
            · by_cases c18 : md.toInt = 3
              · have e : xres 0 m sc md = (-1) := (by unfold xres; rw [← hB, ← c8]; exact (xans_u0 (by omega) (by omega) (fun h1 h2 => by omega)).trans rfl)
                rw [e]
                obtain ⟨w2, h1, h2, h3⟩ := sf0_12 (d := d) hk hm hv hq hqw hg0 hg1 hg2 hn hbits hany0 hany1 c0 c1 c2 c3 c4 c5 c6 c7 c8 c9 c10 c11 c12 c13 c14 c15 c16 c17 c18
                exact ⟨w2, h1, h2, 5, h3⟩
              · by_cases c19 : md.toInt = 0
                · have e : xres 0 m sc md = 1 := (by unfold xres; rw [← hB, ← c8]; exact (xans_u2 (by omega) (by omega) (by omega) c15).trans rfl)
                  rw [e]
                  obtain ⟨w2, h1, h2, h3⟩ := sf0_13 (d := d) hk hm hv hq hqw hg0 hg1 hg2 hn hbits hany0 hany1 c0 c1 c2 c3 c4 c5 c6 c7 c8 c9 c10 c11 c12 c13 c14 c15 c16 c17 c18 c19
                  exact ⟨w2, h1, h2, 5, h3⟩
                · have e : xres 0 m sc md = (-1) := (by unfold xres; rw [← hB, ← c8]; exact (xans_u0 (by omega) (by omega) (fun h1 h2 => by omega)).trans rfl)
                  rw [e]
                  obtain ⟨w2, h1, h2, h3⟩ := sf0_14 (d := d) hk hm hv hq hqw hg0 hg1 hg2 hn hbits hany0 hany1 c0 c1 c2 c3 c4 c5 c6 c7 c8 c9 c10 c11 c12 c13 c14 c15 c16 c17 c18 c19
                  exact ⟨w2, h1, h2, 5, h3⟩
      · by_cases c15 : md.toInt = 4
        · have e : xres 0 m sc md = 1 := (by unfold xres; rw [← hB, ← c8]; exact (xans_u1 (by omega) (by omega)).trans rfl)
          rw [e]
          obtain ⟨w2, h1, h2, h3⟩ := sf0_15 (d := d) hk hm hv hq hqw hg0 hg1 hg2 hn hbits hany0 hany1 c0 c1 c2 c3 c4 c5 c6 c7 c8 c9 c10 c11 c12 c13 c14 c15
          exact ⟨w2, h1, h2, 5, h3⟩
        · by_cases c16 : md.toInt = 2
          · have e : xres 0 m sc md = 1 := (by unfold xres; rw [← hB, ← c8]; exact (xans_u1 (by omega) (by omega)).trans rfl)
            rw [e]
            obtain ⟨w2, h1, h2, h3⟩ := sf0_16 (d := d) hk hm hv hq hqw hg0 hg1 hg2 hn hbits hany0 hany1 c0 c1 c2 c3 c4 c5 c6 c7 c8 c9 c10 c11 c12 c13 c14 c15 c16
            exact ⟨w2, h1, h2, 5, h3⟩
          · by_cases c17 : md.toInt = 3
            · have e : xres 0 m sc md = (-1) := (by unfold xres; rw [← hB, ← c8]; exact (xans_u0 (by omega) (by omega) (fun h1 h2 => by omega)).trans rfl)
              rw [e]
              obtain ⟨w2, h1, h2, h3⟩ := sf0_17 (d := d) hk hm hv hq hqw hg0 hg1 hg2 hn hbits hany0 hany1 c0 c1 c2 c3 c4 c5 c6 c7 c8 c9 c10 c11 c12 c13 c14 c15 c16 c17
              exact ⟨w2, h1, h2, 5, h3⟩
            · by_cases c18 : md.toInt = 0
              · have e : xres 0 m sc md = (-1) := (by unfold xres; rw [← hB, ← c8]; exact (xans_u0 (by omega) (by omega) (fun h1 h2 => by omega)).trans rfl)
                rw [e]
                obtain ⟨w2, h1, h2, h3⟩ := sf0_18 (d := d) hk hm hv hq hqw hg0 hg1 hg2 hn hbits hany0 hany1 c0 c1 c2 c3 c4 c5 c6 c7 c8 c9 c10 c11 c12 c13 c14 c15 c16 c17 c18
                exact ⟨w2, h1, h2, 5, h3⟩
              · have e : xres 0 m sc md = (-1) := (by unfold xres; rw [← hB, ← c8]; exact (xans_u0 (by omega) (by omega) (fun h1 h2 => by omega)).trans rfl)
                rw [e]
                obtain ⟨w2, h1, h2, h3⟩ := sf0_19 (d := d) hk hm hv hq hqw hg0 hg1 hg2 hn hbits hany0 hany1 c0 c1 c2 c3 c4 c5 c6 c7 c8 c9 c10 c11 c12 c13 c14 c15 c16 c17 c18
                exact ⟨w2, h1, h2, 5, h3⟩
    · have e : xres 0 m sc md = 0 := (by unfold xres; rw [← hB, ← c8]; exact (xans_in (by omega) (by omega)).trans rfl)
      rw [e]
      obtain ⟨w2, h1, h2, h3⟩ := sf0_20 (d := d) hk hm hv hq hqw hg0 hg1 hg2 hn hbits hany0 hany1 c0 c1 c2 c3 c4 c5 c6 c7 c8 c9 c10 c11 c12 c13
      exact ⟨w2, h1, h2, 0, h3⟩
theorem rd1_0 {d : Nat} {xs : Nat → Int32} {m : Int64} {sc md : Int32} {w : xW} {g : Nat → Value} {B K P G : Int32} (hk : ∀ h, 131 ≤ h → h < 194 → w[h]? = (W0 6 xs)[h]?) (hm : w[128]? = some (Sum.inr (12, [Value.ref 129, Value.ref 131, Value.ref 133, Value.ref 135, Value.ref 137, Value.ref 139, Value.ref 141, Value.ref 143, Value.ref 145, Value.ref 147, Value.ref 149, Value.ref 151, Value.ref 153, Value.ref 154, Value.ref 155, Value.ref 156, Value.ref 157, Value.int (-16384), Value.int 16384, Value.int 0, Value.int 0, Value.int 0, Value.ref 158, Value.ref 159, Value.int 0, Value.int 0, Value.int 0, Value.int 0, Value.int 0, Value.int 0, Value.int 0, Value.int 0]))) (hv : w[129]? = some (Sum.inr (13, [Value.ref 130, Value.int 1]))) (hvw : w[130]? = some (Sum.inl (0, 4700, g))) (hg0 : g (0 : Int32).toInt.toNat = Value.int (xq m)) (hB : B.toInt = (xbl (xul m) : Int)) (c0 : 0 ≤ (xs 1).toInt) (c1 : (xs 1).toInt < 16) (c2 : (-40000) ≤ sc.toInt) (c3 : sc.toInt ≤ 40000) (c4 : 0 ≤ md.toInt) (c5 : md.toInt ≤ 4) (c6 : K.toInt = 64 - B.toInt) (c7 : 1 ≤ B.toInt) (c8 : B.toInt ≤ 4) (c9 : (xhi m).toInt = 0) (c10 : (xlo m).toInt ≠ 0) (c11 : (xnlz (xlo m)).toInt = 32 - B.toInt) (c12 : (xbf 1 (xlo m) (0 : Int32) ((32 : Int32) - K)).toInt ≠ 0) (c13 : (lg_cmp m (0 : Int64)).toInt ≠ 0) (c14 : (lg_cmp (xqs m) (0 : Int64)).toInt = 0) (c15 : (xbn (xq m)).toInt = B.toInt) (c16 : (xq m).toInt ≠ 0) (c17 : 0 ≤ (xq m).toInt) (c18 : K.toInt ≠ 0) (c19 : K / (30 : Int32) = 2) (c20 : K - K / (30 : Int32) * (30 : Int32) = P) (c21 : ((0 : Int32) ||| (xH (xq m) P)).toInt = 0) (c22 : (xL (xq m) P).toInt ≠ 0) (c23 : 0 ≤ (xL (xq m) P).toInt) (c24 : (xbn (xL (xq m) P)).toInt = 4) (c25 : G.toInt = B.toInt - 1) : ∃ w2, xRun (d + 6) 180 [Value.ref 128, Value.int (xs 1), Value.ref 129, Value.int sc, Value.int 0, Value.int 0, Value.int md] w (.inl (some (Value.int (xres 0 m sc md)))) w2 ∧ xKp w w2 xPM ∧ ∃ f, w2[128]? = some (xmo f) := by
  have f0 : ((0 : Int32) + (xbn (xq m))).toInt = 0 + (xbn (xq m)).toInt := xadd_g rfl rfl (by omega) (by omega)
  have f1 : (B + sc).toInt = B.toInt + sc.toInt := xadd_i (by omega) (by omega)
  have f2 : ((B + sc) - (64 : Int32)).toInt = (B + sc).toInt - 64 := xsub_g rfl rfl (by omega) (by omega)
  have f3 : (((B + sc) - (64 : Int32)) - sc).toInt = ((B + sc) - (64 : Int32)).toInt - sc.toInt := xsub_i (by omega) (by omega)
  have f4 : (-(((B + sc) - (64 : Int32)) - sc)).toInt = -(((B + sc) - (64 : Int32)) - sc).toInt := xneg_i (by omega)
  have f5 : ((60 : Int32) + (xbn (xL (xq m) P))).toInt = 60 + (xbn (xL (xq m) P)).toInt := xadd_g rfl rfl (by omega) (by omega)
  have f6 : ((64 : Int32) + ((B + sc) - (64 : Int32))).toInt = 64 + ((B + sc) - (64 : Int32)).toInt := xadd_g rfl rfl (by omega) (by omega)
  have fb : ((0 : Int32) + xbn (xq m)).toInt = B.toInt := by rw [xadd_i (by show _ ≤ (0 : Int) + _; omega) (by show (0 : Int) + _ < _; omega)]; show (0 : Int) + _ = _; omega
  obtain ⟨w2, h1, h2, h3⟩ := suf_0 (d := d) (xs := xs) (m := m) (sc := sc) (md := md) (w := (((((w.set 156 (Sum.inl (2, 17, xup (fun _ => Value.int 0) (xs 1).toInt.toNat (Value.int 0)))).set 136 (Sum.inl (0, 4700, xcp g (fun _ => Value.int 0) (0 : Int32).toInt.toNat (0 : Int32).toInt.toNat (1 : Int32).toInt.toNat))).set 135 (Sum.inr (13, [Value.ref 136, Value.int 1]))).set 136 (Sum.inl (0, 4700, xup (xup (xup (xup (xup (xcp g (fun _ => Value.int 0) (0 : Int32).toInt.toNat (0 : Int32).toInt.toNat (1 : Int32).toInt.toNat) (3 : Int32).toInt.toNat (Value.int 0)) (3 : Int32).toInt.toNat (Value.int 0)) (2 : Int32).toInt.toNat (Value.int (xL (xq m) P))) (0 : Int32).toInt.toNat (Value.int 0)) (1 : Int32).toInt.toNat (Value.int 0)))).set 135 (Sum.inr (13, [Value.ref 136, Value.int 3])))) (B := B) (E := (B + sc)) (U := ((B + sc) - (64 : Int32))) (C := (((B + sc) - (64 : Int32)) - sc)) hB (fun h h1 h2 h3 h4 h5 => (xgn (by omega) (xgn (by omega) (xgn (by omega) (xgn (by omega) (xgn (by omega) (rfl)))))).trans (hk h h1 h2)) (xgn (by decide) (xgn (by decide) (xgn (by decide) (xgn (by decide) (xgn (by decide) hm))))) (xgn (by decide) (xgn (by decide) (xgn (by decide) (xgn (by decide) (xgn (by decide) hv))))) (xgs (xgn (by decide) (xgs (xgn (by decide) (xgn (by decide) (((hk 135 (by decide) (by decide)).trans W0_135))))))) (xgn (by decide) (xgs (xgn (by decide) (xgs (xgn (by decide) (((hk 136 (by decide) (by decide)).trans W0_136))))))) (xup_n (by decide) xup_s) (xup_s) (xup_n (by decide) (xup_n (by decide) xup_s)) (xgn (by decide) (xgn (by decide) (xgn (by decide) (xgn (by decide) (xgs ((hk 156 (by decide) (by decide)).trans W0_156)))))) (fun d' w' e1 e2 => mb_run1 (e1.trans (xgn (by decide) (xgn (by decide) (xgn (by decide) (xgn (by decide) (xgn (by decide) hv)))))) (e2.trans (xgn (by decide) (xgn (by decide) (xgn (by decide) (xgn (by decide) (xgn (by decide) hvw)))))) hg0 (by omega) (xge_i (by omega))) (fun hp d' w' e1 e2 => any0_1 (xs := xs) (sc := sc) (md := md) (P := P) hB (e1.trans (xgn (by decide) (xgn (by decide) (xgn (by decide) (xgn (by decide) (xgn (by decide) hv)))))) (e2.trans (xgn (by decide) (xgn (by decide) (xgn (by decide) (xgn (by decide) (xgn (by decide) hvw)))))) hg0 c0 c1 c2 c3 c4 c5 c6 c7 c8 c9 c10 c11 c12 c13 c14 c15 c16 c17 c18 c19 c20 c21 c22 c23 c24 c25 hp) (fun hp d' w' e1 e2 => any1_1 (xs := xs) (sc := sc) (md := md) (P := P) hB (e1.trans (xgn (by decide) (xgn (by decide) (xgn (by decide) (xgn (by decide) (xgn (by decide) hv)))))) (e2.trans (xgn (by decide) (xgn (by decide) (xgn (by decide) (xgn (by decide) (xgn (by decide) hvw)))))) hg0 c0 c1 c2 c3 c4 c5 c6 c7 c8 c9 c10 c11 c12 c13 c14 c15 c16 c17 c18 c19 c20 c21 c22 c23 c24 c25 hp) c0 c1 c2 c3 c4 c5 (by omega) (by omega) (by omega) (by omega) (by omega) (by omega)
  refine ⟨w2, xRun.of ?_, xKp.trans ?_ h2, h3⟩
  · refine i_180_0 (x := 128) rfl ?_
    refine i_180_1 (v := Value.ref 153) hm rfl ?_
    refine i_180_4 (x := (xs 1)) rfl ?_
    refine i_180_5 (v := Value.int 64) ((hk 153 (by decide) (by decide)).trans W0_153) (by omega) (by omega) (gprec_at (by omega)) ?_
    refine i_180_6 (lv2 := [(7, Value.int 64), (0, Value.ref 128), (1, Value.int (xs 1)), (2, Value.ref 129), (3, Value.int sc), (4, Value.int 0), (5, Value.int 0), (6, Value.int md)]) rfl ?_
    refine i_180_8 (x := 129) rfl ?_
    refine i_180_9 hv (Nat.le_of_ble_eq_true rfl) (mb_run1 hv hvw hg0 (by omega) (show ((0 : Int32) + (xbn (xq m))) = B from (xge_i (by omega)))) ?_
    refine i_180_12 (x := sc) rfl ?_
    refine i_180_13 (c := (B + sc)) (show (B + sc) = (B + sc) from (xge_i (by omega))) ?_
    refine i_180_14 (lv2 := [(8, Value.int (B + sc)), (7, Value.int 64), (0, Value.ref 128), (1, Value.int (xs 1)), (2, Value.ref 129), (3, Value.int sc), (4, Value.int 0), (5, Value.int 0), (6, Value.int md)]) rfl ?_
    refine i_180_16 (x := 128) rfl ?_
    refine i_180_17 (v := Value.int 0) hm rfl ?_
    refine i_180_20 (fun h => absurd h (by decide)) (fun _ => ?_)
    refine i_180_23 (x := 128) rfl ?_
    refine i_180_24 (v := Value.int 0) hm rfl ?_
    refine i_180_27 (fun _ => ?_) (fun h => absurd h (by decide))
    refine i_180_49 (x := (B + sc)) rfl ?_
    refine i_180_51 (x := 64) rfl ?_
    refine i_180_53 (c := ((B + sc) - (64 : Int32))) rfl ?_
    refine i_180_54 (lv2 := [(9, Value.int ((B + sc) - (64 : Int32))), (8, Value.int (B + sc)), (7, Value.int 64), (0, Value.ref 128), (1, Value.int (xs 1)), (2, Value.ref 129), (3, Value.int sc), (4, Value.int 0), (5, Value.int 0), (6, Value.int md)]) rfl ?_
    refine i_180_56 (x := ((B + sc) - (64 : Int32))) rfl ?_
    refine i_180_58 (x := sc) rfl ?_
    refine i_180_59 (c := (((B + sc) - (64 : Int32)) - sc)) rfl ?_
    refine i_180_60 (lv2 := [(10, Value.int (((B + sc) - (64 : Int32)) - sc)), (9, Value.int ((B + sc) - (64 : Int32))), (8, Value.int (B + sc)), (7, Value.int 64), (0, Value.ref 128), (1, Value.int (xs 1)), (2, Value.ref 129), (3, Value.int sc), (4, Value.int 0), (5, Value.int 0), (6, Value.int md)]) rfl ?_
    refine i_180_62 (x := 128) rfl ?_
    refine i_180_63 (v := Value.ref 156) hm rfl ?_
    refine i_180_66 (x := (xs 1)) rfl ?_
    refine i_180_67 (x := 0) rfl ?_
    refine i_180_69z (v := Value.int 0) ((hk 156 (by decide) (by decide)).trans W0_156) (by omega) (by omega) (by omega) rfl ?_
    refine i_180_70 (x := 128) rfl ?_
    refine i_180_71 (v := Value.ref 135) (xgn (by decide) hm) rfl ?_
    refine i_180_74 (x := 129) rfl ?_
    refine i_180_75 (xgn (by decide) (((hk 135 (by decide) (by decide)).trans W0_135))) (Nat.le_of_ble_eq_true rfl) (s_182_0 (xgn (by decide) hv) (xgn (by decide) (((hk 135 (by decide) (by decide)).trans W0_135))) (xgn (by decide) hvw) (xgn (by decide) (((hk 136 (by decide) (by decide)).trans W0_136))) hg0) ?_
    refine i_180_78 ?_
    refine i_180_79 (lv2 := [(11, Value.int 0), (10, Value.int (((B + sc) - (64 : Int32)) - sc)), (9, Value.int ((B + sc) - (64 : Int32))), (8, Value.int (B + sc)), (7, Value.int 64), (0, Value.ref 128), (1, Value.int (xs 1)), (2, Value.ref 129), (3, Value.int sc), (4, Value.int 0), (5, Value.int 0), (6, Value.int md)]) rfl ?_
    refine i_180_81 (x := 0) rfl ?_
    refine i_180_83 (fun h => absurd h (by decide)) (fun _ => ?_)
    refine i_180_86 ?_
    refine i_180_87 ?_
    refine i_180_91 (lv2 := [(12, Value.int 1), (11, Value.int 0), (10, Value.int (((B + sc) - (64 : Int32)) - sc)), (9, Value.int ((B + sc) - (64 : Int32))), (8, Value.int (B + sc)), (7, Value.int 64), (0, Value.ref 128), (1, Value.int (xs 1)), (2, Value.ref 129), (3, Value.int sc), (4, Value.int 0), (5, Value.int 0), (6, Value.int md)]) rfl ?_
    refine i_180_93 (x := (((B + sc) - (64 : Int32)) - sc)) rfl ?_
    refine i_180_95 (fun _ => ?_) (fun h => absurd (show (((B + sc) - (64 : Int32)) - sc).toInt ≤ 0 by omega) (Int.not_le.mpr h))
    refine i_180_151 (x := 128) rfl ?_
    refine i_180_152 (v := Value.ref 135) (xgn (by decide) (xgn (by decide) (xgn (by decide) hm))) rfl ?_
    refine i_180_155 (x := (((B + sc) - (64 : Int32)) - sc)) rfl ?_
    refine i_180_157 (c := K) (show (-(((B + sc) - (64 : Int32)) - sc)) = K from (xge_i (by omega))) ?_
    refine i_180_158 (xgs (xgn (by decide) (xgn (by decide) (((hk 135 (by decide) (by decide)).trans W0_135))))) (Nat.le_of_ble_eq_true rfl) (s_188_0 (xgs (xgn (by decide) (xgn (by decide) (((hk 135 (by decide) (by decide)).trans W0_135))))) (by omega) (show (K / (30 : Int32)) = 2 from c19) (show (K - K / (30 : Int32) * (30 : Int32)) = P from c20) (xgn (by decide) (xgs (xgn (by decide) (((hk 136 (by decide) (by decide)).trans W0_136))))) (xcp_i rfl hg0) (show ((0 : Int32) ||| (xH (xq m) P)) = 0 from (xge_c (n := 0) (by omega) rfl)) (by omega)) ?_
    refine i_180_161 (x := 0) rfl ?_
    refine i_180_163 (fun _ => ?_) (fun h => absurd h (by decide))
    refine i_180_174 (x := 128) rfl ?_
    refine i_180_175 (v := Value.ref 135) (xgn (by decide) (xgn (by decide) (xgn (by decide) (xgn (by decide) (xgn (by decide) hm))))) rfl ?_
    refine i_180_178 (xgs (xgn (by decide) (xgs (xgn (by decide) (xgn (by decide) (((hk 135 (by decide) (by decide)).trans W0_135))))))) (Nat.le_of_ble_eq_true rfl) (mb_run3 (xgs (xgn (by decide) (xgs (xgn (by decide) (xgn (by decide) (((hk 135 (by decide) (by decide)).trans W0_135))))))) (xgn (by decide) (xgs (xgn (by decide) (xgs (xgn (by decide) (((hk 136 (by decide) (by decide)).trans W0_136))))))) (xup_n (by decide) (xup_n (by decide) xup_s)) (by omega) (show ((60 : Int32) + (xbn (xL (xq m) P))) = 64 from (xge_c (n := 64) (by omega) rfl))) ?_
    refine i_180_181 (x := ((B + sc) - (64 : Int32))) rfl ?_
    refine i_180_183 (c := (B + sc)) (show ((64 : Int32) + ((B + sc) - (64 : Int32))) = (B + sc) from (xge_i (by omega))) ?_
    refine i_180_184 (lv2 := [(13, Value.int (B + sc)), (12, Value.int 1), (11, Value.int 0), (10, Value.int (((B + sc) - (64 : Int32)) - sc)), (9, Value.int ((B + sc) - (64 : Int32))), (8, Value.int (B + sc)), (7, Value.int 64), (0, Value.ref 128), (1, Value.int (xs 1)), (2, Value.ref 129), (3, Value.int sc), (4, Value.int 0), (5, Value.int 0), (6, Value.int md)]) rfl ?_
    refine i_180_186 (x := 1) rfl ?_
    refine i_180_188 (fun h => absurd h (by decide)) (fun _ => ?_)
    refine i_180_191 ?_
    refine i_180_192 ?_
    refine i_180_205 (lv2 := [(14, Value.int 0), (13, Value.int (B + sc)), (12, Value.int 1), (11, Value.int 0), (10, Value.int (((B + sc) - (64 : Int32)) - sc)), (9, Value.int ((B + sc) - (64 : Int32))), (8, Value.int (B + sc)), (7, Value.int 64), (0, Value.ref 128), (1, Value.int (xs 1)), (2, Value.ref 129), (3, Value.int sc), (4, Value.int 0), (5, Value.int 0), (6, Value.int md)]) rfl ?_
    exact h1
  · refine xKp.set ?_ (fun h hh => by unfold xPM at hh; omega) (xgn (by decide) (xgs (xgn (by decide) (xgn (by decide) (((hk 135 (by decide) (by decide)).trans W0_135)))))) xcs_o
    refine xKp.set ?_ (fun h hh => by unfold xPM at hh; omega) (xgn (by decide) (xgs (xgn (by decide) (((hk 136 (by decide) (by decide)).trans W0_136))))) xcs_a
    refine xKp.set ?_ (fun h hh => by unfold xPM at hh; omega) (xgn (by decide) (xgn (by decide) (((hk 135 (by decide) (by decide)).trans W0_135)))) xcs_o
    refine xKp.set ?_ (fun h hh => by unfold xPM at hh; omega) (xgn (by decide) (((hk 136 (by decide) (by decide)).trans W0_136))) xcs_a
    refine xKp.set ?_ (fun h hh => by unfold xPM at hh; omega) (((hk 156 (by decide) (by decide)).trans W0_156)) xcs_a
    exact xKp.refl
theorem rd2_0 {d : Nat} {xs : Nat → Int32} {m : Int64} {sc md : Int32} {w : xW} {g : Nat → Value} {B K P G : Int32} (hk : ∀ h, 131 ≤ h → h < 194 → w[h]? = (W0 6 xs)[h]?) (hm : w[128]? = some (Sum.inr (12, [Value.ref 129, Value.ref 131, Value.ref 133, Value.ref 135, Value.ref 137, Value.ref 139, Value.ref 141, Value.ref 143, Value.ref 145, Value.ref 147, Value.ref 149, Value.ref 151, Value.ref 153, Value.ref 154, Value.ref 155, Value.ref 156, Value.ref 157, Value.int (-16384), Value.int 16384, Value.int 0, Value.int 0, Value.int 0, Value.ref 158, Value.ref 159, Value.int 0, Value.int 0, Value.int 0, Value.int 0, Value.int 0, Value.int 0, Value.int 0, Value.int 0]))) (hv : w[129]? = some (Sum.inr (13, [Value.ref 130, Value.int 1]))) (hvw : w[130]? = some (Sum.inl (0, 4700, g))) (hg0 : g (0 : Int32).toInt.toNat = Value.int (xq m)) (hB : B.toInt = (xbl (xul m) : Int)) (c0 : 0 ≤ (xs 1).toInt) (c1 : (xs 1).toInt < 16) (c2 : (-40000) ≤ sc.toInt) (c3 : sc.toInt ≤ 40000) (c4 : 0 ≤ md.toInt) (c5 : md.toInt ≤ 4) (c6 : K.toInt = 64 - B.toInt) (c7 : 5 ≤ B.toInt) (c8 : B.toInt ≤ 30) (c9 : (xhi m).toInt = 0) (c10 : (xlo m).toInt ≠ 0) (c11 : (xnlz (xlo m)).toInt = 32 - B.toInt) (c12 : (xbf 1 (xlo m) (0 : Int32) ((32 : Int32) - K)).toInt ≠ 0) (c13 : (lg_cmp m (0 : Int64)).toInt ≠ 0) (c14 : (lg_cmp (xqs m) (0 : Int64)).toInt = 0) (c15 : (xbn (xq m)).toInt = B.toInt) (c16 : (xq m).toInt ≠ 0) (c17 : 0 ≤ (xq m).toInt) (c18 : K.toInt ≠ 0) (c19 : K / (30 : Int32) = 1) (c20 : K - K / (30 : Int32) * (30 : Int32) = P) (c21 : ((0 : Int32) ||| (xH (xq m) P)).toInt ≠ 0) (c22 : 0 ≤ ((0 : Int32) ||| (xH (xq m) P)).toInt) (c23 : (xbn ((0 : Int32) ||| (xH (xq m) P))).toInt = 4) (c24 : G.toInt = B.toInt - 1) : ∃ w2, xRun (d + 6) 180 [Value.ref 128, Value.int (xs 1), Value.ref 129, Value.int sc, Value.int 0, Value.int 0, Value.int md] w (.inl (some (Value.int (xres 0 m sc md)))) w2 ∧ xKp w w2 xPM ∧ ∃ f, w2[128]? = some (xmo f) := by
  have f0 : ((0 : Int32) + (xbn (xq m))).toInt = 0 + (xbn (xq m)).toInt := xadd_g rfl rfl (by omega) (by omega)
  have f1 : (B + sc).toInt = B.toInt + sc.toInt := xadd_i (by omega) (by omega)
  have f2 : ((B + sc) - (64 : Int32)).toInt = (B + sc).toInt - 64 := xsub_g rfl rfl (by omega) (by omega)
  have f3 : (((B + sc) - (64 : Int32)) - sc).toInt = ((B + sc) - (64 : Int32)).toInt - sc.toInt := xsub_i (by omega) (by omega)
  have f4 : (-(((B + sc) - (64 : Int32)) - sc)).toInt = -(((B + sc) - (64 : Int32)) - sc).toInt := xneg_i (by omega)
  have f5 : ((60 : Int32) + (xbn ((0 : Int32) ||| (xH (xq m) P)))).toInt = 60 + (xbn ((0 : Int32) ||| (xH (xq m) P))).toInt := xadd_g rfl rfl (by omega) (by omega)
  have f6 : ((64 : Int32) + ((B + sc) - (64 : Int32))).toInt = 64 + ((B + sc) - (64 : Int32)).toInt := xadd_g rfl rfl (by omega) (by omega)
  have fb : ((0 : Int32) + xbn (xq m)).toInt = B.toInt := by rw [xadd_i (by show _ ≤ (0 : Int) + _; omega) (by show (0 : Int) + _ < _; omega)]; show (0 : Int) + _ = _; omega
  obtain ⟨w2, h1, h2, h3⟩ := suf_0 (d := d) (xs := xs) (m := m) (sc := sc) (md := md) (w := (((((w.set 156 (Sum.inl (2, 17, xup (fun _ => Value.int 0) (xs 1).toInt.toNat (Value.int 0)))).set 136 (Sum.inl (0, 4700, xcp g (fun _ => Value.int 0) (0 : Int32).toInt.toNat (0 : Int32).toInt.toNat (1 : Int32).toInt.toNat))).set 135 (Sum.inr (13, [Value.ref 136, Value.int 1]))).set 136 (Sum.inl (0, 4700, xup (xup (xup (xup (xcp g (fun _ => Value.int 0) (0 : Int32).toInt.toNat (0 : Int32).toInt.toNat (1 : Int32).toInt.toNat) (2 : Int32).toInt.toNat (Value.int 0)) (2 : Int32).toInt.toNat (Value.int ((0 : Int32) ||| (xH (xq m) P)))) (1 : Int32).toInt.toNat (Value.int (xL (xq m) P))) (0 : Int32).toInt.toNat (Value.int 0)))).set 135 (Sum.inr (13, [Value.ref 136, Value.int 3])))) (B := B) (E := (B + sc)) (U := ((B + sc) - (64 : Int32))) (C := (((B + sc) - (64 : Int32)) - sc)) hB (fun h h1 h2 h3 h4 h5 => (xgn (by omega) (xgn (by omega) (xgn (by omega) (xgn (by omega) (xgn (by omega) (rfl)))))).trans (hk h h1 h2)) (xgn (by decide) (xgn (by decide) (xgn (by decide) (xgn (by decide) (xgn (by decide) hm))))) (xgn (by decide) (xgn (by decide) (xgn (by decide) (xgn (by decide) (xgn (by decide) hv))))) (xgs (xgn (by decide) (xgs (xgn (by decide) (xgn (by decide) (((hk 135 (by decide) (by decide)).trans W0_135))))))) (xgn (by decide) (xgs (xgn (by decide) (xgs (xgn (by decide) (((hk 136 (by decide) (by decide)).trans W0_136))))))) (xup_s) (xup_n (by decide) xup_s) (xup_n (by decide) (xup_n (by decide) xup_s)) (xgn (by decide) (xgn (by decide) (xgn (by decide) (xgn (by decide) (xgs ((hk 156 (by decide) (by decide)).trans W0_156)))))) (fun d' w' e1 e2 => mb_run1 (e1.trans (xgn (by decide) (xgn (by decide) (xgn (by decide) (xgn (by decide) (xgn (by decide) hv)))))) (e2.trans (xgn (by decide) (xgn (by decide) (xgn (by decide) (xgn (by decide) (xgn (by decide) hvw)))))) hg0 (by omega) (xge_i (by omega))) (fun hp d' w' e1 e2 => any0_2 (xs := xs) (sc := sc) (md := md) (P := P) hB (e1.trans (xgn (by decide) (xgn (by decide) (xgn (by decide) (xgn (by decide) (xgn (by decide) hv)))))) (e2.trans (xgn (by decide) (xgn (by decide) (xgn (by decide) (xgn (by decide) (xgn (by decide) hvw)))))) hg0 c0 c1 c2 c3 c4 c5 c6 c7 c8 c9 c10 c11 c12 c13 c14 c15 c16 c17 c18 c19 c20 c21 c22 c23 c24 hp) (fun hp d' w' e1 e2 => any1_2 (xs := xs) (sc := sc) (md := md) (P := P) hB (e1.trans (xgn (by decide) (xgn (by decide) (xgn (by decide) (xgn (by decide) (xgn (by decide) hv)))))) (e2.trans (xgn (by decide) (xgn (by decide) (xgn (by decide) (xgn (by decide) (xgn (by decide) hvw)))))) hg0 c0 c1 c2 c3 c4 c5 c6 c7 c8 c9 c10 c11 c12 c13 c14 c15 c16 c17 c18 c19 c20 c21 c22 c23 c24 hp) c0 c1 c2 c3 c4 c5 (by omega) (by omega) (by omega) (by omega) (by omega) (by omega)
  refine ⟨w2, xRun.of ?_, xKp.trans ?_ h2, h3⟩
  · refine i_180_0 (x := 128) rfl ?_
    refine i_180_1 (v := Value.ref 153) hm rfl ?_
    refine i_180_4 (x := (xs 1)) rfl ?_
    refine i_180_5 (v := Value.int 64) ((hk 153 (by decide) (by decide)).trans W0_153) (by omega) (by omega) (gprec_at (by omega)) ?_
    refine i_180_6 (lv2 := [(7, Value.int 64), (0, Value.ref 128), (1, Value.int (xs 1)), (2, Value.ref 129), (3, Value.int sc), (4, Value.int 0), (5, Value.int 0), (6, Value.int md)]) rfl ?_
    refine i_180_8 (x := 129) rfl ?_
    refine i_180_9 hv (Nat.le_of_ble_eq_true rfl) (mb_run1 hv hvw hg0 (by omega) (show ((0 : Int32) + (xbn (xq m))) = B from (xge_i (by omega)))) ?_
    refine i_180_12 (x := sc) rfl ?_
    refine i_180_13 (c := (B + sc)) (show (B + sc) = (B + sc) from (xge_i (by omega))) ?_
    refine i_180_14 (lv2 := [(8, Value.int (B + sc)), (7, Value.int 64), (0, Value.ref 128), (1, Value.int (xs 1)), (2, Value.ref 129), (3, Value.int sc), (4, Value.int 0), (5, Value.int 0), (6, Value.int md)]) rfl ?_
    refine i_180_16 (x := 128) rfl ?_
    refine i_180_17 (v := Value.int 0) hm rfl ?_
    refine i_180_20 (fun h => absurd h (by decide)) (fun _ => ?_)
    refine i_180_23 (x := 128) rfl ?_
    refine i_180_24 (v := Value.int 0) hm rfl ?_
    refine i_180_27 (fun _ => ?_) (fun h => absurd h (by decide))
    refine i_180_49 (x := (B + sc)) rfl ?_
    refine i_180_51 (x := 64) rfl ?_
    refine i_180_53 (c := ((B + sc) - (64 : Int32))) rfl ?_
    refine i_180_54 (lv2 := [(9, Value.int ((B + sc) - (64 : Int32))), (8, Value.int (B + sc)), (7, Value.int 64), (0, Value.ref 128), (1, Value.int (xs 1)), (2, Value.ref 129), (3, Value.int sc), (4, Value.int 0), (5, Value.int 0), (6, Value.int md)]) rfl ?_
    refine i_180_56 (x := ((B + sc) - (64 : Int32))) rfl ?_
    refine i_180_58 (x := sc) rfl ?_
    refine i_180_59 (c := (((B + sc) - (64 : Int32)) - sc)) rfl ?_
    refine i_180_60 (lv2 := [(10, Value.int (((B + sc) - (64 : Int32)) - sc)), (9, Value.int ((B + sc) - (64 : Int32))), (8, Value.int (B + sc)), (7, Value.int 64), (0, Value.ref 128), (1, Value.int (xs 1)), (2, Value.ref 129), (3, Value.int sc), (4, Value.int 0), (5, Value.int 0), (6, Value.int md)]) rfl ?_
    refine i_180_62 (x := 128) rfl ?_
    refine i_180_63 (v := Value.ref 156) hm rfl ?_
    refine i_180_66 (x := (xs 1)) rfl ?_
    refine i_180_67 (x := 0) rfl ?_
    refine i_180_69z (v := Value.int 0) ((hk 156 (by decide) (by decide)).trans W0_156) (by omega) (by omega) (by omega) rfl ?_
    refine i_180_70 (x := 128) rfl ?_
    refine i_180_71 (v := Value.ref 135) (xgn (by decide) hm) rfl ?_
    refine i_180_74 (x := 129) rfl ?_
    refine i_180_75 (xgn (by decide) (((hk 135 (by decide) (by decide)).trans W0_135))) (Nat.le_of_ble_eq_true rfl) (s_182_0 (xgn (by decide) hv) (xgn (by decide) (((hk 135 (by decide) (by decide)).trans W0_135))) (xgn (by decide) hvw) (xgn (by decide) (((hk 136 (by decide) (by decide)).trans W0_136))) hg0) ?_
    refine i_180_78 ?_
    refine i_180_79 (lv2 := [(11, Value.int 0), (10, Value.int (((B + sc) - (64 : Int32)) - sc)), (9, Value.int ((B + sc) - (64 : Int32))), (8, Value.int (B + sc)), (7, Value.int 64), (0, Value.ref 128), (1, Value.int (xs 1)), (2, Value.ref 129), (3, Value.int sc), (4, Value.int 0), (5, Value.int 0), (6, Value.int md)]) rfl ?_
    refine i_180_81 (x := 0) rfl ?_
    refine i_180_83 (fun h => absurd h (by decide)) (fun _ => ?_)
    refine i_180_86 ?_
    refine i_180_87 ?_
    refine i_180_91 (lv2 := [(12, Value.int 1), (11, Value.int 0), (10, Value.int (((B + sc) - (64 : Int32)) - sc)), (9, Value.int ((B + sc) - (64 : Int32))), (8, Value.int (B + sc)), (7, Value.int 64), (0, Value.ref 128), (1, Value.int (xs 1)), (2, Value.ref 129), (3, Value.int sc), (4, Value.int 0), (5, Value.int 0), (6, Value.int md)]) rfl ?_
    refine i_180_93 (x := (((B + sc) - (64 : Int32)) - sc)) rfl ?_
    refine i_180_95 (fun _ => ?_) (fun h => absurd (show (((B + sc) - (64 : Int32)) - sc).toInt ≤ 0 by omega) (Int.not_le.mpr h))
    refine i_180_151 (x := 128) rfl ?_
    refine i_180_152 (v := Value.ref 135) (xgn (by decide) (xgn (by decide) (xgn (by decide) hm))) rfl ?_
    refine i_180_155 (x := (((B + sc) - (64 : Int32)) - sc)) rfl ?_
    refine i_180_157 (c := K) (show (-(((B + sc) - (64 : Int32)) - sc)) = K from (xge_i (by omega))) ?_
    refine i_180_158 (xgs (xgn (by decide) (xgn (by decide) (((hk 135 (by decide) (by decide)).trans W0_135))))) (Nat.le_of_ble_eq_true rfl) (s_188_1 (xgs (xgn (by decide) (xgn (by decide) (((hk 135 (by decide) (by decide)).trans W0_135))))) (by omega) (show (K / (30 : Int32)) = 1 from c19) (show (K - K / (30 : Int32) * (30 : Int32)) = P from c20) (xgn (by decide) (xgs (xgn (by decide) (((hk 136 (by decide) (by decide)).trans W0_136))))) (xcp_i rfl hg0) (by omega)) ?_
    refine i_180_161 (x := 0) rfl ?_
    refine i_180_163 (fun _ => ?_) (fun h => absurd h (by decide))
    refine i_180_174 (x := 128) rfl ?_
    refine i_180_175 (v := Value.ref 135) (xgn (by decide) (xgn (by decide) (xgn (by decide) (xgn (by decide) (xgn (by decide) hm))))) rfl ?_
    refine i_180_178 (xgs (xgn (by decide) (xgs (xgn (by decide) (xgn (by decide) (((hk 135 (by decide) (by decide)).trans W0_135))))))) (Nat.le_of_ble_eq_true rfl) (mb_run3 (xgs (xgn (by decide) (xgs (xgn (by decide) (xgn (by decide) (((hk 135 (by decide) (by decide)).trans W0_135))))))) (xgn (by decide) (xgs (xgn (by decide) (xgs (xgn (by decide) (((hk 136 (by decide) (by decide)).trans W0_136))))))) (xup_n (by decide) (xup_n (by decide) xup_s)) (by omega) (show ((60 : Int32) + (xbn ((0 : Int32) ||| (xH (xq m) P)))) = 64 from (xge_c (n := 64) (by omega) rfl))) ?_
    refine i_180_181 (x := ((B + sc) - (64 : Int32))) rfl ?_
    refine i_180_183 (c := (B + sc)) (show ((64 : Int32) + ((B + sc) - (64 : Int32))) = (B + sc) from (xge_i (by omega))) ?_
    refine i_180_184 (lv2 := [(13, Value.int (B + sc)), (12, Value.int 1), (11, Value.int 0), (10, Value.int (((B + sc) - (64 : Int32)) - sc)), (9, Value.int ((B + sc) - (64 : Int32))), (8, Value.int (B + sc)), (7, Value.int 64), (0, Value.ref 128), (1, Value.int (xs 1)), (2, Value.ref 129), (3, Value.int sc), (4, Value.int 0), (5, Value.int 0), (6, Value.int md)]) rfl ?_
    refine i_180_186 (x := 1) rfl ?_
    refine i_180_188 (fun h => absurd h (by decide)) (fun _ => ?_)
    refine i_180_191 ?_
    refine i_180_192 ?_
    refine i_180_205 (lv2 := [(14, Value.int 0), (13, Value.int (B + sc)), (12, Value.int 1), (11, Value.int 0), (10, Value.int (((B + sc) - (64 : Int32)) - sc)), (9, Value.int ((B + sc) - (64 : Int32))), (8, Value.int (B + sc)), (7, Value.int 64), (0, Value.ref 128), (1, Value.int (xs 1)), (2, Value.ref 129), (3, Value.int sc), (4, Value.int 0), (5, Value.int 0), (6, Value.int md)]) rfl ?_
    exact h1
  · refine xKp.set ?_ (fun h hh => by unfold xPM at hh; omega) (xgn (by decide) (xgs (xgn (by decide) (xgn (by decide) (((hk 135 (by decide) (by decide)).trans W0_135)))))) xcs_o
    refine xKp.set ?_ (fun h hh => by unfold xPM at hh; omega) (xgn (by decide) (xgs (xgn (by decide) (((hk 136 (by decide) (by decide)).trans W0_136))))) xcs_a
    refine xKp.set ?_ (fun h hh => by unfold xPM at hh; omega) (xgn (by decide) (xgn (by decide) (((hk 135 (by decide) (by decide)).trans W0_135)))) xcs_o
    refine xKp.set ?_ (fun h hh => by unfold xPM at hh; omega) (xgn (by decide) (((hk 136 (by decide) (by decide)).trans W0_136))) xcs_a
    refine xKp.set ?_ (fun h hh => by unfold xPM at hh; omega) (((hk 156 (by decide) (by decide)).trans W0_156)) xcs_a
    exact xKp.refl
theorem rd3_0 {d : Nat} {xs : Nat → Int32} {m : Int64} {sc md : Int32} {w : xW} {g : Nat → Value} {B K P G : Int32} (hk : ∀ h, 131 ≤ h → h < 194 → w[h]? = (W0 6 xs)[h]?) (hm : w[128]? = some (Sum.inr (12, [Value.ref 129, Value.ref 131, Value.ref 133, Value.ref 135, Value.ref 137, Value.ref 139, Value.ref 141, Value.ref 143, Value.ref 145, Value.ref 147, Value.ref 149, Value.ref 151, Value.ref 153, Value.ref 154, Value.ref 155, Value.ref 156, Value.ref 157, Value.int (-16384), Value.int 16384, Value.int 0, Value.int 0, Value.int 0, Value.ref 158, Value.ref 159, Value.int 0, Value.int 0, Value.int 0, Value.int 0, Value.int 0, Value.int 0, Value.int 0, Value.int 0]))) (hv : w[129]? = some (Sum.inr (13, [Value.ref 130, Value.int 2]))) (hvw : w[130]? = some (Sum.inl (0, 4700, g))) (hg0 : g (0 : Int32).toInt.toNat = Value.int (xq m)) (hg1 : g (1 : Int32).toInt.toNat = Value.int (xq (xqs m))) (hB : B.toInt = (xbl (xul m) : Int)) (c0 : 0 ≤ (xs 1).toInt) (c1 : (xs 1).toInt < 16) (c2 : (-40000) ≤ sc.toInt) (c3 : sc.toInt ≤ 40000) (c4 : 0 ≤ md.toInt) (c5 : md.toInt ≤ 4) (c6 : K.toInt = 64 - B.toInt) (c7 : 31 ≤ B.toInt) (c8 : B.toInt ≤ 32) (c9 : (xhi m).toInt = 0) (c10 : (xlo m).toInt ≠ 0) (c11 : (xnlz (xlo m)).toInt = 32 - B.toInt) (c12 : (xbf 1 (xlo m) (0 : Int32) ((32 : Int32) - K)).toInt ≠ 0) (c13 : (lg_cmp m (0 : Int64)).toInt ≠ 0) (c14 : (lg_cmp (xqs m) (0 : Int64)).toInt ≠ 0) (c15 : (lg_cmp (xqs (xqs m)) (0 : Int64)).toInt = 0) (c16 : (xbn (xq (xqs m))).toInt = B.toInt - 30) (c17 : (xq (xqs m)).toInt ≠ 0) (c18 : 0 ≤ (xq (xqs m)).toInt) (c19 : K.toInt ≠ 0) (c20 : K / (30 : Int32) = 1) (c21 : K - K / (30 : Int32) * (30 : Int32) = P) (c22 : ((0 : Int32) ||| (xH (xq (xqs m)) P)).toInt = 0) (c23 : ((xL (xq (xqs m)) P) ||| (xH (xq m) P)).toInt ≠ 0) (c24 : 0 ≤ ((xL (xq (xqs m)) P) ||| (xH (xq m) P)).toInt) (c25 : (xbn ((xL (xq (xqs m)) P) ||| (xH (xq m) P))).toInt = 4) (c26 : G.toInt = B.toInt - 31) : ∃ w2, xRun (d + 6) 180 [Value.ref 128, Value.int (xs 1), Value.ref 129, Value.int sc, Value.int 0, Value.int 0, Value.int md] w (.inl (some (Value.int (xres 0 m sc md)))) w2 ∧ xKp w w2 xPM ∧ ∃ f, w2[128]? = some (xmo f) := by
  have f0 : ((30 : Int32) + (xbn (xq (xqs m)))).toInt = 30 + (xbn (xq (xqs m))).toInt := xadd_g rfl rfl (by omega) (by omega)
  have f1 : (B + sc).toInt = B.toInt + sc.toInt := xadd_i (by omega) (by omega)
  have f2 : ((B + sc) - (64 : Int32)).toInt = (B + sc).toInt - 64 := xsub_g rfl rfl (by omega) (by omega)
  have f3 : (((B + sc) - (64 : Int32)) - sc).toInt = ((B + sc) - (64 : Int32)).toInt - sc.toInt := xsub_i (by omega) (by omega)
  have f4 : (-(((B + sc) - (64 : Int32)) - sc)).toInt = -(((B + sc) - (64 : Int32)) - sc).toInt := xneg_i (by omega)
  have f5 : ((60 : Int32) + (xbn ((xL (xq (xqs m)) P) ||| (xH (xq m) P)))).toInt = 60 + (xbn ((xL (xq (xqs m)) P) ||| (xH (xq m) P))).toInt := xadd_g rfl rfl (by omega) (by omega)
  have f6 : ((64 : Int32) + ((B + sc) - (64 : Int32))).toInt = 64 + ((B + sc) - (64 : Int32)).toInt := xadd_g rfl rfl (by omega) (by omega)
  have fb : ((30 : Int32) + xbn (xq (xqs m))).toInt = B.toInt := by rw [xadd_i (by show _ ≤ (30 : Int) + _; omega) (by show (30 : Int) + _ < _; omega)]; show (30 : Int) + _ = _; omega
  obtain ⟨w2, h1, h2, h3⟩ := suf_0 (d := d) (xs := xs) (m := m) (sc := sc) (md := md) (w := (((((w.set 156 (Sum.inl (2, 17, xup (fun _ => Value.int 0) (xs 1).toInt.toNat (Value.int 0)))).set 136 (Sum.inl (0, 4700, xcp g (fun _ => Value.int 0) (0 : Int32).toInt.toNat (0 : Int32).toInt.toNat (2 : Int32).toInt.toNat))).set 135 (Sum.inr (13, [Value.ref 136, Value.int 2]))).set 136 (Sum.inl (0, 4700, xup (xup (xup (xup (xup (xup (xcp g (fun _ => Value.int 0) (0 : Int32).toInt.toNat (0 : Int32).toInt.toNat (2 : Int32).toInt.toNat) (3 : Int32).toInt.toNat (Value.int 0)) (3 : Int32).toInt.toNat (Value.int 0)) (2 : Int32).toInt.toNat (Value.int (xL (xq (xqs m)) P))) (2 : Int32).toInt.toNat (Value.int ((xL (xq (xqs m)) P) ||| (xH (xq m) P)))) (1 : Int32).toInt.toNat (Value.int (xL (xq m) P))) (0 : Int32).toInt.toNat (Value.int 0)))).set 135 (Sum.inr (13, [Value.ref 136, Value.int 3])))) (B := B) (E := (B + sc)) (U := ((B + sc) - (64 : Int32))) (C := (((B + sc) - (64 : Int32)) - sc)) hB (fun h h1 h2 h3 h4 h5 => (xgn (by omega) (xgn (by omega) (xgn (by omega) (xgn (by omega) (xgn (by omega) (rfl)))))).trans (hk h h1 h2)) (xgn (by decide) (xgn (by decide) (xgn (by decide) (xgn (by decide) (xgn (by decide) hm))))) (xgn (by decide) (xgn (by decide) (xgn (by decide) (xgn (by decide) (xgn (by decide) hv))))) (xgs (xgn (by decide) (xgs (xgn (by decide) (xgn (by decide) (((hk 135 (by decide) (by decide)).trans W0_135))))))) (xgn (by decide) (xgs (xgn (by decide) (xgs (xgn (by decide) (((hk 136 (by decide) (by decide)).trans W0_136))))))) (xup_s) (xup_n (by decide) xup_s) (xup_n (by decide) (xup_n (by decide) xup_s)) (xgn (by decide) (xgn (by decide) (xgn (by decide) (xgn (by decide) (xgs ((hk 156 (by decide) (by decide)).trans W0_156)))))) (fun d' w' e1 e2 => mb_run2 (e1.trans (xgn (by decide) (xgn (by decide) (xgn (by decide) (xgn (by decide) (xgn (by decide) hv)))))) (e2.trans (xgn (by decide) (xgn (by decide) (xgn (by decide) (xgn (by decide) (xgn (by decide) hvw)))))) hg1 (by omega) (xge_i (by omega))) (fun hp d' w' e1 e2 => any0_3 (xs := xs) (sc := sc) (md := md) (P := P) hB (e1.trans (xgn (by decide) (xgn (by decide) (xgn (by decide) (xgn (by decide) (xgn (by decide) hv)))))) (e2.trans (xgn (by decide) (xgn (by decide) (xgn (by decide) (xgn (by decide) (xgn (by decide) hvw)))))) hg0 hg1 c0 c1 c2 c3 c4 c5 c6 c7 c8 c9 c10 c11 c12 c13 c14 c15 c16 c17 c18 c19 c20 c21 c22 c23 c24 c25 c26 hp) (fun hp d' w' e1 e2 => any1_3 (xs := xs) (sc := sc) (md := md) (P := P) hB (e1.trans (xgn (by decide) (xgn (by decide) (xgn (by decide) (xgn (by decide) (xgn (by decide) hv)))))) (e2.trans (xgn (by decide) (xgn (by decide) (xgn (by decide) (xgn (by decide) (xgn (by decide) hvw)))))) hg0 hg1 c0 c1 c2 c3 c4 c5 c6 c7 c8 c9 c10 c11 c12 c13 c14 c15 c16 c17 c18 c19 c20 c21 c22 c23 c24 c25 c26 hp) c0 c1 c2 c3 c4 c5 (by omega) (by omega) (by omega) (by omega) (by omega) (by omega)
  refine ⟨w2, xRun.of ?_, xKp.trans ?_ h2, h3⟩
  · refine i_180_0 (x := 128) rfl ?_
    refine i_180_1 (v := Value.ref 153) hm rfl ?_
    refine i_180_4 (x := (xs 1)) rfl ?_
    refine i_180_5 (v := Value.int 64) ((hk 153 (by decide) (by decide)).trans W0_153) (by omega) (by omega) (gprec_at (by omega)) ?_
    refine i_180_6 (lv2 := [(7, Value.int 64), (0, Value.ref 128), (1, Value.int (xs 1)), (2, Value.ref 129), (3, Value.int sc), (4, Value.int 0), (5, Value.int 0), (6, Value.int md)]) rfl ?_
    refine i_180_8 (x := 129) rfl ?_
    refine i_180_9 hv (Nat.le_of_ble_eq_true rfl) (mb_run2 hv hvw hg1 (by omega) (show ((30 : Int32) + (xbn (xq (xqs m)))) = B from (xge_i (by omega)))) ?_
    refine i_180_12 (x := sc) rfl ?_
    refine i_180_13 (c := (B + sc)) (show (B + sc) = (B + sc) from (xge_i (by omega))) ?_
    refine i_180_14 (lv2 := [(8, Value.int (B + sc)), (7, Value.int 64), (0, Value.ref 128), (1, Value.int (xs 1)), (2, Value.ref 129), (3, Value.int sc), (4, Value.int 0), (5, Value.int 0), (6, Value.int md)]) rfl ?_
    refine i_180_16 (x := 128) rfl ?_
    refine i_180_17 (v := Value.int 0) hm rfl ?_
    refine i_180_20 (fun h => absurd h (by decide)) (fun _ => ?_)
    refine i_180_23 (x := 128) rfl ?_
    refine i_180_24 (v := Value.int 0) hm rfl ?_
    refine i_180_27 (fun _ => ?_) (fun h => absurd h (by decide))
    refine i_180_49 (x := (B + sc)) rfl ?_
    refine i_180_51 (x := 64) rfl ?_
    refine i_180_53 (c := ((B + sc) - (64 : Int32))) rfl ?_
    refine i_180_54 (lv2 := [(9, Value.int ((B + sc) - (64 : Int32))), (8, Value.int (B + sc)), (7, Value.int 64), (0, Value.ref 128), (1, Value.int (xs 1)), (2, Value.ref 129), (3, Value.int sc), (4, Value.int 0), (5, Value.int 0), (6, Value.int md)]) rfl ?_
    refine i_180_56 (x := ((B + sc) - (64 : Int32))) rfl ?_
    refine i_180_58 (x := sc) rfl ?_
    refine i_180_59 (c := (((B + sc) - (64 : Int32)) - sc)) rfl ?_
    refine i_180_60 (lv2 := [(10, Value.int (((B + sc) - (64 : Int32)) - sc)), (9, Value.int ((B + sc) - (64 : Int32))), (8, Value.int (B + sc)), (7, Value.int 64), (0, Value.ref 128), (1, Value.int (xs 1)), (2, Value.ref 129), (3, Value.int sc), (4, Value.int 0), (5, Value.int 0), (6, Value.int md)]) rfl ?_
    refine i_180_62 (x := 128) rfl ?_
    refine i_180_63 (v := Value.ref 156) hm rfl ?_
    refine i_180_66 (x := (xs 1)) rfl ?_
    refine i_180_67 (x := 0) rfl ?_
    refine i_180_69z (v := Value.int 0) ((hk 156 (by decide) (by decide)).trans W0_156) (by omega) (by omega) (by omega) rfl ?_
    refine i_180_70 (x := 128) rfl ?_
    refine i_180_71 (v := Value.ref 135) (xgn (by decide) hm) rfl ?_
    refine i_180_74 (x := 129) rfl ?_
    refine i_180_75 (xgn (by decide) (((hk 135 (by decide) (by decide)).trans W0_135))) (Nat.le_of_ble_eq_true rfl) (s_182_1 (xgn (by decide) hv) (xgn (by decide) (((hk 135 (by decide) (by decide)).trans W0_135))) (xgn (by decide) hvw) (xgn (by decide) (((hk 136 (by decide) (by decide)).trans W0_136))) hg0 hg1) ?_
    refine i_180_78 ?_
    refine i_180_79 (lv2 := [(11, Value.int 0), (10, Value.int (((B + sc) - (64 : Int32)) - sc)), (9, Value.int ((B + sc) - (64 : Int32))), (8, Value.int (B + sc)), (7, Value.int 64), (0, Value.ref 128), (1, Value.int (xs 1)), (2, Value.ref 129), (3, Value.int sc), (4, Value.int 0), (5, Value.int 0), (6, Value.int md)]) rfl ?_
    refine i_180_81 (x := 0) rfl ?_
    refine i_180_83 (fun h => absurd h (by decide)) (fun _ => ?_)
    refine i_180_86 ?_
    refine i_180_87 ?_
    refine i_180_91 (lv2 := [(12, Value.int 1), (11, Value.int 0), (10, Value.int (((B + sc) - (64 : Int32)) - sc)), (9, Value.int ((B + sc) - (64 : Int32))), (8, Value.int (B + sc)), (7, Value.int 64), (0, Value.ref 128), (1, Value.int (xs 1)), (2, Value.ref 129), (3, Value.int sc), (4, Value.int 0), (5, Value.int 0), (6, Value.int md)]) rfl ?_
    refine i_180_93 (x := (((B + sc) - (64 : Int32)) - sc)) rfl ?_
    refine i_180_95 (fun _ => ?_) (fun h => absurd (show (((B + sc) - (64 : Int32)) - sc).toInt ≤ 0 by omega) (Int.not_le.mpr h))
    refine i_180_151 (x := 128) rfl ?_
    refine i_180_152 (v := Value.ref 135) (xgn (by decide) (xgn (by decide) (xgn (by decide) hm))) rfl ?_
    refine i_180_155 (x := (((B + sc) - (64 : Int32)) - sc)) rfl ?_
    refine i_180_157 (c := K) (show (-(((B + sc) - (64 : Int32)) - sc)) = K from (xge_i (by omega))) ?_
    refine i_180_158 (xgs (xgn (by decide) (xgn (by decide) (((hk 135 (by decide) (by decide)).trans W0_135))))) (Nat.le_of_ble_eq_true rfl) (s_188_2 (xgs (xgn (by decide) (xgn (by decide) (((hk 135 (by decide) (by decide)).trans W0_135))))) (by omega) (show (K / (30 : Int32)) = 1 from c20) (show (K - K / (30 : Int32) * (30 : Int32)) = P from c21) (xgn (by decide) (xgs (xgn (by decide) (((hk 136 (by decide) (by decide)).trans W0_136))))) (xcp_i rfl hg1) (show ((0 : Int32) ||| (xH (xq (xqs m)) P)) = 0 from (xge_c (n := 0) (by omega) rfl)) (xcp_i rfl hg0) (by omega)) ?_
    refine i_180_161 (x := 0) rfl ?_
    refine i_180_163 (fun _ => ?_) (fun h => absurd h (by decide))
    refine i_180_174 (x := 128) rfl ?_
    refine i_180_175 (v := Value.ref 135) (xgn (by decide) (xgn (by decide) (xgn (by decide) (xgn (by decide) (xgn (by decide) hm))))) rfl ?_
    refine i_180_178 (xgs (xgn (by decide) (xgs (xgn (by decide) (xgn (by decide) (((hk 135 (by decide) (by decide)).trans W0_135))))))) (Nat.le_of_ble_eq_true rfl) (mb_run3 (xgs (xgn (by decide) (xgs (xgn (by decide) (xgn (by decide) (((hk 135 (by decide) (by decide)).trans W0_135))))))) (xgn (by decide) (xgs (xgn (by decide) (xgs (xgn (by decide) (((hk 136 (by decide) (by decide)).trans W0_136))))))) (xup_n (by decide) (xup_n (by decide) xup_s)) (by omega) (show ((60 : Int32) + (xbn ((xL (xq (xqs m)) P) ||| (xH (xq m) P)))) = 64 from (xge_c (n := 64) (by omega) rfl))) ?_
    refine i_180_181 (x := ((B + sc) - (64 : Int32))) rfl ?_
    refine i_180_183 (c := (B + sc)) (show ((64 : Int32) + ((B + sc) - (64 : Int32))) = (B + sc) from (xge_i (by omega))) ?_
    refine i_180_184 (lv2 := [(13, Value.int (B + sc)), (12, Value.int 1), (11, Value.int 0), (10, Value.int (((B + sc) - (64 : Int32)) - sc)), (9, Value.int ((B + sc) - (64 : Int32))), (8, Value.int (B + sc)), (7, Value.int 64), (0, Value.ref 128), (1, Value.int (xs 1)), (2, Value.ref 129), (3, Value.int sc), (4, Value.int 0), (5, Value.int 0), (6, Value.int md)]) rfl ?_
    refine i_180_186 (x := 1) rfl ?_
    refine i_180_188 (fun h => absurd h (by decide)) (fun _ => ?_)
    refine i_180_191 ?_
    refine i_180_192 ?_
    refine i_180_205 (lv2 := [(14, Value.int 0), (13, Value.int (B + sc)), (12, Value.int 1), (11, Value.int 0), (10, Value.int (((B + sc) - (64 : Int32)) - sc)), (9, Value.int ((B + sc) - (64 : Int32))), (8, Value.int (B + sc)), (7, Value.int 64), (0, Value.ref 128), (1, Value.int (xs 1)), (2, Value.ref 129), (3, Value.int sc), (4, Value.int 0), (5, Value.int 0), (6, Value.int md)]) rfl ?_
    exact h1
  · refine xKp.set ?_ (fun h hh => by unfold xPM at hh; omega) (xgn (by decide) (xgs (xgn (by decide) (xgn (by decide) (((hk 135 (by decide) (by decide)).trans W0_135)))))) xcs_o
    refine xKp.set ?_ (fun h hh => by unfold xPM at hh; omega) (xgn (by decide) (xgs (xgn (by decide) (((hk 136 (by decide) (by decide)).trans W0_136))))) xcs_a
    refine xKp.set ?_ (fun h hh => by unfold xPM at hh; omega) (xgn (by decide) (xgn (by decide) (((hk 135 (by decide) (by decide)).trans W0_135)))) xcs_o
    refine xKp.set ?_ (fun h hh => by unfold xPM at hh; omega) (xgn (by decide) (((hk 136 (by decide) (by decide)).trans W0_136))) xcs_a
    refine xKp.set ?_ (fun h hh => by unfold xPM at hh; omega) (((hk 156 (by decide) (by decide)).trans W0_156)) xcs_a
    exact xKp.refl
theorem rd4_0 {d : Nat} {xs : Nat → Int32} {m : Int64} {sc md : Int32} {w : xW} {g : Nat → Value} {B K P G : Int32} (hk : ∀ h, 131 ≤ h → h < 194 → w[h]? = (W0 6 xs)[h]?) (hm : w[128]? = some (Sum.inr (12, [Value.ref 129, Value.ref 131, Value.ref 133, Value.ref 135, Value.ref 137, Value.ref 139, Value.ref 141, Value.ref 143, Value.ref 145, Value.ref 147, Value.ref 149, Value.ref 151, Value.ref 153, Value.ref 154, Value.ref 155, Value.ref 156, Value.ref 157, Value.int (-16384), Value.int 16384, Value.int 0, Value.int 0, Value.int 0, Value.ref 158, Value.ref 159, Value.int 0, Value.int 0, Value.int 0, Value.int 0, Value.int 0, Value.int 0, Value.int 0, Value.int 0]))) (hv : w[129]? = some (Sum.inr (13, [Value.ref 130, Value.int 2]))) (hvw : w[130]? = some (Sum.inl (0, 4700, g))) (hg0 : g (0 : Int32).toInt.toNat = Value.int (xq m)) (hg1 : g (1 : Int32).toInt.toNat = Value.int (xq (xqs m))) (hB : B.toInt = (xbl (xul m) : Int)) (c0 : 0 ≤ (xs 1).toInt) (c1 : (xs 1).toInt < 16) (c2 : (-40000) ≤ sc.toInt) (c3 : sc.toInt ≤ 40000) (c4 : 0 ≤ md.toInt) (c5 : md.toInt ≤ 4) (c6 : K.toInt = 64 - B.toInt) (c7 : 33 ≤ B.toInt) (c8 : B.toInt ≤ 34) (c9 : (xhi m).toInt ≠ 0) (c10 : (xnlz (xhi m)).toInt = 64 - B.toInt) (c11 : (xbf 2 (xlo m) (xhi m) ((32 : Int32) - K)).toInt ≠ 0) (c12 : (lg_cmp m (0 : Int64)).toInt ≠ 0) (c13 : (lg_cmp (xqs m) (0 : Int64)).toInt ≠ 0) (c14 : (lg_cmp (xqs (xqs m)) (0 : Int64)).toInt = 0) (c15 : (xbn (xq (xqs m))).toInt = B.toInt - 30) (c16 : (xq (xqs m)).toInt ≠ 0) (c17 : 0 ≤ (xq (xqs m)).toInt) (c18 : K.toInt ≠ 0) (c19 : K / (30 : Int32) = 1) (c20 : K - K / (30 : Int32) * (30 : Int32) = P) (c21 : ((0 : Int32) ||| (xH (xq (xqs m)) P)).toInt = 0) (c22 : ((xL (xq (xqs m)) P) ||| (xH (xq m) P)).toInt ≠ 0) (c23 : 0 ≤ ((xL (xq (xqs m)) P) ||| (xH (xq m) P)).toInt) (c24 : (xbn ((xL (xq (xqs m)) P) ||| (xH (xq m) P))).toInt = 4) (c25 : G.toInt = B.toInt - 31) : ∃ w2, xRun (d + 6) 180 [Value.ref 128, Value.int (xs 1), Value.ref 129, Value.int sc, Value.int 0, Value.int 0, Value.int md] w (.inl (some (Value.int (xres 0 m sc md)))) w2 ∧ xKp w w2 xPM ∧ ∃ f, w2[128]? = some (xmo f) := by
  have f0 : ((30 : Int32) + (xbn (xq (xqs m)))).toInt = 30 + (xbn (xq (xqs m))).toInt := xadd_g rfl rfl (by omega) (by omega)
  have f1 : (B + sc).toInt = B.toInt + sc.toInt := xadd_i (by omega) (by omega)
  have f2 : ((B + sc) - (64 : Int32)).toInt = (B + sc).toInt - 64 := xsub_g rfl rfl (by omega) (by omega)
  have f3 : (((B + sc) - (64 : Int32)) - sc).toInt = ((B + sc) - (64 : Int32)).toInt - sc.toInt := xsub_i (by omega) (by omega)
  have f4 : (-(((B + sc) - (64 : Int32)) - sc)).toInt = -(((B + sc) - (64 : Int32)) - sc).toInt := xneg_i (by omega)
  have f5 : ((60 : Int32) + (xbn ((xL (xq (xqs m)) P) ||| (xH (xq m) P)))).toInt = 60 + (xbn ((xL (xq (xqs m)) P) ||| (xH (xq m) P))).toInt := xadd_g rfl rfl (by omega) (by omega)
  have f6 : ((64 : Int32) + ((B + sc) - (64 : Int32))).toInt = 64 + ((B + sc) - (64 : Int32)).toInt := xadd_g rfl rfl (by omega) (by omega)
  have fb : ((30 : Int32) + xbn (xq (xqs m))).toInt = B.toInt := by rw [xadd_i (by show _ ≤ (30 : Int) + _; omega) (by show (30 : Int) + _ < _; omega)]; show (30 : Int) + _ = _; omega
  obtain ⟨w2, h1, h2, h3⟩ := suf_0 (d := d) (xs := xs) (m := m) (sc := sc) (md := md) (w := (((((w.set 156 (Sum.inl (2, 17, xup (fun _ => Value.int 0) (xs 1).toInt.toNat (Value.int 0)))).set 136 (Sum.inl (0, 4700, xcp g (fun _ => Value.int 0) (0 : Int32).toInt.toNat (0 : Int32).toInt.toNat (2 : Int32).toInt.toNat))).set 135 (Sum.inr (13, [Value.ref 136, Value.int 2]))).set 136 (Sum.inl (0, 4700, xup (xup (xup (xup (xup (xup (xcp g (fun _ => Value.int 0) (0 : Int32).toInt.toNat (0 : Int32).toInt.toNat (2 : Int32).toInt.toNat) (3 : Int32).toInt.toNat (Value.int 0)) (3 : Int32).toInt.toNat (Value.int 0)) (2 : Int32).toInt.toNat (Value.int (xL (xq (xqs m)) P))) (2 : Int32).toInt.toNat (Value.int ((xL (xq (xqs m)) P) ||| (xH (xq m) P)))) (1 : Int32).toInt.toNat (Value.int (xL (xq m) P))) (0 : Int32).toInt.toNat (Value.int 0)))).set 135 (Sum.inr (13, [Value.ref 136, Value.int 3])))) (B := B) (E := (B + sc)) (U := ((B + sc) - (64 : Int32))) (C := (((B + sc) - (64 : Int32)) - sc)) hB (fun h h1 h2 h3 h4 h5 => (xgn (by omega) (xgn (by omega) (xgn (by omega) (xgn (by omega) (xgn (by omega) (rfl)))))).trans (hk h h1 h2)) (xgn (by decide) (xgn (by decide) (xgn (by decide) (xgn (by decide) (xgn (by decide) hm))))) (xgn (by decide) (xgn (by decide) (xgn (by decide) (xgn (by decide) (xgn (by decide) hv))))) (xgs (xgn (by decide) (xgs (xgn (by decide) (xgn (by decide) (((hk 135 (by decide) (by decide)).trans W0_135))))))) (xgn (by decide) (xgs (xgn (by decide) (xgs (xgn (by decide) (((hk 136 (by decide) (by decide)).trans W0_136))))))) (xup_s) (xup_n (by decide) xup_s) (xup_n (by decide) (xup_n (by decide) xup_s)) (xgn (by decide) (xgn (by decide) (xgn (by decide) (xgn (by decide) (xgs ((hk 156 (by decide) (by decide)).trans W0_156)))))) (fun d' w' e1 e2 => mb_run2 (e1.trans (xgn (by decide) (xgn (by decide) (xgn (by decide) (xgn (by decide) (xgn (by decide) hv)))))) (e2.trans (xgn (by decide) (xgn (by decide) (xgn (by decide) (xgn (by decide) (xgn (by decide) hvw)))))) hg1 (by omega) (xge_i (by omega))) (fun hp d' w' e1 e2 => any0_4 (xs := xs) (sc := sc) (md := md) (P := P) hB (e1.trans (xgn (by decide) (xgn (by decide) (xgn (by decide) (xgn (by decide) (xgn (by decide) hv)))))) (e2.trans (xgn (by decide) (xgn (by decide) (xgn (by decide) (xgn (by decide) (xgn (by decide) hvw)))))) hg0 hg1 c0 c1 c2 c3 c4 c5 c6 c7 c8 c9 c10 c11 c12 c13 c14 c15 c16 c17 c18 c19 c20 c21 c22 c23 c24 c25 hp) (fun hp d' w' e1 e2 => any1_4 (xs := xs) (sc := sc) (md := md) (P := P) hB (e1.trans (xgn (by decide) (xgn (by decide) (xgn (by decide) (xgn (by decide) (xgn (by decide) hv)))))) (e2.trans (xgn (by decide) (xgn (by decide) (xgn (by decide) (xgn (by decide) (xgn (by decide) hvw)))))) hg0 hg1 c0 c1 c2 c3 c4 c5 c6 c7 c8 c9 c10 c11 c12 c13 c14 c15 c16 c17 c18 c19 c20 c21 c22 c23 c24 c25 hp) c0 c1 c2 c3 c4 c5 (by omega) (by omega) (by omega) (by omega) (by omega) (by omega)
  refine ⟨w2, xRun.of ?_, xKp.trans ?_ h2, h3⟩
  · refine i_180_0 (x := 128) rfl ?_
    refine i_180_1 (v := Value.ref 153) hm rfl ?_
    refine i_180_4 (x := (xs 1)) rfl ?_
    refine i_180_5 (v := Value.int 64) ((hk 153 (by decide) (by decide)).trans W0_153) (by omega) (by omega) (gprec_at (by omega)) ?_
    refine i_180_6 (lv2 := [(7, Value.int 64), (0, Value.ref 128), (1, Value.int (xs 1)), (2, Value.ref 129), (3, Value.int sc), (4, Value.int 0), (5, Value.int 0), (6, Value.int md)]) rfl ?_
    refine i_180_8 (x := 129) rfl ?_
    refine i_180_9 hv (Nat.le_of_ble_eq_true rfl) (mb_run2 hv hvw hg1 (by omega) (show ((30 : Int32) + (xbn (xq (xqs m)))) = B from (xge_i (by omega)))) ?_
    refine i_180_12 (x := sc) rfl ?_
    refine i_180_13 (c := (B + sc)) (show (B + sc) = (B + sc) from (xge_i (by omega))) ?_
    refine i_180_14 (lv2 := [(8, Value.int (B + sc)), (7, Value.int 64), (0, Value.ref 128), (1, Value.int (xs 1)), (2, Value.ref 129), (3, Value.int sc), (4, Value.int 0), (5, Value.int 0), (6, Value.int md)]) rfl ?_
    refine i_180_16 (x := 128) rfl ?_
    refine i_180_17 (v := Value.int 0) hm rfl ?_
    refine i_180_20 (fun h => absurd h (by decide)) (fun _ => ?_)
    refine i_180_23 (x := 128) rfl ?_
    refine i_180_24 (v := Value.int 0) hm rfl ?_
    refine i_180_27 (fun _ => ?_) (fun h => absurd h (by decide))
    refine i_180_49 (x := (B + sc)) rfl ?_
    refine i_180_51 (x := 64) rfl ?_
    refine i_180_53 (c := ((B + sc) - (64 : Int32))) rfl ?_
    refine i_180_54 (lv2 := [(9, Value.int ((B + sc) - (64 : Int32))), (8, Value.int (B + sc)), (7, Value.int 64), (0, Value.ref 128), (1, Value.int (xs 1)), (2, Value.ref 129), (3, Value.int sc), (4, Value.int 0), (5, Value.int 0), (6, Value.int md)]) rfl ?_
    refine i_180_56 (x := ((B + sc) - (64 : Int32))) rfl ?_
    refine i_180_58 (x := sc) rfl ?_
    refine i_180_59 (c := (((B + sc) - (64 : Int32)) - sc)) rfl ?_
    refine i_180_60 (lv2 := [(10, Value.int (((B + sc) - (64 : Int32)) - sc)), (9, Value.int ((B + sc) - (64 : Int32))), (8, Value.int (B + sc)), (7, Value.int 64), (0, Value.ref 128), (1, Value.int (xs 1)), (2, Value.ref 129), (3, Value.int sc), (4, Value.int 0), (5, Value.int 0), (6, Value.int md)]) rfl ?_
    refine i_180_62 (x := 128) rfl ?_
    refine i_180_63 (v := Value.ref 156) hm rfl ?_
    refine i_180_66 (x := (xs 1)) rfl ?_
    refine i_180_67 (x := 0) rfl ?_
    refine i_180_69z (v := Value.int 0) ((hk 156 (by decide) (by decide)).trans W0_156) (by omega) (by omega) (by omega) rfl ?_
    refine i_180_70 (x := 128) rfl ?_
    refine i_180_71 (v := Value.ref 135) (xgn (by decide) hm) rfl ?_
    refine i_180_74 (x := 129) rfl ?_
    refine i_180_75 (xgn (by decide) (((hk 135 (by decide) (by decide)).trans W0_135))) (Nat.le_of_ble_eq_true rfl) (s_182_1 (xgn (by decide) hv) (xgn (by decide) (((hk 135 (by decide) (by decide)).trans W0_135))) (xgn (by decide) hvw) (xgn (by decide) (((hk 136 (by decide) (by decide)).trans W0_136))) hg0 hg1) ?_
    refine i_180_78 ?_
    refine i_180_79 (lv2 := [(11, Value.int 0), (10, Value.int (((B + sc) - (64 : Int32)) - sc)), (9, Value.int ((B + sc) - (64 : Int32))), (8, Value.int (B + sc)), (7, Value.int 64), (0, Value.ref 128), (1, Value.int (xs 1)), (2, Value.ref 129), (3, Value.int sc), (4, Value.int 0), (5, Value.int 0), (6, Value.int md)]) rfl ?_
    refine i_180_81 (x := 0) rfl ?_
    refine i_180_83 (fun h => absurd h (by decide)) (fun _ => ?_)
    refine i_180_86 ?_
    refine i_180_87 ?_
    refine i_180_91 (lv2 := [(12, Value.int 1), (11, Value.int 0), (10, Value.int (((B + sc) - (64 : Int32)) - sc)), (9, Value.int ((B + sc) - (64 : Int32))), (8, Value.int (B + sc)), (7, Value.int 64), (0, Value.ref 128), (1, Value.int (xs 1)), (2, Value.ref 129), (3, Value.int sc), (4, Value.int 0), (5, Value.int 0), (6, Value.int md)]) rfl ?_
    refine i_180_93 (x := (((B + sc) - (64 : Int32)) - sc)) rfl ?_
    refine i_180_95 (fun _ => ?_) (fun h => absurd (show (((B + sc) - (64 : Int32)) - sc).toInt ≤ 0 by omega) (Int.not_le.mpr h))
    refine i_180_151 (x := 128) rfl ?_
    refine i_180_152 (v := Value.ref 135) (xgn (by decide) (xgn (by decide) (xgn (by decide) hm))) rfl ?_
    refine i_180_155 (x := (((B + sc) - (64 : Int32)) - sc)) rfl ?_
    refine i_180_157 (c := K) (show (-(((B + sc) - (64 : Int32)) - sc)) = K from (xge_i (by omega))) ?_
    refine i_180_158 (xgs (xgn (by decide) (xgn (by decide) (((hk 135 (by decide) (by decide)).trans W0_135))))) (Nat.le_of_ble_eq_true rfl) (s_188_2 (xgs (xgn (by decide) (xgn (by decide) (((hk 135 (by decide) (by decide)).trans W0_135))))) (by omega) (show (K / (30 : Int32)) = 1 from c19) (show (K - K / (30 : Int32) * (30 : Int32)) = P from c20) (xgn (by decide) (xgs (xgn (by decide) (((hk 136 (by decide) (by decide)).trans W0_136))))) (xcp_i rfl hg1) (show ((0 : Int32) ||| (xH (xq (xqs m)) P)) = 0 from (xge_c (n := 0) (by omega) rfl)) (xcp_i rfl hg0) (by omega)) ?_
    refine i_180_161 (x := 0) rfl ?_
    refine i_180_163 (fun _ => ?_) (fun h => absurd h (by decide))
    refine i_180_174 (x := 128) rfl ?_
    refine i_180_175 (v := Value.ref 135) (xgn (by decide) (xgn (by decide) (xgn (by decide) (xgn (by decide) (xgn (by decide) hm))))) rfl ?_
    refine i_180_178 (xgs (xgn (by decide) (xgs (xgn (by decide) (xgn (by decide) (((hk 135 (by decide) (by decide)).trans W0_135))))))) (Nat.le_of_ble_eq_true rfl) (mb_run3 (xgs (xgn (by decide) (xgs (xgn (by decide) (xgn (by decide) (((hk 135 (by decide) (by decide)).trans W0_135))))))) (xgn (by decide) (xgs (xgn (by decide) (xgs (xgn (by decide) (((hk 136 (by decide) (by decide)).trans W0_136))))))) (xup_n (by decide) (xup_n (by decide) xup_s)) (by omega) (show ((60 : Int32) + (xbn ((xL (xq (xqs m)) P) ||| (xH (xq m) P)))) = 64 from (xge_c (n := 64) (by omega) rfl))) ?_
    refine i_180_181 (x := ((B + sc) - (64 : Int32))) rfl ?_
    refine i_180_183 (c := (B + sc)) (show ((64 : Int32) + ((B + sc) - (64 : Int32))) = (B + sc) from (xge_i (by omega))) ?_
    refine i_180_184 (lv2 := [(13, Value.int (B + sc)), (12, Value.int 1), (11, Value.int 0), (10, Value.int (((B + sc) - (64 : Int32)) - sc)), (9, Value.int ((B + sc) - (64 : Int32))), (8, Value.int (B + sc)), (7, Value.int 64), (0, Value.ref 128), (1, Value.int (xs 1)), (2, Value.ref 129), (3, Value.int sc), (4, Value.int 0), (5, Value.int 0), (6, Value.int md)]) rfl ?_
    refine i_180_186 (x := 1) rfl ?_
    refine i_180_188 (fun h => absurd h (by decide)) (fun _ => ?_)
    refine i_180_191 ?_
    refine i_180_192 ?_
    refine i_180_205 (lv2 := [(14, Value.int 0), (13, Value.int (B + sc)), (12, Value.int 1), (11, Value.int 0), (10, Value.int (((B + sc) - (64 : Int32)) - sc)), (9, Value.int ((B + sc) - (64 : Int32))), (8, Value.int (B + sc)), (7, Value.int 64), (0, Value.ref 128), (1, Value.int (xs 1)), (2, Value.ref 129), (3, Value.int sc), (4, Value.int 0), (5, Value.int 0), (6, Value.int md)]) rfl ?_
    exact h1
  · refine xKp.set ?_ (fun h hh => by unfold xPM at hh; omega) (xgn (by decide) (xgs (xgn (by decide) (xgn (by decide) (((hk 135 (by decide) (by decide)).trans W0_135)))))) xcs_o
    refine xKp.set ?_ (fun h hh => by unfold xPM at hh; omega) (xgn (by decide) (xgs (xgn (by decide) (((hk 136 (by decide) (by decide)).trans W0_136))))) xcs_a
    refine xKp.set ?_ (fun h hh => by unfold xPM at hh; omega) (xgn (by decide) (xgn (by decide) (((hk 135 (by decide) (by decide)).trans W0_135)))) xcs_o
    refine xKp.set ?_ (fun h hh => by unfold xPM at hh; omega) (xgn (by decide) (((hk 136 (by decide) (by decide)).trans W0_136))) xcs_a
    refine xKp.set ?_ (fun h hh => by unfold xPM at hh; omega) (((hk 156 (by decide) (by decide)).trans W0_156)) xcs_a
    exact xKp.refl
theorem rd5_0 {d : Nat} {xs : Nat → Int32} {m : Int64} {sc md : Int32} {w : xW} {g : Nat → Value} {B K P G : Int32} (hk : ∀ h, 131 ≤ h → h < 194 → w[h]? = (W0 6 xs)[h]?) (hm : w[128]? = some (Sum.inr (12, [Value.ref 129, Value.ref 131, Value.ref 133, Value.ref 135, Value.ref 137, Value.ref 139, Value.ref 141, Value.ref 143, Value.ref 145, Value.ref 147, Value.ref 149, Value.ref 151, Value.ref 153, Value.ref 154, Value.ref 155, Value.ref 156, Value.ref 157, Value.int (-16384), Value.int 16384, Value.int 0, Value.int 0, Value.int 0, Value.ref 158, Value.ref 159, Value.int 0, Value.int 0, Value.int 0, Value.int 0, Value.int 0, Value.int 0, Value.int 0, Value.int 0]))) (hv : w[129]? = some (Sum.inr (13, [Value.ref 130, Value.int 2]))) (hvw : w[130]? = some (Sum.inl (0, 4700, g))) (hg0 : g (0 : Int32).toInt.toNat = Value.int (xq m)) (hg1 : g (1 : Int32).toInt.toNat = Value.int (xq (xqs m))) (hB : B.toInt = (xbl (xul m) : Int)) (c0 : 0 ≤ (xs 1).toInt) (c1 : (xs 1).toInt < 16) (c2 : (-40000) ≤ sc.toInt) (c3 : sc.toInt ≤ 40000) (c4 : 0 ≤ md.toInt) (c5 : md.toInt ≤ 4) (c6 : K.toInt = 64 - B.toInt) (c7 : 35 ≤ B.toInt) (c8 : B.toInt ≤ 60) (c9 : (xhi m).toInt ≠ 0) (c10 : (xnlz (xhi m)).toInt = 64 - B.toInt) (c11 : (xbf 2 (xlo m) (xhi m) ((32 : Int32) - K)).toInt ≠ 0) (c12 : (lg_cmp m (0 : Int64)).toInt ≠ 0) (c13 : (lg_cmp (xqs m) (0 : Int64)).toInt ≠ 0) (c14 : (lg_cmp (xqs (xqs m)) (0 : Int64)).toInt = 0) (c15 : (xbn (xq (xqs m))).toInt = B.toInt - 30) (c16 : (xq (xqs m)).toInt ≠ 0) (c17 : 0 ≤ (xq (xqs m)).toInt) (c18 : K.toInt ≠ 0) (c19 : K / (30 : Int32) = 0) (c20 : K - K / (30 : Int32) * (30 : Int32) = P) (c21 : ((0 : Int32) ||| (xH (xq (xqs m)) P)).toInt ≠ 0) (c22 : 0 ≤ ((0 : Int32) ||| (xH (xq (xqs m)) P)).toInt) (c23 : (xbn ((0 : Int32) ||| (xH (xq (xqs m)) P))).toInt = 4) (c24 : G.toInt = B.toInt - 31) : ∃ w2, xRun (d + 6) 180 [Value.ref 128, Value.int (xs 1), Value.ref 129, Value.int sc, Value.int 0, Value.int 0, Value.int md] w (.inl (some (Value.int (xres 0 m sc md)))) w2 ∧ xKp w w2 xPM ∧ ∃ f, w2[128]? = some (xmo f) := by
  have f0 : ((30 : Int32) + (xbn (xq (xqs m)))).toInt = 30 + (xbn (xq (xqs m))).toInt := xadd_g rfl rfl (by omega) (by omega)
  have f1 : (B + sc).toInt = B.toInt + sc.toInt := xadd_i (by omega) (by omega)
  have f2 : ((B + sc) - (64 : Int32)).toInt = (B + sc).toInt - 64 := xsub_g rfl rfl (by omega) (by omega)
  have f3 : (((B + sc) - (64 : Int32)) - sc).toInt = ((B + sc) - (64 : Int32)).toInt - sc.toInt := xsub_i (by omega) (by omega)
  have f4 : (-(((B + sc) - (64 : Int32)) - sc)).toInt = -(((B + sc) - (64 : Int32)) - sc).toInt := xneg_i (by omega)
  have f5 : ((60 : Int32) + (xbn ((0 : Int32) ||| (xH (xq (xqs m)) P)))).toInt = 60 + (xbn ((0 : Int32) ||| (xH (xq (xqs m)) P))).toInt := xadd_g rfl rfl (by omega) (by omega)
  have f6 : ((64 : Int32) + ((B + sc) - (64 : Int32))).toInt = 64 + ((B + sc) - (64 : Int32)).toInt := xadd_g rfl rfl (by omega) (by omega)
  have fb : ((30 : Int32) + xbn (xq (xqs m))).toInt = B.toInt := by rw [xadd_i (by show _ ≤ (30 : Int) + _; omega) (by show (30 : Int) + _ < _; omega)]; show (30 : Int) + _ = _; omega
  obtain ⟨w2, h1, h2, h3⟩ := suf_0 (d := d) (xs := xs) (m := m) (sc := sc) (md := md) (w := (((((w.set 156 (Sum.inl (2, 17, xup (fun _ => Value.int 0) (xs 1).toInt.toNat (Value.int 0)))).set 136 (Sum.inl (0, 4700, xcp g (fun _ => Value.int 0) (0 : Int32).toInt.toNat (0 : Int32).toInt.toNat (2 : Int32).toInt.toNat))).set 135 (Sum.inr (13, [Value.ref 136, Value.int 2]))).set 136 (Sum.inl (0, 4700, xup (xup (xup (xup (xup (xcp g (fun _ => Value.int 0) (0 : Int32).toInt.toNat (0 : Int32).toInt.toNat (2 : Int32).toInt.toNat) (2 : Int32).toInt.toNat (Value.int 0)) (2 : Int32).toInt.toNat (Value.int ((0 : Int32) ||| (xH (xq (xqs m)) P)))) (1 : Int32).toInt.toNat (Value.int (xL (xq (xqs m)) P))) (1 : Int32).toInt.toNat (Value.int ((xL (xq (xqs m)) P) ||| (xH (xq m) P)))) (0 : Int32).toInt.toNat (Value.int (xL (xq m) P))))).set 135 (Sum.inr (13, [Value.ref 136, Value.int 3])))) (B := B) (E := (B + sc)) (U := ((B + sc) - (64 : Int32))) (C := (((B + sc) - (64 : Int32)) - sc)) hB (fun h h1 h2 h3 h4 h5 => (xgn (by omega) (xgn (by omega) (xgn (by omega) (xgn (by omega) (xgn (by omega) (rfl)))))).trans (hk h h1 h2)) (xgn (by decide) (xgn (by decide) (xgn (by decide) (xgn (by decide) (xgn (by decide) hm))))) (xgn (by decide) (xgn (by decide) (xgn (by decide) (xgn (by decide) (xgn (by decide) hv))))) (xgs (xgn (by decide) (xgs (xgn (by decide) (xgn (by decide) (((hk 135 (by decide) (by decide)).trans W0_135))))))) (xgn (by decide) (xgs (xgn (by decide) (xgs (xgn (by decide) (((hk 136 (by decide) (by decide)).trans W0_136))))))) (xup_s) (xup_n (by decide) xup_s) (xup_n (by decide) (xup_n (by decide) (xup_n (by decide) xup_s))) (xgn (by decide) (xgn (by decide) (xgn (by decide) (xgn (by decide) (xgs ((hk 156 (by decide) (by decide)).trans W0_156)))))) (fun d' w' e1 e2 => mb_run2 (e1.trans (xgn (by decide) (xgn (by decide) (xgn (by decide) (xgn (by decide) (xgn (by decide) hv)))))) (e2.trans (xgn (by decide) (xgn (by decide) (xgn (by decide) (xgn (by decide) (xgn (by decide) hvw)))))) hg1 (by omega) (xge_i (by omega))) (fun hp d' w' e1 e2 => any0_5 (xs := xs) (sc := sc) (md := md) (P := P) hB (e1.trans (xgn (by decide) (xgn (by decide) (xgn (by decide) (xgn (by decide) (xgn (by decide) hv)))))) (e2.trans (xgn (by decide) (xgn (by decide) (xgn (by decide) (xgn (by decide) (xgn (by decide) hvw)))))) hg0 hg1 c0 c1 c2 c3 c4 c5 c6 c7 c8 c9 c10 c11 c12 c13 c14 c15 c16 c17 c18 c19 c20 c21 c22 c23 c24 hp) (fun hp d' w' e1 e2 => any1_5 (xs := xs) (sc := sc) (md := md) (P := P) hB (e1.trans (xgn (by decide) (xgn (by decide) (xgn (by decide) (xgn (by decide) (xgn (by decide) hv)))))) (e2.trans (xgn (by decide) (xgn (by decide) (xgn (by decide) (xgn (by decide) (xgn (by decide) hvw)))))) hg0 hg1 c0 c1 c2 c3 c4 c5 c6 c7 c8 c9 c10 c11 c12 c13 c14 c15 c16 c17 c18 c19 c20 c21 c22 c23 c24 hp) c0 c1 c2 c3 c4 c5 (by omega) (by omega) (by omega) (by omega) (by omega) (by omega)
  refine ⟨w2, xRun.of ?_, xKp.trans ?_ h2, h3⟩
  · refine i_180_0 (x := 128) rfl ?_
    refine i_180_1 (v := Value.ref 153) hm rfl ?_
    refine i_180_4 (x := (xs 1)) rfl ?_
    refine i_180_5 (v := Value.int 64) ((hk 153 (by decide) (by decide)).trans W0_153) (by omega) (by omega) (gprec_at (by omega)) ?_
    refine i_180_6 (lv2 := [(7, Value.int 64), (0, Value.ref 128), (1, Value.int (xs 1)), (2, Value.ref 129), (3, Value.int sc), (4, Value.int 0), (5, Value.int 0), (6, Value.int md)]) rfl ?_
    refine i_180_8 (x := 129) rfl ?_
    refine i_180_9 hv (Nat.le_of_ble_eq_true rfl) (mb_run2 hv hvw hg1 (by omega) (show ((30 : Int32) + (xbn (xq (xqs m)))) = B from (xge_i (by omega)))) ?_
    refine i_180_12 (x := sc) rfl ?_
    refine i_180_13 (c := (B + sc)) (show (B + sc) = (B + sc) from (xge_i (by omega))) ?_
    refine i_180_14 (lv2 := [(8, Value.int (B + sc)), (7, Value.int 64), (0, Value.ref 128), (1, Value.int (xs 1)), (2, Value.ref 129), (3, Value.int sc), (4, Value.int 0), (5, Value.int 0), (6, Value.int md)]) rfl ?_
    refine i_180_16 (x := 128) rfl ?_
    refine i_180_17 (v := Value.int 0) hm rfl ?_
    refine i_180_20 (fun h => absurd h (by decide)) (fun _ => ?_)
    refine i_180_23 (x := 128) rfl ?_
    refine i_180_24 (v := Value.int 0) hm rfl ?_
    refine i_180_27 (fun _ => ?_) (fun h => absurd h (by decide))
    refine i_180_49 (x := (B + sc)) rfl ?_
    refine i_180_51 (x := 64) rfl ?_
    refine i_180_53 (c := ((B + sc) - (64 : Int32))) rfl ?_
    refine i_180_54 (lv2 := [(9, Value.int ((B + sc) - (64 : Int32))), (8, Value.int (B + sc)), (7, Value.int 64), (0, Value.ref 128), (1, Value.int (xs 1)), (2, Value.ref 129), (3, Value.int sc), (4, Value.int 0), (5, Value.int 0), (6, Value.int md)]) rfl ?_
    refine i_180_56 (x := ((B + sc) - (64 : Int32))) rfl ?_
    refine i_180_58 (x := sc) rfl ?_
    refine i_180_59 (c := (((B + sc) - (64 : Int32)) - sc)) rfl ?_
    refine i_180_60 (lv2 := [(10, Value.int (((B + sc) - (64 : Int32)) - sc)), (9, Value.int ((B + sc) - (64 : Int32))), (8, Value.int (B + sc)), (7, Value.int 64), (0, Value.ref 128), (1, Value.int (xs 1)), (2, Value.ref 129), (3, Value.int sc), (4, Value.int 0), (5, Value.int 0), (6, Value.int md)]) rfl ?_
    refine i_180_62 (x := 128) rfl ?_
    refine i_180_63 (v := Value.ref 156) hm rfl ?_
    refine i_180_66 (x := (xs 1)) rfl ?_
    refine i_180_67 (x := 0) rfl ?_
    refine i_180_69z (v := Value.int 0) ((hk 156 (by decide) (by decide)).trans W0_156) (by omega) (by omega) (by omega) rfl ?_
    refine i_180_70 (x := 128) rfl ?_
    refine i_180_71 (v := Value.ref 135) (xgn (by decide) hm) rfl ?_
    refine i_180_74 (x := 129) rfl ?_
    refine i_180_75 (xgn (by decide) (((hk 135 (by decide) (by decide)).trans W0_135))) (Nat.le_of_ble_eq_true rfl) (s_182_1 (xgn (by decide) hv) (xgn (by decide) (((hk 135 (by decide) (by decide)).trans W0_135))) (xgn (by decide) hvw) (xgn (by decide) (((hk 136 (by decide) (by decide)).trans W0_136))) hg0 hg1) ?_
    refine i_180_78 ?_
    refine i_180_79 (lv2 := [(11, Value.int 0), (10, Value.int (((B + sc) - (64 : Int32)) - sc)), (9, Value.int ((B + sc) - (64 : Int32))), (8, Value.int (B + sc)), (7, Value.int 64), (0, Value.ref 128), (1, Value.int (xs 1)), (2, Value.ref 129), (3, Value.int sc), (4, Value.int 0), (5, Value.int 0), (6, Value.int md)]) rfl ?_
    refine i_180_81 (x := 0) rfl ?_
    refine i_180_83 (fun h => absurd h (by decide)) (fun _ => ?_)
    refine i_180_86 ?_
    refine i_180_87 ?_
    refine i_180_91 (lv2 := [(12, Value.int 1), (11, Value.int 0), (10, Value.int (((B + sc) - (64 : Int32)) - sc)), (9, Value.int ((B + sc) - (64 : Int32))), (8, Value.int (B + sc)), (7, Value.int 64), (0, Value.ref 128), (1, Value.int (xs 1)), (2, Value.ref 129), (3, Value.int sc), (4, Value.int 0), (5, Value.int 0), (6, Value.int md)]) rfl ?_
    refine i_180_93 (x := (((B + sc) - (64 : Int32)) - sc)) rfl ?_
    refine i_180_95 (fun _ => ?_) (fun h => absurd (show (((B + sc) - (64 : Int32)) - sc).toInt ≤ 0 by omega) (Int.not_le.mpr h))
    refine i_180_151 (x := 128) rfl ?_
    refine i_180_152 (v := Value.ref 135) (xgn (by decide) (xgn (by decide) (xgn (by decide) hm))) rfl ?_
    refine i_180_155 (x := (((B + sc) - (64 : Int32)) - sc)) rfl ?_
    refine i_180_157 (c := K) (show (-(((B + sc) - (64 : Int32)) - sc)) = K from (xge_i (by omega))) ?_
    refine i_180_158 (xgs (xgn (by decide) (xgn (by decide) (((hk 135 (by decide) (by decide)).trans W0_135))))) (Nat.le_of_ble_eq_true rfl) (s_188_3 (xgs (xgn (by decide) (xgn (by decide) (((hk 135 (by decide) (by decide)).trans W0_135))))) (by omega) (show (K / (30 : Int32)) = 0 from c19) (show (K - K / (30 : Int32) * (30 : Int32)) = P from c20) (xgn (by decide) (xgs (xgn (by decide) (((hk 136 (by decide) (by decide)).trans W0_136))))) (xcp_i rfl hg1) (xcp_i rfl hg0) (by omega)) ?_
    refine i_180_161 (x := 0) rfl ?_
    refine i_180_163 (fun _ => ?_) (fun h => absurd h (by decide))
    refine i_180_174 (x := 128) rfl ?_
    refine i_180_175 (v := Value.ref 135) (xgn (by decide) (xgn (by decide) (xgn (by decide) (xgn (by decide) (xgn (by decide) hm))))) rfl ?_
    refine i_180_178 (xgs (xgn (by decide) (xgs (xgn (by decide) (xgn (by decide) (((hk 135 (by decide) (by decide)).trans W0_135))))))) (Nat.le_of_ble_eq_true rfl) (mb_run3 (xgs (xgn (by decide) (xgs (xgn (by decide) (xgn (by decide) (((hk 135 (by decide) (by decide)).trans W0_135))))))) (xgn (by decide) (xgs (xgn (by decide) (xgs (xgn (by decide) (((hk 136 (by decide) (by decide)).trans W0_136))))))) (xup_n (by decide) (xup_n (by decide) (xup_n (by decide) xup_s))) (by omega) (show ((60 : Int32) + (xbn ((0 : Int32) ||| (xH (xq (xqs m)) P)))) = 64 from (xge_c (n := 64) (by omega) rfl))) ?_
    refine i_180_181 (x := ((B + sc) - (64 : Int32))) rfl ?_
    refine i_180_183 (c := (B + sc)) (show ((64 : Int32) + ((B + sc) - (64 : Int32))) = (B + sc) from (xge_i (by omega))) ?_
    refine i_180_184 (lv2 := [(13, Value.int (B + sc)), (12, Value.int 1), (11, Value.int 0), (10, Value.int (((B + sc) - (64 : Int32)) - sc)), (9, Value.int ((B + sc) - (64 : Int32))), (8, Value.int (B + sc)), (7, Value.int 64), (0, Value.ref 128), (1, Value.int (xs 1)), (2, Value.ref 129), (3, Value.int sc), (4, Value.int 0), (5, Value.int 0), (6, Value.int md)]) rfl ?_
    refine i_180_186 (x := 1) rfl ?_
    refine i_180_188 (fun h => absurd h (by decide)) (fun _ => ?_)
    refine i_180_191 ?_
    refine i_180_192 ?_
    refine i_180_205 (lv2 := [(14, Value.int 0), (13, Value.int (B + sc)), (12, Value.int 1), (11, Value.int 0), (10, Value.int (((B + sc) - (64 : Int32)) - sc)), (9, Value.int ((B + sc) - (64 : Int32))), (8, Value.int (B + sc)), (7, Value.int 64), (0, Value.ref 128), (1, Value.int (xs 1)), (2, Value.ref 129), (3, Value.int sc), (4, Value.int 0), (5, Value.int 0), (6, Value.int md)]) rfl ?_
    exact h1
  · refine xKp.set ?_ (fun h hh => by unfold xPM at hh; omega) (xgn (by decide) (xgs (xgn (by decide) (xgn (by decide) (((hk 135 (by decide) (by decide)).trans W0_135)))))) xcs_o
    refine xKp.set ?_ (fun h hh => by unfold xPM at hh; omega) (xgn (by decide) (xgs (xgn (by decide) (((hk 136 (by decide) (by decide)).trans W0_136))))) xcs_a
    refine xKp.set ?_ (fun h hh => by unfold xPM at hh; omega) (xgn (by decide) (xgn (by decide) (((hk 135 (by decide) (by decide)).trans W0_135)))) xcs_o
    refine xKp.set ?_ (fun h hh => by unfold xPM at hh; omega) (xgn (by decide) (((hk 136 (by decide) (by decide)).trans W0_136))) xcs_a
    refine xKp.set ?_ (fun h hh => by unfold xPM at hh; omega) (((hk 156 (by decide) (by decide)).trans W0_156)) xcs_a
    exact xKp.refl
theorem rd6_0 {d : Nat} {xs : Nat → Int32} {m : Int64} {sc md : Int32} {w : xW} {g : Nat → Value} {B K P G : Int32} (hk : ∀ h, 131 ≤ h → h < 194 → w[h]? = (W0 6 xs)[h]?) (hm : w[128]? = some (Sum.inr (12, [Value.ref 129, Value.ref 131, Value.ref 133, Value.ref 135, Value.ref 137, Value.ref 139, Value.ref 141, Value.ref 143, Value.ref 145, Value.ref 147, Value.ref 149, Value.ref 151, Value.ref 153, Value.ref 154, Value.ref 155, Value.ref 156, Value.ref 157, Value.int (-16384), Value.int 16384, Value.int 0, Value.int 0, Value.int 0, Value.ref 158, Value.ref 159, Value.int 0, Value.int 0, Value.int 0, Value.int 0, Value.int 0, Value.int 0, Value.int 0, Value.int 0]))) (hv : w[129]? = some (Sum.inr (13, [Value.ref 130, Value.int 3]))) (hvw : w[130]? = some (Sum.inl (0, 4700, g))) (hg0 : g (0 : Int32).toInt.toNat = Value.int (xq m)) (hg1 : g (1 : Int32).toInt.toNat = Value.int (xq (xqs m))) (hg2 : g (2 : Int32).toInt.toNat = Value.int (xq (xqs (xqs m)))) (hB : B.toInt = (xbl (xul m) : Int)) (c0 : 0 ≤ (xs 1).toInt) (c1 : (xs 1).toInt < 16) (c2 : (-40000) ≤ sc.toInt) (c3 : sc.toInt ≤ 40000) (c4 : 0 ≤ md.toInt) (c5 : md.toInt ≤ 4) (c6 : K.toInt = 64 - B.toInt) (c7 : 61 ≤ B.toInt) (c8 : B.toInt ≤ 63) (c9 : (xhi m).toInt ≠ 0) (c10 : (xnlz (xhi m)).toInt = 64 - B.toInt) (c11 : (xbf 2 (xlo m) (xhi m) ((32 : Int32) - K)).toInt ≠ 0) (c12 : (lg_cmp m (0 : Int64)).toInt ≠ 0) (c13 : (lg_cmp (xqs m) (0 : Int64)).toInt ≠ 0) (c14 : (lg_cmp (xqs (xqs m)) (0 : Int64)).toInt ≠ 0) (c15 : (lg_cmp (xqs (xqs (xqs m))) (0 : Int64)).toInt = 0) (c16 : (xbn (xq (xqs (xqs m)))).toInt = B.toInt - 60) (c17 : (xq (xqs (xqs m))).toInt ≠ 0) (c18 : 0 ≤ (xq (xqs (xqs m))).toInt) (c19 : K.toInt ≠ 0) (c20 : K / (30 : Int32) = 0) (c21 : K - K / (30 : Int32) * (30 : Int32) = P) (c22 : ((0 : Int32) ||| (xH (xq (xqs (xqs m))) P)).toInt = 0) (c23 : ((xL (xq (xqs (xqs m))) P) ||| (xH (xq (xqs m)) P)).toInt ≠ 0) (c24 : 0 ≤ ((xL (xq (xqs (xqs m))) P) ||| (xH (xq (xqs m)) P)).toInt) (c25 : (xbn ((xL (xq (xqs (xqs m))) P) ||| (xH (xq (xqs m)) P))).toInt = 4) (c26 : G.toInt = B.toInt - 61) : ∃ w2, xRun (d + 6) 180 [Value.ref 128, Value.int (xs 1), Value.ref 129, Value.int sc, Value.int 0, Value.int 0, Value.int md] w (.inl (some (Value.int (xres 0 m sc md)))) w2 ∧ xKp w w2 xPM ∧ ∃ f, w2[128]? = some (xmo f) := by
  have f0 : ((60 : Int32) + (xbn (xq (xqs (xqs m))))).toInt = 60 + (xbn (xq (xqs (xqs m)))).toInt := xadd_g rfl rfl (by omega) (by omega)
  have f1 : (B + sc).toInt = B.toInt + sc.toInt := xadd_i (by omega) (by omega)
  have f2 : ((B + sc) - (64 : Int32)).toInt = (B + sc).toInt - 64 := xsub_g rfl rfl (by omega) (by omega)
  have f3 : (((B + sc) - (64 : Int32)) - sc).toInt = ((B + sc) - (64 : Int32)).toInt - sc.toInt := xsub_i (by omega) (by omega)
  have f4 : (-(((B + sc) - (64 : Int32)) - sc)).toInt = -(((B + sc) - (64 : Int32)) - sc).toInt := xneg_i (by omega)
  have f5 : ((60 : Int32) + (xbn ((xL (xq (xqs (xqs m))) P) ||| (xH (xq (xqs m)) P)))).toInt = 60 + (xbn ((xL (xq (xqs (xqs m))) P) ||| (xH (xq (xqs m)) P))).toInt := xadd_g rfl rfl (by omega) (by omega)
  have f6 : ((64 : Int32) + ((B + sc) - (64 : Int32))).toInt = 64 + ((B + sc) - (64 : Int32)).toInt := xadd_g rfl rfl (by omega) (by omega)
  have fb : ((60 : Int32) + xbn (xq (xqs (xqs m)))).toInt = B.toInt := by rw [xadd_i (by show _ ≤ (60 : Int) + _; omega) (by show (60 : Int) + _ < _; omega)]; show (60 : Int) + _ = _; omega
  obtain ⟨w2, h1, h2, h3⟩ := suf_0 (d := d) (xs := xs) (m := m) (sc := sc) (md := md) (w := (((((w.set 156 (Sum.inl (2, 17, xup (fun _ => Value.int 0) (xs 1).toInt.toNat (Value.int 0)))).set 136 (Sum.inl (0, 4700, xcp g (fun _ => Value.int 0) (0 : Int32).toInt.toNat (0 : Int32).toInt.toNat (3 : Int32).toInt.toNat))).set 135 (Sum.inr (13, [Value.ref 136, Value.int 3]))).set 136 (Sum.inl (0, 4700, xup (xup (xup (xup (xup (xup (xup (xcp g (fun _ => Value.int 0) (0 : Int32).toInt.toNat (0 : Int32).toInt.toNat (3 : Int32).toInt.toNat) (3 : Int32).toInt.toNat (Value.int 0)) (3 : Int32).toInt.toNat (Value.int 0)) (2 : Int32).toInt.toNat (Value.int (xL (xq (xqs (xqs m))) P))) (2 : Int32).toInt.toNat (Value.int ((xL (xq (xqs (xqs m))) P) ||| (xH (xq (xqs m)) P)))) (1 : Int32).toInt.toNat (Value.int (xL (xq (xqs m)) P))) (1 : Int32).toInt.toNat (Value.int ((xL (xq (xqs m)) P) ||| (xH (xq m) P)))) (0 : Int32).toInt.toNat (Value.int (xL (xq m) P))))).set 135 (Sum.inr (13, [Value.ref 136, Value.int 3])))) (B := B) (E := (B + sc)) (U := ((B + sc) - (64 : Int32))) (C := (((B + sc) - (64 : Int32)) - sc)) hB (fun h h1 h2 h3 h4 h5 => (xgn (by omega) (xgn (by omega) (xgn (by omega) (xgn (by omega) (xgn (by omega) (rfl)))))).trans (hk h h1 h2)) (xgn (by decide) (xgn (by decide) (xgn (by decide) (xgn (by decide) (xgn (by decide) hm))))) (xgn (by decide) (xgn (by decide) (xgn (by decide) (xgn (by decide) (xgn (by decide) hv))))) (xgs (xgn (by decide) (xgs (xgn (by decide) (xgn (by decide) (((hk 135 (by decide) (by decide)).trans W0_135))))))) (xgn (by decide) (xgs (xgn (by decide) (xgs (xgn (by decide) (((hk 136 (by decide) (by decide)).trans W0_136))))))) (xup_s) (xup_n (by decide) xup_s) (xup_n (by decide) (xup_n (by decide) (xup_n (by decide) xup_s))) (xgn (by decide) (xgn (by decide) (xgn (by decide) (xgn (by decide) (xgs ((hk 156 (by decide) (by decide)).trans W0_156)))))) (fun d' w' e1 e2 => mb_run3 (e1.trans (xgn (by decide) (xgn (by decide) (xgn (by decide) (xgn (by decide) (xgn (by decide) hv)))))) (e2.trans (xgn (by decide) (xgn (by decide) (xgn (by decide) (xgn (by decide) (xgn (by decide) hvw)))))) hg2 (by omega) (xge_i (by omega))) (fun hp d' w' e1 e2 => any0_6 (xs := xs) (sc := sc) (md := md) (P := P) hB (e1.trans (xgn (by decide) (xgn (by decide) (xgn (by decide) (xgn (by decide) (xgn (by decide) hv)))))) (e2.trans (xgn (by decide) (xgn (by decide) (xgn (by decide) (xgn (by decide) (xgn (by decide) hvw)))))) hg0 hg1 hg2 c0 c1 c2 c3 c4 c5 c6 c7 c8 c9 c10 c11 c12 c13 c14 c15 c16 c17 c18 c19 c20 c21 c22 c23 c24 c25 c26 hp) (fun hp d' w' e1 e2 => any1_6 (xs := xs) (sc := sc) (md := md) (P := P) hB (e1.trans (xgn (by decide) (xgn (by decide) (xgn (by decide) (xgn (by decide) (xgn (by decide) hv)))))) (e2.trans (xgn (by decide) (xgn (by decide) (xgn (by decide) (xgn (by decide) (xgn (by decide) hvw)))))) hg0 hg1 hg2 c0 c1 c2 c3 c4 c5 c6 c7 c8 c9 c10 c11 c12 c13 c14 c15 c16 c17 c18 c19 c20 c21 c22 c23 c24 c25 c26 hp) c0 c1 c2 c3 c4 c5 (by omega) (by omega) (by omega) (by omega) (by omega) (by omega)
  refine ⟨w2, xRun.of ?_, xKp.trans ?_ h2, h3⟩
  · refine i_180_0 (x := 128) rfl ?_
    refine i_180_1 (v := Value.ref 153) hm rfl ?_
    refine i_180_4 (x := (xs 1)) rfl ?_
    refine i_180_5 (v := Value.int 64) ((hk 153 (by decide) (by decide)).trans W0_153) (by omega) (by omega) (gprec_at (by omega)) ?_
    refine i_180_6 (lv2 := [(7, Value.int 64), (0, Value.ref 128), (1, Value.int (xs 1)), (2, Value.ref 129), (3, Value.int sc), (4, Value.int 0), (5, Value.int 0), (6, Value.int md)]) rfl ?_
    refine i_180_8 (x := 129) rfl ?_
    refine i_180_9 hv (Nat.le_of_ble_eq_true rfl) (mb_run3 hv hvw hg2 (by omega) (show ((60 : Int32) + (xbn (xq (xqs (xqs m))))) = B from (xge_i (by omega)))) ?_
    refine i_180_12 (x := sc) rfl ?_
    refine i_180_13 (c := (B + sc)) (show (B + sc) = (B + sc) from (xge_i (by omega))) ?_
    refine i_180_14 (lv2 := [(8, Value.int (B + sc)), (7, Value.int 64), (0, Value.ref 128), (1, Value.int (xs 1)), (2, Value.ref 129), (3, Value.int sc), (4, Value.int 0), (5, Value.int 0), (6, Value.int md)]) rfl ?_
    refine i_180_16 (x := 128) rfl ?_
    refine i_180_17 (v := Value.int 0) hm rfl ?_
    refine i_180_20 (fun h => absurd h (by decide)) (fun _ => ?_)
    refine i_180_23 (x := 128) rfl ?_
    refine i_180_24 (v := Value.int 0) hm rfl ?_
    refine i_180_27 (fun _ => ?_) (fun h => absurd h (by decide))
    refine i_180_49 (x := (B + sc)) rfl ?_
    refine i_180_51 (x := 64) rfl ?_
    refine i_180_53 (c := ((B + sc) - (64 : Int32))) rfl ?_
    refine i_180_54 (lv2 := [(9, Value.int ((B + sc) - (64 : Int32))), (8, Value.int (B + sc)), (7, Value.int 64), (0, Value.ref 128), (1, Value.int (xs 1)), (2, Value.ref 129), (3, Value.int sc), (4, Value.int 0), (5, Value.int 0), (6, Value.int md)]) rfl ?_
    refine i_180_56 (x := ((B + sc) - (64 : Int32))) rfl ?_
    refine i_180_58 (x := sc) rfl ?_
    refine i_180_59 (c := (((B + sc) - (64 : Int32)) - sc)) rfl ?_
    refine i_180_60 (lv2 := [(10, Value.int (((B + sc) - (64 : Int32)) - sc)), (9, Value.int ((B + sc) - (64 : Int32))), (8, Value.int (B + sc)), (7, Value.int 64), (0, Value.ref 128), (1, Value.int (xs 1)), (2, Value.ref 129), (3, Value.int sc), (4, Value.int 0), (5, Value.int 0), (6, Value.int md)]) rfl ?_
    refine i_180_62 (x := 128) rfl ?_
    refine i_180_63 (v := Value.ref 156) hm rfl ?_
    refine i_180_66 (x := (xs 1)) rfl ?_
    refine i_180_67 (x := 0) rfl ?_
    refine i_180_69z (v := Value.int 0) ((hk 156 (by decide) (by decide)).trans W0_156) (by omega) (by omega) (by omega) rfl ?_
    refine i_180_70 (x := 128) rfl ?_
    refine i_180_71 (v := Value.ref 135) (xgn (by decide) hm) rfl ?_
    refine i_180_74 (x := 129) rfl ?_
    refine i_180_75 (xgn (by decide) (((hk 135 (by decide) (by decide)).trans W0_135))) (Nat.le_of_ble_eq_true rfl) (s_182_2 (xgn (by decide) hv) (xgn (by decide) (((hk 135 (by decide) (by decide)).trans W0_135))) (xgn (by decide) hvw) (xgn (by decide) (((hk 136 (by decide) (by decide)).trans W0_136))) hg0 hg1 hg2) ?_
    refine i_180_78 ?_
    refine i_180_79 (lv2 := [(11, Value.int 0), (10, Value.int (((B + sc) - (64 : Int32)) - sc)), (9, Value.int ((B + sc) - (64 : Int32))), (8, Value.int (B + sc)), (7, Value.int 64), (0, Value.ref 128), (1, Value.int (xs 1)), (2, Value.ref 129), (3, Value.int sc), (4, Value.int 0), (5, Value.int 0), (6, Value.int md)]) rfl ?_
    refine i_180_81 (x := 0) rfl ?_
    refine i_180_83 (fun h => absurd h (by decide)) (fun _ => ?_)
    refine i_180_86 ?_
    refine i_180_87 ?_
    refine i_180_91 (lv2 := [(12, Value.int 1), (11, Value.int 0), (10, Value.int (((B + sc) - (64 : Int32)) - sc)), (9, Value.int ((B + sc) - (64 : Int32))), (8, Value.int (B + sc)), (7, Value.int 64), (0, Value.ref 128), (1, Value.int (xs 1)), (2, Value.ref 129), (3, Value.int sc), (4, Value.int 0), (5, Value.int 0), (6, Value.int md)]) rfl ?_
    refine i_180_93 (x := (((B + sc) - (64 : Int32)) - sc)) rfl ?_
    refine i_180_95 (fun _ => ?_) (fun h => absurd (show (((B + sc) - (64 : Int32)) - sc).toInt ≤ 0 by omega) (Int.not_le.mpr h))
    refine i_180_151 (x := 128) rfl ?_
    refine i_180_152 (v := Value.ref 135) (xgn (by decide) (xgn (by decide) (xgn (by decide) hm))) rfl ?_
    refine i_180_155 (x := (((B + sc) - (64 : Int32)) - sc)) rfl ?_
    refine i_180_157 (c := K) (show (-(((B + sc) - (64 : Int32)) - sc)) = K from (xge_i (by omega))) ?_
    refine i_180_158 (xgs (xgn (by decide) (xgn (by decide) (((hk 135 (by decide) (by decide)).trans W0_135))))) (Nat.le_of_ble_eq_true rfl) (s_188_4 (xgs (xgn (by decide) (xgn (by decide) (((hk 135 (by decide) (by decide)).trans W0_135))))) (by omega) (show (K / (30 : Int32)) = 0 from c20) (show (K - K / (30 : Int32) * (30 : Int32)) = P from c21) (xgn (by decide) (xgs (xgn (by decide) (((hk 136 (by decide) (by decide)).trans W0_136))))) (xcp_i rfl hg2) (show ((0 : Int32) ||| (xH (xq (xqs (xqs m))) P)) = 0 from (xge_c (n := 0) (by omega) rfl)) (xcp_i rfl hg1) (xcp_i rfl hg0) (by omega)) ?_
    refine i_180_161 (x := 0) rfl ?_
    refine i_180_163 (fun _ => ?_) (fun h => absurd h (by decide))
    refine i_180_174 (x := 128) rfl ?_
    refine i_180_175 (v := Value.ref 135) (xgn (by decide) (xgn (by decide) (xgn (by decide) (xgn (by decide) (xgn (by decide) hm))))) rfl ?_
    refine i_180_178 (xgs (xgn (by decide) (xgs (xgn (by decide) (xgn (by decide) (((hk 135 (by decide) (by decide)).trans W0_135))))))) (Nat.le_of_ble_eq_true rfl) (mb_run3 (xgs (xgn (by decide) (xgs (xgn (by decide) (xgn (by decide) (((hk 135 (by decide) (by decide)).trans W0_135))))))) (xgn (by decide) (xgs (xgn (by decide) (xgs (xgn (by decide) (((hk 136 (by decide) (by decide)).trans W0_136))))))) (xup_n (by decide) (xup_n (by decide) (xup_n (by decide) xup_s))) (by omega) (show ((60 : Int32) + (xbn ((xL (xq (xqs (xqs m))) P) ||| (xH (xq (xqs m)) P)))) = 64 from (xge_c (n := 64) (by omega) rfl))) ?_
    refine i_180_181 (x := ((B + sc) - (64 : Int32))) rfl ?_
    refine i_180_183 (c := (B + sc)) (show ((64 : Int32) + ((B + sc) - (64 : Int32))) = (B + sc) from (xge_i (by omega))) ?_
    refine i_180_184 (lv2 := [(13, Value.int (B + sc)), (12, Value.int 1), (11, Value.int 0), (10, Value.int (((B + sc) - (64 : Int32)) - sc)), (9, Value.int ((B + sc) - (64 : Int32))), (8, Value.int (B + sc)), (7, Value.int 64), (0, Value.ref 128), (1, Value.int (xs 1)), (2, Value.ref 129), (3, Value.int sc), (4, Value.int 0), (5, Value.int 0), (6, Value.int md)]) rfl ?_
    refine i_180_186 (x := 1) rfl ?_
    refine i_180_188 (fun h => absurd h (by decide)) (fun _ => ?_)
    refine i_180_191 ?_
    refine i_180_192 ?_
    refine i_180_205 (lv2 := [(14, Value.int 0), (13, Value.int (B + sc)), (12, Value.int 1), (11, Value.int 0), (10, Value.int (((B + sc) - (64 : Int32)) - sc)), (9, Value.int ((B + sc) - (64 : Int32))), (8, Value.int (B + sc)), (7, Value.int 64), (0, Value.ref 128), (1, Value.int (xs 1)), (2, Value.ref 129), (3, Value.int sc), (4, Value.int 0), (5, Value.int 0), (6, Value.int md)]) rfl ?_
    exact h1
  · refine xKp.set ?_ (fun h hh => by unfold xPM at hh; omega) (xgn (by decide) (xgs (xgn (by decide) (xgn (by decide) (((hk 135 (by decide) (by decide)).trans W0_135)))))) xcs_o
    refine xKp.set ?_ (fun h hh => by unfold xPM at hh; omega) (xgn (by decide) (xgs (xgn (by decide) (((hk 136 (by decide) (by decide)).trans W0_136))))) xcs_a
    refine xKp.set ?_ (fun h hh => by unfold xPM at hh; omega) (xgn (by decide) (xgn (by decide) (((hk 135 (by decide) (by decide)).trans W0_135)))) xcs_o
    refine xKp.set ?_ (fun h hh => by unfold xPM at hh; omega) (xgn (by decide) (((hk 136 (by decide) (by decide)).trans W0_136))) xcs_a
    refine xKp.set ?_ (fun h hh => by unfold xPM at hh; omega) (((hk 156 (by decide) (by decide)).trans W0_156)) xcs_a
    exact xKp.refl
theorem rd7_0 {d : Nat} {xs : Nat → Int32} {m : Int64} {sc md : Int32} {w : xW} {g : Nat → Value} {B K P G : Int32} (hk : ∀ h, 131 ≤ h → h < 194 → w[h]? = (W0 6 xs)[h]?) (hm : w[128]? = some (Sum.inr (12, [Value.ref 129, Value.ref 131, Value.ref 133, Value.ref 135, Value.ref 137, Value.ref 139, Value.ref 141, Value.ref 143, Value.ref 145, Value.ref 147, Value.ref 149, Value.ref 151, Value.ref 153, Value.ref 154, Value.ref 155, Value.ref 156, Value.ref 157, Value.int (-16384), Value.int 16384, Value.int 0, Value.int 0, Value.int 0, Value.ref 158, Value.ref 159, Value.int 0, Value.int 0, Value.int 0, Value.int 0, Value.int 0, Value.int 0, Value.int 0, Value.int 0]))) (hv : w[129]? = some (Sum.inr (13, [Value.ref 130, Value.int 3]))) (hvw : w[130]? = some (Sum.inl (0, 4700, g))) (hg0 : g (0 : Int32).toInt.toNat = Value.int (xq m)) (hg1 : g (1 : Int32).toInt.toNat = Value.int (xq (xqs m))) (hg2 : g (2 : Int32).toInt.toNat = Value.int (xq (xqs (xqs m)))) (hB : B.toInt = (xbl (xul m) : Int)) (c0 : 0 ≤ (xs 1).toInt) (c1 : (xs 1).toInt < 16) (c2 : (-40000) ≤ sc.toInt) (c3 : sc.toInt ≤ 40000) (c4 : 0 ≤ md.toInt) (c5 : md.toInt ≤ 4) (c6 : K.toInt = 64 - B.toInt) (c7 : 64 ≤ B.toInt) (c8 : B.toInt ≤ 64) (c9 : (xhi m).toInt ≠ 0) (c10 : (xnlz (xhi m)).toInt = 64 - B.toInt) (c11 : (xbf 2 (xlo m) (xhi m) ((32 : Int32) - K)).toInt ≠ 0) (c12 : (lg_cmp m (0 : Int64)).toInt ≠ 0) (c13 : (lg_cmp (xqs m) (0 : Int64)).toInt ≠ 0) (c14 : (lg_cmp (xqs (xqs m)) (0 : Int64)).toInt ≠ 0) (c15 : (lg_cmp (xqs (xqs (xqs m))) (0 : Int64)).toInt = 0) (c16 : (xbn (xq (xqs (xqs m)))).toInt = B.toInt - 60) (c17 : (xq (xqs (xqs m))).toInt ≠ 0) (c18 : 0 ≤ (xq (xqs (xqs m))).toInt) (c19 : K.toInt = 0) (c20 : (xbn (xq (xqs (xqs m)))).toInt = 4) (c21 : G.toInt = B.toInt - 61) : ∃ w2, xRun (d + 6) 180 [Value.ref 128, Value.int (xs 1), Value.ref 129, Value.int sc, Value.int 0, Value.int 0, Value.int md] w (.inl (some (Value.int (xres 0 m sc md)))) w2 ∧ xKp w w2 xPM ∧ ∃ f, w2[128]? = some (xmo f) := by
  have f0 : ((60 : Int32) + (xbn (xq (xqs (xqs m))))).toInt = 60 + (xbn (xq (xqs (xqs m)))).toInt := xadd_g rfl rfl (by omega) (by omega)
  have f1 : ((64 : Int32) + sc).toInt = 64 + sc.toInt := xadd_g rfl rfl (by omega) (by omega)
  have f2 : (((64 : Int32) + sc) - (64 : Int32)).toInt = ((64 : Int32) + sc).toInt - 64 := xsub_g rfl rfl (by omega) (by omega)
  have f3 : (sc - sc).toInt = sc.toInt - sc.toInt := xsub_i (by omega) (by omega)
  have fb : ((60 : Int32) + xbn (xq (xqs (xqs m)))).toInt = B.toInt := by rw [xadd_i (by show _ ≤ (60 : Int) + _; omega) (by show (60 : Int) + _ < _; omega)]; show (60 : Int) + _ = _; omega
  obtain ⟨w2, h1, h2, h3⟩ := suf_0 (d := d) (xs := xs) (m := m) (sc := sc) (md := md) (w := (((w.set 156 (Sum.inl (2, 17, xup (fun _ => Value.int 0) (xs 1).toInt.toNat (Value.int 0)))).set 136 (Sum.inl (0, 4700, xcp g (fun _ => Value.int 0) (0 : Int32).toInt.toNat (0 : Int32).toInt.toNat (3 : Int32).toInt.toNat))).set 135 (Sum.inr (13, [Value.ref 136, Value.int 3])))) (B := B) (E := ((64 : Int32) + sc)) (U := sc) (C := 0) hB (fun h h1 h2 h3 h4 h5 => (xgn (by omega) (xgn (by omega) (xgn (by omega) (rfl)))).trans (hk h h1 h2)) (xgn (by decide) (xgn (by decide) (xgn (by decide) hm))) (xgn (by decide) (xgn (by decide) (xgn (by decide) hv))) (xgs (xgn (by decide) (xgn (by decide) (((hk 135 (by decide) (by decide)).trans W0_135))))) (xgn (by decide) (xgs (xgn (by decide) (((hk 136 (by decide) (by decide)).trans W0_136))))) (xcp_i rfl hg0) (xcp_i rfl hg1) (xcp_i rfl hg2) (xgn (by decide) (xgn (by decide) (xgs ((hk 156 (by decide) (by decide)).trans W0_156)))) (fun d' w' e1 e2 => mb_run3 (e1.trans (xgn (by decide) (xgn (by decide) (xgn (by decide) hv)))) (e2.trans (xgn (by decide) (xgn (by decide) (xgn (by decide) hvw)))) hg2 (by omega) (xge_i (by omega))) (fun hp d' w' e1 e2 => any0_7 (xs := xs) (sc := sc) (md := md) (P := P) hB (e1.trans (xgn (by decide) (xgn (by decide) (xgn (by decide) hv)))) (e2.trans (xgn (by decide) (xgn (by decide) (xgn (by decide) hvw)))) hg0 hg1 hg2 c0 c1 c2 c3 c4 c5 c6 c7 c8 c9 c10 c11 c12 c13 c14 c15 c16 c17 c18 c19 c20 c21 hp) (fun hp d' w' e1 e2 => any1_7 (xs := xs) (sc := sc) (md := md) (P := P) hB (e1.trans (xgn (by decide) (xgn (by decide) (xgn (by decide) hv)))) (e2.trans (xgn (by decide) (xgn (by decide) (xgn (by decide) hvw)))) hg0 hg1 hg2 c0 c1 c2 c3 c4 c5 c6 c7 c8 c9 c10 c11 c12 c13 c14 c15 c16 c17 c18 c19 c20 c21 hp) c0 c1 c2 c3 c4 c5 (by omega) (by omega) (by omega) (by omega) (by omega) (by omega)
  refine ⟨w2, xRun.of ?_, xKp.trans ?_ h2, h3⟩
  · refine i_180_0 (x := 128) rfl ?_
    refine i_180_1 (v := Value.ref 153) hm rfl ?_
    refine i_180_4 (x := (xs 1)) rfl ?_
    refine i_180_5 (v := Value.int 64) ((hk 153 (by decide) (by decide)).trans W0_153) (by omega) (by omega) (gprec_at (by omega)) ?_
    refine i_180_6 (lv2 := [(7, Value.int 64), (0, Value.ref 128), (1, Value.int (xs 1)), (2, Value.ref 129), (3, Value.int sc), (4, Value.int 0), (5, Value.int 0), (6, Value.int md)]) rfl ?_
    refine i_180_8 (x := 129) rfl ?_
    refine i_180_9 hv (Nat.le_of_ble_eq_true rfl) (mb_run3 hv hvw hg2 (by omega) (show ((60 : Int32) + (xbn (xq (xqs (xqs m))))) = 64 from (xge_c (n := 64) (by omega) rfl))) ?_
    refine i_180_12 (x := sc) rfl ?_
    refine i_180_13 (c := ((64 : Int32) + sc)) (show ((64 : Int32) + sc) = ((64 : Int32) + sc) from (xge_i (by omega))) ?_
    refine i_180_14 (lv2 := [(8, Value.int ((64 : Int32) + sc)), (7, Value.int 64), (0, Value.ref 128), (1, Value.int (xs 1)), (2, Value.ref 129), (3, Value.int sc), (4, Value.int 0), (5, Value.int 0), (6, Value.int md)]) rfl ?_
    refine i_180_16 (x := 128) rfl ?_
    refine i_180_17 (v := Value.int 0) hm rfl ?_
    refine i_180_20 (fun h => absurd h (by decide)) (fun _ => ?_)
    refine i_180_23 (x := 128) rfl ?_
    refine i_180_24 (v := Value.int 0) hm rfl ?_
    refine i_180_27 (fun _ => ?_) (fun h => absurd h (by decide))
    refine i_180_49 (x := ((64 : Int32) + sc)) rfl ?_
    refine i_180_51 (x := 64) rfl ?_
    refine i_180_53 (c := sc) (show (((64 : Int32) + sc) - (64 : Int32)) = sc from (xge_i (by omega))) ?_
    refine i_180_54 (lv2 := [(9, Value.int sc), (8, Value.int ((64 : Int32) + sc)), (7, Value.int 64), (0, Value.ref 128), (1, Value.int (xs 1)), (2, Value.ref 129), (3, Value.int sc), (4, Value.int 0), (5, Value.int 0), (6, Value.int md)]) rfl ?_
    refine i_180_56 (x := sc) rfl ?_
    refine i_180_58 (x := sc) rfl ?_
    refine i_180_59 (c := 0) (show (sc - sc) = 0 from (xge_c (n := 0) (by omega) rfl)) ?_
    refine i_180_60 (lv2 := [(10, Value.int 0), (9, Value.int sc), (8, Value.int ((64 : Int32) + sc)), (7, Value.int 64), (0, Value.ref 128), (1, Value.int (xs 1)), (2, Value.ref 129), (3, Value.int sc), (4, Value.int 0), (5, Value.int 0), (6, Value.int md)]) rfl ?_
    refine i_180_62 (x := 128) rfl ?_
    refine i_180_63 (v := Value.ref 156) hm rfl ?_
    refine i_180_66 (x := (xs 1)) rfl ?_
    refine i_180_67 (x := 0) rfl ?_
    refine i_180_69z (v := Value.int 0) ((hk 156 (by decide) (by decide)).trans W0_156) (by omega) (by omega) (by omega) rfl ?_
    refine i_180_70 (x := 128) rfl ?_
    refine i_180_71 (v := Value.ref 135) (xgn (by decide) hm) rfl ?_
    refine i_180_74 (x := 129) rfl ?_
    refine i_180_75 (xgn (by decide) (((hk 135 (by decide) (by decide)).trans W0_135))) (Nat.le_of_ble_eq_true rfl) (s_182_2 (xgn (by decide) hv) (xgn (by decide) (((hk 135 (by decide) (by decide)).trans W0_135))) (xgn (by decide) hvw) (xgn (by decide) (((hk 136 (by decide) (by decide)).trans W0_136))) hg0 hg1 hg2) ?_
    refine i_180_78 ?_
    refine i_180_79 (lv2 := [(11, Value.int 0), (10, Value.int 0), (9, Value.int sc), (8, Value.int ((64 : Int32) + sc)), (7, Value.int 64), (0, Value.ref 128), (1, Value.int (xs 1)), (2, Value.ref 129), (3, Value.int sc), (4, Value.int 0), (5, Value.int 0), (6, Value.int md)]) rfl ?_
    refine i_180_81 (x := 0) rfl ?_
    refine i_180_83 (fun h => absurd h (by decide)) (fun _ => ?_)
    refine i_180_86 ?_
    refine i_180_87 ?_
    refine i_180_91 (lv2 := [(12, Value.int 1), (11, Value.int 0), (10, Value.int 0), (9, Value.int sc), (8, Value.int ((64 : Int32) + sc)), (7, Value.int 64), (0, Value.ref 128), (1, Value.int (xs 1)), (2, Value.ref 129), (3, Value.int sc), (4, Value.int 0), (5, Value.int 0), (6, Value.int md)]) rfl ?_
    refine i_180_93 (x := 0) rfl ?_
    refine i_180_95 (fun _ => ?_) (fun h => absurd h (by decide))
    refine i_180_151 (x := 128) rfl ?_
    refine i_180_152 (v := Value.ref 135) (xgn (by decide) (xgn (by decide) (xgn (by decide) hm))) rfl ?_
    refine i_180_155 (x := 0) rfl ?_
    refine i_180_157 (c := 0) (by decide) ?_
    refine i_180_158 (xgs (xgn (by decide) (xgn (by decide) (((hk 135 (by decide) (by decide)).trans W0_135))))) (Nat.le_of_ble_eq_true rfl) (s_188_5 (xgs (xgn (by decide) (xgn (by decide) (((hk 135 (by decide) (by decide)).trans W0_135)))))) ?_
    refine i_180_161 (x := 0) rfl ?_
    refine i_180_163 (fun _ => ?_) (fun h => absurd h (by decide))
    refine i_180_174 (x := 128) rfl ?_
    refine i_180_175 (v := Value.ref 135) (xgn (by decide) (xgn (by decide) (xgn (by decide) hm))) rfl ?_
    refine i_180_178 (xgs (xgn (by decide) (xgn (by decide) (((hk 135 (by decide) (by decide)).trans W0_135))))) (Nat.le_of_ble_eq_true rfl) (mb_run3 (xgs (xgn (by decide) (xgn (by decide) (((hk 135 (by decide) (by decide)).trans W0_135))))) (xgn (by decide) (xgs (xgn (by decide) (((hk 136 (by decide) (by decide)).trans W0_136))))) (xcp_i rfl hg2) (by omega) (show ((60 : Int32) + (xbn (xq (xqs (xqs m))))) = 64 from (xge_c (n := 64) (by omega) rfl))) ?_
    refine i_180_181 (x := sc) rfl ?_
    refine i_180_183 (c := ((64 : Int32) + sc)) (show ((64 : Int32) + sc) = ((64 : Int32) + sc) from (xge_i (by omega))) ?_
    refine i_180_184 (lv2 := [(13, Value.int ((64 : Int32) + sc)), (12, Value.int 1), (11, Value.int 0), (10, Value.int 0), (9, Value.int sc), (8, Value.int ((64 : Int32) + sc)), (7, Value.int 64), (0, Value.ref 128), (1, Value.int (xs 1)), (2, Value.ref 129), (3, Value.int sc), (4, Value.int 0), (5, Value.int 0), (6, Value.int md)]) rfl ?_
    refine i_180_186 (x := 1) rfl ?_
    refine i_180_188 (fun h => absurd h (by decide)) (fun _ => ?_)
    refine i_180_191 ?_
    refine i_180_192 ?_
    refine i_180_205 (lv2 := [(14, Value.int 0), (13, Value.int ((64 : Int32) + sc)), (12, Value.int 1), (11, Value.int 0), (10, Value.int 0), (9, Value.int sc), (8, Value.int ((64 : Int32) + sc)), (7, Value.int 64), (0, Value.ref 128), (1, Value.int (xs 1)), (2, Value.ref 129), (3, Value.int sc), (4, Value.int 0), (5, Value.int 0), (6, Value.int md)]) rfl ?_
    exact h1
  · refine xKp.set ?_ (fun h hh => by unfold xPM at hh; omega) (xgn (by decide) (xgn (by decide) (((hk 135 (by decide) (by decide)).trans W0_135)))) xcs_o
    refine xKp.set ?_ (fun h hh => by unfold xPM at hh; omega) (xgn (by decide) (((hk 136 (by decide) (by decide)).trans W0_136))) xcs_a
    refine xKp.set ?_ (fun h hh => by unfold xPM at hh; omega) (((hk 156 (by decide) (by decide)).trans W0_156)) xcs_a
    exact xKp.refl
theorem s_171_2 {d : Nat} {w : xW} {a0 : Int32} {g0 : Nat → Value} (hw0 : w[128]? = some (Sum.inr (12, [Value.ref 129, Value.ref 131, Value.ref 133, Value.ref 135, Value.ref 137, Value.ref 139, Value.ref 141, Value.ref 143, Value.ref 145, Value.ref 147, Value.ref 149, Value.ref 151, Value.ref 153, Value.ref 154, Value.ref 155, Value.ref 156, Value.ref 157, Value.int (-16384), Value.int 16384, Value.int 2, Value.int 0, Value.int 0, Value.ref 158, Value.ref 159, Value.int 0, Value.int 0, Value.int 0, Value.int 0, Value.int 0, Value.int 0, Value.int 0, Value.int 0]))) (hw1 : w[154]? = some (Sum.inl (0, 17, fun _ => Value.int 0))) (e2 : 0 ≤ a0.toInt) (e3 : a0.toInt < 17) (hw4 : w[156]? = some (Sum.inl (2, 17, g0))) : xRun d 171 [Value.ref 128, Value.int a0, Value.int 1, Value.int 1] w (.inl (some (Value.int 0))) ((w.set 154 (Sum.inl (0, 17, xup (fun _ => Value.int 0) a0.toInt.toNat (Value.int 1)))).set 156 (Sum.inl (2, 17, xup g0 a0.toInt.toNat (Value.int 1)))) := by
  refine xRun.of ?_
  refine i_171_0 (x := 128) rfl ?_
  refine i_171_1 (v := Value.ref 154) hw0 rfl ?_
  refine i_171_4 (x := a0) rfl ?_
  refine i_171_5 (x := 1) rfl ?_
  refine i_171_6 (v := Value.int 1) hw1 e2 e3 (by decide) rfl ?_
  refine i_171_7 (x := 128) rfl ?_
  refine i_171_8 (v := Value.ref 156) (xgn (by decide) hw0) rfl ?_
  refine i_171_11 (x := a0) rfl ?_
  refine i_171_12 (x := 1) rfl ?_
  refine i_171_13z (v := Value.int 1) (xgn (by decide) hw4) e2 e3 (by decide) rfl ?_
  refine i_171_14 ?_
  exact i_171_15 ⟨rfl, rfl⟩
theorem sf1_0 {d : Nat} {xs : Nat → Int32} {m : Int64} {sc md : Int32} {w : xW} {B E U C q0 q1 q2 nn : Int32} {g : Nat → Value} (hk : ∀ h, 131 ≤ h → h < 194 → h ≠ 135 → h ≠ 136 → h ≠ 156 → w[h]? = (W0 6 xs)[h]?) (hm : w[128]? = some (Sum.inr (12, [Value.ref 129, Value.ref 131, Value.ref 133, Value.ref 135, Value.ref 137, Value.ref 139, Value.ref 141, Value.ref 143, Value.ref 145, Value.ref 147, Value.ref 149, Value.ref 151, Value.ref 153, Value.ref 154, Value.ref 155, Value.ref 156, Value.ref 157, Value.int (-16384), Value.int 16384, Value.int 0, Value.int 0, Value.int 0, Value.ref 158, Value.ref 159, Value.int 0, Value.int 0, Value.int 0, Value.int 0, Value.int 0, Value.int 0, Value.int 0, Value.int 0]))) (hv : w[129]? = some (Sum.inr (13, [Value.ref 130, Value.int nn]))) (hq : w[135]? = some (Sum.inr (13, [Value.ref 136, Value.int 3]))) (hqw : w[136]? = some (Sum.inl (0, 4700, g))) (hg0 : g (0 : Int32).toInt.toNat = Value.int q0) (hg1 : g (1 : Int32).toInt.toNat = Value.int q1) (hg2 : g (2 : Int32).toInt.toNat = Value.int q2) (hn : w[156]? = some (Sum.inl (2, 17, xup (fun _ => Value.int 0) (xs 1).toInt.toNat (Value.int 1)))) (hbits : ∀ (d' : Nat) (w' : xW), w'[129]? = w[129]? → w'[130]? = w[130]? → xRun d' 181 [Value.ref 129] w' (.inl (some (Value.int B))) w') (hany0 : xPW m → ∀ (d' : Nat) (w' : xW), w'[129]? = w[129]? → w'[130]? = w[130]? → xRun d' 183 [Value.ref 129, Value.int (B - (1 : Int32))] w' (.inl (some (Value.int 0))) w') (hany1 : ¬ xPW m → ∀ (d' : Nat) (w' : xW), w'[129]? = w[129]? → w'[130]? = w[130]? → xRun d' 183 [Value.ref 129, Value.int (B - (1 : Int32))] w' (.inl (some (Value.int 1))) w') (c0 : 0 ≤ (xs 1).toInt) (c1 : (xs 1).toInt < 16) (c2 : (-40000) ≤ sc.toInt) (c3 : sc.toInt ≤ 40000) (c4 : 0 ≤ md.toInt) (c5 : md.toInt ≤ 4) (c6 : 1 ≤ B.toInt) (c7 : B.toInt ≤ 64) (c8 : E.toInt = B.toInt + sc.toInt) (c9 : U.toInt = E.toInt - 64) (c10 : 0 ≤ q2.toInt) (c11 : (xbn q2).toInt = 4) (c12 : 16384 < E.toInt) (c13 : md.toInt = 0) : ∃ w2, xEv (d + 6) 180 207 [(14, Value.int 0), (13, Value.int E), (12, Value.int 1), (11, Value.int 0), (10, Value.int C), (9, Value.int U), (8, Value.int E), (7, Value.int 64), (0, Value.ref 128), (1, Value.int (xs 1)), (2, Value.ref 129), (3, Value.int sc), (4, Value.int 0), (5, Value.int 1), (6, Value.int md)] [] w (fun o' w' => o' = .inl (some (Value.int (-1))) ∧ w' = w2) ∧ xKp w w2 xPM ∧ w2[128]? = some (Sum.inr (12, [Value.ref 129, Value.ref 131, Value.ref 133, Value.ref 135, Value.ref 137, Value.ref 139, Value.ref 141, Value.ref 143, Value.ref 145, Value.ref 147, Value.ref 149, Value.ref 151, Value.ref 153, Value.ref 154, Value.ref 155, Value.ref 156, Value.ref 157, Value.int (-16384), Value.int 16384, Value.int 3, Value.int 0, Value.int 0, Value.ref 158, Value.ref 159, Value.int 0, Value.int 0, Value.int 0, Value.int 0, Value.int 0, Value.int 0, Value.int 0, Value.int 0])) := by
  refine ⟨((((w.set 128 (Sum.inr (12, [Value.ref 129, Value.ref 131, Value.ref 133, Value.ref 135, Value.ref 137, Value.ref 139, Value.ref 141, Value.ref 143, Value.ref 145, Value.ref 147, Value.ref 149, Value.ref 151, Value.ref 153, Value.ref 154, Value.ref 155, Value.ref 156, Value.ref 157, Value.int (-16384), Value.int 16384, Value.int 2, Value.int 0, Value.int 0, Value.ref 158, Value.ref 159, Value.int 0, Value.int 0, Value.int 0, Value.int 0, Value.int 0, Value.int 0, Value.int 0, Value.int 0]))).set 154 (Sum.inl (0, 17, xup (fun _ => Value.int 0) (xs 1).toInt.toNat (Value.int 1)))).set 156 (Sum.inl (2, 17, xup (xup (fun _ => Value.int 0) (xs 1).toInt.toNat (Value.int 1)) (xs 1).toInt.toNat (Value.int 1)))).set 128 (Sum.inr (12, [Value.ref 129, Value.ref 131, Value.ref 133, Value.ref 135, Value.ref 137, Value.ref 139, Value.ref 141, Value.ref 143, Value.ref 145, Value.ref 147, Value.ref 149, Value.ref 151, Value.ref 153, Value.ref 154, Value.ref 155, Value.ref 156, Value.ref 157, Value.int (-16384), Value.int 16384, Value.int 3, Value.int 0, Value.int 0, Value.ref 158, Value.ref 159, Value.int 0, Value.int 0, Value.int 0, Value.int 0, Value.int 0, Value.int 0, Value.int 0, Value.int 0]))), ?_, ?_, xgs (xgn (by decide) (xgn (by decide) (xgs hm)))⟩
  · refine i_180_207 (x := 128) rfl ?_
    refine i_180_208 (v := Value.int 0) hm rfl ?_
    refine i_180_211 (fun h => absurd h (by decide)) (fun _ => ?_)
    refine i_180_214 (x := 128) rfl ?_
    refine i_180_215 (v := Value.ref 135) hm rfl ?_
    refine i_180_218 (v := Value.int 3) hq rfl ?_
    refine i_180_221 (fun h => absurd h (by decide)) (fun _ => ?_)
    refine i_180_224 (x := E) rfl ?_
    refine i_180_226 (x := 128) rfl ?_
    refine i_180_227 (v := Value.int 16384) hm rfl ?_
    refine i_180_230 (fun h => absurd (show 16384 < E.toInt by omega) (Int.not_lt.mpr h)) (fun _ => ?_)
    refine i_180_233 (x := 128) rfl ?_
    refine i_180_234 rfl ?_
    refine i_180_235 (v := Value.int 0) hm rfl ?_
    refine i_180_238 ?_
    refine i_180_239 (c := 2) (by decide) ?_
    refine i_180_240 (fs2 := [Value.ref 129, Value.ref 131, Value.ref 133, Value.ref 135, Value.ref 137, Value.ref 139, Value.ref 141, Value.ref 143, Value.ref 145, Value.ref 147, Value.ref 149, Value.ref 151, Value.ref 153, Value.ref 154, Value.ref 155, Value.ref 156, Value.ref 157, Value.int (-16384), Value.int 16384, Value.int 2, Value.int 0, Value.int 0, Value.ref 158, Value.ref 159, Value.int 0, Value.int 0, Value.int 0, Value.int 0, Value.int 0, Value.int 0, Value.int 0, Value.int 0]) hm (Nat.le_of_ble_eq_true rfl) rfl (by omega) ?_
    refine i_180_243 (x := md) rfl ?_
    refine i_180_245 (fun _ => ?_) (fun h => absurd (show md.toInt = 0 by omega) h)
    refine i_180_276 ?_
    refine i_180_277 ?_
    refine i_180_281 (lv2 := [(15, Value.int 1), (14, Value.int 0), (13, Value.int E), (12, Value.int 1), (11, Value.int 0), (10, Value.int C), (9, Value.int U), (8, Value.int E), (7, Value.int 64), (0, Value.ref 128), (1, Value.int (xs 1)), (2, Value.ref 129), (3, Value.int sc), (4, Value.int 0), (5, Value.int 1), (6, Value.int md)]) rfl ?_
    refine i_180_283 (x := 1) rfl ?_
    refine i_180_285 (fun h => absurd h (by decide)) (fun _ => ?_)
    refine i_180_288 (x := 128) rfl ?_
    refine i_180_289 (x := (xs 1)) rfl ?_
    refine i_180_290 ?_
    refine i_180_291 (x := 1) rfl ?_
    refine i_180_293 (xgs hm) (Nat.le_of_ble_eq_true rfl) (s_171_2 (xgs hm) (xgn (by decide) (((hk 154 (by decide) (by decide) (by decide) (by decide) (by decide)).trans W0_154))) (by omega) (by omega) (xgn (by decide) hn)) ?_
    refine i_180_296 rfl ?_
    refine i_180_297 ?_
    refine i_180_352 (x := 1) rfl ?_
    refine i_180_354 (fun h => absurd h (by decide)) (fun _ => ?_)
    refine i_180_357 ?_
    refine i_180_358 ?_
    refine i_180_362 (lv2 := [(14, Value.int 1), (15, Value.int 1), (13, Value.int E), (12, Value.int 1), (11, Value.int 0), (10, Value.int C), (9, Value.int U), (8, Value.int E), (7, Value.int 64), (0, Value.ref 128), (1, Value.int (xs 1)), (2, Value.ref 129), (3, Value.int sc), (4, Value.int 0), (5, Value.int 1), (6, Value.int md)]) rfl ?_
    refine i_180_364 ?_
    refine i_180_591 (x := 128) rfl ?_
    refine i_180_592 (v := Value.int 0) (xgn (by decide) (xgn (by decide) (xgs hm))) rfl ?_
    refine i_180_595 (fun h => absurd h (by decide)) (fun _ => ?_)
    refine i_180_598 (x := 128) rfl ?_
    refine i_180_599 (v := Value.int 0) (xgn (by decide) (xgn (by decide) (xgs hm))) rfl ?_
    refine i_180_602 (fun _ => ?_) (fun h => absurd h (by decide))
    refine i_180_629 (x := 1) rfl ?_
    refine i_180_631 (fun h => absurd h (by decide)) (fun _ => ?_)
    refine i_180_634 (x := 128) rfl ?_
    refine i_180_635 rfl ?_
    refine i_180_636 (v := Value.int 2) (xgn (by decide) (xgn (by decide) (xgs hm))) rfl ?_
    refine i_180_639 ?_
    refine i_180_640 (c := 3) (by decide) ?_
    refine i_180_641 (fs2 := [Value.ref 129, Value.ref 131, Value.ref 133, Value.ref 135, Value.ref 137, Value.ref 139, Value.ref 141, Value.ref 143, Value.ref 145, Value.ref 147, Value.ref 149, Value.ref 151, Value.ref 153, Value.ref 154, Value.ref 155, Value.ref 156, Value.ref 157, Value.int (-16384), Value.int 16384, Value.int 3, Value.int 0, Value.int 0, Value.ref 158, Value.ref 159, Value.int 0, Value.int 0, Value.int 0, Value.int 0, Value.int 0, Value.int 0, Value.int 0, Value.int 0]) (xgn (by decide) (xgn (by decide) (xgs hm))) (Nat.le_of_ble_eq_true rfl) rfl (by omega) ?_
    refine i_180_644 (x := 1) rfl ?_
    refine i_180_646 (fun h => absurd h (by decide)) (fun _ => ?_)
    refine i_180_649 (x := 1) rfl ?_
    refine i_180_651 (c := (-1)) (by decide) ?_
    refine i_180_652 ?_
    exact i_180_657 ⟨rfl, rfl⟩
  · refine xKp.set ?_ (fun h hh => by unfold xPM at hh; omega) (xgn (by decide) (xgn (by decide) (xgs hm))) xcs_o
    refine xKp.set ?_ (fun h hh => by unfold xPM at hh; omega) (xgn (by decide) (xgn (by decide) hn)) xcs_a
    refine xKp.set ?_ (fun h hh => by unfold xPM at hh; omega) (xgn (by decide) (((hk 154 (by decide) (by decide) (by decide) (by decide) (by decide)).trans W0_154))) xcs_a
    refine xKp.set ?_ (fun h hh => by unfold xPM at hh; omega) (hm) xcs_o
    exact xKp.refl
theorem sf1_1 {d : Nat} {xs : Nat → Int32} {m : Int64} {sc md : Int32} {w : xW} {B E U C q0 q1 q2 nn : Int32} {g : Nat → Value} (hk : ∀ h, 131 ≤ h → h < 194 → h ≠ 135 → h ≠ 136 → h ≠ 156 → w[h]? = (W0 6 xs)[h]?) (hm : w[128]? = some (Sum.inr (12, [Value.ref 129, Value.ref 131, Value.ref 133, Value.ref 135, Value.ref 137, Value.ref 139, Value.ref 141, Value.ref 143, Value.ref 145, Value.ref 147, Value.ref 149, Value.ref 151, Value.ref 153, Value.ref 154, Value.ref 155, Value.ref 156, Value.ref 157, Value.int (-16384), Value.int 16384, Value.int 0, Value.int 0, Value.int 0, Value.ref 158, Value.ref 159, Value.int 0, Value.int 0, Value.int 0, Value.int 0, Value.int 0, Value.int 0, Value.int 0, Value.int 0]))) (hv : w[129]? = some (Sum.inr (13, [Value.ref 130, Value.int nn]))) (hq : w[135]? = some (Sum.inr (13, [Value.ref 136, Value.int 3]))) (hqw : w[136]? = some (Sum.inl (0, 4700, g))) (hg0 : g (0 : Int32).toInt.toNat = Value.int q0) (hg1 : g (1 : Int32).toInt.toNat = Value.int q1) (hg2 : g (2 : Int32).toInt.toNat = Value.int q2) (hn : w[156]? = some (Sum.inl (2, 17, xup (fun _ => Value.int 0) (xs 1).toInt.toNat (Value.int 1)))) (hbits : ∀ (d' : Nat) (w' : xW), w'[129]? = w[129]? → w'[130]? = w[130]? → xRun d' 181 [Value.ref 129] w' (.inl (some (Value.int B))) w') (hany0 : xPW m → ∀ (d' : Nat) (w' : xW), w'[129]? = w[129]? → w'[130]? = w[130]? → xRun d' 183 [Value.ref 129, Value.int (B - (1 : Int32))] w' (.inl (some (Value.int 0))) w') (hany1 : ¬ xPW m → ∀ (d' : Nat) (w' : xW), w'[129]? = w[129]? → w'[130]? = w[130]? → xRun d' 183 [Value.ref 129, Value.int (B - (1 : Int32))] w' (.inl (some (Value.int 1))) w') (c0 : 0 ≤ (xs 1).toInt) (c1 : (xs 1).toInt < 16) (c2 : (-40000) ≤ sc.toInt) (c3 : sc.toInt ≤ 40000) (c4 : 0 ≤ md.toInt) (c5 : md.toInt ≤ 4) (c6 : 1 ≤ B.toInt) (c7 : B.toInt ≤ 64) (c8 : E.toInt = B.toInt + sc.toInt) (c9 : U.toInt = E.toInt - 64) (c10 : 0 ≤ q2.toInt) (c11 : (xbn q2).toInt = 4) (c12 : 16384 < E.toInt) (c13 : md.toInt ≠ 0) (c14 : md.toInt = 4) : ∃ w2, xEv (d + 6) 180 207 [(14, Value.int 0), (13, Value.int E), (12, Value.int 1), (11, Value.int 0), (10, Value.int C), (9, Value.int U), (8, Value.int E), (7, Value.int 64), (0, Value.ref 128), (1, Value.int (xs 1)), (2, Value.ref 129), (3, Value.int sc), (4, Value.int 0), (5, Value.int 1), (6, Value.int md)] [] w (fun o' w' => o' = .inl (some (Value.int (-1))) ∧ w' = w2) ∧ xKp w w2 xPM ∧ w2[128]? = some (Sum.inr (12, [Value.ref 129, Value.ref 131, Value.ref 133, Value.ref 135, Value.ref 137, Value.ref 139, Value.ref 141, Value.ref 143, Value.ref 145, Value.ref 147, Value.ref 149, Value.ref 151, Value.ref 153, Value.ref 154, Value.ref 155, Value.ref 156, Value.ref 157, Value.int (-16384), Value.int 16384, Value.int 3, Value.int 0, Value.int 0, Value.ref 158, Value.ref 159, Value.int 0, Value.int 0, Value.int 0, Value.int 0, Value.int 0, Value.int 0, Value.int 0, Value.int 0])) := by
  refine ⟨((((w.set 128 (Sum.inr (12, [Value.ref 129, Value.ref 131, Value.ref 133, Value.ref 135, Value.ref 137, Value.ref 139, Value.ref 141, Value.ref 143, Value.ref 145, Value.ref 147, Value.ref 149, Value.ref 151, Value.ref 153, Value.ref 154, Value.ref 155, Value.ref 156, Value.ref 157, Value.int (-16384), Value.int 16384, Value.int 2, Value.int 0, Value.int 0, Value.ref 158, Value.ref 159, Value.int 0, Value.int 0, Value.int 0, Value.int 0, Value.int 0, Value.int 0, Value.int 0, Value.int 0]))).set 154 (Sum.inl (0, 17, xup (fun _ => Value.int 0) (xs 1).toInt.toNat (Value.int 1)))).set 156 (Sum.inl (2, 17, xup (xup (fun _ => Value.int 0) (xs 1).toInt.toNat (Value.int 1)) (xs 1).toInt.toNat (Value.int 1)))).set 128 (Sum.inr (12, [Value.ref 129, Value.ref 131, Value.ref 133, Value.ref 135, Value.ref 137, Value.ref 139, Value.ref 141, Value.ref 143, Value.ref 145, Value.ref 147, Value.ref 149, Value.ref 151, Value.ref 153, Value.ref 154, Value.ref 155, Value.ref 156, Value.ref 157, Value.int (-16384), Value.int 16384, Value.int 3, Value.int 0, Value.int 0, Value.ref 158, Value.ref 159, Value.int 0, Value.int 0, Value.int 0, Value.int 0, Value.int 0, Value.int 0, Value.int 0, Value.int 0]))), ?_, ?_, xgs (xgn (by decide) (xgn (by decide) (xgs hm)))⟩
  · refine i_180_207 (x := 128) rfl ?_
    refine i_180_208 (v := Value.int 0) hm rfl ?_
    refine i_180_211 (fun h => absurd h (by decide)) (fun _ => ?_)
    refine i_180_214 (x := 128) rfl ?_
    refine i_180_215 (v := Value.ref 135) hm rfl ?_
    refine i_180_218 (v := Value.int 3) hq rfl ?_
    refine i_180_221 (fun h => absurd h (by decide)) (fun _ => ?_)
    refine i_180_224 (x := E) rfl ?_
    refine i_180_226 (x := 128) rfl ?_
    refine i_180_227 (v := Value.int 16384) hm rfl ?_
    refine i_180_230 (fun h => absurd (show 16384 < E.toInt by omega) (Int.not_lt.mpr h)) (fun _ => ?_)
    refine i_180_233 (x := 128) rfl ?_
    refine i_180_234 rfl ?_
    refine i_180_235 (v := Value.int 0) hm rfl ?_
    refine i_180_238 ?_
    refine i_180_239 (c := 2) (by decide) ?_
    refine i_180_240 (fs2 := [Value.ref 129, Value.ref 131, Value.ref 133, Value.ref 135, Value.ref 137, Value.ref 139, Value.ref 141, Value.ref 143, Value.ref 145, Value.ref 147, Value.ref 149, Value.ref 151, Value.ref 153, Value.ref 154, Value.ref 155, Value.ref 156, Value.ref 157, Value.int (-16384), Value.int 16384, Value.int 2, Value.int 0, Value.int 0, Value.ref 158, Value.ref 159, Value.int 0, Value.int 0, Value.int 0, Value.int 0, Value.int 0, Value.int 0, Value.int 0, Value.int 0]) hm (Nat.le_of_ble_eq_true rfl) rfl (by omega) ?_
    refine i_180_243 (x := md) rfl ?_
    refine i_180_245 (fun h => absurd (show md.toInt ≠ 0 by omega) (fun g => g h)) (fun _ => ?_)
    refine i_180_248 (x := md) rfl ?_
    refine i_180_250 ?_
    refine i_180_251 (fun _ => ?_) (fun h => absurd (show md.toInt = 4 by omega) h)
    refine i_180_276 ?_
    refine i_180_277 ?_
    refine i_180_281 (lv2 := [(15, Value.int 1), (14, Value.int 0), (13, Value.int E), (12, Value.int 1), (11, Value.int 0), (10, Value.int C), (9, Value.int U), (8, Value.int E), (7, Value.int 64), (0, Value.ref 128), (1, Value.int (xs 1)), (2, Value.ref 129), (3, Value.int sc), (4, Value.int 0), (5, Value.int 1), (6, Value.int md)]) rfl ?_
    refine i_180_283 (x := 1) rfl ?_
    refine i_180_285 (fun h => absurd h (by decide)) (fun _ => ?_)
    refine i_180_288 (x := 128) rfl ?_
    refine i_180_289 (x := (xs 1)) rfl ?_
    refine i_180_290 ?_
    refine i_180_291 (x := 1) rfl ?_
    refine i_180_293 (xgs hm) (Nat.le_of_ble_eq_true rfl) (s_171_2 (xgs hm) (xgn (by decide) (((hk 154 (by decide) (by decide) (by decide) (by decide) (by decide)).trans W0_154))) (by omega) (by omega) (xgn (by decide) hn)) ?_
    refine i_180_296 rfl ?_
    refine i_180_297 ?_
    refine i_180_352 (x := 1) rfl ?_
    refine i_180_354 (fun h => absurd h (by decide)) (fun _ => ?_)
    refine i_180_357 ?_
    refine i_180_358 ?_
    refine i_180_362 (lv2 := [(14, Value.int 1), (15, Value.int 1), (13, Value.int E), (12, Value.int 1), (11, Value.int 0), (10, Value.int C), (9, Value.int U), (8, Value.int E), (7, Value.int 64), (0, Value.ref 128), (1, Value.int (xs 1)), (2, Value.ref 129), (3, Value.int sc), (4, Value.int 0), (5, Value.int 1), (6, Value.int md)]) rfl ?_
    refine i_180_364 ?_
    refine i_180_591 (x := 128) rfl ?_
    refine i_180_592 (v := Value.int 0) (xgn (by decide) (xgn (by decide) (xgs hm))) rfl ?_
    refine i_180_595 (fun h => absurd h (by decide)) (fun _ => ?_)
    refine i_180_598 (x := 128) rfl ?_
    refine i_180_599 (v := Value.int 0) (xgn (by decide) (xgn (by decide) (xgs hm))) rfl ?_
    refine i_180_602 (fun _ => ?_) (fun h => absurd h (by decide))
    refine i_180_629 (x := 1) rfl ?_
    refine i_180_631 (fun h => absurd h (by decide)) (fun _ => ?_)
    refine i_180_634 (x := 128) rfl ?_
    refine i_180_635 rfl ?_
    refine i_180_636 (v := Value.int 2) (xgn (by decide) (xgn (by decide) (xgs hm))) rfl ?_
    refine i_180_639 ?_
    refine i_180_640 (c := 3) (by decide) ?_
    refine i_180_641 (fs2 := [Value.ref 129, Value.ref 131, Value.ref 133, Value.ref 135, Value.ref 137, Value.ref 139, Value.ref 141, Value.ref 143, Value.ref 145, Value.ref 147, Value.ref 149, Value.ref 151, Value.ref 153, Value.ref 154, Value.ref 155, Value.ref 156, Value.ref 157, Value.int (-16384), Value.int 16384, Value.int 3, Value.int 0, Value.int 0, Value.ref 158, Value.ref 159, Value.int 0, Value.int 0, Value.int 0, Value.int 0, Value.int 0, Value.int 0, Value.int 0, Value.int 0]) (xgn (by decide) (xgn (by decide) (xgs hm))) (Nat.le_of_ble_eq_true rfl) rfl (by omega) ?_
    refine i_180_644 (x := 1) rfl ?_
    refine i_180_646 (fun h => absurd h (by decide)) (fun _ => ?_)
    refine i_180_649 (x := 1) rfl ?_
    refine i_180_651 (c := (-1)) (by decide) ?_
    refine i_180_652 ?_
    exact i_180_657 ⟨rfl, rfl⟩
  · refine xKp.set ?_ (fun h hh => by unfold xPM at hh; omega) (xgn (by decide) (xgn (by decide) (xgs hm))) xcs_o
    refine xKp.set ?_ (fun h hh => by unfold xPM at hh; omega) (xgn (by decide) (xgn (by decide) hn)) xcs_a
    refine xKp.set ?_ (fun h hh => by unfold xPM at hh; omega) (xgn (by decide) (((hk 154 (by decide) (by decide) (by decide) (by decide) (by decide)).trans W0_154))) xcs_a
    refine xKp.set ?_ (fun h hh => by unfold xPM at hh; omega) (hm) xcs_o
    exact xKp.refl
theorem sf1_2 {d : Nat} {xs : Nat → Int32} {m : Int64} {sc md : Int32} {w : xW} {B E U C q0 q1 q2 nn : Int32} {g : Nat → Value} (hk : ∀ h, 131 ≤ h → h < 194 → h ≠ 135 → h ≠ 136 → h ≠ 156 → w[h]? = (W0 6 xs)[h]?) (hm : w[128]? = some (Sum.inr (12, [Value.ref 129, Value.ref 131, Value.ref 133, Value.ref 135, Value.ref 137, Value.ref 139, Value.ref 141, Value.ref 143, Value.ref 145, Value.ref 147, Value.ref 149, Value.ref 151, Value.ref 153, Value.ref 154, Value.ref 155, Value.ref 156, Value.ref 157, Value.int (-16384), Value.int 16384, Value.int 0, Value.int 0, Value.int 0, Value.ref 158, Value.ref 159, Value.int 0, Value.int 0, Value.int 0, Value.int 0, Value.int 0, Value.int 0, Value.int 0, Value.int 0]))) (hv : w[129]? = some (Sum.inr (13, [Value.ref 130, Value.int nn]))) (hq : w[135]? = some (Sum.inr (13, [Value.ref 136, Value.int 3]))) (hqw : w[136]? = some (Sum.inl (0, 4700, g))) (hg0 : g (0 : Int32).toInt.toNat = Value.int q0) (hg1 : g (1 : Int32).toInt.toNat = Value.int q1) (hg2 : g (2 : Int32).toInt.toNat = Value.int q2) (hn : w[156]? = some (Sum.inl (2, 17, xup (fun _ => Value.int 0) (xs 1).toInt.toNat (Value.int 1)))) (hbits : ∀ (d' : Nat) (w' : xW), w'[129]? = w[129]? → w'[130]? = w[130]? → xRun d' 181 [Value.ref 129] w' (.inl (some (Value.int B))) w') (hany0 : xPW m → ∀ (d' : Nat) (w' : xW), w'[129]? = w[129]? → w'[130]? = w[130]? → xRun d' 183 [Value.ref 129, Value.int (B - (1 : Int32))] w' (.inl (some (Value.int 0))) w') (hany1 : ¬ xPW m → ∀ (d' : Nat) (w' : xW), w'[129]? = w[129]? → w'[130]? = w[130]? → xRun d' 183 [Value.ref 129, Value.int (B - (1 : Int32))] w' (.inl (some (Value.int 1))) w') (c0 : 0 ≤ (xs 1).toInt) (c1 : (xs 1).toInt < 16) (c2 : (-40000) ≤ sc.toInt) (c3 : sc.toInt ≤ 40000) (c4 : 0 ≤ md.toInt) (c5 : md.toInt ≤ 4) (c6 : 1 ≤ B.toInt) (c7 : B.toInt ≤ 64) (c8 : E.toInt = B.toInt + sc.toInt) (c9 : U.toInt = E.toInt - 64) (c10 : 0 ≤ q2.toInt) (c11 : (xbn q2).toInt = 4) (c12 : 16384 < E.toInt) (c13 : md.toInt ≠ 0) (c14 : md.toInt ≠ 4) (c15 : md.toInt = 2) : ∃ w2, xEv (d + 6) 180 207 [(14, Value.int 0), (13, Value.int E), (12, Value.int 1), (11, Value.int 0), (10, Value.int C), (9, Value.int U), (8, Value.int E), (7, Value.int 64), (0, Value.ref 128), (1, Value.int (xs 1)), (2, Value.ref 129), (3, Value.int sc), (4, Value.int 0), (5, Value.int 1), (6, Value.int md)] [] w (fun o' w' => o' = .inl (some (Value.int 1)) ∧ w' = w2) ∧ xKp w w2 xPM ∧ w2[128]? = some (Sum.inr (12, [Value.ref 129, Value.ref 131, Value.ref 133, Value.ref 135, Value.ref 137, Value.ref 139, Value.ref 141, Value.ref 143, Value.ref 145, Value.ref 147, Value.ref 149, Value.ref 151, Value.ref 153, Value.ref 154, Value.ref 155, Value.ref 156, Value.ref 157, Value.int (-16384), Value.int 16384, Value.int 3, Value.int 0, Value.int 0, Value.ref 158, Value.ref 159, Value.int 0, Value.int 0, Value.int 0, Value.int 0, Value.int 0, Value.int 0, Value.int 0, Value.int 0])) := by
  refine ⟨(((((((((((((((((w.set 128 (Sum.inr (12, [Value.ref 129, Value.ref 131, Value.ref 133, Value.ref 135, Value.ref 137, Value.ref 139, Value.ref 141, Value.ref 143, Value.ref 145, Value.ref 147, Value.ref 149, Value.ref 151, Value.ref 153, Value.ref 154, Value.ref 155, Value.ref 156, Value.ref 157, Value.int (-16384), Value.int 16384, Value.int 2, Value.int 0, Value.int 0, Value.ref 158, Value.ref 159, Value.int 0, Value.int 0, Value.int 0, Value.int 0, Value.int 0, Value.int 0, Value.int 0, Value.int 0]))).set 152 (Sum.inl (0, 4700, xup (xup (xup (fun _ => Value.int 0) (0 : Int32).toInt.toNat (Value.int 0)) (1 : Int32).toInt.toNat (Value.int 0)) (2 : Int32).toInt.toNat (Value.int 16)))).set 151 (Sum.inr (13, [Value.ref 152, Value.int 3]))).set 143 (Sum.inr (13, [Value.ref 144, Value.int 0]))).set 144 (Sum.inl (0, 4700, xup (fun _ => Value.int 0) (0 : Int32).toInt.toNat (Value.int 1)))).set 143 (Sum.inr (13, [Value.ref 144, Value.int 1]))).set 152 (Sum.inl (0, 4700, xup (xup (xup (xup (xup (xup (fun _ => Value.int 0) (0 : Int32).toInt.toNat (Value.int 0)) (1 : Int32).toInt.toNat (Value.int 0)) (2 : Int32).toInt.toNat (Value.int 16)) (0 : Int32).toInt.toNat (Value.int 1073741823)) (1 : Int32).toInt.toNat (Value.int 1073741823)) (2 : Int32).toInt.toNat (Value.int 15)))).set 151 (Sum.inr (13, [Value.ref 152, Value.int 3]))).set (160 + 2 * (xs 1).toInt.toNat) (Sum.inr (13, [Value.ref (161 + 2 * (xs 1).toInt.toNat), Value.int 0]))).set 138 (Sum.inl (0, 4700, xcp (xup (xup (xup (xup (xup (xup (fun _ => Value.int 0) (0 : Int32).toInt.toNat (Value.int 0)) (1 : Int32).toInt.toNat (Value.int 0)) (2 : Int32).toInt.toNat (Value.int 16)) (0 : Int32).toInt.toNat (Value.int 1073741823)) (1 : Int32).toInt.toNat (Value.int 1073741823)) (2 : Int32).toInt.toNat (Value.int 15)) (fun _ => Value.int 0) (0 : Int32).toInt.toNat (0 : Int32).toInt.toNat (3 : Int32).toInt.toNat))).set 137 (Sum.inr (13, [Value.ref 138, Value.int 3]))).set (161 + 2 * (xs 1).toInt.toNat) (Sum.inl (0, 140, xcp (xcp (xup (xup (xup (xup (xup (xup (fun _ => Value.int 0) (0 : Int32).toInt.toNat (Value.int 0)) (1 : Int32).toInt.toNat (Value.int 0)) (2 : Int32).toInt.toNat (Value.int 16)) (0 : Int32).toInt.toNat (Value.int 1073741823)) (1 : Int32).toInt.toNat (Value.int 1073741823)) (2 : Int32).toInt.toNat (Value.int 15)) (fun _ => Value.int 0) (0 : Int32).toInt.toNat (0 : Int32).toInt.toNat (3 : Int32).toInt.toNat) (fun _ => Value.int 0) (0 : Int32).toInt.toNat (0 : Int32).toInt.toNat (3 : Int32).toInt.toNat))).set (160 + 2 * (xs 1).toInt.toNat) (Sum.inr (13, [Value.ref (161 + 2 * (xs 1).toInt.toNat), Value.int 3]))).set 154 (Sum.inl (0, 17, xup (fun _ => Value.int 0) (xs 1).toInt.toNat (Value.int 3)))).set 155 (Sum.inl (0, 17, xup (fun _ => Value.int 0) (xs 1).toInt.toNat (Value.int 16384)))).set 156 (Sum.inl (2, 17, xup (xup (fun _ => Value.int 0) (xs 1).toInt.toNat (Value.int 1)) (xs 1).toInt.toNat (Value.int 1)))).set 128 (Sum.inr (12, [Value.ref 129, Value.ref 131, Value.ref 133, Value.ref 135, Value.ref 137, Value.ref 139, Value.ref 141, Value.ref 143, Value.ref 145, Value.ref 147, Value.ref 149, Value.ref 151, Value.ref 153, Value.ref 154, Value.ref 155, Value.ref 156, Value.ref 157, Value.int (-16384), Value.int 16384, Value.int 3, Value.int 0, Value.int 0, Value.ref 158, Value.ref 159, Value.int 0, Value.int 0, Value.int 0, Value.int 0, Value.int 0, Value.int 0, Value.int 0, Value.int 0]))), ?_, ?_, xgs (xgn (by decide) (xgn (by decide) (xgn (by decide) (xgn (by omega) (xgn (by omega) (xgn (by decide) (xgn (by decide) (xgn (by omega) (xgn (by decide) (xgn (by decide) (xgn (by decide) (xgn (by decide) (xgn (by decide) (xgn (by decide) (xgn (by decide) (xgs hm))))))))))))))))⟩
  · refine i_180_207 (x := 128) rfl ?_
    refine i_180_208 (v := Value.int 0) hm rfl ?_
    refine i_180_211 (fun h => absurd h (by decide)) (fun _ => ?_)
    refine i_180_214 (x := 128) rfl ?_
    refine i_180_215 (v := Value.ref 135) hm rfl ?_
    refine i_180_218 (v := Value.int 3) hq rfl ?_
    refine i_180_221 (fun h => absurd h (by decide)) (fun _ => ?_)
    refine i_180_224 (x := E) rfl ?_
    refine i_180_226 (x := 128) rfl ?_
    refine i_180_227 (v := Value.int 16384) hm rfl ?_
    refine i_180_230 (fun h => absurd (show 16384 < E.toInt by omega) (Int.not_lt.mpr h)) (fun _ => ?_)
    refine i_180_233 (x := 128) rfl ?_
    refine i_180_234 rfl ?_
    refine i_180_235 (v := Value.int 0) hm rfl ?_
    refine i_180_238 ?_
    refine i_180_239 (c := 2) (by decide) ?_
    refine i_180_240 (fs2 := [Value.ref 129, Value.ref 131, Value.ref 133, Value.ref 135, Value.ref 137, Value.ref 139, Value.ref 141, Value.ref 143, Value.ref 145, Value.ref 147, Value.ref 149, Value.ref 151, Value.ref 153, Value.ref 154, Value.ref 155, Value.ref 156, Value.ref 157, Value.int (-16384), Value.int 16384, Value.int 2, Value.int 0, Value.int 0, Value.ref 158, Value.ref 159, Value.int 0, Value.int 0, Value.int 0, Value.int 0, Value.int 0, Value.int 0, Value.int 0, Value.int 0]) hm (Nat.le_of_ble_eq_true rfl) rfl (by omega) ?_
    refine i_180_243 (x := md) rfl ?_
    refine i_180_245 (fun h => absurd (show md.toInt ≠ 0 by omega) (fun g => g h)) (fun _ => ?_)
    refine i_180_248 (x := md) rfl ?_
    refine i_180_250 ?_
    refine i_180_251 (fun h => absurd (show md.toInt ≠ 4 by omega) (fun g => g h)) (fun _ => ?_)
    refine i_180_254 (x := md) rfl ?_
    refine i_180_256 ?_
    refine i_180_257 (fun h => absurd (show md.toInt = 2 by omega) h) (fun _ => ?_)
    refine i_180_260 (x := 1) rfl ?_
    refine i_180_262 (fun h => absurd h (by decide)) (fun _ => ?_)
    refine i_180_265 (x := md) rfl ?_
    refine i_180_267 ?_
    refine i_180_268 (fun _ => ?_) (fun h => absurd (show md.toInt ≠ 3 by omega) (fun g => g h))
    refine i_180_280 ?_
    refine i_180_281 (lv2 := [(15, Value.int 0), (14, Value.int 0), (13, Value.int E), (12, Value.int 1), (11, Value.int 0), (10, Value.int C), (9, Value.int U), (8, Value.int E), (7, Value.int 64), (0, Value.ref 128), (1, Value.int (xs 1)), (2, Value.ref 129), (3, Value.int sc), (4, Value.int 0), (5, Value.int 1), (6, Value.int md)]) rfl ?_
    refine i_180_283 (x := 0) rfl ?_
    refine i_180_285 (fun _ => ?_) (fun h => absurd h (by decide))
    refine i_180_300 (x := 128) rfl ?_
    refine i_180_301 (v := Value.ref 151) (xgs hm) rfl ?_
    refine i_180_304 (x := 64) rfl ?_
    refine i_180_306 (xgn (by decide) (((hk 151 (by decide) (by decide) (by decide) (by decide) (by decide)).trans W0_151))) (Nat.le_of_ble_eq_true rfl) (s_190_0 (xgn (by decide) (((hk 151 (by decide) (by decide) (by decide) (by decide) (by decide)).trans W0_151))) (xgn (by decide) (((hk 152 (by decide) (by decide) (by decide) (by decide) (by decide)).trans W0_152)))) ?_
    refine i_180_309 (x := 128) rfl ?_
    refine i_180_310 (v := Value.ref 143) (xgn (by decide) (xgn (by decide) (xgs hm))) rfl ?_
    refine i_180_313 ?_
    refine i_180_314 (xgn (by decide) (xgn (by decide) (xgn (by decide) (((hk 143 (by decide) (by decide) (by decide) (by decide) (by decide)).trans W0_143))))) (Nat.le_of_ble_eq_true rfl) (s_179_0 (xgn (by decide) (xgn (by decide) (xgn (by decide) (((hk 143 (by decide) (by decide) (by decide) (by decide) (by decide)).trans W0_143))))) (xgn (by decide) (xgn (by decide) (xgn (by decide) (((hk 144 (by decide) (by decide) (by decide) (by decide) (by decide)).trans W0_144)))))) ?_
    refine i_180_317 (x := 128) rfl ?_
    refine i_180_318 (v := Value.ref 151) (xgn (by decide) (xgn (by decide) (xgn (by decide) (xgn (by decide) (xgn (by decide) (xgs hm)))))) rfl ?_
    refine i_180_321 (x := 128) rfl ?_
    refine i_180_322 (v := Value.ref 143) (xgn (by decide) (xgn (by decide) (xgn (by decide) (xgn (by decide) (xgn (by decide) (xgs hm)))))) rfl ?_
    refine i_180_325 (xgn (by decide) (xgn (by decide) (xgn (by decide) (xgs (xgn (by decide) (xgn (by decide) (((hk 151 (by decide) (by decide) (by decide) (by decide) (by decide)).trans W0_151)))))))) (Nat.le_of_ble_eq_true rfl) (s_191_0 (xgn (by decide) (xgn (by decide) (xgn (by decide) (xgs (xgn (by decide) (xgn (by decide) (((hk 151 (by decide) (by decide) (by decide) (by decide) (by decide)).trans W0_151)))))))) (xgn (by decide) (xgn (by decide) (xgn (by decide) (xgn (by decide) (xgs (xgn (by decide) (((hk 152 (by decide) (by decide) (by decide) (by decide) (by decide)).trans W0_152)))))))) (xup_n (by decide) (xup_n (by decide) xup_s)) (xgs (xgn (by decide) (xgs (xgn (by decide) (xgn (by decide) (xgn (by decide) (((hk 143 (by decide) (by decide) (by decide) (by decide) (by decide)).trans W0_143)))))))) (xgn (by decide) (xgs (xgn (by decide) (xgn (by decide) (xgn (by decide) (xgn (by decide) (((hk 144 (by decide) (by decide) (by decide) (by decide) (by decide)).trans W0_144)))))))) xup_s (xup_n (by decide) xup_s) xup_s) ?_
    refine i_180_328 (x := 128) rfl ?_
    refine i_180_329 (x := (xs 1)) rfl ?_
    refine i_180_330 (x := 128) rfl ?_
    refine i_180_331 (v := Value.ref 151) (xgn (by decide) (xgn (by decide) (xgn (by decide) (xgn (by decide) (xgn (by decide) (xgn (by decide) (xgn (by decide) (xgs hm)))))))) rfl ?_
    refine i_180_334 (x := 128) rfl ?_
    refine i_180_335 (v := Value.int 16384) (xgn (by decide) (xgn (by decide) (xgn (by decide) (xgn (by decide) (xgn (by decide) (xgn (by decide) (xgn (by decide) (xgs hm)))))))) rfl ?_
    refine i_180_338 (x := 64) rfl ?_
    refine i_180_340 (c := 16320) (by decide) ?_
    refine i_180_341 (xgn (by decide) (xgn (by decide) (xgn (by decide) (xgn (by decide) (xgn (by decide) (xgn (by decide) (xgn (by decide) (xgs hm)))))))) (Nat.le_of_ble_eq_true rfl) (s_192_0 (xgn (by decide) (xgn (by decide) (xgn (by decide) (xgn (by decide) (xgn (by decide) (xgn (by decide) (xgn (by decide) (xgs hm)))))))) (xgn (by decide) (xgn (by decide) (xgn (by decide) (xgn (by decide) (xgn (by decide) (xgn (by decide) (xgn (by decide) (xgn (by decide) (((hk 153 (by decide) (by decide) (by decide) (by decide) (by decide)).trans W0_153)))))))))) (by omega) (by omega) (gprec_at (by omega)) (xgs (xgn (by decide) (xgn (by decide) (xgn (by decide) (xgn (by decide) (xgs (xgn (by decide) (xgn (by decide) (((hk 151 (by decide) (by decide) (by decide) (by decide) (by decide)).trans W0_151)))))))))) (xgn (by decide) (xgs (xgn (by decide) (xgn (by decide) (xgn (by decide) (xgn (by decide) (xgs (xgn (by decide) (((hk 152 (by decide) (by decide) (by decide) (by decide) (by decide)).trans W0_152)))))))))) xup_s (xgn (by decide) (xgn (by decide) (xgn (by decide) (xgn (by decide) (xgn (by decide) (xgn (by decide) (xgn (by decide) (xgn (by decide) (((hk 157 (by decide) (by decide) (by decide) (by decide) (by decide)).trans W0_157)))))))))) (gpart_at (by omega)) (xgn (by omega) (xgn (by omega) (xgn (by omega) (xgn (by omega) (xgn (by omega) (xgn (by omega) (xgn (by omega) (xgn (by omega) (((hk _ (by omega) (by omega) (by omega) (by omega) (by omega)).trans (W0_part (by omega)))))))))))) (by omega) (by omega) (by omega) (xgn (by decide) (xgn (by decide) (xgn (by decide) (xgn (by decide) (xgn (by decide) (xgn (by decide) (xgn (by decide) (xgn (by decide) (((hk 137 (by decide) (by decide) (by decide) (by decide) (by decide)).trans W0_137)))))))))) (by omega) (by omega) (by omega) (xgn (by decide) (xgn (by decide) (xgn (by decide) (xgn (by decide) (xgn (by decide) (xgn (by decide) (xgn (by decide) (xgn (by decide) (((hk 138 (by decide) (by decide) (by decide) (by decide) (by decide)).trans W0_138)))))))))) (xup_n (by decide) (xup_n (by decide) xup_s)) (xup_n (by decide) xup_s) (by omega) (by omega) (by omega) (by omega) (by omega) (by omega) (xgn (by omega) (xgn (by omega) (xgn (by omega) (xgn (by omega) (xgn (by omega) (xgn (by omega) (xgn (by omega) (xgn (by omega) (((hk _ (by omega) (by omega) (by omega) (by omega) (by omega)).trans (W0_pw (by omega)))))))))))) (by omega) (by omega) (by omega) (by omega) (by omega) (by omega) (xgn (by decide) (xgn (by decide) (xgn (by decide) (xgn (by decide) (xgn (by decide) (xgn (by decide) (xgn (by decide) (xgn (by decide) (((hk 154 (by decide) (by decide) (by decide) (by decide) (by decide)).trans W0_154)))))))))) (by omega) (by omega) (xgn (by decide) (xgn (by decide) (xgn (by decide) (xgn (by decide) (xgn (by decide) (xgn (by decide) (xgn (by decide) (xgn (by decide) (((hk 155 (by decide) (by decide) (by decide) (by decide) (by decide)).trans W0_155))))))))))) ?_
    refine i_180_344 (x := 128) rfl ?_
    refine i_180_345 (v := Value.ref 156) (xgn (by decide) (xgn (by decide) (xgn (by omega) (xgn (by omega) (xgn (by decide) (xgn (by decide) (xgn (by omega) (xgn (by decide) (xgn (by decide) (xgn (by decide) (xgn (by decide) (xgn (by decide) (xgn (by decide) (xgn (by decide) (xgs hm))))))))))))))) rfl ?_
    refine i_180_348 (x := (xs 1)) rfl ?_
    refine i_180_349 (x := 1) rfl ?_
    refine i_180_351z (v := Value.int 1) (xgn (by decide) (xgn (by decide) (xgn (by omega) (xgn (by omega) (xgn (by decide) (xgn (by decide) (xgn (by omega) (xgn (by decide) (xgn (by decide) (xgn (by decide) (xgn (by decide) (xgn (by decide) (xgn (by decide) (xgn (by decide) (xgn (by decide) hn))))))))))))))) (by omega) (by omega) (by omega) rfl ?_
    refine i_180_352 (x := 0) rfl ?_
    refine i_180_354 (fun _ => ?_) (fun h => absurd h (by decide))
    refine i_180_361 ?_
    refine i_180_362 (lv2 := [(14, Value.int (-1)), (15, Value.int 0), (13, Value.int E), (12, Value.int 1), (11, Value.int 0), (10, Value.int C), (9, Value.int U), (8, Value.int E), (7, Value.int 64), (0, Value.ref 128), (1, Value.int (xs 1)), (2, Value.ref 129), (3, Value.int sc), (4, Value.int 0), (5, Value.int 1), (6, Value.int md)]) rfl ?_
    refine i_180_364 ?_
    refine i_180_591 (x := 128) rfl ?_
    refine i_180_592 (v := Value.int 0) (xgn (by decide) (xgn (by decide) (xgn (by decide) (xgn (by omega) (xgn (by omega) (xgn (by decide) (xgn (by decide) (xgn (by omega) (xgn (by decide) (xgn (by decide) (xgn (by decide) (xgn (by decide) (xgn (by decide) (xgn (by decide) (xgn (by decide) (xgs hm)))))))))))))))) rfl ?_
    refine i_180_595 (fun h => absurd h (by decide)) (fun _ => ?_)
    refine i_180_598 (x := 128) rfl ?_
    refine i_180_599 (v := Value.int 0) (xgn (by decide) (xgn (by decide) (xgn (by decide) (xgn (by omega) (xgn (by omega) (xgn (by decide) (xgn (by decide) (xgn (by omega) (xgn (by decide) (xgn (by decide) (xgn (by decide) (xgn (by decide) (xgn (by decide) (xgn (by decide) (xgn (by decide) (xgs hm)))))))))))))))) rfl ?_
    refine i_180_602 (fun _ => ?_) (fun h => absurd h (by decide))
    refine i_180_629 (x := (-1)) rfl ?_
    refine i_180_631 (fun h => absurd h (by decide)) (fun _ => ?_)
    refine i_180_634 (x := 128) rfl ?_
    refine i_180_635 rfl ?_
    refine i_180_636 (v := Value.int 2) (xgn (by decide) (xgn (by decide) (xgn (by decide) (xgn (by omega) (xgn (by omega) (xgn (by decide) (xgn (by decide) (xgn (by omega) (xgn (by decide) (xgn (by decide) (xgn (by decide) (xgn (by decide) (xgn (by decide) (xgn (by decide) (xgn (by decide) (xgs hm)))))))))))))))) rfl ?_
    refine i_180_639 ?_
    refine i_180_640 (c := 3) (by decide) ?_
    refine i_180_641 (fs2 := [Value.ref 129, Value.ref 131, Value.ref 133, Value.ref 135, Value.ref 137, Value.ref 139, Value.ref 141, Value.ref 143, Value.ref 145, Value.ref 147, Value.ref 149, Value.ref 151, Value.ref 153, Value.ref 154, Value.ref 155, Value.ref 156, Value.ref 157, Value.int (-16384), Value.int 16384, Value.int 3, Value.int 0, Value.int 0, Value.ref 158, Value.ref 159, Value.int 0, Value.int 0, Value.int 0, Value.int 0, Value.int 0, Value.int 0, Value.int 0, Value.int 0]) (xgn (by decide) (xgn (by decide) (xgn (by decide) (xgn (by omega) (xgn (by omega) (xgn (by decide) (xgn (by decide) (xgn (by omega) (xgn (by decide) (xgn (by decide) (xgn (by decide) (xgn (by decide) (xgn (by decide) (xgn (by decide) (xgn (by decide) (xgs hm)))))))))))))))) (Nat.le_of_ble_eq_true rfl) rfl (by omega) ?_
    refine i_180_644 (x := 1) rfl ?_
    refine i_180_646 (fun h => absurd h (by decide)) (fun _ => ?_)
    refine i_180_649 (x := (-1)) rfl ?_
    refine i_180_651 (c := 1) (by decide) ?_
    refine i_180_652 ?_
    exact i_180_657 ⟨rfl, rfl⟩
  · refine xKp.set ?_ (fun h hh => by unfold xPM at hh; omega) (xgn (by decide) (xgn (by decide) (xgn (by decide) (xgn (by omega) (xgn (by omega) (xgn (by decide) (xgn (by decide) (xgn (by omega) (xgn (by decide) (xgn (by decide) (xgn (by decide) (xgn (by decide) (xgn (by decide) (xgn (by decide) (xgn (by decide) (xgs hm)))))))))))))))) xcs_o
    refine xKp.set ?_ (fun h hh => by unfold xPM at hh; omega) (xgn (by decide) (xgn (by decide) (xgn (by omega) (xgn (by omega) (xgn (by decide) (xgn (by decide) (xgn (by omega) (xgn (by decide) (xgn (by decide) (xgn (by decide) (xgn (by decide) (xgn (by decide) (xgn (by decide) (xgn (by decide) (xgn (by decide) hn))))))))))))))) xcs_a
    refine xKp.set ?_ (fun h hh => by unfold xPM at hh; omega) (xgn (by decide) (xgn (by omega) (xgn (by omega) (xgn (by decide) (xgn (by decide) (xgn (by omega) (xgn (by decide) (xgn (by decide) (xgn (by decide) (xgn (by decide) (xgn (by decide) (xgn (by decide) (xgn (by decide) (xgn (by decide) (((hk 155 (by decide) (by decide) (by decide) (by decide) (by decide)).trans W0_155)))))))))))))))) xcs_a
    refine xKp.set ?_ (fun h hh => by unfold xPM at hh; omega) (xgn (by omega) (xgn (by omega) (xgn (by decide) (xgn (by decide) (xgn (by omega) (xgn (by decide) (xgn (by decide) (xgn (by decide) (xgn (by decide) (xgn (by decide) (xgn (by decide) (xgn (by decide) (xgn (by decide) (((hk 154 (by decide) (by decide) (by decide) (by decide) (by decide)).trans W0_154))))))))))))))) xcs_a
    refine xKp.set ?_ (fun h hh => by unfold xPM at hh; omega) (xgn (by omega) (xgn (by omega) (xgn (by omega) (xgs (xgn (by omega) (xgn (by omega) (xgn (by omega) (xgn (by omega) (xgn (by omega) (xgn (by omega) (xgn (by omega) (xgn (by omega) (((hk _ (by omega) (by omega) (by omega) (by omega) (by omega)).trans (W0_part (by omega)))))))))))))))) xcs_o
    refine xKp.set ?_ (fun h hh => by unfold xPM at hh; omega) (xgn (by omega) (xgn (by omega) (xgn (by omega) (xgn (by omega) (xgn (by omega) (xgn (by omega) (xgn (by omega) (xgn (by omega) (xgn (by omega) (xgn (by omega) (xgn (by omega) (((hk _ (by omega) (by omega) (by omega) (by omega) (by omega)).trans (W0_pw (by omega))))))))))))))) xcs_a
    refine xKp.set ?_ (fun h hh => by unfold xPM at hh; omega) (xgn (by decide) (xgn (by omega) (xgn (by decide) (xgn (by decide) (xgn (by decide) (xgn (by decide) (xgn (by decide) (xgn (by decide) (xgn (by decide) (xgn (by decide) (((hk 137 (by decide) (by decide) (by decide) (by decide) (by decide)).trans W0_137)))))))))))) xcs_o
    refine xKp.set ?_ (fun h hh => by unfold xPM at hh; omega) (xgn (by omega) (xgn (by decide) (xgn (by decide) (xgn (by decide) (xgn (by decide) (xgn (by decide) (xgn (by decide) (xgn (by decide) (xgn (by decide) (((hk 138 (by decide) (by decide) (by decide) (by decide) (by decide)).trans W0_138))))))))))) xcs_a
    refine xKp.set ?_ (fun h hh => by unfold xPM at hh; omega) (xgn (by omega) (xgn (by omega) (xgn (by omega) (xgn (by omega) (xgn (by omega) (xgn (by omega) (xgn (by omega) (xgn (by omega) (((hk _ (by omega) (by omega) (by omega) (by omega) (by omega)).trans (W0_part (by omega)))))))))))) xcs_o
    refine xKp.set ?_ (fun h hh => by unfold xPM at hh; omega) (xgn (by decide) (xgn (by decide) (xgn (by decide) (xgn (by decide) (xgs (xgn (by decide) (xgn (by decide) (((hk 151 (by decide) (by decide) (by decide) (by decide) (by decide)).trans W0_151))))))))) xcs_o
    refine xKp.set ?_ (fun h hh => by unfold xPM at hh; omega) (xgn (by decide) (xgn (by decide) (xgn (by decide) (xgn (by decide) (xgs (xgn (by decide) (((hk 152 (by decide) (by decide) (by decide) (by decide) (by decide)).trans W0_152)))))))) xcs_a
    refine xKp.set ?_ (fun h hh => by unfold xPM at hh; omega) (xgn (by decide) (xgs (xgn (by decide) (xgn (by decide) (xgn (by decide) (((hk 143 (by decide) (by decide) (by decide) (by decide) (by decide)).trans W0_143))))))) xcs_o
    refine xKp.set ?_ (fun h hh => by unfold xPM at hh; omega) (xgn (by decide) (xgn (by decide) (xgn (by decide) (xgn (by decide) (((hk 144 (by decide) (by decide) (by decide) (by decide) (by decide)).trans W0_144)))))) xcs_a
    refine xKp.set ?_ (fun h hh => by unfold xPM at hh; omega) (xgn (by decide) (xgn (by decide) (xgn (by decide) (((hk 143 (by decide) (by decide) (by decide) (by decide) (by decide)).trans W0_143))))) xcs_o
    refine xKp.set ?_ (fun h hh => by unfold xPM at hh; omega) (xgn (by decide) (xgn (by decide) (((hk 151 (by decide) (by decide) (by decide) (by decide) (by decide)).trans W0_151)))) xcs_o
    refine xKp.set ?_ (fun h hh => by unfold xPM at hh; omega) (xgn (by decide) (((hk 152 (by decide) (by decide) (by decide) (by decide) (by decide)).trans W0_152))) xcs_a
    refine xKp.set ?_ (fun h hh => by unfold xPM at hh; omega) (hm) xcs_o
    exact xKp.refl
theorem sf1_3 {d : Nat} {xs : Nat → Int32} {m : Int64} {sc md : Int32} {w : xW} {B E U C q0 q1 q2 nn : Int32} {g : Nat → Value} (hk : ∀ h, 131 ≤ h → h < 194 → h ≠ 135 → h ≠ 136 → h ≠ 156 → w[h]? = (W0 6 xs)[h]?) (hm : w[128]? = some (Sum.inr (12, [Value.ref 129, Value.ref 131, Value.ref 133, Value.ref 135, Value.ref 137, Value.ref 139, Value.ref 141, Value.ref 143, Value.ref 145, Value.ref 147, Value.ref 149, Value.ref 151, Value.ref 153, Value.ref 154, Value.ref 155, Value.ref 156, Value.ref 157, Value.int (-16384), Value.int 16384, Value.int 0, Value.int 0, Value.int 0, Value.ref 158, Value.ref 159, Value.int 0, Value.int 0, Value.int 0, Value.int 0, Value.int 0, Value.int 0, Value.int 0, Value.int 0]))) (hv : w[129]? = some (Sum.inr (13, [Value.ref 130, Value.int nn]))) (hq : w[135]? = some (Sum.inr (13, [Value.ref 136, Value.int 3]))) (hqw : w[136]? = some (Sum.inl (0, 4700, g))) (hg0 : g (0 : Int32).toInt.toNat = Value.int q0) (hg1 : g (1 : Int32).toInt.toNat = Value.int q1) (hg2 : g (2 : Int32).toInt.toNat = Value.int q2) (hn : w[156]? = some (Sum.inl (2, 17, xup (fun _ => Value.int 0) (xs 1).toInt.toNat (Value.int 1)))) (hbits : ∀ (d' : Nat) (w' : xW), w'[129]? = w[129]? → w'[130]? = w[130]? → xRun d' 181 [Value.ref 129] w' (.inl (some (Value.int B))) w') (hany0 : xPW m → ∀ (d' : Nat) (w' : xW), w'[129]? = w[129]? → w'[130]? = w[130]? → xRun d' 183 [Value.ref 129, Value.int (B - (1 : Int32))] w' (.inl (some (Value.int 0))) w') (hany1 : ¬ xPW m → ∀ (d' : Nat) (w' : xW), w'[129]? = w[129]? → w'[130]? = w[130]? → xRun d' 183 [Value.ref 129, Value.int (B - (1 : Int32))] w' (.inl (some (Value.int 1))) w') (c0 : 0 ≤ (xs 1).toInt) (c1 : (xs 1).toInt < 16) (c2 : (-40000) ≤ sc.toInt) (c3 : sc.toInt ≤ 40000) (c4 : 0 ≤ md.toInt) (c5 : md.toInt ≤ 4) (c6 : 1 ≤ B.toInt) (c7 : B.toInt ≤ 64) (c8 : E.toInt = B.toInt + sc.toInt) (c9 : U.toInt = E.toInt - 64) (c10 : 0 ≤ q2.toInt) (c11 : (xbn q2).toInt = 4) (c12 : 16384 < E.toInt) (c13 : md.toInt ≠ 0) (c14 : md.toInt ≠ 4) (c15 : md.toInt ≠ 2) (c16 : md.toInt = 3) : ∃ w2, xEv (d + 6) 180 207 [(14, Value.int 0), (13, Value.int E), (12, Value.int 1), (11, Value.int 0), (10, Value.int C), (9, Value.int U), (8, Value.int E), (7, Value.int 64), (0, Value.ref 128), (1, Value.int (xs 1)), (2, Value.ref 129), (3, Value.int sc), (4, Value.int 0), (5, Value.int 1), (6, Value.int md)] [] w (fun o' w' => o' = .inl (some (Value.int (-1))) ∧ w' = w2) ∧ xKp w w2 xPM ∧ w2[128]? = some (Sum.inr (12, [Value.ref 129, Value.ref 131, Value.ref 133, Value.ref 135, Value.ref 137, Value.ref 139, Value.ref 141, Value.ref 143, Value.ref 145, Value.ref 147, Value.ref 149, Value.ref 151, Value.ref 153, Value.ref 154, Value.ref 155, Value.ref 156, Value.ref 157, Value.int (-16384), Value.int 16384, Value.int 3, Value.int 0, Value.int 0, Value.ref 158, Value.ref 159, Value.int 0, Value.int 0, Value.int 0, Value.int 0, Value.int 0, Value.int 0, Value.int 0, Value.int 0])) := by
  refine ⟨((((w.set 128 (Sum.inr (12, [Value.ref 129, Value.ref 131, Value.ref 133, Value.ref 135, Value.ref 137, Value.ref 139, Value.ref 141, Value.ref 143, Value.ref 145, Value.ref 147, Value.ref 149, Value.ref 151, Value.ref 153, Value.ref 154, Value.ref 155, Value.ref 156, Value.ref 157, Value.int (-16384), Value.int 16384, Value.int 2, Value.int 0, Value.int 0, Value.ref 158, Value.ref 159, Value.int 0, Value.int 0, Value.int 0, Value.int 0, Value.int 0, Value.int 0, Value.int 0, Value.int 0]))).set 154 (Sum.inl (0, 17, xup (fun _ => Value.int 0) (xs 1).toInt.toNat (Value.int 1)))).set 156 (Sum.inl (2, 17, xup (xup (fun _ => Value.int 0) (xs 1).toInt.toNat (Value.int 1)) (xs 1).toInt.toNat (Value.int 1)))).set 128 (Sum.inr (12, [Value.ref 129, Value.ref 131, Value.ref 133, Value.ref 135, Value.ref 137, Value.ref 139, Value.ref 141, Value.ref 143, Value.ref 145, Value.ref 147, Value.ref 149, Value.ref 151, Value.ref 153, Value.ref 154, Value.ref 155, Value.ref 156, Value.ref 157, Value.int (-16384), Value.int 16384, Value.int 3, Value.int 0, Value.int 0, Value.ref 158, Value.ref 159, Value.int 0, Value.int 0, Value.int 0, Value.int 0, Value.int 0, Value.int 0, Value.int 0, Value.int 0]))), ?_, ?_, xgs (xgn (by decide) (xgn (by decide) (xgs hm)))⟩
  · refine i_180_207 (x := 128) rfl ?_
    refine i_180_208 (v := Value.int 0) hm rfl ?_
    refine i_180_211 (fun h => absurd h (by decide)) (fun _ => ?_)
    refine i_180_214 (x := 128) rfl ?_
    refine i_180_215 (v := Value.ref 135) hm rfl ?_
    refine i_180_218 (v := Value.int 3) hq rfl ?_
    refine i_180_221 (fun h => absurd h (by decide)) (fun _ => ?_)
    refine i_180_224 (x := E) rfl ?_
    refine i_180_226 (x := 128) rfl ?_
    refine i_180_227 (v := Value.int 16384) hm rfl ?_
    refine i_180_230 (fun h => absurd (show 16384 < E.toInt by omega) (Int.not_lt.mpr h)) (fun _ => ?_)
    refine i_180_233 (x := 128) rfl ?_
    refine i_180_234 rfl ?_
    refine i_180_235 (v := Value.int 0) hm rfl ?_
    refine i_180_238 ?_
    refine i_180_239 (c := 2) (by decide) ?_
    refine i_180_240 (fs2 := [Value.ref 129, Value.ref 131, Value.ref 133, Value.ref 135, Value.ref 137, Value.ref 139, Value.ref 141, Value.ref 143, Value.ref 145, Value.ref 147, Value.ref 149, Value.ref 151, Value.ref 153, Value.ref 154, Value.ref 155, Value.ref 156, Value.ref 157, Value.int (-16384), Value.int 16384, Value.int 2, Value.int 0, Value.int 0, Value.ref 158, Value.ref 159, Value.int 0, Value.int 0, Value.int 0, Value.int 0, Value.int 0, Value.int 0, Value.int 0, Value.int 0]) hm (Nat.le_of_ble_eq_true rfl) rfl (by omega) ?_
    refine i_180_243 (x := md) rfl ?_
    refine i_180_245 (fun h => absurd (show md.toInt ≠ 0 by omega) (fun g => g h)) (fun _ => ?_)
    refine i_180_248 (x := md) rfl ?_
    refine i_180_250 ?_
    refine i_180_251 (fun h => absurd (show md.toInt ≠ 4 by omega) (fun g => g h)) (fun _ => ?_)
    refine i_180_254 (x := md) rfl ?_
    refine i_180_256 ?_
    refine i_180_257 (fun _ => ?_) (fun h => absurd (show md.toInt ≠ 2 by omega) (fun g => g h))
    refine i_180_265 (x := md) rfl ?_
    refine i_180_267 ?_
    refine i_180_268 (fun h => absurd (show md.toInt = 3 by omega) h) (fun _ => ?_)
    refine i_180_271 (x := 1) rfl ?_
    refine i_180_273 (fun h => absurd h (by decide)) (fun _ => ?_)
    refine i_180_276 ?_
    refine i_180_277 ?_
    refine i_180_281 (lv2 := [(15, Value.int 1), (14, Value.int 0), (13, Value.int E), (12, Value.int 1), (11, Value.int 0), (10, Value.int C), (9, Value.int U), (8, Value.int E), (7, Value.int 64), (0, Value.ref 128), (1, Value.int (xs 1)), (2, Value.ref 129), (3, Value.int sc), (4, Value.int 0), (5, Value.int 1), (6, Value.int md)]) rfl ?_
    refine i_180_283 (x := 1) rfl ?_
    refine i_180_285 (fun h => absurd h (by decide)) (fun _ => ?_)
    refine i_180_288 (x := 128) rfl ?_
    refine i_180_289 (x := (xs 1)) rfl ?_
    refine i_180_290 ?_
    refine i_180_291 (x := 1) rfl ?_
    refine i_180_293 (xgs hm) (Nat.le_of_ble_eq_true rfl) (s_171_2 (xgs hm) (xgn (by decide) (((hk 154 (by decide) (by decide) (by decide) (by decide) (by decide)).trans W0_154))) (by omega) (by omega) (xgn (by decide) hn)) ?_
    refine i_180_296 rfl ?_
    refine i_180_297 ?_
    refine i_180_352 (x := 1) rfl ?_
    refine i_180_354 (fun h => absurd h (by decide)) (fun _ => ?_)
    refine i_180_357 ?_
    refine i_180_358 ?_
    refine i_180_362 (lv2 := [(14, Value.int 1), (15, Value.int 1), (13, Value.int E), (12, Value.int 1), (11, Value.int 0), (10, Value.int C), (9, Value.int U), (8, Value.int E), (7, Value.int 64), (0, Value.ref 128), (1, Value.int (xs 1)), (2, Value.ref 129), (3, Value.int sc), (4, Value.int 0), (5, Value.int 1), (6, Value.int md)]) rfl ?_
    refine i_180_364 ?_
    refine i_180_591 (x := 128) rfl ?_
    refine i_180_592 (v := Value.int 0) (xgn (by decide) (xgn (by decide) (xgs hm))) rfl ?_
    refine i_180_595 (fun h => absurd h (by decide)) (fun _ => ?_)
    refine i_180_598 (x := 128) rfl ?_
    refine i_180_599 (v := Value.int 0) (xgn (by decide) (xgn (by decide) (xgs hm))) rfl ?_
    refine i_180_602 (fun _ => ?_) (fun h => absurd h (by decide))
    refine i_180_629 (x := 1) rfl ?_
    refine i_180_631 (fun h => absurd h (by decide)) (fun _ => ?_)
    refine i_180_634 (x := 128) rfl ?_
    refine i_180_635 rfl ?_
    refine i_180_636 (v := Value.int 2) (xgn (by decide) (xgn (by decide) (xgs hm))) rfl ?_
    refine i_180_639 ?_
    refine i_180_640 (c := 3) (by decide) ?_
    refine i_180_641 (fs2 := [Value.ref 129, Value.ref 131, Value.ref 133, Value.ref 135, Value.ref 137, Value.ref 139, Value.ref 141, Value.ref 143, Value.ref 145, Value.ref 147, Value.ref 149, Value.ref 151, Value.ref 153, Value.ref 154, Value.ref 155, Value.ref 156, Value.ref 157, Value.int (-16384), Value.int 16384, Value.int 3, Value.int 0, Value.int 0, Value.ref 158, Value.ref 159, Value.int 0, Value.int 0, Value.int 0, Value.int 0, Value.int 0, Value.int 0, Value.int 0, Value.int 0]) (xgn (by decide) (xgn (by decide) (xgs hm))) (Nat.le_of_ble_eq_true rfl) rfl (by omega) ?_
    refine i_180_644 (x := 1) rfl ?_
    refine i_180_646 (fun h => absurd h (by decide)) (fun _ => ?_)
    refine i_180_649 (x := 1) rfl ?_
    refine i_180_651 (c := (-1)) (by decide) ?_
    refine i_180_652 ?_
    exact i_180_657 ⟨rfl, rfl⟩
  · refine xKp.set ?_ (fun h hh => by unfold xPM at hh; omega) (xgn (by decide) (xgn (by decide) (xgs hm))) xcs_o
    refine xKp.set ?_ (fun h hh => by unfold xPM at hh; omega) (xgn (by decide) (xgn (by decide) hn)) xcs_a
    refine xKp.set ?_ (fun h hh => by unfold xPM at hh; omega) (xgn (by decide) (((hk 154 (by decide) (by decide) (by decide) (by decide) (by decide)).trans W0_154))) xcs_a
    refine xKp.set ?_ (fun h hh => by unfold xPM at hh; omega) (hm) xcs_o
    exact xKp.refl
theorem sf1_4 {d : Nat} {xs : Nat → Int32} {m : Int64} {sc md : Int32} {w : xW} {B E U C q0 q1 q2 nn : Int32} {g : Nat → Value} (hk : ∀ h, 131 ≤ h → h < 194 → h ≠ 135 → h ≠ 136 → h ≠ 156 → w[h]? = (W0 6 xs)[h]?) (hm : w[128]? = some (Sum.inr (12, [Value.ref 129, Value.ref 131, Value.ref 133, Value.ref 135, Value.ref 137, Value.ref 139, Value.ref 141, Value.ref 143, Value.ref 145, Value.ref 147, Value.ref 149, Value.ref 151, Value.ref 153, Value.ref 154, Value.ref 155, Value.ref 156, Value.ref 157, Value.int (-16384), Value.int 16384, Value.int 0, Value.int 0, Value.int 0, Value.ref 158, Value.ref 159, Value.int 0, Value.int 0, Value.int 0, Value.int 0, Value.int 0, Value.int 0, Value.int 0, Value.int 0]))) (hv : w[129]? = some (Sum.inr (13, [Value.ref 130, Value.int nn]))) (hq : w[135]? = some (Sum.inr (13, [Value.ref 136, Value.int 3]))) (hqw : w[136]? = some (Sum.inl (0, 4700, g))) (hg0 : g (0 : Int32).toInt.toNat = Value.int q0) (hg1 : g (1 : Int32).toInt.toNat = Value.int q1) (hg2 : g (2 : Int32).toInt.toNat = Value.int q2) (hn : w[156]? = some (Sum.inl (2, 17, xup (fun _ => Value.int 0) (xs 1).toInt.toNat (Value.int 1)))) (hbits : ∀ (d' : Nat) (w' : xW), w'[129]? = w[129]? → w'[130]? = w[130]? → xRun d' 181 [Value.ref 129] w' (.inl (some (Value.int B))) w') (hany0 : xPW m → ∀ (d' : Nat) (w' : xW), w'[129]? = w[129]? → w'[130]? = w[130]? → xRun d' 183 [Value.ref 129, Value.int (B - (1 : Int32))] w' (.inl (some (Value.int 0))) w') (hany1 : ¬ xPW m → ∀ (d' : Nat) (w' : xW), w'[129]? = w[129]? → w'[130]? = w[130]? → xRun d' 183 [Value.ref 129, Value.int (B - (1 : Int32))] w' (.inl (some (Value.int 1))) w') (c0 : 0 ≤ (xs 1).toInt) (c1 : (xs 1).toInt < 16) (c2 : (-40000) ≤ sc.toInt) (c3 : sc.toInt ≤ 40000) (c4 : 0 ≤ md.toInt) (c5 : md.toInt ≤ 4) (c6 : 1 ≤ B.toInt) (c7 : B.toInt ≤ 64) (c8 : E.toInt = B.toInt + sc.toInt) (c9 : U.toInt = E.toInt - 64) (c10 : 0 ≤ q2.toInt) (c11 : (xbn q2).toInt = 4) (c12 : 16384 < E.toInt) (c13 : md.toInt ≠ 0) (c14 : md.toInt ≠ 4) (c15 : md.toInt ≠ 2) (c16 : md.toInt ≠ 3) : ∃ w2, xEv (d + 6) 180 207 [(14, Value.int 0), (13, Value.int E), (12, Value.int 1), (11, Value.int 0), (10, Value.int C), (9, Value.int U), (8, Value.int E), (7, Value.int 64), (0, Value.ref 128), (1, Value.int (xs 1)), (2, Value.ref 129), (3, Value.int sc), (4, Value.int 0), (5, Value.int 1), (6, Value.int md)] [] w (fun o' w' => o' = .inl (some (Value.int 1)) ∧ w' = w2) ∧ xKp w w2 xPM ∧ w2[128]? = some (Sum.inr (12, [Value.ref 129, Value.ref 131, Value.ref 133, Value.ref 135, Value.ref 137, Value.ref 139, Value.ref 141, Value.ref 143, Value.ref 145, Value.ref 147, Value.ref 149, Value.ref 151, Value.ref 153, Value.ref 154, Value.ref 155, Value.ref 156, Value.ref 157, Value.int (-16384), Value.int 16384, Value.int 3, Value.int 0, Value.int 0, Value.ref 158, Value.ref 159, Value.int 0, Value.int 0, Value.int 0, Value.int 0, Value.int 0, Value.int 0, Value.int 0, Value.int 0])) := by
  refine ⟨(((((((((((((((((w.set 128 (Sum.inr (12, [Value.ref 129, Value.ref 131, Value.ref 133, Value.ref 135, Value.ref 137, Value.ref 139, Value.ref 141, Value.ref 143, Value.ref 145, Value.ref 147, Value.ref 149, Value.ref 151, Value.ref 153, Value.ref 154, Value.ref 155, Value.ref 156, Value.ref 157, Value.int (-16384), Value.int 16384, Value.int 2, Value.int 0, Value.int 0, Value.ref 158, Value.ref 159, Value.int 0, Value.int 0, Value.int 0, Value.int 0, Value.int 0, Value.int 0, Value.int 0, Value.int 0]))).set 152 (Sum.inl (0, 4700, xup (xup (xup (fun _ => Value.int 0) (0 : Int32).toInt.toNat (Value.int 0)) (1 : Int32).toInt.toNat (Value.int 0)) (2 : Int32).toInt.toNat (Value.int 16)))).set 151 (Sum.inr (13, [Value.ref 152, Value.int 3]))).set 143 (Sum.inr (13, [Value.ref 144, Value.int 0]))).set 144 (Sum.inl (0, 4700, xup (fun _ => Value.int 0) (0 : Int32).toInt.toNat (Value.int 1)))).set 143 (Sum.inr (13, [Value.ref 144, Value.int 1]))).set 152 (Sum.inl (0, 4700, xup (xup (xup (xup (xup (xup (fun _ => Value.int 0) (0 : Int32).toInt.toNat (Value.int 0)) (1 : Int32).toInt.toNat (Value.int 0)) (2 : Int32).toInt.toNat (Value.int 16)) (0 : Int32).toInt.toNat (Value.int 1073741823)) (1 : Int32).toInt.toNat (Value.int 1073741823)) (2 : Int32).toInt.toNat (Value.int 15)))).set 151 (Sum.inr (13, [Value.ref 152, Value.int 3]))).set (160 + 2 * (xs 1).toInt.toNat) (Sum.inr (13, [Value.ref (161 + 2 * (xs 1).toInt.toNat), Value.int 0]))).set 138 (Sum.inl (0, 4700, xcp (xup (xup (xup (xup (xup (xup (fun _ => Value.int 0) (0 : Int32).toInt.toNat (Value.int 0)) (1 : Int32).toInt.toNat (Value.int 0)) (2 : Int32).toInt.toNat (Value.int 16)) (0 : Int32).toInt.toNat (Value.int 1073741823)) (1 : Int32).toInt.toNat (Value.int 1073741823)) (2 : Int32).toInt.toNat (Value.int 15)) (fun _ => Value.int 0) (0 : Int32).toInt.toNat (0 : Int32).toInt.toNat (3 : Int32).toInt.toNat))).set 137 (Sum.inr (13, [Value.ref 138, Value.int 3]))).set (161 + 2 * (xs 1).toInt.toNat) (Sum.inl (0, 140, xcp (xcp (xup (xup (xup (xup (xup (xup (fun _ => Value.int 0) (0 : Int32).toInt.toNat (Value.int 0)) (1 : Int32).toInt.toNat (Value.int 0)) (2 : Int32).toInt.toNat (Value.int 16)) (0 : Int32).toInt.toNat (Value.int 1073741823)) (1 : Int32).toInt.toNat (Value.int 1073741823)) (2 : Int32).toInt.toNat (Value.int 15)) (fun _ => Value.int 0) (0 : Int32).toInt.toNat (0 : Int32).toInt.toNat (3 : Int32).toInt.toNat) (fun _ => Value.int 0) (0 : Int32).toInt.toNat (0 : Int32).toInt.toNat (3 : Int32).toInt.toNat))).set (160 + 2 * (xs 1).toInt.toNat) (Sum.inr (13, [Value.ref (161 + 2 * (xs 1).toInt.toNat), Value.int 3]))).set 154 (Sum.inl (0, 17, xup (fun _ => Value.int 0) (xs 1).toInt.toNat (Value.int 3)))).set 155 (Sum.inl (0, 17, xup (fun _ => Value.int 0) (xs 1).toInt.toNat (Value.int 16384)))).set 156 (Sum.inl (2, 17, xup (xup (fun _ => Value.int 0) (xs 1).toInt.toNat (Value.int 1)) (xs 1).toInt.toNat (Value.int 1)))).set 128 (Sum.inr (12, [Value.ref 129, Value.ref 131, Value.ref 133, Value.ref 135, Value.ref 137, Value.ref 139, Value.ref 141, Value.ref 143, Value.ref 145, Value.ref 147, Value.ref 149, Value.ref 151, Value.ref 153, Value.ref 154, Value.ref 155, Value.ref 156, Value.ref 157, Value.int (-16384), Value.int 16384, Value.int 3, Value.int 0, Value.int 0, Value.ref 158, Value.ref 159, Value.int 0, Value.int 0, Value.int 0, Value.int 0, Value.int 0, Value.int 0, Value.int 0, Value.int 0]))), ?_, ?_, xgs (xgn (by decide) (xgn (by decide) (xgn (by decide) (xgn (by omega) (xgn (by omega) (xgn (by decide) (xgn (by decide) (xgn (by omega) (xgn (by decide) (xgn (by decide) (xgn (by decide) (xgn (by decide) (xgn (by decide) (xgn (by decide) (xgn (by decide) (xgs hm))))))))))))))))⟩
  · refine i_180_207 (x := 128) rfl ?_
    refine i_180_208 (v := Value.int 0) hm rfl ?_
    refine i_180_211 (fun h => absurd h (by decide)) (fun _ => ?_)
    refine i_180_214 (x := 128) rfl ?_
    refine i_180_215 (v := Value.ref 135) hm rfl ?_
    refine i_180_218 (v := Value.int 3) hq rfl ?_
    refine i_180_221 (fun h => absurd h (by decide)) (fun _ => ?_)
    refine i_180_224 (x := E) rfl ?_
    refine i_180_226 (x := 128) rfl ?_
    refine i_180_227 (v := Value.int 16384) hm rfl ?_
    refine i_180_230 (fun h => absurd (show 16384 < E.toInt by omega) (Int.not_lt.mpr h)) (fun _ => ?_)
    refine i_180_233 (x := 128) rfl ?_
    refine i_180_234 rfl ?_
    refine i_180_235 (v := Value.int 0) hm rfl ?_
    refine i_180_238 ?_
    refine i_180_239 (c := 2) (by decide) ?_
    refine i_180_240 (fs2 := [Value.ref 129, Value.ref 131, Value.ref 133, Value.ref 135, Value.ref 137, Value.ref 139, Value.ref 141, Value.ref 143, Value.ref 145, Value.ref 147, Value.ref 149, Value.ref 151, Value.ref 153, Value.ref 154, Value.ref 155, Value.ref 156, Value.ref 157, Value.int (-16384), Value.int 16384, Value.int 2, Value.int 0, Value.int 0, Value.ref 158, Value.ref 159, Value.int 0, Value.int 0, Value.int 0, Value.int 0, Value.int 0, Value.int 0, Value.int 0, Value.int 0]) hm (Nat.le_of_ble_eq_true rfl) rfl (by omega) ?_
    refine i_180_243 (x := md) rfl ?_
    refine i_180_245 (fun h => absurd (show md.toInt ≠ 0 by omega) (fun g => g h)) (fun _ => ?_)
    refine i_180_248 (x := md) rfl ?_
    refine i_180_250 ?_
    refine i_180_251 (fun h => absurd (show md.toInt ≠ 4 by omega) (fun g => g h)) (fun _ => ?_)
    refine i_180_254 (x := md) rfl ?_
    refine i_180_256 ?_
    refine i_180_257 (fun _ => ?_) (fun h => absurd (show md.toInt ≠ 2 by omega) (fun g => g h))
    refine i_180_265 (x := md) rfl ?_
    refine i_180_267 ?_
    refine i_180_268 (fun _ => ?_) (fun h => absurd (show md.toInt ≠ 3 by omega) (fun g => g h))
    refine i_180_280 ?_
    refine i_180_281 (lv2 := [(15, Value.int 0), (14, Value.int 0), (13, Value.int E), (12, Value.int 1), (11, Value.int 0), (10, Value.int C), (9, Value.int U), (8, Value.int E), (7, Value.int 64), (0, Value.ref 128), (1, Value.int (xs 1)), (2, Value.ref 129), (3, Value.int sc), (4, Value.int 0), (5, Value.int 1), (6, Value.int md)]) rfl ?_
    refine i_180_283 (x := 0) rfl ?_
    refine i_180_285 (fun _ => ?_) (fun h => absurd h (by decide))
    refine i_180_300 (x := 128) rfl ?_
    refine i_180_301 (v := Value.ref 151) (xgs hm) rfl ?_
    refine i_180_304 (x := 64) rfl ?_
    refine i_180_306 (xgn (by decide) (((hk 151 (by decide) (by decide) (by decide) (by decide) (by decide)).trans W0_151))) (Nat.le_of_ble_eq_true rfl) (s_190_0 (xgn (by decide) (((hk 151 (by decide) (by decide) (by decide) (by decide) (by decide)).trans W0_151))) (xgn (by decide) (((hk 152 (by decide) (by decide) (by decide) (by decide) (by decide)).trans W0_152)))) ?_
    refine i_180_309 (x := 128) rfl ?_
    refine i_180_310 (v := Value.ref 143) (xgn (by decide) (xgn (by decide) (xgs hm))) rfl ?_
    refine i_180_313 ?_
    refine i_180_314 (xgn (by decide) (xgn (by decide) (xgn (by decide) (((hk 143 (by decide) (by decide) (by decide) (by decide) (by decide)).trans W0_143))))) (Nat.le_of_ble_eq_true rfl) (s_179_0 (xgn (by decide) (xgn (by decide) (xgn (by decide) (((hk 143 (by decide) (by decide) (by decide) (by decide) (by decide)).trans W0_143))))) (xgn (by decide) (xgn (by decide) (xgn (by decide) (((hk 144 (by decide) (by decide) (by decide) (by decide) (by decide)).trans W0_144)))))) ?_
    refine i_180_317 (x := 128) rfl ?_
    refine i_180_318 (v := Value.ref 151) (xgn (by decide) (xgn (by decide) (xgn (by decide) (xgn (by decide) (xgn (by decide) (xgs hm)))))) rfl ?_
    refine i_180_321 (x := 128) rfl ?_
    refine i_180_322 (v := Value.ref 143) (xgn (by decide) (xgn (by decide) (xgn (by decide) (xgn (by decide) (xgn (by decide) (xgs hm)))))) rfl ?_
    refine i_180_325 (xgn (by decide) (xgn (by decide) (xgn (by decide) (xgs (xgn (by decide) (xgn (by decide) (((hk 151 (by decide) (by decide) (by decide) (by decide) (by decide)).trans W0_151)))))))) (Nat.le_of_ble_eq_true rfl) (s_191_0 (xgn (by decide) (xgn (by decide) (xgn (by decide) (xgs (xgn (by decide) (xgn (by decide) (((hk 151 (by decide) (by decide) (by decide) (by decide) (by decide)).trans W0_151)))))))) (xgn (by decide) (xgn (by decide) (xgn (by decide) (xgn (by decide) (xgs (xgn (by decide) (((hk 152 (by decide) (by decide) (by decide) (by decide) (by decide)).trans W0_152)))))))) (xup_n (by decide) (xup_n (by decide) xup_s)) (xgs (xgn (by decide) (xgs (xgn (by decide) (xgn (by decide) (xgn (by decide) (((hk 143 (by decide) (by decide) (by decide) (by decide) (by decide)).trans W0_143)))))))) (xgn (by decide) (xgs (xgn (by decide) (xgn (by decide) (xgn (by decide) (xgn (by decide) (((hk 144 (by decide) (by decide) (by decide) (by decide) (by decide)).trans W0_144)))))))) xup_s (xup_n (by decide) xup_s) xup_s) ?_
    refine i_180_328 (x := 128) rfl ?_
    refine i_180_329 (x := (xs 1)) rfl ?_
    refine i_180_330 (x := 128) rfl ?_
    refine i_180_331 (v := Value.ref 151) (xgn (by decide) (xgn (by decide) (xgn (by decide) (xgn (by decide) (xgn (by decide) (xgn (by decide) (xgn (by decide) (xgs hm)))))))) rfl ?_
    refine i_180_334 (x := 128) rfl ?_
    refine i_180_335 (v := Value.int 16384) (xgn (by decide) (xgn (by decide) (xgn (by decide) (xgn (by decide) (xgn (by decide) (xgn (by decide) (xgn (by decide) (xgs hm)))))))) rfl ?_
    refine i_180_338 (x := 64) rfl ?_
    refine i_180_340 (c := 16320) (by decide) ?_
    refine i_180_341 (xgn (by decide) (xgn (by decide) (xgn (by decide) (xgn (by decide) (xgn (by decide) (xgn (by decide) (xgn (by decide) (xgs hm)))))))) (Nat.le_of_ble_eq_true rfl) (s_192_0 (xgn (by decide) (xgn (by decide) (xgn (by decide) (xgn (by decide) (xgn (by decide) (xgn (by decide) (xgn (by decide) (xgs hm)))))))) (xgn (by decide) (xgn (by decide) (xgn (by decide) (xgn (by decide) (xgn (by decide) (xgn (by decide) (xgn (by decide) (xgn (by decide) (((hk 153 (by decide) (by decide) (by decide) (by decide) (by decide)).trans W0_153)))))))))) (by omega) (by omega) (gprec_at (by omega)) (xgs (xgn (by decide) (xgn (by decide) (xgn (by decide) (xgn (by decide) (xgs (xgn (by decide) (xgn (by decide) (((hk 151 (by decide) (by decide) (by decide) (by decide) (by decide)).trans W0_151)))))))))) (xgn (by decide) (xgs (xgn (by decide) (xgn (by decide) (xgn (by decide) (xgn (by decide) (xgs (xgn (by decide) (((hk 152 (by decide) (by decide) (by decide) (by decide) (by decide)).trans W0_152)))))))))) xup_s (xgn (by decide) (xgn (by decide) (xgn (by decide) (xgn (by decide) (xgn (by decide) (xgn (by decide) (xgn (by decide) (xgn (by decide) (((hk 157 (by decide) (by decide) (by decide) (by decide) (by decide)).trans W0_157)))))))))) (gpart_at (by omega)) (xgn (by omega) (xgn (by omega) (xgn (by omega) (xgn (by omega) (xgn (by omega) (xgn (by omega) (xgn (by omega) (xgn (by omega) (((hk _ (by omega) (by omega) (by omega) (by omega) (by omega)).trans (W0_part (by omega)))))))))))) (by omega) (by omega) (by omega) (xgn (by decide) (xgn (by decide) (xgn (by decide) (xgn (by decide) (xgn (by decide) (xgn (by decide) (xgn (by decide) (xgn (by decide) (((hk 137 (by decide) (by decide) (by decide) (by decide) (by decide)).trans W0_137)))))))))) (by omega) (by omega) (by omega) (xgn (by decide) (xgn (by decide) (xgn (by decide) (xgn (by decide) (xgn (by decide) (xgn (by decide) (xgn (by decide) (xgn (by decide) (((hk 138 (by decide) (by decide) (by decide) (by decide) (by decide)).trans W0_138)))))))))) (xup_n (by decide) (xup_n (by decide) xup_s)) (xup_n (by decide) xup_s) (by omega) (by omega) (by omega) (by omega) (by omega) (by omega) (xgn (by omega) (xgn (by omega) (xgn (by omega) (xgn (by omega) (xgn (by omega) (xgn (by omega) (xgn (by omega) (xgn (by omega) (((hk _ (by omega) (by omega) (by omega) (by omega) (by omega)).trans (W0_pw (by omega)))))))))))) (by omega) (by omega) (by omega) (by omega) (by omega) (by omega) (xgn (by decide) (xgn (by decide) (xgn (by decide) (xgn (by decide) (xgn (by decide) (xgn (by decide) (xgn (by decide) (xgn (by decide) (((hk 154 (by decide) (by decide) (by decide) (by decide) (by decide)).trans W0_154)))))))))) (by omega) (by omega) (xgn (by decide) (xgn (by decide) (xgn (by decide) (xgn (by decide) (xgn (by decide) (xgn (by decide) (xgn (by decide) (xgn (by decide) (((hk 155 (by decide) (by decide) (by decide) (by decide) (by decide)).trans W0_155))))))))))) ?_
    refine i_180_344 (x := 128) rfl ?_
    refine i_180_345 (v := Value.ref 156) (xgn (by decide) (xgn (by decide) (xgn (by omega) (xgn (by omega) (xgn (by decide) (xgn (by decide) (xgn (by omega) (xgn (by decide) (xgn (by decide) (xgn (by decide) (xgn (by decide) (xgn (by decide) (xgn (by decide) (xgn (by decide) (xgs hm))))))))))))))) rfl ?_
    refine i_180_348 (x := (xs 1)) rfl ?_
    refine i_180_349 (x := 1) rfl ?_
    refine i_180_351z (v := Value.int 1) (xgn (by decide) (xgn (by decide) (xgn (by omega) (xgn (by omega) (xgn (by decide) (xgn (by decide) (xgn (by omega) (xgn (by decide) (xgn (by decide) (xgn (by decide) (xgn (by decide) (xgn (by decide) (xgn (by decide) (xgn (by decide) (xgn (by decide) hn))))))))))))))) (by omega) (by omega) (by omega) rfl ?_
    refine i_180_352 (x := 0) rfl ?_
    refine i_180_354 (fun _ => ?_) (fun h => absurd h (by decide))
    refine i_180_361 ?_
    refine i_180_362 (lv2 := [(14, Value.int (-1)), (15, Value.int 0), (13, Value.int E), (12, Value.int 1), (11, Value.int 0), (10, Value.int C), (9, Value.int U), (8, Value.int E), (7, Value.int 64), (0, Value.ref 128), (1, Value.int (xs 1)), (2, Value.ref 129), (3, Value.int sc), (4, Value.int 0), (5, Value.int 1), (6, Value.int md)]) rfl ?_
    refine i_180_364 ?_
    refine i_180_591 (x := 128) rfl ?_
    refine i_180_592 (v := Value.int 0) (xgn (by decide) (xgn (by decide) (xgn (by decide) (xgn (by omega) (xgn (by omega) (xgn (by decide) (xgn (by decide) (xgn (by omega) (xgn (by decide) (xgn (by decide) (xgn (by decide) (xgn (by decide) (xgn (by decide) (xgn (by decide) (xgn (by decide) (xgs hm)))))))))))))))) rfl ?_
    refine i_180_595 (fun h => absurd h (by decide)) (fun _ => ?_)
    refine i_180_598 (x := 128) rfl ?_
    refine i_180_599 (v := Value.int 0) (xgn (by decide) (xgn (by decide) (xgn (by decide) (xgn (by omega) (xgn (by omega) (xgn (by decide) (xgn (by decide) (xgn (by omega) (xgn (by decide) (xgn (by decide) (xgn (by decide) (xgn (by decide) (xgn (by decide) (xgn (by decide) (xgn (by decide) (xgs hm)))))))))))))))) rfl ?_
    refine i_180_602 (fun _ => ?_) (fun h => absurd h (by decide))
    refine i_180_629 (x := (-1)) rfl ?_
    refine i_180_631 (fun h => absurd h (by decide)) (fun _ => ?_)
    refine i_180_634 (x := 128) rfl ?_
    refine i_180_635 rfl ?_
    refine i_180_636 (v := Value.int 2) (xgn (by decide) (xgn (by decide) (xgn (by decide) (xgn (by omega) (xgn (by omega) (xgn (by decide) (xgn (by decide) (xgn (by omega) (xgn (by decide) (xgn (by decide) (xgn (by decide) (xgn (by decide) (xgn (by decide) (xgn (by decide) (xgn (by decide) (xgs hm)))))))))))))))) rfl ?_
    refine i_180_639 ?_
    refine i_180_640 (c := 3) (by decide) ?_
    refine i_180_641 (fs2 := [Value.ref 129, Value.ref 131, Value.ref 133, Value.ref 135, Value.ref 137, Value.ref 139, Value.ref 141, Value.ref 143, Value.ref 145, Value.ref 147, Value.ref 149, Value.ref 151, Value.ref 153, Value.ref 154, Value.ref 155, Value.ref 156, Value.ref 157, Value.int (-16384), Value.int 16384, Value.int 3, Value.int 0, Value.int 0, Value.ref 158, Value.ref 159, Value.int 0, Value.int 0, Value.int 0, Value.int 0, Value.int 0, Value.int 0, Value.int 0, Value.int 0]) (xgn (by decide) (xgn (by decide) (xgn (by decide) (xgn (by omega) (xgn (by omega) (xgn (by decide) (xgn (by decide) (xgn (by omega) (xgn (by decide) (xgn (by decide) (xgn (by decide) (xgn (by decide) (xgn (by decide) (xgn (by decide) (xgn (by decide) (xgs hm)))))))))))))))) (Nat.le_of_ble_eq_true rfl) rfl (by omega) ?_
    refine i_180_644 (x := 1) rfl ?_
    refine i_180_646 (fun h => absurd h (by decide)) (fun _ => ?_)
    refine i_180_649 (x := (-1)) rfl ?_
    refine i_180_651 (c := 1) (by decide) ?_
    refine i_180_652 ?_
    exact i_180_657 ⟨rfl, rfl⟩
  · refine xKp.set ?_ (fun h hh => by unfold xPM at hh; omega) (xgn (by decide) (xgn (by decide) (xgn (by decide) (xgn (by omega) (xgn (by omega) (xgn (by decide) (xgn (by decide) (xgn (by omega) (xgn (by decide) (xgn (by decide) (xgn (by decide) (xgn (by decide) (xgn (by decide) (xgn (by decide) (xgn (by decide) (xgs hm)))))))))))))))) xcs_o
    refine xKp.set ?_ (fun h hh => by unfold xPM at hh; omega) (xgn (by decide) (xgn (by decide) (xgn (by omega) (xgn (by omega) (xgn (by decide) (xgn (by decide) (xgn (by omega) (xgn (by decide) (xgn (by decide) (xgn (by decide) (xgn (by decide) (xgn (by decide) (xgn (by decide) (xgn (by decide) (xgn (by decide) hn))))))))))))))) xcs_a
    refine xKp.set ?_ (fun h hh => by unfold xPM at hh; omega) (xgn (by decide) (xgn (by omega) (xgn (by omega) (xgn (by decide) (xgn (by decide) (xgn (by omega) (xgn (by decide) (xgn (by decide) (xgn (by decide) (xgn (by decide) (xgn (by decide) (xgn (by decide) (xgn (by decide) (xgn (by decide) (((hk 155 (by decide) (by decide) (by decide) (by decide) (by decide)).trans W0_155)))))))))))))))) xcs_a
    refine xKp.set ?_ (fun h hh => by unfold xPM at hh; omega) (xgn (by omega) (xgn (by omega) (xgn (by decide) (xgn (by decide) (xgn (by omega) (xgn (by decide) (xgn (by decide) (xgn (by decide) (xgn (by decide) (xgn (by decide) (xgn (by decide) (xgn (by decide) (xgn (by decide) (((hk 154 (by decide) (by decide) (by decide) (by decide) (by decide)).trans W0_154))))))))))))))) xcs_a
    refine xKp.set ?_ (fun h hh => by unfold xPM at hh; omega) (xgn (by omega) (xgn (by omega) (xgn (by omega) (xgs (xgn (by omega) (xgn (by omega) (xgn (by omega) (xgn (by omega) (xgn (by omega) (xgn (by omega) (xgn (by omega) (xgn (by omega) (((hk _ (by omega) (by omega) (by omega) (by omega) (by omega)).trans (W0_part (by omega)))))))))))))))) xcs_o
    refine xKp.set ?_ (fun h hh => by unfold xPM at hh; omega) (xgn (by omega) (xgn (by omega) (xgn (by omega) (xgn (by omega) (xgn (by omega) (xgn (by omega) (xgn (by omega) (xgn (by omega) (xgn (by omega) (xgn (by omega) (xgn (by omega) (((hk _ (by omega) (by omega) (by omega) (by omega) (by omega)).trans (W0_pw (by omega))))))))))))))) xcs_a
    refine xKp.set ?_ (fun h hh => by unfold xPM at hh; omega) (xgn (by decide) (xgn (by omega) (xgn (by decide) (xgn (by decide) (xgn (by decide) (xgn (by decide) (xgn (by decide) (xgn (by decide) (xgn (by decide) (xgn (by decide) (((hk 137 (by decide) (by decide) (by decide) (by decide) (by decide)).trans W0_137)))))))))))) xcs_o
    refine xKp.set ?_ (fun h hh => by unfold xPM at hh; omega) (xgn (by omega) (xgn (by decide) (xgn (by decide) (xgn (by decide) (xgn (by decide) (xgn (by decide) (xgn (by decide) (xgn (by decide) (xgn (by decide) (((hk 138 (by decide) (by decide) (by decide) (by decide) (by decide)).trans W0_138))))))))))) xcs_a
    refine xKp.set ?_ (fun h hh => by unfold xPM at hh; omega) (xgn (by omega) (xgn (by omega) (xgn (by omega) (xgn (by omega) (xgn (by omega) (xgn (by omega) (xgn (by omega) (xgn (by omega) (((hk _ (by omega) (by omega) (by omega) (by omega) (by omega)).trans (W0_part (by omega)))))))))))) xcs_o
    refine xKp.set ?_ (fun h hh => by unfold xPM at hh; omega) (xgn (by decide) (xgn (by decide) (xgn (by decide) (xgn (by decide) (xgs (xgn (by decide) (xgn (by decide) (((hk 151 (by decide) (by decide) (by decide) (by decide) (by decide)).trans W0_151))))))))) xcs_o
    refine xKp.set ?_ (fun h hh => by unfold xPM at hh; omega) (xgn (by decide) (xgn (by decide) (xgn (by decide) (xgn (by decide) (xgs (xgn (by decide) (((hk 152 (by decide) (by decide) (by decide) (by decide) (by decide)).trans W0_152)))))))) xcs_a
    refine xKp.set ?_ (fun h hh => by unfold xPM at hh; omega) (xgn (by decide) (xgs (xgn (by decide) (xgn (by decide) (xgn (by decide) (((hk 143 (by decide) (by decide) (by decide) (by decide) (by decide)).trans W0_143))))))) xcs_o
    refine xKp.set ?_ (fun h hh => by unfold xPM at hh; omega) (xgn (by decide) (xgn (by decide) (xgn (by decide) (xgn (by decide) (((hk 144 (by decide) (by decide) (by decide) (by decide) (by decide)).trans W0_144)))))) xcs_a
    refine xKp.set ?_ (fun h hh => by unfold xPM at hh; omega) (xgn (by decide) (xgn (by decide) (xgn (by decide) (((hk 143 (by decide) (by decide) (by decide) (by decide) (by decide)).trans W0_143))))) xcs_o
    refine xKp.set ?_ (fun h hh => by unfold xPM at hh; omega) (xgn (by decide) (xgn (by decide) (((hk 151 (by decide) (by decide) (by decide) (by decide) (by decide)).trans W0_151)))) xcs_o
    refine xKp.set ?_ (fun h hh => by unfold xPM at hh; omega) (xgn (by decide) (((hk 152 (by decide) (by decide) (by decide) (by decide) (by decide)).trans W0_152))) xcs_a
    refine xKp.set ?_ (fun h hh => by unfold xPM at hh; omega) (hm) xcs_o
    exact xKp.refl
theorem sf1_5 {d : Nat} {xs : Nat → Int32} {m : Int64} {sc md : Int32} {w : xW} {B E U C q0 q1 q2 nn : Int32} {g : Nat → Value} (hk : ∀ h, 131 ≤ h → h < 194 → h ≠ 135 → h ≠ 136 → h ≠ 156 → w[h]? = (W0 6 xs)[h]?) (hm : w[128]? = some (Sum.inr (12, [Value.ref 129, Value.ref 131, Value.ref 133, Value.ref 135, Value.ref 137, Value.ref 139, Value.ref 141, Value.ref 143, Value.ref 145, Value.ref 147, Value.ref 149, Value.ref 151, Value.ref 153, Value.ref 154, Value.ref 155, Value.ref 156, Value.ref 157, Value.int (-16384), Value.int 16384, Value.int 0, Value.int 0, Value.int 0, Value.ref 158, Value.ref 159, Value.int 0, Value.int 0, Value.int 0, Value.int 0, Value.int 0, Value.int 0, Value.int 0, Value.int 0]))) (hv : w[129]? = some (Sum.inr (13, [Value.ref 130, Value.int nn]))) (hq : w[135]? = some (Sum.inr (13, [Value.ref 136, Value.int 3]))) (hqw : w[136]? = some (Sum.inl (0, 4700, g))) (hg0 : g (0 : Int32).toInt.toNat = Value.int q0) (hg1 : g (1 : Int32).toInt.toNat = Value.int q1) (hg2 : g (2 : Int32).toInt.toNat = Value.int q2) (hn : w[156]? = some (Sum.inl (2, 17, xup (fun _ => Value.int 0) (xs 1).toInt.toNat (Value.int 1)))) (hbits : ∀ (d' : Nat) (w' : xW), w'[129]? = w[129]? → w'[130]? = w[130]? → xRun d' 181 [Value.ref 129] w' (.inl (some (Value.int B))) w') (hany0 : xPW m → ∀ (d' : Nat) (w' : xW), w'[129]? = w[129]? → w'[130]? = w[130]? → xRun d' 183 [Value.ref 129, Value.int (B - (1 : Int32))] w' (.inl (some (Value.int 0))) w') (hany1 : ¬ xPW m → ∀ (d' : Nat) (w' : xW), w'[129]? = w[129]? → w'[130]? = w[130]? → xRun d' 183 [Value.ref 129, Value.int (B - (1 : Int32))] w' (.inl (some (Value.int 1))) w') (c0 : 0 ≤ (xs 1).toInt) (c1 : (xs 1).toInt < 16) (c2 : (-40000) ≤ sc.toInt) (c3 : sc.toInt ≤ 40000) (c4 : 0 ≤ md.toInt) (c5 : md.toInt ≤ 4) (c6 : 1 ≤ B.toInt) (c7 : B.toInt ≤ 64) (c8 : E.toInt = B.toInt + sc.toInt) (c9 : U.toInt = E.toInt - 64) (c10 : 0 ≤ q2.toInt) (c11 : (xbn q2).toInt = 4) (c12 : E.toInt ≤ 16384) (c13 : E.toInt < (-16384)) (c14 : E.toInt = (-16385)) (c15 : xPW m) (c16 : md.toInt = 4) : ∃ w2, xEv (d + 6) 180 207 [(14, Value.int 0), (13, Value.int E), (12, Value.int 1), (11, Value.int 0), (10, Value.int C), (9, Value.int U), (8, Value.int E), (7, Value.int 64), (0, Value.ref 128), (1, Value.int (xs 1)), (2, Value.ref 129), (3, Value.int sc), (4, Value.int 0), (5, Value.int 1), (6, Value.int md)] [] w (fun o' w' => o' = .inl (some (Value.int (-1))) ∧ w' = w2) ∧ xKp w w2 xPM ∧ w2[128]? = some (Sum.inr (12, [Value.ref 129, Value.ref 131, Value.ref 133, Value.ref 135, Value.ref 137, Value.ref 139, Value.ref 141, Value.ref 143, Value.ref 145, Value.ref 147, Value.ref 149, Value.ref 151, Value.ref 153, Value.ref 154, Value.ref 155, Value.ref 156, Value.ref 157, Value.int (-16384), Value.int 16384, Value.int 5, Value.int 0, Value.int 0, Value.ref 158, Value.ref 159, Value.int 0, Value.int 0, Value.int 0, Value.int 0, Value.int 0, Value.int 0, Value.int 0, Value.int 0])) := by
  refine ⟨(((((((((((((((w.set 128 (Sum.inr (12, [Value.ref 129, Value.ref 131, Value.ref 133, Value.ref 135, Value.ref 137, Value.ref 139, Value.ref 141, Value.ref 143, Value.ref 145, Value.ref 147, Value.ref 149, Value.ref 151, Value.ref 153, Value.ref 154, Value.ref 155, Value.ref 156, Value.ref 157, Value.int (-16384), Value.int 16384, Value.int 4, Value.int 0, Value.int 0, Value.ref 158, Value.ref 159, Value.int 0, Value.int 0, Value.int 0, Value.int 0, Value.int 0, Value.int 0, Value.int 0, Value.int 0]))).set 151 (Sum.inr (13, [Value.ref 152, Value.int 0]))).set 152 (Sum.inl (0, 4700, xup (fun _ => Value.int 0) (0 : Int32).toInt.toNat (Value.int 1)))).set 151 (Sum.inr (13, [Value.ref 152, Value.int 1]))).set (160 + 2 * (xs 1).toInt.toNat) (Sum.inr (13, [Value.ref (161 + 2 * (xs 1).toInt.toNat), Value.int 0]))).set 138 (Sum.inl (0, 4700, xcp (xup (fun _ => Value.int 0) (0 : Int32).toInt.toNat (Value.int 1)) (fun _ => Value.int 0) (0 : Int32).toInt.toNat (0 : Int32).toInt.toNat (1 : Int32).toInt.toNat))).set 137 (Sum.inr (13, [Value.ref 138, Value.int 1]))).set 138 (Sum.inl (0, 4700, xup (xup (xup (xup (xup (xcp (xup (fun _ => Value.int 0) (0 : Int32).toInt.toNat (Value.int 1)) (fun _ => Value.int 0) (0 : Int32).toInt.toNat (0 : Int32).toInt.toNat (1 : Int32).toInt.toNat) (3 : Int32).toInt.toNat (Value.int 0)) (3 : Int32).toInt.toNat (Value.int 0)) (2 : Int32).toInt.toNat (Value.int 8)) (0 : Int32).toInt.toNat (Value.int 0)) (1 : Int32).toInt.toNat (Value.int 0)))).set 137 (Sum.inr (13, [Value.ref 138, Value.int 3]))).set (161 + 2 * (xs 1).toInt.toNat) (Sum.inl (0, 140, xcp (xup (xup (xup (xup (xup (xcp (xup (fun _ => Value.int 0) (0 : Int32).toInt.toNat (Value.int 1)) (fun _ => Value.int 0) (0 : Int32).toInt.toNat (0 : Int32).toInt.toNat (1 : Int32).toInt.toNat) (3 : Int32).toInt.toNat (Value.int 0)) (3 : Int32).toInt.toNat (Value.int 0)) (2 : Int32).toInt.toNat (Value.int 8)) (0 : Int32).toInt.toNat (Value.int 0)) (1 : Int32).toInt.toNat (Value.int 0)) (fun _ => Value.int 0) (0 : Int32).toInt.toNat (0 : Int32).toInt.toNat (3 : Int32).toInt.toNat))).set (160 + 2 * (xs 1).toInt.toNat) (Sum.inr (13, [Value.ref (161 + 2 * (xs 1).toInt.toNat), Value.int 3]))).set 154 (Sum.inl (0, 17, xup (fun _ => Value.int 0) (xs 1).toInt.toNat (Value.int 3)))).set 155 (Sum.inl (0, 17, xup (fun _ => Value.int 0) (xs 1).toInt.toNat (Value.int (-16384))))).set 156 (Sum.inl (2, 17, xup (xup (fun _ => Value.int 0) (xs 1).toInt.toNat (Value.int 1)) (xs 1).toInt.toNat (Value.int 1)))).set 128 (Sum.inr (12, [Value.ref 129, Value.ref 131, Value.ref 133, Value.ref 135, Value.ref 137, Value.ref 139, Value.ref 141, Value.ref 143, Value.ref 145, Value.ref 147, Value.ref 149, Value.ref 151, Value.ref 153, Value.ref 154, Value.ref 155, Value.ref 156, Value.ref 157, Value.int (-16384), Value.int 16384, Value.int 5, Value.int 0, Value.int 0, Value.ref 158, Value.ref 159, Value.int 0, Value.int 0, Value.int 0, Value.int 0, Value.int 0, Value.int 0, Value.int 0, Value.int 0]))), ?_, ?_, xgs (xgn (by decide) (xgn (by decide) (xgn (by decide) (xgn (by omega) (xgn (by omega) (xgn (by decide) (xgn (by decide) (xgn (by decide) (xgn (by decide) (xgn (by omega) (xgn (by decide) (xgn (by decide) (xgn (by decide) (xgs hm))))))))))))))⟩
  · refine i_180_207 (x := 128) rfl ?_
    refine i_180_208 (v := Value.int 0) hm rfl ?_
    refine i_180_211 (fun h => absurd h (by decide)) (fun _ => ?_)
    refine i_180_214 (x := 128) rfl ?_
    refine i_180_215 (v := Value.ref 135) hm rfl ?_
    refine i_180_218 (v := Value.int 3) hq rfl ?_
    refine i_180_221 (fun h => absurd h (by decide)) (fun _ => ?_)
    refine i_180_224 (x := E) rfl ?_
    refine i_180_226 (x := 128) rfl ?_
    refine i_180_227 (v := Value.int 16384) hm rfl ?_
    refine i_180_230 (fun _ => ?_) (fun h => absurd (show E.toInt ≤ 16384 by omega) (Int.not_le.mpr h))
    refine i_180_367 (x := 128) rfl ?_
    refine i_180_368 (v := Value.ref 135) hm rfl ?_
    refine i_180_371 (v := Value.int 3) hq rfl ?_
    refine i_180_374 (fun _ => ?_) (fun h => absurd h (by decide))
    refine i_180_392 (x := 128) rfl ?_
    refine i_180_393 (v := Value.int 0) hm rfl ?_
    refine i_180_396 (fun h => absurd h (by decide)) (fun _ => ?_)
    refine i_180_399 (x := 128) rfl ?_
    refine i_180_400 (v := Value.int 0) hm rfl ?_
    refine i_180_403 (fun h => absurd h (by decide)) (fun _ => ?_)
    refine i_180_406 (x := E) rfl ?_
    refine i_180_408 (x := 128) rfl ?_
    refine i_180_409 (v := Value.int (-16384)) hm rfl ?_
    refine i_180_412 (fun h => absurd (show E.toInt < (-16384) by omega) (Int.not_lt.mpr h)) (fun _ => ?_)
    refine i_180_415 (x := 128) rfl ?_
    refine i_180_416 rfl ?_
    refine i_180_417 (v := Value.int 0) hm rfl ?_
    refine i_180_420 ?_
    refine i_180_421 (c := 4) (by decide) ?_
    refine i_180_422 (fs2 := [Value.ref 129, Value.ref 131, Value.ref 133, Value.ref 135, Value.ref 137, Value.ref 139, Value.ref 141, Value.ref 143, Value.ref 145, Value.ref 147, Value.ref 149, Value.ref 151, Value.ref 153, Value.ref 154, Value.ref 155, Value.ref 156, Value.ref 157, Value.int (-16384), Value.int 16384, Value.int 4, Value.int 0, Value.int 0, Value.ref 158, Value.ref 159, Value.int 0, Value.int 0, Value.int 0, Value.int 0, Value.int 0, Value.int 0, Value.int 0, Value.int 0]) hm (Nat.le_of_ble_eq_true rfl) rfl (by omega) ?_
    refine i_180_425 (x := E) rfl ?_
    refine i_180_427 (x := 128) rfl ?_
    refine i_180_428 (v := Value.int (-16384)) (xgs hm) rfl ?_
    refine i_180_431 ?_
    refine i_180_432 (c := (-16385)) (by decide) ?_
    refine i_180_433 (fun h => absurd (show E.toInt ≤ (-16385) by omega) (Int.not_le.mpr h)) (fun _ => ?_)
    refine i_180_436 (x := E) rfl ?_
    refine i_180_438 (x := 128) rfl ?_
    refine i_180_439 (v := Value.int (-16384)) (xgs hm) rfl ?_
    refine i_180_442 ?_
    refine i_180_443 (c := (-16385)) (by decide) ?_
    refine i_180_444 (fun h => absurd (show E.toInt = (-16385) by omega) h) (fun _ => ?_)
    refine i_180_447 (x := 0) rfl ?_
    refine i_180_449 (fun h => absurd h (by decide)) (fun _ => ?_)
    refine i_180_452 (x := 129) rfl ?_
    refine i_180_453 (x := 129) rfl ?_
    refine i_180_454 (xgn (by decide) hv) (Nat.le_of_ble_eq_true rfl) (hbits _ _ (xgn (by omega) (rfl)) (xgn (by omega) (rfl))) ?_
    refine i_180_457 ?_
    refine i_180_458 (c := (B - (1 : Int32))) rfl ?_
    refine i_180_459 (xgn (by decide) hv) (Nat.le_of_ble_eq_true rfl) (hany0 c15 _ _ (xgn (by omega) (rfl)) (xgn (by omega) (rfl))) ?_
    refine i_180_462 (fun _ => ?_) (fun h => absurd h (by decide))
    refine i_180_469 ?_
    refine i_180_470 (lv2 := [(15, Value.int 0), (14, Value.int 0), (13, Value.int E), (12, Value.int 1), (11, Value.int 0), (10, Value.int C), (9, Value.int U), (8, Value.int E), (7, Value.int 64), (0, Value.ref 128), (1, Value.int (xs 1)), (2, Value.ref 129), (3, Value.int sc), (4, Value.int 0), (5, Value.int 1), (6, Value.int md)]) rfl ?_
    refine i_180_472 (x := md) rfl ?_
    refine i_180_474 ?_
    refine i_180_475 (fun _ => ?_) (fun h => absurd (show md.toInt = 4 by omega) h)
    refine i_180_510 ?_
    refine i_180_511 ?_
    refine i_180_515 (lv2 := [(16, Value.int 1), (15, Value.int 0), (14, Value.int 0), (13, Value.int E), (12, Value.int 1), (11, Value.int 0), (10, Value.int C), (9, Value.int U), (8, Value.int E), (7, Value.int 64), (0, Value.ref 128), (1, Value.int (xs 1)), (2, Value.ref 129), (3, Value.int sc), (4, Value.int 0), (5, Value.int 1), (6, Value.int md)]) rfl ?_
    refine i_180_517 (x := 1) rfl ?_
    refine i_180_519 (fun h => absurd h (by decide)) (fun _ => ?_)
    refine i_180_522 (x := 128) rfl ?_
    refine i_180_523 (v := Value.ref 151) (xgs hm) rfl ?_
    refine i_180_526 ?_
    refine i_180_527 (xgn (by decide) (((hk 151 (by decide) (by decide) (by decide) (by decide) (by decide)).trans W0_151))) (Nat.le_of_ble_eq_true rfl) (s_179_2 (xgn (by decide) (((hk 151 (by decide) (by decide) (by decide) (by decide) (by decide)).trans W0_151))) (xgn (by decide) (((hk 152 (by decide) (by decide) (by decide) (by decide) (by decide)).trans W0_152)))) ?_
    refine i_180_530 (x := 128) rfl ?_
    refine i_180_531 (x := (xs 1)) rfl ?_
    refine i_180_532 (x := 128) rfl ?_
    refine i_180_533 (v := Value.ref 151) (xgn (by decide) (xgn (by decide) (xgn (by decide) (xgs hm)))) rfl ?_
    refine i_180_536 (x := 128) rfl ?_
    refine i_180_537 (v := Value.int (-16384)) (xgn (by decide) (xgn (by decide) (xgn (by decide) (xgs hm)))) rfl ?_
    refine i_180_540 ?_
    refine i_180_541 (c := (-16385)) (by decide) ?_
    refine i_180_542 (xgn (by decide) (xgn (by decide) (xgn (by decide) (xgs hm)))) (Nat.le_of_ble_eq_true rfl) (s_192_1 (xgn (by decide) (xgn (by decide) (xgn (by decide) (xgs hm)))) (xgn (by decide) (xgn (by decide) (xgn (by decide) (xgn (by decide) (((hk 153 (by decide) (by decide) (by decide) (by decide) (by decide)).trans W0_153)))))) (by omega) (by omega) (gprec_at (by omega)) (xgs (xgn (by decide) (xgs (xgn (by decide) (((hk 151 (by decide) (by decide) (by decide) (by decide) (by decide)).trans W0_151)))))) (xgn (by decide) (xgs (xgn (by decide) (xgn (by decide) (((hk 152 (by decide) (by decide) (by decide) (by decide) (by decide)).trans W0_152)))))) xup_s (xgn (by decide) (xgn (by decide) (xgn (by decide) (xgn (by decide) (((hk 157 (by decide) (by decide) (by decide) (by decide) (by decide)).trans W0_157)))))) (gpart_at (by omega)) (xgn (by omega) (xgn (by omega) (xgn (by omega) (xgn (by omega) (((hk _ (by omega) (by omega) (by omega) (by omega) (by omega)).trans (W0_part (by omega)))))))) (by omega) (by omega) (by omega) (xgn (by decide) (xgn (by decide) (xgn (by decide) (xgn (by decide) (((hk 137 (by decide) (by decide) (by decide) (by decide) (by decide)).trans W0_137)))))) (by omega) (by omega) (by omega) (xgn (by decide) (xgn (by decide) (xgn (by decide) (xgn (by decide) (((hk 138 (by decide) (by decide) (by decide) (by decide) (by decide)).trans W0_138)))))) (by omega) (by omega) (by omega) (by omega) (by omega) (by omega) (xgn (by omega) (xgn (by omega) (xgn (by omega) (xgn (by omega) (((hk _ (by omega) (by omega) (by omega) (by omega) (by omega)).trans (W0_pw (by omega)))))))) (by omega) (by omega) (by omega) (by omega) (by omega) (by omega) (xgn (by decide) (xgn (by decide) (xgn (by decide) (xgn (by decide) (((hk 154 (by decide) (by decide) (by decide) (by decide) (by decide)).trans W0_154)))))) (by omega) (by omega) (xgn (by decide) (xgn (by decide) (xgn (by decide) (xgn (by decide) (((hk 155 (by decide) (by decide) (by decide) (by decide) (by decide)).trans W0_155))))))) ?_
    refine i_180_545 (x := 128) rfl ?_
    refine i_180_546 (v := Value.ref 156) (xgn (by decide) (xgn (by decide) (xgn (by omega) (xgn (by omega) (xgn (by decide) (xgn (by decide) (xgn (by decide) (xgn (by decide) (xgn (by omega) (xgn (by decide) (xgn (by decide) (xgn (by decide) (xgs hm))))))))))))) rfl ?_
    refine i_180_549 (x := (xs 1)) rfl ?_
    refine i_180_550 (x := 1) rfl ?_
    refine i_180_552z (v := Value.int 1) (xgn (by decide) (xgn (by decide) (xgn (by omega) (xgn (by omega) (xgn (by decide) (xgn (by decide) (xgn (by decide) (xgn (by decide) (xgn (by omega) (xgn (by decide) (xgn (by decide) (xgn (by decide) (xgn (by decide) hn))))))))))))) (by omega) (by omega) (by omega) rfl ?_
    refine i_180_553 ?_
    refine i_180_565 (x := 1) rfl ?_
    refine i_180_567 (fun h => absurd h (by decide)) (fun _ => ?_)
    refine i_180_570 ?_
    refine i_180_571 ?_
    refine i_180_575 (lv2 := [(14, Value.int 1), (16, Value.int 1), (15, Value.int 0), (13, Value.int E), (12, Value.int 1), (11, Value.int 0), (10, Value.int C), (9, Value.int U), (8, Value.int E), (7, Value.int 64), (0, Value.ref 128), (1, Value.int (xs 1)), (2, Value.ref 129), (3, Value.int sc), (4, Value.int 0), (5, Value.int 1), (6, Value.int md)]) rfl ?_
    refine i_180_577 ?_
    refine i_180_591 (x := 128) rfl ?_
    refine i_180_592 (v := Value.int 0) (xgn (by decide) (xgn (by decide) (xgn (by decide) (xgn (by omega) (xgn (by omega) (xgn (by decide) (xgn (by decide) (xgn (by decide) (xgn (by decide) (xgn (by omega) (xgn (by decide) (xgn (by decide) (xgn (by decide) (xgs hm)))))))))))))) rfl ?_
    refine i_180_595 (fun h => absurd h (by decide)) (fun _ => ?_)
    refine i_180_598 (x := 128) rfl ?_
    refine i_180_599 (v := Value.int 0) (xgn (by decide) (xgn (by decide) (xgn (by decide) (xgn (by omega) (xgn (by omega) (xgn (by decide) (xgn (by decide) (xgn (by decide) (xgn (by decide) (xgn (by omega) (xgn (by decide) (xgn (by decide) (xgn (by decide) (xgs hm)))))))))))))) rfl ?_
    refine i_180_602 (fun _ => ?_) (fun h => absurd h (by decide))
    refine i_180_629 (x := 1) rfl ?_
    refine i_180_631 (fun h => absurd h (by decide)) (fun _ => ?_)
    refine i_180_634 (x := 128) rfl ?_
    refine i_180_635 rfl ?_
    refine i_180_636 (v := Value.int 4) (xgn (by decide) (xgn (by decide) (xgn (by decide) (xgn (by omega) (xgn (by omega) (xgn (by decide) (xgn (by decide) (xgn (by decide) (xgn (by decide) (xgn (by omega) (xgn (by decide) (xgn (by decide) (xgn (by decide) (xgs hm)))))))))))))) rfl ?_
    refine i_180_639 ?_
    refine i_180_640 (c := 5) (by decide) ?_
    refine i_180_641 (fs2 := [Value.ref 129, Value.ref 131, Value.ref 133, Value.ref 135, Value.ref 137, Value.ref 139, Value.ref 141, Value.ref 143, Value.ref 145, Value.ref 147, Value.ref 149, Value.ref 151, Value.ref 153, Value.ref 154, Value.ref 155, Value.ref 156, Value.ref 157, Value.int (-16384), Value.int 16384, Value.int 5, Value.int 0, Value.int 0, Value.ref 158, Value.ref 159, Value.int 0, Value.int 0, Value.int 0, Value.int 0, Value.int 0, Value.int 0, Value.int 0, Value.int 0]) (xgn (by decide) (xgn (by decide) (xgn (by decide) (xgn (by omega) (xgn (by omega) (xgn (by decide) (xgn (by decide) (xgn (by decide) (xgn (by decide) (xgn (by omega) (xgn (by decide) (xgn (by decide) (xgn (by decide) (xgs hm)))))))))))))) (Nat.le_of_ble_eq_true rfl) rfl (by omega) ?_
    refine i_180_644 (x := 1) rfl ?_
    refine i_180_646 (fun h => absurd h (by decide)) (fun _ => ?_)
    refine i_180_649 (x := 1) rfl ?_
    refine i_180_651 (c := (-1)) (by decide) ?_
    refine i_180_652 ?_
    exact i_180_657 ⟨rfl, rfl⟩
  · refine xKp.set ?_ (fun h hh => by unfold xPM at hh; omega) (xgn (by decide) (xgn (by decide) (xgn (by decide) (xgn (by omega) (xgn (by omega) (xgn (by decide) (xgn (by decide) (xgn (by decide) (xgn (by decide) (xgn (by omega) (xgn (by decide) (xgn (by decide) (xgn (by decide) (xgs hm)))))))))))))) xcs_o
    refine xKp.set ?_ (fun h hh => by unfold xPM at hh; omega) (xgn (by decide) (xgn (by decide) (xgn (by omega) (xgn (by omega) (xgn (by decide) (xgn (by decide) (xgn (by decide) (xgn (by decide) (xgn (by omega) (xgn (by decide) (xgn (by decide) (xgn (by decide) (xgn (by decide) hn))))))))))))) xcs_a
    refine xKp.set ?_ (fun h hh => by unfold xPM at hh; omega) (xgn (by decide) (xgn (by omega) (xgn (by omega) (xgn (by decide) (xgn (by decide) (xgn (by decide) (xgn (by decide) (xgn (by omega) (xgn (by decide) (xgn (by decide) (xgn (by decide) (xgn (by decide) (((hk 155 (by decide) (by decide) (by decide) (by decide) (by decide)).trans W0_155)))))))))))))) xcs_a
    refine xKp.set ?_ (fun h hh => by unfold xPM at hh; omega) (xgn (by omega) (xgn (by omega) (xgn (by decide) (xgn (by decide) (xgn (by decide) (xgn (by decide) (xgn (by omega) (xgn (by decide) (xgn (by decide) (xgn (by decide) (xgn (by decide) (((hk 154 (by decide) (by decide) (by decide) (by decide) (by decide)).trans W0_154))))))))))))) xcs_a
    refine xKp.set ?_ (fun h hh => by unfold xPM at hh; omega) (xgn (by omega) (xgn (by omega) (xgn (by omega) (xgn (by omega) (xgn (by omega) (xgs (xgn (by omega) (xgn (by omega) (xgn (by omega) (xgn (by omega) (((hk _ (by omega) (by omega) (by omega) (by omega) (by omega)).trans (W0_part (by omega)))))))))))))) xcs_o
    refine xKp.set ?_ (fun h hh => by unfold xPM at hh; omega) (xgn (by omega) (xgn (by omega) (xgn (by omega) (xgn (by omega) (xgn (by omega) (xgn (by omega) (xgn (by omega) (xgn (by omega) (xgn (by omega) (((hk _ (by omega) (by omega) (by omega) (by omega) (by omega)).trans (W0_pw (by omega))))))))))))) xcs_a
    refine xKp.set ?_ (fun h hh => by unfold xPM at hh; omega) (xgn (by decide) (xgs (xgn (by decide) (xgn (by omega) (xgn (by decide) (xgn (by decide) (xgn (by decide) (xgn (by decide) (((hk 137 (by decide) (by decide) (by decide) (by decide) (by decide)).trans W0_137)))))))))) xcs_o
    refine xKp.set ?_ (fun h hh => by unfold xPM at hh; omega) (xgn (by decide) (xgs (xgn (by omega) (xgn (by decide) (xgn (by decide) (xgn (by decide) (xgn (by decide) (((hk 138 (by decide) (by decide) (by decide) (by decide) (by decide)).trans W0_138))))))))) xcs_a
    refine xKp.set ?_ (fun h hh => by unfold xPM at hh; omega) (xgn (by decide) (xgn (by omega) (xgn (by decide) (xgn (by decide) (xgn (by decide) (xgn (by decide) (((hk 137 (by decide) (by decide) (by decide) (by decide) (by decide)).trans W0_137)))))))) xcs_o
    refine xKp.set ?_ (fun h hh => by unfold xPM at hh; omega) (xgn (by omega) (xgn (by decide) (xgn (by decide) (xgn (by decide) (xgn (by decide) (((hk 138 (by decide) (by decide) (by decide) (by decide) (by decide)).trans W0_138))))))) xcs_a
    refine xKp.set ?_ (fun h hh => by unfold xPM at hh; omega) (xgn (by omega) (xgn (by omega) (xgn (by omega) (xgn (by omega) (((hk _ (by omega) (by omega) (by omega) (by omega) (by omega)).trans (W0_part (by omega)))))))) xcs_o
    refine xKp.set ?_ (fun h hh => by unfold xPM at hh; omega) (xgn (by decide) (xgs (xgn (by decide) (((hk 151 (by decide) (by decide) (by decide) (by decide) (by decide)).trans W0_151))))) xcs_o
    refine xKp.set ?_ (fun h hh => by unfold xPM at hh; omega) (xgn (by decide) (xgn (by decide) (((hk 152 (by decide) (by decide) (by decide) (by decide) (by decide)).trans W0_152)))) xcs_a
    refine xKp.set ?_ (fun h hh => by unfold xPM at hh; omega) (xgn (by decide) (((hk 151 (by decide) (by decide) (by decide) (by decide) (by decide)).trans W0_151))) xcs_o
    refine xKp.set ?_ (fun h hh => by unfold xPM at hh; omega) (hm) xcs_o
    exact xKp.refl
theorem s_171_3 {d : Nat} {w : xW} {a0 : Int32} {g0 : Nat → Value} (hw0 : w[128]? = some (Sum.inr (12, [Value.ref 129, Value.ref 131, Value.ref 133, Value.ref 135, Value.ref 137, Value.ref 139, Value.ref 141, Value.ref 143, Value.ref 145, Value.ref 147, Value.ref 149, Value.ref 151, Value.ref 153, Value.ref 154, Value.ref 155, Value.ref 156, Value.ref 157, Value.int (-16384), Value.int 16384, Value.int 4, Value.int 0, Value.int 0, Value.ref 158, Value.ref 159, Value.int 0, Value.int 0, Value.int 0, Value.int 0, Value.int 0, Value.int 0, Value.int 0, Value.int 0]))) (hw1 : w[154]? = some (Sum.inl (0, 17, fun _ => Value.int 0))) (e2 : 0 ≤ a0.toInt) (e3 : a0.toInt < 17) (hw4 : w[156]? = some (Sum.inl (2, 17, g0))) : xRun d 171 [Value.ref 128, Value.int a0, Value.int 2, Value.int 1] w (.inl (some (Value.int 0))) ((w.set 154 (Sum.inl (0, 17, xup (fun _ => Value.int 0) a0.toInt.toNat (Value.int 2)))).set 156 (Sum.inl (2, 17, xup g0 a0.toInt.toNat (Value.int 1)))) := by
  refine xRun.of ?_
  refine i_171_0 (x := 128) rfl ?_
  refine i_171_1 (v := Value.ref 154) hw0 rfl ?_
  refine i_171_4 (x := a0) rfl ?_
  refine i_171_5 (x := 2) rfl ?_
  refine i_171_6 (v := Value.int 2) hw1 e2 e3 (by decide) rfl ?_
  refine i_171_7 (x := 128) rfl ?_
  refine i_171_8 (v := Value.ref 156) (xgn (by decide) hw0) rfl ?_
  refine i_171_11 (x := a0) rfl ?_
  refine i_171_12 (x := 1) rfl ?_
  refine i_171_13z (v := Value.int 1) (xgn (by decide) hw4) e2 e3 (by decide) rfl ?_
  refine i_171_14 ?_
  exact i_171_15 ⟨rfl, rfl⟩
theorem sf1_6 {d : Nat} {xs : Nat → Int32} {m : Int64} {sc md : Int32} {w : xW} {B E U C q0 q1 q2 nn : Int32} {g : Nat → Value} (hk : ∀ h, 131 ≤ h → h < 194 → h ≠ 135 → h ≠ 136 → h ≠ 156 → w[h]? = (W0 6 xs)[h]?) (hm : w[128]? = some (Sum.inr (12, [Value.ref 129, Value.ref 131, Value.ref 133, Value.ref 135, Value.ref 137, Value.ref 139, Value.ref 141, Value.ref 143, Value.ref 145, Value.ref 147, Value.ref 149, Value.ref 151, Value.ref 153, Value.ref 154, Value.ref 155, Value.ref 156, Value.ref 157, Value.int (-16384), Value.int 16384, Value.int 0, Value.int 0, Value.int 0, Value.ref 158, Value.ref 159, Value.int 0, Value.int 0, Value.int 0, Value.int 0, Value.int 0, Value.int 0, Value.int 0, Value.int 0]))) (hv : w[129]? = some (Sum.inr (13, [Value.ref 130, Value.int nn]))) (hq : w[135]? = some (Sum.inr (13, [Value.ref 136, Value.int 3]))) (hqw : w[136]? = some (Sum.inl (0, 4700, g))) (hg0 : g (0 : Int32).toInt.toNat = Value.int q0) (hg1 : g (1 : Int32).toInt.toNat = Value.int q1) (hg2 : g (2 : Int32).toInt.toNat = Value.int q2) (hn : w[156]? = some (Sum.inl (2, 17, xup (fun _ => Value.int 0) (xs 1).toInt.toNat (Value.int 1)))) (hbits : ∀ (d' : Nat) (w' : xW), w'[129]? = w[129]? → w'[130]? = w[130]? → xRun d' 181 [Value.ref 129] w' (.inl (some (Value.int B))) w') (hany0 : xPW m → ∀ (d' : Nat) (w' : xW), w'[129]? = w[129]? → w'[130]? = w[130]? → xRun d' 183 [Value.ref 129, Value.int (B - (1 : Int32))] w' (.inl (some (Value.int 0))) w') (hany1 : ¬ xPW m → ∀ (d' : Nat) (w' : xW), w'[129]? = w[129]? → w'[130]? = w[130]? → xRun d' 183 [Value.ref 129, Value.int (B - (1 : Int32))] w' (.inl (some (Value.int 1))) w') (c0 : 0 ≤ (xs 1).toInt) (c1 : (xs 1).toInt < 16) (c2 : (-40000) ≤ sc.toInt) (c3 : sc.toInt ≤ 40000) (c4 : 0 ≤ md.toInt) (c5 : md.toInt ≤ 4) (c6 : 1 ≤ B.toInt) (c7 : B.toInt ≤ 64) (c8 : E.toInt = B.toInt + sc.toInt) (c9 : U.toInt = E.toInt - 64) (c10 : 0 ≤ q2.toInt) (c11 : (xbn q2).toInt = 4) (c12 : E.toInt ≤ 16384) (c13 : E.toInt < (-16384)) (c14 : E.toInt = (-16385)) (c15 : xPW m) (c16 : md.toInt ≠ 4) (c17 : md.toInt = 2) : ∃ w2, xEv (d + 6) 180 207 [(14, Value.int 0), (13, Value.int E), (12, Value.int 1), (11, Value.int 0), (10, Value.int C), (9, Value.int U), (8, Value.int E), (7, Value.int 64), (0, Value.ref 128), (1, Value.int (xs 1)), (2, Value.ref 129), (3, Value.int sc), (4, Value.int 0), (5, Value.int 1), (6, Value.int md)] [] w (fun o' w' => o' = .inl (some (Value.int 1)) ∧ w' = w2) ∧ xKp w w2 xPM ∧ w2[128]? = some (Sum.inr (12, [Value.ref 129, Value.ref 131, Value.ref 133, Value.ref 135, Value.ref 137, Value.ref 139, Value.ref 141, Value.ref 143, Value.ref 145, Value.ref 147, Value.ref 149, Value.ref 151, Value.ref 153, Value.ref 154, Value.ref 155, Value.ref 156, Value.ref 157, Value.int (-16384), Value.int 16384, Value.int 5, Value.int 0, Value.int 0, Value.ref 158, Value.ref 159, Value.int 0, Value.int 0, Value.int 0, Value.int 0, Value.int 0, Value.int 0, Value.int 0, Value.int 0])) := by
  refine ⟨((((w.set 128 (Sum.inr (12, [Value.ref 129, Value.ref 131, Value.ref 133, Value.ref 135, Value.ref 137, Value.ref 139, Value.ref 141, Value.ref 143, Value.ref 145, Value.ref 147, Value.ref 149, Value.ref 151, Value.ref 153, Value.ref 154, Value.ref 155, Value.ref 156, Value.ref 157, Value.int (-16384), Value.int 16384, Value.int 4, Value.int 0, Value.int 0, Value.ref 158, Value.ref 159, Value.int 0, Value.int 0, Value.int 0, Value.int 0, Value.int 0, Value.int 0, Value.int 0, Value.int 0]))).set 154 (Sum.inl (0, 17, xup (fun _ => Value.int 0) (xs 1).toInt.toNat (Value.int 2)))).set 156 (Sum.inl (2, 17, xup (xup (fun _ => Value.int 0) (xs 1).toInt.toNat (Value.int 1)) (xs 1).toInt.toNat (Value.int 1)))).set 128 (Sum.inr (12, [Value.ref 129, Value.ref 131, Value.ref 133, Value.ref 135, Value.ref 137, Value.ref 139, Value.ref 141, Value.ref 143, Value.ref 145, Value.ref 147, Value.ref 149, Value.ref 151, Value.ref 153, Value.ref 154, Value.ref 155, Value.ref 156, Value.ref 157, Value.int (-16384), Value.int 16384, Value.int 5, Value.int 0, Value.int 0, Value.ref 158, Value.ref 159, Value.int 0, Value.int 0, Value.int 0, Value.int 0, Value.int 0, Value.int 0, Value.int 0, Value.int 0]))), ?_, ?_, xgs (xgn (by decide) (xgn (by decide) (xgs hm)))⟩
  · refine i_180_207 (x := 128) rfl ?_
    refine i_180_208 (v := Value.int 0) hm rfl ?_
    refine i_180_211 (fun h => absurd h (by decide)) (fun _ => ?_)
    refine i_180_214 (x := 128) rfl ?_
    refine i_180_215 (v := Value.ref 135) hm rfl ?_
    refine i_180_218 (v := Value.int 3) hq rfl ?_
    refine i_180_221 (fun h => absurd h (by decide)) (fun _ => ?_)
    refine i_180_224 (x := E) rfl ?_
    refine i_180_226 (x := 128) rfl ?_
    refine i_180_227 (v := Value.int 16384) hm rfl ?_
    refine i_180_230 (fun _ => ?_) (fun h => absurd (show E.toInt ≤ 16384 by omega) (Int.not_le.mpr h))
    refine i_180_367 (x := 128) rfl ?_
    refine i_180_368 (v := Value.ref 135) hm rfl ?_
    refine i_180_371 (v := Value.int 3) hq rfl ?_
    refine i_180_374 (fun _ => ?_) (fun h => absurd h (by decide))
    refine i_180_392 (x := 128) rfl ?_
    refine i_180_393 (v := Value.int 0) hm rfl ?_
    refine i_180_396 (fun h => absurd h (by decide)) (fun _ => ?_)
    refine i_180_399 (x := 128) rfl ?_
    refine i_180_400 (v := Value.int 0) hm rfl ?_
    refine i_180_403 (fun h => absurd h (by decide)) (fun _ => ?_)
    refine i_180_406 (x := E) rfl ?_
    refine i_180_408 (x := 128) rfl ?_
    refine i_180_409 (v := Value.int (-16384)) hm rfl ?_
    refine i_180_412 (fun h => absurd (show E.toInt < (-16384) by omega) (Int.not_lt.mpr h)) (fun _ => ?_)
    refine i_180_415 (x := 128) rfl ?_
    refine i_180_416 rfl ?_
    refine i_180_417 (v := Value.int 0) hm rfl ?_
    refine i_180_420 ?_
    refine i_180_421 (c := 4) (by decide) ?_
    refine i_180_422 (fs2 := [Value.ref 129, Value.ref 131, Value.ref 133, Value.ref 135, Value.ref 137, Value.ref 139, Value.ref 141, Value.ref 143, Value.ref 145, Value.ref 147, Value.ref 149, Value.ref 151, Value.ref 153, Value.ref 154, Value.ref 155, Value.ref 156, Value.ref 157, Value.int (-16384), Value.int 16384, Value.int 4, Value.int 0, Value.int 0, Value.ref 158, Value.ref 159, Value.int 0, Value.int 0, Value.int 0, Value.int 0, Value.int 0, Value.int 0, Value.int 0, Value.int 0]) hm (Nat.le_of_ble_eq_true rfl) rfl (by omega) ?_
    refine i_180_425 (x := E) rfl ?_
    refine i_180_427 (x := 128) rfl ?_
    refine i_180_428 (v := Value.int (-16384)) (xgs hm) rfl ?_
    refine i_180_431 ?_
    refine i_180_432 (c := (-16385)) (by decide) ?_
    refine i_180_433 (fun h => absurd (show E.toInt ≤ (-16385) by omega) (Int.not_le.mpr h)) (fun _ => ?_)
    refine i_180_436 (x := E) rfl ?_
    refine i_180_438 (x := 128) rfl ?_
    refine i_180_439 (v := Value.int (-16384)) (xgs hm) rfl ?_
    refine i_180_442 ?_
    refine i_180_443 (c := (-16385)) (by decide) ?_
    refine i_180_444 (fun h => absurd (show E.toInt = (-16385) by omega) h) (fun _ => ?_)
    refine i_180_447 (x := 0) rfl ?_
    refine i_180_449 (fun h => absurd h (by decide)) (fun _ => ?_)
    refine i_180_452 (x := 129) rfl ?_
    refine i_180_453 (x := 129) rfl ?_
    refine i_180_454 (xgn (by decide) hv) (Nat.le_of_ble_eq_true rfl) (hbits _ _ (xgn (by omega) (rfl)) (xgn (by omega) (rfl))) ?_
    refine i_180_457 ?_
    refine i_180_458 (c := (B - (1 : Int32))) rfl ?_
    refine i_180_459 (xgn (by decide) hv) (Nat.le_of_ble_eq_true rfl) (hany0 c15 _ _ (xgn (by omega) (rfl)) (xgn (by omega) (rfl))) ?_
    refine i_180_462 (fun _ => ?_) (fun h => absurd h (by decide))
    refine i_180_469 ?_
    refine i_180_470 (lv2 := [(15, Value.int 0), (14, Value.int 0), (13, Value.int E), (12, Value.int 1), (11, Value.int 0), (10, Value.int C), (9, Value.int U), (8, Value.int E), (7, Value.int 64), (0, Value.ref 128), (1, Value.int (xs 1)), (2, Value.ref 129), (3, Value.int sc), (4, Value.int 0), (5, Value.int 1), (6, Value.int md)]) rfl ?_
    refine i_180_472 (x := md) rfl ?_
    refine i_180_474 ?_
    refine i_180_475 (fun h => absurd (show md.toInt ≠ 4 by omega) (fun g => g h)) (fun _ => ?_)
    refine i_180_478 (x := md) rfl ?_
    refine i_180_480 ?_
    refine i_180_481 (fun h => absurd (show md.toInt = 2 by omega) h) (fun _ => ?_)
    refine i_180_484 (x := 1) rfl ?_
    refine i_180_486 (fun h => absurd h (by decide)) (fun _ => ?_)
    refine i_180_489 (x := md) rfl ?_
    refine i_180_491 ?_
    refine i_180_492 (fun _ => ?_) (fun h => absurd (show md.toInt ≠ 3 by omega) (fun g => g h))
    refine i_180_500 (x := md) rfl ?_
    refine i_180_502 (fun _ => ?_) (fun h => absurd (show md.toInt ≠ 0 by omega) (fun g => g h))
    refine i_180_514 ?_
    refine i_180_515 (lv2 := [(16, Value.int 0), (15, Value.int 0), (14, Value.int 0), (13, Value.int E), (12, Value.int 1), (11, Value.int 0), (10, Value.int C), (9, Value.int U), (8, Value.int E), (7, Value.int 64), (0, Value.ref 128), (1, Value.int (xs 1)), (2, Value.ref 129), (3, Value.int sc), (4, Value.int 0), (5, Value.int 1), (6, Value.int md)]) rfl ?_
    refine i_180_517 (x := 0) rfl ?_
    refine i_180_519 (fun _ => ?_) (fun h => absurd h (by decide))
    refine i_180_556 (x := 128) rfl ?_
    refine i_180_557 (x := (xs 1)) rfl ?_
    refine i_180_558 ?_
    refine i_180_559 (x := 1) rfl ?_
    refine i_180_561 (xgs hm) (Nat.le_of_ble_eq_true rfl) (s_171_3 (xgs hm) (xgn (by decide) (((hk 154 (by decide) (by decide) (by decide) (by decide) (by decide)).trans W0_154))) (by omega) (by omega) (xgn (by decide) hn)) ?_
    refine i_180_564 rfl ?_
    refine i_180_565 (x := 0) rfl ?_
    refine i_180_567 (fun _ => ?_) (fun h => absurd h (by decide))
    refine i_180_574 ?_
    refine i_180_575 (lv2 := [(14, Value.int (-1)), (16, Value.int 0), (15, Value.int 0), (13, Value.int E), (12, Value.int 1), (11, Value.int 0), (10, Value.int C), (9, Value.int U), (8, Value.int E), (7, Value.int 64), (0, Value.ref 128), (1, Value.int (xs 1)), (2, Value.ref 129), (3, Value.int sc), (4, Value.int 0), (5, Value.int 1), (6, Value.int md)]) rfl ?_
    refine i_180_577 ?_
    refine i_180_591 (x := 128) rfl ?_
    refine i_180_592 (v := Value.int 0) (xgn (by decide) (xgn (by decide) (xgs hm))) rfl ?_
    refine i_180_595 (fun h => absurd h (by decide)) (fun _ => ?_)
    refine i_180_598 (x := 128) rfl ?_
    refine i_180_599 (v := Value.int 0) (xgn (by decide) (xgn (by decide) (xgs hm))) rfl ?_
    refine i_180_602 (fun _ => ?_) (fun h => absurd h (by decide))
    refine i_180_629 (x := (-1)) rfl ?_
    refine i_180_631 (fun h => absurd h (by decide)) (fun _ => ?_)
    refine i_180_634 (x := 128) rfl ?_
    refine i_180_635 rfl ?_
    refine i_180_636 (v := Value.int 4) (xgn (by decide) (xgn (by decide) (xgs hm))) rfl ?_
    refine i_180_639 ?_
    refine i_180_640 (c := 5) (by decide) ?_
    refine i_180_641 (fs2 := [Value.ref 129, Value.ref 131, Value.ref 133, Value.ref 135, Value.ref 137, Value.ref 139, Value.ref 141, Value.ref 143, Value.ref 145, Value.ref 147, Value.ref 149, Value.ref 151, Value.ref 153, Value.ref 154, Value.ref 155, Value.ref 156, Value.ref 157, Value.int (-16384), Value.int 16384, Value.int 5, Value.int 0, Value.int 0, Value.ref 158, Value.ref 159, Value.int 0, Value.int 0, Value.int 0, Value.int 0, Value.int 0, Value.int 0, Value.int 0, Value.int 0]) (xgn (by decide) (xgn (by decide) (xgs hm))) (Nat.le_of_ble_eq_true rfl) rfl (by omega) ?_
    refine i_180_644 (x := 1) rfl ?_
    refine i_180_646 (fun h => absurd h (by decide)) (fun _ => ?_)
    refine i_180_649 (x := (-1)) rfl ?_
    refine i_180_651 (c := 1) (by decide) ?_
    refine i_180_652 ?_
    exact i_180_657 ⟨rfl, rfl⟩
  · refine xKp.set ?_ (fun h hh => by unfold xPM at hh; omega) (xgn (by decide) (xgn (by decide) (xgs hm))) xcs_o
    refine xKp.set ?_ (fun h hh => by unfold xPM at hh; omega) (xgn (by decide) (xgn (by decide) hn)) xcs_a
    refine xKp.set ?_ (fun h hh => by unfold xPM at hh; omega) (xgn (by decide) (((hk 154 (by decide) (by decide) (by decide) (by decide) (by decide)).trans W0_154))) xcs_a
    refine xKp.set ?_ (fun h hh => by unfold xPM at hh; omega) (hm) xcs_o
    exact xKp.refl
theorem sf1_7 {d : Nat} {xs : Nat → Int32} {m : Int64} {sc md : Int32} {w : xW} {B E U C q0 q1 q2 nn : Int32} {g : Nat → Value} (hk : ∀ h, 131 ≤ h → h < 194 → h ≠ 135 → h ≠ 136 → h ≠ 156 → w[h]? = (W0 6 xs)[h]?) (hm : w[128]? = some (Sum.inr (12, [Value.ref 129, Value.ref 131, Value.ref 133, Value.ref 135, Value.ref 137, Value.ref 139, Value.ref 141, Value.ref 143, Value.ref 145, Value.ref 147, Value.ref 149, Value.ref 151, Value.ref 153, Value.ref 154, Value.ref 155, Value.ref 156, Value.ref 157, Value.int (-16384), Value.int 16384, Value.int 0, Value.int 0, Value.int 0, Value.ref 158, Value.ref 159, Value.int 0, Value.int 0, Value.int 0, Value.int 0, Value.int 0, Value.int 0, Value.int 0, Value.int 0]))) (hv : w[129]? = some (Sum.inr (13, [Value.ref 130, Value.int nn]))) (hq : w[135]? = some (Sum.inr (13, [Value.ref 136, Value.int 3]))) (hqw : w[136]? = some (Sum.inl (0, 4700, g))) (hg0 : g (0 : Int32).toInt.toNat = Value.int q0) (hg1 : g (1 : Int32).toInt.toNat = Value.int q1) (hg2 : g (2 : Int32).toInt.toNat = Value.int q2) (hn : w[156]? = some (Sum.inl (2, 17, xup (fun _ => Value.int 0) (xs 1).toInt.toNat (Value.int 1)))) (hbits : ∀ (d' : Nat) (w' : xW), w'[129]? = w[129]? → w'[130]? = w[130]? → xRun d' 181 [Value.ref 129] w' (.inl (some (Value.int B))) w') (hany0 : xPW m → ∀ (d' : Nat) (w' : xW), w'[129]? = w[129]? → w'[130]? = w[130]? → xRun d' 183 [Value.ref 129, Value.int (B - (1 : Int32))] w' (.inl (some (Value.int 0))) w') (hany1 : ¬ xPW m → ∀ (d' : Nat) (w' : xW), w'[129]? = w[129]? → w'[130]? = w[130]? → xRun d' 183 [Value.ref 129, Value.int (B - (1 : Int32))] w' (.inl (some (Value.int 1))) w') (c0 : 0 ≤ (xs 1).toInt) (c1 : (xs 1).toInt < 16) (c2 : (-40000) ≤ sc.toInt) (c3 : sc.toInt ≤ 40000) (c4 : 0 ≤ md.toInt) (c5 : md.toInt ≤ 4) (c6 : 1 ≤ B.toInt) (c7 : B.toInt ≤ 64) (c8 : E.toInt = B.toInt + sc.toInt) (c9 : U.toInt = E.toInt - 64) (c10 : 0 ≤ q2.toInt) (c11 : (xbn q2).toInt = 4) (c12 : E.toInt ≤ 16384) (c13 : E.toInt < (-16384)) (c14 : E.toInt = (-16385)) (c15 : xPW m) (c16 : md.toInt ≠ 4) (c17 : md.toInt ≠ 2) (c18 : md.toInt = 3) : ∃ w2, xEv (d + 6) 180 207 [(14, Value.int 0), (13, Value.int E), (12, Value.int 1), (11, Value.int 0), (10, Value.int C), (9, Value.int U), (8, Value.int E), (7, Value.int 64), (0, Value.ref 128), (1, Value.int (xs 1)), (2, Value.ref 129), (3, Value.int sc), (4, Value.int 0), (5, Value.int 1), (6, Value.int md)] [] w (fun o' w' => o' = .inl (some (Value.int (-1))) ∧ w' = w2) ∧ xKp w w2 xPM ∧ w2[128]? = some (Sum.inr (12, [Value.ref 129, Value.ref 131, Value.ref 133, Value.ref 135, Value.ref 137, Value.ref 139, Value.ref 141, Value.ref 143, Value.ref 145, Value.ref 147, Value.ref 149, Value.ref 151, Value.ref 153, Value.ref 154, Value.ref 155, Value.ref 156, Value.ref 157, Value.int (-16384), Value.int 16384, Value.int 5, Value.int 0, Value.int 0, Value.ref 158, Value.ref 159, Value.int 0, Value.int 0, Value.int 0, Value.int 0, Value.int 0, Value.int 0, Value.int 0, Value.int 0])) := by
  refine ⟨(((((((((((((((w.set 128 (Sum.inr (12, [Value.ref 129, Value.ref 131, Value.ref 133, Value.ref 135, Value.ref 137, Value.ref 139, Value.ref 141, Value.ref 143, Value.ref 145, Value.ref 147, Value.ref 149, Value.ref 151, Value.ref 153, Value.ref 154, Value.ref 155, Value.ref 156, Value.ref 157, Value.int (-16384), Value.int 16384, Value.int 4, Value.int 0, Value.int 0, Value.ref 158, Value.ref 159, Value.int 0, Value.int 0, Value.int 0, Value.int 0, Value.int 0, Value.int 0, Value.int 0, Value.int 0]))).set 151 (Sum.inr (13, [Value.ref 152, Value.int 0]))).set 152 (Sum.inl (0, 4700, xup (fun _ => Value.int 0) (0 : Int32).toInt.toNat (Value.int 1)))).set 151 (Sum.inr (13, [Value.ref 152, Value.int 1]))).set (160 + 2 * (xs 1).toInt.toNat) (Sum.inr (13, [Value.ref (161 + 2 * (xs 1).toInt.toNat), Value.int 0]))).set 138 (Sum.inl (0, 4700, xcp (xup (fun _ => Value.int 0) (0 : Int32).toInt.toNat (Value.int 1)) (fun _ => Value.int 0) (0 : Int32).toInt.toNat (0 : Int32).toInt.toNat (1 : Int32).toInt.toNat))).set 137 (Sum.inr (13, [Value.ref 138, Value.int 1]))).set 138 (Sum.inl (0, 4700, xup (xup (xup (xup (xup (xcp (xup (fun _ => Value.int 0) (0 : Int32).toInt.toNat (Value.int 1)) (fun _ => Value.int 0) (0 : Int32).toInt.toNat (0 : Int32).toInt.toNat (1 : Int32).toInt.toNat) (3 : Int32).toInt.toNat (Value.int 0)) (3 : Int32).toInt.toNat (Value.int 0)) (2 : Int32).toInt.toNat (Value.int 8)) (0 : Int32).toInt.toNat (Value.int 0)) (1 : Int32).toInt.toNat (Value.int 0)))).set 137 (Sum.inr (13, [Value.ref 138, Value.int 3]))).set (161 + 2 * (xs 1).toInt.toNat) (Sum.inl (0, 140, xcp (xup (xup (xup (xup (xup (xcp (xup (fun _ => Value.int 0) (0 : Int32).toInt.toNat (Value.int 1)) (fun _ => Value.int 0) (0 : Int32).toInt.toNat (0 : Int32).toInt.toNat (1 : Int32).toInt.toNat) (3 : Int32).toInt.toNat (Value.int 0)) (3 : Int32).toInt.toNat (Value.int 0)) (2 : Int32).toInt.toNat (Value.int 8)) (0 : Int32).toInt.toNat (Value.int 0)) (1 : Int32).toInt.toNat (Value.int 0)) (fun _ => Value.int 0) (0 : Int32).toInt.toNat (0 : Int32).toInt.toNat (3 : Int32).toInt.toNat))).set (160 + 2 * (xs 1).toInt.toNat) (Sum.inr (13, [Value.ref (161 + 2 * (xs 1).toInt.toNat), Value.int 3]))).set 154 (Sum.inl (0, 17, xup (fun _ => Value.int 0) (xs 1).toInt.toNat (Value.int 3)))).set 155 (Sum.inl (0, 17, xup (fun _ => Value.int 0) (xs 1).toInt.toNat (Value.int (-16384))))).set 156 (Sum.inl (2, 17, xup (xup (fun _ => Value.int 0) (xs 1).toInt.toNat (Value.int 1)) (xs 1).toInt.toNat (Value.int 1)))).set 128 (Sum.inr (12, [Value.ref 129, Value.ref 131, Value.ref 133, Value.ref 135, Value.ref 137, Value.ref 139, Value.ref 141, Value.ref 143, Value.ref 145, Value.ref 147, Value.ref 149, Value.ref 151, Value.ref 153, Value.ref 154, Value.ref 155, Value.ref 156, Value.ref 157, Value.int (-16384), Value.int 16384, Value.int 5, Value.int 0, Value.int 0, Value.ref 158, Value.ref 159, Value.int 0, Value.int 0, Value.int 0, Value.int 0, Value.int 0, Value.int 0, Value.int 0, Value.int 0]))), ?_, ?_, xgs (xgn (by decide) (xgn (by decide) (xgn (by decide) (xgn (by omega) (xgn (by omega) (xgn (by decide) (xgn (by decide) (xgn (by decide) (xgn (by decide) (xgn (by omega) (xgn (by decide) (xgn (by decide) (xgn (by decide) (xgs hm))))))))))))))⟩
  · refine i_180_207 (x := 128) rfl ?_
    refine i_180_208 (v := Value.int 0) hm rfl ?_
    refine i_180_211 (fun h => absurd h (by decide)) (fun _ => ?_)
    refine i_180_214 (x := 128) rfl ?_
    refine i_180_215 (v := Value.ref 135) hm rfl ?_
    refine i_180_218 (v := Value.int 3) hq rfl ?_
    refine i_180_221 (fun h => absurd h (by decide)) (fun _ => ?_)
    refine i_180_224 (x := E) rfl ?_
    refine i_180_226 (x := 128) rfl ?_
    refine i_180_227 (v := Value.int 16384) hm rfl ?_
    refine i_180_230 (fun _ => ?_) (fun h => absurd (show E.toInt ≤ 16384 by omega) (Int.not_le.mpr h))
    refine i_180_367 (x := 128) rfl ?_
    refine i_180_368 (v := Value.ref 135) hm rfl ?_
    refine i_180_371 (v := Value.int 3) hq rfl ?_
    refine i_180_374 (fun _ => ?_) (fun h => absurd h (by decide))
    refine i_180_392 (x := 128) rfl ?_
    refine i_180_393 (v := Value.int 0) hm rfl ?_
    refine i_180_396 (fun h => absurd h (by decide)) (fun _ => ?_)
    refine i_180_399 (x := 128) rfl ?_
    refine i_180_400 (v := Value.int 0) hm rfl ?_
    refine i_180_403 (fun h => absurd h (by decide)) (fun _ => ?_)
    refine i_180_406 (x := E) rfl ?_
    refine i_180_408 (x := 128) rfl ?_
    refine i_180_409 (v := Value.int (-16384)) hm rfl ?_
    refine i_180_412 (fun h => absurd (show E.toInt < (-16384) by omega) (Int.not_lt.mpr h)) (fun _ => ?_)
    refine i_180_415 (x := 128) rfl ?_
    refine i_180_416 rfl ?_
    refine i_180_417 (v := Value.int 0) hm rfl ?_
    refine i_180_420 ?_
    refine i_180_421 (c := 4) (by decide) ?_
    refine i_180_422 (fs2 := [Value.ref 129, Value.ref 131, Value.ref 133, Value.ref 135, Value.ref 137, Value.ref 139, Value.ref 141, Value.ref 143, Value.ref 145, Value.ref 147, Value.ref 149, Value.ref 151, Value.ref 153, Value.ref 154, Value.ref 155, Value.ref 156, Value.ref 157, Value.int (-16384), Value.int 16384, Value.int 4, Value.int 0, Value.int 0, Value.ref 158, Value.ref 159, Value.int 0, Value.int 0, Value.int 0, Value.int 0, Value.int 0, Value.int 0, Value.int 0, Value.int 0]) hm (Nat.le_of_ble_eq_true rfl) rfl (by omega) ?_
    refine i_180_425 (x := E) rfl ?_
    refine i_180_427 (x := 128) rfl ?_
    refine i_180_428 (v := Value.int (-16384)) (xgs hm) rfl ?_
    refine i_180_431 ?_
    refine i_180_432 (c := (-16385)) (by decide) ?_
    refine i_180_433 (fun h => absurd (show E.toInt ≤ (-16385) by omega) (Int.not_le.mpr h)) (fun _ => ?_)
    refine i_180_436 (x := E) rfl ?_
    refine i_180_438 (x := 128) rfl ?_
    refine i_180_439 (v := Value.int (-16384)) (xgs hm) rfl ?_
    refine i_180_442 ?_
    refine i_180_443 (c := (-16385)) (by decide) ?_
    refine i_180_444 (fun h => absurd (show E.toInt = (-16385) by omega) h) (fun _ => ?_)
    refine i_180_447 (x := 0) rfl ?_
    refine i_180_449 (fun h => absurd h (by decide)) (fun _ => ?_)
    refine i_180_452 (x := 129) rfl ?_
    refine i_180_453 (x := 129) rfl ?_
    refine i_180_454 (xgn (by decide) hv) (Nat.le_of_ble_eq_true rfl) (hbits _ _ (xgn (by omega) (rfl)) (xgn (by omega) (rfl))) ?_
    refine i_180_457 ?_
    refine i_180_458 (c := (B - (1 : Int32))) rfl ?_
    refine i_180_459 (xgn (by decide) hv) (Nat.le_of_ble_eq_true rfl) (hany0 c15 _ _ (xgn (by omega) (rfl)) (xgn (by omega) (rfl))) ?_
    refine i_180_462 (fun _ => ?_) (fun h => absurd h (by decide))
    refine i_180_469 ?_
    refine i_180_470 (lv2 := [(15, Value.int 0), (14, Value.int 0), (13, Value.int E), (12, Value.int 1), (11, Value.int 0), (10, Value.int C), (9, Value.int U), (8, Value.int E), (7, Value.int 64), (0, Value.ref 128), (1, Value.int (xs 1)), (2, Value.ref 129), (3, Value.int sc), (4, Value.int 0), (5, Value.int 1), (6, Value.int md)]) rfl ?_
    refine i_180_472 (x := md) rfl ?_
    refine i_180_474 ?_
    refine i_180_475 (fun h => absurd (show md.toInt ≠ 4 by omega) (fun g => g h)) (fun _ => ?_)
    refine i_180_478 (x := md) rfl ?_
    refine i_180_480 ?_
    refine i_180_481 (fun _ => ?_) (fun h => absurd (show md.toInt ≠ 2 by omega) (fun g => g h))
    refine i_180_489 (x := md) rfl ?_
    refine i_180_491 ?_
    refine i_180_492 (fun h => absurd (show md.toInt = 3 by omega) h) (fun _ => ?_)
    refine i_180_495 (x := 1) rfl ?_
    refine i_180_497 (fun _ => ?_) (fun h => absurd h (by decide))
    refine i_180_510 ?_
    refine i_180_511 ?_
    refine i_180_515 (lv2 := [(16, Value.int 1), (15, Value.int 0), (14, Value.int 0), (13, Value.int E), (12, Value.int 1), (11, Value.int 0), (10, Value.int C), (9, Value.int U), (8, Value.int E), (7, Value.int 64), (0, Value.ref 128), (1, Value.int (xs 1)), (2, Value.ref 129), (3, Value.int sc), (4, Value.int 0), (5, Value.int 1), (6, Value.int md)]) rfl ?_
    refine i_180_517 (x := 1) rfl ?_
    refine i_180_519 (fun h => absurd h (by decide)) (fun _ => ?_)
    refine i_180_522 (x := 128) rfl ?_
    refine i_180_523 (v := Value.ref 151) (xgs hm) rfl ?_
    refine i_180_526 ?_
    refine i_180_527 (xgn (by decide) (((hk 151 (by decide) (by decide) (by decide) (by decide) (by decide)).trans W0_151))) (Nat.le_of_ble_eq_true rfl) (s_179_2 (xgn (by decide) (((hk 151 (by decide) (by decide) (by decide) (by decide) (by decide)).trans W0_151))) (xgn (by decide) (((hk 152 (by decide) (by decide) (by decide) (by decide) (by decide)).trans W0_152)))) ?_
    refine i_180_530 (x := 128) rfl ?_
    refine i_180_531 (x := (xs 1)) rfl ?_
    refine i_180_532 (x := 128) rfl ?_
    refine i_180_533 (v := Value.ref 151) (xgn (by decide) (xgn (by decide) (xgn (by decide) (xgs hm)))) rfl ?_
    refine i_180_536 (x := 128) rfl ?_
    refine i_180_537 (v := Value.int (-16384)) (xgn (by decide) (xgn (by decide) (xgn (by decide) (xgs hm)))) rfl ?_
    refine i_180_540 ?_
    refine i_180_541 (c := (-16385)) (by decide) ?_
    refine i_180_542 (xgn (by decide) (xgn (by decide) (xgn (by decide) (xgs hm)))) (Nat.le_of_ble_eq_true rfl) (s_192_1 (xgn (by decide) (xgn (by decide) (xgn (by decide) (xgs hm)))) (xgn (by decide) (xgn (by decide) (xgn (by decide) (xgn (by decide) (((hk 153 (by decide) (by decide) (by decide) (by decide) (by decide)).trans W0_153)))))) (by omega) (by omega) (gprec_at (by omega)) (xgs (xgn (by decide) (xgs (xgn (by decide) (((hk 151 (by decide) (by decide) (by decide) (by decide) (by decide)).trans W0_151)))))) (xgn (by decide) (xgs (xgn (by decide) (xgn (by decide) (((hk 152 (by decide) (by decide) (by decide) (by decide) (by decide)).trans W0_152)))))) xup_s (xgn (by decide) (xgn (by decide) (xgn (by decide) (xgn (by decide) (((hk 157 (by decide) (by decide) (by decide) (by decide) (by decide)).trans W0_157)))))) (gpart_at (by omega)) (xgn (by omega) (xgn (by omega) (xgn (by omega) (xgn (by omega) (((hk _ (by omega) (by omega) (by omega) (by omega) (by omega)).trans (W0_part (by omega)))))))) (by omega) (by omega) (by omega) (xgn (by decide) (xgn (by decide) (xgn (by decide) (xgn (by decide) (((hk 137 (by decide) (by decide) (by decide) (by decide) (by decide)).trans W0_137)))))) (by omega) (by omega) (by omega) (xgn (by decide) (xgn (by decide) (xgn (by decide) (xgn (by decide) (((hk 138 (by decide) (by decide) (by decide) (by decide) (by decide)).trans W0_138)))))) (by omega) (by omega) (by omega) (by omega) (by omega) (by omega) (xgn (by omega) (xgn (by omega) (xgn (by omega) (xgn (by omega) (((hk _ (by omega) (by omega) (by omega) (by omega) (by omega)).trans (W0_pw (by omega)))))))) (by omega) (by omega) (by omega) (by omega) (by omega) (by omega) (xgn (by decide) (xgn (by decide) (xgn (by decide) (xgn (by decide) (((hk 154 (by decide) (by decide) (by decide) (by decide) (by decide)).trans W0_154)))))) (by omega) (by omega) (xgn (by decide) (xgn (by decide) (xgn (by decide) (xgn (by decide) (((hk 155 (by decide) (by decide) (by decide) (by decide) (by decide)).trans W0_155))))))) ?_
    refine i_180_545 (x := 128) rfl ?_
    refine i_180_546 (v := Value.ref 156) (xgn (by decide) (xgn (by decide) (xgn (by omega) (xgn (by omega) (xgn (by decide) (xgn (by decide) (xgn (by decide) (xgn (by decide) (xgn (by omega) (xgn (by decide) (xgn (by decide) (xgn (by decide) (xgs hm))))))))))))) rfl ?_
    refine i_180_549 (x := (xs 1)) rfl ?_
    refine i_180_550 (x := 1) rfl ?_
    refine i_180_552z (v := Value.int 1) (xgn (by decide) (xgn (by decide) (xgn (by omega) (xgn (by omega) (xgn (by decide) (xgn (by decide) (xgn (by decide) (xgn (by decide) (xgn (by omega) (xgn (by decide) (xgn (by decide) (xgn (by decide) (xgn (by decide) hn))))))))))))) (by omega) (by omega) (by omega) rfl ?_
    refine i_180_553 ?_
    refine i_180_565 (x := 1) rfl ?_
    refine i_180_567 (fun h => absurd h (by decide)) (fun _ => ?_)
    refine i_180_570 ?_
    refine i_180_571 ?_
    refine i_180_575 (lv2 := [(14, Value.int 1), (16, Value.int 1), (15, Value.int 0), (13, Value.int E), (12, Value.int 1), (11, Value.int 0), (10, Value.int C), (9, Value.int U), (8, Value.int E), (7, Value.int 64), (0, Value.ref 128), (1, Value.int (xs 1)), (2, Value.ref 129), (3, Value.int sc), (4, Value.int 0), (5, Value.int 1), (6, Value.int md)]) rfl ?_
    refine i_180_577 ?_
    refine i_180_591 (x := 128) rfl ?_
    refine i_180_592 (v := Value.int 0) (xgn (by decide) (xgn (by decide) (xgn (by decide) (xgn (by omega) (xgn (by omega) (xgn (by decide) (xgn (by decide) (xgn (by decide) (xgn (by decide) (xgn (by omega) (xgn (by decide) (xgn (by decide) (xgn (by decide) (xgs hm)))))))))))))) rfl ?_
    refine i_180_595 (fun h => absurd h (by decide)) (fun _ => ?_)
    refine i_180_598 (x := 128) rfl ?_
    refine i_180_599 (v := Value.int 0) (xgn (by decide) (xgn (by decide) (xgn (by decide) (xgn (by omega) (xgn (by omega) (xgn (by decide) (xgn (by decide) (xgn (by decide) (xgn (by decide) (xgn (by omega) (xgn (by decide) (xgn (by decide) (xgn (by decide) (xgs hm)))))))))))))) rfl ?_
    refine i_180_602 (fun _ => ?_) (fun h => absurd h (by decide))
    refine i_180_629 (x := 1) rfl ?_
    refine i_180_631 (fun h => absurd h (by decide)) (fun _ => ?_)
    refine i_180_634 (x := 128) rfl ?_
    refine i_180_635 rfl ?_
    refine i_180_636 (v := Value.int 4) (xgn (by decide) (xgn (by decide) (xgn (by decide) (xgn (by omega) (xgn (by omega) (xgn (by decide) (xgn (by decide) (xgn (by decide) (xgn (by decide) (xgn (by omega) (xgn (by decide) (xgn (by decide) (xgn (by decide) (xgs hm)))))))))))))) rfl ?_
    refine i_180_639 ?_
    refine i_180_640 (c := 5) (by decide) ?_
    refine i_180_641 (fs2 := [Value.ref 129, Value.ref 131, Value.ref 133, Value.ref 135, Value.ref 137, Value.ref 139, Value.ref 141, Value.ref 143, Value.ref 145, Value.ref 147, Value.ref 149, Value.ref 151, Value.ref 153, Value.ref 154, Value.ref 155, Value.ref 156, Value.ref 157, Value.int (-16384), Value.int 16384, Value.int 5, Value.int 0, Value.int 0, Value.ref 158, Value.ref 159, Value.int 0, Value.int 0, Value.int 0, Value.int 0, Value.int 0, Value.int 0, Value.int 0, Value.int 0]) (xgn (by decide) (xgn (by decide) (xgn (by decide) (xgn (by omega) (xgn (by omega) (xgn (by decide) (xgn (by decide) (xgn (by decide) (xgn (by decide) (xgn (by omega) (xgn (by decide) (xgn (by decide) (xgn (by decide) (xgs hm)))))))))))))) (Nat.le_of_ble_eq_true rfl) rfl (by omega) ?_
    refine i_180_644 (x := 1) rfl ?_
    refine i_180_646 (fun h => absurd h (by decide)) (fun _ => ?_)
    refine i_180_649 (x := 1) rfl ?_
    refine i_180_651 (c := (-1)) (by decide) ?_
    refine i_180_652 ?_
    exact i_180_657 ⟨rfl, rfl⟩
  · refine xKp.set ?_ (fun h hh => by unfold xPM at hh; omega) (xgn (by decide) (xgn (by decide) (xgn (by decide) (xgn (by omega) (xgn (by omega) (xgn (by decide) (xgn (by decide) (xgn (by decide) (xgn (by decide) (xgn (by omega) (xgn (by decide) (xgn (by decide) (xgn (by decide) (xgs hm)))))))))))))) xcs_o
    refine xKp.set ?_ (fun h hh => by unfold xPM at hh; omega) (xgn (by decide) (xgn (by decide) (xgn (by omega) (xgn (by omega) (xgn (by decide) (xgn (by decide) (xgn (by decide) (xgn (by decide) (xgn (by omega) (xgn (by decide) (xgn (by decide) (xgn (by decide) (xgn (by decide) hn))))))))))))) xcs_a
    refine xKp.set ?_ (fun h hh => by unfold xPM at hh; omega) (xgn (by decide) (xgn (by omega) (xgn (by omega) (xgn (by decide) (xgn (by decide) (xgn (by decide) (xgn (by decide) (xgn (by omega) (xgn (by decide) (xgn (by decide) (xgn (by decide) (xgn (by decide) (((hk 155 (by decide) (by decide) (by decide) (by decide) (by decide)).trans W0_155)))))))))))))) xcs_a
    refine xKp.set ?_ (fun h hh => by unfold xPM at hh; omega) (xgn (by omega) (xgn (by omega) (xgn (by decide) (xgn (by decide) (xgn (by decide) (xgn (by decide) (xgn (by omega) (xgn (by decide) (xgn (by decide) (xgn (by decide) (xgn (by decide) (((hk 154 (by decide) (by decide) (by decide) (by decide) (by decide)).trans W0_154))))))))))))) xcs_a
    refine xKp.set ?_ (fun h hh => by unfold xPM at hh; omega) (xgn (by omega) (xgn (by omega) (xgn (by omega) (xgn (by omega) (xgn (by omega) (xgs (xgn (by omega) (xgn (by omega) (xgn (by omega) (xgn (by omega) (((hk _ (by omega) (by omega) (by omega) (by omega) (by omega)).trans (W0_part (by omega)))))))))))))) xcs_o
    refine xKp.set ?_ (fun h hh => by unfold xPM at hh; omega) (xgn (by omega) (xgn (by omega) (xgn (by omega) (xgn (by omega) (xgn (by omega) (xgn (by omega) (xgn (by omega) (xgn (by omega) (xgn (by omega) (((hk _ (by omega) (by omega) (by omega) (by omega) (by omega)).trans (W0_pw (by omega))))))))))))) xcs_a
    refine xKp.set ?_ (fun h hh => by unfold xPM at hh; omega) (xgn (by decide) (xgs (xgn (by decide) (xgn (by omega) (xgn (by decide) (xgn (by decide) (xgn (by decide) (xgn (by decide) (((hk 137 (by decide) (by decide) (by decide) (by decide) (by decide)).trans W0_137)))))))))) xcs_o
    refine xKp.set ?_ (fun h hh => by unfold xPM at hh; omega) (xgn (by decide) (xgs (xgn (by omega) (xgn (by decide) (xgn (by decide) (xgn (by decide) (xgn (by decide) (((hk 138 (by decide) (by decide) (by decide) (by decide) (by decide)).trans W0_138))))))))) xcs_a
    refine xKp.set ?_ (fun h hh => by unfold xPM at hh; omega) (xgn (by decide) (xgn (by omega) (xgn (by decide) (xgn (by decide) (xgn (by decide) (xgn (by decide) (((hk 137 (by decide) (by decide) (by decide) (by decide) (by decide)).trans W0_137)))))))) xcs_o
    refine xKp.set ?_ (fun h hh => by unfold xPM at hh; omega) (xgn (by omega) (xgn (by decide) (xgn (by decide) (xgn (by decide) (xgn (by decide) (((hk 138 (by decide) (by decide) (by decide) (by decide) (by decide)).trans W0_138))))))) xcs_a
    refine xKp.set ?_ (fun h hh => by unfold xPM at hh; omega) (xgn (by omega) (xgn (by omega) (xgn (by omega) (xgn (by omega) (((hk _ (by omega) (by omega) (by omega) (by omega) (by omega)).trans (W0_part (by omega)))))))) xcs_o
    refine xKp.set ?_ (fun h hh => by unfold xPM at hh; omega) (xgn (by decide) (xgs (xgn (by decide) (((hk 151 (by decide) (by decide) (by decide) (by decide) (by decide)).trans W0_151))))) xcs_o
    refine xKp.set ?_ (fun h hh => by unfold xPM at hh; omega) (xgn (by decide) (xgn (by decide) (((hk 152 (by decide) (by decide) (by decide) (by decide) (by decide)).trans W0_152)))) xcs_a
    refine xKp.set ?_ (fun h hh => by unfold xPM at hh; omega) (xgn (by decide) (((hk 151 (by decide) (by decide) (by decide) (by decide) (by decide)).trans W0_151))) xcs_o
    refine xKp.set ?_ (fun h hh => by unfold xPM at hh; omega) (hm) xcs_o
    exact xKp.refl
theorem sf1_8 {d : Nat} {xs : Nat → Int32} {m : Int64} {sc md : Int32} {w : xW} {B E U C q0 q1 q2 nn : Int32} {g : Nat → Value} (hk : ∀ h, 131 ≤ h → h < 194 → h ≠ 135 → h ≠ 136 → h ≠ 156 → w[h]? = (W0 6 xs)[h]?) (hm : w[128]? = some (Sum.inr (12, [Value.ref 129, Value.ref 131, Value.ref 133, Value.ref 135, Value.ref 137, Value.ref 139, Value.ref 141, Value.ref 143, Value.ref 145, Value.ref 147, Value.ref 149, Value.ref 151, Value.ref 153, Value.ref 154, Value.ref 155, Value.ref 156, Value.ref 157, Value.int (-16384), Value.int 16384, Value.int 0, Value.int 0, Value.int 0, Value.ref 158, Value.ref 159, Value.int 0, Value.int 0, Value.int 0, Value.int 0, Value.int 0, Value.int 0, Value.int 0, Value.int 0]))) (hv : w[129]? = some (Sum.inr (13, [Value.ref 130, Value.int nn]))) (hq : w[135]? = some (Sum.inr (13, [Value.ref 136, Value.int 3]))) (hqw : w[136]? = some (Sum.inl (0, 4700, g))) (hg0 : g (0 : Int32).toInt.toNat = Value.int q0) (hg1 : g (1 : Int32).toInt.toNat = Value.int q1) (hg2 : g (2 : Int32).toInt.toNat = Value.int q2) (hn : w[156]? = some (Sum.inl (2, 17, xup (fun _ => Value.int 0) (xs 1).toInt.toNat (Value.int 1)))) (hbits : ∀ (d' : Nat) (w' : xW), w'[129]? = w[129]? → w'[130]? = w[130]? → xRun d' 181 [Value.ref 129] w' (.inl (some (Value.int B))) w') (hany0 : xPW m → ∀ (d' : Nat) (w' : xW), w'[129]? = w[129]? → w'[130]? = w[130]? → xRun d' 183 [Value.ref 129, Value.int (B - (1 : Int32))] w' (.inl (some (Value.int 0))) w') (hany1 : ¬ xPW m → ∀ (d' : Nat) (w' : xW), w'[129]? = w[129]? → w'[130]? = w[130]? → xRun d' 183 [Value.ref 129, Value.int (B - (1 : Int32))] w' (.inl (some (Value.int 1))) w') (c0 : 0 ≤ (xs 1).toInt) (c1 : (xs 1).toInt < 16) (c2 : (-40000) ≤ sc.toInt) (c3 : sc.toInt ≤ 40000) (c4 : 0 ≤ md.toInt) (c5 : md.toInt ≤ 4) (c6 : 1 ≤ B.toInt) (c7 : B.toInt ≤ 64) (c8 : E.toInt = B.toInt + sc.toInt) (c9 : U.toInt = E.toInt - 64) (c10 : 0 ≤ q2.toInt) (c11 : (xbn q2).toInt = 4) (c12 : E.toInt ≤ 16384) (c13 : E.toInt < (-16384)) (c14 : E.toInt = (-16385)) (c15 : xPW m) (c16 : md.toInt ≠ 4) (c17 : md.toInt ≠ 2) (c18 : md.toInt ≠ 3) (c19 : md.toInt = 0) : ∃ w2, xEv (d + 6) 180 207 [(14, Value.int 0), (13, Value.int E), (12, Value.int 1), (11, Value.int 0), (10, Value.int C), (9, Value.int U), (8, Value.int E), (7, Value.int 64), (0, Value.ref 128), (1, Value.int (xs 1)), (2, Value.ref 129), (3, Value.int sc), (4, Value.int 0), (5, Value.int 1), (6, Value.int md)] [] w (fun o' w' => o' = .inl (some (Value.int 1)) ∧ w' = w2) ∧ xKp w w2 xPM ∧ w2[128]? = some (Sum.inr (12, [Value.ref 129, Value.ref 131, Value.ref 133, Value.ref 135, Value.ref 137, Value.ref 139, Value.ref 141, Value.ref 143, Value.ref 145, Value.ref 147, Value.ref 149, Value.ref 151, Value.ref 153, Value.ref 154, Value.ref 155, Value.ref 156, Value.ref 157, Value.int (-16384), Value.int 16384, Value.int 5, Value.int 0, Value.int 0, Value.ref 158, Value.ref 159, Value.int 0, Value.int 0, Value.int 0, Value.int 0, Value.int 0, Value.int 0, Value.int 0, Value.int 0])) := by
  refine ⟨((((w.set 128 (Sum.inr (12, [Value.ref 129, Value.ref 131, Value.ref 133, Value.ref 135, Value.ref 137, Value.ref 139, Value.ref 141, Value.ref 143, Value.ref 145, Value.ref 147, Value.ref 149, Value.ref 151, Value.ref 153, Value.ref 154, Value.ref 155, Value.ref 156, Value.ref 157, Value.int (-16384), Value.int 16384, Value.int 4, Value.int 0, Value.int 0, Value.ref 158, Value.ref 159, Value.int 0, Value.int 0, Value.int 0, Value.int 0, Value.int 0, Value.int 0, Value.int 0, Value.int 0]))).set 154 (Sum.inl (0, 17, xup (fun _ => Value.int 0) (xs 1).toInt.toNat (Value.int 2)))).set 156 (Sum.inl (2, 17, xup (xup (fun _ => Value.int 0) (xs 1).toInt.toNat (Value.int 1)) (xs 1).toInt.toNat (Value.int 1)))).set 128 (Sum.inr (12, [Value.ref 129, Value.ref 131, Value.ref 133, Value.ref 135, Value.ref 137, Value.ref 139, Value.ref 141, Value.ref 143, Value.ref 145, Value.ref 147, Value.ref 149, Value.ref 151, Value.ref 153, Value.ref 154, Value.ref 155, Value.ref 156, Value.ref 157, Value.int (-16384), Value.int 16384, Value.int 5, Value.int 0, Value.int 0, Value.ref 158, Value.ref 159, Value.int 0, Value.int 0, Value.int 0, Value.int 0, Value.int 0, Value.int 0, Value.int 0, Value.int 0]))), ?_, ?_, xgs (xgn (by decide) (xgn (by decide) (xgs hm)))⟩
  · refine i_180_207 (x := 128) rfl ?_
    refine i_180_208 (v := Value.int 0) hm rfl ?_
    refine i_180_211 (fun h => absurd h (by decide)) (fun _ => ?_)
    refine i_180_214 (x := 128) rfl ?_
    refine i_180_215 (v := Value.ref 135) hm rfl ?_
    refine i_180_218 (v := Value.int 3) hq rfl ?_
    refine i_180_221 (fun h => absurd h (by decide)) (fun _ => ?_)
    refine i_180_224 (x := E) rfl ?_
    refine i_180_226 (x := 128) rfl ?_
    refine i_180_227 (v := Value.int 16384) hm rfl ?_
    refine i_180_230 (fun _ => ?_) (fun h => absurd (show E.toInt ≤ 16384 by omega) (Int.not_le.mpr h))
    refine i_180_367 (x := 128) rfl ?_
    refine i_180_368 (v := Value.ref 135) hm rfl ?_
    refine i_180_371 (v := Value.int 3) hq rfl ?_
    refine i_180_374 (fun _ => ?_) (fun h => absurd h (by decide))
    refine i_180_392 (x := 128) rfl ?_
    refine i_180_393 (v := Value.int 0) hm rfl ?_
    refine i_180_396 (fun h => absurd h (by decide)) (fun _ => ?_)
    refine i_180_399 (x := 128) rfl ?_
    refine i_180_400 (v := Value.int 0) hm rfl ?_
    refine i_180_403 (fun h => absurd h (by decide)) (fun _ => ?_)
    refine i_180_406 (x := E) rfl ?_
    refine i_180_408 (x := 128) rfl ?_
    refine i_180_409 (v := Value.int (-16384)) hm rfl ?_
    refine i_180_412 (fun h => absurd (show E.toInt < (-16384) by omega) (Int.not_lt.mpr h)) (fun _ => ?_)
    refine i_180_415 (x := 128) rfl ?_
    refine i_180_416 rfl ?_
    refine i_180_417 (v := Value.int 0) hm rfl ?_
    refine i_180_420 ?_
    refine i_180_421 (c := 4) (by decide) ?_
    refine i_180_422 (fs2 := [Value.ref 129, Value.ref 131, Value.ref 133, Value.ref 135, Value.ref 137, Value.ref 139, Value.ref 141, Value.ref 143, Value.ref 145, Value.ref 147, Value.ref 149, Value.ref 151, Value.ref 153, Value.ref 154, Value.ref 155, Value.ref 156, Value.ref 157, Value.int (-16384), Value.int 16384, Value.int 4, Value.int 0, Value.int 0, Value.ref 158, Value.ref 159, Value.int 0, Value.int 0, Value.int 0, Value.int 0, Value.int 0, Value.int 0, Value.int 0, Value.int 0]) hm (Nat.le_of_ble_eq_true rfl) rfl (by omega) ?_
    refine i_180_425 (x := E) rfl ?_
    refine i_180_427 (x := 128) rfl ?_
    refine i_180_428 (v := Value.int (-16384)) (xgs hm) rfl ?_
    refine i_180_431 ?_
    refine i_180_432 (c := (-16385)) (by decide) ?_
    refine i_180_433 (fun h => absurd (show E.toInt ≤ (-16385) by omega) (Int.not_le.mpr h)) (fun _ => ?_)
    refine i_180_436 (x := E) rfl ?_
    refine i_180_438 (x := 128) rfl ?_
    refine i_180_439 (v := Value.int (-16384)) (xgs hm) rfl ?_
    refine i_180_442 ?_
    refine i_180_443 (c := (-16385)) (by decide) ?_
    refine i_180_444 (fun h => absurd (show E.toInt = (-16385) by omega) h) (fun _ => ?_)
    refine i_180_447 (x := 0) rfl ?_
    refine i_180_449 (fun h => absurd h (by decide)) (fun _ => ?_)
    refine i_180_452 (x := 129) rfl ?_
    refine i_180_453 (x := 129) rfl ?_
    refine i_180_454 (xgn (by decide) hv) (Nat.le_of_ble_eq_true rfl) (hbits _ _ (xgn (by omega) (rfl)) (xgn (by omega) (rfl))) ?_
    refine i_180_457 ?_
    refine i_180_458 (c := (B - (1 : Int32))) rfl ?_
    refine i_180_459 (xgn (by decide) hv) (Nat.le_of_ble_eq_true rfl) (hany0 c15 _ _ (xgn (by omega) (rfl)) (xgn (by omega) (rfl))) ?_
    refine i_180_462 (fun _ => ?_) (fun h => absurd h (by decide))
    refine i_180_469 ?_
    refine i_180_470 (lv2 := [(15, Value.int 0), (14, Value.int 0), (13, Value.int E), (12, Value.int 1), (11, Value.int 0), (10, Value.int C), (9, Value.int U), (8, Value.int E), (7, Value.int 64), (0, Value.ref 128), (1, Value.int (xs 1)), (2, Value.ref 129), (3, Value.int sc), (4, Value.int 0), (5, Value.int 1), (6, Value.int md)]) rfl ?_
    refine i_180_472 (x := md) rfl ?_
    refine i_180_474 ?_
    refine i_180_475 (fun h => absurd (show md.toInt ≠ 4 by omega) (fun g => g h)) (fun _ => ?_)
    refine i_180_478 (x := md) rfl ?_
    refine i_180_480 ?_
    refine i_180_481 (fun _ => ?_) (fun h => absurd (show md.toInt ≠ 2 by omega) (fun g => g h))
    refine i_180_489 (x := md) rfl ?_
    refine i_180_491 ?_
    refine i_180_492 (fun _ => ?_) (fun h => absurd (show md.toInt ≠ 3 by omega) (fun g => g h))
    refine i_180_500 (x := md) rfl ?_
    refine i_180_502 (fun h => absurd (show md.toInt = 0 by omega) h) (fun _ => ?_)
    refine i_180_505 (x := 0) rfl ?_
    refine i_180_507 (fun _ => ?_) (fun h => absurd h (by decide))
    refine i_180_514 ?_
    refine i_180_515 (lv2 := [(16, Value.int 0), (15, Value.int 0), (14, Value.int 0), (13, Value.int E), (12, Value.int 1), (11, Value.int 0), (10, Value.int C), (9, Value.int U), (8, Value.int E), (7, Value.int 64), (0, Value.ref 128), (1, Value.int (xs 1)), (2, Value.ref 129), (3, Value.int sc), (4, Value.int 0), (5, Value.int 1), (6, Value.int md)]) rfl ?_
    refine i_180_517 (x := 0) rfl ?_
    refine i_180_519 (fun _ => ?_) (fun h => absurd h (by decide))
    refine i_180_556 (x := 128) rfl ?_
    refine i_180_557 (x := (xs 1)) rfl ?_
    refine i_180_558 ?_
    refine i_180_559 (x := 1) rfl ?_
    refine i_180_561 (xgs hm) (Nat.le_of_ble_eq_true rfl) (s_171_3 (xgs hm) (xgn (by decide) (((hk 154 (by decide) (by decide) (by decide) (by decide) (by decide)).trans W0_154))) (by omega) (by omega) (xgn (by decide) hn)) ?_
    refine i_180_564 rfl ?_
    refine i_180_565 (x := 0) rfl ?_
    refine i_180_567 (fun _ => ?_) (fun h => absurd h (by decide))
    refine i_180_574 ?_
    refine i_180_575 (lv2 := [(14, Value.int (-1)), (16, Value.int 0), (15, Value.int 0), (13, Value.int E), (12, Value.int 1), (11, Value.int 0), (10, Value.int C), (9, Value.int U), (8, Value.int E), (7, Value.int 64), (0, Value.ref 128), (1, Value.int (xs 1)), (2, Value.ref 129), (3, Value.int sc), (4, Value.int 0), (5, Value.int 1), (6, Value.int md)]) rfl ?_
    refine i_180_577 ?_
    refine i_180_591 (x := 128) rfl ?_
    refine i_180_592 (v := Value.int 0) (xgn (by decide) (xgn (by decide) (xgs hm))) rfl ?_
    refine i_180_595 (fun h => absurd h (by decide)) (fun _ => ?_)
    refine i_180_598 (x := 128) rfl ?_
    refine i_180_599 (v := Value.int 0) (xgn (by decide) (xgn (by decide) (xgs hm))) rfl ?_
    refine i_180_602 (fun _ => ?_) (fun h => absurd h (by decide))
    refine i_180_629 (x := (-1)) rfl ?_
    refine i_180_631 (fun h => absurd h (by decide)) (fun _ => ?_)
    refine i_180_634 (x := 128) rfl ?_
    refine i_180_635 rfl ?_
    refine i_180_636 (v := Value.int 4) (xgn (by decide) (xgn (by decide) (xgs hm))) rfl ?_
    refine i_180_639 ?_
    refine i_180_640 (c := 5) (by decide) ?_
    refine i_180_641 (fs2 := [Value.ref 129, Value.ref 131, Value.ref 133, Value.ref 135, Value.ref 137, Value.ref 139, Value.ref 141, Value.ref 143, Value.ref 145, Value.ref 147, Value.ref 149, Value.ref 151, Value.ref 153, Value.ref 154, Value.ref 155, Value.ref 156, Value.ref 157, Value.int (-16384), Value.int 16384, Value.int 5, Value.int 0, Value.int 0, Value.ref 158, Value.ref 159, Value.int 0, Value.int 0, Value.int 0, Value.int 0, Value.int 0, Value.int 0, Value.int 0, Value.int 0]) (xgn (by decide) (xgn (by decide) (xgs hm))) (Nat.le_of_ble_eq_true rfl) rfl (by omega) ?_
    refine i_180_644 (x := 1) rfl ?_
    refine i_180_646 (fun h => absurd h (by decide)) (fun _ => ?_)
    refine i_180_649 (x := (-1)) rfl ?_
    refine i_180_651 (c := 1) (by decide) ?_
    refine i_180_652 ?_
    exact i_180_657 ⟨rfl, rfl⟩
  · refine xKp.set ?_ (fun h hh => by unfold xPM at hh; omega) (xgn (by decide) (xgn (by decide) (xgs hm))) xcs_o
    refine xKp.set ?_ (fun h hh => by unfold xPM at hh; omega) (xgn (by decide) (xgn (by decide) hn)) xcs_a
    refine xKp.set ?_ (fun h hh => by unfold xPM at hh; omega) (xgn (by decide) (((hk 154 (by decide) (by decide) (by decide) (by decide) (by decide)).trans W0_154))) xcs_a
    refine xKp.set ?_ (fun h hh => by unfold xPM at hh; omega) (hm) xcs_o
    exact xKp.refl
theorem sf1_9 {d : Nat} {xs : Nat → Int32} {m : Int64} {sc md : Int32} {w : xW} {B E U C q0 q1 q2 nn : Int32} {g : Nat → Value} (hk : ∀ h, 131 ≤ h → h < 194 → h ≠ 135 → h ≠ 136 → h ≠ 156 → w[h]? = (W0 6 xs)[h]?) (hm : w[128]? = some (Sum.inr (12, [Value.ref 129, Value.ref 131, Value.ref 133, Value.ref 135, Value.ref 137, Value.ref 139, Value.ref 141, Value.ref 143, Value.ref 145, Value.ref 147, Value.ref 149, Value.ref 151, Value.ref 153, Value.ref 154, Value.ref 155, Value.ref 156, Value.ref 157, Value.int (-16384), Value.int 16384, Value.int 0, Value.int 0, Value.int 0, Value.ref 158, Value.ref 159, Value.int 0, Value.int 0, Value.int 0, Value.int 0, Value.int 0, Value.int 0, Value.int 0, Value.int 0]))) (hv : w[129]? = some (Sum.inr (13, [Value.ref 130, Value.int nn]))) (hq : w[135]? = some (Sum.inr (13, [Value.ref 136, Value.int 3]))) (hqw : w[136]? = some (Sum.inl (0, 4700, g))) (hg0 : g (0 : Int32).toInt.toNat = Value.int q0) (hg1 : g (1 : Int32).toInt.toNat = Value.int q1) (hg2 : g (2 : Int32).toInt.toNat = Value.int q2) (hn : w[156]? = some (Sum.inl (2, 17, xup (fun _ => Value.int 0) (xs 1).toInt.toNat (Value.int 1)))) (hbits : ∀ (d' : Nat) (w' : xW), w'[129]? = w[129]? → w'[130]? = w[130]? → xRun d' 181 [Value.ref 129] w' (.inl (some (Value.int B))) w') (hany0 : xPW m → ∀ (d' : Nat) (w' : xW), w'[129]? = w[129]? → w'[130]? = w[130]? → xRun d' 183 [Value.ref 129, Value.int (B - (1 : Int32))] w' (.inl (some (Value.int 0))) w') (hany1 : ¬ xPW m → ∀ (d' : Nat) (w' : xW), w'[129]? = w[129]? → w'[130]? = w[130]? → xRun d' 183 [Value.ref 129, Value.int (B - (1 : Int32))] w' (.inl (some (Value.int 1))) w') (c0 : 0 ≤ (xs 1).toInt) (c1 : (xs 1).toInt < 16) (c2 : (-40000) ≤ sc.toInt) (c3 : sc.toInt ≤ 40000) (c4 : 0 ≤ md.toInt) (c5 : md.toInt ≤ 4) (c6 : 1 ≤ B.toInt) (c7 : B.toInt ≤ 64) (c8 : E.toInt = B.toInt + sc.toInt) (c9 : U.toInt = E.toInt - 64) (c10 : 0 ≤ q2.toInt) (c11 : (xbn q2).toInt = 4) (c12 : E.toInt ≤ 16384) (c13 : E.toInt < (-16384)) (c14 : E.toInt = (-16385)) (c15 : xPW m) (c16 : md.toInt ≠ 4) (c17 : md.toInt ≠ 2) (c18 : md.toInt ≠ 3) (c19 : md.toInt ≠ 0) : ∃ w2, xEv (d + 6) 180 207 [(14, Value.int 0), (13, Value.int E), (12, Value.int 1), (11, Value.int 0), (10, Value.int C), (9, Value.int U), (8, Value.int E), (7, Value.int 64), (0, Value.ref 128), (1, Value.int (xs 1)), (2, Value.ref 129), (3, Value.int sc), (4, Value.int 0), (5, Value.int 1), (6, Value.int md)] [] w (fun o' w' => o' = .inl (some (Value.int 1)) ∧ w' = w2) ∧ xKp w w2 xPM ∧ w2[128]? = some (Sum.inr (12, [Value.ref 129, Value.ref 131, Value.ref 133, Value.ref 135, Value.ref 137, Value.ref 139, Value.ref 141, Value.ref 143, Value.ref 145, Value.ref 147, Value.ref 149, Value.ref 151, Value.ref 153, Value.ref 154, Value.ref 155, Value.ref 156, Value.ref 157, Value.int (-16384), Value.int 16384, Value.int 5, Value.int 0, Value.int 0, Value.ref 158, Value.ref 159, Value.int 0, Value.int 0, Value.int 0, Value.int 0, Value.int 0, Value.int 0, Value.int 0, Value.int 0])) := by
  refine ⟨((((w.set 128 (Sum.inr (12, [Value.ref 129, Value.ref 131, Value.ref 133, Value.ref 135, Value.ref 137, Value.ref 139, Value.ref 141, Value.ref 143, Value.ref 145, Value.ref 147, Value.ref 149, Value.ref 151, Value.ref 153, Value.ref 154, Value.ref 155, Value.ref 156, Value.ref 157, Value.int (-16384), Value.int 16384, Value.int 4, Value.int 0, Value.int 0, Value.ref 158, Value.ref 159, Value.int 0, Value.int 0, Value.int 0, Value.int 0, Value.int 0, Value.int 0, Value.int 0, Value.int 0]))).set 154 (Sum.inl (0, 17, xup (fun _ => Value.int 0) (xs 1).toInt.toNat (Value.int 2)))).set 156 (Sum.inl (2, 17, xup (xup (fun _ => Value.int 0) (xs 1).toInt.toNat (Value.int 1)) (xs 1).toInt.toNat (Value.int 1)))).set 128 (Sum.inr (12, [Value.ref 129, Value.ref 131, Value.ref 133, Value.ref 135, Value.ref 137, Value.ref 139, Value.ref 141, Value.ref 143, Value.ref 145, Value.ref 147, Value.ref 149, Value.ref 151, Value.ref 153, Value.ref 154, Value.ref 155, Value.ref 156, Value.ref 157, Value.int (-16384), Value.int 16384, Value.int 5, Value.int 0, Value.int 0, Value.ref 158, Value.ref 159, Value.int 0, Value.int 0, Value.int 0, Value.int 0, Value.int 0, Value.int 0, Value.int 0, Value.int 0]))), ?_, ?_, xgs (xgn (by decide) (xgn (by decide) (xgs hm)))⟩
  · refine i_180_207 (x := 128) rfl ?_
    refine i_180_208 (v := Value.int 0) hm rfl ?_
    refine i_180_211 (fun h => absurd h (by decide)) (fun _ => ?_)
    refine i_180_214 (x := 128) rfl ?_
    refine i_180_215 (v := Value.ref 135) hm rfl ?_
    refine i_180_218 (v := Value.int 3) hq rfl ?_
    refine i_180_221 (fun h => absurd h (by decide)) (fun _ => ?_)
    refine i_180_224 (x := E) rfl ?_
    refine i_180_226 (x := 128) rfl ?_
    refine i_180_227 (v := Value.int 16384) hm rfl ?_
    refine i_180_230 (fun _ => ?_) (fun h => absurd (show E.toInt ≤ 16384 by omega) (Int.not_le.mpr h))
    refine i_180_367 (x := 128) rfl ?_
    refine i_180_368 (v := Value.ref 135) hm rfl ?_
    refine i_180_371 (v := Value.int 3) hq rfl ?_
    refine i_180_374 (fun _ => ?_) (fun h => absurd h (by decide))
    refine i_180_392 (x := 128) rfl ?_
    refine i_180_393 (v := Value.int 0) hm rfl ?_
    refine i_180_396 (fun h => absurd h (by decide)) (fun _ => ?_)
    refine i_180_399 (x := 128) rfl ?_
    refine i_180_400 (v := Value.int 0) hm rfl ?_
    refine i_180_403 (fun h => absurd h (by decide)) (fun _ => ?_)
    refine i_180_406 (x := E) rfl ?_
    refine i_180_408 (x := 128) rfl ?_
    refine i_180_409 (v := Value.int (-16384)) hm rfl ?_
    refine i_180_412 (fun h => absurd (show E.toInt < (-16384) by omega) (Int.not_lt.mpr h)) (fun _ => ?_)
    refine i_180_415 (x := 128) rfl ?_
    refine i_180_416 rfl ?_
    refine i_180_417 (v := Value.int 0) hm rfl ?_
    refine i_180_420 ?_
    refine i_180_421 (c := 4) (by decide) ?_
    refine i_180_422 (fs2 := [Value.ref 129, Value.ref 131, Value.ref 133, Value.ref 135, Value.ref 137, Value.ref 139, Value.ref 141, Value.ref 143, Value.ref 145, Value.ref 147, Value.ref 149, Value.ref 151, Value.ref 153, Value.ref 154, Value.ref 155, Value.ref 156, Value.ref 157, Value.int (-16384), Value.int 16384, Value.int 4, Value.int 0, Value.int 0, Value.ref 158, Value.ref 159, Value.int 0, Value.int 0, Value.int 0, Value.int 0, Value.int 0, Value.int 0, Value.int 0, Value.int 0]) hm (Nat.le_of_ble_eq_true rfl) rfl (by omega) ?_
    refine i_180_425 (x := E) rfl ?_
    refine i_180_427 (x := 128) rfl ?_
    refine i_180_428 (v := Value.int (-16384)) (xgs hm) rfl ?_
    refine i_180_431 ?_
    refine i_180_432 (c := (-16385)) (by decide) ?_
    refine i_180_433 (fun h => absurd (show E.toInt ≤ (-16385) by omega) (Int.not_le.mpr h)) (fun _ => ?_)
    refine i_180_436 (x := E) rfl ?_
    refine i_180_438 (x := 128) rfl ?_
    refine i_180_439 (v := Value.int (-16384)) (xgs hm) rfl ?_
    refine i_180_442 ?_
    refine i_180_443 (c := (-16385)) (by decide) ?_
    refine i_180_444 (fun h => absurd (show E.toInt = (-16385) by omega) h) (fun _ => ?_)
    refine i_180_447 (x := 0) rfl ?_
    refine i_180_449 (fun h => absurd h (by decide)) (fun _ => ?_)
    refine i_180_452 (x := 129) rfl ?_
    refine i_180_453 (x := 129) rfl ?_
    refine i_180_454 (xgn (by decide) hv) (Nat.le_of_ble_eq_true rfl) (hbits _ _ (xgn (by omega) (rfl)) (xgn (by omega) (rfl))) ?_
    refine i_180_457 ?_
    refine i_180_458 (c := (B - (1 : Int32))) rfl ?_
    refine i_180_459 (xgn (by decide) hv) (Nat.le_of_ble_eq_true rfl) (hany0 c15 _ _ (xgn (by omega) (rfl)) (xgn (by omega) (rfl))) ?_
    refine i_180_462 (fun _ => ?_) (fun h => absurd h (by decide))
    refine i_180_469 ?_
    refine i_180_470 (lv2 := [(15, Value.int 0), (14, Value.int 0), (13, Value.int E), (12, Value.int 1), (11, Value.int 0), (10, Value.int C), (9, Value.int U), (8, Value.int E), (7, Value.int 64), (0, Value.ref 128), (1, Value.int (xs 1)), (2, Value.ref 129), (3, Value.int sc), (4, Value.int 0), (5, Value.int 1), (6, Value.int md)]) rfl ?_
    refine i_180_472 (x := md) rfl ?_
    refine i_180_474 ?_
    refine i_180_475 (fun h => absurd (show md.toInt ≠ 4 by omega) (fun g => g h)) (fun _ => ?_)
    refine i_180_478 (x := md) rfl ?_
    refine i_180_480 ?_
    refine i_180_481 (fun _ => ?_) (fun h => absurd (show md.toInt ≠ 2 by omega) (fun g => g h))
    refine i_180_489 (x := md) rfl ?_
    refine i_180_491 ?_
    refine i_180_492 (fun _ => ?_) (fun h => absurd (show md.toInt ≠ 3 by omega) (fun g => g h))
    refine i_180_500 (x := md) rfl ?_
    refine i_180_502 (fun _ => ?_) (fun h => absurd (show md.toInt ≠ 0 by omega) (fun g => g h))
    refine i_180_514 ?_
    refine i_180_515 (lv2 := [(16, Value.int 0), (15, Value.int 0), (14, Value.int 0), (13, Value.int E), (12, Value.int 1), (11, Value.int 0), (10, Value.int C), (9, Value.int U), (8, Value.int E), (7, Value.int 64), (0, Value.ref 128), (1, Value.int (xs 1)), (2, Value.ref 129), (3, Value.int sc), (4, Value.int 0), (5, Value.int 1), (6, Value.int md)]) rfl ?_
    refine i_180_517 (x := 0) rfl ?_
    refine i_180_519 (fun _ => ?_) (fun h => absurd h (by decide))
    refine i_180_556 (x := 128) rfl ?_
    refine i_180_557 (x := (xs 1)) rfl ?_
    refine i_180_558 ?_
    refine i_180_559 (x := 1) rfl ?_
    refine i_180_561 (xgs hm) (Nat.le_of_ble_eq_true rfl) (s_171_3 (xgs hm) (xgn (by decide) (((hk 154 (by decide) (by decide) (by decide) (by decide) (by decide)).trans W0_154))) (by omega) (by omega) (xgn (by decide) hn)) ?_
    refine i_180_564 rfl ?_
    refine i_180_565 (x := 0) rfl ?_
    refine i_180_567 (fun _ => ?_) (fun h => absurd h (by decide))
    refine i_180_574 ?_
    refine i_180_575 (lv2 := [(14, Value.int (-1)), (16, Value.int 0), (15, Value.int 0), (13, Value.int E), (12, Value.int 1), (11, Value.int 0), (10, Value.int C), (9, Value.int U), (8, Value.int E), (7, Value.int 64), (0, Value.ref 128), (1, Value.int (xs 1)), (2, Value.ref 129), (3, Value.int sc), (4, Value.int 0), (5, Value.int 1), (6, Value.int md)]) rfl ?_
    refine i_180_577 ?_
    refine i_180_591 (x := 128) rfl ?_
    refine i_180_592 (v := Value.int 0) (xgn (by decide) (xgn (by decide) (xgs hm))) rfl ?_
    refine i_180_595 (fun h => absurd h (by decide)) (fun _ => ?_)
    refine i_180_598 (x := 128) rfl ?_
    refine i_180_599 (v := Value.int 0) (xgn (by decide) (xgn (by decide) (xgs hm))) rfl ?_
    refine i_180_602 (fun _ => ?_) (fun h => absurd h (by decide))
    refine i_180_629 (x := (-1)) rfl ?_
    refine i_180_631 (fun h => absurd h (by decide)) (fun _ => ?_)
    refine i_180_634 (x := 128) rfl ?_
    refine i_180_635 rfl ?_
    refine i_180_636 (v := Value.int 4) (xgn (by decide) (xgn (by decide) (xgs hm))) rfl ?_
    refine i_180_639 ?_
    refine i_180_640 (c := 5) (by decide) ?_
    refine i_180_641 (fs2 := [Value.ref 129, Value.ref 131, Value.ref 133, Value.ref 135, Value.ref 137, Value.ref 139, Value.ref 141, Value.ref 143, Value.ref 145, Value.ref 147, Value.ref 149, Value.ref 151, Value.ref 153, Value.ref 154, Value.ref 155, Value.ref 156, Value.ref 157, Value.int (-16384), Value.int 16384, Value.int 5, Value.int 0, Value.int 0, Value.ref 158, Value.ref 159, Value.int 0, Value.int 0, Value.int 0, Value.int 0, Value.int 0, Value.int 0, Value.int 0, Value.int 0]) (xgn (by decide) (xgn (by decide) (xgs hm))) (Nat.le_of_ble_eq_true rfl) rfl (by omega) ?_
    refine i_180_644 (x := 1) rfl ?_
    refine i_180_646 (fun h => absurd h (by decide)) (fun _ => ?_)
    refine i_180_649 (x := (-1)) rfl ?_
    refine i_180_651 (c := 1) (by decide) ?_
    refine i_180_652 ?_
    exact i_180_657 ⟨rfl, rfl⟩
  · refine xKp.set ?_ (fun h hh => by unfold xPM at hh; omega) (xgn (by decide) (xgn (by decide) (xgs hm))) xcs_o
    refine xKp.set ?_ (fun h hh => by unfold xPM at hh; omega) (xgn (by decide) (xgn (by decide) hn)) xcs_a
    refine xKp.set ?_ (fun h hh => by unfold xPM at hh; omega) (xgn (by decide) (((hk 154 (by decide) (by decide) (by decide) (by decide) (by decide)).trans W0_154))) xcs_a
    refine xKp.set ?_ (fun h hh => by unfold xPM at hh; omega) (hm) xcs_o
    exact xKp.refl
theorem sf1_10 {d : Nat} {xs : Nat → Int32} {m : Int64} {sc md : Int32} {w : xW} {B E U C q0 q1 q2 nn : Int32} {g : Nat → Value} (hk : ∀ h, 131 ≤ h → h < 194 → h ≠ 135 → h ≠ 136 → h ≠ 156 → w[h]? = (W0 6 xs)[h]?) (hm : w[128]? = some (Sum.inr (12, [Value.ref 129, Value.ref 131, Value.ref 133, Value.ref 135, Value.ref 137, Value.ref 139, Value.ref 141, Value.ref 143, Value.ref 145, Value.ref 147, Value.ref 149, Value.ref 151, Value.ref 153, Value.ref 154, Value.ref 155, Value.ref 156, Value.ref 157, Value.int (-16384), Value.int 16384, Value.int 0, Value.int 0, Value.int 0, Value.ref 158, Value.ref 159, Value.int 0, Value.int 0, Value.int 0, Value.int 0, Value.int 0, Value.int 0, Value.int 0, Value.int 0]))) (hv : w[129]? = some (Sum.inr (13, [Value.ref 130, Value.int nn]))) (hq : w[135]? = some (Sum.inr (13, [Value.ref 136, Value.int 3]))) (hqw : w[136]? = some (Sum.inl (0, 4700, g))) (hg0 : g (0 : Int32).toInt.toNat = Value.int q0) (hg1 : g (1 : Int32).toInt.toNat = Value.int q1) (hg2 : g (2 : Int32).toInt.toNat = Value.int q2) (hn : w[156]? = some (Sum.inl (2, 17, xup (fun _ => Value.int 0) (xs 1).toInt.toNat (Value.int 1)))) (hbits : ∀ (d' : Nat) (w' : xW), w'[129]? = w[129]? → w'[130]? = w[130]? → xRun d' 181 [Value.ref 129] w' (.inl (some (Value.int B))) w') (hany0 : xPW m → ∀ (d' : Nat) (w' : xW), w'[129]? = w[129]? → w'[130]? = w[130]? → xRun d' 183 [Value.ref 129, Value.int (B - (1 : Int32))] w' (.inl (some (Value.int 0))) w') (hany1 : ¬ xPW m → ∀ (d' : Nat) (w' : xW), w'[129]? = w[129]? → w'[130]? = w[130]? → xRun d' 183 [Value.ref 129, Value.int (B - (1 : Int32))] w' (.inl (some (Value.int 1))) w') (c0 : 0 ≤ (xs 1).toInt) (c1 : (xs 1).toInt < 16) (c2 : (-40000) ≤ sc.toInt) (c3 : sc.toInt ≤ 40000) (c4 : 0 ≤ md.toInt) (c5 : md.toInt ≤ 4) (c6 : 1 ≤ B.toInt) (c7 : B.toInt ≤ 64) (c8 : E.toInt = B.toInt + sc.toInt) (c9 : U.toInt = E.toInt - 64) (c10 : 0 ≤ q2.toInt) (c11 : (xbn q2).toInt = 4) (c12 : E.toInt ≤ 16384) (c13 : E.toInt < (-16384)) (c14 : E.toInt = (-16385)) (c15 : ¬ xPW m) (c16 : md.toInt = 4) : ∃ w2, xEv (d + 6) 180 207 [(14, Value.int 0), (13, Value.int E), (12, Value.int 1), (11, Value.int 0), (10, Value.int C), (9, Value.int U), (8, Value.int E), (7, Value.int 64), (0, Value.ref 128), (1, Value.int (xs 1)), (2, Value.ref 129), (3, Value.int sc), (4, Value.int 0), (5, Value.int 1), (6, Value.int md)] [] w (fun o' w' => o' = .inl (some (Value.int (-1))) ∧ w' = w2) ∧ xKp w w2 xPM ∧ w2[128]? = some (Sum.inr (12, [Value.ref 129, Value.ref 131, Value.ref 133, Value.ref 135, Value.ref 137, Value.ref 139, Value.ref 141, Value.ref 143, Value.ref 145, Value.ref 147, Value.ref 149, Value.ref 151, Value.ref 153, Value.ref 154, Value.ref 155, Value.ref 156, Value.ref 157, Value.int (-16384), Value.int 16384, Value.int 5, Value.int 0, Value.int 0, Value.ref 158, Value.ref 159, Value.int 0, Value.int 0, Value.int 0, Value.int 0, Value.int 0, Value.int 0, Value.int 0, Value.int 0])) := by
  refine ⟨(((((((((((((((w.set 128 (Sum.inr (12, [Value.ref 129, Value.ref 131, Value.ref 133, Value.ref 135, Value.ref 137, Value.ref 139, Value.ref 141, Value.ref 143, Value.ref 145, Value.ref 147, Value.ref 149, Value.ref 151, Value.ref 153, Value.ref 154, Value.ref 155, Value.ref 156, Value.ref 157, Value.int (-16384), Value.int 16384, Value.int 4, Value.int 0, Value.int 0, Value.ref 158, Value.ref 159, Value.int 0, Value.int 0, Value.int 0, Value.int 0, Value.int 0, Value.int 0, Value.int 0, Value.int 0]))).set 151 (Sum.inr (13, [Value.ref 152, Value.int 0]))).set 152 (Sum.inl (0, 4700, xup (fun _ => Value.int 0) (0 : Int32).toInt.toNat (Value.int 1)))).set 151 (Sum.inr (13, [Value.ref 152, Value.int 1]))).set (160 + 2 * (xs 1).toInt.toNat) (Sum.inr (13, [Value.ref (161 + 2 * (xs 1).toInt.toNat), Value.int 0]))).set 138 (Sum.inl (0, 4700, xcp (xup (fun _ => Value.int 0) (0 : Int32).toInt.toNat (Value.int 1)) (fun _ => Value.int 0) (0 : Int32).toInt.toNat (0 : Int32).toInt.toNat (1 : Int32).toInt.toNat))).set 137 (Sum.inr (13, [Value.ref 138, Value.int 1]))).set 138 (Sum.inl (0, 4700, xup (xup (xup (xup (xup (xcp (xup (fun _ => Value.int 0) (0 : Int32).toInt.toNat (Value.int 1)) (fun _ => Value.int 0) (0 : Int32).toInt.toNat (0 : Int32).toInt.toNat (1 : Int32).toInt.toNat) (3 : Int32).toInt.toNat (Value.int 0)) (3 : Int32).toInt.toNat (Value.int 0)) (2 : Int32).toInt.toNat (Value.int 8)) (0 : Int32).toInt.toNat (Value.int 0)) (1 : Int32).toInt.toNat (Value.int 0)))).set 137 (Sum.inr (13, [Value.ref 138, Value.int 3]))).set (161 + 2 * (xs 1).toInt.toNat) (Sum.inl (0, 140, xcp (xup (xup (xup (xup (xup (xcp (xup (fun _ => Value.int 0) (0 : Int32).toInt.toNat (Value.int 1)) (fun _ => Value.int 0) (0 : Int32).toInt.toNat (0 : Int32).toInt.toNat (1 : Int32).toInt.toNat) (3 : Int32).toInt.toNat (Value.int 0)) (3 : Int32).toInt.toNat (Value.int 0)) (2 : Int32).toInt.toNat (Value.int 8)) (0 : Int32).toInt.toNat (Value.int 0)) (1 : Int32).toInt.toNat (Value.int 0)) (fun _ => Value.int 0) (0 : Int32).toInt.toNat (0 : Int32).toInt.toNat (3 : Int32).toInt.toNat))).set (160 + 2 * (xs 1).toInt.toNat) (Sum.inr (13, [Value.ref (161 + 2 * (xs 1).toInt.toNat), Value.int 3]))).set 154 (Sum.inl (0, 17, xup (fun _ => Value.int 0) (xs 1).toInt.toNat (Value.int 3)))).set 155 (Sum.inl (0, 17, xup (fun _ => Value.int 0) (xs 1).toInt.toNat (Value.int (-16384))))).set 156 (Sum.inl (2, 17, xup (xup (fun _ => Value.int 0) (xs 1).toInt.toNat (Value.int 1)) (xs 1).toInt.toNat (Value.int 1)))).set 128 (Sum.inr (12, [Value.ref 129, Value.ref 131, Value.ref 133, Value.ref 135, Value.ref 137, Value.ref 139, Value.ref 141, Value.ref 143, Value.ref 145, Value.ref 147, Value.ref 149, Value.ref 151, Value.ref 153, Value.ref 154, Value.ref 155, Value.ref 156, Value.ref 157, Value.int (-16384), Value.int 16384, Value.int 5, Value.int 0, Value.int 0, Value.ref 158, Value.ref 159, Value.int 0, Value.int 0, Value.int 0, Value.int 0, Value.int 0, Value.int 0, Value.int 0, Value.int 0]))), ?_, ?_, xgs (xgn (by decide) (xgn (by decide) (xgn (by decide) (xgn (by omega) (xgn (by omega) (xgn (by decide) (xgn (by decide) (xgn (by decide) (xgn (by decide) (xgn (by omega) (xgn (by decide) (xgn (by decide) (xgn (by decide) (xgs hm))))))))))))))⟩
  · refine i_180_207 (x := 128) rfl ?_
    refine i_180_208 (v := Value.int 0) hm rfl ?_
    refine i_180_211 (fun h => absurd h (by decide)) (fun _ => ?_)
    refine i_180_214 (x := 128) rfl ?_
    refine i_180_215 (v := Value.ref 135) hm rfl ?_
    refine i_180_218 (v := Value.int 3) hq rfl ?_
    refine i_180_221 (fun h => absurd h (by decide)) (fun _ => ?_)
    refine i_180_224 (x := E) rfl ?_
    refine i_180_226 (x := 128) rfl ?_
    refine i_180_227 (v := Value.int 16384) hm rfl ?_
    refine i_180_230 (fun _ => ?_) (fun h => absurd (show E.toInt ≤ 16384 by omega) (Int.not_le.mpr h))
    refine i_180_367 (x := 128) rfl ?_
    refine i_180_368 (v := Value.ref 135) hm rfl ?_
    refine i_180_371 (v := Value.int 3) hq rfl ?_
    refine i_180_374 (fun _ => ?_) (fun h => absurd h (by decide))
    refine i_180_392 (x := 128) rfl ?_
    refine i_180_393 (v := Value.int 0) hm rfl ?_
    refine i_180_396 (fun h => absurd h (by decide)) (fun _ => ?_)
    refine i_180_399 (x := 128) rfl ?_
    refine i_180_400 (v := Value.int 0) hm rfl ?_
    refine i_180_403 (fun h => absurd h (by decide)) (fun _ => ?_)
    refine i_180_406 (x := E) rfl ?_
    refine i_180_408 (x := 128) rfl ?_
    refine i_180_409 (v := Value.int (-16384)) hm rfl ?_
    refine i_180_412 (fun h => absurd (show E.toInt < (-16384) by omega) (Int.not_lt.mpr h)) (fun _ => ?_)
    refine i_180_415 (x := 128) rfl ?_
    refine i_180_416 rfl ?_
    refine i_180_417 (v := Value.int 0) hm rfl ?_
    refine i_180_420 ?_
    refine i_180_421 (c := 4) (by decide) ?_
    refine i_180_422 (fs2 := [Value.ref 129, Value.ref 131, Value.ref 133, Value.ref 135, Value.ref 137, Value.ref 139, Value.ref 141, Value.ref 143, Value.ref 145, Value.ref 147, Value.ref 149, Value.ref 151, Value.ref 153, Value.ref 154, Value.ref 155, Value.ref 156, Value.ref 157, Value.int (-16384), Value.int 16384, Value.int 4, Value.int 0, Value.int 0, Value.ref 158, Value.ref 159, Value.int 0, Value.int 0, Value.int 0, Value.int 0, Value.int 0, Value.int 0, Value.int 0, Value.int 0]) hm (Nat.le_of_ble_eq_true rfl) rfl (by omega) ?_
    refine i_180_425 (x := E) rfl ?_
    refine i_180_427 (x := 128) rfl ?_
    refine i_180_428 (v := Value.int (-16384)) (xgs hm) rfl ?_
    refine i_180_431 ?_
    refine i_180_432 (c := (-16385)) (by decide) ?_
    refine i_180_433 (fun h => absurd (show E.toInt ≤ (-16385) by omega) (Int.not_le.mpr h)) (fun _ => ?_)
    refine i_180_436 (x := E) rfl ?_
    refine i_180_438 (x := 128) rfl ?_
    refine i_180_439 (v := Value.int (-16384)) (xgs hm) rfl ?_
    refine i_180_442 ?_
    refine i_180_443 (c := (-16385)) (by decide) ?_
    refine i_180_444 (fun h => absurd (show E.toInt = (-16385) by omega) h) (fun _ => ?_)
    refine i_180_447 (x := 0) rfl ?_
    refine i_180_449 (fun h => absurd h (by decide)) (fun _ => ?_)
    refine i_180_452 (x := 129) rfl ?_
    refine i_180_453 (x := 129) rfl ?_
    refine i_180_454 (xgn (by decide) hv) (Nat.le_of_ble_eq_true rfl) (hbits _ _ (xgn (by omega) (rfl)) (xgn (by omega) (rfl))) ?_
    refine i_180_457 ?_
    refine i_180_458 (c := (B - (1 : Int32))) rfl ?_
    refine i_180_459 (xgn (by decide) hv) (Nat.le_of_ble_eq_true rfl) (hany1 c15 _ _ (xgn (by omega) (rfl)) (xgn (by omega) (rfl))) ?_
    refine i_180_462 (fun h => absurd h (by decide)) (fun _ => ?_)
    refine i_180_465 ?_
    refine i_180_466 ?_
    refine i_180_470 (lv2 := [(15, Value.int 1), (14, Value.int 0), (13, Value.int E), (12, Value.int 1), (11, Value.int 0), (10, Value.int C), (9, Value.int U), (8, Value.int E), (7, Value.int 64), (0, Value.ref 128), (1, Value.int (xs 1)), (2, Value.ref 129), (3, Value.int sc), (4, Value.int 0), (5, Value.int 1), (6, Value.int md)]) rfl ?_
    refine i_180_472 (x := md) rfl ?_
    refine i_180_474 ?_
    refine i_180_475 (fun _ => ?_) (fun h => absurd (show md.toInt = 4 by omega) h)
    refine i_180_510 ?_
    refine i_180_511 ?_
    refine i_180_515 (lv2 := [(16, Value.int 1), (15, Value.int 1), (14, Value.int 0), (13, Value.int E), (12, Value.int 1), (11, Value.int 0), (10, Value.int C), (9, Value.int U), (8, Value.int E), (7, Value.int 64), (0, Value.ref 128), (1, Value.int (xs 1)), (2, Value.ref 129), (3, Value.int sc), (4, Value.int 0), (5, Value.int 1), (6, Value.int md)]) rfl ?_
    refine i_180_517 (x := 1) rfl ?_
    refine i_180_519 (fun h => absurd h (by decide)) (fun _ => ?_)
    refine i_180_522 (x := 128) rfl ?_
    refine i_180_523 (v := Value.ref 151) (xgs hm) rfl ?_
    refine i_180_526 ?_
    refine i_180_527 (xgn (by decide) (((hk 151 (by decide) (by decide) (by decide) (by decide) (by decide)).trans W0_151))) (Nat.le_of_ble_eq_true rfl) (s_179_2 (xgn (by decide) (((hk 151 (by decide) (by decide) (by decide) (by decide) (by decide)).trans W0_151))) (xgn (by decide) (((hk 152 (by decide) (by decide) (by decide) (by decide) (by decide)).trans W0_152)))) ?_
    refine i_180_530 (x := 128) rfl ?_
    refine i_180_531 (x := (xs 1)) rfl ?_
    refine i_180_532 (x := 128) rfl ?_
    refine i_180_533 (v := Value.ref 151) (xgn (by decide) (xgn (by decide) (xgn (by decide) (xgs hm)))) rfl ?_
    refine i_180_536 (x := 128) rfl ?_
    refine i_180_537 (v := Value.int (-16384)) (xgn (by decide) (xgn (by decide) (xgn (by decide) (xgs hm)))) rfl ?_
    refine i_180_540 ?_
    refine i_180_541 (c := (-16385)) (by decide) ?_
    refine i_180_542 (xgn (by decide) (xgn (by decide) (xgn (by decide) (xgs hm)))) (Nat.le_of_ble_eq_true rfl) (s_192_1 (xgn (by decide) (xgn (by decide) (xgn (by decide) (xgs hm)))) (xgn (by decide) (xgn (by decide) (xgn (by decide) (xgn (by decide) (((hk 153 (by decide) (by decide) (by decide) (by decide) (by decide)).trans W0_153)))))) (by omega) (by omega) (gprec_at (by omega)) (xgs (xgn (by decide) (xgs (xgn (by decide) (((hk 151 (by decide) (by decide) (by decide) (by decide) (by decide)).trans W0_151)))))) (xgn (by decide) (xgs (xgn (by decide) (xgn (by decide) (((hk 152 (by decide) (by decide) (by decide) (by decide) (by decide)).trans W0_152)))))) xup_s (xgn (by decide) (xgn (by decide) (xgn (by decide) (xgn (by decide) (((hk 157 (by decide) (by decide) (by decide) (by decide) (by decide)).trans W0_157)))))) (gpart_at (by omega)) (xgn (by omega) (xgn (by omega) (xgn (by omega) (xgn (by omega) (((hk _ (by omega) (by omega) (by omega) (by omega) (by omega)).trans (W0_part (by omega)))))))) (by omega) (by omega) (by omega) (xgn (by decide) (xgn (by decide) (xgn (by decide) (xgn (by decide) (((hk 137 (by decide) (by decide) (by decide) (by decide) (by decide)).trans W0_137)))))) (by omega) (by omega) (by omega) (xgn (by decide) (xgn (by decide) (xgn (by decide) (xgn (by decide) (((hk 138 (by decide) (by decide) (by decide) (by decide) (by decide)).trans W0_138)))))) (by omega) (by omega) (by omega) (by omega) (by omega) (by omega) (xgn (by omega) (xgn (by omega) (xgn (by omega) (xgn (by omega) (((hk _ (by omega) (by omega) (by omega) (by omega) (by omega)).trans (W0_pw (by omega)))))))) (by omega) (by omega) (by omega) (by omega) (by omega) (by omega) (xgn (by decide) (xgn (by decide) (xgn (by decide) (xgn (by decide) (((hk 154 (by decide) (by decide) (by decide) (by decide) (by decide)).trans W0_154)))))) (by omega) (by omega) (xgn (by decide) (xgn (by decide) (xgn (by decide) (xgn (by decide) (((hk 155 (by decide) (by decide) (by decide) (by decide) (by decide)).trans W0_155))))))) ?_
    refine i_180_545 (x := 128) rfl ?_
    refine i_180_546 (v := Value.ref 156) (xgn (by decide) (xgn (by decide) (xgn (by omega) (xgn (by omega) (xgn (by decide) (xgn (by decide) (xgn (by decide) (xgn (by decide) (xgn (by omega) (xgn (by decide) (xgn (by decide) (xgn (by decide) (xgs hm))))))))))))) rfl ?_
    refine i_180_549 (x := (xs 1)) rfl ?_
    refine i_180_550 (x := 1) rfl ?_
    refine i_180_552z (v := Value.int 1) (xgn (by decide) (xgn (by decide) (xgn (by omega) (xgn (by omega) (xgn (by decide) (xgn (by decide) (xgn (by decide) (xgn (by decide) (xgn (by omega) (xgn (by decide) (xgn (by decide) (xgn (by decide) (xgn (by decide) hn))))))))))))) (by omega) (by omega) (by omega) rfl ?_
    refine i_180_553 ?_
    refine i_180_565 (x := 1) rfl ?_
    refine i_180_567 (fun h => absurd h (by decide)) (fun _ => ?_)
    refine i_180_570 ?_
    refine i_180_571 ?_
    refine i_180_575 (lv2 := [(14, Value.int 1), (16, Value.int 1), (15, Value.int 1), (13, Value.int E), (12, Value.int 1), (11, Value.int 0), (10, Value.int C), (9, Value.int U), (8, Value.int E), (7, Value.int 64), (0, Value.ref 128), (1, Value.int (xs 1)), (2, Value.ref 129), (3, Value.int sc), (4, Value.int 0), (5, Value.int 1), (6, Value.int md)]) rfl ?_
    refine i_180_577 ?_
    refine i_180_591 (x := 128) rfl ?_
    refine i_180_592 (v := Value.int 0) (xgn (by decide) (xgn (by decide) (xgn (by decide) (xgn (by omega) (xgn (by omega) (xgn (by decide) (xgn (by decide) (xgn (by decide) (xgn (by decide) (xgn (by omega) (xgn (by decide) (xgn (by decide) (xgn (by decide) (xgs hm)))))))))))))) rfl ?_
    refine i_180_595 (fun h => absurd h (by decide)) (fun _ => ?_)
    refine i_180_598 (x := 128) rfl ?_
    refine i_180_599 (v := Value.int 0) (xgn (by decide) (xgn (by decide) (xgn (by decide) (xgn (by omega) (xgn (by omega) (xgn (by decide) (xgn (by decide) (xgn (by decide) (xgn (by decide) (xgn (by omega) (xgn (by decide) (xgn (by decide) (xgn (by decide) (xgs hm)))))))))))))) rfl ?_
    refine i_180_602 (fun _ => ?_) (fun h => absurd h (by decide))
    refine i_180_629 (x := 1) rfl ?_
    refine i_180_631 (fun h => absurd h (by decide)) (fun _ => ?_)
    refine i_180_634 (x := 128) rfl ?_
    refine i_180_635 rfl ?_
    refine i_180_636 (v := Value.int 4) (xgn (by decide) (xgn (by decide) (xgn (by decide) (xgn (by omega) (xgn (by omega) (xgn (by decide) (xgn (by decide) (xgn (by decide) (xgn (by decide) (xgn (by omega) (xgn (by decide) (xgn (by decide) (xgn (by decide) (xgs hm)))))))))))))) rfl ?_
    refine i_180_639 ?_
    refine i_180_640 (c := 5) (by decide) ?_
    refine i_180_641 (fs2 := [Value.ref 129, Value.ref 131, Value.ref 133, Value.ref 135, Value.ref 137, Value.ref 139, Value.ref 141, Value.ref 143, Value.ref 145, Value.ref 147, Value.ref 149, Value.ref 151, Value.ref 153, Value.ref 154, Value.ref 155, Value.ref 156, Value.ref 157, Value.int (-16384), Value.int 16384, Value.int 5, Value.int 0, Value.int 0, Value.ref 158, Value.ref 159, Value.int 0, Value.int 0, Value.int 0, Value.int 0, Value.int 0, Value.int 0, Value.int 0, Value.int 0]) (xgn (by decide) (xgn (by decide) (xgn (by decide) (xgn (by omega) (xgn (by omega) (xgn (by decide) (xgn (by decide) (xgn (by decide) (xgn (by decide) (xgn (by omega) (xgn (by decide) (xgn (by decide) (xgn (by decide) (xgs hm)))))))))))))) (Nat.le_of_ble_eq_true rfl) rfl (by omega) ?_
    refine i_180_644 (x := 1) rfl ?_
    refine i_180_646 (fun h => absurd h (by decide)) (fun _ => ?_)
    refine i_180_649 (x := 1) rfl ?_
    refine i_180_651 (c := (-1)) (by decide) ?_
    refine i_180_652 ?_
    exact i_180_657 ⟨rfl, rfl⟩
  · refine xKp.set ?_ (fun h hh => by unfold xPM at hh; omega) (xgn (by decide) (xgn (by decide) (xgn (by decide) (xgn (by omega) (xgn (by omega) (xgn (by decide) (xgn (by decide) (xgn (by decide) (xgn (by decide) (xgn (by omega) (xgn (by decide) (xgn (by decide) (xgn (by decide) (xgs hm)))))))))))))) xcs_o
    refine xKp.set ?_ (fun h hh => by unfold xPM at hh; omega) (xgn (by decide) (xgn (by decide) (xgn (by omega) (xgn (by omega) (xgn (by decide) (xgn (by decide) (xgn (by decide) (xgn (by decide) (xgn (by omega) (xgn (by decide) (xgn (by decide) (xgn (by decide) (xgn (by decide) hn))))))))))))) xcs_a
    refine xKp.set ?_ (fun h hh => by unfold xPM at hh; omega) (xgn (by decide) (xgn (by omega) (xgn (by omega) (xgn (by decide) (xgn (by decide) (xgn (by decide) (xgn (by decide) (xgn (by omega) (xgn (by decide) (xgn (by decide) (xgn (by decide) (xgn (by decide) (((hk 155 (by decide) (by decide) (by decide) (by decide) (by decide)).trans W0_155)))))))))))))) xcs_a
    refine xKp.set ?_ (fun h hh => by unfold xPM at hh; omega) (xgn (by omega) (xgn (by omega) (xgn (by decide) (xgn (by decide) (xgn (by decide) (xgn (by decide) (xgn (by omega) (xgn (by decide) (xgn (by decide) (xgn (by decide) (xgn (by decide) (((hk 154 (by decide) (by decide) (by decide) (by decide) (by decide)).trans W0_154))))))))))))) xcs_a
    refine xKp.set ?_ (fun h hh => by unfold xPM at hh; omega) (xgn (by omega) (xgn (by omega) (xgn (by omega) (xgn (by omega) (xgn (by omega) (xgs (xgn (by omega) (xgn (by omega) (xgn (by omega) (xgn (by omega) (((hk _ (by omega) (by omega) (by omega) (by omega) (by omega)).trans (W0_part (by omega)))))))))))))) xcs_o
    refine xKp.set ?_ (fun h hh => by unfold xPM at hh; omega) (xgn (by omega) (xgn (by omega) (xgn (by omega) (xgn (by omega) (xgn (by omega) (xgn (by omega) (xgn (by omega) (xgn (by omega) (xgn (by omega) (((hk _ (by omega) (by omega) (by omega) (by omega) (by omega)).trans (W0_pw (by omega))))))))))))) xcs_a
    refine xKp.set ?_ (fun h hh => by unfold xPM at hh; omega) (xgn (by decide) (xgs (xgn (by decide) (xgn (by omega) (xgn (by decide) (xgn (by decide) (xgn (by decide) (xgn (by decide) (((hk 137 (by decide) (by decide) (by decide) (by decide) (by decide)).trans W0_137)))))))))) xcs_o
    refine xKp.set ?_ (fun h hh => by unfold xPM at hh; omega) (xgn (by decide) (xgs (xgn (by omega) (xgn (by decide) (xgn (by decide) (xgn (by decide) (xgn (by decide) (((hk 138 (by decide) (by decide) (by decide) (by decide) (by decide)).trans W0_138))))))))) xcs_a
    refine xKp.set ?_ (fun h hh => by unfold xPM at hh; omega) (xgn (by decide) (xgn (by omega) (xgn (by decide) (xgn (by decide) (xgn (by decide) (xgn (by decide) (((hk 137 (by decide) (by decide) (by decide) (by decide) (by decide)).trans W0_137)))))))) xcs_o
    refine xKp.set ?_ (fun h hh => by unfold xPM at hh; omega) (xgn (by omega) (xgn (by decide) (xgn (by decide) (xgn (by decide) (xgn (by decide) (((hk 138 (by decide) (by decide) (by decide) (by decide) (by decide)).trans W0_138))))))) xcs_a
    refine xKp.set ?_ (fun h hh => by unfold xPM at hh; omega) (xgn (by omega) (xgn (by omega) (xgn (by omega) (xgn (by omega) (((hk _ (by omega) (by omega) (by omega) (by omega) (by omega)).trans (W0_part (by omega)))))))) xcs_o
    refine xKp.set ?_ (fun h hh => by unfold xPM at hh; omega) (xgn (by decide) (xgs (xgn (by decide) (((hk 151 (by decide) (by decide) (by decide) (by decide) (by decide)).trans W0_151))))) xcs_o
    refine xKp.set ?_ (fun h hh => by unfold xPM at hh; omega) (xgn (by decide) (xgn (by decide) (((hk 152 (by decide) (by decide) (by decide) (by decide) (by decide)).trans W0_152)))) xcs_a
    refine xKp.set ?_ (fun h hh => by unfold xPM at hh; omega) (xgn (by decide) (((hk 151 (by decide) (by decide) (by decide) (by decide) (by decide)).trans W0_151))) xcs_o
    refine xKp.set ?_ (fun h hh => by unfold xPM at hh; omega) (hm) xcs_o
    exact xKp.refl
theorem sf1_11 {d : Nat} {xs : Nat → Int32} {m : Int64} {sc md : Int32} {w : xW} {B E U C q0 q1 q2 nn : Int32} {g : Nat → Value} (hk : ∀ h, 131 ≤ h → h < 194 → h ≠ 135 → h ≠ 136 → h ≠ 156 → w[h]? = (W0 6 xs)[h]?) (hm : w[128]? = some (Sum.inr (12, [Value.ref 129, Value.ref 131, Value.ref 133, Value.ref 135, Value.ref 137, Value.ref 139, Value.ref 141, Value.ref 143, Value.ref 145, Value.ref 147, Value.ref 149, Value.ref 151, Value.ref 153, Value.ref 154, Value.ref 155, Value.ref 156, Value.ref 157, Value.int (-16384), Value.int 16384, Value.int 0, Value.int 0, Value.int 0, Value.ref 158, Value.ref 159, Value.int 0, Value.int 0, Value.int 0, Value.int 0, Value.int 0, Value.int 0, Value.int 0, Value.int 0]))) (hv : w[129]? = some (Sum.inr (13, [Value.ref 130, Value.int nn]))) (hq : w[135]? = some (Sum.inr (13, [Value.ref 136, Value.int 3]))) (hqw : w[136]? = some (Sum.inl (0, 4700, g))) (hg0 : g (0 : Int32).toInt.toNat = Value.int q0) (hg1 : g (1 : Int32).toInt.toNat = Value.int q1) (hg2 : g (2 : Int32).toInt.toNat = Value.int q2) (hn : w[156]? = some (Sum.inl (2, 17, xup (fun _ => Value.int 0) (xs 1).toInt.toNat (Value.int 1)))) (hbits : ∀ (d' : Nat) (w' : xW), w'[129]? = w[129]? → w'[130]? = w[130]? → xRun d' 181 [Value.ref 129] w' (.inl (some (Value.int B))) w') (hany0 : xPW m → ∀ (d' : Nat) (w' : xW), w'[129]? = w[129]? → w'[130]? = w[130]? → xRun d' 183 [Value.ref 129, Value.int (B - (1 : Int32))] w' (.inl (some (Value.int 0))) w') (hany1 : ¬ xPW m → ∀ (d' : Nat) (w' : xW), w'[129]? = w[129]? → w'[130]? = w[130]? → xRun d' 183 [Value.ref 129, Value.int (B - (1 : Int32))] w' (.inl (some (Value.int 1))) w') (c0 : 0 ≤ (xs 1).toInt) (c1 : (xs 1).toInt < 16) (c2 : (-40000) ≤ sc.toInt) (c3 : sc.toInt ≤ 40000) (c4 : 0 ≤ md.toInt) (c5 : md.toInt ≤ 4) (c6 : 1 ≤ B.toInt) (c7 : B.toInt ≤ 64) (c8 : E.toInt = B.toInt + sc.toInt) (c9 : U.toInt = E.toInt - 64) (c10 : 0 ≤ q2.toInt) (c11 : (xbn q2).toInt = 4) (c12 : E.toInt ≤ 16384) (c13 : E.toInt < (-16384)) (c14 : E.toInt = (-16385)) (c15 : ¬ xPW m) (c16 : md.toInt ≠ 4) (c17 : md.toInt = 2) : ∃ w2, xEv (d + 6) 180 207 [(14, Value.int 0), (13, Value.int E), (12, Value.int 1), (11, Value.int 0), (10, Value.int C), (9, Value.int U), (8, Value.int E), (7, Value.int 64), (0, Value.ref 128), (1, Value.int (xs 1)), (2, Value.ref 129), (3, Value.int sc), (4, Value.int 0), (5, Value.int 1), (6, Value.int md)] [] w (fun o' w' => o' = .inl (some (Value.int 1)) ∧ w' = w2) ∧ xKp w w2 xPM ∧ w2[128]? = some (Sum.inr (12, [Value.ref 129, Value.ref 131, Value.ref 133, Value.ref 135, Value.ref 137, Value.ref 139, Value.ref 141, Value.ref 143, Value.ref 145, Value.ref 147, Value.ref 149, Value.ref 151, Value.ref 153, Value.ref 154, Value.ref 155, Value.ref 156, Value.ref 157, Value.int (-16384), Value.int 16384, Value.int 5, Value.int 0, Value.int 0, Value.ref 158, Value.ref 159, Value.int 0, Value.int 0, Value.int 0, Value.int 0, Value.int 0, Value.int 0, Value.int 0, Value.int 0])) := by
  refine ⟨((((w.set 128 (Sum.inr (12, [Value.ref 129, Value.ref 131, Value.ref 133, Value.ref 135, Value.ref 137, Value.ref 139, Value.ref 141, Value.ref 143, Value.ref 145, Value.ref 147, Value.ref 149, Value.ref 151, Value.ref 153, Value.ref 154, Value.ref 155, Value.ref 156, Value.ref 157, Value.int (-16384), Value.int 16384, Value.int 4, Value.int 0, Value.int 0, Value.ref 158, Value.ref 159, Value.int 0, Value.int 0, Value.int 0, Value.int 0, Value.int 0, Value.int 0, Value.int 0, Value.int 0]))).set 154 (Sum.inl (0, 17, xup (fun _ => Value.int 0) (xs 1).toInt.toNat (Value.int 2)))).set 156 (Sum.inl (2, 17, xup (xup (fun _ => Value.int 0) (xs 1).toInt.toNat (Value.int 1)) (xs 1).toInt.toNat (Value.int 1)))).set 128 (Sum.inr (12, [Value.ref 129, Value.ref 131, Value.ref 133, Value.ref 135, Value.ref 137, Value.ref 139, Value.ref 141, Value.ref 143, Value.ref 145, Value.ref 147, Value.ref 149, Value.ref 151, Value.ref 153, Value.ref 154, Value.ref 155, Value.ref 156, Value.ref 157, Value.int (-16384), Value.int 16384, Value.int 5, Value.int 0, Value.int 0, Value.ref 158, Value.ref 159, Value.int 0, Value.int 0, Value.int 0, Value.int 0, Value.int 0, Value.int 0, Value.int 0, Value.int 0]))), ?_, ?_, xgs (xgn (by decide) (xgn (by decide) (xgs hm)))⟩
  · refine i_180_207 (x := 128) rfl ?_
    refine i_180_208 (v := Value.int 0) hm rfl ?_
    refine i_180_211 (fun h => absurd h (by decide)) (fun _ => ?_)
    refine i_180_214 (x := 128) rfl ?_
    refine i_180_215 (v := Value.ref 135) hm rfl ?_
    refine i_180_218 (v := Value.int 3) hq rfl ?_
    refine i_180_221 (fun h => absurd h (by decide)) (fun _ => ?_)
    refine i_180_224 (x := E) rfl ?_
    refine i_180_226 (x := 128) rfl ?_
    refine i_180_227 (v := Value.int 16384) hm rfl ?_
    refine i_180_230 (fun _ => ?_) (fun h => absurd (show E.toInt ≤ 16384 by omega) (Int.not_le.mpr h))
    refine i_180_367 (x := 128) rfl ?_
    refine i_180_368 (v := Value.ref 135) hm rfl ?_
    refine i_180_371 (v := Value.int 3) hq rfl ?_
    refine i_180_374 (fun _ => ?_) (fun h => absurd h (by decide))
    refine i_180_392 (x := 128) rfl ?_
    refine i_180_393 (v := Value.int 0) hm rfl ?_
    refine i_180_396 (fun h => absurd h (by decide)) (fun _ => ?_)
    refine i_180_399 (x := 128) rfl ?_
    refine i_180_400 (v := Value.int 0) hm rfl ?_
    refine i_180_403 (fun h => absurd h (by decide)) (fun _ => ?_)
    refine i_180_406 (x := E) rfl ?_
    refine i_180_408 (x := 128) rfl ?_
    refine i_180_409 (v := Value.int (-16384)) hm rfl ?_
    refine i_180_412 (fun h => absurd (show E.toInt < (-16384) by omega) (Int.not_lt.mpr h)) (fun _ => ?_)
    refine i_180_415 (x := 128) rfl ?_
    refine i_180_416 rfl ?_
    refine i_180_417 (v := Value.int 0) hm rfl ?_
    refine i_180_420 ?_
    refine i_180_421 (c := 4) (by decide) ?_
    refine i_180_422 (fs2 := [Value.ref 129, Value.ref 131, Value.ref 133, Value.ref 135, Value.ref 137, Value.ref 139, Value.ref 141, Value.ref 143, Value.ref 145, Value.ref 147, Value.ref 149, Value.ref 151, Value.ref 153, Value.ref 154, Value.ref 155, Value.ref 156, Value.ref 157, Value.int (-16384), Value.int 16384, Value.int 4, Value.int 0, Value.int 0, Value.ref 158, Value.ref 159, Value.int 0, Value.int 0, Value.int 0, Value.int 0, Value.int 0, Value.int 0, Value.int 0, Value.int 0]) hm (Nat.le_of_ble_eq_true rfl) rfl (by omega) ?_
    refine i_180_425 (x := E) rfl ?_
    refine i_180_427 (x := 128) rfl ?_
    refine i_180_428 (v := Value.int (-16384)) (xgs hm) rfl ?_
    refine i_180_431 ?_
    refine i_180_432 (c := (-16385)) (by decide) ?_
    refine i_180_433 (fun h => absurd (show E.toInt ≤ (-16385) by omega) (Int.not_le.mpr h)) (fun _ => ?_)
    refine i_180_436 (x := E) rfl ?_
    refine i_180_438 (x := 128) rfl ?_
    refine i_180_439 (v := Value.int (-16384)) (xgs hm) rfl ?_
    refine i_180_442 ?_
    refine i_180_443 (c := (-16385)) (by decide) ?_
    refine i_180_444 (fun h => absurd (show E.toInt = (-16385) by omega) h) (fun _ => ?_)
    refine i_180_447 (x := 0) rfl ?_
    refine i_180_449 (fun h => absurd h (by decide)) (fun _ => ?_)
    refine i_180_452 (x := 129) rfl ?_
    refine i_180_453 (x := 129) rfl ?_
    refine i_180_454 (xgn (by decide) hv) (Nat.le_of_ble_eq_true rfl) (hbits _ _ (xgn (by omega) (rfl)) (xgn (by omega) (rfl))) ?_
    refine i_180_457 ?_
    refine i_180_458 (c := (B - (1 : Int32))) rfl ?_
    refine i_180_459 (xgn (by decide) hv) (Nat.le_of_ble_eq_true rfl) (hany1 c15 _ _ (xgn (by omega) (rfl)) (xgn (by omega) (rfl))) ?_
    refine i_180_462 (fun h => absurd h (by decide)) (fun _ => ?_)
    refine i_180_465 ?_
    refine i_180_466 ?_
    refine i_180_470 (lv2 := [(15, Value.int 1), (14, Value.int 0), (13, Value.int E), (12, Value.int 1), (11, Value.int 0), (10, Value.int C), (9, Value.int U), (8, Value.int E), (7, Value.int 64), (0, Value.ref 128), (1, Value.int (xs 1)), (2, Value.ref 129), (3, Value.int sc), (4, Value.int 0), (5, Value.int 1), (6, Value.int md)]) rfl ?_
    refine i_180_472 (x := md) rfl ?_
    refine i_180_474 ?_
    refine i_180_475 (fun h => absurd (show md.toInt ≠ 4 by omega) (fun g => g h)) (fun _ => ?_)
    refine i_180_478 (x := md) rfl ?_
    refine i_180_480 ?_
    refine i_180_481 (fun h => absurd (show md.toInt = 2 by omega) h) (fun _ => ?_)
    refine i_180_484 (x := 1) rfl ?_
    refine i_180_486 (fun h => absurd h (by decide)) (fun _ => ?_)
    refine i_180_489 (x := md) rfl ?_
    refine i_180_491 ?_
    refine i_180_492 (fun _ => ?_) (fun h => absurd (show md.toInt ≠ 3 by omega) (fun g => g h))
    refine i_180_500 (x := md) rfl ?_
    refine i_180_502 (fun _ => ?_) (fun h => absurd (show md.toInt ≠ 0 by omega) (fun g => g h))
    refine i_180_514 ?_
    refine i_180_515 (lv2 := [(16, Value.int 0), (15, Value.int 1), (14, Value.int 0), (13, Value.int E), (12, Value.int 1), (11, Value.int 0), (10, Value.int C), (9, Value.int U), (8, Value.int E), (7, Value.int 64), (0, Value.ref 128), (1, Value.int (xs 1)), (2, Value.ref 129), (3, Value.int sc), (4, Value.int 0), (5, Value.int 1), (6, Value.int md)]) rfl ?_
    refine i_180_517 (x := 0) rfl ?_
    refine i_180_519 (fun _ => ?_) (fun h => absurd h (by decide))
    refine i_180_556 (x := 128) rfl ?_
    refine i_180_557 (x := (xs 1)) rfl ?_
    refine i_180_558 ?_
    refine i_180_559 (x := 1) rfl ?_
    refine i_180_561 (xgs hm) (Nat.le_of_ble_eq_true rfl) (s_171_3 (xgs hm) (xgn (by decide) (((hk 154 (by decide) (by decide) (by decide) (by decide) (by decide)).trans W0_154))) (by omega) (by omega) (xgn (by decide) hn)) ?_
    refine i_180_564 rfl ?_
    refine i_180_565 (x := 0) rfl ?_
    refine i_180_567 (fun _ => ?_) (fun h => absurd h (by decide))
    refine i_180_574 ?_
    refine i_180_575 (lv2 := [(14, Value.int (-1)), (16, Value.int 0), (15, Value.int 1), (13, Value.int E), (12, Value.int 1), (11, Value.int 0), (10, Value.int C), (9, Value.int U), (8, Value.int E), (7, Value.int 64), (0, Value.ref 128), (1, Value.int (xs 1)), (2, Value.ref 129), (3, Value.int sc), (4, Value.int 0), (5, Value.int 1), (6, Value.int md)]) rfl ?_
    refine i_180_577 ?_
    refine i_180_591 (x := 128) rfl ?_
    refine i_180_592 (v := Value.int 0) (xgn (by decide) (xgn (by decide) (xgs hm))) rfl ?_
    refine i_180_595 (fun h => absurd h (by decide)) (fun _ => ?_)
    refine i_180_598 (x := 128) rfl ?_
    refine i_180_599 (v := Value.int 0) (xgn (by decide) (xgn (by decide) (xgs hm))) rfl ?_
    refine i_180_602 (fun _ => ?_) (fun h => absurd h (by decide))
    refine i_180_629 (x := (-1)) rfl ?_
    refine i_180_631 (fun h => absurd h (by decide)) (fun _ => ?_)
    refine i_180_634 (x := 128) rfl ?_
    refine i_180_635 rfl ?_
    refine i_180_636 (v := Value.int 4) (xgn (by decide) (xgn (by decide) (xgs hm))) rfl ?_
    refine i_180_639 ?_
    refine i_180_640 (c := 5) (by decide) ?_
    refine i_180_641 (fs2 := [Value.ref 129, Value.ref 131, Value.ref 133, Value.ref 135, Value.ref 137, Value.ref 139, Value.ref 141, Value.ref 143, Value.ref 145, Value.ref 147, Value.ref 149, Value.ref 151, Value.ref 153, Value.ref 154, Value.ref 155, Value.ref 156, Value.ref 157, Value.int (-16384), Value.int 16384, Value.int 5, Value.int 0, Value.int 0, Value.ref 158, Value.ref 159, Value.int 0, Value.int 0, Value.int 0, Value.int 0, Value.int 0, Value.int 0, Value.int 0, Value.int 0]) (xgn (by decide) (xgn (by decide) (xgs hm))) (Nat.le_of_ble_eq_true rfl) rfl (by omega) ?_
    refine i_180_644 (x := 1) rfl ?_
    refine i_180_646 (fun h => absurd h (by decide)) (fun _ => ?_)
    refine i_180_649 (x := (-1)) rfl ?_
    refine i_180_651 (c := 1) (by decide) ?_
    refine i_180_652 ?_
    exact i_180_657 ⟨rfl, rfl⟩
  · refine xKp.set ?_ (fun h hh => by unfold xPM at hh; omega) (xgn (by decide) (xgn (by decide) (xgs hm))) xcs_o
    refine xKp.set ?_ (fun h hh => by unfold xPM at hh; omega) (xgn (by decide) (xgn (by decide) hn)) xcs_a
    refine xKp.set ?_ (fun h hh => by unfold xPM at hh; omega) (xgn (by decide) (((hk 154 (by decide) (by decide) (by decide) (by decide) (by decide)).trans W0_154))) xcs_a
    refine xKp.set ?_ (fun h hh => by unfold xPM at hh; omega) (hm) xcs_o
    exact xKp.refl
theorem sf1_12 {d : Nat} {xs : Nat → Int32} {m : Int64} {sc md : Int32} {w : xW} {B E U C q0 q1 q2 nn : Int32} {g : Nat → Value} (hk : ∀ h, 131 ≤ h → h < 194 → h ≠ 135 → h ≠ 136 → h ≠ 156 → w[h]? = (W0 6 xs)[h]?) (hm : w[128]? = some (Sum.inr (12, [Value.ref 129, Value.ref 131, Value.ref 133, Value.ref 135, Value.ref 137, Value.ref 139, Value.ref 141, Value.ref 143, Value.ref 145, Value.ref 147, Value.ref 149, Value.ref 151, Value.ref 153, Value.ref 154, Value.ref 155, Value.ref 156, Value.ref 157, Value.int (-16384), Value.int 16384, Value.int 0, Value.int 0, Value.int 0, Value.ref 158, Value.ref 159, Value.int 0, Value.int 0, Value.int 0, Value.int 0, Value.int 0, Value.int 0, Value.int 0, Value.int 0]))) (hv : w[129]? = some (Sum.inr (13, [Value.ref 130, Value.int nn]))) (hq : w[135]? = some (Sum.inr (13, [Value.ref 136, Value.int 3]))) (hqw : w[136]? = some (Sum.inl (0, 4700, g))) (hg0 : g (0 : Int32).toInt.toNat = Value.int q0) (hg1 : g (1 : Int32).toInt.toNat = Value.int q1) (hg2 : g (2 : Int32).toInt.toNat = Value.int q2) (hn : w[156]? = some (Sum.inl (2, 17, xup (fun _ => Value.int 0) (xs 1).toInt.toNat (Value.int 1)))) (hbits : ∀ (d' : Nat) (w' : xW), w'[129]? = w[129]? → w'[130]? = w[130]? → xRun d' 181 [Value.ref 129] w' (.inl (some (Value.int B))) w') (hany0 : xPW m → ∀ (d' : Nat) (w' : xW), w'[129]? = w[129]? → w'[130]? = w[130]? → xRun d' 183 [Value.ref 129, Value.int (B - (1 : Int32))] w' (.inl (some (Value.int 0))) w') (hany1 : ¬ xPW m → ∀ (d' : Nat) (w' : xW), w'[129]? = w[129]? → w'[130]? = w[130]? → xRun d' 183 [Value.ref 129, Value.int (B - (1 : Int32))] w' (.inl (some (Value.int 1))) w') (c0 : 0 ≤ (xs 1).toInt) (c1 : (xs 1).toInt < 16) (c2 : (-40000) ≤ sc.toInt) (c3 : sc.toInt ≤ 40000) (c4 : 0 ≤ md.toInt) (c5 : md.toInt ≤ 4) (c6 : 1 ≤ B.toInt) (c7 : B.toInt ≤ 64) (c8 : E.toInt = B.toInt + sc.toInt) (c9 : U.toInt = E.toInt - 64) (c10 : 0 ≤ q2.toInt) (c11 : (xbn q2).toInt = 4) (c12 : E.toInt ≤ 16384) (c13 : E.toInt < (-16384)) (c14 : E.toInt = (-16385)) (c15 : ¬ xPW m) (c16 : md.toInt ≠ 4) (c17 : md.toInt ≠ 2) (c18 : md.toInt = 3) : ∃ w2, xEv (d + 6) 180 207 [(14, Value.int 0), (13, Value.int E), (12, Value.int 1), (11, Value.int 0), (10, Value.int C), (9, Value.int U), (8, Value.int E), (7, Value.int 64), (0, Value.ref 128), (1, Value.int (xs 1)), (2, Value.ref 129), (3, Value.int sc), (4, Value.int 0), (5, Value.int 1), (6, Value.int md)] [] w (fun o' w' => o' = .inl (some (Value.int (-1))) ∧ w' = w2) ∧ xKp w w2 xPM ∧ w2[128]? = some (Sum.inr (12, [Value.ref 129, Value.ref 131, Value.ref 133, Value.ref 135, Value.ref 137, Value.ref 139, Value.ref 141, Value.ref 143, Value.ref 145, Value.ref 147, Value.ref 149, Value.ref 151, Value.ref 153, Value.ref 154, Value.ref 155, Value.ref 156, Value.ref 157, Value.int (-16384), Value.int 16384, Value.int 5, Value.int 0, Value.int 0, Value.ref 158, Value.ref 159, Value.int 0, Value.int 0, Value.int 0, Value.int 0, Value.int 0, Value.int 0, Value.int 0, Value.int 0])) := by
  refine ⟨(((((((((((((((w.set 128 (Sum.inr (12, [Value.ref 129, Value.ref 131, Value.ref 133, Value.ref 135, Value.ref 137, Value.ref 139, Value.ref 141, Value.ref 143, Value.ref 145, Value.ref 147, Value.ref 149, Value.ref 151, Value.ref 153, Value.ref 154, Value.ref 155, Value.ref 156, Value.ref 157, Value.int (-16384), Value.int 16384, Value.int 4, Value.int 0, Value.int 0, Value.ref 158, Value.ref 159, Value.int 0, Value.int 0, Value.int 0, Value.int 0, Value.int 0, Value.int 0, Value.int 0, Value.int 0]))).set 151 (Sum.inr (13, [Value.ref 152, Value.int 0]))).set 152 (Sum.inl (0, 4700, xup (fun _ => Value.int 0) (0 : Int32).toInt.toNat (Value.int 1)))).set 151 (Sum.inr (13, [Value.ref 152, Value.int 1]))).set (160 + 2 * (xs 1).toInt.toNat) (Sum.inr (13, [Value.ref (161 + 2 * (xs 1).toInt.toNat), Value.int 0]))).set 138 (Sum.inl (0, 4700, xcp (xup (fun _ => Value.int 0) (0 : Int32).toInt.toNat (Value.int 1)) (fun _ => Value.int 0) (0 : Int32).toInt.toNat (0 : Int32).toInt.toNat (1 : Int32).toInt.toNat))).set 137 (Sum.inr (13, [Value.ref 138, Value.int 1]))).set 138 (Sum.inl (0, 4700, xup (xup (xup (xup (xup (xcp (xup (fun _ => Value.int 0) (0 : Int32).toInt.toNat (Value.int 1)) (fun _ => Value.int 0) (0 : Int32).toInt.toNat (0 : Int32).toInt.toNat (1 : Int32).toInt.toNat) (3 : Int32).toInt.toNat (Value.int 0)) (3 : Int32).toInt.toNat (Value.int 0)) (2 : Int32).toInt.toNat (Value.int 8)) (0 : Int32).toInt.toNat (Value.int 0)) (1 : Int32).toInt.toNat (Value.int 0)))).set 137 (Sum.inr (13, [Value.ref 138, Value.int 3]))).set (161 + 2 * (xs 1).toInt.toNat) (Sum.inl (0, 140, xcp (xup (xup (xup (xup (xup (xcp (xup (fun _ => Value.int 0) (0 : Int32).toInt.toNat (Value.int 1)) (fun _ => Value.int 0) (0 : Int32).toInt.toNat (0 : Int32).toInt.toNat (1 : Int32).toInt.toNat) (3 : Int32).toInt.toNat (Value.int 0)) (3 : Int32).toInt.toNat (Value.int 0)) (2 : Int32).toInt.toNat (Value.int 8)) (0 : Int32).toInt.toNat (Value.int 0)) (1 : Int32).toInt.toNat (Value.int 0)) (fun _ => Value.int 0) (0 : Int32).toInt.toNat (0 : Int32).toInt.toNat (3 : Int32).toInt.toNat))).set (160 + 2 * (xs 1).toInt.toNat) (Sum.inr (13, [Value.ref (161 + 2 * (xs 1).toInt.toNat), Value.int 3]))).set 154 (Sum.inl (0, 17, xup (fun _ => Value.int 0) (xs 1).toInt.toNat (Value.int 3)))).set 155 (Sum.inl (0, 17, xup (fun _ => Value.int 0) (xs 1).toInt.toNat (Value.int (-16384))))).set 156 (Sum.inl (2, 17, xup (xup (fun _ => Value.int 0) (xs 1).toInt.toNat (Value.int 1)) (xs 1).toInt.toNat (Value.int 1)))).set 128 (Sum.inr (12, [Value.ref 129, Value.ref 131, Value.ref 133, Value.ref 135, Value.ref 137, Value.ref 139, Value.ref 141, Value.ref 143, Value.ref 145, Value.ref 147, Value.ref 149, Value.ref 151, Value.ref 153, Value.ref 154, Value.ref 155, Value.ref 156, Value.ref 157, Value.int (-16384), Value.int 16384, Value.int 5, Value.int 0, Value.int 0, Value.ref 158, Value.ref 159, Value.int 0, Value.int 0, Value.int 0, Value.int 0, Value.int 0, Value.int 0, Value.int 0, Value.int 0]))), ?_, ?_, xgs (xgn (by decide) (xgn (by decide) (xgn (by decide) (xgn (by omega) (xgn (by omega) (xgn (by decide) (xgn (by decide) (xgn (by decide) (xgn (by decide) (xgn (by omega) (xgn (by decide) (xgn (by decide) (xgn (by decide) (xgs hm))))))))))))))⟩
  · refine i_180_207 (x := 128) rfl ?_
    refine i_180_208 (v := Value.int 0) hm rfl ?_
    refine i_180_211 (fun h => absurd h (by decide)) (fun _ => ?_)
    refine i_180_214 (x := 128) rfl ?_
    refine i_180_215 (v := Value.ref 135) hm rfl ?_
    refine i_180_218 (v := Value.int 3) hq rfl ?_
    refine i_180_221 (fun h => absurd h (by decide)) (fun _ => ?_)
    refine i_180_224 (x := E) rfl ?_
    refine i_180_226 (x := 128) rfl ?_
    refine i_180_227 (v := Value.int 16384) hm rfl ?_
    refine i_180_230 (fun _ => ?_) (fun h => absurd (show E.toInt ≤ 16384 by omega) (Int.not_le.mpr h))
    refine i_180_367 (x := 128) rfl ?_
    refine i_180_368 (v := Value.ref 135) hm rfl ?_
    refine i_180_371 (v := Value.int 3) hq rfl ?_
    refine i_180_374 (fun _ => ?_) (fun h => absurd h (by decide))
    refine i_180_392 (x := 128) rfl ?_
    refine i_180_393 (v := Value.int 0) hm rfl ?_
    refine i_180_396 (fun h => absurd h (by decide)) (fun _ => ?_)
    refine i_180_399 (x := 128) rfl ?_
    refine i_180_400 (v := Value.int 0) hm rfl ?_
    refine i_180_403 (fun h => absurd h (by decide)) (fun _ => ?_)
    refine i_180_406 (x := E) rfl ?_
    refine i_180_408 (x := 128) rfl ?_
    refine i_180_409 (v := Value.int (-16384)) hm rfl ?_
    refine i_180_412 (fun h => absurd (show E.toInt < (-16384) by omega) (Int.not_lt.mpr h)) (fun _ => ?_)
    refine i_180_415 (x := 128) rfl ?_
    refine i_180_416 rfl ?_
    refine i_180_417 (v := Value.int 0) hm rfl ?_
    refine i_180_420 ?_
    refine i_180_421 (c := 4) (by decide) ?_
    refine i_180_422 (fs2 := [Value.ref 129, Value.ref 131, Value.ref 133, Value.ref 135, Value.ref 137, Value.ref 139, Value.ref 141, Value.ref 143, Value.ref 145, Value.ref 147, Value.ref 149, Value.ref 151, Value.ref 153, Value.ref 154, Value.ref 155, Value.ref 156, Value.ref 157, Value.int (-16384), Value.int 16384, Value.int 4, Value.int 0, Value.int 0, Value.ref 158, Value.ref 159, Value.int 0, Value.int 0, Value.int 0, Value.int 0, Value.int 0, Value.int 0, Value.int 0, Value.int 0]) hm (Nat.le_of_ble_eq_true rfl) rfl (by omega) ?_
    refine i_180_425 (x := E) rfl ?_
    refine i_180_427 (x := 128) rfl ?_
    refine i_180_428 (v := Value.int (-16384)) (xgs hm) rfl ?_
    refine i_180_431 ?_
    refine i_180_432 (c := (-16385)) (by decide) ?_
    refine i_180_433 (fun h => absurd (show E.toInt ≤ (-16385) by omega) (Int.not_le.mpr h)) (fun _ => ?_)
    refine i_180_436 (x := E) rfl ?_
    refine i_180_438 (x := 128) rfl ?_
    refine i_180_439 (v := Value.int (-16384)) (xgs hm) rfl ?_
    refine i_180_442 ?_
    refine i_180_443 (c := (-16385)) (by decide) ?_
    refine i_180_444 (fun h => absurd (show E.toInt = (-16385) by omega) h) (fun _ => ?_)
    refine i_180_447 (x := 0) rfl ?_
    refine i_180_449 (fun h => absurd h (by decide)) (fun _ => ?_)
    refine i_180_452 (x := 129) rfl ?_
    refine i_180_453 (x := 129) rfl ?_
    refine i_180_454 (xgn (by decide) hv) (Nat.le_of_ble_eq_true rfl) (hbits _ _ (xgn (by omega) (rfl)) (xgn (by omega) (rfl))) ?_
    refine i_180_457 ?_
    refine i_180_458 (c := (B - (1 : Int32))) rfl ?_
    refine i_180_459 (xgn (by decide) hv) (Nat.le_of_ble_eq_true rfl) (hany1 c15 _ _ (xgn (by omega) (rfl)) (xgn (by omega) (rfl))) ?_
    refine i_180_462 (fun h => absurd h (by decide)) (fun _ => ?_)
    refine i_180_465 ?_
    refine i_180_466 ?_
    refine i_180_470 (lv2 := [(15, Value.int 1), (14, Value.int 0), (13, Value.int E), (12, Value.int 1), (11, Value.int 0), (10, Value.int C), (9, Value.int U), (8, Value.int E), (7, Value.int 64), (0, Value.ref 128), (1, Value.int (xs 1)), (2, Value.ref 129), (3, Value.int sc), (4, Value.int 0), (5, Value.int 1), (6, Value.int md)]) rfl ?_
    refine i_180_472 (x := md) rfl ?_
    refine i_180_474 ?_
    refine i_180_475 (fun h => absurd (show md.toInt ≠ 4 by omega) (fun g => g h)) (fun _ => ?_)
    refine i_180_478 (x := md) rfl ?_
    refine i_180_480 ?_
    refine i_180_481 (fun _ => ?_) (fun h => absurd (show md.toInt ≠ 2 by omega) (fun g => g h))
    refine i_180_489 (x := md) rfl ?_
    refine i_180_491 ?_
    refine i_180_492 (fun h => absurd (show md.toInt = 3 by omega) h) (fun _ => ?_)
    refine i_180_495 (x := 1) rfl ?_
    refine i_180_497 (fun _ => ?_) (fun h => absurd h (by decide))
    refine i_180_510 ?_
    refine i_180_511 ?_
    refine i_180_515 (lv2 := [(16, Value.int 1), (15, Value.int 1), (14, Value.int 0), (13, Value.int E), (12, Value.int 1), (11, Value.int 0), (10, Value.int C), (9, Value.int U), (8, Value.int E), (7, Value.int 64), (0, Value.ref 128), (1, Value.int (xs 1)), (2, Value.ref 129), (3, Value.int sc), (4, Value.int 0), (5, Value.int 1), (6, Value.int md)]) rfl ?_
    refine i_180_517 (x := 1) rfl ?_
    refine i_180_519 (fun h => absurd h (by decide)) (fun _ => ?_)
    refine i_180_522 (x := 128) rfl ?_
    refine i_180_523 (v := Value.ref 151) (xgs hm) rfl ?_
    refine i_180_526 ?_
    refine i_180_527 (xgn (by decide) (((hk 151 (by decide) (by decide) (by decide) (by decide) (by decide)).trans W0_151))) (Nat.le_of_ble_eq_true rfl) (s_179_2 (xgn (by decide) (((hk 151 (by decide) (by decide) (by decide) (by decide) (by decide)).trans W0_151))) (xgn (by decide) (((hk 152 (by decide) (by decide) (by decide) (by decide) (by decide)).trans W0_152)))) ?_
    refine i_180_530 (x := 128) rfl ?_
    refine i_180_531 (x := (xs 1)) rfl ?_
    refine i_180_532 (x := 128) rfl ?_
    refine i_180_533 (v := Value.ref 151) (xgn (by decide) (xgn (by decide) (xgn (by decide) (xgs hm)))) rfl ?_
    refine i_180_536 (x := 128) rfl ?_
    refine i_180_537 (v := Value.int (-16384)) (xgn (by decide) (xgn (by decide) (xgn (by decide) (xgs hm)))) rfl ?_
    refine i_180_540 ?_
    refine i_180_541 (c := (-16385)) (by decide) ?_
    refine i_180_542 (xgn (by decide) (xgn (by decide) (xgn (by decide) (xgs hm)))) (Nat.le_of_ble_eq_true rfl) (s_192_1 (xgn (by decide) (xgn (by decide) (xgn (by decide) (xgs hm)))) (xgn (by decide) (xgn (by decide) (xgn (by decide) (xgn (by decide) (((hk 153 (by decide) (by decide) (by decide) (by decide) (by decide)).trans W0_153)))))) (by omega) (by omega) (gprec_at (by omega)) (xgs (xgn (by decide) (xgs (xgn (by decide) (((hk 151 (by decide) (by decide) (by decide) (by decide) (by decide)).trans W0_151)))))) (xgn (by decide) (xgs (xgn (by decide) (xgn (by decide) (((hk 152 (by decide) (by decide) (by decide) (by decide) (by decide)).trans W0_152)))))) xup_s (xgn (by decide) (xgn (by decide) (xgn (by decide) (xgn (by decide) (((hk 157 (by decide) (by decide) (by decide) (by decide) (by decide)).trans W0_157)))))) (gpart_at (by omega)) (xgn (by omega) (xgn (by omega) (xgn (by omega) (xgn (by omega) (((hk _ (by omega) (by omega) (by omega) (by omega) (by omega)).trans (W0_part (by omega)))))))) (by omega) (by omega) (by omega) (xgn (by decide) (xgn (by decide) (xgn (by decide) (xgn (by decide) (((hk 137 (by decide) (by decide) (by decide) (by decide) (by decide)).trans W0_137)))))) (by omega) (by omega) (by omega) (xgn (by decide) (xgn (by decide) (xgn (by decide) (xgn (by decide) (((hk 138 (by decide) (by decide) (by decide) (by decide) (by decide)).trans W0_138)))))) (by omega) (by omega) (by omega) (by omega) (by omega) (by omega) (xgn (by omega) (xgn (by omega) (xgn (by omega) (xgn (by omega) (((hk _ (by omega) (by omega) (by omega) (by omega) (by omega)).trans (W0_pw (by omega)))))))) (by omega) (by omega) (by omega) (by omega) (by omega) (by omega) (xgn (by decide) (xgn (by decide) (xgn (by decide) (xgn (by decide) (((hk 154 (by decide) (by decide) (by decide) (by decide) (by decide)).trans W0_154)))))) (by omega) (by omega) (xgn (by decide) (xgn (by decide) (xgn (by decide) (xgn (by decide) (((hk 155 (by decide) (by decide) (by decide) (by decide) (by decide)).trans W0_155))))))) ?_
    refine i_180_545 (x := 128) rfl ?_
    refine i_180_546 (v := Value.ref 156) (xgn (by decide) (xgn (by decide) (xgn (by omega) (xgn (by omega) (xgn (by decide) (xgn (by decide) (xgn (by decide) (xgn (by decide) (xgn (by omega) (xgn (by decide) (xgn (by decide) (xgn (by decide) (xgs hm))))))))))))) rfl ?_
    refine i_180_549 (x := (xs 1)) rfl ?_
    refine i_180_550 (x := 1) rfl ?_
    refine i_180_552z (v := Value.int 1) (xgn (by decide) (xgn (by decide) (xgn (by omega) (xgn (by omega) (xgn (by decide) (xgn (by decide) (xgn (by decide) (xgn (by decide) (xgn (by omega) (xgn (by decide) (xgn (by decide) (xgn (by decide) (xgn (by decide) hn))))))))))))) (by omega) (by omega) (by omega) rfl ?_
    refine i_180_553 ?_
    refine i_180_565 (x := 1) rfl ?_
    refine i_180_567 (fun h => absurd h (by decide)) (fun _ => ?_)
    refine i_180_570 ?_
    refine i_180_571 ?_
    refine i_180_575 (lv2 := [(14, Value.int 1), (16, Value.int 1), (15, Value.int 1), (13, Value.int E), (12, Value.int 1), (11, Value.int 0), (10, Value.int C), (9, Value.int U), (8, Value.int E), (7, Value.int 64), (0, Value.ref 128), (1, Value.int (xs 1)), (2, Value.ref 129), (3, Value.int sc), (4, Value.int 0), (5, Value.int 1), (6, Value.int md)]) rfl ?_
    refine i_180_577 ?_
    refine i_180_591 (x := 128) rfl ?_
    refine i_180_592 (v := Value.int 0) (xgn (by decide) (xgn (by decide) (xgn (by decide) (xgn (by omega) (xgn (by omega) (xgn (by decide) (xgn (by decide) (xgn (by decide) (xgn (by decide) (xgn (by omega) (xgn (by decide) (xgn (by decide) (xgn (by decide) (xgs hm)))))))))))))) rfl ?_
    refine i_180_595 (fun h => absurd h (by decide)) (fun _ => ?_)
    refine i_180_598 (x := 128) rfl ?_
    refine i_180_599 (v := Value.int 0) (xgn (by decide) (xgn (by decide) (xgn (by decide) (xgn (by omega) (xgn (by omega) (xgn (by decide) (xgn (by decide) (xgn (by decide) (xgn (by decide) (xgn (by omega) (xgn (by decide) (xgn (by decide) (xgn (by decide) (xgs hm)))))))))))))) rfl ?_
    refine i_180_602 (fun _ => ?_) (fun h => absurd h (by decide))
    refine i_180_629 (x := 1) rfl ?_
    refine i_180_631 (fun h => absurd h (by decide)) (fun _ => ?_)
    refine i_180_634 (x := 128) rfl ?_
    refine i_180_635 rfl ?_
    refine i_180_636 (v := Value.int 4) (xgn (by decide) (xgn (by decide) (xgn (by decide) (xgn (by omega) (xgn (by omega) (xgn (by decide) (xgn (by decide) (xgn (by decide) (xgn (by decide) (xgn (by omega) (xgn (by decide) (xgn (by decide) (xgn (by decide) (xgs hm)))))))))))))) rfl ?_
    refine i_180_639 ?_
    refine i_180_640 (c := 5) (by decide) ?_
    refine i_180_641 (fs2 := [Value.ref 129, Value.ref 131, Value.ref 133, Value.ref 135, Value.ref 137, Value.ref 139, Value.ref 141, Value.ref 143, Value.ref 145, Value.ref 147, Value.ref 149, Value.ref 151, Value.ref 153, Value.ref 154, Value.ref 155, Value.ref 156, Value.ref 157, Value.int (-16384), Value.int 16384, Value.int 5, Value.int 0, Value.int 0, Value.ref 158, Value.ref 159, Value.int 0, Value.int 0, Value.int 0, Value.int 0, Value.int 0, Value.int 0, Value.int 0, Value.int 0]) (xgn (by decide) (xgn (by decide) (xgn (by decide) (xgn (by omega) (xgn (by omega) (xgn (by decide) (xgn (by decide) (xgn (by decide) (xgn (by decide) (xgn (by omega) (xgn (by decide) (xgn (by decide) (xgn (by decide) (xgs hm)))))))))))))) (Nat.le_of_ble_eq_true rfl) rfl (by omega) ?_
    refine i_180_644 (x := 1) rfl ?_
    refine i_180_646 (fun h => absurd h (by decide)) (fun _ => ?_)
    refine i_180_649 (x := 1) rfl ?_
    refine i_180_651 (c := (-1)) (by decide) ?_
    refine i_180_652 ?_
    exact i_180_657 ⟨rfl, rfl⟩
  · refine xKp.set ?_ (fun h hh => by unfold xPM at hh; omega) (xgn (by decide) (xgn (by decide) (xgn (by decide) (xgn (by omega) (xgn (by omega) (xgn (by decide) (xgn (by decide) (xgn (by decide) (xgn (by decide) (xgn (by omega) (xgn (by decide) (xgn (by decide) (xgn (by decide) (xgs hm)))))))))))))) xcs_o
    refine xKp.set ?_ (fun h hh => by unfold xPM at hh; omega) (xgn (by decide) (xgn (by decide) (xgn (by omega) (xgn (by omega) (xgn (by decide) (xgn (by decide) (xgn (by decide) (xgn (by decide) (xgn (by omega) (xgn (by decide) (xgn (by decide) (xgn (by decide) (xgn (by decide) hn))))))))))))) xcs_a
    refine xKp.set ?_ (fun h hh => by unfold xPM at hh; omega) (xgn (by decide) (xgn (by omega) (xgn (by omega) (xgn (by decide) (xgn (by decide) (xgn (by decide) (xgn (by decide) (xgn (by omega) (xgn (by decide) (xgn (by decide) (xgn (by decide) (xgn (by decide) (((hk 155 (by decide) (by decide) (by decide) (by decide) (by decide)).trans W0_155)))))))))))))) xcs_a
    refine xKp.set ?_ (fun h hh => by unfold xPM at hh; omega) (xgn (by omega) (xgn (by omega) (xgn (by decide) (xgn (by decide) (xgn (by decide) (xgn (by decide) (xgn (by omega) (xgn (by decide) (xgn (by decide) (xgn (by decide) (xgn (by decide) (((hk 154 (by decide) (by decide) (by decide) (by decide) (by decide)).trans W0_154))))))))))))) xcs_a
    refine xKp.set ?_ (fun h hh => by unfold xPM at hh; omega) (xgn (by omega) (xgn (by omega) (xgn (by omega) (xgn (by omega) (xgn (by omega) (xgs (xgn (by omega) (xgn (by omega) (xgn (by omega) (xgn (by omega) (((hk _ (by omega) (by omega) (by omega) (by omega) (by omega)).trans (W0_part (by omega)))))))))))))) xcs_o
    refine xKp.set ?_ (fun h hh => by unfold xPM at hh; omega) (xgn (by omega) (xgn (by omega) (xgn (by omega) (xgn (by omega) (xgn (by omega) (xgn (by omega) (xgn (by omega) (xgn (by omega) (xgn (by omega) (((hk _ (by omega) (by omega) (by omega) (by omega) (by omega)).trans (W0_pw (by omega))))))))))))) xcs_a
    refine xKp.set ?_ (fun h hh => by unfold xPM at hh; omega) (xgn (by decide) (xgs (xgn (by decide) (xgn (by omega) (xgn (by decide) (xgn (by decide) (xgn (by decide) (xgn (by decide) (((hk 137 (by decide) (by decide) (by decide) (by decide) (by decide)).trans W0_137)))))))))) xcs_o
    refine xKp.set ?_ (fun h hh => by unfold xPM at hh; omega) (xgn (by decide) (xgs (xgn (by omega) (xgn (by decide) (xgn (by decide) (xgn (by decide) (xgn (by decide) (((hk 138 (by decide) (by decide) (by decide) (by decide) (by decide)).trans W0_138))))))))) xcs_a
    refine xKp.set ?_ (fun h hh => by unfold xPM at hh; omega) (xgn (by decide) (xgn (by omega) (xgn (by decide) (xgn (by decide) (xgn (by decide) (xgn (by decide) (((hk 137 (by decide) (by decide) (by decide) (by decide) (by decide)).trans W0_137)))))))) xcs_o
    refine xKp.set ?_ (fun h hh => by unfold xPM at hh; omega) (xgn (by omega) (xgn (by decide) (xgn (by decide) (xgn (by decide) (xgn (by decide) (((hk 138 (by decide) (by decide) (by decide) (by decide) (by decide)).trans W0_138))))))) xcs_a
    refine xKp.set ?_ (fun h hh => by unfold xPM at hh; omega) (xgn (by omega) (xgn (by omega) (xgn (by omega) (xgn (by omega) (((hk _ (by omega) (by omega) (by omega) (by omega) (by omega)).trans (W0_part (by omega)))))))) xcs_o
    refine xKp.set ?_ (fun h hh => by unfold xPM at hh; omega) (xgn (by decide) (xgs (xgn (by decide) (((hk 151 (by decide) (by decide) (by decide) (by decide) (by decide)).trans W0_151))))) xcs_o
    refine xKp.set ?_ (fun h hh => by unfold xPM at hh; omega) (xgn (by decide) (xgn (by decide) (((hk 152 (by decide) (by decide) (by decide) (by decide) (by decide)).trans W0_152)))) xcs_a
    refine xKp.set ?_ (fun h hh => by unfold xPM at hh; omega) (xgn (by decide) (((hk 151 (by decide) (by decide) (by decide) (by decide) (by decide)).trans W0_151))) xcs_o
    refine xKp.set ?_ (fun h hh => by unfold xPM at hh; omega) (hm) xcs_o
    exact xKp.refl
theorem sf1_13 {d : Nat} {xs : Nat → Int32} {m : Int64} {sc md : Int32} {w : xW} {B E U C q0 q1 q2 nn : Int32} {g : Nat → Value} (hk : ∀ h, 131 ≤ h → h < 194 → h ≠ 135 → h ≠ 136 → h ≠ 156 → w[h]? = (W0 6 xs)[h]?) (hm : w[128]? = some (Sum.inr (12, [Value.ref 129, Value.ref 131, Value.ref 133, Value.ref 135, Value.ref 137, Value.ref 139, Value.ref 141, Value.ref 143, Value.ref 145, Value.ref 147, Value.ref 149, Value.ref 151, Value.ref 153, Value.ref 154, Value.ref 155, Value.ref 156, Value.ref 157, Value.int (-16384), Value.int 16384, Value.int 0, Value.int 0, Value.int 0, Value.ref 158, Value.ref 159, Value.int 0, Value.int 0, Value.int 0, Value.int 0, Value.int 0, Value.int 0, Value.int 0, Value.int 0]))) (hv : w[129]? = some (Sum.inr (13, [Value.ref 130, Value.int nn]))) (hq : w[135]? = some (Sum.inr (13, [Value.ref 136, Value.int 3]))) (hqw : w[136]? = some (Sum.inl (0, 4700, g))) (hg0 : g (0 : Int32).toInt.toNat = Value.int q0) (hg1 : g (1 : Int32).toInt.toNat = Value.int q1) (hg2 : g (2 : Int32).toInt.toNat = Value.int q2) (hn : w[156]? = some (Sum.inl (2, 17, xup (fun _ => Value.int 0) (xs 1).toInt.toNat (Value.int 1)))) (hbits : ∀ (d' : Nat) (w' : xW), w'[129]? = w[129]? → w'[130]? = w[130]? → xRun d' 181 [Value.ref 129] w' (.inl (some (Value.int B))) w') (hany0 : xPW m → ∀ (d' : Nat) (w' : xW), w'[129]? = w[129]? → w'[130]? = w[130]? → xRun d' 183 [Value.ref 129, Value.int (B - (1 : Int32))] w' (.inl (some (Value.int 0))) w') (hany1 : ¬ xPW m → ∀ (d' : Nat) (w' : xW), w'[129]? = w[129]? → w'[130]? = w[130]? → xRun d' 183 [Value.ref 129, Value.int (B - (1 : Int32))] w' (.inl (some (Value.int 1))) w') (c0 : 0 ≤ (xs 1).toInt) (c1 : (xs 1).toInt < 16) (c2 : (-40000) ≤ sc.toInt) (c3 : sc.toInt ≤ 40000) (c4 : 0 ≤ md.toInt) (c5 : md.toInt ≤ 4) (c6 : 1 ≤ B.toInt) (c7 : B.toInt ≤ 64) (c8 : E.toInt = B.toInt + sc.toInt) (c9 : U.toInt = E.toInt - 64) (c10 : 0 ≤ q2.toInt) (c11 : (xbn q2).toInt = 4) (c12 : E.toInt ≤ 16384) (c13 : E.toInt < (-16384)) (c14 : E.toInt = (-16385)) (c15 : ¬ xPW m) (c16 : md.toInt ≠ 4) (c17 : md.toInt ≠ 2) (c18 : md.toInt ≠ 3) (c19 : md.toInt = 0) : ∃ w2, xEv (d + 6) 180 207 [(14, Value.int 0), (13, Value.int E), (12, Value.int 1), (11, Value.int 0), (10, Value.int C), (9, Value.int U), (8, Value.int E), (7, Value.int 64), (0, Value.ref 128), (1, Value.int (xs 1)), (2, Value.ref 129), (3, Value.int sc), (4, Value.int 0), (5, Value.int 1), (6, Value.int md)] [] w (fun o' w' => o' = .inl (some (Value.int (-1))) ∧ w' = w2) ∧ xKp w w2 xPM ∧ w2[128]? = some (Sum.inr (12, [Value.ref 129, Value.ref 131, Value.ref 133, Value.ref 135, Value.ref 137, Value.ref 139, Value.ref 141, Value.ref 143, Value.ref 145, Value.ref 147, Value.ref 149, Value.ref 151, Value.ref 153, Value.ref 154, Value.ref 155, Value.ref 156, Value.ref 157, Value.int (-16384), Value.int 16384, Value.int 5, Value.int 0, Value.int 0, Value.ref 158, Value.ref 159, Value.int 0, Value.int 0, Value.int 0, Value.int 0, Value.int 0, Value.int 0, Value.int 0, Value.int 0])) := by
  refine ⟨(((((((((((((((w.set 128 (Sum.inr (12, [Value.ref 129, Value.ref 131, Value.ref 133, Value.ref 135, Value.ref 137, Value.ref 139, Value.ref 141, Value.ref 143, Value.ref 145, Value.ref 147, Value.ref 149, Value.ref 151, Value.ref 153, Value.ref 154, Value.ref 155, Value.ref 156, Value.ref 157, Value.int (-16384), Value.int 16384, Value.int 4, Value.int 0, Value.int 0, Value.ref 158, Value.ref 159, Value.int 0, Value.int 0, Value.int 0, Value.int 0, Value.int 0, Value.int 0, Value.int 0, Value.int 0]))).set 151 (Sum.inr (13, [Value.ref 152, Value.int 0]))).set 152 (Sum.inl (0, 4700, xup (fun _ => Value.int 0) (0 : Int32).toInt.toNat (Value.int 1)))).set 151 (Sum.inr (13, [Value.ref 152, Value.int 1]))).set (160 + 2 * (xs 1).toInt.toNat) (Sum.inr (13, [Value.ref (161 + 2 * (xs 1).toInt.toNat), Value.int 0]))).set 138 (Sum.inl (0, 4700, xcp (xup (fun _ => Value.int 0) (0 : Int32).toInt.toNat (Value.int 1)) (fun _ => Value.int 0) (0 : Int32).toInt.toNat (0 : Int32).toInt.toNat (1 : Int32).toInt.toNat))).set 137 (Sum.inr (13, [Value.ref 138, Value.int 1]))).set 138 (Sum.inl (0, 4700, xup (xup (xup (xup (xup (xcp (xup (fun _ => Value.int 0) (0 : Int32).toInt.toNat (Value.int 1)) (fun _ => Value.int 0) (0 : Int32).toInt.toNat (0 : Int32).toInt.toNat (1 : Int32).toInt.toNat) (3 : Int32).toInt.toNat (Value.int 0)) (3 : Int32).toInt.toNat (Value.int 0)) (2 : Int32).toInt.toNat (Value.int 8)) (0 : Int32).toInt.toNat (Value.int 0)) (1 : Int32).toInt.toNat (Value.int 0)))).set 137 (Sum.inr (13, [Value.ref 138, Value.int 3]))).set (161 + 2 * (xs 1).toInt.toNat) (Sum.inl (0, 140, xcp (xup (xup (xup (xup (xup (xcp (xup (fun _ => Value.int 0) (0 : Int32).toInt.toNat (Value.int 1)) (fun _ => Value.int 0) (0 : Int32).toInt.toNat (0 : Int32).toInt.toNat (1 : Int32).toInt.toNat) (3 : Int32).toInt.toNat (Value.int 0)) (3 : Int32).toInt.toNat (Value.int 0)) (2 : Int32).toInt.toNat (Value.int 8)) (0 : Int32).toInt.toNat (Value.int 0)) (1 : Int32).toInt.toNat (Value.int 0)) (fun _ => Value.int 0) (0 : Int32).toInt.toNat (0 : Int32).toInt.toNat (3 : Int32).toInt.toNat))).set (160 + 2 * (xs 1).toInt.toNat) (Sum.inr (13, [Value.ref (161 + 2 * (xs 1).toInt.toNat), Value.int 3]))).set 154 (Sum.inl (0, 17, xup (fun _ => Value.int 0) (xs 1).toInt.toNat (Value.int 3)))).set 155 (Sum.inl (0, 17, xup (fun _ => Value.int 0) (xs 1).toInt.toNat (Value.int (-16384))))).set 156 (Sum.inl (2, 17, xup (xup (fun _ => Value.int 0) (xs 1).toInt.toNat (Value.int 1)) (xs 1).toInt.toNat (Value.int 1)))).set 128 (Sum.inr (12, [Value.ref 129, Value.ref 131, Value.ref 133, Value.ref 135, Value.ref 137, Value.ref 139, Value.ref 141, Value.ref 143, Value.ref 145, Value.ref 147, Value.ref 149, Value.ref 151, Value.ref 153, Value.ref 154, Value.ref 155, Value.ref 156, Value.ref 157, Value.int (-16384), Value.int 16384, Value.int 5, Value.int 0, Value.int 0, Value.ref 158, Value.ref 159, Value.int 0, Value.int 0, Value.int 0, Value.int 0, Value.int 0, Value.int 0, Value.int 0, Value.int 0]))), ?_, ?_, xgs (xgn (by decide) (xgn (by decide) (xgn (by decide) (xgn (by omega) (xgn (by omega) (xgn (by decide) (xgn (by decide) (xgn (by decide) (xgn (by decide) (xgn (by omega) (xgn (by decide) (xgn (by decide) (xgn (by decide) (xgs hm))))))))))))))⟩
  · refine i_180_207 (x := 128) rfl ?_
    refine i_180_208 (v := Value.int 0) hm rfl ?_
    refine i_180_211 (fun h => absurd h (by decide)) (fun _ => ?_)
    refine i_180_214 (x := 128) rfl ?_
    refine i_180_215 (v := Value.ref 135) hm rfl ?_
    refine i_180_218 (v := Value.int 3) hq rfl ?_
    refine i_180_221 (fun h => absurd h (by decide)) (fun _ => ?_)
    refine i_180_224 (x := E) rfl ?_
    refine i_180_226 (x := 128) rfl ?_
    refine i_180_227 (v := Value.int 16384) hm rfl ?_
    refine i_180_230 (fun _ => ?_) (fun h => absurd (show E.toInt ≤ 16384 by omega) (Int.not_le.mpr h))
    refine i_180_367 (x := 128) rfl ?_
    refine i_180_368 (v := Value.ref 135) hm rfl ?_
    refine i_180_371 (v := Value.int 3) hq rfl ?_
    refine i_180_374 (fun _ => ?_) (fun h => absurd h (by decide))
    refine i_180_392 (x := 128) rfl ?_
    refine i_180_393 (v := Value.int 0) hm rfl ?_
    refine i_180_396 (fun h => absurd h (by decide)) (fun _ => ?_)
    refine i_180_399 (x := 128) rfl ?_
    refine i_180_400 (v := Value.int 0) hm rfl ?_
    refine i_180_403 (fun h => absurd h (by decide)) (fun _ => ?_)
    refine i_180_406 (x := E) rfl ?_
    refine i_180_408 (x := 128) rfl ?_
    refine i_180_409 (v := Value.int (-16384)) hm rfl ?_
    refine i_180_412 (fun h => absurd (show E.toInt < (-16384) by omega) (Int.not_lt.mpr h)) (fun _ => ?_)
    refine i_180_415 (x := 128) rfl ?_
    refine i_180_416 rfl ?_
    refine i_180_417 (v := Value.int 0) hm rfl ?_
    refine i_180_420 ?_
    refine i_180_421 (c := 4) (by decide) ?_
    refine i_180_422 (fs2 := [Value.ref 129, Value.ref 131, Value.ref 133, Value.ref 135, Value.ref 137, Value.ref 139, Value.ref 141, Value.ref 143, Value.ref 145, Value.ref 147, Value.ref 149, Value.ref 151, Value.ref 153, Value.ref 154, Value.ref 155, Value.ref 156, Value.ref 157, Value.int (-16384), Value.int 16384, Value.int 4, Value.int 0, Value.int 0, Value.ref 158, Value.ref 159, Value.int 0, Value.int 0, Value.int 0, Value.int 0, Value.int 0, Value.int 0, Value.int 0, Value.int 0]) hm (Nat.le_of_ble_eq_true rfl) rfl (by omega) ?_
    refine i_180_425 (x := E) rfl ?_
    refine i_180_427 (x := 128) rfl ?_
    refine i_180_428 (v := Value.int (-16384)) (xgs hm) rfl ?_
    refine i_180_431 ?_
    refine i_180_432 (c := (-16385)) (by decide) ?_
    refine i_180_433 (fun h => absurd (show E.toInt ≤ (-16385) by omega) (Int.not_le.mpr h)) (fun _ => ?_)
    refine i_180_436 (x := E) rfl ?_
    refine i_180_438 (x := 128) rfl ?_
    refine i_180_439 (v := Value.int (-16384)) (xgs hm) rfl ?_
    refine i_180_442 ?_
    refine i_180_443 (c := (-16385)) (by decide) ?_
    refine i_180_444 (fun h => absurd (show E.toInt = (-16385) by omega) h) (fun _ => ?_)
    refine i_180_447 (x := 0) rfl ?_
    refine i_180_449 (fun h => absurd h (by decide)) (fun _ => ?_)
    refine i_180_452 (x := 129) rfl ?_
    refine i_180_453 (x := 129) rfl ?_
    refine i_180_454 (xgn (by decide) hv) (Nat.le_of_ble_eq_true rfl) (hbits _ _ (xgn (by omega) (rfl)) (xgn (by omega) (rfl))) ?_
    refine i_180_457 ?_
    refine i_180_458 (c := (B - (1 : Int32))) rfl ?_
    refine i_180_459 (xgn (by decide) hv) (Nat.le_of_ble_eq_true rfl) (hany1 c15 _ _ (xgn (by omega) (rfl)) (xgn (by omega) (rfl))) ?_
    refine i_180_462 (fun h => absurd h (by decide)) (fun _ => ?_)
    refine i_180_465 ?_
    refine i_180_466 ?_
    refine i_180_470 (lv2 := [(15, Value.int 1), (14, Value.int 0), (13, Value.int E), (12, Value.int 1), (11, Value.int 0), (10, Value.int C), (9, Value.int U), (8, Value.int E), (7, Value.int 64), (0, Value.ref 128), (1, Value.int (xs 1)), (2, Value.ref 129), (3, Value.int sc), (4, Value.int 0), (5, Value.int 1), (6, Value.int md)]) rfl ?_
    refine i_180_472 (x := md) rfl ?_
    refine i_180_474 ?_
    refine i_180_475 (fun h => absurd (show md.toInt ≠ 4 by omega) (fun g => g h)) (fun _ => ?_)
    refine i_180_478 (x := md) rfl ?_
    refine i_180_480 ?_
    refine i_180_481 (fun _ => ?_) (fun h => absurd (show md.toInt ≠ 2 by omega) (fun g => g h))
    refine i_180_489 (x := md) rfl ?_
    refine i_180_491 ?_
    refine i_180_492 (fun _ => ?_) (fun h => absurd (show md.toInt ≠ 3 by omega) (fun g => g h))
    refine i_180_500 (x := md) rfl ?_
    refine i_180_502 (fun h => absurd (show md.toInt = 0 by omega) h) (fun _ => ?_)
    refine i_180_505 (x := 1) rfl ?_
    refine i_180_507 (fun h => absurd h (by decide)) (fun _ => ?_)
    refine i_180_510 ?_
    refine i_180_511 ?_
    refine i_180_515 (lv2 := [(16, Value.int 1), (15, Value.int 1), (14, Value.int 0), (13, Value.int E), (12, Value.int 1), (11, Value.int 0), (10, Value.int C), (9, Value.int U), (8, Value.int E), (7, Value.int 64), (0, Value.ref 128), (1, Value.int (xs 1)), (2, Value.ref 129), (3, Value.int sc), (4, Value.int 0), (5, Value.int 1), (6, Value.int md)]) rfl ?_
    refine i_180_517 (x := 1) rfl ?_
    refine i_180_519 (fun h => absurd h (by decide)) (fun _ => ?_)
    refine i_180_522 (x := 128) rfl ?_
    refine i_180_523 (v := Value.ref 151) (xgs hm) rfl ?_
    refine i_180_526 ?_
    refine i_180_527 (xgn (by decide) (((hk 151 (by decide) (by decide) (by decide) (by decide) (by decide)).trans W0_151))) (Nat.le_of_ble_eq_true rfl) (s_179_2 (xgn (by decide) (((hk 151 (by decide) (by decide) (by decide) (by decide) (by decide)).trans W0_151))) (xgn (by decide) (((hk 152 (by decide) (by decide) (by decide) (by decide) (by decide)).trans W0_152)))) ?_
    refine i_180_530 (x := 128) rfl ?_
    refine i_180_531 (x := (xs 1)) rfl ?_
    refine i_180_532 (x := 128) rfl ?_
    refine i_180_533 (v := Value.ref 151) (xgn (by decide) (xgn (by decide) (xgn (by decide) (xgs hm)))) rfl ?_
    refine i_180_536 (x := 128) rfl ?_
    refine i_180_537 (v := Value.int (-16384)) (xgn (by decide) (xgn (by decide) (xgn (by decide) (xgs hm)))) rfl ?_
    refine i_180_540 ?_
    refine i_180_541 (c := (-16385)) (by decide) ?_
    refine i_180_542 (xgn (by decide) (xgn (by decide) (xgn (by decide) (xgs hm)))) (Nat.le_of_ble_eq_true rfl) (s_192_1 (xgn (by decide) (xgn (by decide) (xgn (by decide) (xgs hm)))) (xgn (by decide) (xgn (by decide) (xgn (by decide) (xgn (by decide) (((hk 153 (by decide) (by decide) (by decide) (by decide) (by decide)).trans W0_153)))))) (by omega) (by omega) (gprec_at (by omega)) (xgs (xgn (by decide) (xgs (xgn (by decide) (((hk 151 (by decide) (by decide) (by decide) (by decide) (by decide)).trans W0_151)))))) (xgn (by decide) (xgs (xgn (by decide) (xgn (by decide) (((hk 152 (by decide) (by decide) (by decide) (by decide) (by decide)).trans W0_152)))))) xup_s (xgn (by decide) (xgn (by decide) (xgn (by decide) (xgn (by decide) (((hk 157 (by decide) (by decide) (by decide) (by decide) (by decide)).trans W0_157)))))) (gpart_at (by omega)) (xgn (by omega) (xgn (by omega) (xgn (by omega) (xgn (by omega) (((hk _ (by omega) (by omega) (by omega) (by omega) (by omega)).trans (W0_part (by omega)))))))) (by omega) (by omega) (by omega) (xgn (by decide) (xgn (by decide) (xgn (by decide) (xgn (by decide) (((hk 137 (by decide) (by decide) (by decide) (by decide) (by decide)).trans W0_137)))))) (by omega) (by omega) (by omega) (xgn (by decide) (xgn (by decide) (xgn (by decide) (xgn (by decide) (((hk 138 (by decide) (by decide) (by decide) (by decide) (by decide)).trans W0_138)))))) (by omega) (by omega) (by omega) (by omega) (by omega) (by omega) (xgn (by omega) (xgn (by omega) (xgn (by omega) (xgn (by omega) (((hk _ (by omega) (by omega) (by omega) (by omega) (by omega)).trans (W0_pw (by omega)))))))) (by omega) (by omega) (by omega) (by omega) (by omega) (by omega) (xgn (by decide) (xgn (by decide) (xgn (by decide) (xgn (by decide) (((hk 154 (by decide) (by decide) (by decide) (by decide) (by decide)).trans W0_154)))))) (by omega) (by omega) (xgn (by decide) (xgn (by decide) (xgn (by decide) (xgn (by decide) (((hk 155 (by decide) (by decide) (by decide) (by decide) (by decide)).trans W0_155))))))) ?_
    refine i_180_545 (x := 128) rfl ?_
    refine i_180_546 (v := Value.ref 156) (xgn (by decide) (xgn (by decide) (xgn (by omega) (xgn (by omega) (xgn (by decide) (xgn (by decide) (xgn (by decide) (xgn (by decide) (xgn (by omega) (xgn (by decide) (xgn (by decide) (xgn (by decide) (xgs hm))))))))))))) rfl ?_
    refine i_180_549 (x := (xs 1)) rfl ?_
    refine i_180_550 (x := 1) rfl ?_
    refine i_180_552z (v := Value.int 1) (xgn (by decide) (xgn (by decide) (xgn (by omega) (xgn (by omega) (xgn (by decide) (xgn (by decide) (xgn (by decide) (xgn (by decide) (xgn (by omega) (xgn (by decide) (xgn (by decide) (xgn (by decide) (xgn (by decide) hn))))))))))))) (by omega) (by omega) (by omega) rfl ?_
    refine i_180_553 ?_
    refine i_180_565 (x := 1) rfl ?_
    refine i_180_567 (fun h => absurd h (by decide)) (fun _ => ?_)
    refine i_180_570 ?_
    refine i_180_571 ?_
    refine i_180_575 (lv2 := [(14, Value.int 1), (16, Value.int 1), (15, Value.int 1), (13, Value.int E), (12, Value.int 1), (11, Value.int 0), (10, Value.int C), (9, Value.int U), (8, Value.int E), (7, Value.int 64), (0, Value.ref 128), (1, Value.int (xs 1)), (2, Value.ref 129), (3, Value.int sc), (4, Value.int 0), (5, Value.int 1), (6, Value.int md)]) rfl ?_
    refine i_180_577 ?_
    refine i_180_591 (x := 128) rfl ?_
    refine i_180_592 (v := Value.int 0) (xgn (by decide) (xgn (by decide) (xgn (by decide) (xgn (by omega) (xgn (by omega) (xgn (by decide) (xgn (by decide) (xgn (by decide) (xgn (by decide) (xgn (by omega) (xgn (by decide) (xgn (by decide) (xgn (by decide) (xgs hm)))))))))))))) rfl ?_
    refine i_180_595 (fun h => absurd h (by decide)) (fun _ => ?_)
    refine i_180_598 (x := 128) rfl ?_
    refine i_180_599 (v := Value.int 0) (xgn (by decide) (xgn (by decide) (xgn (by decide) (xgn (by omega) (xgn (by omega) (xgn (by decide) (xgn (by decide) (xgn (by decide) (xgn (by decide) (xgn (by omega) (xgn (by decide) (xgn (by decide) (xgn (by decide) (xgs hm)))))))))))))) rfl ?_
    refine i_180_602 (fun _ => ?_) (fun h => absurd h (by decide))
    refine i_180_629 (x := 1) rfl ?_
    refine i_180_631 (fun h => absurd h (by decide)) (fun _ => ?_)
    refine i_180_634 (x := 128) rfl ?_
    refine i_180_635 rfl ?_
    refine i_180_636 (v := Value.int 4) (xgn (by decide) (xgn (by decide) (xgn (by decide) (xgn (by omega) (xgn (by omega) (xgn (by decide) (xgn (by decide) (xgn (by decide) (xgn (by decide) (xgn (by omega) (xgn (by decide) (xgn (by decide) (xgn (by decide) (xgs hm)))))))))))))) rfl ?_
    refine i_180_639 ?_
    refine i_180_640 (c := 5) (by decide) ?_
    refine i_180_641 (fs2 := [Value.ref 129, Value.ref 131, Value.ref 133, Value.ref 135, Value.ref 137, Value.ref 139, Value.ref 141, Value.ref 143, Value.ref 145, Value.ref 147, Value.ref 149, Value.ref 151, Value.ref 153, Value.ref 154, Value.ref 155, Value.ref 156, Value.ref 157, Value.int (-16384), Value.int 16384, Value.int 5, Value.int 0, Value.int 0, Value.ref 158, Value.ref 159, Value.int 0, Value.int 0, Value.int 0, Value.int 0, Value.int 0, Value.int 0, Value.int 0, Value.int 0]) (xgn (by decide) (xgn (by decide) (xgn (by decide) (xgn (by omega) (xgn (by omega) (xgn (by decide) (xgn (by decide) (xgn (by decide) (xgn (by decide) (xgn (by omega) (xgn (by decide) (xgn (by decide) (xgn (by decide) (xgs hm)))))))))))))) (Nat.le_of_ble_eq_true rfl) rfl (by omega) ?_
    refine i_180_644 (x := 1) rfl ?_
    refine i_180_646 (fun h => absurd h (by decide)) (fun _ => ?_)
    refine i_180_649 (x := 1) rfl ?_
    refine i_180_651 (c := (-1)) (by decide) ?_
    refine i_180_652 ?_
    exact i_180_657 ⟨rfl, rfl⟩
  · refine xKp.set ?_ (fun h hh => by unfold xPM at hh; omega) (xgn (by decide) (xgn (by decide) (xgn (by decide) (xgn (by omega) (xgn (by omega) (xgn (by decide) (xgn (by decide) (xgn (by decide) (xgn (by decide) (xgn (by omega) (xgn (by decide) (xgn (by decide) (xgn (by decide) (xgs hm)))))))))))))) xcs_o
    refine xKp.set ?_ (fun h hh => by unfold xPM at hh; omega) (xgn (by decide) (xgn (by decide) (xgn (by omega) (xgn (by omega) (xgn (by decide) (xgn (by decide) (xgn (by decide) (xgn (by decide) (xgn (by omega) (xgn (by decide) (xgn (by decide) (xgn (by decide) (xgn (by decide) hn))))))))))))) xcs_a
    refine xKp.set ?_ (fun h hh => by unfold xPM at hh; omega) (xgn (by decide) (xgn (by omega) (xgn (by omega) (xgn (by decide) (xgn (by decide) (xgn (by decide) (xgn (by decide) (xgn (by omega) (xgn (by decide) (xgn (by decide) (xgn (by decide) (xgn (by decide) (((hk 155 (by decide) (by decide) (by decide) (by decide) (by decide)).trans W0_155)))))))))))))) xcs_a
    refine xKp.set ?_ (fun h hh => by unfold xPM at hh; omega) (xgn (by omega) (xgn (by omega) (xgn (by decide) (xgn (by decide) (xgn (by decide) (xgn (by decide) (xgn (by omega) (xgn (by decide) (xgn (by decide) (xgn (by decide) (xgn (by decide) (((hk 154 (by decide) (by decide) (by decide) (by decide) (by decide)).trans W0_154))))))))))))) xcs_a
    refine xKp.set ?_ (fun h hh => by unfold xPM at hh; omega) (xgn (by omega) (xgn (by omega) (xgn (by omega) (xgn (by omega) (xgn (by omega) (xgs (xgn (by omega) (xgn (by omega) (xgn (by omega) (xgn (by omega) (((hk _ (by omega) (by omega) (by omega) (by omega) (by omega)).trans (W0_part (by omega)))))))))))))) xcs_o
    refine xKp.set ?_ (fun h hh => by unfold xPM at hh; omega) (xgn (by omega) (xgn (by omega) (xgn (by omega) (xgn (by omega) (xgn (by omega) (xgn (by omega) (xgn (by omega) (xgn (by omega) (xgn (by omega) (((hk _ (by omega) (by omega) (by omega) (by omega) (by omega)).trans (W0_pw (by omega))))))))))))) xcs_a
    refine xKp.set ?_ (fun h hh => by unfold xPM at hh; omega) (xgn (by decide) (xgs (xgn (by decide) (xgn (by omega) (xgn (by decide) (xgn (by decide) (xgn (by decide) (xgn (by decide) (((hk 137 (by decide) (by decide) (by decide) (by decide) (by decide)).trans W0_137)))))))))) xcs_o
    refine xKp.set ?_ (fun h hh => by unfold xPM at hh; omega) (xgn (by decide) (xgs (xgn (by omega) (xgn (by decide) (xgn (by decide) (xgn (by decide) (xgn (by decide) (((hk 138 (by decide) (by decide) (by decide) (by decide) (by decide)).trans W0_138))))))))) xcs_a
    refine xKp.set ?_ (fun h hh => by unfold xPM at hh; omega) (xgn (by decide) (xgn (by omega) (xgn (by decide) (xgn (by decide) (xgn (by decide) (xgn (by decide) (((hk 137 (by decide) (by decide) (by decide) (by decide) (by decide)).trans W0_137)))))))) xcs_o
    refine xKp.set ?_ (fun h hh => by unfold xPM at hh; omega) (xgn (by omega) (xgn (by decide) (xgn (by decide) (xgn (by decide) (xgn (by decide) (((hk 138 (by decide) (by decide) (by decide) (by decide) (by decide)).trans W0_138))))))) xcs_a
    refine xKp.set ?_ (fun h hh => by unfold xPM at hh; omega) (xgn (by omega) (xgn (by omega) (xgn (by omega) (xgn (by omega) (((hk _ (by omega) (by omega) (by omega) (by omega) (by omega)).trans (W0_part (by omega)))))))) xcs_o
    refine xKp.set ?_ (fun h hh => by unfold xPM at hh; omega) (xgn (by decide) (xgs (xgn (by decide) (((hk 151 (by decide) (by decide) (by decide) (by decide) (by decide)).trans W0_151))))) xcs_o
    refine xKp.set ?_ (fun h hh => by unfold xPM at hh; omega) (xgn (by decide) (xgn (by decide) (((hk 152 (by decide) (by decide) (by decide) (by decide) (by decide)).trans W0_152)))) xcs_a
    refine xKp.set ?_ (fun h hh => by unfold xPM at hh; omega) (xgn (by decide) (((hk 151 (by decide) (by decide) (by decide) (by decide) (by decide)).trans W0_151))) xcs_o
    refine xKp.set ?_ (fun h hh => by unfold xPM at hh; omega) (hm) xcs_o
    exact xKp.refl
theorem sf1_14 {d : Nat} {xs : Nat → Int32} {m : Int64} {sc md : Int32} {w : xW} {B E U C q0 q1 q2 nn : Int32} {g : Nat → Value} (hk : ∀ h, 131 ≤ h → h < 194 → h ≠ 135 → h ≠ 136 → h ≠ 156 → w[h]? = (W0 6 xs)[h]?) (hm : w[128]? = some (Sum.inr (12, [Value.ref 129, Value.ref 131, Value.ref 133, Value.ref 135, Value.ref 137, Value.ref 139, Value.ref 141, Value.ref 143, Value.ref 145, Value.ref 147, Value.ref 149, Value.ref 151, Value.ref 153, Value.ref 154, Value.ref 155, Value.ref 156, Value.ref 157, Value.int (-16384), Value.int 16384, Value.int 0, Value.int 0, Value.int 0, Value.ref 158, Value.ref 159, Value.int 0, Value.int 0, Value.int 0, Value.int 0, Value.int 0, Value.int 0, Value.int 0, Value.int 0]))) (hv : w[129]? = some (Sum.inr (13, [Value.ref 130, Value.int nn]))) (hq : w[135]? = some (Sum.inr (13, [Value.ref 136, Value.int 3]))) (hqw : w[136]? = some (Sum.inl (0, 4700, g))) (hg0 : g (0 : Int32).toInt.toNat = Value.int q0) (hg1 : g (1 : Int32).toInt.toNat = Value.int q1) (hg2 : g (2 : Int32).toInt.toNat = Value.int q2) (hn : w[156]? = some (Sum.inl (2, 17, xup (fun _ => Value.int 0) (xs 1).toInt.toNat (Value.int 1)))) (hbits : ∀ (d' : Nat) (w' : xW), w'[129]? = w[129]? → w'[130]? = w[130]? → xRun d' 181 [Value.ref 129] w' (.inl (some (Value.int B))) w') (hany0 : xPW m → ∀ (d' : Nat) (w' : xW), w'[129]? = w[129]? → w'[130]? = w[130]? → xRun d' 183 [Value.ref 129, Value.int (B - (1 : Int32))] w' (.inl (some (Value.int 0))) w') (hany1 : ¬ xPW m → ∀ (d' : Nat) (w' : xW), w'[129]? = w[129]? → w'[130]? = w[130]? → xRun d' 183 [Value.ref 129, Value.int (B - (1 : Int32))] w' (.inl (some (Value.int 1))) w') (c0 : 0 ≤ (xs 1).toInt) (c1 : (xs 1).toInt < 16) (c2 : (-40000) ≤ sc.toInt) (c3 : sc.toInt ≤ 40000) (c4 : 0 ≤ md.toInt) (c5 : md.toInt ≤ 4) (c6 : 1 ≤ B.toInt) (c7 : B.toInt ≤ 64) (c8 : E.toInt = B.toInt + sc.toInt) (c9 : U.toInt = E.toInt - 64) (c10 : 0 ≤ q2.toInt) (c11 : (xbn q2).toInt = 4) (c12 : E.toInt ≤ 16384) (c13 : E.toInt < (-16384)) (c14 : E.toInt = (-16385)) (c15 : ¬ xPW m) (c16 : md.toInt ≠ 4) (c17 : md.toInt ≠ 2) (c18 : md.toInt ≠ 3) (c19 : md.toInt ≠ 0) : ∃ w2, xEv (d + 6) 180 207 [(14, Value.int 0), (13, Value.int E), (12, Value.int 1), (11, Value.int 0), (10, Value.int C), (9, Value.int U), (8, Value.int E), (7, Value.int 64), (0, Value.ref 128), (1, Value.int (xs 1)), (2, Value.ref 129), (3, Value.int sc), (4, Value.int 0), (5, Value.int 1), (6, Value.int md)] [] w (fun o' w' => o' = .inl (some (Value.int 1)) ∧ w' = w2) ∧ xKp w w2 xPM ∧ w2[128]? = some (Sum.inr (12, [Value.ref 129, Value.ref 131, Value.ref 133, Value.ref 135, Value.ref 137, Value.ref 139, Value.ref 141, Value.ref 143, Value.ref 145, Value.ref 147, Value.ref 149, Value.ref 151, Value.ref 153, Value.ref 154, Value.ref 155, Value.ref 156, Value.ref 157, Value.int (-16384), Value.int 16384, Value.int 5, Value.int 0, Value.int 0, Value.ref 158, Value.ref 159, Value.int 0, Value.int 0, Value.int 0, Value.int 0, Value.int 0, Value.int 0, Value.int 0, Value.int 0])) := by
  refine ⟨((((w.set 128 (Sum.inr (12, [Value.ref 129, Value.ref 131, Value.ref 133, Value.ref 135, Value.ref 137, Value.ref 139, Value.ref 141, Value.ref 143, Value.ref 145, Value.ref 147, Value.ref 149, Value.ref 151, Value.ref 153, Value.ref 154, Value.ref 155, Value.ref 156, Value.ref 157, Value.int (-16384), Value.int 16384, Value.int 4, Value.int 0, Value.int 0, Value.ref 158, Value.ref 159, Value.int 0, Value.int 0, Value.int 0, Value.int 0, Value.int 0, Value.int 0, Value.int 0, Value.int 0]))).set 154 (Sum.inl (0, 17, xup (fun _ => Value.int 0) (xs 1).toInt.toNat (Value.int 2)))).set 156 (Sum.inl (2, 17, xup (xup (fun _ => Value.int 0) (xs 1).toInt.toNat (Value.int 1)) (xs 1).toInt.toNat (Value.int 1)))).set 128 (Sum.inr (12, [Value.ref 129, Value.ref 131, Value.ref 133, Value.ref 135, Value.ref 137, Value.ref 139, Value.ref 141, Value.ref 143, Value.ref 145, Value.ref 147, Value.ref 149, Value.ref 151, Value.ref 153, Value.ref 154, Value.ref 155, Value.ref 156, Value.ref 157, Value.int (-16384), Value.int 16384, Value.int 5, Value.int 0, Value.int 0, Value.ref 158, Value.ref 159, Value.int 0, Value.int 0, Value.int 0, Value.int 0, Value.int 0, Value.int 0, Value.int 0, Value.int 0]))), ?_, ?_, xgs (xgn (by decide) (xgn (by decide) (xgs hm)))⟩
  · refine i_180_207 (x := 128) rfl ?_
    refine i_180_208 (v := Value.int 0) hm rfl ?_
    refine i_180_211 (fun h => absurd h (by decide)) (fun _ => ?_)
    refine i_180_214 (x := 128) rfl ?_
    refine i_180_215 (v := Value.ref 135) hm rfl ?_
    refine i_180_218 (v := Value.int 3) hq rfl ?_
    refine i_180_221 (fun h => absurd h (by decide)) (fun _ => ?_)
    refine i_180_224 (x := E) rfl ?_
    refine i_180_226 (x := 128) rfl ?_
    refine i_180_227 (v := Value.int 16384) hm rfl ?_
    refine i_180_230 (fun _ => ?_) (fun h => absurd (show E.toInt ≤ 16384 by omega) (Int.not_le.mpr h))
    refine i_180_367 (x := 128) rfl ?_
    refine i_180_368 (v := Value.ref 135) hm rfl ?_
    refine i_180_371 (v := Value.int 3) hq rfl ?_
    refine i_180_374 (fun _ => ?_) (fun h => absurd h (by decide))
    refine i_180_392 (x := 128) rfl ?_
    refine i_180_393 (v := Value.int 0) hm rfl ?_
    refine i_180_396 (fun h => absurd h (by decide)) (fun _ => ?_)
    refine i_180_399 (x := 128) rfl ?_
    refine i_180_400 (v := Value.int 0) hm rfl ?_
    refine i_180_403 (fun h => absurd h (by decide)) (fun _ => ?_)
    refine i_180_406 (x := E) rfl ?_
    refine i_180_408 (x := 128) rfl ?_
    refine i_180_409 (v := Value.int (-16384)) hm rfl ?_
    refine i_180_412 (fun h => absurd (show E.toInt < (-16384) by omega) (Int.not_lt.mpr h)) (fun _ => ?_)
    refine i_180_415 (x := 128) rfl ?_
    refine i_180_416 rfl ?_
    refine i_180_417 (v := Value.int 0) hm rfl ?_
    refine i_180_420 ?_
    refine i_180_421 (c := 4) (by decide) ?_
    refine i_180_422 (fs2 := [Value.ref 129, Value.ref 131, Value.ref 133, Value.ref 135, Value.ref 137, Value.ref 139, Value.ref 141, Value.ref 143, Value.ref 145, Value.ref 147, Value.ref 149, Value.ref 151, Value.ref 153, Value.ref 154, Value.ref 155, Value.ref 156, Value.ref 157, Value.int (-16384), Value.int 16384, Value.int 4, Value.int 0, Value.int 0, Value.ref 158, Value.ref 159, Value.int 0, Value.int 0, Value.int 0, Value.int 0, Value.int 0, Value.int 0, Value.int 0, Value.int 0]) hm (Nat.le_of_ble_eq_true rfl) rfl (by omega) ?_
    refine i_180_425 (x := E) rfl ?_
    refine i_180_427 (x := 128) rfl ?_
    refine i_180_428 (v := Value.int (-16384)) (xgs hm) rfl ?_
    refine i_180_431 ?_
    refine i_180_432 (c := (-16385)) (by decide) ?_
    refine i_180_433 (fun h => absurd (show E.toInt ≤ (-16385) by omega) (Int.not_le.mpr h)) (fun _ => ?_)
    refine i_180_436 (x := E) rfl ?_
    refine i_180_438 (x := 128) rfl ?_
    refine i_180_439 (v := Value.int (-16384)) (xgs hm) rfl ?_
    refine i_180_442 ?_
    refine i_180_443 (c := (-16385)) (by decide) ?_
    refine i_180_444 (fun h => absurd (show E.toInt = (-16385) by omega) h) (fun _ => ?_)
    refine i_180_447 (x := 0) rfl ?_
    refine i_180_449 (fun h => absurd h (by decide)) (fun _ => ?_)
    refine i_180_452 (x := 129) rfl ?_
    refine i_180_453 (x := 129) rfl ?_
    refine i_180_454 (xgn (by decide) hv) (Nat.le_of_ble_eq_true rfl) (hbits _ _ (xgn (by omega) (rfl)) (xgn (by omega) (rfl))) ?_
    refine i_180_457 ?_
    refine i_180_458 (c := (B - (1 : Int32))) rfl ?_
    refine i_180_459 (xgn (by decide) hv) (Nat.le_of_ble_eq_true rfl) (hany1 c15 _ _ (xgn (by omega) (rfl)) (xgn (by omega) (rfl))) ?_
    refine i_180_462 (fun h => absurd h (by decide)) (fun _ => ?_)
    refine i_180_465 ?_
    refine i_180_466 ?_
    refine i_180_470 (lv2 := [(15, Value.int 1), (14, Value.int 0), (13, Value.int E), (12, Value.int 1), (11, Value.int 0), (10, Value.int C), (9, Value.int U), (8, Value.int E), (7, Value.int 64), (0, Value.ref 128), (1, Value.int (xs 1)), (2, Value.ref 129), (3, Value.int sc), (4, Value.int 0), (5, Value.int 1), (6, Value.int md)]) rfl ?_
    refine i_180_472 (x := md) rfl ?_
    refine i_180_474 ?_
    refine i_180_475 (fun h => absurd (show md.toInt ≠ 4 by omega) (fun g => g h)) (fun _ => ?_)
    refine i_180_478 (x := md) rfl ?_
    refine i_180_480 ?_
    refine i_180_481 (fun _ => ?_) (fun h => absurd (show md.toInt ≠ 2 by omega) (fun g => g h))
    refine i_180_489 (x := md) rfl ?_
    refine i_180_491 ?_
    refine i_180_492 (fun _ => ?_) (fun h => absurd (show md.toInt ≠ 3 by omega) (fun g => g h))
    refine i_180_500 (x := md) rfl ?_
    refine i_180_502 (fun _ => ?_) (fun h => absurd (show md.toInt ≠ 0 by omega) (fun g => g h))
    refine i_180_514 ?_
    refine i_180_515 (lv2 := [(16, Value.int 0), (15, Value.int 1), (14, Value.int 0), (13, Value.int E), (12, Value.int 1), (11, Value.int 0), (10, Value.int C), (9, Value.int U), (8, Value.int E), (7, Value.int 64), (0, Value.ref 128), (1, Value.int (xs 1)), (2, Value.ref 129), (3, Value.int sc), (4, Value.int 0), (5, Value.int 1), (6, Value.int md)]) rfl ?_
    refine i_180_517 (x := 0) rfl ?_
    refine i_180_519 (fun _ => ?_) (fun h => absurd h (by decide))
    refine i_180_556 (x := 128) rfl ?_
    refine i_180_557 (x := (xs 1)) rfl ?_
    refine i_180_558 ?_
    refine i_180_559 (x := 1) rfl ?_
    refine i_180_561 (xgs hm) (Nat.le_of_ble_eq_true rfl) (s_171_3 (xgs hm) (xgn (by decide) (((hk 154 (by decide) (by decide) (by decide) (by decide) (by decide)).trans W0_154))) (by omega) (by omega) (xgn (by decide) hn)) ?_
    refine i_180_564 rfl ?_
    refine i_180_565 (x := 0) rfl ?_
    refine i_180_567 (fun _ => ?_) (fun h => absurd h (by decide))
    refine i_180_574 ?_
    refine i_180_575 (lv2 := [(14, Value.int (-1)), (16, Value.int 0), (15, Value.int 1), (13, Value.int E), (12, Value.int 1), (11, Value.int 0), (10, Value.int C), (9, Value.int U), (8, Value.int E), (7, Value.int 64), (0, Value.ref 128), (1, Value.int (xs 1)), (2, Value.ref 129), (3, Value.int sc), (4, Value.int 0), (5, Value.int 1), (6, Value.int md)]) rfl ?_
    refine i_180_577 ?_
    refine i_180_591 (x := 128) rfl ?_
    refine i_180_592 (v := Value.int 0) (xgn (by decide) (xgn (by decide) (xgs hm))) rfl ?_
    refine i_180_595 (fun h => absurd h (by decide)) (fun _ => ?_)
    refine i_180_598 (x := 128) rfl ?_
    refine i_180_599 (v := Value.int 0) (xgn (by decide) (xgn (by decide) (xgs hm))) rfl ?_
    refine i_180_602 (fun _ => ?_) (fun h => absurd h (by decide))
    refine i_180_629 (x := (-1)) rfl ?_
    refine i_180_631 (fun h => absurd h (by decide)) (fun _ => ?_)
    refine i_180_634 (x := 128) rfl ?_
    refine i_180_635 rfl ?_
    refine i_180_636 (v := Value.int 4) (xgn (by decide) (xgn (by decide) (xgs hm))) rfl ?_
    refine i_180_639 ?_
    refine i_180_640 (c := 5) (by decide) ?_
    refine i_180_641 (fs2 := [Value.ref 129, Value.ref 131, Value.ref 133, Value.ref 135, Value.ref 137, Value.ref 139, Value.ref 141, Value.ref 143, Value.ref 145, Value.ref 147, Value.ref 149, Value.ref 151, Value.ref 153, Value.ref 154, Value.ref 155, Value.ref 156, Value.ref 157, Value.int (-16384), Value.int 16384, Value.int 5, Value.int 0, Value.int 0, Value.ref 158, Value.ref 159, Value.int 0, Value.int 0, Value.int 0, Value.int 0, Value.int 0, Value.int 0, Value.int 0, Value.int 0]) (xgn (by decide) (xgn (by decide) (xgs hm))) (Nat.le_of_ble_eq_true rfl) rfl (by omega) ?_
    refine i_180_644 (x := 1) rfl ?_
    refine i_180_646 (fun h => absurd h (by decide)) (fun _ => ?_)
    refine i_180_649 (x := (-1)) rfl ?_
    refine i_180_651 (c := 1) (by decide) ?_
    refine i_180_652 ?_
    exact i_180_657 ⟨rfl, rfl⟩
  · refine xKp.set ?_ (fun h hh => by unfold xPM at hh; omega) (xgn (by decide) (xgn (by decide) (xgs hm))) xcs_o
    refine xKp.set ?_ (fun h hh => by unfold xPM at hh; omega) (xgn (by decide) (xgn (by decide) hn)) xcs_a
    refine xKp.set ?_ (fun h hh => by unfold xPM at hh; omega) (xgn (by decide) (((hk 154 (by decide) (by decide) (by decide) (by decide) (by decide)).trans W0_154))) xcs_a
    refine xKp.set ?_ (fun h hh => by unfold xPM at hh; omega) (hm) xcs_o
    exact xKp.refl
theorem sf1_15 {d : Nat} {xs : Nat → Int32} {m : Int64} {sc md : Int32} {w : xW} {B E U C q0 q1 q2 nn : Int32} {g : Nat → Value} (hk : ∀ h, 131 ≤ h → h < 194 → h ≠ 135 → h ≠ 136 → h ≠ 156 → w[h]? = (W0 6 xs)[h]?) (hm : w[128]? = some (Sum.inr (12, [Value.ref 129, Value.ref 131, Value.ref 133, Value.ref 135, Value.ref 137, Value.ref 139, Value.ref 141, Value.ref 143, Value.ref 145, Value.ref 147, Value.ref 149, Value.ref 151, Value.ref 153, Value.ref 154, Value.ref 155, Value.ref 156, Value.ref 157, Value.int (-16384), Value.int 16384, Value.int 0, Value.int 0, Value.int 0, Value.ref 158, Value.ref 159, Value.int 0, Value.int 0, Value.int 0, Value.int 0, Value.int 0, Value.int 0, Value.int 0, Value.int 0]))) (hv : w[129]? = some (Sum.inr (13, [Value.ref 130, Value.int nn]))) (hq : w[135]? = some (Sum.inr (13, [Value.ref 136, Value.int 3]))) (hqw : w[136]? = some (Sum.inl (0, 4700, g))) (hg0 : g (0 : Int32).toInt.toNat = Value.int q0) (hg1 : g (1 : Int32).toInt.toNat = Value.int q1) (hg2 : g (2 : Int32).toInt.toNat = Value.int q2) (hn : w[156]? = some (Sum.inl (2, 17, xup (fun _ => Value.int 0) (xs 1).toInt.toNat (Value.int 1)))) (hbits : ∀ (d' : Nat) (w' : xW), w'[129]? = w[129]? → w'[130]? = w[130]? → xRun d' 181 [Value.ref 129] w' (.inl (some (Value.int B))) w') (hany0 : xPW m → ∀ (d' : Nat) (w' : xW), w'[129]? = w[129]? → w'[130]? = w[130]? → xRun d' 183 [Value.ref 129, Value.int (B - (1 : Int32))] w' (.inl (some (Value.int 0))) w') (hany1 : ¬ xPW m → ∀ (d' : Nat) (w' : xW), w'[129]? = w[129]? → w'[130]? = w[130]? → xRun d' 183 [Value.ref 129, Value.int (B - (1 : Int32))] w' (.inl (some (Value.int 1))) w') (c0 : 0 ≤ (xs 1).toInt) (c1 : (xs 1).toInt < 16) (c2 : (-40000) ≤ sc.toInt) (c3 : sc.toInt ≤ 40000) (c4 : 0 ≤ md.toInt) (c5 : md.toInt ≤ 4) (c6 : 1 ≤ B.toInt) (c7 : B.toInt ≤ 64) (c8 : E.toInt = B.toInt + sc.toInt) (c9 : U.toInt = E.toInt - 64) (c10 : 0 ≤ q2.toInt) (c11 : (xbn q2).toInt = 4) (c12 : E.toInt ≤ 16384) (c13 : E.toInt < (-16384)) (c14 : E.toInt ≠ (-16385)) (c15 : md.toInt = 4) : ∃ w2, xEv (d + 6) 180 207 [(14, Value.int 0), (13, Value.int E), (12, Value.int 1), (11, Value.int 0), (10, Value.int C), (9, Value.int U), (8, Value.int E), (7, Value.int 64), (0, Value.ref 128), (1, Value.int (xs 1)), (2, Value.ref 129), (3, Value.int sc), (4, Value.int 0), (5, Value.int 1), (6, Value.int md)] [] w (fun o' w' => o' = .inl (some (Value.int (-1))) ∧ w' = w2) ∧ xKp w w2 xPM ∧ w2[128]? = some (Sum.inr (12, [Value.ref 129, Value.ref 131, Value.ref 133, Value.ref 135, Value.ref 137, Value.ref 139, Value.ref 141, Value.ref 143, Value.ref 145, Value.ref 147, Value.ref 149, Value.ref 151, Value.ref 153, Value.ref 154, Value.ref 155, Value.ref 156, Value.ref 157, Value.int (-16384), Value.int 16384, Value.int 5, Value.int 0, Value.int 0, Value.ref 158, Value.ref 159, Value.int 0, Value.int 0, Value.int 0, Value.int 0, Value.int 0, Value.int 0, Value.int 0, Value.int 0])) := by
  refine ⟨(((((((((((((((w.set 128 (Sum.inr (12, [Value.ref 129, Value.ref 131, Value.ref 133, Value.ref 135, Value.ref 137, Value.ref 139, Value.ref 141, Value.ref 143, Value.ref 145, Value.ref 147, Value.ref 149, Value.ref 151, Value.ref 153, Value.ref 154, Value.ref 155, Value.ref 156, Value.ref 157, Value.int (-16384), Value.int 16384, Value.int 4, Value.int 0, Value.int 0, Value.ref 158, Value.ref 159, Value.int 0, Value.int 0, Value.int 0, Value.int 0, Value.int 0, Value.int 0, Value.int 0, Value.int 0]))).set 151 (Sum.inr (13, [Value.ref 152, Value.int 0]))).set 152 (Sum.inl (0, 4700, xup (fun _ => Value.int 0) (0 : Int32).toInt.toNat (Value.int 1)))).set 151 (Sum.inr (13, [Value.ref 152, Value.int 1]))).set (160 + 2 * (xs 1).toInt.toNat) (Sum.inr (13, [Value.ref (161 + 2 * (xs 1).toInt.toNat), Value.int 0]))).set 138 (Sum.inl (0, 4700, xcp (xup (fun _ => Value.int 0) (0 : Int32).toInt.toNat (Value.int 1)) (fun _ => Value.int 0) (0 : Int32).toInt.toNat (0 : Int32).toInt.toNat (1 : Int32).toInt.toNat))).set 137 (Sum.inr (13, [Value.ref 138, Value.int 1]))).set 138 (Sum.inl (0, 4700, xup (xup (xup (xup (xup (xcp (xup (fun _ => Value.int 0) (0 : Int32).toInt.toNat (Value.int 1)) (fun _ => Value.int 0) (0 : Int32).toInt.toNat (0 : Int32).toInt.toNat (1 : Int32).toInt.toNat) (3 : Int32).toInt.toNat (Value.int 0)) (3 : Int32).toInt.toNat (Value.int 0)) (2 : Int32).toInt.toNat (Value.int 8)) (0 : Int32).toInt.toNat (Value.int 0)) (1 : Int32).toInt.toNat (Value.int 0)))).set 137 (Sum.inr (13, [Value.ref 138, Value.int 3]))).set (161 + 2 * (xs 1).toInt.toNat) (Sum.inl (0, 140, xcp (xup (xup (xup (xup (xup (xcp (xup (fun _ => Value.int 0) (0 : Int32).toInt.toNat (Value.int 1)) (fun _ => Value.int 0) (0 : Int32).toInt.toNat (0 : Int32).toInt.toNat (1 : Int32).toInt.toNat) (3 : Int32).toInt.toNat (Value.int 0)) (3 : Int32).toInt.toNat (Value.int 0)) (2 : Int32).toInt.toNat (Value.int 8)) (0 : Int32).toInt.toNat (Value.int 0)) (1 : Int32).toInt.toNat (Value.int 0)) (fun _ => Value.int 0) (0 : Int32).toInt.toNat (0 : Int32).toInt.toNat (3 : Int32).toInt.toNat))).set (160 + 2 * (xs 1).toInt.toNat) (Sum.inr (13, [Value.ref (161 + 2 * (xs 1).toInt.toNat), Value.int 3]))).set 154 (Sum.inl (0, 17, xup (fun _ => Value.int 0) (xs 1).toInt.toNat (Value.int 3)))).set 155 (Sum.inl (0, 17, xup (fun _ => Value.int 0) (xs 1).toInt.toNat (Value.int (-16384))))).set 156 (Sum.inl (2, 17, xup (xup (fun _ => Value.int 0) (xs 1).toInt.toNat (Value.int 1)) (xs 1).toInt.toNat (Value.int 1)))).set 128 (Sum.inr (12, [Value.ref 129, Value.ref 131, Value.ref 133, Value.ref 135, Value.ref 137, Value.ref 139, Value.ref 141, Value.ref 143, Value.ref 145, Value.ref 147, Value.ref 149, Value.ref 151, Value.ref 153, Value.ref 154, Value.ref 155, Value.ref 156, Value.ref 157, Value.int (-16384), Value.int 16384, Value.int 5, Value.int 0, Value.int 0, Value.ref 158, Value.ref 159, Value.int 0, Value.int 0, Value.int 0, Value.int 0, Value.int 0, Value.int 0, Value.int 0, Value.int 0]))), ?_, ?_, xgs (xgn (by decide) (xgn (by decide) (xgn (by decide) (xgn (by omega) (xgn (by omega) (xgn (by decide) (xgn (by decide) (xgn (by decide) (xgn (by decide) (xgn (by omega) (xgn (by decide) (xgn (by decide) (xgn (by decide) (xgs hm))))))))))))))⟩
  · refine i_180_207 (x := 128) rfl ?_
    refine i_180_208 (v := Value.int 0) hm rfl ?_
    refine i_180_211 (fun h => absurd h (by decide)) (fun _ => ?_)
    refine i_180_214 (x := 128) rfl ?_
    refine i_180_215 (v := Value.ref 135) hm rfl ?_
    refine i_180_218 (v := Value.int 3) hq rfl ?_
    refine i_180_221 (fun h => absurd h (by decide)) (fun _ => ?_)
    refine i_180_224 (x := E) rfl ?_
    refine i_180_226 (x := 128) rfl ?_
    refine i_180_227 (v := Value.int 16384) hm rfl ?_
    refine i_180_230 (fun _ => ?_) (fun h => absurd (show E.toInt ≤ 16384 by omega) (Int.not_le.mpr h))
    refine i_180_367 (x := 128) rfl ?_
    refine i_180_368 (v := Value.ref 135) hm rfl ?_
    refine i_180_371 (v := Value.int 3) hq rfl ?_
    refine i_180_374 (fun _ => ?_) (fun h => absurd h (by decide))
    refine i_180_392 (x := 128) rfl ?_
    refine i_180_393 (v := Value.int 0) hm rfl ?_
    refine i_180_396 (fun h => absurd h (by decide)) (fun _ => ?_)
    refine i_180_399 (x := 128) rfl ?_
    refine i_180_400 (v := Value.int 0) hm rfl ?_
    refine i_180_403 (fun h => absurd h (by decide)) (fun _ => ?_)
    refine i_180_406 (x := E) rfl ?_
    refine i_180_408 (x := 128) rfl ?_
    refine i_180_409 (v := Value.int (-16384)) hm rfl ?_
    refine i_180_412 (fun h => absurd (show E.toInt < (-16384) by omega) (Int.not_lt.mpr h)) (fun _ => ?_)
    refine i_180_415 (x := 128) rfl ?_
    refine i_180_416 rfl ?_
    refine i_180_417 (v := Value.int 0) hm rfl ?_
    refine i_180_420 ?_
    refine i_180_421 (c := 4) (by decide) ?_
    refine i_180_422 (fs2 := [Value.ref 129, Value.ref 131, Value.ref 133, Value.ref 135, Value.ref 137, Value.ref 139, Value.ref 141, Value.ref 143, Value.ref 145, Value.ref 147, Value.ref 149, Value.ref 151, Value.ref 153, Value.ref 154, Value.ref 155, Value.ref 156, Value.ref 157, Value.int (-16384), Value.int 16384, Value.int 4, Value.int 0, Value.int 0, Value.ref 158, Value.ref 159, Value.int 0, Value.int 0, Value.int 0, Value.int 0, Value.int 0, Value.int 0, Value.int 0, Value.int 0]) hm (Nat.le_of_ble_eq_true rfl) rfl (by omega) ?_
    refine i_180_425 (x := E) rfl ?_
    refine i_180_427 (x := 128) rfl ?_
    refine i_180_428 (v := Value.int (-16384)) (xgs hm) rfl ?_
    refine i_180_431 ?_
    refine i_180_432 (c := (-16385)) (by decide) ?_
    refine i_180_433 (fun h => absurd (show E.toInt ≤ (-16385) by omega) (Int.not_le.mpr h)) (fun _ => ?_)
    refine i_180_436 (x := E) rfl ?_
    refine i_180_438 (x := 128) rfl ?_
    refine i_180_439 (v := Value.int (-16384)) (xgs hm) rfl ?_
    refine i_180_442 ?_
    refine i_180_443 (c := (-16385)) (by decide) ?_
    refine i_180_444 (fun _ => ?_) (fun h => absurd (show E.toInt ≠ (-16385) by omega) (fun g => g h))
    refine i_180_469 ?_
    refine i_180_470 (lv2 := [(15, Value.int 0), (14, Value.int 0), (13, Value.int E), (12, Value.int 1), (11, Value.int 0), (10, Value.int C), (9, Value.int U), (8, Value.int E), (7, Value.int 64), (0, Value.ref 128), (1, Value.int (xs 1)), (2, Value.ref 129), (3, Value.int sc), (4, Value.int 0), (5, Value.int 1), (6, Value.int md)]) rfl ?_
    refine i_180_472 (x := md) rfl ?_
    refine i_180_474 ?_
    refine i_180_475 (fun _ => ?_) (fun h => absurd (show md.toInt = 4 by omega) h)
    refine i_180_510 ?_
    refine i_180_511 ?_
    refine i_180_515 (lv2 := [(16, Value.int 1), (15, Value.int 0), (14, Value.int 0), (13, Value.int E), (12, Value.int 1), (11, Value.int 0), (10, Value.int C), (9, Value.int U), (8, Value.int E), (7, Value.int 64), (0, Value.ref 128), (1, Value.int (xs 1)), (2, Value.ref 129), (3, Value.int sc), (4, Value.int 0), (5, Value.int 1), (6, Value.int md)]) rfl ?_
    refine i_180_517 (x := 1) rfl ?_
    refine i_180_519 (fun h => absurd h (by decide)) (fun _ => ?_)
    refine i_180_522 (x := 128) rfl ?_
    refine i_180_523 (v := Value.ref 151) (xgs hm) rfl ?_
    refine i_180_526 ?_
    refine i_180_527 (xgn (by decide) (((hk 151 (by decide) (by decide) (by decide) (by decide) (by decide)).trans W0_151))) (Nat.le_of_ble_eq_true rfl) (s_179_2 (xgn (by decide) (((hk 151 (by decide) (by decide) (by decide) (by decide) (by decide)).trans W0_151))) (xgn (by decide) (((hk 152 (by decide) (by decide) (by decide) (by decide) (by decide)).trans W0_152)))) ?_
    refine i_180_530 (x := 128) rfl ?_
    refine i_180_531 (x := (xs 1)) rfl ?_
    refine i_180_532 (x := 128) rfl ?_
    refine i_180_533 (v := Value.ref 151) (xgn (by decide) (xgn (by decide) (xgn (by decide) (xgs hm)))) rfl ?_
    refine i_180_536 (x := 128) rfl ?_
    refine i_180_537 (v := Value.int (-16384)) (xgn (by decide) (xgn (by decide) (xgn (by decide) (xgs hm)))) rfl ?_
    refine i_180_540 ?_
    refine i_180_541 (c := (-16385)) (by decide) ?_
    refine i_180_542 (xgn (by decide) (xgn (by decide) (xgn (by decide) (xgs hm)))) (Nat.le_of_ble_eq_true rfl) (s_192_1 (xgn (by decide) (xgn (by decide) (xgn (by decide) (xgs hm)))) (xgn (by decide) (xgn (by decide) (xgn (by decide) (xgn (by decide) (((hk 153 (by decide) (by decide) (by decide) (by decide) (by decide)).trans W0_153)))))) (by omega) (by omega) (gprec_at (by omega)) (xgs (xgn (by decide) (xgs (xgn (by decide) (((hk 151 (by decide) (by decide) (by decide) (by decide) (by decide)).trans W0_151)))))) (xgn (by decide) (xgs (xgn (by decide) (xgn (by decide) (((hk 152 (by decide) (by decide) (by decide) (by decide) (by decide)).trans W0_152)))))) xup_s (xgn (by decide) (xgn (by decide) (xgn (by decide) (xgn (by decide) (((hk 157 (by decide) (by decide) (by decide) (by decide) (by decide)).trans W0_157)))))) (gpart_at (by omega)) (xgn (by omega) (xgn (by omega) (xgn (by omega) (xgn (by omega) (((hk _ (by omega) (by omega) (by omega) (by omega) (by omega)).trans (W0_part (by omega)))))))) (by omega) (by omega) (by omega) (xgn (by decide) (xgn (by decide) (xgn (by decide) (xgn (by decide) (((hk 137 (by decide) (by decide) (by decide) (by decide) (by decide)).trans W0_137)))))) (by omega) (by omega) (by omega) (xgn (by decide) (xgn (by decide) (xgn (by decide) (xgn (by decide) (((hk 138 (by decide) (by decide) (by decide) (by decide) (by decide)).trans W0_138)))))) (by omega) (by omega) (by omega) (by omega) (by omega) (by omega) (xgn (by omega) (xgn (by omega) (xgn (by omega) (xgn (by omega) (((hk _ (by omega) (by omega) (by omega) (by omega) (by omega)).trans (W0_pw (by omega)))))))) (by omega) (by omega) (by omega) (by omega) (by omega) (by omega) (xgn (by decide) (xgn (by decide) (xgn (by decide) (xgn (by decide) (((hk 154 (by decide) (by decide) (by decide) (by decide) (by decide)).trans W0_154)))))) (by omega) (by omega) (xgn (by decide) (xgn (by decide) (xgn (by decide) (xgn (by decide) (((hk 155 (by decide) (by decide) (by decide) (by decide) (by decide)).trans W0_155))))))) ?_
    refine i_180_545 (x := 128) rfl ?_
    refine i_180_546 (v := Value.ref 156) (xgn (by decide) (xgn (by decide) (xgn (by omega) (xgn (by omega) (xgn (by decide) (xgn (by decide) (xgn (by decide) (xgn (by decide) (xgn (by omega) (xgn (by decide) (xgn (by decide) (xgn (by decide) (xgs hm))))))))))))) rfl ?_
    refine i_180_549 (x := (xs 1)) rfl ?_
    refine i_180_550 (x := 1) rfl ?_
    refine i_180_552z (v := Value.int 1) (xgn (by decide) (xgn (by decide) (xgn (by omega) (xgn (by omega) (xgn (by decide) (xgn (by decide) (xgn (by decide) (xgn (by decide) (xgn (by omega) (xgn (by decide) (xgn (by decide) (xgn (by decide) (xgn (by decide) hn))))))))))))) (by omega) (by omega) (by omega) rfl ?_
    refine i_180_553 ?_
    refine i_180_565 (x := 1) rfl ?_
    refine i_180_567 (fun h => absurd h (by decide)) (fun _ => ?_)
    refine i_180_570 ?_
    refine i_180_571 ?_
    refine i_180_575 (lv2 := [(14, Value.int 1), (16, Value.int 1), (15, Value.int 0), (13, Value.int E), (12, Value.int 1), (11, Value.int 0), (10, Value.int C), (9, Value.int U), (8, Value.int E), (7, Value.int 64), (0, Value.ref 128), (1, Value.int (xs 1)), (2, Value.ref 129), (3, Value.int sc), (4, Value.int 0), (5, Value.int 1), (6, Value.int md)]) rfl ?_
    refine i_180_577 ?_
    refine i_180_591 (x := 128) rfl ?_
    refine i_180_592 (v := Value.int 0) (xgn (by decide) (xgn (by decide) (xgn (by decide) (xgn (by omega) (xgn (by omega) (xgn (by decide) (xgn (by decide) (xgn (by decide) (xgn (by decide) (xgn (by omega) (xgn (by decide) (xgn (by decide) (xgn (by decide) (xgs hm)))))))))))))) rfl ?_
    refine i_180_595 (fun h => absurd h (by decide)) (fun _ => ?_)
    refine i_180_598 (x := 128) rfl ?_
    refine i_180_599 (v := Value.int 0) (xgn (by decide) (xgn (by decide) (xgn (by decide) (xgn (by omega) (xgn (by omega) (xgn (by decide) (xgn (by decide) (xgn (by decide) (xgn (by decide) (xgn (by omega) (xgn (by decide) (xgn (by decide) (xgn (by decide) (xgs hm)))))))))))))) rfl ?_
    refine i_180_602 (fun _ => ?_) (fun h => absurd h (by decide))
    refine i_180_629 (x := 1) rfl ?_
    refine i_180_631 (fun h => absurd h (by decide)) (fun _ => ?_)
    refine i_180_634 (x := 128) rfl ?_
    refine i_180_635 rfl ?_
    refine i_180_636 (v := Value.int 4) (xgn (by decide) (xgn (by decide) (xgn (by decide) (xgn (by omega) (xgn (by omega) (xgn (by decide) (xgn (by decide) (xgn (by decide) (xgn (by decide) (xgn (by omega) (xgn (by decide) (xgn (by decide) (xgn (by decide) (xgs hm)))))))))))))) rfl ?_
    refine i_180_639 ?_
    refine i_180_640 (c := 5) (by decide) ?_
    refine i_180_641 (fs2 := [Value.ref 129, Value.ref 131, Value.ref 133, Value.ref 135, Value.ref 137, Value.ref 139, Value.ref 141, Value.ref 143, Value.ref 145, Value.ref 147, Value.ref 149, Value.ref 151, Value.ref 153, Value.ref 154, Value.ref 155, Value.ref 156, Value.ref 157, Value.int (-16384), Value.int 16384, Value.int 5, Value.int 0, Value.int 0, Value.ref 158, Value.ref 159, Value.int 0, Value.int 0, Value.int 0, Value.int 0, Value.int 0, Value.int 0, Value.int 0, Value.int 0]) (xgn (by decide) (xgn (by decide) (xgn (by decide) (xgn (by omega) (xgn (by omega) (xgn (by decide) (xgn (by decide) (xgn (by decide) (xgn (by decide) (xgn (by omega) (xgn (by decide) (xgn (by decide) (xgn (by decide) (xgs hm)))))))))))))) (Nat.le_of_ble_eq_true rfl) rfl (by omega) ?_
    refine i_180_644 (x := 1) rfl ?_
    refine i_180_646 (fun h => absurd h (by decide)) (fun _ => ?_)
    refine i_180_649 (x := 1) rfl ?_
    refine i_180_651 (c := (-1)) (by decide) ?_
    refine i_180_652 ?_
    exact i_180_657 ⟨rfl, rfl⟩
  · refine xKp.set ?_ (fun h hh => by unfold xPM at hh; omega) (xgn (by decide) (xgn (by decide) (xgn (by decide) (xgn (by omega) (xgn (by omega) (xgn (by decide) (xgn (by decide) (xgn (by decide) (xgn (by decide) (xgn (by omega) (xgn (by decide) (xgn (by decide) (xgn (by decide) (xgs hm)))))))))))))) xcs_o
    refine xKp.set ?_ (fun h hh => by unfold xPM at hh; omega) (xgn (by decide) (xgn (by decide) (xgn (by omega) (xgn (by omega) (xgn (by decide) (xgn (by decide) (xgn (by decide) (xgn (by decide) (xgn (by omega) (xgn (by decide) (xgn (by decide) (xgn (by decide) (xgn (by decide) hn))))))))))))) xcs_a
    refine xKp.set ?_ (fun h hh => by unfold xPM at hh; omega) (xgn (by decide) (xgn (by omega) (xgn (by omega) (xgn (by decide) (xgn (by decide) (xgn (by decide) (xgn (by decide) (xgn (by omega) (xgn (by decide) (xgn (by decide) (xgn (by decide) (xgn (by decide) (((hk 155 (by decide) (by decide) (by decide) (by decide) (by decide)).trans W0_155)))))))))))))) xcs_a
    refine xKp.set ?_ (fun h hh => by unfold xPM at hh; omega) (xgn (by omega) (xgn (by omega) (xgn (by decide) (xgn (by decide) (xgn (by decide) (xgn (by decide) (xgn (by omega) (xgn (by decide) (xgn (by decide) (xgn (by decide) (xgn (by decide) (((hk 154 (by decide) (by decide) (by decide) (by decide) (by decide)).trans W0_154))))))))))))) xcs_a
    refine xKp.set ?_ (fun h hh => by unfold xPM at hh; omega) (xgn (by omega) (xgn (by omega) (xgn (by omega) (xgn (by omega) (xgn (by omega) (xgs (xgn (by omega) (xgn (by omega) (xgn (by omega) (xgn (by omega) (((hk _ (by omega) (by omega) (by omega) (by omega) (by omega)).trans (W0_part (by omega)))))))))))))) xcs_o
    refine xKp.set ?_ (fun h hh => by unfold xPM at hh; omega) (xgn (by omega) (xgn (by omega) (xgn (by omega) (xgn (by omega) (xgn (by omega) (xgn (by omega) (xgn (by omega) (xgn (by omega) (xgn (by omega) (((hk _ (by omega) (by omega) (by omega) (by omega) (by omega)).trans (W0_pw (by omega))))))))))))) xcs_a
    refine xKp.set ?_ (fun h hh => by unfold xPM at hh; omega) (xgn (by decide) (xgs (xgn (by decide) (xgn (by omega) (xgn (by decide) (xgn (by decide) (xgn (by decide) (xgn (by decide) (((hk 137 (by decide) (by decide) (by decide) (by decide) (by decide)).trans W0_137)))))))))) xcs_o
    refine xKp.set ?_ (fun h hh => by unfold xPM at hh; omega) (xgn (by decide) (xgs (xgn (by omega) (xgn (by decide) (xgn (by decide) (xgn (by decide) (xgn (by decide) (((hk 138 (by decide) (by decide) (by decide) (by decide) (by decide)).trans W0_138))))))))) xcs_a
    refine xKp.set ?_ (fun h hh => by unfold xPM at hh; omega) (xgn (by decide) (xgn (by omega) (xgn (by decide) (xgn (by decide) (xgn (by decide) (xgn (by decide) (((hk 137 (by decide) (by decide) (by decide) (by decide) (by decide)).trans W0_137)))))))) xcs_o
    refine xKp.set ?_ (fun h hh => by unfold xPM at hh; omega) (xgn (by omega) (xgn (by decide) (xgn (by decide) (xgn (by decide) (xgn (by decide) (((hk 138 (by decide) (by decide) (by decide) (by decide) (by decide)).trans W0_138))))))) xcs_a
    refine xKp.set ?_ (fun h hh => by unfold xPM at hh; omega) (xgn (by omega) (xgn (by omega) (xgn (by omega) (xgn (by omega) (((hk _ (by omega) (by omega) (by omega) (by omega) (by omega)).trans (W0_part (by omega)))))))) xcs_o
    refine xKp.set ?_ (fun h hh => by unfold xPM at hh; omega) (xgn (by decide) (xgs (xgn (by decide) (((hk 151 (by decide) (by decide) (by decide) (by decide) (by decide)).trans W0_151))))) xcs_o
    refine xKp.set ?_ (fun h hh => by unfold xPM at hh; omega) (xgn (by decide) (xgn (by decide) (((hk 152 (by decide) (by decide) (by decide) (by decide) (by decide)).trans W0_152)))) xcs_a
    refine xKp.set ?_ (fun h hh => by unfold xPM at hh; omega) (xgn (by decide) (((hk 151 (by decide) (by decide) (by decide) (by decide) (by decide)).trans W0_151))) xcs_o
    refine xKp.set ?_ (fun h hh => by unfold xPM at hh; omega) (hm) xcs_o
    exact xKp.refl
theorem sf1_16 {d : Nat} {xs : Nat → Int32} {m : Int64} {sc md : Int32} {w : xW} {B E U C q0 q1 q2 nn : Int32} {g : Nat → Value} (hk : ∀ h, 131 ≤ h → h < 194 → h ≠ 135 → h ≠ 136 → h ≠ 156 → w[h]? = (W0 6 xs)[h]?) (hm : w[128]? = some (Sum.inr (12, [Value.ref 129, Value.ref 131, Value.ref 133, Value.ref 135, Value.ref 137, Value.ref 139, Value.ref 141, Value.ref 143, Value.ref 145, Value.ref 147, Value.ref 149, Value.ref 151, Value.ref 153, Value.ref 154, Value.ref 155, Value.ref 156, Value.ref 157, Value.int (-16384), Value.int 16384, Value.int 0, Value.int 0, Value.int 0, Value.ref 158, Value.ref 159, Value.int 0, Value.int 0, Value.int 0, Value.int 0, Value.int 0, Value.int 0, Value.int 0, Value.int 0]))) (hv : w[129]? = some (Sum.inr (13, [Value.ref 130, Value.int nn]))) (hq : w[135]? = some (Sum.inr (13, [Value.ref 136, Value.int 3]))) (hqw : w[136]? = some (Sum.inl (0, 4700, g))) (hg0 : g (0 : Int32).toInt.toNat = Value.int q0) (hg1 : g (1 : Int32).toInt.toNat = Value.int q1) (hg2 : g (2 : Int32).toInt.toNat = Value.int q2) (hn : w[156]? = some (Sum.inl (2, 17, xup (fun _ => Value.int 0) (xs 1).toInt.toNat (Value.int 1)))) (hbits : ∀ (d' : Nat) (w' : xW), w'[129]? = w[129]? → w'[130]? = w[130]? → xRun d' 181 [Value.ref 129] w' (.inl (some (Value.int B))) w') (hany0 : xPW m → ∀ (d' : Nat) (w' : xW), w'[129]? = w[129]? → w'[130]? = w[130]? → xRun d' 183 [Value.ref 129, Value.int (B - (1 : Int32))] w' (.inl (some (Value.int 0))) w') (hany1 : ¬ xPW m → ∀ (d' : Nat) (w' : xW), w'[129]? = w[129]? → w'[130]? = w[130]? → xRun d' 183 [Value.ref 129, Value.int (B - (1 : Int32))] w' (.inl (some (Value.int 1))) w') (c0 : 0 ≤ (xs 1).toInt) (c1 : (xs 1).toInt < 16) (c2 : (-40000) ≤ sc.toInt) (c3 : sc.toInt ≤ 40000) (c4 : 0 ≤ md.toInt) (c5 : md.toInt ≤ 4) (c6 : 1 ≤ B.toInt) (c7 : B.toInt ≤ 64) (c8 : E.toInt = B.toInt + sc.toInt) (c9 : U.toInt = E.toInt - 64) (c10 : 0 ≤ q2.toInt) (c11 : (xbn q2).toInt = 4) (c12 : E.toInt ≤ 16384) (c13 : E.toInt < (-16384)) (c14 : E.toInt ≠ (-16385)) (c15 : md.toInt ≠ 4) (c16 : md.toInt = 2) : ∃ w2, xEv (d + 6) 180 207 [(14, Value.int 0), (13, Value.int E), (12, Value.int 1), (11, Value.int 0), (10, Value.int C), (9, Value.int U), (8, Value.int E), (7, Value.int 64), (0, Value.ref 128), (1, Value.int (xs 1)), (2, Value.ref 129), (3, Value.int sc), (4, Value.int 0), (5, Value.int 1), (6, Value.int md)] [] w (fun o' w' => o' = .inl (some (Value.int 1)) ∧ w' = w2) ∧ xKp w w2 xPM ∧ w2[128]? = some (Sum.inr (12, [Value.ref 129, Value.ref 131, Value.ref 133, Value.ref 135, Value.ref 137, Value.ref 139, Value.ref 141, Value.ref 143, Value.ref 145, Value.ref 147, Value.ref 149, Value.ref 151, Value.ref 153, Value.ref 154, Value.ref 155, Value.ref 156, Value.ref 157, Value.int (-16384), Value.int 16384, Value.int 5, Value.int 0, Value.int 0, Value.ref 158, Value.ref 159, Value.int 0, Value.int 0, Value.int 0, Value.int 0, Value.int 0, Value.int 0, Value.int 0, Value.int 0])) := by
  refine ⟨((((w.set 128 (Sum.inr (12, [Value.ref 129, Value.ref 131, Value.ref 133, Value.ref 135, Value.ref 137, Value.ref 139, Value.ref 141, Value.ref 143, Value.ref 145, Value.ref 147, Value.ref 149, Value.ref 151, Value.ref 153, Value.ref 154, Value.ref 155, Value.ref 156, Value.ref 157, Value.int (-16384), Value.int 16384, Value.int 4, Value.int 0, Value.int 0, Value.ref 158, Value.ref 159, Value.int 0, Value.int 0, Value.int 0, Value.int 0, Value.int 0, Value.int 0, Value.int 0, Value.int 0]))).set 154 (Sum.inl (0, 17, xup (fun _ => Value.int 0) (xs 1).toInt.toNat (Value.int 2)))).set 156 (Sum.inl (2, 17, xup (xup (fun _ => Value.int 0) (xs 1).toInt.toNat (Value.int 1)) (xs 1).toInt.toNat (Value.int 1)))).set 128 (Sum.inr (12, [Value.ref 129, Value.ref 131, Value.ref 133, Value.ref 135, Value.ref 137, Value.ref 139, Value.ref 141, Value.ref 143, Value.ref 145, Value.ref 147, Value.ref 149, Value.ref 151, Value.ref 153, Value.ref 154, Value.ref 155, Value.ref 156, Value.ref 157, Value.int (-16384), Value.int 16384, Value.int 5, Value.int 0, Value.int 0, Value.ref 158, Value.ref 159, Value.int 0, Value.int 0, Value.int 0, Value.int 0, Value.int 0, Value.int 0, Value.int 0, Value.int 0]))), ?_, ?_, xgs (xgn (by decide) (xgn (by decide) (xgs hm)))⟩
  · refine i_180_207 (x := 128) rfl ?_
    refine i_180_208 (v := Value.int 0) hm rfl ?_
    refine i_180_211 (fun h => absurd h (by decide)) (fun _ => ?_)
    refine i_180_214 (x := 128) rfl ?_
    refine i_180_215 (v := Value.ref 135) hm rfl ?_
    refine i_180_218 (v := Value.int 3) hq rfl ?_
    refine i_180_221 (fun h => absurd h (by decide)) (fun _ => ?_)
    refine i_180_224 (x := E) rfl ?_
    refine i_180_226 (x := 128) rfl ?_
    refine i_180_227 (v := Value.int 16384) hm rfl ?_
    refine i_180_230 (fun _ => ?_) (fun h => absurd (show E.toInt ≤ 16384 by omega) (Int.not_le.mpr h))
    refine i_180_367 (x := 128) rfl ?_
    refine i_180_368 (v := Value.ref 135) hm rfl ?_
    refine i_180_371 (v := Value.int 3) hq rfl ?_
    refine i_180_374 (fun _ => ?_) (fun h => absurd h (by decide))
    refine i_180_392 (x := 128) rfl ?_
    refine i_180_393 (v := Value.int 0) hm rfl ?_
    refine i_180_396 (fun h => absurd h (by decide)) (fun _ => ?_)
    refine i_180_399 (x := 128) rfl ?_
    refine i_180_400 (v := Value.int 0) hm rfl ?_
    refine i_180_403 (fun h => absurd h (by decide)) (fun _ => ?_)
    refine i_180_406 (x := E) rfl ?_
    refine i_180_408 (x := 128) rfl ?_
    refine i_180_409 (v := Value.int (-16384)) hm rfl ?_
    refine i_180_412 (fun h => absurd (show E.toInt < (-16384) by omega) (Int.not_lt.mpr h)) (fun _ => ?_)
    refine i_180_415 (x := 128) rfl ?_
    refine i_180_416 rfl ?_
    refine i_180_417 (v := Value.int 0) hm rfl ?_
    refine i_180_420 ?_
    refine i_180_421 (c := 4) (by decide) ?_
    refine i_180_422 (fs2 := [Value.ref 129, Value.ref 131, Value.ref 133, Value.ref 135, Value.ref 137, Value.ref 139, Value.ref 141, Value.ref 143, Value.ref 145, Value.ref 147, Value.ref 149, Value.ref 151, Value.ref 153, Value.ref 154, Value.ref 155, Value.ref 156, Value.ref 157, Value.int (-16384), Value.int 16384, Value.int 4, Value.int 0, Value.int 0, Value.ref 158, Value.ref 159, Value.int 0, Value.int 0, Value.int 0, Value.int 0, Value.int 0, Value.int 0, Value.int 0, Value.int 0]) hm (Nat.le_of_ble_eq_true rfl) rfl (by omega) ?_
    refine i_180_425 (x := E) rfl ?_
    refine i_180_427 (x := 128) rfl ?_
    refine i_180_428 (v := Value.int (-16384)) (xgs hm) rfl ?_
    refine i_180_431 ?_
    refine i_180_432 (c := (-16385)) (by decide) ?_
    refine i_180_433 (fun h => absurd (show E.toInt ≤ (-16385) by omega) (Int.not_le.mpr h)) (fun _ => ?_)
    refine i_180_436 (x := E) rfl ?_
    refine i_180_438 (x := 128) rfl ?_
    refine i_180_439 (v := Value.int (-16384)) (xgs hm) rfl ?_
    refine i_180_442 ?_
    refine i_180_443 (c := (-16385)) (by decide) ?_
    refine i_180_444 (fun _ => ?_) (fun h => absurd (show E.toInt ≠ (-16385) by omega) (fun g => g h))
    refine i_180_469 ?_
    refine i_180_470 (lv2 := [(15, Value.int 0), (14, Value.int 0), (13, Value.int E), (12, Value.int 1), (11, Value.int 0), (10, Value.int C), (9, Value.int U), (8, Value.int E), (7, Value.int 64), (0, Value.ref 128), (1, Value.int (xs 1)), (2, Value.ref 129), (3, Value.int sc), (4, Value.int 0), (5, Value.int 1), (6, Value.int md)]) rfl ?_
    refine i_180_472 (x := md) rfl ?_
    refine i_180_474 ?_
    refine i_180_475 (fun h => absurd (show md.toInt ≠ 4 by omega) (fun g => g h)) (fun _ => ?_)
    refine i_180_478 (x := md) rfl ?_
    refine i_180_480 ?_
    refine i_180_481 (fun h => absurd (show md.toInt = 2 by omega) h) (fun _ => ?_)
    refine i_180_484 (x := 1) rfl ?_
    refine i_180_486 (fun h => absurd h (by decide)) (fun _ => ?_)
    refine i_180_489 (x := md) rfl ?_
    refine i_180_491 ?_
    refine i_180_492 (fun _ => ?_) (fun h => absurd (show md.toInt ≠ 3 by omega) (fun g => g h))
    refine i_180_500 (x := md) rfl ?_
    refine i_180_502 (fun _ => ?_) (fun h => absurd (show md.toInt ≠ 0 by omega) (fun g => g h))
    refine i_180_514 ?_
    refine i_180_515 (lv2 := [(16, Value.int 0), (15, Value.int 0), (14, Value.int 0), (13, Value.int E), (12, Value.int 1), (11, Value.int 0), (10, Value.int C), (9, Value.int U), (8, Value.int E), (7, Value.int 64), (0, Value.ref 128), (1, Value.int (xs 1)), (2, Value.ref 129), (3, Value.int sc), (4, Value.int 0), (5, Value.int 1), (6, Value.int md)]) rfl ?_
    refine i_180_517 (x := 0) rfl ?_
    refine i_180_519 (fun _ => ?_) (fun h => absurd h (by decide))
    refine i_180_556 (x := 128) rfl ?_
    refine i_180_557 (x := (xs 1)) rfl ?_
    refine i_180_558 ?_
    refine i_180_559 (x := 1) rfl ?_
    refine i_180_561 (xgs hm) (Nat.le_of_ble_eq_true rfl) (s_171_3 (xgs hm) (xgn (by decide) (((hk 154 (by decide) (by decide) (by decide) (by decide) (by decide)).trans W0_154))) (by omega) (by omega) (xgn (by decide) hn)) ?_
    refine i_180_564 rfl ?_
    refine i_180_565 (x := 0) rfl ?_
    refine i_180_567 (fun _ => ?_) (fun h => absurd h (by decide))
    refine i_180_574 ?_
    refine i_180_575 (lv2 := [(14, Value.int (-1)), (16, Value.int 0), (15, Value.int 0), (13, Value.int E), (12, Value.int 1), (11, Value.int 0), (10, Value.int C), (9, Value.int U), (8, Value.int E), (7, Value.int 64), (0, Value.ref 128), (1, Value.int (xs 1)), (2, Value.ref 129), (3, Value.int sc), (4, Value.int 0), (5, Value.int 1), (6, Value.int md)]) rfl ?_
    refine i_180_577 ?_
    refine i_180_591 (x := 128) rfl ?_
    refine i_180_592 (v := Value.int 0) (xgn (by decide) (xgn (by decide) (xgs hm))) rfl ?_
    refine i_180_595 (fun h => absurd h (by decide)) (fun _ => ?_)
    refine i_180_598 (x := 128) rfl ?_
    refine i_180_599 (v := Value.int 0) (xgn (by decide) (xgn (by decide) (xgs hm))) rfl ?_
    refine i_180_602 (fun _ => ?_) (fun h => absurd h (by decide))
    refine i_180_629 (x := (-1)) rfl ?_
    refine i_180_631 (fun h => absurd h (by decide)) (fun _ => ?_)
    refine i_180_634 (x := 128) rfl ?_
    refine i_180_635 rfl ?_
    refine i_180_636 (v := Value.int 4) (xgn (by decide) (xgn (by decide) (xgs hm))) rfl ?_
    refine i_180_639 ?_
    refine i_180_640 (c := 5) (by decide) ?_
    refine i_180_641 (fs2 := [Value.ref 129, Value.ref 131, Value.ref 133, Value.ref 135, Value.ref 137, Value.ref 139, Value.ref 141, Value.ref 143, Value.ref 145, Value.ref 147, Value.ref 149, Value.ref 151, Value.ref 153, Value.ref 154, Value.ref 155, Value.ref 156, Value.ref 157, Value.int (-16384), Value.int 16384, Value.int 5, Value.int 0, Value.int 0, Value.ref 158, Value.ref 159, Value.int 0, Value.int 0, Value.int 0, Value.int 0, Value.int 0, Value.int 0, Value.int 0, Value.int 0]) (xgn (by decide) (xgn (by decide) (xgs hm))) (Nat.le_of_ble_eq_true rfl) rfl (by omega) ?_
    refine i_180_644 (x := 1) rfl ?_
    refine i_180_646 (fun h => absurd h (by decide)) (fun _ => ?_)
    refine i_180_649 (x := (-1)) rfl ?_
    refine i_180_651 (c := 1) (by decide) ?_
    refine i_180_652 ?_
    exact i_180_657 ⟨rfl, rfl⟩
  · refine xKp.set ?_ (fun h hh => by unfold xPM at hh; omega) (xgn (by decide) (xgn (by decide) (xgs hm))) xcs_o
    refine xKp.set ?_ (fun h hh => by unfold xPM at hh; omega) (xgn (by decide) (xgn (by decide) hn)) xcs_a
    refine xKp.set ?_ (fun h hh => by unfold xPM at hh; omega) (xgn (by decide) (((hk 154 (by decide) (by decide) (by decide) (by decide) (by decide)).trans W0_154))) xcs_a
    refine xKp.set ?_ (fun h hh => by unfold xPM at hh; omega) (hm) xcs_o
    exact xKp.refl
theorem sf1_17 {d : Nat} {xs : Nat → Int32} {m : Int64} {sc md : Int32} {w : xW} {B E U C q0 q1 q2 nn : Int32} {g : Nat → Value} (hk : ∀ h, 131 ≤ h → h < 194 → h ≠ 135 → h ≠ 136 → h ≠ 156 → w[h]? = (W0 6 xs)[h]?) (hm : w[128]? = some (Sum.inr (12, [Value.ref 129, Value.ref 131, Value.ref 133, Value.ref 135, Value.ref 137, Value.ref 139, Value.ref 141, Value.ref 143, Value.ref 145, Value.ref 147, Value.ref 149, Value.ref 151, Value.ref 153, Value.ref 154, Value.ref 155, Value.ref 156, Value.ref 157, Value.int (-16384), Value.int 16384, Value.int 0, Value.int 0, Value.int 0, Value.ref 158, Value.ref 159, Value.int 0, Value.int 0, Value.int 0, Value.int 0, Value.int 0, Value.int 0, Value.int 0, Value.int 0]))) (hv : w[129]? = some (Sum.inr (13, [Value.ref 130, Value.int nn]))) (hq : w[135]? = some (Sum.inr (13, [Value.ref 136, Value.int 3]))) (hqw : w[136]? = some (Sum.inl (0, 4700, g))) (hg0 : g (0 : Int32).toInt.toNat = Value.int q0) (hg1 : g (1 : Int32).toInt.toNat = Value.int q1) (hg2 : g (2 : Int32).toInt.toNat = Value.int q2) (hn : w[156]? = some (Sum.inl (2, 17, xup (fun _ => Value.int 0) (xs 1).toInt.toNat (Value.int 1)))) (hbits : ∀ (d' : Nat) (w' : xW), w'[129]? = w[129]? → w'[130]? = w[130]? → xRun d' 181 [Value.ref 129] w' (.inl (some (Value.int B))) w') (hany0 : xPW m → ∀ (d' : Nat) (w' : xW), w'[129]? = w[129]? → w'[130]? = w[130]? → xRun d' 183 [Value.ref 129, Value.int (B - (1 : Int32))] w' (.inl (some (Value.int 0))) w') (hany1 : ¬ xPW m → ∀ (d' : Nat) (w' : xW), w'[129]? = w[129]? → w'[130]? = w[130]? → xRun d' 183 [Value.ref 129, Value.int (B - (1 : Int32))] w' (.inl (some (Value.int 1))) w') (c0 : 0 ≤ (xs 1).toInt) (c1 : (xs 1).toInt < 16) (c2 : (-40000) ≤ sc.toInt) (c3 : sc.toInt ≤ 40000) (c4 : 0 ≤ md.toInt) (c5 : md.toInt ≤ 4) (c6 : 1 ≤ B.toInt) (c7 : B.toInt ≤ 64) (c8 : E.toInt = B.toInt + sc.toInt) (c9 : U.toInt = E.toInt - 64) (c10 : 0 ≤ q2.toInt) (c11 : (xbn q2).toInt = 4) (c12 : E.toInt ≤ 16384) (c13 : E.toInt < (-16384)) (c14 : E.toInt ≠ (-16385)) (c15 : md.toInt ≠ 4) (c16 : md.toInt ≠ 2) (c17 : md.toInt = 3) : ∃ w2, xEv (d + 6) 180 207 [(14, Value.int 0), (13, Value.int E), (12, Value.int 1), (11, Value.int 0), (10, Value.int C), (9, Value.int U), (8, Value.int E), (7, Value.int 64), (0, Value.ref 128), (1, Value.int (xs 1)), (2, Value.ref 129), (3, Value.int sc), (4, Value.int 0), (5, Value.int 1), (6, Value.int md)] [] w (fun o' w' => o' = .inl (some (Value.int (-1))) ∧ w' = w2) ∧ xKp w w2 xPM ∧ w2[128]? = some (Sum.inr (12, [Value.ref 129, Value.ref 131, Value.ref 133, Value.ref 135, Value.ref 137, Value.ref 139, Value.ref 141, Value.ref 143, Value.ref 145, Value.ref 147, Value.ref 149, Value.ref 151, Value.ref 153, Value.ref 154, Value.ref 155, Value.ref 156, Value.ref 157, Value.int (-16384), Value.int 16384, Value.int 5, Value.int 0, Value.int 0, Value.ref 158, Value.ref 159, Value.int 0, Value.int 0, Value.int 0, Value.int 0, Value.int 0, Value.int 0, Value.int 0, Value.int 0])) := by
  refine ⟨(((((((((((((((w.set 128 (Sum.inr (12, [Value.ref 129, Value.ref 131, Value.ref 133, Value.ref 135, Value.ref 137, Value.ref 139, Value.ref 141, Value.ref 143, Value.ref 145, Value.ref 147, Value.ref 149, Value.ref 151, Value.ref 153, Value.ref 154, Value.ref 155, Value.ref 156, Value.ref 157, Value.int (-16384), Value.int 16384, Value.int 4, Value.int 0, Value.int 0, Value.ref 158, Value.ref 159, Value.int 0, Value.int 0, Value.int 0, Value.int 0, Value.int 0, Value.int 0, Value.int 0, Value.int 0]))).set 151 (Sum.inr (13, [Value.ref 152, Value.int 0]))).set 152 (Sum.inl (0, 4700, xup (fun _ => Value.int 0) (0 : Int32).toInt.toNat (Value.int 1)))).set 151 (Sum.inr (13, [Value.ref 152, Value.int 1]))).set (160 + 2 * (xs 1).toInt.toNat) (Sum.inr (13, [Value.ref (161 + 2 * (xs 1).toInt.toNat), Value.int 0]))).set 138 (Sum.inl (0, 4700, xcp (xup (fun _ => Value.int 0) (0 : Int32).toInt.toNat (Value.int 1)) (fun _ => Value.int 0) (0 : Int32).toInt.toNat (0 : Int32).toInt.toNat (1 : Int32).toInt.toNat))).set 137 (Sum.inr (13, [Value.ref 138, Value.int 1]))).set 138 (Sum.inl (0, 4700, xup (xup (xup (xup (xup (xcp (xup (fun _ => Value.int 0) (0 : Int32).toInt.toNat (Value.int 1)) (fun _ => Value.int 0) (0 : Int32).toInt.toNat (0 : Int32).toInt.toNat (1 : Int32).toInt.toNat) (3 : Int32).toInt.toNat (Value.int 0)) (3 : Int32).toInt.toNat (Value.int 0)) (2 : Int32).toInt.toNat (Value.int 8)) (0 : Int32).toInt.toNat (Value.int 0)) (1 : Int32).toInt.toNat (Value.int 0)))).set 137 (Sum.inr (13, [Value.ref 138, Value.int 3]))).set (161 + 2 * (xs 1).toInt.toNat) (Sum.inl (0, 140, xcp (xup (xup (xup (xup (xup (xcp (xup (fun _ => Value.int 0) (0 : Int32).toInt.toNat (Value.int 1)) (fun _ => Value.int 0) (0 : Int32).toInt.toNat (0 : Int32).toInt.toNat (1 : Int32).toInt.toNat) (3 : Int32).toInt.toNat (Value.int 0)) (3 : Int32).toInt.toNat (Value.int 0)) (2 : Int32).toInt.toNat (Value.int 8)) (0 : Int32).toInt.toNat (Value.int 0)) (1 : Int32).toInt.toNat (Value.int 0)) (fun _ => Value.int 0) (0 : Int32).toInt.toNat (0 : Int32).toInt.toNat (3 : Int32).toInt.toNat))).set (160 + 2 * (xs 1).toInt.toNat) (Sum.inr (13, [Value.ref (161 + 2 * (xs 1).toInt.toNat), Value.int 3]))).set 154 (Sum.inl (0, 17, xup (fun _ => Value.int 0) (xs 1).toInt.toNat (Value.int 3)))).set 155 (Sum.inl (0, 17, xup (fun _ => Value.int 0) (xs 1).toInt.toNat (Value.int (-16384))))).set 156 (Sum.inl (2, 17, xup (xup (fun _ => Value.int 0) (xs 1).toInt.toNat (Value.int 1)) (xs 1).toInt.toNat (Value.int 1)))).set 128 (Sum.inr (12, [Value.ref 129, Value.ref 131, Value.ref 133, Value.ref 135, Value.ref 137, Value.ref 139, Value.ref 141, Value.ref 143, Value.ref 145, Value.ref 147, Value.ref 149, Value.ref 151, Value.ref 153, Value.ref 154, Value.ref 155, Value.ref 156, Value.ref 157, Value.int (-16384), Value.int 16384, Value.int 5, Value.int 0, Value.int 0, Value.ref 158, Value.ref 159, Value.int 0, Value.int 0, Value.int 0, Value.int 0, Value.int 0, Value.int 0, Value.int 0, Value.int 0]))), ?_, ?_, xgs (xgn (by decide) (xgn (by decide) (xgn (by decide) (xgn (by omega) (xgn (by omega) (xgn (by decide) (xgn (by decide) (xgn (by decide) (xgn (by decide) (xgn (by omega) (xgn (by decide) (xgn (by decide) (xgn (by decide) (xgs hm))))))))))))))⟩
  · refine i_180_207 (x := 128) rfl ?_
    refine i_180_208 (v := Value.int 0) hm rfl ?_
    refine i_180_211 (fun h => absurd h (by decide)) (fun _ => ?_)
    refine i_180_214 (x := 128) rfl ?_
    refine i_180_215 (v := Value.ref 135) hm rfl ?_
    refine i_180_218 (v := Value.int 3) hq rfl ?_
    refine i_180_221 (fun h => absurd h (by decide)) (fun _ => ?_)
    refine i_180_224 (x := E) rfl ?_
    refine i_180_226 (x := 128) rfl ?_
    refine i_180_227 (v := Value.int 16384) hm rfl ?_
    refine i_180_230 (fun _ => ?_) (fun h => absurd (show E.toInt ≤ 16384 by omega) (Int.not_le.mpr h))
    refine i_180_367 (x := 128) rfl ?_
    refine i_180_368 (v := Value.ref 135) hm rfl ?_
    refine i_180_371 (v := Value.int 3) hq rfl ?_
    refine i_180_374 (fun _ => ?_) (fun h => absurd h (by decide))
    refine i_180_392 (x := 128) rfl ?_
    refine i_180_393 (v := Value.int 0) hm rfl ?_
    refine i_180_396 (fun h => absurd h (by decide)) (fun _ => ?_)
    refine i_180_399 (x := 128) rfl ?_
    refine i_180_400 (v := Value.int 0) hm rfl ?_
    refine i_180_403 (fun h => absurd h (by decide)) (fun _ => ?_)
    refine i_180_406 (x := E) rfl ?_
    refine i_180_408 (x := 128) rfl ?_
    refine i_180_409 (v := Value.int (-16384)) hm rfl ?_
    refine i_180_412 (fun h => absurd (show E.toInt < (-16384) by omega) (Int.not_lt.mpr h)) (fun _ => ?_)
    refine i_180_415 (x := 128) rfl ?_
    refine i_180_416 rfl ?_
    refine i_180_417 (v := Value.int 0) hm rfl ?_
    refine i_180_420 ?_
    refine i_180_421 (c := 4) (by decide) ?_
    refine i_180_422 (fs2 := [Value.ref 129, Value.ref 131, Value.ref 133, Value.ref 135, Value.ref 137, Value.ref 139, Value.ref 141, Value.ref 143, Value.ref 145, Value.ref 147, Value.ref 149, Value.ref 151, Value.ref 153, Value.ref 154, Value.ref 155, Value.ref 156, Value.ref 157, Value.int (-16384), Value.int 16384, Value.int 4, Value.int 0, Value.int 0, Value.ref 158, Value.ref 159, Value.int 0, Value.int 0, Value.int 0, Value.int 0, Value.int 0, Value.int 0, Value.int 0, Value.int 0]) hm (Nat.le_of_ble_eq_true rfl) rfl (by omega) ?_
    refine i_180_425 (x := E) rfl ?_
    refine i_180_427 (x := 128) rfl ?_
    refine i_180_428 (v := Value.int (-16384)) (xgs hm) rfl ?_
    refine i_180_431 ?_
    refine i_180_432 (c := (-16385)) (by decide) ?_
    refine i_180_433 (fun h => absurd (show E.toInt ≤ (-16385) by omega) (Int.not_le.mpr h)) (fun _ => ?_)
    refine i_180_436 (x := E) rfl ?_
    refine i_180_438 (x := 128) rfl ?_
    refine i_180_439 (v := Value.int (-16384)) (xgs hm) rfl ?_
    refine i_180_442 ?_
    refine i_180_443 (c := (-16385)) (by decide) ?_
    refine i_180_444 (fun _ => ?_) (fun h => absurd (show E.toInt ≠ (-16385) by omega) (fun g => g h))
    refine i_180_469 ?_
    refine i_180_470 (lv2 := [(15, Value.int 0), (14, Value.int 0), (13, Value.int E), (12, Value.int 1), (11, Value.int 0), (10, Value.int C), (9, Value.int U), (8, Value.int E), (7, Value.int 64), (0, Value.ref 128), (1, Value.int (xs 1)), (2, Value.ref 129), (3, Value.int sc), (4, Value.int 0), (5, Value.int 1), (6, Value.int md)]) rfl ?_
    refine i_180_472 (x := md) rfl ?_
    refine i_180_474 ?_
    refine i_180_475 (fun h => absurd (show md.toInt ≠ 4 by omega) (fun g => g h)) (fun _ => ?_)
    refine i_180_478 (x := md) rfl ?_
    refine i_180_480 ?_
    refine i_180_481 (fun _ => ?_) (fun h => absurd (show md.toInt ≠ 2 by omega) (fun g => g h))
    refine i_180_489 (x := md) rfl ?_
    refine i_180_491 ?_
    refine i_180_492 (fun h => absurd (show md.toInt = 3 by omega) h) (fun _ => ?_)
    refine i_180_495 (x := 1) rfl ?_
    refine i_180_497 (fun _ => ?_) (fun h => absurd h (by decide))
    refine i_180_510 ?_
    refine i_180_511 ?_
    refine i_180_515 (lv2 := [(16, Value.int 1), (15, Value.int 0), (14, Value.int 0), (13, Value.int E), (12, Value.int 1), (11, Value.int 0), (10, Value.int C), (9, Value.int U), (8, Value.int E), (7, Value.int 64), (0, Value.ref 128), (1, Value.int (xs 1)), (2, Value.ref 129), (3, Value.int sc), (4, Value.int 0), (5, Value.int 1), (6, Value.int md)]) rfl ?_
    refine i_180_517 (x := 1) rfl ?_
    refine i_180_519 (fun h => absurd h (by decide)) (fun _ => ?_)
    refine i_180_522 (x := 128) rfl ?_
    refine i_180_523 (v := Value.ref 151) (xgs hm) rfl ?_
    refine i_180_526 ?_
    refine i_180_527 (xgn (by decide) (((hk 151 (by decide) (by decide) (by decide) (by decide) (by decide)).trans W0_151))) (Nat.le_of_ble_eq_true rfl) (s_179_2 (xgn (by decide) (((hk 151 (by decide) (by decide) (by decide) (by decide) (by decide)).trans W0_151))) (xgn (by decide) (((hk 152 (by decide) (by decide) (by decide) (by decide) (by decide)).trans W0_152)))) ?_
    refine i_180_530 (x := 128) rfl ?_
    refine i_180_531 (x := (xs 1)) rfl ?_
    refine i_180_532 (x := 128) rfl ?_
    refine i_180_533 (v := Value.ref 151) (xgn (by decide) (xgn (by decide) (xgn (by decide) (xgs hm)))) rfl ?_
    refine i_180_536 (x := 128) rfl ?_
    refine i_180_537 (v := Value.int (-16384)) (xgn (by decide) (xgn (by decide) (xgn (by decide) (xgs hm)))) rfl ?_
    refine i_180_540 ?_
    refine i_180_541 (c := (-16385)) (by decide) ?_
    refine i_180_542 (xgn (by decide) (xgn (by decide) (xgn (by decide) (xgs hm)))) (Nat.le_of_ble_eq_true rfl) (s_192_1 (xgn (by decide) (xgn (by decide) (xgn (by decide) (xgs hm)))) (xgn (by decide) (xgn (by decide) (xgn (by decide) (xgn (by decide) (((hk 153 (by decide) (by decide) (by decide) (by decide) (by decide)).trans W0_153)))))) (by omega) (by omega) (gprec_at (by omega)) (xgs (xgn (by decide) (xgs (xgn (by decide) (((hk 151 (by decide) (by decide) (by decide) (by decide) (by decide)).trans W0_151)))))) (xgn (by decide) (xgs (xgn (by decide) (xgn (by decide) (((hk 152 (by decide) (by decide) (by decide) (by decide) (by decide)).trans W0_152)))))) xup_s (xgn (by decide) (xgn (by decide) (xgn (by decide) (xgn (by decide) (((hk 157 (by decide) (by decide) (by decide) (by decide) (by decide)).trans W0_157)))))) (gpart_at (by omega)) (xgn (by omega) (xgn (by omega) (xgn (by omega) (xgn (by omega) (((hk _ (by omega) (by omega) (by omega) (by omega) (by omega)).trans (W0_part (by omega)))))))) (by omega) (by omega) (by omega) (xgn (by decide) (xgn (by decide) (xgn (by decide) (xgn (by decide) (((hk 137 (by decide) (by decide) (by decide) (by decide) (by decide)).trans W0_137)))))) (by omega) (by omega) (by omega) (xgn (by decide) (xgn (by decide) (xgn (by decide) (xgn (by decide) (((hk 138 (by decide) (by decide) (by decide) (by decide) (by decide)).trans W0_138)))))) (by omega) (by omega) (by omega) (by omega) (by omega) (by omega) (xgn (by omega) (xgn (by omega) (xgn (by omega) (xgn (by omega) (((hk _ (by omega) (by omega) (by omega) (by omega) (by omega)).trans (W0_pw (by omega)))))))) (by omega) (by omega) (by omega) (by omega) (by omega) (by omega) (xgn (by decide) (xgn (by decide) (xgn (by decide) (xgn (by decide) (((hk 154 (by decide) (by decide) (by decide) (by decide) (by decide)).trans W0_154)))))) (by omega) (by omega) (xgn (by decide) (xgn (by decide) (xgn (by decide) (xgn (by decide) (((hk 155 (by decide) (by decide) (by decide) (by decide) (by decide)).trans W0_155))))))) ?_
    refine i_180_545 (x := 128) rfl ?_
    refine i_180_546 (v := Value.ref 156) (xgn (by decide) (xgn (by decide) (xgn (by omega) (xgn (by omega) (xgn (by decide) (xgn (by decide) (xgn (by decide) (xgn (by decide) (xgn (by omega) (xgn (by decide) (xgn (by decide) (xgn (by decide) (xgs hm))))))))))))) rfl ?_
    refine i_180_549 (x := (xs 1)) rfl ?_
    refine i_180_550 (x := 1) rfl ?_
    refine i_180_552z (v := Value.int 1) (xgn (by decide) (xgn (by decide) (xgn (by omega) (xgn (by omega) (xgn (by decide) (xgn (by decide) (xgn (by decide) (xgn (by decide) (xgn (by omega) (xgn (by decide) (xgn (by decide) (xgn (by decide) (xgn (by decide) hn))))))))))))) (by omega) (by omega) (by omega) rfl ?_
    refine i_180_553 ?_
    refine i_180_565 (x := 1) rfl ?_
    refine i_180_567 (fun h => absurd h (by decide)) (fun _ => ?_)
    refine i_180_570 ?_
    refine i_180_571 ?_
    refine i_180_575 (lv2 := [(14, Value.int 1), (16, Value.int 1), (15, Value.int 0), (13, Value.int E), (12, Value.int 1), (11, Value.int 0), (10, Value.int C), (9, Value.int U), (8, Value.int E), (7, Value.int 64), (0, Value.ref 128), (1, Value.int (xs 1)), (2, Value.ref 129), (3, Value.int sc), (4, Value.int 0), (5, Value.int 1), (6, Value.int md)]) rfl ?_
    refine i_180_577 ?_
    refine i_180_591 (x := 128) rfl ?_
    refine i_180_592 (v := Value.int 0) (xgn (by decide) (xgn (by decide) (xgn (by decide) (xgn (by omega) (xgn (by omega) (xgn (by decide) (xgn (by decide) (xgn (by decide) (xgn (by decide) (xgn (by omega) (xgn (by decide) (xgn (by decide) (xgn (by decide) (xgs hm)))))))))))))) rfl ?_
    refine i_180_595 (fun h => absurd h (by decide)) (fun _ => ?_)
    refine i_180_598 (x := 128) rfl ?_
    refine i_180_599 (v := Value.int 0) (xgn (by decide) (xgn (by decide) (xgn (by decide) (xgn (by omega) (xgn (by omega) (xgn (by decide) (xgn (by decide) (xgn (by decide) (xgn (by decide) (xgn (by omega) (xgn (by decide) (xgn (by decide) (xgn (by decide) (xgs hm)))))))))))))) rfl ?_
    refine i_180_602 (fun _ => ?_) (fun h => absurd h (by decide))
    refine i_180_629 (x := 1) rfl ?_
    refine i_180_631 (fun h => absurd h (by decide)) (fun _ => ?_)
    refine i_180_634 (x := 128) rfl ?_
    refine i_180_635 rfl ?_
    refine i_180_636 (v := Value.int 4) (xgn (by decide) (xgn (by decide) (xgn (by decide) (xgn (by omega) (xgn (by omega) (xgn (by decide) (xgn (by decide) (xgn (by decide) (xgn (by decide) (xgn (by omega) (xgn (by decide) (xgn (by decide) (xgn (by decide) (xgs hm)))))))))))))) rfl ?_
    refine i_180_639 ?_
    refine i_180_640 (c := 5) (by decide) ?_
    refine i_180_641 (fs2 := [Value.ref 129, Value.ref 131, Value.ref 133, Value.ref 135, Value.ref 137, Value.ref 139, Value.ref 141, Value.ref 143, Value.ref 145, Value.ref 147, Value.ref 149, Value.ref 151, Value.ref 153, Value.ref 154, Value.ref 155, Value.ref 156, Value.ref 157, Value.int (-16384), Value.int 16384, Value.int 5, Value.int 0, Value.int 0, Value.ref 158, Value.ref 159, Value.int 0, Value.int 0, Value.int 0, Value.int 0, Value.int 0, Value.int 0, Value.int 0, Value.int 0]) (xgn (by decide) (xgn (by decide) (xgn (by decide) (xgn (by omega) (xgn (by omega) (xgn (by decide) (xgn (by decide) (xgn (by decide) (xgn (by decide) (xgn (by omega) (xgn (by decide) (xgn (by decide) (xgn (by decide) (xgs hm)))))))))))))) (Nat.le_of_ble_eq_true rfl) rfl (by omega) ?_
    refine i_180_644 (x := 1) rfl ?_
    refine i_180_646 (fun h => absurd h (by decide)) (fun _ => ?_)
    refine i_180_649 (x := 1) rfl ?_
    refine i_180_651 (c := (-1)) (by decide) ?_
    refine i_180_652 ?_
    exact i_180_657 ⟨rfl, rfl⟩
  · refine xKp.set ?_ (fun h hh => by unfold xPM at hh; omega) (xgn (by decide) (xgn (by decide) (xgn (by decide) (xgn (by omega) (xgn (by omega) (xgn (by decide) (xgn (by decide) (xgn (by decide) (xgn (by decide) (xgn (by omega) (xgn (by decide) (xgn (by decide) (xgn (by decide) (xgs hm)))))))))))))) xcs_o
    refine xKp.set ?_ (fun h hh => by unfold xPM at hh; omega) (xgn (by decide) (xgn (by decide) (xgn (by omega) (xgn (by omega) (xgn (by decide) (xgn (by decide) (xgn (by decide) (xgn (by decide) (xgn (by omega) (xgn (by decide) (xgn (by decide) (xgn (by decide) (xgn (by decide) hn))))))))))))) xcs_a
    refine xKp.set ?_ (fun h hh => by unfold xPM at hh; omega) (xgn (by decide) (xgn (by omega) (xgn (by omega) (xgn (by decide) (xgn (by decide) (xgn (by decide) (xgn (by decide) (xgn (by omega) (xgn (by decide) (xgn (by decide) (xgn (by decide) (xgn (by decide) (((hk 155 (by decide) (by decide) (by decide) (by decide) (by decide)).trans W0_155)))))))))))))) xcs_a
    refine xKp.set ?_ (fun h hh => by unfold xPM at hh; omega) (xgn (by omega) (xgn (by omega) (xgn (by decide) (xgn (by decide) (xgn (by decide) (xgn (by decide) (xgn (by omega) (xgn (by decide) (xgn (by decide) (xgn (by decide) (xgn (by decide) (((hk 154 (by decide) (by decide) (by decide) (by decide) (by decide)).trans W0_154))))))))))))) xcs_a
    refine xKp.set ?_ (fun h hh => by unfold xPM at hh; omega) (xgn (by omega) (xgn (by omega) (xgn (by omega) (xgn (by omega) (xgn (by omega) (xgs (xgn (by omega) (xgn (by omega) (xgn (by omega) (xgn (by omega) (((hk _ (by omega) (by omega) (by omega) (by omega) (by omega)).trans (W0_part (by omega)))))))))))))) xcs_o
    refine xKp.set ?_ (fun h hh => by unfold xPM at hh; omega) (xgn (by omega) (xgn (by omega) (xgn (by omega) (xgn (by omega) (xgn (by omega) (xgn (by omega) (xgn (by omega) (xgn (by omega) (xgn (by omega) (((hk _ (by omega) (by omega) (by omega) (by omega) (by omega)).trans (W0_pw (by omega))))))))))))) xcs_a
    refine xKp.set ?_ (fun h hh => by unfold xPM at hh; omega) (xgn (by decide) (xgs (xgn (by decide) (xgn (by omega) (xgn (by decide) (xgn (by decide) (xgn (by decide) (xgn (by decide) (((hk 137 (by decide) (by decide) (by decide) (by decide) (by decide)).trans W0_137)))))))))) xcs_o
    refine xKp.set ?_ (fun h hh => by unfold xPM at hh; omega) (xgn (by decide) (xgs (xgn (by omega) (xgn (by decide) (xgn (by decide) (xgn (by decide) (xgn (by decide) (((hk 138 (by decide) (by decide) (by decide) (by decide) (by decide)).trans W0_138))))))))) xcs_a
    refine xKp.set ?_ (fun h hh => by unfold xPM at hh; omega) (xgn (by decide) (xgn (by omega) (xgn (by decide) (xgn (by decide) (xgn (by decide) (xgn (by decide) (((hk 137 (by decide) (by decide) (by decide) (by decide) (by decide)).trans W0_137)))))))) xcs_o
    refine xKp.set ?_ (fun h hh => by unfold xPM at hh; omega) (xgn (by omega) (xgn (by decide) (xgn (by decide) (xgn (by decide) (xgn (by decide) (((hk 138 (by decide) (by decide) (by decide) (by decide) (by decide)).trans W0_138))))))) xcs_a
    refine xKp.set ?_ (fun h hh => by unfold xPM at hh; omega) (xgn (by omega) (xgn (by omega) (xgn (by omega) (xgn (by omega) (((hk _ (by omega) (by omega) (by omega) (by omega) (by omega)).trans (W0_part (by omega)))))))) xcs_o
    refine xKp.set ?_ (fun h hh => by unfold xPM at hh; omega) (xgn (by decide) (xgs (xgn (by decide) (((hk 151 (by decide) (by decide) (by decide) (by decide) (by decide)).trans W0_151))))) xcs_o
    refine xKp.set ?_ (fun h hh => by unfold xPM at hh; omega) (xgn (by decide) (xgn (by decide) (((hk 152 (by decide) (by decide) (by decide) (by decide) (by decide)).trans W0_152)))) xcs_a
    refine xKp.set ?_ (fun h hh => by unfold xPM at hh; omega) (xgn (by decide) (((hk 151 (by decide) (by decide) (by decide) (by decide) (by decide)).trans W0_151))) xcs_o
    refine xKp.set ?_ (fun h hh => by unfold xPM at hh; omega) (hm) xcs_o
    exact xKp.refl
theorem sf1_18 {d : Nat} {xs : Nat → Int32} {m : Int64} {sc md : Int32} {w : xW} {B E U C q0 q1 q2 nn : Int32} {g : Nat → Value} (hk : ∀ h, 131 ≤ h → h < 194 → h ≠ 135 → h ≠ 136 → h ≠ 156 → w[h]? = (W0 6 xs)[h]?) (hm : w[128]? = some (Sum.inr (12, [Value.ref 129, Value.ref 131, Value.ref 133, Value.ref 135, Value.ref 137, Value.ref 139, Value.ref 141, Value.ref 143, Value.ref 145, Value.ref 147, Value.ref 149, Value.ref 151, Value.ref 153, Value.ref 154, Value.ref 155, Value.ref 156, Value.ref 157, Value.int (-16384), Value.int 16384, Value.int 0, Value.int 0, Value.int 0, Value.ref 158, Value.ref 159, Value.int 0, Value.int 0, Value.int 0, Value.int 0, Value.int 0, Value.int 0, Value.int 0, Value.int 0]))) (hv : w[129]? = some (Sum.inr (13, [Value.ref 130, Value.int nn]))) (hq : w[135]? = some (Sum.inr (13, [Value.ref 136, Value.int 3]))) (hqw : w[136]? = some (Sum.inl (0, 4700, g))) (hg0 : g (0 : Int32).toInt.toNat = Value.int q0) (hg1 : g (1 : Int32).toInt.toNat = Value.int q1) (hg2 : g (2 : Int32).toInt.toNat = Value.int q2) (hn : w[156]? = some (Sum.inl (2, 17, xup (fun _ => Value.int 0) (xs 1).toInt.toNat (Value.int 1)))) (hbits : ∀ (d' : Nat) (w' : xW), w'[129]? = w[129]? → w'[130]? = w[130]? → xRun d' 181 [Value.ref 129] w' (.inl (some (Value.int B))) w') (hany0 : xPW m → ∀ (d' : Nat) (w' : xW), w'[129]? = w[129]? → w'[130]? = w[130]? → xRun d' 183 [Value.ref 129, Value.int (B - (1 : Int32))] w' (.inl (some (Value.int 0))) w') (hany1 : ¬ xPW m → ∀ (d' : Nat) (w' : xW), w'[129]? = w[129]? → w'[130]? = w[130]? → xRun d' 183 [Value.ref 129, Value.int (B - (1 : Int32))] w' (.inl (some (Value.int 1))) w') (c0 : 0 ≤ (xs 1).toInt) (c1 : (xs 1).toInt < 16) (c2 : (-40000) ≤ sc.toInt) (c3 : sc.toInt ≤ 40000) (c4 : 0 ≤ md.toInt) (c5 : md.toInt ≤ 4) (c6 : 1 ≤ B.toInt) (c7 : B.toInt ≤ 64) (c8 : E.toInt = B.toInt + sc.toInt) (c9 : U.toInt = E.toInt - 64) (c10 : 0 ≤ q2.toInt) (c11 : (xbn q2).toInt = 4) (c12 : E.toInt ≤ 16384) (c13 : E.toInt < (-16384)) (c14 : E.toInt ≠ (-16385)) (c15 : md.toInt ≠ 4) (c16 : md.toInt ≠ 2) (c17 : md.toInt ≠ 3) (c18 : md.toInt = 0) : ∃ w2, xEv (d + 6) 180 207 [(14, Value.int 0), (13, Value.int E), (12, Value.int 1), (11, Value.int 0), (10, Value.int C), (9, Value.int U), (8, Value.int E), (7, Value.int 64), (0, Value.ref 128), (1, Value.int (xs 1)), (2, Value.ref 129), (3, Value.int sc), (4, Value.int 0), (5, Value.int 1), (6, Value.int md)] [] w (fun o' w' => o' = .inl (some (Value.int 1)) ∧ w' = w2) ∧ xKp w w2 xPM ∧ w2[128]? = some (Sum.inr (12, [Value.ref 129, Value.ref 131, Value.ref 133, Value.ref 135, Value.ref 137, Value.ref 139, Value.ref 141, Value.ref 143, Value.ref 145, Value.ref 147, Value.ref 149, Value.ref 151, Value.ref 153, Value.ref 154, Value.ref 155, Value.ref 156, Value.ref 157, Value.int (-16384), Value.int 16384, Value.int 5, Value.int 0, Value.int 0, Value.ref 158, Value.ref 159, Value.int 0, Value.int 0, Value.int 0, Value.int 0, Value.int 0, Value.int 0, Value.int 0, Value.int 0])) := by
  refine ⟨((((w.set 128 (Sum.inr (12, [Value.ref 129, Value.ref 131, Value.ref 133, Value.ref 135, Value.ref 137, Value.ref 139, Value.ref 141, Value.ref 143, Value.ref 145, Value.ref 147, Value.ref 149, Value.ref 151, Value.ref 153, Value.ref 154, Value.ref 155, Value.ref 156, Value.ref 157, Value.int (-16384), Value.int 16384, Value.int 4, Value.int 0, Value.int 0, Value.ref 158, Value.ref 159, Value.int 0, Value.int 0, Value.int 0, Value.int 0, Value.int 0, Value.int 0, Value.int 0, Value.int 0]))).set 154 (Sum.inl (0, 17, xup (fun _ => Value.int 0) (xs 1).toInt.toNat (Value.int 2)))).set 156 (Sum.inl (2, 17, xup (xup (fun _ => Value.int 0) (xs 1).toInt.toNat (Value.int 1)) (xs 1).toInt.toNat (Value.int 1)))).set 128 (Sum.inr (12, [Value.ref 129, Value.ref 131, Value.ref 133, Value.ref 135, Value.ref 137, Value.ref 139, Value.ref 141, Value.ref 143, Value.ref 145, Value.ref 147, Value.ref 149, Value.ref 151, Value.ref 153, Value.ref 154, Value.ref 155, Value.ref 156, Value.ref 157, Value.int (-16384), Value.int 16384, Value.int 5, Value.int 0, Value.int 0, Value.ref 158, Value.ref 159, Value.int 0, Value.int 0, Value.int 0, Value.int 0, Value.int 0, Value.int 0, Value.int 0, Value.int 0]))), ?_, ?_, xgs (xgn (by decide) (xgn (by decide) (xgs hm)))⟩
  · refine i_180_207 (x := 128) rfl ?_
    refine i_180_208 (v := Value.int 0) hm rfl ?_
    refine i_180_211 (fun h => absurd h (by decide)) (fun _ => ?_)
    refine i_180_214 (x := 128) rfl ?_
    refine i_180_215 (v := Value.ref 135) hm rfl ?_
    refine i_180_218 (v := Value.int 3) hq rfl ?_
    refine i_180_221 (fun h => absurd h (by decide)) (fun _ => ?_)
    refine i_180_224 (x := E) rfl ?_
    refine i_180_226 (x := 128) rfl ?_
    refine i_180_227 (v := Value.int 16384) hm rfl ?_
    refine i_180_230 (fun _ => ?_) (fun h => absurd (show E.toInt ≤ 16384 by omega) (Int.not_le.mpr h))
    refine i_180_367 (x := 128) rfl ?_
    refine i_180_368 (v := Value.ref 135) hm rfl ?_
    refine i_180_371 (v := Value.int 3) hq rfl ?_
    refine i_180_374 (fun _ => ?_) (fun h => absurd h (by decide))
    refine i_180_392 (x := 128) rfl ?_
    refine i_180_393 (v := Value.int 0) hm rfl ?_
    refine i_180_396 (fun h => absurd h (by decide)) (fun _ => ?_)
    refine i_180_399 (x := 128) rfl ?_
    refine i_180_400 (v := Value.int 0) hm rfl ?_
    refine i_180_403 (fun h => absurd h (by decide)) (fun _ => ?_)
    refine i_180_406 (x := E) rfl ?_
    refine i_180_408 (x := 128) rfl ?_
    refine i_180_409 (v := Value.int (-16384)) hm rfl ?_
    refine i_180_412 (fun h => absurd (show E.toInt < (-16384) by omega) (Int.not_lt.mpr h)) (fun _ => ?_)
    refine i_180_415 (x := 128) rfl ?_
    refine i_180_416 rfl ?_
    refine i_180_417 (v := Value.int 0) hm rfl ?_
    refine i_180_420 ?_
    refine i_180_421 (c := 4) (by decide) ?_
    refine i_180_422 (fs2 := [Value.ref 129, Value.ref 131, Value.ref 133, Value.ref 135, Value.ref 137, Value.ref 139, Value.ref 141, Value.ref 143, Value.ref 145, Value.ref 147, Value.ref 149, Value.ref 151, Value.ref 153, Value.ref 154, Value.ref 155, Value.ref 156, Value.ref 157, Value.int (-16384), Value.int 16384, Value.int 4, Value.int 0, Value.int 0, Value.ref 158, Value.ref 159, Value.int 0, Value.int 0, Value.int 0, Value.int 0, Value.int 0, Value.int 0, Value.int 0, Value.int 0]) hm (Nat.le_of_ble_eq_true rfl) rfl (by omega) ?_
    refine i_180_425 (x := E) rfl ?_
    refine i_180_427 (x := 128) rfl ?_
    refine i_180_428 (v := Value.int (-16384)) (xgs hm) rfl ?_
    refine i_180_431 ?_
    refine i_180_432 (c := (-16385)) (by decide) ?_
    refine i_180_433 (fun h => absurd (show E.toInt ≤ (-16385) by omega) (Int.not_le.mpr h)) (fun _ => ?_)
    refine i_180_436 (x := E) rfl ?_
    refine i_180_438 (x := 128) rfl ?_
    refine i_180_439 (v := Value.int (-16384)) (xgs hm) rfl ?_
    refine i_180_442 ?_
    refine i_180_443 (c := (-16385)) (by decide) ?_
    refine i_180_444 (fun _ => ?_) (fun h => absurd (show E.toInt ≠ (-16385) by omega) (fun g => g h))
    refine i_180_469 ?_
    refine i_180_470 (lv2 := [(15, Value.int 0), (14, Value.int 0), (13, Value.int E), (12, Value.int 1), (11, Value.int 0), (10, Value.int C), (9, Value.int U), (8, Value.int E), (7, Value.int 64), (0, Value.ref 128), (1, Value.int (xs 1)), (2, Value.ref 129), (3, Value.int sc), (4, Value.int 0), (5, Value.int 1), (6, Value.int md)]) rfl ?_
    refine i_180_472 (x := md) rfl ?_
    refine i_180_474 ?_
    refine i_180_475 (fun h => absurd (show md.toInt ≠ 4 by omega) (fun g => g h)) (fun _ => ?_)
    refine i_180_478 (x := md) rfl ?_
    refine i_180_480 ?_
    refine i_180_481 (fun _ => ?_) (fun h => absurd (show md.toInt ≠ 2 by omega) (fun g => g h))
    refine i_180_489 (x := md) rfl ?_
    refine i_180_491 ?_
    refine i_180_492 (fun _ => ?_) (fun h => absurd (show md.toInt ≠ 3 by omega) (fun g => g h))
    refine i_180_500 (x := md) rfl ?_
    refine i_180_502 (fun h => absurd (show md.toInt = 0 by omega) h) (fun _ => ?_)
    refine i_180_505 (x := 0) rfl ?_
    refine i_180_507 (fun _ => ?_) (fun h => absurd h (by decide))
    refine i_180_514 ?_
    refine i_180_515 (lv2 := [(16, Value.int 0), (15, Value.int 0), (14, Value.int 0), (13, Value.int E), (12, Value.int 1), (11, Value.int 0), (10, Value.int C), (9, Value.int U), (8, Value.int E), (7, Value.int 64), (0, Value.ref 128), (1, Value.int (xs 1)), (2, Value.ref 129), (3, Value.int sc), (4, Value.int 0), (5, Value.int 1), (6, Value.int md)]) rfl ?_
    refine i_180_517 (x := 0) rfl ?_
    refine i_180_519 (fun _ => ?_) (fun h => absurd h (by decide))
    refine i_180_556 (x := 128) rfl ?_
    refine i_180_557 (x := (xs 1)) rfl ?_
    refine i_180_558 ?_
    refine i_180_559 (x := 1) rfl ?_
    refine i_180_561 (xgs hm) (Nat.le_of_ble_eq_true rfl) (s_171_3 (xgs hm) (xgn (by decide) (((hk 154 (by decide) (by decide) (by decide) (by decide) (by decide)).trans W0_154))) (by omega) (by omega) (xgn (by decide) hn)) ?_
    refine i_180_564 rfl ?_
    refine i_180_565 (x := 0) rfl ?_
    refine i_180_567 (fun _ => ?_) (fun h => absurd h (by decide))
    refine i_180_574 ?_
    refine i_180_575 (lv2 := [(14, Value.int (-1)), (16, Value.int 0), (15, Value.int 0), (13, Value.int E), (12, Value.int 1), (11, Value.int 0), (10, Value.int C), (9, Value.int U), (8, Value.int E), (7, Value.int 64), (0, Value.ref 128), (1, Value.int (xs 1)), (2, Value.ref 129), (3, Value.int sc), (4, Value.int 0), (5, Value.int 1), (6, Value.int md)]) rfl ?_
    refine i_180_577 ?_
    refine i_180_591 (x := 128) rfl ?_
    refine i_180_592 (v := Value.int 0) (xgn (by decide) (xgn (by decide) (xgs hm))) rfl ?_
    refine i_180_595 (fun h => absurd h (by decide)) (fun _ => ?_)
    refine i_180_598 (x := 128) rfl ?_
    refine i_180_599 (v := Value.int 0) (xgn (by decide) (xgn (by decide) (xgs hm))) rfl ?_
    refine i_180_602 (fun _ => ?_) (fun h => absurd h (by decide))
    refine i_180_629 (x := (-1)) rfl ?_
    refine i_180_631 (fun h => absurd h (by decide)) (fun _ => ?_)
    refine i_180_634 (x := 128) rfl ?_
    refine i_180_635 rfl ?_
    refine i_180_636 (v := Value.int 4) (xgn (by decide) (xgn (by decide) (xgs hm))) rfl ?_
    refine i_180_639 ?_
    refine i_180_640 (c := 5) (by decide) ?_
    refine i_180_641 (fs2 := [Value.ref 129, Value.ref 131, Value.ref 133, Value.ref 135, Value.ref 137, Value.ref 139, Value.ref 141, Value.ref 143, Value.ref 145, Value.ref 147, Value.ref 149, Value.ref 151, Value.ref 153, Value.ref 154, Value.ref 155, Value.ref 156, Value.ref 157, Value.int (-16384), Value.int 16384, Value.int 5, Value.int 0, Value.int 0, Value.ref 158, Value.ref 159, Value.int 0, Value.int 0, Value.int 0, Value.int 0, Value.int 0, Value.int 0, Value.int 0, Value.int 0]) (xgn (by decide) (xgn (by decide) (xgs hm))) (Nat.le_of_ble_eq_true rfl) rfl (by omega) ?_
    refine i_180_644 (x := 1) rfl ?_
    refine i_180_646 (fun h => absurd h (by decide)) (fun _ => ?_)
    refine i_180_649 (x := (-1)) rfl ?_
    refine i_180_651 (c := 1) (by decide) ?_
    refine i_180_652 ?_
    exact i_180_657 ⟨rfl, rfl⟩
  · refine xKp.set ?_ (fun h hh => by unfold xPM at hh; omega) (xgn (by decide) (xgn (by decide) (xgs hm))) xcs_o
    refine xKp.set ?_ (fun h hh => by unfold xPM at hh; omega) (xgn (by decide) (xgn (by decide) hn)) xcs_a
    refine xKp.set ?_ (fun h hh => by unfold xPM at hh; omega) (xgn (by decide) (((hk 154 (by decide) (by decide) (by decide) (by decide) (by decide)).trans W0_154))) xcs_a
    refine xKp.set ?_ (fun h hh => by unfold xPM at hh; omega) (hm) xcs_o
    exact xKp.refl
theorem sf1_19 {d : Nat} {xs : Nat → Int32} {m : Int64} {sc md : Int32} {w : xW} {B E U C q0 q1 q2 nn : Int32} {g : Nat → Value} (hk : ∀ h, 131 ≤ h → h < 194 → h ≠ 135 → h ≠ 136 → h ≠ 156 → w[h]? = (W0 6 xs)[h]?) (hm : w[128]? = some (Sum.inr (12, [Value.ref 129, Value.ref 131, Value.ref 133, Value.ref 135, Value.ref 137, Value.ref 139, Value.ref 141, Value.ref 143, Value.ref 145, Value.ref 147, Value.ref 149, Value.ref 151, Value.ref 153, Value.ref 154, Value.ref 155, Value.ref 156, Value.ref 157, Value.int (-16384), Value.int 16384, Value.int 0, Value.int 0, Value.int 0, Value.ref 158, Value.ref 159, Value.int 0, Value.int 0, Value.int 0, Value.int 0, Value.int 0, Value.int 0, Value.int 0, Value.int 0]))) (hv : w[129]? = some (Sum.inr (13, [Value.ref 130, Value.int nn]))) (hq : w[135]? = some (Sum.inr (13, [Value.ref 136, Value.int 3]))) (hqw : w[136]? = some (Sum.inl (0, 4700, g))) (hg0 : g (0 : Int32).toInt.toNat = Value.int q0) (hg1 : g (1 : Int32).toInt.toNat = Value.int q1) (hg2 : g (2 : Int32).toInt.toNat = Value.int q2) (hn : w[156]? = some (Sum.inl (2, 17, xup (fun _ => Value.int 0) (xs 1).toInt.toNat (Value.int 1)))) (hbits : ∀ (d' : Nat) (w' : xW), w'[129]? = w[129]? → w'[130]? = w[130]? → xRun d' 181 [Value.ref 129] w' (.inl (some (Value.int B))) w') (hany0 : xPW m → ∀ (d' : Nat) (w' : xW), w'[129]? = w[129]? → w'[130]? = w[130]? → xRun d' 183 [Value.ref 129, Value.int (B - (1 : Int32))] w' (.inl (some (Value.int 0))) w') (hany1 : ¬ xPW m → ∀ (d' : Nat) (w' : xW), w'[129]? = w[129]? → w'[130]? = w[130]? → xRun d' 183 [Value.ref 129, Value.int (B - (1 : Int32))] w' (.inl (some (Value.int 1))) w') (c0 : 0 ≤ (xs 1).toInt) (c1 : (xs 1).toInt < 16) (c2 : (-40000) ≤ sc.toInt) (c3 : sc.toInt ≤ 40000) (c4 : 0 ≤ md.toInt) (c5 : md.toInt ≤ 4) (c6 : 1 ≤ B.toInt) (c7 : B.toInt ≤ 64) (c8 : E.toInt = B.toInt + sc.toInt) (c9 : U.toInt = E.toInt - 64) (c10 : 0 ≤ q2.toInt) (c11 : (xbn q2).toInt = 4) (c12 : E.toInt ≤ 16384) (c13 : E.toInt < (-16384)) (c14 : E.toInt ≠ (-16385)) (c15 : md.toInt ≠ 4) (c16 : md.toInt ≠ 2) (c17 : md.toInt ≠ 3) (c18 : md.toInt ≠ 0) : ∃ w2, xEv (d + 6) 180 207 [(14, Value.int 0), (13, Value.int E), (12, Value.int 1), (11, Value.int 0), (10, Value.int C), (9, Value.int U), (8, Value.int E), (7, Value.int 64), (0, Value.ref 128), (1, Value.int (xs 1)), (2, Value.ref 129), (3, Value.int sc), (4, Value.int 0), (5, Value.int 1), (6, Value.int md)] [] w (fun o' w' => o' = .inl (some (Value.int 1)) ∧ w' = w2) ∧ xKp w w2 xPM ∧ w2[128]? = some (Sum.inr (12, [Value.ref 129, Value.ref 131, Value.ref 133, Value.ref 135, Value.ref 137, Value.ref 139, Value.ref 141, Value.ref 143, Value.ref 145, Value.ref 147, Value.ref 149, Value.ref 151, Value.ref 153, Value.ref 154, Value.ref 155, Value.ref 156, Value.ref 157, Value.int (-16384), Value.int 16384, Value.int 5, Value.int 0, Value.int 0, Value.ref 158, Value.ref 159, Value.int 0, Value.int 0, Value.int 0, Value.int 0, Value.int 0, Value.int 0, Value.int 0, Value.int 0])) := by
  refine ⟨((((w.set 128 (Sum.inr (12, [Value.ref 129, Value.ref 131, Value.ref 133, Value.ref 135, Value.ref 137, Value.ref 139, Value.ref 141, Value.ref 143, Value.ref 145, Value.ref 147, Value.ref 149, Value.ref 151, Value.ref 153, Value.ref 154, Value.ref 155, Value.ref 156, Value.ref 157, Value.int (-16384), Value.int 16384, Value.int 4, Value.int 0, Value.int 0, Value.ref 158, Value.ref 159, Value.int 0, Value.int 0, Value.int 0, Value.int 0, Value.int 0, Value.int 0, Value.int 0, Value.int 0]))).set 154 (Sum.inl (0, 17, xup (fun _ => Value.int 0) (xs 1).toInt.toNat (Value.int 2)))).set 156 (Sum.inl (2, 17, xup (xup (fun _ => Value.int 0) (xs 1).toInt.toNat (Value.int 1)) (xs 1).toInt.toNat (Value.int 1)))).set 128 (Sum.inr (12, [Value.ref 129, Value.ref 131, Value.ref 133, Value.ref 135, Value.ref 137, Value.ref 139, Value.ref 141, Value.ref 143, Value.ref 145, Value.ref 147, Value.ref 149, Value.ref 151, Value.ref 153, Value.ref 154, Value.ref 155, Value.ref 156, Value.ref 157, Value.int (-16384), Value.int 16384, Value.int 5, Value.int 0, Value.int 0, Value.ref 158, Value.ref 159, Value.int 0, Value.int 0, Value.int 0, Value.int 0, Value.int 0, Value.int 0, Value.int 0, Value.int 0]))), ?_, ?_, xgs (xgn (by decide) (xgn (by decide) (xgs hm)))⟩
  · refine i_180_207 (x := 128) rfl ?_
    refine i_180_208 (v := Value.int 0) hm rfl ?_
    refine i_180_211 (fun h => absurd h (by decide)) (fun _ => ?_)
    refine i_180_214 (x := 128) rfl ?_
    refine i_180_215 (v := Value.ref 135) hm rfl ?_
    refine i_180_218 (v := Value.int 3) hq rfl ?_
    refine i_180_221 (fun h => absurd h (by decide)) (fun _ => ?_)
    refine i_180_224 (x := E) rfl ?_
    refine i_180_226 (x := 128) rfl ?_
    refine i_180_227 (v := Value.int 16384) hm rfl ?_
    refine i_180_230 (fun _ => ?_) (fun h => absurd (show E.toInt ≤ 16384 by omega) (Int.not_le.mpr h))
    refine i_180_367 (x := 128) rfl ?_
    refine i_180_368 (v := Value.ref 135) hm rfl ?_
    refine i_180_371 (v := Value.int 3) hq rfl ?_
    refine i_180_374 (fun _ => ?_) (fun h => absurd h (by decide))
    refine i_180_392 (x := 128) rfl ?_
    refine i_180_393 (v := Value.int 0) hm rfl ?_
    refine i_180_396 (fun h => absurd h (by decide)) (fun _ => ?_)
    refine i_180_399 (x := 128) rfl ?_
    refine i_180_400 (v := Value.int 0) hm rfl ?_
    refine i_180_403 (fun h => absurd h (by decide)) (fun _ => ?_)
    refine i_180_406 (x := E) rfl ?_
    refine i_180_408 (x := 128) rfl ?_
    refine i_180_409 (v := Value.int (-16384)) hm rfl ?_
    refine i_180_412 (fun h => absurd (show E.toInt < (-16384) by omega) (Int.not_lt.mpr h)) (fun _ => ?_)
    refine i_180_415 (x := 128) rfl ?_
    refine i_180_416 rfl ?_
    refine i_180_417 (v := Value.int 0) hm rfl ?_
    refine i_180_420 ?_
    refine i_180_421 (c := 4) (by decide) ?_
    refine i_180_422 (fs2 := [Value.ref 129, Value.ref 131, Value.ref 133, Value.ref 135, Value.ref 137, Value.ref 139, Value.ref 141, Value.ref 143, Value.ref 145, Value.ref 147, Value.ref 149, Value.ref 151, Value.ref 153, Value.ref 154, Value.ref 155, Value.ref 156, Value.ref 157, Value.int (-16384), Value.int 16384, Value.int 4, Value.int 0, Value.int 0, Value.ref 158, Value.ref 159, Value.int 0, Value.int 0, Value.int 0, Value.int 0, Value.int 0, Value.int 0, Value.int 0, Value.int 0]) hm (Nat.le_of_ble_eq_true rfl) rfl (by omega) ?_
    refine i_180_425 (x := E) rfl ?_
    refine i_180_427 (x := 128) rfl ?_
    refine i_180_428 (v := Value.int (-16384)) (xgs hm) rfl ?_
    refine i_180_431 ?_
    refine i_180_432 (c := (-16385)) (by decide) ?_
    refine i_180_433 (fun h => absurd (show E.toInt ≤ (-16385) by omega) (Int.not_le.mpr h)) (fun _ => ?_)
    refine i_180_436 (x := E) rfl ?_
    refine i_180_438 (x := 128) rfl ?_
    refine i_180_439 (v := Value.int (-16384)) (xgs hm) rfl ?_
    refine i_180_442 ?_
    refine i_180_443 (c := (-16385)) (by decide) ?_
    refine i_180_444 (fun _ => ?_) (fun h => absurd (show E.toInt ≠ (-16385) by omega) (fun g => g h))
    refine i_180_469 ?_
    refine i_180_470 (lv2 := [(15, Value.int 0), (14, Value.int 0), (13, Value.int E), (12, Value.int 1), (11, Value.int 0), (10, Value.int C), (9, Value.int U), (8, Value.int E), (7, Value.int 64), (0, Value.ref 128), (1, Value.int (xs 1)), (2, Value.ref 129), (3, Value.int sc), (4, Value.int 0), (5, Value.int 1), (6, Value.int md)]) rfl ?_
    refine i_180_472 (x := md) rfl ?_
    refine i_180_474 ?_
    refine i_180_475 (fun h => absurd (show md.toInt ≠ 4 by omega) (fun g => g h)) (fun _ => ?_)
    refine i_180_478 (x := md) rfl ?_
    refine i_180_480 ?_
    refine i_180_481 (fun _ => ?_) (fun h => absurd (show md.toInt ≠ 2 by omega) (fun g => g h))
    refine i_180_489 (x := md) rfl ?_
    refine i_180_491 ?_
    refine i_180_492 (fun _ => ?_) (fun h => absurd (show md.toInt ≠ 3 by omega) (fun g => g h))
    refine i_180_500 (x := md) rfl ?_
    refine i_180_502 (fun _ => ?_) (fun h => absurd (show md.toInt ≠ 0 by omega) (fun g => g h))
    refine i_180_514 ?_
    refine i_180_515 (lv2 := [(16, Value.int 0), (15, Value.int 0), (14, Value.int 0), (13, Value.int E), (12, Value.int 1), (11, Value.int 0), (10, Value.int C), (9, Value.int U), (8, Value.int E), (7, Value.int 64), (0, Value.ref 128), (1, Value.int (xs 1)), (2, Value.ref 129), (3, Value.int sc), (4, Value.int 0), (5, Value.int 1), (6, Value.int md)]) rfl ?_
    refine i_180_517 (x := 0) rfl ?_
    refine i_180_519 (fun _ => ?_) (fun h => absurd h (by decide))
    refine i_180_556 (x := 128) rfl ?_
    refine i_180_557 (x := (xs 1)) rfl ?_
    refine i_180_558 ?_
    refine i_180_559 (x := 1) rfl ?_
    refine i_180_561 (xgs hm) (Nat.le_of_ble_eq_true rfl) (s_171_3 (xgs hm) (xgn (by decide) (((hk 154 (by decide) (by decide) (by decide) (by decide) (by decide)).trans W0_154))) (by omega) (by omega) (xgn (by decide) hn)) ?_
    refine i_180_564 rfl ?_
    refine i_180_565 (x := 0) rfl ?_
    refine i_180_567 (fun _ => ?_) (fun h => absurd h (by decide))
    refine i_180_574 ?_
    refine i_180_575 (lv2 := [(14, Value.int (-1)), (16, Value.int 0), (15, Value.int 0), (13, Value.int E), (12, Value.int 1), (11, Value.int 0), (10, Value.int C), (9, Value.int U), (8, Value.int E), (7, Value.int 64), (0, Value.ref 128), (1, Value.int (xs 1)), (2, Value.ref 129), (3, Value.int sc), (4, Value.int 0), (5, Value.int 1), (6, Value.int md)]) rfl ?_
    refine i_180_577 ?_
    refine i_180_591 (x := 128) rfl ?_
    refine i_180_592 (v := Value.int 0) (xgn (by decide) (xgn (by decide) (xgs hm))) rfl ?_
    refine i_180_595 (fun h => absurd h (by decide)) (fun _ => ?_)
    refine i_180_598 (x := 128) rfl ?_
    refine i_180_599 (v := Value.int 0) (xgn (by decide) (xgn (by decide) (xgs hm))) rfl ?_
    refine i_180_602 (fun _ => ?_) (fun h => absurd h (by decide))
    refine i_180_629 (x := (-1)) rfl ?_
    refine i_180_631 (fun h => absurd h (by decide)) (fun _ => ?_)
    refine i_180_634 (x := 128) rfl ?_
    refine i_180_635 rfl ?_
    refine i_180_636 (v := Value.int 4) (xgn (by decide) (xgn (by decide) (xgs hm))) rfl ?_
    refine i_180_639 ?_
    refine i_180_640 (c := 5) (by decide) ?_
    refine i_180_641 (fs2 := [Value.ref 129, Value.ref 131, Value.ref 133, Value.ref 135, Value.ref 137, Value.ref 139, Value.ref 141, Value.ref 143, Value.ref 145, Value.ref 147, Value.ref 149, Value.ref 151, Value.ref 153, Value.ref 154, Value.ref 155, Value.ref 156, Value.ref 157, Value.int (-16384), Value.int 16384, Value.int 5, Value.int 0, Value.int 0, Value.ref 158, Value.ref 159, Value.int 0, Value.int 0, Value.int 0, Value.int 0, Value.int 0, Value.int 0, Value.int 0, Value.int 0]) (xgn (by decide) (xgn (by decide) (xgs hm))) (Nat.le_of_ble_eq_true rfl) rfl (by omega) ?_
    refine i_180_644 (x := 1) rfl ?_
    refine i_180_646 (fun h => absurd h (by decide)) (fun _ => ?_)
    refine i_180_649 (x := (-1)) rfl ?_
    refine i_180_651 (c := 1) (by decide) ?_
    refine i_180_652 ?_
    exact i_180_657 ⟨rfl, rfl⟩
  · refine xKp.set ?_ (fun h hh => by unfold xPM at hh; omega) (xgn (by decide) (xgn (by decide) (xgs hm))) xcs_o
    refine xKp.set ?_ (fun h hh => by unfold xPM at hh; omega) (xgn (by decide) (xgn (by decide) hn)) xcs_a
    refine xKp.set ?_ (fun h hh => by unfold xPM at hh; omega) (xgn (by decide) (((hk 154 (by decide) (by decide) (by decide) (by decide) (by decide)).trans W0_154))) xcs_a
    refine xKp.set ?_ (fun h hh => by unfold xPM at hh; omega) (hm) xcs_o
    exact xKp.refl
theorem sf1_20 {d : Nat} {xs : Nat → Int32} {m : Int64} {sc md : Int32} {w : xW} {B E U C q0 q1 q2 nn : Int32} {g : Nat → Value} (hk : ∀ h, 131 ≤ h → h < 194 → h ≠ 135 → h ≠ 136 → h ≠ 156 → w[h]? = (W0 6 xs)[h]?) (hm : w[128]? = some (Sum.inr (12, [Value.ref 129, Value.ref 131, Value.ref 133, Value.ref 135, Value.ref 137, Value.ref 139, Value.ref 141, Value.ref 143, Value.ref 145, Value.ref 147, Value.ref 149, Value.ref 151, Value.ref 153, Value.ref 154, Value.ref 155, Value.ref 156, Value.ref 157, Value.int (-16384), Value.int 16384, Value.int 0, Value.int 0, Value.int 0, Value.ref 158, Value.ref 159, Value.int 0, Value.int 0, Value.int 0, Value.int 0, Value.int 0, Value.int 0, Value.int 0, Value.int 0]))) (hv : w[129]? = some (Sum.inr (13, [Value.ref 130, Value.int nn]))) (hq : w[135]? = some (Sum.inr (13, [Value.ref 136, Value.int 3]))) (hqw : w[136]? = some (Sum.inl (0, 4700, g))) (hg0 : g (0 : Int32).toInt.toNat = Value.int q0) (hg1 : g (1 : Int32).toInt.toNat = Value.int q1) (hg2 : g (2 : Int32).toInt.toNat = Value.int q2) (hn : w[156]? = some (Sum.inl (2, 17, xup (fun _ => Value.int 0) (xs 1).toInt.toNat (Value.int 1)))) (hbits : ∀ (d' : Nat) (w' : xW), w'[129]? = w[129]? → w'[130]? = w[130]? → xRun d' 181 [Value.ref 129] w' (.inl (some (Value.int B))) w') (hany0 : xPW m → ∀ (d' : Nat) (w' : xW), w'[129]? = w[129]? → w'[130]? = w[130]? → xRun d' 183 [Value.ref 129, Value.int (B - (1 : Int32))] w' (.inl (some (Value.int 0))) w') (hany1 : ¬ xPW m → ∀ (d' : Nat) (w' : xW), w'[129]? = w[129]? → w'[130]? = w[130]? → xRun d' 183 [Value.ref 129, Value.int (B - (1 : Int32))] w' (.inl (some (Value.int 1))) w') (c0 : 0 ≤ (xs 1).toInt) (c1 : (xs 1).toInt < 16) (c2 : (-40000) ≤ sc.toInt) (c3 : sc.toInt ≤ 40000) (c4 : 0 ≤ md.toInt) (c5 : md.toInt ≤ 4) (c6 : 1 ≤ B.toInt) (c7 : B.toInt ≤ 64) (c8 : E.toInt = B.toInt + sc.toInt) (c9 : U.toInt = E.toInt - 64) (c10 : 0 ≤ q2.toInt) (c11 : (xbn q2).toInt = 4) (c12 : E.toInt ≤ 16384) (c13 : (-16384) ≤ E.toInt) : ∃ w2, xEv (d + 6) 180 207 [(14, Value.int 0), (13, Value.int E), (12, Value.int 1), (11, Value.int 0), (10, Value.int C), (9, Value.int U), (8, Value.int E), (7, Value.int 64), (0, Value.ref 128), (1, Value.int (xs 1)), (2, Value.ref 129), (3, Value.int sc), (4, Value.int 0), (5, Value.int 1), (6, Value.int md)] [] w (fun o' w' => o' = .inl (some (Value.int 0)) ∧ w' = w2) ∧ xKp w w2 xPM ∧ w2[128]? = some (Sum.inr (12, [Value.ref 129, Value.ref 131, Value.ref 133, Value.ref 135, Value.ref 137, Value.ref 139, Value.ref 141, Value.ref 143, Value.ref 145, Value.ref 147, Value.ref 149, Value.ref 151, Value.ref 153, Value.ref 154, Value.ref 155, Value.ref 156, Value.ref 157, Value.int (-16384), Value.int 16384, Value.int 0, Value.int 0, Value.int 0, Value.ref 158, Value.ref 159, Value.int 0, Value.int 0, Value.int 0, Value.int 0, Value.int 0, Value.int 0, Value.int 0, Value.int 0])) := by
  have f0 : ((60 : Int32) + (xbn q2)).toInt = 60 + (xbn q2).toInt := xadd_g rfl rfl (by omega) (by omega)
  have f1 : ((64 : Int32) + U).toInt = 64 + U.toInt := xadd_g rfl rfl (by omega) (by omega)
  refine ⟨(((((((w.set (160 + 2 * (xs 1).toInt.toNat) (Sum.inr (13, [Value.ref (161 + 2 * (xs 1).toInt.toNat), Value.int 0]))).set 138 (Sum.inl (0, 4700, xcp g (fun _ => Value.int 0) (0 : Int32).toInt.toNat (0 : Int32).toInt.toNat (3 : Int32).toInt.toNat))).set 137 (Sum.inr (13, [Value.ref 138, Value.int 3]))).set (161 + 2 * (xs 1).toInt.toNat) (Sum.inl (0, 140, xcp (xcp g (fun _ => Value.int 0) (0 : Int32).toInt.toNat (0 : Int32).toInt.toNat (3 : Int32).toInt.toNat) (fun _ => Value.int 0) (0 : Int32).toInt.toNat (0 : Int32).toInt.toNat (3 : Int32).toInt.toNat))).set (160 + 2 * (xs 1).toInt.toNat) (Sum.inr (13, [Value.ref (161 + 2 * (xs 1).toInt.toNat), Value.int 3]))).set 154 (Sum.inl (0, 17, xup (fun _ => Value.int 0) (xs 1).toInt.toNat (Value.int 3)))).set 155 (Sum.inl (0, 17, xup (fun _ => Value.int 0) (xs 1).toInt.toNat (Value.int E)))), ?_, ?_, xgn (by decide) (xgn (by decide) (xgn (by omega) (xgn (by omega) (xgn (by decide) (xgn (by decide) (xgn (by omega) hm))))))⟩
  · refine i_180_207 (x := 128) rfl ?_
    refine i_180_208 (v := Value.int 0) hm rfl ?_
    refine i_180_211 (fun h => absurd h (by decide)) (fun _ => ?_)
    refine i_180_214 (x := 128) rfl ?_
    refine i_180_215 (v := Value.ref 135) hm rfl ?_
    refine i_180_218 (v := Value.int 3) hq rfl ?_
    refine i_180_221 (fun h => absurd h (by decide)) (fun _ => ?_)
    refine i_180_224 (x := E) rfl ?_
    refine i_180_226 (x := 128) rfl ?_
    refine i_180_227 (v := Value.int 16384) hm rfl ?_
    refine i_180_230 (fun _ => ?_) (fun h => absurd (show E.toInt ≤ 16384 by omega) (Int.not_le.mpr h))
    refine i_180_367 (x := 128) rfl ?_
    refine i_180_368 (v := Value.ref 135) hm rfl ?_
    refine i_180_371 (v := Value.int 3) hq rfl ?_
    refine i_180_374 (fun _ => ?_) (fun h => absurd h (by decide))
    refine i_180_392 (x := 128) rfl ?_
    refine i_180_393 (v := Value.int 0) hm rfl ?_
    refine i_180_396 (fun h => absurd h (by decide)) (fun _ => ?_)
    refine i_180_399 (x := 128) rfl ?_
    refine i_180_400 (v := Value.int 0) hm rfl ?_
    refine i_180_403 (fun h => absurd h (by decide)) (fun _ => ?_)
    refine i_180_406 (x := E) rfl ?_
    refine i_180_408 (x := 128) rfl ?_
    refine i_180_409 (v := Value.int (-16384)) hm rfl ?_
    refine i_180_412 (fun _ => ?_) (fun h => absurd (show (-16384) ≤ E.toInt by omega) (Int.not_le.mpr h))
    refine i_180_580 (x := 128) rfl ?_
    refine i_180_581 (x := (xs 1)) rfl ?_
    refine i_180_582 (x := 128) rfl ?_
    refine i_180_583 (v := Value.ref 135) hm rfl ?_
    refine i_180_586 (x := U) rfl ?_
    refine i_180_588 hm (Nat.le_of_ble_eq_true rfl) (s_192_2 hm ((hk 153 (by decide) (by decide) (by decide) (by decide) (by decide)).trans W0_153) (by omega) (by omega) (gprec_at (by omega)) hq hqw hg2 (show ((60 : Int32) + (xbn q2)) = 64 from (xge_c (n := 64) (by omega) rfl)) (by omega) ((hk 157 (by decide) (by decide) (by decide) (by decide) (by decide)).trans W0_157) (gpart_at (by omega)) ((hk _ (by omega) (by omega) (by omega) (by omega) (by omega)).trans (W0_part (by omega))) (by omega) (by omega) (by omega) ((hk 137 (by decide) (by decide) (by decide) (by decide) (by decide)).trans W0_137) (by omega) (by omega) (by omega) ((hk 138 (by decide) (by decide) (by decide) (by decide) (by decide)).trans W0_138) hg0 hg1 (by omega) (by omega) (by omega) (by omega) (by omega) (by omega) ((hk _ (by omega) (by omega) (by omega) (by omega) (by omega)).trans (W0_pw (by omega))) (by omega) (by omega) (by omega) (by omega) (by omega) (by omega) ((hk 154 (by decide) (by decide) (by decide) (by decide) (by decide)).trans W0_154) (show ((64 : Int32) + U) = E from (xge_i (by omega))) (by omega) (by omega) ((hk 155 (by decide) (by decide) (by decide) (by decide) (by decide)).trans W0_155)) ?_
    refine i_180_591 (x := 128) rfl ?_
    refine i_180_592 (v := Value.int 0) (xgn (by decide) (xgn (by decide) (xgn (by omega) (xgn (by omega) (xgn (by decide) (xgn (by decide) (xgn (by omega) hm))))))) rfl ?_
    refine i_180_595 (fun h => absurd h (by decide)) (fun _ => ?_)
    refine i_180_598 (x := 128) rfl ?_
    refine i_180_599 (v := Value.int 0) (xgn (by decide) (xgn (by decide) (xgn (by omega) (xgn (by omega) (xgn (by decide) (xgn (by decide) (xgn (by omega) hm))))))) rfl ?_
    refine i_180_602 (fun _ => ?_) (fun h => absurd h (by decide))
    refine i_180_629 (x := 0) rfl ?_
    refine i_180_631 (fun _ => ?_) (fun h => absurd h (by decide))
    refine i_180_644 (x := 1) rfl ?_
    refine i_180_646 (fun h => absurd h (by decide)) (fun _ => ?_)
    refine i_180_649 (x := 0) rfl ?_
    refine i_180_651 (c := 0) (by decide) ?_
    refine i_180_652 ?_
    exact i_180_657 ⟨rfl, rfl⟩
  · refine xKp.set ?_ (fun h hh => by unfold xPM at hh; omega) (xgn (by decide) (xgn (by omega) (xgn (by omega) (xgn (by decide) (xgn (by decide) (xgn (by omega) (((hk 155 (by decide) (by decide) (by decide) (by decide) (by decide)).trans W0_155)))))))) xcs_a
    refine xKp.set ?_ (fun h hh => by unfold xPM at hh; omega) (xgn (by omega) (xgn (by omega) (xgn (by decide) (xgn (by decide) (xgn (by omega) (((hk 154 (by decide) (by decide) (by decide) (by decide) (by decide)).trans W0_154))))))) xcs_a
    refine xKp.set ?_ (fun h hh => by unfold xPM at hh; omega) (xgn (by omega) (xgn (by omega) (xgn (by omega) (xgs ((hk _ (by omega) (by omega) (by omega) (by omega) (by omega)).trans (W0_part (by omega))))))) xcs_o
    refine xKp.set ?_ (fun h hh => by unfold xPM at hh; omega) (xgn (by omega) (xgn (by omega) (xgn (by omega) (((hk _ (by omega) (by omega) (by omega) (by omega) (by omega)).trans (W0_pw (by omega))))))) xcs_a
    refine xKp.set ?_ (fun h hh => by unfold xPM at hh; omega) (xgn (by decide) (xgn (by omega) (((hk 137 (by decide) (by decide) (by decide) (by decide) (by decide)).trans W0_137)))) xcs_o
    refine xKp.set ?_ (fun h hh => by unfold xPM at hh; omega) (xgn (by omega) (((hk 138 (by decide) (by decide) (by decide) (by decide) (by decide)).trans W0_138))) xcs_a
    refine xKp.set ?_ (fun h hh => by unfold xPM at hh; omega) (((hk _ (by omega) (by omega) (by omega) (by omega) (by omega)).trans (W0_part (by omega)))) xcs_o
    exact xKp.refl
theorem suf_1 {d : Nat} {xs : Nat → Int32} {m : Int64} {sc md : Int32} {w : xW} {B E U C q0 q1 q2 nn : Int32} {g : Nat → Value} (hB : B.toInt = (xbl (xul m) : Int)) (hk : ∀ h, 131 ≤ h → h < 194 → h ≠ 135 → h ≠ 136 → h ≠ 156 → w[h]? = (W0 6 xs)[h]?) (hm : w[128]? = some (Sum.inr (12, [Value.ref 129, Value.ref 131, Value.ref 133, Value.ref 135, Value.ref 137, Value.ref 139, Value.ref 141, Value.ref 143, Value.ref 145, Value.ref 147, Value.ref 149, Value.ref 151, Value.ref 153, Value.ref 154, Value.ref 155, Value.ref 156, Value.ref 157, Value.int (-16384), Value.int 16384, Value.int 0, Value.int 0, Value.int 0, Value.ref 158, Value.ref 159, Value.int 0, Value.int 0, Value.int 0, Value.int 0, Value.int 0, Value.int 0, Value.int 0, Value.int 0]))) (hv : w[129]? = some (Sum.inr (13, [Value.ref 130, Value.int nn]))) (hq : w[135]? = some (Sum.inr (13, [Value.ref 136, Value.int 3]))) (hqw : w[136]? = some (Sum.inl (0, 4700, g))) (hg0 : g (0 : Int32).toInt.toNat = Value.int q0) (hg1 : g (1 : Int32).toInt.toNat = Value.int q1) (hg2 : g (2 : Int32).toInt.toNat = Value.int q2) (hn : w[156]? = some (Sum.inl (2, 17, xup (fun _ => Value.int 0) (xs 1).toInt.toNat (Value.int 1)))) (hbits : ∀ (d' : Nat) (w' : xW), w'[129]? = w[129]? → w'[130]? = w[130]? → xRun d' 181 [Value.ref 129] w' (.inl (some (Value.int B))) w') (hany0 : xPW m → ∀ (d' : Nat) (w' : xW), w'[129]? = w[129]? → w'[130]? = w[130]? → xRun d' 183 [Value.ref 129, Value.int (B - (1 : Int32))] w' (.inl (some (Value.int 0))) w') (hany1 : ¬ xPW m → ∀ (d' : Nat) (w' : xW), w'[129]? = w[129]? → w'[130]? = w[130]? → xRun d' 183 [Value.ref 129, Value.int (B - (1 : Int32))] w' (.inl (some (Value.int 1))) w') (c0 : 0 ≤ (xs 1).toInt) (c1 : (xs 1).toInt < 16) (c2 : (-40000) ≤ sc.toInt) (c3 : sc.toInt ≤ 40000) (c4 : 0 ≤ md.toInt) (c5 : md.toInt ≤ 4) (c6 : 1 ≤ B.toInt) (c7 : B.toInt ≤ 64) (c8 : E.toInt = B.toInt + sc.toInt) (c9 : U.toInt = E.toInt - 64) (c10 : 0 ≤ q2.toInt) (c11 : (xbn q2).toInt = 4) : ∃ w2, xEv (d + 6) 180 207 [(14, Value.int 0), (13, Value.int E), (12, Value.int 1), (11, Value.int 0), (10, Value.int C), (9, Value.int U), (8, Value.int E), (7, Value.int 64), (0, Value.ref 128), (1, Value.int (xs 1)), (2, Value.ref 129), (3, Value.int sc), (4, Value.int 0), (5, Value.int 1), (6, Value.int md)] [] w (fun o' w' => o' = .inl (some (Value.int (xres 1 m sc md))) ∧ w' = w2) ∧ xKp w w2 xPM ∧ ∃ f, w2[128]? = some (xmo f) := by
  rcases Int.lt_or_le (16384) E.toInt with c12 | c12
  · by_cases c13 : md.toInt = 0
    · have e : xres 1 m sc md = (-1) := (by unfold xres; rw [← hB, ← c8]; exact (xans_o1 (by omega) (by omega)).trans rfl)
      rw [e]
      obtain ⟨w2, h1, h2, h3⟩ := sf1_0 (d := d) hk hm hv hq hqw hg0 hg1 hg2 hn hbits hany0 hany1 c0 c1 c2 c3 c4 c5 c6 c7 c8 c9 c10 c11 c12 c13
      exact ⟨w2, h1, h2, 3, h3⟩
    · by_cases c14 : md.toInt = 4
      · have e : xres 1 m sc md = (-1) := (by unfold xres; rw [← hB, ← c8]; exact (xans_o1 (by omega) (by omega)).trans rfl)
        rw [e]
        obtain ⟨w2, h1, h2, h3⟩ := sf1_1 (d := d) hk hm hv hq hqw hg0 hg1 hg2 hn hbits hany0 hany1 c0 c1 c2 c3 c4 c5 c6 c7 c8 c9 c10 c11 c12 c13 c14
        exact ⟨w2, h1, h2, 3, h3⟩
      · by_cases c15 : md.toInt = 2
        · have e : xres 1 m sc md = 1 := (by unfold xres; rw [← hB, ← c8]; exact (xans_o0 (by omega) (by omega)).trans rfl)
          rw [e]
          obtain ⟨w2, h1, h2, h3⟩ := sf1_2 (d := d) hk hm hv hq hqw hg0 hg1 hg2 hn hbits hany0 hany1 c0 c1 c2 c3 c4 c5 c6 c7 c8 c9 c10 c11 c12 c13 c14 c15
          exact ⟨w2, h1, h2, 3, h3⟩
        · by_cases c16 : md.toInt = 3
          · have e : xres 1 m sc md = (-1) := (by unfold xres; rw [← hB, ← c8]; exact (xans_o1 (by omega) (by omega)).trans rfl)
            rw [e]
            obtain ⟨w2, h1, h2, h3⟩ := sf1_3 (d := d) hk hm hv hq hqw hg0 hg1 hg2 hn hbits hany0 hany1 c0 c1 c2 c3 c4 c5 c6 c7 c8 c9 c10 c11 c12 c13 c14 c15 c16
            exact ⟨w2, h1, h2, 3, h3⟩
          · have e : xres 1 m sc md = 1 := (by unfold xres; rw [← hB, ← c8]; exact (xans_o0 (by omega) (by omega)).trans rfl)
            rw [e]
            obtain ⟨w2, h1, h2, h3⟩ := sf1_4 (d := d) hk hm hv hq hqw hg0 hg1 hg2 hn hbits hany0 hany1 c0 c1 c2 c3 c4 c5 c6 c7 c8 c9 c10 c11 c12 c13 c14 c15 c16
            exact ⟨w2, h1, h2, 3, h3⟩
  · rcases Int.lt_or_le E.toInt (-16384) with c13 | c13
    · by_cases c14 : E.toInt = (-16385)
      · by_cases c15 : xPW m
        · by_cases c16 : md.toInt = 4
          · have e : xres 1 m sc md = (-1) := (by unfold xres; rw [← hB, ← c8]; exact (xans_u1 (by omega) (by omega)).trans rfl)
            rw [e]
            obtain ⟨w2, h1, h2, h3⟩ := sf1_5 (d := d) hk hm hv hq hqw hg0 hg1 hg2 hn hbits hany0 hany1 c0 c1 c2 c3 c4 c5 c6 c7 c8 c9 c10 c11 c12 c13 c14 c15 c16
            exact ⟨w2, h1, h2, 5, h3⟩
          · by_cases c17 : md.toInt = 2
            · have e : xres 1 m sc md = 1 := (by unfold xres; rw [← hB, ← c8]; exact (xans_u0 (by omega) (by omega) (fun _ _ => c15)).trans rfl)
              rw [e]
              obtain ⟨w2, h1, h2, h3⟩ := sf1_6 (d := d) hk hm hv hq hqw hg0 hg1 hg2 hn hbits hany0 hany1 c0 c1 c2 c3 c4 c5 c6 c7 c8 c9 c10 c11 c12 c13 c14 c15 c16 c17
              exact ⟨w2, h1, h2, 5, h3⟩
            · by_cases c18 : md.toInt = 3
              · have e : xres 1 m sc md = (-1) := (by unfold xres; rw [← hB, ← c8]; exact (xans_u1 (by omega) (by omega)).trans rfl)
                rw [e]
                obtain ⟨w2, h1, h2, h3⟩ := sf1_7 (d := d) hk hm hv hq hqw hg0 hg1 hg2 hn hbits hany0 hany1 c0 c1 c2 c3 c4 c5 c6 c7 c8 c9 c10 c11 c12 c13 c14 c15 c16 c17 c18
                exact ⟨w2, h1, h2, 5, h3⟩
              · by_cases c19 : md.toInt = 0
                · have e : xres 1 m sc md = 1 := (by unfold xres; rw [← hB, ← c8]; exact (xans_u0 (by omega) (by omega) (fun _ _ => c15)).trans rfl)
                  rw [e]
                  obtain ⟨w2, h1, h2, h3⟩ := sf1_8 (d := d) hk hm hv hq hqw hg0 hg1 hg2 hn hbits hany0 hany1 c0 c1 c2 c3 c4 c5 c6 c7 c8 c9 c10 c11 c12 c13 c14 c15 c16 c17 c18 c19
                  exact ⟨w2, h1, h2, 5, h3⟩
                · have e : xres 1 m sc md = 1 := (by unfold xres; rw [← hB, ← c8]; exact (xans_u0 (by omega) (by omega) (fun _ _ => c15)).trans rfl)
                  rw [e]
                  obtain ⟨w2, h1, h2, h3⟩ := sf1_9 (d := d) hk hm hv hq hqw hg0 hg1 hg2 hn hbits hany0 hany1 c0 c1 c2 c3 c4 c5 c6 c7 c8 c9 c10 c11 c12 c13 c14 c15 c16 c17 c18 c19
                  exact ⟨w2, h1, h2, 5, h3⟩
        · by_cases c16 : md.toInt = 4
          · have e : xres 1 m sc md = (-1) := (by unfold xres; rw [← hB, ← c8]; exact (xans_u1 (by omega) (by omega)).trans rfl)
            rw [e]
            obtain ⟨w2, h1, h2, h3⟩ := sf1_10 (d := d) hk hm hv hq hqw hg0 hg1 hg2 hn hbits hany0 hany1 c0 c1 c2 c3 c4 c5 c6 c7 c8 c9 c10 c11 c12 c13 c14 c15 c16
            exact ⟨w2, h1, h2, 5, h3⟩
          · by_cases c17 : md.toInt = 2
            · have e : xres 1 m sc md = 1 := (by unfold xres; rw [← hB, ← c8]; exact (xans_u0 (by omega) (by omega) (fun h1 h2 => by omega)).trans rfl)
              rw [e]
              obtain ⟨w2, h1, h2, h3⟩ := sf1_11 (d := d) hk hm hv hq hqw hg0 hg1 hg2 hn hbits hany0 hany1 c0 c1 c2 c3 c4 c5 c6 c7 c8 c9 c10 c11 c12 c13 c14 c15 c16 c17
              exact ⟨w2, h1, h2, 5, h3⟩
            · by_cases c18 : md.toInt = 3
              · have e : xres 1 m sc md = (-1) := (by unfold xres; rw [← hB, ← c8]; exact (xans_u1 (by omega) (by omega)).trans rfl)
                rw [e]
                obtain ⟨w2, h1, h2, h3⟩ := sf1_12 (d := d) hk hm hv hq hqw hg0 hg1 hg2 hn hbits hany0 hany1 c0 c1 c2 c3 c4 c5 c6 c7 c8 c9 c10 c11 c12 c13 c14 c15 c16 c17 c18
                exact ⟨w2, h1, h2, 5, h3⟩
              · by_cases c19 : md.toInt = 0
                · have e : xres 1 m sc md = (-1) := (by unfold xres; rw [← hB, ← c8]; exact (xans_u2 (by omega) (by omega) (by omega) c15).trans rfl)
                  rw [e]
                  obtain ⟨w2, h1, h2, h3⟩ := sf1_13 (d := d) hk hm hv hq hqw hg0 hg1 hg2 hn hbits hany0 hany1 c0 c1 c2 c3 c4 c5 c6 c7 c8 c9 c10 c11 c12 c13 c14 c15 c16 c17 c18 c19
                  exact ⟨w2, h1, h2, 5, h3⟩
                · have e : xres 1 m sc md = 1 := (by unfold xres; rw [← hB, ← c8]; exact (xans_u0 (by omega) (by omega) (fun h1 h2 => by omega)).trans rfl)
                  rw [e]
                  obtain ⟨w2, h1, h2, h3⟩ := sf1_14 (d := d) hk hm hv hq hqw hg0 hg1 hg2 hn hbits hany0 hany1 c0 c1 c2 c3 c4 c5 c6 c7 c8 c9 c10 c11 c12 c13 c14 c15 c16 c17 c18 c19
                  exact ⟨w2, h1, h2, 5, h3⟩
      · by_cases c15 : md.toInt = 4
        · have e : xres 1 m sc md = (-1) := (by unfold xres; rw [← hB, ← c8]; exact (xans_u1 (by omega) (by omega)).trans rfl)
          rw [e]
          obtain ⟨w2, h1, h2, h3⟩ := sf1_15 (d := d) hk hm hv hq hqw hg0 hg1 hg2 hn hbits hany0 hany1 c0 c1 c2 c3 c4 c5 c6 c7 c8 c9 c10 c11 c12 c13 c14 c15
          exact ⟨w2, h1, h2, 5, h3⟩
        · by_cases c16 : md.toInt = 2
          · have e : xres 1 m sc md = 1 := (by unfold xres; rw [← hB, ← c8]; exact (xans_u0 (by omega) (by omega) (fun h1 h2 => by omega)).trans rfl)
            rw [e]
            obtain ⟨w2, h1, h2, h3⟩ := sf1_16 (d := d) hk hm hv hq hqw hg0 hg1 hg2 hn hbits hany0 hany1 c0 c1 c2 c3 c4 c5 c6 c7 c8 c9 c10 c11 c12 c13 c14 c15 c16
            exact ⟨w2, h1, h2, 5, h3⟩
          · by_cases c17 : md.toInt = 3
            · have e : xres 1 m sc md = (-1) := (by unfold xres; rw [← hB, ← c8]; exact (xans_u1 (by omega) (by omega)).trans rfl)
              rw [e]
              obtain ⟨w2, h1, h2, h3⟩ := sf1_17 (d := d) hk hm hv hq hqw hg0 hg1 hg2 hn hbits hany0 hany1 c0 c1 c2 c3 c4 c5 c6 c7 c8 c9 c10 c11 c12 c13 c14 c15 c16 c17
              exact ⟨w2, h1, h2, 5, h3⟩
            · by_cases c18 : md.toInt = 0
              · have e : xres 1 m sc md = 1 := (by unfold xres; rw [← hB, ← c8]; exact (xans_u0 (by omega) (by omega) (fun h1 h2 => by omega)).trans rfl)
                rw [e]
                obtain ⟨w2, h1, h2, h3⟩ := sf1_18 (d := d) hk hm hv hq hqw hg0 hg1 hg2 hn hbits hany0 hany1 c0 c1 c2 c3 c4 c5 c6 c7 c8 c9 c10 c11 c12 c13 c14 c15 c16 c17 c18
                exact ⟨w2, h1, h2, 5, h3⟩
              · have e : xres 1 m sc md = 1 := (by unfold xres; rw [← hB, ← c8]; exact (xans_u0 (by omega) (by omega) (fun h1 h2 => by omega)).trans rfl)
                rw [e]
                obtain ⟨w2, h1, h2, h3⟩ := sf1_19 (d := d) hk hm hv hq hqw hg0 hg1 hg2 hn hbits hany0 hany1 c0 c1 c2 c3 c4 c5 c6 c7 c8 c9 c10 c11 c12 c13 c14 c15 c16 c17 c18
                exact ⟨w2, h1, h2, 5, h3⟩
    · have e : xres 1 m sc md = 0 := (by unfold xres; rw [← hB, ← c8]; exact (xans_in (by omega) (by omega)).trans rfl)
      rw [e]
      obtain ⟨w2, h1, h2, h3⟩ := sf1_20 (d := d) hk hm hv hq hqw hg0 hg1 hg2 hn hbits hany0 hany1 c0 c1 c2 c3 c4 c5 c6 c7 c8 c9 c10 c11 c12 c13
      exact ⟨w2, h1, h2, 0, h3⟩
theorem rd1_1 {d : Nat} {xs : Nat → Int32} {m : Int64} {sc md : Int32} {w : xW} {g : Nat → Value} {B K P G : Int32} (hk : ∀ h, 131 ≤ h → h < 194 → w[h]? = (W0 6 xs)[h]?) (hm : w[128]? = some (Sum.inr (12, [Value.ref 129, Value.ref 131, Value.ref 133, Value.ref 135, Value.ref 137, Value.ref 139, Value.ref 141, Value.ref 143, Value.ref 145, Value.ref 147, Value.ref 149, Value.ref 151, Value.ref 153, Value.ref 154, Value.ref 155, Value.ref 156, Value.ref 157, Value.int (-16384), Value.int 16384, Value.int 0, Value.int 0, Value.int 0, Value.ref 158, Value.ref 159, Value.int 0, Value.int 0, Value.int 0, Value.int 0, Value.int 0, Value.int 0, Value.int 0, Value.int 0]))) (hv : w[129]? = some (Sum.inr (13, [Value.ref 130, Value.int 1]))) (hvw : w[130]? = some (Sum.inl (0, 4700, g))) (hg0 : g (0 : Int32).toInt.toNat = Value.int (xq m)) (hB : B.toInt = (xbl (xul m) : Int)) (c0 : 0 ≤ (xs 1).toInt) (c1 : (xs 1).toInt < 16) (c2 : (-40000) ≤ sc.toInt) (c3 : sc.toInt ≤ 40000) (c4 : 0 ≤ md.toInt) (c5 : md.toInt ≤ 4) (c6 : K.toInt = 64 - B.toInt) (c7 : 1 ≤ B.toInt) (c8 : B.toInt ≤ 4) (c9 : (xhi m).toInt = 0) (c10 : (xlo m).toInt ≠ 0) (c11 : (xnlz (xlo m)).toInt = 32 - B.toInt) (c12 : (xbf 1 (xlo m) (0 : Int32) ((32 : Int32) - K)).toInt ≠ 0) (c13 : (lg_cmp m (0 : Int64)).toInt ≠ 0) (c14 : (lg_cmp (xqs m) (0 : Int64)).toInt = 0) (c15 : (xbn (xq m)).toInt = B.toInt) (c16 : (xq m).toInt ≠ 0) (c17 : 0 ≤ (xq m).toInt) (c18 : K.toInt ≠ 0) (c19 : K / (30 : Int32) = 2) (c20 : K - K / (30 : Int32) * (30 : Int32) = P) (c21 : ((0 : Int32) ||| (xH (xq m) P)).toInt = 0) (c22 : (xL (xq m) P).toInt ≠ 0) (c23 : 0 ≤ (xL (xq m) P).toInt) (c24 : (xbn (xL (xq m) P)).toInt = 4) (c25 : G.toInt = B.toInt - 1) : ∃ w2, xRun (d + 6) 180 [Value.ref 128, Value.int (xs 1), Value.ref 129, Value.int sc, Value.int 0, Value.int 1, Value.int md] w (.inl (some (Value.int (xres 1 m sc md)))) w2 ∧ xKp w w2 xPM ∧ ∃ f, w2[128]? = some (xmo f) := by
  have f0 : ((0 : Int32) + (xbn (xq m))).toInt = 0 + (xbn (xq m)).toInt := xadd_g rfl rfl (by omega) (by omega)
  have f1 : (B + sc).toInt = B.toInt + sc.toInt := xadd_i (by omega) (by omega)
  have f2 : ((B + sc) - (64 : Int32)).toInt = (B + sc).toInt - 64 := xsub_g rfl rfl (by omega) (by omega)
  have f3 : (((B + sc) - (64 : Int32)) - sc).toInt = ((B + sc) - (64 : Int32)).toInt - sc.toInt := xsub_i (by omega) (by omega)
  have f4 : (-(((B + sc) - (64 : Int32)) - sc)).toInt = -(((B + sc) - (64 : Int32)) - sc).toInt := xneg_i (by omega)
  have f5 : ((60 : Int32) + (xbn (xL (xq m) P))).toInt = 60 + (xbn (xL (xq m) P)).toInt := xadd_g rfl rfl (by omega) (by omega)
  have f6 : ((64 : Int32) + ((B + sc) - (64 : Int32))).toInt = 64 + ((B + sc) - (64 : Int32)).toInt := xadd_g rfl rfl (by omega) (by omega)
  have fb : ((0 : Int32) + xbn (xq m)).toInt = B.toInt := by rw [xadd_i (by show _ ≤ (0 : Int) + _; omega) (by show (0 : Int) + _ < _; omega)]; show (0 : Int) + _ = _; omega
  obtain ⟨w2, h1, h2, h3⟩ := suf_1 (d := d) (xs := xs) (m := m) (sc := sc) (md := md) (w := (((((w.set 156 (Sum.inl (2, 17, xup (fun _ => Value.int 0) (xs 1).toInt.toNat (Value.int 1)))).set 136 (Sum.inl (0, 4700, xcp g (fun _ => Value.int 0) (0 : Int32).toInt.toNat (0 : Int32).toInt.toNat (1 : Int32).toInt.toNat))).set 135 (Sum.inr (13, [Value.ref 136, Value.int 1]))).set 136 (Sum.inl (0, 4700, xup (xup (xup (xup (xup (xcp g (fun _ => Value.int 0) (0 : Int32).toInt.toNat (0 : Int32).toInt.toNat (1 : Int32).toInt.toNat) (3 : Int32).toInt.toNat (Value.int 0)) (3 : Int32).toInt.toNat (Value.int 0)) (2 : Int32).toInt.toNat (Value.int (xL (xq m) P))) (0 : Int32).toInt.toNat (Value.int 0)) (1 : Int32).toInt.toNat (Value.int 0)))).set 135 (Sum.inr (13, [Value.ref 136, Value.int 3])))) (B := B) (E := (B + sc)) (U := ((B + sc) - (64 : Int32))) (C := (((B + sc) - (64 : Int32)) - sc)) hB (fun h h1 h2 h3 h4 h5 => (xgn (by omega) (xgn (by omega) (xgn (by omega) (xgn (by omega) (xgn (by omega) (rfl)))))).trans (hk h h1 h2)) (xgn (by decide) (xgn (by decide) (xgn (by decide) (xgn (by decide) (xgn (by decide) hm))))) (xgn (by decide) (xgn (by decide) (xgn (by decide) (xgn (by decide) (xgn (by decide) hv))))) (xgs (xgn (by decide) (xgs (xgn (by decide) (xgn (by decide) (((hk 135 (by decide) (by decide)).trans W0_135))))))) (xgn (by decide) (xgs (xgn (by decide) (xgs (xgn (by decide) (((hk 136 (by decide) (by decide)).trans W0_136))))))) (xup_n (by decide) xup_s) (xup_s) (xup_n (by decide) (xup_n (by decide) xup_s)) (xgn (by decide) (xgn (by decide) (xgn (by decide) (xgn (by decide) (xgs ((hk 156 (by decide) (by decide)).trans W0_156)))))) (fun d' w' e1 e2 => mb_run1 (e1.trans (xgn (by decide) (xgn (by decide) (xgn (by decide) (xgn (by decide) (xgn (by decide) hv)))))) (e2.trans (xgn (by decide) (xgn (by decide) (xgn (by decide) (xgn (by decide) (xgn (by decide) hvw)))))) hg0 (by omega) (xge_i (by omega))) (fun hp d' w' e1 e2 => any0_1 (xs := xs) (sc := sc) (md := md) (P := P) hB (e1.trans (xgn (by decide) (xgn (by decide) (xgn (by decide) (xgn (by decide) (xgn (by decide) hv)))))) (e2.trans (xgn (by decide) (xgn (by decide) (xgn (by decide) (xgn (by decide) (xgn (by decide) hvw)))))) hg0 c0 c1 c2 c3 c4 c5 c6 c7 c8 c9 c10 c11 c12 c13 c14 c15 c16 c17 c18 c19 c20 c21 c22 c23 c24 c25 hp) (fun hp d' w' e1 e2 => any1_1 (xs := xs) (sc := sc) (md := md) (P := P) hB (e1.trans (xgn (by decide) (xgn (by decide) (xgn (by decide) (xgn (by decide) (xgn (by decide) hv)))))) (e2.trans (xgn (by decide) (xgn (by decide) (xgn (by decide) (xgn (by decide) (xgn (by decide) hvw)))))) hg0 c0 c1 c2 c3 c4 c5 c6 c7 c8 c9 c10 c11 c12 c13 c14 c15 c16 c17 c18 c19 c20 c21 c22 c23 c24 c25 hp) c0 c1 c2 c3 c4 c5 (by omega) (by omega) (by omega) (by omega) (by omega) (by omega)
  refine ⟨w2, xRun.of ?_, xKp.trans ?_ h2, h3⟩
  · refine i_180_0 (x := 128) rfl ?_
    refine i_180_1 (v := Value.ref 153) hm rfl ?_
    refine i_180_4 (x := (xs 1)) rfl ?_
    refine i_180_5 (v := Value.int 64) ((hk 153 (by decide) (by decide)).trans W0_153) (by omega) (by omega) (gprec_at (by omega)) ?_
    refine i_180_6 (lv2 := [(7, Value.int 64), (0, Value.ref 128), (1, Value.int (xs 1)), (2, Value.ref 129), (3, Value.int sc), (4, Value.int 0), (5, Value.int 1), (6, Value.int md)]) rfl ?_
    refine i_180_8 (x := 129) rfl ?_
    refine i_180_9 hv (Nat.le_of_ble_eq_true rfl) (mb_run1 hv hvw hg0 (by omega) (show ((0 : Int32) + (xbn (xq m))) = B from (xge_i (by omega)))) ?_
    refine i_180_12 (x := sc) rfl ?_
    refine i_180_13 (c := (B + sc)) (show (B + sc) = (B + sc) from (xge_i (by omega))) ?_
    refine i_180_14 (lv2 := [(8, Value.int (B + sc)), (7, Value.int 64), (0, Value.ref 128), (1, Value.int (xs 1)), (2, Value.ref 129), (3, Value.int sc), (4, Value.int 0), (5, Value.int 1), (6, Value.int md)]) rfl ?_
    refine i_180_16 (x := 128) rfl ?_
    refine i_180_17 (v := Value.int 0) hm rfl ?_
    refine i_180_20 (fun h => absurd h (by decide)) (fun _ => ?_)
    refine i_180_23 (x := 128) rfl ?_
    refine i_180_24 (v := Value.int 0) hm rfl ?_
    refine i_180_27 (fun _ => ?_) (fun h => absurd h (by decide))
    refine i_180_49 (x := (B + sc)) rfl ?_
    refine i_180_51 (x := 64) rfl ?_
    refine i_180_53 (c := ((B + sc) - (64 : Int32))) rfl ?_
    refine i_180_54 (lv2 := [(9, Value.int ((B + sc) - (64 : Int32))), (8, Value.int (B + sc)), (7, Value.int 64), (0, Value.ref 128), (1, Value.int (xs 1)), (2, Value.ref 129), (3, Value.int sc), (4, Value.int 0), (5, Value.int 1), (6, Value.int md)]) rfl ?_
    refine i_180_56 (x := ((B + sc) - (64 : Int32))) rfl ?_
    refine i_180_58 (x := sc) rfl ?_
    refine i_180_59 (c := (((B + sc) - (64 : Int32)) - sc)) rfl ?_
    refine i_180_60 (lv2 := [(10, Value.int (((B + sc) - (64 : Int32)) - sc)), (9, Value.int ((B + sc) - (64 : Int32))), (8, Value.int (B + sc)), (7, Value.int 64), (0, Value.ref 128), (1, Value.int (xs 1)), (2, Value.ref 129), (3, Value.int sc), (4, Value.int 0), (5, Value.int 1), (6, Value.int md)]) rfl ?_
    refine i_180_62 (x := 128) rfl ?_
    refine i_180_63 (v := Value.ref 156) hm rfl ?_
    refine i_180_66 (x := (xs 1)) rfl ?_
    refine i_180_67 (x := 1) rfl ?_
    refine i_180_69z (v := Value.int 1) ((hk 156 (by decide) (by decide)).trans W0_156) (by omega) (by omega) (by omega) rfl ?_
    refine i_180_70 (x := 128) rfl ?_
    refine i_180_71 (v := Value.ref 135) (xgn (by decide) hm) rfl ?_
    refine i_180_74 (x := 129) rfl ?_
    refine i_180_75 (xgn (by decide) (((hk 135 (by decide) (by decide)).trans W0_135))) (Nat.le_of_ble_eq_true rfl) (s_182_0 (xgn (by decide) hv) (xgn (by decide) (((hk 135 (by decide) (by decide)).trans W0_135))) (xgn (by decide) hvw) (xgn (by decide) (((hk 136 (by decide) (by decide)).trans W0_136))) hg0) ?_
    refine i_180_78 ?_
    refine i_180_79 (lv2 := [(11, Value.int 0), (10, Value.int (((B + sc) - (64 : Int32)) - sc)), (9, Value.int ((B + sc) - (64 : Int32))), (8, Value.int (B + sc)), (7, Value.int 64), (0, Value.ref 128), (1, Value.int (xs 1)), (2, Value.ref 129), (3, Value.int sc), (4, Value.int 0), (5, Value.int 1), (6, Value.int md)]) rfl ?_
    refine i_180_81 (x := 0) rfl ?_
    refine i_180_83 (fun h => absurd h (by decide)) (fun _ => ?_)
    refine i_180_86 ?_
    refine i_180_87 ?_
    refine i_180_91 (lv2 := [(12, Value.int 1), (11, Value.int 0), (10, Value.int (((B + sc) - (64 : Int32)) - sc)), (9, Value.int ((B + sc) - (64 : Int32))), (8, Value.int (B + sc)), (7, Value.int 64), (0, Value.ref 128), (1, Value.int (xs 1)), (2, Value.ref 129), (3, Value.int sc), (4, Value.int 0), (5, Value.int 1), (6, Value.int md)]) rfl ?_
    refine i_180_93 (x := (((B + sc) - (64 : Int32)) - sc)) rfl ?_
    refine i_180_95 (fun _ => ?_) (fun h => absurd (show (((B + sc) - (64 : Int32)) - sc).toInt ≤ 0 by omega) (Int.not_le.mpr h))
    refine i_180_151 (x := 128) rfl ?_
    refine i_180_152 (v := Value.ref 135) (xgn (by decide) (xgn (by decide) (xgn (by decide) hm))) rfl ?_
    refine i_180_155 (x := (((B + sc) - (64 : Int32)) - sc)) rfl ?_
    refine i_180_157 (c := K) (show (-(((B + sc) - (64 : Int32)) - sc)) = K from (xge_i (by omega))) ?_
    refine i_180_158 (xgs (xgn (by decide) (xgn (by decide) (((hk 135 (by decide) (by decide)).trans W0_135))))) (Nat.le_of_ble_eq_true rfl) (s_188_0 (xgs (xgn (by decide) (xgn (by decide) (((hk 135 (by decide) (by decide)).trans W0_135))))) (by omega) (show (K / (30 : Int32)) = 2 from c19) (show (K - K / (30 : Int32) * (30 : Int32)) = P from c20) (xgn (by decide) (xgs (xgn (by decide) (((hk 136 (by decide) (by decide)).trans W0_136))))) (xcp_i rfl hg0) (show ((0 : Int32) ||| (xH (xq m) P)) = 0 from (xge_c (n := 0) (by omega) rfl)) (by omega)) ?_
    refine i_180_161 (x := 0) rfl ?_
    refine i_180_163 (fun _ => ?_) (fun h => absurd h (by decide))
    refine i_180_174 (x := 128) rfl ?_
    refine i_180_175 (v := Value.ref 135) (xgn (by decide) (xgn (by decide) (xgn (by decide) (xgn (by decide) (xgn (by decide) hm))))) rfl ?_
    refine i_180_178 (xgs (xgn (by decide) (xgs (xgn (by decide) (xgn (by decide) (((hk 135 (by decide) (by decide)).trans W0_135))))))) (Nat.le_of_ble_eq_true rfl) (mb_run3 (xgs (xgn (by decide) (xgs (xgn (by decide) (xgn (by decide) (((hk 135 (by decide) (by decide)).trans W0_135))))))) (xgn (by decide) (xgs (xgn (by decide) (xgs (xgn (by decide) (((hk 136 (by decide) (by decide)).trans W0_136))))))) (xup_n (by decide) (xup_n (by decide) xup_s)) (by omega) (show ((60 : Int32) + (xbn (xL (xq m) P))) = 64 from (xge_c (n := 64) (by omega) rfl))) ?_
    refine i_180_181 (x := ((B + sc) - (64 : Int32))) rfl ?_
    refine i_180_183 (c := (B + sc)) (show ((64 : Int32) + ((B + sc) - (64 : Int32))) = (B + sc) from (xge_i (by omega))) ?_
    refine i_180_184 (lv2 := [(13, Value.int (B + sc)), (12, Value.int 1), (11, Value.int 0), (10, Value.int (((B + sc) - (64 : Int32)) - sc)), (9, Value.int ((B + sc) - (64 : Int32))), (8, Value.int (B + sc)), (7, Value.int 64), (0, Value.ref 128), (1, Value.int (xs 1)), (2, Value.ref 129), (3, Value.int sc), (4, Value.int 0), (5, Value.int 1), (6, Value.int md)]) rfl ?_
    refine i_180_186 (x := 1) rfl ?_
    refine i_180_188 (fun h => absurd h (by decide)) (fun _ => ?_)
    refine i_180_191 ?_
    refine i_180_192 ?_
    refine i_180_205 (lv2 := [(14, Value.int 0), (13, Value.int (B + sc)), (12, Value.int 1), (11, Value.int 0), (10, Value.int (((B + sc) - (64 : Int32)) - sc)), (9, Value.int ((B + sc) - (64 : Int32))), (8, Value.int (B + sc)), (7, Value.int 64), (0, Value.ref 128), (1, Value.int (xs 1)), (2, Value.ref 129), (3, Value.int sc), (4, Value.int 0), (5, Value.int 1), (6, Value.int md)]) rfl ?_
    exact h1
  · refine xKp.set ?_ (fun h hh => by unfold xPM at hh; omega) (xgn (by decide) (xgs (xgn (by decide) (xgn (by decide) (((hk 135 (by decide) (by decide)).trans W0_135)))))) xcs_o
    refine xKp.set ?_ (fun h hh => by unfold xPM at hh; omega) (xgn (by decide) (xgs (xgn (by decide) (((hk 136 (by decide) (by decide)).trans W0_136))))) xcs_a
    refine xKp.set ?_ (fun h hh => by unfold xPM at hh; omega) (xgn (by decide) (xgn (by decide) (((hk 135 (by decide) (by decide)).trans W0_135)))) xcs_o
    refine xKp.set ?_ (fun h hh => by unfold xPM at hh; omega) (xgn (by decide) (((hk 136 (by decide) (by decide)).trans W0_136))) xcs_a
    refine xKp.set ?_ (fun h hh => by unfold xPM at hh; omega) (((hk 156 (by decide) (by decide)).trans W0_156)) xcs_a
    exact xKp.refl
theorem rd2_1 {d : Nat} {xs : Nat → Int32} {m : Int64} {sc md : Int32} {w : xW} {g : Nat → Value} {B K P G : Int32} (hk : ∀ h, 131 ≤ h → h < 194 → w[h]? = (W0 6 xs)[h]?) (hm : w[128]? = some (Sum.inr (12, [Value.ref 129, Value.ref 131, Value.ref 133, Value.ref 135, Value.ref 137, Value.ref 139, Value.ref 141, Value.ref 143, Value.ref 145, Value.ref 147, Value.ref 149, Value.ref 151, Value.ref 153, Value.ref 154, Value.ref 155, Value.ref 156, Value.ref 157, Value.int (-16384), Value.int 16384, Value.int 0, Value.int 0, Value.int 0, Value.ref 158, Value.ref 159, Value.int 0, Value.int 0, Value.int 0, Value.int 0, Value.int 0, Value.int 0, Value.int 0, Value.int 0]))) (hv : w[129]? = some (Sum.inr (13, [Value.ref 130, Value.int 1]))) (hvw : w[130]? = some (Sum.inl (0, 4700, g))) (hg0 : g (0 : Int32).toInt.toNat = Value.int (xq m)) (hB : B.toInt = (xbl (xul m) : Int)) (c0 : 0 ≤ (xs 1).toInt) (c1 : (xs 1).toInt < 16) (c2 : (-40000) ≤ sc.toInt) (c3 : sc.toInt ≤ 40000) (c4 : 0 ≤ md.toInt) (c5 : md.toInt ≤ 4) (c6 : K.toInt = 64 - B.toInt) (c7 : 5 ≤ B.toInt) (c8 : B.toInt ≤ 30) (c9 : (xhi m).toInt = 0) (c10 : (xlo m).toInt ≠ 0) (c11 : (xnlz (xlo m)).toInt = 32 - B.toInt) (c12 : (xbf 1 (xlo m) (0 : Int32) ((32 : Int32) - K)).toInt ≠ 0) (c13 : (lg_cmp m (0 : Int64)).toInt ≠ 0) (c14 : (lg_cmp (xqs m) (0 : Int64)).toInt = 0) (c15 : (xbn (xq m)).toInt = B.toInt) (c16 : (xq m).toInt ≠ 0) (c17 : 0 ≤ (xq m).toInt) (c18 : K.toInt ≠ 0) (c19 : K / (30 : Int32) = 1) (c20 : K - K / (30 : Int32) * (30 : Int32) = P) (c21 : ((0 : Int32) ||| (xH (xq m) P)).toInt ≠ 0) (c22 : 0 ≤ ((0 : Int32) ||| (xH (xq m) P)).toInt) (c23 : (xbn ((0 : Int32) ||| (xH (xq m) P))).toInt = 4) (c24 : G.toInt = B.toInt - 1) : ∃ w2, xRun (d + 6) 180 [Value.ref 128, Value.int (xs 1), Value.ref 129, Value.int sc, Value.int 0, Value.int 1, Value.int md] w (.inl (some (Value.int (xres 1 m sc md)))) w2 ∧ xKp w w2 xPM ∧ ∃ f, w2[128]? = some (xmo f) := by
  have f0 : ((0 : Int32) + (xbn (xq m))).toInt = 0 + (xbn (xq m)).toInt := xadd_g rfl rfl (by omega) (by omega)
  have f1 : (B + sc).toInt = B.toInt + sc.toInt := xadd_i (by omega) (by omega)
  have f2 : ((B + sc) - (64 : Int32)).toInt = (B + sc).toInt - 64 := xsub_g rfl rfl (by omega) (by omega)
  have f3 : (((B + sc) - (64 : Int32)) - sc).toInt = ((B + sc) - (64 : Int32)).toInt - sc.toInt := xsub_i (by omega) (by omega)
  have f4 : (-(((B + sc) - (64 : Int32)) - sc)).toInt = -(((B + sc) - (64 : Int32)) - sc).toInt := xneg_i (by omega)
  have f5 : ((60 : Int32) + (xbn ((0 : Int32) ||| (xH (xq m) P)))).toInt = 60 + (xbn ((0 : Int32) ||| (xH (xq m) P))).toInt := xadd_g rfl rfl (by omega) (by omega)
  have f6 : ((64 : Int32) + ((B + sc) - (64 : Int32))).toInt = 64 + ((B + sc) - (64 : Int32)).toInt := xadd_g rfl rfl (by omega) (by omega)
  have fb : ((0 : Int32) + xbn (xq m)).toInt = B.toInt := by rw [xadd_i (by show _ ≤ (0 : Int) + _; omega) (by show (0 : Int) + _ < _; omega)]; show (0 : Int) + _ = _; omega
  obtain ⟨w2, h1, h2, h3⟩ := suf_1 (d := d) (xs := xs) (m := m) (sc := sc) (md := md) (w := (((((w.set 156 (Sum.inl (2, 17, xup (fun _ => Value.int 0) (xs 1).toInt.toNat (Value.int 1)))).set 136 (Sum.inl (0, 4700, xcp g (fun _ => Value.int 0) (0 : Int32).toInt.toNat (0 : Int32).toInt.toNat (1 : Int32).toInt.toNat))).set 135 (Sum.inr (13, [Value.ref 136, Value.int 1]))).set 136 (Sum.inl (0, 4700, xup (xup (xup (xup (xcp g (fun _ => Value.int 0) (0 : Int32).toInt.toNat (0 : Int32).toInt.toNat (1 : Int32).toInt.toNat) (2 : Int32).toInt.toNat (Value.int 0)) (2 : Int32).toInt.toNat (Value.int ((0 : Int32) ||| (xH (xq m) P)))) (1 : Int32).toInt.toNat (Value.int (xL (xq m) P))) (0 : Int32).toInt.toNat (Value.int 0)))).set 135 (Sum.inr (13, [Value.ref 136, Value.int 3])))) (B := B) (E := (B + sc)) (U := ((B + sc) - (64 : Int32))) (C := (((B + sc) - (64 : Int32)) - sc)) hB (fun h h1 h2 h3 h4 h5 => (xgn (by omega) (xgn (by omega) (xgn (by omega) (xgn (by omega) (xgn (by omega) (rfl)))))).trans (hk h h1 h2)) (xgn (by decide) (xgn (by decide) (xgn (by decide) (xgn (by decide) (xgn (by decide) hm))))) (xgn (by decide) (xgn (by decide) (xgn (by decide) (xgn (by decide) (xgn (by decide) hv))))) (xgs (xgn (by decide) (xgs (xgn (by decide) (xgn (by decide) (((hk 135 (by decide) (by decide)).trans W0_135))))))) (xgn (by decide) (xgs (xgn (by decide) (xgs (xgn (by decide) (((hk 136 (by decide) (by decide)).trans W0_136))))))) (xup_s) (xup_n (by decide) xup_s) (xup_n (by decide) (xup_n (by decide) xup_s)) (xgn (by decide) (xgn (by decide) (xgn (by decide) (xgn (by decide) (xgs ((hk 156 (by decide) (by decide)).trans W0_156)))))) (fun d' w' e1 e2 => mb_run1 (e1.trans (xgn (by decide) (xgn (by decide) (xgn (by decide) (xgn (by decide) (xgn (by decide) hv)))))) (e2.trans (xgn (by decide) (xgn (by decide) (xgn (by decide) (xgn (by decide) (xgn (by decide) hvw)))))) hg0 (by omega) (xge_i (by omega))) (fun hp d' w' e1 e2 => any0_2 (xs := xs) (sc := sc) (md := md) (P := P) hB (e1.trans (xgn (by decide) (xgn (by decide) (xgn (by decide) (xgn (by decide) (xgn (by decide) hv)))))) (e2.trans (xgn (by decide) (xgn (by decide) (xgn (by decide) (xgn (by decide) (xgn (by decide) hvw)))))) hg0 c0 c1 c2 c3 c4 c5 c6 c7 c8 c9 c10 c11 c12 c13 c14 c15 c16 c17 c18 c19 c20 c21 c22 c23 c24 hp) (fun hp d' w' e1 e2 => any1_2 (xs := xs) (sc := sc) (md := md) (P := P) hB (e1.trans (xgn (by decide) (xgn (by decide) (xgn (by decide) (xgn (by decide) (xgn (by decide) hv)))))) (e2.trans (xgn (by decide) (xgn (by decide) (xgn (by decide) (xgn (by decide) (xgn (by decide) hvw)))))) hg0 c0 c1 c2 c3 c4 c5 c6 c7 c8 c9 c10 c11 c12 c13 c14 c15 c16 c17 c18 c19 c20 c21 c22 c23 c24 hp) c0 c1 c2 c3 c4 c5 (by omega) (by omega) (by omega) (by omega) (by omega) (by omega)
  refine ⟨w2, xRun.of ?_, xKp.trans ?_ h2, h3⟩
  · refine i_180_0 (x := 128) rfl ?_
    refine i_180_1 (v := Value.ref 153) hm rfl ?_
    refine i_180_4 (x := (xs 1)) rfl ?_
    refine i_180_5 (v := Value.int 64) ((hk 153 (by decide) (by decide)).trans W0_153) (by omega) (by omega) (gprec_at (by omega)) ?_
    refine i_180_6 (lv2 := [(7, Value.int 64), (0, Value.ref 128), (1, Value.int (xs 1)), (2, Value.ref 129), (3, Value.int sc), (4, Value.int 0), (5, Value.int 1), (6, Value.int md)]) rfl ?_
    refine i_180_8 (x := 129) rfl ?_
    refine i_180_9 hv (Nat.le_of_ble_eq_true rfl) (mb_run1 hv hvw hg0 (by omega) (show ((0 : Int32) + (xbn (xq m))) = B from (xge_i (by omega)))) ?_
    refine i_180_12 (x := sc) rfl ?_
    refine i_180_13 (c := (B + sc)) (show (B + sc) = (B + sc) from (xge_i (by omega))) ?_
    refine i_180_14 (lv2 := [(8, Value.int (B + sc)), (7, Value.int 64), (0, Value.ref 128), (1, Value.int (xs 1)), (2, Value.ref 129), (3, Value.int sc), (4, Value.int 0), (5, Value.int 1), (6, Value.int md)]) rfl ?_
    refine i_180_16 (x := 128) rfl ?_
    refine i_180_17 (v := Value.int 0) hm rfl ?_
    refine i_180_20 (fun h => absurd h (by decide)) (fun _ => ?_)
    refine i_180_23 (x := 128) rfl ?_
    refine i_180_24 (v := Value.int 0) hm rfl ?_
    refine i_180_27 (fun _ => ?_) (fun h => absurd h (by decide))
    refine i_180_49 (x := (B + sc)) rfl ?_
    refine i_180_51 (x := 64) rfl ?_
    refine i_180_53 (c := ((B + sc) - (64 : Int32))) rfl ?_
    refine i_180_54 (lv2 := [(9, Value.int ((B + sc) - (64 : Int32))), (8, Value.int (B + sc)), (7, Value.int 64), (0, Value.ref 128), (1, Value.int (xs 1)), (2, Value.ref 129), (3, Value.int sc), (4, Value.int 0), (5, Value.int 1), (6, Value.int md)]) rfl ?_
    refine i_180_56 (x := ((B + sc) - (64 : Int32))) rfl ?_
    refine i_180_58 (x := sc) rfl ?_
    refine i_180_59 (c := (((B + sc) - (64 : Int32)) - sc)) rfl ?_
    refine i_180_60 (lv2 := [(10, Value.int (((B + sc) - (64 : Int32)) - sc)), (9, Value.int ((B + sc) - (64 : Int32))), (8, Value.int (B + sc)), (7, Value.int 64), (0, Value.ref 128), (1, Value.int (xs 1)), (2, Value.ref 129), (3, Value.int sc), (4, Value.int 0), (5, Value.int 1), (6, Value.int md)]) rfl ?_
    refine i_180_62 (x := 128) rfl ?_
    refine i_180_63 (v := Value.ref 156) hm rfl ?_
    refine i_180_66 (x := (xs 1)) rfl ?_
    refine i_180_67 (x := 1) rfl ?_
    refine i_180_69z (v := Value.int 1) ((hk 156 (by decide) (by decide)).trans W0_156) (by omega) (by omega) (by omega) rfl ?_
    refine i_180_70 (x := 128) rfl ?_
    refine i_180_71 (v := Value.ref 135) (xgn (by decide) hm) rfl ?_
    refine i_180_74 (x := 129) rfl ?_
    refine i_180_75 (xgn (by decide) (((hk 135 (by decide) (by decide)).trans W0_135))) (Nat.le_of_ble_eq_true rfl) (s_182_0 (xgn (by decide) hv) (xgn (by decide) (((hk 135 (by decide) (by decide)).trans W0_135))) (xgn (by decide) hvw) (xgn (by decide) (((hk 136 (by decide) (by decide)).trans W0_136))) hg0) ?_
    refine i_180_78 ?_
    refine i_180_79 (lv2 := [(11, Value.int 0), (10, Value.int (((B + sc) - (64 : Int32)) - sc)), (9, Value.int ((B + sc) - (64 : Int32))), (8, Value.int (B + sc)), (7, Value.int 64), (0, Value.ref 128), (1, Value.int (xs 1)), (2, Value.ref 129), (3, Value.int sc), (4, Value.int 0), (5, Value.int 1), (6, Value.int md)]) rfl ?_
    refine i_180_81 (x := 0) rfl ?_
    refine i_180_83 (fun h => absurd h (by decide)) (fun _ => ?_)
    refine i_180_86 ?_
    refine i_180_87 ?_
    refine i_180_91 (lv2 := [(12, Value.int 1), (11, Value.int 0), (10, Value.int (((B + sc) - (64 : Int32)) - sc)), (9, Value.int ((B + sc) - (64 : Int32))), (8, Value.int (B + sc)), (7, Value.int 64), (0, Value.ref 128), (1, Value.int (xs 1)), (2, Value.ref 129), (3, Value.int sc), (4, Value.int 0), (5, Value.int 1), (6, Value.int md)]) rfl ?_
    refine i_180_93 (x := (((B + sc) - (64 : Int32)) - sc)) rfl ?_
    refine i_180_95 (fun _ => ?_) (fun h => absurd (show (((B + sc) - (64 : Int32)) - sc).toInt ≤ 0 by omega) (Int.not_le.mpr h))
    refine i_180_151 (x := 128) rfl ?_
    refine i_180_152 (v := Value.ref 135) (xgn (by decide) (xgn (by decide) (xgn (by decide) hm))) rfl ?_
    refine i_180_155 (x := (((B + sc) - (64 : Int32)) - sc)) rfl ?_
    refine i_180_157 (c := K) (show (-(((B + sc) - (64 : Int32)) - sc)) = K from (xge_i (by omega))) ?_
    refine i_180_158 (xgs (xgn (by decide) (xgn (by decide) (((hk 135 (by decide) (by decide)).trans W0_135))))) (Nat.le_of_ble_eq_true rfl) (s_188_1 (xgs (xgn (by decide) (xgn (by decide) (((hk 135 (by decide) (by decide)).trans W0_135))))) (by omega) (show (K / (30 : Int32)) = 1 from c19) (show (K - K / (30 : Int32) * (30 : Int32)) = P from c20) (xgn (by decide) (xgs (xgn (by decide) (((hk 136 (by decide) (by decide)).trans W0_136))))) (xcp_i rfl hg0) (by omega)) ?_
    refine i_180_161 (x := 0) rfl ?_
    refine i_180_163 (fun _ => ?_) (fun h => absurd h (by decide))
    refine i_180_174 (x := 128) rfl ?_
    refine i_180_175 (v := Value.ref 135) (xgn (by decide) (xgn (by decide) (xgn (by decide) (xgn (by decide) (xgn (by decide) hm))))) rfl ?_
    refine i_180_178 (xgs (xgn (by decide) (xgs (xgn (by decide) (xgn (by decide) (((hk 135 (by decide) (by decide)).trans W0_135))))))) (Nat.le_of_ble_eq_true rfl) (mb_run3 (xgs (xgn (by decide) (xgs (xgn (by decide) (xgn (by decide) (((hk 135 (by decide) (by decide)).trans W0_135))))))) (xgn (by decide) (xgs (xgn (by decide) (xgs (xgn (by decide) (((hk 136 (by decide) (by decide)).trans W0_136))))))) (xup_n (by decide) (xup_n (by decide) xup_s)) (by omega) (show ((60 : Int32) + (xbn ((0 : Int32) ||| (xH (xq m) P)))) = 64 from (xge_c (n := 64) (by omega) rfl))) ?_
    refine i_180_181 (x := ((B + sc) - (64 : Int32))) rfl ?_
    refine i_180_183 (c := (B + sc)) (show ((64 : Int32) + ((B + sc) - (64 : Int32))) = (B + sc) from (xge_i (by omega))) ?_
    refine i_180_184 (lv2 := [(13, Value.int (B + sc)), (12, Value.int 1), (11, Value.int 0), (10, Value.int (((B + sc) - (64 : Int32)) - sc)), (9, Value.int ((B + sc) - (64 : Int32))), (8, Value.int (B + sc)), (7, Value.int 64), (0, Value.ref 128), (1, Value.int (xs 1)), (2, Value.ref 129), (3, Value.int sc), (4, Value.int 0), (5, Value.int 1), (6, Value.int md)]) rfl ?_
    refine i_180_186 (x := 1) rfl ?_
    refine i_180_188 (fun h => absurd h (by decide)) (fun _ => ?_)
    refine i_180_191 ?_
    refine i_180_192 ?_
    refine i_180_205 (lv2 := [(14, Value.int 0), (13, Value.int (B + sc)), (12, Value.int 1), (11, Value.int 0), (10, Value.int (((B + sc) - (64 : Int32)) - sc)), (9, Value.int ((B + sc) - (64 : Int32))), (8, Value.int (B + sc)), (7, Value.int 64), (0, Value.ref 128), (1, Value.int (xs 1)), (2, Value.ref 129), (3, Value.int sc), (4, Value.int 0), (5, Value.int 1), (6, Value.int md)]) rfl ?_
    exact h1
  · refine xKp.set ?_ (fun h hh => by unfold xPM at hh; omega) (xgn (by decide) (xgs (xgn (by decide) (xgn (by decide) (((hk 135 (by decide) (by decide)).trans W0_135)))))) xcs_o
    refine xKp.set ?_ (fun h hh => by unfold xPM at hh; omega) (xgn (by decide) (xgs (xgn (by decide) (((hk 136 (by decide) (by decide)).trans W0_136))))) xcs_a
    refine xKp.set ?_ (fun h hh => by unfold xPM at hh; omega) (xgn (by decide) (xgn (by decide) (((hk 135 (by decide) (by decide)).trans W0_135)))) xcs_o
    refine xKp.set ?_ (fun h hh => by unfold xPM at hh; omega) (xgn (by decide) (((hk 136 (by decide) (by decide)).trans W0_136))) xcs_a
    refine xKp.set ?_ (fun h hh => by unfold xPM at hh; omega) (((hk 156 (by decide) (by decide)).trans W0_156)) xcs_a
    exact xKp.refl
theorem rd3_1 {d : Nat} {xs : Nat → Int32} {m : Int64} {sc md : Int32} {w : xW} {g : Nat → Value} {B K P G : Int32} (hk : ∀ h, 131 ≤ h → h < 194 → w[h]? = (W0 6 xs)[h]?) (hm : w[128]? = some (Sum.inr (12, [Value.ref 129, Value.ref 131, Value.ref 133, Value.ref 135, Value.ref 137, Value.ref 139, Value.ref 141, Value.ref 143, Value.ref 145, Value.ref 147, Value.ref 149, Value.ref 151, Value.ref 153, Value.ref 154, Value.ref 155, Value.ref 156, Value.ref 157, Value.int (-16384), Value.int 16384, Value.int 0, Value.int 0, Value.int 0, Value.ref 158, Value.ref 159, Value.int 0, Value.int 0, Value.int 0, Value.int 0, Value.int 0, Value.int 0, Value.int 0, Value.int 0]))) (hv : w[129]? = some (Sum.inr (13, [Value.ref 130, Value.int 2]))) (hvw : w[130]? = some (Sum.inl (0, 4700, g))) (hg0 : g (0 : Int32).toInt.toNat = Value.int (xq m)) (hg1 : g (1 : Int32).toInt.toNat = Value.int (xq (xqs m))) (hB : B.toInt = (xbl (xul m) : Int)) (c0 : 0 ≤ (xs 1).toInt) (c1 : (xs 1).toInt < 16) (c2 : (-40000) ≤ sc.toInt) (c3 : sc.toInt ≤ 40000) (c4 : 0 ≤ md.toInt) (c5 : md.toInt ≤ 4) (c6 : K.toInt = 64 - B.toInt) (c7 : 31 ≤ B.toInt) (c8 : B.toInt ≤ 32) (c9 : (xhi m).toInt = 0) (c10 : (xlo m).toInt ≠ 0) (c11 : (xnlz (xlo m)).toInt = 32 - B.toInt) (c12 : (xbf 1 (xlo m) (0 : Int32) ((32 : Int32) - K)).toInt ≠ 0) (c13 : (lg_cmp m (0 : Int64)).toInt ≠ 0) (c14 : (lg_cmp (xqs m) (0 : Int64)).toInt ≠ 0) (c15 : (lg_cmp (xqs (xqs m)) (0 : Int64)).toInt = 0) (c16 : (xbn (xq (xqs m))).toInt = B.toInt - 30) (c17 : (xq (xqs m)).toInt ≠ 0) (c18 : 0 ≤ (xq (xqs m)).toInt) (c19 : K.toInt ≠ 0) (c20 : K / (30 : Int32) = 1) (c21 : K - K / (30 : Int32) * (30 : Int32) = P) (c22 : ((0 : Int32) ||| (xH (xq (xqs m)) P)).toInt = 0) (c23 : ((xL (xq (xqs m)) P) ||| (xH (xq m) P)).toInt ≠ 0) (c24 : 0 ≤ ((xL (xq (xqs m)) P) ||| (xH (xq m) P)).toInt) (c25 : (xbn ((xL (xq (xqs m)) P) ||| (xH (xq m) P))).toInt = 4) (c26 : G.toInt = B.toInt - 31) : ∃ w2, xRun (d + 6) 180 [Value.ref 128, Value.int (xs 1), Value.ref 129, Value.int sc, Value.int 0, Value.int 1, Value.int md] w (.inl (some (Value.int (xres 1 m sc md)))) w2 ∧ xKp w w2 xPM ∧ ∃ f, w2[128]? = some (xmo f) := by
  have f0 : ((30 : Int32) + (xbn (xq (xqs m)))).toInt = 30 + (xbn (xq (xqs m))).toInt := xadd_g rfl rfl (by omega) (by omega)
  have f1 : (B + sc).toInt = B.toInt + sc.toInt := xadd_i (by omega) (by omega)
  have f2 : ((B + sc) - (64 : Int32)).toInt = (B + sc).toInt - 64 := xsub_g rfl rfl (by omega) (by omega)
  have f3 : (((B + sc) - (64 : Int32)) - sc).toInt = ((B + sc) - (64 : Int32)).toInt - sc.toInt := xsub_i (by omega) (by omega)
  have f4 : (-(((B + sc) - (64 : Int32)) - sc)).toInt = -(((B + sc) - (64 : Int32)) - sc).toInt := xneg_i (by omega)
  have f5 : ((60 : Int32) + (xbn ((xL (xq (xqs m)) P) ||| (xH (xq m) P)))).toInt = 60 + (xbn ((xL (xq (xqs m)) P) ||| (xH (xq m) P))).toInt := xadd_g rfl rfl (by omega) (by omega)
  have f6 : ((64 : Int32) + ((B + sc) - (64 : Int32))).toInt = 64 + ((B + sc) - (64 : Int32)).toInt := xadd_g rfl rfl (by omega) (by omega)
  have fb : ((30 : Int32) + xbn (xq (xqs m))).toInt = B.toInt := by rw [xadd_i (by show _ ≤ (30 : Int) + _; omega) (by show (30 : Int) + _ < _; omega)]; show (30 : Int) + _ = _; omega
  obtain ⟨w2, h1, h2, h3⟩ := suf_1 (d := d) (xs := xs) (m := m) (sc := sc) (md := md) (w := (((((w.set 156 (Sum.inl (2, 17, xup (fun _ => Value.int 0) (xs 1).toInt.toNat (Value.int 1)))).set 136 (Sum.inl (0, 4700, xcp g (fun _ => Value.int 0) (0 : Int32).toInt.toNat (0 : Int32).toInt.toNat (2 : Int32).toInt.toNat))).set 135 (Sum.inr (13, [Value.ref 136, Value.int 2]))).set 136 (Sum.inl (0, 4700, xup (xup (xup (xup (xup (xup (xcp g (fun _ => Value.int 0) (0 : Int32).toInt.toNat (0 : Int32).toInt.toNat (2 : Int32).toInt.toNat) (3 : Int32).toInt.toNat (Value.int 0)) (3 : Int32).toInt.toNat (Value.int 0)) (2 : Int32).toInt.toNat (Value.int (xL (xq (xqs m)) P))) (2 : Int32).toInt.toNat (Value.int ((xL (xq (xqs m)) P) ||| (xH (xq m) P)))) (1 : Int32).toInt.toNat (Value.int (xL (xq m) P))) (0 : Int32).toInt.toNat (Value.int 0)))).set 135 (Sum.inr (13, [Value.ref 136, Value.int 3])))) (B := B) (E := (B + sc)) (U := ((B + sc) - (64 : Int32))) (C := (((B + sc) - (64 : Int32)) - sc)) hB (fun h h1 h2 h3 h4 h5 => (xgn (by omega) (xgn (by omega) (xgn (by omega) (xgn (by omega) (xgn (by omega) (rfl)))))).trans (hk h h1 h2)) (xgn (by decide) (xgn (by decide) (xgn (by decide) (xgn (by decide) (xgn (by decide) hm))))) (xgn (by decide) (xgn (by decide) (xgn (by decide) (xgn (by decide) (xgn (by decide) hv))))) (xgs (xgn (by decide) (xgs (xgn (by decide) (xgn (by decide) (((hk 135 (by decide) (by decide)).trans W0_135))))))) (xgn (by decide) (xgs (xgn (by decide) (xgs (xgn (by decide) (((hk 136 (by decide) (by decide)).trans W0_136))))))) (xup_s) (xup_n (by decide) xup_s) (xup_n (by decide) (xup_n (by decide) xup_s)) (xgn (by decide) (xgn (by decide) (xgn (by decide) (xgn (by decide) (xgs ((hk 156 (by decide) (by decide)).trans W0_156)))))) (fun d' w' e1 e2 => mb_run2 (e1.trans (xgn (by decide) (xgn (by decide) (xgn (by decide) (xgn (by decide) (xgn (by decide) hv)))))) (e2.trans (xgn (by decide) (xgn (by decide) (xgn (by decide) (xgn (by decide) (xgn (by decide) hvw)))))) hg1 (by omega) (xge_i (by omega))) (fun hp d' w' e1 e2 => any0_3 (xs := xs) (sc := sc) (md := md) (P := P) hB (e1.trans (xgn (by decide) (xgn (by decide) (xgn (by decide) (xgn (by decide) (xgn (by decide) hv)))))) (e2.trans (xgn (by decide) (xgn (by decide) (xgn (by decide) (xgn (by decide) (xgn (by decide) hvw)))))) hg0 hg1 c0 c1 c2 c3 c4 c5 c6 c7 c8 c9 c10 c11 c12 c13 c14 c15 c16 c17 c18 c19 c20 c21 c22 c23 c24 c25 c26 hp) (fun hp d' w' e1 e2 => any1_3 (xs := xs) (sc := sc) (md := md) (P := P) hB (e1.trans (xgn (by decide) (xgn (by decide) (xgn (by decide) (xgn (by decide) (xgn (by decide) hv)))))) (e2.trans (xgn (by decide) (xgn (by decide) (xgn (by decide) (xgn (by decide) (xgn (by decide) hvw)))))) hg0 hg1 c0 c1 c2 c3 c4 c5 c6 c7 c8 c9 c10 c11 c12 c13 c14 c15 c16 c17 c18 c19 c20 c21 c22 c23 c24 c25 c26 hp) c0 c1 c2 c3 c4 c5 (by omega) (by omega) (by omega) (by omega) (by omega) (by omega)
  refine ⟨w2, xRun.of ?_, xKp.trans ?_ h2, h3⟩
  · refine i_180_0 (x := 128) rfl ?_
    refine i_180_1 (v := Value.ref 153) hm rfl ?_
    refine i_180_4 (x := (xs 1)) rfl ?_
    refine i_180_5 (v := Value.int 64) ((hk 153 (by decide) (by decide)).trans W0_153) (by omega) (by omega) (gprec_at (by omega)) ?_
    refine i_180_6 (lv2 := [(7, Value.int 64), (0, Value.ref 128), (1, Value.int (xs 1)), (2, Value.ref 129), (3, Value.int sc), (4, Value.int 0), (5, Value.int 1), (6, Value.int md)]) rfl ?_
    refine i_180_8 (x := 129) rfl ?_
    refine i_180_9 hv (Nat.le_of_ble_eq_true rfl) (mb_run2 hv hvw hg1 (by omega) (show ((30 : Int32) + (xbn (xq (xqs m)))) = B from (xge_i (by omega)))) ?_
    refine i_180_12 (x := sc) rfl ?_
    refine i_180_13 (c := (B + sc)) (show (B + sc) = (B + sc) from (xge_i (by omega))) ?_
    refine i_180_14 (lv2 := [(8, Value.int (B + sc)), (7, Value.int 64), (0, Value.ref 128), (1, Value.int (xs 1)), (2, Value.ref 129), (3, Value.int sc), (4, Value.int 0), (5, Value.int 1), (6, Value.int md)]) rfl ?_
    refine i_180_16 (x := 128) rfl ?_
    refine i_180_17 (v := Value.int 0) hm rfl ?_
    refine i_180_20 (fun h => absurd h (by decide)) (fun _ => ?_)
    refine i_180_23 (x := 128) rfl ?_
    refine i_180_24 (v := Value.int 0) hm rfl ?_
    refine i_180_27 (fun _ => ?_) (fun h => absurd h (by decide))
    refine i_180_49 (x := (B + sc)) rfl ?_
    refine i_180_51 (x := 64) rfl ?_
    refine i_180_53 (c := ((B + sc) - (64 : Int32))) rfl ?_
    refine i_180_54 (lv2 := [(9, Value.int ((B + sc) - (64 : Int32))), (8, Value.int (B + sc)), (7, Value.int 64), (0, Value.ref 128), (1, Value.int (xs 1)), (2, Value.ref 129), (3, Value.int sc), (4, Value.int 0), (5, Value.int 1), (6, Value.int md)]) rfl ?_
    refine i_180_56 (x := ((B + sc) - (64 : Int32))) rfl ?_
    refine i_180_58 (x := sc) rfl ?_
    refine i_180_59 (c := (((B + sc) - (64 : Int32)) - sc)) rfl ?_
    refine i_180_60 (lv2 := [(10, Value.int (((B + sc) - (64 : Int32)) - sc)), (9, Value.int ((B + sc) - (64 : Int32))), (8, Value.int (B + sc)), (7, Value.int 64), (0, Value.ref 128), (1, Value.int (xs 1)), (2, Value.ref 129), (3, Value.int sc), (4, Value.int 0), (5, Value.int 1), (6, Value.int md)]) rfl ?_
    refine i_180_62 (x := 128) rfl ?_
    refine i_180_63 (v := Value.ref 156) hm rfl ?_
    refine i_180_66 (x := (xs 1)) rfl ?_
    refine i_180_67 (x := 1) rfl ?_
    refine i_180_69z (v := Value.int 1) ((hk 156 (by decide) (by decide)).trans W0_156) (by omega) (by omega) (by omega) rfl ?_
    refine i_180_70 (x := 128) rfl ?_
    refine i_180_71 (v := Value.ref 135) (xgn (by decide) hm) rfl ?_
    refine i_180_74 (x := 129) rfl ?_
    refine i_180_75 (xgn (by decide) (((hk 135 (by decide) (by decide)).trans W0_135))) (Nat.le_of_ble_eq_true rfl) (s_182_1 (xgn (by decide) hv) (xgn (by decide) (((hk 135 (by decide) (by decide)).trans W0_135))) (xgn (by decide) hvw) (xgn (by decide) (((hk 136 (by decide) (by decide)).trans W0_136))) hg0 hg1) ?_
    refine i_180_78 ?_
    refine i_180_79 (lv2 := [(11, Value.int 0), (10, Value.int (((B + sc) - (64 : Int32)) - sc)), (9, Value.int ((B + sc) - (64 : Int32))), (8, Value.int (B + sc)), (7, Value.int 64), (0, Value.ref 128), (1, Value.int (xs 1)), (2, Value.ref 129), (3, Value.int sc), (4, Value.int 0), (5, Value.int 1), (6, Value.int md)]) rfl ?_
    refine i_180_81 (x := 0) rfl ?_
    refine i_180_83 (fun h => absurd h (by decide)) (fun _ => ?_)
    refine i_180_86 ?_
    refine i_180_87 ?_
    refine i_180_91 (lv2 := [(12, Value.int 1), (11, Value.int 0), (10, Value.int (((B + sc) - (64 : Int32)) - sc)), (9, Value.int ((B + sc) - (64 : Int32))), (8, Value.int (B + sc)), (7, Value.int 64), (0, Value.ref 128), (1, Value.int (xs 1)), (2, Value.ref 129), (3, Value.int sc), (4, Value.int 0), (5, Value.int 1), (6, Value.int md)]) rfl ?_
    refine i_180_93 (x := (((B + sc) - (64 : Int32)) - sc)) rfl ?_
    refine i_180_95 (fun _ => ?_) (fun h => absurd (show (((B + sc) - (64 : Int32)) - sc).toInt ≤ 0 by omega) (Int.not_le.mpr h))
    refine i_180_151 (x := 128) rfl ?_
    refine i_180_152 (v := Value.ref 135) (xgn (by decide) (xgn (by decide) (xgn (by decide) hm))) rfl ?_
    refine i_180_155 (x := (((B + sc) - (64 : Int32)) - sc)) rfl ?_
    refine i_180_157 (c := K) (show (-(((B + sc) - (64 : Int32)) - sc)) = K from (xge_i (by omega))) ?_
    refine i_180_158 (xgs (xgn (by decide) (xgn (by decide) (((hk 135 (by decide) (by decide)).trans W0_135))))) (Nat.le_of_ble_eq_true rfl) (s_188_2 (xgs (xgn (by decide) (xgn (by decide) (((hk 135 (by decide) (by decide)).trans W0_135))))) (by omega) (show (K / (30 : Int32)) = 1 from c20) (show (K - K / (30 : Int32) * (30 : Int32)) = P from c21) (xgn (by decide) (xgs (xgn (by decide) (((hk 136 (by decide) (by decide)).trans W0_136))))) (xcp_i rfl hg1) (show ((0 : Int32) ||| (xH (xq (xqs m)) P)) = 0 from (xge_c (n := 0) (by omega) rfl)) (xcp_i rfl hg0) (by omega)) ?_
    refine i_180_161 (x := 0) rfl ?_
    refine i_180_163 (fun _ => ?_) (fun h => absurd h (by decide))
    refine i_180_174 (x := 128) rfl ?_
    refine i_180_175 (v := Value.ref 135) (xgn (by decide) (xgn (by decide) (xgn (by decide) (xgn (by decide) (xgn (by decide) hm))))) rfl ?_
    refine i_180_178 (xgs (xgn (by decide) (xgs (xgn (by decide) (xgn (by decide) (((hk 135 (by decide) (by decide)).trans W0_135))))))) (Nat.le_of_ble_eq_true rfl) (mb_run3 (xgs (xgn (by decide) (xgs (xgn (by decide) (xgn (by decide) (((hk 135 (by decide) (by decide)).trans W0_135))))))) (xgn (by decide) (xgs (xgn (by decide) (xgs (xgn (by decide) (((hk 136 (by decide) (by decide)).trans W0_136))))))) (xup_n (by decide) (xup_n (by decide) xup_s)) (by omega) (show ((60 : Int32) + (xbn ((xL (xq (xqs m)) P) ||| (xH (xq m) P)))) = 64 from (xge_c (n := 64) (by omega) rfl))) ?_
    refine i_180_181 (x := ((B + sc) - (64 : Int32))) rfl ?_
    refine i_180_183 (c := (B + sc)) (show ((64 : Int32) + ((B + sc) - (64 : Int32))) = (B + sc) from (xge_i (by omega))) ?_
    refine i_180_184 (lv2 := [(13, Value.int (B + sc)), (12, Value.int 1), (11, Value.int 0), (10, Value.int (((B + sc) - (64 : Int32)) - sc)), (9, Value.int ((B + sc) - (64 : Int32))), (8, Value.int (B + sc)), (7, Value.int 64), (0, Value.ref 128), (1, Value.int (xs 1)), (2, Value.ref 129), (3, Value.int sc), (4, Value.int 0), (5, Value.int 1), (6, Value.int md)]) rfl ?_
    refine i_180_186 (x := 1) rfl ?_
    refine i_180_188 (fun h => absurd h (by decide)) (fun _ => ?_)
    refine i_180_191 ?_
    refine i_180_192 ?_
    refine i_180_205 (lv2 := [(14, Value.int 0), (13, Value.int (B + sc)), (12, Value.int 1), (11, Value.int 0), (10, Value.int (((B + sc) - (64 : Int32)) - sc)), (9, Value.int ((B + sc) - (64 : Int32))), (8, Value.int (B + sc)), (7, Value.int 64), (0, Value.ref 128), (1, Value.int (xs 1)), (2, Value.ref 129), (3, Value.int sc), (4, Value.int 0), (5, Value.int 1), (6, Value.int md)]) rfl ?_
    exact h1
  · refine xKp.set ?_ (fun h hh => by unfold xPM at hh; omega) (xgn (by decide) (xgs (xgn (by decide) (xgn (by decide) (((hk 135 (by decide) (by decide)).trans W0_135)))))) xcs_o
    refine xKp.set ?_ (fun h hh => by unfold xPM at hh; omega) (xgn (by decide) (xgs (xgn (by decide) (((hk 136 (by decide) (by decide)).trans W0_136))))) xcs_a
    refine xKp.set ?_ (fun h hh => by unfold xPM at hh; omega) (xgn (by decide) (xgn (by decide) (((hk 135 (by decide) (by decide)).trans W0_135)))) xcs_o
    refine xKp.set ?_ (fun h hh => by unfold xPM at hh; omega) (xgn (by decide) (((hk 136 (by decide) (by decide)).trans W0_136))) xcs_a
    refine xKp.set ?_ (fun h hh => by unfold xPM at hh; omega) (((hk 156 (by decide) (by decide)).trans W0_156)) xcs_a
    exact xKp.refl
theorem rd4_1 {d : Nat} {xs : Nat → Int32} {m : Int64} {sc md : Int32} {w : xW} {g : Nat → Value} {B K P G : Int32} (hk : ∀ h, 131 ≤ h → h < 194 → w[h]? = (W0 6 xs)[h]?) (hm : w[128]? = some (Sum.inr (12, [Value.ref 129, Value.ref 131, Value.ref 133, Value.ref 135, Value.ref 137, Value.ref 139, Value.ref 141, Value.ref 143, Value.ref 145, Value.ref 147, Value.ref 149, Value.ref 151, Value.ref 153, Value.ref 154, Value.ref 155, Value.ref 156, Value.ref 157, Value.int (-16384), Value.int 16384, Value.int 0, Value.int 0, Value.int 0, Value.ref 158, Value.ref 159, Value.int 0, Value.int 0, Value.int 0, Value.int 0, Value.int 0, Value.int 0, Value.int 0, Value.int 0]))) (hv : w[129]? = some (Sum.inr (13, [Value.ref 130, Value.int 2]))) (hvw : w[130]? = some (Sum.inl (0, 4700, g))) (hg0 : g (0 : Int32).toInt.toNat = Value.int (xq m)) (hg1 : g (1 : Int32).toInt.toNat = Value.int (xq (xqs m))) (hB : B.toInt = (xbl (xul m) : Int)) (c0 : 0 ≤ (xs 1).toInt) (c1 : (xs 1).toInt < 16) (c2 : (-40000) ≤ sc.toInt) (c3 : sc.toInt ≤ 40000) (c4 : 0 ≤ md.toInt) (c5 : md.toInt ≤ 4) (c6 : K.toInt = 64 - B.toInt) (c7 : 33 ≤ B.toInt) (c8 : B.toInt ≤ 34) (c9 : (xhi m).toInt ≠ 0) (c10 : (xnlz (xhi m)).toInt = 64 - B.toInt) (c11 : (xbf 2 (xlo m) (xhi m) ((32 : Int32) - K)).toInt ≠ 0) (c12 : (lg_cmp m (0 : Int64)).toInt ≠ 0) (c13 : (lg_cmp (xqs m) (0 : Int64)).toInt ≠ 0) (c14 : (lg_cmp (xqs (xqs m)) (0 : Int64)).toInt = 0) (c15 : (xbn (xq (xqs m))).toInt = B.toInt - 30) (c16 : (xq (xqs m)).toInt ≠ 0) (c17 : 0 ≤ (xq (xqs m)).toInt) (c18 : K.toInt ≠ 0) (c19 : K / (30 : Int32) = 1) (c20 : K - K / (30 : Int32) * (30 : Int32) = P) (c21 : ((0 : Int32) ||| (xH (xq (xqs m)) P)).toInt = 0) (c22 : ((xL (xq (xqs m)) P) ||| (xH (xq m) P)).toInt ≠ 0) (c23 : 0 ≤ ((xL (xq (xqs m)) P) ||| (xH (xq m) P)).toInt) (c24 : (xbn ((xL (xq (xqs m)) P) ||| (xH (xq m) P))).toInt = 4) (c25 : G.toInt = B.toInt - 31) : ∃ w2, xRun (d + 6) 180 [Value.ref 128, Value.int (xs 1), Value.ref 129, Value.int sc, Value.int 0, Value.int 1, Value.int md] w (.inl (some (Value.int (xres 1 m sc md)))) w2 ∧ xKp w w2 xPM ∧ ∃ f, w2[128]? = some (xmo f) := by
  have f0 : ((30 : Int32) + (xbn (xq (xqs m)))).toInt = 30 + (xbn (xq (xqs m))).toInt := xadd_g rfl rfl (by omega) (by omega)
  have f1 : (B + sc).toInt = B.toInt + sc.toInt := xadd_i (by omega) (by omega)
  have f2 : ((B + sc) - (64 : Int32)).toInt = (B + sc).toInt - 64 := xsub_g rfl rfl (by omega) (by omega)
  have f3 : (((B + sc) - (64 : Int32)) - sc).toInt = ((B + sc) - (64 : Int32)).toInt - sc.toInt := xsub_i (by omega) (by omega)
  have f4 : (-(((B + sc) - (64 : Int32)) - sc)).toInt = -(((B + sc) - (64 : Int32)) - sc).toInt := xneg_i (by omega)
  have f5 : ((60 : Int32) + (xbn ((xL (xq (xqs m)) P) ||| (xH (xq m) P)))).toInt = 60 + (xbn ((xL (xq (xqs m)) P) ||| (xH (xq m) P))).toInt := xadd_g rfl rfl (by omega) (by omega)
  have f6 : ((64 : Int32) + ((B + sc) - (64 : Int32))).toInt = 64 + ((B + sc) - (64 : Int32)).toInt := xadd_g rfl rfl (by omega) (by omega)
  have fb : ((30 : Int32) + xbn (xq (xqs m))).toInt = B.toInt := by rw [xadd_i (by show _ ≤ (30 : Int) + _; omega) (by show (30 : Int) + _ < _; omega)]; show (30 : Int) + _ = _; omega
  obtain ⟨w2, h1, h2, h3⟩ := suf_1 (d := d) (xs := xs) (m := m) (sc := sc) (md := md) (w := (((((w.set 156 (Sum.inl (2, 17, xup (fun _ => Value.int 0) (xs 1).toInt.toNat (Value.int 1)))).set 136 (Sum.inl (0, 4700, xcp g (fun _ => Value.int 0) (0 : Int32).toInt.toNat (0 : Int32).toInt.toNat (2 : Int32).toInt.toNat))).set 135 (Sum.inr (13, [Value.ref 136, Value.int 2]))).set 136 (Sum.inl (0, 4700, xup (xup (xup (xup (xup (xup (xcp g (fun _ => Value.int 0) (0 : Int32).toInt.toNat (0 : Int32).toInt.toNat (2 : Int32).toInt.toNat) (3 : Int32).toInt.toNat (Value.int 0)) (3 : Int32).toInt.toNat (Value.int 0)) (2 : Int32).toInt.toNat (Value.int (xL (xq (xqs m)) P))) (2 : Int32).toInt.toNat (Value.int ((xL (xq (xqs m)) P) ||| (xH (xq m) P)))) (1 : Int32).toInt.toNat (Value.int (xL (xq m) P))) (0 : Int32).toInt.toNat (Value.int 0)))).set 135 (Sum.inr (13, [Value.ref 136, Value.int 3])))) (B := B) (E := (B + sc)) (U := ((B + sc) - (64 : Int32))) (C := (((B + sc) - (64 : Int32)) - sc)) hB (fun h h1 h2 h3 h4 h5 => (xgn (by omega) (xgn (by omega) (xgn (by omega) (xgn (by omega) (xgn (by omega) (rfl)))))).trans (hk h h1 h2)) (xgn (by decide) (xgn (by decide) (xgn (by decide) (xgn (by decide) (xgn (by decide) hm))))) (xgn (by decide) (xgn (by decide) (xgn (by decide) (xgn (by decide) (xgn (by decide) hv))))) (xgs (xgn (by decide) (xgs (xgn (by decide) (xgn (by decide) (((hk 135 (by decide) (by decide)).trans W0_135))))))) (xgn (by decide) (xgs (xgn (by decide) (xgs (xgn (by decide) (((hk 136 (by decide) (by decide)).trans W0_136))))))) (xup_s) (xup_n (by decide) xup_s) (xup_n (by decide) (xup_n (by decide) xup_s)) (xgn (by decide) (xgn (by decide) (xgn (by decide) (xgn (by decide) (xgs ((hk 156 (by decide) (by decide)).trans W0_156)))))) (fun d' w' e1 e2 => mb_run2 (e1.trans (xgn (by decide) (xgn (by decide) (xgn (by decide) (xgn (by decide) (xgn (by decide) hv)))))) (e2.trans (xgn (by decide) (xgn (by decide) (xgn (by decide) (xgn (by decide) (xgn (by decide) hvw)))))) hg1 (by omega) (xge_i (by omega))) (fun hp d' w' e1 e2 => any0_4 (xs := xs) (sc := sc) (md := md) (P := P) hB (e1.trans (xgn (by decide) (xgn (by decide) (xgn (by decide) (xgn (by decide) (xgn (by decide) hv)))))) (e2.trans (xgn (by decide) (xgn (by decide) (xgn (by decide) (xgn (by decide) (xgn (by decide) hvw)))))) hg0 hg1 c0 c1 c2 c3 c4 c5 c6 c7 c8 c9 c10 c11 c12 c13 c14 c15 c16 c17 c18 c19 c20 c21 c22 c23 c24 c25 hp) (fun hp d' w' e1 e2 => any1_4 (xs := xs) (sc := sc) (md := md) (P := P) hB (e1.trans (xgn (by decide) (xgn (by decide) (xgn (by decide) (xgn (by decide) (xgn (by decide) hv)))))) (e2.trans (xgn (by decide) (xgn (by decide) (xgn (by decide) (xgn (by decide) (xgn (by decide) hvw)))))) hg0 hg1 c0 c1 c2 c3 c4 c5 c6 c7 c8 c9 c10 c11 c12 c13 c14 c15 c16 c17 c18 c19 c20 c21 c22 c23 c24 c25 hp) c0 c1 c2 c3 c4 c5 (by omega) (by omega) (by omega) (by omega) (by omega) (by omega)
  refine ⟨w2, xRun.of ?_, xKp.trans ?_ h2, h3⟩
  · refine i_180_0 (x := 128) rfl ?_
    refine i_180_1 (v := Value.ref 153) hm rfl ?_
    refine i_180_4 (x := (xs 1)) rfl ?_
    refine i_180_5 (v := Value.int 64) ((hk 153 (by decide) (by decide)).trans W0_153) (by omega) (by omega) (gprec_at (by omega)) ?_
    refine i_180_6 (lv2 := [(7, Value.int 64), (0, Value.ref 128), (1, Value.int (xs 1)), (2, Value.ref 129), (3, Value.int sc), (4, Value.int 0), (5, Value.int 1), (6, Value.int md)]) rfl ?_
    refine i_180_8 (x := 129) rfl ?_
    refine i_180_9 hv (Nat.le_of_ble_eq_true rfl) (mb_run2 hv hvw hg1 (by omega) (show ((30 : Int32) + (xbn (xq (xqs m)))) = B from (xge_i (by omega)))) ?_
    refine i_180_12 (x := sc) rfl ?_
    refine i_180_13 (c := (B + sc)) (show (B + sc) = (B + sc) from (xge_i (by omega))) ?_
    refine i_180_14 (lv2 := [(8, Value.int (B + sc)), (7, Value.int 64), (0, Value.ref 128), (1, Value.int (xs 1)), (2, Value.ref 129), (3, Value.int sc), (4, Value.int 0), (5, Value.int 1), (6, Value.int md)]) rfl ?_
    refine i_180_16 (x := 128) rfl ?_
    refine i_180_17 (v := Value.int 0) hm rfl ?_
    refine i_180_20 (fun h => absurd h (by decide)) (fun _ => ?_)
    refine i_180_23 (x := 128) rfl ?_
    refine i_180_24 (v := Value.int 0) hm rfl ?_
    refine i_180_27 (fun _ => ?_) (fun h => absurd h (by decide))
    refine i_180_49 (x := (B + sc)) rfl ?_
    refine i_180_51 (x := 64) rfl ?_
    refine i_180_53 (c := ((B + sc) - (64 : Int32))) rfl ?_
    refine i_180_54 (lv2 := [(9, Value.int ((B + sc) - (64 : Int32))), (8, Value.int (B + sc)), (7, Value.int 64), (0, Value.ref 128), (1, Value.int (xs 1)), (2, Value.ref 129), (3, Value.int sc), (4, Value.int 0), (5, Value.int 1), (6, Value.int md)]) rfl ?_
    refine i_180_56 (x := ((B + sc) - (64 : Int32))) rfl ?_
    refine i_180_58 (x := sc) rfl ?_
    refine i_180_59 (c := (((B + sc) - (64 : Int32)) - sc)) rfl ?_
    refine i_180_60 (lv2 := [(10, Value.int (((B + sc) - (64 : Int32)) - sc)), (9, Value.int ((B + sc) - (64 : Int32))), (8, Value.int (B + sc)), (7, Value.int 64), (0, Value.ref 128), (1, Value.int (xs 1)), (2, Value.ref 129), (3, Value.int sc), (4, Value.int 0), (5, Value.int 1), (6, Value.int md)]) rfl ?_
    refine i_180_62 (x := 128) rfl ?_
    refine i_180_63 (v := Value.ref 156) hm rfl ?_
    refine i_180_66 (x := (xs 1)) rfl ?_
    refine i_180_67 (x := 1) rfl ?_
    refine i_180_69z (v := Value.int 1) ((hk 156 (by decide) (by decide)).trans W0_156) (by omega) (by omega) (by omega) rfl ?_
    refine i_180_70 (x := 128) rfl ?_
    refine i_180_71 (v := Value.ref 135) (xgn (by decide) hm) rfl ?_
    refine i_180_74 (x := 129) rfl ?_
    refine i_180_75 (xgn (by decide) (((hk 135 (by decide) (by decide)).trans W0_135))) (Nat.le_of_ble_eq_true rfl) (s_182_1 (xgn (by decide) hv) (xgn (by decide) (((hk 135 (by decide) (by decide)).trans W0_135))) (xgn (by decide) hvw) (xgn (by decide) (((hk 136 (by decide) (by decide)).trans W0_136))) hg0 hg1) ?_
    refine i_180_78 ?_
    refine i_180_79 (lv2 := [(11, Value.int 0), (10, Value.int (((B + sc) - (64 : Int32)) - sc)), (9, Value.int ((B + sc) - (64 : Int32))), (8, Value.int (B + sc)), (7, Value.int 64), (0, Value.ref 128), (1, Value.int (xs 1)), (2, Value.ref 129), (3, Value.int sc), (4, Value.int 0), (5, Value.int 1), (6, Value.int md)]) rfl ?_
    refine i_180_81 (x := 0) rfl ?_
    refine i_180_83 (fun h => absurd h (by decide)) (fun _ => ?_)
    refine i_180_86 ?_
    refine i_180_87 ?_
    refine i_180_91 (lv2 := [(12, Value.int 1), (11, Value.int 0), (10, Value.int (((B + sc) - (64 : Int32)) - sc)), (9, Value.int ((B + sc) - (64 : Int32))), (8, Value.int (B + sc)), (7, Value.int 64), (0, Value.ref 128), (1, Value.int (xs 1)), (2, Value.ref 129), (3, Value.int sc), (4, Value.int 0), (5, Value.int 1), (6, Value.int md)]) rfl ?_
    refine i_180_93 (x := (((B + sc) - (64 : Int32)) - sc)) rfl ?_
    refine i_180_95 (fun _ => ?_) (fun h => absurd (show (((B + sc) - (64 : Int32)) - sc).toInt ≤ 0 by omega) (Int.not_le.mpr h))
    refine i_180_151 (x := 128) rfl ?_
    refine i_180_152 (v := Value.ref 135) (xgn (by decide) (xgn (by decide) (xgn (by decide) hm))) rfl ?_
    refine i_180_155 (x := (((B + sc) - (64 : Int32)) - sc)) rfl ?_
    refine i_180_157 (c := K) (show (-(((B + sc) - (64 : Int32)) - sc)) = K from (xge_i (by omega))) ?_
    refine i_180_158 (xgs (xgn (by decide) (xgn (by decide) (((hk 135 (by decide) (by decide)).trans W0_135))))) (Nat.le_of_ble_eq_true rfl) (s_188_2 (xgs (xgn (by decide) (xgn (by decide) (((hk 135 (by decide) (by decide)).trans W0_135))))) (by omega) (show (K / (30 : Int32)) = 1 from c19) (show (K - K / (30 : Int32) * (30 : Int32)) = P from c20) (xgn (by decide) (xgs (xgn (by decide) (((hk 136 (by decide) (by decide)).trans W0_136))))) (xcp_i rfl hg1) (show ((0 : Int32) ||| (xH (xq (xqs m)) P)) = 0 from (xge_c (n := 0) (by omega) rfl)) (xcp_i rfl hg0) (by omega)) ?_
    refine i_180_161 (x := 0) rfl ?_
    refine i_180_163 (fun _ => ?_) (fun h => absurd h (by decide))
    refine i_180_174 (x := 128) rfl ?_
    refine i_180_175 (v := Value.ref 135) (xgn (by decide) (xgn (by decide) (xgn (by decide) (xgn (by decide) (xgn (by decide) hm))))) rfl ?_
    refine i_180_178 (xgs (xgn (by decide) (xgs (xgn (by decide) (xgn (by decide) (((hk 135 (by decide) (by decide)).trans W0_135))))))) (Nat.le_of_ble_eq_true rfl) (mb_run3 (xgs (xgn (by decide) (xgs (xgn (by decide) (xgn (by decide) (((hk 135 (by decide) (by decide)).trans W0_135))))))) (xgn (by decide) (xgs (xgn (by decide) (xgs (xgn (by decide) (((hk 136 (by decide) (by decide)).trans W0_136))))))) (xup_n (by decide) (xup_n (by decide) xup_s)) (by omega) (show ((60 : Int32) + (xbn ((xL (xq (xqs m)) P) ||| (xH (xq m) P)))) = 64 from (xge_c (n := 64) (by omega) rfl))) ?_
    refine i_180_181 (x := ((B + sc) - (64 : Int32))) rfl ?_
    refine i_180_183 (c := (B + sc)) (show ((64 : Int32) + ((B + sc) - (64 : Int32))) = (B + sc) from (xge_i (by omega))) ?_
    refine i_180_184 (lv2 := [(13, Value.int (B + sc)), (12, Value.int 1), (11, Value.int 0), (10, Value.int (((B + sc) - (64 : Int32)) - sc)), (9, Value.int ((B + sc) - (64 : Int32))), (8, Value.int (B + sc)), (7, Value.int 64), (0, Value.ref 128), (1, Value.int (xs 1)), (2, Value.ref 129), (3, Value.int sc), (4, Value.int 0), (5, Value.int 1), (6, Value.int md)]) rfl ?_
    refine i_180_186 (x := 1) rfl ?_
    refine i_180_188 (fun h => absurd h (by decide)) (fun _ => ?_)
    refine i_180_191 ?_
    refine i_180_192 ?_
    refine i_180_205 (lv2 := [(14, Value.int 0), (13, Value.int (B + sc)), (12, Value.int 1), (11, Value.int 0), (10, Value.int (((B + sc) - (64 : Int32)) - sc)), (9, Value.int ((B + sc) - (64 : Int32))), (8, Value.int (B + sc)), (7, Value.int 64), (0, Value.ref 128), (1, Value.int (xs 1)), (2, Value.ref 129), (3, Value.int sc), (4, Value.int 0), (5, Value.int 1), (6, Value.int md)]) rfl ?_
    exact h1
  · refine xKp.set ?_ (fun h hh => by unfold xPM at hh; omega) (xgn (by decide) (xgs (xgn (by decide) (xgn (by decide) (((hk 135 (by decide) (by decide)).trans W0_135)))))) xcs_o
    refine xKp.set ?_ (fun h hh => by unfold xPM at hh; omega) (xgn (by decide) (xgs (xgn (by decide) (((hk 136 (by decide) (by decide)).trans W0_136))))) xcs_a
    refine xKp.set ?_ (fun h hh => by unfold xPM at hh; omega) (xgn (by decide) (xgn (by decide) (((hk 135 (by decide) (by decide)).trans W0_135)))) xcs_o
    refine xKp.set ?_ (fun h hh => by unfold xPM at hh; omega) (xgn (by decide) (((hk 136 (by decide) (by decide)).trans W0_136))) xcs_a
    refine xKp.set ?_ (fun h hh => by unfold xPM at hh; omega) (((hk 156 (by decide) (by decide)).trans W0_156)) xcs_a
    exact xKp.refl
theorem rd5_1 {d : Nat} {xs : Nat → Int32} {m : Int64} {sc md : Int32} {w : xW} {g : Nat → Value} {B K P G : Int32} (hk : ∀ h, 131 ≤ h → h < 194 → w[h]? = (W0 6 xs)[h]?) (hm : w[128]? = some (Sum.inr (12, [Value.ref 129, Value.ref 131, Value.ref 133, Value.ref 135, Value.ref 137, Value.ref 139, Value.ref 141, Value.ref 143, Value.ref 145, Value.ref 147, Value.ref 149, Value.ref 151, Value.ref 153, Value.ref 154, Value.ref 155, Value.ref 156, Value.ref 157, Value.int (-16384), Value.int 16384, Value.int 0, Value.int 0, Value.int 0, Value.ref 158, Value.ref 159, Value.int 0, Value.int 0, Value.int 0, Value.int 0, Value.int 0, Value.int 0, Value.int 0, Value.int 0]))) (hv : w[129]? = some (Sum.inr (13, [Value.ref 130, Value.int 2]))) (hvw : w[130]? = some (Sum.inl (0, 4700, g))) (hg0 : g (0 : Int32).toInt.toNat = Value.int (xq m)) (hg1 : g (1 : Int32).toInt.toNat = Value.int (xq (xqs m))) (hB : B.toInt = (xbl (xul m) : Int)) (c0 : 0 ≤ (xs 1).toInt) (c1 : (xs 1).toInt < 16) (c2 : (-40000) ≤ sc.toInt) (c3 : sc.toInt ≤ 40000) (c4 : 0 ≤ md.toInt) (c5 : md.toInt ≤ 4) (c6 : K.toInt = 64 - B.toInt) (c7 : 35 ≤ B.toInt) (c8 : B.toInt ≤ 60) (c9 : (xhi m).toInt ≠ 0) (c10 : (xnlz (xhi m)).toInt = 64 - B.toInt) (c11 : (xbf 2 (xlo m) (xhi m) ((32 : Int32) - K)).toInt ≠ 0) (c12 : (lg_cmp m (0 : Int64)).toInt ≠ 0) (c13 : (lg_cmp (xqs m) (0 : Int64)).toInt ≠ 0) (c14 : (lg_cmp (xqs (xqs m)) (0 : Int64)).toInt = 0) (c15 : (xbn (xq (xqs m))).toInt = B.toInt - 30) (c16 : (xq (xqs m)).toInt ≠ 0) (c17 : 0 ≤ (xq (xqs m)).toInt) (c18 : K.toInt ≠ 0) (c19 : K / (30 : Int32) = 0) (c20 : K - K / (30 : Int32) * (30 : Int32) = P) (c21 : ((0 : Int32) ||| (xH (xq (xqs m)) P)).toInt ≠ 0) (c22 : 0 ≤ ((0 : Int32) ||| (xH (xq (xqs m)) P)).toInt) (c23 : (xbn ((0 : Int32) ||| (xH (xq (xqs m)) P))).toInt = 4) (c24 : G.toInt = B.toInt - 31) : ∃ w2, xRun (d + 6) 180 [Value.ref 128, Value.int (xs 1), Value.ref 129, Value.int sc, Value.int 0, Value.int 1, Value.int md] w (.inl (some (Value.int (xres 1 m sc md)))) w2 ∧ xKp w w2 xPM ∧ ∃ f, w2[128]? = some (xmo f) := by
  have f0 : ((30 : Int32) + (xbn (xq (xqs m)))).toInt = 30 + (xbn (xq (xqs m))).toInt := xadd_g rfl rfl (by omega) (by omega)
  have f1 : (B + sc).toInt = B.toInt + sc.toInt := xadd_i (by omega) (by omega)
  have f2 : ((B + sc) - (64 : Int32)).toInt = (B + sc).toInt - 64 := xsub_g rfl rfl (by omega) (by omega)
  have f3 : (((B + sc) - (64 : Int32)) - sc).toInt = ((B + sc) - (64 : Int32)).toInt - sc.toInt := xsub_i (by omega) (by omega)
  have f4 : (-(((B + sc) - (64 : Int32)) - sc)).toInt = -(((B + sc) - (64 : Int32)) - sc).toInt := xneg_i (by omega)
  have f5 : ((60 : Int32) + (xbn ((0 : Int32) ||| (xH (xq (xqs m)) P)))).toInt = 60 + (xbn ((0 : Int32) ||| (xH (xq (xqs m)) P))).toInt := xadd_g rfl rfl (by omega) (by omega)
  have f6 : ((64 : Int32) + ((B + sc) - (64 : Int32))).toInt = 64 + ((B + sc) - (64 : Int32)).toInt := xadd_g rfl rfl (by omega) (by omega)
  have fb : ((30 : Int32) + xbn (xq (xqs m))).toInt = B.toInt := by rw [xadd_i (by show _ ≤ (30 : Int) + _; omega) (by show (30 : Int) + _ < _; omega)]; show (30 : Int) + _ = _; omega
  obtain ⟨w2, h1, h2, h3⟩ := suf_1 (d := d) (xs := xs) (m := m) (sc := sc) (md := md) (w := (((((w.set 156 (Sum.inl (2, 17, xup (fun _ => Value.int 0) (xs 1).toInt.toNat (Value.int 1)))).set 136 (Sum.inl (0, 4700, xcp g (fun _ => Value.int 0) (0 : Int32).toInt.toNat (0 : Int32).toInt.toNat (2 : Int32).toInt.toNat))).set 135 (Sum.inr (13, [Value.ref 136, Value.int 2]))).set 136 (Sum.inl (0, 4700, xup (xup (xup (xup (xup (xcp g (fun _ => Value.int 0) (0 : Int32).toInt.toNat (0 : Int32).toInt.toNat (2 : Int32).toInt.toNat) (2 : Int32).toInt.toNat (Value.int 0)) (2 : Int32).toInt.toNat (Value.int ((0 : Int32) ||| (xH (xq (xqs m)) P)))) (1 : Int32).toInt.toNat (Value.int (xL (xq (xqs m)) P))) (1 : Int32).toInt.toNat (Value.int ((xL (xq (xqs m)) P) ||| (xH (xq m) P)))) (0 : Int32).toInt.toNat (Value.int (xL (xq m) P))))).set 135 (Sum.inr (13, [Value.ref 136, Value.int 3])))) (B := B) (E := (B + sc)) (U := ((B + sc) - (64 : Int32))) (C := (((B + sc) - (64 : Int32)) - sc)) hB (fun h h1 h2 h3 h4 h5 => (xgn (by omega) (xgn (by omega) (xgn (by omega) (xgn (by omega) (xgn (by omega) (rfl)))))).trans (hk h h1 h2)) (xgn (by decide) (xgn (by decide) (xgn (by decide) (xgn (by decide) (xgn (by decide) hm))))) (xgn (by decide) (xgn (by decide) (xgn (by decide) (xgn (by decide) (xgn (by decide) hv))))) (xgs (xgn (by decide) (xgs (xgn (by decide) (xgn (by decide) (((hk 135 (by decide) (by decide)).trans W0_135))))))) (xgn (by decide) (xgs (xgn (by decide) (xgs (xgn (by decide) (((hk 136 (by decide) (by decide)).trans W0_136))))))) (xup_s) (xup_n (by decide) xup_s) (xup_n (by decide) (xup_n (by decide) (xup_n (by decide) xup_s))) (xgn (by decide) (xgn (by decide) (xgn (by decide) (xgn (by decide) (xgs ((hk 156 (by decide) (by decide)).trans W0_156)))))) (fun d' w' e1 e2 => mb_run2 (e1.trans (xgn (by decide) (xgn (by decide) (xgn (by decide) (xgn (by decide) (xgn (by decide) hv)))))) (e2.trans (xgn (by decide) (xgn (by decide) (xgn (by decide) (xgn (by decide) (xgn (by decide) hvw)))))) hg1 (by omega) (xge_i (by omega))) (fun hp d' w' e1 e2 => any0_5 (xs := xs) (sc := sc) (md := md) (P := P) hB (e1.trans (xgn (by decide) (xgn (by decide) (xgn (by decide) (xgn (by decide) (xgn (by decide) hv)))))) (e2.trans (xgn (by decide) (xgn (by decide) (xgn (by decide) (xgn (by decide) (xgn (by decide) hvw)))))) hg0 hg1 c0 c1 c2 c3 c4 c5 c6 c7 c8 c9 c10 c11 c12 c13 c14 c15 c16 c17 c18 c19 c20 c21 c22 c23 c24 hp) (fun hp d' w' e1 e2 => any1_5 (xs := xs) (sc := sc) (md := md) (P := P) hB (e1.trans (xgn (by decide) (xgn (by decide) (xgn (by decide) (xgn (by decide) (xgn (by decide) hv)))))) (e2.trans (xgn (by decide) (xgn (by decide) (xgn (by decide) (xgn (by decide) (xgn (by decide) hvw)))))) hg0 hg1 c0 c1 c2 c3 c4 c5 c6 c7 c8 c9 c10 c11 c12 c13 c14 c15 c16 c17 c18 c19 c20 c21 c22 c23 c24 hp) c0 c1 c2 c3 c4 c5 (by omega) (by omega) (by omega) (by omega) (by omega) (by omega)
  refine ⟨w2, xRun.of ?_, xKp.trans ?_ h2, h3⟩
  · refine i_180_0 (x := 128) rfl ?_
    refine i_180_1 (v := Value.ref 153) hm rfl ?_
    refine i_180_4 (x := (xs 1)) rfl ?_
    refine i_180_5 (v := Value.int 64) ((hk 153 (by decide) (by decide)).trans W0_153) (by omega) (by omega) (gprec_at (by omega)) ?_
    refine i_180_6 (lv2 := [(7, Value.int 64), (0, Value.ref 128), (1, Value.int (xs 1)), (2, Value.ref 129), (3, Value.int sc), (4, Value.int 0), (5, Value.int 1), (6, Value.int md)]) rfl ?_
    refine i_180_8 (x := 129) rfl ?_
    refine i_180_9 hv (Nat.le_of_ble_eq_true rfl) (mb_run2 hv hvw hg1 (by omega) (show ((30 : Int32) + (xbn (xq (xqs m)))) = B from (xge_i (by omega)))) ?_
    refine i_180_12 (x := sc) rfl ?_
    refine i_180_13 (c := (B + sc)) (show (B + sc) = (B + sc) from (xge_i (by omega))) ?_
    refine i_180_14 (lv2 := [(8, Value.int (B + sc)), (7, Value.int 64), (0, Value.ref 128), (1, Value.int (xs 1)), (2, Value.ref 129), (3, Value.int sc), (4, Value.int 0), (5, Value.int 1), (6, Value.int md)]) rfl ?_
    refine i_180_16 (x := 128) rfl ?_
    refine i_180_17 (v := Value.int 0) hm rfl ?_
    refine i_180_20 (fun h => absurd h (by decide)) (fun _ => ?_)
    refine i_180_23 (x := 128) rfl ?_
    refine i_180_24 (v := Value.int 0) hm rfl ?_
    refine i_180_27 (fun _ => ?_) (fun h => absurd h (by decide))
    refine i_180_49 (x := (B + sc)) rfl ?_
    refine i_180_51 (x := 64) rfl ?_
    refine i_180_53 (c := ((B + sc) - (64 : Int32))) rfl ?_
    refine i_180_54 (lv2 := [(9, Value.int ((B + sc) - (64 : Int32))), (8, Value.int (B + sc)), (7, Value.int 64), (0, Value.ref 128), (1, Value.int (xs 1)), (2, Value.ref 129), (3, Value.int sc), (4, Value.int 0), (5, Value.int 1), (6, Value.int md)]) rfl ?_
    refine i_180_56 (x := ((B + sc) - (64 : Int32))) rfl ?_
    refine i_180_58 (x := sc) rfl ?_
    refine i_180_59 (c := (((B + sc) - (64 : Int32)) - sc)) rfl ?_
    refine i_180_60 (lv2 := [(10, Value.int (((B + sc) - (64 : Int32)) - sc)), (9, Value.int ((B + sc) - (64 : Int32))), (8, Value.int (B + sc)), (7, Value.int 64), (0, Value.ref 128), (1, Value.int (xs 1)), (2, Value.ref 129), (3, Value.int sc), (4, Value.int 0), (5, Value.int 1), (6, Value.int md)]) rfl ?_
    refine i_180_62 (x := 128) rfl ?_
    refine i_180_63 (v := Value.ref 156) hm rfl ?_
    refine i_180_66 (x := (xs 1)) rfl ?_
    refine i_180_67 (x := 1) rfl ?_
    refine i_180_69z (v := Value.int 1) ((hk 156 (by decide) (by decide)).trans W0_156) (by omega) (by omega) (by omega) rfl ?_
    refine i_180_70 (x := 128) rfl ?_
    refine i_180_71 (v := Value.ref 135) (xgn (by decide) hm) rfl ?_
    refine i_180_74 (x := 129) rfl ?_
    refine i_180_75 (xgn (by decide) (((hk 135 (by decide) (by decide)).trans W0_135))) (Nat.le_of_ble_eq_true rfl) (s_182_1 (xgn (by decide) hv) (xgn (by decide) (((hk 135 (by decide) (by decide)).trans W0_135))) (xgn (by decide) hvw) (xgn (by decide) (((hk 136 (by decide) (by decide)).trans W0_136))) hg0 hg1) ?_
    refine i_180_78 ?_
    refine i_180_79 (lv2 := [(11, Value.int 0), (10, Value.int (((B + sc) - (64 : Int32)) - sc)), (9, Value.int ((B + sc) - (64 : Int32))), (8, Value.int (B + sc)), (7, Value.int 64), (0, Value.ref 128), (1, Value.int (xs 1)), (2, Value.ref 129), (3, Value.int sc), (4, Value.int 0), (5, Value.int 1), (6, Value.int md)]) rfl ?_
    refine i_180_81 (x := 0) rfl ?_
    refine i_180_83 (fun h => absurd h (by decide)) (fun _ => ?_)
    refine i_180_86 ?_
    refine i_180_87 ?_
    refine i_180_91 (lv2 := [(12, Value.int 1), (11, Value.int 0), (10, Value.int (((B + sc) - (64 : Int32)) - sc)), (9, Value.int ((B + sc) - (64 : Int32))), (8, Value.int (B + sc)), (7, Value.int 64), (0, Value.ref 128), (1, Value.int (xs 1)), (2, Value.ref 129), (3, Value.int sc), (4, Value.int 0), (5, Value.int 1), (6, Value.int md)]) rfl ?_
    refine i_180_93 (x := (((B + sc) - (64 : Int32)) - sc)) rfl ?_
    refine i_180_95 (fun _ => ?_) (fun h => absurd (show (((B + sc) - (64 : Int32)) - sc).toInt ≤ 0 by omega) (Int.not_le.mpr h))
    refine i_180_151 (x := 128) rfl ?_
    refine i_180_152 (v := Value.ref 135) (xgn (by decide) (xgn (by decide) (xgn (by decide) hm))) rfl ?_
    refine i_180_155 (x := (((B + sc) - (64 : Int32)) - sc)) rfl ?_
    refine i_180_157 (c := K) (show (-(((B + sc) - (64 : Int32)) - sc)) = K from (xge_i (by omega))) ?_
    refine i_180_158 (xgs (xgn (by decide) (xgn (by decide) (((hk 135 (by decide) (by decide)).trans W0_135))))) (Nat.le_of_ble_eq_true rfl) (s_188_3 (xgs (xgn (by decide) (xgn (by decide) (((hk 135 (by decide) (by decide)).trans W0_135))))) (by omega) (show (K / (30 : Int32)) = 0 from c19) (show (K - K / (30 : Int32) * (30 : Int32)) = P from c20) (xgn (by decide) (xgs (xgn (by decide) (((hk 136 (by decide) (by decide)).trans W0_136))))) (xcp_i rfl hg1) (xcp_i rfl hg0) (by omega)) ?_
    refine i_180_161 (x := 0) rfl ?_
    refine i_180_163 (fun _ => ?_) (fun h => absurd h (by decide))
    refine i_180_174 (x := 128) rfl ?_
    refine i_180_175 (v := Value.ref 135) (xgn (by decide) (xgn (by decide) (xgn (by decide) (xgn (by decide) (xgn (by decide) hm))))) rfl ?_
    refine i_180_178 (xgs (xgn (by decide) (xgs (xgn (by decide) (xgn (by decide) (((hk 135 (by decide) (by decide)).trans W0_135))))))) (Nat.le_of_ble_eq_true rfl) (mb_run3 (xgs (xgn (by decide) (xgs (xgn (by decide) (xgn (by decide) (((hk 135 (by decide) (by decide)).trans W0_135))))))) (xgn (by decide) (xgs (xgn (by decide) (xgs (xgn (by decide) (((hk 136 (by decide) (by decide)).trans W0_136))))))) (xup_n (by decide) (xup_n (by decide) (xup_n (by decide) xup_s))) (by omega) (show ((60 : Int32) + (xbn ((0 : Int32) ||| (xH (xq (xqs m)) P)))) = 64 from (xge_c (n := 64) (by omega) rfl))) ?_
    refine i_180_181 (x := ((B + sc) - (64 : Int32))) rfl ?_
    refine i_180_183 (c := (B + sc)) (show ((64 : Int32) + ((B + sc) - (64 : Int32))) = (B + sc) from (xge_i (by omega))) ?_
    refine i_180_184 (lv2 := [(13, Value.int (B + sc)), (12, Value.int 1), (11, Value.int 0), (10, Value.int (((B + sc) - (64 : Int32)) - sc)), (9, Value.int ((B + sc) - (64 : Int32))), (8, Value.int (B + sc)), (7, Value.int 64), (0, Value.ref 128), (1, Value.int (xs 1)), (2, Value.ref 129), (3, Value.int sc), (4, Value.int 0), (5, Value.int 1), (6, Value.int md)]) rfl ?_
    refine i_180_186 (x := 1) rfl ?_
    refine i_180_188 (fun h => absurd h (by decide)) (fun _ => ?_)
    refine i_180_191 ?_
    refine i_180_192 ?_
    refine i_180_205 (lv2 := [(14, Value.int 0), (13, Value.int (B + sc)), (12, Value.int 1), (11, Value.int 0), (10, Value.int (((B + sc) - (64 : Int32)) - sc)), (9, Value.int ((B + sc) - (64 : Int32))), (8, Value.int (B + sc)), (7, Value.int 64), (0, Value.ref 128), (1, Value.int (xs 1)), (2, Value.ref 129), (3, Value.int sc), (4, Value.int 0), (5, Value.int 1), (6, Value.int md)]) rfl ?_
    exact h1
  · refine xKp.set ?_ (fun h hh => by unfold xPM at hh; omega) (xgn (by decide) (xgs (xgn (by decide) (xgn (by decide) (((hk 135 (by decide) (by decide)).trans W0_135)))))) xcs_o
    refine xKp.set ?_ (fun h hh => by unfold xPM at hh; omega) (xgn (by decide) (xgs (xgn (by decide) (((hk 136 (by decide) (by decide)).trans W0_136))))) xcs_a
    refine xKp.set ?_ (fun h hh => by unfold xPM at hh; omega) (xgn (by decide) (xgn (by decide) (((hk 135 (by decide) (by decide)).trans W0_135)))) xcs_o
    refine xKp.set ?_ (fun h hh => by unfold xPM at hh; omega) (xgn (by decide) (((hk 136 (by decide) (by decide)).trans W0_136))) xcs_a
    refine xKp.set ?_ (fun h hh => by unfold xPM at hh; omega) (((hk 156 (by decide) (by decide)).trans W0_156)) xcs_a
    exact xKp.refl
theorem rd6_1 {d : Nat} {xs : Nat → Int32} {m : Int64} {sc md : Int32} {w : xW} {g : Nat → Value} {B K P G : Int32} (hk : ∀ h, 131 ≤ h → h < 194 → w[h]? = (W0 6 xs)[h]?) (hm : w[128]? = some (Sum.inr (12, [Value.ref 129, Value.ref 131, Value.ref 133, Value.ref 135, Value.ref 137, Value.ref 139, Value.ref 141, Value.ref 143, Value.ref 145, Value.ref 147, Value.ref 149, Value.ref 151, Value.ref 153, Value.ref 154, Value.ref 155, Value.ref 156, Value.ref 157, Value.int (-16384), Value.int 16384, Value.int 0, Value.int 0, Value.int 0, Value.ref 158, Value.ref 159, Value.int 0, Value.int 0, Value.int 0, Value.int 0, Value.int 0, Value.int 0, Value.int 0, Value.int 0]))) (hv : w[129]? = some (Sum.inr (13, [Value.ref 130, Value.int 3]))) (hvw : w[130]? = some (Sum.inl (0, 4700, g))) (hg0 : g (0 : Int32).toInt.toNat = Value.int (xq m)) (hg1 : g (1 : Int32).toInt.toNat = Value.int (xq (xqs m))) (hg2 : g (2 : Int32).toInt.toNat = Value.int (xq (xqs (xqs m)))) (hB : B.toInt = (xbl (xul m) : Int)) (c0 : 0 ≤ (xs 1).toInt) (c1 : (xs 1).toInt < 16) (c2 : (-40000) ≤ sc.toInt) (c3 : sc.toInt ≤ 40000) (c4 : 0 ≤ md.toInt) (c5 : md.toInt ≤ 4) (c6 : K.toInt = 64 - B.toInt) (c7 : 61 ≤ B.toInt) (c8 : B.toInt ≤ 63) (c9 : (xhi m).toInt ≠ 0) (c10 : (xnlz (xhi m)).toInt = 64 - B.toInt) (c11 : (xbf 2 (xlo m) (xhi m) ((32 : Int32) - K)).toInt ≠ 0) (c12 : (lg_cmp m (0 : Int64)).toInt ≠ 0) (c13 : (lg_cmp (xqs m) (0 : Int64)).toInt ≠ 0) (c14 : (lg_cmp (xqs (xqs m)) (0 : Int64)).toInt ≠ 0) (c15 : (lg_cmp (xqs (xqs (xqs m))) (0 : Int64)).toInt = 0) (c16 : (xbn (xq (xqs (xqs m)))).toInt = B.toInt - 60) (c17 : (xq (xqs (xqs m))).toInt ≠ 0) (c18 : 0 ≤ (xq (xqs (xqs m))).toInt) (c19 : K.toInt ≠ 0) (c20 : K / (30 : Int32) = 0) (c21 : K - K / (30 : Int32) * (30 : Int32) = P) (c22 : ((0 : Int32) ||| (xH (xq (xqs (xqs m))) P)).toInt = 0) (c23 : ((xL (xq (xqs (xqs m))) P) ||| (xH (xq (xqs m)) P)).toInt ≠ 0) (c24 : 0 ≤ ((xL (xq (xqs (xqs m))) P) ||| (xH (xq (xqs m)) P)).toInt) (c25 : (xbn ((xL (xq (xqs (xqs m))) P) ||| (xH (xq (xqs m)) P))).toInt = 4) (c26 : G.toInt = B.toInt - 61) : ∃ w2, xRun (d + 6) 180 [Value.ref 128, Value.int (xs 1), Value.ref 129, Value.int sc, Value.int 0, Value.int 1, Value.int md] w (.inl (some (Value.int (xres 1 m sc md)))) w2 ∧ xKp w w2 xPM ∧ ∃ f, w2[128]? = some (xmo f) := by
  have f0 : ((60 : Int32) + (xbn (xq (xqs (xqs m))))).toInt = 60 + (xbn (xq (xqs (xqs m)))).toInt := xadd_g rfl rfl (by omega) (by omega)
  have f1 : (B + sc).toInt = B.toInt + sc.toInt := xadd_i (by omega) (by omega)
  have f2 : ((B + sc) - (64 : Int32)).toInt = (B + sc).toInt - 64 := xsub_g rfl rfl (by omega) (by omega)
  have f3 : (((B + sc) - (64 : Int32)) - sc).toInt = ((B + sc) - (64 : Int32)).toInt - sc.toInt := xsub_i (by omega) (by omega)
  have f4 : (-(((B + sc) - (64 : Int32)) - sc)).toInt = -(((B + sc) - (64 : Int32)) - sc).toInt := xneg_i (by omega)
  have f5 : ((60 : Int32) + (xbn ((xL (xq (xqs (xqs m))) P) ||| (xH (xq (xqs m)) P)))).toInt = 60 + (xbn ((xL (xq (xqs (xqs m))) P) ||| (xH (xq (xqs m)) P))).toInt := xadd_g rfl rfl (by omega) (by omega)
  have f6 : ((64 : Int32) + ((B + sc) - (64 : Int32))).toInt = 64 + ((B + sc) - (64 : Int32)).toInt := xadd_g rfl rfl (by omega) (by omega)
  have fb : ((60 : Int32) + xbn (xq (xqs (xqs m)))).toInt = B.toInt := by rw [xadd_i (by show _ ≤ (60 : Int) + _; omega) (by show (60 : Int) + _ < _; omega)]; show (60 : Int) + _ = _; omega
  obtain ⟨w2, h1, h2, h3⟩ := suf_1 (d := d) (xs := xs) (m := m) (sc := sc) (md := md) (w := (((((w.set 156 (Sum.inl (2, 17, xup (fun _ => Value.int 0) (xs 1).toInt.toNat (Value.int 1)))).set 136 (Sum.inl (0, 4700, xcp g (fun _ => Value.int 0) (0 : Int32).toInt.toNat (0 : Int32).toInt.toNat (3 : Int32).toInt.toNat))).set 135 (Sum.inr (13, [Value.ref 136, Value.int 3]))).set 136 (Sum.inl (0, 4700, xup (xup (xup (xup (xup (xup (xup (xcp g (fun _ => Value.int 0) (0 : Int32).toInt.toNat (0 : Int32).toInt.toNat (3 : Int32).toInt.toNat) (3 : Int32).toInt.toNat (Value.int 0)) (3 : Int32).toInt.toNat (Value.int 0)) (2 : Int32).toInt.toNat (Value.int (xL (xq (xqs (xqs m))) P))) (2 : Int32).toInt.toNat (Value.int ((xL (xq (xqs (xqs m))) P) ||| (xH (xq (xqs m)) P)))) (1 : Int32).toInt.toNat (Value.int (xL (xq (xqs m)) P))) (1 : Int32).toInt.toNat (Value.int ((xL (xq (xqs m)) P) ||| (xH (xq m) P)))) (0 : Int32).toInt.toNat (Value.int (xL (xq m) P))))).set 135 (Sum.inr (13, [Value.ref 136, Value.int 3])))) (B := B) (E := (B + sc)) (U := ((B + sc) - (64 : Int32))) (C := (((B + sc) - (64 : Int32)) - sc)) hB (fun h h1 h2 h3 h4 h5 => (xgn (by omega) (xgn (by omega) (xgn (by omega) (xgn (by omega) (xgn (by omega) (rfl)))))).trans (hk h h1 h2)) (xgn (by decide) (xgn (by decide) (xgn (by decide) (xgn (by decide) (xgn (by decide) hm))))) (xgn (by decide) (xgn (by decide) (xgn (by decide) (xgn (by decide) (xgn (by decide) hv))))) (xgs (xgn (by decide) (xgs (xgn (by decide) (xgn (by decide) (((hk 135 (by decide) (by decide)).trans W0_135))))))) (xgn (by decide) (xgs (xgn (by decide) (xgs (xgn (by decide) (((hk 136 (by decide) (by decide)).trans W0_136))))))) (xup_s) (xup_n (by decide) xup_s) (xup_n (by decide) (xup_n (by decide) (xup_n (by decide) xup_s))) (xgn (by decide) (xgn (by decide) (xgn (by decide) (xgn (by decide) (xgs ((hk 156 (by decide) (by decide)).trans W0_156)))))) (fun d' w' e1 e2 => mb_run3 (e1.trans (xgn (by decide) (xgn (by decide) (xgn (by decide) (xgn (by decide) (xgn (by decide) hv)))))) (e2.trans (xgn (by decide) (xgn (by decide) (xgn (by decide) (xgn (by decide) (xgn (by decide) hvw)))))) hg2 (by omega) (xge_i (by omega))) (fun hp d' w' e1 e2 => any0_6 (xs := xs) (sc := sc) (md := md) (P := P) hB (e1.trans (xgn (by decide) (xgn (by decide) (xgn (by decide) (xgn (by decide) (xgn (by decide) hv)))))) (e2.trans (xgn (by decide) (xgn (by decide) (xgn (by decide) (xgn (by decide) (xgn (by decide) hvw)))))) hg0 hg1 hg2 c0 c1 c2 c3 c4 c5 c6 c7 c8 c9 c10 c11 c12 c13 c14 c15 c16 c17 c18 c19 c20 c21 c22 c23 c24 c25 c26 hp) (fun hp d' w' e1 e2 => any1_6 (xs := xs) (sc := sc) (md := md) (P := P) hB (e1.trans (xgn (by decide) (xgn (by decide) (xgn (by decide) (xgn (by decide) (xgn (by decide) hv)))))) (e2.trans (xgn (by decide) (xgn (by decide) (xgn (by decide) (xgn (by decide) (xgn (by decide) hvw)))))) hg0 hg1 hg2 c0 c1 c2 c3 c4 c5 c6 c7 c8 c9 c10 c11 c12 c13 c14 c15 c16 c17 c18 c19 c20 c21 c22 c23 c24 c25 c26 hp) c0 c1 c2 c3 c4 c5 (by omega) (by omega) (by omega) (by omega) (by omega) (by omega)
  refine ⟨w2, xRun.of ?_, xKp.trans ?_ h2, h3⟩
  · refine i_180_0 (x := 128) rfl ?_
    refine i_180_1 (v := Value.ref 153) hm rfl ?_
    refine i_180_4 (x := (xs 1)) rfl ?_
    refine i_180_5 (v := Value.int 64) ((hk 153 (by decide) (by decide)).trans W0_153) (by omega) (by omega) (gprec_at (by omega)) ?_
    refine i_180_6 (lv2 := [(7, Value.int 64), (0, Value.ref 128), (1, Value.int (xs 1)), (2, Value.ref 129), (3, Value.int sc), (4, Value.int 0), (5, Value.int 1), (6, Value.int md)]) rfl ?_
    refine i_180_8 (x := 129) rfl ?_
    refine i_180_9 hv (Nat.le_of_ble_eq_true rfl) (mb_run3 hv hvw hg2 (by omega) (show ((60 : Int32) + (xbn (xq (xqs (xqs m))))) = B from (xge_i (by omega)))) ?_
    refine i_180_12 (x := sc) rfl ?_
    refine i_180_13 (c := (B + sc)) (show (B + sc) = (B + sc) from (xge_i (by omega))) ?_
    refine i_180_14 (lv2 := [(8, Value.int (B + sc)), (7, Value.int 64), (0, Value.ref 128), (1, Value.int (xs 1)), (2, Value.ref 129), (3, Value.int sc), (4, Value.int 0), (5, Value.int 1), (6, Value.int md)]) rfl ?_
    refine i_180_16 (x := 128) rfl ?_
    refine i_180_17 (v := Value.int 0) hm rfl ?_
    refine i_180_20 (fun h => absurd h (by decide)) (fun _ => ?_)
    refine i_180_23 (x := 128) rfl ?_
    refine i_180_24 (v := Value.int 0) hm rfl ?_
    refine i_180_27 (fun _ => ?_) (fun h => absurd h (by decide))
    refine i_180_49 (x := (B + sc)) rfl ?_
    refine i_180_51 (x := 64) rfl ?_
    refine i_180_53 (c := ((B + sc) - (64 : Int32))) rfl ?_
    refine i_180_54 (lv2 := [(9, Value.int ((B + sc) - (64 : Int32))), (8, Value.int (B + sc)), (7, Value.int 64), (0, Value.ref 128), (1, Value.int (xs 1)), (2, Value.ref 129), (3, Value.int sc), (4, Value.int 0), (5, Value.int 1), (6, Value.int md)]) rfl ?_
    refine i_180_56 (x := ((B + sc) - (64 : Int32))) rfl ?_
    refine i_180_58 (x := sc) rfl ?_
    refine i_180_59 (c := (((B + sc) - (64 : Int32)) - sc)) rfl ?_
    refine i_180_60 (lv2 := [(10, Value.int (((B + sc) - (64 : Int32)) - sc)), (9, Value.int ((B + sc) - (64 : Int32))), (8, Value.int (B + sc)), (7, Value.int 64), (0, Value.ref 128), (1, Value.int (xs 1)), (2, Value.ref 129), (3, Value.int sc), (4, Value.int 0), (5, Value.int 1), (6, Value.int md)]) rfl ?_
    refine i_180_62 (x := 128) rfl ?_
    refine i_180_63 (v := Value.ref 156) hm rfl ?_
    refine i_180_66 (x := (xs 1)) rfl ?_
    refine i_180_67 (x := 1) rfl ?_
    refine i_180_69z (v := Value.int 1) ((hk 156 (by decide) (by decide)).trans W0_156) (by omega) (by omega) (by omega) rfl ?_
    refine i_180_70 (x := 128) rfl ?_
    refine i_180_71 (v := Value.ref 135) (xgn (by decide) hm) rfl ?_
    refine i_180_74 (x := 129) rfl ?_
    refine i_180_75 (xgn (by decide) (((hk 135 (by decide) (by decide)).trans W0_135))) (Nat.le_of_ble_eq_true rfl) (s_182_2 (xgn (by decide) hv) (xgn (by decide) (((hk 135 (by decide) (by decide)).trans W0_135))) (xgn (by decide) hvw) (xgn (by decide) (((hk 136 (by decide) (by decide)).trans W0_136))) hg0 hg1 hg2) ?_
    refine i_180_78 ?_
    refine i_180_79 (lv2 := [(11, Value.int 0), (10, Value.int (((B + sc) - (64 : Int32)) - sc)), (9, Value.int ((B + sc) - (64 : Int32))), (8, Value.int (B + sc)), (7, Value.int 64), (0, Value.ref 128), (1, Value.int (xs 1)), (2, Value.ref 129), (3, Value.int sc), (4, Value.int 0), (5, Value.int 1), (6, Value.int md)]) rfl ?_
    refine i_180_81 (x := 0) rfl ?_
    refine i_180_83 (fun h => absurd h (by decide)) (fun _ => ?_)
    refine i_180_86 ?_
    refine i_180_87 ?_
    refine i_180_91 (lv2 := [(12, Value.int 1), (11, Value.int 0), (10, Value.int (((B + sc) - (64 : Int32)) - sc)), (9, Value.int ((B + sc) - (64 : Int32))), (8, Value.int (B + sc)), (7, Value.int 64), (0, Value.ref 128), (1, Value.int (xs 1)), (2, Value.ref 129), (3, Value.int sc), (4, Value.int 0), (5, Value.int 1), (6, Value.int md)]) rfl ?_
    refine i_180_93 (x := (((B + sc) - (64 : Int32)) - sc)) rfl ?_
    refine i_180_95 (fun _ => ?_) (fun h => absurd (show (((B + sc) - (64 : Int32)) - sc).toInt ≤ 0 by omega) (Int.not_le.mpr h))
    refine i_180_151 (x := 128) rfl ?_
    refine i_180_152 (v := Value.ref 135) (xgn (by decide) (xgn (by decide) (xgn (by decide) hm))) rfl ?_
    refine i_180_155 (x := (((B + sc) - (64 : Int32)) - sc)) rfl ?_
    refine i_180_157 (c := K) (show (-(((B + sc) - (64 : Int32)) - sc)) = K from (xge_i (by omega))) ?_
    refine i_180_158 (xgs (xgn (by decide) (xgn (by decide) (((hk 135 (by decide) (by decide)).trans W0_135))))) (Nat.le_of_ble_eq_true rfl) (s_188_4 (xgs (xgn (by decide) (xgn (by decide) (((hk 135 (by decide) (by decide)).trans W0_135))))) (by omega) (show (K / (30 : Int32)) = 0 from c20) (show (K - K / (30 : Int32) * (30 : Int32)) = P from c21) (xgn (by decide) (xgs (xgn (by decide) (((hk 136 (by decide) (by decide)).trans W0_136))))) (xcp_i rfl hg2) (show ((0 : Int32) ||| (xH (xq (xqs (xqs m))) P)) = 0 from (xge_c (n := 0) (by omega) rfl)) (xcp_i rfl hg1) (xcp_i rfl hg0) (by omega)) ?_
    refine i_180_161 (x := 0) rfl ?_
    refine i_180_163 (fun _ => ?_) (fun h => absurd h (by decide))
    refine i_180_174 (x := 128) rfl ?_
    refine i_180_175 (v := Value.ref 135) (xgn (by decide) (xgn (by decide) (xgn (by decide) (xgn (by decide) (xgn (by decide) hm))))) rfl ?_
    refine i_180_178 (xgs (xgn (by decide) (xgs (xgn (by decide) (xgn (by decide) (((hk 135 (by decide) (by decide)).trans W0_135))))))) (Nat.le_of_ble_eq_true rfl) (mb_run3 (xgs (xgn (by decide) (xgs (xgn (by decide) (xgn (by decide) (((hk 135 (by decide) (by decide)).trans W0_135))))))) (xgn (by decide) (xgs (xgn (by decide) (xgs (xgn (by decide) (((hk 136 (by decide) (by decide)).trans W0_136))))))) (xup_n (by decide) (xup_n (by decide) (xup_n (by decide) xup_s))) (by omega) (show ((60 : Int32) + (xbn ((xL (xq (xqs (xqs m))) P) ||| (xH (xq (xqs m)) P)))) = 64 from (xge_c (n := 64) (by omega) rfl))) ?_
    refine i_180_181 (x := ((B + sc) - (64 : Int32))) rfl ?_
    refine i_180_183 (c := (B + sc)) (show ((64 : Int32) + ((B + sc) - (64 : Int32))) = (B + sc) from (xge_i (by omega))) ?_
    refine i_180_184 (lv2 := [(13, Value.int (B + sc)), (12, Value.int 1), (11, Value.int 0), (10, Value.int (((B + sc) - (64 : Int32)) - sc)), (9, Value.int ((B + sc) - (64 : Int32))), (8, Value.int (B + sc)), (7, Value.int 64), (0, Value.ref 128), (1, Value.int (xs 1)), (2, Value.ref 129), (3, Value.int sc), (4, Value.int 0), (5, Value.int 1), (6, Value.int md)]) rfl ?_
    refine i_180_186 (x := 1) rfl ?_
    refine i_180_188 (fun h => absurd h (by decide)) (fun _ => ?_)
    refine i_180_191 ?_
    refine i_180_192 ?_
    refine i_180_205 (lv2 := [(14, Value.int 0), (13, Value.int (B + sc)), (12, Value.int 1), (11, Value.int 0), (10, Value.int (((B + sc) - (64 : Int32)) - sc)), (9, Value.int ((B + sc) - (64 : Int32))), (8, Value.int (B + sc)), (7, Value.int 64), (0, Value.ref 128), (1, Value.int (xs 1)), (2, Value.ref 129), (3, Value.int sc), (4, Value.int 0), (5, Value.int 1), (6, Value.int md)]) rfl ?_
    exact h1
  · refine xKp.set ?_ (fun h hh => by unfold xPM at hh; omega) (xgn (by decide) (xgs (xgn (by decide) (xgn (by decide) (((hk 135 (by decide) (by decide)).trans W0_135)))))) xcs_o
    refine xKp.set ?_ (fun h hh => by unfold xPM at hh; omega) (xgn (by decide) (xgs (xgn (by decide) (((hk 136 (by decide) (by decide)).trans W0_136))))) xcs_a
    refine xKp.set ?_ (fun h hh => by unfold xPM at hh; omega) (xgn (by decide) (xgn (by decide) (((hk 135 (by decide) (by decide)).trans W0_135)))) xcs_o
    refine xKp.set ?_ (fun h hh => by unfold xPM at hh; omega) (xgn (by decide) (((hk 136 (by decide) (by decide)).trans W0_136))) xcs_a
    refine xKp.set ?_ (fun h hh => by unfold xPM at hh; omega) (((hk 156 (by decide) (by decide)).trans W0_156)) xcs_a
    exact xKp.refl
