theorem s_165_0 {d : Nat} {w : xW} {a0 : Int32} (hw0 : w[128]? = some (Sum.inr (12, [Value.ref 129, Value.ref 131, Value.ref 133, Value.ref 135, Value.ref 137, Value.ref 139, Value.ref 141, Value.ref 143, Value.ref 145, Value.ref 147, Value.ref 149, Value.ref 151, Value.ref 153, Value.ref 154, Value.ref 155, Value.ref 156, Value.ref 157, Value.int (-16384), Value.int 16384, Value.int a0, Value.int 0, Value.int 0, Value.ref 158, Value.ref 159, Value.int 0, Value.int 0, Value.int 0, Value.int 0, Value.int 0, Value.int 0, Value.int 0, Value.int 0]))) : xRun d 165 [Value.ref 128] w (.inl (some (Value.int 0))) w := by
  refine xRun.of ?_
  refine i_165_0 (x := 128) rfl ?_
  refine i_165_1 (v := Value.int 0) hw0 rfl ?_
  exact i_165_4 ⟨rfl, rfl⟩
theorem law3x {d : Nat} {xs : Nat → Int32} {w1 w2 : xW} {b f : Int32} (h0 : ((xs 0) &&& (31 : Int32)).toInt = 3) (h1 : xRun (d + 19) 20 [Value.ref 7, Value.int (xs 1), Value.long (xvv xs), Value.int (xs 4), Value.int (xs 5), Value.ref 194] (W0 6 xs) (.inl (some (Value.int 0))) w1) (h2 : xRun (d + 19) 176 [Value.ref 128, Value.int (xs 1), Value.long (xvv xs), Value.int (xs 4), Value.int (xs 5)] w1 (.inl (some (Value.int b))) w2) (m1 : w1[128]? = some (Sum.inr (12, [Value.ref 129, Value.ref 131, Value.ref 133, Value.ref 135, Value.ref 137, Value.ref 139, Value.ref 141, Value.ref 143, Value.ref 145, Value.ref 147, Value.ref 149, Value.ref 151, Value.ref 153, Value.ref 154, Value.ref 155, Value.ref 156, Value.ref 157, Value.int (-16384), Value.int 16384, Value.int 0, Value.int 0, Value.int 0, Value.ref 158, Value.ref 159, Value.int 0, Value.int 0, Value.int 0, Value.int 0, Value.int 0, Value.int 0, Value.int 0, Value.int 0]))) (m2 : w2[128]? = some (Sum.inr (12, [Value.ref 129, Value.ref 131, Value.ref 133, Value.ref 135, Value.ref 137, Value.ref 139, Value.ref 141, Value.ref 143, Value.ref 145, Value.ref 147, Value.ref 149, Value.ref 151, Value.ref 153, Value.ref 154, Value.ref 155, Value.ref 156, Value.ref 157, Value.int (-16384), Value.int 16384, Value.int f, Value.int 0, Value.int 0, Value.ref 158, Value.ref 159, Value.int 0, Value.int 0, Value.int 0, Value.int 0, Value.int 0, Value.int 0, Value.int 0, Value.int 0]))) (o2 : w2[194]? = some (Sum.inl (3, 1, xup (fun _ => Value.long 0) (0 : Int32).toInt.toNat (Value.long b.toInt64)))) (g1 : w1[0]? = some (Sum.inl (0, 6, fun j => Value.int (xs j)))) (g2 : w2[0]? = some (Sum.inl (0, 6, fun j => Value.int (xs j)))) : xEv (d + 20) 287 23 [(4, Value.int 0), (3, Value.ref 194), (2, Value.ref 128), (1, Value.ref 7), (0, Value.ref 0)] [] (W0 6 xs) (fun o' w' => o' = .inl (some (Value.int 1)) ∧ w' = w2) := by
  refine i_287_23 (x := 0) rfl ?_
  refine i_287_25 (x := 0) rfl ?_
  refine i_287_26 (c := 6) W0_0 (by decide) ?_
  refine i_287_27 ?_
  refine i_287_29 (c := 0) (by decide) ?_
  refine i_287_30 (fun h => absurd h (by decide)) (fun _ => ?_)
  refine i_287_33 (x := 0) rfl ?_
  refine i_287_34 (x := 0) rfl ?_
  refine i_287_36 (v := Value.int (xs 0)) W0_0 (by decide) (by decide) rfl ?_
  refine i_287_37 ?_
  refine i_287_39 (c := 3) (show ((xs 0) &&& (31 : Int32)) = 3 from (xge_c (n := 3) (by omega) rfl)) ?_
  refine i_287_40_3 rfl ?_
  refine i_287_357 (x := 7) rfl ?_
  refine i_287_358 (x := 0) rfl ?_
  refine i_287_359 (x := 0) rfl ?_
  refine i_287_361 ?_
  refine i_287_362 (c := 1) (by decide) ?_
  refine i_287_363 (v := Value.int (xs 1)) W0_0 (by decide) (by decide) rfl ?_
  refine i_287_364 (x := 0) rfl ?_
  refine i_287_365 (x := 0) rfl ?_
  refine i_287_367 ?_
  refine i_287_368 (c := 2) (by decide) ?_
  refine i_287_369 (v := Value.int (xs 2)) W0_0 (by decide) (by decide) rfl ?_
  refine i_287_370 (c := (xs 2).toInt64) rfl ?_
  refine i_287_371 ?_
  refine i_287_373 (c := (xsh (xs 2) (32 : Int32))) rfl ?_
  refine i_287_374 (x := 0) rfl ?_
  refine i_287_375 (x := 0) rfl ?_
  refine i_287_377 ?_
  refine i_287_378 (c := 3) (by decide) ?_
  refine i_287_379 (v := Value.int (xs 3)) W0_0 (by decide) (by decide) rfl ?_
  refine i_287_380 (c := (xs 3).toInt64) rfl ?_
  refine i_287_381 ?_
  refine i_287_384 (c := (((xs 3).toInt64) &&& (4294967295 : Int64))) rfl ?_
  refine i_287_385 (c := (xvv xs)) rfl ?_
  refine i_287_386 (x := 0) rfl ?_
  refine i_287_387 (x := 0) rfl ?_
  refine i_287_389 ?_
  refine i_287_390 (c := 4) (by decide) ?_
  refine i_287_391 (v := Value.int (xs 4)) W0_0 (by decide) (by decide) rfl ?_
  refine i_287_392 (x := 0) rfl ?_
  refine i_287_393 (x := 0) rfl ?_
  refine i_287_395 ?_
  refine i_287_396 (c := 5) (by decide) ?_
  refine i_287_397 (v := Value.int (xs 5)) W0_0 (by decide) (by decide) rfl ?_
  refine i_287_398 (x := 194) rfl ?_
  refine i_287_399 (Nat.le_of_ble_eq_true rfl) h1 ?_
  refine i_287_402 (lv2 := [(5, Value.int 0), (4, Value.int 0), (3, Value.ref 194), (2, Value.ref 128), (1, Value.ref 7), (0, Value.ref 0)]) rfl ?_
  refine i_287_404 (x := 128) rfl ?_
  refine i_287_405 (x := 0) rfl ?_
  refine i_287_406 (x := 0) rfl ?_
  refine i_287_408 ?_
  refine i_287_409 (c := 1) (by decide) ?_
  refine i_287_410 (v := Value.int (xs 1)) g1 (by decide) (by decide) rfl ?_
  refine i_287_411 (x := 0) rfl ?_
  refine i_287_412 (x := 0) rfl ?_
  refine i_287_414 ?_
  refine i_287_415 (c := 2) (by decide) ?_
  refine i_287_416 (v := Value.int (xs 2)) g1 (by decide) (by decide) rfl ?_
  refine i_287_417 (c := (xs 2).toInt64) rfl ?_
  refine i_287_418 ?_
  refine i_287_420 (c := (xsh (xs 2) (32 : Int32))) rfl ?_
  refine i_287_421 (x := 0) rfl ?_
  refine i_287_422 (x := 0) rfl ?_
  refine i_287_424 ?_
  refine i_287_425 (c := 3) (by decide) ?_
  refine i_287_426 (v := Value.int (xs 3)) g1 (by decide) (by decide) rfl ?_
  refine i_287_427 (c := (xs 3).toInt64) rfl ?_
  refine i_287_428 ?_
  refine i_287_431 (c := (((xs 3).toInt64) &&& (4294967295 : Int64))) rfl ?_
  refine i_287_432 (c := (xvv xs)) rfl ?_
  refine i_287_433 (x := 0) rfl ?_
  refine i_287_434 (x := 0) rfl ?_
  refine i_287_436 ?_
  refine i_287_437 (c := 4) (by decide) ?_
  refine i_287_438 (v := Value.int (xs 4)) g1 (by decide) (by decide) rfl ?_
  refine i_287_439 (x := 0) rfl ?_
  refine i_287_440 (x := 0) rfl ?_
  refine i_287_442 ?_
  refine i_287_443 (c := 5) (by decide) ?_
  refine i_287_444 (v := Value.int (xs 5)) g1 (by decide) (by decide) rfl ?_
  refine i_287_445 m1 (Nat.le_of_ble_eq_true rfl) h2 ?_
  refine i_287_448 (lv2 := [(6, Value.int b), (5, Value.int 0), (4, Value.int 0), (3, Value.ref 194), (2, Value.ref 128), (1, Value.ref 7), (0, Value.ref 0)]) rfl ?_
  refine i_287_450 (x := 128) rfl ?_
  refine i_287_451 m2 (Nat.le_of_ble_eq_true rfl) (s_165_0 m2) ?_
  refine i_287_454 (x := 0) rfl ?_
  refine i_287_456 (fun _ => ?_) (fun h => absurd h (by decide))
  refine i_287_461 (x := 0) rfl ?_
  refine i_287_463 (fun h => absurd h (by decide)) (fun _ => ?_)
  refine i_287_466 (x := 194) rfl ?_
  refine i_287_467 ?_
  refine i_287_468 (v := Value.long b.toInt64) o2 (by decide) (by decide) xup_s ?_
  refine i_287_469 (x := b) rfl ?_
  refine i_287_471 (c := b.toInt64) rfl ?_
  refine i_287_472 (c := 0) (lg_cmp_s _) ?_
  refine i_287_473 (fun _ => ?_) (fun h => absurd h (by decide))
  refine i_287_478 ?_
  refine i_287_2154 (x := 0) (c := 6) (lv2 := [(4, Value.int 6), (6, Value.int b), (5, Value.int 0), (3, Value.ref 194), (2, Value.ref 128), (1, Value.ref 7), (0, Value.ref 0)]) rfl (by decide) rfl ?_
  refine i_287_2157 ?_
  refine i_287_23 (x := 6) rfl ?_
  refine i_287_25 (x := 0) rfl ?_
  refine i_287_26 (c := 6) g2 (by decide) ?_
  refine i_287_27 ?_
  refine i_287_29 (c := 0) (by decide) ?_
  refine i_287_30 (fun _ => ?_) (fun h => absurd h (by decide))
  refine i_287_2160 ?_
  exact i_287_2161 rfl ⟨rfl, rfl⟩
theorem op3v_0 {d : Nat} {xs : Nat → Int32} (h0 : ((xs 0) &&& (31 : Int32)).toInt = 3) (c0 : 0 ≤ (xs 1).toInt) (c1 : (xs 1).toInt < 16) (c2 : (-40000) ≤ (xs 4).toInt) (c3 : (xs 4).toInt ≤ 40000) (c4 : 0 ≤ (xs 5).toInt) (c5 : (xs 5).toInt ≤ 4) (c6 : (lg_cmp (xvv xs) (0 : Int64)).toInt ≠ 0) (c7 : 0 ≤ (lg_cmp (xvv xs) (0 : Int64)).toInt) : ∃ w1, xEv (d + 20) 287 23 [(4, Value.int 0), (3, Value.ref 194), (2, Value.ref 128), (1, Value.ref 7), (0, Value.ref 0)] [] (W0 6 xs) (fun o' w' => o' = .inl (some (Value.int 1)) ∧ w' = w1) ∧ w1.length ≤ 220 ∧ xsz w1 ≤ 200000 := by
  obtain ⟨w1, r1, k1, o1⟩ := cls3_0 (d := d + 1) c0 c1 c2 c3 c4 c5 c6 c7
  obtain ⟨w2, r2, k2, f, hf⟩ := mdl3_0 (d := d + 11) k1 c0 c1 c2 c3 c4 c5 c6 c7
  have p128 : xPC 128 := Or.inl ⟨by decide, by decide⟩
  have p0 : xPC 0 := Or.inr rfl
  have q194 : xPM 194 := Or.inr rfl
  have q0 : xPM 0 := Or.inl (by decide)
  exact ⟨w2, law3x h0 r1 r2 ((k1.1 128 p128).trans W0_128) hf ((k2.1 194 q194).trans o1) ((k1.1 0 p0).trans W0_0) ((k2.1 0 q0).trans ((k1.1 0 p0).trans W0_0)), by rw [k2.2.1, k1.2.1, W0_len]; decide, by rw [k2.2.2, k1.2.2, W0_sz]; decide⟩
theorem op3v_1 {d : Nat} {xs : Nat → Int32} (h0 : ((xs 0) &&& (31 : Int32)).toInt = 3) (c0 : 0 ≤ (xs 1).toInt) (c1 : (xs 1).toInt < 16) (c2 : (-40000) ≤ (xs 4).toInt) (c3 : (xs 4).toInt ≤ 40000) (c4 : 0 ≤ (xs 5).toInt) (c5 : (xs 5).toInt ≤ 4) (c6 : (lg_cmp (xvv xs) (0 : Int64)).toInt ≠ 0) (c7 : (lg_cmp (xvv xs) (0 : Int64)).toInt < 0) : ∃ w1, xEv (d + 20) 287 23 [(4, Value.int 0), (3, Value.ref 194), (2, Value.ref 128), (1, Value.ref 7), (0, Value.ref 0)] [] (W0 6 xs) (fun o' w' => o' = .inl (some (Value.int 1)) ∧ w' = w1) ∧ w1.length ≤ 220 ∧ xsz w1 ≤ 200000 := by
  obtain ⟨w1, r1, k1, o1⟩ := cls3_1 (d := d + 1) c0 c1 c2 c3 c4 c5 c6 c7
  obtain ⟨w2, r2, k2, f, hf⟩ := mdl3_1 (d := d + 11) k1 c0 c1 c2 c3 c4 c5 c6 c7
  have p128 : xPC 128 := Or.inl ⟨by decide, by decide⟩
  have p0 : xPC 0 := Or.inr rfl
  have q194 : xPM 194 := Or.inr rfl
  have q0 : xPM 0 := Or.inl (by decide)
  exact ⟨w2, law3x h0 r1 r2 ((k1.1 128 p128).trans W0_128) hf ((k2.1 194 q194).trans o1) ((k1.1 0 p0).trans W0_0) ((k2.1 0 q0).trans ((k1.1 0 p0).trans W0_0)), by rw [k2.2.1, k1.2.1, W0_len]; decide, by rw [k2.2.2, k1.2.2, W0_sz]; decide⟩
theorem s_15_1 {d : Nat} {w : xW} {a0 : Int32} (e0 : a0.toInt < 0) : xRun d 15 [Value.int a0] w (.inl (some (Value.int 1))) w := by
  refine xRun.of ?_
  refine i_15_0 (x := a0) rfl ?_
  refine i_15_1 (fun _ => ?_) (fun h => absurd e0 (Int.not_lt.mpr h))
  refine i_15_10 ?_
  refine i_15_11 ?_
  exact i_15_15 rfl ⟨rfl, rfl⟩
theorem s_21_60 {d : Nat} {w : xW} {a0 : Int32} {b0 : Int64} {a1 : Int32} {a2 : Int32} (e0 : a0.toInt < 0) : xRun (d + 6) 21 [Value.ref 7, Value.int a0, Value.long b0, Value.int a1, Value.int a2] w (.inr w.length) (w ++ [Sum.inr (14, [])]) := by
  refine xRun.of ?_
  refine i_21_0 (x := a0) rfl ?_
  refine i_21_1 (Nat.le_of_ble_eq_true rfl) (s_15_1 e0) ?_
  refine i_21_4 (fun _ => ?_) (fun h => absurd h (by decide))
  exact i_21_29 (by omega) (Nat.le_of_ble_eq_true rfl) ⟨rfl, rfl⟩
theorem s_20_60 {d : Nat} {w : xW} {a0 : Int32} {b0 : Int64} {a1 : Int32} {a2 : Int32} (hw0 : w[7]? = some (Sum.inr (0, [Value.ref 8, Value.ref 78, Value.ref 9, Value.ref 10, Value.ref 13, Value.ref 16, Value.ref 19, Value.ref 93, Value.ref 108, Value.ref 113, Value.ref 29, Value.int 0]))) (e1 : a0.toInt < 0) : xRun (d + 7) 20 [Value.ref 7, Value.int a0, Value.long b0, Value.int a1, Value.int a2, Value.ref 194] w (.inl (some (Value.int 1))) (w ++ [Sum.inr (14, [])]) := by
  refine xRun.of ?_
  refine i_20_0 (x := 194) rfl ?_
  refine i_20_2 ?_
  refine i_20_3 (x := 7) rfl ?_
  refine i_20_4 (x := a0) rfl ?_
  refine i_20_5 (x := b0) rfl ?_
  refine i_20_6 (x := a1) rfl ?_
  refine i_20_8 (x := a2) rfl ?_
  refine j_20_10 hw0 (Nat.le_of_ble_eq_true rfl) (s_21_60 e1) (xDone.c xgl rfl rfl ?_)
  refine i_20_18 (lv2 := [(7, Value.ref w.length), (0, Value.ref 7), (1, Value.int a0), (2, Value.long b0), (4, Value.int a1), (5, Value.int a2), (6, Value.ref 194)]) rfl ?_
  refine i_20_20 ?_
  exact i_20_21 ⟨rfl, rfl⟩
theorem s_169_3 {d : Nat} {w : xW} {a0 : Int32} (e0 : a0.toInt < 0) : xRun d 169 [Value.int a0, Value.int 0, Value.int 15] w (.inl (some (Value.int 0))) w := by
  refine xRun.of ?_
  refine i_169_0 (x := a0) rfl ?_
  refine i_169_1 (x := 0) rfl ?_
  refine i_169_2 (fun _ => ?_) (fun h => absurd e0 (Int.not_lt.mpr h))
  refine i_169_14 ?_
  exact i_169_15 rfl ⟨rfl, rfl⟩
theorem s_170_1 {d : Nat} {w : xW} : xRun (d + 6) 170 [Value.int 0] w (.inr w.length) (w ++ [Sum.inr (14, [])]) := by
  refine xRun.of ?_
  refine i_170_0 (x := 0) rfl ?_
  refine i_170_1 (fun h => absurd h (by decide)) (fun _ => ?_)
  exact i_170_4 (by omega) (Nat.le_of_ble_eq_true rfl) ⟨rfl, rfl⟩
theorem s_168_1 {d : Nat} {w : xW} {a0 : Int32} (e0 : a0.toInt < 0) : xRun (d + 7) 168 [Value.int a0] w (.inr w.length) (w ++ [Sum.inr (14, [])]) := by
  refine xRun.of ?_
  refine i_168_0 (x := a0) rfl ?_
  refine i_168_1 ?_
  refine i_168_2 ?_
  refine i_168_4 (Nat.le_of_ble_eq_true rfl) (s_169_3 e0) ?_
  exact j_168_7 (Nat.le_of_ble_eq_true rfl) (s_170_1) (xDone.t xgl rfl rfl ⟨rfl, rfl⟩)
theorem s_177_0 {d : Nat} {w : xW} {a0 : Int32} {b0 : Int64} {a1 : Int32} {a2 : Int32} (e0 : a0.toInt < 0) : xRun (d + 8) 177 [Value.ref 128, Value.int a0, Value.long b0, Value.int a1, Value.int a2] w (.inr w.length) (w ++ [Sum.inr (14, [])]) := by
  refine xRun.of ?_
  refine i_177_0 (x := a0) rfl ?_
  exact j_177_1 (Nat.le_of_ble_eq_true rfl) (s_168_1 e0) (xDone.t xgl rfl rfl ⟨rfl, rfl⟩)
theorem s_176_0 {d : Nat} {w : xW} {a0 : Int32} {b0 : Int64} {a1 : Int32} {a2 : Int32} (hw0 : w[128]? = some (Sum.inr (12, [Value.ref 129, Value.ref 131, Value.ref 133, Value.ref 135, Value.ref 137, Value.ref 139, Value.ref 141, Value.ref 143, Value.ref 145, Value.ref 147, Value.ref 149, Value.ref 151, Value.ref 153, Value.ref 154, Value.ref 155, Value.ref 156, Value.ref 157, Value.int (-16384), Value.int 16384, Value.int 0, Value.int 0, Value.int 0, Value.ref 158, Value.ref 159, Value.int 0, Value.int 0, Value.int 0, Value.int 0, Value.int 0, Value.int 0, Value.int 0, Value.int 0]))) (e1 : a0.toInt < 0) : xRun (d + 9) 176 [Value.ref 128, Value.int a0, Value.long b0, Value.int a1, Value.int a2] w (.inl (some (Value.int 0))) (((w.set 128 (Sum.inr (12, [Value.ref 129, Value.ref 131, Value.ref 133, Value.ref 135, Value.ref 137, Value.ref 139, Value.ref 141, Value.ref 143, Value.ref 145, Value.ref 147, Value.ref 149, Value.ref 151, Value.ref 153, Value.ref 154, Value.ref 155, Value.ref 156, Value.ref 157, Value.int (-16384), Value.int 16384, Value.int 0, Value.int 0, Value.int 0, Value.ref 158, Value.ref 159, Value.int 0, Value.int 0, Value.int 0, Value.int 0, Value.int 0, Value.int 0, Value.int 0, Value.int 0]))) ++ [Sum.inr (14, [])]).set 128 (Sum.inr (12, [Value.ref 129, Value.ref 131, Value.ref 133, Value.ref 135, Value.ref 137, Value.ref 139, Value.ref 141, Value.ref 143, Value.ref 145, Value.ref 147, Value.ref 149, Value.ref 151, Value.ref 153, Value.ref 154, Value.ref 155, Value.ref 156, Value.ref 157, Value.int (-16384), Value.int 16384, Value.int 0, Value.int 0, Value.int 0, Value.ref 158, Value.ref 159, Value.int 0, Value.int 0, Value.int 0, Value.int 0, Value.int 0, Value.int 0, Value.int 0, Value.int 1]))) := by
  refine xRun.of ?_
  refine i_176_0 (x := 128) rfl ?_
  refine i_176_1 ?_
  refine i_176_2 (fs2 := [Value.ref 129, Value.ref 131, Value.ref 133, Value.ref 135, Value.ref 137, Value.ref 139, Value.ref 141, Value.ref 143, Value.ref 145, Value.ref 147, Value.ref 149, Value.ref 151, Value.ref 153, Value.ref 154, Value.ref 155, Value.ref 156, Value.ref 157, Value.int (-16384), Value.int 16384, Value.int 0, Value.int 0, Value.int 0, Value.ref 158, Value.ref 159, Value.int 0, Value.int 0, Value.int 0, Value.int 0, Value.int 0, Value.int 0, Value.int 0, Value.int 0]) hw0 (Nat.le_of_ble_eq_true rfl) rfl (by decide) ?_
  refine i_176_5 (x := 128) rfl ?_
  refine i_176_6 (x := a0) rfl ?_
  refine i_176_7 (x := b0) rfl ?_
  refine i_176_8 (x := a1) rfl ?_
  refine i_176_10 (x := a2) rfl ?_
  refine j_176_12 (xgs hw0) (Nat.le_of_ble_eq_true rfl) (s_177_0 e1) (xDone.c xgl rfl rfl ?_)
  refine i_176_16 (lv2 := [(6, Value.ref ((w.set 128 (Sum.inr (12, [Value.ref 129, Value.ref 131, Value.ref 133, Value.ref 135, Value.ref 137, Value.ref 139, Value.ref 141, Value.ref 143, Value.ref 145, Value.ref 147, Value.ref 149, Value.ref 151, Value.ref 153, Value.ref 154, Value.ref 155, Value.ref 156, Value.ref 157, Value.int (-16384), Value.int 16384, Value.int 0, Value.int 0, Value.int 0, Value.ref 158, Value.ref 159, Value.int 0, Value.int 0, Value.int 0, Value.int 0, Value.int 0, Value.int 0, Value.int 0, Value.int 0]))).length)), (0, Value.ref 128), (1, Value.int a0), (2, Value.long b0), (4, Value.int a1), (5, Value.int a2)]) rfl ?_
  refine i_176_18 (x := 128) rfl ?_
  refine i_176_19 ?_
  refine i_176_20 (fs2 := [Value.ref 129, Value.ref 131, Value.ref 133, Value.ref 135, Value.ref 137, Value.ref 139, Value.ref 141, Value.ref 143, Value.ref 145, Value.ref 147, Value.ref 149, Value.ref 151, Value.ref 153, Value.ref 154, Value.ref 155, Value.ref 156, Value.ref 157, Value.int (-16384), Value.int 16384, Value.int 0, Value.int 0, Value.int 0, Value.ref 158, Value.ref 159, Value.int 0, Value.int 0, Value.int 0, Value.int 0, Value.int 0, Value.int 0, Value.int 0, Value.int 1]) (xga (xgs hw0)) (Nat.le_of_ble_eq_true rfl) rfl (by decide) ?_
  refine i_176_23 ?_
  exact i_176_24 ⟨rfl, rfl⟩
theorem s_165_1 {d : Nat} {w : xW} (hw0 : w[128]? = some (Sum.inr (12, [Value.ref 129, Value.ref 131, Value.ref 133, Value.ref 135, Value.ref 137, Value.ref 139, Value.ref 141, Value.ref 143, Value.ref 145, Value.ref 147, Value.ref 149, Value.ref 151, Value.ref 153, Value.ref 154, Value.ref 155, Value.ref 156, Value.ref 157, Value.int (-16384), Value.int 16384, Value.int 0, Value.int 0, Value.int 0, Value.ref 158, Value.ref 159, Value.int 0, Value.int 0, Value.int 0, Value.int 0, Value.int 0, Value.int 0, Value.int 0, Value.int 1]))) : xRun d 165 [Value.ref 128] w (.inl (some (Value.int 1))) w := by
  refine xRun.of ?_
  refine i_165_0 (x := 128) rfl ?_
  refine i_165_1 (v := Value.int 1) hw0 rfl ?_
  exact i_165_4 ⟨rfl, rfl⟩
theorem o_3_0 {d : Nat} {xs : Nat → Int32} (h0 : ((xs 0) &&& (31 : Int32)).toInt = 3) (c0 : (xs 1).toInt < 0) : ∃ w1, xEv (d + 20) 287 23 [(4, Value.int 0), (3, Value.ref 194), (2, Value.ref 128), (1, Value.ref 7), (0, Value.ref 0)] [] (W0 6 xs) (fun o' w' => o' = .inl (some (Value.int 1)) ∧ w' = w1) ∧ w1.length ≤ 220 ∧ xsz w1 ≤ 200000 := by
  refine ⟨(((((W0 6 xs) ++ [Sum.inr (14, [])]).set 128 (Sum.inr (12, [Value.ref 129, Value.ref 131, Value.ref 133, Value.ref 135, Value.ref 137, Value.ref 139, Value.ref 141, Value.ref 143, Value.ref 145, Value.ref 147, Value.ref 149, Value.ref 151, Value.ref 153, Value.ref 154, Value.ref 155, Value.ref 156, Value.ref 157, Value.int (-16384), Value.int 16384, Value.int 0, Value.int 0, Value.int 0, Value.ref 158, Value.ref 159, Value.int 0, Value.int 0, Value.int 0, Value.int 0, Value.int 0, Value.int 0, Value.int 0, Value.int 0]))) ++ [Sum.inr (14, [])]).set 128 (Sum.inr (12, [Value.ref 129, Value.ref 131, Value.ref 133, Value.ref 135, Value.ref 137, Value.ref 139, Value.ref 141, Value.ref 143, Value.ref 145, Value.ref 147, Value.ref 149, Value.ref 151, Value.ref 153, Value.ref 154, Value.ref 155, Value.ref 156, Value.ref 157, Value.int (-16384), Value.int 16384, Value.int 0, Value.int 0, Value.int 0, Value.ref 158, Value.ref 159, Value.int 0, Value.int 0, Value.int 0, Value.int 0, Value.int 0, Value.int 0, Value.int 0, Value.int 1]))), ?_, (show xLs _ 220 200000 from ?_)⟩
  · refine i_287_23 (x := 0) rfl ?_
    refine i_287_25 (x := 0) rfl ?_
    refine i_287_26 (c := 6) W0_0 (by decide) ?_
    refine i_287_27 ?_
    refine i_287_29 (c := 0) (by decide) ?_
    refine i_287_30 (fun h => absurd h (by decide)) (fun _ => ?_)
    refine i_287_33 (x := 0) rfl ?_
    refine i_287_34 (x := 0) rfl ?_
    refine i_287_36 (v := Value.int (xs 0)) W0_0 (by decide) (by decide) rfl ?_
    refine i_287_37 ?_
    refine i_287_39 (c := 3) (show ((xs 0) &&& (31 : Int32)) = 3 from (xge_c (n := 3) (by omega) rfl)) ?_
    refine i_287_40_3 rfl ?_
    refine i_287_357 (x := 7) rfl ?_
    refine i_287_358 (x := 0) rfl ?_
    refine i_287_359 (x := 0) rfl ?_
    refine i_287_361 ?_
    refine i_287_362 (c := 1) (by decide) ?_
    refine i_287_363 (v := Value.int (xs 1)) W0_0 (by decide) (by decide) rfl ?_
    refine i_287_364 (x := 0) rfl ?_
    refine i_287_365 (x := 0) rfl ?_
    refine i_287_367 ?_
    refine i_287_368 (c := 2) (by decide) ?_
    refine i_287_369 (v := Value.int (xs 2)) W0_0 (by decide) (by decide) rfl ?_
    refine i_287_370 (c := (xs 2).toInt64) rfl ?_
    refine i_287_371 ?_
    refine i_287_373 (c := (xsh (xs 2) (32 : Int32))) rfl ?_
    refine i_287_374 (x := 0) rfl ?_
    refine i_287_375 (x := 0) rfl ?_
    refine i_287_377 ?_
    refine i_287_378 (c := 3) (by decide) ?_
    refine i_287_379 (v := Value.int (xs 3)) W0_0 (by decide) (by decide) rfl ?_
    refine i_287_380 (c := (xs 3).toInt64) rfl ?_
    refine i_287_381 ?_
    refine i_287_384 (c := (((xs 3).toInt64) &&& (4294967295 : Int64))) rfl ?_
    refine i_287_385 (c := (xvv xs)) rfl ?_
    refine i_287_386 (x := 0) rfl ?_
    refine i_287_387 (x := 0) rfl ?_
    refine i_287_389 ?_
    refine i_287_390 (c := 4) (by decide) ?_
    refine i_287_391 (v := Value.int (xs 4)) W0_0 (by decide) (by decide) rfl ?_
    refine i_287_392 (x := 0) rfl ?_
    refine i_287_393 (x := 0) rfl ?_
    refine i_287_395 ?_
    refine i_287_396 (c := 5) (by decide) ?_
    refine i_287_397 (v := Value.int (xs 5)) W0_0 (by decide) (by decide) rfl ?_
    refine i_287_398 (x := 194) rfl ?_
    refine i_287_399 (Nat.le_of_ble_eq_true rfl) (s_20_60 W0_7 (by omega)) ?_
    refine i_287_402 (lv2 := [(5, Value.int 1), (4, Value.int 0), (3, Value.ref 194), (2, Value.ref 128), (1, Value.ref 7), (0, Value.ref 0)]) rfl ?_
    refine i_287_404 (x := 128) rfl ?_
    refine i_287_405 (x := 0) rfl ?_
    refine i_287_406 (x := 0) rfl ?_
    refine i_287_408 ?_
    refine i_287_409 (c := 1) (by decide) ?_
    refine i_287_410 (v := Value.int (xs 1)) (xga W0_0) (by decide) (by decide) rfl ?_
    refine i_287_411 (x := 0) rfl ?_
    refine i_287_412 (x := 0) rfl ?_
    refine i_287_414 ?_
    refine i_287_415 (c := 2) (by decide) ?_
    refine i_287_416 (v := Value.int (xs 2)) (xga W0_0) (by decide) (by decide) rfl ?_
    refine i_287_417 (c := (xs 2).toInt64) rfl ?_
    refine i_287_418 ?_
    refine i_287_420 (c := (xsh (xs 2) (32 : Int32))) rfl ?_
    refine i_287_421 (x := 0) rfl ?_
    refine i_287_422 (x := 0) rfl ?_
    refine i_287_424 ?_
    refine i_287_425 (c := 3) (by decide) ?_
    refine i_287_426 (v := Value.int (xs 3)) (xga W0_0) (by decide) (by decide) rfl ?_
    refine i_287_427 (c := (xs 3).toInt64) rfl ?_
    refine i_287_428 ?_
    refine i_287_431 (c := (((xs 3).toInt64) &&& (4294967295 : Int64))) rfl ?_
    refine i_287_432 (c := (xvv xs)) rfl ?_
    refine i_287_433 (x := 0) rfl ?_
    refine i_287_434 (x := 0) rfl ?_
    refine i_287_436 ?_
    refine i_287_437 (c := 4) (by decide) ?_
    refine i_287_438 (v := Value.int (xs 4)) (xga W0_0) (by decide) (by decide) rfl ?_
    refine i_287_439 (x := 0) rfl ?_
    refine i_287_440 (x := 0) rfl ?_
    refine i_287_442 ?_
    refine i_287_443 (c := 5) (by decide) ?_
    refine i_287_444 (v := Value.int (xs 5)) (xga W0_0) (by decide) (by decide) rfl ?_
    refine i_287_445 (xga W0_128) (Nat.le_of_ble_eq_true rfl) (s_176_0 (xga W0_128) (by omega)) ?_
    refine i_287_448 (lv2 := [(6, Value.int 0), (5, Value.int 1), (4, Value.int 0), (3, Value.ref 194), (2, Value.ref 128), (1, Value.ref 7), (0, Value.ref 0)]) rfl ?_
    refine i_287_450 (x := 128) rfl ?_
    refine i_287_451 (xgs (xga (xgs (xga W0_128)))) (Nat.le_of_ble_eq_true rfl) (s_165_1 (xgs (xga (xgs (xga W0_128))))) ?_
    refine i_287_454 (x := 1) rfl ?_
    refine i_287_456 (fun _ => ?_) (fun h => absurd h (by decide))
    refine i_287_461 (x := 1) rfl ?_
    refine i_287_463 (fun _ => ?_) (fun h => absurd h (by decide))
    refine i_287_478 ?_
    refine i_287_2154 (x := 0) (c := 6) (lv2 := [(4, Value.int 6), (6, Value.int 0), (5, Value.int 1), (3, Value.ref 194), (2, Value.ref 128), (1, Value.ref 7), (0, Value.ref 0)]) rfl (by decide) rfl ?_
    refine i_287_2157 ?_
    refine i_287_23 (x := 6) rfl ?_
    refine i_287_25 (x := 0) rfl ?_
    refine i_287_26 (c := 6) (xgn (by decide) (xga (xgn (by decide) (xga W0_0)))) (by decide) ?_
    refine i_287_27 ?_
    refine i_287_29 (c := 0) (by decide) ?_
    refine i_287_30 (fun _ => ?_) (fun h => absurd h (by decide))
    refine i_287_2160 ?_
    exact i_287_2161 rfl ⟨rfl, rfl⟩
  · refine xLs.set ?_ (xga (xgs (xga W0_128))) xcs_o
    refine xLs.app (n := 219) (z := 199994) (m := 6) ?_ rfl
    refine xLs.set ?_ (xga W0_128) xcs_o
    refine xLs.app (n := 218) (z := 199988) (m := 6) ?_ rfl
    exact ⟨Nat.le_trans (Nat.le_of_eq W0_len) (by decide), Nat.le_trans (Nat.le_of_eq W0_sz) (by decide)⟩
theorem s_21_61 {d : Nat} {w : xW} {a0 : Int32} {b0 : Int64} {a1 : Int32} {a2 : Int32} (e0 : 0 ≤ a0.toInt) (e1 : a0.toInt < 16) (e2 : a1.toInt < (-40000)) : xRun (d + 6) 21 [Value.ref 7, Value.int a0, Value.long b0, Value.int a1, Value.int a2] w (.inr w.length) (w ++ [Sum.inr (14, [])]) := by
  refine xRun.of ?_
  refine i_21_0 (x := a0) rfl ?_
  refine i_21_1 (Nat.le_of_ble_eq_true rfl) (s_15_0 e0 e1) ?_
  refine i_21_4 (fun h => absurd h (by decide)) (fun _ => ?_)
  refine i_21_7 (x := a1) rfl ?_
  refine i_21_9 ?_
  refine i_21_11 (fun _ => ?_) (fun h => absurd e2 (Int.not_lt.mpr h))
  exact i_21_29 (by omega) (Nat.le_of_ble_eq_true rfl) ⟨rfl, rfl⟩
theorem s_20_61 {d : Nat} {w : xW} {a0 : Int32} {b0 : Int64} {a1 : Int32} {a2 : Int32} (hw0 : w[7]? = some (Sum.inr (0, [Value.ref 8, Value.ref 78, Value.ref 9, Value.ref 10, Value.ref 13, Value.ref 16, Value.ref 19, Value.ref 93, Value.ref 108, Value.ref 113, Value.ref 29, Value.int 0]))) (e1 : 0 ≤ a0.toInt) (e2 : a0.toInt < 16) (e3 : a1.toInt < (-40000)) : xRun (d + 7) 20 [Value.ref 7, Value.int a0, Value.long b0, Value.int a1, Value.int a2, Value.ref 194] w (.inl (some (Value.int 1))) (w ++ [Sum.inr (14, [])]) := by
  refine xRun.of ?_
  refine i_20_0 (x := 194) rfl ?_
  refine i_20_2 ?_
  refine i_20_3 (x := 7) rfl ?_
  refine i_20_4 (x := a0) rfl ?_
  refine i_20_5 (x := b0) rfl ?_
  refine i_20_6 (x := a1) rfl ?_
  refine i_20_8 (x := a2) rfl ?_
  refine j_20_10 hw0 (Nat.le_of_ble_eq_true rfl) (s_21_61 e1 e2 e3) (xDone.c xgl rfl rfl ?_)
  refine i_20_18 (lv2 := [(7, Value.ref w.length), (0, Value.ref 7), (1, Value.int a0), (2, Value.long b0), (4, Value.int a1), (5, Value.int a2), (6, Value.ref 194)]) rfl ?_
  refine i_20_20 ?_
  exact i_20_21 ⟨rfl, rfl⟩
theorem s_169_4 {d : Nat} {w : xW} {a0 : Int32} (e0 : a0.toInt < (-40000)) : xRun d 169 [Value.int a0, Value.int (-40000), Value.int 40000] w (.inl (some (Value.int 0))) w := by
  refine xRun.of ?_
  refine i_169_0 (x := a0) rfl ?_
  refine i_169_1 (x := (-40000)) rfl ?_
  refine i_169_2 (fun _ => ?_) (fun h => absurd e0 (Int.not_lt.mpr h))
  refine i_169_14 ?_
  exact i_169_15 rfl ⟨rfl, rfl⟩
theorem s_177_1 {d : Nat} {w : xW} {a0 : Int32} {b0 : Int64} {a1 : Int32} {a2 : Int32} (e0 : 0 ≤ a0.toInt) (e1 : a0.toInt ≤ 15) (e2 : a1.toInt < (-40000)) : xRun (d + 7) 177 [Value.ref 128, Value.int a0, Value.long b0, Value.int a1, Value.int a2] w (.inr w.length) (w ++ [Sum.inr (14, [])]) := by
  refine xRun.of ?_
  refine i_177_0 (x := a0) rfl ?_
  refine i_177_1 (Nat.le_of_ble_eq_true rfl) (s_168_0 e0 e1) ?_
  refine i_177_4 (x := a1) rfl ?_
  refine i_177_6 ?_
  refine i_177_8 ?_
  refine i_177_10 (Nat.le_of_ble_eq_true rfl) (s_169_4 e2) ?_
  exact j_177_13 (Nat.le_of_ble_eq_true rfl) (s_170_1) (xDone.t xgl rfl rfl ⟨rfl, rfl⟩)
theorem s_176_1 {d : Nat} {w : xW} {a0 : Int32} {b0 : Int64} {a1 : Int32} {a2 : Int32} (hw0 : w[128]? = some (Sum.inr (12, [Value.ref 129, Value.ref 131, Value.ref 133, Value.ref 135, Value.ref 137, Value.ref 139, Value.ref 141, Value.ref 143, Value.ref 145, Value.ref 147, Value.ref 149, Value.ref 151, Value.ref 153, Value.ref 154, Value.ref 155, Value.ref 156, Value.ref 157, Value.int (-16384), Value.int 16384, Value.int 0, Value.int 0, Value.int 0, Value.ref 158, Value.ref 159, Value.int 0, Value.int 0, Value.int 0, Value.int 0, Value.int 0, Value.int 0, Value.int 0, Value.int 0]))) (e1 : 0 ≤ a0.toInt) (e2 : a0.toInt ≤ 15) (e3 : a1.toInt < (-40000)) : xRun (d + 8) 176 [Value.ref 128, Value.int a0, Value.long b0, Value.int a1, Value.int a2] w (.inl (some (Value.int 0))) (((w.set 128 (Sum.inr (12, [Value.ref 129, Value.ref 131, Value.ref 133, Value.ref 135, Value.ref 137, Value.ref 139, Value.ref 141, Value.ref 143, Value.ref 145, Value.ref 147, Value.ref 149, Value.ref 151, Value.ref 153, Value.ref 154, Value.ref 155, Value.ref 156, Value.ref 157, Value.int (-16384), Value.int 16384, Value.int 0, Value.int 0, Value.int 0, Value.ref 158, Value.ref 159, Value.int 0, Value.int 0, Value.int 0, Value.int 0, Value.int 0, Value.int 0, Value.int 0, Value.int 0]))) ++ [Sum.inr (14, [])]).set 128 (Sum.inr (12, [Value.ref 129, Value.ref 131, Value.ref 133, Value.ref 135, Value.ref 137, Value.ref 139, Value.ref 141, Value.ref 143, Value.ref 145, Value.ref 147, Value.ref 149, Value.ref 151, Value.ref 153, Value.ref 154, Value.ref 155, Value.ref 156, Value.ref 157, Value.int (-16384), Value.int 16384, Value.int 0, Value.int 0, Value.int 0, Value.ref 158, Value.ref 159, Value.int 0, Value.int 0, Value.int 0, Value.int 0, Value.int 0, Value.int 0, Value.int 0, Value.int 1]))) := by
  refine xRun.of ?_
  refine i_176_0 (x := 128) rfl ?_
  refine i_176_1 ?_
  refine i_176_2 (fs2 := [Value.ref 129, Value.ref 131, Value.ref 133, Value.ref 135, Value.ref 137, Value.ref 139, Value.ref 141, Value.ref 143, Value.ref 145, Value.ref 147, Value.ref 149, Value.ref 151, Value.ref 153, Value.ref 154, Value.ref 155, Value.ref 156, Value.ref 157, Value.int (-16384), Value.int 16384, Value.int 0, Value.int 0, Value.int 0, Value.ref 158, Value.ref 159, Value.int 0, Value.int 0, Value.int 0, Value.int 0, Value.int 0, Value.int 0, Value.int 0, Value.int 0]) hw0 (Nat.le_of_ble_eq_true rfl) rfl (by decide) ?_
  refine i_176_5 (x := 128) rfl ?_
  refine i_176_6 (x := a0) rfl ?_
  refine i_176_7 (x := b0) rfl ?_
  refine i_176_8 (x := a1) rfl ?_
  refine i_176_10 (x := a2) rfl ?_
  refine j_176_12 (xgs hw0) (Nat.le_of_ble_eq_true rfl) (s_177_1 e1 e2 e3) (xDone.c xgl rfl rfl ?_)
  refine i_176_16 (lv2 := [(6, Value.ref ((w.set 128 (Sum.inr (12, [Value.ref 129, Value.ref 131, Value.ref 133, Value.ref 135, Value.ref 137, Value.ref 139, Value.ref 141, Value.ref 143, Value.ref 145, Value.ref 147, Value.ref 149, Value.ref 151, Value.ref 153, Value.ref 154, Value.ref 155, Value.ref 156, Value.ref 157, Value.int (-16384), Value.int 16384, Value.int 0, Value.int 0, Value.int 0, Value.ref 158, Value.ref 159, Value.int 0, Value.int 0, Value.int 0, Value.int 0, Value.int 0, Value.int 0, Value.int 0, Value.int 0]))).length)), (0, Value.ref 128), (1, Value.int a0), (2, Value.long b0), (4, Value.int a1), (5, Value.int a2)]) rfl ?_
  refine i_176_18 (x := 128) rfl ?_
  refine i_176_19 ?_
  refine i_176_20 (fs2 := [Value.ref 129, Value.ref 131, Value.ref 133, Value.ref 135, Value.ref 137, Value.ref 139, Value.ref 141, Value.ref 143, Value.ref 145, Value.ref 147, Value.ref 149, Value.ref 151, Value.ref 153, Value.ref 154, Value.ref 155, Value.ref 156, Value.ref 157, Value.int (-16384), Value.int 16384, Value.int 0, Value.int 0, Value.int 0, Value.ref 158, Value.ref 159, Value.int 0, Value.int 0, Value.int 0, Value.int 0, Value.int 0, Value.int 0, Value.int 0, Value.int 1]) (xga (xgs hw0)) (Nat.le_of_ble_eq_true rfl) rfl (by decide) ?_
  refine i_176_23 ?_
  exact i_176_24 ⟨rfl, rfl⟩
theorem o_3_1 {d : Nat} {xs : Nat → Int32} (h0 : ((xs 0) &&& (31 : Int32)).toInt = 3) (c0 : 0 ≤ (xs 1).toInt) (c1 : (xs 1).toInt < 16) (c2 : (xs 4).toInt < (-40000)) : ∃ w1, xEv (d + 20) 287 23 [(4, Value.int 0), (3, Value.ref 194), (2, Value.ref 128), (1, Value.ref 7), (0, Value.ref 0)] [] (W0 6 xs) (fun o' w' => o' = .inl (some (Value.int 1)) ∧ w' = w1) ∧ w1.length ≤ 220 ∧ xsz w1 ≤ 200000 := by
  refine ⟨(((((W0 6 xs) ++ [Sum.inr (14, [])]).set 128 (Sum.inr (12, [Value.ref 129, Value.ref 131, Value.ref 133, Value.ref 135, Value.ref 137, Value.ref 139, Value.ref 141, Value.ref 143, Value.ref 145, Value.ref 147, Value.ref 149, Value.ref 151, Value.ref 153, Value.ref 154, Value.ref 155, Value.ref 156, Value.ref 157, Value.int (-16384), Value.int 16384, Value.int 0, Value.int 0, Value.int 0, Value.ref 158, Value.ref 159, Value.int 0, Value.int 0, Value.int 0, Value.int 0, Value.int 0, Value.int 0, Value.int 0, Value.int 0]))) ++ [Sum.inr (14, [])]).set 128 (Sum.inr (12, [Value.ref 129, Value.ref 131, Value.ref 133, Value.ref 135, Value.ref 137, Value.ref 139, Value.ref 141, Value.ref 143, Value.ref 145, Value.ref 147, Value.ref 149, Value.ref 151, Value.ref 153, Value.ref 154, Value.ref 155, Value.ref 156, Value.ref 157, Value.int (-16384), Value.int 16384, Value.int 0, Value.int 0, Value.int 0, Value.ref 158, Value.ref 159, Value.int 0, Value.int 0, Value.int 0, Value.int 0, Value.int 0, Value.int 0, Value.int 0, Value.int 1]))), ?_, (show xLs _ 220 200000 from ?_)⟩
  · refine i_287_23 (x := 0) rfl ?_
    refine i_287_25 (x := 0) rfl ?_
    refine i_287_26 (c := 6) W0_0 (by decide) ?_
    refine i_287_27 ?_
    refine i_287_29 (c := 0) (by decide) ?_
    refine i_287_30 (fun h => absurd h (by decide)) (fun _ => ?_)
    refine i_287_33 (x := 0) rfl ?_
    refine i_287_34 (x := 0) rfl ?_
    refine i_287_36 (v := Value.int (xs 0)) W0_0 (by decide) (by decide) rfl ?_
    refine i_287_37 ?_
    refine i_287_39 (c := 3) (show ((xs 0) &&& (31 : Int32)) = 3 from (xge_c (n := 3) (by omega) rfl)) ?_
    refine i_287_40_3 rfl ?_
    refine i_287_357 (x := 7) rfl ?_
    refine i_287_358 (x := 0) rfl ?_
    refine i_287_359 (x := 0) rfl ?_
    refine i_287_361 ?_
    refine i_287_362 (c := 1) (by decide) ?_
    refine i_287_363 (v := Value.int (xs 1)) W0_0 (by decide) (by decide) rfl ?_
    refine i_287_364 (x := 0) rfl ?_
    refine i_287_365 (x := 0) rfl ?_
    refine i_287_367 ?_
    refine i_287_368 (c := 2) (by decide) ?_
    refine i_287_369 (v := Value.int (xs 2)) W0_0 (by decide) (by decide) rfl ?_
    refine i_287_370 (c := (xs 2).toInt64) rfl ?_
    refine i_287_371 ?_
    refine i_287_373 (c := (xsh (xs 2) (32 : Int32))) rfl ?_
    refine i_287_374 (x := 0) rfl ?_
    refine i_287_375 (x := 0) rfl ?_
    refine i_287_377 ?_
    refine i_287_378 (c := 3) (by decide) ?_
    refine i_287_379 (v := Value.int (xs 3)) W0_0 (by decide) (by decide) rfl ?_
    refine i_287_380 (c := (xs 3).toInt64) rfl ?_
    refine i_287_381 ?_
    refine i_287_384 (c := (((xs 3).toInt64) &&& (4294967295 : Int64))) rfl ?_
    refine i_287_385 (c := (xvv xs)) rfl ?_
    refine i_287_386 (x := 0) rfl ?_
    refine i_287_387 (x := 0) rfl ?_
    refine i_287_389 ?_
    refine i_287_390 (c := 4) (by decide) ?_
    refine i_287_391 (v := Value.int (xs 4)) W0_0 (by decide) (by decide) rfl ?_
    refine i_287_392 (x := 0) rfl ?_
    refine i_287_393 (x := 0) rfl ?_
    refine i_287_395 ?_
    refine i_287_396 (c := 5) (by decide) ?_
    refine i_287_397 (v := Value.int (xs 5)) W0_0 (by decide) (by decide) rfl ?_
    refine i_287_398 (x := 194) rfl ?_
    refine i_287_399 (Nat.le_of_ble_eq_true rfl) (s_20_61 W0_7 (by omega) (by omega) (by omega)) ?_
    refine i_287_402 (lv2 := [(5, Value.int 1), (4, Value.int 0), (3, Value.ref 194), (2, Value.ref 128), (1, Value.ref 7), (0, Value.ref 0)]) rfl ?_
    refine i_287_404 (x := 128) rfl ?_
    refine i_287_405 (x := 0) rfl ?_
    refine i_287_406 (x := 0) rfl ?_
    refine i_287_408 ?_
    refine i_287_409 (c := 1) (by decide) ?_
    refine i_287_410 (v := Value.int (xs 1)) (xga W0_0) (by decide) (by decide) rfl ?_
    refine i_287_411 (x := 0) rfl ?_
    refine i_287_412 (x := 0) rfl ?_
    refine i_287_414 ?_
    refine i_287_415 (c := 2) (by decide) ?_
    refine i_287_416 (v := Value.int (xs 2)) (xga W0_0) (by decide) (by decide) rfl ?_
    refine i_287_417 (c := (xs 2).toInt64) rfl ?_
    refine i_287_418 ?_
    refine i_287_420 (c := (xsh (xs 2) (32 : Int32))) rfl ?_
    refine i_287_421 (x := 0) rfl ?_
    refine i_287_422 (x := 0) rfl ?_
    refine i_287_424 ?_
    refine i_287_425 (c := 3) (by decide) ?_
    refine i_287_426 (v := Value.int (xs 3)) (xga W0_0) (by decide) (by decide) rfl ?_
    refine i_287_427 (c := (xs 3).toInt64) rfl ?_
    refine i_287_428 ?_
    refine i_287_431 (c := (((xs 3).toInt64) &&& (4294967295 : Int64))) rfl ?_
    refine i_287_432 (c := (xvv xs)) rfl ?_
    refine i_287_433 (x := 0) rfl ?_
    refine i_287_434 (x := 0) rfl ?_
    refine i_287_436 ?_
    refine i_287_437 (c := 4) (by decide) ?_
    refine i_287_438 (v := Value.int (xs 4)) (xga W0_0) (by decide) (by decide) rfl ?_
    refine i_287_439 (x := 0) rfl ?_
    refine i_287_440 (x := 0) rfl ?_
    refine i_287_442 ?_
    refine i_287_443 (c := 5) (by decide) ?_
    refine i_287_444 (v := Value.int (xs 5)) (xga W0_0) (by decide) (by decide) rfl ?_
    refine i_287_445 (xga W0_128) (Nat.le_of_ble_eq_true rfl) (s_176_1 (xga W0_128) (by omega) (by omega) (by omega)) ?_
    refine i_287_448 (lv2 := [(6, Value.int 0), (5, Value.int 1), (4, Value.int 0), (3, Value.ref 194), (2, Value.ref 128), (1, Value.ref 7), (0, Value.ref 0)]) rfl ?_
    refine i_287_450 (x := 128) rfl ?_
    refine i_287_451 (xgs (xga (xgs (xga W0_128)))) (Nat.le_of_ble_eq_true rfl) (s_165_1 (xgs (xga (xgs (xga W0_128))))) ?_
    refine i_287_454 (x := 1) rfl ?_
    refine i_287_456 (fun _ => ?_) (fun h => absurd h (by decide))
    refine i_287_461 (x := 1) rfl ?_
    refine i_287_463 (fun _ => ?_) (fun h => absurd h (by decide))
    refine i_287_478 ?_
    refine i_287_2154 (x := 0) (c := 6) (lv2 := [(4, Value.int 6), (6, Value.int 0), (5, Value.int 1), (3, Value.ref 194), (2, Value.ref 128), (1, Value.ref 7), (0, Value.ref 0)]) rfl (by decide) rfl ?_
    refine i_287_2157 ?_
    refine i_287_23 (x := 6) rfl ?_
    refine i_287_25 (x := 0) rfl ?_
    refine i_287_26 (c := 6) (xgn (by decide) (xga (xgn (by decide) (xga W0_0)))) (by decide) ?_
    refine i_287_27 ?_
    refine i_287_29 (c := 0) (by decide) ?_
    refine i_287_30 (fun _ => ?_) (fun h => absurd h (by decide))
    refine i_287_2160 ?_
    exact i_287_2161 rfl ⟨rfl, rfl⟩
  · refine xLs.set ?_ (xga (xgs (xga W0_128))) xcs_o
    refine xLs.app (n := 219) (z := 199994) (m := 6) ?_ rfl
    refine xLs.set ?_ (xga W0_128) xcs_o
    refine xLs.app (n := 218) (z := 199988) (m := 6) ?_ rfl
    exact ⟨Nat.le_trans (Nat.le_of_eq W0_len) (by decide), Nat.le_trans (Nat.le_of_eq W0_sz) (by decide)⟩
theorem s_21_62 {d : Nat} {w : xW} {a0 : Int32} {b0 : Int64} {a1 : Int32} {a2 : Int32} (e0 : 0 ≤ a0.toInt) (e1 : a0.toInt < 16) (e2 : (-40000) ≤ a1.toInt) (e3 : 40000 < a1.toInt) : xRun (d + 6) 21 [Value.ref 7, Value.int a0, Value.long b0, Value.int a1, Value.int a2] w (.inr w.length) (w ++ [Sum.inr (14, [])]) := by
  refine xRun.of ?_
  refine i_21_0 (x := a0) rfl ?_
  refine i_21_1 (Nat.le_of_ble_eq_true rfl) (s_15_0 e0 e1) ?_
  refine i_21_4 (fun h => absurd h (by decide)) (fun _ => ?_)
  refine i_21_7 (x := a1) rfl ?_
  refine i_21_9 ?_
  refine i_21_11 (fun h => absurd e2 (Int.not_le.mpr h)) (fun _ => ?_)
  refine i_21_14 (x := a1) rfl ?_
  refine i_21_16 ?_
  refine i_21_18 (fun _ => ?_) (fun h => absurd e3 (Int.not_lt.mpr h))
  exact i_21_29 (by omega) (Nat.le_of_ble_eq_true rfl) ⟨rfl, rfl⟩
theorem s_20_62 {d : Nat} {w : xW} {a0 : Int32} {b0 : Int64} {a1 : Int32} {a2 : Int32} (hw0 : w[7]? = some (Sum.inr (0, [Value.ref 8, Value.ref 78, Value.ref 9, Value.ref 10, Value.ref 13, Value.ref 16, Value.ref 19, Value.ref 93, Value.ref 108, Value.ref 113, Value.ref 29, Value.int 0]))) (e1 : 0 ≤ a0.toInt) (e2 : a0.toInt < 16) (e3 : (-40000) ≤ a1.toInt) (e4 : 40000 < a1.toInt) : xRun (d + 7) 20 [Value.ref 7, Value.int a0, Value.long b0, Value.int a1, Value.int a2, Value.ref 194] w (.inl (some (Value.int 1))) (w ++ [Sum.inr (14, [])]) := by
  refine xRun.of ?_
  refine i_20_0 (x := 194) rfl ?_
  refine i_20_2 ?_
  refine i_20_3 (x := 7) rfl ?_
  refine i_20_4 (x := a0) rfl ?_
  refine i_20_5 (x := b0) rfl ?_
  refine i_20_6 (x := a1) rfl ?_
  refine i_20_8 (x := a2) rfl ?_
  refine j_20_10 hw0 (Nat.le_of_ble_eq_true rfl) (s_21_62 e1 e2 e3 e4) (xDone.c xgl rfl rfl ?_)
  refine i_20_18 (lv2 := [(7, Value.ref w.length), (0, Value.ref 7), (1, Value.int a0), (2, Value.long b0), (4, Value.int a1), (5, Value.int a2), (6, Value.ref 194)]) rfl ?_
  refine i_20_20 ?_
  exact i_20_21 ⟨rfl, rfl⟩
theorem s_169_5 {d : Nat} {w : xW} {a0 : Int32} (e0 : (-40000) ≤ a0.toInt) (e1 : 40000 < a0.toInt) : xRun d 169 [Value.int a0, Value.int (-40000), Value.int 40000] w (.inl (some (Value.int 0))) w := by
  refine xRun.of ?_
  refine i_169_0 (x := a0) rfl ?_
  refine i_169_1 (x := (-40000)) rfl ?_
  refine i_169_2 (fun h => absurd e0 (Int.not_le.mpr h)) (fun _ => ?_)
  refine i_169_5 (x := a0) rfl ?_
  refine i_169_6 (x := 40000) rfl ?_
  refine i_169_7 (fun _ => ?_) (fun h => absurd e1 (Int.not_lt.mpr h))
  refine i_169_14 ?_
  exact i_169_15 rfl ⟨rfl, rfl⟩
theorem s_177_2 {d : Nat} {w : xW} {a0 : Int32} {b0 : Int64} {a1 : Int32} {a2 : Int32} (e0 : 0 ≤ a0.toInt) (e1 : a0.toInt ≤ 15) (e2 : (-40000) ≤ a1.toInt) (e3 : 40000 < a1.toInt) : xRun (d + 7) 177 [Value.ref 128, Value.int a0, Value.long b0, Value.int a1, Value.int a2] w (.inr w.length) (w ++ [Sum.inr (14, [])]) := by
  refine xRun.of ?_
  refine i_177_0 (x := a0) rfl ?_
  refine i_177_1 (Nat.le_of_ble_eq_true rfl) (s_168_0 e0 e1) ?_
  refine i_177_4 (x := a1) rfl ?_
  refine i_177_6 ?_
  refine i_177_8 ?_
  refine i_177_10 (Nat.le_of_ble_eq_true rfl) (s_169_5 e2 e3) ?_
  exact j_177_13 (Nat.le_of_ble_eq_true rfl) (s_170_1) (xDone.t xgl rfl rfl ⟨rfl, rfl⟩)
theorem s_176_2 {d : Nat} {w : xW} {a0 : Int32} {b0 : Int64} {a1 : Int32} {a2 : Int32} (hw0 : w[128]? = some (Sum.inr (12, [Value.ref 129, Value.ref 131, Value.ref 133, Value.ref 135, Value.ref 137, Value.ref 139, Value.ref 141, Value.ref 143, Value.ref 145, Value.ref 147, Value.ref 149, Value.ref 151, Value.ref 153, Value.ref 154, Value.ref 155, Value.ref 156, Value.ref 157, Value.int (-16384), Value.int 16384, Value.int 0, Value.int 0, Value.int 0, Value.ref 158, Value.ref 159, Value.int 0, Value.int 0, Value.int 0, Value.int 0, Value.int 0, Value.int 0, Value.int 0, Value.int 0]))) (e1 : 0 ≤ a0.toInt) (e2 : a0.toInt ≤ 15) (e3 : (-40000) ≤ a1.toInt) (e4 : 40000 < a1.toInt) : xRun (d + 8) 176 [Value.ref 128, Value.int a0, Value.long b0, Value.int a1, Value.int a2] w (.inl (some (Value.int 0))) (((w.set 128 (Sum.inr (12, [Value.ref 129, Value.ref 131, Value.ref 133, Value.ref 135, Value.ref 137, Value.ref 139, Value.ref 141, Value.ref 143, Value.ref 145, Value.ref 147, Value.ref 149, Value.ref 151, Value.ref 153, Value.ref 154, Value.ref 155, Value.ref 156, Value.ref 157, Value.int (-16384), Value.int 16384, Value.int 0, Value.int 0, Value.int 0, Value.ref 158, Value.ref 159, Value.int 0, Value.int 0, Value.int 0, Value.int 0, Value.int 0, Value.int 0, Value.int 0, Value.int 0]))) ++ [Sum.inr (14, [])]).set 128 (Sum.inr (12, [Value.ref 129, Value.ref 131, Value.ref 133, Value.ref 135, Value.ref 137, Value.ref 139, Value.ref 141, Value.ref 143, Value.ref 145, Value.ref 147, Value.ref 149, Value.ref 151, Value.ref 153, Value.ref 154, Value.ref 155, Value.ref 156, Value.ref 157, Value.int (-16384), Value.int 16384, Value.int 0, Value.int 0, Value.int 0, Value.ref 158, Value.ref 159, Value.int 0, Value.int 0, Value.int 0, Value.int 0, Value.int 0, Value.int 0, Value.int 0, Value.int 1]))) := by
  refine xRun.of ?_
  refine i_176_0 (x := 128) rfl ?_
  refine i_176_1 ?_
  refine i_176_2 (fs2 := [Value.ref 129, Value.ref 131, Value.ref 133, Value.ref 135, Value.ref 137, Value.ref 139, Value.ref 141, Value.ref 143, Value.ref 145, Value.ref 147, Value.ref 149, Value.ref 151, Value.ref 153, Value.ref 154, Value.ref 155, Value.ref 156, Value.ref 157, Value.int (-16384), Value.int 16384, Value.int 0, Value.int 0, Value.int 0, Value.ref 158, Value.ref 159, Value.int 0, Value.int 0, Value.int 0, Value.int 0, Value.int 0, Value.int 0, Value.int 0, Value.int 0]) hw0 (Nat.le_of_ble_eq_true rfl) rfl (by decide) ?_
  refine i_176_5 (x := 128) rfl ?_
  refine i_176_6 (x := a0) rfl ?_
  refine i_176_7 (x := b0) rfl ?_
  refine i_176_8 (x := a1) rfl ?_
  refine i_176_10 (x := a2) rfl ?_
  refine j_176_12 (xgs hw0) (Nat.le_of_ble_eq_true rfl) (s_177_2 e1 e2 e3 e4) (xDone.c xgl rfl rfl ?_)
  refine i_176_16 (lv2 := [(6, Value.ref ((w.set 128 (Sum.inr (12, [Value.ref 129, Value.ref 131, Value.ref 133, Value.ref 135, Value.ref 137, Value.ref 139, Value.ref 141, Value.ref 143, Value.ref 145, Value.ref 147, Value.ref 149, Value.ref 151, Value.ref 153, Value.ref 154, Value.ref 155, Value.ref 156, Value.ref 157, Value.int (-16384), Value.int 16384, Value.int 0, Value.int 0, Value.int 0, Value.ref 158, Value.ref 159, Value.int 0, Value.int 0, Value.int 0, Value.int 0, Value.int 0, Value.int 0, Value.int 0, Value.int 0]))).length)), (0, Value.ref 128), (1, Value.int a0), (2, Value.long b0), (4, Value.int a1), (5, Value.int a2)]) rfl ?_
  refine i_176_18 (x := 128) rfl ?_
  refine i_176_19 ?_
  refine i_176_20 (fs2 := [Value.ref 129, Value.ref 131, Value.ref 133, Value.ref 135, Value.ref 137, Value.ref 139, Value.ref 141, Value.ref 143, Value.ref 145, Value.ref 147, Value.ref 149, Value.ref 151, Value.ref 153, Value.ref 154, Value.ref 155, Value.ref 156, Value.ref 157, Value.int (-16384), Value.int 16384, Value.int 0, Value.int 0, Value.int 0, Value.ref 158, Value.ref 159, Value.int 0, Value.int 0, Value.int 0, Value.int 0, Value.int 0, Value.int 0, Value.int 0, Value.int 1]) (xga (xgs hw0)) (Nat.le_of_ble_eq_true rfl) rfl (by decide) ?_
  refine i_176_23 ?_
  exact i_176_24 ⟨rfl, rfl⟩
theorem o_3_2 {d : Nat} {xs : Nat → Int32} (h0 : ((xs 0) &&& (31 : Int32)).toInt = 3) (c0 : 0 ≤ (xs 1).toInt) (c1 : (xs 1).toInt < 16) (c2 : (-40000) ≤ (xs 4).toInt) (c3 : 40000 < (xs 4).toInt) : ∃ w1, xEv (d + 20) 287 23 [(4, Value.int 0), (3, Value.ref 194), (2, Value.ref 128), (1, Value.ref 7), (0, Value.ref 0)] [] (W0 6 xs) (fun o' w' => o' = .inl (some (Value.int 1)) ∧ w' = w1) ∧ w1.length ≤ 220 ∧ xsz w1 ≤ 200000 := by
  refine ⟨(((((W0 6 xs) ++ [Sum.inr (14, [])]).set 128 (Sum.inr (12, [Value.ref 129, Value.ref 131, Value.ref 133, Value.ref 135, Value.ref 137, Value.ref 139, Value.ref 141, Value.ref 143, Value.ref 145, Value.ref 147, Value.ref 149, Value.ref 151, Value.ref 153, Value.ref 154, Value.ref 155, Value.ref 156, Value.ref 157, Value.int (-16384), Value.int 16384, Value.int 0, Value.int 0, Value.int 0, Value.ref 158, Value.ref 159, Value.int 0, Value.int 0, Value.int 0, Value.int 0, Value.int 0, Value.int 0, Value.int 0, Value.int 0]))) ++ [Sum.inr (14, [])]).set 128 (Sum.inr (12, [Value.ref 129, Value.ref 131, Value.ref 133, Value.ref 135, Value.ref 137, Value.ref 139, Value.ref 141, Value.ref 143, Value.ref 145, Value.ref 147, Value.ref 149, Value.ref 151, Value.ref 153, Value.ref 154, Value.ref 155, Value.ref 156, Value.ref 157, Value.int (-16384), Value.int 16384, Value.int 0, Value.int 0, Value.int 0, Value.ref 158, Value.ref 159, Value.int 0, Value.int 0, Value.int 0, Value.int 0, Value.int 0, Value.int 0, Value.int 0, Value.int 1]))), ?_, (show xLs _ 220 200000 from ?_)⟩
  · refine i_287_23 (x := 0) rfl ?_
    refine i_287_25 (x := 0) rfl ?_
    refine i_287_26 (c := 6) W0_0 (by decide) ?_
    refine i_287_27 ?_
    refine i_287_29 (c := 0) (by decide) ?_
    refine i_287_30 (fun h => absurd h (by decide)) (fun _ => ?_)
    refine i_287_33 (x := 0) rfl ?_
    refine i_287_34 (x := 0) rfl ?_
    refine i_287_36 (v := Value.int (xs 0)) W0_0 (by decide) (by decide) rfl ?_
    refine i_287_37 ?_
    refine i_287_39 (c := 3) (show ((xs 0) &&& (31 : Int32)) = 3 from (xge_c (n := 3) (by omega) rfl)) ?_
    refine i_287_40_3 rfl ?_
    refine i_287_357 (x := 7) rfl ?_
    refine i_287_358 (x := 0) rfl ?_
    refine i_287_359 (x := 0) rfl ?_
    refine i_287_361 ?_
    refine i_287_362 (c := 1) (by decide) ?_
    refine i_287_363 (v := Value.int (xs 1)) W0_0 (by decide) (by decide) rfl ?_
    refine i_287_364 (x := 0) rfl ?_
    refine i_287_365 (x := 0) rfl ?_
    refine i_287_367 ?_
    refine i_287_368 (c := 2) (by decide) ?_
    refine i_287_369 (v := Value.int (xs 2)) W0_0 (by decide) (by decide) rfl ?_
    refine i_287_370 (c := (xs 2).toInt64) rfl ?_
    refine i_287_371 ?_
    refine i_287_373 (c := (xsh (xs 2) (32 : Int32))) rfl ?_
    refine i_287_374 (x := 0) rfl ?_
    refine i_287_375 (x := 0) rfl ?_
    refine i_287_377 ?_
    refine i_287_378 (c := 3) (by decide) ?_
    refine i_287_379 (v := Value.int (xs 3)) W0_0 (by decide) (by decide) rfl ?_
    refine i_287_380 (c := (xs 3).toInt64) rfl ?_
    refine i_287_381 ?_
    refine i_287_384 (c := (((xs 3).toInt64) &&& (4294967295 : Int64))) rfl ?_
    refine i_287_385 (c := (xvv xs)) rfl ?_
    refine i_287_386 (x := 0) rfl ?_
    refine i_287_387 (x := 0) rfl ?_
    refine i_287_389 ?_
    refine i_287_390 (c := 4) (by decide) ?_
    refine i_287_391 (v := Value.int (xs 4)) W0_0 (by decide) (by decide) rfl ?_
    refine i_287_392 (x := 0) rfl ?_
    refine i_287_393 (x := 0) rfl ?_
    refine i_287_395 ?_
    refine i_287_396 (c := 5) (by decide) ?_
    refine i_287_397 (v := Value.int (xs 5)) W0_0 (by decide) (by decide) rfl ?_
    refine i_287_398 (x := 194) rfl ?_
    refine i_287_399 (Nat.le_of_ble_eq_true rfl) (s_20_62 W0_7 (by omega) (by omega) (by omega) (by omega)) ?_
    refine i_287_402 (lv2 := [(5, Value.int 1), (4, Value.int 0), (3, Value.ref 194), (2, Value.ref 128), (1, Value.ref 7), (0, Value.ref 0)]) rfl ?_
    refine i_287_404 (x := 128) rfl ?_
    refine i_287_405 (x := 0) rfl ?_
    refine i_287_406 (x := 0) rfl ?_
    refine i_287_408 ?_
    refine i_287_409 (c := 1) (by decide) ?_
    refine i_287_410 (v := Value.int (xs 1)) (xga W0_0) (by decide) (by decide) rfl ?_
    refine i_287_411 (x := 0) rfl ?_
    refine i_287_412 (x := 0) rfl ?_
    refine i_287_414 ?_
    refine i_287_415 (c := 2) (by decide) ?_
    refine i_287_416 (v := Value.int (xs 2)) (xga W0_0) (by decide) (by decide) rfl ?_
    refine i_287_417 (c := (xs 2).toInt64) rfl ?_
    refine i_287_418 ?_
    refine i_287_420 (c := (xsh (xs 2) (32 : Int32))) rfl ?_
    refine i_287_421 (x := 0) rfl ?_
    refine i_287_422 (x := 0) rfl ?_
    refine i_287_424 ?_
    refine i_287_425 (c := 3) (by decide) ?_
    refine i_287_426 (v := Value.int (xs 3)) (xga W0_0) (by decide) (by decide) rfl ?_
    refine i_287_427 (c := (xs 3).toInt64) rfl ?_
    refine i_287_428 ?_
    refine i_287_431 (c := (((xs 3).toInt64) &&& (4294967295 : Int64))) rfl ?_
    refine i_287_432 (c := (xvv xs)) rfl ?_
    refine i_287_433 (x := 0) rfl ?_
    refine i_287_434 (x := 0) rfl ?_
    refine i_287_436 ?_
    refine i_287_437 (c := 4) (by decide) ?_
    refine i_287_438 (v := Value.int (xs 4)) (xga W0_0) (by decide) (by decide) rfl ?_
    refine i_287_439 (x := 0) rfl ?_
    refine i_287_440 (x := 0) rfl ?_
    refine i_287_442 ?_
    refine i_287_443 (c := 5) (by decide) ?_
    refine i_287_444 (v := Value.int (xs 5)) (xga W0_0) (by decide) (by decide) rfl ?_
    refine i_287_445 (xga W0_128) (Nat.le_of_ble_eq_true rfl) (s_176_2 (xga W0_128) (by omega) (by omega) (by omega) (by omega)) ?_
    refine i_287_448 (lv2 := [(6, Value.int 0), (5, Value.int 1), (4, Value.int 0), (3, Value.ref 194), (2, Value.ref 128), (1, Value.ref 7), (0, Value.ref 0)]) rfl ?_
    refine i_287_450 (x := 128) rfl ?_
    refine i_287_451 (xgs (xga (xgs (xga W0_128)))) (Nat.le_of_ble_eq_true rfl) (s_165_1 (xgs (xga (xgs (xga W0_128))))) ?_
    refine i_287_454 (x := 1) rfl ?_
    refine i_287_456 (fun _ => ?_) (fun h => absurd h (by decide))
    refine i_287_461 (x := 1) rfl ?_
    refine i_287_463 (fun _ => ?_) (fun h => absurd h (by decide))
    refine i_287_478 ?_
    refine i_287_2154 (x := 0) (c := 6) (lv2 := [(4, Value.int 6), (6, Value.int 0), (5, Value.int 1), (3, Value.ref 194), (2, Value.ref 128), (1, Value.ref 7), (0, Value.ref 0)]) rfl (by decide) rfl ?_
    refine i_287_2157 ?_
    refine i_287_23 (x := 6) rfl ?_
    refine i_287_25 (x := 0) rfl ?_
    refine i_287_26 (c := 6) (xgn (by decide) (xga (xgn (by decide) (xga W0_0)))) (by decide) ?_
    refine i_287_27 ?_
    refine i_287_29 (c := 0) (by decide) ?_
    refine i_287_30 (fun _ => ?_) (fun h => absurd h (by decide))
    refine i_287_2160 ?_
    exact i_287_2161 rfl ⟨rfl, rfl⟩
  · refine xLs.set ?_ (xga (xgs (xga W0_128))) xcs_o
    refine xLs.app (n := 219) (z := 199994) (m := 6) ?_ rfl
    refine xLs.set ?_ (xga W0_128) xcs_o
    refine xLs.app (n := 218) (z := 199988) (m := 6) ?_ rfl
    exact ⟨Nat.le_trans (Nat.le_of_eq W0_len) (by decide), Nat.le_trans (Nat.le_of_eq W0_sz) (by decide)⟩
theorem s_22_1 {d : Nat} {w : xW} {a0 : Int32} (e0 : a0.toInt < 0) : xRun d 22 [Value.int a0] w (.inl (some (Value.int 1))) w := by
  refine xRun.of ?_
  refine i_22_0 (x := a0) rfl ?_
  refine i_22_1 (fun _ => ?_) (fun h => absurd e0 (Int.not_lt.mpr h))
  refine i_22_9 ?_
  refine i_22_10 ?_
  exact i_22_14 rfl ⟨rfl, rfl⟩
theorem s_21_63 {d : Nat} {w : xW} {a0 : Int32} {b0 : Int64} {a1 : Int32} {a2 : Int32} (e0 : 0 ≤ a0.toInt) (e1 : a0.toInt < 16) (e2 : (-40000) ≤ a1.toInt) (e3 : a1.toInt ≤ 40000) (e4 : a2.toInt < 0) : xRun (d + 6) 21 [Value.ref 7, Value.int a0, Value.long b0, Value.int a1, Value.int a2] w (.inr w.length) (w ++ [Sum.inr (14, [])]) := by
  refine xRun.of ?_
  refine i_21_0 (x := a0) rfl ?_
  refine i_21_1 (Nat.le_of_ble_eq_true rfl) (s_15_0 e0 e1) ?_
  refine i_21_4 (fun h => absurd h (by decide)) (fun _ => ?_)
  refine i_21_7 (x := a1) rfl ?_
  refine i_21_9 ?_
  refine i_21_11 (fun h => absurd e2 (Int.not_le.mpr h)) (fun _ => ?_)
  refine i_21_14 (x := a1) rfl ?_
  refine i_21_16 ?_
  refine i_21_18 (fun h => absurd e3 (Int.not_le.mpr h)) (fun _ => ?_)
  refine i_21_21 (x := a2) rfl ?_
  refine i_21_23 (Nat.le_of_ble_eq_true rfl) (s_22_1 e4) ?_
  refine i_21_26 (fun h => absurd h (by decide)) (fun _ => ?_)
  exact i_21_29 (by omega) (Nat.le_of_ble_eq_true rfl) ⟨rfl, rfl⟩
theorem s_20_63 {d : Nat} {w : xW} {a0 : Int32} {b0 : Int64} {a1 : Int32} {a2 : Int32} (hw0 : w[7]? = some (Sum.inr (0, [Value.ref 8, Value.ref 78, Value.ref 9, Value.ref 10, Value.ref 13, Value.ref 16, Value.ref 19, Value.ref 93, Value.ref 108, Value.ref 113, Value.ref 29, Value.int 0]))) (e1 : 0 ≤ a0.toInt) (e2 : a0.toInt < 16) (e3 : (-40000) ≤ a1.toInt) (e4 : a1.toInt ≤ 40000) (e5 : a2.toInt < 0) : xRun (d + 7) 20 [Value.ref 7, Value.int a0, Value.long b0, Value.int a1, Value.int a2, Value.ref 194] w (.inl (some (Value.int 1))) (w ++ [Sum.inr (14, [])]) := by
  refine xRun.of ?_
  refine i_20_0 (x := 194) rfl ?_
  refine i_20_2 ?_
  refine i_20_3 (x := 7) rfl ?_
  refine i_20_4 (x := a0) rfl ?_
  refine i_20_5 (x := b0) rfl ?_
  refine i_20_6 (x := a1) rfl ?_
  refine i_20_8 (x := a2) rfl ?_
  refine j_20_10 hw0 (Nat.le_of_ble_eq_true rfl) (s_21_63 e1 e2 e3 e4 e5) (xDone.c xgl rfl rfl ?_)
  refine i_20_18 (lv2 := [(7, Value.ref w.length), (0, Value.ref 7), (1, Value.int a0), (2, Value.long b0), (4, Value.int a1), (5, Value.int a2), (6, Value.ref 194)]) rfl ?_
  refine i_20_20 ?_
  exact i_20_21 ⟨rfl, rfl⟩
theorem s_169_6 {d : Nat} {w : xW} {a0 : Int32} (e0 : a0.toInt < 0) : xRun d 169 [Value.int a0, Value.int 0, Value.int 4] w (.inl (some (Value.int 0))) w := by
  refine xRun.of ?_
  refine i_169_0 (x := a0) rfl ?_
  refine i_169_1 (x := 0) rfl ?_
  refine i_169_2 (fun _ => ?_) (fun h => absurd e0 (Int.not_lt.mpr h))
  refine i_169_14 ?_
  exact i_169_15 rfl ⟨rfl, rfl⟩
theorem s_178_1 {d : Nat} {w : xW} {a0 : Int32} (e0 : a0.toInt < 0) : xRun (d + 7) 178 [Value.int a0] w (.inr w.length) (w ++ [Sum.inr (14, [])]) := by
  refine xRun.of ?_
  refine i_178_0 (x := a0) rfl ?_
  refine i_178_1 ?_
  refine i_178_2 ?_
  refine i_178_3 (Nat.le_of_ble_eq_true rfl) (s_169_6 e0) ?_
  exact j_178_6 (Nat.le_of_ble_eq_true rfl) (s_170_1) (xDone.t xgl rfl rfl ⟨rfl, rfl⟩)
theorem s_177_3 {d : Nat} {w : xW} {a0 : Int32} {b0 : Int64} {a1 : Int32} {a2 : Int32} (e0 : 0 ≤ a0.toInt) (e1 : a0.toInt ≤ 15) (e2 : (-40000) ≤ a1.toInt) (e3 : a1.toInt ≤ 40000) (e4 : a2.toInt < 0) : xRun (d + 8) 177 [Value.ref 128, Value.int a0, Value.long b0, Value.int a1, Value.int a2] w (.inr w.length) (w ++ [Sum.inr (14, [])]) := by
  refine xRun.of ?_
  refine i_177_0 (x := a0) rfl ?_
  refine i_177_1 (Nat.le_of_ble_eq_true rfl) (s_168_0 e0 e1) ?_
  refine i_177_4 (x := a1) rfl ?_
  refine i_177_6 ?_
  refine i_177_8 ?_
  refine i_177_10 (Nat.le_of_ble_eq_true rfl) (s_169_1 e2 e3) ?_
  refine i_177_13 (Nat.le_of_ble_eq_true rfl) (s_170_0) ?_
  refine i_177_16 (x := a2) rfl ?_
  exact j_177_18 (Nat.le_of_ble_eq_true rfl) (s_178_1 e4) (xDone.t xgl rfl rfl ⟨rfl, rfl⟩)
theorem s_176_3 {d : Nat} {w : xW} {a0 : Int32} {b0 : Int64} {a1 : Int32} {a2 : Int32} (hw0 : w[128]? = some (Sum.inr (12, [Value.ref 129, Value.ref 131, Value.ref 133, Value.ref 135, Value.ref 137, Value.ref 139, Value.ref 141, Value.ref 143, Value.ref 145, Value.ref 147, Value.ref 149, Value.ref 151, Value.ref 153, Value.ref 154, Value.ref 155, Value.ref 156, Value.ref 157, Value.int (-16384), Value.int 16384, Value.int 0, Value.int 0, Value.int 0, Value.ref 158, Value.ref 159, Value.int 0, Value.int 0, Value.int 0, Value.int 0, Value.int 0, Value.int 0, Value.int 0, Value.int 0]))) (e1 : 0 ≤ a0.toInt) (e2 : a0.toInt ≤ 15) (e3 : (-40000) ≤ a1.toInt) (e4 : a1.toInt ≤ 40000) (e5 : a2.toInt < 0) : xRun (d + 9) 176 [Value.ref 128, Value.int a0, Value.long b0, Value.int a1, Value.int a2] w (.inl (some (Value.int 0))) (((w.set 128 (Sum.inr (12, [Value.ref 129, Value.ref 131, Value.ref 133, Value.ref 135, Value.ref 137, Value.ref 139, Value.ref 141, Value.ref 143, Value.ref 145, Value.ref 147, Value.ref 149, Value.ref 151, Value.ref 153, Value.ref 154, Value.ref 155, Value.ref 156, Value.ref 157, Value.int (-16384), Value.int 16384, Value.int 0, Value.int 0, Value.int 0, Value.ref 158, Value.ref 159, Value.int 0, Value.int 0, Value.int 0, Value.int 0, Value.int 0, Value.int 0, Value.int 0, Value.int 0]))) ++ [Sum.inr (14, [])]).set 128 (Sum.inr (12, [Value.ref 129, Value.ref 131, Value.ref 133, Value.ref 135, Value.ref 137, Value.ref 139, Value.ref 141, Value.ref 143, Value.ref 145, Value.ref 147, Value.ref 149, Value.ref 151, Value.ref 153, Value.ref 154, Value.ref 155, Value.ref 156, Value.ref 157, Value.int (-16384), Value.int 16384, Value.int 0, Value.int 0, Value.int 0, Value.ref 158, Value.ref 159, Value.int 0, Value.int 0, Value.int 0, Value.int 0, Value.int 0, Value.int 0, Value.int 0, Value.int 1]))) := by
  refine xRun.of ?_
  refine i_176_0 (x := 128) rfl ?_
  refine i_176_1 ?_
  refine i_176_2 (fs2 := [Value.ref 129, Value.ref 131, Value.ref 133, Value.ref 135, Value.ref 137, Value.ref 139, Value.ref 141, Value.ref 143, Value.ref 145, Value.ref 147, Value.ref 149, Value.ref 151, Value.ref 153, Value.ref 154, Value.ref 155, Value.ref 156, Value.ref 157, Value.int (-16384), Value.int 16384, Value.int 0, Value.int 0, Value.int 0, Value.ref 158, Value.ref 159, Value.int 0, Value.int 0, Value.int 0, Value.int 0, Value.int 0, Value.int 0, Value.int 0, Value.int 0]) hw0 (Nat.le_of_ble_eq_true rfl) rfl (by decide) ?_
  refine i_176_5 (x := 128) rfl ?_
  refine i_176_6 (x := a0) rfl ?_
  refine i_176_7 (x := b0) rfl ?_
  refine i_176_8 (x := a1) rfl ?_
  refine i_176_10 (x := a2) rfl ?_
  refine j_176_12 (xgs hw0) (Nat.le_of_ble_eq_true rfl) (s_177_3 e1 e2 e3 e4 e5) (xDone.c xgl rfl rfl ?_)
  refine i_176_16 (lv2 := [(6, Value.ref ((w.set 128 (Sum.inr (12, [Value.ref 129, Value.ref 131, Value.ref 133, Value.ref 135, Value.ref 137, Value.ref 139, Value.ref 141, Value.ref 143, Value.ref 145, Value.ref 147, Value.ref 149, Value.ref 151, Value.ref 153, Value.ref 154, Value.ref 155, Value.ref 156, Value.ref 157, Value.int (-16384), Value.int 16384, Value.int 0, Value.int 0, Value.int 0, Value.ref 158, Value.ref 159, Value.int 0, Value.int 0, Value.int 0, Value.int 0, Value.int 0, Value.int 0, Value.int 0, Value.int 0]))).length)), (0, Value.ref 128), (1, Value.int a0), (2, Value.long b0), (4, Value.int a1), (5, Value.int a2)]) rfl ?_
  refine i_176_18 (x := 128) rfl ?_
  refine i_176_19 ?_
  refine i_176_20 (fs2 := [Value.ref 129, Value.ref 131, Value.ref 133, Value.ref 135, Value.ref 137, Value.ref 139, Value.ref 141, Value.ref 143, Value.ref 145, Value.ref 147, Value.ref 149, Value.ref 151, Value.ref 153, Value.ref 154, Value.ref 155, Value.ref 156, Value.ref 157, Value.int (-16384), Value.int 16384, Value.int 0, Value.int 0, Value.int 0, Value.ref 158, Value.ref 159, Value.int 0, Value.int 0, Value.int 0, Value.int 0, Value.int 0, Value.int 0, Value.int 0, Value.int 1]) (xga (xgs hw0)) (Nat.le_of_ble_eq_true rfl) rfl (by decide) ?_
  refine i_176_23 ?_
  exact i_176_24 ⟨rfl, rfl⟩
theorem o_3_3 {d : Nat} {xs : Nat → Int32} (h0 : ((xs 0) &&& (31 : Int32)).toInt = 3) (c0 : 0 ≤ (xs 1).toInt) (c1 : (xs 1).toInt < 16) (c2 : (-40000) ≤ (xs 4).toInt) (c3 : (xs 4).toInt ≤ 40000) (c4 : (xs 5).toInt < 0) : ∃ w1, xEv (d + 20) 287 23 [(4, Value.int 0), (3, Value.ref 194), (2, Value.ref 128), (1, Value.ref 7), (0, Value.ref 0)] [] (W0 6 xs) (fun o' w' => o' = .inl (some (Value.int 1)) ∧ w' = w1) ∧ w1.length ≤ 220 ∧ xsz w1 ≤ 200000 := by
  refine ⟨(((((W0 6 xs) ++ [Sum.inr (14, [])]).set 128 (Sum.inr (12, [Value.ref 129, Value.ref 131, Value.ref 133, Value.ref 135, Value.ref 137, Value.ref 139, Value.ref 141, Value.ref 143, Value.ref 145, Value.ref 147, Value.ref 149, Value.ref 151, Value.ref 153, Value.ref 154, Value.ref 155, Value.ref 156, Value.ref 157, Value.int (-16384), Value.int 16384, Value.int 0, Value.int 0, Value.int 0, Value.ref 158, Value.ref 159, Value.int 0, Value.int 0, Value.int 0, Value.int 0, Value.int 0, Value.int 0, Value.int 0, Value.int 0]))) ++ [Sum.inr (14, [])]).set 128 (Sum.inr (12, [Value.ref 129, Value.ref 131, Value.ref 133, Value.ref 135, Value.ref 137, Value.ref 139, Value.ref 141, Value.ref 143, Value.ref 145, Value.ref 147, Value.ref 149, Value.ref 151, Value.ref 153, Value.ref 154, Value.ref 155, Value.ref 156, Value.ref 157, Value.int (-16384), Value.int 16384, Value.int 0, Value.int 0, Value.int 0, Value.ref 158, Value.ref 159, Value.int 0, Value.int 0, Value.int 0, Value.int 0, Value.int 0, Value.int 0, Value.int 0, Value.int 1]))), ?_, (show xLs _ 220 200000 from ?_)⟩
  · refine i_287_23 (x := 0) rfl ?_
    refine i_287_25 (x := 0) rfl ?_
    refine i_287_26 (c := 6) W0_0 (by decide) ?_
    refine i_287_27 ?_
    refine i_287_29 (c := 0) (by decide) ?_
    refine i_287_30 (fun h => absurd h (by decide)) (fun _ => ?_)
    refine i_287_33 (x := 0) rfl ?_
    refine i_287_34 (x := 0) rfl ?_
    refine i_287_36 (v := Value.int (xs 0)) W0_0 (by decide) (by decide) rfl ?_
    refine i_287_37 ?_
    refine i_287_39 (c := 3) (show ((xs 0) &&& (31 : Int32)) = 3 from (xge_c (n := 3) (by omega) rfl)) ?_
    refine i_287_40_3 rfl ?_
    refine i_287_357 (x := 7) rfl ?_
    refine i_287_358 (x := 0) rfl ?_
    refine i_287_359 (x := 0) rfl ?_
    refine i_287_361 ?_
    refine i_287_362 (c := 1) (by decide) ?_
    refine i_287_363 (v := Value.int (xs 1)) W0_0 (by decide) (by decide) rfl ?_
    refine i_287_364 (x := 0) rfl ?_
    refine i_287_365 (x := 0) rfl ?_
    refine i_287_367 ?_
    refine i_287_368 (c := 2) (by decide) ?_
    refine i_287_369 (v := Value.int (xs 2)) W0_0 (by decide) (by decide) rfl ?_
    refine i_287_370 (c := (xs 2).toInt64) rfl ?_
    refine i_287_371 ?_
    refine i_287_373 (c := (xsh (xs 2) (32 : Int32))) rfl ?_
    refine i_287_374 (x := 0) rfl ?_
    refine i_287_375 (x := 0) rfl ?_
    refine i_287_377 ?_
    refine i_287_378 (c := 3) (by decide) ?_
    refine i_287_379 (v := Value.int (xs 3)) W0_0 (by decide) (by decide) rfl ?_
    refine i_287_380 (c := (xs 3).toInt64) rfl ?_
    refine i_287_381 ?_
    refine i_287_384 (c := (((xs 3).toInt64) &&& (4294967295 : Int64))) rfl ?_
    refine i_287_385 (c := (xvv xs)) rfl ?_
    refine i_287_386 (x := 0) rfl ?_
    refine i_287_387 (x := 0) rfl ?_
    refine i_287_389 ?_
    refine i_287_390 (c := 4) (by decide) ?_
    refine i_287_391 (v := Value.int (xs 4)) W0_0 (by decide) (by decide) rfl ?_
    refine i_287_392 (x := 0) rfl ?_
    refine i_287_393 (x := 0) rfl ?_
    refine i_287_395 ?_
    refine i_287_396 (c := 5) (by decide) ?_
    refine i_287_397 (v := Value.int (xs 5)) W0_0 (by decide) (by decide) rfl ?_
    refine i_287_398 (x := 194) rfl ?_
    refine i_287_399 (Nat.le_of_ble_eq_true rfl) (s_20_63 W0_7 (by omega) (by omega) (by omega) (by omega) (by omega)) ?_
    refine i_287_402 (lv2 := [(5, Value.int 1), (4, Value.int 0), (3, Value.ref 194), (2, Value.ref 128), (1, Value.ref 7), (0, Value.ref 0)]) rfl ?_
    refine i_287_404 (x := 128) rfl ?_
    refine i_287_405 (x := 0) rfl ?_
    refine i_287_406 (x := 0) rfl ?_
    refine i_287_408 ?_
    refine i_287_409 (c := 1) (by decide) ?_
    refine i_287_410 (v := Value.int (xs 1)) (xga W0_0) (by decide) (by decide) rfl ?_
    refine i_287_411 (x := 0) rfl ?_
    refine i_287_412 (x := 0) rfl ?_
    refine i_287_414 ?_
    refine i_287_415 (c := 2) (by decide) ?_
    refine i_287_416 (v := Value.int (xs 2)) (xga W0_0) (by decide) (by decide) rfl ?_
    refine i_287_417 (c := (xs 2).toInt64) rfl ?_
    refine i_287_418 ?_
    refine i_287_420 (c := (xsh (xs 2) (32 : Int32))) rfl ?_
    refine i_287_421 (x := 0) rfl ?_
    refine i_287_422 (x := 0) rfl ?_
    refine i_287_424 ?_
    refine i_287_425 (c := 3) (by decide) ?_
    refine i_287_426 (v := Value.int (xs 3)) (xga W0_0) (by decide) (by decide) rfl ?_
    refine i_287_427 (c := (xs 3).toInt64) rfl ?_
    refine i_287_428 ?_
    refine i_287_431 (c := (((xs 3).toInt64) &&& (4294967295 : Int64))) rfl ?_
    refine i_287_432 (c := (xvv xs)) rfl ?_
    refine i_287_433 (x := 0) rfl ?_
    refine i_287_434 (x := 0) rfl ?_
    refine i_287_436 ?_
    refine i_287_437 (c := 4) (by decide) ?_
    refine i_287_438 (v := Value.int (xs 4)) (xga W0_0) (by decide) (by decide) rfl ?_
    refine i_287_439 (x := 0) rfl ?_
    refine i_287_440 (x := 0) rfl ?_
    refine i_287_442 ?_
    refine i_287_443 (c := 5) (by decide) ?_
    refine i_287_444 (v := Value.int (xs 5)) (xga W0_0) (by decide) (by decide) rfl ?_
    refine i_287_445 (xga W0_128) (Nat.le_of_ble_eq_true rfl) (s_176_3 (xga W0_128) (by omega) (by omega) (by omega) (by omega) (by omega)) ?_
    refine i_287_448 (lv2 := [(6, Value.int 0), (5, Value.int 1), (4, Value.int 0), (3, Value.ref 194), (2, Value.ref 128), (1, Value.ref 7), (0, Value.ref 0)]) rfl ?_
    refine i_287_450 (x := 128) rfl ?_
    refine i_287_451 (xgs (xga (xgs (xga W0_128)))) (Nat.le_of_ble_eq_true rfl) (s_165_1 (xgs (xga (xgs (xga W0_128))))) ?_
    refine i_287_454 (x := 1) rfl ?_
    refine i_287_456 (fun _ => ?_) (fun h => absurd h (by decide))
    refine i_287_461 (x := 1) rfl ?_
    refine i_287_463 (fun _ => ?_) (fun h => absurd h (by decide))
    refine i_287_478 ?_
    refine i_287_2154 (x := 0) (c := 6) (lv2 := [(4, Value.int 6), (6, Value.int 0), (5, Value.int 1), (3, Value.ref 194), (2, Value.ref 128), (1, Value.ref 7), (0, Value.ref 0)]) rfl (by decide) rfl ?_
    refine i_287_2157 ?_
    refine i_287_23 (x := 6) rfl ?_
    refine i_287_25 (x := 0) rfl ?_
    refine i_287_26 (c := 6) (xgn (by decide) (xga (xgn (by decide) (xga W0_0)))) (by decide) ?_
    refine i_287_27 ?_
    refine i_287_29 (c := 0) (by decide) ?_
    refine i_287_30 (fun _ => ?_) (fun h => absurd h (by decide))
    refine i_287_2160 ?_
    exact i_287_2161 rfl ⟨rfl, rfl⟩
  · refine xLs.set ?_ (xga (xgs (xga W0_128))) xcs_o
    refine xLs.app (n := 219) (z := 199994) (m := 6) ?_ rfl
    refine xLs.set ?_ (xga W0_128) xcs_o
    refine xLs.app (n := 218) (z := 199988) (m := 6) ?_ rfl
    exact ⟨Nat.le_trans (Nat.le_of_eq W0_len) (by decide), Nat.le_trans (Nat.le_of_eq W0_sz) (by decide)⟩
theorem s_22_2 {d : Nat} {w : xW} {a0 : Int32} (e0 : 0 ≤ a0.toInt) (e1 : 4 < a0.toInt) : xRun d 22 [Value.int a0] w (.inl (some (Value.int 1))) w := by
  refine xRun.of ?_
  refine i_22_0 (x := a0) rfl ?_
  refine i_22_1 (fun h => absurd e0 (Int.not_le.mpr h)) (fun _ => ?_)
  refine i_22_4 (x := a0) rfl ?_
  refine i_22_5 ?_
  refine i_22_6 (fun h => absurd e1 (Int.not_lt.mpr h)) (fun _ => ?_)
  refine i_22_9 ?_
  refine i_22_10 ?_
  exact i_22_14 rfl ⟨rfl, rfl⟩
theorem s_21_64 {d : Nat} {w : xW} {a0 : Int32} {b0 : Int64} {a1 : Int32} {a2 : Int32} (e0 : 0 ≤ a0.toInt) (e1 : a0.toInt < 16) (e2 : (-40000) ≤ a1.toInt) (e3 : a1.toInt ≤ 40000) (e4 : 0 ≤ a2.toInt) (e5 : 4 < a2.toInt) : xRun (d + 6) 21 [Value.ref 7, Value.int a0, Value.long b0, Value.int a1, Value.int a2] w (.inr w.length) (w ++ [Sum.inr (14, [])]) := by
  refine xRun.of ?_
  refine i_21_0 (x := a0) rfl ?_
  refine i_21_1 (Nat.le_of_ble_eq_true rfl) (s_15_0 e0 e1) ?_
  refine i_21_4 (fun h => absurd h (by decide)) (fun _ => ?_)
  refine i_21_7 (x := a1) rfl ?_
  refine i_21_9 ?_
  refine i_21_11 (fun h => absurd e2 (Int.not_le.mpr h)) (fun _ => ?_)
  refine i_21_14 (x := a1) rfl ?_
  refine i_21_16 ?_
  refine i_21_18 (fun h => absurd e3 (Int.not_le.mpr h)) (fun _ => ?_)
  refine i_21_21 (x := a2) rfl ?_
  refine i_21_23 (Nat.le_of_ble_eq_true rfl) (s_22_2 e4 e5) ?_
  refine i_21_26 (fun h => absurd h (by decide)) (fun _ => ?_)
  exact i_21_29 (by omega) (Nat.le_of_ble_eq_true rfl) ⟨rfl, rfl⟩
theorem s_20_64 {d : Nat} {w : xW} {a0 : Int32} {b0 : Int64} {a1 : Int32} {a2 : Int32} (hw0 : w[7]? = some (Sum.inr (0, [Value.ref 8, Value.ref 78, Value.ref 9, Value.ref 10, Value.ref 13, Value.ref 16, Value.ref 19, Value.ref 93, Value.ref 108, Value.ref 113, Value.ref 29, Value.int 0]))) (e1 : 0 ≤ a0.toInt) (e2 : a0.toInt < 16) (e3 : (-40000) ≤ a1.toInt) (e4 : a1.toInt ≤ 40000) (e5 : 0 ≤ a2.toInt) (e6 : 4 < a2.toInt) : xRun (d + 7) 20 [Value.ref 7, Value.int a0, Value.long b0, Value.int a1, Value.int a2, Value.ref 194] w (.inl (some (Value.int 1))) (w ++ [Sum.inr (14, [])]) := by
  refine xRun.of ?_
  refine i_20_0 (x := 194) rfl ?_
  refine i_20_2 ?_
  refine i_20_3 (x := 7) rfl ?_
  refine i_20_4 (x := a0) rfl ?_
  refine i_20_5 (x := b0) rfl ?_
  refine i_20_6 (x := a1) rfl ?_
  refine i_20_8 (x := a2) rfl ?_
  refine j_20_10 hw0 (Nat.le_of_ble_eq_true rfl) (s_21_64 e1 e2 e3 e4 e5 e6) (xDone.c xgl rfl rfl ?_)
  refine i_20_18 (lv2 := [(7, Value.ref w.length), (0, Value.ref 7), (1, Value.int a0), (2, Value.long b0), (4, Value.int a1), (5, Value.int a2), (6, Value.ref 194)]) rfl ?_
  refine i_20_20 ?_
  exact i_20_21 ⟨rfl, rfl⟩
theorem s_169_7 {d : Nat} {w : xW} {a0 : Int32} (e0 : 0 ≤ a0.toInt) (e1 : 4 < a0.toInt) : xRun d 169 [Value.int a0, Value.int 0, Value.int 4] w (.inl (some (Value.int 0))) w := by
  refine xRun.of ?_
  refine i_169_0 (x := a0) rfl ?_
  refine i_169_1 (x := 0) rfl ?_
  refine i_169_2 (fun h => absurd e0 (Int.not_le.mpr h)) (fun _ => ?_)
  refine i_169_5 (x := a0) rfl ?_
  refine i_169_6 (x := 4) rfl ?_
  refine i_169_7 (fun _ => ?_) (fun h => absurd e1 (Int.not_lt.mpr h))
  refine i_169_14 ?_
  exact i_169_15 rfl ⟨rfl, rfl⟩
theorem s_178_2 {d : Nat} {w : xW} {a0 : Int32} (e0 : 0 ≤ a0.toInt) (e1 : 4 < a0.toInt) : xRun (d + 7) 178 [Value.int a0] w (.inr w.length) (w ++ [Sum.inr (14, [])]) := by
  refine xRun.of ?_
  refine i_178_0 (x := a0) rfl ?_
  refine i_178_1 ?_
  refine i_178_2 ?_
  refine i_178_3 (Nat.le_of_ble_eq_true rfl) (s_169_7 e0 e1) ?_
  exact j_178_6 (Nat.le_of_ble_eq_true rfl) (s_170_1) (xDone.t xgl rfl rfl ⟨rfl, rfl⟩)
theorem s_177_4 {d : Nat} {w : xW} {a0 : Int32} {b0 : Int64} {a1 : Int32} {a2 : Int32} (e0 : 0 ≤ a0.toInt) (e1 : a0.toInt ≤ 15) (e2 : (-40000) ≤ a1.toInt) (e3 : a1.toInt ≤ 40000) (e4 : 0 ≤ a2.toInt) (e5 : 4 < a2.toInt) : xRun (d + 8) 177 [Value.ref 128, Value.int a0, Value.long b0, Value.int a1, Value.int a2] w (.inr w.length) (w ++ [Sum.inr (14, [])]) := by
  refine xRun.of ?_
  refine i_177_0 (x := a0) rfl ?_
  refine i_177_1 (Nat.le_of_ble_eq_true rfl) (s_168_0 e0 e1) ?_
  refine i_177_4 (x := a1) rfl ?_
  refine i_177_6 ?_
  refine i_177_8 ?_
  refine i_177_10 (Nat.le_of_ble_eq_true rfl) (s_169_1 e2 e3) ?_
  refine i_177_13 (Nat.le_of_ble_eq_true rfl) (s_170_0) ?_
  refine i_177_16 (x := a2) rfl ?_
  exact j_177_18 (Nat.le_of_ble_eq_true rfl) (s_178_2 e4 e5) (xDone.t xgl rfl rfl ⟨rfl, rfl⟩)
theorem s_176_4 {d : Nat} {w : xW} {a0 : Int32} {b0 : Int64} {a1 : Int32} {a2 : Int32} (hw0 : w[128]? = some (Sum.inr (12, [Value.ref 129, Value.ref 131, Value.ref 133, Value.ref 135, Value.ref 137, Value.ref 139, Value.ref 141, Value.ref 143, Value.ref 145, Value.ref 147, Value.ref 149, Value.ref 151, Value.ref 153, Value.ref 154, Value.ref 155, Value.ref 156, Value.ref 157, Value.int (-16384), Value.int 16384, Value.int 0, Value.int 0, Value.int 0, Value.ref 158, Value.ref 159, Value.int 0, Value.int 0, Value.int 0, Value.int 0, Value.int 0, Value.int 0, Value.int 0, Value.int 0]))) (e1 : 0 ≤ a0.toInt) (e2 : a0.toInt ≤ 15) (e3 : (-40000) ≤ a1.toInt) (e4 : a1.toInt ≤ 40000) (e5 : 0 ≤ a2.toInt) (e6 : 4 < a2.toInt) : xRun (d + 9) 176 [Value.ref 128, Value.int a0, Value.long b0, Value.int a1, Value.int a2] w (.inl (some (Value.int 0))) (((w.set 128 (Sum.inr (12, [Value.ref 129, Value.ref 131, Value.ref 133, Value.ref 135, Value.ref 137, Value.ref 139, Value.ref 141, Value.ref 143, Value.ref 145, Value.ref 147, Value.ref 149, Value.ref 151, Value.ref 153, Value.ref 154, Value.ref 155, Value.ref 156, Value.ref 157, Value.int (-16384), Value.int 16384, Value.int 0, Value.int 0, Value.int 0, Value.ref 158, Value.ref 159, Value.int 0, Value.int 0, Value.int 0, Value.int 0, Value.int 0, Value.int 0, Value.int 0, Value.int 0]))) ++ [Sum.inr (14, [])]).set 128 (Sum.inr (12, [Value.ref 129, Value.ref 131, Value.ref 133, Value.ref 135, Value.ref 137, Value.ref 139, Value.ref 141, Value.ref 143, Value.ref 145, Value.ref 147, Value.ref 149, Value.ref 151, Value.ref 153, Value.ref 154, Value.ref 155, Value.ref 156, Value.ref 157, Value.int (-16384), Value.int 16384, Value.int 0, Value.int 0, Value.int 0, Value.ref 158, Value.ref 159, Value.int 0, Value.int 0, Value.int 0, Value.int 0, Value.int 0, Value.int 0, Value.int 0, Value.int 1]))) := by
  refine xRun.of ?_
  refine i_176_0 (x := 128) rfl ?_
  refine i_176_1 ?_
  refine i_176_2 (fs2 := [Value.ref 129, Value.ref 131, Value.ref 133, Value.ref 135, Value.ref 137, Value.ref 139, Value.ref 141, Value.ref 143, Value.ref 145, Value.ref 147, Value.ref 149, Value.ref 151, Value.ref 153, Value.ref 154, Value.ref 155, Value.ref 156, Value.ref 157, Value.int (-16384), Value.int 16384, Value.int 0, Value.int 0, Value.int 0, Value.ref 158, Value.ref 159, Value.int 0, Value.int 0, Value.int 0, Value.int 0, Value.int 0, Value.int 0, Value.int 0, Value.int 0]) hw0 (Nat.le_of_ble_eq_true rfl) rfl (by decide) ?_
  refine i_176_5 (x := 128) rfl ?_
  refine i_176_6 (x := a0) rfl ?_
  refine i_176_7 (x := b0) rfl ?_
  refine i_176_8 (x := a1) rfl ?_
  refine i_176_10 (x := a2) rfl ?_
  refine j_176_12 (xgs hw0) (Nat.le_of_ble_eq_true rfl) (s_177_4 e1 e2 e3 e4 e5 e6) (xDone.c xgl rfl rfl ?_)
  refine i_176_16 (lv2 := [(6, Value.ref ((w.set 128 (Sum.inr (12, [Value.ref 129, Value.ref 131, Value.ref 133, Value.ref 135, Value.ref 137, Value.ref 139, Value.ref 141, Value.ref 143, Value.ref 145, Value.ref 147, Value.ref 149, Value.ref 151, Value.ref 153, Value.ref 154, Value.ref 155, Value.ref 156, Value.ref 157, Value.int (-16384), Value.int 16384, Value.int 0, Value.int 0, Value.int 0, Value.ref 158, Value.ref 159, Value.int 0, Value.int 0, Value.int 0, Value.int 0, Value.int 0, Value.int 0, Value.int 0, Value.int 0]))).length)), (0, Value.ref 128), (1, Value.int a0), (2, Value.long b0), (4, Value.int a1), (5, Value.int a2)]) rfl ?_
  refine i_176_18 (x := 128) rfl ?_
  refine i_176_19 ?_
  refine i_176_20 (fs2 := [Value.ref 129, Value.ref 131, Value.ref 133, Value.ref 135, Value.ref 137, Value.ref 139, Value.ref 141, Value.ref 143, Value.ref 145, Value.ref 147, Value.ref 149, Value.ref 151, Value.ref 153, Value.ref 154, Value.ref 155, Value.ref 156, Value.ref 157, Value.int (-16384), Value.int 16384, Value.int 0, Value.int 0, Value.int 0, Value.ref 158, Value.ref 159, Value.int 0, Value.int 0, Value.int 0, Value.int 0, Value.int 0, Value.int 0, Value.int 0, Value.int 1]) (xga (xgs hw0)) (Nat.le_of_ble_eq_true rfl) rfl (by decide) ?_
  refine i_176_23 ?_
  exact i_176_24 ⟨rfl, rfl⟩
theorem o_3_4 {d : Nat} {xs : Nat → Int32} (h0 : ((xs 0) &&& (31 : Int32)).toInt = 3) (c0 : 0 ≤ (xs 1).toInt) (c1 : (xs 1).toInt < 16) (c2 : (-40000) ≤ (xs 4).toInt) (c3 : (xs 4).toInt ≤ 40000) (c4 : 0 ≤ (xs 5).toInt) (c5 : 4 < (xs 5).toInt) : ∃ w1, xEv (d + 20) 287 23 [(4, Value.int 0), (3, Value.ref 194), (2, Value.ref 128), (1, Value.ref 7), (0, Value.ref 0)] [] (W0 6 xs) (fun o' w' => o' = .inl (some (Value.int 1)) ∧ w' = w1) ∧ w1.length ≤ 220 ∧ xsz w1 ≤ 200000 := by
  refine ⟨(((((W0 6 xs) ++ [Sum.inr (14, [])]).set 128 (Sum.inr (12, [Value.ref 129, Value.ref 131, Value.ref 133, Value.ref 135, Value.ref 137, Value.ref 139, Value.ref 141, Value.ref 143, Value.ref 145, Value.ref 147, Value.ref 149, Value.ref 151, Value.ref 153, Value.ref 154, Value.ref 155, Value.ref 156, Value.ref 157, Value.int (-16384), Value.int 16384, Value.int 0, Value.int 0, Value.int 0, Value.ref 158, Value.ref 159, Value.int 0, Value.int 0, Value.int 0, Value.int 0, Value.int 0, Value.int 0, Value.int 0, Value.int 0]))) ++ [Sum.inr (14, [])]).set 128 (Sum.inr (12, [Value.ref 129, Value.ref 131, Value.ref 133, Value.ref 135, Value.ref 137, Value.ref 139, Value.ref 141, Value.ref 143, Value.ref 145, Value.ref 147, Value.ref 149, Value.ref 151, Value.ref 153, Value.ref 154, Value.ref 155, Value.ref 156, Value.ref 157, Value.int (-16384), Value.int 16384, Value.int 0, Value.int 0, Value.int 0, Value.ref 158, Value.ref 159, Value.int 0, Value.int 0, Value.int 0, Value.int 0, Value.int 0, Value.int 0, Value.int 0, Value.int 1]))), ?_, (show xLs _ 220 200000 from ?_)⟩
  · refine i_287_23 (x := 0) rfl ?_
    refine i_287_25 (x := 0) rfl ?_
    refine i_287_26 (c := 6) W0_0 (by decide) ?_
    refine i_287_27 ?_
    refine i_287_29 (c := 0) (by decide) ?_
    refine i_287_30 (fun h => absurd h (by decide)) (fun _ => ?_)
    refine i_287_33 (x := 0) rfl ?_
    refine i_287_34 (x := 0) rfl ?_
    refine i_287_36 (v := Value.int (xs 0)) W0_0 (by decide) (by decide) rfl ?_
    refine i_287_37 ?_
    refine i_287_39 (c := 3) (show ((xs 0) &&& (31 : Int32)) = 3 from (xge_c (n := 3) (by omega) rfl)) ?_
    refine i_287_40_3 rfl ?_
    refine i_287_357 (x := 7) rfl ?_
    refine i_287_358 (x := 0) rfl ?_
    refine i_287_359 (x := 0) rfl ?_
    refine i_287_361 ?_
    refine i_287_362 (c := 1) (by decide) ?_
    refine i_287_363 (v := Value.int (xs 1)) W0_0 (by decide) (by decide) rfl ?_
    refine i_287_364 (x := 0) rfl ?_
    refine i_287_365 (x := 0) rfl ?_
    refine i_287_367 ?_
    refine i_287_368 (c := 2) (by decide) ?_
    refine i_287_369 (v := Value.int (xs 2)) W0_0 (by decide) (by decide) rfl ?_
    refine i_287_370 (c := (xs 2).toInt64) rfl ?_
    refine i_287_371 ?_
    refine i_287_373 (c := (xsh (xs 2) (32 : Int32))) rfl ?_
    refine i_287_374 (x := 0) rfl ?_
    refine i_287_375 (x := 0) rfl ?_
    refine i_287_377 ?_
    refine i_287_378 (c := 3) (by decide) ?_
    refine i_287_379 (v := Value.int (xs 3)) W0_0 (by decide) (by decide) rfl ?_
    refine i_287_380 (c := (xs 3).toInt64) rfl ?_
    refine i_287_381 ?_
    refine i_287_384 (c := (((xs 3).toInt64) &&& (4294967295 : Int64))) rfl ?_
    refine i_287_385 (c := (xvv xs)) rfl ?_
    refine i_287_386 (x := 0) rfl ?_
    refine i_287_387 (x := 0) rfl ?_
    refine i_287_389 ?_
    refine i_287_390 (c := 4) (by decide) ?_
    refine i_287_391 (v := Value.int (xs 4)) W0_0 (by decide) (by decide) rfl ?_
    refine i_287_392 (x := 0) rfl ?_
    refine i_287_393 (x := 0) rfl ?_
    refine i_287_395 ?_
    refine i_287_396 (c := 5) (by decide) ?_
    refine i_287_397 (v := Value.int (xs 5)) W0_0 (by decide) (by decide) rfl ?_
    refine i_287_398 (x := 194) rfl ?_
    refine i_287_399 (Nat.le_of_ble_eq_true rfl) (s_20_64 W0_7 (by omega) (by omega) (by omega) (by omega) (by omega) (by omega)) ?_
    refine i_287_402 (lv2 := [(5, Value.int 1), (4, Value.int 0), (3, Value.ref 194), (2, Value.ref 128), (1, Value.ref 7), (0, Value.ref 0)]) rfl ?_
    refine i_287_404 (x := 128) rfl ?_
    refine i_287_405 (x := 0) rfl ?_
    refine i_287_406 (x := 0) rfl ?_
    refine i_287_408 ?_
    refine i_287_409 (c := 1) (by decide) ?_
    refine i_287_410 (v := Value.int (xs 1)) (xga W0_0) (by decide) (by decide) rfl ?_
    refine i_287_411 (x := 0) rfl ?_
    refine i_287_412 (x := 0) rfl ?_
    refine i_287_414 ?_
    refine i_287_415 (c := 2) (by decide) ?_
    refine i_287_416 (v := Value.int (xs 2)) (xga W0_0) (by decide) (by decide) rfl ?_
    refine i_287_417 (c := (xs 2).toInt64) rfl ?_
    refine i_287_418 ?_
    refine i_287_420 (c := (xsh (xs 2) (32 : Int32))) rfl ?_
    refine i_287_421 (x := 0) rfl ?_
    refine i_287_422 (x := 0) rfl ?_
    refine i_287_424 ?_
    refine i_287_425 (c := 3) (by decide) ?_
    refine i_287_426 (v := Value.int (xs 3)) (xga W0_0) (by decide) (by decide) rfl ?_
    refine i_287_427 (c := (xs 3).toInt64) rfl ?_
    refine i_287_428 ?_
    refine i_287_431 (c := (((xs 3).toInt64) &&& (4294967295 : Int64))) rfl ?_
    refine i_287_432 (c := (xvv xs)) rfl ?_
    refine i_287_433 (x := 0) rfl ?_
    refine i_287_434 (x := 0) rfl ?_
    refine i_287_436 ?_
    refine i_287_437 (c := 4) (by decide) ?_
    refine i_287_438 (v := Value.int (xs 4)) (xga W0_0) (by decide) (by decide) rfl ?_
    refine i_287_439 (x := 0) rfl ?_
    refine i_287_440 (x := 0) rfl ?_
    refine i_287_442 ?_
    refine i_287_443 (c := 5) (by decide) ?_
    refine i_287_444 (v := Value.int (xs 5)) (xga W0_0) (by decide) (by decide) rfl ?_
    refine i_287_445 (xga W0_128) (Nat.le_of_ble_eq_true rfl) (s_176_4 (xga W0_128) (by omega) (by omega) (by omega) (by omega) (by omega) (by omega)) ?_
    refine i_287_448 (lv2 := [(6, Value.int 0), (5, Value.int 1), (4, Value.int 0), (3, Value.ref 194), (2, Value.ref 128), (1, Value.ref 7), (0, Value.ref 0)]) rfl ?_
    refine i_287_450 (x := 128) rfl ?_
    refine i_287_451 (xgs (xga (xgs (xga W0_128)))) (Nat.le_of_ble_eq_true rfl) (s_165_1 (xgs (xga (xgs (xga W0_128))))) ?_
    refine i_287_454 (x := 1) rfl ?_
    refine i_287_456 (fun _ => ?_) (fun h => absurd h (by decide))
    refine i_287_461 (x := 1) rfl ?_
    refine i_287_463 (fun _ => ?_) (fun h => absurd h (by decide))
    refine i_287_478 ?_
    refine i_287_2154 (x := 0) (c := 6) (lv2 := [(4, Value.int 6), (6, Value.int 0), (5, Value.int 1), (3, Value.ref 194), (2, Value.ref 128), (1, Value.ref 7), (0, Value.ref 0)]) rfl (by decide) rfl ?_
    refine i_287_2157 ?_
    refine i_287_23 (x := 6) rfl ?_
    refine i_287_25 (x := 0) rfl ?_
    refine i_287_26 (c := 6) (xgn (by decide) (xga (xgn (by decide) (xga W0_0)))) (by decide) ?_
    refine i_287_27 ?_
    refine i_287_29 (c := 0) (by decide) ?_
    refine i_287_30 (fun _ => ?_) (fun h => absurd h (by decide))
    refine i_287_2160 ?_
    exact i_287_2161 rfl ⟨rfl, rfl⟩
  · refine xLs.set ?_ (xga (xgs (xga W0_128))) xcs_o
    refine xLs.app (n := 219) (z := 199994) (m := 6) ?_ rfl
    refine xLs.set ?_ (xga W0_128) xcs_o
    refine xLs.app (n := 218) (z := 199988) (m := 6) ?_ rfl
    exact ⟨Nat.le_trans (Nat.le_of_eq W0_len) (by decide), Nat.le_trans (Nat.le_of_eq W0_sz) (by decide)⟩
theorem s_17_4 {d : Nat} {w : xW} {h0 : Nat} {h1 : Nat} (hw0 : w[h0]? = some (Sum.inr (2, [Value.int 64, Value.int 0, Value.int 0, Value.int 0, Value.ref h1]))) (e1 : 7 ≤ h0) : xRun d 17 [Value.ref h0, Value.int 2, Value.int 0] w (.inl (some (Value.int 0))) (w.set h0 (Sum.inr (2, [Value.int 64, Value.int 2, Value.int 0, Value.int 0, Value.ref h1]))) := by
  refine xRun.of ?_
  refine i_17_0 (x := h0) rfl ?_
  refine i_17_1 (x := 2) rfl ?_
  refine i_17_2 (fs2 := [Value.int 64, Value.int 2, Value.int 0, Value.int 0, Value.ref h1]) hw0 (Nat.le_of_ble_eq_true rfl) rfl e1 ?_
  refine i_17_5 (x := h0) rfl ?_
  refine i_17_6 (x := 0) rfl ?_
  refine i_17_7 (fs2 := [Value.int 64, Value.int 2, Value.int 0, Value.int 0, Value.ref h1]) (xgs hw0) rfl (Nat.le_of_ble_eq_true rfl) rfl e1 ?_
  refine xEv.world (List.set_set _) ?_
  refine i_17_10 ?_
  exact i_17_11 ⟨rfl, rfl⟩
theorem s_23_2 {d : Nat} {w : xW} {h0 : Nat} {h1 : Nat} (hw0 : w[h0]? = some (Sum.inr (2, [Value.int 64, Value.int 0, Value.int 0, Value.int 0, Value.ref h1]))) (e1 : 7 ≤ h0) : xRun (d + 1) 23 [Value.ref h0, Value.int 0] w (.inl (some (Value.int 0))) (w.set h0 (Sum.inr (2, [Value.int 64, Value.int 2, Value.int 0, Value.int 0, Value.ref h1]))) := by
  refine xRun.of ?_
  refine i_23_0 (x := h0) rfl ?_
  refine i_23_1 ?_
  refine i_23_2 (x := 0) rfl ?_
  refine i_23_3 hw0 (Nat.le_of_ble_eq_true rfl) (s_17_4 hw0 e1) ?_
  exact i_23_6 ⟨rfl, rfl⟩
theorem s_21_65 {d : Nat} {w : xW} {a0 : Int32} {b0 : Int64} {a1 : Int32} {a2 : Int32} {g0 : Nat → Value} {h0 : Nat} {h1 : Nat} (e0 : 0 ≤ a0.toInt) (e1 : a0.toInt < 16) (e2 : (-40000) ≤ a1.toInt) (e3 : a1.toInt ≤ 40000) (e4 : 0 ≤ a2.toInt) (e5 : a2.toInt ≤ 4) (hw6 : w[7]? = some (Sum.inr (0, [Value.ref 8, Value.ref 78, Value.ref 9, Value.ref 10, Value.ref 13, Value.ref 16, Value.ref 19, Value.ref 93, Value.ref 108, Value.ref 113, Value.ref 29, Value.int 0]))) (hw7 : w[8]? = some (Sum.inl (4, 16, g0))) (hg8 : g0 a0.toInt.toNat = Value.ref h0) (hg9 : (lg_cmp b0 (0 : Int64)) = 0) (hw10 : w[h0]? = some (Sum.inr (2, [Value.int 64, Value.int 0, Value.int 0, Value.int 0, Value.ref h1]))) (e11 : 7 ≤ h0) : xRun (d + 2) 21 [Value.ref 7, Value.int a0, Value.long b0, Value.int a1, Value.int a2] w (.inl (some (Value.int 0))) (w.set h0 (Sum.inr (2, [Value.int 64, Value.int 2, Value.int 0, Value.int 0, Value.ref h1]))) := by
  refine xRun.of ?_
  refine i_21_0 (x := a0) rfl ?_
  refine i_21_1 (Nat.le_of_ble_eq_true rfl) (s_15_0 e0 e1) ?_
  refine i_21_4 (fun h => absurd h (by decide)) (fun _ => ?_)
  refine i_21_7 (x := a1) rfl ?_
  refine i_21_9 ?_
  refine i_21_11 (fun h => absurd e2 (Int.not_le.mpr h)) (fun _ => ?_)
  refine i_21_14 (x := a1) rfl ?_
  refine i_21_16 ?_
  refine i_21_18 (fun h => absurd e3 (Int.not_le.mpr h)) (fun _ => ?_)
  refine i_21_21 (x := a2) rfl ?_
  refine i_21_23 (Nat.le_of_ble_eq_true rfl) (s_22_0 e4 e5) ?_
  refine i_21_26 (fun _ => ?_) (fun h => absurd h (by decide))
  refine i_21_37 (x := 7) rfl ?_
  refine i_21_38 (v := Value.ref 8) hw6 rfl ?_
  refine i_21_41 (x := a0) rfl ?_
  refine i_21_42 (v := Value.ref h0) hw7 e0 e1 hg8 ?_
  refine i_21_43 (lv2 := [(6, Value.ref h0), (0, Value.ref 7), (1, Value.int a0), (2, Value.long b0), (4, Value.int a1), (5, Value.int a2)]) rfl ?_
  refine i_21_45 (x := b0) rfl ?_
  refine i_21_46 ?_
  refine i_21_47 (c := 0) hg9 ?_
  refine i_21_48 (fun h => absurd h (by decide)) (fun _ => ?_)
  refine i_21_51 (x := h0) rfl ?_
  refine i_21_53 ?_
  refine i_21_54 hw10 (Nat.le_of_ble_eq_true rfl) (s_23_2 hw10 e11) ?_
  exact i_21_57 ⟨rfl, rfl⟩
theorem s_20_65 {d : Nat} {w : xW} {a0 : Int32} {b0 : Int64} {a1 : Int32} {a2 : Int32} {g0 : Nat → Value} {h0 : Nat} {h1 : Nat} (hw0 : w[7]? = some (Sum.inr (0, [Value.ref 8, Value.ref 78, Value.ref 9, Value.ref 10, Value.ref 13, Value.ref 16, Value.ref 19, Value.ref 93, Value.ref 108, Value.ref 113, Value.ref 29, Value.int 0]))) (e1 : 0 ≤ a0.toInt) (e2 : a0.toInt < 16) (e3 : (-40000) ≤ a1.toInt) (e4 : a1.toInt ≤ 40000) (e5 : 0 ≤ a2.toInt) (e6 : a2.toInt ≤ 4) (hw7 : w[8]? = some (Sum.inl (4, 16, g0))) (hg8 : g0 a0.toInt.toNat = Value.ref h0) (hg9 : (lg_cmp b0 (0 : Int64)) = 0) (hw10 : w[h0]? = some (Sum.inr (2, [Value.int 64, Value.int 0, Value.int 0, Value.int 0, Value.ref h1]))) (e11 : 7 ≤ h0) (e12 : h0 ≠ 194) (hw13 : w[194]? = some (Sum.inl (3, 1, fun _ => Value.long 0))) : xRun (d + 3) 20 [Value.ref 7, Value.int a0, Value.long b0, Value.int a1, Value.int a2, Value.ref 194] w (.inl (some (Value.int 0))) ((w.set h0 (Sum.inr (2, [Value.int 64, Value.int 2, Value.int 0, Value.int 0, Value.ref h1]))).set 194 (Sum.inl (3, 1, xup (fun _ => Value.long 0) (0 : Int32).toInt.toNat (Value.long 0)))) := by
  refine xRun.of ?_
  refine i_20_0 (x := 194) rfl ?_
  refine i_20_2 ?_
  refine i_20_3 (x := 7) rfl ?_
  refine i_20_4 (x := a0) rfl ?_
  refine i_20_5 (x := b0) rfl ?_
  refine i_20_6 (x := a1) rfl ?_
  refine i_20_8 (x := a2) rfl ?_
  refine i_20_10 hw0 (Nat.le_of_ble_eq_true rfl) (s_21_65 e1 e2 e3 e4 e5 e6 hw0 hw7 hg8 hg9 hw10 e11) ?_
  refine i_20_13 (c := 0) (by decide) ?_
  refine i_20_14 (v := Value.long 0) (xgn e12 hw13) (by decide) (by decide) (by decide) rfl ?_
  refine i_20_15 ?_
  refine i_20_22 ?_
  exact i_20_23 ⟨rfl, rfl⟩
theorem s_171_4 {d : Nat} {w : xW} {a0 : Int32} (hw0 : w[128]? = some (Sum.inr (12, [Value.ref 129, Value.ref 131, Value.ref 133, Value.ref 135, Value.ref 137, Value.ref 139, Value.ref 141, Value.ref 143, Value.ref 145, Value.ref 147, Value.ref 149, Value.ref 151, Value.ref 153, Value.ref 154, Value.ref 155, Value.ref 156, Value.ref 157, Value.int (-16384), Value.int 16384, Value.int 0, Value.int 0, Value.int 0, Value.ref 158, Value.ref 159, Value.int 0, Value.int 0, Value.int 0, Value.int 0, Value.int 0, Value.int 0, Value.int 0, Value.int 0]))) (hw1 : w[154]? = some (Sum.inl (0, 17, fun _ => Value.int 0))) (e2 : 0 ≤ a0.toInt) (e3 : a0.toInt < 17) (hw4 : w[156]? = some (Sum.inl (2, 17, fun _ => Value.int 0))) : xRun d 171 [Value.ref 128, Value.int a0, Value.int 2, Value.int 0] w (.inl (some (Value.int 0))) ((w.set 154 (Sum.inl (0, 17, xup (fun _ => Value.int 0) a0.toInt.toNat (Value.int 2)))).set 156 (Sum.inl (2, 17, xup (fun _ => Value.int 0) a0.toInt.toNat (Value.int 0)))) := by
  refine xRun.of ?_
  refine i_171_0 (x := 128) rfl ?_
  refine i_171_1 (v := Value.ref 154) hw0 rfl ?_
  refine i_171_4 (x := a0) rfl ?_
  refine i_171_5 (x := 2) rfl ?_
  refine i_171_6 (v := Value.int 2) hw1 e2 e3 (by decide) rfl ?_
  refine i_171_7 (x := 128) rfl ?_
  refine i_171_8 (v := Value.ref 156) (xgn (by decide) hw0) rfl ?_
  refine i_171_11 (x := a0) rfl ?_
  refine i_171_12 (x := 0) rfl ?_
  refine i_171_13z (v := Value.int 0) (xgn (by decide) hw4) e2 e3 (by decide) rfl ?_
  refine i_171_14 ?_
  exact i_171_15 ⟨rfl, rfl⟩
theorem s_177_5 {d : Nat} {w : xW} {a0 : Int32} {b0 : Int64} {a1 : Int32} {a2 : Int32} (e0 : 0 ≤ a0.toInt) (e1 : a0.toInt ≤ 15) (e2 : (-40000) ≤ a1.toInt) (e3 : a1.toInt ≤ 40000) (e4 : 0 ≤ a2.toInt) (e5 : a2.toInt ≤ 4) (hg6 : (lg_cmp b0 (0 : Int64)) = 0) (hw7 : w[128]? = some (Sum.inr (12, [Value.ref 129, Value.ref 131, Value.ref 133, Value.ref 135, Value.ref 137, Value.ref 139, Value.ref 141, Value.ref 143, Value.ref 145, Value.ref 147, Value.ref 149, Value.ref 151, Value.ref 153, Value.ref 154, Value.ref 155, Value.ref 156, Value.ref 157, Value.int (-16384), Value.int 16384, Value.int 0, Value.int 0, Value.int 0, Value.ref 158, Value.ref 159, Value.int 0, Value.int 0, Value.int 0, Value.int 0, Value.int 0, Value.int 0, Value.int 0, Value.int 0]))) (hw8 : w[154]? = some (Sum.inl (0, 17, fun _ => Value.int 0))) (e9 : a0.toInt < 17) (hw10 : w[156]? = some (Sum.inl (2, 17, fun _ => Value.int 0))) : xRun (d + 2) 177 [Value.ref 128, Value.int a0, Value.long b0, Value.int a1, Value.int a2] w (.inl (some (Value.int 0))) ((w.set 154 (Sum.inl (0, 17, xup (fun _ => Value.int 0) a0.toInt.toNat (Value.int 2)))).set 156 (Sum.inl (2, 17, xup (fun _ => Value.int 0) a0.toInt.toNat (Value.int 0)))) := by
  refine xRun.of ?_
  refine i_177_0 (x := a0) rfl ?_
  refine i_177_1 (Nat.le_of_ble_eq_true rfl) (s_168_0 e0 e1) ?_
  refine i_177_4 (x := a1) rfl ?_
  refine i_177_6 ?_
  refine i_177_8 ?_
  refine i_177_10 (Nat.le_of_ble_eq_true rfl) (s_169_1 e2 e3) ?_
  refine i_177_13 (Nat.le_of_ble_eq_true rfl) (s_170_0) ?_
  refine i_177_16 (x := a2) rfl ?_
  refine i_177_18 (Nat.le_of_ble_eq_true rfl) (s_178_0 e4 e5) ?_
  refine i_177_21 (x := b0) rfl ?_
  refine i_177_22 ?_
  refine i_177_23 (c := 0) hg6 ?_
  refine i_177_24 (fun h => absurd h (by decide)) (fun _ => ?_)
  refine i_177_27 (x := 128) rfl ?_
  refine i_177_28 (x := a0) rfl ?_
  refine i_177_29 ?_
  refine i_177_30 ?_
  refine i_177_31 hw7 (Nat.le_of_ble_eq_true rfl) (s_171_4 hw7 hw8 e0 e9 hw10) ?_
  exact i_177_34 ⟨rfl, rfl⟩
theorem s_176_5 {d : Nat} {w : xW} {a0 : Int32} {b0 : Int64} {a1 : Int32} {a2 : Int32} (hw0 : w[128]? = some (Sum.inr (12, [Value.ref 129, Value.ref 131, Value.ref 133, Value.ref 135, Value.ref 137, Value.ref 139, Value.ref 141, Value.ref 143, Value.ref 145, Value.ref 147, Value.ref 149, Value.ref 151, Value.ref 153, Value.ref 154, Value.ref 155, Value.ref 156, Value.ref 157, Value.int (-16384), Value.int 16384, Value.int 0, Value.int 0, Value.int 0, Value.ref 158, Value.ref 159, Value.int 0, Value.int 0, Value.int 0, Value.int 0, Value.int 0, Value.int 0, Value.int 0, Value.int 0]))) (e1 : 0 ≤ a0.toInt) (e2 : a0.toInt ≤ 15) (e3 : (-40000) ≤ a1.toInt) (e4 : a1.toInt ≤ 40000) (e5 : 0 ≤ a2.toInt) (e6 : a2.toInt ≤ 4) (hg7 : (lg_cmp b0 (0 : Int64)) = 0) (hw8 : w[154]? = some (Sum.inl (0, 17, fun _ => Value.int 0))) (e9 : a0.toInt < 17) (hw10 : w[156]? = some (Sum.inl (2, 17, fun _ => Value.int 0))) : xRun (d + 3) 176 [Value.ref 128, Value.int a0, Value.long b0, Value.int a1, Value.int a2] w (.inl (some (Value.int 0))) (((w.set 128 (Sum.inr (12, [Value.ref 129, Value.ref 131, Value.ref 133, Value.ref 135, Value.ref 137, Value.ref 139, Value.ref 141, Value.ref 143, Value.ref 145, Value.ref 147, Value.ref 149, Value.ref 151, Value.ref 153, Value.ref 154, Value.ref 155, Value.ref 156, Value.ref 157, Value.int (-16384), Value.int 16384, Value.int 0, Value.int 0, Value.int 0, Value.ref 158, Value.ref 159, Value.int 0, Value.int 0, Value.int 0, Value.int 0, Value.int 0, Value.int 0, Value.int 0, Value.int 0]))).set 154 (Sum.inl (0, 17, xup (fun _ => Value.int 0) a0.toInt.toNat (Value.int 2)))).set 156 (Sum.inl (2, 17, xup (fun _ => Value.int 0) a0.toInt.toNat (Value.int 0)))) := by
  refine xRun.of ?_
  refine i_176_0 (x := 128) rfl ?_
  refine i_176_1 ?_
  refine i_176_2 (fs2 := [Value.ref 129, Value.ref 131, Value.ref 133, Value.ref 135, Value.ref 137, Value.ref 139, Value.ref 141, Value.ref 143, Value.ref 145, Value.ref 147, Value.ref 149, Value.ref 151, Value.ref 153, Value.ref 154, Value.ref 155, Value.ref 156, Value.ref 157, Value.int (-16384), Value.int 16384, Value.int 0, Value.int 0, Value.int 0, Value.ref 158, Value.ref 159, Value.int 0, Value.int 0, Value.int 0, Value.int 0, Value.int 0, Value.int 0, Value.int 0, Value.int 0]) hw0 (Nat.le_of_ble_eq_true rfl) rfl (by decide) ?_
  refine i_176_5 (x := 128) rfl ?_
  refine i_176_6 (x := a0) rfl ?_
  refine i_176_7 (x := b0) rfl ?_
  refine i_176_8 (x := a1) rfl ?_
  refine i_176_10 (x := a2) rfl ?_
  refine i_176_12 (xgs hw0) (Nat.le_of_ble_eq_true rfl) (s_177_5 e1 e2 e3 e4 e5 e6 hg7 (xgs hw0) (xgn (by decide) hw8) e9 (xgn (by decide) hw10)) ?_
  exact i_176_15 ⟨rfl, rfl⟩
theorem s_165_2 {d : Nat} {w : xW} (hw0 : w[128]? = some (Sum.inr (12, [Value.ref 129, Value.ref 131, Value.ref 133, Value.ref 135, Value.ref 137, Value.ref 139, Value.ref 141, Value.ref 143, Value.ref 145, Value.ref 147, Value.ref 149, Value.ref 151, Value.ref 153, Value.ref 154, Value.ref 155, Value.ref 156, Value.ref 157, Value.int (-16384), Value.int 16384, Value.int 0, Value.int 0, Value.int 0, Value.ref 158, Value.ref 159, Value.int 0, Value.int 0, Value.int 0, Value.int 0, Value.int 0, Value.int 0, Value.int 0, Value.int 0]))) : xRun d 165 [Value.ref 128] w (.inl (some (Value.int 0))) w := by
  refine xRun.of ?_
  refine i_165_0 (x := 128) rfl ?_
  refine i_165_1 (v := Value.int 0) hw0 rfl ?_
  exact i_165_4 ⟨rfl, rfl⟩
theorem o_3_5 {d : Nat} {xs : Nat → Int32} (h0 : ((xs 0) &&& (31 : Int32)).toInt = 3) (c0 : 0 ≤ (xs 1).toInt) (c1 : (xs 1).toInt < 16) (c2 : (-40000) ≤ (xs 4).toInt) (c3 : (xs 4).toInt ≤ 40000) (c4 : 0 ≤ (xs 5).toInt) (c5 : (xs 5).toInt ≤ 4) (c6 : (lg_cmp (xvv xs) (0 : Int64)).toInt = 0) : ∃ w1, xEv (d + 20) 287 23 [(4, Value.int 0), (3, Value.ref 194), (2, Value.ref 128), (1, Value.ref 7), (0, Value.ref 0)] [] (W0 6 xs) (fun o' w' => o' = .inl (some (Value.int 1)) ∧ w' = w1) ∧ w1.length ≤ 220 ∧ xsz w1 ≤ 200000 := by
  refine ⟨((((((W0 6 xs).set (30 + 3 * (xs 1).toInt.toNat) (Sum.inr (2, [Value.int 64, Value.int 2, Value.int 0, Value.int 0, Value.ref (31 + 3 * (xs 1).toInt.toNat)]))).set 194 (Sum.inl (3, 1, xup (fun _ => Value.long 0) (0 : Int32).toInt.toNat (Value.long 0)))).set 128 (Sum.inr (12, [Value.ref 129, Value.ref 131, Value.ref 133, Value.ref 135, Value.ref 137, Value.ref 139, Value.ref 141, Value.ref 143, Value.ref 145, Value.ref 147, Value.ref 149, Value.ref 151, Value.ref 153, Value.ref 154, Value.ref 155, Value.ref 156, Value.ref 157, Value.int (-16384), Value.int 16384, Value.int 0, Value.int 0, Value.int 0, Value.ref 158, Value.ref 159, Value.int 0, Value.int 0, Value.int 0, Value.int 0, Value.int 0, Value.int 0, Value.int 0, Value.int 0]))).set 154 (Sum.inl (0, 17, xup (fun _ => Value.int 0) (xs 1).toInt.toNat (Value.int 2)))).set 156 (Sum.inl (2, 17, xup (fun _ => Value.int 0) (xs 1).toInt.toNat (Value.int 0)))), ?_, (show xLs _ 220 200000 from ?_)⟩
  · refine i_287_23 (x := 0) rfl ?_
    refine i_287_25 (x := 0) rfl ?_
    refine i_287_26 (c := 6) W0_0 (by decide) ?_
    refine i_287_27 ?_
    refine i_287_29 (c := 0) (by decide) ?_
    refine i_287_30 (fun h => absurd h (by decide)) (fun _ => ?_)
    refine i_287_33 (x := 0) rfl ?_
    refine i_287_34 (x := 0) rfl ?_
    refine i_287_36 (v := Value.int (xs 0)) W0_0 (by decide) (by decide) rfl ?_
    refine i_287_37 ?_
    refine i_287_39 (c := 3) (show ((xs 0) &&& (31 : Int32)) = 3 from (xge_c (n := 3) (by omega) rfl)) ?_
    refine i_287_40_3 rfl ?_
    refine i_287_357 (x := 7) rfl ?_
    refine i_287_358 (x := 0) rfl ?_
    refine i_287_359 (x := 0) rfl ?_
    refine i_287_361 ?_
    refine i_287_362 (c := 1) (by decide) ?_
    refine i_287_363 (v := Value.int (xs 1)) W0_0 (by decide) (by decide) rfl ?_
    refine i_287_364 (x := 0) rfl ?_
    refine i_287_365 (x := 0) rfl ?_
    refine i_287_367 ?_
    refine i_287_368 (c := 2) (by decide) ?_
    refine i_287_369 (v := Value.int (xs 2)) W0_0 (by decide) (by decide) rfl ?_
    refine i_287_370 (c := (xs 2).toInt64) rfl ?_
    refine i_287_371 ?_
    refine i_287_373 (c := (xsh (xs 2) (32 : Int32))) rfl ?_
    refine i_287_374 (x := 0) rfl ?_
    refine i_287_375 (x := 0) rfl ?_
    refine i_287_377 ?_
    refine i_287_378 (c := 3) (by decide) ?_
    refine i_287_379 (v := Value.int (xs 3)) W0_0 (by decide) (by decide) rfl ?_
    refine i_287_380 (c := (xs 3).toInt64) rfl ?_
    refine i_287_381 ?_
    refine i_287_384 (c := (((xs 3).toInt64) &&& (4294967295 : Int64))) rfl ?_
    refine i_287_385 (c := (xvv xs)) rfl ?_
    refine i_287_386 (x := 0) rfl ?_
    refine i_287_387 (x := 0) rfl ?_
    refine i_287_389 ?_
    refine i_287_390 (c := 4) (by decide) ?_
    refine i_287_391 (v := Value.int (xs 4)) W0_0 (by decide) (by decide) rfl ?_
    refine i_287_392 (x := 0) rfl ?_
    refine i_287_393 (x := 0) rfl ?_
    refine i_287_395 ?_
    refine i_287_396 (c := 5) (by decide) ?_
    refine i_287_397 (v := Value.int (xs 5)) W0_0 (by decide) (by decide) rfl ?_
    refine i_287_398 (x := 194) rfl ?_
    refine i_287_399 (Nat.le_of_ble_eq_true rfl) (s_20_65 W0_7 (by omega) (by omega) (by omega) (by omega) (by omega) (by omega) W0_8 (greg_at (by omega)) (show (lg_cmp (xvv xs) (0 : Int64)) = 0 from (xge_c (n := 0) (by omega) rfl)) (W0_reg (by omega)) (by omega) (by omega) W0_194) ?_
    refine i_287_402 (lv2 := [(5, Value.int 0), (4, Value.int 0), (3, Value.ref 194), (2, Value.ref 128), (1, Value.ref 7), (0, Value.ref 0)]) rfl ?_
    refine i_287_404 (x := 128) rfl ?_
    refine i_287_405 (x := 0) rfl ?_
    refine i_287_406 (x := 0) rfl ?_
    refine i_287_408 ?_
    refine i_287_409 (c := 1) (by decide) ?_
    refine i_287_410 (v := Value.int (xs 1)) (xgn (by decide) (xgn (by omega) W0_0)) (by decide) (by decide) rfl ?_
    refine i_287_411 (x := 0) rfl ?_
    refine i_287_412 (x := 0) rfl ?_
    refine i_287_414 ?_
    refine i_287_415 (c := 2) (by decide) ?_
    refine i_287_416 (v := Value.int (xs 2)) (xgn (by decide) (xgn (by omega) W0_0)) (by decide) (by decide) rfl ?_
    refine i_287_417 (c := (xs 2).toInt64) rfl ?_
    refine i_287_418 ?_
    refine i_287_420 (c := (xsh (xs 2) (32 : Int32))) rfl ?_
    refine i_287_421 (x := 0) rfl ?_
    refine i_287_422 (x := 0) rfl ?_
    refine i_287_424 ?_
    refine i_287_425 (c := 3) (by decide) ?_
    refine i_287_426 (v := Value.int (xs 3)) (xgn (by decide) (xgn (by omega) W0_0)) (by decide) (by decide) rfl ?_
    refine i_287_427 (c := (xs 3).toInt64) rfl ?_
    refine i_287_428 ?_
    refine i_287_431 (c := (((xs 3).toInt64) &&& (4294967295 : Int64))) rfl ?_
    refine i_287_432 (c := (xvv xs)) rfl ?_
    refine i_287_433 (x := 0) rfl ?_
    refine i_287_434 (x := 0) rfl ?_
    refine i_287_436 ?_
    refine i_287_437 (c := 4) (by decide) ?_
    refine i_287_438 (v := Value.int (xs 4)) (xgn (by decide) (xgn (by omega) W0_0)) (by decide) (by decide) rfl ?_
    refine i_287_439 (x := 0) rfl ?_
    refine i_287_440 (x := 0) rfl ?_
    refine i_287_442 ?_
    refine i_287_443 (c := 5) (by decide) ?_
    refine i_287_444 (v := Value.int (xs 5)) (xgn (by decide) (xgn (by omega) W0_0)) (by decide) (by decide) rfl ?_
    refine i_287_445 (xgn (by decide) (xgn (by omega) W0_128)) (Nat.le_of_ble_eq_true rfl) (s_176_5 (xgn (by decide) (xgn (by omega) W0_128)) (by omega) (by omega) (by omega) (by omega) (by omega) (by omega) (show (lg_cmp (xvv xs) (0 : Int64)) = 0 from (xge_c (n := 0) (by omega) rfl)) (xgn (by decide) (xgn (by omega) W0_154)) (by omega) (xgn (by decide) (xgn (by omega) W0_156))) ?_
    refine i_287_448 (lv2 := [(6, Value.int 0), (5, Value.int 0), (4, Value.int 0), (3, Value.ref 194), (2, Value.ref 128), (1, Value.ref 7), (0, Value.ref 0)]) rfl ?_
    refine i_287_450 (x := 128) rfl ?_
    refine i_287_451 (xgn (by decide) (xgn (by decide) (xgs (xgn (by decide) (xgn (by omega) W0_128))))) (Nat.le_of_ble_eq_true rfl) (s_165_2 (xgn (by decide) (xgn (by decide) (xgs (xgn (by decide) (xgn (by omega) W0_128)))))) ?_
    refine i_287_454 (x := 0) rfl ?_
    refine i_287_456 (fun _ => ?_) (fun h => absurd h (by decide))
    refine i_287_461 (x := 0) rfl ?_
    refine i_287_463 (fun h => absurd h (by decide)) (fun _ => ?_)
    refine i_287_466 (x := 194) rfl ?_
    refine i_287_467 ?_
    refine i_287_468 (v := Value.long 0) (xgn (by decide) (xgn (by decide) (xgn (by decide) (xgs (xgn (by omega) W0_194))))) (by decide) (by decide) xup_s ?_
    refine i_287_469 (x := 0) rfl ?_
    refine i_287_471 (c := 0) (by decide) ?_
    refine i_287_472 (c := 0) (by decide) ?_
    refine i_287_473 (fun _ => ?_) (fun h => absurd h (by decide))
    refine i_287_478 ?_
    refine i_287_2154 (x := 0) (c := 6) (lv2 := [(4, Value.int 6), (6, Value.int 0), (5, Value.int 0), (3, Value.ref 194), (2, Value.ref 128), (1, Value.ref 7), (0, Value.ref 0)]) rfl (by decide) rfl ?_
    refine i_287_2157 ?_
    refine i_287_23 (x := 6) rfl ?_
    refine i_287_25 (x := 0) rfl ?_
    refine i_287_26 (c := 6) (xgn (by decide) (xgn (by decide) (xgn (by decide) (xgn (by decide) (xgn (by omega) W0_0))))) (by decide) ?_
    refine i_287_27 ?_
    refine i_287_29 (c := 0) (by decide) ?_
    refine i_287_30 (fun _ => ?_) (fun h => absurd h (by decide))
    refine i_287_2160 ?_
    exact i_287_2161 rfl ⟨rfl, rfl⟩
  · refine xLs.set ?_ (xgn (by decide) (xgn (by decide) (xgn (by decide) (xgn (by omega) W0_156)))) xcs_a
    refine xLs.set ?_ (xgn (by decide) (xgn (by decide) (xgn (by omega) W0_154))) xcs_a
    refine xLs.set ?_ (xgn (by decide) (xgn (by omega) W0_128)) xcs_o
    refine xLs.set ?_ (xgn (by omega) W0_194) xcs_a
    refine xLs.set ?_ (W0_reg (by omega)) xcs_o
    exact ⟨Nat.le_trans (Nat.le_of_eq W0_len) (by decide), Nat.le_trans (Nat.le_of_eq W0_sz) (by decide)⟩
theorem s_15_2 {d : Nat} {w : xW} {a0 : Int32} (e0 : 0 ≤ a0.toInt) (e1 : 16 ≤ a0.toInt) : xRun d 15 [Value.int a0] w (.inl (some (Value.int 1))) w := by
  refine xRun.of ?_
  refine i_15_0 (x := a0) rfl ?_
  refine i_15_1 (fun h => absurd e0 (Int.not_le.mpr h)) (fun _ => ?_)
  refine i_15_4 (x := a0) rfl ?_
  refine i_15_5 ?_
  refine i_15_7 (fun h => absurd e1 (Int.not_le.mpr h)) (fun _ => ?_)
  refine i_15_10 ?_
  refine i_15_11 ?_
  exact i_15_15 rfl ⟨rfl, rfl⟩
theorem s_21_66 {d : Nat} {w : xW} {a0 : Int32} {b0 : Int64} {a1 : Int32} {a2 : Int32} (e0 : 0 ≤ a0.toInt) (e1 : 16 ≤ a0.toInt) : xRun (d + 6) 21 [Value.ref 7, Value.int a0, Value.long b0, Value.int a1, Value.int a2] w (.inr w.length) (w ++ [Sum.inr (14, [])]) := by
  refine xRun.of ?_
  refine i_21_0 (x := a0) rfl ?_
  refine i_21_1 (Nat.le_of_ble_eq_true rfl) (s_15_2 e0 e1) ?_
  refine i_21_4 (fun _ => ?_) (fun h => absurd h (by decide))
  exact i_21_29 (by omega) (Nat.le_of_ble_eq_true rfl) ⟨rfl, rfl⟩
theorem s_20_66 {d : Nat} {w : xW} {a0 : Int32} {b0 : Int64} {a1 : Int32} {a2 : Int32} (hw0 : w[7]? = some (Sum.inr (0, [Value.ref 8, Value.ref 78, Value.ref 9, Value.ref 10, Value.ref 13, Value.ref 16, Value.ref 19, Value.ref 93, Value.ref 108, Value.ref 113, Value.ref 29, Value.int 0]))) (e1 : 0 ≤ a0.toInt) (e2 : 16 ≤ a0.toInt) : xRun (d + 7) 20 [Value.ref 7, Value.int a0, Value.long b0, Value.int a1, Value.int a2, Value.ref 194] w (.inl (some (Value.int 1))) (w ++ [Sum.inr (14, [])]) := by
  refine xRun.of ?_
  refine i_20_0 (x := 194) rfl ?_
  refine i_20_2 ?_
  refine i_20_3 (x := 7) rfl ?_
  refine i_20_4 (x := a0) rfl ?_
  refine i_20_5 (x := b0) rfl ?_
  refine i_20_6 (x := a1) rfl ?_
  refine i_20_8 (x := a2) rfl ?_
  refine j_20_10 hw0 (Nat.le_of_ble_eq_true rfl) (s_21_66 e1 e2) (xDone.c xgl rfl rfl ?_)
  refine i_20_18 (lv2 := [(7, Value.ref w.length), (0, Value.ref 7), (1, Value.int a0), (2, Value.long b0), (4, Value.int a1), (5, Value.int a2), (6, Value.ref 194)]) rfl ?_
  refine i_20_20 ?_
  exact i_20_21 ⟨rfl, rfl⟩
theorem s_169_8 {d : Nat} {w : xW} {a0 : Int32} (e0 : 0 ≤ a0.toInt) (e1 : 15 < a0.toInt) : xRun d 169 [Value.int a0, Value.int 0, Value.int 15] w (.inl (some (Value.int 0))) w := by
  refine xRun.of ?_
  refine i_169_0 (x := a0) rfl ?_
  refine i_169_1 (x := 0) rfl ?_
  refine i_169_2 (fun h => absurd e0 (Int.not_le.mpr h)) (fun _ => ?_)
  refine i_169_5 (x := a0) rfl ?_
  refine i_169_6 (x := 15) rfl ?_
  refine i_169_7 (fun _ => ?_) (fun h => absurd e1 (Int.not_lt.mpr h))
  refine i_169_14 ?_
  exact i_169_15 rfl ⟨rfl, rfl⟩
theorem s_168_2 {d : Nat} {w : xW} {a0 : Int32} (e0 : 0 ≤ a0.toInt) (e1 : 15 < a0.toInt) : xRun (d + 7) 168 [Value.int a0] w (.inr w.length) (w ++ [Sum.inr (14, [])]) := by
  refine xRun.of ?_
  refine i_168_0 (x := a0) rfl ?_
  refine i_168_1 ?_
  refine i_168_2 ?_
  refine i_168_4 (Nat.le_of_ble_eq_true rfl) (s_169_8 e0 e1) ?_
  exact j_168_7 (Nat.le_of_ble_eq_true rfl) (s_170_1) (xDone.t xgl rfl rfl ⟨rfl, rfl⟩)
theorem s_177_6 {d : Nat} {w : xW} {a0 : Int32} {b0 : Int64} {a1 : Int32} {a2 : Int32} (e0 : 0 ≤ a0.toInt) (e1 : 15 < a0.toInt) : xRun (d + 8) 177 [Value.ref 128, Value.int a0, Value.long b0, Value.int a1, Value.int a2] w (.inr w.length) (w ++ [Sum.inr (14, [])]) := by
  refine xRun.of ?_
  refine i_177_0 (x := a0) rfl ?_
  exact j_177_1 (Nat.le_of_ble_eq_true rfl) (s_168_2 e0 e1) (xDone.t xgl rfl rfl ⟨rfl, rfl⟩)
theorem s_176_6 {d : Nat} {w : xW} {a0 : Int32} {b0 : Int64} {a1 : Int32} {a2 : Int32} (hw0 : w[128]? = some (Sum.inr (12, [Value.ref 129, Value.ref 131, Value.ref 133, Value.ref 135, Value.ref 137, Value.ref 139, Value.ref 141, Value.ref 143, Value.ref 145, Value.ref 147, Value.ref 149, Value.ref 151, Value.ref 153, Value.ref 154, Value.ref 155, Value.ref 156, Value.ref 157, Value.int (-16384), Value.int 16384, Value.int 0, Value.int 0, Value.int 0, Value.ref 158, Value.ref 159, Value.int 0, Value.int 0, Value.int 0, Value.int 0, Value.int 0, Value.int 0, Value.int 0, Value.int 0]))) (e1 : 0 ≤ a0.toInt) (e2 : 15 < a0.toInt) : xRun (d + 9) 176 [Value.ref 128, Value.int a0, Value.long b0, Value.int a1, Value.int a2] w (.inl (some (Value.int 0))) (((w.set 128 (Sum.inr (12, [Value.ref 129, Value.ref 131, Value.ref 133, Value.ref 135, Value.ref 137, Value.ref 139, Value.ref 141, Value.ref 143, Value.ref 145, Value.ref 147, Value.ref 149, Value.ref 151, Value.ref 153, Value.ref 154, Value.ref 155, Value.ref 156, Value.ref 157, Value.int (-16384), Value.int 16384, Value.int 0, Value.int 0, Value.int 0, Value.ref 158, Value.ref 159, Value.int 0, Value.int 0, Value.int 0, Value.int 0, Value.int 0, Value.int 0, Value.int 0, Value.int 0]))) ++ [Sum.inr (14, [])]).set 128 (Sum.inr (12, [Value.ref 129, Value.ref 131, Value.ref 133, Value.ref 135, Value.ref 137, Value.ref 139, Value.ref 141, Value.ref 143, Value.ref 145, Value.ref 147, Value.ref 149, Value.ref 151, Value.ref 153, Value.ref 154, Value.ref 155, Value.ref 156, Value.ref 157, Value.int (-16384), Value.int 16384, Value.int 0, Value.int 0, Value.int 0, Value.ref 158, Value.ref 159, Value.int 0, Value.int 0, Value.int 0, Value.int 0, Value.int 0, Value.int 0, Value.int 0, Value.int 1]))) := by
  refine xRun.of ?_
  refine i_176_0 (x := 128) rfl ?_
  refine i_176_1 ?_
  refine i_176_2 (fs2 := [Value.ref 129, Value.ref 131, Value.ref 133, Value.ref 135, Value.ref 137, Value.ref 139, Value.ref 141, Value.ref 143, Value.ref 145, Value.ref 147, Value.ref 149, Value.ref 151, Value.ref 153, Value.ref 154, Value.ref 155, Value.ref 156, Value.ref 157, Value.int (-16384), Value.int 16384, Value.int 0, Value.int 0, Value.int 0, Value.ref 158, Value.ref 159, Value.int 0, Value.int 0, Value.int 0, Value.int 0, Value.int 0, Value.int 0, Value.int 0, Value.int 0]) hw0 (Nat.le_of_ble_eq_true rfl) rfl (by decide) ?_
  refine i_176_5 (x := 128) rfl ?_
  refine i_176_6 (x := a0) rfl ?_
  refine i_176_7 (x := b0) rfl ?_
  refine i_176_8 (x := a1) rfl ?_
  refine i_176_10 (x := a2) rfl ?_
  refine j_176_12 (xgs hw0) (Nat.le_of_ble_eq_true rfl) (s_177_6 e1 e2) (xDone.c xgl rfl rfl ?_)
  refine i_176_16 (lv2 := [(6, Value.ref ((w.set 128 (Sum.inr (12, [Value.ref 129, Value.ref 131, Value.ref 133, Value.ref 135, Value.ref 137, Value.ref 139, Value.ref 141, Value.ref 143, Value.ref 145, Value.ref 147, Value.ref 149, Value.ref 151, Value.ref 153, Value.ref 154, Value.ref 155, Value.ref 156, Value.ref 157, Value.int (-16384), Value.int 16384, Value.int 0, Value.int 0, Value.int 0, Value.ref 158, Value.ref 159, Value.int 0, Value.int 0, Value.int 0, Value.int 0, Value.int 0, Value.int 0, Value.int 0, Value.int 0]))).length)), (0, Value.ref 128), (1, Value.int a0), (2, Value.long b0), (4, Value.int a1), (5, Value.int a2)]) rfl ?_
  refine i_176_18 (x := 128) rfl ?_
  refine i_176_19 ?_
  refine i_176_20 (fs2 := [Value.ref 129, Value.ref 131, Value.ref 133, Value.ref 135, Value.ref 137, Value.ref 139, Value.ref 141, Value.ref 143, Value.ref 145, Value.ref 147, Value.ref 149, Value.ref 151, Value.ref 153, Value.ref 154, Value.ref 155, Value.ref 156, Value.ref 157, Value.int (-16384), Value.int 16384, Value.int 0, Value.int 0, Value.int 0, Value.ref 158, Value.ref 159, Value.int 0, Value.int 0, Value.int 0, Value.int 0, Value.int 0, Value.int 0, Value.int 0, Value.int 1]) (xga (xgs hw0)) (Nat.le_of_ble_eq_true rfl) rfl (by decide) ?_
  refine i_176_23 ?_
  exact i_176_24 ⟨rfl, rfl⟩
theorem o_3_6 {d : Nat} {xs : Nat → Int32} (h0 : ((xs 0) &&& (31 : Int32)).toInt = 3) (c0 : 0 ≤ (xs 1).toInt) (c1 : 16 ≤ (xs 1).toInt) : ∃ w1, xEv (d + 20) 287 23 [(4, Value.int 0), (3, Value.ref 194), (2, Value.ref 128), (1, Value.ref 7), (0, Value.ref 0)] [] (W0 6 xs) (fun o' w' => o' = .inl (some (Value.int 1)) ∧ w' = w1) ∧ w1.length ≤ 220 ∧ xsz w1 ≤ 200000 := by
  refine ⟨(((((W0 6 xs) ++ [Sum.inr (14, [])]).set 128 (Sum.inr (12, [Value.ref 129, Value.ref 131, Value.ref 133, Value.ref 135, Value.ref 137, Value.ref 139, Value.ref 141, Value.ref 143, Value.ref 145, Value.ref 147, Value.ref 149, Value.ref 151, Value.ref 153, Value.ref 154, Value.ref 155, Value.ref 156, Value.ref 157, Value.int (-16384), Value.int 16384, Value.int 0, Value.int 0, Value.int 0, Value.ref 158, Value.ref 159, Value.int 0, Value.int 0, Value.int 0, Value.int 0, Value.int 0, Value.int 0, Value.int 0, Value.int 0]))) ++ [Sum.inr (14, [])]).set 128 (Sum.inr (12, [Value.ref 129, Value.ref 131, Value.ref 133, Value.ref 135, Value.ref 137, Value.ref 139, Value.ref 141, Value.ref 143, Value.ref 145, Value.ref 147, Value.ref 149, Value.ref 151, Value.ref 153, Value.ref 154, Value.ref 155, Value.ref 156, Value.ref 157, Value.int (-16384), Value.int 16384, Value.int 0, Value.int 0, Value.int 0, Value.ref 158, Value.ref 159, Value.int 0, Value.int 0, Value.int 0, Value.int 0, Value.int 0, Value.int 0, Value.int 0, Value.int 1]))), ?_, (show xLs _ 220 200000 from ?_)⟩
  · refine i_287_23 (x := 0) rfl ?_
    refine i_287_25 (x := 0) rfl ?_
    refine i_287_26 (c := 6) W0_0 (by decide) ?_
    refine i_287_27 ?_
    refine i_287_29 (c := 0) (by decide) ?_
    refine i_287_30 (fun h => absurd h (by decide)) (fun _ => ?_)
    refine i_287_33 (x := 0) rfl ?_
    refine i_287_34 (x := 0) rfl ?_
    refine i_287_36 (v := Value.int (xs 0)) W0_0 (by decide) (by decide) rfl ?_
    refine i_287_37 ?_
    refine i_287_39 (c := 3) (show ((xs 0) &&& (31 : Int32)) = 3 from (xge_c (n := 3) (by omega) rfl)) ?_
    refine i_287_40_3 rfl ?_
    refine i_287_357 (x := 7) rfl ?_
    refine i_287_358 (x := 0) rfl ?_
    refine i_287_359 (x := 0) rfl ?_
    refine i_287_361 ?_
    refine i_287_362 (c := 1) (by decide) ?_
    refine i_287_363 (v := Value.int (xs 1)) W0_0 (by decide) (by decide) rfl ?_
    refine i_287_364 (x := 0) rfl ?_
    refine i_287_365 (x := 0) rfl ?_
    refine i_287_367 ?_
    refine i_287_368 (c := 2) (by decide) ?_
    refine i_287_369 (v := Value.int (xs 2)) W0_0 (by decide) (by decide) rfl ?_
    refine i_287_370 (c := (xs 2).toInt64) rfl ?_
    refine i_287_371 ?_
    refine i_287_373 (c := (xsh (xs 2) (32 : Int32))) rfl ?_
    refine i_287_374 (x := 0) rfl ?_
    refine i_287_375 (x := 0) rfl ?_
    refine i_287_377 ?_
    refine i_287_378 (c := 3) (by decide) ?_
    refine i_287_379 (v := Value.int (xs 3)) W0_0 (by decide) (by decide) rfl ?_
    refine i_287_380 (c := (xs 3).toInt64) rfl ?_
    refine i_287_381 ?_
    refine i_287_384 (c := (((xs 3).toInt64) &&& (4294967295 : Int64))) rfl ?_
    refine i_287_385 (c := (xvv xs)) rfl ?_
    refine i_287_386 (x := 0) rfl ?_
    refine i_287_387 (x := 0) rfl ?_
    refine i_287_389 ?_
    refine i_287_390 (c := 4) (by decide) ?_
    refine i_287_391 (v := Value.int (xs 4)) W0_0 (by decide) (by decide) rfl ?_
    refine i_287_392 (x := 0) rfl ?_
    refine i_287_393 (x := 0) rfl ?_
    refine i_287_395 ?_
    refine i_287_396 (c := 5) (by decide) ?_
    refine i_287_397 (v := Value.int (xs 5)) W0_0 (by decide) (by decide) rfl ?_
    refine i_287_398 (x := 194) rfl ?_
    refine i_287_399 (Nat.le_of_ble_eq_true rfl) (s_20_66 W0_7 (by omega) (by omega)) ?_
    refine i_287_402 (lv2 := [(5, Value.int 1), (4, Value.int 0), (3, Value.ref 194), (2, Value.ref 128), (1, Value.ref 7), (0, Value.ref 0)]) rfl ?_
    refine i_287_404 (x := 128) rfl ?_
    refine i_287_405 (x := 0) rfl ?_
    refine i_287_406 (x := 0) rfl ?_
    refine i_287_408 ?_
    refine i_287_409 (c := 1) (by decide) ?_
    refine i_287_410 (v := Value.int (xs 1)) (xga W0_0) (by decide) (by decide) rfl ?_
    refine i_287_411 (x := 0) rfl ?_
    refine i_287_412 (x := 0) rfl ?_
    refine i_287_414 ?_
    refine i_287_415 (c := 2) (by decide) ?_
    refine i_287_416 (v := Value.int (xs 2)) (xga W0_0) (by decide) (by decide) rfl ?_
    refine i_287_417 (c := (xs 2).toInt64) rfl ?_
    refine i_287_418 ?_
    refine i_287_420 (c := (xsh (xs 2) (32 : Int32))) rfl ?_
    refine i_287_421 (x := 0) rfl ?_
    refine i_287_422 (x := 0) rfl ?_
    refine i_287_424 ?_
    refine i_287_425 (c := 3) (by decide) ?_
    refine i_287_426 (v := Value.int (xs 3)) (xga W0_0) (by decide) (by decide) rfl ?_
    refine i_287_427 (c := (xs 3).toInt64) rfl ?_
    refine i_287_428 ?_
    refine i_287_431 (c := (((xs 3).toInt64) &&& (4294967295 : Int64))) rfl ?_
    refine i_287_432 (c := (xvv xs)) rfl ?_
    refine i_287_433 (x := 0) rfl ?_
    refine i_287_434 (x := 0) rfl ?_
    refine i_287_436 ?_
    refine i_287_437 (c := 4) (by decide) ?_
    refine i_287_438 (v := Value.int (xs 4)) (xga W0_0) (by decide) (by decide) rfl ?_
    refine i_287_439 (x := 0) rfl ?_
    refine i_287_440 (x := 0) rfl ?_
    refine i_287_442 ?_
    refine i_287_443 (c := 5) (by decide) ?_
    refine i_287_444 (v := Value.int (xs 5)) (xga W0_0) (by decide) (by decide) rfl ?_
    refine i_287_445 (xga W0_128) (Nat.le_of_ble_eq_true rfl) (s_176_6 (xga W0_128) (by omega) (by omega)) ?_
    refine i_287_448 (lv2 := [(6, Value.int 0), (5, Value.int 1), (4, Value.int 0), (3, Value.ref 194), (2, Value.ref 128), (1, Value.ref 7), (0, Value.ref 0)]) rfl ?_
    refine i_287_450 (x := 128) rfl ?_
    refine i_287_451 (xgs (xga (xgs (xga W0_128)))) (Nat.le_of_ble_eq_true rfl) (s_165_1 (xgs (xga (xgs (xga W0_128))))) ?_
    refine i_287_454 (x := 1) rfl ?_
    refine i_287_456 (fun _ => ?_) (fun h => absurd h (by decide))
    refine i_287_461 (x := 1) rfl ?_
    refine i_287_463 (fun _ => ?_) (fun h => absurd h (by decide))
    refine i_287_478 ?_
    refine i_287_2154 (x := 0) (c := 6) (lv2 := [(4, Value.int 6), (6, Value.int 0), (5, Value.int 1), (3, Value.ref 194), (2, Value.ref 128), (1, Value.ref 7), (0, Value.ref 0)]) rfl (by decide) rfl ?_
    refine i_287_2157 ?_
    refine i_287_23 (x := 6) rfl ?_
    refine i_287_25 (x := 0) rfl ?_
    refine i_287_26 (c := 6) (xgn (by decide) (xga (xgn (by decide) (xga W0_0)))) (by decide) ?_
    refine i_287_27 ?_
    refine i_287_29 (c := 0) (by decide) ?_
    refine i_287_30 (fun _ => ?_) (fun h => absurd h (by decide))
    refine i_287_2160 ?_
    exact i_287_2161 rfl ⟨rfl, rfl⟩
  · refine xLs.set ?_ (xga (xgs (xga W0_128))) xcs_o
    refine xLs.app (n := 219) (z := 199994) (m := 6) ?_ rfl
    refine xLs.set ?_ (xga W0_128) xcs_o
    refine xLs.app (n := 218) (z := 199988) (m := 6) ?_ rfl
    exact ⟨Nat.le_trans (Nat.le_of_eq W0_len) (by decide), Nat.le_trans (Nat.le_of_eq W0_sz) (by decide)⟩
theorem op_3 {d : Nat} {xs : Nat → Int32} (h0 : ((xs 0) &&& (31 : Int32)).toInt = 3) : ∃ w1, xEv (d + 20) 287 23 [(4, Value.int 0), (3, Value.ref 194), (2, Value.ref 128), (1, Value.ref 7), (0, Value.ref 0)] [] (W0 6 xs) (fun o' w' => o' = .inl (some (Value.int 1)) ∧ w' = w1) ∧ w1.length ≤ 220 ∧ xsz w1 ≤ 200000 := by
  rcases Int.lt_or_le (xs 1).toInt (0) with c0 | c0
  · exact o_3_0 h0 c0
  · rcases Int.lt_or_le (xs 1).toInt (16) with c1 | c1
    · rcases Int.lt_or_le (xs 4).toInt (-40000) with c2 | c2
      · exact o_3_1 h0 c0 c1 c2
      · rcases Int.lt_or_le (40000) (xs 4).toInt with c3 | c3
        · exact o_3_2 h0 c0 c1 c2 c3
        · rcases Int.lt_or_le (xs 5).toInt (0) with c4 | c4
          · exact o_3_3 h0 c0 c1 c2 c3 c4
          · rcases Int.lt_or_le (4) (xs 5).toInt with c5 | c5
            · exact o_3_4 h0 c0 c1 c2 c3 c4 c5
            · by_cases c6 : (lg_cmp (xvv xs) (0 : Int64)).toInt = 0
              · exact o_3_5 h0 c0 c1 c2 c3 c4 c5 c6
              · rcases Int.lt_or_le (lg_cmp (xvv xs) (0 : Int64)).toInt (0) with c7 | c7
                · exact op3v_1 h0 c0 c1 c2 c3 c4 c5 c6 c7
                · exact op3v_0 h0 c0 c1 c2 c3 c4 c5 c6 c7
    · exact o_3_6 h0 c0 c1
