theorem r_15_0 {d : Nat} {w : xW} {a0 : Int32} (e0 : a0.toInt < 0) : xRun d 15 [Value.int a0] w (.inl (some (Value.int 1))) w := by
  refine xRun.of ?_
  refine i_15_0 (x := a0) rfl ?_
  refine i_15_1 (fun _ => ?_) (fun h => absurd e0 (Int.not_lt.mpr h))
  refine i_15_10 ?_
  refine i_15_11 ?_
  exact i_15_15 rfl ⟨rfl, rfl⟩
theorem r_128_0 {d : Nat} {w : xW} {a0 : Int32} {b0 : Int64} {a1 : Int32} (e0 : a0.toInt < 0) : xRun (d + 6) 128 [Value.ref 7, Value.int a0, Value.long b0, Value.int a1] w (.inr w.length) (w ++ [Sum.inr (14, [])]) := by
  refine xRun.of ?_
  refine i_128_0 (x := a0) rfl ?_
  refine i_128_1 (Nat.le_of_ble_eq_true rfl) (r_15_0 e0) ?_
  refine i_128_4 (fun _ => ?_) (fun h => absurd h (by decide))
  exact i_128_15 (by omega) (Nat.le_of_ble_eq_true rfl) ⟨rfl, rfl⟩
theorem r_127_0 {d : Nat} {w : xW} {a0 : Int32} {b0 : Int64} {a1 : Int32} (hw0 : w[7]? = some (Sum.inr (0, [Value.ref 8, Value.ref 78, Value.ref 9, Value.ref 10, Value.ref 13, Value.ref 16, Value.ref 19, Value.ref 93, Value.ref 108, Value.ref 113, Value.ref 29, Value.int 0]))) (e1 : a0.toInt < 0) : xRun (d + 7) 127 [Value.ref 7, Value.int a0, Value.long b0, Value.int a1, Value.ref 194] w (.inl (some (Value.int 1))) (w ++ [Sum.inr (14, [])]) := by
  refine xRun.of ?_
  refine i_127_0 (x := 194) rfl ?_
  refine i_127_2 ?_
  refine i_127_3 (x := 7) rfl ?_
  refine i_127_4 (x := a0) rfl ?_
  refine i_127_5 (x := b0) rfl ?_
  refine i_127_6 (x := a1) rfl ?_
  refine j_127_8 hw0 (Nat.le_of_ble_eq_true rfl) (r_128_0 e1) (xDone.c xgl rfl rfl ?_)
  refine i_127_16 (lv2 := [(6, Value.ref w.length), (0, Value.ref 7), (1, Value.int a0), (2, Value.long b0), (4, Value.int a1), (5, Value.ref 194)]) rfl ?_
  refine i_127_18 ?_
  exact i_127_19 ⟨rfl, rfl⟩
theorem r_169_0 {d : Nat} {w : xW} {a0 : Int32} (e0 : a0.toInt < 0) : xRun d 169 [Value.int a0, Value.int 0, Value.int 15] w (.inl (some (Value.int 0))) w := by
  refine xRun.of ?_
  refine i_169_0 (x := a0) rfl ?_
  refine i_169_1 (x := 0) rfl ?_
  refine i_169_2 (fun _ => ?_) (fun h => absurd e0 (Int.not_lt.mpr h))
  refine i_169_14 ?_
  exact i_169_15 rfl ⟨rfl, rfl⟩
theorem r_170_0 {d : Nat} {w : xW} : xRun (d + 6) 170 [Value.int 0] w (.inr w.length) (w ++ [Sum.inr (14, [])]) := by
  refine xRun.of ?_
  refine i_170_0 (x := 0) rfl ?_
  refine i_170_1 (fun h => absurd h (by decide)) (fun _ => ?_)
  exact i_170_4 (by omega) (Nat.le_of_ble_eq_true rfl) ⟨rfl, rfl⟩
theorem r_168_0 {d : Nat} {w : xW} {a0 : Int32} (e0 : a0.toInt < 0) : xRun (d + 7) 168 [Value.int a0] w (.inr w.length) (w ++ [Sum.inr (14, [])]) := by
  refine xRun.of ?_
  refine i_168_0 (x := a0) rfl ?_
  refine i_168_1 ?_
  refine i_168_2 ?_
  refine i_168_4 (Nat.le_of_ble_eq_true rfl) (r_169_0 e0) ?_
  exact j_168_7 (Nat.le_of_ble_eq_true rfl) (r_170_0) (xDone.t xgl rfl rfl ⟨rfl, rfl⟩)
theorem r_248_0 {d : Nat} {w : xW} {a0 : Int32} {b0 : Int64} {a1 : Int32} (e0 : a0.toInt < 0) : xRun (d + 8) 248 [Value.ref 128, Value.int a0, Value.long b0, Value.int a1] w (.inr w.length) (w ++ [Sum.inr (14, [])]) := by
  refine xRun.of ?_
  refine i_248_0 (x := a0) rfl ?_
  exact j_248_1 (Nat.le_of_ble_eq_true rfl) (r_168_0 e0) (xDone.t xgl rfl rfl ⟨rfl, rfl⟩)
theorem r_247_0 {d : Nat} {w : xW} {a0 : Int32} {b0 : Int64} {a1 : Int32} (hw0 : w[128]? = some (Sum.inr (12, [Value.ref 129, Value.ref 131, Value.ref 133, Value.ref 135, Value.ref 137, Value.ref 139, Value.ref 141, Value.ref 143, Value.ref 145, Value.ref 147, Value.ref 149, Value.ref 151, Value.ref 153, Value.ref 154, Value.ref 155, Value.ref 156, Value.ref 157, Value.int (-16384), Value.int 16384, Value.int 0, Value.int 0, Value.int 0, Value.ref 158, Value.ref 159, Value.int 0, Value.int 0, Value.int 0, Value.int 0, Value.int 0, Value.int 0, Value.int 0, Value.int 0]))) (e1 : a0.toInt < 0) : xRun (d + 9) 247 [Value.ref 128, Value.int a0, Value.long b0, Value.int a1] w (.inl (some (Value.int 0))) (((w.set 128 (Sum.inr (12, [Value.ref 129, Value.ref 131, Value.ref 133, Value.ref 135, Value.ref 137, Value.ref 139, Value.ref 141, Value.ref 143, Value.ref 145, Value.ref 147, Value.ref 149, Value.ref 151, Value.ref 153, Value.ref 154, Value.ref 155, Value.ref 156, Value.ref 157, Value.int (-16384), Value.int 16384, Value.int 0, Value.int 0, Value.int 0, Value.ref 158, Value.ref 159, Value.int 0, Value.int 0, Value.int 0, Value.int 0, Value.int 0, Value.int 0, Value.int 0, Value.int 0]))) ++ [Sum.inr (14, [])]).set 128 (Sum.inr (12, [Value.ref 129, Value.ref 131, Value.ref 133, Value.ref 135, Value.ref 137, Value.ref 139, Value.ref 141, Value.ref 143, Value.ref 145, Value.ref 147, Value.ref 149, Value.ref 151, Value.ref 153, Value.ref 154, Value.ref 155, Value.ref 156, Value.ref 157, Value.int (-16384), Value.int 16384, Value.int 0, Value.int 0, Value.int 0, Value.ref 158, Value.ref 159, Value.int 0, Value.int 0, Value.int 0, Value.int 0, Value.int 0, Value.int 0, Value.int 0, Value.int 1]))) := by
  refine xRun.of ?_
  refine i_247_0 (x := 128) rfl ?_
  refine i_247_1 ?_
  refine i_247_2 (fs2 := [Value.ref 129, Value.ref 131, Value.ref 133, Value.ref 135, Value.ref 137, Value.ref 139, Value.ref 141, Value.ref 143, Value.ref 145, Value.ref 147, Value.ref 149, Value.ref 151, Value.ref 153, Value.ref 154, Value.ref 155, Value.ref 156, Value.ref 157, Value.int (-16384), Value.int 16384, Value.int 0, Value.int 0, Value.int 0, Value.ref 158, Value.ref 159, Value.int 0, Value.int 0, Value.int 0, Value.int 0, Value.int 0, Value.int 0, Value.int 0, Value.int 0]) hw0 (Nat.le_of_ble_eq_true rfl) rfl (by decide) ?_
  refine i_247_5 (x := 128) rfl ?_
  refine i_247_6 (x := a0) rfl ?_
  refine i_247_7 (x := b0) rfl ?_
  refine i_247_8 (x := a1) rfl ?_
  refine j_247_10 (xgs hw0) (Nat.le_of_ble_eq_true rfl) (r_248_0 e1) (xDone.c xgl rfl rfl ?_)
  refine i_247_14 (lv2 := [(5, Value.ref ((w.set 128 (Sum.inr (12, [Value.ref 129, Value.ref 131, Value.ref 133, Value.ref 135, Value.ref 137, Value.ref 139, Value.ref 141, Value.ref 143, Value.ref 145, Value.ref 147, Value.ref 149, Value.ref 151, Value.ref 153, Value.ref 154, Value.ref 155, Value.ref 156, Value.ref 157, Value.int (-16384), Value.int 16384, Value.int 0, Value.int 0, Value.int 0, Value.ref 158, Value.ref 159, Value.int 0, Value.int 0, Value.int 0, Value.int 0, Value.int 0, Value.int 0, Value.int 0, Value.int 0]))).length)), (0, Value.ref 128), (1, Value.int a0), (2, Value.long b0), (4, Value.int a1)]) rfl ?_
  refine i_247_16 (x := 128) rfl ?_
  refine i_247_17 ?_
  refine i_247_18 (fs2 := [Value.ref 129, Value.ref 131, Value.ref 133, Value.ref 135, Value.ref 137, Value.ref 139, Value.ref 141, Value.ref 143, Value.ref 145, Value.ref 147, Value.ref 149, Value.ref 151, Value.ref 153, Value.ref 154, Value.ref 155, Value.ref 156, Value.ref 157, Value.int (-16384), Value.int 16384, Value.int 0, Value.int 0, Value.int 0, Value.ref 158, Value.ref 159, Value.int 0, Value.int 0, Value.int 0, Value.int 0, Value.int 0, Value.int 0, Value.int 0, Value.int 1]) (xga (xgs hw0)) (Nat.le_of_ble_eq_true rfl) rfl (by decide) ?_
  refine i_247_21 ?_
  exact i_247_22 ⟨rfl, rfl⟩
theorem r_165_0 {d : Nat} {w : xW} (hw0 : w[128]? = some (Sum.inr (12, [Value.ref 129, Value.ref 131, Value.ref 133, Value.ref 135, Value.ref 137, Value.ref 139, Value.ref 141, Value.ref 143, Value.ref 145, Value.ref 147, Value.ref 149, Value.ref 151, Value.ref 153, Value.ref 154, Value.ref 155, Value.ref 156, Value.ref 157, Value.int (-16384), Value.int 16384, Value.int 0, Value.int 0, Value.int 0, Value.ref 158, Value.ref 159, Value.int 0, Value.int 0, Value.int 0, Value.int 0, Value.int 0, Value.int 0, Value.int 0, Value.int 1]))) : xRun d 165 [Value.ref 128] w (.inl (some (Value.int 1))) w := by
  refine xRun.of ?_
  refine i_165_0 (x := 128) rfl ?_
  refine i_165_1 (v := Value.int 1) hw0 rfl ?_
  exact i_165_4 ⟨rfl, rfl⟩
theorem o_16_0 {d : Nat} {xs : Nat → Int32} (h0 : ((xs 0) &&& (31 : Int32)).toInt = 16) (c0 : (xs 1).toInt < 0) : ∃ w1, xEv (d + 20) 287 23 [(4, Value.int 0), (3, Value.ref 194), (2, Value.ref 128), (1, Value.ref 7), (0, Value.ref 0)] [] (W0 6 xs) (fun o' w' => o' = .inl (some (Value.int 1)) ∧ w' = w1) ∧ w1.length ≤ 220 ∧ xsz w1 ≤ 200000 := by
  have f0 : 0 ≤ (xfd (xvv xs)).toInt := (xfd_b _).1
  have f1 : (xfd (xvv xs)).toInt ≤ 2047 := (xfd_b _).2
  have G : id ((xs 1).toInt < 0) := by show (xs 1).toInt < 0; omega
  refine ⟨(((((W0 6 xs) ++ [Sum.inr (14, [])]).set 128 (Sum.inr (12, [Value.ref 129, Value.ref 131, Value.ref 133, Value.ref 135, Value.ref 137, Value.ref 139, Value.ref 141, Value.ref 143, Value.ref 145, Value.ref 147, Value.ref 149, Value.ref 151, Value.ref 153, Value.ref 154, Value.ref 155, Value.ref 156, Value.ref 157, Value.int (-16384), Value.int 16384, Value.int 0, Value.int 0, Value.int 0, Value.ref 158, Value.ref 159, Value.int 0, Value.int 0, Value.int 0, Value.int 0, Value.int 0, Value.int 0, Value.int 0, Value.int 0]))) ++ [Sum.inr (14, [])]).set 128 (Sum.inr (12, [Value.ref 129, Value.ref 131, Value.ref 133, Value.ref 135, Value.ref 137, Value.ref 139, Value.ref 141, Value.ref 143, Value.ref 145, Value.ref 147, Value.ref 149, Value.ref 151, Value.ref 153, Value.ref 154, Value.ref 155, Value.ref 156, Value.ref 157, Value.int (-16384), Value.int 16384, Value.int 0, Value.int 0, Value.int 0, Value.ref 158, Value.ref 159, Value.int 0, Value.int 0, Value.int 0, Value.int 0, Value.int 0, Value.int 0, Value.int 0, Value.int 1]))), ?_, (show xLs _ 220 200000 from ?_)⟩
  · refine i_287_23 (x := 0) rfl ?_
    refine i_287_25 (x := 0) rfl ?_
    refine i_287_26 (c := 6) W0_0 (by decide) ?_
    refine i_287_27 ?_
    refine i_287_29 (c := 0) (by decide) ?_
    refine i_287_30 (fun h => absurd h (by decide)) (fun _ => ?_)
    refine i_287_33 (x := 0) rfl ?_
    refine i_287_34 (x := 0) rfl ?_
    refine i_287_36 (v := Value.int (xs 0)) W0_0 (by decide) (by decide) rfl ?_
    refine i_287_37 ?_
    refine i_287_39 (c := 16) (show ((xs 0) &&& (31 : Int32)) = 16 from (xge_c (n := 16) (by omega) rfl)) ?_
    refine i_287_40_16 rfl ?_
    refine i_287_1540 (x := 7) rfl ?_
    refine i_287_1541 (x := 0) rfl ?_
    refine i_287_1542 (x := 0) rfl ?_
    refine i_287_1544 ?_
    refine i_287_1545 (c := 1) (by decide) ?_
    refine i_287_1546 (v := Value.int (xs 1)) W0_0 (by decide) (by decide) rfl ?_
    refine i_287_1547 (x := 0) rfl ?_
    refine i_287_1548 (x := 0) rfl ?_
    refine i_287_1550 ?_
    refine i_287_1551 (c := 2) (by decide) ?_
    refine i_287_1552 (v := Value.int (xs 2)) W0_0 (by decide) (by decide) rfl ?_
    refine i_287_1553 (c := (xs 2).toInt64) rfl ?_
    refine i_287_1554 ?_
    refine i_287_1556 (c := (xsh (xs 2) (32 : Int32))) rfl ?_
    refine i_287_1557 (x := 0) rfl ?_
    refine i_287_1558 (x := 0) rfl ?_
    refine i_287_1560 ?_
    refine i_287_1561 (c := 3) (by decide) ?_
    refine i_287_1562 (v := Value.int (xs 3)) W0_0 (by decide) (by decide) rfl ?_
    refine i_287_1563 (c := (xs 3).toInt64) rfl ?_
    refine i_287_1564 ?_
    refine i_287_1567 (c := (((xs 3).toInt64) &&& (4294967295 : Int64))) rfl ?_
    refine i_287_1568 (c := (xvv xs)) rfl ?_
    refine i_287_1569 (x := 0) rfl ?_
    refine i_287_1570 (x := 0) rfl ?_
    refine i_287_1572 ?_
    refine i_287_1573 (c := 4) (by decide) ?_
    refine i_287_1574 (v := Value.int (xs 4)) W0_0 (by decide) (by decide) rfl ?_
    refine i_287_1575 (x := 194) rfl ?_
    refine i_287_1576 (Nat.le_of_ble_eq_true rfl) (r_127_0 W0_7 (G)) ?_
    refine i_287_1579 (lv2 := [(5, Value.int 1), (4, Value.int 0), (3, Value.ref 194), (2, Value.ref 128), (1, Value.ref 7), (0, Value.ref 0)]) rfl ?_
    refine i_287_1581 (x := 128) rfl ?_
    refine i_287_1582 (x := 0) rfl ?_
    refine i_287_1583 (x := 0) rfl ?_
    refine i_287_1585 ?_
    refine i_287_1586 (c := 1) (by decide) ?_
    refine i_287_1587 (v := Value.int (xs 1)) (xga W0_0) (by decide) (by decide) rfl ?_
    refine i_287_1588 (x := 0) rfl ?_
    refine i_287_1589 (x := 0) rfl ?_
    refine i_287_1591 ?_
    refine i_287_1592 (c := 2) (by decide) ?_
    refine i_287_1593 (v := Value.int (xs 2)) (xga W0_0) (by decide) (by decide) rfl ?_
    refine i_287_1594 (c := (xs 2).toInt64) rfl ?_
    refine i_287_1595 ?_
    refine i_287_1597 (c := (xsh (xs 2) (32 : Int32))) rfl ?_
    refine i_287_1598 (x := 0) rfl ?_
    refine i_287_1599 (x := 0) rfl ?_
    refine i_287_1601 ?_
    refine i_287_1602 (c := 3) (by decide) ?_
    refine i_287_1603 (v := Value.int (xs 3)) (xga W0_0) (by decide) (by decide) rfl ?_
    refine i_287_1604 (c := (xs 3).toInt64) rfl ?_
    refine i_287_1605 ?_
    refine i_287_1608 (c := (((xs 3).toInt64) &&& (4294967295 : Int64))) rfl ?_
    refine i_287_1609 (c := (xvv xs)) rfl ?_
    refine i_287_1610 (x := 0) rfl ?_
    refine i_287_1611 (x := 0) rfl ?_
    refine i_287_1613 ?_
    refine i_287_1614 (c := 4) (by decide) ?_
    refine i_287_1615 (v := Value.int (xs 4)) (xga W0_0) (by decide) (by decide) rfl ?_
    refine i_287_1616 (xga W0_128) (Nat.le_of_ble_eq_true rfl) (r_247_0 (xga W0_128) (G)) ?_
    refine i_287_1619 (lv2 := [(6, Value.int 0), (5, Value.int 1), (4, Value.int 0), (3, Value.ref 194), (2, Value.ref 128), (1, Value.ref 7), (0, Value.ref 0)]) rfl ?_
    refine i_287_1621 (x := 128) rfl ?_
    refine i_287_1622 (xgs (xga (xgs (xga W0_128)))) (Nat.le_of_ble_eq_true rfl) (r_165_0 (xgs (xga (xgs (xga W0_128))))) ?_
    refine i_287_1625 (x := 1) rfl ?_
    refine i_287_1627 (fun _ => ?_) (fun h => absurd h (by decide))
    refine i_287_1632 (x := 1) rfl ?_
    refine i_287_1634 (fun _ => ?_) (fun h => absurd h (by decide))
    refine i_287_1649 ?_
    refine i_287_2154 (x := 0) (c := 6) (lv2 := [(4, Value.int 6), (6, Value.int 0), (5, Value.int 1), (3, Value.ref 194), (2, Value.ref 128), (1, Value.ref 7), (0, Value.ref 0)]) rfl (by decide) rfl ?_
    refine i_287_2157 ?_
    refine i_287_23 (x := 6) rfl ?_
    refine i_287_25 (x := 0) rfl ?_
    refine i_287_26 (c := 6) (xgn (by decide) (xga (xgn (by decide) (xga W0_0)))) (by decide) ?_
    refine i_287_27 ?_
    refine i_287_29 (c := 0) (by decide) ?_
    refine i_287_30 (fun _ => ?_) (fun h => absurd h (by decide))
    refine i_287_2160 ?_
    exact i_287_2161 rfl ⟨rfl, rfl⟩
  · refine xLs.set ?_ (xga (xgs (xga W0_128))) xcs_o
    refine xLs.app (n := 219) (z := 199994) (m := 6) ?_ rfl
    refine xLs.set ?_ (xga W0_128) xcs_o
    refine xLs.app (n := 218) (z := 199988) (m := 6) ?_ rfl
    exact ⟨Nat.le_trans (Nat.le_of_eq W0_len) (by decide), Nat.le_trans (Nat.le_of_eq W0_sz) (by decide)⟩
theorem r_15_1 {d : Nat} {w : xW} {a0 : Int32} (e0 : 0 ≤ a0.toInt) (e1 : a0.toInt < 16) : xRun d 15 [Value.int a0] w (.inl (some (Value.int 0))) w := by
  refine xRun.of ?_
  refine i_15_0 (x := a0) rfl ?_
  refine i_15_1 (fun h => absurd e0 (Int.not_le.mpr h)) (fun _ => ?_)
  refine i_15_4 (x := a0) rfl ?_
  refine i_15_5 ?_
  refine i_15_7 (fun _ => ?_) (fun h => absurd e1 (Int.not_lt.mpr h))
  refine i_15_14 ?_
  exact i_15_15 rfl ⟨rfl, rfl⟩
theorem r_22_0 {d : Nat} {w : xW} {a0 : Int32} (e0 : a0.toInt < 0) : xRun d 22 [Value.int a0] w (.inl (some (Value.int 1))) w := by
  refine xRun.of ?_
  refine i_22_0 (x := a0) rfl ?_
  refine i_22_1 (fun _ => ?_) (fun h => absurd e0 (Int.not_lt.mpr h))
  refine i_22_9 ?_
  refine i_22_10 ?_
  exact i_22_14 rfl ⟨rfl, rfl⟩
theorem r_128_1 {d : Nat} {w : xW} {a0 : Int32} {b0 : Int64} {a1 : Int32} (e0 : 0 ≤ a0.toInt) (e1 : a0.toInt < 16) (e2 : a1.toInt < 0) : xRun (d + 6) 128 [Value.ref 7, Value.int a0, Value.long b0, Value.int a1] w (.inr w.length) (w ++ [Sum.inr (14, [])]) := by
  refine xRun.of ?_
  refine i_128_0 (x := a0) rfl ?_
  refine i_128_1 (Nat.le_of_ble_eq_true rfl) (r_15_1 e0 e1) ?_
  refine i_128_4 (fun h => absurd h (by decide)) (fun _ => ?_)
  refine i_128_7 (x := a1) rfl ?_
  refine i_128_9 (Nat.le_of_ble_eq_true rfl) (r_22_0 e2) ?_
  refine i_128_12 (fun h => absurd h (by decide)) (fun _ => ?_)
  exact i_128_15 (by omega) (Nat.le_of_ble_eq_true rfl) ⟨rfl, rfl⟩
theorem r_127_1 {d : Nat} {w : xW} {a0 : Int32} {b0 : Int64} {a1 : Int32} (hw0 : w[7]? = some (Sum.inr (0, [Value.ref 8, Value.ref 78, Value.ref 9, Value.ref 10, Value.ref 13, Value.ref 16, Value.ref 19, Value.ref 93, Value.ref 108, Value.ref 113, Value.ref 29, Value.int 0]))) (e1 : 0 ≤ a0.toInt) (e2 : a0.toInt < 16) (e3 : a1.toInt < 0) : xRun (d + 7) 127 [Value.ref 7, Value.int a0, Value.long b0, Value.int a1, Value.ref 194] w (.inl (some (Value.int 1))) (w ++ [Sum.inr (14, [])]) := by
  refine xRun.of ?_
  refine i_127_0 (x := 194) rfl ?_
  refine i_127_2 ?_
  refine i_127_3 (x := 7) rfl ?_
  refine i_127_4 (x := a0) rfl ?_
  refine i_127_5 (x := b0) rfl ?_
  refine i_127_6 (x := a1) rfl ?_
  refine j_127_8 hw0 (Nat.le_of_ble_eq_true rfl) (r_128_1 e1 e2 e3) (xDone.c xgl rfl rfl ?_)
  refine i_127_16 (lv2 := [(6, Value.ref w.length), (0, Value.ref 7), (1, Value.int a0), (2, Value.long b0), (4, Value.int a1), (5, Value.ref 194)]) rfl ?_
  refine i_127_18 ?_
  exact i_127_19 ⟨rfl, rfl⟩
theorem r_169_1 {d : Nat} {w : xW} {a0 : Int32} (e0 : 0 ≤ a0.toInt) (e1 : a0.toInt ≤ 15) : xRun d 169 [Value.int a0, Value.int 0, Value.int 15] w (.inl (some (Value.int 1))) w := by
  refine xRun.of ?_
  refine i_169_0 (x := a0) rfl ?_
  refine i_169_1 (x := 0) rfl ?_
  refine i_169_2 (fun h => absurd e0 (Int.not_le.mpr h)) (fun _ => ?_)
  refine i_169_5 (x := a0) rfl ?_
  refine i_169_6 (x := 15) rfl ?_
  refine i_169_7 (fun h => absurd e1 (Int.not_le.mpr h)) (fun _ => ?_)
  refine i_169_10 ?_
  refine i_169_11 ?_
  exact i_169_15 rfl ⟨rfl, rfl⟩
theorem r_170_1 {d : Nat} {w : xW} : xRun d 170 [Value.int 1] w (.inl none) w := by
  refine xRun.of ?_
  refine i_170_0 (x := 1) rfl ?_
  refine i_170_1 (fun _ => ?_) (fun h => absurd h (by decide))
  exact i_170_12 ⟨rfl, rfl⟩
theorem r_168_1 {d : Nat} {w : xW} {a0 : Int32} (e0 : 0 ≤ a0.toInt) (e1 : a0.toInt ≤ 15) : xRun (d + 1) 168 [Value.int a0] w (.inl none) w := by
  refine xRun.of ?_
  refine i_168_0 (x := a0) rfl ?_
  refine i_168_1 ?_
  refine i_168_2 ?_
  refine i_168_4 (Nat.le_of_ble_eq_true rfl) (r_169_1 e0 e1) ?_
  refine i_168_7 (Nat.le_of_ble_eq_true rfl) (r_170_1) ?_
  exact i_168_10 ⟨rfl, rfl⟩
theorem r_169_2 {d : Nat} {w : xW} {a0 : Int32} (e0 : a0.toInt < 0) : xRun d 169 [Value.int a0, Value.int 0, Value.int 4] w (.inl (some (Value.int 0))) w := by
  refine xRun.of ?_
  refine i_169_0 (x := a0) rfl ?_
  refine i_169_1 (x := 0) rfl ?_
  refine i_169_2 (fun _ => ?_) (fun h => absurd e0 (Int.not_lt.mpr h))
  refine i_169_14 ?_
  exact i_169_15 rfl ⟨rfl, rfl⟩
theorem r_178_0 {d : Nat} {w : xW} {a0 : Int32} (e0 : a0.toInt < 0) : xRun (d + 7) 178 [Value.int a0] w (.inr w.length) (w ++ [Sum.inr (14, [])]) := by
  refine xRun.of ?_
  refine i_178_0 (x := a0) rfl ?_
  refine i_178_1 ?_
  refine i_178_2 ?_
  refine i_178_3 (Nat.le_of_ble_eq_true rfl) (r_169_2 e0) ?_
  exact j_178_6 (Nat.le_of_ble_eq_true rfl) (r_170_0) (xDone.t xgl rfl rfl ⟨rfl, rfl⟩)
theorem r_248_1 {d : Nat} {w : xW} {a0 : Int32} {b0 : Int64} {a1 : Int32} (e0 : 0 ≤ a0.toInt) (e1 : a0.toInt ≤ 15) (e2 : a1.toInt < 0) : xRun (d + 8) 248 [Value.ref 128, Value.int a0, Value.long b0, Value.int a1] w (.inr w.length) (w ++ [Sum.inr (14, [])]) := by
  refine xRun.of ?_
  refine i_248_0 (x := a0) rfl ?_
  refine i_248_1 (Nat.le_of_ble_eq_true rfl) (r_168_1 e0 e1) ?_
  refine i_248_4 (x := a1) rfl ?_
  exact j_248_6 (Nat.le_of_ble_eq_true rfl) (r_178_0 e2) (xDone.t xgl rfl rfl ⟨rfl, rfl⟩)
theorem r_247_1 {d : Nat} {w : xW} {a0 : Int32} {b0 : Int64} {a1 : Int32} (hw0 : w[128]? = some (Sum.inr (12, [Value.ref 129, Value.ref 131, Value.ref 133, Value.ref 135, Value.ref 137, Value.ref 139, Value.ref 141, Value.ref 143, Value.ref 145, Value.ref 147, Value.ref 149, Value.ref 151, Value.ref 153, Value.ref 154, Value.ref 155, Value.ref 156, Value.ref 157, Value.int (-16384), Value.int 16384, Value.int 0, Value.int 0, Value.int 0, Value.ref 158, Value.ref 159, Value.int 0, Value.int 0, Value.int 0, Value.int 0, Value.int 0, Value.int 0, Value.int 0, Value.int 0]))) (e1 : 0 ≤ a0.toInt) (e2 : a0.toInt ≤ 15) (e3 : a1.toInt < 0) : xRun (d + 9) 247 [Value.ref 128, Value.int a0, Value.long b0, Value.int a1] w (.inl (some (Value.int 0))) (((w.set 128 (Sum.inr (12, [Value.ref 129, Value.ref 131, Value.ref 133, Value.ref 135, Value.ref 137, Value.ref 139, Value.ref 141, Value.ref 143, Value.ref 145, Value.ref 147, Value.ref 149, Value.ref 151, Value.ref 153, Value.ref 154, Value.ref 155, Value.ref 156, Value.ref 157, Value.int (-16384), Value.int 16384, Value.int 0, Value.int 0, Value.int 0, Value.ref 158, Value.ref 159, Value.int 0, Value.int 0, Value.int 0, Value.int 0, Value.int 0, Value.int 0, Value.int 0, Value.int 0]))) ++ [Sum.inr (14, [])]).set 128 (Sum.inr (12, [Value.ref 129, Value.ref 131, Value.ref 133, Value.ref 135, Value.ref 137, Value.ref 139, Value.ref 141, Value.ref 143, Value.ref 145, Value.ref 147, Value.ref 149, Value.ref 151, Value.ref 153, Value.ref 154, Value.ref 155, Value.ref 156, Value.ref 157, Value.int (-16384), Value.int 16384, Value.int 0, Value.int 0, Value.int 0, Value.ref 158, Value.ref 159, Value.int 0, Value.int 0, Value.int 0, Value.int 0, Value.int 0, Value.int 0, Value.int 0, Value.int 1]))) := by
  refine xRun.of ?_
  refine i_247_0 (x := 128) rfl ?_
  refine i_247_1 ?_
  refine i_247_2 (fs2 := [Value.ref 129, Value.ref 131, Value.ref 133, Value.ref 135, Value.ref 137, Value.ref 139, Value.ref 141, Value.ref 143, Value.ref 145, Value.ref 147, Value.ref 149, Value.ref 151, Value.ref 153, Value.ref 154, Value.ref 155, Value.ref 156, Value.ref 157, Value.int (-16384), Value.int 16384, Value.int 0, Value.int 0, Value.int 0, Value.ref 158, Value.ref 159, Value.int 0, Value.int 0, Value.int 0, Value.int 0, Value.int 0, Value.int 0, Value.int 0, Value.int 0]) hw0 (Nat.le_of_ble_eq_true rfl) rfl (by decide) ?_
  refine i_247_5 (x := 128) rfl ?_
  refine i_247_6 (x := a0) rfl ?_
  refine i_247_7 (x := b0) rfl ?_
  refine i_247_8 (x := a1) rfl ?_
  refine j_247_10 (xgs hw0) (Nat.le_of_ble_eq_true rfl) (r_248_1 e1 e2 e3) (xDone.c xgl rfl rfl ?_)
  refine i_247_14 (lv2 := [(5, Value.ref ((w.set 128 (Sum.inr (12, [Value.ref 129, Value.ref 131, Value.ref 133, Value.ref 135, Value.ref 137, Value.ref 139, Value.ref 141, Value.ref 143, Value.ref 145, Value.ref 147, Value.ref 149, Value.ref 151, Value.ref 153, Value.ref 154, Value.ref 155, Value.ref 156, Value.ref 157, Value.int (-16384), Value.int 16384, Value.int 0, Value.int 0, Value.int 0, Value.ref 158, Value.ref 159, Value.int 0, Value.int 0, Value.int 0, Value.int 0, Value.int 0, Value.int 0, Value.int 0, Value.int 0]))).length)), (0, Value.ref 128), (1, Value.int a0), (2, Value.long b0), (4, Value.int a1)]) rfl ?_
  refine i_247_16 (x := 128) rfl ?_
  refine i_247_17 ?_
  refine i_247_18 (fs2 := [Value.ref 129, Value.ref 131, Value.ref 133, Value.ref 135, Value.ref 137, Value.ref 139, Value.ref 141, Value.ref 143, Value.ref 145, Value.ref 147, Value.ref 149, Value.ref 151, Value.ref 153, Value.ref 154, Value.ref 155, Value.ref 156, Value.ref 157, Value.int (-16384), Value.int 16384, Value.int 0, Value.int 0, Value.int 0, Value.ref 158, Value.ref 159, Value.int 0, Value.int 0, Value.int 0, Value.int 0, Value.int 0, Value.int 0, Value.int 0, Value.int 1]) (xga (xgs hw0)) (Nat.le_of_ble_eq_true rfl) rfl (by decide) ?_
  refine i_247_21 ?_
  exact i_247_22 ⟨rfl, rfl⟩
theorem o_16_1 {d : Nat} {xs : Nat → Int32} (h0 : ((xs 0) &&& (31 : Int32)).toInt = 16) (c0 : 0 ≤ (xs 1).toInt) (c1 : (xs 1).toInt < 16) (c2 : (xs 4).toInt < 0) : ∃ w1, xEv (d + 20) 287 23 [(4, Value.int 0), (3, Value.ref 194), (2, Value.ref 128), (1, Value.ref 7), (0, Value.ref 0)] [] (W0 6 xs) (fun o' w' => o' = .inl (some (Value.int 1)) ∧ w' = w1) ∧ w1.length ≤ 220 ∧ xsz w1 ≤ 200000 := by
  have f0 : 0 ≤ (xfd (xvv xs)).toInt := (xfd_b _).1
  have f1 : (xfd (xvv xs)).toInt ≤ 2047 := (xfd_b _).2
  have G : id (((0 ≤ (xs 1).toInt) ∧ ((xs 1).toInt < 16)) ∧ (((xs 4).toInt < 0) ∧ ((xs 1).toInt ≤ 15))) := ⟨⟨by omega, by omega⟩, ⟨by omega, by omega⟩⟩
  refine ⟨(((((W0 6 xs) ++ [Sum.inr (14, [])]).set 128 (Sum.inr (12, [Value.ref 129, Value.ref 131, Value.ref 133, Value.ref 135, Value.ref 137, Value.ref 139, Value.ref 141, Value.ref 143, Value.ref 145, Value.ref 147, Value.ref 149, Value.ref 151, Value.ref 153, Value.ref 154, Value.ref 155, Value.ref 156, Value.ref 157, Value.int (-16384), Value.int 16384, Value.int 0, Value.int 0, Value.int 0, Value.ref 158, Value.ref 159, Value.int 0, Value.int 0, Value.int 0, Value.int 0, Value.int 0, Value.int 0, Value.int 0, Value.int 0]))) ++ [Sum.inr (14, [])]).set 128 (Sum.inr (12, [Value.ref 129, Value.ref 131, Value.ref 133, Value.ref 135, Value.ref 137, Value.ref 139, Value.ref 141, Value.ref 143, Value.ref 145, Value.ref 147, Value.ref 149, Value.ref 151, Value.ref 153, Value.ref 154, Value.ref 155, Value.ref 156, Value.ref 157, Value.int (-16384), Value.int 16384, Value.int 0, Value.int 0, Value.int 0, Value.ref 158, Value.ref 159, Value.int 0, Value.int 0, Value.int 0, Value.int 0, Value.int 0, Value.int 0, Value.int 0, Value.int 1]))), ?_, (show xLs _ 220 200000 from ?_)⟩
  · refine i_287_23 (x := 0) rfl ?_
    refine i_287_25 (x := 0) rfl ?_
    refine i_287_26 (c := 6) W0_0 (by decide) ?_
    refine i_287_27 ?_
    refine i_287_29 (c := 0) (by decide) ?_
    refine i_287_30 (fun h => absurd h (by decide)) (fun _ => ?_)
    refine i_287_33 (x := 0) rfl ?_
    refine i_287_34 (x := 0) rfl ?_
    refine i_287_36 (v := Value.int (xs 0)) W0_0 (by decide) (by decide) rfl ?_
    refine i_287_37 ?_
    refine i_287_39 (c := 16) (show ((xs 0) &&& (31 : Int32)) = 16 from (xge_c (n := 16) (by omega) rfl)) ?_
    refine i_287_40_16 rfl ?_
    refine i_287_1540 (x := 7) rfl ?_
    refine i_287_1541 (x := 0) rfl ?_
    refine i_287_1542 (x := 0) rfl ?_
    refine i_287_1544 ?_
    refine i_287_1545 (c := 1) (by decide) ?_
    refine i_287_1546 (v := Value.int (xs 1)) W0_0 (by decide) (by decide) rfl ?_
    refine i_287_1547 (x := 0) rfl ?_
    refine i_287_1548 (x := 0) rfl ?_
    refine i_287_1550 ?_
    refine i_287_1551 (c := 2) (by decide) ?_
    refine i_287_1552 (v := Value.int (xs 2)) W0_0 (by decide) (by decide) rfl ?_
    refine i_287_1553 (c := (xs 2).toInt64) rfl ?_
    refine i_287_1554 ?_
    refine i_287_1556 (c := (xsh (xs 2) (32 : Int32))) rfl ?_
    refine i_287_1557 (x := 0) rfl ?_
    refine i_287_1558 (x := 0) rfl ?_
    refine i_287_1560 ?_
    refine i_287_1561 (c := 3) (by decide) ?_
    refine i_287_1562 (v := Value.int (xs 3)) W0_0 (by decide) (by decide) rfl ?_
    refine i_287_1563 (c := (xs 3).toInt64) rfl ?_
    refine i_287_1564 ?_
    refine i_287_1567 (c := (((xs 3).toInt64) &&& (4294967295 : Int64))) rfl ?_
    refine i_287_1568 (c := (xvv xs)) rfl ?_
    refine i_287_1569 (x := 0) rfl ?_
    refine i_287_1570 (x := 0) rfl ?_
    refine i_287_1572 ?_
    refine i_287_1573 (c := 4) (by decide) ?_
    refine i_287_1574 (v := Value.int (xs 4)) W0_0 (by decide) (by decide) rfl ?_
    refine i_287_1575 (x := 194) rfl ?_
    refine i_287_1576 (Nat.le_of_ble_eq_true rfl) (r_127_1 W0_7 (G.1.1) (G.1.2) (G.2.1)) ?_
    refine i_287_1579 (lv2 := [(5, Value.int 1), (4, Value.int 0), (3, Value.ref 194), (2, Value.ref 128), (1, Value.ref 7), (0, Value.ref 0)]) rfl ?_
    refine i_287_1581 (x := 128) rfl ?_
    refine i_287_1582 (x := 0) rfl ?_
    refine i_287_1583 (x := 0) rfl ?_
    refine i_287_1585 ?_
    refine i_287_1586 (c := 1) (by decide) ?_
    refine i_287_1587 (v := Value.int (xs 1)) (xga W0_0) (by decide) (by decide) rfl ?_
    refine i_287_1588 (x := 0) rfl ?_
    refine i_287_1589 (x := 0) rfl ?_
    refine i_287_1591 ?_
    refine i_287_1592 (c := 2) (by decide) ?_
    refine i_287_1593 (v := Value.int (xs 2)) (xga W0_0) (by decide) (by decide) rfl ?_
    refine i_287_1594 (c := (xs 2).toInt64) rfl ?_
    refine i_287_1595 ?_
    refine i_287_1597 (c := (xsh (xs 2) (32 : Int32))) rfl ?_
    refine i_287_1598 (x := 0) rfl ?_
    refine i_287_1599 (x := 0) rfl ?_
    refine i_287_1601 ?_
    refine i_287_1602 (c := 3) (by decide) ?_
    refine i_287_1603 (v := Value.int (xs 3)) (xga W0_0) (by decide) (by decide) rfl ?_
    refine i_287_1604 (c := (xs 3).toInt64) rfl ?_
    refine i_287_1605 ?_
    refine i_287_1608 (c := (((xs 3).toInt64) &&& (4294967295 : Int64))) rfl ?_
    refine i_287_1609 (c := (xvv xs)) rfl ?_
    refine i_287_1610 (x := 0) rfl ?_
    refine i_287_1611 (x := 0) rfl ?_
    refine i_287_1613 ?_
    refine i_287_1614 (c := 4) (by decide) ?_
    refine i_287_1615 (v := Value.int (xs 4)) (xga W0_0) (by decide) (by decide) rfl ?_
    refine i_287_1616 (xga W0_128) (Nat.le_of_ble_eq_true rfl) (r_247_1 (xga W0_128) (G.1.1) (G.2.2) (G.2.1)) ?_
    refine i_287_1619 (lv2 := [(6, Value.int 0), (5, Value.int 1), (4, Value.int 0), (3, Value.ref 194), (2, Value.ref 128), (1, Value.ref 7), (0, Value.ref 0)]) rfl ?_
    refine i_287_1621 (x := 128) rfl ?_
    refine i_287_1622 (xgs (xga (xgs (xga W0_128)))) (Nat.le_of_ble_eq_true rfl) (r_165_0 (xgs (xga (xgs (xga W0_128))))) ?_
    refine i_287_1625 (x := 1) rfl ?_
    refine i_287_1627 (fun _ => ?_) (fun h => absurd h (by decide))
    refine i_287_1632 (x := 1) rfl ?_
    refine i_287_1634 (fun _ => ?_) (fun h => absurd h (by decide))
    refine i_287_1649 ?_
    refine i_287_2154 (x := 0) (c := 6) (lv2 := [(4, Value.int 6), (6, Value.int 0), (5, Value.int 1), (3, Value.ref 194), (2, Value.ref 128), (1, Value.ref 7), (0, Value.ref 0)]) rfl (by decide) rfl ?_
    refine i_287_2157 ?_
    refine i_287_23 (x := 6) rfl ?_
    refine i_287_25 (x := 0) rfl ?_
    refine i_287_26 (c := 6) (xgn (by decide) (xga (xgn (by decide) (xga W0_0)))) (by decide) ?_
    refine i_287_27 ?_
    refine i_287_29 (c := 0) (by decide) ?_
    refine i_287_30 (fun _ => ?_) (fun h => absurd h (by decide))
    refine i_287_2160 ?_
    exact i_287_2161 rfl ⟨rfl, rfl⟩
  · refine xLs.set ?_ (xga (xgs (xga W0_128))) xcs_o
    refine xLs.app (n := 219) (z := 199994) (m := 6) ?_ rfl
    refine xLs.set ?_ (xga W0_128) xcs_o
    refine xLs.app (n := 218) (z := 199988) (m := 6) ?_ rfl
    exact ⟨Nat.le_trans (Nat.le_of_eq W0_len) (by decide), Nat.le_trans (Nat.le_of_eq W0_sz) (by decide)⟩
theorem r_22_1 {d : Nat} {w : xW} {a0 : Int32} (e0 : 0 ≤ a0.toInt) (e1 : 4 < a0.toInt) : xRun d 22 [Value.int a0] w (.inl (some (Value.int 1))) w := by
  refine xRun.of ?_
  refine i_22_0 (x := a0) rfl ?_
  refine i_22_1 (fun h => absurd e0 (Int.not_le.mpr h)) (fun _ => ?_)
  refine i_22_4 (x := a0) rfl ?_
  refine i_22_5 ?_
  refine i_22_6 (fun h => absurd e1 (Int.not_lt.mpr h)) (fun _ => ?_)
  refine i_22_9 ?_
  refine i_22_10 ?_
  exact i_22_14 rfl ⟨rfl, rfl⟩
theorem r_128_2 {d : Nat} {w : xW} {a0 : Int32} {b0 : Int64} {a1 : Int32} (e0 : 0 ≤ a0.toInt) (e1 : a0.toInt < 16) (e2 : 0 ≤ a1.toInt) (e3 : 4 < a1.toInt) : xRun (d + 6) 128 [Value.ref 7, Value.int a0, Value.long b0, Value.int a1] w (.inr w.length) (w ++ [Sum.inr (14, [])]) := by
  refine xRun.of ?_
  refine i_128_0 (x := a0) rfl ?_
  refine i_128_1 (Nat.le_of_ble_eq_true rfl) (r_15_1 e0 e1) ?_
  refine i_128_4 (fun h => absurd h (by decide)) (fun _ => ?_)
  refine i_128_7 (x := a1) rfl ?_
  refine i_128_9 (Nat.le_of_ble_eq_true rfl) (r_22_1 e2 e3) ?_
  refine i_128_12 (fun h => absurd h (by decide)) (fun _ => ?_)
  exact i_128_15 (by omega) (Nat.le_of_ble_eq_true rfl) ⟨rfl, rfl⟩
theorem r_127_2 {d : Nat} {w : xW} {a0 : Int32} {b0 : Int64} {a1 : Int32} (hw0 : w[7]? = some (Sum.inr (0, [Value.ref 8, Value.ref 78, Value.ref 9, Value.ref 10, Value.ref 13, Value.ref 16, Value.ref 19, Value.ref 93, Value.ref 108, Value.ref 113, Value.ref 29, Value.int 0]))) (e1 : 0 ≤ a0.toInt) (e2 : a0.toInt < 16) (e3 : 0 ≤ a1.toInt) (e4 : 4 < a1.toInt) : xRun (d + 7) 127 [Value.ref 7, Value.int a0, Value.long b0, Value.int a1, Value.ref 194] w (.inl (some (Value.int 1))) (w ++ [Sum.inr (14, [])]) := by
  refine xRun.of ?_
  refine i_127_0 (x := 194) rfl ?_
  refine i_127_2 ?_
  refine i_127_3 (x := 7) rfl ?_
  refine i_127_4 (x := a0) rfl ?_
  refine i_127_5 (x := b0) rfl ?_
  refine i_127_6 (x := a1) rfl ?_
  refine j_127_8 hw0 (Nat.le_of_ble_eq_true rfl) (r_128_2 e1 e2 e3 e4) (xDone.c xgl rfl rfl ?_)
  refine i_127_16 (lv2 := [(6, Value.ref w.length), (0, Value.ref 7), (1, Value.int a0), (2, Value.long b0), (4, Value.int a1), (5, Value.ref 194)]) rfl ?_
  refine i_127_18 ?_
  exact i_127_19 ⟨rfl, rfl⟩
theorem r_169_3 {d : Nat} {w : xW} {a0 : Int32} (e0 : 0 ≤ a0.toInt) (e1 : 4 < a0.toInt) : xRun d 169 [Value.int a0, Value.int 0, Value.int 4] w (.inl (some (Value.int 0))) w := by
  refine xRun.of ?_
  refine i_169_0 (x := a0) rfl ?_
  refine i_169_1 (x := 0) rfl ?_
  refine i_169_2 (fun h => absurd e0 (Int.not_le.mpr h)) (fun _ => ?_)
  refine i_169_5 (x := a0) rfl ?_
  refine i_169_6 (x := 4) rfl ?_
  refine i_169_7 (fun _ => ?_) (fun h => absurd e1 (Int.not_lt.mpr h))
  refine i_169_14 ?_
  exact i_169_15 rfl ⟨rfl, rfl⟩
theorem r_178_1 {d : Nat} {w : xW} {a0 : Int32} (e0 : 0 ≤ a0.toInt) (e1 : 4 < a0.toInt) : xRun (d + 7) 178 [Value.int a0] w (.inr w.length) (w ++ [Sum.inr (14, [])]) := by
  refine xRun.of ?_
  refine i_178_0 (x := a0) rfl ?_
  refine i_178_1 ?_
  refine i_178_2 ?_
  refine i_178_3 (Nat.le_of_ble_eq_true rfl) (r_169_3 e0 e1) ?_
  exact j_178_6 (Nat.le_of_ble_eq_true rfl) (r_170_0) (xDone.t xgl rfl rfl ⟨rfl, rfl⟩)
theorem r_248_2 {d : Nat} {w : xW} {a0 : Int32} {b0 : Int64} {a1 : Int32} (e0 : 0 ≤ a0.toInt) (e1 : a0.toInt ≤ 15) (e2 : 0 ≤ a1.toInt) (e3 : 4 < a1.toInt) : xRun (d + 8) 248 [Value.ref 128, Value.int a0, Value.long b0, Value.int a1] w (.inr w.length) (w ++ [Sum.inr (14, [])]) := by
  refine xRun.of ?_
  refine i_248_0 (x := a0) rfl ?_
  refine i_248_1 (Nat.le_of_ble_eq_true rfl) (r_168_1 e0 e1) ?_
  refine i_248_4 (x := a1) rfl ?_
  exact j_248_6 (Nat.le_of_ble_eq_true rfl) (r_178_1 e2 e3) (xDone.t xgl rfl rfl ⟨rfl, rfl⟩)
theorem r_247_2 {d : Nat} {w : xW} {a0 : Int32} {b0 : Int64} {a1 : Int32} (hw0 : w[128]? = some (Sum.inr (12, [Value.ref 129, Value.ref 131, Value.ref 133, Value.ref 135, Value.ref 137, Value.ref 139, Value.ref 141, Value.ref 143, Value.ref 145, Value.ref 147, Value.ref 149, Value.ref 151, Value.ref 153, Value.ref 154, Value.ref 155, Value.ref 156, Value.ref 157, Value.int (-16384), Value.int 16384, Value.int 0, Value.int 0, Value.int 0, Value.ref 158, Value.ref 159, Value.int 0, Value.int 0, Value.int 0, Value.int 0, Value.int 0, Value.int 0, Value.int 0, Value.int 0]))) (e1 : 0 ≤ a0.toInt) (e2 : a0.toInt ≤ 15) (e3 : 0 ≤ a1.toInt) (e4 : 4 < a1.toInt) : xRun (d + 9) 247 [Value.ref 128, Value.int a0, Value.long b0, Value.int a1] w (.inl (some (Value.int 0))) (((w.set 128 (Sum.inr (12, [Value.ref 129, Value.ref 131, Value.ref 133, Value.ref 135, Value.ref 137, Value.ref 139, Value.ref 141, Value.ref 143, Value.ref 145, Value.ref 147, Value.ref 149, Value.ref 151, Value.ref 153, Value.ref 154, Value.ref 155, Value.ref 156, Value.ref 157, Value.int (-16384), Value.int 16384, Value.int 0, Value.int 0, Value.int 0, Value.ref 158, Value.ref 159, Value.int 0, Value.int 0, Value.int 0, Value.int 0, Value.int 0, Value.int 0, Value.int 0, Value.int 0]))) ++ [Sum.inr (14, [])]).set 128 (Sum.inr (12, [Value.ref 129, Value.ref 131, Value.ref 133, Value.ref 135, Value.ref 137, Value.ref 139, Value.ref 141, Value.ref 143, Value.ref 145, Value.ref 147, Value.ref 149, Value.ref 151, Value.ref 153, Value.ref 154, Value.ref 155, Value.ref 156, Value.ref 157, Value.int (-16384), Value.int 16384, Value.int 0, Value.int 0, Value.int 0, Value.ref 158, Value.ref 159, Value.int 0, Value.int 0, Value.int 0, Value.int 0, Value.int 0, Value.int 0, Value.int 0, Value.int 1]))) := by
  refine xRun.of ?_
  refine i_247_0 (x := 128) rfl ?_
  refine i_247_1 ?_
  refine i_247_2 (fs2 := [Value.ref 129, Value.ref 131, Value.ref 133, Value.ref 135, Value.ref 137, Value.ref 139, Value.ref 141, Value.ref 143, Value.ref 145, Value.ref 147, Value.ref 149, Value.ref 151, Value.ref 153, Value.ref 154, Value.ref 155, Value.ref 156, Value.ref 157, Value.int (-16384), Value.int 16384, Value.int 0, Value.int 0, Value.int 0, Value.ref 158, Value.ref 159, Value.int 0, Value.int 0, Value.int 0, Value.int 0, Value.int 0, Value.int 0, Value.int 0, Value.int 0]) hw0 (Nat.le_of_ble_eq_true rfl) rfl (by decide) ?_
  refine i_247_5 (x := 128) rfl ?_
  refine i_247_6 (x := a0) rfl ?_
  refine i_247_7 (x := b0) rfl ?_
  refine i_247_8 (x := a1) rfl ?_
  refine j_247_10 (xgs hw0) (Nat.le_of_ble_eq_true rfl) (r_248_2 e1 e2 e3 e4) (xDone.c xgl rfl rfl ?_)
  refine i_247_14 (lv2 := [(5, Value.ref ((w.set 128 (Sum.inr (12, [Value.ref 129, Value.ref 131, Value.ref 133, Value.ref 135, Value.ref 137, Value.ref 139, Value.ref 141, Value.ref 143, Value.ref 145, Value.ref 147, Value.ref 149, Value.ref 151, Value.ref 153, Value.ref 154, Value.ref 155, Value.ref 156, Value.ref 157, Value.int (-16384), Value.int 16384, Value.int 0, Value.int 0, Value.int 0, Value.ref 158, Value.ref 159, Value.int 0, Value.int 0, Value.int 0, Value.int 0, Value.int 0, Value.int 0, Value.int 0, Value.int 0]))).length)), (0, Value.ref 128), (1, Value.int a0), (2, Value.long b0), (4, Value.int a1)]) rfl ?_
  refine i_247_16 (x := 128) rfl ?_
  refine i_247_17 ?_
  refine i_247_18 (fs2 := [Value.ref 129, Value.ref 131, Value.ref 133, Value.ref 135, Value.ref 137, Value.ref 139, Value.ref 141, Value.ref 143, Value.ref 145, Value.ref 147, Value.ref 149, Value.ref 151, Value.ref 153, Value.ref 154, Value.ref 155, Value.ref 156, Value.ref 157, Value.int (-16384), Value.int 16384, Value.int 0, Value.int 0, Value.int 0, Value.ref 158, Value.ref 159, Value.int 0, Value.int 0, Value.int 0, Value.int 0, Value.int 0, Value.int 0, Value.int 0, Value.int 1]) (xga (xgs hw0)) (Nat.le_of_ble_eq_true rfl) rfl (by decide) ?_
  refine i_247_21 ?_
  exact i_247_22 ⟨rfl, rfl⟩
theorem o_16_2 {d : Nat} {xs : Nat → Int32} (h0 : ((xs 0) &&& (31 : Int32)).toInt = 16) (c0 : 0 ≤ (xs 1).toInt) (c1 : (xs 1).toInt < 16) (c2 : 0 ≤ (xs 4).toInt) (c3 : 4 < (xs 4).toInt) : ∃ w1, xEv (d + 20) 287 23 [(4, Value.int 0), (3, Value.ref 194), (2, Value.ref 128), (1, Value.ref 7), (0, Value.ref 0)] [] (W0 6 xs) (fun o' w' => o' = .inl (some (Value.int 1)) ∧ w' = w1) ∧ w1.length ≤ 220 ∧ xsz w1 ≤ 200000 := by
  have f0 : 0 ≤ (xfd (xvv xs)).toInt := (xfd_b _).1
  have f1 : (xfd (xvv xs)).toInt ≤ 2047 := (xfd_b _).2
  have G : id (((0 ≤ (xs 1).toInt) ∧ ((xs 1).toInt < 16)) ∧ ((0 ≤ (xs 4).toInt) ∧ ((4 < (xs 4).toInt) ∧ ((xs 1).toInt ≤ 15)))) := ⟨⟨by omega, by omega⟩, ⟨by omega, ⟨by omega, by omega⟩⟩⟩
  refine ⟨(((((W0 6 xs) ++ [Sum.inr (14, [])]).set 128 (Sum.inr (12, [Value.ref 129, Value.ref 131, Value.ref 133, Value.ref 135, Value.ref 137, Value.ref 139, Value.ref 141, Value.ref 143, Value.ref 145, Value.ref 147, Value.ref 149, Value.ref 151, Value.ref 153, Value.ref 154, Value.ref 155, Value.ref 156, Value.ref 157, Value.int (-16384), Value.int 16384, Value.int 0, Value.int 0, Value.int 0, Value.ref 158, Value.ref 159, Value.int 0, Value.int 0, Value.int 0, Value.int 0, Value.int 0, Value.int 0, Value.int 0, Value.int 0]))) ++ [Sum.inr (14, [])]).set 128 (Sum.inr (12, [Value.ref 129, Value.ref 131, Value.ref 133, Value.ref 135, Value.ref 137, Value.ref 139, Value.ref 141, Value.ref 143, Value.ref 145, Value.ref 147, Value.ref 149, Value.ref 151, Value.ref 153, Value.ref 154, Value.ref 155, Value.ref 156, Value.ref 157, Value.int (-16384), Value.int 16384, Value.int 0, Value.int 0, Value.int 0, Value.ref 158, Value.ref 159, Value.int 0, Value.int 0, Value.int 0, Value.int 0, Value.int 0, Value.int 0, Value.int 0, Value.int 1]))), ?_, (show xLs _ 220 200000 from ?_)⟩
  · refine i_287_23 (x := 0) rfl ?_
    refine i_287_25 (x := 0) rfl ?_
    refine i_287_26 (c := 6) W0_0 (by decide) ?_
    refine i_287_27 ?_
    refine i_287_29 (c := 0) (by decide) ?_
    refine i_287_30 (fun h => absurd h (by decide)) (fun _ => ?_)
    refine i_287_33 (x := 0) rfl ?_
    refine i_287_34 (x := 0) rfl ?_
    refine i_287_36 (v := Value.int (xs 0)) W0_0 (by decide) (by decide) rfl ?_
    refine i_287_37 ?_
    refine i_287_39 (c := 16) (show ((xs 0) &&& (31 : Int32)) = 16 from (xge_c (n := 16) (by omega) rfl)) ?_
    refine i_287_40_16 rfl ?_
    refine i_287_1540 (x := 7) rfl ?_
    refine i_287_1541 (x := 0) rfl ?_
    refine i_287_1542 (x := 0) rfl ?_
    refine i_287_1544 ?_
    refine i_287_1545 (c := 1) (by decide) ?_
    refine i_287_1546 (v := Value.int (xs 1)) W0_0 (by decide) (by decide) rfl ?_
    refine i_287_1547 (x := 0) rfl ?_
    refine i_287_1548 (x := 0) rfl ?_
    refine i_287_1550 ?_
    refine i_287_1551 (c := 2) (by decide) ?_
    refine i_287_1552 (v := Value.int (xs 2)) W0_0 (by decide) (by decide) rfl ?_
    refine i_287_1553 (c := (xs 2).toInt64) rfl ?_
    refine i_287_1554 ?_
    refine i_287_1556 (c := (xsh (xs 2) (32 : Int32))) rfl ?_
    refine i_287_1557 (x := 0) rfl ?_
    refine i_287_1558 (x := 0) rfl ?_
    refine i_287_1560 ?_
    refine i_287_1561 (c := 3) (by decide) ?_
    refine i_287_1562 (v := Value.int (xs 3)) W0_0 (by decide) (by decide) rfl ?_
    refine i_287_1563 (c := (xs 3).toInt64) rfl ?_
    refine i_287_1564 ?_
    refine i_287_1567 (c := (((xs 3).toInt64) &&& (4294967295 : Int64))) rfl ?_
    refine i_287_1568 (c := (xvv xs)) rfl ?_
    refine i_287_1569 (x := 0) rfl ?_
    refine i_287_1570 (x := 0) rfl ?_
    refine i_287_1572 ?_
    refine i_287_1573 (c := 4) (by decide) ?_
    refine i_287_1574 (v := Value.int (xs 4)) W0_0 (by decide) (by decide) rfl ?_
    refine i_287_1575 (x := 194) rfl ?_
    refine i_287_1576 (Nat.le_of_ble_eq_true rfl) (r_127_2 W0_7 (G.1.1) (G.1.2) (G.2.1) (G.2.2.1)) ?_
    refine i_287_1579 (lv2 := [(5, Value.int 1), (4, Value.int 0), (3, Value.ref 194), (2, Value.ref 128), (1, Value.ref 7), (0, Value.ref 0)]) rfl ?_
    refine i_287_1581 (x := 128) rfl ?_
    refine i_287_1582 (x := 0) rfl ?_
    refine i_287_1583 (x := 0) rfl ?_
    refine i_287_1585 ?_
    refine i_287_1586 (c := 1) (by decide) ?_
    refine i_287_1587 (v := Value.int (xs 1)) (xga W0_0) (by decide) (by decide) rfl ?_
    refine i_287_1588 (x := 0) rfl ?_
    refine i_287_1589 (x := 0) rfl ?_
    refine i_287_1591 ?_
    refine i_287_1592 (c := 2) (by decide) ?_
    refine i_287_1593 (v := Value.int (xs 2)) (xga W0_0) (by decide) (by decide) rfl ?_
    refine i_287_1594 (c := (xs 2).toInt64) rfl ?_
    refine i_287_1595 ?_
    refine i_287_1597 (c := (xsh (xs 2) (32 : Int32))) rfl ?_
    refine i_287_1598 (x := 0) rfl ?_
    refine i_287_1599 (x := 0) rfl ?_
    refine i_287_1601 ?_
    refine i_287_1602 (c := 3) (by decide) ?_
    refine i_287_1603 (v := Value.int (xs 3)) (xga W0_0) (by decide) (by decide) rfl ?_
    refine i_287_1604 (c := (xs 3).toInt64) rfl ?_
    refine i_287_1605 ?_
    refine i_287_1608 (c := (((xs 3).toInt64) &&& (4294967295 : Int64))) rfl ?_
    refine i_287_1609 (c := (xvv xs)) rfl ?_
    refine i_287_1610 (x := 0) rfl ?_
    refine i_287_1611 (x := 0) rfl ?_
    refine i_287_1613 ?_
    refine i_287_1614 (c := 4) (by decide) ?_
    refine i_287_1615 (v := Value.int (xs 4)) (xga W0_0) (by decide) (by decide) rfl ?_
    refine i_287_1616 (xga W0_128) (Nat.le_of_ble_eq_true rfl) (r_247_2 (xga W0_128) (G.1.1) (G.2.2.2) (G.2.1) (G.2.2.1)) ?_
    refine i_287_1619 (lv2 := [(6, Value.int 0), (5, Value.int 1), (4, Value.int 0), (3, Value.ref 194), (2, Value.ref 128), (1, Value.ref 7), (0, Value.ref 0)]) rfl ?_
    refine i_287_1621 (x := 128) rfl ?_
    refine i_287_1622 (xgs (xga (xgs (xga W0_128)))) (Nat.le_of_ble_eq_true rfl) (r_165_0 (xgs (xga (xgs (xga W0_128))))) ?_
    refine i_287_1625 (x := 1) rfl ?_
    refine i_287_1627 (fun _ => ?_) (fun h => absurd h (by decide))
    refine i_287_1632 (x := 1) rfl ?_
    refine i_287_1634 (fun _ => ?_) (fun h => absurd h (by decide))
    refine i_287_1649 ?_
    refine i_287_2154 (x := 0) (c := 6) (lv2 := [(4, Value.int 6), (6, Value.int 0), (5, Value.int 1), (3, Value.ref 194), (2, Value.ref 128), (1, Value.ref 7), (0, Value.ref 0)]) rfl (by decide) rfl ?_
    refine i_287_2157 ?_
    refine i_287_23 (x := 6) rfl ?_
    refine i_287_25 (x := 0) rfl ?_
    refine i_287_26 (c := 6) (xgn (by decide) (xga (xgn (by decide) (xga W0_0)))) (by decide) ?_
    refine i_287_27 ?_
    refine i_287_29 (c := 0) (by decide) ?_
    refine i_287_30 (fun _ => ?_) (fun h => absurd h (by decide))
    refine i_287_2160 ?_
    exact i_287_2161 rfl ⟨rfl, rfl⟩
  · refine xLs.set ?_ (xga (xgs (xga W0_128))) xcs_o
    refine xLs.app (n := 219) (z := 199994) (m := 6) ?_ rfl
    refine xLs.set ?_ (xga W0_128) xcs_o
    refine xLs.app (n := 218) (z := 199988) (m := 6) ?_ rfl
    exact ⟨Nat.le_trans (Nat.le_of_eq W0_len) (by decide), Nat.le_trans (Nat.le_of_eq W0_sz) (by decide)⟩
theorem r_22_2 {d : Nat} {w : xW} {a0 : Int32} (e0 : 0 ≤ a0.toInt) (e1 : a0.toInt ≤ 4) : xRun d 22 [Value.int a0] w (.inl (some (Value.int 0))) w := by
  refine xRun.of ?_
  refine i_22_0 (x := a0) rfl ?_
  refine i_22_1 (fun h => absurd e0 (Int.not_le.mpr h)) (fun _ => ?_)
  refine i_22_4 (x := a0) rfl ?_
  refine i_22_5 ?_
  refine i_22_6 (fun _ => ?_) (fun h => absurd e1 (Int.not_le.mpr h))
  refine i_22_13 ?_
  exact i_22_14 rfl ⟨rfl, rfl⟩
theorem r_17_0 {d : Nat} {w : xW} {h0 : Nat} {h1 : Nat} (hw0 : w[h0]? = some (Sum.inr (2, [Value.int 64, Value.int 0, Value.int 0, Value.int 0, Value.ref h1]))) (e1 : 7 ≤ h0) : xRun d 17 [Value.ref h0, Value.int 1, Value.int 1] w (.inl (some (Value.int 0))) (w.set h0 (Sum.inr (2, [Value.int 64, Value.int 1, Value.int 1, Value.int 0, Value.ref h1]))) := by
  refine xRun.of ?_
  refine i_17_0 (x := h0) rfl ?_
  refine i_17_1 (x := 1) rfl ?_
  refine i_17_2 (fs2 := [Value.int 64, Value.int 1, Value.int 0, Value.int 0, Value.ref h1]) hw0 (Nat.le_of_ble_eq_true rfl) rfl e1 ?_
  refine i_17_5 (x := h0) rfl ?_
  refine i_17_6 (x := 1) rfl ?_
  refine i_17_7 (fs2 := [Value.int 64, Value.int 1, Value.int 1, Value.int 0, Value.ref h1]) (xgs hw0) rfl (Nat.le_of_ble_eq_true rfl) rfl e1 ?_
  refine xEv.world (List.set_set _) ?_
  refine i_17_10 ?_
  exact i_17_11 ⟨rfl, rfl⟩
theorem r_128_3 {d : Nat} {w : xW} {a0 : Int32} {b0 : Int64} {a1 : Int32} {g0 : Nat → Value} {h0 : Nat} {h1 : Nat} (e0 : 0 ≤ a0.toInt) (e1 : a0.toInt < 16) (e2 : 0 ≤ a1.toInt) (e3 : a1.toInt ≤ 4) (hw4 : w[7]? = some (Sum.inr (0, [Value.ref 8, Value.ref 78, Value.ref 9, Value.ref 10, Value.ref 13, Value.ref 16, Value.ref 19, Value.ref 93, Value.ref 108, Value.ref 113, Value.ref 29, Value.int 0]))) (hw5 : w[8]? = some (Sum.inl (4, 16, g0))) (hg6 : g0 a0.toInt.toNat = Value.ref h0) (e7 : (lg_cmp b0 (0 : Int64)).toInt < 0) (hg8 : (xfd b0) = 2047) (hg9 : (lg_cmp (xfr b0) (0 : Int64)) = 0) (hw10 : w[h0]? = some (Sum.inr (2, [Value.int 64, Value.int 0, Value.int 0, Value.int 0, Value.ref h1]))) (e11 : 7 ≤ h0) : xRun (d + 1) 128 [Value.ref 7, Value.int a0, Value.long b0, Value.int a1] w (.inl (some (Value.int 0))) (w.set h0 (Sum.inr (2, [Value.int 64, Value.int 1, Value.int 1, Value.int 0, Value.ref h1]))) := by
  refine xRun.of ?_
  refine i_128_0 (x := a0) rfl ?_
  refine i_128_1 (Nat.le_of_ble_eq_true rfl) (r_15_1 e0 e1) ?_
  refine i_128_4 (fun h => absurd h (by decide)) (fun _ => ?_)
  refine i_128_7 (x := a1) rfl ?_
  refine i_128_9 (Nat.le_of_ble_eq_true rfl) (r_22_2 e2 e3) ?_
  refine i_128_12 (fun _ => ?_) (fun h => absurd h (by decide))
  refine i_128_23 (x := 7) rfl ?_
  refine i_128_24 (v := Value.ref 8) hw4 rfl ?_
  refine i_128_27 (x := a0) rfl ?_
  refine i_128_28 (v := Value.ref h0) hw5 e0 e1 hg6 ?_
  refine i_128_29 (lv2 := [(5, Value.ref h0), (0, Value.ref 7), (1, Value.int a0), (2, Value.long b0), (4, Value.int a1)]) rfl ?_
  refine i_128_31 (x := b0) rfl ?_
  refine i_128_32 ?_
  refine i_128_33 (c := (lg_cmp b0 (0 : Int64))) rfl ?_
  refine i_128_34 (fun h => absurd e7 (Int.not_lt.mpr h)) (fun _ => ?_)
  refine i_128_37 ?_
  refine i_128_38 ?_
  refine i_128_42 (lv2 := [(6, Value.int 1), (5, Value.ref h0), (0, Value.ref 7), (1, Value.int a0), (2, Value.long b0), (4, Value.int a1)]) rfl ?_
  refine i_128_44 (x := b0) rfl ?_
  refine i_128_45 ?_
  refine i_128_47 (c := (xsr b0 52)) rfl ?_
  refine i_128_48 (c := (xsr b0 52).toInt32) rfl ?_
  refine i_128_49 ?_
  refine i_128_52 (c := 2047) hg8 ?_
  refine i_128_53 (lv2 := [(7, Value.int 2047), (6, Value.int 1), (5, Value.ref h0), (0, Value.ref 7), (1, Value.int a0), (2, Value.long b0), (4, Value.int a1)]) rfl ?_
  refine i_128_55 (x := b0) rfl ?_
  refine i_128_56 ?_
  refine i_128_59 (c := (xfr b0)) rfl ?_
  refine i_128_60 (lv2 := [(8, Value.long (xfr b0)), (7, Value.int 2047), (6, Value.int 1), (5, Value.ref h0), (0, Value.ref 7), (1, Value.int a0), (2, Value.long b0), (4, Value.int a1)]) rfl ?_
  refine i_128_62 (x := 2047) rfl ?_
  refine i_128_64 ?_
  refine i_128_67 (fun h => absurd h (by decide)) (fun _ => ?_)
  refine i_128_70 (x := h0) rfl ?_
  refine i_128_72 (x := (xfr b0)) rfl ?_
  refine i_128_74 ?_
  refine i_128_75 (c := 0) hg9 ?_
  refine i_128_76 (fun h => absurd h (by decide)) (fun _ => ?_)
  refine i_128_79 ?_
  refine i_128_80 ?_
  refine i_128_84 (x := 1) rfl ?_
  refine i_128_86 hw10 (Nat.le_of_ble_eq_true rfl) (r_17_0 hw10 e11) ?_
  exact i_128_89 ⟨rfl, rfl⟩
theorem r_127_3 {d : Nat} {w : xW} {a0 : Int32} {b0 : Int64} {a1 : Int32} {g0 : Nat → Value} {h0 : Nat} {h1 : Nat} (hw0 : w[7]? = some (Sum.inr (0, [Value.ref 8, Value.ref 78, Value.ref 9, Value.ref 10, Value.ref 13, Value.ref 16, Value.ref 19, Value.ref 93, Value.ref 108, Value.ref 113, Value.ref 29, Value.int 0]))) (e1 : 0 ≤ a0.toInt) (e2 : a0.toInt < 16) (e3 : 0 ≤ a1.toInt) (e4 : a1.toInt ≤ 4) (hw5 : w[8]? = some (Sum.inl (4, 16, g0))) (hg6 : g0 a0.toInt.toNat = Value.ref h0) (e7 : (lg_cmp b0 (0 : Int64)).toInt < 0) (hg8 : (xfd b0) = 2047) (hg9 : (lg_cmp (xfr b0) (0 : Int64)) = 0) (hw10 : w[h0]? = some (Sum.inr (2, [Value.int 64, Value.int 0, Value.int 0, Value.int 0, Value.ref h1]))) (e11 : 7 ≤ h0) (e12 : h0 ≠ 194) (hw13 : w[194]? = some (Sum.inl (3, 1, fun _ => Value.long 0))) : xRun (d + 2) 127 [Value.ref 7, Value.int a0, Value.long b0, Value.int a1, Value.ref 194] w (.inl (some (Value.int 0))) ((w.set h0 (Sum.inr (2, [Value.int 64, Value.int 1, Value.int 1, Value.int 0, Value.ref h1]))).set 194 (Sum.inl (3, 1, xup (fun _ => Value.long 0) (0 : Int32).toInt.toNat (Value.long 0)))) := by
  refine xRun.of ?_
  refine i_127_0 (x := 194) rfl ?_
  refine i_127_2 ?_
  refine i_127_3 (x := 7) rfl ?_
  refine i_127_4 (x := a0) rfl ?_
  refine i_127_5 (x := b0) rfl ?_
  refine i_127_6 (x := a1) rfl ?_
  refine i_127_8 hw0 (Nat.le_of_ble_eq_true rfl) (r_128_3 e1 e2 e3 e4 hw0 hw5 hg6 e7 hg8 hg9 hw10 e11) ?_
  refine i_127_11 (c := 0) (by decide) ?_
  refine i_127_12 (v := Value.long 0) (xgn e12 hw13) (by decide) (by decide) (by decide) rfl ?_
  refine i_127_13 ?_
  refine i_127_20 ?_
  exact i_127_21 ⟨rfl, rfl⟩
theorem r_169_4 {d : Nat} {w : xW} {a0 : Int32} (e0 : 0 ≤ a0.toInt) (e1 : a0.toInt ≤ 4) : xRun d 169 [Value.int a0, Value.int 0, Value.int 4] w (.inl (some (Value.int 1))) w := by
  refine xRun.of ?_
  refine i_169_0 (x := a0) rfl ?_
  refine i_169_1 (x := 0) rfl ?_
  refine i_169_2 (fun h => absurd e0 (Int.not_le.mpr h)) (fun _ => ?_)
  refine i_169_5 (x := a0) rfl ?_
  refine i_169_6 (x := 4) rfl ?_
  refine i_169_7 (fun h => absurd e1 (Int.not_le.mpr h)) (fun _ => ?_)
  refine i_169_10 ?_
  refine i_169_11 ?_
  exact i_169_15 rfl ⟨rfl, rfl⟩
theorem r_178_2 {d : Nat} {w : xW} {a0 : Int32} (e0 : 0 ≤ a0.toInt) (e1 : a0.toInt ≤ 4) : xRun (d + 1) 178 [Value.int a0] w (.inl none) w := by
  refine xRun.of ?_
  refine i_178_0 (x := a0) rfl ?_
  refine i_178_1 ?_
  refine i_178_2 ?_
  refine i_178_3 (Nat.le_of_ble_eq_true rfl) (r_169_4 e0 e1) ?_
  refine i_178_6 (Nat.le_of_ble_eq_true rfl) (r_170_1) ?_
  exact i_178_9 ⟨rfl, rfl⟩
theorem r_171_0 {d : Nat} {w : xW} {a0 : Int32} (hw0 : w[128]? = some (Sum.inr (12, [Value.ref 129, Value.ref 131, Value.ref 133, Value.ref 135, Value.ref 137, Value.ref 139, Value.ref 141, Value.ref 143, Value.ref 145, Value.ref 147, Value.ref 149, Value.ref 151, Value.ref 153, Value.ref 154, Value.ref 155, Value.ref 156, Value.ref 157, Value.int (-16384), Value.int 16384, Value.int 0, Value.int 0, Value.int 0, Value.ref 158, Value.ref 159, Value.int 0, Value.int 0, Value.int 0, Value.int 0, Value.int 0, Value.int 0, Value.int 0, Value.int 0]))) (hw1 : w[154]? = some (Sum.inl (0, 17, fun _ => Value.int 0))) (e2 : 0 ≤ a0.toInt) (e3 : a0.toInt < 17) (hw4 : w[156]? = some (Sum.inl (2, 17, fun _ => Value.int 0))) : xRun d 171 [Value.ref 128, Value.int a0, Value.int 1, Value.int 1] w (.inl (some (Value.int 0))) ((w.set 154 (Sum.inl (0, 17, xup (fun _ => Value.int 0) a0.toInt.toNat (Value.int 1)))).set 156 (Sum.inl (2, 17, xup (fun _ => Value.int 0) a0.toInt.toNat (Value.int 1)))) := by
  refine xRun.of ?_
  refine i_171_0 (x := 128) rfl ?_
  refine i_171_1 (v := Value.ref 154) hw0 rfl ?_
  refine i_171_4 (x := a0) rfl ?_
  refine i_171_5 (x := 1) rfl ?_
  refine i_171_6 (v := Value.int 1) hw1 e2 e3 (by decide) rfl ?_
  refine i_171_7 (x := 128) rfl ?_
  refine i_171_8 (v := Value.ref 156) (xgn (by decide) hw0) rfl ?_
  refine i_171_11 (x := a0) rfl ?_
  refine i_171_12 (x := 1) rfl ?_
  refine i_171_13z (v := Value.int 1) (xgn (by decide) hw4) e2 e3 (by decide) rfl ?_
  refine i_171_14 ?_
  exact i_171_15 ⟨rfl, rfl⟩
theorem r_248_3 {d : Nat} {w : xW} {a0 : Int32} {b0 : Int64} {a1 : Int32} {a2 : Int32} (e0 : 0 ≤ a0.toInt) (e1 : a0.toInt ≤ 15) (e2 : 0 ≤ a1.toInt) (e3 : a1.toInt ≤ 4) (hg4 : (xfe b0) = a2) (e5 : a2.toInt = 2047) (hg6 : (lg_cmp (xfr b0) (0 : Int64)) = 0) (e7 : (lg_cmp b0 (0 : Int64)).toInt < 0) (hw8 : w[128]? = some (Sum.inr (12, [Value.ref 129, Value.ref 131, Value.ref 133, Value.ref 135, Value.ref 137, Value.ref 139, Value.ref 141, Value.ref 143, Value.ref 145, Value.ref 147, Value.ref 149, Value.ref 151, Value.ref 153, Value.ref 154, Value.ref 155, Value.ref 156, Value.ref 157, Value.int (-16384), Value.int 16384, Value.int 0, Value.int 0, Value.int 0, Value.ref 158, Value.ref 159, Value.int 0, Value.int 0, Value.int 0, Value.int 0, Value.int 0, Value.int 0, Value.int 0, Value.int 0]))) (hw9 : w[154]? = some (Sum.inl (0, 17, fun _ => Value.int 0))) (e10 : a0.toInt < 17) (hw11 : w[156]? = some (Sum.inl (2, 17, fun _ => Value.int 0))) : xRun (d + 2) 248 [Value.ref 128, Value.int a0, Value.long b0, Value.int a1] w (.inl (some (Value.int 0))) ((w.set 154 (Sum.inl (0, 17, xup (fun _ => Value.int 0) a0.toInt.toNat (Value.int 1)))).set 156 (Sum.inl (2, 17, xup (fun _ => Value.int 0) a0.toInt.toNat (Value.int 1)))) := by
  refine xRun.of ?_
  refine i_248_0 (x := a0) rfl ?_
  refine i_248_1 (Nat.le_of_ble_eq_true rfl) (r_168_1 e0 e1) ?_
  refine i_248_4 (x := a1) rfl ?_
  refine i_248_6 (Nat.le_of_ble_eq_true rfl) (r_178_2 e2 e3) ?_
  refine i_248_9 (x := b0) rfl ?_
  refine i_248_10 ?_
  refine i_248_12 (c := (b0 >>> ((52 : Int32).toInt64 &&& 63))) rfl ?_
  refine i_248_13 (c := (b0 >>> ((52 : Int32).toInt64 &&& 63)).toInt32) rfl ?_
  refine i_248_14 ?_
  refine i_248_17 (c := a2) hg4 ?_
  refine i_248_18 (lv2 := [(5, Value.int a2), (0, Value.ref 128), (1, Value.int a0), (2, Value.long b0), (4, Value.int a1)]) rfl ?_
  refine i_248_20 (x := b0) rfl ?_
  refine i_248_21 ?_
  refine i_248_24 (c := (xfr b0)) rfl ?_
  refine i_248_25 (lv2 := [(6, Value.long (xfr b0)), (5, Value.int a2), (0, Value.ref 128), (1, Value.int a0), (2, Value.long b0), (4, Value.int a1)]) rfl ?_
  refine i_248_27 (x := a2) rfl ?_
  refine i_248_29 ?_
  refine i_248_32 (fun h => absurd e5 h) (fun _ => ?_)
  refine i_248_35 (x := 128) rfl ?_
  refine i_248_36 (x := a0) rfl ?_
  refine i_248_37 (x := (xfr b0)) rfl ?_
  refine i_248_39 ?_
  refine i_248_40 (c := 0) hg6 ?_
  refine i_248_41 (fun h => absurd h (by decide)) (fun _ => ?_)
  refine i_248_44 ?_
  refine i_248_45 ?_
  refine i_248_49 (x := (xfr b0)) rfl ?_
  refine i_248_51 ?_
  refine i_248_52 (c := 0) hg6 ?_
  refine i_248_53 (fun h => absurd h (by decide)) (fun _ => ?_)
  refine i_248_56 (x := b0) rfl ?_
  refine i_248_57 ?_
  refine i_248_58 (c := (lg_cmp b0 (0 : Int64))) rfl ?_
  refine i_248_59 (fun h => absurd e7 (Int.not_lt.mpr h)) (fun _ => ?_)
  refine i_248_62 ?_
  refine i_248_63 ?_
  refine i_248_67 hw8 (Nat.le_of_ble_eq_true rfl) (r_171_0 hw8 hw9 e0 e10 hw11) ?_
  exact i_248_70 ⟨rfl, rfl⟩
theorem r_247_3 {d : Nat} {w : xW} {a0 : Int32} {b0 : Int64} {a1 : Int32} {a2 : Int32} (hw0 : w[128]? = some (Sum.inr (12, [Value.ref 129, Value.ref 131, Value.ref 133, Value.ref 135, Value.ref 137, Value.ref 139, Value.ref 141, Value.ref 143, Value.ref 145, Value.ref 147, Value.ref 149, Value.ref 151, Value.ref 153, Value.ref 154, Value.ref 155, Value.ref 156, Value.ref 157, Value.int (-16384), Value.int 16384, Value.int 0, Value.int 0, Value.int 0, Value.ref 158, Value.ref 159, Value.int 0, Value.int 0, Value.int 0, Value.int 0, Value.int 0, Value.int 0, Value.int 0, Value.int 0]))) (e1 : 0 ≤ a0.toInt) (e2 : a0.toInt ≤ 15) (e3 : 0 ≤ a1.toInt) (e4 : a1.toInt ≤ 4) (hg5 : (xfe b0) = a2) (e6 : a2.toInt = 2047) (hg7 : (lg_cmp (xfr b0) (0 : Int64)) = 0) (e8 : (lg_cmp b0 (0 : Int64)).toInt < 0) (hw9 : w[154]? = some (Sum.inl (0, 17, fun _ => Value.int 0))) (e10 : a0.toInt < 17) (hw11 : w[156]? = some (Sum.inl (2, 17, fun _ => Value.int 0))) : xRun (d + 3) 247 [Value.ref 128, Value.int a0, Value.long b0, Value.int a1] w (.inl (some (Value.int 0))) (((w.set 128 (Sum.inr (12, [Value.ref 129, Value.ref 131, Value.ref 133, Value.ref 135, Value.ref 137, Value.ref 139, Value.ref 141, Value.ref 143, Value.ref 145, Value.ref 147, Value.ref 149, Value.ref 151, Value.ref 153, Value.ref 154, Value.ref 155, Value.ref 156, Value.ref 157, Value.int (-16384), Value.int 16384, Value.int 0, Value.int 0, Value.int 0, Value.ref 158, Value.ref 159, Value.int 0, Value.int 0, Value.int 0, Value.int 0, Value.int 0, Value.int 0, Value.int 0, Value.int 0]))).set 154 (Sum.inl (0, 17, xup (fun _ => Value.int 0) a0.toInt.toNat (Value.int 1)))).set 156 (Sum.inl (2, 17, xup (fun _ => Value.int 0) a0.toInt.toNat (Value.int 1)))) := by
  refine xRun.of ?_
  refine i_247_0 (x := 128) rfl ?_
  refine i_247_1 ?_
  refine i_247_2 (fs2 := [Value.ref 129, Value.ref 131, Value.ref 133, Value.ref 135, Value.ref 137, Value.ref 139, Value.ref 141, Value.ref 143, Value.ref 145, Value.ref 147, Value.ref 149, Value.ref 151, Value.ref 153, Value.ref 154, Value.ref 155, Value.ref 156, Value.ref 157, Value.int (-16384), Value.int 16384, Value.int 0, Value.int 0, Value.int 0, Value.ref 158, Value.ref 159, Value.int 0, Value.int 0, Value.int 0, Value.int 0, Value.int 0, Value.int 0, Value.int 0, Value.int 0]) hw0 (Nat.le_of_ble_eq_true rfl) rfl (by decide) ?_
  refine i_247_5 (x := 128) rfl ?_
  refine i_247_6 (x := a0) rfl ?_
  refine i_247_7 (x := b0) rfl ?_
  refine i_247_8 (x := a1) rfl ?_
  refine i_247_10 (xgs hw0) (Nat.le_of_ble_eq_true rfl) (r_248_3 e1 e2 e3 e4 hg5 e6 hg7 e8 (xgs hw0) (xgn (by decide) hw9) e10 (xgn (by decide) hw11)) ?_
  exact i_247_13 ⟨rfl, rfl⟩
theorem r_165_1 {d : Nat} {w : xW} (hw0 : w[128]? = some (Sum.inr (12, [Value.ref 129, Value.ref 131, Value.ref 133, Value.ref 135, Value.ref 137, Value.ref 139, Value.ref 141, Value.ref 143, Value.ref 145, Value.ref 147, Value.ref 149, Value.ref 151, Value.ref 153, Value.ref 154, Value.ref 155, Value.ref 156, Value.ref 157, Value.int (-16384), Value.int 16384, Value.int 0, Value.int 0, Value.int 0, Value.ref 158, Value.ref 159, Value.int 0, Value.int 0, Value.int 0, Value.int 0, Value.int 0, Value.int 0, Value.int 0, Value.int 0]))) : xRun d 165 [Value.ref 128] w (.inl (some (Value.int 0))) w := by
  refine xRun.of ?_
  refine i_165_0 (x := 128) rfl ?_
  refine i_165_1 (v := Value.int 0) hw0 rfl ?_
  exact i_165_4 ⟨rfl, rfl⟩
theorem o_16_3 {d : Nat} {xs : Nat → Int32} (h0 : ((xs 0) &&& (31 : Int32)).toInt = 16) (c0 : 0 ≤ (xs 1).toInt) (c1 : (xs 1).toInt < 16) (c2 : 0 ≤ (xs 4).toInt) (c3 : (xs 4).toInt ≤ 4) (c4 : (lg_cmp (xvv xs) (0 : Int64)).toInt < 0) (c5 : (xfd (xvv xs)).toInt = 2047) (c6 : (lg_cmp (xfr (xvv xs)) (0 : Int64)).toInt = 0) : ∃ w1, xEv (d + 20) 287 23 [(4, Value.int 0), (3, Value.ref 194), (2, Value.ref 128), (1, Value.ref 7), (0, Value.ref 0)] [] (W0 6 xs) (fun o' w' => o' = .inl (some (Value.int 1)) ∧ w' = w1) ∧ w1.length ≤ 220 ∧ xsz w1 ≤ 200000 := by
  have f0 : 0 ≤ (xfd (xvv xs)).toInt := (xfd_b _).1
  have f1 : (xfd (xvv xs)).toInt ≤ 2047 := (xfd_b _).2
  have G : id ((((0 ≤ (xs 1).toInt) ∧ (((xs 1).toInt < 16) ∧ (0 ≤ (xs 4).toInt))) ∧ ((((xs 4).toInt ≤ 4) ∧ ((lg_cmp (xvv xs) (0 : Int64)).toInt < 0)) ∧ ((7 ≤ (30 + 3 * (xs 1).toInt.toNat)) ∧ ((30 + 3 * (xs 1).toInt.toNat) ≠ 194)))) ∧ ((((30 + 3 * (xs 1).toInt.toNat) ≠ 0) ∧ (((30 + 3 * (xs 1).toInt.toNat) ≠ 128) ∧ ((xs 1).toInt ≤ 15))) ∧ ((((xfd (xvv xs)).toInt = 2047) ∧ ((30 + 3 * (xs 1).toInt.toNat) ≠ 154)) ∧ (((xs 1).toInt < 17) ∧ ((30 + 3 * (xs 1).toInt.toNat) ≠ 156))))) := ⟨⟨⟨by omega, ⟨by omega, by omega⟩⟩, ⟨⟨by omega, by omega⟩, ⟨by omega, by omega⟩⟩⟩, ⟨⟨by omega, ⟨by omega, by omega⟩⟩, ⟨⟨by omega, by omega⟩, ⟨by omega, by omega⟩⟩⟩⟩
  refine ⟨((((((W0 6 xs).set (30 + 3 * (xs 1).toInt.toNat) (Sum.inr (2, [Value.int 64, Value.int 1, Value.int 1, Value.int 0, Value.ref (31 + 3 * (xs 1).toInt.toNat)]))).set 194 (Sum.inl (3, 1, xup (fun _ => Value.long 0) (0 : Int32).toInt.toNat (Value.long 0)))).set 128 (Sum.inr (12, [Value.ref 129, Value.ref 131, Value.ref 133, Value.ref 135, Value.ref 137, Value.ref 139, Value.ref 141, Value.ref 143, Value.ref 145, Value.ref 147, Value.ref 149, Value.ref 151, Value.ref 153, Value.ref 154, Value.ref 155, Value.ref 156, Value.ref 157, Value.int (-16384), Value.int 16384, Value.int 0, Value.int 0, Value.int 0, Value.ref 158, Value.ref 159, Value.int 0, Value.int 0, Value.int 0, Value.int 0, Value.int 0, Value.int 0, Value.int 0, Value.int 0]))).set 154 (Sum.inl (0, 17, xup (fun _ => Value.int 0) (xs 1).toInt.toNat (Value.int 1)))).set 156 (Sum.inl (2, 17, xup (fun _ => Value.int 0) (xs 1).toInt.toNat (Value.int 1)))), ?_, (show xLs _ 220 200000 from ?_)⟩
  · refine i_287_23 (x := 0) rfl ?_
    refine i_287_25 (x := 0) rfl ?_
    refine i_287_26 (c := 6) W0_0 (by decide) ?_
    refine i_287_27 ?_
    refine i_287_29 (c := 0) (by decide) ?_
    refine i_287_30 (fun h => absurd h (by decide)) (fun _ => ?_)
    refine i_287_33 (x := 0) rfl ?_
    refine i_287_34 (x := 0) rfl ?_
    refine i_287_36 (v := Value.int (xs 0)) W0_0 (by decide) (by decide) rfl ?_
    refine i_287_37 ?_
    refine i_287_39 (c := 16) (show ((xs 0) &&& (31 : Int32)) = 16 from (xge_c (n := 16) (by omega) rfl)) ?_
    refine i_287_40_16 rfl ?_
    refine i_287_1540 (x := 7) rfl ?_
    refine i_287_1541 (x := 0) rfl ?_
    refine i_287_1542 (x := 0) rfl ?_
    refine i_287_1544 ?_
    refine i_287_1545 (c := 1) (by decide) ?_
    refine i_287_1546 (v := Value.int (xs 1)) W0_0 (by decide) (by decide) rfl ?_
    refine i_287_1547 (x := 0) rfl ?_
    refine i_287_1548 (x := 0) rfl ?_
    refine i_287_1550 ?_
    refine i_287_1551 (c := 2) (by decide) ?_
    refine i_287_1552 (v := Value.int (xs 2)) W0_0 (by decide) (by decide) rfl ?_
    refine i_287_1553 (c := (xs 2).toInt64) rfl ?_
    refine i_287_1554 ?_
    refine i_287_1556 (c := (xsh (xs 2) (32 : Int32))) rfl ?_
    refine i_287_1557 (x := 0) rfl ?_
    refine i_287_1558 (x := 0) rfl ?_
    refine i_287_1560 ?_
    refine i_287_1561 (c := 3) (by decide) ?_
    refine i_287_1562 (v := Value.int (xs 3)) W0_0 (by decide) (by decide) rfl ?_
    refine i_287_1563 (c := (xs 3).toInt64) rfl ?_
    refine i_287_1564 ?_
    refine i_287_1567 (c := (((xs 3).toInt64) &&& (4294967295 : Int64))) rfl ?_
    refine i_287_1568 (c := (xvv xs)) rfl ?_
    refine i_287_1569 (x := 0) rfl ?_
    refine i_287_1570 (x := 0) rfl ?_
    refine i_287_1572 ?_
    refine i_287_1573 (c := 4) (by decide) ?_
    refine i_287_1574 (v := Value.int (xs 4)) W0_0 (by decide) (by decide) rfl ?_
    refine i_287_1575 (x := 194) rfl ?_
    refine i_287_1576 (Nat.le_of_ble_eq_true rfl) (r_127_3 W0_7 (G.1.1.1) (G.1.1.2.1) (G.1.1.2.2) (G.1.2.1.1) W0_8 (greg_at (by omega)) (G.1.2.1.2) (show (xfd (xvv xs)) = 2047 from (xge_c (n := 2047) (by omega) rfl)) (show (lg_cmp (xfr (xvv xs)) (0 : Int64)) = 0 from (xge_c (n := 0) (by omega) rfl)) (W0_reg (by omega)) (G.1.2.2.1) (G.1.2.2.2) W0_194) ?_
    refine i_287_1579 (lv2 := [(5, Value.int 0), (4, Value.int 0), (3, Value.ref 194), (2, Value.ref 128), (1, Value.ref 7), (0, Value.ref 0)]) rfl ?_
    refine i_287_1581 (x := 128) rfl ?_
    refine i_287_1582 (x := 0) rfl ?_
    refine i_287_1583 (x := 0) rfl ?_
    refine i_287_1585 ?_
    refine i_287_1586 (c := 1) (by decide) ?_
    refine i_287_1587 (v := Value.int (xs 1)) (xgn (by decide) (xgn (G.2.1.1) W0_0)) (by decide) (by decide) rfl ?_
    refine i_287_1588 (x := 0) rfl ?_
    refine i_287_1589 (x := 0) rfl ?_
    refine i_287_1591 ?_
    refine i_287_1592 (c := 2) (by decide) ?_
    refine i_287_1593 (v := Value.int (xs 2)) (xgn (by decide) (xgn (G.2.1.1) W0_0)) (by decide) (by decide) rfl ?_
    refine i_287_1594 (c := (xs 2).toInt64) rfl ?_
    refine i_287_1595 ?_
    refine i_287_1597 (c := (xsh (xs 2) (32 : Int32))) rfl ?_
    refine i_287_1598 (x := 0) rfl ?_
    refine i_287_1599 (x := 0) rfl ?_
    refine i_287_1601 ?_
    refine i_287_1602 (c := 3) (by decide) ?_
    refine i_287_1603 (v := Value.int (xs 3)) (xgn (by decide) (xgn (G.2.1.1) W0_0)) (by decide) (by decide) rfl ?_
    refine i_287_1604 (c := (xs 3).toInt64) rfl ?_
    refine i_287_1605 ?_
    refine i_287_1608 (c := (((xs 3).toInt64) &&& (4294967295 : Int64))) rfl ?_
    refine i_287_1609 (c := (xvv xs)) rfl ?_
    refine i_287_1610 (x := 0) rfl ?_
    refine i_287_1611 (x := 0) rfl ?_
    refine i_287_1613 ?_
    refine i_287_1614 (c := 4) (by decide) ?_
    refine i_287_1615 (v := Value.int (xs 4)) (xgn (by decide) (xgn (G.2.1.1) W0_0)) (by decide) (by decide) rfl ?_
    refine i_287_1616 (xgn (by decide) (xgn (G.2.1.2.1) W0_128)) (Nat.le_of_ble_eq_true rfl) (r_247_3 (xgn (by decide) (xgn (G.2.1.2.1) W0_128)) (G.1.1.1) (G.2.1.2.2) (G.1.1.2.2) (G.1.2.1.1) (show (xfe (xvv xs)) = (xfd (xvv xs)) from (xfe_eq _)) (G.2.2.1.1) (show (lg_cmp (xfr (xvv xs)) (0 : Int64)) = 0 from (xge_c (n := 0) (by omega) rfl)) (G.1.2.1.2) (xgn (by decide) (xgn (G.2.2.1.2) W0_154)) (G.2.2.2.1) (xgn (by decide) (xgn (G.2.2.2.2) W0_156))) ?_
    refine i_287_1619 (lv2 := [(6, Value.int 0), (5, Value.int 0), (4, Value.int 0), (3, Value.ref 194), (2, Value.ref 128), (1, Value.ref 7), (0, Value.ref 0)]) rfl ?_
    refine i_287_1621 (x := 128) rfl ?_
    refine i_287_1622 (xgn (by decide) (xgn (by decide) (xgs (xgn (by decide) (xgn (G.2.1.2.1) W0_128))))) (Nat.le_of_ble_eq_true rfl) (r_165_1 (xgn (by decide) (xgn (by decide) (xgs (xgn (by decide) (xgn (G.2.1.2.1) W0_128)))))) ?_
    refine i_287_1625 (x := 0) rfl ?_
    refine i_287_1627 (fun _ => ?_) (fun h => absurd h (by decide))
    refine i_287_1632 (x := 0) rfl ?_
    refine i_287_1634 (fun h => absurd h (by decide)) (fun _ => ?_)
    refine i_287_1637 (x := 194) rfl ?_
    refine i_287_1638 ?_
    refine i_287_1639 (v := Value.long 0) (xgn (by decide) (xgn (by decide) (xgn (by decide) (xgs (xgn (G.1.2.2.2) W0_194))))) (by decide) (by decide) xup_s ?_
    refine i_287_1640 (x := 0) rfl ?_
    refine i_287_1642 (c := 0) (by decide) ?_
    refine i_287_1643 (c := 0) (by decide) ?_
    refine i_287_1644 (fun _ => ?_) (fun h => absurd h (by decide))
    refine i_287_1649 ?_
    refine i_287_2154 (x := 0) (c := 6) (lv2 := [(4, Value.int 6), (6, Value.int 0), (5, Value.int 0), (3, Value.ref 194), (2, Value.ref 128), (1, Value.ref 7), (0, Value.ref 0)]) rfl (by decide) rfl ?_
    refine i_287_2157 ?_
    refine i_287_23 (x := 6) rfl ?_
    refine i_287_25 (x := 0) rfl ?_
    refine i_287_26 (c := 6) (xgn (by decide) (xgn (by decide) (xgn (by decide) (xgn (by decide) (xgn (G.2.1.1) W0_0))))) (by decide) ?_
    refine i_287_27 ?_
    refine i_287_29 (c := 0) (by decide) ?_
    refine i_287_30 (fun _ => ?_) (fun h => absurd h (by decide))
    refine i_287_2160 ?_
    exact i_287_2161 rfl ⟨rfl, rfl⟩
  · refine xLs.set ?_ (xgn (by decide) (xgn (by decide) (xgn (by decide) (xgn (G.2.2.2.2) W0_156)))) xcs_a
    refine xLs.set ?_ (xgn (by decide) (xgn (by decide) (xgn (G.2.2.1.2) W0_154))) xcs_a
    refine xLs.set ?_ (xgn (by decide) (xgn (G.2.1.2.1) W0_128)) xcs_o
    refine xLs.set ?_ (xgn (G.1.2.2.2) W0_194) xcs_a
    refine xLs.set ?_ (W0_reg (by omega)) xcs_o
    exact ⟨Nat.le_trans (Nat.le_of_eq W0_len) (by decide), Nat.le_trans (Nat.le_of_eq W0_sz) (by decide)⟩
theorem r_17_1 {d : Nat} {w : xW} {h0 : Nat} {h1 : Nat} (hw0 : w[h0]? = some (Sum.inr (2, [Value.int 64, Value.int 0, Value.int 0, Value.int 0, Value.ref h1]))) (e1 : 7 ≤ h0) : xRun d 17 [Value.ref h0, Value.int 0, Value.int 1] w (.inl (some (Value.int 0))) (w.set h0 (Sum.inr (2, [Value.int 64, Value.int 0, Value.int 1, Value.int 0, Value.ref h1]))) := by
  refine xRun.of ?_
  refine i_17_0 (x := h0) rfl ?_
  refine i_17_1 (x := 0) rfl ?_
  refine i_17_2 (fs2 := [Value.int 64, Value.int 0, Value.int 0, Value.int 0, Value.ref h1]) hw0 (Nat.le_of_ble_eq_true rfl) rfl e1 ?_
  refine i_17_5 (x := h0) rfl ?_
  refine i_17_6 (x := 1) rfl ?_
  refine i_17_7 (fs2 := [Value.int 64, Value.int 0, Value.int 1, Value.int 0, Value.ref h1]) (xgs hw0) rfl (Nat.le_of_ble_eq_true rfl) rfl e1 ?_
  refine xEv.world (List.set_set _) ?_
  refine i_17_10 ?_
  exact i_17_11 ⟨rfl, rfl⟩
theorem r_128_4 {d : Nat} {w : xW} {a0 : Int32} {b0 : Int64} {a1 : Int32} {g0 : Nat → Value} {h0 : Nat} {h1 : Nat} (e0 : 0 ≤ a0.toInt) (e1 : a0.toInt < 16) (e2 : 0 ≤ a1.toInt) (e3 : a1.toInt ≤ 4) (hw4 : w[7]? = some (Sum.inr (0, [Value.ref 8, Value.ref 78, Value.ref 9, Value.ref 10, Value.ref 13, Value.ref 16, Value.ref 19, Value.ref 93, Value.ref 108, Value.ref 113, Value.ref 29, Value.int 0]))) (hw5 : w[8]? = some (Sum.inl (4, 16, g0))) (hg6 : g0 a0.toInt.toNat = Value.ref h0) (e7 : (lg_cmp b0 (0 : Int64)).toInt < 0) (hg8 : (xfd b0) = 2047) (e9 : (lg_cmp (xfr b0) (0 : Int64)).toInt ≠ 0) (hw10 : w[h0]? = some (Sum.inr (2, [Value.int 64, Value.int 0, Value.int 0, Value.int 0, Value.ref h1]))) (e11 : 7 ≤ h0) : xRun (d + 1) 128 [Value.ref 7, Value.int a0, Value.long b0, Value.int a1] w (.inl (some (Value.int 0))) (w.set h0 (Sum.inr (2, [Value.int 64, Value.int 0, Value.int 1, Value.int 0, Value.ref h1]))) := by
  refine xRun.of ?_
  refine i_128_0 (x := a0) rfl ?_
  refine i_128_1 (Nat.le_of_ble_eq_true rfl) (r_15_1 e0 e1) ?_
  refine i_128_4 (fun h => absurd h (by decide)) (fun _ => ?_)
  refine i_128_7 (x := a1) rfl ?_
  refine i_128_9 (Nat.le_of_ble_eq_true rfl) (r_22_2 e2 e3) ?_
  refine i_128_12 (fun _ => ?_) (fun h => absurd h (by decide))
  refine i_128_23 (x := 7) rfl ?_
  refine i_128_24 (v := Value.ref 8) hw4 rfl ?_
  refine i_128_27 (x := a0) rfl ?_
  refine i_128_28 (v := Value.ref h0) hw5 e0 e1 hg6 ?_
  refine i_128_29 (lv2 := [(5, Value.ref h0), (0, Value.ref 7), (1, Value.int a0), (2, Value.long b0), (4, Value.int a1)]) rfl ?_
  refine i_128_31 (x := b0) rfl ?_
  refine i_128_32 ?_
  refine i_128_33 (c := (lg_cmp b0 (0 : Int64))) rfl ?_
  refine i_128_34 (fun h => absurd e7 (Int.not_lt.mpr h)) (fun _ => ?_)
  refine i_128_37 ?_
  refine i_128_38 ?_
  refine i_128_42 (lv2 := [(6, Value.int 1), (5, Value.ref h0), (0, Value.ref 7), (1, Value.int a0), (2, Value.long b0), (4, Value.int a1)]) rfl ?_
  refine i_128_44 (x := b0) rfl ?_
  refine i_128_45 ?_
  refine i_128_47 (c := (xsr b0 52)) rfl ?_
  refine i_128_48 (c := (xsr b0 52).toInt32) rfl ?_
  refine i_128_49 ?_
  refine i_128_52 (c := 2047) hg8 ?_
  refine i_128_53 (lv2 := [(7, Value.int 2047), (6, Value.int 1), (5, Value.ref h0), (0, Value.ref 7), (1, Value.int a0), (2, Value.long b0), (4, Value.int a1)]) rfl ?_
  refine i_128_55 (x := b0) rfl ?_
  refine i_128_56 ?_
  refine i_128_59 (c := (xfr b0)) rfl ?_
  refine i_128_60 (lv2 := [(8, Value.long (xfr b0)), (7, Value.int 2047), (6, Value.int 1), (5, Value.ref h0), (0, Value.ref 7), (1, Value.int a0), (2, Value.long b0), (4, Value.int a1)]) rfl ?_
  refine i_128_62 (x := 2047) rfl ?_
  refine i_128_64 ?_
  refine i_128_67 (fun h => absurd h (by decide)) (fun _ => ?_)
  refine i_128_70 (x := h0) rfl ?_
  refine i_128_72 (x := (xfr b0)) rfl ?_
  refine i_128_74 ?_
  refine i_128_75 (c := (lg_cmp (xfr b0) (0 : Int64))) rfl ?_
  refine i_128_76 (fun _ => ?_) (fun h => absurd e9 (fun g => g h))
  refine i_128_83 ?_
  refine i_128_84 (x := 1) rfl ?_
  refine i_128_86 hw10 (Nat.le_of_ble_eq_true rfl) (r_17_1 hw10 e11) ?_
  exact i_128_89 ⟨rfl, rfl⟩
theorem r_127_4 {d : Nat} {w : xW} {a0 : Int32} {b0 : Int64} {a1 : Int32} {g0 : Nat → Value} {h0 : Nat} {h1 : Nat} (hw0 : w[7]? = some (Sum.inr (0, [Value.ref 8, Value.ref 78, Value.ref 9, Value.ref 10, Value.ref 13, Value.ref 16, Value.ref 19, Value.ref 93, Value.ref 108, Value.ref 113, Value.ref 29, Value.int 0]))) (e1 : 0 ≤ a0.toInt) (e2 : a0.toInt < 16) (e3 : 0 ≤ a1.toInt) (e4 : a1.toInt ≤ 4) (hw5 : w[8]? = some (Sum.inl (4, 16, g0))) (hg6 : g0 a0.toInt.toNat = Value.ref h0) (e7 : (lg_cmp b0 (0 : Int64)).toInt < 0) (hg8 : (xfd b0) = 2047) (e9 : (lg_cmp (xfr b0) (0 : Int64)).toInt ≠ 0) (hw10 : w[h0]? = some (Sum.inr (2, [Value.int 64, Value.int 0, Value.int 0, Value.int 0, Value.ref h1]))) (e11 : 7 ≤ h0) (e12 : h0 ≠ 194) (hw13 : w[194]? = some (Sum.inl (3, 1, fun _ => Value.long 0))) : xRun (d + 2) 127 [Value.ref 7, Value.int a0, Value.long b0, Value.int a1, Value.ref 194] w (.inl (some (Value.int 0))) ((w.set h0 (Sum.inr (2, [Value.int 64, Value.int 0, Value.int 1, Value.int 0, Value.ref h1]))).set 194 (Sum.inl (3, 1, xup (fun _ => Value.long 0) (0 : Int32).toInt.toNat (Value.long 0)))) := by
  refine xRun.of ?_
  refine i_127_0 (x := 194) rfl ?_
  refine i_127_2 ?_
  refine i_127_3 (x := 7) rfl ?_
  refine i_127_4 (x := a0) rfl ?_
  refine i_127_5 (x := b0) rfl ?_
  refine i_127_6 (x := a1) rfl ?_
  refine i_127_8 hw0 (Nat.le_of_ble_eq_true rfl) (r_128_4 e1 e2 e3 e4 hw0 hw5 hg6 e7 hg8 e9 hw10 e11) ?_
  refine i_127_11 (c := 0) (by decide) ?_
  refine i_127_12 (v := Value.long 0) (xgn e12 hw13) (by decide) (by decide) (by decide) rfl ?_
  refine i_127_13 ?_
  refine i_127_20 ?_
  exact i_127_21 ⟨rfl, rfl⟩
theorem r_171_1 {d : Nat} {w : xW} {a0 : Int32} (hw0 : w[128]? = some (Sum.inr (12, [Value.ref 129, Value.ref 131, Value.ref 133, Value.ref 135, Value.ref 137, Value.ref 139, Value.ref 141, Value.ref 143, Value.ref 145, Value.ref 147, Value.ref 149, Value.ref 151, Value.ref 153, Value.ref 154, Value.ref 155, Value.ref 156, Value.ref 157, Value.int (-16384), Value.int 16384, Value.int 0, Value.int 0, Value.int 0, Value.ref 158, Value.ref 159, Value.int 0, Value.int 0, Value.int 0, Value.int 0, Value.int 0, Value.int 0, Value.int 0, Value.int 0]))) (hw1 : w[154]? = some (Sum.inl (0, 17, fun _ => Value.int 0))) (e2 : 0 ≤ a0.toInt) (e3 : a0.toInt < 17) (hw4 : w[156]? = some (Sum.inl (2, 17, fun _ => Value.int 0))) : xRun d 171 [Value.ref 128, Value.int a0, Value.int 0, Value.int 0] w (.inl (some (Value.int 0))) ((w.set 154 (Sum.inl (0, 17, xup (fun _ => Value.int 0) a0.toInt.toNat (Value.int 0)))).set 156 (Sum.inl (2, 17, xup (fun _ => Value.int 0) a0.toInt.toNat (Value.int 0)))) := by
  refine xRun.of ?_
  refine i_171_0 (x := 128) rfl ?_
  refine i_171_1 (v := Value.ref 154) hw0 rfl ?_
  refine i_171_4 (x := a0) rfl ?_
  refine i_171_5 (x := 0) rfl ?_
  refine i_171_6 (v := Value.int 0) hw1 e2 e3 (by decide) rfl ?_
  refine i_171_7 (x := 128) rfl ?_
  refine i_171_8 (v := Value.ref 156) (xgn (by decide) hw0) rfl ?_
  refine i_171_11 (x := a0) rfl ?_
  refine i_171_12 (x := 0) rfl ?_
  refine i_171_13z (v := Value.int 0) (xgn (by decide) hw4) e2 e3 (by decide) rfl ?_
  refine i_171_14 ?_
  exact i_171_15 ⟨rfl, rfl⟩
theorem r_248_4 {d : Nat} {w : xW} {a0 : Int32} {b0 : Int64} {a1 : Int32} {a2 : Int32} (e0 : 0 ≤ a0.toInt) (e1 : a0.toInt ≤ 15) (e2 : 0 ≤ a1.toInt) (e3 : a1.toInt ≤ 4) (hg4 : (xfe b0) = a2) (e5 : a2.toInt = 2047) (e6 : (lg_cmp (xfr b0) (0 : Int64)).toInt ≠ 0) (hw7 : w[128]? = some (Sum.inr (12, [Value.ref 129, Value.ref 131, Value.ref 133, Value.ref 135, Value.ref 137, Value.ref 139, Value.ref 141, Value.ref 143, Value.ref 145, Value.ref 147, Value.ref 149, Value.ref 151, Value.ref 153, Value.ref 154, Value.ref 155, Value.ref 156, Value.ref 157, Value.int (-16384), Value.int 16384, Value.int 0, Value.int 0, Value.int 0, Value.ref 158, Value.ref 159, Value.int 0, Value.int 0, Value.int 0, Value.int 0, Value.int 0, Value.int 0, Value.int 0, Value.int 0]))) (hw8 : w[154]? = some (Sum.inl (0, 17, fun _ => Value.int 0))) (e9 : a0.toInt < 17) (hw10 : w[156]? = some (Sum.inl (2, 17, fun _ => Value.int 0))) : xRun (d + 2) 248 [Value.ref 128, Value.int a0, Value.long b0, Value.int a1] w (.inl (some (Value.int 0))) ((w.set 154 (Sum.inl (0, 17, xup (fun _ => Value.int 0) a0.toInt.toNat (Value.int 0)))).set 156 (Sum.inl (2, 17, xup (fun _ => Value.int 0) a0.toInt.toNat (Value.int 0)))) := by
  refine xRun.of ?_
  refine i_248_0 (x := a0) rfl ?_
  refine i_248_1 (Nat.le_of_ble_eq_true rfl) (r_168_1 e0 e1) ?_
  refine i_248_4 (x := a1) rfl ?_
  refine i_248_6 (Nat.le_of_ble_eq_true rfl) (r_178_2 e2 e3) ?_
  refine i_248_9 (x := b0) rfl ?_
  refine i_248_10 ?_
  refine i_248_12 (c := (b0 >>> ((52 : Int32).toInt64 &&& 63))) rfl ?_
  refine i_248_13 (c := (b0 >>> ((52 : Int32).toInt64 &&& 63)).toInt32) rfl ?_
  refine i_248_14 ?_
  refine i_248_17 (c := a2) hg4 ?_
  refine i_248_18 (lv2 := [(5, Value.int a2), (0, Value.ref 128), (1, Value.int a0), (2, Value.long b0), (4, Value.int a1)]) rfl ?_
  refine i_248_20 (x := b0) rfl ?_
  refine i_248_21 ?_
  refine i_248_24 (c := (xfr b0)) rfl ?_
  refine i_248_25 (lv2 := [(6, Value.long (xfr b0)), (5, Value.int a2), (0, Value.ref 128), (1, Value.int a0), (2, Value.long b0), (4, Value.int a1)]) rfl ?_
  refine i_248_27 (x := a2) rfl ?_
  refine i_248_29 ?_
  refine i_248_32 (fun h => absurd e5 h) (fun _ => ?_)
  refine i_248_35 (x := 128) rfl ?_
  refine i_248_36 (x := a0) rfl ?_
  refine i_248_37 (x := (xfr b0)) rfl ?_
  refine i_248_39 ?_
  refine i_248_40 (c := (lg_cmp (xfr b0) (0 : Int64))) rfl ?_
  refine i_248_41 (fun _ => ?_) (fun h => absurd e6 (fun g => g h))
  refine i_248_48 ?_
  refine i_248_49 (x := (xfr b0)) rfl ?_
  refine i_248_51 ?_
  refine i_248_52 (c := (lg_cmp (xfr b0) (0 : Int64))) rfl ?_
  refine i_248_53 (fun _ => ?_) (fun h => absurd e6 (fun g => g h))
  refine i_248_66 ?_
  refine i_248_67 hw7 (Nat.le_of_ble_eq_true rfl) (r_171_1 hw7 hw8 e0 e9 hw10) ?_
  exact i_248_70 ⟨rfl, rfl⟩
theorem r_247_4 {d : Nat} {w : xW} {a0 : Int32} {b0 : Int64} {a1 : Int32} {a2 : Int32} (hw0 : w[128]? = some (Sum.inr (12, [Value.ref 129, Value.ref 131, Value.ref 133, Value.ref 135, Value.ref 137, Value.ref 139, Value.ref 141, Value.ref 143, Value.ref 145, Value.ref 147, Value.ref 149, Value.ref 151, Value.ref 153, Value.ref 154, Value.ref 155, Value.ref 156, Value.ref 157, Value.int (-16384), Value.int 16384, Value.int 0, Value.int 0, Value.int 0, Value.ref 158, Value.ref 159, Value.int 0, Value.int 0, Value.int 0, Value.int 0, Value.int 0, Value.int 0, Value.int 0, Value.int 0]))) (e1 : 0 ≤ a0.toInt) (e2 : a0.toInt ≤ 15) (e3 : 0 ≤ a1.toInt) (e4 : a1.toInt ≤ 4) (hg5 : (xfe b0) = a2) (e6 : a2.toInt = 2047) (e7 : (lg_cmp (xfr b0) (0 : Int64)).toInt ≠ 0) (hw8 : w[154]? = some (Sum.inl (0, 17, fun _ => Value.int 0))) (e9 : a0.toInt < 17) (hw10 : w[156]? = some (Sum.inl (2, 17, fun _ => Value.int 0))) : xRun (d + 3) 247 [Value.ref 128, Value.int a0, Value.long b0, Value.int a1] w (.inl (some (Value.int 0))) (((w.set 128 (Sum.inr (12, [Value.ref 129, Value.ref 131, Value.ref 133, Value.ref 135, Value.ref 137, Value.ref 139, Value.ref 141, Value.ref 143, Value.ref 145, Value.ref 147, Value.ref 149, Value.ref 151, Value.ref 153, Value.ref 154, Value.ref 155, Value.ref 156, Value.ref 157, Value.int (-16384), Value.int 16384, Value.int 0, Value.int 0, Value.int 0, Value.ref 158, Value.ref 159, Value.int 0, Value.int 0, Value.int 0, Value.int 0, Value.int 0, Value.int 0, Value.int 0, Value.int 0]))).set 154 (Sum.inl (0, 17, xup (fun _ => Value.int 0) a0.toInt.toNat (Value.int 0)))).set 156 (Sum.inl (2, 17, xup (fun _ => Value.int 0) a0.toInt.toNat (Value.int 0)))) := by
  refine xRun.of ?_
  refine i_247_0 (x := 128) rfl ?_
  refine i_247_1 ?_
  refine i_247_2 (fs2 := [Value.ref 129, Value.ref 131, Value.ref 133, Value.ref 135, Value.ref 137, Value.ref 139, Value.ref 141, Value.ref 143, Value.ref 145, Value.ref 147, Value.ref 149, Value.ref 151, Value.ref 153, Value.ref 154, Value.ref 155, Value.ref 156, Value.ref 157, Value.int (-16384), Value.int 16384, Value.int 0, Value.int 0, Value.int 0, Value.ref 158, Value.ref 159, Value.int 0, Value.int 0, Value.int 0, Value.int 0, Value.int 0, Value.int 0, Value.int 0, Value.int 0]) hw0 (Nat.le_of_ble_eq_true rfl) rfl (by decide) ?_
  refine i_247_5 (x := 128) rfl ?_
  refine i_247_6 (x := a0) rfl ?_
  refine i_247_7 (x := b0) rfl ?_
  refine i_247_8 (x := a1) rfl ?_
  refine i_247_10 (xgs hw0) (Nat.le_of_ble_eq_true rfl) (r_248_4 e1 e2 e3 e4 hg5 e6 e7 (xgs hw0) (xgn (by decide) hw8) e9 (xgn (by decide) hw10)) ?_
  exact i_247_13 ⟨rfl, rfl⟩
theorem o_16_4 {d : Nat} {xs : Nat → Int32} (h0 : ((xs 0) &&& (31 : Int32)).toInt = 16) (c0 : 0 ≤ (xs 1).toInt) (c1 : (xs 1).toInt < 16) (c2 : 0 ≤ (xs 4).toInt) (c3 : (xs 4).toInt ≤ 4) (c4 : (lg_cmp (xvv xs) (0 : Int64)).toInt < 0) (c5 : (xfd (xvv xs)).toInt = 2047) (c6 : (lg_cmp (xfr (xvv xs)) (0 : Int64)).toInt ≠ 0) : ∃ w1, xEv (d + 20) 287 23 [(4, Value.int 0), (3, Value.ref 194), (2, Value.ref 128), (1, Value.ref 7), (0, Value.ref 0)] [] (W0 6 xs) (fun o' w' => o' = .inl (some (Value.int 1)) ∧ w' = w1) ∧ w1.length ≤ 220 ∧ xsz w1 ≤ 200000 := by
  have f0 : 0 ≤ (xfd (xvv xs)).toInt := (xfd_b _).1
  have f1 : (xfd (xvv xs)).toInt ≤ 2047 := (xfd_b _).2
  have G : id ((((0 ≤ (xs 1).toInt) ∧ (((xs 1).toInt < 16) ∧ (0 ≤ (xs 4).toInt))) ∧ ((((xs 4).toInt ≤ 4) ∧ ((lg_cmp (xvv xs) (0 : Int64)).toInt < 0)) ∧ (((lg_cmp (xfr (xvv xs)) (0 : Int64)).toInt ≠ 0) ∧ (7 ≤ (30 + 3 * (xs 1).toInt.toNat))))) ∧ (((((30 + 3 * (xs 1).toInt.toNat) ≠ 194) ∧ ((30 + 3 * (xs 1).toInt.toNat) ≠ 0)) ∧ (((30 + 3 * (xs 1).toInt.toNat) ≠ 128) ∧ ((xs 1).toInt ≤ 15))) ∧ ((((xfd (xvv xs)).toInt = 2047) ∧ ((30 + 3 * (xs 1).toInt.toNat) ≠ 154)) ∧ (((xs 1).toInt < 17) ∧ ((30 + 3 * (xs 1).toInt.toNat) ≠ 156))))) := ⟨⟨⟨by omega, ⟨by omega, by omega⟩⟩, ⟨⟨by omega, by omega⟩, ⟨by omega, by omega⟩⟩⟩, ⟨⟨⟨by omega, by omega⟩, ⟨by omega, by omega⟩⟩, ⟨⟨by omega, by omega⟩, ⟨by omega, by omega⟩⟩⟩⟩
  refine ⟨((((((W0 6 xs).set (30 + 3 * (xs 1).toInt.toNat) (Sum.inr (2, [Value.int 64, Value.int 0, Value.int 1, Value.int 0, Value.ref (31 + 3 * (xs 1).toInt.toNat)]))).set 194 (Sum.inl (3, 1, xup (fun _ => Value.long 0) (0 : Int32).toInt.toNat (Value.long 0)))).set 128 (Sum.inr (12, [Value.ref 129, Value.ref 131, Value.ref 133, Value.ref 135, Value.ref 137, Value.ref 139, Value.ref 141, Value.ref 143, Value.ref 145, Value.ref 147, Value.ref 149, Value.ref 151, Value.ref 153, Value.ref 154, Value.ref 155, Value.ref 156, Value.ref 157, Value.int (-16384), Value.int 16384, Value.int 0, Value.int 0, Value.int 0, Value.ref 158, Value.ref 159, Value.int 0, Value.int 0, Value.int 0, Value.int 0, Value.int 0, Value.int 0, Value.int 0, Value.int 0]))).set 154 (Sum.inl (0, 17, xup (fun _ => Value.int 0) (xs 1).toInt.toNat (Value.int 0)))).set 156 (Sum.inl (2, 17, xup (fun _ => Value.int 0) (xs 1).toInt.toNat (Value.int 0)))), ?_, (show xLs _ 220 200000 from ?_)⟩
  · refine i_287_23 (x := 0) rfl ?_
    refine i_287_25 (x := 0) rfl ?_
    refine i_287_26 (c := 6) W0_0 (by decide) ?_
    refine i_287_27 ?_
    refine i_287_29 (c := 0) (by decide) ?_
    refine i_287_30 (fun h => absurd h (by decide)) (fun _ => ?_)
    refine i_287_33 (x := 0) rfl ?_
    refine i_287_34 (x := 0) rfl ?_
    refine i_287_36 (v := Value.int (xs 0)) W0_0 (by decide) (by decide) rfl ?_
    refine i_287_37 ?_
    refine i_287_39 (c := 16) (show ((xs 0) &&& (31 : Int32)) = 16 from (xge_c (n := 16) (by omega) rfl)) ?_
    refine i_287_40_16 rfl ?_
    refine i_287_1540 (x := 7) rfl ?_
    refine i_287_1541 (x := 0) rfl ?_
    refine i_287_1542 (x := 0) rfl ?_
    refine i_287_1544 ?_
    refine i_287_1545 (c := 1) (by decide) ?_
    refine i_287_1546 (v := Value.int (xs 1)) W0_0 (by decide) (by decide) rfl ?_
    refine i_287_1547 (x := 0) rfl ?_
    refine i_287_1548 (x := 0) rfl ?_
    refine i_287_1550 ?_
    refine i_287_1551 (c := 2) (by decide) ?_
    refine i_287_1552 (v := Value.int (xs 2)) W0_0 (by decide) (by decide) rfl ?_
    refine i_287_1553 (c := (xs 2).toInt64) rfl ?_
    refine i_287_1554 ?_
    refine i_287_1556 (c := (xsh (xs 2) (32 : Int32))) rfl ?_
    refine i_287_1557 (x := 0) rfl ?_
    refine i_287_1558 (x := 0) rfl ?_
    refine i_287_1560 ?_
    refine i_287_1561 (c := 3) (by decide) ?_
    refine i_287_1562 (v := Value.int (xs 3)) W0_0 (by decide) (by decide) rfl ?_
    refine i_287_1563 (c := (xs 3).toInt64) rfl ?_
    refine i_287_1564 ?_
    refine i_287_1567 (c := (((xs 3).toInt64) &&& (4294967295 : Int64))) rfl ?_
    refine i_287_1568 (c := (xvv xs)) rfl ?_
    refine i_287_1569 (x := 0) rfl ?_
    refine i_287_1570 (x := 0) rfl ?_
    refine i_287_1572 ?_
    refine i_287_1573 (c := 4) (by decide) ?_
    refine i_287_1574 (v := Value.int (xs 4)) W0_0 (by decide) (by decide) rfl ?_
    refine i_287_1575 (x := 194) rfl ?_
    refine i_287_1576 (Nat.le_of_ble_eq_true rfl) (r_127_4 W0_7 (G.1.1.1) (G.1.1.2.1) (G.1.1.2.2) (G.1.2.1.1) W0_8 (greg_at (by omega)) (G.1.2.1.2) (show (xfd (xvv xs)) = 2047 from (xge_c (n := 2047) (by omega) rfl)) (G.1.2.2.1) (W0_reg (by omega)) (G.1.2.2.2) (G.2.1.1.1) W0_194) ?_
    refine i_287_1579 (lv2 := [(5, Value.int 0), (4, Value.int 0), (3, Value.ref 194), (2, Value.ref 128), (1, Value.ref 7), (0, Value.ref 0)]) rfl ?_
    refine i_287_1581 (x := 128) rfl ?_
    refine i_287_1582 (x := 0) rfl ?_
    refine i_287_1583 (x := 0) rfl ?_
    refine i_287_1585 ?_
    refine i_287_1586 (c := 1) (by decide) ?_
    refine i_287_1587 (v := Value.int (xs 1)) (xgn (by decide) (xgn (G.2.1.1.2) W0_0)) (by decide) (by decide) rfl ?_
    refine i_287_1588 (x := 0) rfl ?_
    refine i_287_1589 (x := 0) rfl ?_
    refine i_287_1591 ?_
    refine i_287_1592 (c := 2) (by decide) ?_
    refine i_287_1593 (v := Value.int (xs 2)) (xgn (by decide) (xgn (G.2.1.1.2) W0_0)) (by decide) (by decide) rfl ?_
    refine i_287_1594 (c := (xs 2).toInt64) rfl ?_
    refine i_287_1595 ?_
    refine i_287_1597 (c := (xsh (xs 2) (32 : Int32))) rfl ?_
    refine i_287_1598 (x := 0) rfl ?_
    refine i_287_1599 (x := 0) rfl ?_
    refine i_287_1601 ?_
    refine i_287_1602 (c := 3) (by decide) ?_
    refine i_287_1603 (v := Value.int (xs 3)) (xgn (by decide) (xgn (G.2.1.1.2) W0_0)) (by decide) (by decide) rfl ?_
    refine i_287_1604 (c := (xs 3).toInt64) rfl ?_
    refine i_287_1605 ?_
    refine i_287_1608 (c := (((xs 3).toInt64) &&& (4294967295 : Int64))) rfl ?_
    refine i_287_1609 (c := (xvv xs)) rfl ?_
    refine i_287_1610 (x := 0) rfl ?_
    refine i_287_1611 (x := 0) rfl ?_
    refine i_287_1613 ?_
    refine i_287_1614 (c := 4) (by decide) ?_
    refine i_287_1615 (v := Value.int (xs 4)) (xgn (by decide) (xgn (G.2.1.1.2) W0_0)) (by decide) (by decide) rfl ?_
    refine i_287_1616 (xgn (by decide) (xgn (G.2.1.2.1) W0_128)) (Nat.le_of_ble_eq_true rfl) (r_247_4 (xgn (by decide) (xgn (G.2.1.2.1) W0_128)) (G.1.1.1) (G.2.1.2.2) (G.1.1.2.2) (G.1.2.1.1) (show (xfe (xvv xs)) = (xfd (xvv xs)) from (xfe_eq _)) (G.2.2.1.1) (G.1.2.2.1) (xgn (by decide) (xgn (G.2.2.1.2) W0_154)) (G.2.2.2.1) (xgn (by decide) (xgn (G.2.2.2.2) W0_156))) ?_
    refine i_287_1619 (lv2 := [(6, Value.int 0), (5, Value.int 0), (4, Value.int 0), (3, Value.ref 194), (2, Value.ref 128), (1, Value.ref 7), (0, Value.ref 0)]) rfl ?_
    refine i_287_1621 (x := 128) rfl ?_
    refine i_287_1622 (xgn (by decide) (xgn (by decide) (xgs (xgn (by decide) (xgn (G.2.1.2.1) W0_128))))) (Nat.le_of_ble_eq_true rfl) (r_165_1 (xgn (by decide) (xgn (by decide) (xgs (xgn (by decide) (xgn (G.2.1.2.1) W0_128)))))) ?_
    refine i_287_1625 (x := 0) rfl ?_
    refine i_287_1627 (fun _ => ?_) (fun h => absurd h (by decide))
    refine i_287_1632 (x := 0) rfl ?_
    refine i_287_1634 (fun h => absurd h (by decide)) (fun _ => ?_)
    refine i_287_1637 (x := 194) rfl ?_
    refine i_287_1638 ?_
    refine i_287_1639 (v := Value.long 0) (xgn (by decide) (xgn (by decide) (xgn (by decide) (xgs (xgn (G.2.1.1.1) W0_194))))) (by decide) (by decide) xup_s ?_
    refine i_287_1640 (x := 0) rfl ?_
    refine i_287_1642 (c := 0) (by decide) ?_
    refine i_287_1643 (c := 0) (by decide) ?_
    refine i_287_1644 (fun _ => ?_) (fun h => absurd h (by decide))
    refine i_287_1649 ?_
    refine i_287_2154 (x := 0) (c := 6) (lv2 := [(4, Value.int 6), (6, Value.int 0), (5, Value.int 0), (3, Value.ref 194), (2, Value.ref 128), (1, Value.ref 7), (0, Value.ref 0)]) rfl (by decide) rfl ?_
    refine i_287_2157 ?_
    refine i_287_23 (x := 6) rfl ?_
    refine i_287_25 (x := 0) rfl ?_
    refine i_287_26 (c := 6) (xgn (by decide) (xgn (by decide) (xgn (by decide) (xgn (by decide) (xgn (G.2.1.1.2) W0_0))))) (by decide) ?_
    refine i_287_27 ?_
    refine i_287_29 (c := 0) (by decide) ?_
    refine i_287_30 (fun _ => ?_) (fun h => absurd h (by decide))
    refine i_287_2160 ?_
    exact i_287_2161 rfl ⟨rfl, rfl⟩
  · refine xLs.set ?_ (xgn (by decide) (xgn (by decide) (xgn (by decide) (xgn (G.2.2.2.2) W0_156)))) xcs_a
    refine xLs.set ?_ (xgn (by decide) (xgn (by decide) (xgn (G.2.2.1.2) W0_154))) xcs_a
    refine xLs.set ?_ (xgn (by decide) (xgn (G.2.1.2.1) W0_128)) xcs_o
    refine xLs.set ?_ (xgn (G.2.1.1.1) W0_194) xcs_a
    refine xLs.set ?_ (W0_reg (by omega)) xcs_o
    exact ⟨Nat.le_trans (Nat.le_of_eq W0_len) (by decide), Nat.le_trans (Nat.le_of_eq W0_sz) (by decide)⟩
theorem r_17_2 {d : Nat} {w : xW} {h0 : Nat} {h1 : Nat} (hw0 : w[h0]? = some (Sum.inr (2, [Value.int 64, Value.int 0, Value.int 0, Value.int 0, Value.ref h1]))) (e1 : 7 ≤ h0) : xRun d 17 [Value.ref h0, Value.int 2, Value.int 1] w (.inl (some (Value.int 0))) (w.set h0 (Sum.inr (2, [Value.int 64, Value.int 2, Value.int 1, Value.int 0, Value.ref h1]))) := by
  refine xRun.of ?_
  refine i_17_0 (x := h0) rfl ?_
  refine i_17_1 (x := 2) rfl ?_
  refine i_17_2 (fs2 := [Value.int 64, Value.int 2, Value.int 0, Value.int 0, Value.ref h1]) hw0 (Nat.le_of_ble_eq_true rfl) rfl e1 ?_
  refine i_17_5 (x := h0) rfl ?_
  refine i_17_6 (x := 1) rfl ?_
  refine i_17_7 (fs2 := [Value.int 64, Value.int 2, Value.int 1, Value.int 0, Value.ref h1]) (xgs hw0) rfl (Nat.le_of_ble_eq_true rfl) rfl e1 ?_
  refine xEv.world (List.set_set _) ?_
  refine i_17_10 ?_
  exact i_17_11 ⟨rfl, rfl⟩
theorem r_23_0 {d : Nat} {w : xW} {h0 : Nat} {h1 : Nat} (hw0 : w[h0]? = some (Sum.inr (2, [Value.int 64, Value.int 0, Value.int 0, Value.int 0, Value.ref h1]))) (e1 : 7 ≤ h0) : xRun (d + 1) 23 [Value.ref h0, Value.int 1] w (.inl (some (Value.int 0))) (w.set h0 (Sum.inr (2, [Value.int 64, Value.int 2, Value.int 1, Value.int 0, Value.ref h1]))) := by
  refine xRun.of ?_
  refine i_23_0 (x := h0) rfl ?_
  refine i_23_1 ?_
  refine i_23_2 (x := 1) rfl ?_
  refine i_23_3 hw0 (Nat.le_of_ble_eq_true rfl) (r_17_2 hw0 e1) ?_
  exact i_23_6 ⟨rfl, rfl⟩
theorem r_128_5 {d : Nat} {w : xW} {a0 : Int32} {b0 : Int64} {a1 : Int32} {g0 : Nat → Value} {h0 : Nat} {h1 : Nat} (e0 : 0 ≤ a0.toInt) (e1 : a0.toInt < 16) (e2 : 0 ≤ a1.toInt) (e3 : a1.toInt ≤ 4) (hw4 : w[7]? = some (Sum.inr (0, [Value.ref 8, Value.ref 78, Value.ref 9, Value.ref 10, Value.ref 13, Value.ref 16, Value.ref 19, Value.ref 93, Value.ref 108, Value.ref 113, Value.ref 29, Value.int 0]))) (hw5 : w[8]? = some (Sum.inl (4, 16, g0))) (hg6 : g0 a0.toInt.toNat = Value.ref h0) (e7 : (lg_cmp b0 (0 : Int64)).toInt < 0) (hg8 : (xfd b0) = 0) (hg9 : (lg_cmp (xfr b0) (0 : Int64)) = 0) (hw10 : w[h0]? = some (Sum.inr (2, [Value.int 64, Value.int 0, Value.int 0, Value.int 0, Value.ref h1]))) (e11 : 7 ≤ h0) : xRun (d + 2) 128 [Value.ref 7, Value.int a0, Value.long b0, Value.int a1] w (.inl (some (Value.int 0))) (w.set h0 (Sum.inr (2, [Value.int 64, Value.int 2, Value.int 1, Value.int 0, Value.ref h1]))) := by
  refine xRun.of ?_
  refine i_128_0 (x := a0) rfl ?_
  refine i_128_1 (Nat.le_of_ble_eq_true rfl) (r_15_1 e0 e1) ?_
  refine i_128_4 (fun h => absurd h (by decide)) (fun _ => ?_)
  refine i_128_7 (x := a1) rfl ?_
  refine i_128_9 (Nat.le_of_ble_eq_true rfl) (r_22_2 e2 e3) ?_
  refine i_128_12 (fun _ => ?_) (fun h => absurd h (by decide))
  refine i_128_23 (x := 7) rfl ?_
  refine i_128_24 (v := Value.ref 8) hw4 rfl ?_
  refine i_128_27 (x := a0) rfl ?_
  refine i_128_28 (v := Value.ref h0) hw5 e0 e1 hg6 ?_
  refine i_128_29 (lv2 := [(5, Value.ref h0), (0, Value.ref 7), (1, Value.int a0), (2, Value.long b0), (4, Value.int a1)]) rfl ?_
  refine i_128_31 (x := b0) rfl ?_
  refine i_128_32 ?_
  refine i_128_33 (c := (lg_cmp b0 (0 : Int64))) rfl ?_
  refine i_128_34 (fun h => absurd e7 (Int.not_lt.mpr h)) (fun _ => ?_)
  refine i_128_37 ?_
  refine i_128_38 ?_
  refine i_128_42 (lv2 := [(6, Value.int 1), (5, Value.ref h0), (0, Value.ref 7), (1, Value.int a0), (2, Value.long b0), (4, Value.int a1)]) rfl ?_
  refine i_128_44 (x := b0) rfl ?_
  refine i_128_45 ?_
  refine i_128_47 (c := (xsr b0 52)) rfl ?_
  refine i_128_48 (c := (xsr b0 52).toInt32) rfl ?_
  refine i_128_49 ?_
  refine i_128_52 (c := 0) hg8 ?_
  refine i_128_53 (lv2 := [(7, Value.int 0), (6, Value.int 1), (5, Value.ref h0), (0, Value.ref 7), (1, Value.int a0), (2, Value.long b0), (4, Value.int a1)]) rfl ?_
  refine i_128_55 (x := b0) rfl ?_
  refine i_128_56 ?_
  refine i_128_59 (c := (xfr b0)) rfl ?_
  refine i_128_60 (lv2 := [(8, Value.long (xfr b0)), (7, Value.int 0), (6, Value.int 1), (5, Value.ref h0), (0, Value.ref 7), (1, Value.int a0), (2, Value.long b0), (4, Value.int a1)]) rfl ?_
  refine i_128_62 (x := 0) rfl ?_
  refine i_128_64 ?_
  refine i_128_67 (fun _ => ?_) (fun h => absurd h (by decide))
  refine i_128_90 (x := 0) rfl ?_
  refine i_128_92 (fun h => absurd h (by decide)) (fun _ => ?_)
  refine i_128_95 (x := (xfr b0)) rfl ?_
  refine i_128_97 ?_
  refine i_128_98 (c := 0) hg9 ?_
  refine i_128_99 (fun h => absurd h (by decide)) (fun _ => ?_)
  refine i_128_102 (x := h0) rfl ?_
  refine i_128_104 (x := 1) rfl ?_
  refine i_128_106 hw10 (Nat.le_of_ble_eq_true rfl) (r_23_0 hw10 e11) ?_
  exact i_128_109 ⟨rfl, rfl⟩
theorem r_127_5 {d : Nat} {w : xW} {a0 : Int32} {b0 : Int64} {a1 : Int32} {g0 : Nat → Value} {h0 : Nat} {h1 : Nat} (hw0 : w[7]? = some (Sum.inr (0, [Value.ref 8, Value.ref 78, Value.ref 9, Value.ref 10, Value.ref 13, Value.ref 16, Value.ref 19, Value.ref 93, Value.ref 108, Value.ref 113, Value.ref 29, Value.int 0]))) (e1 : 0 ≤ a0.toInt) (e2 : a0.toInt < 16) (e3 : 0 ≤ a1.toInt) (e4 : a1.toInt ≤ 4) (hw5 : w[8]? = some (Sum.inl (4, 16, g0))) (hg6 : g0 a0.toInt.toNat = Value.ref h0) (e7 : (lg_cmp b0 (0 : Int64)).toInt < 0) (hg8 : (xfd b0) = 0) (hg9 : (lg_cmp (xfr b0) (0 : Int64)) = 0) (hw10 : w[h0]? = some (Sum.inr (2, [Value.int 64, Value.int 0, Value.int 0, Value.int 0, Value.ref h1]))) (e11 : 7 ≤ h0) (e12 : h0 ≠ 194) (hw13 : w[194]? = some (Sum.inl (3, 1, fun _ => Value.long 0))) : xRun (d + 3) 127 [Value.ref 7, Value.int a0, Value.long b0, Value.int a1, Value.ref 194] w (.inl (some (Value.int 0))) ((w.set h0 (Sum.inr (2, [Value.int 64, Value.int 2, Value.int 1, Value.int 0, Value.ref h1]))).set 194 (Sum.inl (3, 1, xup (fun _ => Value.long 0) (0 : Int32).toInt.toNat (Value.long 0)))) := by
  refine xRun.of ?_
  refine i_127_0 (x := 194) rfl ?_
  refine i_127_2 ?_
  refine i_127_3 (x := 7) rfl ?_
  refine i_127_4 (x := a0) rfl ?_
  refine i_127_5 (x := b0) rfl ?_
  refine i_127_6 (x := a1) rfl ?_
  refine i_127_8 hw0 (Nat.le_of_ble_eq_true rfl) (r_128_5 e1 e2 e3 e4 hw0 hw5 hg6 e7 hg8 hg9 hw10 e11) ?_
  refine i_127_11 (c := 0) (by decide) ?_
  refine i_127_12 (v := Value.long 0) (xgn e12 hw13) (by decide) (by decide) (by decide) rfl ?_
  refine i_127_13 ?_
  refine i_127_20 ?_
  exact i_127_21 ⟨rfl, rfl⟩
theorem r_171_2 {d : Nat} {w : xW} {a0 : Int32} (hw0 : w[128]? = some (Sum.inr (12, [Value.ref 129, Value.ref 131, Value.ref 133, Value.ref 135, Value.ref 137, Value.ref 139, Value.ref 141, Value.ref 143, Value.ref 145, Value.ref 147, Value.ref 149, Value.ref 151, Value.ref 153, Value.ref 154, Value.ref 155, Value.ref 156, Value.ref 157, Value.int (-16384), Value.int 16384, Value.int 0, Value.int 0, Value.int 0, Value.ref 158, Value.ref 159, Value.int 0, Value.int 0, Value.int 0, Value.int 0, Value.int 0, Value.int 0, Value.int 0, Value.int 0]))) (hw1 : w[154]? = some (Sum.inl (0, 17, fun _ => Value.int 0))) (e2 : 0 ≤ a0.toInt) (e3 : a0.toInt < 17) (hw4 : w[156]? = some (Sum.inl (2, 17, fun _ => Value.int 0))) : xRun d 171 [Value.ref 128, Value.int a0, Value.int 2, Value.int 1] w (.inl (some (Value.int 0))) ((w.set 154 (Sum.inl (0, 17, xup (fun _ => Value.int 0) a0.toInt.toNat (Value.int 2)))).set 156 (Sum.inl (2, 17, xup (fun _ => Value.int 0) a0.toInt.toNat (Value.int 1)))) := by
  refine xRun.of ?_
  refine i_171_0 (x := 128) rfl ?_
  refine i_171_1 (v := Value.ref 154) hw0 rfl ?_
  refine i_171_4 (x := a0) rfl ?_
  refine i_171_5 (x := 2) rfl ?_
  refine i_171_6 (v := Value.int 2) hw1 e2 e3 (by decide) rfl ?_
  refine i_171_7 (x := 128) rfl ?_
  refine i_171_8 (v := Value.ref 156) (xgn (by decide) hw0) rfl ?_
  refine i_171_11 (x := a0) rfl ?_
  refine i_171_12 (x := 1) rfl ?_
  refine i_171_13z (v := Value.int 1) (xgn (by decide) hw4) e2 e3 (by decide) rfl ?_
  refine i_171_14 ?_
  exact i_171_15 ⟨rfl, rfl⟩
theorem r_248_5 {d : Nat} {w : xW} {a0 : Int32} {b0 : Int64} {a1 : Int32} {a2 : Int32} (e0 : 0 ≤ a0.toInt) (e1 : a0.toInt ≤ 15) (e2 : 0 ≤ a1.toInt) (e3 : a1.toInt ≤ 4) (hg4 : (xfe b0) = a2) (e5 : a2.toInt ≠ 2047) (e6 : a2.toInt = 0) (hg7 : (lg_cmp (xfr b0) (0 : Int64)) = 0) (e8 : (lg_cmp b0 (0 : Int64)).toInt < 0) (hw9 : w[128]? = some (Sum.inr (12, [Value.ref 129, Value.ref 131, Value.ref 133, Value.ref 135, Value.ref 137, Value.ref 139, Value.ref 141, Value.ref 143, Value.ref 145, Value.ref 147, Value.ref 149, Value.ref 151, Value.ref 153, Value.ref 154, Value.ref 155, Value.ref 156, Value.ref 157, Value.int (-16384), Value.int 16384, Value.int 0, Value.int 0, Value.int 0, Value.ref 158, Value.ref 159, Value.int 0, Value.int 0, Value.int 0, Value.int 0, Value.int 0, Value.int 0, Value.int 0, Value.int 0]))) (hw10 : w[154]? = some (Sum.inl (0, 17, fun _ => Value.int 0))) (e11 : a0.toInt < 17) (hw12 : w[156]? = some (Sum.inl (2, 17, fun _ => Value.int 0))) : xRun (d + 2) 248 [Value.ref 128, Value.int a0, Value.long b0, Value.int a1] w (.inl (some (Value.int 0))) ((w.set 154 (Sum.inl (0, 17, xup (fun _ => Value.int 0) a0.toInt.toNat (Value.int 2)))).set 156 (Sum.inl (2, 17, xup (fun _ => Value.int 0) a0.toInt.toNat (Value.int 1)))) := by
  refine xRun.of ?_
  refine i_248_0 (x := a0) rfl ?_
  refine i_248_1 (Nat.le_of_ble_eq_true rfl) (r_168_1 e0 e1) ?_
  refine i_248_4 (x := a1) rfl ?_
  refine i_248_6 (Nat.le_of_ble_eq_true rfl) (r_178_2 e2 e3) ?_
  refine i_248_9 (x := b0) rfl ?_
  refine i_248_10 ?_
  refine i_248_12 (c := (b0 >>> ((52 : Int32).toInt64 &&& 63))) rfl ?_
  refine i_248_13 (c := (b0 >>> ((52 : Int32).toInt64 &&& 63)).toInt32) rfl ?_
  refine i_248_14 ?_
  refine i_248_17 (c := a2) hg4 ?_
  refine i_248_18 (lv2 := [(5, Value.int a2), (0, Value.ref 128), (1, Value.int a0), (2, Value.long b0), (4, Value.int a1)]) rfl ?_
  refine i_248_20 (x := b0) rfl ?_
  refine i_248_21 ?_
  refine i_248_24 (c := (xfr b0)) rfl ?_
  refine i_248_25 (lv2 := [(6, Value.long (xfr b0)), (5, Value.int a2), (0, Value.ref 128), (1, Value.int a0), (2, Value.long b0), (4, Value.int a1)]) rfl ?_
  refine i_248_27 (x := a2) rfl ?_
  refine i_248_29 ?_
  refine i_248_32 (fun _ => ?_) (fun h => absurd e5 (fun g => g h))
  refine i_248_71 (x := a2) rfl ?_
  refine i_248_73 (fun h => absurd e6 h) (fun _ => ?_)
  refine i_248_76 (x := (xfr b0)) rfl ?_
  refine i_248_78 ?_
  refine i_248_79 (c := 0) hg7 ?_
  refine i_248_80 (fun h => absurd h (by decide)) (fun _ => ?_)
  refine i_248_83 (x := 128) rfl ?_
  refine i_248_84 (x := a0) rfl ?_
  refine i_248_85 ?_
  refine i_248_86 (x := b0) rfl ?_
  refine i_248_87 ?_
  refine i_248_88 (c := (lg_cmp b0 (0 : Int64))) rfl ?_
  refine i_248_89 (fun h => absurd e8 (Int.not_lt.mpr h)) (fun _ => ?_)
  refine i_248_92 ?_
  refine i_248_93 ?_
  refine i_248_97 hw9 (Nat.le_of_ble_eq_true rfl) (r_171_2 hw9 hw10 e0 e11 hw12) ?_
  exact i_248_100 ⟨rfl, rfl⟩
theorem r_247_5 {d : Nat} {w : xW} {a0 : Int32} {b0 : Int64} {a1 : Int32} {a2 : Int32} (hw0 : w[128]? = some (Sum.inr (12, [Value.ref 129, Value.ref 131, Value.ref 133, Value.ref 135, Value.ref 137, Value.ref 139, Value.ref 141, Value.ref 143, Value.ref 145, Value.ref 147, Value.ref 149, Value.ref 151, Value.ref 153, Value.ref 154, Value.ref 155, Value.ref 156, Value.ref 157, Value.int (-16384), Value.int 16384, Value.int 0, Value.int 0, Value.int 0, Value.ref 158, Value.ref 159, Value.int 0, Value.int 0, Value.int 0, Value.int 0, Value.int 0, Value.int 0, Value.int 0, Value.int 0]))) (e1 : 0 ≤ a0.toInt) (e2 : a0.toInt ≤ 15) (e3 : 0 ≤ a1.toInt) (e4 : a1.toInt ≤ 4) (hg5 : (xfe b0) = a2) (e6 : a2.toInt ≠ 2047) (e7 : a2.toInt = 0) (hg8 : (lg_cmp (xfr b0) (0 : Int64)) = 0) (e9 : (lg_cmp b0 (0 : Int64)).toInt < 0) (hw10 : w[154]? = some (Sum.inl (0, 17, fun _ => Value.int 0))) (e11 : a0.toInt < 17) (hw12 : w[156]? = some (Sum.inl (2, 17, fun _ => Value.int 0))) : xRun (d + 3) 247 [Value.ref 128, Value.int a0, Value.long b0, Value.int a1] w (.inl (some (Value.int 0))) (((w.set 128 (Sum.inr (12, [Value.ref 129, Value.ref 131, Value.ref 133, Value.ref 135, Value.ref 137, Value.ref 139, Value.ref 141, Value.ref 143, Value.ref 145, Value.ref 147, Value.ref 149, Value.ref 151, Value.ref 153, Value.ref 154, Value.ref 155, Value.ref 156, Value.ref 157, Value.int (-16384), Value.int 16384, Value.int 0, Value.int 0, Value.int 0, Value.ref 158, Value.ref 159, Value.int 0, Value.int 0, Value.int 0, Value.int 0, Value.int 0, Value.int 0, Value.int 0, Value.int 0]))).set 154 (Sum.inl (0, 17, xup (fun _ => Value.int 0) a0.toInt.toNat (Value.int 2)))).set 156 (Sum.inl (2, 17, xup (fun _ => Value.int 0) a0.toInt.toNat (Value.int 1)))) := by
  refine xRun.of ?_
  refine i_247_0 (x := 128) rfl ?_
  refine i_247_1 ?_
  refine i_247_2 (fs2 := [Value.ref 129, Value.ref 131, Value.ref 133, Value.ref 135, Value.ref 137, Value.ref 139, Value.ref 141, Value.ref 143, Value.ref 145, Value.ref 147, Value.ref 149, Value.ref 151, Value.ref 153, Value.ref 154, Value.ref 155, Value.ref 156, Value.ref 157, Value.int (-16384), Value.int 16384, Value.int 0, Value.int 0, Value.int 0, Value.ref 158, Value.ref 159, Value.int 0, Value.int 0, Value.int 0, Value.int 0, Value.int 0, Value.int 0, Value.int 0, Value.int 0]) hw0 (Nat.le_of_ble_eq_true rfl) rfl (by decide) ?_
  refine i_247_5 (x := 128) rfl ?_
  refine i_247_6 (x := a0) rfl ?_
  refine i_247_7 (x := b0) rfl ?_
  refine i_247_8 (x := a1) rfl ?_
  refine i_247_10 (xgs hw0) (Nat.le_of_ble_eq_true rfl) (r_248_5 e1 e2 e3 e4 hg5 e6 e7 hg8 e9 (xgs hw0) (xgn (by decide) hw10) e11 (xgn (by decide) hw12)) ?_
  exact i_247_13 ⟨rfl, rfl⟩
theorem o_16_5 {d : Nat} {xs : Nat → Int32} (h0 : ((xs 0) &&& (31 : Int32)).toInt = 16) (c0 : 0 ≤ (xs 1).toInt) (c1 : (xs 1).toInt < 16) (c2 : 0 ≤ (xs 4).toInt) (c3 : (xs 4).toInt ≤ 4) (c4 : (lg_cmp (xvv xs) (0 : Int64)).toInt < 0) (c5 : (xfd (xvv xs)).toInt ≠ 2047) (c6 : (xfd (xvv xs)).toInt = 0) (c7 : (lg_cmp (xfr (xvv xs)) (0 : Int64)).toInt = 0) : ∃ w1, xEv (d + 20) 287 23 [(4, Value.int 0), (3, Value.ref 194), (2, Value.ref 128), (1, Value.ref 7), (0, Value.ref 0)] [] (W0 6 xs) (fun o' w' => o' = .inl (some (Value.int 1)) ∧ w' = w1) ∧ w1.length ≤ 220 ∧ xsz w1 ≤ 200000 := by
  have f0 : 0 ≤ (xfd (xvv xs)).toInt := (xfd_b _).1
  have f1 : (xfd (xvv xs)).toInt ≤ 2047 := (xfd_b _).2
  have G : id ((((0 ≤ (xs 1).toInt) ∧ (((xs 1).toInt < 16) ∧ (0 ≤ (xs 4).toInt))) ∧ ((((xs 4).toInt ≤ 4) ∧ ((lg_cmp (xvv xs) (0 : Int64)).toInt < 0)) ∧ ((7 ≤ (30 + 3 * (xs 1).toInt.toNat)) ∧ ((30 + 3 * (xs 1).toInt.toNat) ≠ 194)))) ∧ (((((30 + 3 * (xs 1).toInt.toNat) ≠ 0) ∧ ((30 + 3 * (xs 1).toInt.toNat) ≠ 128)) ∧ (((xs 1).toInt ≤ 15) ∧ ((xfd (xvv xs)).toInt ≠ 2047))) ∧ ((((xfd (xvv xs)).toInt = 0) ∧ ((30 + 3 * (xs 1).toInt.toNat) ≠ 154)) ∧ (((xs 1).toInt < 17) ∧ ((30 + 3 * (xs 1).toInt.toNat) ≠ 156))))) := ⟨⟨⟨by omega, ⟨by omega, by omega⟩⟩, ⟨⟨by omega, by omega⟩, ⟨by omega, by omega⟩⟩⟩, ⟨⟨⟨by omega, by omega⟩, ⟨by omega, by omega⟩⟩, ⟨⟨by omega, by omega⟩, ⟨by omega, by omega⟩⟩⟩⟩
  refine ⟨((((((W0 6 xs).set (30 + 3 * (xs 1).toInt.toNat) (Sum.inr (2, [Value.int 64, Value.int 2, Value.int 1, Value.int 0, Value.ref (31 + 3 * (xs 1).toInt.toNat)]))).set 194 (Sum.inl (3, 1, xup (fun _ => Value.long 0) (0 : Int32).toInt.toNat (Value.long 0)))).set 128 (Sum.inr (12, [Value.ref 129, Value.ref 131, Value.ref 133, Value.ref 135, Value.ref 137, Value.ref 139, Value.ref 141, Value.ref 143, Value.ref 145, Value.ref 147, Value.ref 149, Value.ref 151, Value.ref 153, Value.ref 154, Value.ref 155, Value.ref 156, Value.ref 157, Value.int (-16384), Value.int 16384, Value.int 0, Value.int 0, Value.int 0, Value.ref 158, Value.ref 159, Value.int 0, Value.int 0, Value.int 0, Value.int 0, Value.int 0, Value.int 0, Value.int 0, Value.int 0]))).set 154 (Sum.inl (0, 17, xup (fun _ => Value.int 0) (xs 1).toInt.toNat (Value.int 2)))).set 156 (Sum.inl (2, 17, xup (fun _ => Value.int 0) (xs 1).toInt.toNat (Value.int 1)))), ?_, (show xLs _ 220 200000 from ?_)⟩
  · refine i_287_23 (x := 0) rfl ?_
    refine i_287_25 (x := 0) rfl ?_
    refine i_287_26 (c := 6) W0_0 (by decide) ?_
    refine i_287_27 ?_
    refine i_287_29 (c := 0) (by decide) ?_
    refine i_287_30 (fun h => absurd h (by decide)) (fun _ => ?_)
    refine i_287_33 (x := 0) rfl ?_
    refine i_287_34 (x := 0) rfl ?_
    refine i_287_36 (v := Value.int (xs 0)) W0_0 (by decide) (by decide) rfl ?_
    refine i_287_37 ?_
    refine i_287_39 (c := 16) (show ((xs 0) &&& (31 : Int32)) = 16 from (xge_c (n := 16) (by omega) rfl)) ?_
    refine i_287_40_16 rfl ?_
    refine i_287_1540 (x := 7) rfl ?_
    refine i_287_1541 (x := 0) rfl ?_
    refine i_287_1542 (x := 0) rfl ?_
    refine i_287_1544 ?_
    refine i_287_1545 (c := 1) (by decide) ?_
    refine i_287_1546 (v := Value.int (xs 1)) W0_0 (by decide) (by decide) rfl ?_
    refine i_287_1547 (x := 0) rfl ?_
    refine i_287_1548 (x := 0) rfl ?_
    refine i_287_1550 ?_
    refine i_287_1551 (c := 2) (by decide) ?_
    refine i_287_1552 (v := Value.int (xs 2)) W0_0 (by decide) (by decide) rfl ?_
    refine i_287_1553 (c := (xs 2).toInt64) rfl ?_
    refine i_287_1554 ?_
    refine i_287_1556 (c := (xsh (xs 2) (32 : Int32))) rfl ?_
    refine i_287_1557 (x := 0) rfl ?_
    refine i_287_1558 (x := 0) rfl ?_
    refine i_287_1560 ?_
    refine i_287_1561 (c := 3) (by decide) ?_
    refine i_287_1562 (v := Value.int (xs 3)) W0_0 (by decide) (by decide) rfl ?_
    refine i_287_1563 (c := (xs 3).toInt64) rfl ?_
    refine i_287_1564 ?_
    refine i_287_1567 (c := (((xs 3).toInt64) &&& (4294967295 : Int64))) rfl ?_
    refine i_287_1568 (c := (xvv xs)) rfl ?_
    refine i_287_1569 (x := 0) rfl ?_
    refine i_287_1570 (x := 0) rfl ?_
    refine i_287_1572 ?_
    refine i_287_1573 (c := 4) (by decide) ?_
    refine i_287_1574 (v := Value.int (xs 4)) W0_0 (by decide) (by decide) rfl ?_
    refine i_287_1575 (x := 194) rfl ?_
    refine i_287_1576 (Nat.le_of_ble_eq_true rfl) (r_127_5 W0_7 (G.1.1.1) (G.1.1.2.1) (G.1.1.2.2) (G.1.2.1.1) W0_8 (greg_at (by omega)) (G.1.2.1.2) (show (xfd (xvv xs)) = 0 from (xge_c (n := 0) (by omega) rfl)) (show (lg_cmp (xfr (xvv xs)) (0 : Int64)) = 0 from (xge_c (n := 0) (by omega) rfl)) (W0_reg (by omega)) (G.1.2.2.1) (G.1.2.2.2) W0_194) ?_
    refine i_287_1579 (lv2 := [(5, Value.int 0), (4, Value.int 0), (3, Value.ref 194), (2, Value.ref 128), (1, Value.ref 7), (0, Value.ref 0)]) rfl ?_
    refine i_287_1581 (x := 128) rfl ?_
    refine i_287_1582 (x := 0) rfl ?_
    refine i_287_1583 (x := 0) rfl ?_
    refine i_287_1585 ?_
    refine i_287_1586 (c := 1) (by decide) ?_
    refine i_287_1587 (v := Value.int (xs 1)) (xgn (by decide) (xgn (G.2.1.1.1) W0_0)) (by decide) (by decide) rfl ?_
    refine i_287_1588 (x := 0) rfl ?_
    refine i_287_1589 (x := 0) rfl ?_
    refine i_287_1591 ?_
    refine i_287_1592 (c := 2) (by decide) ?_
    refine i_287_1593 (v := Value.int (xs 2)) (xgn (by decide) (xgn (G.2.1.1.1) W0_0)) (by decide) (by decide) rfl ?_
    refine i_287_1594 (c := (xs 2).toInt64) rfl ?_
    refine i_287_1595 ?_
    refine i_287_1597 (c := (xsh (xs 2) (32 : Int32))) rfl ?_
    refine i_287_1598 (x := 0) rfl ?_
    refine i_287_1599 (x := 0) rfl ?_
    refine i_287_1601 ?_
    refine i_287_1602 (c := 3) (by decide) ?_
    refine i_287_1603 (v := Value.int (xs 3)) (xgn (by decide) (xgn (G.2.1.1.1) W0_0)) (by decide) (by decide) rfl ?_
    refine i_287_1604 (c := (xs 3).toInt64) rfl ?_
    refine i_287_1605 ?_
    refine i_287_1608 (c := (((xs 3).toInt64) &&& (4294967295 : Int64))) rfl ?_
    refine i_287_1609 (c := (xvv xs)) rfl ?_
    refine i_287_1610 (x := 0) rfl ?_
    refine i_287_1611 (x := 0) rfl ?_
    refine i_287_1613 ?_
    refine i_287_1614 (c := 4) (by decide) ?_
    refine i_287_1615 (v := Value.int (xs 4)) (xgn (by decide) (xgn (G.2.1.1.1) W0_0)) (by decide) (by decide) rfl ?_
    refine i_287_1616 (xgn (by decide) (xgn (G.2.1.1.2) W0_128)) (Nat.le_of_ble_eq_true rfl) (r_247_5 (xgn (by decide) (xgn (G.2.1.1.2) W0_128)) (G.1.1.1) (G.2.1.2.1) (G.1.1.2.2) (G.1.2.1.1) (show (xfe (xvv xs)) = (xfd (xvv xs)) from (xfe_eq _)) (G.2.1.2.2) (G.2.2.1.1) (show (lg_cmp (xfr (xvv xs)) (0 : Int64)) = 0 from (xge_c (n := 0) (by omega) rfl)) (G.1.2.1.2) (xgn (by decide) (xgn (G.2.2.1.2) W0_154)) (G.2.2.2.1) (xgn (by decide) (xgn (G.2.2.2.2) W0_156))) ?_
    refine i_287_1619 (lv2 := [(6, Value.int 0), (5, Value.int 0), (4, Value.int 0), (3, Value.ref 194), (2, Value.ref 128), (1, Value.ref 7), (0, Value.ref 0)]) rfl ?_
    refine i_287_1621 (x := 128) rfl ?_
    refine i_287_1622 (xgn (by decide) (xgn (by decide) (xgs (xgn (by decide) (xgn (G.2.1.1.2) W0_128))))) (Nat.le_of_ble_eq_true rfl) (r_165_1 (xgn (by decide) (xgn (by decide) (xgs (xgn (by decide) (xgn (G.2.1.1.2) W0_128)))))) ?_
    refine i_287_1625 (x := 0) rfl ?_
    refine i_287_1627 (fun _ => ?_) (fun h => absurd h (by decide))
    refine i_287_1632 (x := 0) rfl ?_
    refine i_287_1634 (fun h => absurd h (by decide)) (fun _ => ?_)
    refine i_287_1637 (x := 194) rfl ?_
    refine i_287_1638 ?_
    refine i_287_1639 (v := Value.long 0) (xgn (by decide) (xgn (by decide) (xgn (by decide) (xgs (xgn (G.1.2.2.2) W0_194))))) (by decide) (by decide) xup_s ?_
    refine i_287_1640 (x := 0) rfl ?_
    refine i_287_1642 (c := 0) (by decide) ?_
    refine i_287_1643 (c := 0) (by decide) ?_
    refine i_287_1644 (fun _ => ?_) (fun h => absurd h (by decide))
    refine i_287_1649 ?_
    refine i_287_2154 (x := 0) (c := 6) (lv2 := [(4, Value.int 6), (6, Value.int 0), (5, Value.int 0), (3, Value.ref 194), (2, Value.ref 128), (1, Value.ref 7), (0, Value.ref 0)]) rfl (by decide) rfl ?_
    refine i_287_2157 ?_
    refine i_287_23 (x := 6) rfl ?_
    refine i_287_25 (x := 0) rfl ?_
    refine i_287_26 (c := 6) (xgn (by decide) (xgn (by decide) (xgn (by decide) (xgn (by decide) (xgn (G.2.1.1.1) W0_0))))) (by decide) ?_
    refine i_287_27 ?_
    refine i_287_29 (c := 0) (by decide) ?_
    refine i_287_30 (fun _ => ?_) (fun h => absurd h (by decide))
    refine i_287_2160 ?_
    exact i_287_2161 rfl ⟨rfl, rfl⟩
  · refine xLs.set ?_ (xgn (by decide) (xgn (by decide) (xgn (by decide) (xgn (G.2.2.2.2) W0_156)))) xcs_a
    refine xLs.set ?_ (xgn (by decide) (xgn (by decide) (xgn (G.2.2.1.2) W0_154))) xcs_a
    refine xLs.set ?_ (xgn (by decide) (xgn (G.2.1.1.2) W0_128)) xcs_o
    refine xLs.set ?_ (xgn (G.1.2.2.2) W0_194) xcs_a
    refine xLs.set ?_ (W0_reg (by omega)) xcs_o
    exact ⟨Nat.le_trans (Nat.le_of_eq W0_len) (by decide), Nat.le_trans (Nat.le_of_eq W0_sz) (by decide)⟩
theorem r_26_0 {d : Nat} {w : xW} {g0 : Nat → Value} {a0 : Int32} (hw0 : w[17]? = some (Sum.inr (3, [Value.ref 18, Value.int 2]))) (hw1 : w[18]? = some (Sum.inl (0, 8, g0))) (hg2 : g0 (1 : Int32).toInt.toNat = Value.int 0) (hg3 : g0 (0 : Int32).toInt.toNat = Value.int a0) (e4 : a0.toInt ≠ 0) : xRun d 26 [Value.ref 17] w (.inl none) (w.set 17 (Sum.inr (3, [Value.ref 18, Value.int 1]))) := by
  refine xRun.of ?_
  refine i_26_0 (x := 17) rfl ?_
  refine i_26_1 (v := Value.int 2) hw0 rfl ?_
  refine i_26_4 (fun h => absurd h (by decide)) (fun _ => ?_)
  refine i_26_7 (x := 17) rfl ?_
  refine i_26_8 (v := Value.ref 18) hw0 rfl ?_
  refine i_26_11 (x := 17) rfl ?_
  refine i_26_12 (v := Value.int 2) hw0 rfl ?_
  refine i_26_15 ?_
  refine i_26_16 (c := 1) (by decide) ?_
  refine i_26_17 (v := Value.int 0) hw1 (by decide) (by decide) hg2 ?_
  refine i_26_18 (fun h => absurd h (by decide)) (fun _ => ?_)
  refine i_26_21 (x := 17) rfl ?_
  refine i_26_22 rfl ?_
  refine i_26_23 (v := Value.int 2) hw0 rfl ?_
  refine i_26_26 ?_
  refine i_26_27 (c := 1) (by decide) ?_
  refine i_26_28 (fs2 := [Value.ref 18, Value.int 1]) hw0 (Nat.le_of_ble_eq_true rfl) rfl (by decide) ?_
  refine i_26_31 ?_
  refine i_26_0 (x := 17) rfl ?_
  refine i_26_1 (v := Value.int 1) (xgs hw0) rfl ?_
  refine i_26_4 (fun h => absurd h (by decide)) (fun _ => ?_)
  refine i_26_7 (x := 17) rfl ?_
  refine i_26_8 (v := Value.ref 18) (xgs hw0) rfl ?_
  refine i_26_11 (x := 17) rfl ?_
  refine i_26_12 (v := Value.int 1) (xgs hw0) rfl ?_
  refine i_26_15 ?_
  refine i_26_16 (c := 0) (by decide) ?_
  refine i_26_17 (v := Value.int a0) (xgn (by decide) hw1) (by decide) (by decide) hg3 ?_
  refine i_26_18 (fun _ => ?_) (fun h => absurd e4 (fun g => g h))
  exact i_26_34 ⟨rfl, rfl⟩
theorem r_25_0 {d : Nat} {w : xW} {b0 : Int64} (hw0 : w[17]? = some (Sum.inr (3, [Value.ref 18, Value.int 0]))) (hw1 : w[18]? = some (Sum.inl (0, 8, fun _ => Value.int 0))) (hg2 : (xhi b0) = 0) (e3 : (xlo b0).toInt ≠ 0) : xRun (d + 1) 25 [Value.ref 17, Value.long b0] w (.inl none) (((w.set 18 (Sum.inl (0, 8, xup (xup (fun _ => Value.int 0) (0 : Int32).toInt.toNat (Value.int (xlo b0))) (1 : Int32).toInt.toNat (Value.int 0)))).set 17 (Sum.inr (3, [Value.ref 18, Value.int 2]))).set 17 (Sum.inr (3, [Value.ref 18, Value.int 1]))) := by
  refine xRun.of ?_
  refine i_25_0 (x := 17) rfl ?_
  refine i_25_1 (v := Value.ref 18) hw0 rfl ?_
  refine i_25_4 ?_
  refine i_25_5 (x := b0) rfl ?_
  refine i_25_6 (c := (xlo b0)) rfl ?_
  refine i_25_7 (v := Value.int (xlo b0)) hw1 (by decide) (by decide) (by decide) rfl ?_
  refine i_25_8 (x := 17) rfl ?_
  refine i_25_9 (v := Value.ref 18) (xgn (by decide) hw0) rfl ?_
  refine i_25_12 ?_
  refine i_25_13 (x := b0) rfl ?_
  refine i_25_14 ?_
  refine i_25_16 (c := (xsr b0 32)) rfl ?_
  refine i_25_17 (c := 0) hg2 ?_
  refine i_25_18 (v := Value.int 0) (xgs hw1) (by decide) (by decide) (by decide) rfl ?_
  refine xEv.world (List.set_set _) ?_
  refine i_25_19 (x := 17) rfl ?_
  refine i_25_20 ?_
  refine i_25_21 (fs2 := [Value.ref 18, Value.int 2]) (xgn (by decide) hw0) (Nat.le_of_ble_eq_true rfl) rfl (by decide) ?_
  refine i_25_24 (x := 17) rfl ?_
  refine i_25_25 (xgs (xgn (by decide) hw0)) (Nat.le_of_ble_eq_true rfl) (r_26_0 (xgs (xgn (by decide) hw0)) (xgn (by decide) (xgs hw1)) xup_s (xup_n (by decide) xup_s) e3) ?_
  exact i_25_28 ⟨rfl, rfl⟩
theorem r_24_0 {d : Nat} {w : xW} {b0 : Int64} (hw0 : w[16]? = some (Sum.inr (4, [Value.int 0, Value.ref 17, Value.int 0, Value.int 0]))) (hw1 : w[17]? = some (Sum.inr (3, [Value.ref 18, Value.int 0]))) (hw2 : w[18]? = some (Sum.inl (0, 8, fun _ => Value.int 0))) (hg3 : (xhi b0) = 0) (e4 : (xlo b0).toInt ≠ 0) : xRun (d + 2) 24 [Value.ref 16, Value.int 1, Value.long b0, Value.int (-1074)] w (.inl none) (((((w.set 16 (Sum.inr (4, [Value.int 1, Value.ref 17, Value.int 0, Value.int 0]))).set 18 (Sum.inl (0, 8, xup (xup (fun _ => Value.int 0) (0 : Int32).toInt.toNat (Value.int (xlo b0))) (1 : Int32).toInt.toNat (Value.int 0)))).set 17 (Sum.inr (3, [Value.ref 18, Value.int 2]))).set 17 (Sum.inr (3, [Value.ref 18, Value.int 1]))).set 16 (Sum.inr (4, [Value.int 1, Value.ref 17, Value.int (-1074), Value.int 0]))) := by
  refine xRun.of ?_
  refine i_24_0 (x := 16) rfl ?_
  refine i_24_1 (x := 1) rfl ?_
  refine i_24_2 (fs2 := [Value.int 1, Value.ref 17, Value.int 0, Value.int 0]) hw0 rfl (Nat.le_of_ble_eq_true rfl) rfl (by decide) ?_
  refine i_24_5 (x := 16) rfl ?_
  refine i_24_6 (v := Value.ref 17) (xgs hw0) rfl ?_
  refine i_24_9 (x := b0) rfl ?_
  refine i_24_10 (xgn (by decide) hw1) (Nat.le_of_ble_eq_true rfl) (r_25_0 (xgn (by decide) hw1) (xgn (by decide) hw2) hg3 e4) ?_
  refine i_24_13 (x := 16) rfl ?_
  refine i_24_14 (x := (-1074)) rfl ?_
  refine i_24_16 (fs2 := [Value.int 1, Value.ref 17, Value.int (-1074), Value.int 0]) (xgn (by decide) (xgn (by decide) (xgn (by decide) (xgs hw0)))) (Nat.le_of_ble_eq_true rfl) rfl (by decide) ?_
  refine i_24_19 (x := 16) rfl ?_
  refine i_24_20 ?_
  refine i_24_21 (fs2 := [Value.int 1, Value.ref 17, Value.int (-1074), Value.int 0]) (xgs (xgn (by decide) (xgn (by decide) (xgn (by decide) (xgs hw0))))) rfl (Nat.le_of_ble_eq_true rfl) rfl (by decide) ?_
  refine xEv.world (List.set_set _) ?_
  exact i_24_24 ⟨rfl, rfl⟩
theorem r_29_0 {d : Nat} {w : xW} {g0 : Nat → Value} {a0 : Int32} {a1 : Int32} (hw0 : w[17]? = some (Sum.inr (3, [Value.ref 18, Value.int 1]))) (hw1 : w[18]? = some (Sum.inl (0, 8, g0))) (hg2 : g0 (0 : Int32).toInt.toNat = Value.int a0) (hg3 : ((32 : Int32) - (xnlz a0)) = a1) : xRun (d + 1) 29 [Value.ref 17] w (.inl (some (Value.int a1))) w := by
  refine xRun.of ?_
  refine i_29_0 (x := 17) rfl ?_
  refine i_29_1 (v := Value.int 1) hw0 rfl ?_
  refine i_29_4 (fun _ => ?_) (fun h => absurd h (by decide))
  refine i_29_11 ?_
  refine i_29_13 (x := 17) rfl ?_
  refine i_29_14 (v := Value.int 1) hw0 rfl ?_
  refine i_29_17 (c := 32) (by decide) ?_
  refine i_29_18 (x := 17) rfl ?_
  refine i_29_19 (v := Value.ref 18) hw0 rfl ?_
  refine i_29_22 (x := 17) rfl ?_
  refine i_29_23 (v := Value.int 1) hw0 rfl ?_
  refine i_29_26 ?_
  refine i_29_27 (c := 0) (by decide) ?_
  refine i_29_28 (v := Value.int a0) hw1 (by decide) (by decide) hg2 ?_
  refine i_29_29 (Nat.le_of_ble_eq_true rfl) nlz_run ?_
  refine i_29_32 (c := a1) hg3 ?_
  exact i_29_33 ⟨rfl, rfl⟩
theorem r_28_0 {d : Nat} {w : xW} {g0 : Nat → Value} {a0 : Int32} {a1 : Int32} (hw0 : w[16]? = some (Sum.inr (4, [Value.int 1, Value.ref 17, Value.int (-1074), Value.int 0]))) (hw1 : w[17]? = some (Sum.inr (3, [Value.ref 18, Value.int 1]))) (hw2 : w[18]? = some (Sum.inl (0, 8, g0))) (hg3 : g0 (0 : Int32).toInt.toNat = Value.int a0) (hg4 : ((32 : Int32) - (xnlz a0)) = a1) : xRun (d + 2) 28 [Value.ref 16] w (.inl (some (Value.int (a1 + ((-1074) : Int32))))) w := by
  refine xRun.of ?_
  refine i_28_0 (x := 16) rfl ?_
  refine i_28_1 (v := Value.ref 17) hw0 rfl ?_
  refine i_28_4 hw1 (Nat.le_of_ble_eq_true rfl) (r_29_0 hw1 hw2 hg3 hg4) ?_
  refine i_28_7 (x := 16) rfl ?_
  refine i_28_8 (v := Value.int (-1074)) hw0 rfl ?_
  refine i_28_11 (c := (a1 + ((-1074) : Int32))) rfl ?_
  exact i_28_12 ⟨rfl, rfl⟩
theorem r_30_0 {d : Nat} {w : xW} {a0 : Int32} (hw0 : w[78]? = some (Sum.inr (1, [Value.int (-16384), Value.int 16384, Value.int 0, Value.int 0]))) : xRun d 30 [Value.ref 78, Value.int a0, Value.int 64] w (.inl (some (Value.int (a0 - (64 : Int32))))) w := by
  refine xRun.of ?_
  refine i_30_0 (x := 78) rfl ?_
  refine i_30_1 (v := Value.int 0) hw0 rfl ?_
  refine i_30_4 (fun _ => ?_) (fun h => absurd h (by decide))
  refine i_30_24 (x := a0) rfl ?_
  refine i_30_25 (x := 64) rfl ?_
  refine i_30_26 (c := (a0 - (64 : Int32))) rfl ?_
  exact i_30_27 ⟨rfl, rfl⟩
theorem r_33_0 {d : Nat} {w : xW} {a0 : Int32} (e0 : a0.toInt ≤ 0) : xRun d 33 [Value.ref 17, Value.int a0] w (.inl (some (Value.int 0))) w := by
  refine xRun.of ?_
  refine i_33_0 (x := a0) rfl ?_
  refine i_33_1 (fun h => absurd e0 (Int.not_le.mpr h)) (fun _ => ?_)
  refine i_33_4 ?_
  exact i_33_5 rfl ⟨rfl, rfl⟩
theorem r_32_0 {d : Nat} {w : xW} {a0 : Int32} (hw0 : w[16]? = some (Sum.inr (4, [Value.int 1, Value.ref 17, Value.int (-1074), Value.int 0]))) (hw1 : w[17]? = some (Sum.inr (3, [Value.ref 18, Value.int 1]))) (e2 : (a0 - ((-1074) : Int32)).toInt ≤ 0) : xRun (d + 1) 32 [Value.ref 16, Value.int a0] w (.inl (some (Value.int 1))) w := by
  refine xRun.of ?_
  refine i_32_0 (x := 16) rfl ?_
  refine i_32_1 (v := Value.int 0) hw0 rfl ?_
  refine i_32_4 (fun h => absurd h (by decide)) (fun _ => ?_)
  refine i_32_7 (x := 16) rfl ?_
  refine i_32_8 (v := Value.ref 17) hw0 rfl ?_
  refine i_32_11 (x := a0) rfl ?_
  refine i_32_12 (x := 16) rfl ?_
  refine i_32_13 (v := Value.int (-1074)) hw0 rfl ?_
  refine i_32_16 (c := (a0 - ((-1074) : Int32))) rfl ?_
  refine i_32_17 hw1 (Nat.le_of_ble_eq_true rfl) (r_33_0 e2) ?_
  refine i_32_20 (fun h => absurd h (by decide)) (fun _ => ?_)
  refine i_32_23 ?_
  refine i_32_24 ?_
  exact i_32_28 rfl ⟨rfl, rfl⟩
theorem r_31_0 {d : Nat} {w : xW} {a0 : Int32} {a1 : Int32} (hw0 : w[16]? = some (Sum.inr (4, [Value.int 1, Value.ref 17, Value.int (-1074), Value.int 0]))) (hw1 : w[17]? = some (Sum.inr (3, [Value.ref 18, Value.int 1]))) (e2 : (a0 - ((-1074) : Int32)).toInt ≤ 0) : xRun (d + 2) 31 [Value.ref 16, Value.int a0, Value.int a1] w (.inl (some (Value.int 0))) w := by
  refine xRun.of ?_
  refine i_31_0 (x := 16) rfl ?_
  refine i_31_1 (x := a0) rfl ?_
  refine i_31_2 hw0 (Nat.le_of_ble_eq_true rfl) (r_32_0 hw0 hw1 e2) ?_
  refine i_31_5 (fun h => absurd h (by decide)) (fun _ => ?_)
  refine i_31_8 ?_
  exact i_31_9 rfl ⟨rfl, rfl⟩
theorem r_273_0 {d : Nat} {w : xW} : xRun d 273 [Value.int 0, Value.int 2] w (.inl (some (Value.int 2))) w := by
  refine xRun.of ?_
  refine i_273_0 (x := 0) rfl ?_
  refine i_273_1 (x := 2) rfl ?_
  refine i_273_2 (fun _ => ?_) (fun h => absurd h (by decide))
  refine i_273_9 (x := 2) rfl ?_
  exact i_273_10 ⟨rfl, rfl⟩
theorem r_41_0 {d : Nat} {w : xW} {h0 : Nat} {h1 : Nat} (hw0 : w[h0]? = some (Sum.inr (3, [Value.ref h1, Value.int 0]))) (hw1 : w[h1]? = some (Sum.inl (0, 8, fun _ => Value.int 0))) : xRun d 41 [Value.ref h0, Value.int 2] w (.inl none) w := by
  refine xRun.of ?_
  refine i_41_0 (x := h0) rfl ?_
  refine i_41_1 (v := Value.ref h1) hw0 rfl ?_
  refine i_41_4 (c := 8) hw1 (by decide) ?_
  refine i_41_5 (x := 2) rfl ?_
  refine i_41_6 (fun _ => ?_) (fun h => absurd h (by decide))
  exact i_41_31 ⟨rfl, rfl⟩
theorem r_42_0 {d : Nat} {w : xW} {h0 : Nat} {a0 : Int32} {g0 : Nat → Value} {a1 : Int32} {a2 : Int32} {h1 : Nat} (hw0 : w[17]? = some (Sum.inr (3, [Value.ref 18, Value.int 1]))) (hw1 : w[18]? = some (Sum.inl (0, 8, g0))) (hg2 : g0 (0 : Int32).toInt.toNat = Value.int a1) (hg3 : ((32 : Int32) - (xnlz a1)) = a2) (hg4 : (a2 + a0) = 64) (hw5 : w[h0]? = some (Sum.inr (3, [Value.ref h1, Value.int 0]))) (hw6 : w[h1]? = some (Sum.inl (0, 8, fun _ => Value.int 0))) (e7 : 0 ≤ a0.toInt) (hg8 : g0 (1 : Int32).toInt.toNat = Value.int 0) (e9 : 7 ≤ h1) (e10 : h1 ≠ h0) (e11 : h1 ≠ 17) (e12 : h1 ≠ 18) (e13 : 7 ≤ h0) : xRun (d + 2) 42 [Value.ref h0, Value.ref 17, Value.int a0] w (.inl none) ((w.set h1 (Sum.inl (0, 8, xup (xup (fun _ => Value.int 0) (1 : Int32).toInt.toNat (Value.int (xbf 1 a1 (0 : Int32) ((32 : Int32) - a0)))) (0 : Int32).toInt.toNat (Value.int (xbf 1 a1 (0 : Int32) ((0 : Int32) - a0)))))).set h0 (Sum.inr (3, [Value.ref h1, Value.int 2]))) := by
  refine xRun.of ?_
  refine i_42_0 (x := 17) rfl ?_
  refine i_42_1 (v := Value.int 1) hw0 rfl ?_
  refine i_42_4 (fun _ => ?_) (fun h => absurd h (by decide))
  refine i_42_11 ?_
  refine i_42_12 (x := 17) rfl ?_
  refine i_42_13 hw0 (Nat.le_of_ble_eq_true rfl) (r_29_0 hw0 hw1 hg2 hg3) ?_
  refine i_42_16 (x := a0) rfl ?_
  refine i_42_17 (c := 64) hg4 ?_
  refine i_42_18 ?_
  refine i_42_20 (c := 95) (by decide) ?_
  refine i_42_21 ?_
  refine i_42_22 (c := 2) (by decide) ?_
  refine i_42_23 (Nat.le_of_ble_eq_true rfl) (r_273_0) ?_
  refine i_42_26 (lv2 := [(3, Value.int 2), (0, Value.ref h0), (1, Value.ref 17), (2, Value.int a0)]) rfl ?_
  refine i_42_27 (x := h0) rfl ?_
  refine i_42_28 (x := 2) rfl ?_
  refine i_42_29 hw5 (Nat.le_of_ble_eq_true rfl) (r_41_0 hw5 hw6) ?_
  refine i_42_32 (x := a0) rfl ?_
  refine i_42_33 (fun h => absurd e7 (Int.not_le.mpr h)) (fun _ => ?_)
  refine i_42_36 (x := 2) rfl ?_
  refine i_42_37 ?_
  refine i_42_38 (c := 1) (by decide) ?_
  refine i_42_39 (lv2 := [(4, Value.int 1), (3, Value.int 2), (0, Value.ref h0), (1, Value.ref 17), (2, Value.int a0)]) rfl ?_
  refine i_42_41 (x := 1) rfl ?_
  refine i_42_43 (fun h => absurd h (by decide)) (fun _ => ?_)
  refine i_42_46 (x := h0) rfl ?_
  refine i_42_47 (v := Value.ref h1) hw5 rfl ?_
  refine i_42_50 (x := 1) rfl ?_
  refine i_42_52 (x := 17) rfl ?_
  refine i_42_53 ?_
  refine i_42_55 (x := 1) rfl ?_
  refine i_42_57 (c := 32) (by decide) ?_
  refine i_42_58 (x := a0) rfl ?_
  refine i_42_59 (c := ((32 : Int32) - a0)) rfl ?_
  refine i_42_60 hw0 (Nat.le_of_ble_eq_true rfl) (bf_run1 hw0 hw1 hg2 hg8) ?_
  refine i_42_63 (v := Value.int (xbf 1 a1 (0 : Int32) ((32 : Int32) - a0))) hw6 (by decide) (by decide) e9 rfl ?_
  refine i_42_64 (x := 1) (c := 0) (lv2 := [(4, Value.int 0), (3, Value.int 2), (0, Value.ref h0), (1, Value.ref 17), (2, Value.int a0)]) rfl (by decide) rfl ?_
  refine i_42_67 ?_
  refine i_42_41 (x := 0) rfl ?_
  refine i_42_43 (fun h => absurd h (by decide)) (fun _ => ?_)
  refine i_42_46 (x := h0) rfl ?_
  refine i_42_47 (v := Value.ref h1) (xgn e10 hw5) rfl ?_
  refine i_42_50 (x := 0) rfl ?_
  refine i_42_52 (x := 17) rfl ?_
  refine i_42_53 ?_
  refine i_42_55 (x := 0) rfl ?_
  refine i_42_57 (c := 0) (by decide) ?_
  refine i_42_58 (x := a0) rfl ?_
  refine i_42_59 (c := ((0 : Int32) - a0)) rfl ?_
  refine i_42_60 (xgn e11 hw0) (Nat.le_of_ble_eq_true rfl) (bf_run1 (xgn e11 hw0) (xgn e12 hw1) hg2 hg8) ?_
  refine i_42_63 (v := Value.int (xbf 1 a1 (0 : Int32) ((0 : Int32) - a0))) (xgs hw6) (by decide) (by decide) e9 rfl ?_
  refine xEv.world (List.set_set _) ?_
  refine i_42_64 (x := 0) (c := (-1)) (lv2 := [(4, Value.int (-1)), (3, Value.int 2), (0, Value.ref h0), (1, Value.ref 17), (2, Value.int a0)]) rfl (by decide) rfl ?_
  refine i_42_67 ?_
  refine i_42_41 (x := (-1)) rfl ?_
  refine i_42_43 (fun _ => ?_) (fun h => absurd h (by decide))
  refine i_42_70 ?_
  refine i_42_106 (x := h0) rfl ?_
  refine i_42_107 (x := 2) rfl ?_
  refine i_42_108 (fs2 := [Value.ref h1, Value.int 2]) (xgn e10 hw5) (Nat.le_of_ble_eq_true rfl) rfl e13 ?_
  exact i_42_111 ⟨rfl, rfl⟩
theorem r_272_0 {d : Nat} {w : xW} : xRun d 272 [Value.int 0, Value.int 2] w (.inl (some (Value.int 0))) w := by
  refine xRun.of ?_
  refine i_272_0 (x := 0) rfl ?_
  refine i_272_1 (x := 2) rfl ?_
  refine i_272_2 (fun h => absurd h (by decide)) (fun _ => ?_)
  refine i_272_5 (x := 0) rfl ?_
  refine i_272_6 ?_
  exact i_272_10 ⟨rfl, rfl⟩
theorem r_26_1 {d : Nat} {w : xW} {h0 : Nat} {h1 : Nat} {g0 : Nat → Value} {a0 : Int32} (hw0 : w[h0]? = some (Sum.inr (3, [Value.ref h1, Value.int 2]))) (hw1 : w[h1]? = some (Sum.inl (0, 8, g0))) (hg2 : g0 (1 : Int32).toInt.toNat = Value.int a0) (e3 : a0.toInt ≠ 0) : xRun d 26 [Value.ref h0] w (.inl none) w := by
  refine xRun.of ?_
  refine i_26_0 (x := h0) rfl ?_
  refine i_26_1 (v := Value.int 2) hw0 rfl ?_
  refine i_26_4 (fun h => absurd h (by decide)) (fun _ => ?_)
  refine i_26_7 (x := h0) rfl ?_
  refine i_26_8 (v := Value.ref h1) hw0 rfl ?_
  refine i_26_11 (x := h0) rfl ?_
  refine i_26_12 (v := Value.int 2) hw0 rfl ?_
  refine i_26_15 ?_
  refine i_26_16 (c := 1) (by decide) ?_
  refine i_26_17 (v := Value.int a0) hw1 (by decide) (by decide) hg2 ?_
  refine i_26_18 (fun _ => ?_) (fun h => absurd e3 (fun g => g h))
  exact i_26_34 ⟨rfl, rfl⟩
theorem r_43_0 {d : Nat} {w : xW} {h0 : Nat} {h1 : Nat} {g0 : Nat → Value} {a0 : Int32} (hw0 : w[h0]? = some (Sum.inr (3, [Value.ref h1, Value.int 2]))) (hw1 : w[h1]? = some (Sum.inl (0, 8, g0))) (hg2 : g0 (1 : Int32).toInt.toNat = Value.int a0) (e3 : a0.toInt ≠ 0) : xRun (d + 1) 43 [Value.ref h0, Value.int 0] w (.inl none) w := by
  refine xRun.of ?_
  refine i_43_0 (x := 0) rfl ?_
  refine i_43_1 ?_
  refine i_43_2 (c := 0) (by decide) ?_
  refine i_43_3 (x := h0) rfl ?_
  refine i_43_4 (v := Value.int 2) hw0 rfl ?_
  refine i_43_7 (Nat.le_of_ble_eq_true rfl) (r_272_0) ?_
  refine i_43_10 (lv2 := [(2, Value.int 0), (0, Value.ref h0), (1, Value.int 0)]) rfl ?_
  refine i_43_11 ?_
  refine i_43_12 (lv2 := [(3, Value.int 0), (2, Value.int 0), (0, Value.ref h0), (1, Value.int 0)]) rfl ?_
  refine i_43_13 (x := 0) rfl ?_
  refine i_43_14 (x := 0) rfl ?_
  refine i_43_15 (fun _ => ?_) (fun h => absurd h (by decide))
  refine i_43_31 (x := 0) rfl ?_
  refine i_43_32 (x := h0) rfl ?_
  refine i_43_33 (v := Value.int 2) hw0 rfl ?_
  refine i_43_36 (fun h => absurd h (by decide)) (fun _ => ?_)
  refine i_43_39 (x := 0) rfl ?_
  refine i_43_40 ?_
  refine i_43_42 (c := 0) (by decide) ?_
  refine i_43_43 (fun _ => ?_) (fun h => absurd h (by decide))
  refine i_43_61 (x := h0) rfl ?_
  refine i_43_62 hw0 (Nat.le_of_ble_eq_true rfl) (r_26_1 hw0 hw1 hg2 e3) ?_
  exact i_43_65 ⟨rfl, rfl⟩
theorem r_29_1 {d : Nat} {w : xW} {h0 : Nat} {h1 : Nat} {g0 : Nat → Value} {a0 : Int32} (hw0 : w[h0]? = some (Sum.inr (3, [Value.ref h1, Value.int 2]))) (hw1 : w[h1]? = some (Sum.inl (0, 8, g0))) (hg2 : g0 (1 : Int32).toInt.toNat = Value.int a0) : xRun (d + 1) 29 [Value.ref h0] w (.inl (some (Value.int ((64 : Int32) - (xnlz a0))))) w := by
  refine xRun.of ?_
  refine i_29_0 (x := h0) rfl ?_
  refine i_29_1 (v := Value.int 2) hw0 rfl ?_
  refine i_29_4 (fun _ => ?_) (fun h => absurd h (by decide))
  refine i_29_11 ?_
  refine i_29_13 (x := h0) rfl ?_
  refine i_29_14 (v := Value.int 2) hw0 rfl ?_
  refine i_29_17 (c := 64) (by decide) ?_
  refine i_29_18 (x := h0) rfl ?_
  refine i_29_19 (v := Value.ref h1) hw0 rfl ?_
  refine i_29_22 (x := h0) rfl ?_
  refine i_29_23 (v := Value.int 2) hw0 rfl ?_
  refine i_29_26 ?_
  refine i_29_27 (c := 1) (by decide) ?_
  refine i_29_28 (v := Value.int a0) hw1 (by decide) (by decide) hg2 ?_
  refine i_29_29 (Nat.le_of_ble_eq_true rfl) nlz_run ?_
  refine i_29_32 (c := ((64 : Int32) - (xnlz a0))) rfl ?_
  exact i_29_33 ⟨rfl, rfl⟩
theorem r_38_0 {d : Nat} {w : xW} {h0 : Nat} {a0 : Int32} {g0 : Nat → Value} {a1 : Int32} {a2 : Int32} {h1 : Nat} {a3 : Int32} {h2 : Nat} (hw0 : w[16]? = some (Sum.inr (4, [Value.int 1, Value.ref 17, Value.int (-1074), Value.int 0]))) (hw1 : w[17]? = some (Sum.inr (3, [Value.ref 18, Value.int 1]))) (hw2 : w[18]? = some (Sum.inl (0, 8, g0))) (hg3 : g0 (0 : Int32).toInt.toNat = Value.int a1) (hg4 : ((32 : Int32) - (xnlz a1)) = a2) (hg5 : ((a2 + ((-1074) : Int32)) - a0) = 64) (hw6 : w[h0]? = some (Sum.inr (2, [Value.int 64, Value.int 0, Value.int 0, Value.int 0, Value.ref h1]))) (e7 : 7 ≤ h0) (e8 : h0 ≠ 16) (e9 : h0 ≠ 17) (e10 : h0 ≠ 18) (hg11 : ((64 : Int32) - a2) = a3) (e12 : h0 ≠ h1) (hw13 : w[h1]? = some (Sum.inr (3, [Value.ref h2, Value.int 0]))) (hg14 : (a2 + a3) = 64) (e15 : h0 ≠ h2) (hw16 : w[h2]? = some (Sum.inl (0, 8, fun _ => Value.int 0))) (e17 : 0 ≤ a3.toInt) (hg18 : g0 (1 : Int32).toInt.toNat = Value.int 0) (e19 : 7 ≤ h2) (e20 : h2 ≠ h1) (e21 : h2 ≠ 17) (e22 : h2 ≠ 18) (e23 : 7 ≤ h1) (e24 : h1 ≠ h0) (e25 : h2 ≠ h0) (e26 : h1 ≠ h2) (e27 : (xbf 1 a1 (0 : Int32) ((32 : Int32) - a3)).toInt ≠ 0) (e28 : ((64 : Int32) - (xnlz (xbf 1 a1 (0 : Int32) ((32 : Int32) - a3)))).toInt ≤ 64) : xRun (d + 3) 38 [Value.ref h0, Value.ref 16, Value.int a0, Value.int 0] w (.inl none) (((w.set h0 (Sum.inr (2, [Value.int 64, Value.int 3, Value.int 1, Value.int (a2 + ((-1074) : Int32)), Value.ref h1]))).set h2 (Sum.inl (0, 8, xup (xup (fun _ => Value.int 0) (1 : Int32).toInt.toNat (Value.int (xbf 1 a1 (0 : Int32) ((32 : Int32) - a3)))) (0 : Int32).toInt.toNat (Value.int (xbf 1 a1 (0 : Int32) ((0 : Int32) - a3)))))).set h1 (Sum.inr (3, [Value.ref h2, Value.int 2]))) := by
  refine xRun.of ?_
  refine i_38_0 (x := 16) rfl ?_
  refine i_38_1 hw0 (Nat.le_of_ble_eq_true rfl) (r_28_0 hw0 hw1 hw2 hg3 hg4) ?_
  refine i_38_4 (lv2 := [(4, Value.int (a2 + ((-1074) : Int32))), (0, Value.ref h0), (1, Value.ref 16), (2, Value.int a0), (3, Value.int 0)]) rfl ?_
  refine i_38_6 (x := (a2 + ((-1074) : Int32))) rfl ?_
  refine i_38_8 (x := a0) rfl ?_
  refine i_38_9 (c := 64) hg5 ?_
  refine i_38_10 (lv2 := [(5, Value.int 64), (4, Value.int (a2 + ((-1074) : Int32))), (0, Value.ref h0), (1, Value.ref 16), (2, Value.int a0), (3, Value.int 0)]) rfl ?_
  refine i_38_12 (x := 64) rfl ?_
  refine i_38_14 (fun _ => ?_) (fun h => absurd h (by decide))
  refine i_38_31 (x := 64) rfl ?_
  refine i_38_33 (fun _ => ?_) (fun h => absurd h (by decide))
  refine i_38_48 (x := h0) rfl ?_
  refine i_38_49 ?_
  refine i_38_50 (fs2 := [Value.int 64, Value.int 3, Value.int 0, Value.int 0, Value.ref h1]) hw6 (Nat.le_of_ble_eq_true rfl) rfl e7 ?_
  refine i_38_53 (x := h0) rfl ?_
  refine i_38_54 (x := 16) rfl ?_
  refine i_38_55 (v := Value.int 1) (xgn e8 hw0) rfl ?_
  refine i_38_58 (fs2 := [Value.int 64, Value.int 3, Value.int 1, Value.int 0, Value.ref h1]) (xgs hw6) rfl (Nat.le_of_ble_eq_true rfl) rfl e7 ?_
  refine xEv.world (List.set_set _) ?_
  refine i_38_61 (x := h0) rfl ?_
  refine i_38_62 (x := (a2 + ((-1074) : Int32))) rfl ?_
  refine i_38_64 (fs2 := [Value.int 64, Value.int 3, Value.int 1, Value.int (a2 + ((-1074) : Int32)), Value.ref h1]) (xgs hw6) (Nat.le_of_ble_eq_true rfl) rfl e7 ?_
  refine xEv.world (List.set_set _) ?_
  refine i_38_67 (x := h0) rfl ?_
  refine i_38_68 (v := Value.ref h1) (xgs hw6) rfl ?_
  refine i_38_71 (x := 16) rfl ?_
  refine i_38_72 (v := Value.ref 17) (xgn e8 hw0) rfl ?_
  refine i_38_75 (x := h0) rfl ?_
  refine i_38_76 (v := Value.int 64) (xgs hw6) rfl ?_
  refine i_38_79 (x := 16) rfl ?_
  refine i_38_80 (v := Value.ref 17) (xgn e8 hw0) rfl ?_
  refine i_38_83 (xgn e9 hw1) (Nat.le_of_ble_eq_true rfl) (r_29_0 (xgn e9 hw1) (xgn e10 hw2) hg3 hg4) ?_
  refine i_38_86 (c := a3) hg11 ?_
  refine i_38_87 (xgn e12 hw13) (Nat.le_of_ble_eq_true rfl) (r_42_0 (xgn e9 hw1) (xgn e10 hw2) hg3 hg4 hg14 (xgn e12 hw13) (xgn e15 hw16) e17 hg18 e19 e20 e21 e22 e23) ?_
  refine i_38_90 (x := h0) rfl ?_
  refine i_38_91 (v := Value.ref h1) (xgn e24 (xgn e25 (xgs hw6))) rfl ?_
  refine i_38_94 (x := h0) rfl ?_
  refine i_38_95 (v := Value.int 64) (xgn e24 (xgn e25 (xgs hw6))) rfl ?_
  refine i_38_98 (x := 64) rfl ?_
  refine i_38_100 (c := 0) (by decide) ?_
  refine i_38_101 (xgs (xgn e20 (xgn e12 hw13))) (Nat.le_of_ble_eq_true rfl) (r_43_0 (xgs (xgn e20 (xgn e12 hw13))) (xgn e26 (xgs (xgn e15 hw16))) (xup_n (by decide) xup_s) e27) ?_
  refine i_38_104 (x := 0) rfl ?_
  refine i_38_105 (fun _ => ?_) (fun h => absurd h (by decide))
  refine i_38_122 (x := h0) rfl ?_
  refine i_38_123 (v := Value.ref h1) (xgn e24 (xgn e25 (xgs hw6))) rfl ?_
  refine i_38_126 (xgs (xgn e20 (xgn e12 hw13))) (Nat.le_of_ble_eq_true rfl) (r_29_1 (xgs (xgn e20 (xgn e12 hw13))) (xgn e26 (xgs (xgn e15 hw16))) (xup_n (by decide) xup_s)) ?_
  refine i_38_129 (x := h0) rfl ?_
  refine i_38_130 (v := Value.int 64) (xgn e24 (xgn e25 (xgs hw6))) rfl ?_
  refine i_38_133 (fun _ => ?_) (fun h => absurd e28 (Int.not_le.mpr h))
  exact i_38_148 ⟨rfl, rfl⟩
theorem r_27_0 {d : Nat} {w : xW} {h0 : Nat} {a0 : Int32} {g0 : Nat → Value} {a1 : Int32} {a2 : Int32} {h1 : Nat} {a3 : Int32} {h2 : Nat} (hw0 : w[16]? = some (Sum.inr (4, [Value.int 1, Value.ref 17, Value.int (-1074), Value.int 0]))) (hw1 : w[17]? = some (Sum.inr (3, [Value.ref 18, Value.int 1]))) (hw2 : w[18]? = some (Sum.inl (0, 8, g0))) (hg3 : g0 (0 : Int32).toInt.toNat = Value.int a1) (hg4 : ((32 : Int32) - (xnlz a1)) = a2) (hw5 : w[h0]? = some (Sum.inr (2, [Value.int 64, Value.int 0, Value.int 0, Value.int 0, Value.ref h1]))) (hw6 : w[78]? = some (Sum.inr (1, [Value.int (-16384), Value.int 16384, Value.int 0, Value.int 0]))) (e7 : (((a2 + ((-1074) : Int32)) - (64 : Int32)) - ((-1074) : Int32)).toInt ≤ 0) (hg8 : ((a2 + ((-1074) : Int32)) - ((a2 + ((-1074) : Int32)) - (64 : Int32))) = 64) (e9 : 7 ≤ h0) (e10 : h0 ≠ 16) (e11 : h0 ≠ 17) (e12 : h0 ≠ 18) (hg13 : ((64 : Int32) - a2) = a3) (e14 : h0 ≠ h1) (hw15 : w[h1]? = some (Sum.inr (3, [Value.ref h2, Value.int 0]))) (hg16 : (a2 + a3) = 64) (e17 : h0 ≠ h2) (hw18 : w[h2]? = some (Sum.inl (0, 8, fun _ => Value.int 0))) (e19 : 0 ≤ a3.toInt) (hg20 : g0 (1 : Int32).toInt.toNat = Value.int 0) (e21 : 7 ≤ h2) (e22 : h2 ≠ h1) (e23 : h2 ≠ 17) (e24 : h2 ≠ 18) (e25 : 7 ≤ h1) (e26 : h1 ≠ h0) (e27 : h2 ≠ h0) (e28 : h1 ≠ h2) (e29 : (xbf 1 a1 (0 : Int32) ((32 : Int32) - a3)).toInt ≠ 0) (e30 : ((64 : Int32) - (xnlz (xbf 1 a1 (0 : Int32) ((32 : Int32) - a3)))).toInt ≤ 64) (e31 : h1 ≠ 78) (e32 : h2 ≠ 78) (e33 : h0 ≠ 78) (e34 : (a2 + ((-1074) : Int32)).toInt ≤ 16384) (e35 : (-16384) ≤ (a2 + ((-1074) : Int32)).toInt) (e36 : h1 ≠ 16) (e37 : h2 ≠ 16) : xRun (d + 4) 27 [Value.ref 78, Value.ref h0, Value.ref 16, Value.int a0] w (.inl (some (Value.int 0))) (((w.set h0 (Sum.inr (2, [Value.int 64, Value.int 3, Value.int 1, Value.int (a2 + ((-1074) : Int32)), Value.ref h1]))).set h2 (Sum.inl (0, 8, xup (xup (fun _ => Value.int 0) (1 : Int32).toInt.toNat (Value.int (xbf 1 a1 (0 : Int32) ((32 : Int32) - a3)))) (0 : Int32).toInt.toNat (Value.int (xbf 1 a1 (0 : Int32) ((0 : Int32) - a3)))))).set h1 (Sum.inr (3, [Value.ref h2, Value.int 2]))) := by
  refine xRun.of ?_
  refine i_27_0 (x := 16) rfl ?_
  refine i_27_1 hw0 (Nat.le_of_ble_eq_true rfl) (r_28_0 hw0 hw1 hw2 hg3 hg4) ?_
  refine i_27_4 (lv2 := [(4, Value.int (a2 + ((-1074) : Int32))), (0, Value.ref 78), (1, Value.ref h0), (2, Value.ref 16), (3, Value.int a0)]) rfl ?_
  refine i_27_6 (x := 78) rfl ?_
  refine i_27_7 (x := (a2 + ((-1074) : Int32))) rfl ?_
  refine i_27_9 (x := h0) rfl ?_
  refine i_27_10 (v := Value.int 64) hw5 rfl ?_
  refine i_27_13 hw6 (Nat.le_of_ble_eq_true rfl) (r_30_0 hw6) ?_
  refine i_27_16 (lv2 := [(5, Value.int ((a2 + ((-1074) : Int32)) - (64 : Int32))), (4, Value.int (a2 + ((-1074) : Int32))), (0, Value.ref 78), (1, Value.ref h0), (2, Value.ref 16), (3, Value.int a0)]) rfl ?_
  refine i_27_18 (x := 16) rfl ?_
  refine i_27_19 (x := ((a2 + ((-1074) : Int32)) - (64 : Int32))) rfl ?_
  refine i_27_21 (x := a0) rfl ?_
  refine i_27_22 hw0 (Nat.le_of_ble_eq_true rfl) (r_31_0 hw0 hw1 e7) ?_
  refine i_27_25 (lv2 := [(6, Value.int 0), (5, Value.int ((a2 + ((-1074) : Int32)) - (64 : Int32))), (4, Value.int (a2 + ((-1074) : Int32))), (0, Value.ref 78), (1, Value.ref h0), (2, Value.ref 16), (3, Value.int a0)]) rfl ?_
  refine i_27_27 (x := 16) rfl ?_
  refine i_27_28 (x := ((a2 + ((-1074) : Int32)) - (64 : Int32))) rfl ?_
  refine i_27_30 hw0 (Nat.le_of_ble_eq_true rfl) (r_32_0 hw0 hw1 e7) ?_
  refine i_27_33 (fun h => absurd h (by decide)) (fun _ => ?_)
  refine i_27_36 ?_
  refine i_27_37 ?_
  refine i_27_50 (lv2 := [(7, Value.int 0), (6, Value.int 0), (5, Value.int ((a2 + ((-1074) : Int32)) - (64 : Int32))), (4, Value.int (a2 + ((-1074) : Int32))), (0, Value.ref 78), (1, Value.ref h0), (2, Value.ref 16), (3, Value.int a0)]) rfl ?_
  refine i_27_52 (x := h0) rfl ?_
  refine i_27_53 (x := 16) rfl ?_
  refine i_27_54 (x := ((a2 + ((-1074) : Int32)) - (64 : Int32))) rfl ?_
  refine i_27_56 (x := 0) rfl ?_
  refine i_27_58 hw5 (Nat.le_of_ble_eq_true rfl) (r_38_0 hw0 hw1 hw2 hg3 hg4 hg8 hw5 e9 e10 e11 e12 hg13 e14 hw15 hg16 e17 hw18 e19 hg20 e21 e22 e23 e24 e25 e26 e27 e28 e29 e30) ?_
  refine i_27_61 (x := h0) rfl ?_
  refine i_27_62 (v := Value.int 3) (xgn e26 (xgn e27 (xgs hw5))) rfl ?_
  refine i_27_65 ?_
  refine i_27_66 (fun h => absurd h (by decide)) (fun _ => ?_)
  refine i_27_69 (x := h0) rfl ?_
  refine i_27_70 (v := Value.int (a2 + ((-1074) : Int32))) (xgn e26 (xgn e27 (xgs hw5))) rfl ?_
  refine i_27_73 (x := 78) rfl ?_
  refine i_27_74 (v := Value.int 16384) (xgn e31 (xgn e32 (xgn e33 hw6))) rfl ?_
  refine i_27_77 (fun _ => ?_) (fun h => absurd e34 (Int.not_le.mpr h))
  refine i_27_95 (x := h0) rfl ?_
  refine i_27_96 (v := Value.int 3) (xgn e26 (xgn e27 (xgs hw5))) rfl ?_
  refine i_27_99 ?_
  refine i_27_100 (fun h => absurd h (by decide)) (fun _ => ?_)
  refine i_27_103 (x := 78) rfl ?_
  refine i_27_104 (v := Value.int 0) (xgn e31 (xgn e32 (xgn e33 hw6))) rfl ?_
  refine i_27_107 (fun h => absurd h (by decide)) (fun _ => ?_)
  refine i_27_110 (x := h0) rfl ?_
  refine i_27_111 (v := Value.int (a2 + ((-1074) : Int32))) (xgn e26 (xgn e27 (xgs hw5))) rfl ?_
  refine i_27_114 (x := 78) rfl ?_
  refine i_27_115 (v := Value.int (-16384)) (xgn e31 (xgn e32 (xgn e33 hw6))) rfl ?_
  refine i_27_118 (fun _ => ?_) (fun h => absurd e35 (Int.not_le.mpr h))
  refine i_27_133 (x := 78) rfl ?_
  refine i_27_134 (v := Value.int 0) (xgn e31 (xgn e32 (xgn e33 hw6))) rfl ?_
  refine i_27_137 (fun _ => ?_) (fun h => absurd h (by decide))
  refine i_27_164 (x := 0) rfl ?_
  refine i_27_166 (fun _ => ?_) (fun h => absurd h (by decide))
  refine i_27_179 (x := 16) rfl ?_
  refine i_27_180 (v := Value.int 1) (xgn e36 (xgn e37 (xgn e10 hw0))) rfl ?_
  refine i_27_183 (fun h => absurd h (by decide)) (fun _ => ?_)
  refine i_27_186 (x := 0) rfl ?_
  refine i_27_188 (c := 0) (by decide) ?_
  refine i_27_189 ?_
  exact i_27_194 ⟨rfl, rfl⟩
theorem r_128_6 {d : Nat} {w : xW} {a0 : Int32} {b0 : Int64} {a1 : Int32} {g0 : Nat → Value} {h0 : Nat} {a2 : Int32} {h1 : Nat} {a3 : Int32} {h2 : Nat} (e0 : 0 ≤ a0.toInt) (e1 : a0.toInt < 16) (e2 : 0 ≤ a1.toInt) (e3 : a1.toInt ≤ 4) (hw4 : w[7]? = some (Sum.inr (0, [Value.ref 8, Value.ref 78, Value.ref 9, Value.ref 10, Value.ref 13, Value.ref 16, Value.ref 19, Value.ref 93, Value.ref 108, Value.ref 113, Value.ref 29, Value.int 0]))) (hw5 : w[8]? = some (Sum.inl (4, 16, g0))) (hg6 : g0 a0.toInt.toNat = Value.ref h0) (e7 : (lg_cmp b0 (0 : Int64)).toInt < 0) (hg8 : (xfd b0) = 0) (e9 : (lg_cmp (xfr b0) (0 : Int64)).toInt ≠ 0) (hw10 : w[16]? = some (Sum.inr (4, [Value.int 0, Value.ref 17, Value.int 0, Value.int 0]))) (hw11 : w[17]? = some (Sum.inr (3, [Value.ref 18, Value.int 0]))) (hw12 : w[18]? = some (Sum.inl (0, 8, fun _ => Value.int 0))) (hg13 : (xhi (xfr b0)) = 0) (e14 : (xlo (xfr b0)).toInt ≠ 0) (hw15 : w[78]? = some (Sum.inr (1, [Value.int (-16384), Value.int 16384, Value.int 0, Value.int 0]))) (hg16 : ((32 : Int32) - (xnlz (xlo (xfr b0)))) = a2) (e17 : 16 ≠ h0) (e18 : 17 ≠ h0) (e19 : 18 ≠ h0) (hw20 : w[h0]? = some (Sum.inr (2, [Value.int 64, Value.int 0, Value.int 0, Value.int 0, Value.ref h1]))) (e21 : (((a2 + ((-1074) : Int32)) - (64 : Int32)) - ((-1074) : Int32)).toInt ≤ 0) (hg22 : ((a2 + ((-1074) : Int32)) - ((a2 + ((-1074) : Int32)) - (64 : Int32))) = 64) (e23 : 7 ≤ h0) (e24 : h0 ≠ 16) (e25 : h0 ≠ 17) (e26 : h0 ≠ 18) (hg27 : ((64 : Int32) - a2) = a3) (e28 : h0 ≠ h1) (e29 : 16 ≠ h1) (e30 : 17 ≠ h1) (e31 : 18 ≠ h1) (hw32 : w[h1]? = some (Sum.inr (3, [Value.ref h2, Value.int 0]))) (hg33 : (a2 + a3) = 64) (e34 : h0 ≠ h2) (e35 : 16 ≠ h2) (e36 : 17 ≠ h2) (e37 : 18 ≠ h2) (hw38 : w[h2]? = some (Sum.inl (0, 8, fun _ => Value.int 0))) (e39 : 0 ≤ a3.toInt) (e40 : 7 ≤ h2) (e41 : h2 ≠ h1) (e42 : h2 ≠ 17) (e43 : h2 ≠ 18) (e44 : 7 ≤ h1) (e45 : h1 ≠ h0) (e46 : h2 ≠ h0) (e47 : h1 ≠ h2) (e48 : (xbf 1 (xlo (xfr b0)) (0 : Int32) ((32 : Int32) - a3)).toInt ≠ 0) (e49 : ((64 : Int32) - (xnlz (xbf 1 (xlo (xfr b0)) (0 : Int32) ((32 : Int32) - a3)))).toInt ≤ 64) (e50 : h1 ≠ 78) (e51 : h2 ≠ 78) (e52 : h0 ≠ 78) (e53 : (a2 + ((-1074) : Int32)).toInt ≤ 16384) (e54 : (-16384) ≤ (a2 + ((-1074) : Int32)).toInt) (e55 : h1 ≠ 16) (e56 : h2 ≠ 16) : xRun (d + 5) 128 [Value.ref 7, Value.int a0, Value.long b0, Value.int a1] w (.inl (some (Value.int 0))) ((((((((w.set 16 (Sum.inr (4, [Value.int 1, Value.ref 17, Value.int 0, Value.int 0]))).set 18 (Sum.inl (0, 8, xup (xup (fun _ => Value.int 0) (0 : Int32).toInt.toNat (Value.int (xlo (xfr b0)))) (1 : Int32).toInt.toNat (Value.int 0)))).set 17 (Sum.inr (3, [Value.ref 18, Value.int 2]))).set 17 (Sum.inr (3, [Value.ref 18, Value.int 1]))).set 16 (Sum.inr (4, [Value.int 1, Value.ref 17, Value.int (-1074), Value.int 0]))).set h0 (Sum.inr (2, [Value.int 64, Value.int 3, Value.int 1, Value.int (a2 + ((-1074) : Int32)), Value.ref h1]))).set h2 (Sum.inl (0, 8, xup (xup (fun _ => Value.int 0) (1 : Int32).toInt.toNat (Value.int (xbf 1 (xlo (xfr b0)) (0 : Int32) ((32 : Int32) - a3)))) (0 : Int32).toInt.toNat (Value.int (xbf 1 (xlo (xfr b0)) (0 : Int32) ((0 : Int32) - a3)))))).set h1 (Sum.inr (3, [Value.ref h2, Value.int 2]))) := by
  refine xRun.of ?_
  refine i_128_0 (x := a0) rfl ?_
  refine i_128_1 (Nat.le_of_ble_eq_true rfl) (r_15_1 e0 e1) ?_
  refine i_128_4 (fun h => absurd h (by decide)) (fun _ => ?_)
  refine i_128_7 (x := a1) rfl ?_
  refine i_128_9 (Nat.le_of_ble_eq_true rfl) (r_22_2 e2 e3) ?_
  refine i_128_12 (fun _ => ?_) (fun h => absurd h (by decide))
  refine i_128_23 (x := 7) rfl ?_
  refine i_128_24 (v := Value.ref 8) hw4 rfl ?_
  refine i_128_27 (x := a0) rfl ?_
  refine i_128_28 (v := Value.ref h0) hw5 e0 e1 hg6 ?_
  refine i_128_29 (lv2 := [(5, Value.ref h0), (0, Value.ref 7), (1, Value.int a0), (2, Value.long b0), (4, Value.int a1)]) rfl ?_
  refine i_128_31 (x := b0) rfl ?_
  refine i_128_32 ?_
  refine i_128_33 (c := (lg_cmp b0 (0 : Int64))) rfl ?_
  refine i_128_34 (fun h => absurd e7 (Int.not_lt.mpr h)) (fun _ => ?_)
  refine i_128_37 ?_
  refine i_128_38 ?_
  refine i_128_42 (lv2 := [(6, Value.int 1), (5, Value.ref h0), (0, Value.ref 7), (1, Value.int a0), (2, Value.long b0), (4, Value.int a1)]) rfl ?_
  refine i_128_44 (x := b0) rfl ?_
  refine i_128_45 ?_
  refine i_128_47 (c := (xsr b0 52)) rfl ?_
  refine i_128_48 (c := (xsr b0 52).toInt32) rfl ?_
  refine i_128_49 ?_
  refine i_128_52 (c := 0) hg8 ?_
  refine i_128_53 (lv2 := [(7, Value.int 0), (6, Value.int 1), (5, Value.ref h0), (0, Value.ref 7), (1, Value.int a0), (2, Value.long b0), (4, Value.int a1)]) rfl ?_
  refine i_128_55 (x := b0) rfl ?_
  refine i_128_56 ?_
  refine i_128_59 (c := (xfr b0)) rfl ?_
  refine i_128_60 (lv2 := [(8, Value.long (xfr b0)), (7, Value.int 0), (6, Value.int 1), (5, Value.ref h0), (0, Value.ref 7), (1, Value.int a0), (2, Value.long b0), (4, Value.int a1)]) rfl ?_
  refine i_128_62 (x := 0) rfl ?_
  refine i_128_64 ?_
  refine i_128_67 (fun _ => ?_) (fun h => absurd h (by decide))
  refine i_128_90 (x := 0) rfl ?_
  refine i_128_92 (fun h => absurd h (by decide)) (fun _ => ?_)
  refine i_128_95 (x := (xfr b0)) rfl ?_
  refine i_128_97 ?_
  refine i_128_98 (c := (lg_cmp (xfr b0) (0 : Int64))) rfl ?_
  refine i_128_99 (fun _ => ?_) (fun h => absurd e9 (fun g => g h))
  refine i_128_110 (x := 0) rfl ?_
  refine i_128_112 (fun h => absurd h (by decide)) (fun _ => ?_)
  refine i_128_115 (x := 7) rfl ?_
  refine i_128_116 (v := Value.ref 16) hw4 rfl ?_
  refine i_128_119 (x := 1) rfl ?_
  refine i_128_121 (x := (xfr b0)) rfl ?_
  refine i_128_123 ?_
  refine i_128_126 hw10 (Nat.le_of_ble_eq_true rfl) (r_24_0 hw10 hw11 hw12 hg13 e14) ?_
  refine i_128_129 ?_
  refine i_128_153 (x := 7) rfl ?_
  refine i_128_154 (v := Value.ref 78) (xgn (by decide) (xgn (by decide) (xgn (by decide) (xgn (by decide) (xgn (by decide) hw4))))) rfl ?_
  refine i_128_157 (x := h0) rfl ?_
  refine i_128_159 (x := 7) rfl ?_
  refine i_128_160 (v := Value.ref 16) (xgn (by decide) (xgn (by decide) (xgn (by decide) (xgn (by decide) (xgn (by decide) hw4))))) rfl ?_
  refine i_128_163 (x := a1) rfl ?_
  refine i_128_165 (xgn (by decide) (xgn (by decide) (xgn (by decide) (xgn (by decide) (xgn (by decide) hw15))))) (Nat.le_of_ble_eq_true rfl) (r_27_0 (xgs (xgn (by decide) (xgn (by decide) (xgn (by decide) (xgs hw10))))) (xgn (by decide) (xgs (xgs (xgn (by decide) (xgn (by decide) hw11))))) (xgn (by decide) (xgn (by decide) (xgn (by decide) (xgs (xgn (by decide) hw12))))) (xup_n (by decide) xup_s) hg16 (xgn e17 (xgn e18 (xgn e18 (xgn e19 (xgn e17 hw20))))) (xgn (by decide) (xgn (by decide) (xgn (by decide) (xgn (by decide) (xgn (by decide) hw15))))) e21 hg22 e23 e24 e25 e26 hg27 e28 (xgn e29 (xgn e30 (xgn e30 (xgn e31 (xgn e29 hw32))))) hg33 e34 (xgn e35 (xgn e36 (xgn e36 (xgn e37 (xgn e35 hw38))))) e39 xup_s e40 e41 e42 e43 e44 e45 e46 e47 e48 e49 e50 e51 e52 e53 e54 e55 e56) ?_
  exact i_128_168 ⟨rfl, rfl⟩
theorem r_127_6 {d : Nat} {w : xW} {a0 : Int32} {b0 : Int64} {a1 : Int32} {g0 : Nat → Value} {h0 : Nat} {a2 : Int32} {h1 : Nat} {a3 : Int32} {h2 : Nat} (hw0 : w[7]? = some (Sum.inr (0, [Value.ref 8, Value.ref 78, Value.ref 9, Value.ref 10, Value.ref 13, Value.ref 16, Value.ref 19, Value.ref 93, Value.ref 108, Value.ref 113, Value.ref 29, Value.int 0]))) (e1 : 0 ≤ a0.toInt) (e2 : a0.toInt < 16) (e3 : 0 ≤ a1.toInt) (e4 : a1.toInt ≤ 4) (hw5 : w[8]? = some (Sum.inl (4, 16, g0))) (hg6 : g0 a0.toInt.toNat = Value.ref h0) (e7 : (lg_cmp b0 (0 : Int64)).toInt < 0) (hg8 : (xfd b0) = 0) (e9 : (lg_cmp (xfr b0) (0 : Int64)).toInt ≠ 0) (hw10 : w[16]? = some (Sum.inr (4, [Value.int 0, Value.ref 17, Value.int 0, Value.int 0]))) (hw11 : w[17]? = some (Sum.inr (3, [Value.ref 18, Value.int 0]))) (hw12 : w[18]? = some (Sum.inl (0, 8, fun _ => Value.int 0))) (hg13 : (xhi (xfr b0)) = 0) (e14 : (xlo (xfr b0)).toInt ≠ 0) (hw15 : w[78]? = some (Sum.inr (1, [Value.int (-16384), Value.int 16384, Value.int 0, Value.int 0]))) (hg16 : ((32 : Int32) - (xnlz (xlo (xfr b0)))) = a2) (e17 : 16 ≠ h0) (e18 : 17 ≠ h0) (e19 : 18 ≠ h0) (hw20 : w[h0]? = some (Sum.inr (2, [Value.int 64, Value.int 0, Value.int 0, Value.int 0, Value.ref h1]))) (e21 : (((a2 + ((-1074) : Int32)) - (64 : Int32)) - ((-1074) : Int32)).toInt ≤ 0) (hg22 : ((a2 + ((-1074) : Int32)) - ((a2 + ((-1074) : Int32)) - (64 : Int32))) = 64) (e23 : 7 ≤ h0) (e24 : h0 ≠ 16) (e25 : h0 ≠ 17) (e26 : h0 ≠ 18) (hg27 : ((64 : Int32) - a2) = a3) (e28 : h0 ≠ h1) (e29 : 16 ≠ h1) (e30 : 17 ≠ h1) (e31 : 18 ≠ h1) (hw32 : w[h1]? = some (Sum.inr (3, [Value.ref h2, Value.int 0]))) (hg33 : (a2 + a3) = 64) (e34 : h0 ≠ h2) (e35 : 16 ≠ h2) (e36 : 17 ≠ h2) (e37 : 18 ≠ h2) (hw38 : w[h2]? = some (Sum.inl (0, 8, fun _ => Value.int 0))) (e39 : 0 ≤ a3.toInt) (e40 : 7 ≤ h2) (e41 : h2 ≠ h1) (e42 : h2 ≠ 17) (e43 : h2 ≠ 18) (e44 : 7 ≤ h1) (e45 : h1 ≠ h0) (e46 : h2 ≠ h0) (e47 : h1 ≠ h2) (e48 : (xbf 1 (xlo (xfr b0)) (0 : Int32) ((32 : Int32) - a3)).toInt ≠ 0) (e49 : ((64 : Int32) - (xnlz (xbf 1 (xlo (xfr b0)) (0 : Int32) ((32 : Int32) - a3)))).toInt ≤ 64) (e50 : h1 ≠ 78) (e51 : h2 ≠ 78) (e52 : h0 ≠ 78) (e53 : (a2 + ((-1074) : Int32)).toInt ≤ 16384) (e54 : (-16384) ≤ (a2 + ((-1074) : Int32)).toInt) (e55 : h1 ≠ 16) (e56 : h2 ≠ 16) (e57 : h1 ≠ 194) (e58 : h2 ≠ 194) (e59 : h0 ≠ 194) (hw60 : w[194]? = some (Sum.inl (3, 1, fun _ => Value.long 0))) : xRun (d + 6) 127 [Value.ref 7, Value.int a0, Value.long b0, Value.int a1, Value.ref 194] w (.inl (some (Value.int 0))) (((((((((w.set 16 (Sum.inr (4, [Value.int 1, Value.ref 17, Value.int 0, Value.int 0]))).set 18 (Sum.inl (0, 8, xup (xup (fun _ => Value.int 0) (0 : Int32).toInt.toNat (Value.int (xlo (xfr b0)))) (1 : Int32).toInt.toNat (Value.int 0)))).set 17 (Sum.inr (3, [Value.ref 18, Value.int 2]))).set 17 (Sum.inr (3, [Value.ref 18, Value.int 1]))).set 16 (Sum.inr (4, [Value.int 1, Value.ref 17, Value.int (-1074), Value.int 0]))).set h0 (Sum.inr (2, [Value.int 64, Value.int 3, Value.int 1, Value.int (a2 + ((-1074) : Int32)), Value.ref h1]))).set h2 (Sum.inl (0, 8, xup (xup (fun _ => Value.int 0) (1 : Int32).toInt.toNat (Value.int (xbf 1 (xlo (xfr b0)) (0 : Int32) ((32 : Int32) - a3)))) (0 : Int32).toInt.toNat (Value.int (xbf 1 (xlo (xfr b0)) (0 : Int32) ((0 : Int32) - a3)))))).set h1 (Sum.inr (3, [Value.ref h2, Value.int 2]))).set 194 (Sum.inl (3, 1, xup (fun _ => Value.long 0) (0 : Int32).toInt.toNat (Value.long 0)))) := by
  refine xRun.of ?_
  refine i_127_0 (x := 194) rfl ?_
  refine i_127_2 ?_
  refine i_127_3 (x := 7) rfl ?_
  refine i_127_4 (x := a0) rfl ?_
  refine i_127_5 (x := b0) rfl ?_
  refine i_127_6 (x := a1) rfl ?_
  refine i_127_8 hw0 (Nat.le_of_ble_eq_true rfl) (r_128_6 e1 e2 e3 e4 hw0 hw5 hg6 e7 hg8 e9 hw10 hw11 hw12 hg13 e14 hw15 hg16 e17 e18 e19 hw20 e21 hg22 e23 e24 e25 e26 hg27 e28 e29 e30 e31 hw32 hg33 e34 e35 e36 e37 hw38 e39 e40 e41 e42 e43 e44 e45 e46 e47 e48 e49 e50 e51 e52 e53 e54 e55 e56) ?_
  refine i_127_11 (c := 0) (by decide) ?_
  refine i_127_12 (v := Value.long 0) (xgn e57 (xgn e58 (xgn e59 (xgn (by decide) (xgn (by decide) (xgn (by decide) (xgn (by decide) (xgn (by decide) hw60)))))))) (by decide) (by decide) (by decide) rfl ?_
  refine i_127_13 ?_
  refine i_127_20 ?_
  exact i_127_21 ⟨rfl, rfl⟩
theorem r_179_0 {d : Nat} {w : xW} {b0 : Int64} (hw0 : w[129]? = some (Sum.inr (13, [Value.ref 130, Value.int 0]))) (e1 : (lg_cmp b0 (0 : Int64)).toInt ≠ 0) (hw2 : w[130]? = some (Sum.inl (0, 4700, fun _ => Value.int 0))) (hg3 : (lg_cmp (xqs b0) (0 : Int64)) = 0) : xRun d 179 [Value.ref 129, Value.long b0] w (.inl none) (((w.set 129 (Sum.inr (13, [Value.ref 130, Value.int 0]))).set 130 (Sum.inl (0, 4700, xup (fun _ => Value.int 0) (0 : Int32).toInt.toNat (Value.int (xq b0))))).set 129 (Sum.inr (13, [Value.ref 130, Value.int 1]))) := by
  refine xRun.of ?_
  refine i_179_0 (x := 129) rfl ?_
  refine i_179_1 ?_
  refine i_179_2 (fs2 := [Value.ref 130, Value.int 0]) hw0 (Nat.le_of_ble_eq_true rfl) rfl (by decide) ?_
  refine i_179_5 (x := b0) rfl ?_
  refine i_179_6 (lv2 := [(3, Value.long b0), (0, Value.ref 129), (1, Value.long b0)]) rfl ?_
  refine i_179_7 (x := b0) rfl ?_
  refine i_179_8 ?_
  refine i_179_9 (c := (lg_cmp b0 (0 : Int64))) rfl ?_
  refine i_179_10 (fun h => absurd e1 (fun g => g h)) (fun _ => ?_)
  refine i_179_13 (x := 129) rfl ?_
  refine i_179_14 (v := Value.ref 130) (xgs hw0) rfl ?_
  refine i_179_17 (x := 129) rfl ?_
  refine i_179_18 (v := Value.int 0) (xgs hw0) rfl ?_
  refine i_179_21 (x := b0) rfl ?_
  refine i_179_22 (c := (xlo b0)) rfl ?_
  refine i_179_23 ?_
  refine i_179_25 (c := (xq b0)) rfl ?_
  refine i_179_26 (v := Value.int (xq b0)) (xgn (by decide) hw2) (by decide) (by decide) (by decide) rfl ?_
  refine i_179_27 (x := 129) rfl ?_
  refine i_179_28 rfl ?_
  refine i_179_29 (v := Value.int 0) (xgn (by decide) (xgs hw0)) rfl ?_
  refine i_179_32 ?_
  refine i_179_33 (c := 1) (by decide) ?_
  refine i_179_34 (fs2 := [Value.ref 130, Value.int 1]) (xgn (by decide) (xgs hw0)) (Nat.le_of_ble_eq_true rfl) rfl (by decide) ?_
  refine i_179_37 (x := b0) rfl ?_
  refine i_179_38 ?_
  refine i_179_40 (c := (xqs b0)) rfl ?_
  refine i_179_41 (lv2 := [(3, Value.long (xqs b0)), (0, Value.ref 129), (1, Value.long b0)]) rfl ?_
  refine i_179_42 ?_
  refine i_179_7 (x := (xqs b0)) rfl ?_
  refine i_179_8 ?_
  refine i_179_9 (c := 0) hg3 ?_
  refine i_179_10 (fun _ => ?_) (fun h => absurd h (by decide))
  exact i_179_45 ⟨rfl, rfl⟩
theorem r_182_0 {d : Nat} {w : xW} {g0 : Nat → Value} {a0 : Int32} (hw0 : w[129]? = some (Sum.inr (13, [Value.ref 130, Value.int 1]))) (hw1 : w[135]? = some (Sum.inr (13, [Value.ref 136, Value.int 0]))) (hw2 : w[130]? = some (Sum.inl (0, 4700, g0))) (hw3 : w[136]? = some (Sum.inl (0, 4700, fun _ => Value.int 0))) (hg4 : g0 (0 : Int32).toInt.toNat = Value.int a0) : xRun (d + 1) 182 [Value.ref 135, Value.ref 129] w (.inl none) ((w.set 136 (Sum.inl (0, 4700, xcp g0 (fun _ => Value.int 0) (0 : Int32).toInt.toNat (0 : Int32).toInt.toNat (1 : Int32).toInt.toNat))).set 135 (Sum.inr (13, [Value.ref 136, Value.int 1]))) := by
  refine xRun.of ?_
  refine i_182_0 (x := 129) rfl ?_
  refine i_182_1 (v := Value.ref 130) hw0 rfl ?_
  refine i_182_4 ?_
  refine i_182_5 (x := 135) rfl ?_
  refine i_182_6 (v := Value.ref 136) hw1 rfl ?_
  refine i_182_9 ?_
  refine i_182_10 (x := 129) rfl ?_
  refine i_182_11 (v := Value.int 1) hw0 rfl ?_
  refine i_182_14 hw2 hw3 (by decide) (by decide) (by decide) (by decide) (by decide) (by decide) (xci1 hg4) (Nat.le_of_ble_eq_true rfl) ?_
  refine i_182_17 (x := 135) rfl ?_
  refine i_182_18 (x := 129) rfl ?_
  refine i_182_19 (v := Value.int 1) (xgn (by decide) hw0) rfl ?_
  refine i_182_22 (fs2 := [Value.ref 136, Value.int 1]) (xgn (by decide) hw1) (Nat.le_of_ble_eq_true rfl) rfl (by decide) ?_
  exact i_182_25 ⟨rfl, rfl⟩
theorem r_187_0 {d : Nat} {w : xW} {g0 : Nat → Value} {a0 : Int32} (hw0 : w[135]? = some (Sum.inr (13, [Value.ref 136, Value.int 1]))) (hw1 : w[136]? = some (Sum.inl (0, 4700, g0))) (hg2 : g0 (3 : Int32).toInt.toNat = Value.int 0) (hg3 : g0 (2 : Int32).toInt.toNat = Value.int a0) (e4 : a0.toInt ≠ 0) : xRun d 187 [Value.ref 135, Value.int 4] w (.inl none) (w.set 135 (Sum.inr (13, [Value.ref 136, Value.int 3]))) := by
  refine xRun.of ?_
  refine i_187_0 (x := 135) rfl ?_
  refine i_187_1 (x := 4) rfl ?_
  refine i_187_2 (fs2 := [Value.ref 136, Value.int 4]) hw0 (Nat.le_of_ble_eq_true rfl) rfl (by decide) ?_
  refine i_187_5 (x := 135) rfl ?_
  refine i_187_6 (v := Value.int 4) (xgs hw0) rfl ?_
  refine i_187_9 (fun h => absurd h (by decide)) (fun _ => ?_)
  refine i_187_12 (x := 135) rfl ?_
  refine i_187_13 (v := Value.ref 136) (xgs hw0) rfl ?_
  refine i_187_16 (x := 135) rfl ?_
  refine i_187_17 (v := Value.int 4) (xgs hw0) rfl ?_
  refine i_187_20 ?_
  refine i_187_21 (c := 3) (by decide) ?_
  refine i_187_22 (v := Value.int 0) (xgn (by decide) hw1) (by decide) (by decide) hg2 ?_
  refine i_187_23 (fun h => absurd h (by decide)) (fun _ => ?_)
  refine i_187_26 (x := 135) rfl ?_
  refine i_187_27 rfl ?_
  refine i_187_28 (v := Value.int 4) (xgs hw0) rfl ?_
  refine i_187_31 ?_
  refine i_187_32 (c := 3) (by decide) ?_
  refine i_187_33 (fs2 := [Value.ref 136, Value.int 3]) (xgs hw0) (Nat.le_of_ble_eq_true rfl) rfl (by decide) ?_
  refine xEv.world (List.set_set _) ?_
  refine i_187_36 ?_
  refine i_187_5 (x := 135) rfl ?_
  refine i_187_6 (v := Value.int 3) (xgs hw0) rfl ?_
  refine i_187_9 (fun h => absurd h (by decide)) (fun _ => ?_)
  refine i_187_12 (x := 135) rfl ?_
  refine i_187_13 (v := Value.ref 136) (xgs hw0) rfl ?_
  refine i_187_16 (x := 135) rfl ?_
  refine i_187_17 (v := Value.int 3) (xgs hw0) rfl ?_
  refine i_187_20 ?_
  refine i_187_21 (c := 2) (by decide) ?_
  refine i_187_22 (v := Value.int a0) (xgn (by decide) hw1) (by decide) (by decide) hg3 ?_
  refine i_187_23 (fun _ => ?_) (fun h => absurd e4 (fun g => g h))
  exact i_187_39 ⟨rfl, rfl⟩
theorem r_188_0 {d : Nat} {w : xW} {a0 : Int32} {a1 : Int32} {g0 : Nat → Value} {a2 : Int32} (hw0 : w[135]? = some (Sum.inr (13, [Value.ref 136, Value.int 1]))) (e1 : a0.toInt ≠ 0) (hg2 : (a0 / (30 : Int32)) = 2) (hg3 : (a0 - a0 / (30 : Int32) * (30 : Int32)) = a1) (hw4 : w[136]? = some (Sum.inl (0, 4700, g0))) (hg5 : g0 (0 : Int32).toInt.toNat = Value.int a2) (hg6 : ((0 : Int32) ||| (xH a2 a1)) = 0) (e7 : (xL a2 a1).toInt ≠ 0) : xRun (d + 1) 188 [Value.ref 135, Value.int a0] w (.inl none) ((w.set 136 (Sum.inl (0, 4700, xup (xup (xup (xup (xup g0 (3 : Int32).toInt.toNat (Value.int 0)) (3 : Int32).toInt.toNat (Value.int 0)) (2 : Int32).toInt.toNat (Value.int (xL a2 a1))) (0 : Int32).toInt.toNat (Value.int 0)) (1 : Int32).toInt.toNat (Value.int 0)))).set 135 (Sum.inr (13, [Value.ref 136, Value.int 3]))) := by
  refine xRun.of ?_
  refine i_188_0 (x := 135) rfl ?_
  refine i_188_1 (v := Value.int 1) hw0 rfl ?_
  refine i_188_4 (fun h => absurd h (by decide)) (fun _ => ?_)
  refine i_188_7 (x := a0) rfl ?_
  refine i_188_8 (fun _ => ?_) (fun h => absurd e1 (fun g => g h))
  refine i_188_12 (x := a0) rfl ?_
  refine i_188_13 ?_
  refine i_188_15 (x := a0) (z := 30) (c := 2) (by decide) hg2 ?_
  refine i_188_16 (lv2 := [(2, Value.int 2), (0, Value.ref 135), (1, Value.int a0)]) rfl ?_
  refine i_188_17 (x := a0) rfl ?_
  refine i_188_18 ?_
  refine i_188_20 (x := a0) (z := 30) (c := a1) (by decide) hg3 ?_
  refine i_188_21 (lv2 := [(3, Value.int a1), (2, Value.int 2), (0, Value.ref 135), (1, Value.int a0)]) rfl ?_
  refine i_188_22 (x := 135) rfl ?_
  refine i_188_23 (v := Value.ref 136) hw0 rfl ?_
  refine i_188_26 (x := 135) rfl ?_
  refine i_188_27 (v := Value.int 1) hw0 rfl ?_
  refine i_188_30 (x := 2) rfl ?_
  refine i_188_31 (c := 3) (by decide) ?_
  refine i_188_32 ?_
  refine i_188_33 (v := Value.int 0) hw4 (by decide) (by decide) (by decide) rfl ?_
  refine i_188_34 (x := 135) rfl ?_
  refine i_188_35 (v := Value.int 1) (xgn (by decide) hw0) rfl ?_
  refine i_188_38 ?_
  refine i_188_39 (c := 0) (by decide) ?_
  refine i_188_40 (lv2 := [(4, Value.int 0), (3, Value.int a1), (2, Value.int 2), (0, Value.ref 135), (1, Value.int a0)]) rfl ?_
  refine i_188_42 (x := 0) rfl ?_
  refine i_188_44 (fun h => absurd h (by decide)) (fun _ => ?_)
  refine i_188_47 (x := 135) rfl ?_
  refine i_188_48 (v := Value.ref 136) (xgn (by decide) hw0) rfl ?_
  refine i_188_51 (x := 0) rfl ?_
  refine i_188_53 (v := Value.int a2) (xgs hw4) (by decide) (by decide) (xup_n (by decide) hg5) ?_
  refine i_188_54 (c := a2.toInt64) rfl ?_
  refine i_188_55 (x := a1) rfl ?_
  refine i_188_56 (c := (xsh a2 a1)) rfl ?_
  refine i_188_57 (lv2 := [(5, Value.long (xsh a2 a1)), (4, Value.int 0), (3, Value.int a1), (2, Value.int 2), (0, Value.ref 135), (1, Value.int a0)]) rfl ?_
  refine i_188_59 (x := 135) rfl ?_
  refine i_188_60 (v := Value.ref 136) (xgn (by decide) hw0) rfl ?_
  refine i_188_63 (x := 0) rfl ?_
  refine i_188_65 (x := 2) rfl ?_
  refine i_188_66 (c := 2) (by decide) ?_
  refine i_188_67 ?_
  refine i_188_68 (c := 3) (by decide) ?_
  refine i_188_69 (x := 0) rfl ?_
  refine i_188_71 (x := 135) rfl ?_
  refine i_188_72 (v := Value.int 1) (xgn (by decide) hw0) rfl ?_
  refine i_188_75 ?_
  refine i_188_76 (c := 0) (by decide) ?_
  refine i_188_77 (fun h => absurd h (by decide)) (fun _ => ?_)
  refine i_188_80 ?_
  refine i_188_81 ?_
  refine i_188_95 (x := (xsh a2 a1)) rfl ?_
  refine i_188_97 ?_
  refine i_188_99 (c := ((xsh a2 a1) >>> ((30 : Int32).toInt64 &&& 63))) rfl ?_
  refine i_188_100 (c := (xH a2 a1)) rfl ?_
  refine i_188_101 (c := 0) hg6 ?_
  refine i_188_102 (v := Value.int 0) (xgs hw4) (by decide) (by decide) (by decide) rfl ?_
  refine xEv.world (List.set_set _) ?_
  refine i_188_103 (x := 135) rfl ?_
  refine i_188_104 (v := Value.ref 136) (xgn (by decide) hw0) rfl ?_
  refine i_188_107 (x := 0) rfl ?_
  refine i_188_109 (x := 2) rfl ?_
  refine i_188_110 (c := 2) (by decide) ?_
  refine i_188_111 (x := (xsh a2 a1)) rfl ?_
  refine i_188_113 (c := (xlo (xsh a2 a1))) rfl ?_
  refine i_188_114 ?_
  refine i_188_116 (c := (xL a2 a1)) rfl ?_
  refine i_188_117 (v := Value.int (xL a2 a1)) (xgs hw4) (by decide) (by decide) (by decide) rfl ?_
  refine xEv.world (List.set_set _) ?_
  refine i_188_118 (x := 0) (c := (-1)) (lv2 := [(4, Value.int (-1)), (5, Value.long (xsh a2 a1)), (3, Value.int a1), (2, Value.int 2), (0, Value.ref 135), (1, Value.int a0)]) rfl (by decide) rfl ?_
  refine i_188_121 ?_
  refine i_188_42 (x := (-1)) rfl ?_
  refine i_188_44 (fun _ => ?_) (fun h => absurd h (by decide))
  refine i_188_124 ?_
  refine i_188_125 (lv2 := [(4, Value.int 0), (5, Value.long (xsh a2 a1)), (3, Value.int a1), (2, Value.int 2), (0, Value.ref 135), (1, Value.int a0)]) rfl ?_
  refine i_188_127 (x := 0) rfl ?_
  refine i_188_129 (x := 2) rfl ?_
  refine i_188_130 (fun h => absurd h (by decide)) (fun _ => ?_)
  refine i_188_133 (x := 135) rfl ?_
  refine i_188_134 (v := Value.ref 136) (xgn (by decide) hw0) rfl ?_
  refine i_188_137 (x := 0) rfl ?_
  refine i_188_139 ?_
  refine i_188_140 (v := Value.int 0) (xgs hw4) (by decide) (by decide) (by decide) rfl ?_
  refine xEv.world (List.set_set _) ?_
  refine i_188_141 (x := 0) (c := 1) (lv2 := [(4, Value.int 1), (5, Value.long (xsh a2 a1)), (3, Value.int a1), (2, Value.int 2), (0, Value.ref 135), (1, Value.int a0)]) rfl (by decide) rfl ?_
  refine i_188_144 ?_
  refine i_188_127 (x := 1) rfl ?_
  refine i_188_129 (x := 2) rfl ?_
  refine i_188_130 (fun h => absurd h (by decide)) (fun _ => ?_)
  refine i_188_133 (x := 135) rfl ?_
  refine i_188_134 (v := Value.ref 136) (xgn (by decide) hw0) rfl ?_
  refine i_188_137 (x := 1) rfl ?_
  refine i_188_139 ?_
  refine i_188_140 (v := Value.int 0) (xgs hw4) (by decide) (by decide) (by decide) rfl ?_
  refine xEv.world (List.set_set _) ?_
  refine i_188_141 (x := 1) (c := 2) (lv2 := [(4, Value.int 2), (5, Value.long (xsh a2 a1)), (3, Value.int a1), (2, Value.int 2), (0, Value.ref 135), (1, Value.int a0)]) rfl (by decide) rfl ?_
  refine i_188_144 ?_
  refine i_188_127 (x := 2) rfl ?_
  refine i_188_129 (x := 2) rfl ?_
  refine i_188_130 (fun _ => ?_) (fun h => absurd h (by decide))
  refine i_188_147 (x := 135) rfl ?_
  refine i_188_148 (x := 135) rfl ?_
  refine i_188_149 (v := Value.int 1) (xgn (by decide) hw0) rfl ?_
  refine i_188_152 (x := 2) rfl ?_
  refine i_188_153 (c := 3) (by decide) ?_
  refine i_188_154 ?_
  refine i_188_155 (c := 4) (by decide) ?_
  refine i_188_156 (xgn (by decide) hw0) (Nat.le_of_ble_eq_true rfl) (r_187_0 (xgn (by decide) hw0) (xgs hw4) (xup_n (by decide) (xup_n (by decide) (xup_n (by decide) xup_s))) (xup_n (by decide) (xup_n (by decide) xup_s)) e7) ?_
  exact i_188_159 ⟨rfl, rfl⟩
theorem r_179_1 {d : Nat} {w : xW} {h0 : Nat} {h1 : Nat} (hw0 : w[h0]? = some (Sum.inr (13, [Value.ref h1, Value.int 0]))) (e1 : 7 ≤ h0) : xRun d 179 [Value.ref h0, Value.long 0] w (.inl none) (w.set h0 (Sum.inr (13, [Value.ref h1, Value.int 0]))) := by
  refine xRun.of ?_
  refine i_179_0 (x := h0) rfl ?_
  refine i_179_1 ?_
  refine i_179_2 (fs2 := [Value.ref h1, Value.int 0]) hw0 (Nat.le_of_ble_eq_true rfl) rfl e1 ?_
  refine i_179_5 (x := 0) rfl ?_
  refine i_179_6 (lv2 := [(3, Value.long 0), (0, Value.ref h0), (1, Value.long 0)]) rfl ?_
  refine i_179_7 (x := 0) rfl ?_
  refine i_179_8 ?_
  refine i_179_9 (c := 0) (by decide) ?_
  refine i_179_10 (fun _ => ?_) (fun h => absurd h (by decide))
  exact i_179_45 ⟨rfl, rfl⟩
theorem r_182_1 {d : Nat} {w : xW} {g0 : Nat → Value} {a0 : Int32} (hw0 : w[135]? = some (Sum.inr (13, [Value.ref 136, Value.int 3]))) (hw1 : w[137]? = some (Sum.inr (13, [Value.ref 138, Value.int 0]))) (hw2 : w[136]? = some (Sum.inl (0, 4700, g0))) (hw3 : w[138]? = some (Sum.inl (0, 4700, fun _ => Value.int 0))) (hg4 : g0 (0 : Int32).toInt.toNat = Value.int 0) (hg5 : g0 (1 : Int32).toInt.toNat = Value.int 0) (hg6 : g0 (2 : Int32).toInt.toNat = Value.int a0) : xRun (d + 1) 182 [Value.ref 137, Value.ref 135] w (.inl none) ((w.set 138 (Sum.inl (0, 4700, xcp g0 (fun _ => Value.int 0) (0 : Int32).toInt.toNat (0 : Int32).toInt.toNat (3 : Int32).toInt.toNat))).set 137 (Sum.inr (13, [Value.ref 138, Value.int 3]))) := by
  refine xRun.of ?_
  refine i_182_0 (x := 135) rfl ?_
  refine i_182_1 (v := Value.ref 136) hw0 rfl ?_
  refine i_182_4 ?_
  refine i_182_5 (x := 137) rfl ?_
  refine i_182_6 (v := Value.ref 138) hw1 rfl ?_
  refine i_182_9 ?_
  refine i_182_10 (x := 135) rfl ?_
  refine i_182_11 (v := Value.int 3) hw0 rfl ?_
  refine i_182_14 hw2 hw3 (by decide) (by decide) (by decide) (by decide) (by decide) (by decide) (xci3 hg4 hg5 hg6) (Nat.le_of_ble_eq_true rfl) ?_
  refine i_182_17 (x := 137) rfl ?_
  refine i_182_18 (x := 135) rfl ?_
  refine i_182_19 (v := Value.int 3) (xgn (by decide) hw0) rfl ?_
  refine i_182_22 (fs2 := [Value.ref 138, Value.int 3]) (xgn (by decide) hw1) (Nat.le_of_ble_eq_true rfl) rfl (by decide) ?_
  exact i_182_25 ⟨rfl, rfl⟩
theorem r_188_1 {d : Nat} {w : xW} (hw0 : w[137]? = some (Sum.inr (13, [Value.ref 138, Value.int 3]))) : xRun d 188 [Value.ref 137, Value.int 0] w (.inl none) w := by
  refine xRun.of ?_
  refine i_188_0 (x := 137) rfl ?_
  refine i_188_1 (v := Value.int 3) hw0 rfl ?_
  refine i_188_4 (fun h => absurd h (by decide)) (fun _ => ?_)
  refine i_188_7 (x := 0) rfl ?_
  refine i_188_8 (fun h => absurd h (by decide)) (fun _ => ?_)
  exact i_188_11 ⟨rfl, rfl⟩
