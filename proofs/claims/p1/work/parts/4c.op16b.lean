theorem s_248_3 {d : Nat} {w : xW} {a0 : Int32} {b0 : Int64} {a1 : Int32} {a2 : Int32} (e0 : 0 ≤ a0.toInt) (e1 : a0.toInt ≤ 15) (e2 : 0 ≤ a1.toInt) (e3 : a1.toInt ≤ 4) (hg4 : (xfe b0) = a2) (e5 : a2.toInt = 2047) (hg6 : (lg_cmp (xfr b0) (0 : Int64)) = 0) (e7 : (lg_cmp b0 (0 : Int64)).toInt < 0) (hw8 : w[128]? = some (Sum.inr (12, [Value.ref 129, Value.ref 131, Value.ref 133, Value.ref 135, Value.ref 137, Value.ref 139, Value.ref 141, Value.ref 143, Value.ref 145, Value.ref 147, Value.ref 149, Value.ref 151, Value.ref 153, Value.ref 154, Value.ref 155, Value.ref 156, Value.ref 157, Value.int (-16384), Value.int 16384, Value.int 0, Value.int 0, Value.int 0, Value.ref 158, Value.ref 159, Value.int 0, Value.int 0, Value.int 0, Value.int 0, Value.int 0, Value.int 0, Value.int 0, Value.int 0]))) (hw9 : w[154]? = some (Sum.inl (0, 17, fun _ => Value.int 0))) (e10 : a0.toInt < 17) (hw11 : w[156]? = some (Sum.inl (2, 17, fun _ => Value.int 0))) : xRun (d + 2) 248 [Value.ref 128, Value.int a0, Value.long b0, Value.int a1] w (.inl (some (Value.int 0))) ((w.set 154 (Sum.inl (0, 17, xup (fun _ => Value.int 0) a0.toInt.toNat (Value.int 1)))).set 156 (Sum.inl (2, 17, xup (fun _ => Value.int 0) a0.toInt.toNat (Value.int 1)))) := by
  refine xRun.of ?_
  refine i_248_0 (x := a0) rfl ?_
  refine i_248_1 (Nat.le_of_ble_eq_true rfl) (s_168_0 e0 e1) ?_
  refine i_248_4 (x := a1) rfl ?_
  refine i_248_6 (Nat.le_of_ble_eq_true rfl) (s_178_0 e2 e3) ?_
  refine i_248_9 (x := b0) rfl ?_
  refine i_248_10 ?_
  refine i_248_12 (c := (b0 >>> ((52 : Int32).toInt64 &&& 63))) rfl ?_
  refine i_248_13 (c := (b0 >>> ((52 : Int32).toInt64 &&& 63)).toInt32) rfl ?_
  refine i_248_14 ?_
  refine i_248_17 (c := a2) hg4 ?_
  refine i_248_18 (lv2 := [(5, Value.int a2), (0, Value.ref 128), (1, Value.int a0), (2, Value.long b0), (4, Value.int a1)]) rfl ?_
  refine i_248_20 (x := b0) rfl ?_
  refine i_248_21 ?_
  refine i_248_24 (c := (xfr b0)) rfl ?_
  refine i_248_25 (lv2 := [(6, Value.long (xfr b0)), (5, Value.int a2), (0, Value.ref 128), (1, Value.int a0), (2, Value.long b0), (4, Value.int a1)]) rfl ?_
  refine i_248_27 (x := a2) rfl ?_
  refine i_248_29 ?_
  refine i_248_32 (fun h => absurd e5 h) (fun _ => ?_)
  refine i_248_35 (x := 128) rfl ?_
  refine i_248_36 (x := a0) rfl ?_
  refine i_248_37 (x := (xfr b0)) rfl ?_
  refine i_248_39 ?_
  refine i_248_40 (c := 0) hg6 ?_
  refine i_248_41 (fun h => absurd h (by decide)) (fun _ => ?_)
  refine i_248_44 ?_
  refine i_248_45 ?_
  refine i_248_49 (x := (xfr b0)) rfl ?_
  refine i_248_51 ?_
  refine i_248_52 (c := 0) hg6 ?_
  refine i_248_53 (fun h => absurd h (by decide)) (fun _ => ?_)
  refine i_248_56 (x := b0) rfl ?_
  refine i_248_57 ?_
  refine i_248_58 (c := (lg_cmp b0 (0 : Int64))) rfl ?_
  refine i_248_59 (fun h => absurd e7 (Int.not_lt.mpr h)) (fun _ => ?_)
  refine i_248_62 ?_
  refine i_248_63 ?_
  refine i_248_67 hw8 (Nat.le_of_ble_eq_true rfl) (s_171_5 hw8 hw9 e0 e10 hw11) ?_
  exact i_248_70 ⟨rfl, rfl⟩
theorem s_247_3 {d : Nat} {w : xW} {a0 : Int32} {b0 : Int64} {a1 : Int32} {a2 : Int32} (hw0 : w[128]? = some (Sum.inr (12, [Value.ref 129, Value.ref 131, Value.ref 133, Value.ref 135, Value.ref 137, Value.ref 139, Value.ref 141, Value.ref 143, Value.ref 145, Value.ref 147, Value.ref 149, Value.ref 151, Value.ref 153, Value.ref 154, Value.ref 155, Value.ref 156, Value.ref 157, Value.int (-16384), Value.int 16384, Value.int 0, Value.int 0, Value.int 0, Value.ref 158, Value.ref 159, Value.int 0, Value.int 0, Value.int 0, Value.int 0, Value.int 0, Value.int 0, Value.int 0, Value.int 0]))) (e1 : 0 ≤ a0.toInt) (e2 : a0.toInt ≤ 15) (e3 : 0 ≤ a1.toInt) (e4 : a1.toInt ≤ 4) (hg5 : (xfe b0) = a2) (e6 : a2.toInt = 2047) (hg7 : (lg_cmp (xfr b0) (0 : Int64)) = 0) (e8 : (lg_cmp b0 (0 : Int64)).toInt < 0) (hw9 : w[154]? = some (Sum.inl (0, 17, fun _ => Value.int 0))) (e10 : a0.toInt < 17) (hw11 : w[156]? = some (Sum.inl (2, 17, fun _ => Value.int 0))) : xRun (d + 3) 247 [Value.ref 128, Value.int a0, Value.long b0, Value.int a1] w (.inl (some (Value.int 0))) (((w.set 128 (Sum.inr (12, [Value.ref 129, Value.ref 131, Value.ref 133, Value.ref 135, Value.ref 137, Value.ref 139, Value.ref 141, Value.ref 143, Value.ref 145, Value.ref 147, Value.ref 149, Value.ref 151, Value.ref 153, Value.ref 154, Value.ref 155, Value.ref 156, Value.ref 157, Value.int (-16384), Value.int 16384, Value.int 0, Value.int 0, Value.int 0, Value.ref 158, Value.ref 159, Value.int 0, Value.int 0, Value.int 0, Value.int 0, Value.int 0, Value.int 0, Value.int 0, Value.int 0]))).set 154 (Sum.inl (0, 17, xup (fun _ => Value.int 0) a0.toInt.toNat (Value.int 1)))).set 156 (Sum.inl (2, 17, xup (fun _ => Value.int 0) a0.toInt.toNat (Value.int 1)))) := by
  refine xRun.of ?_
  refine i_247_0 (x := 128) rfl ?_
  refine i_247_1 ?_
  refine i_247_2 (fs2 := [Value.ref 129, Value.ref 131, Value.ref 133, Value.ref 135, Value.ref 137, Value.ref 139, Value.ref 141, Value.ref 143, Value.ref 145, Value.ref 147, Value.ref 149, Value.ref 151, Value.ref 153, Value.ref 154, Value.ref 155, Value.ref 156, Value.ref 157, Value.int (-16384), Value.int 16384, Value.int 0, Value.int 0, Value.int 0, Value.ref 158, Value.ref 159, Value.int 0, Value.int 0, Value.int 0, Value.int 0, Value.int 0, Value.int 0, Value.int 0, Value.int 0]) hw0 (Nat.le_of_ble_eq_true rfl) rfl (by decide) ?_
  refine i_247_5 (x := 128) rfl ?_
  refine i_247_6 (x := a0) rfl ?_
  refine i_247_7 (x := b0) rfl ?_
  refine i_247_8 (x := a1) rfl ?_
  refine i_247_10 (xgs hw0) (Nat.le_of_ble_eq_true rfl) (s_248_3 e1 e2 e3 e4 hg5 e6 hg7 e8 (xgs hw0) (xgn (by decide) hw9) e10 (xgn (by decide) hw11)) ?_
  exact i_247_13 ⟨rfl, rfl⟩
theorem o_16_3 {d : Nat} {xs : Nat → Int32} (h0 : ((xs 0) &&& (31 : Int32)).toInt = 16) (c0 : 0 ≤ (xs 1).toInt) (c1 : (xs 1).toInt < 16) (c2 : 0 ≤ (xs 4).toInt) (c3 : (xs 4).toInt ≤ 4) (c4 : (lg_cmp (xvv xs) (0 : Int64)).toInt < 0) (c5 : (xfd (xvv xs)).toInt = 2047) (c6 : (lg_cmp (xfr (xvv xs)) (0 : Int64)).toInt = 0) : ∃ w1, xEv (d + 20) 287 23 [(4, Value.int 0), (3, Value.ref 194), (2, Value.ref 128), (1, Value.ref 7), (0, Value.ref 0)] [] (W0 6 xs) (fun o' w' => o' = .inl (some (Value.int 1)) ∧ w' = w1) ∧ w1.length ≤ 220 ∧ xsz w1 ≤ 200000 := by
  have f0 : 0 ≤ (xfd (xvv xs)).toInt := (xfd_b _).1
  have f1 : (xfd (xvv xs)).toInt ≤ 2047 := (xfd_b _).2
  refine ⟨((((((W0 6 xs).set (30 + 3 * (xs 1).toInt.toNat) (Sum.inr (2, [Value.int 64, Value.int 1, Value.int 1, Value.int 0, Value.ref (31 + 3 * (xs 1).toInt.toNat)]))).set 194 (Sum.inl (3, 1, xup (fun _ => Value.long 0) (0 : Int32).toInt.toNat (Value.long 0)))).set 128 (Sum.inr (12, [Value.ref 129, Value.ref 131, Value.ref 133, Value.ref 135, Value.ref 137, Value.ref 139, Value.ref 141, Value.ref 143, Value.ref 145, Value.ref 147, Value.ref 149, Value.ref 151, Value.ref 153, Value.ref 154, Value.ref 155, Value.ref 156, Value.ref 157, Value.int (-16384), Value.int 16384, Value.int 0, Value.int 0, Value.int 0, Value.ref 158, Value.ref 159, Value.int 0, Value.int 0, Value.int 0, Value.int 0, Value.int 0, Value.int 0, Value.int 0, Value.int 0]))).set 154 (Sum.inl (0, 17, xup (fun _ => Value.int 0) (xs 1).toInt.toNat (Value.int 1)))).set 156 (Sum.inl (2, 17, xup (fun _ => Value.int 0) (xs 1).toInt.toNat (Value.int 1)))), ?_, (show xLs _ 220 200000 from ?_)⟩
  · refine i_287_23 (x := 0) rfl ?_
    refine i_287_25 (x := 0) rfl ?_
    refine i_287_26 (c := 6) W0_0 (by decide) ?_
    refine i_287_27 ?_
    refine i_287_29 (c := 0) (by decide) ?_
    refine i_287_30 (fun h => absurd h (by decide)) (fun _ => ?_)
    refine i_287_33 (x := 0) rfl ?_
    refine i_287_34 (x := 0) rfl ?_
    refine i_287_36 (v := Value.int (xs 0)) W0_0 (by decide) (by decide) rfl ?_
    refine i_287_37 ?_
    refine i_287_39 (c := 16) (show ((xs 0) &&& (31 : Int32)) = 16 from (xge_c (n := 16) (by omega) rfl)) ?_
    refine i_287_40_16 rfl ?_
    refine i_287_1540 (x := 7) rfl ?_
    refine i_287_1541 (x := 0) rfl ?_
    refine i_287_1542 (x := 0) rfl ?_
    refine i_287_1544 ?_
    refine i_287_1545 (c := 1) (by decide) ?_
    refine i_287_1546 (v := Value.int (xs 1)) W0_0 (by decide) (by decide) rfl ?_
    refine i_287_1547 (x := 0) rfl ?_
    refine i_287_1548 (x := 0) rfl ?_
    refine i_287_1550 ?_
    refine i_287_1551 (c := 2) (by decide) ?_
    refine i_287_1552 (v := Value.int (xs 2)) W0_0 (by decide) (by decide) rfl ?_
    refine i_287_1553 (c := (xs 2).toInt64) rfl ?_
    refine i_287_1554 ?_
    refine i_287_1556 (c := (xsh (xs 2) (32 : Int32))) rfl ?_
    refine i_287_1557 (x := 0) rfl ?_
    refine i_287_1558 (x := 0) rfl ?_
    refine i_287_1560 ?_
    refine i_287_1561 (c := 3) (by decide) ?_
    refine i_287_1562 (v := Value.int (xs 3)) W0_0 (by decide) (by decide) rfl ?_
    refine i_287_1563 (c := (xs 3).toInt64) rfl ?_
    refine i_287_1564 ?_
    refine i_287_1567 (c := (((xs 3).toInt64) &&& (4294967295 : Int64))) rfl ?_
    refine i_287_1568 (c := (xvv xs)) rfl ?_
    refine i_287_1569 (x := 0) rfl ?_
    refine i_287_1570 (x := 0) rfl ?_
    refine i_287_1572 ?_
    refine i_287_1573 (c := 4) (by decide) ?_
    refine i_287_1574 (v := Value.int (xs 4)) W0_0 (by decide) (by decide) rfl ?_
    refine i_287_1575 (x := 194) rfl ?_
    refine i_287_1576 (Nat.le_of_ble_eq_true rfl) (s_127_11 W0_7 (by omega) (by omega) (by omega) (by omega) W0_8 (greg_at (by omega)) (by omega) (show (xfd (xvv xs)) = 2047 from (xge_c (n := 2047) (by omega) rfl)) (show (lg_cmp (xfr (xvv xs)) (0 : Int64)) = 0 from (xge_c (n := 0) (by omega) rfl)) (W0_reg (by omega)) (by omega) (by omega) W0_194) ?_
    refine i_287_1579 (lv2 := [(5, Value.int 0), (4, Value.int 0), (3, Value.ref 194), (2, Value.ref 128), (1, Value.ref 7), (0, Value.ref 0)]) rfl ?_
    refine i_287_1581 (x := 128) rfl ?_
    refine i_287_1582 (x := 0) rfl ?_
    refine i_287_1583 (x := 0) rfl ?_
    refine i_287_1585 ?_
    refine i_287_1586 (c := 1) (by decide) ?_
    refine i_287_1587 (v := Value.int (xs 1)) (xgn (by decide) (xgn (by omega) W0_0)) (by decide) (by decide) rfl ?_
    refine i_287_1588 (x := 0) rfl ?_
    refine i_287_1589 (x := 0) rfl ?_
    refine i_287_1591 ?_
    refine i_287_1592 (c := 2) (by decide) ?_
    refine i_287_1593 (v := Value.int (xs 2)) (xgn (by decide) (xgn (by omega) W0_0)) (by decide) (by decide) rfl ?_
    refine i_287_1594 (c := (xs 2).toInt64) rfl ?_
    refine i_287_1595 ?_
    refine i_287_1597 (c := (xsh (xs 2) (32 : Int32))) rfl ?_
    refine i_287_1598 (x := 0) rfl ?_
    refine i_287_1599 (x := 0) rfl ?_
    refine i_287_1601 ?_
    refine i_287_1602 (c := 3) (by decide) ?_
    refine i_287_1603 (v := Value.int (xs 3)) (xgn (by decide) (xgn (by omega) W0_0)) (by decide) (by decide) rfl ?_
    refine i_287_1604 (c := (xs 3).toInt64) rfl ?_
    refine i_287_1605 ?_
    refine i_287_1608 (c := (((xs 3).toInt64) &&& (4294967295 : Int64))) rfl ?_
    refine i_287_1609 (c := (xvv xs)) rfl ?_
    refine i_287_1610 (x := 0) rfl ?_
    refine i_287_1611 (x := 0) rfl ?_
    refine i_287_1613 ?_
    refine i_287_1614 (c := 4) (by decide) ?_
    refine i_287_1615 (v := Value.int (xs 4)) (xgn (by decide) (xgn (by omega) W0_0)) (by decide) (by decide) rfl ?_
    refine i_287_1616 (xgn (by decide) (xgn (by omega) W0_128)) (Nat.le_of_ble_eq_true rfl) (s_247_3 (xgn (by decide) (xgn (by omega) W0_128)) (by omega) (by omega) (by omega) (by omega) (show (xfe (xvv xs)) = (xfd (xvv xs)) from (xfe_eq _)) (by omega) (show (lg_cmp (xfr (xvv xs)) (0 : Int64)) = 0 from (xge_c (n := 0) (by omega) rfl)) (by omega) (xgn (by decide) (xgn (by omega) W0_154)) (by omega) (xgn (by decide) (xgn (by omega) W0_156))) ?_
    refine i_287_1619 (lv2 := [(6, Value.int 0), (5, Value.int 0), (4, Value.int 0), (3, Value.ref 194), (2, Value.ref 128), (1, Value.ref 7), (0, Value.ref 0)]) rfl ?_
    refine i_287_1621 (x := 128) rfl ?_
    refine i_287_1622 (xgn (by decide) (xgn (by decide) (xgs (xgn (by decide) (xgn (by omega) W0_128))))) (Nat.le_of_ble_eq_true rfl) (s_165_2 (xgn (by decide) (xgn (by decide) (xgs (xgn (by decide) (xgn (by omega) W0_128)))))) ?_
    refine i_287_1625 (x := 0) rfl ?_
    refine i_287_1627 (fun _ => ?_) (fun h => absurd h (by decide))
    refine i_287_1632 (x := 0) rfl ?_
    refine i_287_1634 (fun h => absurd h (by decide)) (fun _ => ?_)
    refine i_287_1637 (x := 194) rfl ?_
    refine i_287_1638 ?_
    refine i_287_1639 (v := Value.long 0) (xgn (by decide) (xgn (by decide) (xgn (by decide) (xgs (xgn (by omega) W0_194))))) (by decide) (by decide) xup_s ?_
    refine i_287_1640 (x := 0) rfl ?_
    refine i_287_1642 (c := 0) (by decide) ?_
    refine i_287_1643 (c := 0) (by decide) ?_
    refine i_287_1644 (fun _ => ?_) (fun h => absurd h (by decide))
    refine i_287_1649 ?_
    refine i_287_2154 (x := 0) (c := 6) (lv2 := [(4, Value.int 6), (6, Value.int 0), (5, Value.int 0), (3, Value.ref 194), (2, Value.ref 128), (1, Value.ref 7), (0, Value.ref 0)]) rfl (by decide) rfl ?_
    refine i_287_2157 ?_
    refine i_287_23 (x := 6) rfl ?_
    refine i_287_25 (x := 0) rfl ?_
    refine i_287_26 (c := 6) (xgn (by decide) (xgn (by decide) (xgn (by decide) (xgn (by decide) (xgn (by omega) W0_0))))) (by decide) ?_
    refine i_287_27 ?_
    refine i_287_29 (c := 0) (by decide) ?_
    refine i_287_30 (fun _ => ?_) (fun h => absurd h (by decide))
    refine i_287_2160 ?_
    exact i_287_2161 rfl ⟨rfl, rfl⟩
  · refine xLs.set ?_ (xgn (by decide) (xgn (by decide) (xgn (by decide) (xgn (by omega) W0_156)))) xcs_a
    refine xLs.set ?_ (xgn (by decide) (xgn (by decide) (xgn (by omega) W0_154))) xcs_a
    refine xLs.set ?_ (xgn (by decide) (xgn (by omega) W0_128)) xcs_o
    refine xLs.set ?_ (xgn (by omega) W0_194) xcs_a
    refine xLs.set ?_ (W0_reg (by omega)) xcs_o
    exact ⟨Nat.le_trans (Nat.le_of_eq W0_len) (by decide), Nat.le_trans (Nat.le_of_eq W0_sz) (by decide)⟩
theorem s_17_6 {d : Nat} {w : xW} {h0 : Nat} {h1 : Nat} (hw0 : w[h0]? = some (Sum.inr (2, [Value.int 64, Value.int 0, Value.int 0, Value.int 0, Value.ref h1]))) (e1 : 7 ≤ h0) : xRun d 17 [Value.ref h0, Value.int 0, Value.int 1] w (.inl (some (Value.int 0))) (w.set h0 (Sum.inr (2, [Value.int 64, Value.int 0, Value.int 1, Value.int 0, Value.ref h1]))) := by
  refine xRun.of ?_
  refine i_17_0 (x := h0) rfl ?_
  refine i_17_1 (x := 0) rfl ?_
  refine i_17_2 (fs2 := [Value.int 64, Value.int 0, Value.int 0, Value.int 0, Value.ref h1]) hw0 (Nat.le_of_ble_eq_true rfl) rfl e1 ?_
  refine i_17_5 (x := h0) rfl ?_
  refine i_17_6 (x := 1) rfl ?_
  refine i_17_7 (fs2 := [Value.int 64, Value.int 0, Value.int 1, Value.int 0, Value.ref h1]) (xgs hw0) rfl (Nat.le_of_ble_eq_true rfl) rfl e1 ?_
  refine xEv.world (List.set_set _) ?_
  refine i_17_10 ?_
  exact i_17_11 ⟨rfl, rfl⟩
theorem s_128_12 {d : Nat} {w : xW} {a0 : Int32} {b0 : Int64} {a1 : Int32} {g0 : Nat → Value} {h0 : Nat} {h1 : Nat} (e0 : 0 ≤ a0.toInt) (e1 : a0.toInt < 16) (e2 : 0 ≤ a1.toInt) (e3 : a1.toInt ≤ 4) (hw4 : w[7]? = some (Sum.inr (0, [Value.ref 8, Value.ref 78, Value.ref 9, Value.ref 10, Value.ref 13, Value.ref 16, Value.ref 19, Value.ref 93, Value.ref 108, Value.ref 113, Value.ref 29, Value.int 0]))) (hw5 : w[8]? = some (Sum.inl (4, 16, g0))) (hg6 : g0 a0.toInt.toNat = Value.ref h0) (e7 : (lg_cmp b0 (0 : Int64)).toInt < 0) (hg8 : (xfd b0) = 2047) (e9 : (lg_cmp (xfr b0) (0 : Int64)).toInt ≠ 0) (hw10 : w[h0]? = some (Sum.inr (2, [Value.int 64, Value.int 0, Value.int 0, Value.int 0, Value.ref h1]))) (e11 : 7 ≤ h0) : xRun (d + 1) 128 [Value.ref 7, Value.int a0, Value.long b0, Value.int a1] w (.inl (some (Value.int 0))) (w.set h0 (Sum.inr (2, [Value.int 64, Value.int 0, Value.int 1, Value.int 0, Value.ref h1]))) := by
  refine xRun.of ?_
  refine i_128_0 (x := a0) rfl ?_
  refine i_128_1 (Nat.le_of_ble_eq_true rfl) (s_15_0 e0 e1) ?_
  refine i_128_4 (fun h => absurd h (by decide)) (fun _ => ?_)
  refine i_128_7 (x := a1) rfl ?_
  refine i_128_9 (Nat.le_of_ble_eq_true rfl) (s_22_0 e2 e3) ?_
  refine i_128_12 (fun _ => ?_) (fun h => absurd h (by decide))
  refine i_128_23 (x := 7) rfl ?_
  refine i_128_24 (v := Value.ref 8) hw4 rfl ?_
  refine i_128_27 (x := a0) rfl ?_
  refine i_128_28 (v := Value.ref h0) hw5 e0 e1 hg6 ?_
  refine i_128_29 (lv2 := [(5, Value.ref h0), (0, Value.ref 7), (1, Value.int a0), (2, Value.long b0), (4, Value.int a1)]) rfl ?_
  refine i_128_31 (x := b0) rfl ?_
  refine i_128_32 ?_
  refine i_128_33 (c := (lg_cmp b0 (0 : Int64))) rfl ?_
  refine i_128_34 (fun h => absurd e7 (Int.not_lt.mpr h)) (fun _ => ?_)
  refine i_128_37 ?_
  refine i_128_38 ?_
  refine i_128_42 (lv2 := [(6, Value.int 1), (5, Value.ref h0), (0, Value.ref 7), (1, Value.int a0), (2, Value.long b0), (4, Value.int a1)]) rfl ?_
  refine i_128_44 (x := b0) rfl ?_
  refine i_128_45 ?_
  refine i_128_47 (c := (xsr b0 52)) rfl ?_
  refine i_128_48 (c := (xsr b0 52).toInt32) rfl ?_
  refine i_128_49 ?_
  refine i_128_52 (c := 2047) hg8 ?_
  refine i_128_53 (lv2 := [(7, Value.int 2047), (6, Value.int 1), (5, Value.ref h0), (0, Value.ref 7), (1, Value.int a0), (2, Value.long b0), (4, Value.int a1)]) rfl ?_
  refine i_128_55 (x := b0) rfl ?_
  refine i_128_56 ?_
  refine i_128_59 (c := (xfr b0)) rfl ?_
  refine i_128_60 (lv2 := [(8, Value.long (xfr b0)), (7, Value.int 2047), (6, Value.int 1), (5, Value.ref h0), (0, Value.ref 7), (1, Value.int a0), (2, Value.long b0), (4, Value.int a1)]) rfl ?_
  refine i_128_62 (x := 2047) rfl ?_
  refine i_128_64 ?_
  refine i_128_67 (fun h => absurd h (by decide)) (fun _ => ?_)
  refine i_128_70 (x := h0) rfl ?_
  refine i_128_72 (x := (xfr b0)) rfl ?_
  refine i_128_74 ?_
  refine i_128_75 (c := (lg_cmp (xfr b0) (0 : Int64))) rfl ?_
  refine i_128_76 (fun _ => ?_) (fun h => absurd e9 (fun g => g h))
  refine i_128_83 ?_
  refine i_128_84 (x := 1) rfl ?_
  refine i_128_86 hw10 (Nat.le_of_ble_eq_true rfl) (s_17_6 hw10 e11) ?_
  exact i_128_89 ⟨rfl, rfl⟩
theorem s_127_12 {d : Nat} {w : xW} {a0 : Int32} {b0 : Int64} {a1 : Int32} {g0 : Nat → Value} {h0 : Nat} {h1 : Nat} (hw0 : w[7]? = some (Sum.inr (0, [Value.ref 8, Value.ref 78, Value.ref 9, Value.ref 10, Value.ref 13, Value.ref 16, Value.ref 19, Value.ref 93, Value.ref 108, Value.ref 113, Value.ref 29, Value.int 0]))) (e1 : 0 ≤ a0.toInt) (e2 : a0.toInt < 16) (e3 : 0 ≤ a1.toInt) (e4 : a1.toInt ≤ 4) (hw5 : w[8]? = some (Sum.inl (4, 16, g0))) (hg6 : g0 a0.toInt.toNat = Value.ref h0) (e7 : (lg_cmp b0 (0 : Int64)).toInt < 0) (hg8 : (xfd b0) = 2047) (e9 : (lg_cmp (xfr b0) (0 : Int64)).toInt ≠ 0) (hw10 : w[h0]? = some (Sum.inr (2, [Value.int 64, Value.int 0, Value.int 0, Value.int 0, Value.ref h1]))) (e11 : 7 ≤ h0) (e12 : h0 ≠ 194) (hw13 : w[194]? = some (Sum.inl (3, 1, fun _ => Value.long 0))) : xRun (d + 2) 127 [Value.ref 7, Value.int a0, Value.long b0, Value.int a1, Value.ref 194] w (.inl (some (Value.int 0))) ((w.set h0 (Sum.inr (2, [Value.int 64, Value.int 0, Value.int 1, Value.int 0, Value.ref h1]))).set 194 (Sum.inl (3, 1, xup (fun _ => Value.long 0) (0 : Int32).toInt.toNat (Value.long 0)))) := by
  refine xRun.of ?_
  refine i_127_0 (x := 194) rfl ?_
  refine i_127_2 ?_
  refine i_127_3 (x := 7) rfl ?_
  refine i_127_4 (x := a0) rfl ?_
  refine i_127_5 (x := b0) rfl ?_
  refine i_127_6 (x := a1) rfl ?_
  refine i_127_8 hw0 (Nat.le_of_ble_eq_true rfl) (s_128_12 e1 e2 e3 e4 hw0 hw5 hg6 e7 hg8 e9 hw10 e11) ?_
  refine i_127_11 (c := 0) (by decide) ?_
  refine i_127_12 (v := Value.long 0) (xgn e12 hw13) (by decide) (by decide) (by decide) rfl ?_
  refine i_127_13 ?_
  refine i_127_20 ?_
  exact i_127_21 ⟨rfl, rfl⟩
theorem s_171_6 {d : Nat} {w : xW} {a0 : Int32} (hw0 : w[128]? = some (Sum.inr (12, [Value.ref 129, Value.ref 131, Value.ref 133, Value.ref 135, Value.ref 137, Value.ref 139, Value.ref 141, Value.ref 143, Value.ref 145, Value.ref 147, Value.ref 149, Value.ref 151, Value.ref 153, Value.ref 154, Value.ref 155, Value.ref 156, Value.ref 157, Value.int (-16384), Value.int 16384, Value.int 0, Value.int 0, Value.int 0, Value.ref 158, Value.ref 159, Value.int 0, Value.int 0, Value.int 0, Value.int 0, Value.int 0, Value.int 0, Value.int 0, Value.int 0]))) (hw1 : w[154]? = some (Sum.inl (0, 17, fun _ => Value.int 0))) (e2 : 0 ≤ a0.toInt) (e3 : a0.toInt < 17) (hw4 : w[156]? = some (Sum.inl (2, 17, fun _ => Value.int 0))) : xRun d 171 [Value.ref 128, Value.int a0, Value.int 0, Value.int 0] w (.inl (some (Value.int 0))) ((w.set 154 (Sum.inl (0, 17, xup (fun _ => Value.int 0) a0.toInt.toNat (Value.int 0)))).set 156 (Sum.inl (2, 17, xup (fun _ => Value.int 0) a0.toInt.toNat (Value.int 0)))) := by
  refine xRun.of ?_
  refine i_171_0 (x := 128) rfl ?_
  refine i_171_1 (v := Value.ref 154) hw0 rfl ?_
  refine i_171_4 (x := a0) rfl ?_
  refine i_171_5 (x := 0) rfl ?_
  refine i_171_6 (v := Value.int 0) hw1 e2 e3 (by decide) rfl ?_
  refine i_171_7 (x := 128) rfl ?_
  refine i_171_8 (v := Value.ref 156) (xgn (by decide) hw0) rfl ?_
  refine i_171_11 (x := a0) rfl ?_
  refine i_171_12 (x := 0) rfl ?_
  refine i_171_13z (v := Value.int 0) (xgn (by decide) hw4) e2 e3 (by decide) rfl ?_
  refine i_171_14 ?_
  exact i_171_15 ⟨rfl, rfl⟩
theorem s_248_4 {d : Nat} {w : xW} {a0 : Int32} {b0 : Int64} {a1 : Int32} {a2 : Int32} (e0 : 0 ≤ a0.toInt) (e1 : a0.toInt ≤ 15) (e2 : 0 ≤ a1.toInt) (e3 : a1.toInt ≤ 4) (hg4 : (xfe b0) = a2) (e5 : a2.toInt = 2047) (e6 : (lg_cmp (xfr b0) (0 : Int64)).toInt ≠ 0) (hw7 : w[128]? = some (Sum.inr (12, [Value.ref 129, Value.ref 131, Value.ref 133, Value.ref 135, Value.ref 137, Value.ref 139, Value.ref 141, Value.ref 143, Value.ref 145, Value.ref 147, Value.ref 149, Value.ref 151, Value.ref 153, Value.ref 154, Value.ref 155, Value.ref 156, Value.ref 157, Value.int (-16384), Value.int 16384, Value.int 0, Value.int 0, Value.int 0, Value.ref 158, Value.ref 159, Value.int 0, Value.int 0, Value.int 0, Value.int 0, Value.int 0, Value.int 0, Value.int 0, Value.int 0]))) (hw8 : w[154]? = some (Sum.inl (0, 17, fun _ => Value.int 0))) (e9 : a0.toInt < 17) (hw10 : w[156]? = some (Sum.inl (2, 17, fun _ => Value.int 0))) : xRun (d + 2) 248 [Value.ref 128, Value.int a0, Value.long b0, Value.int a1] w (.inl (some (Value.int 0))) ((w.set 154 (Sum.inl (0, 17, xup (fun _ => Value.int 0) a0.toInt.toNat (Value.int 0)))).set 156 (Sum.inl (2, 17, xup (fun _ => Value.int 0) a0.toInt.toNat (Value.int 0)))) := by
  refine xRun.of ?_
  refine i_248_0 (x := a0) rfl ?_
  refine i_248_1 (Nat.le_of_ble_eq_true rfl) (s_168_0 e0 e1) ?_
  refine i_248_4 (x := a1) rfl ?_
  refine i_248_6 (Nat.le_of_ble_eq_true rfl) (s_178_0 e2 e3) ?_
  refine i_248_9 (x := b0) rfl ?_
  refine i_248_10 ?_
  refine i_248_12 (c := (b0 >>> ((52 : Int32).toInt64 &&& 63))) rfl ?_
  refine i_248_13 (c := (b0 >>> ((52 : Int32).toInt64 &&& 63)).toInt32) rfl ?_
  refine i_248_14 ?_
  refine i_248_17 (c := a2) hg4 ?_
  refine i_248_18 (lv2 := [(5, Value.int a2), (0, Value.ref 128), (1, Value.int a0), (2, Value.long b0), (4, Value.int a1)]) rfl ?_
  refine i_248_20 (x := b0) rfl ?_
  refine i_248_21 ?_
  refine i_248_24 (c := (xfr b0)) rfl ?_
  refine i_248_25 (lv2 := [(6, Value.long (xfr b0)), (5, Value.int a2), (0, Value.ref 128), (1, Value.int a0), (2, Value.long b0), (4, Value.int a1)]) rfl ?_
  refine i_248_27 (x := a2) rfl ?_
  refine i_248_29 ?_
  refine i_248_32 (fun h => absurd e5 h) (fun _ => ?_)
  refine i_248_35 (x := 128) rfl ?_
  refine i_248_36 (x := a0) rfl ?_
  refine i_248_37 (x := (xfr b0)) rfl ?_
  refine i_248_39 ?_
  refine i_248_40 (c := (lg_cmp (xfr b0) (0 : Int64))) rfl ?_
  refine i_248_41 (fun _ => ?_) (fun h => absurd e6 (fun g => g h))
  refine i_248_48 ?_
  refine i_248_49 (x := (xfr b0)) rfl ?_
  refine i_248_51 ?_
  refine i_248_52 (c := (lg_cmp (xfr b0) (0 : Int64))) rfl ?_
  refine i_248_53 (fun _ => ?_) (fun h => absurd e6 (fun g => g h))
  refine i_248_66 ?_
  refine i_248_67 hw7 (Nat.le_of_ble_eq_true rfl) (s_171_6 hw7 hw8 e0 e9 hw10) ?_
  exact i_248_70 ⟨rfl, rfl⟩
theorem s_247_4 {d : Nat} {w : xW} {a0 : Int32} {b0 : Int64} {a1 : Int32} {a2 : Int32} (hw0 : w[128]? = some (Sum.inr (12, [Value.ref 129, Value.ref 131, Value.ref 133, Value.ref 135, Value.ref 137, Value.ref 139, Value.ref 141, Value.ref 143, Value.ref 145, Value.ref 147, Value.ref 149, Value.ref 151, Value.ref 153, Value.ref 154, Value.ref 155, Value.ref 156, Value.ref 157, Value.int (-16384), Value.int 16384, Value.int 0, Value.int 0, Value.int 0, Value.ref 158, Value.ref 159, Value.int 0, Value.int 0, Value.int 0, Value.int 0, Value.int 0, Value.int 0, Value.int 0, Value.int 0]))) (e1 : 0 ≤ a0.toInt) (e2 : a0.toInt ≤ 15) (e3 : 0 ≤ a1.toInt) (e4 : a1.toInt ≤ 4) (hg5 : (xfe b0) = a2) (e6 : a2.toInt = 2047) (e7 : (lg_cmp (xfr b0) (0 : Int64)).toInt ≠ 0) (hw8 : w[154]? = some (Sum.inl (0, 17, fun _ => Value.int 0))) (e9 : a0.toInt < 17) (hw10 : w[156]? = some (Sum.inl (2, 17, fun _ => Value.int 0))) : xRun (d + 3) 247 [Value.ref 128, Value.int a0, Value.long b0, Value.int a1] w (.inl (some (Value.int 0))) (((w.set 128 (Sum.inr (12, [Value.ref 129, Value.ref 131, Value.ref 133, Value.ref 135, Value.ref 137, Value.ref 139, Value.ref 141, Value.ref 143, Value.ref 145, Value.ref 147, Value.ref 149, Value.ref 151, Value.ref 153, Value.ref 154, Value.ref 155, Value.ref 156, Value.ref 157, Value.int (-16384), Value.int 16384, Value.int 0, Value.int 0, Value.int 0, Value.ref 158, Value.ref 159, Value.int 0, Value.int 0, Value.int 0, Value.int 0, Value.int 0, Value.int 0, Value.int 0, Value.int 0]))).set 154 (Sum.inl (0, 17, xup (fun _ => Value.int 0) a0.toInt.toNat (Value.int 0)))).set 156 (Sum.inl (2, 17, xup (fun _ => Value.int 0) a0.toInt.toNat (Value.int 0)))) := by
  refine xRun.of ?_
  refine i_247_0 (x := 128) rfl ?_
  refine i_247_1 ?_
  refine i_247_2 (fs2 := [Value.ref 129, Value.ref 131, Value.ref 133, Value.ref 135, Value.ref 137, Value.ref 139, Value.ref 141, Value.ref 143, Value.ref 145, Value.ref 147, Value.ref 149, Value.ref 151, Value.ref 153, Value.ref 154, Value.ref 155, Value.ref 156, Value.ref 157, Value.int (-16384), Value.int 16384, Value.int 0, Value.int 0, Value.int 0, Value.ref 158, Value.ref 159, Value.int 0, Value.int 0, Value.int 0, Value.int 0, Value.int 0, Value.int 0, Value.int 0, Value.int 0]) hw0 (Nat.le_of_ble_eq_true rfl) rfl (by decide) ?_
  refine i_247_5 (x := 128) rfl ?_
  refine i_247_6 (x := a0) rfl ?_
  refine i_247_7 (x := b0) rfl ?_
  refine i_247_8 (x := a1) rfl ?_
  refine i_247_10 (xgs hw0) (Nat.le_of_ble_eq_true rfl) (s_248_4 e1 e2 e3 e4 hg5 e6 e7 (xgs hw0) (xgn (by decide) hw8) e9 (xgn (by decide) hw10)) ?_
  exact i_247_13 ⟨rfl, rfl⟩
theorem o_16_4 {d : Nat} {xs : Nat → Int32} (h0 : ((xs 0) &&& (31 : Int32)).toInt = 16) (c0 : 0 ≤ (xs 1).toInt) (c1 : (xs 1).toInt < 16) (c2 : 0 ≤ (xs 4).toInt) (c3 : (xs 4).toInt ≤ 4) (c4 : (lg_cmp (xvv xs) (0 : Int64)).toInt < 0) (c5 : (xfd (xvv xs)).toInt = 2047) (c6 : (lg_cmp (xfr (xvv xs)) (0 : Int64)).toInt ≠ 0) : ∃ w1, xEv (d + 20) 287 23 [(4, Value.int 0), (3, Value.ref 194), (2, Value.ref 128), (1, Value.ref 7), (0, Value.ref 0)] [] (W0 6 xs) (fun o' w' => o' = .inl (some (Value.int 1)) ∧ w' = w1) ∧ w1.length ≤ 220 ∧ xsz w1 ≤ 200000 := by
  have f0 : 0 ≤ (xfd (xvv xs)).toInt := (xfd_b _).1
  have f1 : (xfd (xvv xs)).toInt ≤ 2047 := (xfd_b _).2
  refine ⟨((((((W0 6 xs).set (30 + 3 * (xs 1).toInt.toNat) (Sum.inr (2, [Value.int 64, Value.int 0, Value.int 1, Value.int 0, Value.ref (31 + 3 * (xs 1).toInt.toNat)]))).set 194 (Sum.inl (3, 1, xup (fun _ => Value.long 0) (0 : Int32).toInt.toNat (Value.long 0)))).set 128 (Sum.inr (12, [Value.ref 129, Value.ref 131, Value.ref 133, Value.ref 135, Value.ref 137, Value.ref 139, Value.ref 141, Value.ref 143, Value.ref 145, Value.ref 147, Value.ref 149, Value.ref 151, Value.ref 153, Value.ref 154, Value.ref 155, Value.ref 156, Value.ref 157, Value.int (-16384), Value.int 16384, Value.int 0, Value.int 0, Value.int 0, Value.ref 158, Value.ref 159, Value.int 0, Value.int 0, Value.int 0, Value.int 0, Value.int 0, Value.int 0, Value.int 0, Value.int 0]))).set 154 (Sum.inl (0, 17, xup (fun _ => Value.int 0) (xs 1).toInt.toNat (Value.int 0)))).set 156 (Sum.inl (2, 17, xup (fun _ => Value.int 0) (xs 1).toInt.toNat (Value.int 0)))), ?_, (show xLs _ 220 200000 from ?_)⟩
  · refine i_287_23 (x := 0) rfl ?_
    refine i_287_25 (x := 0) rfl ?_
    refine i_287_26 (c := 6) W0_0 (by decide) ?_
    refine i_287_27 ?_
    refine i_287_29 (c := 0) (by decide) ?_
    refine i_287_30 (fun h => absurd h (by decide)) (fun _ => ?_)
    refine i_287_33 (x := 0) rfl ?_
    refine i_287_34 (x := 0) rfl ?_
    refine i_287_36 (v := Value.int (xs 0)) W0_0 (by decide) (by decide) rfl ?_
    refine i_287_37 ?_
    refine i_287_39 (c := 16) (show ((xs 0) &&& (31 : Int32)) = 16 from (xge_c (n := 16) (by omega) rfl)) ?_
    refine i_287_40_16 rfl ?_
    refine i_287_1540 (x := 7) rfl ?_
    refine i_287_1541 (x := 0) rfl ?_
    refine i_287_1542 (x := 0) rfl ?_
    refine i_287_1544 ?_
    refine i_287_1545 (c := 1) (by decide) ?_
    refine i_287_1546 (v := Value.int (xs 1)) W0_0 (by decide) (by decide) rfl ?_
    refine i_287_1547 (x := 0) rfl ?_
    refine i_287_1548 (x := 0) rfl ?_
    refine i_287_1550 ?_
    refine i_287_1551 (c := 2) (by decide) ?_
    refine i_287_1552 (v := Value.int (xs 2)) W0_0 (by decide) (by decide) rfl ?_
    refine i_287_1553 (c := (xs 2).toInt64) rfl ?_
    refine i_287_1554 ?_
    refine i_287_1556 (c := (xsh (xs 2) (32 : Int32))) rfl ?_
    refine i_287_1557 (x := 0) rfl ?_
    refine i_287_1558 (x := 0) rfl ?_
    refine i_287_1560 ?_
    refine i_287_1561 (c := 3) (by decide) ?_
    refine i_287_1562 (v := Value.int (xs 3)) W0_0 (by decide) (by decide) rfl ?_
    refine i_287_1563 (c := (xs 3).toInt64) rfl ?_
    refine i_287_1564 ?_
    refine i_287_1567 (c := (((xs 3).toInt64) &&& (4294967295 : Int64))) rfl ?_
    refine i_287_1568 (c := (xvv xs)) rfl ?_
    refine i_287_1569 (x := 0) rfl ?_
    refine i_287_1570 (x := 0) rfl ?_
    refine i_287_1572 ?_
    refine i_287_1573 (c := 4) (by decide) ?_
    refine i_287_1574 (v := Value.int (xs 4)) W0_0 (by decide) (by decide) rfl ?_
    refine i_287_1575 (x := 194) rfl ?_
    refine i_287_1576 (Nat.le_of_ble_eq_true rfl) (s_127_12 W0_7 (by omega) (by omega) (by omega) (by omega) W0_8 (greg_at (by omega)) (by omega) (show (xfd (xvv xs)) = 2047 from (xge_c (n := 2047) (by omega) rfl)) (by omega) (W0_reg (by omega)) (by omega) (by omega) W0_194) ?_
    refine i_287_1579 (lv2 := [(5, Value.int 0), (4, Value.int 0), (3, Value.ref 194), (2, Value.ref 128), (1, Value.ref 7), (0, Value.ref 0)]) rfl ?_
    refine i_287_1581 (x := 128) rfl ?_
    refine i_287_1582 (x := 0) rfl ?_
    refine i_287_1583 (x := 0) rfl ?_
    refine i_287_1585 ?_
    refine i_287_1586 (c := 1) (by decide) ?_
    refine i_287_1587 (v := Value.int (xs 1)) (xgn (by decide) (xgn (by omega) W0_0)) (by decide) (by decide) rfl ?_
    refine i_287_1588 (x := 0) rfl ?_
    refine i_287_1589 (x := 0) rfl ?_
    refine i_287_1591 ?_
    refine i_287_1592 (c := 2) (by decide) ?_
    refine i_287_1593 (v := Value.int (xs 2)) (xgn (by decide) (xgn (by omega) W0_0)) (by decide) (by decide) rfl ?_
    refine i_287_1594 (c := (xs 2).toInt64) rfl ?_
    refine i_287_1595 ?_
    refine i_287_1597 (c := (xsh (xs 2) (32 : Int32))) rfl ?_
    refine i_287_1598 (x := 0) rfl ?_
    refine i_287_1599 (x := 0) rfl ?_
    refine i_287_1601 ?_
    refine i_287_1602 (c := 3) (by decide) ?_
    refine i_287_1603 (v := Value.int (xs 3)) (xgn (by decide) (xgn (by omega) W0_0)) (by decide) (by decide) rfl ?_
    refine i_287_1604 (c := (xs 3).toInt64) rfl ?_
    refine i_287_1605 ?_
    refine i_287_1608 (c := (((xs 3).toInt64) &&& (4294967295 : Int64))) rfl ?_
    refine i_287_1609 (c := (xvv xs)) rfl ?_
    refine i_287_1610 (x := 0) rfl ?_
    refine i_287_1611 (x := 0) rfl ?_
    refine i_287_1613 ?_
    refine i_287_1614 (c := 4) (by decide) ?_
    refine i_287_1615 (v := Value.int (xs 4)) (xgn (by decide) (xgn (by omega) W0_0)) (by decide) (by decide) rfl ?_
    refine i_287_1616 (xgn (by decide) (xgn (by omega) W0_128)) (Nat.le_of_ble_eq_true rfl) (s_247_4 (xgn (by decide) (xgn (by omega) W0_128)) (by omega) (by omega) (by omega) (by omega) (show (xfe (xvv xs)) = (xfd (xvv xs)) from (xfe_eq _)) (by omega) (by omega) (xgn (by decide) (xgn (by omega) W0_154)) (by omega) (xgn (by decide) (xgn (by omega) W0_156))) ?_
    refine i_287_1619 (lv2 := [(6, Value.int 0), (5, Value.int 0), (4, Value.int 0), (3, Value.ref 194), (2, Value.ref 128), (1, Value.ref 7), (0, Value.ref 0)]) rfl ?_
    refine i_287_1621 (x := 128) rfl ?_
    refine i_287_1622 (xgn (by decide) (xgn (by decide) (xgs (xgn (by decide) (xgn (by omega) W0_128))))) (Nat.le_of_ble_eq_true rfl) (s_165_2 (xgn (by decide) (xgn (by decide) (xgs (xgn (by decide) (xgn (by omega) W0_128)))))) ?_
    refine i_287_1625 (x := 0) rfl ?_
    refine i_287_1627 (fun _ => ?_) (fun h => absurd h (by decide))
    refine i_287_1632 (x := 0) rfl ?_
    refine i_287_1634 (fun h => absurd h (by decide)) (fun _ => ?_)
    refine i_287_1637 (x := 194) rfl ?_
    refine i_287_1638 ?_
    refine i_287_1639 (v := Value.long 0) (xgn (by decide) (xgn (by decide) (xgn (by decide) (xgs (xgn (by omega) W0_194))))) (by decide) (by decide) xup_s ?_
    refine i_287_1640 (x := 0) rfl ?_
    refine i_287_1642 (c := 0) (by decide) ?_
    refine i_287_1643 (c := 0) (by decide) ?_
    refine i_287_1644 (fun _ => ?_) (fun h => absurd h (by decide))
    refine i_287_1649 ?_
    refine i_287_2154 (x := 0) (c := 6) (lv2 := [(4, Value.int 6), (6, Value.int 0), (5, Value.int 0), (3, Value.ref 194), (2, Value.ref 128), (1, Value.ref 7), (0, Value.ref 0)]) rfl (by decide) rfl ?_
    refine i_287_2157 ?_
    refine i_287_23 (x := 6) rfl ?_
    refine i_287_25 (x := 0) rfl ?_
    refine i_287_26 (c := 6) (xgn (by decide) (xgn (by decide) (xgn (by decide) (xgn (by decide) (xgn (by omega) W0_0))))) (by decide) ?_
    refine i_287_27 ?_
    refine i_287_29 (c := 0) (by decide) ?_
    refine i_287_30 (fun _ => ?_) (fun h => absurd h (by decide))
    refine i_287_2160 ?_
    exact i_287_2161 rfl ⟨rfl, rfl⟩
  · refine xLs.set ?_ (xgn (by decide) (xgn (by decide) (xgn (by decide) (xgn (by omega) W0_156)))) xcs_a
    refine xLs.set ?_ (xgn (by decide) (xgn (by decide) (xgn (by omega) W0_154))) xcs_a
    refine xLs.set ?_ (xgn (by decide) (xgn (by omega) W0_128)) xcs_o
    refine xLs.set ?_ (xgn (by omega) W0_194) xcs_a
    refine xLs.set ?_ (W0_reg (by omega)) xcs_o
    exact ⟨Nat.le_trans (Nat.le_of_eq W0_len) (by decide), Nat.le_trans (Nat.le_of_eq W0_sz) (by decide)⟩
theorem s_17_7 {d : Nat} {w : xW} {h0 : Nat} {h1 : Nat} (hw0 : w[h0]? = some (Sum.inr (2, [Value.int 64, Value.int 0, Value.int 0, Value.int 0, Value.ref h1]))) (e1 : 7 ≤ h0) : xRun d 17 [Value.ref h0, Value.int 2, Value.int 1] w (.inl (some (Value.int 0))) (w.set h0 (Sum.inr (2, [Value.int 64, Value.int 2, Value.int 1, Value.int 0, Value.ref h1]))) := by
  refine xRun.of ?_
  refine i_17_0 (x := h0) rfl ?_
  refine i_17_1 (x := 2) rfl ?_
  refine i_17_2 (fs2 := [Value.int 64, Value.int 2, Value.int 0, Value.int 0, Value.ref h1]) hw0 (Nat.le_of_ble_eq_true rfl) rfl e1 ?_
  refine i_17_5 (x := h0) rfl ?_
  refine i_17_6 (x := 1) rfl ?_
  refine i_17_7 (fs2 := [Value.int 64, Value.int 2, Value.int 1, Value.int 0, Value.ref h1]) (xgs hw0) rfl (Nat.le_of_ble_eq_true rfl) rfl e1 ?_
  refine xEv.world (List.set_set _) ?_
  refine i_17_10 ?_
  exact i_17_11 ⟨rfl, rfl⟩
theorem s_23_3 {d : Nat} {w : xW} {h0 : Nat} {h1 : Nat} (hw0 : w[h0]? = some (Sum.inr (2, [Value.int 64, Value.int 0, Value.int 0, Value.int 0, Value.ref h1]))) (e1 : 7 ≤ h0) : xRun (d + 1) 23 [Value.ref h0, Value.int 1] w (.inl (some (Value.int 0))) (w.set h0 (Sum.inr (2, [Value.int 64, Value.int 2, Value.int 1, Value.int 0, Value.ref h1]))) := by
  refine xRun.of ?_
  refine i_23_0 (x := h0) rfl ?_
  refine i_23_1 ?_
  refine i_23_2 (x := 1) rfl ?_
  refine i_23_3 hw0 (Nat.le_of_ble_eq_true rfl) (s_17_7 hw0 e1) ?_
  exact i_23_6 ⟨rfl, rfl⟩
theorem s_128_13 {d : Nat} {w : xW} {a0 : Int32} {b0 : Int64} {a1 : Int32} {g0 : Nat → Value} {h0 : Nat} {h1 : Nat} (e0 : 0 ≤ a0.toInt) (e1 : a0.toInt < 16) (e2 : 0 ≤ a1.toInt) (e3 : a1.toInt ≤ 4) (hw4 : w[7]? = some (Sum.inr (0, [Value.ref 8, Value.ref 78, Value.ref 9, Value.ref 10, Value.ref 13, Value.ref 16, Value.ref 19, Value.ref 93, Value.ref 108, Value.ref 113, Value.ref 29, Value.int 0]))) (hw5 : w[8]? = some (Sum.inl (4, 16, g0))) (hg6 : g0 a0.toInt.toNat = Value.ref h0) (e7 : (lg_cmp b0 (0 : Int64)).toInt < 0) (hg8 : (xfd b0) = 0) (hg9 : (lg_cmp (xfr b0) (0 : Int64)) = 0) (hw10 : w[h0]? = some (Sum.inr (2, [Value.int 64, Value.int 0, Value.int 0, Value.int 0, Value.ref h1]))) (e11 : 7 ≤ h0) : xRun (d + 2) 128 [Value.ref 7, Value.int a0, Value.long b0, Value.int a1] w (.inl (some (Value.int 0))) (w.set h0 (Sum.inr (2, [Value.int 64, Value.int 2, Value.int 1, Value.int 0, Value.ref h1]))) := by
  refine xRun.of ?_
  refine i_128_0 (x := a0) rfl ?_
  refine i_128_1 (Nat.le_of_ble_eq_true rfl) (s_15_0 e0 e1) ?_
  refine i_128_4 (fun h => absurd h (by decide)) (fun _ => ?_)
  refine i_128_7 (x := a1) rfl ?_
  refine i_128_9 (Nat.le_of_ble_eq_true rfl) (s_22_0 e2 e3) ?_
  refine i_128_12 (fun _ => ?_) (fun h => absurd h (by decide))
  refine i_128_23 (x := 7) rfl ?_
  refine i_128_24 (v := Value.ref 8) hw4 rfl ?_
  refine i_128_27 (x := a0) rfl ?_
  refine i_128_28 (v := Value.ref h0) hw5 e0 e1 hg6 ?_
  refine i_128_29 (lv2 := [(5, Value.ref h0), (0, Value.ref 7), (1, Value.int a0), (2, Value.long b0), (4, Value.int a1)]) rfl ?_
  refine i_128_31 (x := b0) rfl ?_
  refine i_128_32 ?_
  refine i_128_33 (c := (lg_cmp b0 (0 : Int64))) rfl ?_
  refine i_128_34 (fun h => absurd e7 (Int.not_lt.mpr h)) (fun _ => ?_)
  refine i_128_37 ?_
  refine i_128_38 ?_
  refine i_128_42 (lv2 := [(6, Value.int 1), (5, Value.ref h0), (0, Value.ref 7), (1, Value.int a0), (2, Value.long b0), (4, Value.int a1)]) rfl ?_
  refine i_128_44 (x := b0) rfl ?_
  refine i_128_45 ?_
  refine i_128_47 (c := (xsr b0 52)) rfl ?_
  refine i_128_48 (c := (xsr b0 52).toInt32) rfl ?_
  refine i_128_49 ?_
  refine i_128_52 (c := 0) hg8 ?_
  refine i_128_53 (lv2 := [(7, Value.int 0), (6, Value.int 1), (5, Value.ref h0), (0, Value.ref 7), (1, Value.int a0), (2, Value.long b0), (4, Value.int a1)]) rfl ?_
  refine i_128_55 (x := b0) rfl ?_
  refine i_128_56 ?_
  refine i_128_59 (c := (xfr b0)) rfl ?_
  refine i_128_60 (lv2 := [(8, Value.long (xfr b0)), (7, Value.int 0), (6, Value.int 1), (5, Value.ref h0), (0, Value.ref 7), (1, Value.int a0), (2, Value.long b0), (4, Value.int a1)]) rfl ?_
  refine i_128_62 (x := 0) rfl ?_
  refine i_128_64 ?_
  refine i_128_67 (fun _ => ?_) (fun h => absurd h (by decide))
  refine i_128_90 (x := 0) rfl ?_
  refine i_128_92 (fun h => absurd h (by decide)) (fun _ => ?_)
  refine i_128_95 (x := (xfr b0)) rfl ?_
  refine i_128_97 ?_
  refine i_128_98 (c := 0) hg9 ?_
  refine i_128_99 (fun h => absurd h (by decide)) (fun _ => ?_)
  refine i_128_102 (x := h0) rfl ?_
  refine i_128_104 (x := 1) rfl ?_
  refine i_128_106 hw10 (Nat.le_of_ble_eq_true rfl) (s_23_3 hw10 e11) ?_
  exact i_128_109 ⟨rfl, rfl⟩
theorem s_127_13 {d : Nat} {w : xW} {a0 : Int32} {b0 : Int64} {a1 : Int32} {g0 : Nat → Value} {h0 : Nat} {h1 : Nat} (hw0 : w[7]? = some (Sum.inr (0, [Value.ref 8, Value.ref 78, Value.ref 9, Value.ref 10, Value.ref 13, Value.ref 16, Value.ref 19, Value.ref 93, Value.ref 108, Value.ref 113, Value.ref 29, Value.int 0]))) (e1 : 0 ≤ a0.toInt) (e2 : a0.toInt < 16) (e3 : 0 ≤ a1.toInt) (e4 : a1.toInt ≤ 4) (hw5 : w[8]? = some (Sum.inl (4, 16, g0))) (hg6 : g0 a0.toInt.toNat = Value.ref h0) (e7 : (lg_cmp b0 (0 : Int64)).toInt < 0) (hg8 : (xfd b0) = 0) (hg9 : (lg_cmp (xfr b0) (0 : Int64)) = 0) (hw10 : w[h0]? = some (Sum.inr (2, [Value.int 64, Value.int 0, Value.int 0, Value.int 0, Value.ref h1]))) (e11 : 7 ≤ h0) (e12 : h0 ≠ 194) (hw13 : w[194]? = some (Sum.inl (3, 1, fun _ => Value.long 0))) : xRun (d + 3) 127 [Value.ref 7, Value.int a0, Value.long b0, Value.int a1, Value.ref 194] w (.inl (some (Value.int 0))) ((w.set h0 (Sum.inr (2, [Value.int 64, Value.int 2, Value.int 1, Value.int 0, Value.ref h1]))).set 194 (Sum.inl (3, 1, xup (fun _ => Value.long 0) (0 : Int32).toInt.toNat (Value.long 0)))) := by
  refine xRun.of ?_
  refine i_127_0 (x := 194) rfl ?_
  refine i_127_2 ?_
  refine i_127_3 (x := 7) rfl ?_
  refine i_127_4 (x := a0) rfl ?_
  refine i_127_5 (x := b0) rfl ?_
  refine i_127_6 (x := a1) rfl ?_
  refine i_127_8 hw0 (Nat.le_of_ble_eq_true rfl) (s_128_13 e1 e2 e3 e4 hw0 hw5 hg6 e7 hg8 hg9 hw10 e11) ?_
  refine i_127_11 (c := 0) (by decide) ?_
  refine i_127_12 (v := Value.long 0) (xgn e12 hw13) (by decide) (by decide) (by decide) rfl ?_
  refine i_127_13 ?_
  refine i_127_20 ?_
  exact i_127_21 ⟨rfl, rfl⟩
theorem s_171_7 {d : Nat} {w : xW} {a0 : Int32} (hw0 : w[128]? = some (Sum.inr (12, [Value.ref 129, Value.ref 131, Value.ref 133, Value.ref 135, Value.ref 137, Value.ref 139, Value.ref 141, Value.ref 143, Value.ref 145, Value.ref 147, Value.ref 149, Value.ref 151, Value.ref 153, Value.ref 154, Value.ref 155, Value.ref 156, Value.ref 157, Value.int (-16384), Value.int 16384, Value.int 0, Value.int 0, Value.int 0, Value.ref 158, Value.ref 159, Value.int 0, Value.int 0, Value.int 0, Value.int 0, Value.int 0, Value.int 0, Value.int 0, Value.int 0]))) (hw1 : w[154]? = some (Sum.inl (0, 17, fun _ => Value.int 0))) (e2 : 0 ≤ a0.toInt) (e3 : a0.toInt < 17) (hw4 : w[156]? = some (Sum.inl (2, 17, fun _ => Value.int 0))) : xRun d 171 [Value.ref 128, Value.int a0, Value.int 2, Value.int 1] w (.inl (some (Value.int 0))) ((w.set 154 (Sum.inl (0, 17, xup (fun _ => Value.int 0) a0.toInt.toNat (Value.int 2)))).set 156 (Sum.inl (2, 17, xup (fun _ => Value.int 0) a0.toInt.toNat (Value.int 1)))) := by
  refine xRun.of ?_
  refine i_171_0 (x := 128) rfl ?_
  refine i_171_1 (v := Value.ref 154) hw0 rfl ?_
  refine i_171_4 (x := a0) rfl ?_
  refine i_171_5 (x := 2) rfl ?_
  refine i_171_6 (v := Value.int 2) hw1 e2 e3 (by decide) rfl ?_
  refine i_171_7 (x := 128) rfl ?_
  refine i_171_8 (v := Value.ref 156) (xgn (by decide) hw0) rfl ?_
  refine i_171_11 (x := a0) rfl ?_
  refine i_171_12 (x := 1) rfl ?_
  refine i_171_13z (v := Value.int 1) (xgn (by decide) hw4) e2 e3 (by decide) rfl ?_
  refine i_171_14 ?_
  exact i_171_15 ⟨rfl, rfl⟩
theorem s_248_5 {d : Nat} {w : xW} {a0 : Int32} {b0 : Int64} {a1 : Int32} {a2 : Int32} (e0 : 0 ≤ a0.toInt) (e1 : a0.toInt ≤ 15) (e2 : 0 ≤ a1.toInt) (e3 : a1.toInt ≤ 4) (hg4 : (xfe b0) = a2) (e5 : a2.toInt ≠ 2047) (e6 : a2.toInt = 0) (hg7 : (lg_cmp (xfr b0) (0 : Int64)) = 0) (e8 : (lg_cmp b0 (0 : Int64)).toInt < 0) (hw9 : w[128]? = some (Sum.inr (12, [Value.ref 129, Value.ref 131, Value.ref 133, Value.ref 135, Value.ref 137, Value.ref 139, Value.ref 141, Value.ref 143, Value.ref 145, Value.ref 147, Value.ref 149, Value.ref 151, Value.ref 153, Value.ref 154, Value.ref 155, Value.ref 156, Value.ref 157, Value.int (-16384), Value.int 16384, Value.int 0, Value.int 0, Value.int 0, Value.ref 158, Value.ref 159, Value.int 0, Value.int 0, Value.int 0, Value.int 0, Value.int 0, Value.int 0, Value.int 0, Value.int 0]))) (hw10 : w[154]? = some (Sum.inl (0, 17, fun _ => Value.int 0))) (e11 : a0.toInt < 17) (hw12 : w[156]? = some (Sum.inl (2, 17, fun _ => Value.int 0))) : xRun (d + 2) 248 [Value.ref 128, Value.int a0, Value.long b0, Value.int a1] w (.inl (some (Value.int 0))) ((w.set 154 (Sum.inl (0, 17, xup (fun _ => Value.int 0) a0.toInt.toNat (Value.int 2)))).set 156 (Sum.inl (2, 17, xup (fun _ => Value.int 0) a0.toInt.toNat (Value.int 1)))) := by
  refine xRun.of ?_
  refine i_248_0 (x := a0) rfl ?_
  refine i_248_1 (Nat.le_of_ble_eq_true rfl) (s_168_0 e0 e1) ?_
  refine i_248_4 (x := a1) rfl ?_
  refine i_248_6 (Nat.le_of_ble_eq_true rfl) (s_178_0 e2 e3) ?_
  refine i_248_9 (x := b0) rfl ?_
  refine i_248_10 ?_
  refine i_248_12 (c := (b0 >>> ((52 : Int32).toInt64 &&& 63))) rfl ?_
  refine i_248_13 (c := (b0 >>> ((52 : Int32).toInt64 &&& 63)).toInt32) rfl ?_
  refine i_248_14 ?_
  refine i_248_17 (c := a2) hg4 ?_
  refine i_248_18 (lv2 := [(5, Value.int a2), (0, Value.ref 128), (1, Value.int a0), (2, Value.long b0), (4, Value.int a1)]) rfl ?_
  refine i_248_20 (x := b0) rfl ?_
  refine i_248_21 ?_
  refine i_248_24 (c := (xfr b0)) rfl ?_
  refine i_248_25 (lv2 := [(6, Value.long (xfr b0)), (5, Value.int a2), (0, Value.ref 128), (1, Value.int a0), (2, Value.long b0), (4, Value.int a1)]) rfl ?_
  refine i_248_27 (x := a2) rfl ?_
  refine i_248_29 ?_
  refine i_248_32 (fun _ => ?_) (fun h => absurd e5 (fun g => g h))
  refine i_248_71 (x := a2) rfl ?_
  refine i_248_73 (fun h => absurd e6 h) (fun _ => ?_)
  refine i_248_76 (x := (xfr b0)) rfl ?_
  refine i_248_78 ?_
  refine i_248_79 (c := 0) hg7 ?_
  refine i_248_80 (fun h => absurd h (by decide)) (fun _ => ?_)
  refine i_248_83 (x := 128) rfl ?_
  refine i_248_84 (x := a0) rfl ?_
  refine i_248_85 ?_
  refine i_248_86 (x := b0) rfl ?_
  refine i_248_87 ?_
  refine i_248_88 (c := (lg_cmp b0 (0 : Int64))) rfl ?_
  refine i_248_89 (fun h => absurd e8 (Int.not_lt.mpr h)) (fun _ => ?_)
  refine i_248_92 ?_
  refine i_248_93 ?_
  refine i_248_97 hw9 (Nat.le_of_ble_eq_true rfl) (s_171_7 hw9 hw10 e0 e11 hw12) ?_
  exact i_248_100 ⟨rfl, rfl⟩
theorem s_247_5 {d : Nat} {w : xW} {a0 : Int32} {b0 : Int64} {a1 : Int32} {a2 : Int32} (hw0 : w[128]? = some (Sum.inr (12, [Value.ref 129, Value.ref 131, Value.ref 133, Value.ref 135, Value.ref 137, Value.ref 139, Value.ref 141, Value.ref 143, Value.ref 145, Value.ref 147, Value.ref 149, Value.ref 151, Value.ref 153, Value.ref 154, Value.ref 155, Value.ref 156, Value.ref 157, Value.int (-16384), Value.int 16384, Value.int 0, Value.int 0, Value.int 0, Value.ref 158, Value.ref 159, Value.int 0, Value.int 0, Value.int 0, Value.int 0, Value.int 0, Value.int 0, Value.int 0, Value.int 0]))) (e1 : 0 ≤ a0.toInt) (e2 : a0.toInt ≤ 15) (e3 : 0 ≤ a1.toInt) (e4 : a1.toInt ≤ 4) (hg5 : (xfe b0) = a2) (e6 : a2.toInt ≠ 2047) (e7 : a2.toInt = 0) (hg8 : (lg_cmp (xfr b0) (0 : Int64)) = 0) (e9 : (lg_cmp b0 (0 : Int64)).toInt < 0) (hw10 : w[154]? = some (Sum.inl (0, 17, fun _ => Value.int 0))) (e11 : a0.toInt < 17) (hw12 : w[156]? = some (Sum.inl (2, 17, fun _ => Value.int 0))) : xRun (d + 3) 247 [Value.ref 128, Value.int a0, Value.long b0, Value.int a1] w (.inl (some (Value.int 0))) (((w.set 128 (Sum.inr (12, [Value.ref 129, Value.ref 131, Value.ref 133, Value.ref 135, Value.ref 137, Value.ref 139, Value.ref 141, Value.ref 143, Value.ref 145, Value.ref 147, Value.ref 149, Value.ref 151, Value.ref 153, Value.ref 154, Value.ref 155, Value.ref 156, Value.ref 157, Value.int (-16384), Value.int 16384, Value.int 0, Value.int 0, Value.int 0, Value.ref 158, Value.ref 159, Value.int 0, Value.int 0, Value.int 0, Value.int 0, Value.int 0, Value.int 0, Value.int 0, Value.int 0]))).set 154 (Sum.inl (0, 17, xup (fun _ => Value.int 0) a0.toInt.toNat (Value.int 2)))).set 156 (Sum.inl (2, 17, xup (fun _ => Value.int 0) a0.toInt.toNat (Value.int 1)))) := by
  refine xRun.of ?_
  refine i_247_0 (x := 128) rfl ?_
  refine i_247_1 ?_
  refine i_247_2 (fs2 := [Value.ref 129, Value.ref 131, Value.ref 133, Value.ref 135, Value.ref 137, Value.ref 139, Value.ref 141, Value.ref 143, Value.ref 145, Value.ref 147, Value.ref 149, Value.ref 151, Value.ref 153, Value.ref 154, Value.ref 155, Value.ref 156, Value.ref 157, Value.int (-16384), Value.int 16384, Value.int 0, Value.int 0, Value.int 0, Value.ref 158, Value.ref 159, Value.int 0, Value.int 0, Value.int 0, Value.int 0, Value.int 0, Value.int 0, Value.int 0, Value.int 0]) hw0 (Nat.le_of_ble_eq_true rfl) rfl (by decide) ?_
  refine i_247_5 (x := 128) rfl ?_
  refine i_247_6 (x := a0) rfl ?_
  refine i_247_7 (x := b0) rfl ?_
  refine i_247_8 (x := a1) rfl ?_
  refine i_247_10 (xgs hw0) (Nat.le_of_ble_eq_true rfl) (s_248_5 e1 e2 e3 e4 hg5 e6 e7 hg8 e9 (xgs hw0) (xgn (by decide) hw10) e11 (xgn (by decide) hw12)) ?_
  exact i_247_13 ⟨rfl, rfl⟩
theorem o_16_5 {d : Nat} {xs : Nat → Int32} (h0 : ((xs 0) &&& (31 : Int32)).toInt = 16) (c0 : 0 ≤ (xs 1).toInt) (c1 : (xs 1).toInt < 16) (c2 : 0 ≤ (xs 4).toInt) (c3 : (xs 4).toInt ≤ 4) (c4 : (lg_cmp (xvv xs) (0 : Int64)).toInt < 0) (c5 : (xfd (xvv xs)).toInt ≠ 2047) (c6 : (xfd (xvv xs)).toInt = 0) (c7 : (lg_cmp (xfr (xvv xs)) (0 : Int64)).toInt = 0) : ∃ w1, xEv (d + 20) 287 23 [(4, Value.int 0), (3, Value.ref 194), (2, Value.ref 128), (1, Value.ref 7), (0, Value.ref 0)] [] (W0 6 xs) (fun o' w' => o' = .inl (some (Value.int 1)) ∧ w' = w1) ∧ w1.length ≤ 220 ∧ xsz w1 ≤ 200000 := by
  have f0 : 0 ≤ (xfd (xvv xs)).toInt := (xfd_b _).1
  have f1 : (xfd (xvv xs)).toInt ≤ 2047 := (xfd_b _).2
  refine ⟨((((((W0 6 xs).set (30 + 3 * (xs 1).toInt.toNat) (Sum.inr (2, [Value.int 64, Value.int 2, Value.int 1, Value.int 0, Value.ref (31 + 3 * (xs 1).toInt.toNat)]))).set 194 (Sum.inl (3, 1, xup (fun _ => Value.long 0) (0 : Int32).toInt.toNat (Value.long 0)))).set 128 (Sum.inr (12, [Value.ref 129, Value.ref 131, Value.ref 133, Value.ref 135, Value.ref 137, Value.ref 139, Value.ref 141, Value.ref 143, Value.ref 145, Value.ref 147, Value.ref 149, Value.ref 151, Value.ref 153, Value.ref 154, Value.ref 155, Value.ref 156, Value.ref 157, Value.int (-16384), Value.int 16384, Value.int 0, Value.int 0, Value.int 0, Value.ref 158, Value.ref 159, Value.int 0, Value.int 0, Value.int 0, Value.int 0, Value.int 0, Value.int 0, Value.int 0, Value.int 0]))).set 154 (Sum.inl (0, 17, xup (fun _ => Value.int 0) (xs 1).toInt.toNat (Value.int 2)))).set 156 (Sum.inl (2, 17, xup (fun _ => Value.int 0) (xs 1).toInt.toNat (Value.int 1)))), ?_, (show xLs _ 220 200000 from ?_)⟩
  · refine i_287_23 (x := 0) rfl ?_
    refine i_287_25 (x := 0) rfl ?_
    refine i_287_26 (c := 6) W0_0 (by decide) ?_
    refine i_287_27 ?_
    refine i_287_29 (c := 0) (by decide) ?_
    refine i_287_30 (fun h => absurd h (by decide)) (fun _ => ?_)
    refine i_287_33 (x := 0) rfl ?_
    refine i_287_34 (x := 0) rfl ?_
    refine i_287_36 (v := Value.int (xs 0)) W0_0 (by decide) (by decide) rfl ?_
    refine i_287_37 ?_
    refine i_287_39 (c := 16) (show ((xs 0) &&& (31 : Int32)) = 16 from (xge_c (n := 16) (by omega) rfl)) ?_
    refine i_287_40_16 rfl ?_
    refine i_287_1540 (x := 7) rfl ?_
    refine i_287_1541 (x := 0) rfl ?_
    refine i_287_1542 (x := 0) rfl ?_
    refine i_287_1544 ?_
    refine i_287_1545 (c := 1) (by decide) ?_
    refine i_287_1546 (v := Value.int (xs 1)) W0_0 (by decide) (by decide) rfl ?_
    refine i_287_1547 (x := 0) rfl ?_
    refine i_287_1548 (x := 0) rfl ?_
    refine i_287_1550 ?_
    refine i_287_1551 (c := 2) (by decide) ?_
    refine i_287_1552 (v := Value.int (xs 2)) W0_0 (by decide) (by decide) rfl ?_
    refine i_287_1553 (c := (xs 2).toInt64) rfl ?_
    refine i_287_1554 ?_
    refine i_287_1556 (c := (xsh (xs 2) (32 : Int32))) rfl ?_
    refine i_287_1557 (x := 0) rfl ?_
    refine i_287_1558 (x := 0) rfl ?_
    refine i_287_1560 ?_
    refine i_287_1561 (c := 3) (by decide) ?_
    refine i_287_1562 (v := Value.int (xs 3)) W0_0 (by decide) (by decide) rfl ?_
    refine i_287_1563 (c := (xs 3).toInt64) rfl ?_
    refine i_287_1564 ?_
    refine i_287_1567 (c := (((xs 3).toInt64) &&& (4294967295 : Int64))) rfl ?_
    refine i_287_1568 (c := (xvv xs)) rfl ?_
    refine i_287_1569 (x := 0) rfl ?_
    refine i_287_1570 (x := 0) rfl ?_
    refine i_287_1572 ?_
    refine i_287_1573 (c := 4) (by decide) ?_
    refine i_287_1574 (v := Value.int (xs 4)) W0_0 (by decide) (by decide) rfl ?_
    refine i_287_1575 (x := 194) rfl ?_
    refine i_287_1576 (Nat.le_of_ble_eq_true rfl) (s_127_13 W0_7 (by omega) (by omega) (by omega) (by omega) W0_8 (greg_at (by omega)) (by omega) (show (xfd (xvv xs)) = 0 from (xge_c (n := 0) (by omega) rfl)) (show (lg_cmp (xfr (xvv xs)) (0 : Int64)) = 0 from (xge_c (n := 0) (by omega) rfl)) (W0_reg (by omega)) (by omega) (by omega) W0_194) ?_
    refine i_287_1579 (lv2 := [(5, Value.int 0), (4, Value.int 0), (3, Value.ref 194), (2, Value.ref 128), (1, Value.ref 7), (0, Value.ref 0)]) rfl ?_
    refine i_287_1581 (x := 128) rfl ?_
    refine i_287_1582 (x := 0) rfl ?_
    refine i_287_1583 (x := 0) rfl ?_
    refine i_287_1585 ?_
    refine i_287_1586 (c := 1) (by decide) ?_
    refine i_287_1587 (v := Value.int (xs 1)) (xgn (by decide) (xgn (by omega) W0_0)) (by decide) (by decide) rfl ?_
    refine i_287_1588 (x := 0) rfl ?_
    refine i_287_1589 (x := 0) rfl ?_
    refine i_287_1591 ?_
    refine i_287_1592 (c := 2) (by decide) ?_
    refine i_287_1593 (v := Value.int (xs 2)) (xgn (by decide) (xgn (by omega) W0_0)) (by decide) (by decide) rfl ?_
    refine i_287_1594 (c := (xs 2).toInt64) rfl ?_
    refine i_287_1595 ?_
    refine i_287_1597 (c := (xsh (xs 2) (32 : Int32))) rfl ?_
    refine i_287_1598 (x := 0) rfl ?_
    refine i_287_1599 (x := 0) rfl ?_
    refine i_287_1601 ?_
    refine i_287_1602 (c := 3) (by decide) ?_
    refine i_287_1603 (v := Value.int (xs 3)) (xgn (by decide) (xgn (by omega) W0_0)) (by decide) (by decide) rfl ?_
    refine i_287_1604 (c := (xs 3).toInt64) rfl ?_
    refine i_287_1605 ?_
    refine i_287_1608 (c := (((xs 3).toInt64) &&& (4294967295 : Int64))) rfl ?_
    refine i_287_1609 (c := (xvv xs)) rfl ?_
    refine i_287_1610 (x := 0) rfl ?_
    refine i_287_1611 (x := 0) rfl ?_
    refine i_287_1613 ?_
    refine i_287_1614 (c := 4) (by decide) ?_
    refine i_287_1615 (v := Value.int (xs 4)) (xgn (by decide) (xgn (by omega) W0_0)) (by decide) (by decide) rfl ?_
    refine i_287_1616 (xgn (by decide) (xgn (by omega) W0_128)) (Nat.le_of_ble_eq_true rfl) (s_247_5 (xgn (by decide) (xgn (by omega) W0_128)) (by omega) (by omega) (by omega) (by omega) (show (xfe (xvv xs)) = (xfd (xvv xs)) from (xfe_eq _)) (by omega) (by omega) (show (lg_cmp (xfr (xvv xs)) (0 : Int64)) = 0 from (xge_c (n := 0) (by omega) rfl)) (by omega) (xgn (by decide) (xgn (by omega) W0_154)) (by omega) (xgn (by decide) (xgn (by omega) W0_156))) ?_
    refine i_287_1619 (lv2 := [(6, Value.int 0), (5, Value.int 0), (4, Value.int 0), (3, Value.ref 194), (2, Value.ref 128), (1, Value.ref 7), (0, Value.ref 0)]) rfl ?_
    refine i_287_1621 (x := 128) rfl ?_
    refine i_287_1622 (xgn (by decide) (xgn (by decide) (xgs (xgn (by decide) (xgn (by omega) W0_128))))) (Nat.le_of_ble_eq_true rfl) (s_165_2 (xgn (by decide) (xgn (by decide) (xgs (xgn (by decide) (xgn (by omega) W0_128)))))) ?_
    refine i_287_1625 (x := 0) rfl ?_
    refine i_287_1627 (fun _ => ?_) (fun h => absurd h (by decide))
    refine i_287_1632 (x := 0) rfl ?_
    refine i_287_1634 (fun h => absurd h (by decide)) (fun _ => ?_)
    refine i_287_1637 (x := 194) rfl ?_
    refine i_287_1638 ?_
    refine i_287_1639 (v := Value.long 0) (xgn (by decide) (xgn (by decide) (xgn (by decide) (xgs (xgn (by omega) W0_194))))) (by decide) (by decide) xup_s ?_
    refine i_287_1640 (x := 0) rfl ?_
    refine i_287_1642 (c := 0) (by decide) ?_
    refine i_287_1643 (c := 0) (by decide) ?_
    refine i_287_1644 (fun _ => ?_) (fun h => absurd h (by decide))
    refine i_287_1649 ?_
    refine i_287_2154 (x := 0) (c := 6) (lv2 := [(4, Value.int 6), (6, Value.int 0), (5, Value.int 0), (3, Value.ref 194), (2, Value.ref 128), (1, Value.ref 7), (0, Value.ref 0)]) rfl (by decide) rfl ?_
    refine i_287_2157 ?_
    refine i_287_23 (x := 6) rfl ?_
    refine i_287_25 (x := 0) rfl ?_
    refine i_287_26 (c := 6) (xgn (by decide) (xgn (by decide) (xgn (by decide) (xgn (by decide) (xgn (by omega) W0_0))))) (by decide) ?_
    refine i_287_27 ?_
    refine i_287_29 (c := 0) (by decide) ?_
    refine i_287_30 (fun _ => ?_) (fun h => absurd h (by decide))
    refine i_287_2160 ?_
    exact i_287_2161 rfl ⟨rfl, rfl⟩
  · refine xLs.set ?_ (xgn (by decide) (xgn (by decide) (xgn (by decide) (xgn (by omega) W0_156)))) xcs_a
    refine xLs.set ?_ (xgn (by decide) (xgn (by decide) (xgn (by omega) W0_154))) xcs_a
    refine xLs.set ?_ (xgn (by decide) (xgn (by omega) W0_128)) xcs_o
    refine xLs.set ?_ (xgn (by omega) W0_194) xcs_a
    refine xLs.set ?_ (W0_reg (by omega)) xcs_o
    exact ⟨Nat.le_trans (Nat.le_of_eq W0_len) (by decide), Nat.le_trans (Nat.le_of_eq W0_sz) (by decide)⟩
theorem s_17_8 {d : Nat} {w : xW} {h0 : Nat} {h1 : Nat} (hw0 : w[h0]? = some (Sum.inr (2, [Value.int 64, Value.int 0, Value.int 0, Value.int 0, Value.ref h1]))) (e1 : 7 ≤ h0) : xRun d 17 [Value.ref h0, Value.int 1, Value.int 0] w (.inl (some (Value.int 0))) (w.set h0 (Sum.inr (2, [Value.int 64, Value.int 1, Value.int 0, Value.int 0, Value.ref h1]))) := by
  refine xRun.of ?_
  refine i_17_0 (x := h0) rfl ?_
  refine i_17_1 (x := 1) rfl ?_
  refine i_17_2 (fs2 := [Value.int 64, Value.int 1, Value.int 0, Value.int 0, Value.ref h1]) hw0 (Nat.le_of_ble_eq_true rfl) rfl e1 ?_
  refine i_17_5 (x := h0) rfl ?_
  refine i_17_6 (x := 0) rfl ?_
  refine i_17_7 (fs2 := [Value.int 64, Value.int 1, Value.int 0, Value.int 0, Value.ref h1]) (xgs hw0) rfl (Nat.le_of_ble_eq_true rfl) rfl e1 ?_
  refine xEv.world (List.set_set _) ?_
  refine i_17_10 ?_
  exact i_17_11 ⟨rfl, rfl⟩
theorem s_128_14 {d : Nat} {w : xW} {a0 : Int32} {b0 : Int64} {a1 : Int32} {g0 : Nat → Value} {h0 : Nat} {h1 : Nat} (e0 : 0 ≤ a0.toInt) (e1 : a0.toInt < 16) (e2 : 0 ≤ a1.toInt) (e3 : a1.toInt ≤ 4) (hw4 : w[7]? = some (Sum.inr (0, [Value.ref 8, Value.ref 78, Value.ref 9, Value.ref 10, Value.ref 13, Value.ref 16, Value.ref 19, Value.ref 93, Value.ref 108, Value.ref 113, Value.ref 29, Value.int 0]))) (hw5 : w[8]? = some (Sum.inl (4, 16, g0))) (hg6 : g0 a0.toInt.toNat = Value.ref h0) (e7 : 0 ≤ (lg_cmp b0 (0 : Int64)).toInt) (hg8 : (xfd b0) = 2047) (hg9 : (lg_cmp (xfr b0) (0 : Int64)) = 0) (hw10 : w[h0]? = some (Sum.inr (2, [Value.int 64, Value.int 0, Value.int 0, Value.int 0, Value.ref h1]))) (e11 : 7 ≤ h0) : xRun (d + 1) 128 [Value.ref 7, Value.int a0, Value.long b0, Value.int a1] w (.inl (some (Value.int 0))) (w.set h0 (Sum.inr (2, [Value.int 64, Value.int 1, Value.int 0, Value.int 0, Value.ref h1]))) := by
  refine xRun.of ?_
  refine i_128_0 (x := a0) rfl ?_
  refine i_128_1 (Nat.le_of_ble_eq_true rfl) (s_15_0 e0 e1) ?_
  refine i_128_4 (fun h => absurd h (by decide)) (fun _ => ?_)
  refine i_128_7 (x := a1) rfl ?_
  refine i_128_9 (Nat.le_of_ble_eq_true rfl) (s_22_0 e2 e3) ?_
  refine i_128_12 (fun _ => ?_) (fun h => absurd h (by decide))
  refine i_128_23 (x := 7) rfl ?_
  refine i_128_24 (v := Value.ref 8) hw4 rfl ?_
  refine i_128_27 (x := a0) rfl ?_
  refine i_128_28 (v := Value.ref h0) hw5 e0 e1 hg6 ?_
  refine i_128_29 (lv2 := [(5, Value.ref h0), (0, Value.ref 7), (1, Value.int a0), (2, Value.long b0), (4, Value.int a1)]) rfl ?_
  refine i_128_31 (x := b0) rfl ?_
  refine i_128_32 ?_
  refine i_128_33 (c := (lg_cmp b0 (0 : Int64))) rfl ?_
  refine i_128_34 (fun _ => ?_) (fun h => absurd e7 (Int.not_le.mpr h))
  refine i_128_41 ?_
  refine i_128_42 (lv2 := [(6, Value.int 0), (5, Value.ref h0), (0, Value.ref 7), (1, Value.int a0), (2, Value.long b0), (4, Value.int a1)]) rfl ?_
  refine i_128_44 (x := b0) rfl ?_
  refine i_128_45 ?_
  refine i_128_47 (c := (xsr b0 52)) rfl ?_
  refine i_128_48 (c := (xsr b0 52).toInt32) rfl ?_
  refine i_128_49 ?_
  refine i_128_52 (c := 2047) hg8 ?_
  refine i_128_53 (lv2 := [(7, Value.int 2047), (6, Value.int 0), (5, Value.ref h0), (0, Value.ref 7), (1, Value.int a0), (2, Value.long b0), (4, Value.int a1)]) rfl ?_
  refine i_128_55 (x := b0) rfl ?_
  refine i_128_56 ?_
  refine i_128_59 (c := (xfr b0)) rfl ?_
  refine i_128_60 (lv2 := [(8, Value.long (xfr b0)), (7, Value.int 2047), (6, Value.int 0), (5, Value.ref h0), (0, Value.ref 7), (1, Value.int a0), (2, Value.long b0), (4, Value.int a1)]) rfl ?_
  refine i_128_62 (x := 2047) rfl ?_
  refine i_128_64 ?_
  refine i_128_67 (fun h => absurd h (by decide)) (fun _ => ?_)
  refine i_128_70 (x := h0) rfl ?_
  refine i_128_72 (x := (xfr b0)) rfl ?_
  refine i_128_74 ?_
  refine i_128_75 (c := 0) hg9 ?_
  refine i_128_76 (fun h => absurd h (by decide)) (fun _ => ?_)
  refine i_128_79 ?_
  refine i_128_80 ?_
  refine i_128_84 (x := 0) rfl ?_
  refine i_128_86 hw10 (Nat.le_of_ble_eq_true rfl) (s_17_8 hw10 e11) ?_
  exact i_128_89 ⟨rfl, rfl⟩
theorem s_127_14 {d : Nat} {w : xW} {a0 : Int32} {b0 : Int64} {a1 : Int32} {g0 : Nat → Value} {h0 : Nat} {h1 : Nat} (hw0 : w[7]? = some (Sum.inr (0, [Value.ref 8, Value.ref 78, Value.ref 9, Value.ref 10, Value.ref 13, Value.ref 16, Value.ref 19, Value.ref 93, Value.ref 108, Value.ref 113, Value.ref 29, Value.int 0]))) (e1 : 0 ≤ a0.toInt) (e2 : a0.toInt < 16) (e3 : 0 ≤ a1.toInt) (e4 : a1.toInt ≤ 4) (hw5 : w[8]? = some (Sum.inl (4, 16, g0))) (hg6 : g0 a0.toInt.toNat = Value.ref h0) (e7 : 0 ≤ (lg_cmp b0 (0 : Int64)).toInt) (hg8 : (xfd b0) = 2047) (hg9 : (lg_cmp (xfr b0) (0 : Int64)) = 0) (hw10 : w[h0]? = some (Sum.inr (2, [Value.int 64, Value.int 0, Value.int 0, Value.int 0, Value.ref h1]))) (e11 : 7 ≤ h0) (e12 : h0 ≠ 194) (hw13 : w[194]? = some (Sum.inl (3, 1, fun _ => Value.long 0))) : xRun (d + 2) 127 [Value.ref 7, Value.int a0, Value.long b0, Value.int a1, Value.ref 194] w (.inl (some (Value.int 0))) ((w.set h0 (Sum.inr (2, [Value.int 64, Value.int 1, Value.int 0, Value.int 0, Value.ref h1]))).set 194 (Sum.inl (3, 1, xup (fun _ => Value.long 0) (0 : Int32).toInt.toNat (Value.long 0)))) := by
  refine xRun.of ?_
  refine i_127_0 (x := 194) rfl ?_
  refine i_127_2 ?_
  refine i_127_3 (x := 7) rfl ?_
  refine i_127_4 (x := a0) rfl ?_
  refine i_127_5 (x := b0) rfl ?_
  refine i_127_6 (x := a1) rfl ?_
  refine i_127_8 hw0 (Nat.le_of_ble_eq_true rfl) (s_128_14 e1 e2 e3 e4 hw0 hw5 hg6 e7 hg8 hg9 hw10 e11) ?_
  refine i_127_11 (c := 0) (by decide) ?_
  refine i_127_12 (v := Value.long 0) (xgn e12 hw13) (by decide) (by decide) (by decide) rfl ?_
  refine i_127_13 ?_
  refine i_127_20 ?_
  exact i_127_21 ⟨rfl, rfl⟩
theorem s_171_8 {d : Nat} {w : xW} {a0 : Int32} (hw0 : w[128]? = some (Sum.inr (12, [Value.ref 129, Value.ref 131, Value.ref 133, Value.ref 135, Value.ref 137, Value.ref 139, Value.ref 141, Value.ref 143, Value.ref 145, Value.ref 147, Value.ref 149, Value.ref 151, Value.ref 153, Value.ref 154, Value.ref 155, Value.ref 156, Value.ref 157, Value.int (-16384), Value.int 16384, Value.int 0, Value.int 0, Value.int 0, Value.ref 158, Value.ref 159, Value.int 0, Value.int 0, Value.int 0, Value.int 0, Value.int 0, Value.int 0, Value.int 0, Value.int 0]))) (hw1 : w[154]? = some (Sum.inl (0, 17, fun _ => Value.int 0))) (e2 : 0 ≤ a0.toInt) (e3 : a0.toInt < 17) (hw4 : w[156]? = some (Sum.inl (2, 17, fun _ => Value.int 0))) : xRun d 171 [Value.ref 128, Value.int a0, Value.int 1, Value.int 0] w (.inl (some (Value.int 0))) ((w.set 154 (Sum.inl (0, 17, xup (fun _ => Value.int 0) a0.toInt.toNat (Value.int 1)))).set 156 (Sum.inl (2, 17, xup (fun _ => Value.int 0) a0.toInt.toNat (Value.int 0)))) := by
  refine xRun.of ?_
  refine i_171_0 (x := 128) rfl ?_
  refine i_171_1 (v := Value.ref 154) hw0 rfl ?_
  refine i_171_4 (x := a0) rfl ?_
  refine i_171_5 (x := 1) rfl ?_
  refine i_171_6 (v := Value.int 1) hw1 e2 e3 (by decide) rfl ?_
  refine i_171_7 (x := 128) rfl ?_
  refine i_171_8 (v := Value.ref 156) (xgn (by decide) hw0) rfl ?_
  refine i_171_11 (x := a0) rfl ?_
  refine i_171_12 (x := 0) rfl ?_
  refine i_171_13z (v := Value.int 0) (xgn (by decide) hw4) e2 e3 (by decide) rfl ?_
  refine i_171_14 ?_
  exact i_171_15 ⟨rfl, rfl⟩
theorem s_248_6 {d : Nat} {w : xW} {a0 : Int32} {b0 : Int64} {a1 : Int32} {a2 : Int32} (e0 : 0 ≤ a0.toInt) (e1 : a0.toInt ≤ 15) (e2 : 0 ≤ a1.toInt) (e3 : a1.toInt ≤ 4) (hg4 : (xfe b0) = a2) (e5 : a2.toInt = 2047) (hg6 : (lg_cmp (xfr b0) (0 : Int64)) = 0) (e7 : 0 ≤ (lg_cmp b0 (0 : Int64)).toInt) (hw8 : w[128]? = some (Sum.inr (12, [Value.ref 129, Value.ref 131, Value.ref 133, Value.ref 135, Value.ref 137, Value.ref 139, Value.ref 141, Value.ref 143, Value.ref 145, Value.ref 147, Value.ref 149, Value.ref 151, Value.ref 153, Value.ref 154, Value.ref 155, Value.ref 156, Value.ref 157, Value.int (-16384), Value.int 16384, Value.int 0, Value.int 0, Value.int 0, Value.ref 158, Value.ref 159, Value.int 0, Value.int 0, Value.int 0, Value.int 0, Value.int 0, Value.int 0, Value.int 0, Value.int 0]))) (hw9 : w[154]? = some (Sum.inl (0, 17, fun _ => Value.int 0))) (e10 : a0.toInt < 17) (hw11 : w[156]? = some (Sum.inl (2, 17, fun _ => Value.int 0))) : xRun (d + 2) 248 [Value.ref 128, Value.int a0, Value.long b0, Value.int a1] w (.inl (some (Value.int 0))) ((w.set 154 (Sum.inl (0, 17, xup (fun _ => Value.int 0) a0.toInt.toNat (Value.int 1)))).set 156 (Sum.inl (2, 17, xup (fun _ => Value.int 0) a0.toInt.toNat (Value.int 0)))) := by
  refine xRun.of ?_
  refine i_248_0 (x := a0) rfl ?_
  refine i_248_1 (Nat.le_of_ble_eq_true rfl) (s_168_0 e0 e1) ?_
  refine i_248_4 (x := a1) rfl ?_
  refine i_248_6 (Nat.le_of_ble_eq_true rfl) (s_178_0 e2 e3) ?_
  refine i_248_9 (x := b0) rfl ?_
  refine i_248_10 ?_
  refine i_248_12 (c := (b0 >>> ((52 : Int32).toInt64 &&& 63))) rfl ?_
  refine i_248_13 (c := (b0 >>> ((52 : Int32).toInt64 &&& 63)).toInt32) rfl ?_
  refine i_248_14 ?_
  refine i_248_17 (c := a2) hg4 ?_
  refine i_248_18 (lv2 := [(5, Value.int a2), (0, Value.ref 128), (1, Value.int a0), (2, Value.long b0), (4, Value.int a1)]) rfl ?_
  refine i_248_20 (x := b0) rfl ?_
  refine i_248_21 ?_
  refine i_248_24 (c := (xfr b0)) rfl ?_
  refine i_248_25 (lv2 := [(6, Value.long (xfr b0)), (5, Value.int a2), (0, Value.ref 128), (1, Value.int a0), (2, Value.long b0), (4, Value.int a1)]) rfl ?_
  refine i_248_27 (x := a2) rfl ?_
  refine i_248_29 ?_
  refine i_248_32 (fun h => absurd e5 h) (fun _ => ?_)
  refine i_248_35 (x := 128) rfl ?_
  refine i_248_36 (x := a0) rfl ?_
  refine i_248_37 (x := (xfr b0)) rfl ?_
  refine i_248_39 ?_
  refine i_248_40 (c := 0) hg6 ?_
  refine i_248_41 (fun h => absurd h (by decide)) (fun _ => ?_)
  refine i_248_44 ?_
  refine i_248_45 ?_
  refine i_248_49 (x := (xfr b0)) rfl ?_
  refine i_248_51 ?_
  refine i_248_52 (c := 0) hg6 ?_
  refine i_248_53 (fun h => absurd h (by decide)) (fun _ => ?_)
  refine i_248_56 (x := b0) rfl ?_
  refine i_248_57 ?_
  refine i_248_58 (c := (lg_cmp b0 (0 : Int64))) rfl ?_
  refine i_248_59 (fun _ => ?_) (fun h => absurd e7 (Int.not_le.mpr h))
  refine i_248_66 ?_
  refine i_248_67 hw8 (Nat.le_of_ble_eq_true rfl) (s_171_8 hw8 hw9 e0 e10 hw11) ?_
  exact i_248_70 ⟨rfl, rfl⟩
theorem s_247_6 {d : Nat} {w : xW} {a0 : Int32} {b0 : Int64} {a1 : Int32} {a2 : Int32} (hw0 : w[128]? = some (Sum.inr (12, [Value.ref 129, Value.ref 131, Value.ref 133, Value.ref 135, Value.ref 137, Value.ref 139, Value.ref 141, Value.ref 143, Value.ref 145, Value.ref 147, Value.ref 149, Value.ref 151, Value.ref 153, Value.ref 154, Value.ref 155, Value.ref 156, Value.ref 157, Value.int (-16384), Value.int 16384, Value.int 0, Value.int 0, Value.int 0, Value.ref 158, Value.ref 159, Value.int 0, Value.int 0, Value.int 0, Value.int 0, Value.int 0, Value.int 0, Value.int 0, Value.int 0]))) (e1 : 0 ≤ a0.toInt) (e2 : a0.toInt ≤ 15) (e3 : 0 ≤ a1.toInt) (e4 : a1.toInt ≤ 4) (hg5 : (xfe b0) = a2) (e6 : a2.toInt = 2047) (hg7 : (lg_cmp (xfr b0) (0 : Int64)) = 0) (e8 : 0 ≤ (lg_cmp b0 (0 : Int64)).toInt) (hw9 : w[154]? = some (Sum.inl (0, 17, fun _ => Value.int 0))) (e10 : a0.toInt < 17) (hw11 : w[156]? = some (Sum.inl (2, 17, fun _ => Value.int 0))) : xRun (d + 3) 247 [Value.ref 128, Value.int a0, Value.long b0, Value.int a1] w (.inl (some (Value.int 0))) (((w.set 128 (Sum.inr (12, [Value.ref 129, Value.ref 131, Value.ref 133, Value.ref 135, Value.ref 137, Value.ref 139, Value.ref 141, Value.ref 143, Value.ref 145, Value.ref 147, Value.ref 149, Value.ref 151, Value.ref 153, Value.ref 154, Value.ref 155, Value.ref 156, Value.ref 157, Value.int (-16384), Value.int 16384, Value.int 0, Value.int 0, Value.int 0, Value.ref 158, Value.ref 159, Value.int 0, Value.int 0, Value.int 0, Value.int 0, Value.int 0, Value.int 0, Value.int 0, Value.int 0]))).set 154 (Sum.inl (0, 17, xup (fun _ => Value.int 0) a0.toInt.toNat (Value.int 1)))).set 156 (Sum.inl (2, 17, xup (fun _ => Value.int 0) a0.toInt.toNat (Value.int 0)))) := by
  refine xRun.of ?_
  refine i_247_0 (x := 128) rfl ?_
  refine i_247_1 ?_
  refine i_247_2 (fs2 := [Value.ref 129, Value.ref 131, Value.ref 133, Value.ref 135, Value.ref 137, Value.ref 139, Value.ref 141, Value.ref 143, Value.ref 145, Value.ref 147, Value.ref 149, Value.ref 151, Value.ref 153, Value.ref 154, Value.ref 155, Value.ref 156, Value.ref 157, Value.int (-16384), Value.int 16384, Value.int 0, Value.int 0, Value.int 0, Value.ref 158, Value.ref 159, Value.int 0, Value.int 0, Value.int 0, Value.int 0, Value.int 0, Value.int 0, Value.int 0, Value.int 0]) hw0 (Nat.le_of_ble_eq_true rfl) rfl (by decide) ?_
  refine i_247_5 (x := 128) rfl ?_
  refine i_247_6 (x := a0) rfl ?_
  refine i_247_7 (x := b0) rfl ?_
  refine i_247_8 (x := a1) rfl ?_
  refine i_247_10 (xgs hw0) (Nat.le_of_ble_eq_true rfl) (s_248_6 e1 e2 e3 e4 hg5 e6 hg7 e8 (xgs hw0) (xgn (by decide) hw9) e10 (xgn (by decide) hw11)) ?_
  exact i_247_13 ⟨rfl, rfl⟩
theorem o_16_6 {d : Nat} {xs : Nat → Int32} (h0 : ((xs 0) &&& (31 : Int32)).toInt = 16) (c0 : 0 ≤ (xs 1).toInt) (c1 : (xs 1).toInt < 16) (c2 : 0 ≤ (xs 4).toInt) (c3 : (xs 4).toInt ≤ 4) (c4 : 0 ≤ (lg_cmp (xvv xs) (0 : Int64)).toInt) (c5 : (xfd (xvv xs)).toInt = 2047) (c6 : (lg_cmp (xfr (xvv xs)) (0 : Int64)).toInt = 0) : ∃ w1, xEv (d + 20) 287 23 [(4, Value.int 0), (3, Value.ref 194), (2, Value.ref 128), (1, Value.ref 7), (0, Value.ref 0)] [] (W0 6 xs) (fun o' w' => o' = .inl (some (Value.int 1)) ∧ w' = w1) ∧ w1.length ≤ 220 ∧ xsz w1 ≤ 200000 := by
  have f0 : 0 ≤ (xfd (xvv xs)).toInt := (xfd_b _).1
  have f1 : (xfd (xvv xs)).toInt ≤ 2047 := (xfd_b _).2
  refine ⟨((((((W0 6 xs).set (30 + 3 * (xs 1).toInt.toNat) (Sum.inr (2, [Value.int 64, Value.int 1, Value.int 0, Value.int 0, Value.ref (31 + 3 * (xs 1).toInt.toNat)]))).set 194 (Sum.inl (3, 1, xup (fun _ => Value.long 0) (0 : Int32).toInt.toNat (Value.long 0)))).set 128 (Sum.inr (12, [Value.ref 129, Value.ref 131, Value.ref 133, Value.ref 135, Value.ref 137, Value.ref 139, Value.ref 141, Value.ref 143, Value.ref 145, Value.ref 147, Value.ref 149, Value.ref 151, Value.ref 153, Value.ref 154, Value.ref 155, Value.ref 156, Value.ref 157, Value.int (-16384), Value.int 16384, Value.int 0, Value.int 0, Value.int 0, Value.ref 158, Value.ref 159, Value.int 0, Value.int 0, Value.int 0, Value.int 0, Value.int 0, Value.int 0, Value.int 0, Value.int 0]))).set 154 (Sum.inl (0, 17, xup (fun _ => Value.int 0) (xs 1).toInt.toNat (Value.int 1)))).set 156 (Sum.inl (2, 17, xup (fun _ => Value.int 0) (xs 1).toInt.toNat (Value.int 0)))), ?_, (show xLs _ 220 200000 from ?_)⟩
  · refine i_287_23 (x := 0) rfl ?_
    refine i_287_25 (x := 0) rfl ?_
    refine i_287_26 (c := 6) W0_0 (by decide) ?_
    refine i_287_27 ?_
    refine i_287_29 (c := 0) (by decide) ?_
    refine i_287_30 (fun h => absurd h (by decide)) (fun _ => ?_)
    refine i_287_33 (x := 0) rfl ?_
    refine i_287_34 (x := 0) rfl ?_
    refine i_287_36 (v := Value.int (xs 0)) W0_0 (by decide) (by decide) rfl ?_
    refine i_287_37 ?_
    refine i_287_39 (c := 16) (show ((xs 0) &&& (31 : Int32)) = 16 from (xge_c (n := 16) (by omega) rfl)) ?_
    refine i_287_40_16 rfl ?_
    refine i_287_1540 (x := 7) rfl ?_
    refine i_287_1541 (x := 0) rfl ?_
    refine i_287_1542 (x := 0) rfl ?_
    refine i_287_1544 ?_
    refine i_287_1545 (c := 1) (by decide) ?_
    refine i_287_1546 (v := Value.int (xs 1)) W0_0 (by decide) (by decide) rfl ?_
    refine i_287_1547 (x := 0) rfl ?_
    refine i_287_1548 (x := 0) rfl ?_
    refine i_287_1550 ?_
    refine i_287_1551 (c := 2) (by decide) ?_
    refine i_287_1552 (v := Value.int (xs 2)) W0_0 (by decide) (by decide) rfl ?_
    refine i_287_1553 (c := (xs 2).toInt64) rfl ?_
    refine i_287_1554 ?_
    refine i_287_1556 (c := (xsh (xs 2) (32 : Int32))) rfl ?_
    refine i_287_1557 (x := 0) rfl ?_
    refine i_287_1558 (x := 0) rfl ?_
    refine i_287_1560 ?_
    refine i_287_1561 (c := 3) (by decide) ?_
    refine i_287_1562 (v := Value.int (xs 3)) W0_0 (by decide) (by decide) rfl ?_
    refine i_287_1563 (c := (xs 3).toInt64) rfl ?_
    refine i_287_1564 ?_
    refine i_287_1567 (c := (((xs 3).toInt64) &&& (4294967295 : Int64))) rfl ?_
    refine i_287_1568 (c := (xvv xs)) rfl ?_
    refine i_287_1569 (x := 0) rfl ?_
    refine i_287_1570 (x := 0) rfl ?_
    refine i_287_1572 ?_
    refine i_287_1573 (c := 4) (by decide) ?_
    refine i_287_1574 (v := Value.int (xs 4)) W0_0 (by decide) (by decide) rfl ?_
    refine i_287_1575 (x := 194) rfl ?_
    refine i_287_1576 (Nat.le_of_ble_eq_true rfl) (s_127_14 W0_7 (by omega) (by omega) (by omega) (by omega) W0_8 (greg_at (by omega)) (by omega) (show (xfd (xvv xs)) = 2047 from (xge_c (n := 2047) (by omega) rfl)) (show (lg_cmp (xfr (xvv xs)) (0 : Int64)) = 0 from (xge_c (n := 0) (by omega) rfl)) (W0_reg (by omega)) (by omega) (by omega) W0_194) ?_
    refine i_287_1579 (lv2 := [(5, Value.int 0), (4, Value.int 0), (3, Value.ref 194), (2, Value.ref 128), (1, Value.ref 7), (0, Value.ref 0)]) rfl ?_
    refine i_287_1581 (x := 128) rfl ?_
    refine i_287_1582 (x := 0) rfl ?_
    refine i_287_1583 (x := 0) rfl ?_
    refine i_287_1585 ?_
    refine i_287_1586 (c := 1) (by decide) ?_
    refine i_287_1587 (v := Value.int (xs 1)) (xgn (by decide) (xgn (by omega) W0_0)) (by decide) (by decide) rfl ?_
    refine i_287_1588 (x := 0) rfl ?_
    refine i_287_1589 (x := 0) rfl ?_
    refine i_287_1591 ?_
    refine i_287_1592 (c := 2) (by decide) ?_
    refine i_287_1593 (v := Value.int (xs 2)) (xgn (by decide) (xgn (by omega) W0_0)) (by decide) (by decide) rfl ?_
    refine i_287_1594 (c := (xs 2).toInt64) rfl ?_
    refine i_287_1595 ?_
    refine i_287_1597 (c := (xsh (xs 2) (32 : Int32))) rfl ?_
    refine i_287_1598 (x := 0) rfl ?_
    refine i_287_1599 (x := 0) rfl ?_
    refine i_287_1601 ?_
    refine i_287_1602 (c := 3) (by decide) ?_
    refine i_287_1603 (v := Value.int (xs 3)) (xgn (by decide) (xgn (by omega) W0_0)) (by decide) (by decide) rfl ?_
    refine i_287_1604 (c := (xs 3).toInt64) rfl ?_
    refine i_287_1605 ?_
    refine i_287_1608 (c := (((xs 3).toInt64) &&& (4294967295 : Int64))) rfl ?_
    refine i_287_1609 (c := (xvv xs)) rfl ?_
    refine i_287_1610 (x := 0) rfl ?_
    refine i_287_1611 (x := 0) rfl ?_
    refine i_287_1613 ?_
    refine i_287_1614 (c := 4) (by decide) ?_
    refine i_287_1615 (v := Value.int (xs 4)) (xgn (by decide) (xgn (by omega) W0_0)) (by decide) (by decide) rfl ?_
    refine i_287_1616 (xgn (by decide) (xgn (by omega) W0_128)) (Nat.le_of_ble_eq_true rfl) (s_247_6 (xgn (by decide) (xgn (by omega) W0_128)) (by omega) (by omega) (by omega) (by omega) (show (xfe (xvv xs)) = (xfd (xvv xs)) from (xfe_eq _)) (by omega) (show (lg_cmp (xfr (xvv xs)) (0 : Int64)) = 0 from (xge_c (n := 0) (by omega) rfl)) (by omega) (xgn (by decide) (xgn (by omega) W0_154)) (by omega) (xgn (by decide) (xgn (by omega) W0_156))) ?_
    refine i_287_1619 (lv2 := [(6, Value.int 0), (5, Value.int 0), (4, Value.int 0), (3, Value.ref 194), (2, Value.ref 128), (1, Value.ref 7), (0, Value.ref 0)]) rfl ?_
    refine i_287_1621 (x := 128) rfl ?_
    refine i_287_1622 (xgn (by decide) (xgn (by decide) (xgs (xgn (by decide) (xgn (by omega) W0_128))))) (Nat.le_of_ble_eq_true rfl) (s_165_2 (xgn (by decide) (xgn (by decide) (xgs (xgn (by decide) (xgn (by omega) W0_128)))))) ?_
    refine i_287_1625 (x := 0) rfl ?_
    refine i_287_1627 (fun _ => ?_) (fun h => absurd h (by decide))
    refine i_287_1632 (x := 0) rfl ?_
    refine i_287_1634 (fun h => absurd h (by decide)) (fun _ => ?_)
    refine i_287_1637 (x := 194) rfl ?_
    refine i_287_1638 ?_
    refine i_287_1639 (v := Value.long 0) (xgn (by decide) (xgn (by decide) (xgn (by decide) (xgs (xgn (by omega) W0_194))))) (by decide) (by decide) xup_s ?_
    refine i_287_1640 (x := 0) rfl ?_
    refine i_287_1642 (c := 0) (by decide) ?_
    refine i_287_1643 (c := 0) (by decide) ?_
    refine i_287_1644 (fun _ => ?_) (fun h => absurd h (by decide))
    refine i_287_1649 ?_
    refine i_287_2154 (x := 0) (c := 6) (lv2 := [(4, Value.int 6), (6, Value.int 0), (5, Value.int 0), (3, Value.ref 194), (2, Value.ref 128), (1, Value.ref 7), (0, Value.ref 0)]) rfl (by decide) rfl ?_
    refine i_287_2157 ?_
    refine i_287_23 (x := 6) rfl ?_
    refine i_287_25 (x := 0) rfl ?_
    refine i_287_26 (c := 6) (xgn (by decide) (xgn (by decide) (xgn (by decide) (xgn (by decide) (xgn (by omega) W0_0))))) (by decide) ?_
    refine i_287_27 ?_
    refine i_287_29 (c := 0) (by decide) ?_
    refine i_287_30 (fun _ => ?_) (fun h => absurd h (by decide))
    refine i_287_2160 ?_
    exact i_287_2161 rfl ⟨rfl, rfl⟩
  · refine xLs.set ?_ (xgn (by decide) (xgn (by decide) (xgn (by decide) (xgn (by omega) W0_156)))) xcs_a
    refine xLs.set ?_ (xgn (by decide) (xgn (by decide) (xgn (by omega) W0_154))) xcs_a
    refine xLs.set ?_ (xgn (by decide) (xgn (by omega) W0_128)) xcs_o
    refine xLs.set ?_ (xgn (by omega) W0_194) xcs_a
    refine xLs.set ?_ (W0_reg (by omega)) xcs_o
    exact ⟨Nat.le_trans (Nat.le_of_eq W0_len) (by decide), Nat.le_trans (Nat.le_of_eq W0_sz) (by decide)⟩
theorem s_17_9 {d : Nat} {w : xW} {h0 : Nat} {h1 : Nat} (hw0 : w[h0]? = some (Sum.inr (2, [Value.int 64, Value.int 0, Value.int 0, Value.int 0, Value.ref h1]))) (e1 : 7 ≤ h0) : xRun d 17 [Value.ref h0, Value.int 0, Value.int 0] w (.inl (some (Value.int 0))) (w.set h0 (Sum.inr (2, [Value.int 64, Value.int 0, Value.int 0, Value.int 0, Value.ref h1]))) := by
  refine xRun.of ?_
  refine i_17_0 (x := h0) rfl ?_
  refine i_17_1 (x := 0) rfl ?_
  refine i_17_2 (fs2 := [Value.int 64, Value.int 0, Value.int 0, Value.int 0, Value.ref h1]) hw0 (Nat.le_of_ble_eq_true rfl) rfl e1 ?_
  refine i_17_5 (x := h0) rfl ?_
  refine i_17_6 (x := 0) rfl ?_
  refine i_17_7 (fs2 := [Value.int 64, Value.int 0, Value.int 0, Value.int 0, Value.ref h1]) (xgs hw0) rfl (Nat.le_of_ble_eq_true rfl) rfl e1 ?_
  refine xEv.world (List.set_set _) ?_
  refine i_17_10 ?_
  exact i_17_11 ⟨rfl, rfl⟩
theorem s_128_15 {d : Nat} {w : xW} {a0 : Int32} {b0 : Int64} {a1 : Int32} {g0 : Nat → Value} {h0 : Nat} {h1 : Nat} (e0 : 0 ≤ a0.toInt) (e1 : a0.toInt < 16) (e2 : 0 ≤ a1.toInt) (e3 : a1.toInt ≤ 4) (hw4 : w[7]? = some (Sum.inr (0, [Value.ref 8, Value.ref 78, Value.ref 9, Value.ref 10, Value.ref 13, Value.ref 16, Value.ref 19, Value.ref 93, Value.ref 108, Value.ref 113, Value.ref 29, Value.int 0]))) (hw5 : w[8]? = some (Sum.inl (4, 16, g0))) (hg6 : g0 a0.toInt.toNat = Value.ref h0) (e7 : 0 ≤ (lg_cmp b0 (0 : Int64)).toInt) (hg8 : (xfd b0) = 2047) (e9 : (lg_cmp (xfr b0) (0 : Int64)).toInt ≠ 0) (hw10 : w[h0]? = some (Sum.inr (2, [Value.int 64, Value.int 0, Value.int 0, Value.int 0, Value.ref h1]))) (e11 : 7 ≤ h0) : xRun (d + 1) 128 [Value.ref 7, Value.int a0, Value.long b0, Value.int a1] w (.inl (some (Value.int 0))) (w.set h0 (Sum.inr (2, [Value.int 64, Value.int 0, Value.int 0, Value.int 0, Value.ref h1]))) := by
  refine xRun.of ?_
  refine i_128_0 (x := a0) rfl ?_
  refine i_128_1 (Nat.le_of_ble_eq_true rfl) (s_15_0 e0 e1) ?_
  refine i_128_4 (fun h => absurd h (by decide)) (fun _ => ?_)
  refine i_128_7 (x := a1) rfl ?_
  refine i_128_9 (Nat.le_of_ble_eq_true rfl) (s_22_0 e2 e3) ?_
  refine i_128_12 (fun _ => ?_) (fun h => absurd h (by decide))
  refine i_128_23 (x := 7) rfl ?_
  refine i_128_24 (v := Value.ref 8) hw4 rfl ?_
  refine i_128_27 (x := a0) rfl ?_
  refine i_128_28 (v := Value.ref h0) hw5 e0 e1 hg6 ?_
  refine i_128_29 (lv2 := [(5, Value.ref h0), (0, Value.ref 7), (1, Value.int a0), (2, Value.long b0), (4, Value.int a1)]) rfl ?_
  refine i_128_31 (x := b0) rfl ?_
  refine i_128_32 ?_
  refine i_128_33 (c := (lg_cmp b0 (0 : Int64))) rfl ?_
  refine i_128_34 (fun _ => ?_) (fun h => absurd e7 (Int.not_le.mpr h))
  refine i_128_41 ?_
  refine i_128_42 (lv2 := [(6, Value.int 0), (5, Value.ref h0), (0, Value.ref 7), (1, Value.int a0), (2, Value.long b0), (4, Value.int a1)]) rfl ?_
  refine i_128_44 (x := b0) rfl ?_
  refine i_128_45 ?_
  refine i_128_47 (c := (xsr b0 52)) rfl ?_
  refine i_128_48 (c := (xsr b0 52).toInt32) rfl ?_
  refine i_128_49 ?_
  refine i_128_52 (c := 2047) hg8 ?_
  refine i_128_53 (lv2 := [(7, Value.int 2047), (6, Value.int 0), (5, Value.ref h0), (0, Value.ref 7), (1, Value.int a0), (2, Value.long b0), (4, Value.int a1)]) rfl ?_
  refine i_128_55 (x := b0) rfl ?_
  refine i_128_56 ?_
  refine i_128_59 (c := (xfr b0)) rfl ?_
  refine i_128_60 (lv2 := [(8, Value.long (xfr b0)), (7, Value.int 2047), (6, Value.int 0), (5, Value.ref h0), (0, Value.ref 7), (1, Value.int a0), (2, Value.long b0), (4, Value.int a1)]) rfl ?_
  refine i_128_62 (x := 2047) rfl ?_
  refine i_128_64 ?_
  refine i_128_67 (fun h => absurd h (by decide)) (fun _ => ?_)
  refine i_128_70 (x := h0) rfl ?_
  refine i_128_72 (x := (xfr b0)) rfl ?_
  refine i_128_74 ?_
  refine i_128_75 (c := (lg_cmp (xfr b0) (0 : Int64))) rfl ?_
  refine i_128_76 (fun _ => ?_) (fun h => absurd e9 (fun g => g h))
  refine i_128_83 ?_
  refine i_128_84 (x := 0) rfl ?_
  refine i_128_86 hw10 (Nat.le_of_ble_eq_true rfl) (s_17_9 hw10 e11) ?_
  exact i_128_89 ⟨rfl, rfl⟩
theorem s_127_15 {d : Nat} {w : xW} {a0 : Int32} {b0 : Int64} {a1 : Int32} {g0 : Nat → Value} {h0 : Nat} {h1 : Nat} (hw0 : w[7]? = some (Sum.inr (0, [Value.ref 8, Value.ref 78, Value.ref 9, Value.ref 10, Value.ref 13, Value.ref 16, Value.ref 19, Value.ref 93, Value.ref 108, Value.ref 113, Value.ref 29, Value.int 0]))) (e1 : 0 ≤ a0.toInt) (e2 : a0.toInt < 16) (e3 : 0 ≤ a1.toInt) (e4 : a1.toInt ≤ 4) (hw5 : w[8]? = some (Sum.inl (4, 16, g0))) (hg6 : g0 a0.toInt.toNat = Value.ref h0) (e7 : 0 ≤ (lg_cmp b0 (0 : Int64)).toInt) (hg8 : (xfd b0) = 2047) (e9 : (lg_cmp (xfr b0) (0 : Int64)).toInt ≠ 0) (hw10 : w[h0]? = some (Sum.inr (2, [Value.int 64, Value.int 0, Value.int 0, Value.int 0, Value.ref h1]))) (e11 : 7 ≤ h0) (e12 : h0 ≠ 194) (hw13 : w[194]? = some (Sum.inl (3, 1, fun _ => Value.long 0))) : xRun (d + 2) 127 [Value.ref 7, Value.int a0, Value.long b0, Value.int a1, Value.ref 194] w (.inl (some (Value.int 0))) ((w.set h0 (Sum.inr (2, [Value.int 64, Value.int 0, Value.int 0, Value.int 0, Value.ref h1]))).set 194 (Sum.inl (3, 1, xup (fun _ => Value.long 0) (0 : Int32).toInt.toNat (Value.long 0)))) := by
  refine xRun.of ?_
  refine i_127_0 (x := 194) rfl ?_
  refine i_127_2 ?_
  refine i_127_3 (x := 7) rfl ?_
  refine i_127_4 (x := a0) rfl ?_
  refine i_127_5 (x := b0) rfl ?_
  refine i_127_6 (x := a1) rfl ?_
  refine i_127_8 hw0 (Nat.le_of_ble_eq_true rfl) (s_128_15 e1 e2 e3 e4 hw0 hw5 hg6 e7 hg8 e9 hw10 e11) ?_
  refine i_127_11 (c := 0) (by decide) ?_
  refine i_127_12 (v := Value.long 0) (xgn e12 hw13) (by decide) (by decide) (by decide) rfl ?_
  refine i_127_13 ?_
  refine i_127_20 ?_
  exact i_127_21 ⟨rfl, rfl⟩
theorem o_16_7 {d : Nat} {xs : Nat → Int32} (h0 : ((xs 0) &&& (31 : Int32)).toInt = 16) (c0 : 0 ≤ (xs 1).toInt) (c1 : (xs 1).toInt < 16) (c2 : 0 ≤ (xs 4).toInt) (c3 : (xs 4).toInt ≤ 4) (c4 : 0 ≤ (lg_cmp (xvv xs) (0 : Int64)).toInt) (c5 : (xfd (xvv xs)).toInt = 2047) (c6 : (lg_cmp (xfr (xvv xs)) (0 : Int64)).toInt ≠ 0) : ∃ w1, xEv (d + 20) 287 23 [(4, Value.int 0), (3, Value.ref 194), (2, Value.ref 128), (1, Value.ref 7), (0, Value.ref 0)] [] (W0 6 xs) (fun o' w' => o' = .inl (some (Value.int 1)) ∧ w' = w1) ∧ w1.length ≤ 220 ∧ xsz w1 ≤ 200000 := by
  have f0 : 0 ≤ (xfd (xvv xs)).toInt := (xfd_b _).1
  have f1 : (xfd (xvv xs)).toInt ≤ 2047 := (xfd_b _).2
  refine ⟨((((((W0 6 xs).set (30 + 3 * (xs 1).toInt.toNat) (Sum.inr (2, [Value.int 64, Value.int 0, Value.int 0, Value.int 0, Value.ref (31 + 3 * (xs 1).toInt.toNat)]))).set 194 (Sum.inl (3, 1, xup (fun _ => Value.long 0) (0 : Int32).toInt.toNat (Value.long 0)))).set 128 (Sum.inr (12, [Value.ref 129, Value.ref 131, Value.ref 133, Value.ref 135, Value.ref 137, Value.ref 139, Value.ref 141, Value.ref 143, Value.ref 145, Value.ref 147, Value.ref 149, Value.ref 151, Value.ref 153, Value.ref 154, Value.ref 155, Value.ref 156, Value.ref 157, Value.int (-16384), Value.int 16384, Value.int 0, Value.int 0, Value.int 0, Value.ref 158, Value.ref 159, Value.int 0, Value.int 0, Value.int 0, Value.int 0, Value.int 0, Value.int 0, Value.int 0, Value.int 0]))).set 154 (Sum.inl (0, 17, xup (fun _ => Value.int 0) (xs 1).toInt.toNat (Value.int 0)))).set 156 (Sum.inl (2, 17, xup (fun _ => Value.int 0) (xs 1).toInt.toNat (Value.int 0)))), ?_, (show xLs _ 220 200000 from ?_)⟩
  · refine i_287_23 (x := 0) rfl ?_
    refine i_287_25 (x := 0) rfl ?_
    refine i_287_26 (c := 6) W0_0 (by decide) ?_
    refine i_287_27 ?_
    refine i_287_29 (c := 0) (by decide) ?_
    refine i_287_30 (fun h => absurd h (by decide)) (fun _ => ?_)
    refine i_287_33 (x := 0) rfl ?_
    refine i_287_34 (x := 0) rfl ?_
    refine i_287_36 (v := Value.int (xs 0)) W0_0 (by decide) (by decide) rfl ?_
    refine i_287_37 ?_
    refine i_287_39 (c := 16) (show ((xs 0) &&& (31 : Int32)) = 16 from (xge_c (n := 16) (by omega) rfl)) ?_
    refine i_287_40_16 rfl ?_
    refine i_287_1540 (x := 7) rfl ?_
    refine i_287_1541 (x := 0) rfl ?_
    refine i_287_1542 (x := 0) rfl ?_
    refine i_287_1544 ?_
    refine i_287_1545 (c := 1) (by decide) ?_
    refine i_287_1546 (v := Value.int (xs 1)) W0_0 (by decide) (by decide) rfl ?_
    refine i_287_1547 (x := 0) rfl ?_
    refine i_287_1548 (x := 0) rfl ?_
    refine i_287_1550 ?_
    refine i_287_1551 (c := 2) (by decide) ?_
    refine i_287_1552 (v := Value.int (xs 2)) W0_0 (by decide) (by decide) rfl ?_
    refine i_287_1553 (c := (xs 2).toInt64) rfl ?_
    refine i_287_1554 ?_
    refine i_287_1556 (c := (xsh (xs 2) (32 : Int32))) rfl ?_
    refine i_287_1557 (x := 0) rfl ?_
    refine i_287_1558 (x := 0) rfl ?_
    refine i_287_1560 ?_
    refine i_287_1561 (c := 3) (by decide) ?_
    refine i_287_1562 (v := Value.int (xs 3)) W0_0 (by decide) (by decide) rfl ?_
    refine i_287_1563 (c := (xs 3).toInt64) rfl ?_
    refine i_287_1564 ?_
    refine i_287_1567 (c := (((xs 3).toInt64) &&& (4294967295 : Int64))) rfl ?_
    refine i_287_1568 (c := (xvv xs)) rfl ?_
    refine i_287_1569 (x := 0) rfl ?_
    refine i_287_1570 (x := 0) rfl ?_
    refine i_287_1572 ?_
    refine i_287_1573 (c := 4) (by decide) ?_
    refine i_287_1574 (v := Value.int (xs 4)) W0_0 (by decide) (by decide) rfl ?_
    refine i_287_1575 (x := 194) rfl ?_
    refine i_287_1576 (Nat.le_of_ble_eq_true rfl) (s_127_15 W0_7 (by omega) (by omega) (by omega) (by omega) W0_8 (greg_at (by omega)) (by omega) (show (xfd (xvv xs)) = 2047 from (xge_c (n := 2047) (by omega) rfl)) (by omega) (W0_reg (by omega)) (by omega) (by omega) W0_194) ?_
    refine i_287_1579 (lv2 := [(5, Value.int 0), (4, Value.int 0), (3, Value.ref 194), (2, Value.ref 128), (1, Value.ref 7), (0, Value.ref 0)]) rfl ?_
    refine i_287_1581 (x := 128) rfl ?_
    refine i_287_1582 (x := 0) rfl ?_
    refine i_287_1583 (x := 0) rfl ?_
    refine i_287_1585 ?_
    refine i_287_1586 (c := 1) (by decide) ?_
    refine i_287_1587 (v := Value.int (xs 1)) (xgn (by decide) (xgn (by omega) W0_0)) (by decide) (by decide) rfl ?_
    refine i_287_1588 (x := 0) rfl ?_
    refine i_287_1589 (x := 0) rfl ?_
    refine i_287_1591 ?_
    refine i_287_1592 (c := 2) (by decide) ?_
    refine i_287_1593 (v := Value.int (xs 2)) (xgn (by decide) (xgn (by omega) W0_0)) (by decide) (by decide) rfl ?_
    refine i_287_1594 (c := (xs 2).toInt64) rfl ?_
    refine i_287_1595 ?_
    refine i_287_1597 (c := (xsh (xs 2) (32 : Int32))) rfl ?_
    refine i_287_1598 (x := 0) rfl ?_
    refine i_287_1599 (x := 0) rfl ?_
    refine i_287_1601 ?_
    refine i_287_1602 (c := 3) (by decide) ?_
    refine i_287_1603 (v := Value.int (xs 3)) (xgn (by decide) (xgn (by omega) W0_0)) (by decide) (by decide) rfl ?_
    refine i_287_1604 (c := (xs 3).toInt64) rfl ?_
    refine i_287_1605 ?_
    refine i_287_1608 (c := (((xs 3).toInt64) &&& (4294967295 : Int64))) rfl ?_
    refine i_287_1609 (c := (xvv xs)) rfl ?_
    refine i_287_1610 (x := 0) rfl ?_
    refine i_287_1611 (x := 0) rfl ?_
    refine i_287_1613 ?_
    refine i_287_1614 (c := 4) (by decide) ?_
    refine i_287_1615 (v := Value.int (xs 4)) (xgn (by decide) (xgn (by omega) W0_0)) (by decide) (by decide) rfl ?_
    refine i_287_1616 (xgn (by decide) (xgn (by omega) W0_128)) (Nat.le_of_ble_eq_true rfl) (s_247_4 (xgn (by decide) (xgn (by omega) W0_128)) (by omega) (by omega) (by omega) (by omega) (show (xfe (xvv xs)) = (xfd (xvv xs)) from (xfe_eq _)) (by omega) (by omega) (xgn (by decide) (xgn (by omega) W0_154)) (by omega) (xgn (by decide) (xgn (by omega) W0_156))) ?_
    refine i_287_1619 (lv2 := [(6, Value.int 0), (5, Value.int 0), (4, Value.int 0), (3, Value.ref 194), (2, Value.ref 128), (1, Value.ref 7), (0, Value.ref 0)]) rfl ?_
    refine i_287_1621 (x := 128) rfl ?_
    refine i_287_1622 (xgn (by decide) (xgn (by decide) (xgs (xgn (by decide) (xgn (by omega) W0_128))))) (Nat.le_of_ble_eq_true rfl) (s_165_2 (xgn (by decide) (xgn (by decide) (xgs (xgn (by decide) (xgn (by omega) W0_128)))))) ?_
    refine i_287_1625 (x := 0) rfl ?_
    refine i_287_1627 (fun _ => ?_) (fun h => absurd h (by decide))
    refine i_287_1632 (x := 0) rfl ?_
    refine i_287_1634 (fun h => absurd h (by decide)) (fun _ => ?_)
    refine i_287_1637 (x := 194) rfl ?_
    refine i_287_1638 ?_
    refine i_287_1639 (v := Value.long 0) (xgn (by decide) (xgn (by decide) (xgn (by decide) (xgs (xgn (by omega) W0_194))))) (by decide) (by decide) xup_s ?_
    refine i_287_1640 (x := 0) rfl ?_
    refine i_287_1642 (c := 0) (by decide) ?_
    refine i_287_1643 (c := 0) (by decide) ?_
    refine i_287_1644 (fun _ => ?_) (fun h => absurd h (by decide))
    refine i_287_1649 ?_
    refine i_287_2154 (x := 0) (c := 6) (lv2 := [(4, Value.int 6), (6, Value.int 0), (5, Value.int 0), (3, Value.ref 194), (2, Value.ref 128), (1, Value.ref 7), (0, Value.ref 0)]) rfl (by decide) rfl ?_
    refine i_287_2157 ?_
    refine i_287_23 (x := 6) rfl ?_
    refine i_287_25 (x := 0) rfl ?_
    refine i_287_26 (c := 6) (xgn (by decide) (xgn (by decide) (xgn (by decide) (xgn (by decide) (xgn (by omega) W0_0))))) (by decide) ?_
    refine i_287_27 ?_
    refine i_287_29 (c := 0) (by decide) ?_
    refine i_287_30 (fun _ => ?_) (fun h => absurd h (by decide))
    refine i_287_2160 ?_
    exact i_287_2161 rfl ⟨rfl, rfl⟩
  · refine xLs.set ?_ (xgn (by decide) (xgn (by decide) (xgn (by decide) (xgn (by omega) W0_156)))) xcs_a
    refine xLs.set ?_ (xgn (by decide) (xgn (by decide) (xgn (by omega) W0_154))) xcs_a
    refine xLs.set ?_ (xgn (by decide) (xgn (by omega) W0_128)) xcs_o
    refine xLs.set ?_ (xgn (by omega) W0_194) xcs_a
    refine xLs.set ?_ (W0_reg (by omega)) xcs_o
    exact ⟨Nat.le_trans (Nat.le_of_eq W0_len) (by decide), Nat.le_trans (Nat.le_of_eq W0_sz) (by decide)⟩
theorem s_128_16 {d : Nat} {w : xW} {a0 : Int32} {b0 : Int64} {a1 : Int32} {g0 : Nat → Value} {h0 : Nat} {h1 : Nat} (e0 : 0 ≤ a0.toInt) (e1 : a0.toInt < 16) (e2 : 0 ≤ a1.toInt) (e3 : a1.toInt ≤ 4) (hw4 : w[7]? = some (Sum.inr (0, [Value.ref 8, Value.ref 78, Value.ref 9, Value.ref 10, Value.ref 13, Value.ref 16, Value.ref 19, Value.ref 93, Value.ref 108, Value.ref 113, Value.ref 29, Value.int 0]))) (hw5 : w[8]? = some (Sum.inl (4, 16, g0))) (hg6 : g0 a0.toInt.toNat = Value.ref h0) (e7 : 0 ≤ (lg_cmp b0 (0 : Int64)).toInt) (hg8 : (xfd b0) = 0) (hg9 : (lg_cmp (xfr b0) (0 : Int64)) = 0) (hw10 : w[h0]? = some (Sum.inr (2, [Value.int 64, Value.int 0, Value.int 0, Value.int 0, Value.ref h1]))) (e11 : 7 ≤ h0) : xRun (d + 2) 128 [Value.ref 7, Value.int a0, Value.long b0, Value.int a1] w (.inl (some (Value.int 0))) (w.set h0 (Sum.inr (2, [Value.int 64, Value.int 2, Value.int 0, Value.int 0, Value.ref h1]))) := by
  refine xRun.of ?_
  refine i_128_0 (x := a0) rfl ?_
  refine i_128_1 (Nat.le_of_ble_eq_true rfl) (s_15_0 e0 e1) ?_
  refine i_128_4 (fun h => absurd h (by decide)) (fun _ => ?_)
  refine i_128_7 (x := a1) rfl ?_
  refine i_128_9 (Nat.le_of_ble_eq_true rfl) (s_22_0 e2 e3) ?_
  refine i_128_12 (fun _ => ?_) (fun h => absurd h (by decide))
  refine i_128_23 (x := 7) rfl ?_
  refine i_128_24 (v := Value.ref 8) hw4 rfl ?_
  refine i_128_27 (x := a0) rfl ?_
  refine i_128_28 (v := Value.ref h0) hw5 e0 e1 hg6 ?_
  refine i_128_29 (lv2 := [(5, Value.ref h0), (0, Value.ref 7), (1, Value.int a0), (2, Value.long b0), (4, Value.int a1)]) rfl ?_
  refine i_128_31 (x := b0) rfl ?_
  refine i_128_32 ?_
  refine i_128_33 (c := (lg_cmp b0 (0 : Int64))) rfl ?_
  refine i_128_34 (fun _ => ?_) (fun h => absurd e7 (Int.not_le.mpr h))
  refine i_128_41 ?_
  refine i_128_42 (lv2 := [(6, Value.int 0), (5, Value.ref h0), (0, Value.ref 7), (1, Value.int a0), (2, Value.long b0), (4, Value.int a1)]) rfl ?_
  refine i_128_44 (x := b0) rfl ?_
  refine i_128_45 ?_
  refine i_128_47 (c := (xsr b0 52)) rfl ?_
  refine i_128_48 (c := (xsr b0 52).toInt32) rfl ?_
  refine i_128_49 ?_
  refine i_128_52 (c := 0) hg8 ?_
  refine i_128_53 (lv2 := [(7, Value.int 0), (6, Value.int 0), (5, Value.ref h0), (0, Value.ref 7), (1, Value.int a0), (2, Value.long b0), (4, Value.int a1)]) rfl ?_
  refine i_128_55 (x := b0) rfl ?_
  refine i_128_56 ?_
  refine i_128_59 (c := (xfr b0)) rfl ?_
  refine i_128_60 (lv2 := [(8, Value.long (xfr b0)), (7, Value.int 0), (6, Value.int 0), (5, Value.ref h0), (0, Value.ref 7), (1, Value.int a0), (2, Value.long b0), (4, Value.int a1)]) rfl ?_
  refine i_128_62 (x := 0) rfl ?_
  refine i_128_64 ?_
  refine i_128_67 (fun _ => ?_) (fun h => absurd h (by decide))
  refine i_128_90 (x := 0) rfl ?_
  refine i_128_92 (fun h => absurd h (by decide)) (fun _ => ?_)
  refine i_128_95 (x := (xfr b0)) rfl ?_
  refine i_128_97 ?_
  refine i_128_98 (c := 0) hg9 ?_
  refine i_128_99 (fun h => absurd h (by decide)) (fun _ => ?_)
  refine i_128_102 (x := h0) rfl ?_
  refine i_128_104 (x := 0) rfl ?_
  refine i_128_106 hw10 (Nat.le_of_ble_eq_true rfl) (s_23_2 hw10 e11) ?_
  exact i_128_109 ⟨rfl, rfl⟩
theorem s_127_16 {d : Nat} {w : xW} {a0 : Int32} {b0 : Int64} {a1 : Int32} {g0 : Nat → Value} {h0 : Nat} {h1 : Nat} (hw0 : w[7]? = some (Sum.inr (0, [Value.ref 8, Value.ref 78, Value.ref 9, Value.ref 10, Value.ref 13, Value.ref 16, Value.ref 19, Value.ref 93, Value.ref 108, Value.ref 113, Value.ref 29, Value.int 0]))) (e1 : 0 ≤ a0.toInt) (e2 : a0.toInt < 16) (e3 : 0 ≤ a1.toInt) (e4 : a1.toInt ≤ 4) (hw5 : w[8]? = some (Sum.inl (4, 16, g0))) (hg6 : g0 a0.toInt.toNat = Value.ref h0) (e7 : 0 ≤ (lg_cmp b0 (0 : Int64)).toInt) (hg8 : (xfd b0) = 0) (hg9 : (lg_cmp (xfr b0) (0 : Int64)) = 0) (hw10 : w[h0]? = some (Sum.inr (2, [Value.int 64, Value.int 0, Value.int 0, Value.int 0, Value.ref h1]))) (e11 : 7 ≤ h0) (e12 : h0 ≠ 194) (hw13 : w[194]? = some (Sum.inl (3, 1, fun _ => Value.long 0))) : xRun (d + 3) 127 [Value.ref 7, Value.int a0, Value.long b0, Value.int a1, Value.ref 194] w (.inl (some (Value.int 0))) ((w.set h0 (Sum.inr (2, [Value.int 64, Value.int 2, Value.int 0, Value.int 0, Value.ref h1]))).set 194 (Sum.inl (3, 1, xup (fun _ => Value.long 0) (0 : Int32).toInt.toNat (Value.long 0)))) := by
  refine xRun.of ?_
  refine i_127_0 (x := 194) rfl ?_
  refine i_127_2 ?_
  refine i_127_3 (x := 7) rfl ?_
  refine i_127_4 (x := a0) rfl ?_
  refine i_127_5 (x := b0) rfl ?_
  refine i_127_6 (x := a1) rfl ?_
  refine i_127_8 hw0 (Nat.le_of_ble_eq_true rfl) (s_128_16 e1 e2 e3 e4 hw0 hw5 hg6 e7 hg8 hg9 hw10 e11) ?_
  refine i_127_11 (c := 0) (by decide) ?_
  refine i_127_12 (v := Value.long 0) (xgn e12 hw13) (by decide) (by decide) (by decide) rfl ?_
  refine i_127_13 ?_
  refine i_127_20 ?_
  exact i_127_21 ⟨rfl, rfl⟩
theorem s_248_7 {d : Nat} {w : xW} {a0 : Int32} {b0 : Int64} {a1 : Int32} {a2 : Int32} (e0 : 0 ≤ a0.toInt) (e1 : a0.toInt ≤ 15) (e2 : 0 ≤ a1.toInt) (e3 : a1.toInt ≤ 4) (hg4 : (xfe b0) = a2) (e5 : a2.toInt ≠ 2047) (e6 : a2.toInt = 0) (hg7 : (lg_cmp (xfr b0) (0 : Int64)) = 0) (e8 : 0 ≤ (lg_cmp b0 (0 : Int64)).toInt) (hw9 : w[128]? = some (Sum.inr (12, [Value.ref 129, Value.ref 131, Value.ref 133, Value.ref 135, Value.ref 137, Value.ref 139, Value.ref 141, Value.ref 143, Value.ref 145, Value.ref 147, Value.ref 149, Value.ref 151, Value.ref 153, Value.ref 154, Value.ref 155, Value.ref 156, Value.ref 157, Value.int (-16384), Value.int 16384, Value.int 0, Value.int 0, Value.int 0, Value.ref 158, Value.ref 159, Value.int 0, Value.int 0, Value.int 0, Value.int 0, Value.int 0, Value.int 0, Value.int 0, Value.int 0]))) (hw10 : w[154]? = some (Sum.inl (0, 17, fun _ => Value.int 0))) (e11 : a0.toInt < 17) (hw12 : w[156]? = some (Sum.inl (2, 17, fun _ => Value.int 0))) : xRun (d + 2) 248 [Value.ref 128, Value.int a0, Value.long b0, Value.int a1] w (.inl (some (Value.int 0))) ((w.set 154 (Sum.inl (0, 17, xup (fun _ => Value.int 0) a0.toInt.toNat (Value.int 2)))).set 156 (Sum.inl (2, 17, xup (fun _ => Value.int 0) a0.toInt.toNat (Value.int 0)))) := by
  refine xRun.of ?_
  refine i_248_0 (x := a0) rfl ?_
  refine i_248_1 (Nat.le_of_ble_eq_true rfl) (s_168_0 e0 e1) ?_
  refine i_248_4 (x := a1) rfl ?_
  refine i_248_6 (Nat.le_of_ble_eq_true rfl) (s_178_0 e2 e3) ?_
  refine i_248_9 (x := b0) rfl ?_
  refine i_248_10 ?_
  refine i_248_12 (c := (b0 >>> ((52 : Int32).toInt64 &&& 63))) rfl ?_
  refine i_248_13 (c := (b0 >>> ((52 : Int32).toInt64 &&& 63)).toInt32) rfl ?_
  refine i_248_14 ?_
  refine i_248_17 (c := a2) hg4 ?_
  refine i_248_18 (lv2 := [(5, Value.int a2), (0, Value.ref 128), (1, Value.int a0), (2, Value.long b0), (4, Value.int a1)]) rfl ?_
  refine i_248_20 (x := b0) rfl ?_
  refine i_248_21 ?_
  refine i_248_24 (c := (xfr b0)) rfl ?_
  refine i_248_25 (lv2 := [(6, Value.long (xfr b0)), (5, Value.int a2), (0, Value.ref 128), (1, Value.int a0), (2, Value.long b0), (4, Value.int a1)]) rfl ?_
  refine i_248_27 (x := a2) rfl ?_
  refine i_248_29 ?_
  refine i_248_32 (fun _ => ?_) (fun h => absurd e5 (fun g => g h))
  refine i_248_71 (x := a2) rfl ?_
  refine i_248_73 (fun h => absurd e6 h) (fun _ => ?_)
  refine i_248_76 (x := (xfr b0)) rfl ?_
  refine i_248_78 ?_
  refine i_248_79 (c := 0) hg7 ?_
  refine i_248_80 (fun h => absurd h (by decide)) (fun _ => ?_)
  refine i_248_83 (x := 128) rfl ?_
  refine i_248_84 (x := a0) rfl ?_
  refine i_248_85 ?_
  refine i_248_86 (x := b0) rfl ?_
  refine i_248_87 ?_
  refine i_248_88 (c := (lg_cmp b0 (0 : Int64))) rfl ?_
  refine i_248_89 (fun _ => ?_) (fun h => absurd e8 (Int.not_le.mpr h))
  refine i_248_96 ?_
  refine i_248_97 hw9 (Nat.le_of_ble_eq_true rfl) (s_171_4 hw9 hw10 e0 e11 hw12) ?_
  exact i_248_100 ⟨rfl, rfl⟩
theorem s_247_7 {d : Nat} {w : xW} {a0 : Int32} {b0 : Int64} {a1 : Int32} {a2 : Int32} (hw0 : w[128]? = some (Sum.inr (12, [Value.ref 129, Value.ref 131, Value.ref 133, Value.ref 135, Value.ref 137, Value.ref 139, Value.ref 141, Value.ref 143, Value.ref 145, Value.ref 147, Value.ref 149, Value.ref 151, Value.ref 153, Value.ref 154, Value.ref 155, Value.ref 156, Value.ref 157, Value.int (-16384), Value.int 16384, Value.int 0, Value.int 0, Value.int 0, Value.ref 158, Value.ref 159, Value.int 0, Value.int 0, Value.int 0, Value.int 0, Value.int 0, Value.int 0, Value.int 0, Value.int 0]))) (e1 : 0 ≤ a0.toInt) (e2 : a0.toInt ≤ 15) (e3 : 0 ≤ a1.toInt) (e4 : a1.toInt ≤ 4) (hg5 : (xfe b0) = a2) (e6 : a2.toInt ≠ 2047) (e7 : a2.toInt = 0) (hg8 : (lg_cmp (xfr b0) (0 : Int64)) = 0) (e9 : 0 ≤ (lg_cmp b0 (0 : Int64)).toInt) (hw10 : w[154]? = some (Sum.inl (0, 17, fun _ => Value.int 0))) (e11 : a0.toInt < 17) (hw12 : w[156]? = some (Sum.inl (2, 17, fun _ => Value.int 0))) : xRun (d + 3) 247 [Value.ref 128, Value.int a0, Value.long b0, Value.int a1] w (.inl (some (Value.int 0))) (((w.set 128 (Sum.inr (12, [Value.ref 129, Value.ref 131, Value.ref 133, Value.ref 135, Value.ref 137, Value.ref 139, Value.ref 141, Value.ref 143, Value.ref 145, Value.ref 147, Value.ref 149, Value.ref 151, Value.ref 153, Value.ref 154, Value.ref 155, Value.ref 156, Value.ref 157, Value.int (-16384), Value.int 16384, Value.int 0, Value.int 0, Value.int 0, Value.ref 158, Value.ref 159, Value.int 0, Value.int 0, Value.int 0, Value.int 0, Value.int 0, Value.int 0, Value.int 0, Value.int 0]))).set 154 (Sum.inl (0, 17, xup (fun _ => Value.int 0) a0.toInt.toNat (Value.int 2)))).set 156 (Sum.inl (2, 17, xup (fun _ => Value.int 0) a0.toInt.toNat (Value.int 0)))) := by
  refine xRun.of ?_
  refine i_247_0 (x := 128) rfl ?_
  refine i_247_1 ?_
  refine i_247_2 (fs2 := [Value.ref 129, Value.ref 131, Value.ref 133, Value.ref 135, Value.ref 137, Value.ref 139, Value.ref 141, Value.ref 143, Value.ref 145, Value.ref 147, Value.ref 149, Value.ref 151, Value.ref 153, Value.ref 154, Value.ref 155, Value.ref 156, Value.ref 157, Value.int (-16384), Value.int 16384, Value.int 0, Value.int 0, Value.int 0, Value.ref 158, Value.ref 159, Value.int 0, Value.int 0, Value.int 0, Value.int 0, Value.int 0, Value.int 0, Value.int 0, Value.int 0]) hw0 (Nat.le_of_ble_eq_true rfl) rfl (by decide) ?_
  refine i_247_5 (x := 128) rfl ?_
  refine i_247_6 (x := a0) rfl ?_
  refine i_247_7 (x := b0) rfl ?_
  refine i_247_8 (x := a1) rfl ?_
  refine i_247_10 (xgs hw0) (Nat.le_of_ble_eq_true rfl) (s_248_7 e1 e2 e3 e4 hg5 e6 e7 hg8 e9 (xgs hw0) (xgn (by decide) hw10) e11 (xgn (by decide) hw12)) ?_
  exact i_247_13 ⟨rfl, rfl⟩
theorem o_16_8 {d : Nat} {xs : Nat → Int32} (h0 : ((xs 0) &&& (31 : Int32)).toInt = 16) (c0 : 0 ≤ (xs 1).toInt) (c1 : (xs 1).toInt < 16) (c2 : 0 ≤ (xs 4).toInt) (c3 : (xs 4).toInt ≤ 4) (c4 : 0 ≤ (lg_cmp (xvv xs) (0 : Int64)).toInt) (c5 : (xfd (xvv xs)).toInt ≠ 2047) (c6 : (xfd (xvv xs)).toInt = 0) (c7 : (lg_cmp (xfr (xvv xs)) (0 : Int64)).toInt = 0) : ∃ w1, xEv (d + 20) 287 23 [(4, Value.int 0), (3, Value.ref 194), (2, Value.ref 128), (1, Value.ref 7), (0, Value.ref 0)] [] (W0 6 xs) (fun o' w' => o' = .inl (some (Value.int 1)) ∧ w' = w1) ∧ w1.length ≤ 220 ∧ xsz w1 ≤ 200000 := by
  have f0 : 0 ≤ (xfd (xvv xs)).toInt := (xfd_b _).1
  have f1 : (xfd (xvv xs)).toInt ≤ 2047 := (xfd_b _).2
  refine ⟨((((((W0 6 xs).set (30 + 3 * (xs 1).toInt.toNat) (Sum.inr (2, [Value.int 64, Value.int 2, Value.int 0, Value.int 0, Value.ref (31 + 3 * (xs 1).toInt.toNat)]))).set 194 (Sum.inl (3, 1, xup (fun _ => Value.long 0) (0 : Int32).toInt.toNat (Value.long 0)))).set 128 (Sum.inr (12, [Value.ref 129, Value.ref 131, Value.ref 133, Value.ref 135, Value.ref 137, Value.ref 139, Value.ref 141, Value.ref 143, Value.ref 145, Value.ref 147, Value.ref 149, Value.ref 151, Value.ref 153, Value.ref 154, Value.ref 155, Value.ref 156, Value.ref 157, Value.int (-16384), Value.int 16384, Value.int 0, Value.int 0, Value.int 0, Value.ref 158, Value.ref 159, Value.int 0, Value.int 0, Value.int 0, Value.int 0, Value.int 0, Value.int 0, Value.int 0, Value.int 0]))).set 154 (Sum.inl (0, 17, xup (fun _ => Value.int 0) (xs 1).toInt.toNat (Value.int 2)))).set 156 (Sum.inl (2, 17, xup (fun _ => Value.int 0) (xs 1).toInt.toNat (Value.int 0)))), ?_, (show xLs _ 220 200000 from ?_)⟩
  · refine i_287_23 (x := 0) rfl ?_
    refine i_287_25 (x := 0) rfl ?_
    refine i_287_26 (c := 6) W0_0 (by decide) ?_
    refine i_287_27 ?_
    refine i_287_29 (c := 0) (by decide) ?_
    refine i_287_30 (fun h => absurd h (by decide)) (fun _ => ?_)
    refine i_287_33 (x := 0) rfl ?_
    refine i_287_34 (x := 0) rfl ?_
    refine i_287_36 (v := Value.int (xs 0)) W0_0 (by decide) (by decide) rfl ?_
    refine i_287_37 ?_
    refine i_287_39 (c := 16) (show ((xs 0) &&& (31 : Int32)) = 16 from (xge_c (n := 16) (by omega) rfl)) ?_
    refine i_287_40_16 rfl ?_
    refine i_287_1540 (x := 7) rfl ?_
    refine i_287_1541 (x := 0) rfl ?_
    refine i_287_1542 (x := 0) rfl ?_
    refine i_287_1544 ?_
    refine i_287_1545 (c := 1) (by decide) ?_
    refine i_287_1546 (v := Value.int (xs 1)) W0_0 (by decide) (by decide) rfl ?_
    refine i_287_1547 (x := 0) rfl ?_
    refine i_287_1548 (x := 0) rfl ?_
    refine i_287_1550 ?_
    refine i_287_1551 (c := 2) (by decide) ?_
    refine i_287_1552 (v := Value.int (xs 2)) W0_0 (by decide) (by decide) rfl ?_
    refine i_287_1553 (c := (xs 2).toInt64) rfl ?_
    refine i_287_1554 ?_
    refine i_287_1556 (c := (xsh (xs 2) (32 : Int32))) rfl ?_
    refine i_287_1557 (x := 0) rfl ?_
    refine i_287_1558 (x := 0) rfl ?_
    refine i_287_1560 ?_
    refine i_287_1561 (c := 3) (by decide) ?_
    refine i_287_1562 (v := Value.int (xs 3)) W0_0 (by decide) (by decide) rfl ?_
    refine i_287_1563 (c := (xs 3).toInt64) rfl ?_
    refine i_287_1564 ?_
    refine i_287_1567 (c := (((xs 3).toInt64) &&& (4294967295 : Int64))) rfl ?_
    refine i_287_1568 (c := (xvv xs)) rfl ?_
    refine i_287_1569 (x := 0) rfl ?_
    refine i_287_1570 (x := 0) rfl ?_
    refine i_287_1572 ?_
    refine i_287_1573 (c := 4) (by decide) ?_
    refine i_287_1574 (v := Value.int (xs 4)) W0_0 (by decide) (by decide) rfl ?_
    refine i_287_1575 (x := 194) rfl ?_
    refine i_287_1576 (Nat.le_of_ble_eq_true rfl) (s_127_16 W0_7 (by omega) (by omega) (by omega) (by omega) W0_8 (greg_at (by omega)) (by omega) (show (xfd (xvv xs)) = 0 from (xge_c (n := 0) (by omega) rfl)) (show (lg_cmp (xfr (xvv xs)) (0 : Int64)) = 0 from (xge_c (n := 0) (by omega) rfl)) (W0_reg (by omega)) (by omega) (by omega) W0_194) ?_
    refine i_287_1579 (lv2 := [(5, Value.int 0), (4, Value.int 0), (3, Value.ref 194), (2, Value.ref 128), (1, Value.ref 7), (0, Value.ref 0)]) rfl ?_
    refine i_287_1581 (x := 128) rfl ?_
    refine i_287_1582 (x := 0) rfl ?_
    refine i_287_1583 (x := 0) rfl ?_
    refine i_287_1585 ?_
    refine i_287_1586 (c := 1) (by decide) ?_
    refine i_287_1587 (v := Value.int (xs 1)) (xgn (by decide) (xgn (by omega) W0_0)) (by decide) (by decide) rfl ?_
    refine i_287_1588 (x := 0) rfl ?_
    refine i_287_1589 (x := 0) rfl ?_
    refine i_287_1591 ?_
    refine i_287_1592 (c := 2) (by decide) ?_
    refine i_287_1593 (v := Value.int (xs 2)) (xgn (by decide) (xgn (by omega) W0_0)) (by decide) (by decide) rfl ?_
    refine i_287_1594 (c := (xs 2).toInt64) rfl ?_
    refine i_287_1595 ?_
    refine i_287_1597 (c := (xsh (xs 2) (32 : Int32))) rfl ?_
    refine i_287_1598 (x := 0) rfl ?_
    refine i_287_1599 (x := 0) rfl ?_
    refine i_287_1601 ?_
    refine i_287_1602 (c := 3) (by decide) ?_
    refine i_287_1603 (v := Value.int (xs 3)) (xgn (by decide) (xgn (by omega) W0_0)) (by decide) (by decide) rfl ?_
    refine i_287_1604 (c := (xs 3).toInt64) rfl ?_
    refine i_287_1605 ?_
    refine i_287_1608 (c := (((xs 3).toInt64) &&& (4294967295 : Int64))) rfl ?_
    refine i_287_1609 (c := (xvv xs)) rfl ?_
    refine i_287_1610 (x := 0) rfl ?_
    refine i_287_1611 (x := 0) rfl ?_
    refine i_287_1613 ?_
    refine i_287_1614 (c := 4) (by decide) ?_
    refine i_287_1615 (v := Value.int (xs 4)) (xgn (by decide) (xgn (by omega) W0_0)) (by decide) (by decide) rfl ?_
    refine i_287_1616 (xgn (by decide) (xgn (by omega) W0_128)) (Nat.le_of_ble_eq_true rfl) (s_247_7 (xgn (by decide) (xgn (by omega) W0_128)) (by omega) (by omega) (by omega) (by omega) (show (xfe (xvv xs)) = (xfd (xvv xs)) from (xfe_eq _)) (by omega) (by omega) (show (lg_cmp (xfr (xvv xs)) (0 : Int64)) = 0 from (xge_c (n := 0) (by omega) rfl)) (by omega) (xgn (by decide) (xgn (by omega) W0_154)) (by omega) (xgn (by decide) (xgn (by omega) W0_156))) ?_
    refine i_287_1619 (lv2 := [(6, Value.int 0), (5, Value.int 0), (4, Value.int 0), (3, Value.ref 194), (2, Value.ref 128), (1, Value.ref 7), (0, Value.ref 0)]) rfl ?_
    refine i_287_1621 (x := 128) rfl ?_
    refine i_287_1622 (xgn (by decide) (xgn (by decide) (xgs (xgn (by decide) (xgn (by omega) W0_128))))) (Nat.le_of_ble_eq_true rfl) (s_165_2 (xgn (by decide) (xgn (by decide) (xgs (xgn (by decide) (xgn (by omega) W0_128)))))) ?_
    refine i_287_1625 (x := 0) rfl ?_
    refine i_287_1627 (fun _ => ?_) (fun h => absurd h (by decide))
    refine i_287_1632 (x := 0) rfl ?_
    refine i_287_1634 (fun h => absurd h (by decide)) (fun _ => ?_)
    refine i_287_1637 (x := 194) rfl ?_
    refine i_287_1638 ?_
    refine i_287_1639 (v := Value.long 0) (xgn (by decide) (xgn (by decide) (xgn (by decide) (xgs (xgn (by omega) W0_194))))) (by decide) (by decide) xup_s ?_
    refine i_287_1640 (x := 0) rfl ?_
    refine i_287_1642 (c := 0) (by decide) ?_
    refine i_287_1643 (c := 0) (by decide) ?_
    refine i_287_1644 (fun _ => ?_) (fun h => absurd h (by decide))
    refine i_287_1649 ?_
    refine i_287_2154 (x := 0) (c := 6) (lv2 := [(4, Value.int 6), (6, Value.int 0), (5, Value.int 0), (3, Value.ref 194), (2, Value.ref 128), (1, Value.ref 7), (0, Value.ref 0)]) rfl (by decide) rfl ?_
    refine i_287_2157 ?_
    refine i_287_23 (x := 6) rfl ?_
    refine i_287_25 (x := 0) rfl ?_
    refine i_287_26 (c := 6) (xgn (by decide) (xgn (by decide) (xgn (by decide) (xgn (by decide) (xgn (by omega) W0_0))))) (by decide) ?_
    refine i_287_27 ?_
    refine i_287_29 (c := 0) (by decide) ?_
    refine i_287_30 (fun _ => ?_) (fun h => absurd h (by decide))
    refine i_287_2160 ?_
    exact i_287_2161 rfl ⟨rfl, rfl⟩
  · refine xLs.set ?_ (xgn (by decide) (xgn (by decide) (xgn (by decide) (xgn (by omega) W0_156)))) xcs_a
    refine xLs.set ?_ (xgn (by decide) (xgn (by decide) (xgn (by omega) W0_154))) xcs_a
    refine xLs.set ?_ (xgn (by decide) (xgn (by omega) W0_128)) xcs_o
    refine xLs.set ?_ (xgn (by omega) W0_194) xcs_a
    refine xLs.set ?_ (W0_reg (by omega)) xcs_o
    exact ⟨Nat.le_trans (Nat.le_of_eq W0_len) (by decide), Nat.le_trans (Nat.le_of_eq W0_sz) (by decide)⟩
theorem s_128_17 {d : Nat} {w : xW} {a0 : Int32} {b0 : Int64} {a1 : Int32} (e0 : 0 ≤ a0.toInt) (e1 : 16 ≤ a0.toInt) : xRun (d + 6) 128 [Value.ref 7, Value.int a0, Value.long b0, Value.int a1] w (.inr w.length) (w ++ [Sum.inr (14, [])]) := by
  refine xRun.of ?_
  refine i_128_0 (x := a0) rfl ?_
  refine i_128_1 (Nat.le_of_ble_eq_true rfl) (s_15_2 e0 e1) ?_
  refine i_128_4 (fun _ => ?_) (fun h => absurd h (by decide))
  exact i_128_15 (by omega) (Nat.le_of_ble_eq_true rfl) ⟨rfl, rfl⟩
theorem s_127_17 {d : Nat} {w : xW} {a0 : Int32} {b0 : Int64} {a1 : Int32} (hw0 : w[7]? = some (Sum.inr (0, [Value.ref 8, Value.ref 78, Value.ref 9, Value.ref 10, Value.ref 13, Value.ref 16, Value.ref 19, Value.ref 93, Value.ref 108, Value.ref 113, Value.ref 29, Value.int 0]))) (e1 : 0 ≤ a0.toInt) (e2 : 16 ≤ a0.toInt) : xRun (d + 7) 127 [Value.ref 7, Value.int a0, Value.long b0, Value.int a1, Value.ref 194] w (.inl (some (Value.int 1))) (w ++ [Sum.inr (14, [])]) := by
  refine xRun.of ?_
  refine i_127_0 (x := 194) rfl ?_
  refine i_127_2 ?_
  refine i_127_3 (x := 7) rfl ?_
  refine i_127_4 (x := a0) rfl ?_
  refine i_127_5 (x := b0) rfl ?_
  refine i_127_6 (x := a1) rfl ?_
  refine j_127_8 hw0 (Nat.le_of_ble_eq_true rfl) (s_128_17 e1 e2) (xDone.c xgl rfl rfl ?_)
  refine i_127_16 (lv2 := [(6, Value.ref w.length), (0, Value.ref 7), (1, Value.int a0), (2, Value.long b0), (4, Value.int a1), (5, Value.ref 194)]) rfl ?_
  refine i_127_18 ?_
  exact i_127_19 ⟨rfl, rfl⟩
theorem s_248_8 {d : Nat} {w : xW} {a0 : Int32} {b0 : Int64} {a1 : Int32} (e0 : 0 ≤ a0.toInt) (e1 : 15 < a0.toInt) : xRun (d + 8) 248 [Value.ref 128, Value.int a0, Value.long b0, Value.int a1] w (.inr w.length) (w ++ [Sum.inr (14, [])]) := by
  refine xRun.of ?_
  refine i_248_0 (x := a0) rfl ?_
  exact j_248_1 (Nat.le_of_ble_eq_true rfl) (s_168_2 e0 e1) (xDone.t xgl rfl rfl ⟨rfl, rfl⟩)
theorem s_247_8 {d : Nat} {w : xW} {a0 : Int32} {b0 : Int64} {a1 : Int32} (hw0 : w[128]? = some (Sum.inr (12, [Value.ref 129, Value.ref 131, Value.ref 133, Value.ref 135, Value.ref 137, Value.ref 139, Value.ref 141, Value.ref 143, Value.ref 145, Value.ref 147, Value.ref 149, Value.ref 151, Value.ref 153, Value.ref 154, Value.ref 155, Value.ref 156, Value.ref 157, Value.int (-16384), Value.int 16384, Value.int 0, Value.int 0, Value.int 0, Value.ref 158, Value.ref 159, Value.int 0, Value.int 0, Value.int 0, Value.int 0, Value.int 0, Value.int 0, Value.int 0, Value.int 0]))) (e1 : 0 ≤ a0.toInt) (e2 : 15 < a0.toInt) : xRun (d + 9) 247 [Value.ref 128, Value.int a0, Value.long b0, Value.int a1] w (.inl (some (Value.int 0))) (((w.set 128 (Sum.inr (12, [Value.ref 129, Value.ref 131, Value.ref 133, Value.ref 135, Value.ref 137, Value.ref 139, Value.ref 141, Value.ref 143, Value.ref 145, Value.ref 147, Value.ref 149, Value.ref 151, Value.ref 153, Value.ref 154, Value.ref 155, Value.ref 156, Value.ref 157, Value.int (-16384), Value.int 16384, Value.int 0, Value.int 0, Value.int 0, Value.ref 158, Value.ref 159, Value.int 0, Value.int 0, Value.int 0, Value.int 0, Value.int 0, Value.int 0, Value.int 0, Value.int 0]))) ++ [Sum.inr (14, [])]).set 128 (Sum.inr (12, [Value.ref 129, Value.ref 131, Value.ref 133, Value.ref 135, Value.ref 137, Value.ref 139, Value.ref 141, Value.ref 143, Value.ref 145, Value.ref 147, Value.ref 149, Value.ref 151, Value.ref 153, Value.ref 154, Value.ref 155, Value.ref 156, Value.ref 157, Value.int (-16384), Value.int 16384, Value.int 0, Value.int 0, Value.int 0, Value.ref 158, Value.ref 159, Value.int 0, Value.int 0, Value.int 0, Value.int 0, Value.int 0, Value.int 0, Value.int 0, Value.int 1]))) := by
  refine xRun.of ?_
  refine i_247_0 (x := 128) rfl ?_
  refine i_247_1 ?_
  refine i_247_2 (fs2 := [Value.ref 129, Value.ref 131, Value.ref 133, Value.ref 135, Value.ref 137, Value.ref 139, Value.ref 141, Value.ref 143, Value.ref 145, Value.ref 147, Value.ref 149, Value.ref 151, Value.ref 153, Value.ref 154, Value.ref 155, Value.ref 156, Value.ref 157, Value.int (-16384), Value.int 16384, Value.int 0, Value.int 0, Value.int 0, Value.ref 158, Value.ref 159, Value.int 0, Value.int 0, Value.int 0, Value.int 0, Value.int 0, Value.int 0, Value.int 0, Value.int 0]) hw0 (Nat.le_of_ble_eq_true rfl) rfl (by decide) ?_
  refine i_247_5 (x := 128) rfl ?_
  refine i_247_6 (x := a0) rfl ?_
  refine i_247_7 (x := b0) rfl ?_
  refine i_247_8 (x := a1) rfl ?_
  refine j_247_10 (xgs hw0) (Nat.le_of_ble_eq_true rfl) (s_248_8 e1 e2) (xDone.c xgl rfl rfl ?_)
  refine i_247_14 (lv2 := [(5, Value.ref ((w.set 128 (Sum.inr (12, [Value.ref 129, Value.ref 131, Value.ref 133, Value.ref 135, Value.ref 137, Value.ref 139, Value.ref 141, Value.ref 143, Value.ref 145, Value.ref 147, Value.ref 149, Value.ref 151, Value.ref 153, Value.ref 154, Value.ref 155, Value.ref 156, Value.ref 157, Value.int (-16384), Value.int 16384, Value.int 0, Value.int 0, Value.int 0, Value.ref 158, Value.ref 159, Value.int 0, Value.int 0, Value.int 0, Value.int 0, Value.int 0, Value.int 0, Value.int 0, Value.int 0]))).length)), (0, Value.ref 128), (1, Value.int a0), (2, Value.long b0), (4, Value.int a1)]) rfl ?_
  refine i_247_16 (x := 128) rfl ?_
  refine i_247_17 ?_
  refine i_247_18 (fs2 := [Value.ref 129, Value.ref 131, Value.ref 133, Value.ref 135, Value.ref 137, Value.ref 139, Value.ref 141, Value.ref 143, Value.ref 145, Value.ref 147, Value.ref 149, Value.ref 151, Value.ref 153, Value.ref 154, Value.ref 155, Value.ref 156, Value.ref 157, Value.int (-16384), Value.int 16384, Value.int 0, Value.int 0, Value.int 0, Value.ref 158, Value.ref 159, Value.int 0, Value.int 0, Value.int 0, Value.int 0, Value.int 0, Value.int 0, Value.int 0, Value.int 1]) (xga (xgs hw0)) (Nat.le_of_ble_eq_true rfl) rfl (by decide) ?_
  refine i_247_21 ?_
  exact i_247_22 ⟨rfl, rfl⟩
theorem o_16_9 {d : Nat} {xs : Nat → Int32} (h0 : ((xs 0) &&& (31 : Int32)).toInt = 16) (c0 : 0 ≤ (xs 1).toInt) (c1 : 16 ≤ (xs 1).toInt) : ∃ w1, xEv (d + 20) 287 23 [(4, Value.int 0), (3, Value.ref 194), (2, Value.ref 128), (1, Value.ref 7), (0, Value.ref 0)] [] (W0 6 xs) (fun o' w' => o' = .inl (some (Value.int 1)) ∧ w' = w1) ∧ w1.length ≤ 220 ∧ xsz w1 ≤ 200000 := by
  have f0 : 0 ≤ (xfd (xvv xs)).toInt := (xfd_b _).1
  have f1 : (xfd (xvv xs)).toInt ≤ 2047 := (xfd_b _).2
  refine ⟨(((((W0 6 xs) ++ [Sum.inr (14, [])]).set 128 (Sum.inr (12, [Value.ref 129, Value.ref 131, Value.ref 133, Value.ref 135, Value.ref 137, Value.ref 139, Value.ref 141, Value.ref 143, Value.ref 145, Value.ref 147, Value.ref 149, Value.ref 151, Value.ref 153, Value.ref 154, Value.ref 155, Value.ref 156, Value.ref 157, Value.int (-16384), Value.int 16384, Value.int 0, Value.int 0, Value.int 0, Value.ref 158, Value.ref 159, Value.int 0, Value.int 0, Value.int 0, Value.int 0, Value.int 0, Value.int 0, Value.int 0, Value.int 0]))) ++ [Sum.inr (14, [])]).set 128 (Sum.inr (12, [Value.ref 129, Value.ref 131, Value.ref 133, Value.ref 135, Value.ref 137, Value.ref 139, Value.ref 141, Value.ref 143, Value.ref 145, Value.ref 147, Value.ref 149, Value.ref 151, Value.ref 153, Value.ref 154, Value.ref 155, Value.ref 156, Value.ref 157, Value.int (-16384), Value.int 16384, Value.int 0, Value.int 0, Value.int 0, Value.ref 158, Value.ref 159, Value.int 0, Value.int 0, Value.int 0, Value.int 0, Value.int 0, Value.int 0, Value.int 0, Value.int 1]))), ?_, (show xLs _ 220 200000 from ?_)⟩
  · refine i_287_23 (x := 0) rfl ?_
    refine i_287_25 (x := 0) rfl ?_
    refine i_287_26 (c := 6) W0_0 (by decide) ?_
    refine i_287_27 ?_
    refine i_287_29 (c := 0) (by decide) ?_
    refine i_287_30 (fun h => absurd h (by decide)) (fun _ => ?_)
    refine i_287_33 (x := 0) rfl ?_
    refine i_287_34 (x := 0) rfl ?_
    refine i_287_36 (v := Value.int (xs 0)) W0_0 (by decide) (by decide) rfl ?_
    refine i_287_37 ?_
    refine i_287_39 (c := 16) (show ((xs 0) &&& (31 : Int32)) = 16 from (xge_c (n := 16) (by omega) rfl)) ?_
    refine i_287_40_16 rfl ?_
    refine i_287_1540 (x := 7) rfl ?_
    refine i_287_1541 (x := 0) rfl ?_
    refine i_287_1542 (x := 0) rfl ?_
    refine i_287_1544 ?_
    refine i_287_1545 (c := 1) (by decide) ?_
    refine i_287_1546 (v := Value.int (xs 1)) W0_0 (by decide) (by decide) rfl ?_
    refine i_287_1547 (x := 0) rfl ?_
    refine i_287_1548 (x := 0) rfl ?_
    refine i_287_1550 ?_
    refine i_287_1551 (c := 2) (by decide) ?_
    refine i_287_1552 (v := Value.int (xs 2)) W0_0 (by decide) (by decide) rfl ?_
    refine i_287_1553 (c := (xs 2).toInt64) rfl ?_
    refine i_287_1554 ?_
    refine i_287_1556 (c := (xsh (xs 2) (32 : Int32))) rfl ?_
    refine i_287_1557 (x := 0) rfl ?_
    refine i_287_1558 (x := 0) rfl ?_
    refine i_287_1560 ?_
    refine i_287_1561 (c := 3) (by decide) ?_
    refine i_287_1562 (v := Value.int (xs 3)) W0_0 (by decide) (by decide) rfl ?_
    refine i_287_1563 (c := (xs 3).toInt64) rfl ?_
    refine i_287_1564 ?_
    refine i_287_1567 (c := (((xs 3).toInt64) &&& (4294967295 : Int64))) rfl ?_
    refine i_287_1568 (c := (xvv xs)) rfl ?_
    refine i_287_1569 (x := 0) rfl ?_
    refine i_287_1570 (x := 0) rfl ?_
    refine i_287_1572 ?_
    refine i_287_1573 (c := 4) (by decide) ?_
    refine i_287_1574 (v := Value.int (xs 4)) W0_0 (by decide) (by decide) rfl ?_
    refine i_287_1575 (x := 194) rfl ?_
    refine i_287_1576 (Nat.le_of_ble_eq_true rfl) (s_127_17 W0_7 (by omega) (by omega)) ?_
    refine i_287_1579 (lv2 := [(5, Value.int 1), (4, Value.int 0), (3, Value.ref 194), (2, Value.ref 128), (1, Value.ref 7), (0, Value.ref 0)]) rfl ?_
    refine i_287_1581 (x := 128) rfl ?_
    refine i_287_1582 (x := 0) rfl ?_
    refine i_287_1583 (x := 0) rfl ?_
    refine i_287_1585 ?_
    refine i_287_1586 (c := 1) (by decide) ?_
    refine i_287_1587 (v := Value.int (xs 1)) (xga W0_0) (by decide) (by decide) rfl ?_
    refine i_287_1588 (x := 0) rfl ?_
    refine i_287_1589 (x := 0) rfl ?_
    refine i_287_1591 ?_
    refine i_287_1592 (c := 2) (by decide) ?_
    refine i_287_1593 (v := Value.int (xs 2)) (xga W0_0) (by decide) (by decide) rfl ?_
    refine i_287_1594 (c := (xs 2).toInt64) rfl ?_
    refine i_287_1595 ?_
    refine i_287_1597 (c := (xsh (xs 2) (32 : Int32))) rfl ?_
    refine i_287_1598 (x := 0) rfl ?_
    refine i_287_1599 (x := 0) rfl ?_
    refine i_287_1601 ?_
    refine i_287_1602 (c := 3) (by decide) ?_
    refine i_287_1603 (v := Value.int (xs 3)) (xga W0_0) (by decide) (by decide) rfl ?_
    refine i_287_1604 (c := (xs 3).toInt64) rfl ?_
    refine i_287_1605 ?_
    refine i_287_1608 (c := (((xs 3).toInt64) &&& (4294967295 : Int64))) rfl ?_
    refine i_287_1609 (c := (xvv xs)) rfl ?_
    refine i_287_1610 (x := 0) rfl ?_
    refine i_287_1611 (x := 0) rfl ?_
    refine i_287_1613 ?_
    refine i_287_1614 (c := 4) (by decide) ?_
    refine i_287_1615 (v := Value.int (xs 4)) (xga W0_0) (by decide) (by decide) rfl ?_
    refine i_287_1616 (xga W0_128) (Nat.le_of_ble_eq_true rfl) (s_247_8 (xga W0_128) (by omega) (by omega)) ?_
    refine i_287_1619 (lv2 := [(6, Value.int 0), (5, Value.int 1), (4, Value.int 0), (3, Value.ref 194), (2, Value.ref 128), (1, Value.ref 7), (0, Value.ref 0)]) rfl ?_
    refine i_287_1621 (x := 128) rfl ?_
    refine i_287_1622 (xgs (xga (xgs (xga W0_128)))) (Nat.le_of_ble_eq_true rfl) (s_165_1 (xgs (xga (xgs (xga W0_128))))) ?_
    refine i_287_1625 (x := 1) rfl ?_
    refine i_287_1627 (fun _ => ?_) (fun h => absurd h (by decide))
    refine i_287_1632 (x := 1) rfl ?_
    refine i_287_1634 (fun _ => ?_) (fun h => absurd h (by decide))
    refine i_287_1649 ?_
    refine i_287_2154 (x := 0) (c := 6) (lv2 := [(4, Value.int 6), (6, Value.int 0), (5, Value.int 1), (3, Value.ref 194), (2, Value.ref 128), (1, Value.ref 7), (0, Value.ref 0)]) rfl (by decide) rfl ?_
    refine i_287_2157 ?_
    refine i_287_23 (x := 6) rfl ?_
    refine i_287_25 (x := 0) rfl ?_
    refine i_287_26 (c := 6) (xgn (by decide) (xga (xgn (by decide) (xga W0_0)))) (by decide) ?_
    refine i_287_27 ?_
    refine i_287_29 (c := 0) (by decide) ?_
    refine i_287_30 (fun _ => ?_) (fun h => absurd h (by decide))
    refine i_287_2160 ?_
    exact i_287_2161 rfl ⟨rfl, rfl⟩
  · refine xLs.set ?_ (xga (xgs (xga W0_128))) xcs_o
    refine xLs.app (n := 219) (z := 199994) (m := 6) ?_ rfl
    refine xLs.set ?_ (xga W0_128) xcs_o
    refine xLs.app (n := 218) (z := 199988) (m := 6) ?_ rfl
    exact ⟨Nat.le_trans (Nat.le_of_eq W0_len) (by decide), Nat.le_trans (Nat.le_of_eq W0_sz) (by decide)⟩
theorem op_16 {d : Nat} {xs : Nat → Int32} (h0 : ((xs 0) &&& (31 : Int32)).toInt = 16) : ∃ w1, xEv (d + 20) 287 23 [(4, Value.int 0), (3, Value.ref 194), (2, Value.ref 128), (1, Value.ref 7), (0, Value.ref 0)] [] (W0 6 xs) (fun o' w' => o' = .inl (some (Value.int 1)) ∧ w' = w1) ∧ w1.length ≤ 220 ∧ xsz w1 ≤ 200000 := by
  rcases Int.lt_or_le (xs 1).toInt (0) with c0 | c0
  · exact o_16_0 h0 c0
  · rcases Int.lt_or_le (xs 1).toInt (16) with c1 | c1
    · rcases Int.lt_or_le (xs 4).toInt (0) with c2 | c2
      · exact o_16_1 h0 c0 c1 c2
      · rcases Int.lt_or_le (4) (xs 4).toInt with c3 | c3
        · exact o_16_2 h0 c0 c1 c2 c3
        · rcases Int.lt_or_le (lg_cmp (xvv xs) (0 : Int64)).toInt (0) with c4 | c4
          · by_cases c5 : (xfd (xvv xs)).toInt = 2047
            · by_cases c6 : (lg_cmp (xfr (xvv xs)) (0 : Int64)).toInt = 0
              · exact o_16_3 h0 c0 c1 c2 c3 c4 c5 c6
              · exact o_16_4 h0 c0 c1 c2 c3 c4 c5 c6
            · by_cases c6 : (xfd (xvv xs)).toInt = 0
              · by_cases c7 : (lg_cmp (xfr (xvv xs)) (0 : Int64)).toInt = 0
                · exact o_16_5 h0 c0 c1 c2 c3 c4 c5 c6 c7
                · exact op16v_01 h0 c0 c1 c2 c3 (xfd_b _).1 (xfd_b _).2 c5 c6 c7 c4
              · exact op16v_11 h0 c0 c1 c2 c3 (xfd_b _).1 (xfd_b _).2 c5 c6 c4
          · by_cases c5 : (xfd (xvv xs)).toInt = 2047
            · by_cases c6 : (lg_cmp (xfr (xvv xs)) (0 : Int64)).toInt = 0
              · exact o_16_6 h0 c0 c1 c2 c3 c4 c5 c6
              · exact o_16_7 h0 c0 c1 c2 c3 c4 c5 c6
            · by_cases c6 : (xfd (xvv xs)).toInt = 0
              · by_cases c7 : (lg_cmp (xfr (xvv xs)) (0 : Int64)).toInt = 0
                · exact o_16_8 h0 c0 c1 c2 c3 c4 c5 c6 c7
                · exact op16v_00 h0 c0 c1 c2 c3 (xfd_b _).1 (xfd_b _).2 c5 c6 c7 c4
              · exact op16v_10 h0 c0 c1 c2 c3 (xfd_b _).1 (xfd_b _).2 c5 c6 c4
    · exact o_16_9 h0 c0 c1
