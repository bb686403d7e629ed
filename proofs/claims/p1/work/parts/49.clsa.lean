theorem s_15_0 {d : Nat} {w : xW} {a0 : Int32} (e0 : 0 ≤ a0.toInt) (e1 : a0.toInt < 16) : xRun d 15 [Value.int a0] w (.inl (some (Value.int 0))) w := by
  refine xRun.of ?_
  refine i_15_0 (x := a0) rfl ?_
  refine i_15_1 (fun h => absurd e0 (Int.not_le.mpr h)) (fun _ => ?_)
  refine i_15_4 (x := a0) rfl ?_
  refine i_15_5 ?_
  refine i_15_7 (fun _ => ?_) (fun h => absurd e1 (Int.not_lt.mpr h))
  refine i_15_14 ?_
  exact i_15_15 rfl ⟨rfl, rfl⟩
theorem s_22_0 {d : Nat} {w : xW} {a0 : Int32} (e0 : 0 ≤ a0.toInt) (e1 : a0.toInt ≤ 4) : xRun d 22 [Value.int a0] w (.inl (some (Value.int 0))) w := by
  refine xRun.of ?_
  refine i_22_0 (x := a0) rfl ?_
  refine i_22_1 (fun h => absurd e0 (Int.not_le.mpr h)) (fun _ => ?_)
  refine i_22_4 (x := a0) rfl ?_
  refine i_22_5 ?_
  refine i_22_6 (fun _ => ?_) (fun h => absurd e1 (Int.not_le.mpr h))
  refine i_22_13 ?_
  exact i_22_14 rfl ⟨rfl, rfl⟩
theorem s_26_0 {d : Nat} {w : xW} {g0 : Nat → Value} {a0 : Int32} (hw0 : w[17]? = some (Sum.inr (3, [Value.ref 18, Value.int 2]))) (hw1 : w[18]? = some (Sum.inl (0, 8, g0))) (hg2 : g0 (1 : Int32).toInt.toNat = Value.int 0) (hg3 : g0 (0 : Int32).toInt.toNat = Value.int a0) (e4 : a0.toInt ≠ 0) : xRun d 26 [Value.ref 17] w (.inl none) (w.set 17 (Sum.inr (3, [Value.ref 18, Value.int 1]))) := by
  refine xRun.of ?_
  refine i_26_0 (x := 17) rfl ?_
  refine i_26_1 (v := Value.int 2) hw0 rfl ?_
  refine i_26_4 (fun h => absurd h (by decide)) (fun _ => ?_)
  refine i_26_7 (x := 17) rfl ?_
  refine i_26_8 (v := Value.ref 18) hw0 rfl ?_
  refine i_26_11 (x := 17) rfl ?_
  refine i_26_12 (v := Value.int 2) hw0 rfl ?_
  refine i_26_15 ?_
  refine i_26_16 (c := 1) (by decide) ?_
  refine i_26_17 (v := Value.int 0) hw1 (by decide) (by decide) hg2 ?_
  refine i_26_18 (fun h => absurd h (by decide)) (fun _ => ?_)
  refine i_26_21 (x := 17) rfl ?_
  refine i_26_22 rfl ?_
  refine i_26_23 (v := Value.int 2) hw0 rfl ?_
  refine i_26_26 ?_
  refine i_26_27 (c := 1) (by decide) ?_
  refine i_26_28 (fs2 := [Value.ref 18, Value.int 1]) hw0 (Nat.le_of_ble_eq_true rfl) rfl (by decide) ?_
  refine i_26_31 ?_
  refine i_26_0 (x := 17) rfl ?_
  refine i_26_1 (v := Value.int 1) (xgs hw0) rfl ?_
  refine i_26_4 (fun h => absurd h (by decide)) (fun _ => ?_)
  refine i_26_7 (x := 17) rfl ?_
  refine i_26_8 (v := Value.ref 18) (xgs hw0) rfl ?_
  refine i_26_11 (x := 17) rfl ?_
  refine i_26_12 (v := Value.int 1) (xgs hw0) rfl ?_
  refine i_26_15 ?_
  refine i_26_16 (c := 0) (by decide) ?_
  refine i_26_17 (v := Value.int a0) (xgn (by decide) hw1) (by decide) (by decide) hg3 ?_
  refine i_26_18 (fun _ => ?_) (fun h => absurd e4 (fun g => g h))
  exact i_26_34 ⟨rfl, rfl⟩
theorem s_25_0 {d : Nat} {w : xW} {b0 : Int64} (hw0 : w[17]? = some (Sum.inr (3, [Value.ref 18, Value.int 0]))) (hw1 : w[18]? = some (Sum.inl (0, 8, fun _ => Value.int 0))) (hg2 : (xhi b0) = 0) (e3 : (xlo b0).toInt ≠ 0) : xRun (d + 1) 25 [Value.ref 17, Value.long b0] w (.inl none) (((w.set 18 (Sum.inl (0, 8, xup (xup (fun _ => Value.int 0) (0 : Int32).toInt.toNat (Value.int (xlo b0))) (1 : Int32).toInt.toNat (Value.int 0)))).set 17 (Sum.inr (3, [Value.ref 18, Value.int 2]))).set 17 (Sum.inr (3, [Value.ref 18, Value.int 1]))) := by
  refine xRun.of ?_
  refine i_25_0 (x := 17) rfl ?_
  refine i_25_1 (v := Value.ref 18) hw0 rfl ?_
  refine i_25_4 ?_
  refine i_25_5 (x := b0) rfl ?_
  refine i_25_6 (c := (xlo b0)) rfl ?_
  refine i_25_7 (v := Value.int (xlo b0)) hw1 (by decide) (by decide) (by decide) rfl ?_
  refine i_25_8 (x := 17) rfl ?_
  refine i_25_9 (v := Value.ref 18) (xgn (by decide) hw0) rfl ?_
  refine i_25_12 ?_
  refine i_25_13 (x := b0) rfl ?_
  refine i_25_14 ?_
  refine i_25_16 (c := (xsr b0 32)) rfl ?_
  refine i_25_17 (c := 0) hg2 ?_
  refine i_25_18 (v := Value.int 0) (xgs hw1) (by decide) (by decide) (by decide) rfl ?_
  refine xEv.world (List.set_set _) ?_
  refine i_25_19 (x := 17) rfl ?_
  refine i_25_20 ?_
  refine i_25_21 (fs2 := [Value.ref 18, Value.int 2]) (xgn (by decide) hw0) (Nat.le_of_ble_eq_true rfl) rfl (by decide) ?_
  refine i_25_24 (x := 17) rfl ?_
  refine i_25_25 (xgs (xgn (by decide) hw0)) (Nat.le_of_ble_eq_true rfl) (s_26_0 (xgs (xgn (by decide) hw0)) (xgn (by decide) (xgs hw1)) xup_s (xup_n (by decide) xup_s) e3) ?_
  exact i_25_28 ⟨rfl, rfl⟩
theorem s_24_0 {d : Nat} {w : xW} {b0 : Int64} {a0 : Int32} (hw0 : w[16]? = some (Sum.inr (4, [Value.int 0, Value.ref 17, Value.int 0, Value.int 0]))) (hw1 : w[17]? = some (Sum.inr (3, [Value.ref 18, Value.int 0]))) (hw2 : w[18]? = some (Sum.inl (0, 8, fun _ => Value.int 0))) (hg3 : (xhi b0) = 0) (e4 : (xlo b0).toInt ≠ 0) : xRun (d + 2) 24 [Value.ref 16, Value.int 0, Value.long b0, Value.int a0] w (.inl none) (((((w.set 16 (Sum.inr (4, [Value.int 0, Value.ref 17, Value.int 0, Value.int 0]))).set 18 (Sum.inl (0, 8, xup (xup (fun _ => Value.int 0) (0 : Int32).toInt.toNat (Value.int (xlo b0))) (1 : Int32).toInt.toNat (Value.int 0)))).set 17 (Sum.inr (3, [Value.ref 18, Value.int 2]))).set 17 (Sum.inr (3, [Value.ref 18, Value.int 1]))).set 16 (Sum.inr (4, [Value.int 0, Value.ref 17, Value.int a0, Value.int 0]))) := by
  refine xRun.of ?_
  refine i_24_0 (x := 16) rfl ?_
  refine i_24_1 (x := 0) rfl ?_
  refine i_24_2 (fs2 := [Value.int 0, Value.ref 17, Value.int 0, Value.int 0]) hw0 rfl (Nat.le_of_ble_eq_true rfl) rfl (by decide) ?_
  refine i_24_5 (x := 16) rfl ?_
  refine i_24_6 (v := Value.ref 17) (xgs hw0) rfl ?_
  refine i_24_9 (x := b0) rfl ?_
  refine i_24_10 (xgn (by decide) hw1) (Nat.le_of_ble_eq_true rfl) (s_25_0 (xgn (by decide) hw1) (xgn (by decide) hw2) hg3 e4) ?_
  refine i_24_13 (x := 16) rfl ?_
  refine i_24_14 (x := a0) rfl ?_
  refine i_24_16 (fs2 := [Value.int 0, Value.ref 17, Value.int a0, Value.int 0]) (xgn (by decide) (xgn (by decide) (xgn (by decide) (xgs hw0)))) (Nat.le_of_ble_eq_true rfl) rfl (by decide) ?_
  refine i_24_19 (x := 16) rfl ?_
  refine i_24_20 ?_
  refine i_24_21 (fs2 := [Value.int 0, Value.ref 17, Value.int a0, Value.int 0]) (xgs (xgn (by decide) (xgn (by decide) (xgn (by decide) (xgs hw0))))) rfl (Nat.le_of_ble_eq_true rfl) rfl (by decide) ?_
  refine xEv.world (List.set_set _) ?_
  exact i_24_24 ⟨rfl, rfl⟩
theorem s_29_0 {d : Nat} {w : xW} {g0 : Nat → Value} {a0 : Int32} {a1 : Int32} (hw0 : w[17]? = some (Sum.inr (3, [Value.ref 18, Value.int 1]))) (hw1 : w[18]? = some (Sum.inl (0, 8, g0))) (hg2 : g0 (0 : Int32).toInt.toNat = Value.int a0) (hg3 : ((32 : Int32) - (xnlz a0)) = a1) : xRun (d + 1) 29 [Value.ref 17] w (.inl (some (Value.int a1))) w := by
  refine xRun.of ?_
  refine i_29_0 (x := 17) rfl ?_
  refine i_29_1 (v := Value.int 1) hw0 rfl ?_
  refine i_29_4 (fun _ => ?_) (fun h => absurd h (by decide))
  refine i_29_11 ?_
  refine i_29_13 (x := 17) rfl ?_
  refine i_29_14 (v := Value.int 1) hw0 rfl ?_
  refine i_29_17 (c := 32) (by decide) ?_
  refine i_29_18 (x := 17) rfl ?_
  refine i_29_19 (v := Value.ref 18) hw0 rfl ?_
  refine i_29_22 (x := 17) rfl ?_
  refine i_29_23 (v := Value.int 1) hw0 rfl ?_
  refine i_29_26 ?_
  refine i_29_27 (c := 0) (by decide) ?_
  refine i_29_28 (v := Value.int a0) hw1 (by decide) (by decide) hg2 ?_
  refine i_29_29 (Nat.le_of_ble_eq_true rfl) nlz_run ?_
  refine i_29_32 (c := a1) hg3 ?_
  exact i_29_33 ⟨rfl, rfl⟩
theorem s_28_0 {d : Nat} {w : xW} {a0 : Int32} {g0 : Nat → Value} {a1 : Int32} {a2 : Int32} (hw0 : w[16]? = some (Sum.inr (4, [Value.int 0, Value.ref 17, Value.int a0, Value.int 0]))) (hw1 : w[17]? = some (Sum.inr (3, [Value.ref 18, Value.int 1]))) (hw2 : w[18]? = some (Sum.inl (0, 8, g0))) (hg3 : g0 (0 : Int32).toInt.toNat = Value.int a1) (hg4 : ((32 : Int32) - (xnlz a1)) = a2) : xRun (d + 2) 28 [Value.ref 16] w (.inl (some (Value.int (a2 + a0)))) w := by
  refine xRun.of ?_
  refine i_28_0 (x := 16) rfl ?_
  refine i_28_1 (v := Value.ref 17) hw0 rfl ?_
  refine i_28_4 hw1 (Nat.le_of_ble_eq_true rfl) (s_29_0 hw1 hw2 hg3 hg4) ?_
  refine i_28_7 (x := 16) rfl ?_
  refine i_28_8 (v := Value.int a0) hw0 rfl ?_
  refine i_28_11 (c := (a2 + a0)) rfl ?_
  exact i_28_12 ⟨rfl, rfl⟩
theorem s_30_0 {d : Nat} {w : xW} {a0 : Int32} (hw0 : w[78]? = some (Sum.inr (1, [Value.int (-16384), Value.int 16384, Value.int 0, Value.int 0]))) : xRun d 30 [Value.ref 78, Value.int a0, Value.int 64] w (.inl (some (Value.int (a0 - (64 : Int32))))) w := by
  refine xRun.of ?_
  refine i_30_0 (x := 78) rfl ?_
  refine i_30_1 (v := Value.int 0) hw0 rfl ?_
  refine i_30_4 (fun _ => ?_) (fun h => absurd h (by decide))
  refine i_30_24 (x := a0) rfl ?_
  refine i_30_25 (x := 64) rfl ?_
  refine i_30_26 (c := (a0 - (64 : Int32))) rfl ?_
  exact i_30_27 ⟨rfl, rfl⟩
theorem s_33_0 {d : Nat} {w : xW} {a0 : Int32} (e0 : a0.toInt ≤ 0) : xRun d 33 [Value.ref 17, Value.int a0] w (.inl (some (Value.int 0))) w := by
  refine xRun.of ?_
  refine i_33_0 (x := a0) rfl ?_
  refine i_33_1 (fun h => absurd e0 (Int.not_le.mpr h)) (fun _ => ?_)
  refine i_33_4 ?_
  exact i_33_5 rfl ⟨rfl, rfl⟩
theorem s_32_0 {d : Nat} {w : xW} {a0 : Int32} {a1 : Int32} (hw0 : w[16]? = some (Sum.inr (4, [Value.int 0, Value.ref 17, Value.int a1, Value.int 0]))) (hw1 : w[17]? = some (Sum.inr (3, [Value.ref 18, Value.int 1]))) (e2 : (a0 - a1).toInt ≤ 0) : xRun (d + 1) 32 [Value.ref 16, Value.int a0] w (.inl (some (Value.int 1))) w := by
  refine xRun.of ?_
  refine i_32_0 (x := 16) rfl ?_
  refine i_32_1 (v := Value.int 0) hw0 rfl ?_
  refine i_32_4 (fun h => absurd h (by decide)) (fun _ => ?_)
  refine i_32_7 (x := 16) rfl ?_
  refine i_32_8 (v := Value.ref 17) hw0 rfl ?_
  refine i_32_11 (x := a0) rfl ?_
  refine i_32_12 (x := 16) rfl ?_
  refine i_32_13 (v := Value.int a1) hw0 rfl ?_
  refine i_32_16 (c := (a0 - a1)) rfl ?_
  refine i_32_17 hw1 (Nat.le_of_ble_eq_true rfl) (s_33_0 e2) ?_
  refine i_32_20 (fun h => absurd h (by decide)) (fun _ => ?_)
  refine i_32_23 ?_
  refine i_32_24 ?_
  exact i_32_28 rfl ⟨rfl, rfl⟩
theorem s_31_0 {d : Nat} {w : xW} {a0 : Int32} {a1 : Int32} {a2 : Int32} (hw0 : w[16]? = some (Sum.inr (4, [Value.int 0, Value.ref 17, Value.int a2, Value.int 0]))) (hw1 : w[17]? = some (Sum.inr (3, [Value.ref 18, Value.int 1]))) (e2 : (a0 - a2).toInt ≤ 0) : xRun (d + 2) 31 [Value.ref 16, Value.int a0, Value.int a1] w (.inl (some (Value.int 0))) w := by
  refine xRun.of ?_
  refine i_31_0 (x := 16) rfl ?_
  refine i_31_1 (x := a0) rfl ?_
  refine i_31_2 hw0 (Nat.le_of_ble_eq_true rfl) (s_32_0 hw0 hw1 e2) ?_
  refine i_31_5 (fun h => absurd h (by decide)) (fun _ => ?_)
  refine i_31_8 ?_
  exact i_31_9 rfl ⟨rfl, rfl⟩
theorem s_273_0 {d : Nat} {w : xW} : xRun d 273 [Value.int 0, Value.int 2] w (.inl (some (Value.int 2))) w := by
  refine xRun.of ?_
  refine i_273_0 (x := 0) rfl ?_
  refine i_273_1 (x := 2) rfl ?_
  refine i_273_2 (fun _ => ?_) (fun h => absurd h (by decide))
  refine i_273_9 (x := 2) rfl ?_
  exact i_273_10 ⟨rfl, rfl⟩
theorem s_41_0 {d : Nat} {w : xW} {h0 : Nat} {h1 : Nat} (hw0 : w[h0]? = some (Sum.inr (3, [Value.ref h1, Value.int 0]))) (hw1 : w[h1]? = some (Sum.inl (0, 8, fun _ => Value.int 0))) : xRun d 41 [Value.ref h0, Value.int 2] w (.inl none) w := by
  refine xRun.of ?_
  refine i_41_0 (x := h0) rfl ?_
  refine i_41_1 (v := Value.ref h1) hw0 rfl ?_
  refine i_41_4 (c := 8) hw1 (by decide) ?_
  refine i_41_5 (x := 2) rfl ?_
  refine i_41_6 (fun _ => ?_) (fun h => absurd h (by decide))
  exact i_41_31 ⟨rfl, rfl⟩
theorem s_42_0 {d : Nat} {w : xW} {h0 : Nat} {a0 : Int32} {g0 : Nat → Value} {a1 : Int32} {a2 : Int32} {h1 : Nat} (hw0 : w[17]? = some (Sum.inr (3, [Value.ref 18, Value.int 1]))) (hw1 : w[18]? = some (Sum.inl (0, 8, g0))) (hg2 : g0 (0 : Int32).toInt.toNat = Value.int a1) (hg3 : ((32 : Int32) - (xnlz a1)) = a2) (hg4 : (a2 + a0) = 64) (hw5 : w[h0]? = some (Sum.inr (3, [Value.ref h1, Value.int 0]))) (hw6 : w[h1]? = some (Sum.inl (0, 8, fun _ => Value.int 0))) (e7 : 0 ≤ a0.toInt) (hg8 : g0 (1 : Int32).toInt.toNat = Value.int 0) (e9 : 7 ≤ h1) (e10 : h1 ≠ h0) (e11 : h1 ≠ 17) (e12 : h1 ≠ 18) (e13 : 7 ≤ h0) : xRun (d + 2) 42 [Value.ref h0, Value.ref 17, Value.int a0] w (.inl none) ((w.set h1 (Sum.inl (0, 8, xup (xup (fun _ => Value.int 0) (1 : Int32).toInt.toNat (Value.int (xbf 1 a1 (0 : Int32) ((32 : Int32) - a0)))) (0 : Int32).toInt.toNat (Value.int (xbf 1 a1 (0 : Int32) ((0 : Int32) - a0)))))).set h0 (Sum.inr (3, [Value.ref h1, Value.int 2]))) := by
  refine xRun.of ?_
  refine i_42_0 (x := 17) rfl ?_
  refine i_42_1 (v := Value.int 1) hw0 rfl ?_
  refine i_42_4 (fun _ => ?_) (fun h => absurd h (by decide))
  refine i_42_11 ?_
  refine i_42_12 (x := 17) rfl ?_
  refine i_42_13 hw0 (Nat.le_of_ble_eq_true rfl) (s_29_0 hw0 hw1 hg2 hg3) ?_
  refine i_42_16 (x := a0) rfl ?_
  refine i_42_17 (c := 64) hg4 ?_
  refine i_42_18 ?_
  refine i_42_20 (c := 95) (by decide) ?_
  refine i_42_21 ?_
  refine i_42_22 (c := 2) (by decide) ?_
  refine i_42_23 (Nat.le_of_ble_eq_true rfl) (s_273_0) ?_
  refine i_42_26 (lv2 := [(3, Value.int 2), (0, Value.ref h0), (1, Value.ref 17), (2, Value.int a0)]) rfl ?_
  refine i_42_27 (x := h0) rfl ?_
  refine i_42_28 (x := 2) rfl ?_
  refine i_42_29 hw5 (Nat.le_of_ble_eq_true rfl) (s_41_0 hw5 hw6) ?_
  refine i_42_32 (x := a0) rfl ?_
  refine i_42_33 (fun h => absurd e7 (Int.not_le.mpr h)) (fun _ => ?_)
  refine i_42_36 (x := 2) rfl ?_
  refine i_42_37 ?_
  refine i_42_38 (c := 1) (by decide) ?_
  refine i_42_39 (lv2 := [(4, Value.int 1), (3, Value.int 2), (0, Value.ref h0), (1, Value.ref 17), (2, Value.int a0)]) rfl ?_
  refine i_42_41 (x := 1) rfl ?_
  refine i_42_43 (fun h => absurd h (by decide)) (fun _ => ?_)
  refine i_42_46 (x := h0) rfl ?_
  refine i_42_47 (v := Value.ref h1) hw5 rfl ?_
  refine i_42_50 (x := 1) rfl ?_
  refine i_42_52 (x := 17) rfl ?_
  refine i_42_53 ?_
  refine i_42_55 (x := 1) rfl ?_
  refine i_42_57 (c := 32) (by decide) ?_
  refine i_42_58 (x := a0) rfl ?_
  refine i_42_59 (c := ((32 : Int32) - a0)) rfl ?_
  refine i_42_60 hw0 (Nat.le_of_ble_eq_true rfl) (bf_run1 hw0 hw1 hg2 hg8) ?_
  refine i_42_63 (v := Value.int (xbf 1 a1 (0 : Int32) ((32 : Int32) - a0))) hw6 (by decide) (by decide) e9 rfl ?_
  refine i_42_64 (x := 1) (c := 0) (lv2 := [(4, Value.int 0), (3, Value.int 2), (0, Value.ref h0), (1, Value.ref 17), (2, Value.int a0)]) rfl (by decide) rfl ?_
  refine i_42_67 ?_
  refine i_42_41 (x := 0) rfl ?_
  refine i_42_43 (fun h => absurd h (by decide)) (fun _ => ?_)
  refine i_42_46 (x := h0) rfl ?_
  refine i_42_47 (v := Value.ref h1) (xgn e10 hw5) rfl ?_
  refine i_42_50 (x := 0) rfl ?_
  refine i_42_52 (x := 17) rfl ?_
  refine i_42_53 ?_
  refine i_42_55 (x := 0) rfl ?_
  refine i_42_57 (c := 0) (by decide) ?_
  refine i_42_58 (x := a0) rfl ?_
  refine i_42_59 (c := ((0 : Int32) - a0)) rfl ?_
  refine i_42_60 (xgn e11 hw0) (Nat.le_of_ble_eq_true rfl) (bf_run1 (xgn e11 hw0) (xgn e12 hw1) hg2 hg8) ?_
  refine i_42_63 (v := Value.int (xbf 1 a1 (0 : Int32) ((0 : Int32) - a0))) (xgs hw6) (by decide) (by decide) e9 rfl ?_
  refine xEv.world (List.set_set _) ?_
  refine i_42_64 (x := 0) (c := (-1)) (lv2 := [(4, Value.int (-1)), (3, Value.int 2), (0, Value.ref h0), (1, Value.ref 17), (2, Value.int a0)]) rfl (by decide) rfl ?_
  refine i_42_67 ?_
  refine i_42_41 (x := (-1)) rfl ?_
  refine i_42_43 (fun _ => ?_) (fun h => absurd h (by decide))
  refine i_42_70 ?_
  refine i_42_106 (x := h0) rfl ?_
  refine i_42_107 (x := 2) rfl ?_
  refine i_42_108 (fs2 := [Value.ref h1, Value.int 2]) (xgn e10 hw5) (Nat.le_of_ble_eq_true rfl) rfl e13 ?_
  exact i_42_111 ⟨rfl, rfl⟩
theorem s_272_0 {d : Nat} {w : xW} : xRun d 272 [Value.int 0, Value.int 2] w (.inl (some (Value.int 0))) w := by
  refine xRun.of ?_
  refine i_272_0 (x := 0) rfl ?_
  refine i_272_1 (x := 2) rfl ?_
  refine i_272_2 (fun h => absurd h (by decide)) (fun _ => ?_)
  refine i_272_5 (x := 0) rfl ?_
  refine i_272_6 ?_
  exact i_272_10 ⟨rfl, rfl⟩
theorem s_26_1 {d : Nat} {w : xW} {h0 : Nat} {h1 : Nat} {g0 : Nat → Value} {a0 : Int32} (hw0 : w[h0]? = some (Sum.inr (3, [Value.ref h1, Value.int 2]))) (hw1 : w[h1]? = some (Sum.inl (0, 8, g0))) (hg2 : g0 (1 : Int32).toInt.toNat = Value.int a0) (e3 : a0.toInt ≠ 0) : xRun d 26 [Value.ref h0] w (.inl none) w := by
  refine xRun.of ?_
  refine i_26_0 (x := h0) rfl ?_
  refine i_26_1 (v := Value.int 2) hw0 rfl ?_
  refine i_26_4 (fun h => absurd h (by decide)) (fun _ => ?_)
  refine i_26_7 (x := h0) rfl ?_
  refine i_26_8 (v := Value.ref h1) hw0 rfl ?_
  refine i_26_11 (x := h0) rfl ?_
  refine i_26_12 (v := Value.int 2) hw0 rfl ?_
  refine i_26_15 ?_
  refine i_26_16 (c := 1) (by decide) ?_
  refine i_26_17 (v := Value.int a0) hw1 (by decide) (by decide) hg2 ?_
  refine i_26_18 (fun _ => ?_) (fun h => absurd e3 (fun g => g h))
  exact i_26_34 ⟨rfl, rfl⟩
theorem s_43_0 {d : Nat} {w : xW} {h0 : Nat} {h1 : Nat} {g0 : Nat → Value} {a0 : Int32} (hw0 : w[h0]? = some (Sum.inr (3, [Value.ref h1, Value.int 2]))) (hw1 : w[h1]? = some (Sum.inl (0, 8, g0))) (hg2 : g0 (1 : Int32).toInt.toNat = Value.int a0) (e3 : a0.toInt ≠ 0) : xRun (d + 1) 43 [Value.ref h0, Value.int 0] w (.inl none) w := by
  refine xRun.of ?_
  refine i_43_0 (x := 0) rfl ?_
  refine i_43_1 ?_
  refine i_43_2 (c := 0) (by decide) ?_
  refine i_43_3 (x := h0) rfl ?_
  refine i_43_4 (v := Value.int 2) hw0 rfl ?_
  refine i_43_7 (Nat.le_of_ble_eq_true rfl) (s_272_0) ?_
  refine i_43_10 (lv2 := [(2, Value.int 0), (0, Value.ref h0), (1, Value.int 0)]) rfl ?_
  refine i_43_11 ?_
  refine i_43_12 (lv2 := [(3, Value.int 0), (2, Value.int 0), (0, Value.ref h0), (1, Value.int 0)]) rfl ?_
  refine i_43_13 (x := 0) rfl ?_
  refine i_43_14 (x := 0) rfl ?_
  refine i_43_15 (fun _ => ?_) (fun h => absurd h (by decide))
  refine i_43_31 (x := 0) rfl ?_
  refine i_43_32 (x := h0) rfl ?_
  refine i_43_33 (v := Value.int 2) hw0 rfl ?_
  refine i_43_36 (fun h => absurd h (by decide)) (fun _ => ?_)
  refine i_43_39 (x := 0) rfl ?_
  refine i_43_40 ?_
  refine i_43_42 (c := 0) (by decide) ?_
  refine i_43_43 (fun _ => ?_) (fun h => absurd h (by decide))
  refine i_43_61 (x := h0) rfl ?_
  refine i_43_62 hw0 (Nat.le_of_ble_eq_true rfl) (s_26_1 hw0 hw1 hg2 e3) ?_
  exact i_43_65 ⟨rfl, rfl⟩
theorem s_29_1 {d : Nat} {w : xW} {h0 : Nat} {h1 : Nat} {g0 : Nat → Value} {a0 : Int32} (hw0 : w[h0]? = some (Sum.inr (3, [Value.ref h1, Value.int 2]))) (hw1 : w[h1]? = some (Sum.inl (0, 8, g0))) (hg2 : g0 (1 : Int32).toInt.toNat = Value.int a0) : xRun (d + 1) 29 [Value.ref h0] w (.inl (some (Value.int ((64 : Int32) - (xnlz a0))))) w := by
  refine xRun.of ?_
  refine i_29_0 (x := h0) rfl ?_
  refine i_29_1 (v := Value.int 2) hw0 rfl ?_
  refine i_29_4 (fun _ => ?_) (fun h => absurd h (by decide))
  refine i_29_11 ?_
  refine i_29_13 (x := h0) rfl ?_
  refine i_29_14 (v := Value.int 2) hw0 rfl ?_
  refine i_29_17 (c := 64) (by decide) ?_
  refine i_29_18 (x := h0) rfl ?_
  refine i_29_19 (v := Value.ref h1) hw0 rfl ?_
  refine i_29_22 (x := h0) rfl ?_
  refine i_29_23 (v := Value.int 2) hw0 rfl ?_
  refine i_29_26 ?_
  refine i_29_27 (c := 1) (by decide) ?_
  refine i_29_28 (v := Value.int a0) hw1 (by decide) (by decide) hg2 ?_
  refine i_29_29 (Nat.le_of_ble_eq_true rfl) nlz_run ?_
  refine i_29_32 (c := ((64 : Int32) - (xnlz a0))) rfl ?_
  exact i_29_33 ⟨rfl, rfl⟩
theorem s_38_0 {d : Nat} {w : xW} {h0 : Nat} {a0 : Int32} {a1 : Int32} {g0 : Nat → Value} {a2 : Int32} {a3 : Int32} {h1 : Nat} {a4 : Int32} {h2 : Nat} (hw0 : w[16]? = some (Sum.inr (4, [Value.int 0, Value.ref 17, Value.int a1, Value.int 0]))) (hw1 : w[17]? = some (Sum.inr (3, [Value.ref 18, Value.int 1]))) (hw2 : w[18]? = some (Sum.inl (0, 8, g0))) (hg3 : g0 (0 : Int32).toInt.toNat = Value.int a2) (hg4 : ((32 : Int32) - (xnlz a2)) = a3) (hg5 : ((a3 + a1) - a0) = 64) (hw6 : w[h0]? = some (Sum.inr (2, [Value.int 64, Value.int 0, Value.int 0, Value.int 0, Value.ref h1]))) (e7 : 7 ≤ h0) (e8 : h0 ≠ 16) (e9 : h0 ≠ 17) (e10 : h0 ≠ 18) (hg11 : ((64 : Int32) - a3) = a4) (e12 : h0 ≠ h1) (hw13 : w[h1]? = some (Sum.inr (3, [Value.ref h2, Value.int 0]))) (hg14 : (a3 + a4) = 64) (e15 : h0 ≠ h2) (hw16 : w[h2]? = some (Sum.inl (0, 8, fun _ => Value.int 0))) (e17 : 0 ≤ a4.toInt) (hg18 : g0 (1 : Int32).toInt.toNat = Value.int 0) (e19 : 7 ≤ h2) (e20 : h2 ≠ h1) (e21 : h2 ≠ 17) (e22 : h2 ≠ 18) (e23 : 7 ≤ h1) (e24 : h1 ≠ h0) (e25 : h2 ≠ h0) (e26 : h1 ≠ h2) (e27 : (xbf 1 a2 (0 : Int32) ((32 : Int32) - a4)).toInt ≠ 0) (e28 : ((64 : Int32) - (xnlz (xbf 1 a2 (0 : Int32) ((32 : Int32) - a4)))).toInt ≤ 64) : xRun (d + 3) 38 [Value.ref h0, Value.ref 16, Value.int a0, Value.int 0] w (.inl none) (((w.set h0 (Sum.inr (2, [Value.int 64, Value.int 3, Value.int 0, Value.int (a3 + a1), Value.ref h1]))).set h2 (Sum.inl (0, 8, xup (xup (fun _ => Value.int 0) (1 : Int32).toInt.toNat (Value.int (xbf 1 a2 (0 : Int32) ((32 : Int32) - a4)))) (0 : Int32).toInt.toNat (Value.int (xbf 1 a2 (0 : Int32) ((0 : Int32) - a4)))))).set h1 (Sum.inr (3, [Value.ref h2, Value.int 2]))) := by
  refine xRun.of ?_
  refine i_38_0 (x := 16) rfl ?_
  refine i_38_1 hw0 (Nat.le_of_ble_eq_true rfl) (s_28_0 hw0 hw1 hw2 hg3 hg4) ?_
  refine i_38_4 (lv2 := [(4, Value.int (a3 + a1)), (0, Value.ref h0), (1, Value.ref 16), (2, Value.int a0), (3, Value.int 0)]) rfl ?_
  refine i_38_6 (x := (a3 + a1)) rfl ?_
  refine i_38_8 (x := a0) rfl ?_
  refine i_38_9 (c := 64) hg5 ?_
  refine i_38_10 (lv2 := [(5, Value.int 64), (4, Value.int (a3 + a1)), (0, Value.ref h0), (1, Value.ref 16), (2, Value.int a0), (3, Value.int 0)]) rfl ?_
  refine i_38_12 (x := 64) rfl ?_
  refine i_38_14 (fun _ => ?_) (fun h => absurd h (by decide))
  refine i_38_31 (x := 64) rfl ?_
  refine i_38_33 (fun _ => ?_) (fun h => absurd h (by decide))
  refine i_38_48 (x := h0) rfl ?_
  refine i_38_49 ?_
  refine i_38_50 (fs2 := [Value.int 64, Value.int 3, Value.int 0, Value.int 0, Value.ref h1]) hw6 (Nat.le_of_ble_eq_true rfl) rfl e7 ?_
  refine i_38_53 (x := h0) rfl ?_
  refine i_38_54 (x := 16) rfl ?_
  refine i_38_55 (v := Value.int 0) (xgn e8 hw0) rfl ?_
  refine i_38_58 (fs2 := [Value.int 64, Value.int 3, Value.int 0, Value.int 0, Value.ref h1]) (xgs hw6) rfl (Nat.le_of_ble_eq_true rfl) rfl e7 ?_
  refine xEv.world (List.set_set _) ?_
  refine i_38_61 (x := h0) rfl ?_
  refine i_38_62 (x := (a3 + a1)) rfl ?_
  refine i_38_64 (fs2 := [Value.int 64, Value.int 3, Value.int 0, Value.int (a3 + a1), Value.ref h1]) (xgs hw6) (Nat.le_of_ble_eq_true rfl) rfl e7 ?_
  refine xEv.world (List.set_set _) ?_
  refine i_38_67 (x := h0) rfl ?_
  refine i_38_68 (v := Value.ref h1) (xgs hw6) rfl ?_
  refine i_38_71 (x := 16) rfl ?_
  refine i_38_72 (v := Value.ref 17) (xgn e8 hw0) rfl ?_
  refine i_38_75 (x := h0) rfl ?_
  refine i_38_76 (v := Value.int 64) (xgs hw6) rfl ?_
  refine i_38_79 (x := 16) rfl ?_
  refine i_38_80 (v := Value.ref 17) (xgn e8 hw0) rfl ?_
  refine i_38_83 (xgn e9 hw1) (Nat.le_of_ble_eq_true rfl) (s_29_0 (xgn e9 hw1) (xgn e10 hw2) hg3 hg4) ?_
  refine i_38_86 (c := a4) hg11 ?_
  refine i_38_87 (xgn e12 hw13) (Nat.le_of_ble_eq_true rfl) (s_42_0 (xgn e9 hw1) (xgn e10 hw2) hg3 hg4 hg14 (xgn e12 hw13) (xgn e15 hw16) e17 hg18 e19 e20 e21 e22 e23) ?_
  refine i_38_90 (x := h0) rfl ?_
  refine i_38_91 (v := Value.ref h1) (xgn e24 (xgn e25 (xgs hw6))) rfl ?_
  refine i_38_94 (x := h0) rfl ?_
  refine i_38_95 (v := Value.int 64) (xgn e24 (xgn e25 (xgs hw6))) rfl ?_
  refine i_38_98 (x := 64) rfl ?_
  refine i_38_100 (c := 0) (by decide) ?_
  refine i_38_101 (xgs (xgn e20 (xgn e12 hw13))) (Nat.le_of_ble_eq_true rfl) (s_43_0 (xgs (xgn e20 (xgn e12 hw13))) (xgn e26 (xgs (xgn e15 hw16))) (xup_n (by decide) xup_s) e27) ?_
  refine i_38_104 (x := 0) rfl ?_
  refine i_38_105 (fun _ => ?_) (fun h => absurd h (by decide))
  refine i_38_122 (x := h0) rfl ?_
  refine i_38_123 (v := Value.ref h1) (xgn e24 (xgn e25 (xgs hw6))) rfl ?_
  refine i_38_126 (xgs (xgn e20 (xgn e12 hw13))) (Nat.le_of_ble_eq_true rfl) (s_29_1 (xgs (xgn e20 (xgn e12 hw13))) (xgn e26 (xgs (xgn e15 hw16))) (xup_n (by decide) xup_s)) ?_
  refine i_38_129 (x := h0) rfl ?_
  refine i_38_130 (v := Value.int 64) (xgn e24 (xgn e25 (xgs hw6))) rfl ?_
  refine i_38_133 (fun _ => ?_) (fun h => absurd e28 (Int.not_le.mpr h))
  exact i_38_148 ⟨rfl, rfl⟩
theorem s_17_0 {d : Nat} {w : xW} {h0 : Nat} {a0 : Int32} {h1 : Nat} (hw0 : w[h0]? = some (Sum.inr (2, [Value.int 64, Value.int 3, Value.int 0, Value.int a0, Value.ref h1]))) (e1 : 7 ≤ h0) : xRun d 17 [Value.ref h0, Value.int 1, Value.int 0] w (.inl (some (Value.int 0))) (w.set h0 (Sum.inr (2, [Value.int 64, Value.int 1, Value.int 0, Value.int a0, Value.ref h1]))) := by
  refine xRun.of ?_
  refine i_17_0 (x := h0) rfl ?_
  refine i_17_1 (x := 1) rfl ?_
  refine i_17_2 (fs2 := [Value.int 64, Value.int 1, Value.int 0, Value.int a0, Value.ref h1]) hw0 (Nat.le_of_ble_eq_true rfl) rfl e1 ?_
  refine i_17_5 (x := h0) rfl ?_
  refine i_17_6 (x := 0) rfl ?_
  refine i_17_7 (fs2 := [Value.int 64, Value.int 1, Value.int 0, Value.int a0, Value.ref h1]) (xgs hw0) rfl (Nat.le_of_ble_eq_true rfl) rfl e1 ?_
  refine xEv.world (List.set_set _) ?_
  refine i_17_10 ?_
  exact i_17_11 ⟨rfl, rfl⟩
theorem s_47_0 {d : Nat} {w : xW} {h0 : Nat} {a0 : Int32} {h1 : Nat} (hw0 : w[h0]? = some (Sum.inr (2, [Value.int 64, Value.int 3, Value.int 0, Value.int a0, Value.ref h1]))) (e1 : 7 ≤ h0) : xRun (d + 1) 47 [Value.ref h0, Value.int 0] w (.inl (some (Value.int 0))) (w.set h0 (Sum.inr (2, [Value.int 64, Value.int 1, Value.int 0, Value.int a0, Value.ref h1]))) := by
  refine xRun.of ?_
  refine i_47_0 (x := h0) rfl ?_
  refine i_47_1 ?_
  refine i_47_2 (x := 0) rfl ?_
  refine i_47_3 hw0 (Nat.le_of_ble_eq_true rfl) (s_17_0 hw0 e1) ?_
  exact i_47_6 ⟨rfl, rfl⟩
theorem s_46_0 {d : Nat} {w : xW} {h0 : Nat} {a0 : Int32} {a1 : Int32} {h1 : Nat} (hw0 : w[78]? = some (Sum.inr (1, [Value.int (-16384), Value.int 16384, Value.int 0, Value.int 0]))) (e1 : a0.toInt = 0) (e2 : 78 ≠ h0) (hw3 : w[h0]? = some (Sum.inr (2, [Value.int 64, Value.int 3, Value.int 0, Value.int a1, Value.ref h1]))) (e4 : 7 ≤ h0) : xRun (d + 2) 46 [Value.ref 78, Value.ref h0, Value.int 0, Value.int a0] w (.inl (some (Value.int 1))) ((w.set 78 (Sum.inr (1, [Value.int (-16384), Value.int 16384, Value.int 0, Value.int 2]))).set h0 (Sum.inr (2, [Value.int 64, Value.int 1, Value.int 0, Value.int a1, Value.ref h1]))) := by
  refine xRun.of ?_
  refine i_46_0 (x := 78) rfl ?_
  refine i_46_1 rfl ?_
  refine i_46_2 (v := Value.int 0) hw0 rfl ?_
  refine i_46_5 ?_
  refine i_46_6 (c := 2) (by decide) ?_
  refine i_46_7 (fs2 := [Value.int (-16384), Value.int 16384, Value.int 0, Value.int 2]) hw0 (Nat.le_of_ble_eq_true rfl) rfl (by decide) ?_
  refine i_46_10 (x := a0) rfl ?_
  refine i_46_11 (fun _ => ?_) (fun h => absurd e1 h)
  refine i_46_22 (x := h0) rfl ?_
  refine i_46_23 (x := 0) rfl ?_
  refine i_46_24 (xgn e2 hw3) (Nat.le_of_ble_eq_true rfl) (s_47_0 (xgn e2 hw3) e4) ?_
  refine i_46_27 rfl ?_
  refine i_46_28 ?_
  exact i_46_29 ⟨rfl, rfl⟩
theorem s_27_0 {d : Nat} {w : xW} {h0 : Nat} {a0 : Int32} {a1 : Int32} {g0 : Nat → Value} {a2 : Int32} {a3 : Int32} {h1 : Nat} {a4 : Int32} {h2 : Nat} (hw0 : w[16]? = some (Sum.inr (4, [Value.int 0, Value.ref 17, Value.int a1, Value.int 0]))) (hw1 : w[17]? = some (Sum.inr (3, [Value.ref 18, Value.int 1]))) (hw2 : w[18]? = some (Sum.inl (0, 8, g0))) (hg3 : g0 (0 : Int32).toInt.toNat = Value.int a2) (hg4 : ((32 : Int32) - (xnlz a2)) = a3) (hw5 : w[h0]? = some (Sum.inr (2, [Value.int 64, Value.int 0, Value.int 0, Value.int 0, Value.ref h1]))) (hw6 : w[78]? = some (Sum.inr (1, [Value.int (-16384), Value.int 16384, Value.int 0, Value.int 0]))) (e7 : (((a3 + a1) - (64 : Int32)) - a1).toInt ≤ 0) (hg8 : ((a3 + a1) - ((a3 + a1) - (64 : Int32))) = 64) (e9 : 7 ≤ h0) (e10 : h0 ≠ 16) (e11 : h0 ≠ 17) (e12 : h0 ≠ 18) (hg13 : ((64 : Int32) - a3) = a4) (e14 : h0 ≠ h1) (hw15 : w[h1]? = some (Sum.inr (3, [Value.ref h2, Value.int 0]))) (hg16 : (a3 + a4) = 64) (e17 : h0 ≠ h2) (hw18 : w[h2]? = some (Sum.inl (0, 8, fun _ => Value.int 0))) (e19 : 0 ≤ a4.toInt) (hg20 : g0 (1 : Int32).toInt.toNat = Value.int 0) (e21 : 7 ≤ h2) (e22 : h2 ≠ h1) (e23 : h2 ≠ 17) (e24 : h2 ≠ 18) (e25 : 7 ≤ h1) (e26 : h1 ≠ h0) (e27 : h2 ≠ h0) (e28 : h1 ≠ h2) (e29 : (xbf 1 a2 (0 : Int32) ((32 : Int32) - a4)).toInt ≠ 0) (e30 : ((64 : Int32) - (xnlz (xbf 1 a2 (0 : Int32) ((32 : Int32) - a4)))).toInt ≤ 64) (e31 : h1 ≠ 78) (e32 : h2 ≠ 78) (e33 : h0 ≠ 78) (e34 : 16384 < (a3 + a1).toInt) (e35 : h1 ≠ 16) (e36 : h2 ≠ 16) (e37 : a0.toInt = 0) (e38 : 78 ≠ h0) : xRun (d + 4) 27 [Value.ref 78, Value.ref h0, Value.ref 16, Value.int a0] w (.inl (some (Value.int 1))) ((((((w.set h0 (Sum.inr (2, [Value.int 64, Value.int 3, Value.int 0, Value.int (a3 + a1), Value.ref h1]))).set h2 (Sum.inl (0, 8, xup (xup (fun _ => Value.int 0) (1 : Int32).toInt.toNat (Value.int (xbf 1 a2 (0 : Int32) ((32 : Int32) - a4)))) (0 : Int32).toInt.toNat (Value.int (xbf 1 a2 (0 : Int32) ((0 : Int32) - a4)))))).set h1 (Sum.inr (3, [Value.ref h2, Value.int 2]))).set 78 (Sum.inr (1, [Value.int (-16384), Value.int 16384, Value.int 0, Value.int 2]))).set h0 (Sum.inr (2, [Value.int 64, Value.int 1, Value.int 0, Value.int (a3 + a1), Value.ref h1]))).set 78 (Sum.inr (1, [Value.int (-16384), Value.int 16384, Value.int 0, Value.int 3]))) := by
  refine xRun.of ?_
  refine i_27_0 (x := 16) rfl ?_
  refine i_27_1 hw0 (Nat.le_of_ble_eq_true rfl) (s_28_0 hw0 hw1 hw2 hg3 hg4) ?_
  refine i_27_4 (lv2 := [(4, Value.int (a3 + a1)), (0, Value.ref 78), (1, Value.ref h0), (2, Value.ref 16), (3, Value.int a0)]) rfl ?_
  refine i_27_6 (x := 78) rfl ?_
  refine i_27_7 (x := (a3 + a1)) rfl ?_
  refine i_27_9 (x := h0) rfl ?_
  refine i_27_10 (v := Value.int 64) hw5 rfl ?_
  refine i_27_13 hw6 (Nat.le_of_ble_eq_true rfl) (s_30_0 hw6) ?_
  refine i_27_16 (lv2 := [(5, Value.int ((a3 + a1) - (64 : Int32))), (4, Value.int (a3 + a1)), (0, Value.ref 78), (1, Value.ref h0), (2, Value.ref 16), (3, Value.int a0)]) rfl ?_
  refine i_27_18 (x := 16) rfl ?_
  refine i_27_19 (x := ((a3 + a1) - (64 : Int32))) rfl ?_
  refine i_27_21 (x := a0) rfl ?_
  refine i_27_22 hw0 (Nat.le_of_ble_eq_true rfl) (s_31_0 hw0 hw1 e7) ?_
  refine i_27_25 (lv2 := [(6, Value.int 0), (5, Value.int ((a3 + a1) - (64 : Int32))), (4, Value.int (a3 + a1)), (0, Value.ref 78), (1, Value.ref h0), (2, Value.ref 16), (3, Value.int a0)]) rfl ?_
  refine i_27_27 (x := 16) rfl ?_
  refine i_27_28 (x := ((a3 + a1) - (64 : Int32))) rfl ?_
  refine i_27_30 hw0 (Nat.le_of_ble_eq_true rfl) (s_32_0 hw0 hw1 e7) ?_
  refine i_27_33 (fun h => absurd h (by decide)) (fun _ => ?_)
  refine i_27_36 ?_
  refine i_27_37 ?_
  refine i_27_50 (lv2 := [(7, Value.int 0), (6, Value.int 0), (5, Value.int ((a3 + a1) - (64 : Int32))), (4, Value.int (a3 + a1)), (0, Value.ref 78), (1, Value.ref h0), (2, Value.ref 16), (3, Value.int a0)]) rfl ?_
  refine i_27_52 (x := h0) rfl ?_
  refine i_27_53 (x := 16) rfl ?_
  refine i_27_54 (x := ((a3 + a1) - (64 : Int32))) rfl ?_
  refine i_27_56 (x := 0) rfl ?_
  refine i_27_58 hw5 (Nat.le_of_ble_eq_true rfl) (s_38_0 hw0 hw1 hw2 hg3 hg4 hg8 hw5 e9 e10 e11 e12 hg13 e14 hw15 hg16 e17 hw18 e19 hg20 e21 e22 e23 e24 e25 e26 e27 e28 e29 e30) ?_
  refine i_27_61 (x := h0) rfl ?_
  refine i_27_62 (v := Value.int 3) (xgn e26 (xgn e27 (xgs hw5))) rfl ?_
  refine i_27_65 ?_
  refine i_27_66 (fun h => absurd h (by decide)) (fun _ => ?_)
  refine i_27_69 (x := h0) rfl ?_
  refine i_27_70 (v := Value.int (a3 + a1)) (xgn e26 (xgn e27 (xgs hw5))) rfl ?_
  refine i_27_73 (x := 78) rfl ?_
  refine i_27_74 (v := Value.int 16384) (xgn e31 (xgn e32 (xgn e33 hw6))) rfl ?_
  refine i_27_77 (fun h => absurd e34 (Int.not_lt.mpr h)) (fun _ => ?_)
  refine i_27_80 (x := 78) rfl ?_
  refine i_27_81 (x := h0) rfl ?_
  refine i_27_82 (x := 16) rfl ?_
  refine i_27_83 (v := Value.int 0) (xgn e35 (xgn e36 (xgn e10 hw0))) rfl ?_
  refine i_27_86 (x := a0) rfl ?_
  refine i_27_87 (xgn e31 (xgn e32 (xgn e33 hw6))) (Nat.le_of_ble_eq_true rfl) (s_46_0 (xgn e31 (xgn e32 (xgn e33 hw6))) e37 e38 (xgn e26 (xgn e27 (xgs hw5))) e9) ?_
  refine i_27_90 (lv2 := [(7, Value.int 1), (6, Value.int 0), (5, Value.int ((a3 + a1) - (64 : Int32))), (4, Value.int (a3 + a1)), (0, Value.ref 78), (1, Value.ref h0), (2, Value.ref 16), (3, Value.int a0)]) rfl ?_
  refine i_27_92 ?_
  refine i_27_164 (x := 1) rfl ?_
  refine i_27_166 (fun h => absurd h (by decide)) (fun _ => ?_)
  refine i_27_169 (x := 78) rfl ?_
  refine i_27_170 rfl ?_
  refine i_27_171 (v := Value.int 2) (xgn e33 (xgs (xgn e31 (xgn e32 (xgn e33 hw6))))) rfl ?_
  refine i_27_174 ?_
  refine i_27_175 (c := 3) (by decide) ?_
  refine i_27_176 (fs2 := [Value.int (-16384), Value.int 16384, Value.int 0, Value.int 3]) (xgn e33 (xgs (xgn e31 (xgn e32 (xgn e33 hw6))))) (Nat.le_of_ble_eq_true rfl) rfl (by decide) ?_
  refine i_27_179 (x := 16) rfl ?_
  refine i_27_180 (v := Value.int 0) (xgn (by decide) (xgn e10 (xgn (by decide) (xgn e35 (xgn e36 (xgn e10 hw0)))))) rfl ?_
  refine i_27_183 (fun _ => ?_) (fun h => absurd h (by decide))
  refine i_27_192 (x := 1) rfl ?_
  exact i_27_194 ⟨rfl, rfl⟩
theorem s_21_0 {d : Nat} {w : xW} {a0 : Int32} {b0 : Int64} {a1 : Int32} {a2 : Int32} {g0 : Nat → Value} {h0 : Nat} {a3 : Int32} {h1 : Nat} {a4 : Int32} {h2 : Nat} (e0 : 0 ≤ a0.toInt) (e1 : a0.toInt < 16) (e2 : (-40000) ≤ a1.toInt) (e3 : a1.toInt ≤ 40000) (e4 : 0 ≤ a2.toInt) (e5 : a2.toInt ≤ 4) (hw6 : w[7]? = some (Sum.inr (0, [Value.ref 8, Value.ref 78, Value.ref 9, Value.ref 10, Value.ref 13, Value.ref 16, Value.ref 19, Value.ref 93, Value.ref 108, Value.ref 113, Value.ref 29, Value.int 0]))) (hw7 : w[8]? = some (Sum.inl (4, 16, g0))) (hg8 : g0 a0.toInt.toNat = Value.ref h0) (e9 : (lg_cmp b0 (0 : Int64)).toInt ≠ 0) (e10 : 0 ≤ (lg_cmp b0 (0 : Int64)).toInt) (hw11 : w[16]? = some (Sum.inr (4, [Value.int 0, Value.ref 17, Value.int 0, Value.int 0]))) (hw12 : w[17]? = some (Sum.inr (3, [Value.ref 18, Value.int 0]))) (hw13 : w[18]? = some (Sum.inl (0, 8, fun _ => Value.int 0))) (hg14 : (xhi b0) = 0) (e15 : (xlo b0).toInt ≠ 0) (hw16 : w[78]? = some (Sum.inr (1, [Value.int (-16384), Value.int 16384, Value.int 0, Value.int 0]))) (hg17 : ((32 : Int32) - (xnlz (xlo b0))) = a3) (e18 : 16 ≠ h0) (e19 : 17 ≠ h0) (e20 : 18 ≠ h0) (hw21 : w[h0]? = some (Sum.inr (2, [Value.int 64, Value.int 0, Value.int 0, Value.int 0, Value.ref h1]))) (e22 : (((a3 + a1) - (64 : Int32)) - a1).toInt ≤ 0) (hg23 : ((a3 + a1) - ((a3 + a1) - (64 : Int32))) = 64) (e24 : 7 ≤ h0) (e25 : h0 ≠ 16) (e26 : h0 ≠ 17) (e27 : h0 ≠ 18) (hg28 : ((64 : Int32) - a3) = a4) (e29 : h0 ≠ h1) (e30 : 16 ≠ h1) (e31 : 17 ≠ h1) (e32 : 18 ≠ h1) (hw33 : w[h1]? = some (Sum.inr (3, [Value.ref h2, Value.int 0]))) (hg34 : (a3 + a4) = 64) (e35 : h0 ≠ h2) (e36 : 16 ≠ h2) (e37 : 17 ≠ h2) (e38 : 18 ≠ h2) (hw39 : w[h2]? = some (Sum.inl (0, 8, fun _ => Value.int 0))) (e40 : 0 ≤ a4.toInt) (e41 : 7 ≤ h2) (e42 : h2 ≠ h1) (e43 : h2 ≠ 17) (e44 : h2 ≠ 18) (e45 : 7 ≤ h1) (e46 : h1 ≠ h0) (e47 : h2 ≠ h0) (e48 : h1 ≠ h2) (e49 : (xbf 1 (xlo b0) (0 : Int32) ((32 : Int32) - a4)).toInt ≠ 0) (e50 : ((64 : Int32) - (xnlz (xbf 1 (xlo b0) (0 : Int32) ((32 : Int32) - a4)))).toInt ≤ 64) (e51 : h1 ≠ 78) (e52 : h2 ≠ 78) (e53 : h0 ≠ 78) (e54 : 16384 < (a3 + a1).toInt) (e55 : h1 ≠ 16) (e56 : h2 ≠ 16) (e57 : a2.toInt = 0) (e58 : 78 ≠ h0) : xRun (d + 5) 21 [Value.ref 7, Value.int a0, Value.long b0, Value.int a1, Value.int a2] w (.inl (some (Value.int 1))) (((((((((((w.set 16 (Sum.inr (4, [Value.int 0, Value.ref 17, Value.int 0, Value.int 0]))).set 18 (Sum.inl (0, 8, xup (xup (fun _ => Value.int 0) (0 : Int32).toInt.toNat (Value.int (xlo b0))) (1 : Int32).toInt.toNat (Value.int 0)))).set 17 (Sum.inr (3, [Value.ref 18, Value.int 2]))).set 17 (Sum.inr (3, [Value.ref 18, Value.int 1]))).set 16 (Sum.inr (4, [Value.int 0, Value.ref 17, Value.int a1, Value.int 0]))).set h0 (Sum.inr (2, [Value.int 64, Value.int 3, Value.int 0, Value.int (a3 + a1), Value.ref h1]))).set h2 (Sum.inl (0, 8, xup (xup (fun _ => Value.int 0) (1 : Int32).toInt.toNat (Value.int (xbf 1 (xlo b0) (0 : Int32) ((32 : Int32) - a4)))) (0 : Int32).toInt.toNat (Value.int (xbf 1 (xlo b0) (0 : Int32) ((0 : Int32) - a4)))))).set h1 (Sum.inr (3, [Value.ref h2, Value.int 2]))).set 78 (Sum.inr (1, [Value.int (-16384), Value.int 16384, Value.int 0, Value.int 2]))).set h0 (Sum.inr (2, [Value.int 64, Value.int 1, Value.int 0, Value.int (a3 + a1), Value.ref h1]))).set 78 (Sum.inr (1, [Value.int (-16384), Value.int 16384, Value.int 0, Value.int 3]))) := by
  refine xRun.of ?_
  refine i_21_0 (x := a0) rfl ?_
  refine i_21_1 (Nat.le_of_ble_eq_true rfl) (s_15_0 e0 e1) ?_
  refine i_21_4 (fun h => absurd h (by decide)) (fun _ => ?_)
  refine i_21_7 (x := a1) rfl ?_
  refine i_21_9 ?_
  refine i_21_11 (fun h => absurd e2 (Int.not_le.mpr h)) (fun _ => ?_)
  refine i_21_14 (x := a1) rfl ?_
  refine i_21_16 ?_
  refine i_21_18 (fun h => absurd e3 (Int.not_le.mpr h)) (fun _ => ?_)
  refine i_21_21 (x := a2) rfl ?_
  refine i_21_23 (Nat.le_of_ble_eq_true rfl) (s_22_0 e4 e5) ?_
  refine i_21_26 (fun _ => ?_) (fun h => absurd h (by decide))
  refine i_21_37 (x := 7) rfl ?_
  refine i_21_38 (v := Value.ref 8) hw6 rfl ?_
  refine i_21_41 (x := a0) rfl ?_
  refine i_21_42 (v := Value.ref h0) hw7 e0 e1 hg8 ?_
  refine i_21_43 (lv2 := [(6, Value.ref h0), (0, Value.ref 7), (1, Value.int a0), (2, Value.long b0), (4, Value.int a1), (5, Value.int a2)]) rfl ?_
  refine i_21_45 (x := b0) rfl ?_
  refine i_21_46 ?_
  refine i_21_47 (c := (lg_cmp b0 (0 : Int64))) rfl ?_
  refine i_21_48 (fun _ => ?_) (fun h => absurd e9 (fun g => g h))
  refine i_21_58 (x := 7) rfl ?_
  refine i_21_59 (v := Value.ref 16) hw6 rfl ?_
  refine i_21_62 (x := b0) rfl ?_
  refine i_21_63 ?_
  refine i_21_64 (c := (lg_cmp b0 (0 : Int64))) rfl ?_
  refine i_21_65 (fun _ => ?_) (fun h => absurd e10 (Int.not_le.mpr h))
  refine i_21_72 ?_
  refine i_21_73 (x := b0) rfl ?_
  refine i_21_74 ?_
  refine i_21_75 (c := (lg_cmp b0 (0 : Int64))) rfl ?_
  refine i_21_76 (fun _ => ?_) (fun h => absurd e10 (Int.not_le.mpr h))
  refine i_21_84 (x := b0) rfl ?_
  refine i_21_85 (x := a1) rfl ?_
  refine i_21_87 hw11 (Nat.le_of_ble_eq_true rfl) (s_24_0 hw11 hw12 hw13 hg14 e15) ?_
  refine i_21_90 (x := 7) rfl ?_
  refine i_21_91 (v := Value.ref 78) (xgn (by decide) (xgn (by decide) (xgn (by decide) (xgn (by decide) (xgn (by decide) hw6))))) rfl ?_
  refine i_21_94 (x := h0) rfl ?_
  refine i_21_96 (x := 7) rfl ?_
  refine i_21_97 (v := Value.ref 16) (xgn (by decide) (xgn (by decide) (xgn (by decide) (xgn (by decide) (xgn (by decide) hw6))))) rfl ?_
  refine i_21_100 (x := a2) rfl ?_
  refine i_21_102 (xgn (by decide) (xgn (by decide) (xgn (by decide) (xgn (by decide) (xgn (by decide) hw16))))) (Nat.le_of_ble_eq_true rfl) (s_27_0 (xgs (xgn (by decide) (xgn (by decide) (xgn (by decide) (xgs hw11))))) (xgn (by decide) (xgs (xgs (xgn (by decide) (xgn (by decide) hw12))))) (xgn (by decide) (xgn (by decide) (xgn (by decide) (xgs (xgn (by decide) hw13))))) (xup_n (by decide) xup_s) hg17 (xgn e18 (xgn e19 (xgn e19 (xgn e20 (xgn e18 hw21))))) (xgn (by decide) (xgn (by decide) (xgn (by decide) (xgn (by decide) (xgn (by decide) hw16))))) e22 hg23 e24 e25 e26 e27 hg28 e29 (xgn e30 (xgn e31 (xgn e31 (xgn e32 (xgn e30 hw33))))) hg34 e35 (xgn e36 (xgn e37 (xgn e37 (xgn e38 (xgn e36 hw39))))) e40 xup_s e41 e42 e43 e44 e45 e46 e47 e48 e49 e50 e51 e52 e53 e54 e55 e56 e57 e58) ?_
  exact i_21_105 ⟨rfl, rfl⟩
theorem s_20_0 {d : Nat} {w : xW} {a0 : Int32} {b0 : Int64} {a1 : Int32} {a2 : Int32} {g0 : Nat → Value} {h0 : Nat} {a3 : Int32} {h1 : Nat} {a4 : Int32} {h2 : Nat} (hw0 : w[7]? = some (Sum.inr (0, [Value.ref 8, Value.ref 78, Value.ref 9, Value.ref 10, Value.ref 13, Value.ref 16, Value.ref 19, Value.ref 93, Value.ref 108, Value.ref 113, Value.ref 29, Value.int 0]))) (e1 : 0 ≤ a0.toInt) (e2 : a0.toInt < 16) (e3 : (-40000) ≤ a1.toInt) (e4 : a1.toInt ≤ 40000) (e5 : 0 ≤ a2.toInt) (e6 : a2.toInt ≤ 4) (hw7 : w[8]? = some (Sum.inl (4, 16, g0))) (hg8 : g0 a0.toInt.toNat = Value.ref h0) (e9 : (lg_cmp b0 (0 : Int64)).toInt ≠ 0) (e10 : 0 ≤ (lg_cmp b0 (0 : Int64)).toInt) (hw11 : w[16]? = some (Sum.inr (4, [Value.int 0, Value.ref 17, Value.int 0, Value.int 0]))) (hw12 : w[17]? = some (Sum.inr (3, [Value.ref 18, Value.int 0]))) (hw13 : w[18]? = some (Sum.inl (0, 8, fun _ => Value.int 0))) (hg14 : (xhi b0) = 0) (e15 : (xlo b0).toInt ≠ 0) (hw16 : w[78]? = some (Sum.inr (1, [Value.int (-16384), Value.int 16384, Value.int 0, Value.int 0]))) (hg17 : ((32 : Int32) - (xnlz (xlo b0))) = a3) (e18 : 16 ≠ h0) (e19 : 17 ≠ h0) (e20 : 18 ≠ h0) (hw21 : w[h0]? = some (Sum.inr (2, [Value.int 64, Value.int 0, Value.int 0, Value.int 0, Value.ref h1]))) (e22 : (((a3 + a1) - (64 : Int32)) - a1).toInt ≤ 0) (hg23 : ((a3 + a1) - ((a3 + a1) - (64 : Int32))) = 64) (e24 : 7 ≤ h0) (e25 : h0 ≠ 16) (e26 : h0 ≠ 17) (e27 : h0 ≠ 18) (hg28 : ((64 : Int32) - a3) = a4) (e29 : h0 ≠ h1) (e30 : 16 ≠ h1) (e31 : 17 ≠ h1) (e32 : 18 ≠ h1) (hw33 : w[h1]? = some (Sum.inr (3, [Value.ref h2, Value.int 0]))) (hg34 : (a3 + a4) = 64) (e35 : h0 ≠ h2) (e36 : 16 ≠ h2) (e37 : 17 ≠ h2) (e38 : 18 ≠ h2) (hw39 : w[h2]? = some (Sum.inl (0, 8, fun _ => Value.int 0))) (e40 : 0 ≤ a4.toInt) (e41 : 7 ≤ h2) (e42 : h2 ≠ h1) (e43 : h2 ≠ 17) (e44 : h2 ≠ 18) (e45 : 7 ≤ h1) (e46 : h1 ≠ h0) (e47 : h2 ≠ h0) (e48 : h1 ≠ h2) (e49 : (xbf 1 (xlo b0) (0 : Int32) ((32 : Int32) - a4)).toInt ≠ 0) (e50 : ((64 : Int32) - (xnlz (xbf 1 (xlo b0) (0 : Int32) ((32 : Int32) - a4)))).toInt ≤ 64) (e51 : h1 ≠ 78) (e52 : h2 ≠ 78) (e53 : h0 ≠ 78) (e54 : 16384 < (a3 + a1).toInt) (e55 : h1 ≠ 16) (e56 : h2 ≠ 16) (e57 : a2.toInt = 0) (e58 : 78 ≠ h0) (e59 : h0 ≠ 194) (e60 : h1 ≠ 194) (e61 : h2 ≠ 194) (hw62 : w[194]? = some (Sum.inl (3, 1, fun _ => Value.long 0))) : xRun (d + 6) 20 [Value.ref 7, Value.int a0, Value.long b0, Value.int a1, Value.int a2, Value.ref 194] w (.inl (some (Value.int 0))) ((((((((((((w.set 16 (Sum.inr (4, [Value.int 0, Value.ref 17, Value.int 0, Value.int 0]))).set 18 (Sum.inl (0, 8, xup (xup (fun _ => Value.int 0) (0 : Int32).toInt.toNat (Value.int (xlo b0))) (1 : Int32).toInt.toNat (Value.int 0)))).set 17 (Sum.inr (3, [Value.ref 18, Value.int 2]))).set 17 (Sum.inr (3, [Value.ref 18, Value.int 1]))).set 16 (Sum.inr (4, [Value.int 0, Value.ref 17, Value.int a1, Value.int 0]))).set h0 (Sum.inr (2, [Value.int 64, Value.int 3, Value.int 0, Value.int (a3 + a1), Value.ref h1]))).set h2 (Sum.inl (0, 8, xup (xup (fun _ => Value.int 0) (1 : Int32).toInt.toNat (Value.int (xbf 1 (xlo b0) (0 : Int32) ((32 : Int32) - a4)))) (0 : Int32).toInt.toNat (Value.int (xbf 1 (xlo b0) (0 : Int32) ((0 : Int32) - a4)))))).set h1 (Sum.inr (3, [Value.ref h2, Value.int 2]))).set 78 (Sum.inr (1, [Value.int (-16384), Value.int 16384, Value.int 0, Value.int 2]))).set h0 (Sum.inr (2, [Value.int 64, Value.int 1, Value.int 0, Value.int (a3 + a1), Value.ref h1]))).set 78 (Sum.inr (1, [Value.int (-16384), Value.int 16384, Value.int 0, Value.int 3]))).set 194 (Sum.inl (3, 1, xup (fun _ => Value.long 0) (0 : Int32).toInt.toNat (Value.long 1)))) := by
  refine xRun.of ?_
  refine i_20_0 (x := 194) rfl ?_
  refine i_20_2 ?_
  refine i_20_3 (x := 7) rfl ?_
  refine i_20_4 (x := a0) rfl ?_
  refine i_20_5 (x := b0) rfl ?_
  refine i_20_6 (x := a1) rfl ?_
  refine i_20_8 (x := a2) rfl ?_
  refine i_20_10 hw0 (Nat.le_of_ble_eq_true rfl) (s_21_0 e1 e2 e3 e4 e5 e6 hw0 hw7 hg8 e9 e10 hw11 hw12 hw13 hg14 e15 hw16 hg17 e18 e19 e20 hw21 e22 hg23 e24 e25 e26 e27 hg28 e29 e30 e31 e32 hw33 hg34 e35 e36 e37 e38 hw39 e40 e41 e42 e43 e44 e45 e46 e47 e48 e49 e50 e51 e52 e53 e54 e55 e56 e57 e58) ?_
  refine i_20_13 (c := 1) (by decide) ?_
  refine i_20_14 (v := Value.long 1) (xgn (by decide) (xgn e59 (xgn (by decide) (xgn e60 (xgn e61 (xgn e59 (xgn (by decide) (xgn (by decide) (xgn (by decide) (xgn (by decide) (xgn (by decide) hw62))))))))))) (by decide) (by decide) (by decide) rfl ?_
  refine i_20_15 ?_
  refine i_20_22 ?_
  exact i_20_23 ⟨rfl, rfl⟩
theorem cn3_0_0 {d : Nat} {xs : Nat → Int32} {B K : Int32} (c0 : 0 ≤ (xs 1).toInt) (c1 : (xs 1).toInt < 16) (c2 : (-40000) ≤ (xs 4).toInt) (c3 : (xs 4).toInt ≤ 40000) (c4 : 0 ≤ (xs 5).toInt) (c5 : (xs 5).toInt ≤ 4) (c6 : (lg_cmp (xvv xs) (0 : Int64)).toInt ≠ 0) (c7 : 0 ≤ (lg_cmp (xvv xs) (0 : Int64)).toInt) (c8 : K.toInt = 64 - B.toInt) (c9 : 1 ≤ B.toInt) (c10 : B.toInt ≤ 32) (c11 : (xhi (xvv xs)).toInt = 0) (c12 : (xlo (xvv xs)).toInt ≠ 0) (c13 : (xnlz (xlo (xvv xs))).toInt = 32 - B.toInt) (c14 : (xbf 1 (xlo (xvv xs)) (0 : Int32) ((32 : Int32) - K)).toInt ≠ 0) (c15 : 16384 < (B + (xs 4)).toInt) (c16 : (xs 5).toInt = 0) : ∃ w1, xRun (d + 18) 20 [Value.ref 7, Value.int (xs 1), Value.long (xvv xs), Value.int (xs 4), Value.int (xs 5), Value.ref 194] (W0 6 xs) (.inl (some (Value.int 0))) w1 ∧ xKp (W0 6 xs) w1 xPC ∧ w1[194]? = some (Sum.inl (3, 1, xup (fun _ => Value.long 0) (0 : Int32).toInt.toNat (Value.long 1))) := by
  have f0 : ((32 : Int32) - (xnlz (xlo (xvv xs)))).toInt = 32 - (xnlz (xlo (xvv xs))).toInt := xsub_g rfl rfl (by omega) (by omega)
  have f1 : (B + (xs 4)).toInt = B.toInt + (xs 4).toInt := xadd_i (by omega) (by omega)
  have f2 : ((B + (xs 4)) - (64 : Int32)).toInt = (B + (xs 4)).toInt - 64 := xsub_g rfl rfl (by omega) (by omega)
  have f3 : (((B + (xs 4)) - (64 : Int32)) - (xs 4)).toInt = ((B + (xs 4)) - (64 : Int32)).toInt - (xs 4).toInt := xsub_i (by omega) (by omega)
  have f4 : ((B + (xs 4)) - ((B + (xs 4)) - (64 : Int32))).toInt = (B + (xs 4)).toInt - ((B + (xs 4)) - (64 : Int32)).toInt := xsub_i (by omega) (by omega)
  have f5 : ((64 : Int32) - B).toInt = 64 - B.toInt := xsub_g rfl rfl (by omega) (by omega)
  have f6 : (B + K).toInt = B.toInt + K.toInt := xadd_i (by omega) (by omega)
  have f7 : 0 ≤ (xnlz (xbf 1 (xlo (xvv xs)) (0 : Int32) ((32 : Int32) - K))).toInt := (xnlz_b _).1
  have f8 : (xnlz (xbf 1 (xlo (xvv xs)) (0 : Int32) ((32 : Int32) - K))).toInt ≤ 32 := (xnlz_b _).2
  have f9 : ((64 : Int32) - (xnlz (xbf 1 (xlo (xvv xs)) (0 : Int32) ((32 : Int32) - K)))).toInt = 64 - (xnlz (xbf 1 (xlo (xvv xs)) (0 : Int32) ((32 : Int32) - K))).toInt := xsub_g rfl rfl (by omega) (by omega)
  refine ⟨(((((((((((((W0 6 xs).set 16 (Sum.inr (4, [Value.int 0, Value.ref 17, Value.int 0, Value.int 0]))).set 18 (Sum.inl (0, 8, xup (xup (fun _ => Value.int 0) (0 : Int32).toInt.toNat (Value.int (xlo (xvv xs)))) (1 : Int32).toInt.toNat (Value.int 0)))).set 17 (Sum.inr (3, [Value.ref 18, Value.int 2]))).set 17 (Sum.inr (3, [Value.ref 18, Value.int 1]))).set 16 (Sum.inr (4, [Value.int 0, Value.ref 17, Value.int (xs 4), Value.int 0]))).set (30 + 3 * (xs 1).toInt.toNat) (Sum.inr (2, [Value.int 64, Value.int 3, Value.int 0, Value.int (B + (xs 4)), Value.ref (31 + 3 * (xs 1).toInt.toNat)]))).set (32 + 3 * (xs 1).toInt.toNat) (Sum.inl (0, 8, xup (xup (fun _ => Value.int 0) (1 : Int32).toInt.toNat (Value.int (xbf 1 (xlo (xvv xs)) (0 : Int32) ((32 : Int32) - K)))) (0 : Int32).toInt.toNat (Value.int (xbf 1 (xlo (xvv xs)) (0 : Int32) ((0 : Int32) - K)))))).set (31 + 3 * (xs 1).toInt.toNat) (Sum.inr (3, [Value.ref (32 + 3 * (xs 1).toInt.toNat), Value.int 2]))).set 78 (Sum.inr (1, [Value.int (-16384), Value.int 16384, Value.int 0, Value.int 2]))).set (30 + 3 * (xs 1).toInt.toNat) (Sum.inr (2, [Value.int 64, Value.int 1, Value.int 0, Value.int (B + (xs 4)), Value.ref (31 + 3 * (xs 1).toInt.toNat)]))).set 78 (Sum.inr (1, [Value.int (-16384), Value.int 16384, Value.int 0, Value.int 3]))).set 194 (Sum.inl (3, 1, xup (fun _ => Value.long 0) (0 : Int32).toInt.toNat (Value.long 1)))), (s_20_0 W0_7 (by omega) (by omega) (by omega) (by omega) (by omega) (by omega) W0_8 (greg_at (by omega)) (by omega) (by omega) W0_16 W0_17 W0_18 (show (xhi (xvv xs)) = 0 from (xge_c (n := 0) (by omega) rfl)) (by omega) W0_78 (show ((32 : Int32) - (xnlz (xlo (xvv xs)))) = B from (xge_i (by omega))) (by omega) (by omega) (by omega) (W0_reg (by omega)) (by omega) (show ((B + (xs 4)) - ((B + (xs 4)) - (64 : Int32))) = 64 from (xge_c (n := 64) (by omega) rfl)) (by omega) (by omega) (by omega) (by omega) (show ((64 : Int32) - B) = K from (xge_i (by omega))) (by omega) (by omega) (by omega) (by omega) (W0_man (by omega)) (show (B + K) = 64 from (xge_c (n := 64) (by omega) rfl)) (by omega) (by omega) (by omega) (by omega) (W0_mw (by omega)) (by omega) (by omega) (by omega) (by omega) (by omega) (by omega) (by omega) (by omega) (by omega) (by omega) (by omega) (by omega) (by omega) (by omega) (by omega) (by omega) (by omega) (by omega) (by omega) (by omega) (by omega) (by omega) W0_194), ?_, xgs (xgn (by decide) (xgn (by omega) (xgn (by decide) (xgn (by omega) (xgn (by omega) (xgn (by omega) (xgn (by decide) (xgn (by decide) (xgn (by decide) (xgn (by decide) (xgn (by decide) W0_194)))))))))))⟩
  refine xKp.set ?_ (fun h hh => by unfold xPC at hh; omega) (xgn (by decide) (xgn (by omega) (xgn (by decide) (xgn (by omega) (xgn (by omega) (xgn (by omega) (xgn (by decide) (xgn (by decide) (xgn (by decide) (xgn (by decide) (xgn (by decide) W0_194))))))))))) xcs_a
  refine xKp.set ?_ (fun h hh => by unfold xPC at hh; omega) (xgn (by omega) (xgs (xgn (by omega) (xgn (by omega) (xgn (by omega) (xgn (by decide) (xgn (by decide) (xgn (by decide) (xgn (by decide) (xgn (by decide) W0_78)))))))))) xcs_o
  refine xKp.set ?_ (fun h hh => by unfold xPC at hh; omega) (xgn (by omega) (xgn (by omega) (xgn (by omega) (xgs (xgn (by omega) (xgn (by omega) (xgn (by omega) (xgn (by omega) (xgn (by omega) (W0_reg (by omega))))))))))) xcs_o
  refine xKp.set ?_ (fun h hh => by unfold xPC at hh; omega) (xgn (by omega) (xgn (by omega) (xgn (by omega) (xgn (by decide) (xgn (by decide) (xgn (by decide) (xgn (by decide) (xgn (by decide) W0_78)))))))) xcs_o
  refine xKp.set ?_ (fun h hh => by unfold xPC at hh; omega) (xgn (by omega) (xgn (by omega) (xgn (by omega) (xgn (by omega) (xgn (by omega) (xgn (by omega) (xgn (by omega) (W0_man (by omega))))))))) xcs_o
  refine xKp.set ?_ (fun h hh => by unfold xPC at hh; omega) (xgn (by omega) (xgn (by omega) (xgn (by omega) (xgn (by omega) (xgn (by omega) (xgn (by omega) (W0_mw (by omega)))))))) xcs_a
  refine xKp.set ?_ (fun h hh => by unfold xPC at hh; omega) (xgn (by omega) (xgn (by omega) (xgn (by omega) (xgn (by omega) (xgn (by omega) (W0_reg (by omega))))))) xcs_o
  refine xKp.set ?_ (fun h hh => by unfold xPC at hh; omega) (xgn (by decide) (xgn (by decide) (xgn (by decide) (xgs W0_16)))) xcs_o
  refine xKp.set ?_ (fun h hh => by unfold xPC at hh; omega) (xgs (xgn (by decide) (xgn (by decide) W0_17))) xcs_o
  refine xKp.set ?_ (fun h hh => by unfold xPC at hh; omega) (xgn (by decide) (xgn (by decide) W0_17)) xcs_o
  refine xKp.set ?_ (fun h hh => by unfold xPC at hh; omega) (xgn (by decide) W0_18) xcs_a
  refine xKp.set ?_ (fun h hh => by unfold xPC at hh; omega) (W0_16) xcs_o
  exact xKp.refl
theorem s_37_0 {d : Nat} {w : xW} {a0 : Int32} (e0 : a0.toInt = 4) : xRun d 37 [Value.int a0, Value.int 0] w (.inl (some (Value.int 1))) w := by
  refine xRun.of ?_
  refine i_37_0 (x := a0) rfl ?_
  refine i_37_1 ?_
  refine i_37_2 (fun _ => ?_) (fun h => absurd e0 h)
  refine i_37_23 ?_
  refine i_37_24 ?_
  exact i_37_28 rfl ⟨rfl, rfl⟩
theorem s_46_1 {d : Nat} {w : xW} {h0 : Nat} {a0 : Int32} {a1 : Int32} {h1 : Nat} (hw0 : w[78]? = some (Sum.inr (1, [Value.int (-16384), Value.int 16384, Value.int 0, Value.int 0]))) (e1 : a0.toInt ≠ 0) (e2 : a0.toInt = 4) (e3 : 78 ≠ h0) (hw4 : w[h0]? = some (Sum.inr (2, [Value.int 64, Value.int 3, Value.int 0, Value.int a1, Value.ref h1]))) (e5 : 7 ≤ h0) : xRun (d + 2) 46 [Value.ref 78, Value.ref h0, Value.int 0, Value.int a0] w (.inl (some (Value.int 1))) ((w.set 78 (Sum.inr (1, [Value.int (-16384), Value.int 16384, Value.int 0, Value.int 2]))).set h0 (Sum.inr (2, [Value.int 64, Value.int 1, Value.int 0, Value.int a1, Value.ref h1]))) := by
  refine xRun.of ?_
  refine i_46_0 (x := 78) rfl ?_
  refine i_46_1 rfl ?_
  refine i_46_2 (v := Value.int 0) hw0 rfl ?_
  refine i_46_5 ?_
  refine i_46_6 (c := 2) (by decide) ?_
  refine i_46_7 (fs2 := [Value.int (-16384), Value.int 16384, Value.int 0, Value.int 2]) hw0 (Nat.le_of_ble_eq_true rfl) rfl (by decide) ?_
  refine i_46_10 (x := a0) rfl ?_
  refine i_46_11 (fun h => absurd e1 (fun g => g h)) (fun _ => ?_)
  refine i_46_14 (x := a0) rfl ?_
  refine i_46_15 (x := 0) rfl ?_
  refine i_46_16 (Nat.le_of_ble_eq_true rfl) (s_37_0 e2) ?_
  refine i_46_19 (fun h => absurd h (by decide)) (fun _ => ?_)
  refine i_46_22 (x := h0) rfl ?_
  refine i_46_23 (x := 0) rfl ?_
  refine i_46_24 (xgn e3 hw4) (Nat.le_of_ble_eq_true rfl) (s_47_0 (xgn e3 hw4) e5) ?_
  refine i_46_27 rfl ?_
  refine i_46_28 ?_
  exact i_46_29 ⟨rfl, rfl⟩
theorem s_27_1 {d : Nat} {w : xW} {h0 : Nat} {a0 : Int32} {a1 : Int32} {g0 : Nat → Value} {a2 : Int32} {a3 : Int32} {h1 : Nat} {a4 : Int32} {h2 : Nat} (hw0 : w[16]? = some (Sum.inr (4, [Value.int 0, Value.ref 17, Value.int a1, Value.int 0]))) (hw1 : w[17]? = some (Sum.inr (3, [Value.ref 18, Value.int 1]))) (hw2 : w[18]? = some (Sum.inl (0, 8, g0))) (hg3 : g0 (0 : Int32).toInt.toNat = Value.int a2) (hg4 : ((32 : Int32) - (xnlz a2)) = a3) (hw5 : w[h0]? = some (Sum.inr (2, [Value.int 64, Value.int 0, Value.int 0, Value.int 0, Value.ref h1]))) (hw6 : w[78]? = some (Sum.inr (1, [Value.int (-16384), Value.int 16384, Value.int 0, Value.int 0]))) (e7 : (((a3 + a1) - (64 : Int32)) - a1).toInt ≤ 0) (hg8 : ((a3 + a1) - ((a3 + a1) - (64 : Int32))) = 64) (e9 : 7 ≤ h0) (e10 : h0 ≠ 16) (e11 : h0 ≠ 17) (e12 : h0 ≠ 18) (hg13 : ((64 : Int32) - a3) = a4) (e14 : h0 ≠ h1) (hw15 : w[h1]? = some (Sum.inr (3, [Value.ref h2, Value.int 0]))) (hg16 : (a3 + a4) = 64) (e17 : h0 ≠ h2) (hw18 : w[h2]? = some (Sum.inl (0, 8, fun _ => Value.int 0))) (e19 : 0 ≤ a4.toInt) (hg20 : g0 (1 : Int32).toInt.toNat = Value.int 0) (e21 : 7 ≤ h2) (e22 : h2 ≠ h1) (e23 : h2 ≠ 17) (e24 : h2 ≠ 18) (e25 : 7 ≤ h1) (e26 : h1 ≠ h0) (e27 : h2 ≠ h0) (e28 : h1 ≠ h2) (e29 : (xbf 1 a2 (0 : Int32) ((32 : Int32) - a4)).toInt ≠ 0) (e30 : ((64 : Int32) - (xnlz (xbf 1 a2 (0 : Int32) ((32 : Int32) - a4)))).toInt ≤ 64) (e31 : h1 ≠ 78) (e32 : h2 ≠ 78) (e33 : h0 ≠ 78) (e34 : 16384 < (a3 + a1).toInt) (e35 : h1 ≠ 16) (e36 : h2 ≠ 16) (e37 : a0.toInt ≠ 0) (e38 : a0.toInt = 4) (e39 : 78 ≠ h0) : xRun (d + 4) 27 [Value.ref 78, Value.ref h0, Value.ref 16, Value.int a0] w (.inl (some (Value.int 1))) ((((((w.set h0 (Sum.inr (2, [Value.int 64, Value.int 3, Value.int 0, Value.int (a3 + a1), Value.ref h1]))).set h2 (Sum.inl (0, 8, xup (xup (fun _ => Value.int 0) (1 : Int32).toInt.toNat (Value.int (xbf 1 a2 (0 : Int32) ((32 : Int32) - a4)))) (0 : Int32).toInt.toNat (Value.int (xbf 1 a2 (0 : Int32) ((0 : Int32) - a4)))))).set h1 (Sum.inr (3, [Value.ref h2, Value.int 2]))).set 78 (Sum.inr (1, [Value.int (-16384), Value.int 16384, Value.int 0, Value.int 2]))).set h0 (Sum.inr (2, [Value.int 64, Value.int 1, Value.int 0, Value.int (a3 + a1), Value.ref h1]))).set 78 (Sum.inr (1, [Value.int (-16384), Value.int 16384, Value.int 0, Value.int 3]))) := by
  refine xRun.of ?_
  refine i_27_0 (x := 16) rfl ?_
  refine i_27_1 hw0 (Nat.le_of_ble_eq_true rfl) (s_28_0 hw0 hw1 hw2 hg3 hg4) ?_
  refine i_27_4 (lv2 := [(4, Value.int (a3 + a1)), (0, Value.ref 78), (1, Value.ref h0), (2, Value.ref 16), (3, Value.int a0)]) rfl ?_
  refine i_27_6 (x := 78) rfl ?_
  refine i_27_7 (x := (a3 + a1)) rfl ?_
  refine i_27_9 (x := h0) rfl ?_
  refine i_27_10 (v := Value.int 64) hw5 rfl ?_
  refine i_27_13 hw6 (Nat.le_of_ble_eq_true rfl) (s_30_0 hw6) ?_
  refine i_27_16 (lv2 := [(5, Value.int ((a3 + a1) - (64 : Int32))), (4, Value.int (a3 + a1)), (0, Value.ref 78), (1, Value.ref h0), (2, Value.ref 16), (3, Value.int a0)]) rfl ?_
  refine i_27_18 (x := 16) rfl ?_
  refine i_27_19 (x := ((a3 + a1) - (64 : Int32))) rfl ?_
  refine i_27_21 (x := a0) rfl ?_
  refine i_27_22 hw0 (Nat.le_of_ble_eq_true rfl) (s_31_0 hw0 hw1 e7) ?_
  refine i_27_25 (lv2 := [(6, Value.int 0), (5, Value.int ((a3 + a1) - (64 : Int32))), (4, Value.int (a3 + a1)), (0, Value.ref 78), (1, Value.ref h0), (2, Value.ref 16), (3, Value.int a0)]) rfl ?_
  refine i_27_27 (x := 16) rfl ?_
  refine i_27_28 (x := ((a3 + a1) - (64 : Int32))) rfl ?_
  refine i_27_30 hw0 (Nat.le_of_ble_eq_true rfl) (s_32_0 hw0 hw1 e7) ?_
  refine i_27_33 (fun h => absurd h (by decide)) (fun _ => ?_)
  refine i_27_36 ?_
  refine i_27_37 ?_
  refine i_27_50 (lv2 := [(7, Value.int 0), (6, Value.int 0), (5, Value.int ((a3 + a1) - (64 : Int32))), (4, Value.int (a3 + a1)), (0, Value.ref 78), (1, Value.ref h0), (2, Value.ref 16), (3, Value.int a0)]) rfl ?_
  refine i_27_52 (x := h0) rfl ?_
  refine i_27_53 (x := 16) rfl ?_
  refine i_27_54 (x := ((a3 + a1) - (64 : Int32))) rfl ?_
  refine i_27_56 (x := 0) rfl ?_
  refine i_27_58 hw5 (Nat.le_of_ble_eq_true rfl) (s_38_0 hw0 hw1 hw2 hg3 hg4 hg8 hw5 e9 e10 e11 e12 hg13 e14 hw15 hg16 e17 hw18 e19 hg20 e21 e22 e23 e24 e25 e26 e27 e28 e29 e30) ?_
  refine i_27_61 (x := h0) rfl ?_
  refine i_27_62 (v := Value.int 3) (xgn e26 (xgn e27 (xgs hw5))) rfl ?_
  refine i_27_65 ?_
  refine i_27_66 (fun h => absurd h (by decide)) (fun _ => ?_)
  refine i_27_69 (x := h0) rfl ?_
  refine i_27_70 (v := Value.int (a3 + a1)) (xgn e26 (xgn e27 (xgs hw5))) rfl ?_
  refine i_27_73 (x := 78) rfl ?_
  refine i_27_74 (v := Value.int 16384) (xgn e31 (xgn e32 (xgn e33 hw6))) rfl ?_
  refine i_27_77 (fun h => absurd e34 (Int.not_lt.mpr h)) (fun _ => ?_)
  refine i_27_80 (x := 78) rfl ?_
  refine i_27_81 (x := h0) rfl ?_
  refine i_27_82 (x := 16) rfl ?_
  refine i_27_83 (v := Value.int 0) (xgn e35 (xgn e36 (xgn e10 hw0))) rfl ?_
  refine i_27_86 (x := a0) rfl ?_
  refine i_27_87 (xgn e31 (xgn e32 (xgn e33 hw6))) (Nat.le_of_ble_eq_true rfl) (s_46_1 (xgn e31 (xgn e32 (xgn e33 hw6))) e37 e38 e39 (xgn e26 (xgn e27 (xgs hw5))) e9) ?_
  refine i_27_90 (lv2 := [(7, Value.int 1), (6, Value.int 0), (5, Value.int ((a3 + a1) - (64 : Int32))), (4, Value.int (a3 + a1)), (0, Value.ref 78), (1, Value.ref h0), (2, Value.ref 16), (3, Value.int a0)]) rfl ?_
  refine i_27_92 ?_
  refine i_27_164 (x := 1) rfl ?_
  refine i_27_166 (fun h => absurd h (by decide)) (fun _ => ?_)
  refine i_27_169 (x := 78) rfl ?_
  refine i_27_170 rfl ?_
  refine i_27_171 (v := Value.int 2) (xgn e33 (xgs (xgn e31 (xgn e32 (xgn e33 hw6))))) rfl ?_
  refine i_27_174 ?_
  refine i_27_175 (c := 3) (by decide) ?_
  refine i_27_176 (fs2 := [Value.int (-16384), Value.int 16384, Value.int 0, Value.int 3]) (xgn e33 (xgs (xgn e31 (xgn e32 (xgn e33 hw6))))) (Nat.le_of_ble_eq_true rfl) rfl (by decide) ?_
  refine i_27_179 (x := 16) rfl ?_
  refine i_27_180 (v := Value.int 0) (xgn (by decide) (xgn e10 (xgn (by decide) (xgn e35 (xgn e36 (xgn e10 hw0)))))) rfl ?_
  refine i_27_183 (fun _ => ?_) (fun h => absurd h (by decide))
  refine i_27_192 (x := 1) rfl ?_
  exact i_27_194 ⟨rfl, rfl⟩
theorem s_21_1 {d : Nat} {w : xW} {a0 : Int32} {b0 : Int64} {a1 : Int32} {a2 : Int32} {g0 : Nat → Value} {h0 : Nat} {a3 : Int32} {h1 : Nat} {a4 : Int32} {h2 : Nat} (e0 : 0 ≤ a0.toInt) (e1 : a0.toInt < 16) (e2 : (-40000) ≤ a1.toInt) (e3 : a1.toInt ≤ 40000) (e4 : 0 ≤ a2.toInt) (e5 : a2.toInt ≤ 4) (hw6 : w[7]? = some (Sum.inr (0, [Value.ref 8, Value.ref 78, Value.ref 9, Value.ref 10, Value.ref 13, Value.ref 16, Value.ref 19, Value.ref 93, Value.ref 108, Value.ref 113, Value.ref 29, Value.int 0]))) (hw7 : w[8]? = some (Sum.inl (4, 16, g0))) (hg8 : g0 a0.toInt.toNat = Value.ref h0) (e9 : (lg_cmp b0 (0 : Int64)).toInt ≠ 0) (e10 : 0 ≤ (lg_cmp b0 (0 : Int64)).toInt) (hw11 : w[16]? = some (Sum.inr (4, [Value.int 0, Value.ref 17, Value.int 0, Value.int 0]))) (hw12 : w[17]? = some (Sum.inr (3, [Value.ref 18, Value.int 0]))) (hw13 : w[18]? = some (Sum.inl (0, 8, fun _ => Value.int 0))) (hg14 : (xhi b0) = 0) (e15 : (xlo b0).toInt ≠ 0) (hw16 : w[78]? = some (Sum.inr (1, [Value.int (-16384), Value.int 16384, Value.int 0, Value.int 0]))) (hg17 : ((32 : Int32) - (xnlz (xlo b0))) = a3) (e18 : 16 ≠ h0) (e19 : 17 ≠ h0) (e20 : 18 ≠ h0) (hw21 : w[h0]? = some (Sum.inr (2, [Value.int 64, Value.int 0, Value.int 0, Value.int 0, Value.ref h1]))) (e22 : (((a3 + a1) - (64 : Int32)) - a1).toInt ≤ 0) (hg23 : ((a3 + a1) - ((a3 + a1) - (64 : Int32))) = 64) (e24 : 7 ≤ h0) (e25 : h0 ≠ 16) (e26 : h0 ≠ 17) (e27 : h0 ≠ 18) (hg28 : ((64 : Int32) - a3) = a4) (e29 : h0 ≠ h1) (e30 : 16 ≠ h1) (e31 : 17 ≠ h1) (e32 : 18 ≠ h1) (hw33 : w[h1]? = some (Sum.inr (3, [Value.ref h2, Value.int 0]))) (hg34 : (a3 + a4) = 64) (e35 : h0 ≠ h2) (e36 : 16 ≠ h2) (e37 : 17 ≠ h2) (e38 : 18 ≠ h2) (hw39 : w[h2]? = some (Sum.inl (0, 8, fun _ => Value.int 0))) (e40 : 0 ≤ a4.toInt) (e41 : 7 ≤ h2) (e42 : h2 ≠ h1) (e43 : h2 ≠ 17) (e44 : h2 ≠ 18) (e45 : 7 ≤ h1) (e46 : h1 ≠ h0) (e47 : h2 ≠ h0) (e48 : h1 ≠ h2) (e49 : (xbf 1 (xlo b0) (0 : Int32) ((32 : Int32) - a4)).toInt ≠ 0) (e50 : ((64 : Int32) - (xnlz (xbf 1 (xlo b0) (0 : Int32) ((32 : Int32) - a4)))).toInt ≤ 64) (e51 : h1 ≠ 78) (e52 : h2 ≠ 78) (e53 : h0 ≠ 78) (e54 : 16384 < (a3 + a1).toInt) (e55 : h1 ≠ 16) (e56 : h2 ≠ 16) (e57 : a2.toInt ≠ 0) (e58 : a2.toInt = 4) (e59 : 78 ≠ h0) : xRun (d + 5) 21 [Value.ref 7, Value.int a0, Value.long b0, Value.int a1, Value.int a2] w (.inl (some (Value.int 1))) (((((((((((w.set 16 (Sum.inr (4, [Value.int 0, Value.ref 17, Value.int 0, Value.int 0]))).set 18 (Sum.inl (0, 8, xup (xup (fun _ => Value.int 0) (0 : Int32).toInt.toNat (Value.int (xlo b0))) (1 : Int32).toInt.toNat (Value.int 0)))).set 17 (Sum.inr (3, [Value.ref 18, Value.int 2]))).set 17 (Sum.inr (3, [Value.ref 18, Value.int 1]))).set 16 (Sum.inr (4, [Value.int 0, Value.ref 17, Value.int a1, Value.int 0]))).set h0 (Sum.inr (2, [Value.int 64, Value.int 3, Value.int 0, Value.int (a3 + a1), Value.ref h1]))).set h2 (Sum.inl (0, 8, xup (xup (fun _ => Value.int 0) (1 : Int32).toInt.toNat (Value.int (xbf 1 (xlo b0) (0 : Int32) ((32 : Int32) - a4)))) (0 : Int32).toInt.toNat (Value.int (xbf 1 (xlo b0) (0 : Int32) ((0 : Int32) - a4)))))).set h1 (Sum.inr (3, [Value.ref h2, Value.int 2]))).set 78 (Sum.inr (1, [Value.int (-16384), Value.int 16384, Value.int 0, Value.int 2]))).set h0 (Sum.inr (2, [Value.int 64, Value.int 1, Value.int 0, Value.int (a3 + a1), Value.ref h1]))).set 78 (Sum.inr (1, [Value.int (-16384), Value.int 16384, Value.int 0, Value.int 3]))) := by
  refine xRun.of ?_
  refine i_21_0 (x := a0) rfl ?_
  refine i_21_1 (Nat.le_of_ble_eq_true rfl) (s_15_0 e0 e1) ?_
  refine i_21_4 (fun h => absurd h (by decide)) (fun _ => ?_)
  refine i_21_7 (x := a1) rfl ?_
  refine i_21_9 ?_
  refine i_21_11 (fun h => absurd e2 (Int.not_le.mpr h)) (fun _ => ?_)
  refine i_21_14 (x := a1) rfl ?_
  refine i_21_16 ?_
  refine i_21_18 (fun h => absurd e3 (Int.not_le.mpr h)) (fun _ => ?_)
  refine i_21_21 (x := a2) rfl ?_
  refine i_21_23 (Nat.le_of_ble_eq_true rfl) (s_22_0 e4 e5) ?_
  refine i_21_26 (fun _ => ?_) (fun h => absurd h (by decide))
  refine i_21_37 (x := 7) rfl ?_
  refine i_21_38 (v := Value.ref 8) hw6 rfl ?_
  refine i_21_41 (x := a0) rfl ?_
  refine i_21_42 (v := Value.ref h0) hw7 e0 e1 hg8 ?_
  refine i_21_43 (lv2 := [(6, Value.ref h0), (0, Value.ref 7), (1, Value.int a0), (2, Value.long b0), (4, Value.int a1), (5, Value.int a2)]) rfl ?_
  refine i_21_45 (x := b0) rfl ?_
  refine i_21_46 ?_
  refine i_21_47 (c := (lg_cmp b0 (0 : Int64))) rfl ?_
  refine i_21_48 (fun _ => ?_) (fun h => absurd e9 (fun g => g h))
  refine i_21_58 (x := 7) rfl ?_
  refine i_21_59 (v := Value.ref 16) hw6 rfl ?_
  refine i_21_62 (x := b0) rfl ?_
  refine i_21_63 ?_
  refine i_21_64 (c := (lg_cmp b0 (0 : Int64))) rfl ?_
  refine i_21_65 (fun _ => ?_) (fun h => absurd e10 (Int.not_le.mpr h))
  refine i_21_72 ?_
  refine i_21_73 (x := b0) rfl ?_
  refine i_21_74 ?_
  refine i_21_75 (c := (lg_cmp b0 (0 : Int64))) rfl ?_
  refine i_21_76 (fun _ => ?_) (fun h => absurd e10 (Int.not_le.mpr h))
  refine i_21_84 (x := b0) rfl ?_
  refine i_21_85 (x := a1) rfl ?_
  refine i_21_87 hw11 (Nat.le_of_ble_eq_true rfl) (s_24_0 hw11 hw12 hw13 hg14 e15) ?_
  refine i_21_90 (x := 7) rfl ?_
  refine i_21_91 (v := Value.ref 78) (xgn (by decide) (xgn (by decide) (xgn (by decide) (xgn (by decide) (xgn (by decide) hw6))))) rfl ?_
  refine i_21_94 (x := h0) rfl ?_
  refine i_21_96 (x := 7) rfl ?_
  refine i_21_97 (v := Value.ref 16) (xgn (by decide) (xgn (by decide) (xgn (by decide) (xgn (by decide) (xgn (by decide) hw6))))) rfl ?_
  refine i_21_100 (x := a2) rfl ?_
  refine i_21_102 (xgn (by decide) (xgn (by decide) (xgn (by decide) (xgn (by decide) (xgn (by decide) hw16))))) (Nat.le_of_ble_eq_true rfl) (s_27_1 (xgs (xgn (by decide) (xgn (by decide) (xgn (by decide) (xgs hw11))))) (xgn (by decide) (xgs (xgs (xgn (by decide) (xgn (by decide) hw12))))) (xgn (by decide) (xgn (by decide) (xgn (by decide) (xgs (xgn (by decide) hw13))))) (xup_n (by decide) xup_s) hg17 (xgn e18 (xgn e19 (xgn e19 (xgn e20 (xgn e18 hw21))))) (xgn (by decide) (xgn (by decide) (xgn (by decide) (xgn (by decide) (xgn (by decide) hw16))))) e22 hg23 e24 e25 e26 e27 hg28 e29 (xgn e30 (xgn e31 (xgn e31 (xgn e32 (xgn e30 hw33))))) hg34 e35 (xgn e36 (xgn e37 (xgn e37 (xgn e38 (xgn e36 hw39))))) e40 xup_s e41 e42 e43 e44 e45 e46 e47 e48 e49 e50 e51 e52 e53 e54 e55 e56 e57 e58 e59) ?_
  exact i_21_105 ⟨rfl, rfl⟩
theorem s_20_1 {d : Nat} {w : xW} {a0 : Int32} {b0 : Int64} {a1 : Int32} {a2 : Int32} {g0 : Nat → Value} {h0 : Nat} {a3 : Int32} {h1 : Nat} {a4 : Int32} {h2 : Nat} (hw0 : w[7]? = some (Sum.inr (0, [Value.ref 8, Value.ref 78, Value.ref 9, Value.ref 10, Value.ref 13, Value.ref 16, Value.ref 19, Value.ref 93, Value.ref 108, Value.ref 113, Value.ref 29, Value.int 0]))) (e1 : 0 ≤ a0.toInt) (e2 : a0.toInt < 16) (e3 : (-40000) ≤ a1.toInt) (e4 : a1.toInt ≤ 40000) (e5 : 0 ≤ a2.toInt) (e6 : a2.toInt ≤ 4) (hw7 : w[8]? = some (Sum.inl (4, 16, g0))) (hg8 : g0 a0.toInt.toNat = Value.ref h0) (e9 : (lg_cmp b0 (0 : Int64)).toInt ≠ 0) (e10 : 0 ≤ (lg_cmp b0 (0 : Int64)).toInt) (hw11 : w[16]? = some (Sum.inr (4, [Value.int 0, Value.ref 17, Value.int 0, Value.int 0]))) (hw12 : w[17]? = some (Sum.inr (3, [Value.ref 18, Value.int 0]))) (hw13 : w[18]? = some (Sum.inl (0, 8, fun _ => Value.int 0))) (hg14 : (xhi b0) = 0) (e15 : (xlo b0).toInt ≠ 0) (hw16 : w[78]? = some (Sum.inr (1, [Value.int (-16384), Value.int 16384, Value.int 0, Value.int 0]))) (hg17 : ((32 : Int32) - (xnlz (xlo b0))) = a3) (e18 : 16 ≠ h0) (e19 : 17 ≠ h0) (e20 : 18 ≠ h0) (hw21 : w[h0]? = some (Sum.inr (2, [Value.int 64, Value.int 0, Value.int 0, Value.int 0, Value.ref h1]))) (e22 : (((a3 + a1) - (64 : Int32)) - a1).toInt ≤ 0) (hg23 : ((a3 + a1) - ((a3 + a1) - (64 : Int32))) = 64) (e24 : 7 ≤ h0) (e25 : h0 ≠ 16) (e26 : h0 ≠ 17) (e27 : h0 ≠ 18) (hg28 : ((64 : Int32) - a3) = a4) (e29 : h0 ≠ h1) (e30 : 16 ≠ h1) (e31 : 17 ≠ h1) (e32 : 18 ≠ h1) (hw33 : w[h1]? = some (Sum.inr (3, [Value.ref h2, Value.int 0]))) (hg34 : (a3 + a4) = 64) (e35 : h0 ≠ h2) (e36 : 16 ≠ h2) (e37 : 17 ≠ h2) (e38 : 18 ≠ h2) (hw39 : w[h2]? = some (Sum.inl (0, 8, fun _ => Value.int 0))) (e40 : 0 ≤ a4.toInt) (e41 : 7 ≤ h2) (e42 : h2 ≠ h1) (e43 : h2 ≠ 17) (e44 : h2 ≠ 18) (e45 : 7 ≤ h1) (e46 : h1 ≠ h0) (e47 : h2 ≠ h0) (e48 : h1 ≠ h2) (e49 : (xbf 1 (xlo b0) (0 : Int32) ((32 : Int32) - a4)).toInt ≠ 0) (e50 : ((64 : Int32) - (xnlz (xbf 1 (xlo b0) (0 : Int32) ((32 : Int32) - a4)))).toInt ≤ 64) (e51 : h1 ≠ 78) (e52 : h2 ≠ 78) (e53 : h0 ≠ 78) (e54 : 16384 < (a3 + a1).toInt) (e55 : h1 ≠ 16) (e56 : h2 ≠ 16) (e57 : a2.toInt ≠ 0) (e58 : a2.toInt = 4) (e59 : 78 ≠ h0) (e60 : h0 ≠ 194) (e61 : h1 ≠ 194) (e62 : h2 ≠ 194) (hw63 : w[194]? = some (Sum.inl (3, 1, fun _ => Value.long 0))) : xRun (d + 6) 20 [Value.ref 7, Value.int a0, Value.long b0, Value.int a1, Value.int a2, Value.ref 194] w (.inl (some (Value.int 0))) ((((((((((((w.set 16 (Sum.inr (4, [Value.int 0, Value.ref 17, Value.int 0, Value.int 0]))).set 18 (Sum.inl (0, 8, xup (xup (fun _ => Value.int 0) (0 : Int32).toInt.toNat (Value.int (xlo b0))) (1 : Int32).toInt.toNat (Value.int 0)))).set 17 (Sum.inr (3, [Value.ref 18, Value.int 2]))).set 17 (Sum.inr (3, [Value.ref 18, Value.int 1]))).set 16 (Sum.inr (4, [Value.int 0, Value.ref 17, Value.int a1, Value.int 0]))).set h0 (Sum.inr (2, [Value.int 64, Value.int 3, Value.int 0, Value.int (a3 + a1), Value.ref h1]))).set h2 (Sum.inl (0, 8, xup (xup (fun _ => Value.int 0) (1 : Int32).toInt.toNat (Value.int (xbf 1 (xlo b0) (0 : Int32) ((32 : Int32) - a4)))) (0 : Int32).toInt.toNat (Value.int (xbf 1 (xlo b0) (0 : Int32) ((0 : Int32) - a4)))))).set h1 (Sum.inr (3, [Value.ref h2, Value.int 2]))).set 78 (Sum.inr (1, [Value.int (-16384), Value.int 16384, Value.int 0, Value.int 2]))).set h0 (Sum.inr (2, [Value.int 64, Value.int 1, Value.int 0, Value.int (a3 + a1), Value.ref h1]))).set 78 (Sum.inr (1, [Value.int (-16384), Value.int 16384, Value.int 0, Value.int 3]))).set 194 (Sum.inl (3, 1, xup (fun _ => Value.long 0) (0 : Int32).toInt.toNat (Value.long 1)))) := by
  refine xRun.of ?_
  refine i_20_0 (x := 194) rfl ?_
  refine i_20_2 ?_
  refine i_20_3 (x := 7) rfl ?_
  refine i_20_4 (x := a0) rfl ?_
  refine i_20_5 (x := b0) rfl ?_
  refine i_20_6 (x := a1) rfl ?_
  refine i_20_8 (x := a2) rfl ?_
  refine i_20_10 hw0 (Nat.le_of_ble_eq_true rfl) (s_21_1 e1 e2 e3 e4 e5 e6 hw0 hw7 hg8 e9 e10 hw11 hw12 hw13 hg14 e15 hw16 hg17 e18 e19 e20 hw21 e22 hg23 e24 e25 e26 e27 hg28 e29 e30 e31 e32 hw33 hg34 e35 e36 e37 e38 hw39 e40 e41 e42 e43 e44 e45 e46 e47 e48 e49 e50 e51 e52 e53 e54 e55 e56 e57 e58 e59) ?_
  refine i_20_13 (c := 1) (by decide) ?_
  refine i_20_14 (v := Value.long 1) (xgn (by decide) (xgn e60 (xgn (by decide) (xgn e61 (xgn e62 (xgn e60 (xgn (by decide) (xgn (by decide) (xgn (by decide) (xgn (by decide) (xgn (by decide) hw63))))))))))) (by decide) (by decide) (by decide) rfl ?_
  refine i_20_15 ?_
  refine i_20_22 ?_
  exact i_20_23 ⟨rfl, rfl⟩
theorem cn3_0_1 {d : Nat} {xs : Nat → Int32} {B K : Int32} (c0 : 0 ≤ (xs 1).toInt) (c1 : (xs 1).toInt < 16) (c2 : (-40000) ≤ (xs 4).toInt) (c3 : (xs 4).toInt ≤ 40000) (c4 : 0 ≤ (xs 5).toInt) (c5 : (xs 5).toInt ≤ 4) (c6 : (lg_cmp (xvv xs) (0 : Int64)).toInt ≠ 0) (c7 : 0 ≤ (lg_cmp (xvv xs) (0 : Int64)).toInt) (c8 : K.toInt = 64 - B.toInt) (c9 : 1 ≤ B.toInt) (c10 : B.toInt ≤ 32) (c11 : (xhi (xvv xs)).toInt = 0) (c12 : (xlo (xvv xs)).toInt ≠ 0) (c13 : (xnlz (xlo (xvv xs))).toInt = 32 - B.toInt) (c14 : (xbf 1 (xlo (xvv xs)) (0 : Int32) ((32 : Int32) - K)).toInt ≠ 0) (c15 : 16384 < (B + (xs 4)).toInt) (c16 : (xs 5).toInt ≠ 0) (c17 : (xs 5).toInt = 4) : ∃ w1, xRun (d + 18) 20 [Value.ref 7, Value.int (xs 1), Value.long (xvv xs), Value.int (xs 4), Value.int (xs 5), Value.ref 194] (W0 6 xs) (.inl (some (Value.int 0))) w1 ∧ xKp (W0 6 xs) w1 xPC ∧ w1[194]? = some (Sum.inl (3, 1, xup (fun _ => Value.long 0) (0 : Int32).toInt.toNat (Value.long 1))) := by
  have f0 : ((32 : Int32) - (xnlz (xlo (xvv xs)))).toInt = 32 - (xnlz (xlo (xvv xs))).toInt := xsub_g rfl rfl (by omega) (by omega)
  have f1 : (B + (xs 4)).toInt = B.toInt + (xs 4).toInt := xadd_i (by omega) (by omega)
  have f2 : ((B + (xs 4)) - (64 : Int32)).toInt = (B + (xs 4)).toInt - 64 := xsub_g rfl rfl (by omega) (by omega)
  have f3 : (((B + (xs 4)) - (64 : Int32)) - (xs 4)).toInt = ((B + (xs 4)) - (64 : Int32)).toInt - (xs 4).toInt := xsub_i (by omega) (by omega)
  have f4 : ((B + (xs 4)) - ((B + (xs 4)) - (64 : Int32))).toInt = (B + (xs 4)).toInt - ((B + (xs 4)) - (64 : Int32)).toInt := xsub_i (by omega) (by omega)
  have f5 : ((64 : Int32) - B).toInt = 64 - B.toInt := xsub_g rfl rfl (by omega) (by omega)
  have f6 : (B + K).toInt = B.toInt + K.toInt := xadd_i (by omega) (by omega)
  have f7 : 0 ≤ (xnlz (xbf 1 (xlo (xvv xs)) (0 : Int32) ((32 : Int32) - K))).toInt := (xnlz_b _).1
  have f8 : (xnlz (xbf 1 (xlo (xvv xs)) (0 : Int32) ((32 : Int32) - K))).toInt ≤ 32 := (xnlz_b _).2
  have f9 : ((64 : Int32) - (xnlz (xbf 1 (xlo (xvv xs)) (0 : Int32) ((32 : Int32) - K)))).toInt = 64 - (xnlz (xbf 1 (xlo (xvv xs)) (0 : Int32) ((32 : Int32) - K))).toInt := xsub_g rfl rfl (by omega) (by omega)
  refine ⟨(((((((((((((W0 6 xs).set 16 (Sum.inr (4, [Value.int 0, Value.ref 17, Value.int 0, Value.int 0]))).set 18 (Sum.inl (0, 8, xup (xup (fun _ => Value.int 0) (0 : Int32).toInt.toNat (Value.int (xlo (xvv xs)))) (1 : Int32).toInt.toNat (Value.int 0)))).set 17 (Sum.inr (3, [Value.ref 18, Value.int 2]))).set 17 (Sum.inr (3, [Value.ref 18, Value.int 1]))).set 16 (Sum.inr (4, [Value.int 0, Value.ref 17, Value.int (xs 4), Value.int 0]))).set (30 + 3 * (xs 1).toInt.toNat) (Sum.inr (2, [Value.int 64, Value.int 3, Value.int 0, Value.int (B + (xs 4)), Value.ref (31 + 3 * (xs 1).toInt.toNat)]))).set (32 + 3 * (xs 1).toInt.toNat) (Sum.inl (0, 8, xup (xup (fun _ => Value.int 0) (1 : Int32).toInt.toNat (Value.int (xbf 1 (xlo (xvv xs)) (0 : Int32) ((32 : Int32) - K)))) (0 : Int32).toInt.toNat (Value.int (xbf 1 (xlo (xvv xs)) (0 : Int32) ((0 : Int32) - K)))))).set (31 + 3 * (xs 1).toInt.toNat) (Sum.inr (3, [Value.ref (32 + 3 * (xs 1).toInt.toNat), Value.int 2]))).set 78 (Sum.inr (1, [Value.int (-16384), Value.int 16384, Value.int 0, Value.int 2]))).set (30 + 3 * (xs 1).toInt.toNat) (Sum.inr (2, [Value.int 64, Value.int 1, Value.int 0, Value.int (B + (xs 4)), Value.ref (31 + 3 * (xs 1).toInt.toNat)]))).set 78 (Sum.inr (1, [Value.int (-16384), Value.int 16384, Value.int 0, Value.int 3]))).set 194 (Sum.inl (3, 1, xup (fun _ => Value.long 0) (0 : Int32).toInt.toNat (Value.long 1)))), (s_20_1 W0_7 (by omega) (by omega) (by omega) (by omega) (by omega) (by omega) W0_8 (greg_at (by omega)) (by omega) (by omega) W0_16 W0_17 W0_18 (show (xhi (xvv xs)) = 0 from (xge_c (n := 0) (by omega) rfl)) (by omega) W0_78 (show ((32 : Int32) - (xnlz (xlo (xvv xs)))) = B from (xge_i (by omega))) (by omega) (by omega) (by omega) (W0_reg (by omega)) (by omega) (show ((B + (xs 4)) - ((B + (xs 4)) - (64 : Int32))) = 64 from (xge_c (n := 64) (by omega) rfl)) (by omega) (by omega) (by omega) (by omega) (show ((64 : Int32) - B) = K from (xge_i (by omega))) (by omega) (by omega) (by omega) (by omega) (W0_man (by omega)) (show (B + K) = 64 from (xge_c (n := 64) (by omega) rfl)) (by omega) (by omega) (by omega) (by omega) (W0_mw (by omega)) (by omega) (by omega) (by omega) (by omega) (by omega) (by omega) (by omega) (by omega) (by omega) (by omega) (by omega) (by omega) (by omega) (by omega) (by omega) (by omega) (by omega) (by omega) (by omega) (by omega) (by omega) (by omega) (by omega) W0_194), ?_, xgs (xgn (by decide) (xgn (by omega) (xgn (by decide) (xgn (by omega) (xgn (by omega) (xgn (by omega) (xgn (by decide) (xgn (by decide) (xgn (by decide) (xgn (by decide) (xgn (by decide) W0_194)))))))))))⟩
  refine xKp.set ?_ (fun h hh => by unfold xPC at hh; omega) (xgn (by decide) (xgn (by omega) (xgn (by decide) (xgn (by omega) (xgn (by omega) (xgn (by omega) (xgn (by decide) (xgn (by decide) (xgn (by decide) (xgn (by decide) (xgn (by decide) W0_194))))))))))) xcs_a
  refine xKp.set ?_ (fun h hh => by unfold xPC at hh; omega) (xgn (by omega) (xgs (xgn (by omega) (xgn (by omega) (xgn (by omega) (xgn (by decide) (xgn (by decide) (xgn (by decide) (xgn (by decide) (xgn (by decide) W0_78)))))))))) xcs_o
  refine xKp.set ?_ (fun h hh => by unfold xPC at hh; omega) (xgn (by omega) (xgn (by omega) (xgn (by omega) (xgs (xgn (by omega) (xgn (by omega) (xgn (by omega) (xgn (by omega) (xgn (by omega) (W0_reg (by omega))))))))))) xcs_o
  refine xKp.set ?_ (fun h hh => by unfold xPC at hh; omega) (xgn (by omega) (xgn (by omega) (xgn (by omega) (xgn (by decide) (xgn (by decide) (xgn (by decide) (xgn (by decide) (xgn (by decide) W0_78)))))))) xcs_o
  refine xKp.set ?_ (fun h hh => by unfold xPC at hh; omega) (xgn (by omega) (xgn (by omega) (xgn (by omega) (xgn (by omega) (xgn (by omega) (xgn (by omega) (xgn (by omega) (W0_man (by omega))))))))) xcs_o
  refine xKp.set ?_ (fun h hh => by unfold xPC at hh; omega) (xgn (by omega) (xgn (by omega) (xgn (by omega) (xgn (by omega) (xgn (by omega) (xgn (by omega) (W0_mw (by omega)))))))) xcs_a
  refine xKp.set ?_ (fun h hh => by unfold xPC at hh; omega) (xgn (by omega) (xgn (by omega) (xgn (by omega) (xgn (by omega) (xgn (by omega) (W0_reg (by omega))))))) xcs_o
  refine xKp.set ?_ (fun h hh => by unfold xPC at hh; omega) (xgn (by decide) (xgn (by decide) (xgn (by decide) (xgs W0_16)))) xcs_o
  refine xKp.set ?_ (fun h hh => by unfold xPC at hh; omega) (xgs (xgn (by decide) (xgn (by decide) W0_17))) xcs_o
  refine xKp.set ?_ (fun h hh => by unfold xPC at hh; omega) (xgn (by decide) (xgn (by decide) W0_17)) xcs_o
  refine xKp.set ?_ (fun h hh => by unfold xPC at hh; omega) (xgn (by decide) W0_18) xcs_a
  refine xKp.set ?_ (fun h hh => by unfold xPC at hh; omega) (W0_16) xcs_o
  exact xKp.refl
theorem s_37_1 {d : Nat} {w : xW} {a0 : Int32} (e0 : a0.toInt ≠ 4) (e1 : a0.toInt = 2) : xRun d 37 [Value.int a0, Value.int 0] w (.inl (some (Value.int 1))) w := by
  refine xRun.of ?_
  refine i_37_0 (x := a0) rfl ?_
  refine i_37_1 ?_
  refine i_37_2 (fun h => absurd e0 (fun g => g h)) (fun _ => ?_)
  refine i_37_5 (x := a0) rfl ?_
  refine i_37_6 ?_
  refine i_37_7 (fun h => absurd e1 h) (fun _ => ?_)
  refine i_37_10 (x := 0) rfl ?_
  refine i_37_11 (fun _ => ?_) (fun h => absurd h (by decide))
  refine i_37_23 ?_
  refine i_37_24 ?_
  exact i_37_28 rfl ⟨rfl, rfl⟩
theorem s_46_2 {d : Nat} {w : xW} {h0 : Nat} {a0 : Int32} {a1 : Int32} {h1 : Nat} (hw0 : w[78]? = some (Sum.inr (1, [Value.int (-16384), Value.int 16384, Value.int 0, Value.int 0]))) (e1 : a0.toInt ≠ 0) (e2 : a0.toInt ≠ 4) (e3 : a0.toInt = 2) (e4 : 78 ≠ h0) (hw5 : w[h0]? = some (Sum.inr (2, [Value.int 64, Value.int 3, Value.int 0, Value.int a1, Value.ref h1]))) (e6 : 7 ≤ h0) : xRun (d + 2) 46 [Value.ref 78, Value.ref h0, Value.int 0, Value.int a0] w (.inl (some (Value.int 1))) ((w.set 78 (Sum.inr (1, [Value.int (-16384), Value.int 16384, Value.int 0, Value.int 2]))).set h0 (Sum.inr (2, [Value.int 64, Value.int 1, Value.int 0, Value.int a1, Value.ref h1]))) := by
  refine xRun.of ?_
  refine i_46_0 (x := 78) rfl ?_
  refine i_46_1 rfl ?_
  refine i_46_2 (v := Value.int 0) hw0 rfl ?_
  refine i_46_5 ?_
  refine i_46_6 (c := 2) (by decide) ?_
  refine i_46_7 (fs2 := [Value.int (-16384), Value.int 16384, Value.int 0, Value.int 2]) hw0 (Nat.le_of_ble_eq_true rfl) rfl (by decide) ?_
  refine i_46_10 (x := a0) rfl ?_
  refine i_46_11 (fun h => absurd e1 (fun g => g h)) (fun _ => ?_)
  refine i_46_14 (x := a0) rfl ?_
  refine i_46_15 (x := 0) rfl ?_
  refine i_46_16 (Nat.le_of_ble_eq_true rfl) (s_37_1 e2 e3) ?_
  refine i_46_19 (fun h => absurd h (by decide)) (fun _ => ?_)
  refine i_46_22 (x := h0) rfl ?_
  refine i_46_23 (x := 0) rfl ?_
  refine i_46_24 (xgn e4 hw5) (Nat.le_of_ble_eq_true rfl) (s_47_0 (xgn e4 hw5) e6) ?_
  refine i_46_27 rfl ?_
  refine i_46_28 ?_
  exact i_46_29 ⟨rfl, rfl⟩
theorem s_27_2 {d : Nat} {w : xW} {h0 : Nat} {a0 : Int32} {a1 : Int32} {g0 : Nat → Value} {a2 : Int32} {a3 : Int32} {h1 : Nat} {a4 : Int32} {h2 : Nat} (hw0 : w[16]? = some (Sum.inr (4, [Value.int 0, Value.ref 17, Value.int a1, Value.int 0]))) (hw1 : w[17]? = some (Sum.inr (3, [Value.ref 18, Value.int 1]))) (hw2 : w[18]? = some (Sum.inl (0, 8, g0))) (hg3 : g0 (0 : Int32).toInt.toNat = Value.int a2) (hg4 : ((32 : Int32) - (xnlz a2)) = a3) (hw5 : w[h0]? = some (Sum.inr (2, [Value.int 64, Value.int 0, Value.int 0, Value.int 0, Value.ref h1]))) (hw6 : w[78]? = some (Sum.inr (1, [Value.int (-16384), Value.int 16384, Value.int 0, Value.int 0]))) (e7 : (((a3 + a1) - (64 : Int32)) - a1).toInt ≤ 0) (hg8 : ((a3 + a1) - ((a3 + a1) - (64 : Int32))) = 64) (e9 : 7 ≤ h0) (e10 : h0 ≠ 16) (e11 : h0 ≠ 17) (e12 : h0 ≠ 18) (hg13 : ((64 : Int32) - a3) = a4) (e14 : h0 ≠ h1) (hw15 : w[h1]? = some (Sum.inr (3, [Value.ref h2, Value.int 0]))) (hg16 : (a3 + a4) = 64) (e17 : h0 ≠ h2) (hw18 : w[h2]? = some (Sum.inl (0, 8, fun _ => Value.int 0))) (e19 : 0 ≤ a4.toInt) (hg20 : g0 (1 : Int32).toInt.toNat = Value.int 0) (e21 : 7 ≤ h2) (e22 : h2 ≠ h1) (e23 : h2 ≠ 17) (e24 : h2 ≠ 18) (e25 : 7 ≤ h1) (e26 : h1 ≠ h0) (e27 : h2 ≠ h0) (e28 : h1 ≠ h2) (e29 : (xbf 1 a2 (0 : Int32) ((32 : Int32) - a4)).toInt ≠ 0) (e30 : ((64 : Int32) - (xnlz (xbf 1 a2 (0 : Int32) ((32 : Int32) - a4)))).toInt ≤ 64) (e31 : h1 ≠ 78) (e32 : h2 ≠ 78) (e33 : h0 ≠ 78) (e34 : 16384 < (a3 + a1).toInt) (e35 : h1 ≠ 16) (e36 : h2 ≠ 16) (e37 : a0.toInt ≠ 0) (e38 : a0.toInt ≠ 4) (e39 : a0.toInt = 2) (e40 : 78 ≠ h0) : xRun (d + 4) 27 [Value.ref 78, Value.ref h0, Value.ref 16, Value.int a0] w (.inl (some (Value.int 1))) ((((((w.set h0 (Sum.inr (2, [Value.int 64, Value.int 3, Value.int 0, Value.int (a3 + a1), Value.ref h1]))).set h2 (Sum.inl (0, 8, xup (xup (fun _ => Value.int 0) (1 : Int32).toInt.toNat (Value.int (xbf 1 a2 (0 : Int32) ((32 : Int32) - a4)))) (0 : Int32).toInt.toNat (Value.int (xbf 1 a2 (0 : Int32) ((0 : Int32) - a4)))))).set h1 (Sum.inr (3, [Value.ref h2, Value.int 2]))).set 78 (Sum.inr (1, [Value.int (-16384), Value.int 16384, Value.int 0, Value.int 2]))).set h0 (Sum.inr (2, [Value.int 64, Value.int 1, Value.int 0, Value.int (a3 + a1), Value.ref h1]))).set 78 (Sum.inr (1, [Value.int (-16384), Value.int 16384, Value.int 0, Value.int 3]))) := by
  refine xRun.of ?_
  refine i_27_0 (x := 16) rfl ?_
  refine i_27_1 hw0 (Nat.le_of_ble_eq_true rfl) (s_28_0 hw0 hw1 hw2 hg3 hg4) ?_
  refine i_27_4 (lv2 := [(4, Value.int (a3 + a1)), (0, Value.ref 78), (1, Value.ref h0), (2, Value.ref 16), (3, Value.int a0)]) rfl ?_
  refine i_27_6 (x := 78) rfl ?_
  refine i_27_7 (x := (a3 + a1)) rfl ?_
  refine i_27_9 (x := h0) rfl ?_
  refine i_27_10 (v := Value.int 64) hw5 rfl ?_
  refine i_27_13 hw6 (Nat.le_of_ble_eq_true rfl) (s_30_0 hw6) ?_
  refine i_27_16 (lv2 := [(5, Value.int ((a3 + a1) - (64 : Int32))), (4, Value.int (a3 + a1)), (0, Value.ref 78), (1, Value.ref h0), (2, Value.ref 16), (3, Value.int a0)]) rfl ?_
  refine i_27_18 (x := 16) rfl ?_
  refine i_27_19 (x := ((a3 + a1) - (64 : Int32))) rfl ?_
  refine i_27_21 (x := a0) rfl ?_
  refine i_27_22 hw0 (Nat.le_of_ble_eq_true rfl) (s_31_0 hw0 hw1 e7) ?_
  refine i_27_25 (lv2 := [(6, Value.int 0), (5, Value.int ((a3 + a1) - (64 : Int32))), (4, Value.int (a3 + a1)), (0, Value.ref 78), (1, Value.ref h0), (2, Value.ref 16), (3, Value.int a0)]) rfl ?_
  refine i_27_27 (x := 16) rfl ?_
  refine i_27_28 (x := ((a3 + a1) - (64 : Int32))) rfl ?_
  refine i_27_30 hw0 (Nat.le_of_ble_eq_true rfl) (s_32_0 hw0 hw1 e7) ?_
  refine i_27_33 (fun h => absurd h (by decide)) (fun _ => ?_)
  refine i_27_36 ?_
  refine i_27_37 ?_
  refine i_27_50 (lv2 := [(7, Value.int 0), (6, Value.int 0), (5, Value.int ((a3 + a1) - (64 : Int32))), (4, Value.int (a3 + a1)), (0, Value.ref 78), (1, Value.ref h0), (2, Value.ref 16), (3, Value.int a0)]) rfl ?_
  refine i_27_52 (x := h0) rfl ?_
  refine i_27_53 (x := 16) rfl ?_
  refine i_27_54 (x := ((a3 + a1) - (64 : Int32))) rfl ?_
  refine i_27_56 (x := 0) rfl ?_
  refine i_27_58 hw5 (Nat.le_of_ble_eq_true rfl) (s_38_0 hw0 hw1 hw2 hg3 hg4 hg8 hw5 e9 e10 e11 e12 hg13 e14 hw15 hg16 e17 hw18 e19 hg20 e21 e22 e23 e24 e25 e26 e27 e28 e29 e30) ?_
  refine i_27_61 (x := h0) rfl ?_
  refine i_27_62 (v := Value.int 3) (xgn e26 (xgn e27 (xgs hw5))) rfl ?_
  refine i_27_65 ?_
  refine i_27_66 (fun h => absurd h (by decide)) (fun _ => ?_)
  refine i_27_69 (x := h0) rfl ?_
  refine i_27_70 (v := Value.int (a3 + a1)) (xgn e26 (xgn e27 (xgs hw5))) rfl ?_
  refine i_27_73 (x := 78) rfl ?_
  refine i_27_74 (v := Value.int 16384) (xgn e31 (xgn e32 (xgn e33 hw6))) rfl ?_
  refine i_27_77 (fun h => absurd e34 (Int.not_lt.mpr h)) (fun _ => ?_)
  refine i_27_80 (x := 78) rfl ?_
  refine i_27_81 (x := h0) rfl ?_
  refine i_27_82 (x := 16) rfl ?_
  refine i_27_83 (v := Value.int 0) (xgn e35 (xgn e36 (xgn e10 hw0))) rfl ?_
  refine i_27_86 (x := a0) rfl ?_
  refine i_27_87 (xgn e31 (xgn e32 (xgn e33 hw6))) (Nat.le_of_ble_eq_true rfl) (s_46_2 (xgn e31 (xgn e32 (xgn e33 hw6))) e37 e38 e39 e40 (xgn e26 (xgn e27 (xgs hw5))) e9) ?_
  refine i_27_90 (lv2 := [(7, Value.int 1), (6, Value.int 0), (5, Value.int ((a3 + a1) - (64 : Int32))), (4, Value.int (a3 + a1)), (0, Value.ref 78), (1, Value.ref h0), (2, Value.ref 16), (3, Value.int a0)]) rfl ?_
  refine i_27_92 ?_
  refine i_27_164 (x := 1) rfl ?_
  refine i_27_166 (fun h => absurd h (by decide)) (fun _ => ?_)
  refine i_27_169 (x := 78) rfl ?_
  refine i_27_170 rfl ?_
  refine i_27_171 (v := Value.int 2) (xgn e33 (xgs (xgn e31 (xgn e32 (xgn e33 hw6))))) rfl ?_
  refine i_27_174 ?_
  refine i_27_175 (c := 3) (by decide) ?_
  refine i_27_176 (fs2 := [Value.int (-16384), Value.int 16384, Value.int 0, Value.int 3]) (xgn e33 (xgs (xgn e31 (xgn e32 (xgn e33 hw6))))) (Nat.le_of_ble_eq_true rfl) rfl (by decide) ?_
  refine i_27_179 (x := 16) rfl ?_
  refine i_27_180 (v := Value.int 0) (xgn (by decide) (xgn e10 (xgn (by decide) (xgn e35 (xgn e36 (xgn e10 hw0)))))) rfl ?_
  refine i_27_183 (fun _ => ?_) (fun h => absurd h (by decide))
  refine i_27_192 (x := 1) rfl ?_
  exact i_27_194 ⟨rfl, rfl⟩
theorem s_21_2 {d : Nat} {w : xW} {a0 : Int32} {b0 : Int64} {a1 : Int32} {a2 : Int32} {g0 : Nat → Value} {h0 : Nat} {a3 : Int32} {h1 : Nat} {a4 : Int32} {h2 : Nat} (e0 : 0 ≤ a0.toInt) (e1 : a0.toInt < 16) (e2 : (-40000) ≤ a1.toInt) (e3 : a1.toInt ≤ 40000) (e4 : 0 ≤ a2.toInt) (e5 : a2.toInt ≤ 4) (hw6 : w[7]? = some (Sum.inr (0, [Value.ref 8, Value.ref 78, Value.ref 9, Value.ref 10, Value.ref 13, Value.ref 16, Value.ref 19, Value.ref 93, Value.ref 108, Value.ref 113, Value.ref 29, Value.int 0]))) (hw7 : w[8]? = some (Sum.inl (4, 16, g0))) (hg8 : g0 a0.toInt.toNat = Value.ref h0) (e9 : (lg_cmp b0 (0 : Int64)).toInt ≠ 0) (e10 : 0 ≤ (lg_cmp b0 (0 : Int64)).toInt) (hw11 : w[16]? = some (Sum.inr (4, [Value.int 0, Value.ref 17, Value.int 0, Value.int 0]))) (hw12 : w[17]? = some (Sum.inr (3, [Value.ref 18, Value.int 0]))) (hw13 : w[18]? = some (Sum.inl (0, 8, fun _ => Value.int 0))) (hg14 : (xhi b0) = 0) (e15 : (xlo b0).toInt ≠ 0) (hw16 : w[78]? = some (Sum.inr (1, [Value.int (-16384), Value.int 16384, Value.int 0, Value.int 0]))) (hg17 : ((32 : Int32) - (xnlz (xlo b0))) = a3) (e18 : 16 ≠ h0) (e19 : 17 ≠ h0) (e20 : 18 ≠ h0) (hw21 : w[h0]? = some (Sum.inr (2, [Value.int 64, Value.int 0, Value.int 0, Value.int 0, Value.ref h1]))) (e22 : (((a3 + a1) - (64 : Int32)) - a1).toInt ≤ 0) (hg23 : ((a3 + a1) - ((a3 + a1) - (64 : Int32))) = 64) (e24 : 7 ≤ h0) (e25 : h0 ≠ 16) (e26 : h0 ≠ 17) (e27 : h0 ≠ 18) (hg28 : ((64 : Int32) - a3) = a4) (e29 : h0 ≠ h1) (e30 : 16 ≠ h1) (e31 : 17 ≠ h1) (e32 : 18 ≠ h1) (hw33 : w[h1]? = some (Sum.inr (3, [Value.ref h2, Value.int 0]))) (hg34 : (a3 + a4) = 64) (e35 : h0 ≠ h2) (e36 : 16 ≠ h2) (e37 : 17 ≠ h2) (e38 : 18 ≠ h2) (hw39 : w[h2]? = some (Sum.inl (0, 8, fun _ => Value.int 0))) (e40 : 0 ≤ a4.toInt) (e41 : 7 ≤ h2) (e42 : h2 ≠ h1) (e43 : h2 ≠ 17) (e44 : h2 ≠ 18) (e45 : 7 ≤ h1) (e46 : h1 ≠ h0) (e47 : h2 ≠ h0) (e48 : h1 ≠ h2) (e49 : (xbf 1 (xlo b0) (0 : Int32) ((32 : Int32) - a4)).toInt ≠ 0) (e50 : ((64 : Int32) - (xnlz (xbf 1 (xlo b0) (0 : Int32) ((32 : Int32) - a4)))).toInt ≤ 64) (e51 : h1 ≠ 78) (e52 : h2 ≠ 78) (e53 : h0 ≠ 78) (e54 : 16384 < (a3 + a1).toInt) (e55 : h1 ≠ 16) (e56 : h2 ≠ 16) (e57 : a2.toInt ≠ 0) (e58 : a2.toInt ≠ 4) (e59 : a2.toInt = 2) (e60 : 78 ≠ h0) : xRun (d + 5) 21 [Value.ref 7, Value.int a0, Value.long b0, Value.int a1, Value.int a2] w (.inl (some (Value.int 1))) (((((((((((w.set 16 (Sum.inr (4, [Value.int 0, Value.ref 17, Value.int 0, Value.int 0]))).set 18 (Sum.inl (0, 8, xup (xup (fun _ => Value.int 0) (0 : Int32).toInt.toNat (Value.int (xlo b0))) (1 : Int32).toInt.toNat (Value.int 0)))).set 17 (Sum.inr (3, [Value.ref 18, Value.int 2]))).set 17 (Sum.inr (3, [Value.ref 18, Value.int 1]))).set 16 (Sum.inr (4, [Value.int 0, Value.ref 17, Value.int a1, Value.int 0]))).set h0 (Sum.inr (2, [Value.int 64, Value.int 3, Value.int 0, Value.int (a3 + a1), Value.ref h1]))).set h2 (Sum.inl (0, 8, xup (xup (fun _ => Value.int 0) (1 : Int32).toInt.toNat (Value.int (xbf 1 (xlo b0) (0 : Int32) ((32 : Int32) - a4)))) (0 : Int32).toInt.toNat (Value.int (xbf 1 (xlo b0) (0 : Int32) ((0 : Int32) - a4)))))).set h1 (Sum.inr (3, [Value.ref h2, Value.int 2]))).set 78 (Sum.inr (1, [Value.int (-16384), Value.int 16384, Value.int 0, Value.int 2]))).set h0 (Sum.inr (2, [Value.int 64, Value.int 1, Value.int 0, Value.int (a3 + a1), Value.ref h1]))).set 78 (Sum.inr (1, [Value.int (-16384), Value.int 16384, Value.int 0, Value.int 3]))) := by
  refine xRun.of ?_
  refine i_21_0 (x := a0) rfl ?_
  refine i_21_1 (Nat.le_of_ble_eq_true rfl) (s_15_0 e0 e1) ?_
  refine i_21_4 (fun h => absurd h (by decide)) (fun _ => ?_)
  refine i_21_7 (x := a1) rfl ?_
  refine i_21_9 ?_
  refine i_21_11 (fun h => absurd e2 (Int.not_le.mpr h)) (fun _ => ?_)
  refine i_21_14 (x := a1) rfl ?_
  refine i_21_16 ?_
  refine i_21_18 (fun h => absurd e3 (Int.not_le.mpr h)) (fun _ => ?_)
  refine i_21_21 (x := a2) rfl ?_
  refine i_21_23 (Nat.le_of_ble_eq_true rfl) (s_22_0 e4 e5) ?_
  refine i_21_26 (fun _ => ?_) (fun h => absurd h (by decide))
  refine i_21_37 (x := 7) rfl ?_
  refine i_21_38 (v := Value.ref 8) hw6 rfl ?_
  refine i_21_41 (x := a0) rfl ?_
  refine i_21_42 (v := Value.ref h0) hw7 e0 e1 hg8 ?_
  refine i_21_43 (lv2 := [(6, Value.ref h0), (0, Value.ref 7), (1, Value.int a0), (2, Value.long b0), (4, Value.int a1), (5, Value.int a2)]) rfl ?_
  refine i_21_45 (x := b0) rfl ?_
  refine i_21_46 ?_
  refine i_21_47 (c := (lg_cmp b0 (0 : Int64))) rfl ?_
  refine i_21_48 (fun _ => ?_) (fun h => absurd e9 (fun g => g h))
  refine i_21_58 (x := 7) rfl ?_
  refine i_21_59 (v := Value.ref 16) hw6 rfl ?_
  refine i_21_62 (x := b0) rfl ?_
  refine i_21_63 ?_
  refine i_21_64 (c := (lg_cmp b0 (0 : Int64))) rfl ?_
  refine i_21_65 (fun _ => ?_) (fun h => absurd e10 (Int.not_le.mpr h))
  refine i_21_72 ?_
  refine i_21_73 (x := b0) rfl ?_
  refine i_21_74 ?_
  refine i_21_75 (c := (lg_cmp b0 (0 : Int64))) rfl ?_
  refine i_21_76 (fun _ => ?_) (fun h => absurd e10 (Int.not_le.mpr h))
  refine i_21_84 (x := b0) rfl ?_
  refine i_21_85 (x := a1) rfl ?_
  refine i_21_87 hw11 (Nat.le_of_ble_eq_true rfl) (s_24_0 hw11 hw12 hw13 hg14 e15) ?_
  refine i_21_90 (x := 7) rfl ?_
  refine i_21_91 (v := Value.ref 78) (xgn (by decide) (xgn (by decide) (xgn (by decide) (xgn (by decide) (xgn (by decide) hw6))))) rfl ?_
  refine i_21_94 (x := h0) rfl ?_
  refine i_21_96 (x := 7) rfl ?_
  refine i_21_97 (v := Value.ref 16) (xgn (by decide) (xgn (by decide) (xgn (by decide) (xgn (by decide) (xgn (by decide) hw6))))) rfl ?_
  refine i_21_100 (x := a2) rfl ?_
  refine i_21_102 (xgn (by decide) (xgn (by decide) (xgn (by decide) (xgn (by decide) (xgn (by decide) hw16))))) (Nat.le_of_ble_eq_true rfl) (s_27_2 (xgs (xgn (by decide) (xgn (by decide) (xgn (by decide) (xgs hw11))))) (xgn (by decide) (xgs (xgs (xgn (by decide) (xgn (by decide) hw12))))) (xgn (by decide) (xgn (by decide) (xgn (by decide) (xgs (xgn (by decide) hw13))))) (xup_n (by decide) xup_s) hg17 (xgn e18 (xgn e19 (xgn e19 (xgn e20 (xgn e18 hw21))))) (xgn (by decide) (xgn (by decide) (xgn (by decide) (xgn (by decide) (xgn (by decide) hw16))))) e22 hg23 e24 e25 e26 e27 hg28 e29 (xgn e30 (xgn e31 (xgn e31 (xgn e32 (xgn e30 hw33))))) hg34 e35 (xgn e36 (xgn e37 (xgn e37 (xgn e38 (xgn e36 hw39))))) e40 xup_s e41 e42 e43 e44 e45 e46 e47 e48 e49 e50 e51 e52 e53 e54 e55 e56 e57 e58 e59 e60) ?_
  exact i_21_105 ⟨rfl, rfl⟩
theorem s_20_2 {d : Nat} {w : xW} {a0 : Int32} {b0 : Int64} {a1 : Int32} {a2 : Int32} {g0 : Nat → Value} {h0 : Nat} {a3 : Int32} {h1 : Nat} {a4 : Int32} {h2 : Nat} (hw0 : w[7]? = some (Sum.inr (0, [Value.ref 8, Value.ref 78, Value.ref 9, Value.ref 10, Value.ref 13, Value.ref 16, Value.ref 19, Value.ref 93, Value.ref 108, Value.ref 113, Value.ref 29, Value.int 0]))) (e1 : 0 ≤ a0.toInt) (e2 : a0.toInt < 16) (e3 : (-40000) ≤ a1.toInt) (e4 : a1.toInt ≤ 40000) (e5 : 0 ≤ a2.toInt) (e6 : a2.toInt ≤ 4) (hw7 : w[8]? = some (Sum.inl (4, 16, g0))) (hg8 : g0 a0.toInt.toNat = Value.ref h0) (e9 : (lg_cmp b0 (0 : Int64)).toInt ≠ 0) (e10 : 0 ≤ (lg_cmp b0 (0 : Int64)).toInt) (hw11 : w[16]? = some (Sum.inr (4, [Value.int 0, Value.ref 17, Value.int 0, Value.int 0]))) (hw12 : w[17]? = some (Sum.inr (3, [Value.ref 18, Value.int 0]))) (hw13 : w[18]? = some (Sum.inl (0, 8, fun _ => Value.int 0))) (hg14 : (xhi b0) = 0) (e15 : (xlo b0).toInt ≠ 0) (hw16 : w[78]? = some (Sum.inr (1, [Value.int (-16384), Value.int 16384, Value.int 0, Value.int 0]))) (hg17 : ((32 : Int32) - (xnlz (xlo b0))) = a3) (e18 : 16 ≠ h0) (e19 : 17 ≠ h0) (e20 : 18 ≠ h0) (hw21 : w[h0]? = some (Sum.inr (2, [Value.int 64, Value.int 0, Value.int 0, Value.int 0, Value.ref h1]))) (e22 : (((a3 + a1) - (64 : Int32)) - a1).toInt ≤ 0) (hg23 : ((a3 + a1) - ((a3 + a1) - (64 : Int32))) = 64) (e24 : 7 ≤ h0) (e25 : h0 ≠ 16) (e26 : h0 ≠ 17) (e27 : h0 ≠ 18) (hg28 : ((64 : Int32) - a3) = a4) (e29 : h0 ≠ h1) (e30 : 16 ≠ h1) (e31 : 17 ≠ h1) (e32 : 18 ≠ h1) (hw33 : w[h1]? = some (Sum.inr (3, [Value.ref h2, Value.int 0]))) (hg34 : (a3 + a4) = 64) (e35 : h0 ≠ h2) (e36 : 16 ≠ h2) (e37 : 17 ≠ h2) (e38 : 18 ≠ h2) (hw39 : w[h2]? = some (Sum.inl (0, 8, fun _ => Value.int 0))) (e40 : 0 ≤ a4.toInt) (e41 : 7 ≤ h2) (e42 : h2 ≠ h1) (e43 : h2 ≠ 17) (e44 : h2 ≠ 18) (e45 : 7 ≤ h1) (e46 : h1 ≠ h0) (e47 : h2 ≠ h0) (e48 : h1 ≠ h2) (e49 : (xbf 1 (xlo b0) (0 : Int32) ((32 : Int32) - a4)).toInt ≠ 0) (e50 : ((64 : Int32) - (xnlz (xbf 1 (xlo b0) (0 : Int32) ((32 : Int32) - a4)))).toInt ≤ 64) (e51 : h1 ≠ 78) (e52 : h2 ≠ 78) (e53 : h0 ≠ 78) (e54 : 16384 < (a3 + a1).toInt) (e55 : h1 ≠ 16) (e56 : h2 ≠ 16) (e57 : a2.toInt ≠ 0) (e58 : a2.toInt ≠ 4) (e59 : a2.toInt = 2) (e60 : 78 ≠ h0) (e61 : h0 ≠ 194) (e62 : h1 ≠ 194) (e63 : h2 ≠ 194) (hw64 : w[194]? = some (Sum.inl (3, 1, fun _ => Value.long 0))) : xRun (d + 6) 20 [Value.ref 7, Value.int a0, Value.long b0, Value.int a1, Value.int a2, Value.ref 194] w (.inl (some (Value.int 0))) ((((((((((((w.set 16 (Sum.inr (4, [Value.int 0, Value.ref 17, Value.int 0, Value.int 0]))).set 18 (Sum.inl (0, 8, xup (xup (fun _ => Value.int 0) (0 : Int32).toInt.toNat (Value.int (xlo b0))) (1 : Int32).toInt.toNat (Value.int 0)))).set 17 (Sum.inr (3, [Value.ref 18, Value.int 2]))).set 17 (Sum.inr (3, [Value.ref 18, Value.int 1]))).set 16 (Sum.inr (4, [Value.int 0, Value.ref 17, Value.int a1, Value.int 0]))).set h0 (Sum.inr (2, [Value.int 64, Value.int 3, Value.int 0, Value.int (a3 + a1), Value.ref h1]))).set h2 (Sum.inl (0, 8, xup (xup (fun _ => Value.int 0) (1 : Int32).toInt.toNat (Value.int (xbf 1 (xlo b0) (0 : Int32) ((32 : Int32) - a4)))) (0 : Int32).toInt.toNat (Value.int (xbf 1 (xlo b0) (0 : Int32) ((0 : Int32) - a4)))))).set h1 (Sum.inr (3, [Value.ref h2, Value.int 2]))).set 78 (Sum.inr (1, [Value.int (-16384), Value.int 16384, Value.int 0, Value.int 2]))).set h0 (Sum.inr (2, [Value.int 64, Value.int 1, Value.int 0, Value.int (a3 + a1), Value.ref h1]))).set 78 (Sum.inr (1, [Value.int (-16384), Value.int 16384, Value.int 0, Value.int 3]))).set 194 (Sum.inl (3, 1, xup (fun _ => Value.long 0) (0 : Int32).toInt.toNat (Value.long 1)))) := by
  refine xRun.of ?_
  refine i_20_0 (x := 194) rfl ?_
  refine i_20_2 ?_
  refine i_20_3 (x := 7) rfl ?_
  refine i_20_4 (x := a0) rfl ?_
  refine i_20_5 (x := b0) rfl ?_
  refine i_20_6 (x := a1) rfl ?_
  refine i_20_8 (x := a2) rfl ?_
  refine i_20_10 hw0 (Nat.le_of_ble_eq_true rfl) (s_21_2 e1 e2 e3 e4 e5 e6 hw0 hw7 hg8 e9 e10 hw11 hw12 hw13 hg14 e15 hw16 hg17 e18 e19 e20 hw21 e22 hg23 e24 e25 e26 e27 hg28 e29 e30 e31 e32 hw33 hg34 e35 e36 e37 e38 hw39 e40 e41 e42 e43 e44 e45 e46 e47 e48 e49 e50 e51 e52 e53 e54 e55 e56 e57 e58 e59 e60) ?_
  refine i_20_13 (c := 1) (by decide) ?_
  refine i_20_14 (v := Value.long 1) (xgn (by decide) (xgn e61 (xgn (by decide) (xgn e62 (xgn e63 (xgn e61 (xgn (by decide) (xgn (by decide) (xgn (by decide) (xgn (by decide) (xgn (by decide) hw64))))))))))) (by decide) (by decide) (by decide) rfl ?_
  refine i_20_15 ?_
  refine i_20_22 ?_
  exact i_20_23 ⟨rfl, rfl⟩
theorem cn3_0_2 {d : Nat} {xs : Nat → Int32} {B K : Int32} (c0 : 0 ≤ (xs 1).toInt) (c1 : (xs 1).toInt < 16) (c2 : (-40000) ≤ (xs 4).toInt) (c3 : (xs 4).toInt ≤ 40000) (c4 : 0 ≤ (xs 5).toInt) (c5 : (xs 5).toInt ≤ 4) (c6 : (lg_cmp (xvv xs) (0 : Int64)).toInt ≠ 0) (c7 : 0 ≤ (lg_cmp (xvv xs) (0 : Int64)).toInt) (c8 : K.toInt = 64 - B.toInt) (c9 : 1 ≤ B.toInt) (c10 : B.toInt ≤ 32) (c11 : (xhi (xvv xs)).toInt = 0) (c12 : (xlo (xvv xs)).toInt ≠ 0) (c13 : (xnlz (xlo (xvv xs))).toInt = 32 - B.toInt) (c14 : (xbf 1 (xlo (xvv xs)) (0 : Int32) ((32 : Int32) - K)).toInt ≠ 0) (c15 : 16384 < (B + (xs 4)).toInt) (c16 : (xs 5).toInt ≠ 0) (c17 : (xs 5).toInt ≠ 4) (c18 : (xs 5).toInt = 2) : ∃ w1, xRun (d + 18) 20 [Value.ref 7, Value.int (xs 1), Value.long (xvv xs), Value.int (xs 4), Value.int (xs 5), Value.ref 194] (W0 6 xs) (.inl (some (Value.int 0))) w1 ∧ xKp (W0 6 xs) w1 xPC ∧ w1[194]? = some (Sum.inl (3, 1, xup (fun _ => Value.long 0) (0 : Int32).toInt.toNat (Value.long 1))) := by
  have f0 : ((32 : Int32) - (xnlz (xlo (xvv xs)))).toInt = 32 - (xnlz (xlo (xvv xs))).toInt := xsub_g rfl rfl (by omega) (by omega)
  have f1 : (B + (xs 4)).toInt = B.toInt + (xs 4).toInt := xadd_i (by omega) (by omega)
  have f2 : ((B + (xs 4)) - (64 : Int32)).toInt = (B + (xs 4)).toInt - 64 := xsub_g rfl rfl (by omega) (by omega)
  have f3 : (((B + (xs 4)) - (64 : Int32)) - (xs 4)).toInt = ((B + (xs 4)) - (64 : Int32)).toInt - (xs 4).toInt := xsub_i (by omega) (by omega)
  have f4 : ((B + (xs 4)) - ((B + (xs 4)) - (64 : Int32))).toInt = (B + (xs 4)).toInt - ((B + (xs 4)) - (64 : Int32)).toInt := xsub_i (by omega) (by omega)
  have f5 : ((64 : Int32) - B).toInt = 64 - B.toInt := xsub_g rfl rfl (by omega) (by omega)
  have f6 : (B + K).toInt = B.toInt + K.toInt := xadd_i (by omega) (by omega)
  have f7 : 0 ≤ (xnlz (xbf 1 (xlo (xvv xs)) (0 : Int32) ((32 : Int32) - K))).toInt := (xnlz_b _).1
  have f8 : (xnlz (xbf 1 (xlo (xvv xs)) (0 : Int32) ((32 : Int32) - K))).toInt ≤ 32 := (xnlz_b _).2
  have f9 : ((64 : Int32) - (xnlz (xbf 1 (xlo (xvv xs)) (0 : Int32) ((32 : Int32) - K)))).toInt = 64 - (xnlz (xbf 1 (xlo (xvv xs)) (0 : Int32) ((32 : Int32) - K))).toInt := xsub_g rfl rfl (by omega) (by omega)
  refine ⟨(((((((((((((W0 6 xs).set 16 (Sum.inr (4, [Value.int 0, Value.ref 17, Value.int 0, Value.int 0]))).set 18 (Sum.inl (0, 8, xup (xup (fun _ => Value.int 0) (0 : Int32).toInt.toNat (Value.int (xlo (xvv xs)))) (1 : Int32).toInt.toNat (Value.int 0)))).set 17 (Sum.inr (3, [Value.ref 18, Value.int 2]))).set 17 (Sum.inr (3, [Value.ref 18, Value.int 1]))).set 16 (Sum.inr (4, [Value.int 0, Value.ref 17, Value.int (xs 4), Value.int 0]))).set (30 + 3 * (xs 1).toInt.toNat) (Sum.inr (2, [Value.int 64, Value.int 3, Value.int 0, Value.int (B + (xs 4)), Value.ref (31 + 3 * (xs 1).toInt.toNat)]))).set (32 + 3 * (xs 1).toInt.toNat) (Sum.inl (0, 8, xup (xup (fun _ => Value.int 0) (1 : Int32).toInt.toNat (Value.int (xbf 1 (xlo (xvv xs)) (0 : Int32) ((32 : Int32) - K)))) (0 : Int32).toInt.toNat (Value.int (xbf 1 (xlo (xvv xs)) (0 : Int32) ((0 : Int32) - K)))))).set (31 + 3 * (xs 1).toInt.toNat) (Sum.inr (3, [Value.ref (32 + 3 * (xs 1).toInt.toNat), Value.int 2]))).set 78 (Sum.inr (1, [Value.int (-16384), Value.int 16384, Value.int 0, Value.int 2]))).set (30 + 3 * (xs 1).toInt.toNat) (Sum.inr (2, [Value.int 64, Value.int 1, Value.int 0, Value.int (B + (xs 4)), Value.ref (31 + 3 * (xs 1).toInt.toNat)]))).set 78 (Sum.inr (1, [Value.int (-16384), Value.int 16384, Value.int 0, Value.int 3]))).set 194 (Sum.inl (3, 1, xup (fun _ => Value.long 0) (0 : Int32).toInt.toNat (Value.long 1)))), (s_20_2 W0_7 (by omega) (by omega) (by omega) (by omega) (by omega) (by omega) W0_8 (greg_at (by omega)) (by omega) (by omega) W0_16 W0_17 W0_18 (show (xhi (xvv xs)) = 0 from (xge_c (n := 0) (by omega) rfl)) (by omega) W0_78 (show ((32 : Int32) - (xnlz (xlo (xvv xs)))) = B from (xge_i (by omega))) (by omega) (by omega) (by omega) (W0_reg (by omega)) (by omega) (show ((B + (xs 4)) - ((B + (xs 4)) - (64 : Int32))) = 64 from (xge_c (n := 64) (by omega) rfl)) (by omega) (by omega) (by omega) (by omega) (show ((64 : Int32) - B) = K from (xge_i (by omega))) (by omega) (by omega) (by omega) (by omega) (W0_man (by omega)) (show (B + K) = 64 from (xge_c (n := 64) (by omega) rfl)) (by omega) (by omega) (by omega) (by omega) (W0_mw (by omega)) (by omega) (by omega) (by omega) (by omega) (by omega) (by omega) (by omega) (by omega) (by omega) (by omega) (by omega) (by omega) (by omega) (by omega) (by omega) (by omega) (by omega) (by omega) (by omega) (by omega) (by omega) (by omega) (by omega) (by omega) W0_194), ?_, xgs (xgn (by decide) (xgn (by omega) (xgn (by decide) (xgn (by omega) (xgn (by omega) (xgn (by omega) (xgn (by decide) (xgn (by decide) (xgn (by decide) (xgn (by decide) (xgn (by decide) W0_194)))))))))))⟩
  refine xKp.set ?_ (fun h hh => by unfold xPC at hh; omega) (xgn (by decide) (xgn (by omega) (xgn (by decide) (xgn (by omega) (xgn (by omega) (xgn (by omega) (xgn (by decide) (xgn (by decide) (xgn (by decide) (xgn (by decide) (xgn (by decide) W0_194))))))))))) xcs_a
  refine xKp.set ?_ (fun h hh => by unfold xPC at hh; omega) (xgn (by omega) (xgs (xgn (by omega) (xgn (by omega) (xgn (by omega) (xgn (by decide) (xgn (by decide) (xgn (by decide) (xgn (by decide) (xgn (by decide) W0_78)))))))))) xcs_o
  refine xKp.set ?_ (fun h hh => by unfold xPC at hh; omega) (xgn (by omega) (xgn (by omega) (xgn (by omega) (xgs (xgn (by omega) (xgn (by omega) (xgn (by omega) (xgn (by omega) (xgn (by omega) (W0_reg (by omega))))))))))) xcs_o
  refine xKp.set ?_ (fun h hh => by unfold xPC at hh; omega) (xgn (by omega) (xgn (by omega) (xgn (by omega) (xgn (by decide) (xgn (by decide) (xgn (by decide) (xgn (by decide) (xgn (by decide) W0_78)))))))) xcs_o
  refine xKp.set ?_ (fun h hh => by unfold xPC at hh; omega) (xgn (by omega) (xgn (by omega) (xgn (by omega) (xgn (by omega) (xgn (by omega) (xgn (by omega) (xgn (by omega) (W0_man (by omega))))))))) xcs_o
  refine xKp.set ?_ (fun h hh => by unfold xPC at hh; omega) (xgn (by omega) (xgn (by omega) (xgn (by omega) (xgn (by omega) (xgn (by omega) (xgn (by omega) (W0_mw (by omega)))))))) xcs_a
  refine xKp.set ?_ (fun h hh => by unfold xPC at hh; omega) (xgn (by omega) (xgn (by omega) (xgn (by omega) (xgn (by omega) (xgn (by omega) (W0_reg (by omega))))))) xcs_o
  refine xKp.set ?_ (fun h hh => by unfold xPC at hh; omega) (xgn (by decide) (xgn (by decide) (xgn (by decide) (xgs W0_16)))) xcs_o
  refine xKp.set ?_ (fun h hh => by unfold xPC at hh; omega) (xgs (xgn (by decide) (xgn (by decide) W0_17))) xcs_o
  refine xKp.set ?_ (fun h hh => by unfold xPC at hh; omega) (xgn (by decide) (xgn (by decide) W0_17)) xcs_o
  refine xKp.set ?_ (fun h hh => by unfold xPC at hh; omega) (xgn (by decide) W0_18) xcs_a
  refine xKp.set ?_ (fun h hh => by unfold xPC at hh; omega) (W0_16) xcs_o
  exact xKp.refl
theorem s_37_2 {d : Nat} {w : xW} {a0 : Int32} (e0 : a0.toInt ≠ 4) (e1 : a0.toInt ≠ 2) (e2 : a0.toInt = 3) : xRun d 37 [Value.int a0, Value.int 0] w (.inl (some (Value.int 0))) w := by
  refine xRun.of ?_
  refine i_37_0 (x := a0) rfl ?_
  refine i_37_1 ?_
  refine i_37_2 (fun h => absurd e0 (fun g => g h)) (fun _ => ?_)
  refine i_37_5 (x := a0) rfl ?_
  refine i_37_6 ?_
  refine i_37_7 (fun _ => ?_) (fun h => absurd e1 (fun g => g h))
  refine i_37_14 (x := a0) rfl ?_
  refine i_37_15 ?_
  refine i_37_16 (fun h => absurd e2 h) (fun _ => ?_)
  refine i_37_19 (x := 0) rfl ?_
  refine i_37_20 (fun _ => ?_) (fun h => absurd h (by decide))
  refine i_37_27 ?_
  exact i_37_28 rfl ⟨rfl, rfl⟩
theorem s_41_1 {d : Nat} {w : xW} {h0 : Nat} {h1 : Nat} {g0 : Nat → Value} (hw0 : w[h0]? = some (Sum.inr (3, [Value.ref h1, Value.int 2]))) (hw1 : w[h1]? = some (Sum.inl (0, 8, g0))) : xRun d 41 [Value.ref h0, Value.int 2] w (.inl none) w := by
  refine xRun.of ?_
  refine i_41_0 (x := h0) rfl ?_
  refine i_41_1 (v := Value.ref h1) hw0 rfl ?_
  refine i_41_4 (c := 8) hw1 (by decide) ?_
  refine i_41_5 (x := 2) rfl ?_
  refine i_41_6 (fun _ => ?_) (fun h => absurd h (by decide))
  exact i_41_31 ⟨rfl, rfl⟩
theorem s_280_0 {d : Nat} {w : xW} : xRun d 280 [Value.int 8, Value.int 0, Value.int 2] w (.inl none) w := by
  refine xRun.of ?_
  refine i_280_0 (x := 0) rfl ?_
  refine i_280_1 (x := 2) rfl ?_
  refine i_280_2 (fun _ => ?_) (fun h => absurd h (by decide))
  refine i_280_46 (x := 0) rfl ?_
  refine i_280_47 (fun _ => ?_) (fun h => absurd h (by decide))
  refine i_280_59 (x := 2) rfl ?_
  refine i_280_60 (x := 8) rfl ?_
  refine i_280_61 (fun _ => ?_) (fun h => absurd h (by decide))
  exact i_280_73 ⟨rfl, rfl⟩
theorem s_279_0 {d : Nat} {w : xW} {h0 : Nat} {g0 : Nat → Value} (hw0 : w[h0]? = some (Sum.inl (0, 8, g0))) (e1 : 7 ≤ h0) : xRun (d + 1) 279 [Value.ref h0, Value.int 0, Value.int 2, Value.int (-1)] w (.inl none) (w.set h0 (Sum.inl (0, 8, xup (xup g0 (0 : Int32).toInt.toNat (Value.int (-1))) (1 : Int32).toInt.toNat (Value.int (-1))))) := by
  refine xRun.of ?_
  refine i_279_0 (x := h0) rfl ?_
  refine i_279_1 (c := 8) hw0 (by decide) ?_
  refine i_279_2 (x := 0) rfl ?_
  refine i_279_3 (x := 2) rfl ?_
  refine i_279_4 (Nat.le_of_ble_eq_true rfl) (s_280_0) ?_
  refine i_279_7 (x := 0) rfl ?_
  refine i_279_8 (lv2 := [(4, Value.int 0), (0, Value.ref h0), (1, Value.int 0), (2, Value.int 2), (3, Value.int (-1))]) rfl ?_
  refine i_279_10 (x := 0) rfl ?_
  refine i_279_12 (x := 2) rfl ?_
  refine i_279_13 (fun h => absurd h (by decide)) (fun _ => ?_)
  refine i_279_16 (x := h0) rfl ?_
  refine i_279_17 (x := 0) rfl ?_
  refine i_279_19 (x := (-1)) rfl ?_
  refine i_279_20 (v := Value.int (-1)) hw0 (by decide) (by decide) e1 rfl ?_
  refine i_279_21 (x := 0) (c := 1) (lv2 := [(4, Value.int 1), (0, Value.ref h0), (1, Value.int 0), (2, Value.int 2), (3, Value.int (-1))]) rfl (by decide) rfl ?_
  refine i_279_24 ?_
  refine i_279_10 (x := 1) rfl ?_
  refine i_279_12 (x := 2) rfl ?_
  refine i_279_13 (fun h => absurd h (by decide)) (fun _ => ?_)
  refine i_279_16 (x := h0) rfl ?_
  refine i_279_17 (x := 1) rfl ?_
  refine i_279_19 (x := (-1)) rfl ?_
  refine i_279_20 (v := Value.int (-1)) (xgs hw0) (by decide) (by decide) e1 rfl ?_
  refine xEv.world (List.set_set _) ?_
  refine i_279_21 (x := 1) (c := 2) (lv2 := [(4, Value.int 2), (0, Value.ref h0), (1, Value.int 0), (2, Value.int 2), (3, Value.int (-1))]) rfl (by decide) rfl ?_
  refine i_279_24 ?_
  refine i_279_10 (x := 2) rfl ?_
  refine i_279_12 (x := 2) rfl ?_
  refine i_279_13 (fun _ => ?_) (fun h => absurd h (by decide))
  exact i_279_27 ⟨rfl, rfl⟩
theorem s_49_0 {d : Nat} {w : xW} {h0 : Nat} {h1 : Nat} {g0 : Nat → Value} (hw0 : w[h0]? = some (Sum.inr (3, [Value.ref h1, Value.int 2]))) (hw1 : w[h1]? = some (Sum.inl (0, 8, g0))) (e2 : 7 ≤ h1) (e3 : h1 ≠ h0) (e4 : 7 ≤ h0) : xRun (d + 2) 49 [Value.ref h0, Value.int 64] w (.inl none) ((w.set h1 (Sum.inl (0, 8, xup (xup (xup g0 (0 : Int32).toInt.toNat (Value.int (-1))) (1 : Int32).toInt.toNat (Value.int (-1))) (1 : Int32).toInt.toNat (Value.int (-1))))).set h0 (Sum.inr (3, [Value.ref h1, Value.int 2]))) := by
  refine xRun.of ?_
  refine i_49_0 (x := 64) rfl ?_
  refine i_49_1 ?_
  refine i_49_3 (c := 95) (by decide) ?_
  refine i_49_4 ?_
  refine i_49_5 (c := 2) (by decide) ?_
  refine i_49_6 (lv2 := [(2, Value.int 2), (0, Value.ref h0), (1, Value.int 64)]) rfl ?_
  refine i_49_7 (x := h0) rfl ?_
  refine i_49_8 (x := 2) rfl ?_
  refine i_49_9 hw0 (Nat.le_of_ble_eq_true rfl) (s_41_1 hw0 hw1) ?_
  refine i_49_12 (x := h0) rfl ?_
  refine i_49_13 (v := Value.ref h1) hw0 rfl ?_
  refine i_49_16 ?_
  refine i_49_17 (x := 2) rfl ?_
  refine i_49_18 ?_
  refine i_49_19 (Nat.le_of_ble_eq_true rfl) (s_279_0 hw1 e2) ?_
  refine i_49_22 (x := h0) rfl ?_
  refine i_49_23 (v := Value.ref h1) (xgn e3 hw0) rfl ?_
  refine i_49_26 (x := 2) rfl ?_
  refine i_49_27 ?_
  refine i_49_28 (c := 1) (by decide) ?_
  refine i_49_29 ?_
  refine i_49_30 ?_
  refine i_49_32 (x := 2) rfl ?_
  refine i_49_33 (c := 64) (by decide) ?_
  refine i_49_34 (x := 64) rfl ?_
  refine i_49_35 (c := 0) (by decide) ?_
  refine i_49_36 (c := (-1)) (by decide) ?_
  refine i_49_37 (v := Value.int (-1)) (xgs hw1) (by decide) (by decide) e2 rfl ?_
  refine xEv.world (List.set_set _) ?_
  refine i_49_38 (x := h0) rfl ?_
  refine i_49_39 (x := 2) rfl ?_
  refine i_49_40 (fs2 := [Value.ref h1, Value.int 2]) (xgn e3 hw0) (Nat.le_of_ble_eq_true rfl) rfl e4 ?_
  exact i_49_43 ⟨rfl, rfl⟩
theorem s_48_0 {d : Nat} {w : xW} {h0 : Nat} {a0 : Int32} {h1 : Nat} {h2 : Nat} {g0 : Nat → Value} (hw0 : w[h0]? = some (Sum.inr (2, [Value.int 64, Value.int 3, Value.int 0, Value.int a0, Value.ref h1]))) (e1 : 7 ≤ h0) (e2 : h0 ≠ h1) (hw3 : w[h1]? = some (Sum.inr (3, [Value.ref h2, Value.int 2]))) (e4 : h0 ≠ h2) (hw5 : w[h2]? = some (Sum.inl (0, 8, g0))) (e6 : 7 ≤ h2) (e7 : h2 ≠ h1) (e8 : 7 ≤ h1) : xRun (d + 3) 48 [Value.ref h0, Value.int 0, Value.int 16384] w (.inl none) (((w.set h0 (Sum.inr (2, [Value.int 64, Value.int 3, Value.int 0, Value.int 16384, Value.ref h1]))).set h2 (Sum.inl (0, 8, xup (xup (xup g0 (0 : Int32).toInt.toNat (Value.int (-1))) (1 : Int32).toInt.toNat (Value.int (-1))) (1 : Int32).toInt.toNat (Value.int (-1))))).set h1 (Sum.inr (3, [Value.ref h2, Value.int 2]))) := by
  refine xRun.of ?_
  refine i_48_0 (x := h0) rfl ?_
  refine i_48_1 ?_
  refine i_48_2 (fs2 := [Value.int 64, Value.int 3, Value.int 0, Value.int a0, Value.ref h1]) hw0 (Nat.le_of_ble_eq_true rfl) rfl e1 ?_
  refine i_48_5 (x := h0) rfl ?_
  refine i_48_6 (x := 0) rfl ?_
  refine i_48_7 (fs2 := [Value.int 64, Value.int 3, Value.int 0, Value.int a0, Value.ref h1]) (xgs hw0) rfl (Nat.le_of_ble_eq_true rfl) rfl e1 ?_
  refine xEv.world (List.set_set _) ?_
  refine i_48_10 (x := h0) rfl ?_
  refine i_48_11 (x := 16384) rfl ?_
  refine i_48_12 (fs2 := [Value.int 64, Value.int 3, Value.int 0, Value.int 16384, Value.ref h1]) (xgs hw0) (Nat.le_of_ble_eq_true rfl) rfl e1 ?_
  refine xEv.world (List.set_set _) ?_
  refine i_48_15 (x := h0) rfl ?_
  refine i_48_16 (v := Value.ref h1) (xgs hw0) rfl ?_
  refine i_48_19 (x := h0) rfl ?_
  refine i_48_20 (v := Value.int 64) (xgs hw0) rfl ?_
  refine i_48_23 (xgn e2 hw3) (Nat.le_of_ble_eq_true rfl) (s_49_0 (xgn e2 hw3) (xgn e4 hw5) e6 e7 e8) ?_
  exact i_48_26 ⟨rfl, rfl⟩
theorem s_46_3 {d : Nat} {w : xW} {h0 : Nat} {a0 : Int32} {a1 : Int32} {h1 : Nat} {h2 : Nat} {g0 : Nat → Value} (hw0 : w[78]? = some (Sum.inr (1, [Value.int (-16384), Value.int 16384, Value.int 0, Value.int 0]))) (e1 : a0.toInt ≠ 0) (e2 : a0.toInt ≠ 4) (e3 : a0.toInt ≠ 2) (e4 : a0.toInt = 3) (e5 : 78 ≠ h0) (hw6 : w[h0]? = some (Sum.inr (2, [Value.int 64, Value.int 3, Value.int 0, Value.int a1, Value.ref h1]))) (e7 : 7 ≤ h0) (e8 : h0 ≠ h1) (e9 : 78 ≠ h1) (hw10 : w[h1]? = some (Sum.inr (3, [Value.ref h2, Value.int 2]))) (e11 : h0 ≠ h2) (e12 : 78 ≠ h2) (hw13 : w[h2]? = some (Sum.inl (0, 8, g0))) (e14 : 7 ≤ h2) (e15 : h2 ≠ h1) (e16 : 7 ≤ h1) : xRun (d + 4) 46 [Value.ref 78, Value.ref h0, Value.int 0, Value.int a0] w (.inl (some (Value.int (-1)))) ((((w.set 78 (Sum.inr (1, [Value.int (-16384), Value.int 16384, Value.int 0, Value.int 2]))).set h0 (Sum.inr (2, [Value.int 64, Value.int 3, Value.int 0, Value.int 16384, Value.ref h1]))).set h2 (Sum.inl (0, 8, xup (xup (xup g0 (0 : Int32).toInt.toNat (Value.int (-1))) (1 : Int32).toInt.toNat (Value.int (-1))) (1 : Int32).toInt.toNat (Value.int (-1))))).set h1 (Sum.inr (3, [Value.ref h2, Value.int 2]))) := by
  refine xRun.of ?_
  refine i_46_0 (x := 78) rfl ?_
  refine i_46_1 rfl ?_
  refine i_46_2 (v := Value.int 0) hw0 rfl ?_
  refine i_46_5 ?_
  refine i_46_6 (c := 2) (by decide) ?_
  refine i_46_7 (fs2 := [Value.int (-16384), Value.int 16384, Value.int 0, Value.int 2]) hw0 (Nat.le_of_ble_eq_true rfl) rfl (by decide) ?_
  refine i_46_10 (x := a0) rfl ?_
  refine i_46_11 (fun h => absurd e1 (fun g => g h)) (fun _ => ?_)
  refine i_46_14 (x := a0) rfl ?_
  refine i_46_15 (x := 0) rfl ?_
  refine i_46_16 (Nat.le_of_ble_eq_true rfl) (s_37_2 e2 e3 e4) ?_
  refine i_46_19 (fun _ => ?_) (fun h => absurd h (by decide))
  refine i_46_30 (x := h0) rfl ?_
  refine i_46_31 (x := 0) rfl ?_
  refine i_46_32 (x := 78) rfl ?_
  refine i_46_33 (v := Value.int 16384) (xgs hw0) rfl ?_
  refine i_46_36 (xgn e5 hw6) (Nat.le_of_ble_eq_true rfl) (s_48_0 (xgn e5 hw6) e7 e8 (xgn e9 hw10) e11 (xgn e12 hw13) e14 e15 e16) ?_
  refine i_46_39 ?_
  exact i_46_40 ⟨rfl, rfl⟩
theorem s_27_3 {d : Nat} {w : xW} {h0 : Nat} {a0 : Int32} {a1 : Int32} {g0 : Nat → Value} {a2 : Int32} {a3 : Int32} {h1 : Nat} {a4 : Int32} {h2 : Nat} (hw0 : w[16]? = some (Sum.inr (4, [Value.int 0, Value.ref 17, Value.int a1, Value.int 0]))) (hw1 : w[17]? = some (Sum.inr (3, [Value.ref 18, Value.int 1]))) (hw2 : w[18]? = some (Sum.inl (0, 8, g0))) (hg3 : g0 (0 : Int32).toInt.toNat = Value.int a2) (hg4 : ((32 : Int32) - (xnlz a2)) = a3) (hw5 : w[h0]? = some (Sum.inr (2, [Value.int 64, Value.int 0, Value.int 0, Value.int 0, Value.ref h1]))) (hw6 : w[78]? = some (Sum.inr (1, [Value.int (-16384), Value.int 16384, Value.int 0, Value.int 0]))) (e7 : (((a3 + a1) - (64 : Int32)) - a1).toInt ≤ 0) (hg8 : ((a3 + a1) - ((a3 + a1) - (64 : Int32))) = 64) (e9 : 7 ≤ h0) (e10 : h0 ≠ 16) (e11 : h0 ≠ 17) (e12 : h0 ≠ 18) (hg13 : ((64 : Int32) - a3) = a4) (e14 : h0 ≠ h1) (hw15 : w[h1]? = some (Sum.inr (3, [Value.ref h2, Value.int 0]))) (hg16 : (a3 + a4) = 64) (e17 : h0 ≠ h2) (hw18 : w[h2]? = some (Sum.inl (0, 8, fun _ => Value.int 0))) (e19 : 0 ≤ a4.toInt) (hg20 : g0 (1 : Int32).toInt.toNat = Value.int 0) (e21 : 7 ≤ h2) (e22 : h2 ≠ h1) (e23 : h2 ≠ 17) (e24 : h2 ≠ 18) (e25 : 7 ≤ h1) (e26 : h1 ≠ h0) (e27 : h2 ≠ h0) (e28 : h1 ≠ h2) (e29 : (xbf 1 a2 (0 : Int32) ((32 : Int32) - a4)).toInt ≠ 0) (e30 : ((64 : Int32) - (xnlz (xbf 1 a2 (0 : Int32) ((32 : Int32) - a4)))).toInt ≤ 64) (e31 : h1 ≠ 78) (e32 : h2 ≠ 78) (e33 : h0 ≠ 78) (e34 : 16384 < (a3 + a1).toInt) (e35 : h1 ≠ 16) (e36 : h2 ≠ 16) (e37 : a0.toInt ≠ 0) (e38 : a0.toInt ≠ 4) (e39 : a0.toInt ≠ 2) (e40 : a0.toInt = 3) (e41 : 78 ≠ h0) (e42 : 78 ≠ h1) (e43 : 78 ≠ h2) : xRun (d + 5) 27 [Value.ref 78, Value.ref h0, Value.ref 16, Value.int a0] w (.inl (some (Value.int (-1)))) ((((((((w.set h0 (Sum.inr (2, [Value.int 64, Value.int 3, Value.int 0, Value.int (a3 + a1), Value.ref h1]))).set h2 (Sum.inl (0, 8, xup (xup (fun _ => Value.int 0) (1 : Int32).toInt.toNat (Value.int (xbf 1 a2 (0 : Int32) ((32 : Int32) - a4)))) (0 : Int32).toInt.toNat (Value.int (xbf 1 a2 (0 : Int32) ((0 : Int32) - a4)))))).set h1 (Sum.inr (3, [Value.ref h2, Value.int 2]))).set 78 (Sum.inr (1, [Value.int (-16384), Value.int 16384, Value.int 0, Value.int 2]))).set h0 (Sum.inr (2, [Value.int 64, Value.int 3, Value.int 0, Value.int 16384, Value.ref h1]))).set h2 (Sum.inl (0, 8, xup (xup (xup (xup (xup (fun _ => Value.int 0) (1 : Int32).toInt.toNat (Value.int (xbf 1 a2 (0 : Int32) ((32 : Int32) - a4)))) (0 : Int32).toInt.toNat (Value.int (xbf 1 a2 (0 : Int32) ((0 : Int32) - a4)))) (0 : Int32).toInt.toNat (Value.int (-1))) (1 : Int32).toInt.toNat (Value.int (-1))) (1 : Int32).toInt.toNat (Value.int (-1))))).set h1 (Sum.inr (3, [Value.ref h2, Value.int 2]))).set 78 (Sum.inr (1, [Value.int (-16384), Value.int 16384, Value.int 0, Value.int 3]))) := by
  refine xRun.of ?_
  refine i_27_0 (x := 16) rfl ?_
  refine i_27_1 hw0 (Nat.le_of_ble_eq_true rfl) (s_28_0 hw0 hw1 hw2 hg3 hg4) ?_
  refine i_27_4 (lv2 := [(4, Value.int (a3 + a1)), (0, Value.ref 78), (1, Value.ref h0), (2, Value.ref 16), (3, Value.int a0)]) rfl ?_
  refine i_27_6 (x := 78) rfl ?_
  refine i_27_7 (x := (a3 + a1)) rfl ?_
  refine i_27_9 (x := h0) rfl ?_
  refine i_27_10 (v := Value.int 64) hw5 rfl ?_
  refine i_27_13 hw6 (Nat.le_of_ble_eq_true rfl) (s_30_0 hw6) ?_
  refine i_27_16 (lv2 := [(5, Value.int ((a3 + a1) - (64 : Int32))), (4, Value.int (a3 + a1)), (0, Value.ref 78), (1, Value.ref h0), (2, Value.ref 16), (3, Value.int a0)]) rfl ?_
  refine i_27_18 (x := 16) rfl ?_
  refine i_27_19 (x := ((a3 + a1) - (64 : Int32))) rfl ?_
  refine i_27_21 (x := a0) rfl ?_
  refine i_27_22 hw0 (Nat.le_of_ble_eq_true rfl) (s_31_0 hw0 hw1 e7) ?_
  refine i_27_25 (lv2 := [(6, Value.int 0), (5, Value.int ((a3 + a1) - (64 : Int32))), (4, Value.int (a3 + a1)), (0, Value.ref 78), (1, Value.ref h0), (2, Value.ref 16), (3, Value.int a0)]) rfl ?_
  refine i_27_27 (x := 16) rfl ?_
  refine i_27_28 (x := ((a3 + a1) - (64 : Int32))) rfl ?_
  refine i_27_30 hw0 (Nat.le_of_ble_eq_true rfl) (s_32_0 hw0 hw1 e7) ?_
  refine i_27_33 (fun h => absurd h (by decide)) (fun _ => ?_)
  refine i_27_36 ?_
  refine i_27_37 ?_
  refine i_27_50 (lv2 := [(7, Value.int 0), (6, Value.int 0), (5, Value.int ((a3 + a1) - (64 : Int32))), (4, Value.int (a3 + a1)), (0, Value.ref 78), (1, Value.ref h0), (2, Value.ref 16), (3, Value.int a0)]) rfl ?_
  refine i_27_52 (x := h0) rfl ?_
  refine i_27_53 (x := 16) rfl ?_
  refine i_27_54 (x := ((a3 + a1) - (64 : Int32))) rfl ?_
  refine i_27_56 (x := 0) rfl ?_
  refine i_27_58 hw5 (Nat.le_of_ble_eq_true rfl) (s_38_0 hw0 hw1 hw2 hg3 hg4 hg8 hw5 e9 e10 e11 e12 hg13 e14 hw15 hg16 e17 hw18 e19 hg20 e21 e22 e23 e24 e25 e26 e27 e28 e29 e30) ?_
  refine i_27_61 (x := h0) rfl ?_
  refine i_27_62 (v := Value.int 3) (xgn e26 (xgn e27 (xgs hw5))) rfl ?_
  refine i_27_65 ?_
  refine i_27_66 (fun h => absurd h (by decide)) (fun _ => ?_)
  refine i_27_69 (x := h0) rfl ?_
  refine i_27_70 (v := Value.int (a3 + a1)) (xgn e26 (xgn e27 (xgs hw5))) rfl ?_
  refine i_27_73 (x := 78) rfl ?_
  refine i_27_74 (v := Value.int 16384) (xgn e31 (xgn e32 (xgn e33 hw6))) rfl ?_
  refine i_27_77 (fun h => absurd e34 (Int.not_lt.mpr h)) (fun _ => ?_)
  refine i_27_80 (x := 78) rfl ?_
  refine i_27_81 (x := h0) rfl ?_
  refine i_27_82 (x := 16) rfl ?_
  refine i_27_83 (v := Value.int 0) (xgn e35 (xgn e36 (xgn e10 hw0))) rfl ?_
  refine i_27_86 (x := a0) rfl ?_
  refine i_27_87 (xgn e31 (xgn e32 (xgn e33 hw6))) (Nat.le_of_ble_eq_true rfl) (s_46_3 (xgn e31 (xgn e32 (xgn e33 hw6))) e37 e38 e39 e40 e41 (xgn e26 (xgn e27 (xgs hw5))) e9 e14 e42 (xgs (xgn e22 (xgn e14 hw15))) e17 e43 (xgn e28 (xgs (xgn e17 hw18))) e21 e22 e25) ?_
  refine i_27_90 (lv2 := [(7, Value.int (-1)), (6, Value.int 0), (5, Value.int ((a3 + a1) - (64 : Int32))), (4, Value.int (a3 + a1)), (0, Value.ref 78), (1, Value.ref h0), (2, Value.ref 16), (3, Value.int a0)]) rfl ?_
  refine i_27_92 ?_
  refine i_27_164 (x := (-1)) rfl ?_
  refine i_27_166 (fun h => absurd h (by decide)) (fun _ => ?_)
  refine i_27_169 (x := 78) rfl ?_
  refine i_27_170 rfl ?_
  refine i_27_171 (v := Value.int 2) (xgn e31 (xgn e32 (xgn e33 (xgs (xgn e31 (xgn e32 (xgn e33 hw6))))))) rfl ?_
  refine i_27_174 ?_
  refine i_27_175 (c := 3) (by decide) ?_
  refine i_27_176 (fs2 := [Value.int (-16384), Value.int 16384, Value.int 0, Value.int 3]) (xgn e31 (xgn e32 (xgn e33 (xgs (xgn e31 (xgn e32 (xgn e33 hw6))))))) (Nat.le_of_ble_eq_true rfl) rfl (by decide) ?_
  refine i_27_179 (x := 16) rfl ?_
  refine i_27_180 (v := Value.int 0) (xgn (by decide) (xgn e35 (xgn e36 (xgn e10 (xgn (by decide) (xgn e35 (xgn e36 (xgn e10 hw0)))))))) rfl ?_
  refine i_27_183 (fun _ => ?_) (fun h => absurd h (by decide))
  refine i_27_192 (x := (-1)) rfl ?_
  exact i_27_194 ⟨rfl, rfl⟩
theorem s_21_3 {d : Nat} {w : xW} {a0 : Int32} {b0 : Int64} {a1 : Int32} {a2 : Int32} {g0 : Nat → Value} {h0 : Nat} {a3 : Int32} {h1 : Nat} {a4 : Int32} {h2 : Nat} (e0 : 0 ≤ a0.toInt) (e1 : a0.toInt < 16) (e2 : (-40000) ≤ a1.toInt) (e3 : a1.toInt ≤ 40000) (e4 : 0 ≤ a2.toInt) (e5 : a2.toInt ≤ 4) (hw6 : w[7]? = some (Sum.inr (0, [Value.ref 8, Value.ref 78, Value.ref 9, Value.ref 10, Value.ref 13, Value.ref 16, Value.ref 19, Value.ref 93, Value.ref 108, Value.ref 113, Value.ref 29, Value.int 0]))) (hw7 : w[8]? = some (Sum.inl (4, 16, g0))) (hg8 : g0 a0.toInt.toNat = Value.ref h0) (e9 : (lg_cmp b0 (0 : Int64)).toInt ≠ 0) (e10 : 0 ≤ (lg_cmp b0 (0 : Int64)).toInt) (hw11 : w[16]? = some (Sum.inr (4, [Value.int 0, Value.ref 17, Value.int 0, Value.int 0]))) (hw12 : w[17]? = some (Sum.inr (3, [Value.ref 18, Value.int 0]))) (hw13 : w[18]? = some (Sum.inl (0, 8, fun _ => Value.int 0))) (hg14 : (xhi b0) = 0) (e15 : (xlo b0).toInt ≠ 0) (hw16 : w[78]? = some (Sum.inr (1, [Value.int (-16384), Value.int 16384, Value.int 0, Value.int 0]))) (hg17 : ((32 : Int32) - (xnlz (xlo b0))) = a3) (e18 : 16 ≠ h0) (e19 : 17 ≠ h0) (e20 : 18 ≠ h0) (hw21 : w[h0]? = some (Sum.inr (2, [Value.int 64, Value.int 0, Value.int 0, Value.int 0, Value.ref h1]))) (e22 : (((a3 + a1) - (64 : Int32)) - a1).toInt ≤ 0) (hg23 : ((a3 + a1) - ((a3 + a1) - (64 : Int32))) = 64) (e24 : 7 ≤ h0) (e25 : h0 ≠ 16) (e26 : h0 ≠ 17) (e27 : h0 ≠ 18) (hg28 : ((64 : Int32) - a3) = a4) (e29 : h0 ≠ h1) (e30 : 16 ≠ h1) (e31 : 17 ≠ h1) (e32 : 18 ≠ h1) (hw33 : w[h1]? = some (Sum.inr (3, [Value.ref h2, Value.int 0]))) (hg34 : (a3 + a4) = 64) (e35 : h0 ≠ h2) (e36 : 16 ≠ h2) (e37 : 17 ≠ h2) (e38 : 18 ≠ h2) (hw39 : w[h2]? = some (Sum.inl (0, 8, fun _ => Value.int 0))) (e40 : 0 ≤ a4.toInt) (e41 : 7 ≤ h2) (e42 : h2 ≠ h1) (e43 : h2 ≠ 17) (e44 : h2 ≠ 18) (e45 : 7 ≤ h1) (e46 : h1 ≠ h0) (e47 : h2 ≠ h0) (e48 : h1 ≠ h2) (e49 : (xbf 1 (xlo b0) (0 : Int32) ((32 : Int32) - a4)).toInt ≠ 0) (e50 : ((64 : Int32) - (xnlz (xbf 1 (xlo b0) (0 : Int32) ((32 : Int32) - a4)))).toInt ≤ 64) (e51 : h1 ≠ 78) (e52 : h2 ≠ 78) (e53 : h0 ≠ 78) (e54 : 16384 < (a3 + a1).toInt) (e55 : h1 ≠ 16) (e56 : h2 ≠ 16) (e57 : a2.toInt ≠ 0) (e58 : a2.toInt ≠ 4) (e59 : a2.toInt ≠ 2) (e60 : a2.toInt = 3) (e61 : 78 ≠ h0) (e62 : 78 ≠ h1) (e63 : 78 ≠ h2) : xRun (d + 6) 21 [Value.ref 7, Value.int a0, Value.long b0, Value.int a1, Value.int a2] w (.inl (some (Value.int (-1)))) (((((((((((((w.set 16 (Sum.inr (4, [Value.int 0, Value.ref 17, Value.int 0, Value.int 0]))).set 18 (Sum.inl (0, 8, xup (xup (fun _ => Value.int 0) (0 : Int32).toInt.toNat (Value.int (xlo b0))) (1 : Int32).toInt.toNat (Value.int 0)))).set 17 (Sum.inr (3, [Value.ref 18, Value.int 2]))).set 17 (Sum.inr (3, [Value.ref 18, Value.int 1]))).set 16 (Sum.inr (4, [Value.int 0, Value.ref 17, Value.int a1, Value.int 0]))).set h0 (Sum.inr (2, [Value.int 64, Value.int 3, Value.int 0, Value.int (a3 + a1), Value.ref h1]))).set h2 (Sum.inl (0, 8, xup (xup (fun _ => Value.int 0) (1 : Int32).toInt.toNat (Value.int (xbf 1 (xlo b0) (0 : Int32) ((32 : Int32) - a4)))) (0 : Int32).toInt.toNat (Value.int (xbf 1 (xlo b0) (0 : Int32) ((0 : Int32) - a4)))))).set h1 (Sum.inr (3, [Value.ref h2, Value.int 2]))).set 78 (Sum.inr (1, [Value.int (-16384), Value.int 16384, Value.int 0, Value.int 2]))).set h0 (Sum.inr (2, [Value.int 64, Value.int 3, Value.int 0, Value.int 16384, Value.ref h1]))).set h2 (Sum.inl (0, 8, xup (xup (xup (xup (xup (fun _ => Value.int 0) (1 : Int32).toInt.toNat (Value.int (xbf 1 (xlo b0) (0 : Int32) ((32 : Int32) - a4)))) (0 : Int32).toInt.toNat (Value.int (xbf 1 (xlo b0) (0 : Int32) ((0 : Int32) - a4)))) (0 : Int32).toInt.toNat (Value.int (-1))) (1 : Int32).toInt.toNat (Value.int (-1))) (1 : Int32).toInt.toNat (Value.int (-1))))).set h1 (Sum.inr (3, [Value.ref h2, Value.int 2]))).set 78 (Sum.inr (1, [Value.int (-16384), Value.int 16384, Value.int 0, Value.int 3]))) := by
  refine xRun.of ?_
  refine i_21_0 (x := a0) rfl ?_
  refine i_21_1 (Nat.le_of_ble_eq_true rfl) (s_15_0 e0 e1) ?_
  refine i_21_4 (fun h => absurd h (by decide)) (fun _ => ?_)
  refine i_21_7 (x := a1) rfl ?_
  refine i_21_9 ?_
  refine i_21_11 (fun h => absurd e2 (Int.not_le.mpr h)) (fun _ => ?_)
  refine i_21_14 (x := a1) rfl ?_
  refine i_21_16 ?_
  refine i_21_18 (fun h => absurd e3 (Int.not_le.mpr h)) (fun _ => ?_)
  refine i_21_21 (x := a2) rfl ?_
  refine i_21_23 (Nat.le_of_ble_eq_true rfl) (s_22_0 e4 e5) ?_
  refine i_21_26 (fun _ => ?_) (fun h => absurd h (by decide))
  refine i_21_37 (x := 7) rfl ?_
  refine i_21_38 (v := Value.ref 8) hw6 rfl ?_
  refine i_21_41 (x := a0) rfl ?_
  refine i_21_42 (v := Value.ref h0) hw7 e0 e1 hg8 ?_
  refine i_21_43 (lv2 := [(6, Value.ref h0), (0, Value.ref 7), (1, Value.int a0), (2, Value.long b0), (4, Value.int a1), (5, Value.int a2)]) rfl ?_
  refine i_21_45 (x := b0) rfl ?_
  refine i_21_46 ?_
  refine i_21_47 (c := (lg_cmp b0 (0 : Int64))) rfl ?_
  refine i_21_48 (fun _ => ?_) (fun h => absurd e9 (fun g => g h))
  refine i_21_58 (x := 7) rfl ?_
  refine i_21_59 (v := Value.ref 16) hw6 rfl ?_
  refine i_21_62 (x := b0) rfl ?_
  refine i_21_63 ?_
  refine i_21_64 (c := (lg_cmp b0 (0 : Int64))) rfl ?_
  refine i_21_65 (fun _ => ?_) (fun h => absurd e10 (Int.not_le.mpr h))
  refine i_21_72 ?_
  refine i_21_73 (x := b0) rfl ?_
  refine i_21_74 ?_
  refine i_21_75 (c := (lg_cmp b0 (0 : Int64))) rfl ?_
  refine i_21_76 (fun _ => ?_) (fun h => absurd e10 (Int.not_le.mpr h))
  refine i_21_84 (x := b0) rfl ?_
  refine i_21_85 (x := a1) rfl ?_
  refine i_21_87 hw11 (Nat.le_of_ble_eq_true rfl) (s_24_0 hw11 hw12 hw13 hg14 e15) ?_
  refine i_21_90 (x := 7) rfl ?_
  refine i_21_91 (v := Value.ref 78) (xgn (by decide) (xgn (by decide) (xgn (by decide) (xgn (by decide) (xgn (by decide) hw6))))) rfl ?_
  refine i_21_94 (x := h0) rfl ?_
  refine i_21_96 (x := 7) rfl ?_
  refine i_21_97 (v := Value.ref 16) (xgn (by decide) (xgn (by decide) (xgn (by decide) (xgn (by decide) (xgn (by decide) hw6))))) rfl ?_
  refine i_21_100 (x := a2) rfl ?_
  refine i_21_102 (xgn (by decide) (xgn (by decide) (xgn (by decide) (xgn (by decide) (xgn (by decide) hw16))))) (Nat.le_of_ble_eq_true rfl) (s_27_3 (xgs (xgn (by decide) (xgn (by decide) (xgn (by decide) (xgs hw11))))) (xgn (by decide) (xgs (xgs (xgn (by decide) (xgn (by decide) hw12))))) (xgn (by decide) (xgn (by decide) (xgn (by decide) (xgs (xgn (by decide) hw13))))) (xup_n (by decide) xup_s) hg17 (xgn e18 (xgn e19 (xgn e19 (xgn e20 (xgn e18 hw21))))) (xgn (by decide) (xgn (by decide) (xgn (by decide) (xgn (by decide) (xgn (by decide) hw16))))) e22 hg23 e24 e25 e26 e27 hg28 e29 (xgn e30 (xgn e31 (xgn e31 (xgn e32 (xgn e30 hw33))))) hg34 e35 (xgn e36 (xgn e37 (xgn e37 (xgn e38 (xgn e36 hw39))))) e40 xup_s e41 e42 e43 e44 e45 e46 e47 e48 e49 e50 e51 e52 e53 e54 e55 e56 e57 e58 e59 e60 e61 e62 e63) ?_
  exact i_21_105 ⟨rfl, rfl⟩
theorem s_20_3 {d : Nat} {w : xW} {a0 : Int32} {b0 : Int64} {a1 : Int32} {a2 : Int32} {g0 : Nat → Value} {h0 : Nat} {a3 : Int32} {h1 : Nat} {a4 : Int32} {h2 : Nat} (hw0 : w[7]? = some (Sum.inr (0, [Value.ref 8, Value.ref 78, Value.ref 9, Value.ref 10, Value.ref 13, Value.ref 16, Value.ref 19, Value.ref 93, Value.ref 108, Value.ref 113, Value.ref 29, Value.int 0]))) (e1 : 0 ≤ a0.toInt) (e2 : a0.toInt < 16) (e3 : (-40000) ≤ a1.toInt) (e4 : a1.toInt ≤ 40000) (e5 : 0 ≤ a2.toInt) (e6 : a2.toInt ≤ 4) (hw7 : w[8]? = some (Sum.inl (4, 16, g0))) (hg8 : g0 a0.toInt.toNat = Value.ref h0) (e9 : (lg_cmp b0 (0 : Int64)).toInt ≠ 0) (e10 : 0 ≤ (lg_cmp b0 (0 : Int64)).toInt) (hw11 : w[16]? = some (Sum.inr (4, [Value.int 0, Value.ref 17, Value.int 0, Value.int 0]))) (hw12 : w[17]? = some (Sum.inr (3, [Value.ref 18, Value.int 0]))) (hw13 : w[18]? = some (Sum.inl (0, 8, fun _ => Value.int 0))) (hg14 : (xhi b0) = 0) (e15 : (xlo b0).toInt ≠ 0) (hw16 : w[78]? = some (Sum.inr (1, [Value.int (-16384), Value.int 16384, Value.int 0, Value.int 0]))) (hg17 : ((32 : Int32) - (xnlz (xlo b0))) = a3) (e18 : 16 ≠ h0) (e19 : 17 ≠ h0) (e20 : 18 ≠ h0) (hw21 : w[h0]? = some (Sum.inr (2, [Value.int 64, Value.int 0, Value.int 0, Value.int 0, Value.ref h1]))) (e22 : (((a3 + a1) - (64 : Int32)) - a1).toInt ≤ 0) (hg23 : ((a3 + a1) - ((a3 + a1) - (64 : Int32))) = 64) (e24 : 7 ≤ h0) (e25 : h0 ≠ 16) (e26 : h0 ≠ 17) (e27 : h0 ≠ 18) (hg28 : ((64 : Int32) - a3) = a4) (e29 : h0 ≠ h1) (e30 : 16 ≠ h1) (e31 : 17 ≠ h1) (e32 : 18 ≠ h1) (hw33 : w[h1]? = some (Sum.inr (3, [Value.ref h2, Value.int 0]))) (hg34 : (a3 + a4) = 64) (e35 : h0 ≠ h2) (e36 : 16 ≠ h2) (e37 : 17 ≠ h2) (e38 : 18 ≠ h2) (hw39 : w[h2]? = some (Sum.inl (0, 8, fun _ => Value.int 0))) (e40 : 0 ≤ a4.toInt) (e41 : 7 ≤ h2) (e42 : h2 ≠ h1) (e43 : h2 ≠ 17) (e44 : h2 ≠ 18) (e45 : 7 ≤ h1) (e46 : h1 ≠ h0) (e47 : h2 ≠ h0) (e48 : h1 ≠ h2) (e49 : (xbf 1 (xlo b0) (0 : Int32) ((32 : Int32) - a4)).toInt ≠ 0) (e50 : ((64 : Int32) - (xnlz (xbf 1 (xlo b0) (0 : Int32) ((32 : Int32) - a4)))).toInt ≤ 64) (e51 : h1 ≠ 78) (e52 : h2 ≠ 78) (e53 : h0 ≠ 78) (e54 : 16384 < (a3 + a1).toInt) (e55 : h1 ≠ 16) (e56 : h2 ≠ 16) (e57 : a2.toInt ≠ 0) (e58 : a2.toInt ≠ 4) (e59 : a2.toInt ≠ 2) (e60 : a2.toInt = 3) (e61 : 78 ≠ h0) (e62 : 78 ≠ h1) (e63 : 78 ≠ h2) (e64 : h1 ≠ 194) (e65 : h2 ≠ 194) (e66 : h0 ≠ 194) (hw67 : w[194]? = some (Sum.inl (3, 1, fun _ => Value.long 0))) : xRun (d + 7) 20 [Value.ref 7, Value.int a0, Value.long b0, Value.int a1, Value.int a2, Value.ref 194] w (.inl (some (Value.int 0))) ((((((((((((((w.set 16 (Sum.inr (4, [Value.int 0, Value.ref 17, Value.int 0, Value.int 0]))).set 18 (Sum.inl (0, 8, xup (xup (fun _ => Value.int 0) (0 : Int32).toInt.toNat (Value.int (xlo b0))) (1 : Int32).toInt.toNat (Value.int 0)))).set 17 (Sum.inr (3, [Value.ref 18, Value.int 2]))).set 17 (Sum.inr (3, [Value.ref 18, Value.int 1]))).set 16 (Sum.inr (4, [Value.int 0, Value.ref 17, Value.int a1, Value.int 0]))).set h0 (Sum.inr (2, [Value.int 64, Value.int 3, Value.int 0, Value.int (a3 + a1), Value.ref h1]))).set h2 (Sum.inl (0, 8, xup (xup (fun _ => Value.int 0) (1 : Int32).toInt.toNat (Value.int (xbf 1 (xlo b0) (0 : Int32) ((32 : Int32) - a4)))) (0 : Int32).toInt.toNat (Value.int (xbf 1 (xlo b0) (0 : Int32) ((0 : Int32) - a4)))))).set h1 (Sum.inr (3, [Value.ref h2, Value.int 2]))).set 78 (Sum.inr (1, [Value.int (-16384), Value.int 16384, Value.int 0, Value.int 2]))).set h0 (Sum.inr (2, [Value.int 64, Value.int 3, Value.int 0, Value.int 16384, Value.ref h1]))).set h2 (Sum.inl (0, 8, xup (xup (xup (xup (xup (fun _ => Value.int 0) (1 : Int32).toInt.toNat (Value.int (xbf 1 (xlo b0) (0 : Int32) ((32 : Int32) - a4)))) (0 : Int32).toInt.toNat (Value.int (xbf 1 (xlo b0) (0 : Int32) ((0 : Int32) - a4)))) (0 : Int32).toInt.toNat (Value.int (-1))) (1 : Int32).toInt.toNat (Value.int (-1))) (1 : Int32).toInt.toNat (Value.int (-1))))).set h1 (Sum.inr (3, [Value.ref h2, Value.int 2]))).set 78 (Sum.inr (1, [Value.int (-16384), Value.int 16384, Value.int 0, Value.int 3]))).set 194 (Sum.inl (3, 1, xup (fun _ => Value.long 0) (0 : Int32).toInt.toNat (Value.long (-1))))) := by
  refine xRun.of ?_
  refine i_20_0 (x := 194) rfl ?_
  refine i_20_2 ?_
  refine i_20_3 (x := 7) rfl ?_
  refine i_20_4 (x := a0) rfl ?_
  refine i_20_5 (x := b0) rfl ?_
  refine i_20_6 (x := a1) rfl ?_
  refine i_20_8 (x := a2) rfl ?_
  refine i_20_10 hw0 (Nat.le_of_ble_eq_true rfl) (s_21_3 e1 e2 e3 e4 e5 e6 hw0 hw7 hg8 e9 e10 hw11 hw12 hw13 hg14 e15 hw16 hg17 e18 e19 e20 hw21 e22 hg23 e24 e25 e26 e27 hg28 e29 e30 e31 e32 hw33 hg34 e35 e36 e37 e38 hw39 e40 e41 e42 e43 e44 e45 e46 e47 e48 e49 e50 e51 e52 e53 e54 e55 e56 e57 e58 e59 e60 e61 e62 e63) ?_
  refine i_20_13 (c := (-1)) (by decide) ?_
  refine i_20_14 (v := Value.long (-1)) (xgn (by decide) (xgn e64 (xgn e65 (xgn e66 (xgn (by decide) (xgn e64 (xgn e65 (xgn e66 (xgn (by decide) (xgn (by decide) (xgn (by decide) (xgn (by decide) (xgn (by decide) hw67))))))))))))) (by decide) (by decide) (by decide) rfl ?_
  refine i_20_15 ?_
  refine i_20_22 ?_
  exact i_20_23 ⟨rfl, rfl⟩
theorem cn3_0_3 {d : Nat} {xs : Nat → Int32} {B K : Int32} (c0 : 0 ≤ (xs 1).toInt) (c1 : (xs 1).toInt < 16) (c2 : (-40000) ≤ (xs 4).toInt) (c3 : (xs 4).toInt ≤ 40000) (c4 : 0 ≤ (xs 5).toInt) (c5 : (xs 5).toInt ≤ 4) (c6 : (lg_cmp (xvv xs) (0 : Int64)).toInt ≠ 0) (c7 : 0 ≤ (lg_cmp (xvv xs) (0 : Int64)).toInt) (c8 : K.toInt = 64 - B.toInt) (c9 : 1 ≤ B.toInt) (c10 : B.toInt ≤ 32) (c11 : (xhi (xvv xs)).toInt = 0) (c12 : (xlo (xvv xs)).toInt ≠ 0) (c13 : (xnlz (xlo (xvv xs))).toInt = 32 - B.toInt) (c14 : (xbf 1 (xlo (xvv xs)) (0 : Int32) ((32 : Int32) - K)).toInt ≠ 0) (c15 : 16384 < (B + (xs 4)).toInt) (c16 : (xs 5).toInt ≠ 0) (c17 : (xs 5).toInt ≠ 4) (c18 : (xs 5).toInt ≠ 2) (c19 : (xs 5).toInt = 3) : ∃ w1, xRun (d + 18) 20 [Value.ref 7, Value.int (xs 1), Value.long (xvv xs), Value.int (xs 4), Value.int (xs 5), Value.ref 194] (W0 6 xs) (.inl (some (Value.int 0))) w1 ∧ xKp (W0 6 xs) w1 xPC ∧ w1[194]? = some (Sum.inl (3, 1, xup (fun _ => Value.long 0) (0 : Int32).toInt.toNat (Value.long (-1)))) := by
  have f0 : ((32 : Int32) - (xnlz (xlo (xvv xs)))).toInt = 32 - (xnlz (xlo (xvv xs))).toInt := xsub_g rfl rfl (by omega) (by omega)
  have f1 : (B + (xs 4)).toInt = B.toInt + (xs 4).toInt := xadd_i (by omega) (by omega)
  have f2 : ((B + (xs 4)) - (64 : Int32)).toInt = (B + (xs 4)).toInt - 64 := xsub_g rfl rfl (by omega) (by omega)
  have f3 : (((B + (xs 4)) - (64 : Int32)) - (xs 4)).toInt = ((B + (xs 4)) - (64 : Int32)).toInt - (xs 4).toInt := xsub_i (by omega) (by omega)
  have f4 : ((B + (xs 4)) - ((B + (xs 4)) - (64 : Int32))).toInt = (B + (xs 4)).toInt - ((B + (xs 4)) - (64 : Int32)).toInt := xsub_i (by omega) (by omega)
  have f5 : ((64 : Int32) - B).toInt = 64 - B.toInt := xsub_g rfl rfl (by omega) (by omega)
  have f6 : (B + K).toInt = B.toInt + K.toInt := xadd_i (by omega) (by omega)
  have f7 : 0 ≤ (xnlz (xbf 1 (xlo (xvv xs)) (0 : Int32) ((32 : Int32) - K))).toInt := (xnlz_b _).1
  have f8 : (xnlz (xbf 1 (xlo (xvv xs)) (0 : Int32) ((32 : Int32) - K))).toInt ≤ 32 := (xnlz_b _).2
  have f9 : ((64 : Int32) - (xnlz (xbf 1 (xlo (xvv xs)) (0 : Int32) ((32 : Int32) - K)))).toInt = 64 - (xnlz (xbf 1 (xlo (xvv xs)) (0 : Int32) ((32 : Int32) - K))).toInt := xsub_g rfl rfl (by omega) (by omega)
  refine ⟨(((((((((((((((W0 6 xs).set 16 (Sum.inr (4, [Value.int 0, Value.ref 17, Value.int 0, Value.int 0]))).set 18 (Sum.inl (0, 8, xup (xup (fun _ => Value.int 0) (0 : Int32).toInt.toNat (Value.int (xlo (xvv xs)))) (1 : Int32).toInt.toNat (Value.int 0)))).set 17 (Sum.inr (3, [Value.ref 18, Value.int 2]))).set 17 (Sum.inr (3, [Value.ref 18, Value.int 1]))).set 16 (Sum.inr (4, [Value.int 0, Value.ref 17, Value.int (xs 4), Value.int 0]))).set (30 + 3 * (xs 1).toInt.toNat) (Sum.inr (2, [Value.int 64, Value.int 3, Value.int 0, Value.int (B + (xs 4)), Value.ref (31 + 3 * (xs 1).toInt.toNat)]))).set (32 + 3 * (xs 1).toInt.toNat) (Sum.inl (0, 8, xup (xup (fun _ => Value.int 0) (1 : Int32).toInt.toNat (Value.int (xbf 1 (xlo (xvv xs)) (0 : Int32) ((32 : Int32) - K)))) (0 : Int32).toInt.toNat (Value.int (xbf 1 (xlo (xvv xs)) (0 : Int32) ((0 : Int32) - K)))))).set (31 + 3 * (xs 1).toInt.toNat) (Sum.inr (3, [Value.ref (32 + 3 * (xs 1).toInt.toNat), Value.int 2]))).set 78 (Sum.inr (1, [Value.int (-16384), Value.int 16384, Value.int 0, Value.int 2]))).set (30 + 3 * (xs 1).toInt.toNat) (Sum.inr (2, [Value.int 64, Value.int 3, Value.int 0, Value.int 16384, Value.ref (31 + 3 * (xs 1).toInt.toNat)]))).set (32 + 3 * (xs 1).toInt.toNat) (Sum.inl (0, 8, xup (xup (xup (xup (xup (fun _ => Value.int 0) (1 : Int32).toInt.toNat (Value.int (xbf 1 (xlo (xvv xs)) (0 : Int32) ((32 : Int32) - K)))) (0 : Int32).toInt.toNat (Value.int (xbf 1 (xlo (xvv xs)) (0 : Int32) ((0 : Int32) - K)))) (0 : Int32).toInt.toNat (Value.int (-1))) (1 : Int32).toInt.toNat (Value.int (-1))) (1 : Int32).toInt.toNat (Value.int (-1))))).set (31 + 3 * (xs 1).toInt.toNat) (Sum.inr (3, [Value.ref (32 + 3 * (xs 1).toInt.toNat), Value.int 2]))).set 78 (Sum.inr (1, [Value.int (-16384), Value.int 16384, Value.int 0, Value.int 3]))).set 194 (Sum.inl (3, 1, xup (fun _ => Value.long 0) (0 : Int32).toInt.toNat (Value.long (-1))))), (s_20_3 W0_7 (by omega) (by omega) (by omega) (by omega) (by omega) (by omega) W0_8 (greg_at (by omega)) (by omega) (by omega) W0_16 W0_17 W0_18 (show (xhi (xvv xs)) = 0 from (xge_c (n := 0) (by omega) rfl)) (by omega) W0_78 (show ((32 : Int32) - (xnlz (xlo (xvv xs)))) = B from (xge_i (by omega))) (by omega) (by omega) (by omega) (W0_reg (by omega)) (by omega) (show ((B + (xs 4)) - ((B + (xs 4)) - (64 : Int32))) = 64 from (xge_c (n := 64) (by omega) rfl)) (by omega) (by omega) (by omega) (by omega) (show ((64 : Int32) - B) = K from (xge_i (by omega))) (by omega) (by omega) (by omega) (by omega) (W0_man (by omega)) (show (B + K) = 64 from (xge_c (n := 64) (by omega) rfl)) (by omega) (by omega) (by omega) (by omega) (W0_mw (by omega)) (by omega) (by omega) (by omega) (by omega) (by omega) (by omega) (by omega) (by omega) (by omega) (by omega) (by omega) (by omega) (by omega) (by omega) (by omega) (by omega) (by omega) (by omega) (by omega) (by omega) (by omega) (by omega) (by omega) (by omega) (by omega) (by omega) (by omega) W0_194), ?_, xgs (xgn (by decide) (xgn (by omega) (xgn (by omega) (xgn (by omega) (xgn (by decide) (xgn (by omega) (xgn (by omega) (xgn (by omega) (xgn (by decide) (xgn (by decide) (xgn (by decide) (xgn (by decide) (xgn (by decide) W0_194)))))))))))))⟩
  refine xKp.set ?_ (fun h hh => by unfold xPC at hh; omega) (xgn (by decide) (xgn (by omega) (xgn (by omega) (xgn (by omega) (xgn (by decide) (xgn (by omega) (xgn (by omega) (xgn (by omega) (xgn (by decide) (xgn (by decide) (xgn (by decide) (xgn (by decide) (xgn (by decide) W0_194))))))))))))) xcs_a
  refine xKp.set ?_ (fun h hh => by unfold xPC at hh; omega) (xgn (by omega) (xgn (by omega) (xgn (by omega) (xgs (xgn (by omega) (xgn (by omega) (xgn (by omega) (xgn (by decide) (xgn (by decide) (xgn (by decide) (xgn (by decide) (xgn (by decide) W0_78)))))))))))) xcs_o
  refine xKp.set ?_ (fun h hh => by unfold xPC at hh; omega) (xgn (by omega) (xgn (by omega) (xgn (by omega) (xgs (xgn (by omega) (xgn (by omega) (xgn (by omega) (xgn (by omega) (xgn (by omega) (xgn (by omega) (xgn (by omega) (W0_man (by omega))))))))))))) xcs_o
  refine xKp.set ?_ (fun h hh => by unfold xPC at hh; omega) (xgn (by omega) (xgn (by omega) (xgn (by omega) (xgs (xgn (by omega) (xgn (by omega) (xgn (by omega) (xgn (by omega) (xgn (by omega) (xgn (by omega) (W0_mw (by omega)))))))))))) xcs_a
  refine xKp.set ?_ (fun h hh => by unfold xPC at hh; omega) (xgn (by omega) (xgn (by omega) (xgn (by omega) (xgs (xgn (by omega) (xgn (by omega) (xgn (by omega) (xgn (by omega) (xgn (by omega) (W0_reg (by omega))))))))))) xcs_o
  refine xKp.set ?_ (fun h hh => by unfold xPC at hh; omega) (xgn (by omega) (xgn (by omega) (xgn (by omega) (xgn (by decide) (xgn (by decide) (xgn (by decide) (xgn (by decide) (xgn (by decide) W0_78)))))))) xcs_o
  refine xKp.set ?_ (fun h hh => by unfold xPC at hh; omega) (xgn (by omega) (xgn (by omega) (xgn (by omega) (xgn (by omega) (xgn (by omega) (xgn (by omega) (xgn (by omega) (W0_man (by omega))))))))) xcs_o
  refine xKp.set ?_ (fun h hh => by unfold xPC at hh; omega) (xgn (by omega) (xgn (by omega) (xgn (by omega) (xgn (by omega) (xgn (by omega) (xgn (by omega) (W0_mw (by omega)))))))) xcs_a
  refine xKp.set ?_ (fun h hh => by unfold xPC at hh; omega) (xgn (by omega) (xgn (by omega) (xgn (by omega) (xgn (by omega) (xgn (by omega) (W0_reg (by omega))))))) xcs_o
  refine xKp.set ?_ (fun h hh => by unfold xPC at hh; omega) (xgn (by decide) (xgn (by decide) (xgn (by decide) (xgs W0_16)))) xcs_o
  refine xKp.set ?_ (fun h hh => by unfold xPC at hh; omega) (xgs (xgn (by decide) (xgn (by decide) W0_17))) xcs_o
  refine xKp.set ?_ (fun h hh => by unfold xPC at hh; omega) (xgn (by decide) (xgn (by decide) W0_17)) xcs_o
  refine xKp.set ?_ (fun h hh => by unfold xPC at hh; omega) (xgn (by decide) W0_18) xcs_a
  refine xKp.set ?_ (fun h hh => by unfold xPC at hh; omega) (W0_16) xcs_o
  exact xKp.refl
theorem s_37_3 {d : Nat} {w : xW} {a0 : Int32} (e0 : a0.toInt ≠ 4) (e1 : a0.toInt ≠ 2) (e2 : a0.toInt ≠ 3) : xRun d 37 [Value.int a0, Value.int 0] w (.inl (some (Value.int 0))) w := by
  refine xRun.of ?_
  refine i_37_0 (x := a0) rfl ?_
  refine i_37_1 ?_
  refine i_37_2 (fun h => absurd e0 (fun g => g h)) (fun _ => ?_)
  refine i_37_5 (x := a0) rfl ?_
  refine i_37_6 ?_
  refine i_37_7 (fun _ => ?_) (fun h => absurd e1 (fun g => g h))
  refine i_37_14 (x := a0) rfl ?_
  refine i_37_15 ?_
  refine i_37_16 (fun _ => ?_) (fun h => absurd e2 (fun g => g h))
  refine i_37_27 ?_
  exact i_37_28 rfl ⟨rfl, rfl⟩
theorem s_46_4 {d : Nat} {w : xW} {h0 : Nat} {a0 : Int32} {a1 : Int32} {h1 : Nat} {h2 : Nat} {g0 : Nat → Value} (hw0 : w[78]? = some (Sum.inr (1, [Value.int (-16384), Value.int 16384, Value.int 0, Value.int 0]))) (e1 : a0.toInt ≠ 0) (e2 : a0.toInt ≠ 4) (e3 : a0.toInt ≠ 2) (e4 : a0.toInt ≠ 3) (e5 : 78 ≠ h0) (hw6 : w[h0]? = some (Sum.inr (2, [Value.int 64, Value.int 3, Value.int 0, Value.int a1, Value.ref h1]))) (e7 : 7 ≤ h0) (e8 : h0 ≠ h1) (e9 : 78 ≠ h1) (hw10 : w[h1]? = some (Sum.inr (3, [Value.ref h2, Value.int 2]))) (e11 : h0 ≠ h2) (e12 : 78 ≠ h2) (hw13 : w[h2]? = some (Sum.inl (0, 8, g0))) (e14 : 7 ≤ h2) (e15 : h2 ≠ h1) (e16 : 7 ≤ h1) : xRun (d + 4) 46 [Value.ref 78, Value.ref h0, Value.int 0, Value.int a0] w (.inl (some (Value.int (-1)))) ((((w.set 78 (Sum.inr (1, [Value.int (-16384), Value.int 16384, Value.int 0, Value.int 2]))).set h0 (Sum.inr (2, [Value.int 64, Value.int 3, Value.int 0, Value.int 16384, Value.ref h1]))).set h2 (Sum.inl (0, 8, xup (xup (xup g0 (0 : Int32).toInt.toNat (Value.int (-1))) (1 : Int32).toInt.toNat (Value.int (-1))) (1 : Int32).toInt.toNat (Value.int (-1))))).set h1 (Sum.inr (3, [Value.ref h2, Value.int 2]))) := by
  refine xRun.of ?_
  refine i_46_0 (x := 78) rfl ?_
  refine i_46_1 rfl ?_
  refine i_46_2 (v := Value.int 0) hw0 rfl ?_
  refine i_46_5 ?_
  refine i_46_6 (c := 2) (by decide) ?_
  refine i_46_7 (fs2 := [Value.int (-16384), Value.int 16384, Value.int 0, Value.int 2]) hw0 (Nat.le_of_ble_eq_true rfl) rfl (by decide) ?_
  refine i_46_10 (x := a0) rfl ?_
  refine i_46_11 (fun h => absurd e1 (fun g => g h)) (fun _ => ?_)
  refine i_46_14 (x := a0) rfl ?_
  refine i_46_15 (x := 0) rfl ?_
  refine i_46_16 (Nat.le_of_ble_eq_true rfl) (s_37_3 e2 e3 e4) ?_
  refine i_46_19 (fun _ => ?_) (fun h => absurd h (by decide))
  refine i_46_30 (x := h0) rfl ?_
  refine i_46_31 (x := 0) rfl ?_
  refine i_46_32 (x := 78) rfl ?_
  refine i_46_33 (v := Value.int 16384) (xgs hw0) rfl ?_
  refine i_46_36 (xgn e5 hw6) (Nat.le_of_ble_eq_true rfl) (s_48_0 (xgn e5 hw6) e7 e8 (xgn e9 hw10) e11 (xgn e12 hw13) e14 e15 e16) ?_
  refine i_46_39 ?_
  exact i_46_40 ⟨rfl, rfl⟩
theorem s_27_4 {d : Nat} {w : xW} {h0 : Nat} {a0 : Int32} {a1 : Int32} {g0 : Nat → Value} {a2 : Int32} {a3 : Int32} {h1 : Nat} {a4 : Int32} {h2 : Nat} (hw0 : w[16]? = some (Sum.inr (4, [Value.int 0, Value.ref 17, Value.int a1, Value.int 0]))) (hw1 : w[17]? = some (Sum.inr (3, [Value.ref 18, Value.int 1]))) (hw2 : w[18]? = some (Sum.inl (0, 8, g0))) (hg3 : g0 (0 : Int32).toInt.toNat = Value.int a2) (hg4 : ((32 : Int32) - (xnlz a2)) = a3) (hw5 : w[h0]? = some (Sum.inr (2, [Value.int 64, Value.int 0, Value.int 0, Value.int 0, Value.ref h1]))) (hw6 : w[78]? = some (Sum.inr (1, [Value.int (-16384), Value.int 16384, Value.int 0, Value.int 0]))) (e7 : (((a3 + a1) - (64 : Int32)) - a1).toInt ≤ 0) (hg8 : ((a3 + a1) - ((a3 + a1) - (64 : Int32))) = 64) (e9 : 7 ≤ h0) (e10 : h0 ≠ 16) (e11 : h0 ≠ 17) (e12 : h0 ≠ 18) (hg13 : ((64 : Int32) - a3) = a4) (e14 : h0 ≠ h1) (hw15 : w[h1]? = some (Sum.inr (3, [Value.ref h2, Value.int 0]))) (hg16 : (a3 + a4) = 64) (e17 : h0 ≠ h2) (hw18 : w[h2]? = some (Sum.inl (0, 8, fun _ => Value.int 0))) (e19 : 0 ≤ a4.toInt) (hg20 : g0 (1 : Int32).toInt.toNat = Value.int 0) (e21 : 7 ≤ h2) (e22 : h2 ≠ h1) (e23 : h2 ≠ 17) (e24 : h2 ≠ 18) (e25 : 7 ≤ h1) (e26 : h1 ≠ h0) (e27 : h2 ≠ h0) (e28 : h1 ≠ h2) (e29 : (xbf 1 a2 (0 : Int32) ((32 : Int32) - a4)).toInt ≠ 0) (e30 : ((64 : Int32) - (xnlz (xbf 1 a2 (0 : Int32) ((32 : Int32) - a4)))).toInt ≤ 64) (e31 : h1 ≠ 78) (e32 : h2 ≠ 78) (e33 : h0 ≠ 78) (e34 : 16384 < (a3 + a1).toInt) (e35 : h1 ≠ 16) (e36 : h2 ≠ 16) (e37 : a0.toInt ≠ 0) (e38 : a0.toInt ≠ 4) (e39 : a0.toInt ≠ 2) (e40 : a0.toInt ≠ 3) (e41 : 78 ≠ h0) (e42 : 78 ≠ h1) (e43 : 78 ≠ h2) : xRun (d + 5) 27 [Value.ref 78, Value.ref h0, Value.ref 16, Value.int a0] w (.inl (some (Value.int (-1)))) ((((((((w.set h0 (Sum.inr (2, [Value.int 64, Value.int 3, Value.int 0, Value.int (a3 + a1), Value.ref h1]))).set h2 (Sum.inl (0, 8, xup (xup (fun _ => Value.int 0) (1 : Int32).toInt.toNat (Value.int (xbf 1 a2 (0 : Int32) ((32 : Int32) - a4)))) (0 : Int32).toInt.toNat (Value.int (xbf 1 a2 (0 : Int32) ((0 : Int32) - a4)))))).set h1 (Sum.inr (3, [Value.ref h2, Value.int 2]))).set 78 (Sum.inr (1, [Value.int (-16384), Value.int 16384, Value.int 0, Value.int 2]))).set h0 (Sum.inr (2, [Value.int 64, Value.int 3, Value.int 0, Value.int 16384, Value.ref h1]))).set h2 (Sum.inl (0, 8, xup (xup (xup (xup (xup (fun _ => Value.int 0) (1 : Int32).toInt.toNat (Value.int (xbf 1 a2 (0 : Int32) ((32 : Int32) - a4)))) (0 : Int32).toInt.toNat (Value.int (xbf 1 a2 (0 : Int32) ((0 : Int32) - a4)))) (0 : Int32).toInt.toNat (Value.int (-1))) (1 : Int32).toInt.toNat (Value.int (-1))) (1 : Int32).toInt.toNat (Value.int (-1))))).set h1 (Sum.inr (3, [Value.ref h2, Value.int 2]))).set 78 (Sum.inr (1, [Value.int (-16384), Value.int 16384, Value.int 0, Value.int 3]))) := by
  refine xRun.of ?_
  refine i_27_0 (x := 16) rfl ?_
  refine i_27_1 hw0 (Nat.le_of_ble_eq_true rfl) (s_28_0 hw0 hw1 hw2 hg3 hg4) ?_
  refine i_27_4 (lv2 := [(4, Value.int (a3 + a1)), (0, Value.ref 78), (1, Value.ref h0), (2, Value.ref 16), (3, Value.int a0)]) rfl ?_
  refine i_27_6 (x := 78) rfl ?_
  refine i_27_7 (x := (a3 + a1)) rfl ?_
  refine i_27_9 (x := h0) rfl ?_
  refine i_27_10 (v := Value.int 64) hw5 rfl ?_
  refine i_27_13 hw6 (Nat.le_of_ble_eq_true rfl) (s_30_0 hw6) ?_
  refine i_27_16 (lv2 := [(5, Value.int ((a3 + a1) - (64 : Int32))), (4, Value.int (a3 + a1)), (0, Value.ref 78), (1, Value.ref h0), (2, Value.ref 16), (3, Value.int a0)]) rfl ?_
  refine i_27_18 (x := 16) rfl ?_
  refine i_27_19 (x := ((a3 + a1) - (64 : Int32))) rfl ?_
  refine i_27_21 (x := a0) rfl ?_
  refine i_27_22 hw0 (Nat.le_of_ble_eq_true rfl) (s_31_0 hw0 hw1 e7) ?_
  refine i_27_25 (lv2 := [(6, Value.int 0), (5, Value.int ((a3 + a1) - (64 : Int32))), (4, Value.int (a3 + a1)), (0, Value.ref 78), (1, Value.ref h0), (2, Value.ref 16), (3, Value.int a0)]) rfl ?_
  refine i_27_27 (x := 16) rfl ?_
  refine i_27_28 (x := ((a3 + a1) - (64 : Int32))) rfl ?_
  refine i_27_30 hw0 (Nat.le_of_ble_eq_true rfl) (s_32_0 hw0 hw1 e7) ?_
  refine i_27_33 (fun h => absurd h (by decide)) (fun _ => ?_)
  refine i_27_36 ?_
  refine i_27_37 ?_
  refine i_27_50 (lv2 := [(7, Value.int 0), (6, Value.int 0), (5, Value.int ((a3 + a1) - (64 : Int32))), (4, Value.int (a3 + a1)), (0, Value.ref 78), (1, Value.ref h0), (2, Value.ref 16), (3, Value.int a0)]) rfl ?_
  refine i_27_52 (x := h0) rfl ?_
  refine i_27_53 (x := 16) rfl ?_
  refine i_27_54 (x := ((a3 + a1) - (64 : Int32))) rfl ?_
  refine i_27_56 (x := 0) rfl ?_
  refine i_27_58 hw5 (Nat.le_of_ble_eq_true rfl) (s_38_0 hw0 hw1 hw2 hg3 hg4 hg8 hw5 e9 e10 e11 e12 hg13 e14 hw15 hg16 e17 hw18 e19 hg20 e21 e22 e23 e24 e25 e26 e27 e28 e29 e30) ?_
  refine i_27_61 (x := h0) rfl ?_
  refine i_27_62 (v := Value.int 3) (xgn e26 (xgn e27 (xgs hw5))) rfl ?_
  refine i_27_65 ?_
  refine i_27_66 (fun h => absurd h (by decide)) (fun _ => ?_)
  refine i_27_69 (x := h0) rfl ?_
  refine i_27_70 (v := Value.int (a3 + a1)) (xgn e26 (xgn e27 (xgs hw5))) rfl ?_
  refine i_27_73 (x := 78) rfl ?_
  refine i_27_74 (v := Value.int 16384) (xgn e31 (xgn e32 (xgn e33 hw6))) rfl ?_
  refine i_27_77 (fun h => absurd e34 (Int.not_lt.mpr h)) (fun _ => ?_)
  refine i_27_80 (x := 78) rfl ?_
  refine i_27_81 (x := h0) rfl ?_
  refine i_27_82 (x := 16) rfl ?_
  refine i_27_83 (v := Value.int 0) (xgn e35 (xgn e36 (xgn e10 hw0))) rfl ?_
  refine i_27_86 (x := a0) rfl ?_
  refine i_27_87 (xgn e31 (xgn e32 (xgn e33 hw6))) (Nat.le_of_ble_eq_true rfl) (s_46_4 (xgn e31 (xgn e32 (xgn e33 hw6))) e37 e38 e39 e40 e41 (xgn e26 (xgn e27 (xgs hw5))) e9 e14 e42 (xgs (xgn e22 (xgn e14 hw15))) e17 e43 (xgn e28 (xgs (xgn e17 hw18))) e21 e22 e25) ?_
  refine i_27_90 (lv2 := [(7, Value.int (-1)), (6, Value.int 0), (5, Value.int ((a3 + a1) - (64 : Int32))), (4, Value.int (a3 + a1)), (0, Value.ref 78), (1, Value.ref h0), (2, Value.ref 16), (3, Value.int a0)]) rfl ?_
  refine i_27_92 ?_
  refine i_27_164 (x := (-1)) rfl ?_
  refine i_27_166 (fun h => absurd h (by decide)) (fun _ => ?_)
  refine i_27_169 (x := 78) rfl ?_
  refine i_27_170 rfl ?_
  refine i_27_171 (v := Value.int 2) (xgn e31 (xgn e32 (xgn e33 (xgs (xgn e31 (xgn e32 (xgn e33 hw6))))))) rfl ?_
  refine i_27_174 ?_
  refine i_27_175 (c := 3) (by decide) ?_
  refine i_27_176 (fs2 := [Value.int (-16384), Value.int 16384, Value.int 0, Value.int 3]) (xgn e31 (xgn e32 (xgn e33 (xgs (xgn e31 (xgn e32 (xgn e33 hw6))))))) (Nat.le_of_ble_eq_true rfl) rfl (by decide) ?_
  refine i_27_179 (x := 16) rfl ?_
  refine i_27_180 (v := Value.int 0) (xgn (by decide) (xgn e35 (xgn e36 (xgn e10 (xgn (by decide) (xgn e35 (xgn e36 (xgn e10 hw0)))))))) rfl ?_
  refine i_27_183 (fun _ => ?_) (fun h => absurd h (by decide))
  refine i_27_192 (x := (-1)) rfl ?_
  exact i_27_194 ⟨rfl, rfl⟩
theorem s_21_4 {d : Nat} {w : xW} {a0 : Int32} {b0 : Int64} {a1 : Int32} {a2 : Int32} {g0 : Nat → Value} {h0 : Nat} {a3 : Int32} {h1 : Nat} {a4 : Int32} {h2 : Nat} (e0 : 0 ≤ a0.toInt) (e1 : a0.toInt < 16) (e2 : (-40000) ≤ a1.toInt) (e3 : a1.toInt ≤ 40000) (e4 : 0 ≤ a2.toInt) (e5 : a2.toInt ≤ 4) (hw6 : w[7]? = some (Sum.inr (0, [Value.ref 8, Value.ref 78, Value.ref 9, Value.ref 10, Value.ref 13, Value.ref 16, Value.ref 19, Value.ref 93, Value.ref 108, Value.ref 113, Value.ref 29, Value.int 0]))) (hw7 : w[8]? = some (Sum.inl (4, 16, g0))) (hg8 : g0 a0.toInt.toNat = Value.ref h0) (e9 : (lg_cmp b0 (0 : Int64)).toInt ≠ 0) (e10 : 0 ≤ (lg_cmp b0 (0 : Int64)).toInt) (hw11 : w[16]? = some (Sum.inr (4, [Value.int 0, Value.ref 17, Value.int 0, Value.int 0]))) (hw12 : w[17]? = some (Sum.inr (3, [Value.ref 18, Value.int 0]))) (hw13 : w[18]? = some (Sum.inl (0, 8, fun _ => Value.int 0))) (hg14 : (xhi b0) = 0) (e15 : (xlo b0).toInt ≠ 0) (hw16 : w[78]? = some (Sum.inr (1, [Value.int (-16384), Value.int 16384, Value.int 0, Value.int 0]))) (hg17 : ((32 : Int32) - (xnlz (xlo b0))) = a3) (e18 : 16 ≠ h0) (e19 : 17 ≠ h0) (e20 : 18 ≠ h0) (hw21 : w[h0]? = some (Sum.inr (2, [Value.int 64, Value.int 0, Value.int 0, Value.int 0, Value.ref h1]))) (e22 : (((a3 + a1) - (64 : Int32)) - a1).toInt ≤ 0) (hg23 : ((a3 + a1) - ((a3 + a1) - (64 : Int32))) = 64) (e24 : 7 ≤ h0) (e25 : h0 ≠ 16) (e26 : h0 ≠ 17) (e27 : h0 ≠ 18) (hg28 : ((64 : Int32) - a3) = a4) (e29 : h0 ≠ h1) (e30 : 16 ≠ h1) (e31 : 17 ≠ h1) (e32 : 18 ≠ h1) (hw33 : w[h1]? = some (Sum.inr (3, [Value.ref h2, Value.int 0]))) (hg34 : (a3 + a4) = 64) (e35 : h0 ≠ h2) (e36 : 16 ≠ h2) (e37 : 17 ≠ h2) (e38 : 18 ≠ h2) (hw39 : w[h2]? = some (Sum.inl (0, 8, fun _ => Value.int 0))) (e40 : 0 ≤ a4.toInt) (e41 : 7 ≤ h2) (e42 : h2 ≠ h1) (e43 : h2 ≠ 17) (e44 : h2 ≠ 18) (e45 : 7 ≤ h1) (e46 : h1 ≠ h0) (e47 : h2 ≠ h0) (e48 : h1 ≠ h2) (e49 : (xbf 1 (xlo b0) (0 : Int32) ((32 : Int32) - a4)).toInt ≠ 0) (e50 : ((64 : Int32) - (xnlz (xbf 1 (xlo b0) (0 : Int32) ((32 : Int32) - a4)))).toInt ≤ 64) (e51 : h1 ≠ 78) (e52 : h2 ≠ 78) (e53 : h0 ≠ 78) (e54 : 16384 < (a3 + a1).toInt) (e55 : h1 ≠ 16) (e56 : h2 ≠ 16) (e57 : a2.toInt ≠ 0) (e58 : a2.toInt ≠ 4) (e59 : a2.toInt ≠ 2) (e60 : a2.toInt ≠ 3) (e61 : 78 ≠ h0) (e62 : 78 ≠ h1) (e63 : 78 ≠ h2) : xRun (d + 6) 21 [Value.ref 7, Value.int a0, Value.long b0, Value.int a1, Value.int a2] w (.inl (some (Value.int (-1)))) (((((((((((((w.set 16 (Sum.inr (4, [Value.int 0, Value.ref 17, Value.int 0, Value.int 0]))).set 18 (Sum.inl (0, 8, xup (xup (fun _ => Value.int 0) (0 : Int32).toInt.toNat (Value.int (xlo b0))) (1 : Int32).toInt.toNat (Value.int 0)))).set 17 (Sum.inr (3, [Value.ref 18, Value.int 2]))).set 17 (Sum.inr (3, [Value.ref 18, Value.int 1]))).set 16 (Sum.inr (4, [Value.int 0, Value.ref 17, Value.int a1, Value.int 0]))).set h0 (Sum.inr (2, [Value.int 64, Value.int 3, Value.int 0, Value.int (a3 + a1), Value.ref h1]))).set h2 (Sum.inl (0, 8, xup (xup (fun _ => Value.int 0) (1 : Int32).toInt.toNat (Value.int (xbf 1 (xlo b0) (0 : Int32) ((32 : Int32) - a4)))) (0 : Int32).toInt.toNat (Value.int (xbf 1 (xlo b0) (0 : Int32) ((0 : Int32) - a4)))))).set h1 (Sum.inr (3, [Value.ref h2, Value.int 2]))).set 78 (Sum.inr (1, [Value.int (-16384), Value.int 16384, Value.int 0, Value.int 2]))).set h0 (Sum.inr (2, [Value.int 64, Value.int 3, Value.int 0, Value.int 16384, Value.ref h1]))).set h2 (Sum.inl (0, 8, xup (xup (xup (xup (xup (fun _ => Value.int 0) (1 : Int32).toInt.toNat (Value.int (xbf 1 (xlo b0) (0 : Int32) ((32 : Int32) - a4)))) (0 : Int32).toInt.toNat (Value.int (xbf 1 (xlo b0) (0 : Int32) ((0 : Int32) - a4)))) (0 : Int32).toInt.toNat (Value.int (-1))) (1 : Int32).toInt.toNat (Value.int (-1))) (1 : Int32).toInt.toNat (Value.int (-1))))).set h1 (Sum.inr (3, [Value.ref h2, Value.int 2]))).set 78 (Sum.inr (1, [Value.int (-16384), Value.int 16384, Value.int 0, Value.int 3]))) := by
  refine xRun.of ?_
  refine i_21_0 (x := a0) rfl ?_
  refine i_21_1 (Nat.le_of_ble_eq_true rfl) (s_15_0 e0 e1) ?_
  refine i_21_4 (fun h => absurd h (by decide)) (fun _ => ?_)
  refine i_21_7 (x := a1) rfl ?_
  refine i_21_9 ?_
  refine i_21_11 (fun h => absurd e2 (Int.not_le.mpr h)) (fun _ => ?_)
  refine i_21_14 (x := a1) rfl ?_
  refine i_21_16 ?_
  refine i_21_18 (fun h => absurd e3 (Int.not_le.mpr h)) (fun _ => ?_)
  refine i_21_21 (x := a2) rfl ?_
  refine i_21_23 (Nat.le_of_ble_eq_true rfl) (s_22_0 e4 e5) ?_
  refine i_21_26 (fun _ => ?_) (fun h => absurd h (by decide))
  refine i_21_37 (x := 7) rfl ?_
  refine i_21_38 (v := Value.ref 8) hw6 rfl ?_
  refine i_21_41 (x := a0) rfl ?_
  refine i_21_42 (v := Value.ref h0) hw7 e0 e1 hg8 ?_
  refine i_21_43 (lv2 := [(6, Value.ref h0), (0, Value.ref 7), (1, Value.int a0), (2, Value.long b0), (4, Value.int a1), (5, Value.int a2)]) rfl ?_
  refine i_21_45 (x := b0) rfl ?_
  refine i_21_46 ?_
  refine i_21_47 (c := (lg_cmp b0 (0 : Int64))) rfl ?_
  refine i_21_48 (fun _ => ?_) (fun h => absurd e9 (fun g => g h))
  refine i_21_58 (x := 7) rfl ?_
  refine i_21_59 (v := Value.ref 16) hw6 rfl ?_
  refine i_21_62 (x := b0) rfl ?_
  refine i_21_63 ?_
  refine i_21_64 (c := (lg_cmp b0 (0 : Int64))) rfl ?_
  refine i_21_65 (fun _ => ?_) (fun h => absurd e10 (Int.not_le.mpr h))
  refine i_21_72 ?_
  refine i_21_73 (x := b0) rfl ?_
  refine i_21_74 ?_
  refine i_21_75 (c := (lg_cmp b0 (0 : Int64))) rfl ?_
  refine i_21_76 (fun _ => ?_) (fun h => absurd e10 (Int.not_le.mpr h))
  refine i_21_84 (x := b0) rfl ?_
  refine i_21_85 (x := a1) rfl ?_
  refine i_21_87 hw11 (Nat.le_of_ble_eq_true rfl) (s_24_0 hw11 hw12 hw13 hg14 e15) ?_
  refine i_21_90 (x := 7) rfl ?_
  refine i_21_91 (v := Value.ref 78) (xgn (by decide) (xgn (by decide) (xgn (by decide) (xgn (by decide) (xgn (by decide) hw6))))) rfl ?_
  refine i_21_94 (x := h0) rfl ?_
  refine i_21_96 (x := 7) rfl ?_
  refine i_21_97 (v := Value.ref 16) (xgn (by decide) (xgn (by decide) (xgn (by decide) (xgn (by decide) (xgn (by decide) hw6))))) rfl ?_
  refine i_21_100 (x := a2) rfl ?_
  refine i_21_102 (xgn (by decide) (xgn (by decide) (xgn (by decide) (xgn (by decide) (xgn (by decide) hw16))))) (Nat.le_of_ble_eq_true rfl) (s_27_4 (xgs (xgn (by decide) (xgn (by decide) (xgn (by decide) (xgs hw11))))) (xgn (by decide) (xgs (xgs (xgn (by decide) (xgn (by decide) hw12))))) (xgn (by decide) (xgn (by decide) (xgn (by decide) (xgs (xgn (by decide) hw13))))) (xup_n (by decide) xup_s) hg17 (xgn e18 (xgn e19 (xgn e19 (xgn e20 (xgn e18 hw21))))) (xgn (by decide) (xgn (by decide) (xgn (by decide) (xgn (by decide) (xgn (by decide) hw16))))) e22 hg23 e24 e25 e26 e27 hg28 e29 (xgn e30 (xgn e31 (xgn e31 (xgn e32 (xgn e30 hw33))))) hg34 e35 (xgn e36 (xgn e37 (xgn e37 (xgn e38 (xgn e36 hw39))))) e40 xup_s e41 e42 e43 e44 e45 e46 e47 e48 e49 e50 e51 e52 e53 e54 e55 e56 e57 e58 e59 e60 e61 e62 e63) ?_
  exact i_21_105 ⟨rfl, rfl⟩
theorem s_20_4 {d : Nat} {w : xW} {a0 : Int32} {b0 : Int64} {a1 : Int32} {a2 : Int32} {g0 : Nat → Value} {h0 : Nat} {a3 : Int32} {h1 : Nat} {a4 : Int32} {h2 : Nat} (hw0 : w[7]? = some (Sum.inr (0, [Value.ref 8, Value.ref 78, Value.ref 9, Value.ref 10, Value.ref 13, Value.ref 16, Value.ref 19, Value.ref 93, Value.ref 108, Value.ref 113, Value.ref 29, Value.int 0]))) (e1 : 0 ≤ a0.toInt) (e2 : a0.toInt < 16) (e3 : (-40000) ≤ a1.toInt) (e4 : a1.toInt ≤ 40000) (e5 : 0 ≤ a2.toInt) (e6 : a2.toInt ≤ 4) (hw7 : w[8]? = some (Sum.inl (4, 16, g0))) (hg8 : g0 a0.toInt.toNat = Value.ref h0) (e9 : (lg_cmp b0 (0 : Int64)).toInt ≠ 0) (e10 : 0 ≤ (lg_cmp b0 (0 : Int64)).toInt) (hw11 : w[16]? = some (Sum.inr (4, [Value.int 0, Value.ref 17, Value.int 0, Value.int 0]))) (hw12 : w[17]? = some (Sum.inr (3, [Value.ref 18, Value.int 0]))) (hw13 : w[18]? = some (Sum.inl (0, 8, fun _ => Value.int 0))) (hg14 : (xhi b0) = 0) (e15 : (xlo b0).toInt ≠ 0) (hw16 : w[78]? = some (Sum.inr (1, [Value.int (-16384), Value.int 16384, Value.int 0, Value.int 0]))) (hg17 : ((32 : Int32) - (xnlz (xlo b0))) = a3) (e18 : 16 ≠ h0) (e19 : 17 ≠ h0) (e20 : 18 ≠ h0) (hw21 : w[h0]? = some (Sum.inr (2, [Value.int 64, Value.int 0, Value.int 0, Value.int 0, Value.ref h1]))) (e22 : (((a3 + a1) - (64 : Int32)) - a1).toInt ≤ 0) (hg23 : ((a3 + a1) - ((a3 + a1) - (64 : Int32))) = 64) (e24 : 7 ≤ h0) (e25 : h0 ≠ 16) (e26 : h0 ≠ 17) (e27 : h0 ≠ 18) (hg28 : ((64 : Int32) - a3) = a4) (e29 : h0 ≠ h1) (e30 : 16 ≠ h1) (e31 : 17 ≠ h1) (e32 : 18 ≠ h1) (hw33 : w[h1]? = some (Sum.inr (3, [Value.ref h2, Value.int 0]))) (hg34 : (a3 + a4) = 64) (e35 : h0 ≠ h2) (e36 : 16 ≠ h2) (e37 : 17 ≠ h2) (e38 : 18 ≠ h2) (hw39 : w[h2]? = some (Sum.inl (0, 8, fun _ => Value.int 0))) (e40 : 0 ≤ a4.toInt) (e41 : 7 ≤ h2) (e42 : h2 ≠ h1) (e43 : h2 ≠ 17) (e44 : h2 ≠ 18) (e45 : 7 ≤ h1) (e46 : h1 ≠ h0) (e47 : h2 ≠ h0) (e48 : h1 ≠ h2) (e49 : (xbf 1 (xlo b0) (0 : Int32) ((32 : Int32) - a4)).toInt ≠ 0) (e50 : ((64 : Int32) - (xnlz (xbf 1 (xlo b0) (0 : Int32) ((32 : Int32) - a4)))).toInt ≤ 64) (e51 : h1 ≠ 78) (e52 : h2 ≠ 78) (e53 : h0 ≠ 78) (e54 : 16384 < (a3 + a1).toInt) (e55 : h1 ≠ 16) (e56 : h2 ≠ 16) (e57 : a2.toInt ≠ 0) (e58 : a2.toInt ≠ 4) (e59 : a2.toInt ≠ 2) (e60 : a2.toInt ≠ 3) (e61 : 78 ≠ h0) (e62 : 78 ≠ h1) (e63 : 78 ≠ h2) (e64 : h1 ≠ 194) (e65 : h2 ≠ 194) (e66 : h0 ≠ 194) (hw67 : w[194]? = some (Sum.inl (3, 1, fun _ => Value.long 0))) : xRun (d + 7) 20 [Value.ref 7, Value.int a0, Value.long b0, Value.int a1, Value.int a2, Value.ref 194] w (.inl (some (Value.int 0))) ((((((((((((((w.set 16 (Sum.inr (4, [Value.int 0, Value.ref 17, Value.int 0, Value.int 0]))).set 18 (Sum.inl (0, 8, xup (xup (fun _ => Value.int 0) (0 : Int32).toInt.toNat (Value.int (xlo b0))) (1 : Int32).toInt.toNat (Value.int 0)))).set 17 (Sum.inr (3, [Value.ref 18, Value.int 2]))).set 17 (Sum.inr (3, [Value.ref 18, Value.int 1]))).set 16 (Sum.inr (4, [Value.int 0, Value.ref 17, Value.int a1, Value.int 0]))).set h0 (Sum.inr (2, [Value.int 64, Value.int 3, Value.int 0, Value.int (a3 + a1), Value.ref h1]))).set h2 (Sum.inl (0, 8, xup (xup (fun _ => Value.int 0) (1 : Int32).toInt.toNat (Value.int (xbf 1 (xlo b0) (0 : Int32) ((32 : Int32) - a4)))) (0 : Int32).toInt.toNat (Value.int (xbf 1 (xlo b0) (0 : Int32) ((0 : Int32) - a4)))))).set h1 (Sum.inr (3, [Value.ref h2, Value.int 2]))).set 78 (Sum.inr (1, [Value.int (-16384), Value.int 16384, Value.int 0, Value.int 2]))).set h0 (Sum.inr (2, [Value.int 64, Value.int 3, Value.int 0, Value.int 16384, Value.ref h1]))).set h2 (Sum.inl (0, 8, xup (xup (xup (xup (xup (fun _ => Value.int 0) (1 : Int32).toInt.toNat (Value.int (xbf 1 (xlo b0) (0 : Int32) ((32 : Int32) - a4)))) (0 : Int32).toInt.toNat (Value.int (xbf 1 (xlo b0) (0 : Int32) ((0 : Int32) - a4)))) (0 : Int32).toInt.toNat (Value.int (-1))) (1 : Int32).toInt.toNat (Value.int (-1))) (1 : Int32).toInt.toNat (Value.int (-1))))).set h1 (Sum.inr (3, [Value.ref h2, Value.int 2]))).set 78 (Sum.inr (1, [Value.int (-16384), Value.int 16384, Value.int 0, Value.int 3]))).set 194 (Sum.inl (3, 1, xup (fun _ => Value.long 0) (0 : Int32).toInt.toNat (Value.long (-1))))) := by
  refine xRun.of ?_
  refine i_20_0 (x := 194) rfl ?_
  refine i_20_2 ?_
  refine i_20_3 (x := 7) rfl ?_
  refine i_20_4 (x := a0) rfl ?_
  refine i_20_5 (x := b0) rfl ?_
  refine i_20_6 (x := a1) rfl ?_
  refine i_20_8 (x := a2) rfl ?_
  refine i_20_10 hw0 (Nat.le_of_ble_eq_true rfl) (s_21_4 e1 e2 e3 e4 e5 e6 hw0 hw7 hg8 e9 e10 hw11 hw12 hw13 hg14 e15 hw16 hg17 e18 e19 e20 hw21 e22 hg23 e24 e25 e26 e27 hg28 e29 e30 e31 e32 hw33 hg34 e35 e36 e37 e38 hw39 e40 e41 e42 e43 e44 e45 e46 e47 e48 e49 e50 e51 e52 e53 e54 e55 e56 e57 e58 e59 e60 e61 e62 e63) ?_
  refine i_20_13 (c := (-1)) (by decide) ?_
  refine i_20_14 (v := Value.long (-1)) (xgn (by decide) (xgn e64 (xgn e65 (xgn e66 (xgn (by decide) (xgn e64 (xgn e65 (xgn e66 (xgn (by decide) (xgn (by decide) (xgn (by decide) (xgn (by decide) (xgn (by decide) hw67))))))))))))) (by decide) (by decide) (by decide) rfl ?_
  refine i_20_15 ?_
  refine i_20_22 ?_
  exact i_20_23 ⟨rfl, rfl⟩
theorem cn3_0_4 {d : Nat} {xs : Nat → Int32} {B K : Int32} (c0 : 0 ≤ (xs 1).toInt) (c1 : (xs 1).toInt < 16) (c2 : (-40000) ≤ (xs 4).toInt) (c3 : (xs 4).toInt ≤ 40000) (c4 : 0 ≤ (xs 5).toInt) (c5 : (xs 5).toInt ≤ 4) (c6 : (lg_cmp (xvv xs) (0 : Int64)).toInt ≠ 0) (c7 : 0 ≤ (lg_cmp (xvv xs) (0 : Int64)).toInt) (c8 : K.toInt = 64 - B.toInt) (c9 : 1 ≤ B.toInt) (c10 : B.toInt ≤ 32) (c11 : (xhi (xvv xs)).toInt = 0) (c12 : (xlo (xvv xs)).toInt ≠ 0) (c13 : (xnlz (xlo (xvv xs))).toInt = 32 - B.toInt) (c14 : (xbf 1 (xlo (xvv xs)) (0 : Int32) ((32 : Int32) - K)).toInt ≠ 0) (c15 : 16384 < (B + (xs 4)).toInt) (c16 : (xs 5).toInt ≠ 0) (c17 : (xs 5).toInt ≠ 4) (c18 : (xs 5).toInt ≠ 2) (c19 : (xs 5).toInt ≠ 3) : ∃ w1, xRun (d + 18) 20 [Value.ref 7, Value.int (xs 1), Value.long (xvv xs), Value.int (xs 4), Value.int (xs 5), Value.ref 194] (W0 6 xs) (.inl (some (Value.int 0))) w1 ∧ xKp (W0 6 xs) w1 xPC ∧ w1[194]? = some (Sum.inl (3, 1, xup (fun _ => Value.long 0) (0 : Int32).toInt.toNat (Value.long (-1)))) := by
  have f0 : ((32 : Int32) - (xnlz (xlo (xvv xs)))).toInt = 32 - (xnlz (xlo (xvv xs))).toInt := xsub_g rfl rfl (by omega) (by omega)
  have f1 : (B + (xs 4)).toInt = B.toInt + (xs 4).toInt := xadd_i (by omega) (by omega)
  have f2 : ((B + (xs 4)) - (64 : Int32)).toInt = (B + (xs 4)).toInt - 64 := xsub_g rfl rfl (by omega) (by omega)
  have f3 : (((B + (xs 4)) - (64 : Int32)) - (xs 4)).toInt = ((B + (xs 4)) - (64 : Int32)).toInt - (xs 4).toInt := xsub_i (by omega) (by omega)
  have f4 : ((B + (xs 4)) - ((B + (xs 4)) - (64 : Int32))).toInt = (B + (xs 4)).toInt - ((B + (xs 4)) - (64 : Int32)).toInt := xsub_i (by omega) (by omega)
  have f5 : ((64 : Int32) - B).toInt = 64 - B.toInt := xsub_g rfl rfl (by omega) (by omega)
  have f6 : (B + K).toInt = B.toInt + K.toInt := xadd_i (by omega) (by omega)
  have f7 : 0 ≤ (xnlz (xbf 1 (xlo (xvv xs)) (0 : Int32) ((32 : Int32) - K))).toInt := (xnlz_b _).1
  have f8 : (xnlz (xbf 1 (xlo (xvv xs)) (0 : Int32) ((32 : Int32) - K))).toInt ≤ 32 := (xnlz_b _).2
  have f9 : ((64 : Int32) - (xnlz (xbf 1 (xlo (xvv xs)) (0 : Int32) ((32 : Int32) - K)))).toInt = 64 - (xnlz (xbf 1 (xlo (xvv xs)) (0 : Int32) ((32 : Int32) - K))).toInt := xsub_g rfl rfl (by omega) (by omega)
  refine ⟨(((((((((((((((W0 6 xs).set 16 (Sum.inr (4, [Value.int 0, Value.ref 17, Value.int 0, Value.int 0]))).set 18 (Sum.inl (0, 8, xup (xup (fun _ => Value.int 0) (0 : Int32).toInt.toNat (Value.int (xlo (xvv xs)))) (1 : Int32).toInt.toNat (Value.int 0)))).set 17 (Sum.inr (3, [Value.ref 18, Value.int 2]))).set 17 (Sum.inr (3, [Value.ref 18, Value.int 1]))).set 16 (Sum.inr (4, [Value.int 0, Value.ref 17, Value.int (xs 4), Value.int 0]))).set (30 + 3 * (xs 1).toInt.toNat) (Sum.inr (2, [Value.int 64, Value.int 3, Value.int 0, Value.int (B + (xs 4)), Value.ref (31 + 3 * (xs 1).toInt.toNat)]))).set (32 + 3 * (xs 1).toInt.toNat) (Sum.inl (0, 8, xup (xup (fun _ => Value.int 0) (1 : Int32).toInt.toNat (Value.int (xbf 1 (xlo (xvv xs)) (0 : Int32) ((32 : Int32) - K)))) (0 : Int32).toInt.toNat (Value.int (xbf 1 (xlo (xvv xs)) (0 : Int32) ((0 : Int32) - K)))))).set (31 + 3 * (xs 1).toInt.toNat) (Sum.inr (3, [Value.ref (32 + 3 * (xs 1).toInt.toNat), Value.int 2]))).set 78 (Sum.inr (1, [Value.int (-16384), Value.int 16384, Value.int 0, Value.int 2]))).set (30 + 3 * (xs 1).toInt.toNat) (Sum.inr (2, [Value.int 64, Value.int 3, Value.int 0, Value.int 16384, Value.ref (31 + 3 * (xs 1).toInt.toNat)]))).set (32 + 3 * (xs 1).toInt.toNat) (Sum.inl (0, 8, xup (xup (xup (xup (xup (fun _ => Value.int 0) (1 : Int32).toInt.toNat (Value.int (xbf 1 (xlo (xvv xs)) (0 : Int32) ((32 : Int32) - K)))) (0 : Int32).toInt.toNat (Value.int (xbf 1 (xlo (xvv xs)) (0 : Int32) ((0 : Int32) - K)))) (0 : Int32).toInt.toNat (Value.int (-1))) (1 : Int32).toInt.toNat (Value.int (-1))) (1 : Int32).toInt.toNat (Value.int (-1))))).set (31 + 3 * (xs 1).toInt.toNat) (Sum.inr (3, [Value.ref (32 + 3 * (xs 1).toInt.toNat), Value.int 2]))).set 78 (Sum.inr (1, [Value.int (-16384), Value.int 16384, Value.int 0, Value.int 3]))).set 194 (Sum.inl (3, 1, xup (fun _ => Value.long 0) (0 : Int32).toInt.toNat (Value.long (-1))))), (s_20_4 W0_7 (by omega) (by omega) (by omega) (by omega) (by omega) (by omega) W0_8 (greg_at (by omega)) (by omega) (by omega) W0_16 W0_17 W0_18 (show (xhi (xvv xs)) = 0 from (xge_c (n := 0) (by omega) rfl)) (by omega) W0_78 (show ((32 : Int32) - (xnlz (xlo (xvv xs)))) = B from (xge_i (by omega))) (by omega) (by omega) (by omega) (W0_reg (by omega)) (by omega) (show ((B + (xs 4)) - ((B + (xs 4)) - (64 : Int32))) = 64 from (xge_c (n := 64) (by omega) rfl)) (by omega) (by omega) (by omega) (by omega) (show ((64 : Int32) - B) = K from (xge_i (by omega))) (by omega) (by omega) (by omega) (by omega) (W0_man (by omega)) (show (B + K) = 64 from (xge_c (n := 64) (by omega) rfl)) (by omega) (by omega) (by omega) (by omega) (W0_mw (by omega)) (by omega) (by omega) (by omega) (by omega) (by omega) (by omega) (by omega) (by omega) (by omega) (by omega) (by omega) (by omega) (by omega) (by omega) (by omega) (by omega) (by omega) (by omega) (by omega) (by omega) (by omega) (by omega) (by omega) (by omega) (by omega) (by omega) (by omega) W0_194), ?_, xgs (xgn (by decide) (xgn (by omega) (xgn (by omega) (xgn (by omega) (xgn (by decide) (xgn (by omega) (xgn (by omega) (xgn (by omega) (xgn (by decide) (xgn (by decide) (xgn (by decide) (xgn (by decide) (xgn (by decide) W0_194)))))))))))))⟩
  refine xKp.set ?_ (fun h hh => by unfold xPC at hh; omega) (xgn (by decide) (xgn (by omega) (xgn (by omega) (xgn (by omega) (xgn (by decide) (xgn (by omega) (xgn (by omega) (xgn (by omega) (xgn (by decide) (xgn (by decide) (xgn (by decide) (xgn (by decide) (xgn (by decide) W0_194))))))))))))) xcs_a
  refine xKp.set ?_ (fun h hh => by unfold xPC at hh; omega) (xgn (by omega) (xgn (by omega) (xgn (by omega) (xgs (xgn (by omega) (xgn (by omega) (xgn (by omega) (xgn (by decide) (xgn (by decide) (xgn (by decide) (xgn (by decide) (xgn (by decide) W0_78)))))))))))) xcs_o
  refine xKp.set ?_ (fun h hh => by unfold xPC at hh; omega) (xgn (by omega) (xgn (by omega) (xgn (by omega) (xgs (xgn (by omega) (xgn (by omega) (xgn (by omega) (xgn (by omega) (xgn (by omega) (xgn (by omega) (xgn (by omega) (W0_man (by omega))))))))))))) xcs_o
  refine xKp.set ?_ (fun h hh => by unfold xPC at hh; omega) (xgn (by omega) (xgn (by omega) (xgn (by omega) (xgs (xgn (by omega) (xgn (by omega) (xgn (by omega) (xgn (by omega) (xgn (by omega) (xgn (by omega) (W0_mw (by omega)))))))))))) xcs_a
  refine xKp.set ?_ (fun h hh => by unfold xPC at hh; omega) (xgn (by omega) (xgn (by omega) (xgn (by omega) (xgs (xgn (by omega) (xgn (by omega) (xgn (by omega) (xgn (by omega) (xgn (by omega) (W0_reg (by omega))))))))))) xcs_o
  refine xKp.set ?_ (fun h hh => by unfold xPC at hh; omega) (xgn (by omega) (xgn (by omega) (xgn (by omega) (xgn (by decide) (xgn (by decide) (xgn (by decide) (xgn (by decide) (xgn (by decide) W0_78)))))))) xcs_o
  refine xKp.set ?_ (fun h hh => by unfold xPC at hh; omega) (xgn (by omega) (xgn (by omega) (xgn (by omega) (xgn (by omega) (xgn (by omega) (xgn (by omega) (xgn (by omega) (W0_man (by omega))))))))) xcs_o
  refine xKp.set ?_ (fun h hh => by unfold xPC at hh; omega) (xgn (by omega) (xgn (by omega) (xgn (by omega) (xgn (by omega) (xgn (by omega) (xgn (by omega) (W0_mw (by omega)))))))) xcs_a
  refine xKp.set ?_ (fun h hh => by unfold xPC at hh; omega) (xgn (by omega) (xgn (by omega) (xgn (by omega) (xgn (by omega) (xgn (by omega) (W0_reg (by omega))))))) xcs_o
  refine xKp.set ?_ (fun h hh => by unfold xPC at hh; omega) (xgn (by decide) (xgn (by decide) (xgn (by decide) (xgs W0_16)))) xcs_o
  refine xKp.set ?_ (fun h hh => by unfold xPC at hh; omega) (xgs (xgn (by decide) (xgn (by decide) W0_17))) xcs_o
  refine xKp.set ?_ (fun h hh => by unfold xPC at hh; omega) (xgn (by decide) (xgn (by decide) W0_17)) xcs_o
  refine xKp.set ?_ (fun h hh => by unfold xPC at hh; omega) (xgn (by decide) W0_18) xcs_a
  refine xKp.set ?_ (fun h hh => by unfold xPC at hh; omega) (W0_16) xcs_o
  exact xKp.refl
theorem s_279_1 {d : Nat} {w : xW} {h0 : Nat} {g0 : Nat → Value} (hw0 : w[h0]? = some (Sum.inl (0, 8, g0))) (e1 : 7 ≤ h0) : xRun (d + 1) 279 [Value.ref h0, Value.int 0, Value.int 2, Value.int 0] w (.inl none) (w.set h0 (Sum.inl (0, 8, xup (xup g0 (0 : Int32).toInt.toNat (Value.int 0)) (1 : Int32).toInt.toNat (Value.int 0)))) := by
  refine xRun.of ?_
  refine i_279_0 (x := h0) rfl ?_
  refine i_279_1 (c := 8) hw0 (by decide) ?_
  refine i_279_2 (x := 0) rfl ?_
  refine i_279_3 (x := 2) rfl ?_
  refine i_279_4 (Nat.le_of_ble_eq_true rfl) (s_280_0) ?_
  refine i_279_7 (x := 0) rfl ?_
  refine i_279_8 (lv2 := [(4, Value.int 0), (0, Value.ref h0), (1, Value.int 0), (2, Value.int 2), (3, Value.int 0)]) rfl ?_
  refine i_279_10 (x := 0) rfl ?_
  refine i_279_12 (x := 2) rfl ?_
  refine i_279_13 (fun h => absurd h (by decide)) (fun _ => ?_)
  refine i_279_16 (x := h0) rfl ?_
  refine i_279_17 (x := 0) rfl ?_
  refine i_279_19 (x := 0) rfl ?_
  refine i_279_20 (v := Value.int 0) hw0 (by decide) (by decide) e1 rfl ?_
  refine i_279_21 (x := 0) (c := 1) (lv2 := [(4, Value.int 1), (0, Value.ref h0), (1, Value.int 0), (2, Value.int 2), (3, Value.int 0)]) rfl (by decide) rfl ?_
  refine i_279_24 ?_
  refine i_279_10 (x := 1) rfl ?_
  refine i_279_12 (x := 2) rfl ?_
  refine i_279_13 (fun h => absurd h (by decide)) (fun _ => ?_)
  refine i_279_16 (x := h0) rfl ?_
  refine i_279_17 (x := 1) rfl ?_
  refine i_279_19 (x := 0) rfl ?_
  refine i_279_20 (v := Value.int 0) (xgs hw0) (by decide) (by decide) e1 rfl ?_
  refine xEv.world (List.set_set _) ?_
  refine i_279_21 (x := 1) (c := 2) (lv2 := [(4, Value.int 2), (0, Value.ref h0), (1, Value.int 0), (2, Value.int 2), (3, Value.int 0)]) rfl (by decide) rfl ?_
  refine i_279_24 ?_
  refine i_279_10 (x := 2) rfl ?_
  refine i_279_12 (x := 2) rfl ?_
  refine i_279_13 (fun _ => ?_) (fun h => absurd h (by decide))
  exact i_279_27 ⟨rfl, rfl⟩
theorem s_40_0 {d : Nat} {w : xW} {h0 : Nat} {h1 : Nat} {g0 : Nat → Value} (hw0 : w[h0]? = some (Sum.inr (3, [Value.ref h1, Value.int 2]))) (hw1 : w[h1]? = some (Sum.inl (0, 8, g0))) (e2 : 7 ≤ h1) (e3 : h1 ≠ h0) (e4 : 7 ≤ h0) : xRun (d + 2) 40 [Value.ref h0, Value.int 63] w (.inl none) ((w.set h1 (Sum.inl (0, 8, xup (xup (xup g0 (0 : Int32).toInt.toNat (Value.int 0)) (1 : Int32).toInt.toNat (Value.int 0)) (1 : Int32).toInt.toNat (Value.int (-2147483648))))).set h0 (Sum.inr (3, [Value.ref h1, Value.int 2]))) := by
  refine xRun.of ?_
  refine i_40_0 (x := 63) rfl ?_
  refine i_40_1 ?_
  refine i_40_2 (c := 1) (by decide) ?_
  refine i_40_3 ?_
  refine i_40_4 (c := 2) (by decide) ?_
  refine i_40_5 (lv2 := [(2, Value.int 2), (0, Value.ref h0), (1, Value.int 63)]) rfl ?_
  refine i_40_6 (x := h0) rfl ?_
  refine i_40_7 (x := 2) rfl ?_
  refine i_40_8 hw0 (Nat.le_of_ble_eq_true rfl) (s_41_1 hw0 hw1) ?_
  refine i_40_11 (x := h0) rfl ?_
  refine i_40_12 (v := Value.ref h1) hw0 rfl ?_
  refine i_40_15 ?_
  refine i_40_16 (x := 2) rfl ?_
  refine i_40_17 ?_
  refine i_40_18 (Nat.le_of_ble_eq_true rfl) (s_279_1 hw1 e2) ?_
  refine i_40_21 (x := h0) rfl ?_
  refine i_40_22 (v := Value.ref h1) (xgn e3 hw0) rfl ?_
  refine i_40_25 (x := 2) rfl ?_
  refine i_40_26 ?_
  refine i_40_27 (c := 1) (by decide) ?_
  refine i_40_28 ?_
  refine i_40_29 (x := 63) rfl ?_
  refine i_40_30 ?_
  refine i_40_32 (c := 31) (by decide) ?_
  refine i_40_33 (c := (-2147483648)) (by decide) ?_
  refine i_40_34 (v := Value.int (-2147483648)) (xgs hw1) (by decide) (by decide) e2 rfl ?_
  refine xEv.world (List.set_set _) ?_
  refine i_40_35 (x := h0) rfl ?_
  refine i_40_36 (x := 2) rfl ?_
  refine i_40_37 (fs2 := [Value.ref h1, Value.int 2]) (xgn e3 hw0) (Nat.le_of_ble_eq_true rfl) rfl e4 ?_
  exact i_40_40 ⟨rfl, rfl⟩
theorem s_39_0 {d : Nat} {w : xW} {h0 : Nat} {a0 : Int32} {h1 : Nat} {h2 : Nat} {g0 : Nat → Value} (hw0 : w[h0]? = some (Sum.inr (2, [Value.int 64, Value.int 3, Value.int 0, Value.int a0, Value.ref h1]))) (e1 : 7 ≤ h0) (e2 : h0 ≠ h1) (hw3 : w[h1]? = some (Sum.inr (3, [Value.ref h2, Value.int 2]))) (e4 : h0 ≠ h2) (hw5 : w[h2]? = some (Sum.inl (0, 8, g0))) (e6 : 7 ≤ h2) (e7 : h2 ≠ h1) (e8 : 7 ≤ h1) : xRun (d + 3) 39 [Value.ref h0, Value.int 0, Value.int (-16384)] w (.inl none) (((w.set h0 (Sum.inr (2, [Value.int 64, Value.int 3, Value.int 0, Value.int (-16384), Value.ref h1]))).set h2 (Sum.inl (0, 8, xup (xup (xup g0 (0 : Int32).toInt.toNat (Value.int 0)) (1 : Int32).toInt.toNat (Value.int 0)) (1 : Int32).toInt.toNat (Value.int (-2147483648))))).set h1 (Sum.inr (3, [Value.ref h2, Value.int 2]))) := by
  refine xRun.of ?_
  refine i_39_0 (x := h0) rfl ?_
  refine i_39_1 ?_
  refine i_39_2 (fs2 := [Value.int 64, Value.int 3, Value.int 0, Value.int a0, Value.ref h1]) hw0 (Nat.le_of_ble_eq_true rfl) rfl e1 ?_
  refine i_39_5 (x := h0) rfl ?_
  refine i_39_6 (x := 0) rfl ?_
  refine i_39_7 (fs2 := [Value.int 64, Value.int 3, Value.int 0, Value.int a0, Value.ref h1]) (xgs hw0) rfl (Nat.le_of_ble_eq_true rfl) rfl e1 ?_
  refine xEv.world (List.set_set _) ?_
  refine i_39_10 (x := h0) rfl ?_
  refine i_39_11 (x := (-16384)) rfl ?_
  refine i_39_12 (fs2 := [Value.int 64, Value.int 3, Value.int 0, Value.int (-16384), Value.ref h1]) (xgs hw0) (Nat.le_of_ble_eq_true rfl) rfl e1 ?_
  refine xEv.world (List.set_set _) ?_
  refine i_39_15 (x := h0) rfl ?_
  refine i_39_16 (v := Value.ref h1) (xgs hw0) rfl ?_
  refine i_39_19 (x := h0) rfl ?_
  refine i_39_20 (v := Value.int 64) (xgs hw0) rfl ?_
  refine i_39_23 ?_
  refine i_39_24 (c := 63) (by decide) ?_
  refine i_39_25 (xgn e2 hw3) (Nat.le_of_ble_eq_true rfl) (s_40_0 (xgn e2 hw3) (xgn e4 hw5) e6 e7 e8) ?_
  exact i_39_28 ⟨rfl, rfl⟩
theorem s_50_0 {d : Nat} {w : xW} {h0 : Nat} {a0 : Int32} {a1 : Int32} {a2 : Int32} {h1 : Nat} {h2 : Nat} {g0 : Nat → Value} (hw0 : w[78]? = some (Sum.inr (1, [Value.int (-16384), Value.int 16384, Value.int 0, Value.int 0]))) (hw1 : w[16]? = some (Sum.inr (4, [Value.int 0, Value.ref 17, Value.int a1, Value.int 0]))) (e2 : a0.toInt = 4) (e3 : a0.toInt ≠ 0) (e4 : 78 ≠ h0) (hw5 : w[h0]? = some (Sum.inr (2, [Value.int 64, Value.int 3, Value.int 0, Value.int a2, Value.ref h1]))) (e6 : 7 ≤ h0) (e7 : h0 ≠ h1) (e8 : 78 ≠ h1) (hw9 : w[h1]? = some (Sum.inr (3, [Value.ref h2, Value.int 2]))) (e10 : h0 ≠ h2) (e11 : 78 ≠ h2) (hw12 : w[h2]? = some (Sum.inl (0, 8, g0))) (e13 : 7 ≤ h2) (e14 : h2 ≠ h1) (e15 : 7 ≤ h1) : xRun (d + 4) 50 [Value.ref 78, Value.ref h0, Value.ref 16, Value.int a0] w (.inl (some (Value.int 1))) ((((w.set 78 (Sum.inr (1, [Value.int (-16384), Value.int 16384, Value.int 0, Value.int 4]))).set h0 (Sum.inr (2, [Value.int 64, Value.int 3, Value.int 0, Value.int (-16384), Value.ref h1]))).set h2 (Sum.inl (0, 8, xup (xup (xup g0 (0 : Int32).toInt.toNat (Value.int 0)) (1 : Int32).toInt.toNat (Value.int 0)) (1 : Int32).toInt.toNat (Value.int (-2147483648))))).set h1 (Sum.inr (3, [Value.ref h2, Value.int 2]))) := by
  refine xRun.of ?_
  refine i_50_0 (x := 78) rfl ?_
  refine i_50_1 rfl ?_
  refine i_50_2 (v := Value.int 0) hw0 rfl ?_
  refine i_50_5 ?_
  refine i_50_6 (c := 4) (by decide) ?_
  refine i_50_7 (fs2 := [Value.int (-16384), Value.int 16384, Value.int 0, Value.int 4]) hw0 (Nat.le_of_ble_eq_true rfl) rfl (by decide) ?_
  refine i_50_10 (x := a0) rfl ?_
  refine i_50_11 (x := 16) rfl ?_
  refine i_50_12 (v := Value.int 0) (xgn (by decide) hw1) rfl ?_
  refine i_50_15 (Nat.le_of_ble_eq_true rfl) (s_37_0 e2) ?_
  refine i_50_18 (lv2 := [(4, Value.int 1), (0, Value.ref 78), (1, Value.ref h0), (2, Value.ref 16), (3, Value.int a0)]) rfl ?_
  refine i_50_20 (x := a0) rfl ?_
  refine i_50_21 (fun _ => ?_) (fun h => absurd e3 (fun g => g h))
  refine i_50_82 (x := 1) rfl ?_
  refine i_50_84 (fun h => absurd h (by decide)) (fun _ => ?_)
  refine i_50_87 (x := h0) rfl ?_
  refine i_50_88 (x := 16) rfl ?_
  refine i_50_89 (v := Value.int 0) (xgn (by decide) hw1) rfl ?_
  refine i_50_92 (x := 78) rfl ?_
  refine i_50_93 (v := Value.int (-16384)) (xgs hw0) rfl ?_
  refine i_50_96 (xgn e4 hw5) (Nat.le_of_ble_eq_true rfl) (s_39_0 (xgn e4 hw5) e6 e7 (xgn e8 hw9) e10 (xgn e11 hw12) e13 e14 e15) ?_
  refine i_50_99 ?_
  exact i_50_100 ⟨rfl, rfl⟩
theorem s_27_5 {d : Nat} {w : xW} {h0 : Nat} {a0 : Int32} {a1 : Int32} {g0 : Nat → Value} {a2 : Int32} {a3 : Int32} {h1 : Nat} {a4 : Int32} {h2 : Nat} (hw0 : w[16]? = some (Sum.inr (4, [Value.int 0, Value.ref 17, Value.int a1, Value.int 0]))) (hw1 : w[17]? = some (Sum.inr (3, [Value.ref 18, Value.int 1]))) (hw2 : w[18]? = some (Sum.inl (0, 8, g0))) (hg3 : g0 (0 : Int32).toInt.toNat = Value.int a2) (hg4 : ((32 : Int32) - (xnlz a2)) = a3) (hw5 : w[h0]? = some (Sum.inr (2, [Value.int 64, Value.int 0, Value.int 0, Value.int 0, Value.ref h1]))) (hw6 : w[78]? = some (Sum.inr (1, [Value.int (-16384), Value.int 16384, Value.int 0, Value.int 0]))) (e7 : (((a3 + a1) - (64 : Int32)) - a1).toInt ≤ 0) (hg8 : ((a3 + a1) - ((a3 + a1) - (64 : Int32))) = 64) (e9 : 7 ≤ h0) (e10 : h0 ≠ 16) (e11 : h0 ≠ 17) (e12 : h0 ≠ 18) (hg13 : ((64 : Int32) - a3) = a4) (e14 : h0 ≠ h1) (hw15 : w[h1]? = some (Sum.inr (3, [Value.ref h2, Value.int 0]))) (hg16 : (a3 + a4) = 64) (e17 : h0 ≠ h2) (hw18 : w[h2]? = some (Sum.inl (0, 8, fun _ => Value.int 0))) (e19 : 0 ≤ a4.toInt) (hg20 : g0 (1 : Int32).toInt.toNat = Value.int 0) (e21 : 7 ≤ h2) (e22 : h2 ≠ h1) (e23 : h2 ≠ 17) (e24 : h2 ≠ 18) (e25 : 7 ≤ h1) (e26 : h1 ≠ h0) (e27 : h2 ≠ h0) (e28 : h1 ≠ h2) (e29 : (xbf 1 a2 (0 : Int32) ((32 : Int32) - a4)).toInt ≠ 0) (e30 : ((64 : Int32) - (xnlz (xbf 1 a2 (0 : Int32) ((32 : Int32) - a4)))).toInt ≤ 64) (e31 : h1 ≠ 78) (e32 : h2 ≠ 78) (e33 : h0 ≠ 78) (e34 : (a3 + a1).toInt ≤ 16384) (e35 : (a3 + a1).toInt < (-16384)) (e36 : h1 ≠ 16) (e37 : h2 ≠ 16) (e38 : a0.toInt = 4) (e39 : a0.toInt ≠ 0) (e40 : 78 ≠ h0) (e41 : 78 ≠ h1) (e42 : 78 ≠ h2) : xRun (d + 5) 27 [Value.ref 78, Value.ref h0, Value.ref 16, Value.int a0] w (.inl (some (Value.int 1))) ((((((((w.set h0 (Sum.inr (2, [Value.int 64, Value.int 3, Value.int 0, Value.int (a3 + a1), Value.ref h1]))).set h2 (Sum.inl (0, 8, xup (xup (fun _ => Value.int 0) (1 : Int32).toInt.toNat (Value.int (xbf 1 a2 (0 : Int32) ((32 : Int32) - a4)))) (0 : Int32).toInt.toNat (Value.int (xbf 1 a2 (0 : Int32) ((0 : Int32) - a4)))))).set h1 (Sum.inr (3, [Value.ref h2, Value.int 2]))).set 78 (Sum.inr (1, [Value.int (-16384), Value.int 16384, Value.int 0, Value.int 4]))).set h0 (Sum.inr (2, [Value.int 64, Value.int 3, Value.int 0, Value.int (-16384), Value.ref h1]))).set h2 (Sum.inl (0, 8, xup (xup (xup (xup (xup (fun _ => Value.int 0) (1 : Int32).toInt.toNat (Value.int (xbf 1 a2 (0 : Int32) ((32 : Int32) - a4)))) (0 : Int32).toInt.toNat (Value.int (xbf 1 a2 (0 : Int32) ((0 : Int32) - a4)))) (0 : Int32).toInt.toNat (Value.int 0)) (1 : Int32).toInt.toNat (Value.int 0)) (1 : Int32).toInt.toNat (Value.int (-2147483648))))).set h1 (Sum.inr (3, [Value.ref h2, Value.int 2]))).set 78 (Sum.inr (1, [Value.int (-16384), Value.int 16384, Value.int 0, Value.int 5]))) := by
  refine xRun.of ?_
  refine i_27_0 (x := 16) rfl ?_
  refine i_27_1 hw0 (Nat.le_of_ble_eq_true rfl) (s_28_0 hw0 hw1 hw2 hg3 hg4) ?_
  refine i_27_4 (lv2 := [(4, Value.int (a3 + a1)), (0, Value.ref 78), (1, Value.ref h0), (2, Value.ref 16), (3, Value.int a0)]) rfl ?_
  refine i_27_6 (x := 78) rfl ?_
  refine i_27_7 (x := (a3 + a1)) rfl ?_
  refine i_27_9 (x := h0) rfl ?_
  refine i_27_10 (v := Value.int 64) hw5 rfl ?_
  refine i_27_13 hw6 (Nat.le_of_ble_eq_true rfl) (s_30_0 hw6) ?_
  refine i_27_16 (lv2 := [(5, Value.int ((a3 + a1) - (64 : Int32))), (4, Value.int (a3 + a1)), (0, Value.ref 78), (1, Value.ref h0), (2, Value.ref 16), (3, Value.int a0)]) rfl ?_
  refine i_27_18 (x := 16) rfl ?_
  refine i_27_19 (x := ((a3 + a1) - (64 : Int32))) rfl ?_
  refine i_27_21 (x := a0) rfl ?_
  refine i_27_22 hw0 (Nat.le_of_ble_eq_true rfl) (s_31_0 hw0 hw1 e7) ?_
  refine i_27_25 (lv2 := [(6, Value.int 0), (5, Value.int ((a3 + a1) - (64 : Int32))), (4, Value.int (a3 + a1)), (0, Value.ref 78), (1, Value.ref h0), (2, Value.ref 16), (3, Value.int a0)]) rfl ?_
  refine i_27_27 (x := 16) rfl ?_
  refine i_27_28 (x := ((a3 + a1) - (64 : Int32))) rfl ?_
  refine i_27_30 hw0 (Nat.le_of_ble_eq_true rfl) (s_32_0 hw0 hw1 e7) ?_
  refine i_27_33 (fun h => absurd h (by decide)) (fun _ => ?_)
  refine i_27_36 ?_
  refine i_27_37 ?_
  refine i_27_50 (lv2 := [(7, Value.int 0), (6, Value.int 0), (5, Value.int ((a3 + a1) - (64 : Int32))), (4, Value.int (a3 + a1)), (0, Value.ref 78), (1, Value.ref h0), (2, Value.ref 16), (3, Value.int a0)]) rfl ?_
  refine i_27_52 (x := h0) rfl ?_
  refine i_27_53 (x := 16) rfl ?_
  refine i_27_54 (x := ((a3 + a1) - (64 : Int32))) rfl ?_
  refine i_27_56 (x := 0) rfl ?_
  refine i_27_58 hw5 (Nat.le_of_ble_eq_true rfl) (s_38_0 hw0 hw1 hw2 hg3 hg4 hg8 hw5 e9 e10 e11 e12 hg13 e14 hw15 hg16 e17 hw18 e19 hg20 e21 e22 e23 e24 e25 e26 e27 e28 e29 e30) ?_
  refine i_27_61 (x := h0) rfl ?_
  refine i_27_62 (v := Value.int 3) (xgn e26 (xgn e27 (xgs hw5))) rfl ?_
  refine i_27_65 ?_
  refine i_27_66 (fun h => absurd h (by decide)) (fun _ => ?_)
  refine i_27_69 (x := h0) rfl ?_
  refine i_27_70 (v := Value.int (a3 + a1)) (xgn e26 (xgn e27 (xgs hw5))) rfl ?_
  refine i_27_73 (x := 78) rfl ?_
  refine i_27_74 (v := Value.int 16384) (xgn e31 (xgn e32 (xgn e33 hw6))) rfl ?_
  refine i_27_77 (fun _ => ?_) (fun h => absurd e34 (Int.not_le.mpr h))
  refine i_27_95 (x := h0) rfl ?_
  refine i_27_96 (v := Value.int 3) (xgn e26 (xgn e27 (xgs hw5))) rfl ?_
  refine i_27_99 ?_
  refine i_27_100 (fun h => absurd h (by decide)) (fun _ => ?_)
  refine i_27_103 (x := 78) rfl ?_
  refine i_27_104 (v := Value.int 0) (xgn e31 (xgn e32 (xgn e33 hw6))) rfl ?_
  refine i_27_107 (fun h => absurd h (by decide)) (fun _ => ?_)
  refine i_27_110 (x := h0) rfl ?_
  refine i_27_111 (v := Value.int (a3 + a1)) (xgn e26 (xgn e27 (xgs hw5))) rfl ?_
  refine i_27_114 (x := 78) rfl ?_
  refine i_27_115 (v := Value.int (-16384)) (xgn e31 (xgn e32 (xgn e33 hw6))) rfl ?_
  refine i_27_118 (fun h => absurd e35 (Int.not_lt.mpr h)) (fun _ => ?_)
  refine i_27_121 (x := 78) rfl ?_
  refine i_27_122 (x := h0) rfl ?_
  refine i_27_123 (x := 16) rfl ?_
  refine i_27_124 (x := a0) rfl ?_
  refine i_27_125 (xgn e31 (xgn e32 (xgn e33 hw6))) (Nat.le_of_ble_eq_true rfl) (s_50_0 (xgn e31 (xgn e32 (xgn e33 hw6))) (xgn e36 (xgn e37 (xgn e10 hw0))) e38 e39 e40 (xgn e26 (xgn e27 (xgs hw5))) e9 e14 e41 (xgs (xgn e22 (xgn e14 hw15))) e17 e42 (xgn e28 (xgs (xgn e17 hw18))) e21 e22 e25) ?_
  refine i_27_128 (lv2 := [(7, Value.int 1), (6, Value.int 0), (5, Value.int ((a3 + a1) - (64 : Int32))), (4, Value.int (a3 + a1)), (0, Value.ref 78), (1, Value.ref h0), (2, Value.ref 16), (3, Value.int a0)]) rfl ?_
  refine i_27_130 ?_
  refine i_27_164 (x := 1) rfl ?_
  refine i_27_166 (fun h => absurd h (by decide)) (fun _ => ?_)
  refine i_27_169 (x := 78) rfl ?_
  refine i_27_170 rfl ?_
  refine i_27_171 (v := Value.int 4) (xgn e31 (xgn e32 (xgn e33 (xgs (xgn e31 (xgn e32 (xgn e33 hw6))))))) rfl ?_
  refine i_27_174 ?_
  refine i_27_175 (c := 5) (by decide) ?_
  refine i_27_176 (fs2 := [Value.int (-16384), Value.int 16384, Value.int 0, Value.int 5]) (xgn e31 (xgn e32 (xgn e33 (xgs (xgn e31 (xgn e32 (xgn e33 hw6))))))) (Nat.le_of_ble_eq_true rfl) rfl (by decide) ?_
  refine i_27_179 (x := 16) rfl ?_
  refine i_27_180 (v := Value.int 0) (xgn (by decide) (xgn e36 (xgn e37 (xgn e10 (xgn (by decide) (xgn e36 (xgn e37 (xgn e10 hw0)))))))) rfl ?_
  refine i_27_183 (fun _ => ?_) (fun h => absurd h (by decide))
  refine i_27_192 (x := 1) rfl ?_
  exact i_27_194 ⟨rfl, rfl⟩
theorem s_21_5 {d : Nat} {w : xW} {a0 : Int32} {b0 : Int64} {a1 : Int32} {a2 : Int32} {g0 : Nat → Value} {h0 : Nat} {a3 : Int32} {h1 : Nat} {a4 : Int32} {h2 : Nat} (e0 : 0 ≤ a0.toInt) (e1 : a0.toInt < 16) (e2 : (-40000) ≤ a1.toInt) (e3 : a1.toInt ≤ 40000) (e4 : 0 ≤ a2.toInt) (e5 : a2.toInt ≤ 4) (hw6 : w[7]? = some (Sum.inr (0, [Value.ref 8, Value.ref 78, Value.ref 9, Value.ref 10, Value.ref 13, Value.ref 16, Value.ref 19, Value.ref 93, Value.ref 108, Value.ref 113, Value.ref 29, Value.int 0]))) (hw7 : w[8]? = some (Sum.inl (4, 16, g0))) (hg8 : g0 a0.toInt.toNat = Value.ref h0) (e9 : (lg_cmp b0 (0 : Int64)).toInt ≠ 0) (e10 : 0 ≤ (lg_cmp b0 (0 : Int64)).toInt) (hw11 : w[16]? = some (Sum.inr (4, [Value.int 0, Value.ref 17, Value.int 0, Value.int 0]))) (hw12 : w[17]? = some (Sum.inr (3, [Value.ref 18, Value.int 0]))) (hw13 : w[18]? = some (Sum.inl (0, 8, fun _ => Value.int 0))) (hg14 : (xhi b0) = 0) (e15 : (xlo b0).toInt ≠ 0) (hw16 : w[78]? = some (Sum.inr (1, [Value.int (-16384), Value.int 16384, Value.int 0, Value.int 0]))) (hg17 : ((32 : Int32) - (xnlz (xlo b0))) = a3) (e18 : 16 ≠ h0) (e19 : 17 ≠ h0) (e20 : 18 ≠ h0) (hw21 : w[h0]? = some (Sum.inr (2, [Value.int 64, Value.int 0, Value.int 0, Value.int 0, Value.ref h1]))) (e22 : (((a3 + a1) - (64 : Int32)) - a1).toInt ≤ 0) (hg23 : ((a3 + a1) - ((a3 + a1) - (64 : Int32))) = 64) (e24 : 7 ≤ h0) (e25 : h0 ≠ 16) (e26 : h0 ≠ 17) (e27 : h0 ≠ 18) (hg28 : ((64 : Int32) - a3) = a4) (e29 : h0 ≠ h1) (e30 : 16 ≠ h1) (e31 : 17 ≠ h1) (e32 : 18 ≠ h1) (hw33 : w[h1]? = some (Sum.inr (3, [Value.ref h2, Value.int 0]))) (hg34 : (a3 + a4) = 64) (e35 : h0 ≠ h2) (e36 : 16 ≠ h2) (e37 : 17 ≠ h2) (e38 : 18 ≠ h2) (hw39 : w[h2]? = some (Sum.inl (0, 8, fun _ => Value.int 0))) (e40 : 0 ≤ a4.toInt) (e41 : 7 ≤ h2) (e42 : h2 ≠ h1) (e43 : h2 ≠ 17) (e44 : h2 ≠ 18) (e45 : 7 ≤ h1) (e46 : h1 ≠ h0) (e47 : h2 ≠ h0) (e48 : h1 ≠ h2) (e49 : (xbf 1 (xlo b0) (0 : Int32) ((32 : Int32) - a4)).toInt ≠ 0) (e50 : ((64 : Int32) - (xnlz (xbf 1 (xlo b0) (0 : Int32) ((32 : Int32) - a4)))).toInt ≤ 64) (e51 : h1 ≠ 78) (e52 : h2 ≠ 78) (e53 : h0 ≠ 78) (e54 : (a3 + a1).toInt ≤ 16384) (e55 : (a3 + a1).toInt < (-16384)) (e56 : h1 ≠ 16) (e57 : h2 ≠ 16) (e58 : a2.toInt = 4) (e59 : a2.toInt ≠ 0) (e60 : 78 ≠ h0) (e61 : 78 ≠ h1) (e62 : 78 ≠ h2) : xRun (d + 6) 21 [Value.ref 7, Value.int a0, Value.long b0, Value.int a1, Value.int a2] w (.inl (some (Value.int 1))) (((((((((((((w.set 16 (Sum.inr (4, [Value.int 0, Value.ref 17, Value.int 0, Value.int 0]))).set 18 (Sum.inl (0, 8, xup (xup (fun _ => Value.int 0) (0 : Int32).toInt.toNat (Value.int (xlo b0))) (1 : Int32).toInt.toNat (Value.int 0)))).set 17 (Sum.inr (3, [Value.ref 18, Value.int 2]))).set 17 (Sum.inr (3, [Value.ref 18, Value.int 1]))).set 16 (Sum.inr (4, [Value.int 0, Value.ref 17, Value.int a1, Value.int 0]))).set h0 (Sum.inr (2, [Value.int 64, Value.int 3, Value.int 0, Value.int (a3 + a1), Value.ref h1]))).set h2 (Sum.inl (0, 8, xup (xup (fun _ => Value.int 0) (1 : Int32).toInt.toNat (Value.int (xbf 1 (xlo b0) (0 : Int32) ((32 : Int32) - a4)))) (0 : Int32).toInt.toNat (Value.int (xbf 1 (xlo b0) (0 : Int32) ((0 : Int32) - a4)))))).set h1 (Sum.inr (3, [Value.ref h2, Value.int 2]))).set 78 (Sum.inr (1, [Value.int (-16384), Value.int 16384, Value.int 0, Value.int 4]))).set h0 (Sum.inr (2, [Value.int 64, Value.int 3, Value.int 0, Value.int (-16384), Value.ref h1]))).set h2 (Sum.inl (0, 8, xup (xup (xup (xup (xup (fun _ => Value.int 0) (1 : Int32).toInt.toNat (Value.int (xbf 1 (xlo b0) (0 : Int32) ((32 : Int32) - a4)))) (0 : Int32).toInt.toNat (Value.int (xbf 1 (xlo b0) (0 : Int32) ((0 : Int32) - a4)))) (0 : Int32).toInt.toNat (Value.int 0)) (1 : Int32).toInt.toNat (Value.int 0)) (1 : Int32).toInt.toNat (Value.int (-2147483648))))).set h1 (Sum.inr (3, [Value.ref h2, Value.int 2]))).set 78 (Sum.inr (1, [Value.int (-16384), Value.int 16384, Value.int 0, Value.int 5]))) := by
  refine xRun.of ?_
  refine i_21_0 (x := a0) rfl ?_
  refine i_21_1 (Nat.le_of_ble_eq_true rfl) (s_15_0 e0 e1) ?_
  refine i_21_4 (fun h => absurd h (by decide)) (fun _ => ?_)
  refine i_21_7 (x := a1) rfl ?_
  refine i_21_9 ?_
  refine i_21_11 (fun h => absurd e2 (Int.not_le.mpr h)) (fun _ => ?_)
  refine i_21_14 (x := a1) rfl ?_
  refine i_21_16 ?_
  refine i_21_18 (fun h => absurd e3 (Int.not_le.mpr h)) (fun _ => ?_)
  refine i_21_21 (x := a2) rfl ?_
  refine i_21_23 (Nat.le_of_ble_eq_true rfl) (s_22_0 e4 e5) ?_
  refine i_21_26 (fun _ => ?_) (fun h => absurd h (by decide))
  refine i_21_37 (x := 7) rfl ?_
  refine i_21_38 (v := Value.ref 8) hw6 rfl ?_
  refine i_21_41 (x := a0) rfl ?_
  refine i_21_42 (v := Value.ref h0) hw7 e0 e1 hg8 ?_
  refine i_21_43 (lv2 := [(6, Value.ref h0), (0, Value.ref 7), (1, Value.int a0), (2, Value.long b0), (4, Value.int a1), (5, Value.int a2)]) rfl ?_
  refine i_21_45 (x := b0) rfl ?_
  refine i_21_46 ?_
  refine i_21_47 (c := (lg_cmp b0 (0 : Int64))) rfl ?_
  refine i_21_48 (fun _ => ?_) (fun h => absurd e9 (fun g => g h))
  refine i_21_58 (x := 7) rfl ?_
  refine i_21_59 (v := Value.ref 16) hw6 rfl ?_
  refine i_21_62 (x := b0) rfl ?_
  refine i_21_63 ?_
  refine i_21_64 (c := (lg_cmp b0 (0 : Int64))) rfl ?_
  refine i_21_65 (fun _ => ?_) (fun h => absurd e10 (Int.not_le.mpr h))
  refine i_21_72 ?_
  refine i_21_73 (x := b0) rfl ?_
  refine i_21_74 ?_
  refine i_21_75 (c := (lg_cmp b0 (0 : Int64))) rfl ?_
  refine i_21_76 (fun _ => ?_) (fun h => absurd e10 (Int.not_le.mpr h))
  refine i_21_84 (x := b0) rfl ?_
  refine i_21_85 (x := a1) rfl ?_
  refine i_21_87 hw11 (Nat.le_of_ble_eq_true rfl) (s_24_0 hw11 hw12 hw13 hg14 e15) ?_
  refine i_21_90 (x := 7) rfl ?_
  refine i_21_91 (v := Value.ref 78) (xgn (by decide) (xgn (by decide) (xgn (by decide) (xgn (by decide) (xgn (by decide) hw6))))) rfl ?_
  refine i_21_94 (x := h0) rfl ?_
  refine i_21_96 (x := 7) rfl ?_
  refine i_21_97 (v := Value.ref 16) (xgn (by decide) (xgn (by decide) (xgn (by decide) (xgn (by decide) (xgn (by decide) hw6))))) rfl ?_
  refine i_21_100 (x := a2) rfl ?_
  refine i_21_102 (xgn (by decide) (xgn (by decide) (xgn (by decide) (xgn (by decide) (xgn (by decide) hw16))))) (Nat.le_of_ble_eq_true rfl) (s_27_5 (xgs (xgn (by decide) (xgn (by decide) (xgn (by decide) (xgs hw11))))) (xgn (by decide) (xgs (xgs (xgn (by decide) (xgn (by decide) hw12))))) (xgn (by decide) (xgn (by decide) (xgn (by decide) (xgs (xgn (by decide) hw13))))) (xup_n (by decide) xup_s) hg17 (xgn e18 (xgn e19 (xgn e19 (xgn e20 (xgn e18 hw21))))) (xgn (by decide) (xgn (by decide) (xgn (by decide) (xgn (by decide) (xgn (by decide) hw16))))) e22 hg23 e24 e25 e26 e27 hg28 e29 (xgn e30 (xgn e31 (xgn e31 (xgn e32 (xgn e30 hw33))))) hg34 e35 (xgn e36 (xgn e37 (xgn e37 (xgn e38 (xgn e36 hw39))))) e40 xup_s e41 e42 e43 e44 e45 e46 e47 e48 e49 e50 e51 e52 e53 e54 e55 e56 e57 e58 e59 e60 e61 e62) ?_
  exact i_21_105 ⟨rfl, rfl⟩
theorem s_20_5 {d : Nat} {w : xW} {a0 : Int32} {b0 : Int64} {a1 : Int32} {a2 : Int32} {g0 : Nat → Value} {h0 : Nat} {a3 : Int32} {h1 : Nat} {a4 : Int32} {h2 : Nat} (hw0 : w[7]? = some (Sum.inr (0, [Value.ref 8, Value.ref 78, Value.ref 9, Value.ref 10, Value.ref 13, Value.ref 16, Value.ref 19, Value.ref 93, Value.ref 108, Value.ref 113, Value.ref 29, Value.int 0]))) (e1 : 0 ≤ a0.toInt) (e2 : a0.toInt < 16) (e3 : (-40000) ≤ a1.toInt) (e4 : a1.toInt ≤ 40000) (e5 : 0 ≤ a2.toInt) (e6 : a2.toInt ≤ 4) (hw7 : w[8]? = some (Sum.inl (4, 16, g0))) (hg8 : g0 a0.toInt.toNat = Value.ref h0) (e9 : (lg_cmp b0 (0 : Int64)).toInt ≠ 0) (e10 : 0 ≤ (lg_cmp b0 (0 : Int64)).toInt) (hw11 : w[16]? = some (Sum.inr (4, [Value.int 0, Value.ref 17, Value.int 0, Value.int 0]))) (hw12 : w[17]? = some (Sum.inr (3, [Value.ref 18, Value.int 0]))) (hw13 : w[18]? = some (Sum.inl (0, 8, fun _ => Value.int 0))) (hg14 : (xhi b0) = 0) (e15 : (xlo b0).toInt ≠ 0) (hw16 : w[78]? = some (Sum.inr (1, [Value.int (-16384), Value.int 16384, Value.int 0, Value.int 0]))) (hg17 : ((32 : Int32) - (xnlz (xlo b0))) = a3) (e18 : 16 ≠ h0) (e19 : 17 ≠ h0) (e20 : 18 ≠ h0) (hw21 : w[h0]? = some (Sum.inr (2, [Value.int 64, Value.int 0, Value.int 0, Value.int 0, Value.ref h1]))) (e22 : (((a3 + a1) - (64 : Int32)) - a1).toInt ≤ 0) (hg23 : ((a3 + a1) - ((a3 + a1) - (64 : Int32))) = 64) (e24 : 7 ≤ h0) (e25 : h0 ≠ 16) (e26 : h0 ≠ 17) (e27 : h0 ≠ 18) (hg28 : ((64 : Int32) - a3) = a4) (e29 : h0 ≠ h1) (e30 : 16 ≠ h1) (e31 : 17 ≠ h1) (e32 : 18 ≠ h1) (hw33 : w[h1]? = some (Sum.inr (3, [Value.ref h2, Value.int 0]))) (hg34 : (a3 + a4) = 64) (e35 : h0 ≠ h2) (e36 : 16 ≠ h2) (e37 : 17 ≠ h2) (e38 : 18 ≠ h2) (hw39 : w[h2]? = some (Sum.inl (0, 8, fun _ => Value.int 0))) (e40 : 0 ≤ a4.toInt) (e41 : 7 ≤ h2) (e42 : h2 ≠ h1) (e43 : h2 ≠ 17) (e44 : h2 ≠ 18) (e45 : 7 ≤ h1) (e46 : h1 ≠ h0) (e47 : h2 ≠ h0) (e48 : h1 ≠ h2) (e49 : (xbf 1 (xlo b0) (0 : Int32) ((32 : Int32) - a4)).toInt ≠ 0) (e50 : ((64 : Int32) - (xnlz (xbf 1 (xlo b0) (0 : Int32) ((32 : Int32) - a4)))).toInt ≤ 64) (e51 : h1 ≠ 78) (e52 : h2 ≠ 78) (e53 : h0 ≠ 78) (e54 : (a3 + a1).toInt ≤ 16384) (e55 : (a3 + a1).toInt < (-16384)) (e56 : h1 ≠ 16) (e57 : h2 ≠ 16) (e58 : a2.toInt = 4) (e59 : a2.toInt ≠ 0) (e60 : 78 ≠ h0) (e61 : 78 ≠ h1) (e62 : 78 ≠ h2) (e63 : h1 ≠ 194) (e64 : h2 ≠ 194) (e65 : h0 ≠ 194) (hw66 : w[194]? = some (Sum.inl (3, 1, fun _ => Value.long 0))) : xRun (d + 7) 20 [Value.ref 7, Value.int a0, Value.long b0, Value.int a1, Value.int a2, Value.ref 194] w (.inl (some (Value.int 0))) ((((((((((((((w.set 16 (Sum.inr (4, [Value.int 0, Value.ref 17, Value.int 0, Value.int 0]))).set 18 (Sum.inl (0, 8, xup (xup (fun _ => Value.int 0) (0 : Int32).toInt.toNat (Value.int (xlo b0))) (1 : Int32).toInt.toNat (Value.int 0)))).set 17 (Sum.inr (3, [Value.ref 18, Value.int 2]))).set 17 (Sum.inr (3, [Value.ref 18, Value.int 1]))).set 16 (Sum.inr (4, [Value.int 0, Value.ref 17, Value.int a1, Value.int 0]))).set h0 (Sum.inr (2, [Value.int 64, Value.int 3, Value.int 0, Value.int (a3 + a1), Value.ref h1]))).set h2 (Sum.inl (0, 8, xup (xup (fun _ => Value.int 0) (1 : Int32).toInt.toNat (Value.int (xbf 1 (xlo b0) (0 : Int32) ((32 : Int32) - a4)))) (0 : Int32).toInt.toNat (Value.int (xbf 1 (xlo b0) (0 : Int32) ((0 : Int32) - a4)))))).set h1 (Sum.inr (3, [Value.ref h2, Value.int 2]))).set 78 (Sum.inr (1, [Value.int (-16384), Value.int 16384, Value.int 0, Value.int 4]))).set h0 (Sum.inr (2, [Value.int 64, Value.int 3, Value.int 0, Value.int (-16384), Value.ref h1]))).set h2 (Sum.inl (0, 8, xup (xup (xup (xup (xup (fun _ => Value.int 0) (1 : Int32).toInt.toNat (Value.int (xbf 1 (xlo b0) (0 : Int32) ((32 : Int32) - a4)))) (0 : Int32).toInt.toNat (Value.int (xbf 1 (xlo b0) (0 : Int32) ((0 : Int32) - a4)))) (0 : Int32).toInt.toNat (Value.int 0)) (1 : Int32).toInt.toNat (Value.int 0)) (1 : Int32).toInt.toNat (Value.int (-2147483648))))).set h1 (Sum.inr (3, [Value.ref h2, Value.int 2]))).set 78 (Sum.inr (1, [Value.int (-16384), Value.int 16384, Value.int 0, Value.int 5]))).set 194 (Sum.inl (3, 1, xup (fun _ => Value.long 0) (0 : Int32).toInt.toNat (Value.long 1)))) := by
  refine xRun.of ?_
  refine i_20_0 (x := 194) rfl ?_
  refine i_20_2 ?_
  refine i_20_3 (x := 7) rfl ?_
  refine i_20_4 (x := a0) rfl ?_
  refine i_20_5 (x := b0) rfl ?_
  refine i_20_6 (x := a1) rfl ?_
  refine i_20_8 (x := a2) rfl ?_
  refine i_20_10 hw0 (Nat.le_of_ble_eq_true rfl) (s_21_5 e1 e2 e3 e4 e5 e6 hw0 hw7 hg8 e9 e10 hw11 hw12 hw13 hg14 e15 hw16 hg17 e18 e19 e20 hw21 e22 hg23 e24 e25 e26 e27 hg28 e29 e30 e31 e32 hw33 hg34 e35 e36 e37 e38 hw39 e40 e41 e42 e43 e44 e45 e46 e47 e48 e49 e50 e51 e52 e53 e54 e55 e56 e57 e58 e59 e60 e61 e62) ?_
  refine i_20_13 (c := 1) (by decide) ?_
  refine i_20_14 (v := Value.long 1) (xgn (by decide) (xgn e63 (xgn e64 (xgn e65 (xgn (by decide) (xgn e63 (xgn e64 (xgn e65 (xgn (by decide) (xgn (by decide) (xgn (by decide) (xgn (by decide) (xgn (by decide) hw66))))))))))))) (by decide) (by decide) (by decide) rfl ?_
  refine i_20_15 ?_
  refine i_20_22 ?_
  exact i_20_23 ⟨rfl, rfl⟩
theorem cn3_0_5 {d : Nat} {xs : Nat → Int32} {B K : Int32} (c0 : 0 ≤ (xs 1).toInt) (c1 : (xs 1).toInt < 16) (c2 : (-40000) ≤ (xs 4).toInt) (c3 : (xs 4).toInt ≤ 40000) (c4 : 0 ≤ (xs 5).toInt) (c5 : (xs 5).toInt ≤ 4) (c6 : (lg_cmp (xvv xs) (0 : Int64)).toInt ≠ 0) (c7 : 0 ≤ (lg_cmp (xvv xs) (0 : Int64)).toInt) (c8 : K.toInt = 64 - B.toInt) (c9 : 1 ≤ B.toInt) (c10 : B.toInt ≤ 32) (c11 : (xhi (xvv xs)).toInt = 0) (c12 : (xlo (xvv xs)).toInt ≠ 0) (c13 : (xnlz (xlo (xvv xs))).toInt = 32 - B.toInt) (c14 : (xbf 1 (xlo (xvv xs)) (0 : Int32) ((32 : Int32) - K)).toInt ≠ 0) (c15 : (B + (xs 4)).toInt ≤ 16384) (c16 : (B + (xs 4)).toInt < (-16384)) (c17 : (xs 5).toInt = 4) : ∃ w1, xRun (d + 18) 20 [Value.ref 7, Value.int (xs 1), Value.long (xvv xs), Value.int (xs 4), Value.int (xs 5), Value.ref 194] (W0 6 xs) (.inl (some (Value.int 0))) w1 ∧ xKp (W0 6 xs) w1 xPC ∧ w1[194]? = some (Sum.inl (3, 1, xup (fun _ => Value.long 0) (0 : Int32).toInt.toNat (Value.long 1))) := by
  have f0 : ((32 : Int32) - (xnlz (xlo (xvv xs)))).toInt = 32 - (xnlz (xlo (xvv xs))).toInt := xsub_g rfl rfl (by omega) (by omega)
  have f1 : (B + (xs 4)).toInt = B.toInt + (xs 4).toInt := xadd_i (by omega) (by omega)
  have f2 : ((B + (xs 4)) - (64 : Int32)).toInt = (B + (xs 4)).toInt - 64 := xsub_g rfl rfl (by omega) (by omega)
  have f3 : (((B + (xs 4)) - (64 : Int32)) - (xs 4)).toInt = ((B + (xs 4)) - (64 : Int32)).toInt - (xs 4).toInt := xsub_i (by omega) (by omega)
  have f4 : ((B + (xs 4)) - ((B + (xs 4)) - (64 : Int32))).toInt = (B + (xs 4)).toInt - ((B + (xs 4)) - (64 : Int32)).toInt := xsub_i (by omega) (by omega)
  have f5 : ((64 : Int32) - B).toInt = 64 - B.toInt := xsub_g rfl rfl (by omega) (by omega)
  have f6 : (B + K).toInt = B.toInt + K.toInt := xadd_i (by omega) (by omega)
  have f7 : 0 ≤ (xnlz (xbf 1 (xlo (xvv xs)) (0 : Int32) ((32 : Int32) - K))).toInt := (xnlz_b _).1
  have f8 : (xnlz (xbf 1 (xlo (xvv xs)) (0 : Int32) ((32 : Int32) - K))).toInt ≤ 32 := (xnlz_b _).2
  have f9 : ((64 : Int32) - (xnlz (xbf 1 (xlo (xvv xs)) (0 : Int32) ((32 : Int32) - K)))).toInt = 64 - (xnlz (xbf 1 (xlo (xvv xs)) (0 : Int32) ((32 : Int32) - K))).toInt := xsub_g rfl rfl (by omega) (by omega)
  refine ⟨(((((((((((((((W0 6 xs).set 16 (Sum.inr (4, [Value.int 0, Value.ref 17, Value.int 0, Value.int 0]))).set 18 (Sum.inl (0, 8, xup (xup (fun _ => Value.int 0) (0 : Int32).toInt.toNat (Value.int (xlo (xvv xs)))) (1 : Int32).toInt.toNat (Value.int 0)))).set 17 (Sum.inr (3, [Value.ref 18, Value.int 2]))).set 17 (Sum.inr (3, [Value.ref 18, Value.int 1]))).set 16 (Sum.inr (4, [Value.int 0, Value.ref 17, Value.int (xs 4), Value.int 0]))).set (30 + 3 * (xs 1).toInt.toNat) (Sum.inr (2, [Value.int 64, Value.int 3, Value.int 0, Value.int (B + (xs 4)), Value.ref (31 + 3 * (xs 1).toInt.toNat)]))).set (32 + 3 * (xs 1).toInt.toNat) (Sum.inl (0, 8, xup (xup (fun _ => Value.int 0) (1 : Int32).toInt.toNat (Value.int (xbf 1 (xlo (xvv xs)) (0 : Int32) ((32 : Int32) - K)))) (0 : Int32).toInt.toNat (Value.int (xbf 1 (xlo (xvv xs)) (0 : Int32) ((0 : Int32) - K)))))).set (31 + 3 * (xs 1).toInt.toNat) (Sum.inr (3, [Value.ref (32 + 3 * (xs 1).toInt.toNat), Value.int 2]))).set 78 (Sum.inr (1, [Value.int (-16384), Value.int 16384, Value.int 0, Value.int 4]))).set (30 + 3 * (xs 1).toInt.toNat) (Sum.inr (2, [Value.int 64, Value.int 3, Value.int 0, Value.int (-16384), Value.ref (31 + 3 * (xs 1).toInt.toNat)]))).set (32 + 3 * (xs 1).toInt.toNat) (Sum.inl (0, 8, xup (xup (xup (xup (xup (fun _ => Value.int 0) (1 : Int32).toInt.toNat (Value.int (xbf 1 (xlo (xvv xs)) (0 : Int32) ((32 : Int32) - K)))) (0 : Int32).toInt.toNat (Value.int (xbf 1 (xlo (xvv xs)) (0 : Int32) ((0 : Int32) - K)))) (0 : Int32).toInt.toNat (Value.int 0)) (1 : Int32).toInt.toNat (Value.int 0)) (1 : Int32).toInt.toNat (Value.int (-2147483648))))).set (31 + 3 * (xs 1).toInt.toNat) (Sum.inr (3, [Value.ref (32 + 3 * (xs 1).toInt.toNat), Value.int 2]))).set 78 (Sum.inr (1, [Value.int (-16384), Value.int 16384, Value.int 0, Value.int 5]))).set 194 (Sum.inl (3, 1, xup (fun _ => Value.long 0) (0 : Int32).toInt.toNat (Value.long 1)))), (s_20_5 W0_7 (by omega) (by omega) (by omega) (by omega) (by omega) (by omega) W0_8 (greg_at (by omega)) (by omega) (by omega) W0_16 W0_17 W0_18 (show (xhi (xvv xs)) = 0 from (xge_c (n := 0) (by omega) rfl)) (by omega) W0_78 (show ((32 : Int32) - (xnlz (xlo (xvv xs)))) = B from (xge_i (by omega))) (by omega) (by omega) (by omega) (W0_reg (by omega)) (by omega) (show ((B + (xs 4)) - ((B + (xs 4)) - (64 : Int32))) = 64 from (xge_c (n := 64) (by omega) rfl)) (by omega) (by omega) (by omega) (by omega) (show ((64 : Int32) - B) = K from (xge_i (by omega))) (by omega) (by omega) (by omega) (by omega) (W0_man (by omega)) (show (B + K) = 64 from (xge_c (n := 64) (by omega) rfl)) (by omega) (by omega) (by omega) (by omega) (W0_mw (by omega)) (by omega) (by omega) (by omega) (by omega) (by omega) (by omega) (by omega) (by omega) (by omega) (by omega) (by omega) (by omega) (by omega) (by omega) (by omega) (by omega) (by omega) (by omega) (by omega) (by omega) (by omega) (by omega) (by omega) (by omega) (by omega) (by omega) W0_194), ?_, xgs (xgn (by decide) (xgn (by omega) (xgn (by omega) (xgn (by omega) (xgn (by decide) (xgn (by omega) (xgn (by omega) (xgn (by omega) (xgn (by decide) (xgn (by decide) (xgn (by decide) (xgn (by decide) (xgn (by decide) W0_194)))))))))))))⟩
  refine xKp.set ?_ (fun h hh => by unfold xPC at hh; omega) (xgn (by decide) (xgn (by omega) (xgn (by omega) (xgn (by omega) (xgn (by decide) (xgn (by omega) (xgn (by omega) (xgn (by omega) (xgn (by decide) (xgn (by decide) (xgn (by decide) (xgn (by decide) (xgn (by decide) W0_194))))))))))))) xcs_a
  refine xKp.set ?_ (fun h hh => by unfold xPC at hh; omega) (xgn (by omega) (xgn (by omega) (xgn (by omega) (xgs (xgn (by omega) (xgn (by omega) (xgn (by omega) (xgn (by decide) (xgn (by decide) (xgn (by decide) (xgn (by decide) (xgn (by decide) W0_78)))))))))))) xcs_o
  refine xKp.set ?_ (fun h hh => by unfold xPC at hh; omega) (xgn (by omega) (xgn (by omega) (xgn (by omega) (xgs (xgn (by omega) (xgn (by omega) (xgn (by omega) (xgn (by omega) (xgn (by omega) (xgn (by omega) (xgn (by omega) (W0_man (by omega))))))))))))) xcs_o
  refine xKp.set ?_ (fun h hh => by unfold xPC at hh; omega) (xgn (by omega) (xgn (by omega) (xgn (by omega) (xgs (xgn (by omega) (xgn (by omega) (xgn (by omega) (xgn (by omega) (xgn (by omega) (xgn (by omega) (W0_mw (by omega)))))))))))) xcs_a
  refine xKp.set ?_ (fun h hh => by unfold xPC at hh; omega) (xgn (by omega) (xgn (by omega) (xgn (by omega) (xgs (xgn (by omega) (xgn (by omega) (xgn (by omega) (xgn (by omega) (xgn (by omega) (W0_reg (by omega))))))))))) xcs_o
  refine xKp.set ?_ (fun h hh => by unfold xPC at hh; omega) (xgn (by omega) (xgn (by omega) (xgn (by omega) (xgn (by decide) (xgn (by decide) (xgn (by decide) (xgn (by decide) (xgn (by decide) W0_78)))))))) xcs_o
  refine xKp.set ?_ (fun h hh => by unfold xPC at hh; omega) (xgn (by omega) (xgn (by omega) (xgn (by omega) (xgn (by omega) (xgn (by omega) (xgn (by omega) (xgn (by omega) (W0_man (by omega))))))))) xcs_o
  refine xKp.set ?_ (fun h hh => by unfold xPC at hh; omega) (xgn (by omega) (xgn (by omega) (xgn (by omega) (xgn (by omega) (xgn (by omega) (xgn (by omega) (W0_mw (by omega)))))))) xcs_a
  refine xKp.set ?_ (fun h hh => by unfold xPC at hh; omega) (xgn (by omega) (xgn (by omega) (xgn (by omega) (xgn (by omega) (xgn (by omega) (W0_reg (by omega))))))) xcs_o
  refine xKp.set ?_ (fun h hh => by unfold xPC at hh; omega) (xgn (by decide) (xgn (by decide) (xgn (by decide) (xgs W0_16)))) xcs_o
  refine xKp.set ?_ (fun h hh => by unfold xPC at hh; omega) (xgs (xgn (by decide) (xgn (by decide) W0_17))) xcs_o
  refine xKp.set ?_ (fun h hh => by unfold xPC at hh; omega) (xgn (by decide) (xgn (by decide) W0_17)) xcs_o
  refine xKp.set ?_ (fun h hh => by unfold xPC at hh; omega) (xgn (by decide) W0_18) xcs_a
  refine xKp.set ?_ (fun h hh => by unfold xPC at hh; omega) (W0_16) xcs_o
  exact xKp.refl
theorem s_50_1 {d : Nat} {w : xW} {h0 : Nat} {a0 : Int32} {a1 : Int32} {a2 : Int32} {h1 : Nat} {h2 : Nat} {g0 : Nat → Value} (hw0 : w[78]? = some (Sum.inr (1, [Value.int (-16384), Value.int 16384, Value.int 0, Value.int 0]))) (hw1 : w[16]? = some (Sum.inr (4, [Value.int 0, Value.ref 17, Value.int a1, Value.int 0]))) (e2 : a0.toInt ≠ 4) (e3 : a0.toInt = 2) (e4 : a0.toInt ≠ 0) (e5 : 78 ≠ h0) (hw6 : w[h0]? = some (Sum.inr (2, [Value.int 64, Value.int 3, Value.int 0, Value.int a2, Value.ref h1]))) (e7 : 7 ≤ h0) (e8 : h0 ≠ h1) (e9 : 78 ≠ h1) (hw10 : w[h1]? = some (Sum.inr (3, [Value.ref h2, Value.int 2]))) (e11 : h0 ≠ h2) (e12 : 78 ≠ h2) (hw13 : w[h2]? = some (Sum.inl (0, 8, g0))) (e14 : 7 ≤ h2) (e15 : h2 ≠ h1) (e16 : 7 ≤ h1) : xRun (d + 4) 50 [Value.ref 78, Value.ref h0, Value.ref 16, Value.int a0] w (.inl (some (Value.int 1))) ((((w.set 78 (Sum.inr (1, [Value.int (-16384), Value.int 16384, Value.int 0, Value.int 4]))).set h0 (Sum.inr (2, [Value.int 64, Value.int 3, Value.int 0, Value.int (-16384), Value.ref h1]))).set h2 (Sum.inl (0, 8, xup (xup (xup g0 (0 : Int32).toInt.toNat (Value.int 0)) (1 : Int32).toInt.toNat (Value.int 0)) (1 : Int32).toInt.toNat (Value.int (-2147483648))))).set h1 (Sum.inr (3, [Value.ref h2, Value.int 2]))) := by
  refine xRun.of ?_
  refine i_50_0 (x := 78) rfl ?_
  refine i_50_1 rfl ?_
  refine i_50_2 (v := Value.int 0) hw0 rfl ?_
  refine i_50_5 ?_
  refine i_50_6 (c := 4) (by decide) ?_
  refine i_50_7 (fs2 := [Value.int (-16384), Value.int 16384, Value.int 0, Value.int 4]) hw0 (Nat.le_of_ble_eq_true rfl) rfl (by decide) ?_
  refine i_50_10 (x := a0) rfl ?_
  refine i_50_11 (x := 16) rfl ?_
  refine i_50_12 (v := Value.int 0) (xgn (by decide) hw1) rfl ?_
  refine i_50_15 (Nat.le_of_ble_eq_true rfl) (s_37_1 e2 e3) ?_
  refine i_50_18 (lv2 := [(4, Value.int 1), (0, Value.ref 78), (1, Value.ref h0), (2, Value.ref 16), (3, Value.int a0)]) rfl ?_
  refine i_50_20 (x := a0) rfl ?_
  refine i_50_21 (fun _ => ?_) (fun h => absurd e4 (fun g => g h))
  refine i_50_82 (x := 1) rfl ?_
  refine i_50_84 (fun h => absurd h (by decide)) (fun _ => ?_)
  refine i_50_87 (x := h0) rfl ?_
  refine i_50_88 (x := 16) rfl ?_
  refine i_50_89 (v := Value.int 0) (xgn (by decide) hw1) rfl ?_
  refine i_50_92 (x := 78) rfl ?_
  refine i_50_93 (v := Value.int (-16384)) (xgs hw0) rfl ?_
  refine i_50_96 (xgn e5 hw6) (Nat.le_of_ble_eq_true rfl) (s_39_0 (xgn e5 hw6) e7 e8 (xgn e9 hw10) e11 (xgn e12 hw13) e14 e15 e16) ?_
  refine i_50_99 ?_
  exact i_50_100 ⟨rfl, rfl⟩
theorem s_27_6 {d : Nat} {w : xW} {h0 : Nat} {a0 : Int32} {a1 : Int32} {g0 : Nat → Value} {a2 : Int32} {a3 : Int32} {h1 : Nat} {a4 : Int32} {h2 : Nat} (hw0 : w[16]? = some (Sum.inr (4, [Value.int 0, Value.ref 17, Value.int a1, Value.int 0]))) (hw1 : w[17]? = some (Sum.inr (3, [Value.ref 18, Value.int 1]))) (hw2 : w[18]? = some (Sum.inl (0, 8, g0))) (hg3 : g0 (0 : Int32).toInt.toNat = Value.int a2) (hg4 : ((32 : Int32) - (xnlz a2)) = a3) (hw5 : w[h0]? = some (Sum.inr (2, [Value.int 64, Value.int 0, Value.int 0, Value.int 0, Value.ref h1]))) (hw6 : w[78]? = some (Sum.inr (1, [Value.int (-16384), Value.int 16384, Value.int 0, Value.int 0]))) (e7 : (((a3 + a1) - (64 : Int32)) - a1).toInt ≤ 0) (hg8 : ((a3 + a1) - ((a3 + a1) - (64 : Int32))) = 64) (e9 : 7 ≤ h0) (e10 : h0 ≠ 16) (e11 : h0 ≠ 17) (e12 : h0 ≠ 18) (hg13 : ((64 : Int32) - a3) = a4) (e14 : h0 ≠ h1) (hw15 : w[h1]? = some (Sum.inr (3, [Value.ref h2, Value.int 0]))) (hg16 : (a3 + a4) = 64) (e17 : h0 ≠ h2) (hw18 : w[h2]? = some (Sum.inl (0, 8, fun _ => Value.int 0))) (e19 : 0 ≤ a4.toInt) (hg20 : g0 (1 : Int32).toInt.toNat = Value.int 0) (e21 : 7 ≤ h2) (e22 : h2 ≠ h1) (e23 : h2 ≠ 17) (e24 : h2 ≠ 18) (e25 : 7 ≤ h1) (e26 : h1 ≠ h0) (e27 : h2 ≠ h0) (e28 : h1 ≠ h2) (e29 : (xbf 1 a2 (0 : Int32) ((32 : Int32) - a4)).toInt ≠ 0) (e30 : ((64 : Int32) - (xnlz (xbf 1 a2 (0 : Int32) ((32 : Int32) - a4)))).toInt ≤ 64) (e31 : h1 ≠ 78) (e32 : h2 ≠ 78) (e33 : h0 ≠ 78) (e34 : (a3 + a1).toInt ≤ 16384) (e35 : (a3 + a1).toInt < (-16384)) (e36 : h1 ≠ 16) (e37 : h2 ≠ 16) (e38 : a0.toInt ≠ 4) (e39 : a0.toInt = 2) (e40 : a0.toInt ≠ 0) (e41 : 78 ≠ h0) (e42 : 78 ≠ h1) (e43 : 78 ≠ h2) : xRun (d + 5) 27 [Value.ref 78, Value.ref h0, Value.ref 16, Value.int a0] w (.inl (some (Value.int 1))) ((((((((w.set h0 (Sum.inr (2, [Value.int 64, Value.int 3, Value.int 0, Value.int (a3 + a1), Value.ref h1]))).set h2 (Sum.inl (0, 8, xup (xup (fun _ => Value.int 0) (1 : Int32).toInt.toNat (Value.int (xbf 1 a2 (0 : Int32) ((32 : Int32) - a4)))) (0 : Int32).toInt.toNat (Value.int (xbf 1 a2 (0 : Int32) ((0 : Int32) - a4)))))).set h1 (Sum.inr (3, [Value.ref h2, Value.int 2]))).set 78 (Sum.inr (1, [Value.int (-16384), Value.int 16384, Value.int 0, Value.int 4]))).set h0 (Sum.inr (2, [Value.int 64, Value.int 3, Value.int 0, Value.int (-16384), Value.ref h1]))).set h2 (Sum.inl (0, 8, xup (xup (xup (xup (xup (fun _ => Value.int 0) (1 : Int32).toInt.toNat (Value.int (xbf 1 a2 (0 : Int32) ((32 : Int32) - a4)))) (0 : Int32).toInt.toNat (Value.int (xbf 1 a2 (0 : Int32) ((0 : Int32) - a4)))) (0 : Int32).toInt.toNat (Value.int 0)) (1 : Int32).toInt.toNat (Value.int 0)) (1 : Int32).toInt.toNat (Value.int (-2147483648))))).set h1 (Sum.inr (3, [Value.ref h2, Value.int 2]))).set 78 (Sum.inr (1, [Value.int (-16384), Value.int 16384, Value.int 0, Value.int 5]))) := by
  refine xRun.of ?_
  refine i_27_0 (x := 16) rfl ?_
  refine i_27_1 hw0 (Nat.le_of_ble_eq_true rfl) (s_28_0 hw0 hw1 hw2 hg3 hg4) ?_
  refine i_27_4 (lv2 := [(4, Value.int (a3 + a1)), (0, Value.ref 78), (1, Value.ref h0), (2, Value.ref 16), (3, Value.int a0)]) rfl ?_
  refine i_27_6 (x := 78) rfl ?_
  refine i_27_7 (x := (a3 + a1)) rfl ?_
  refine i_27_9 (x := h0) rfl ?_
  refine i_27_10 (v := Value.int 64) hw5 rfl ?_
  refine i_27_13 hw6 (Nat.le_of_ble_eq_true rfl) (s_30_0 hw6) ?_
  refine i_27_16 (lv2 := [(5, Value.int ((a3 + a1) - (64 : Int32))), (4, Value.int (a3 + a1)), (0, Value.ref 78), (1, Value.ref h0), (2, Value.ref 16), (3, Value.int a0)]) rfl ?_
  refine i_27_18 (x := 16) rfl ?_
  refine i_27_19 (x := ((a3 + a1) - (64 : Int32))) rfl ?_
  refine i_27_21 (x := a0) rfl ?_
  refine i_27_22 hw0 (Nat.le_of_ble_eq_true rfl) (s_31_0 hw0 hw1 e7) ?_
  refine i_27_25 (lv2 := [(6, Value.int 0), (5, Value.int ((a3 + a1) - (64 : Int32))), (4, Value.int (a3 + a1)), (0, Value.ref 78), (1, Value.ref h0), (2, Value.ref 16), (3, Value.int a0)]) rfl ?_
  refine i_27_27 (x := 16) rfl ?_
  refine i_27_28 (x := ((a3 + a1) - (64 : Int32))) rfl ?_
  refine i_27_30 hw0 (Nat.le_of_ble_eq_true rfl) (s_32_0 hw0 hw1 e7) ?_
  refine i_27_33 (fun h => absurd h (by decide)) (fun _ => ?_)
  refine i_27_36 ?_
  refine i_27_37 ?_
  refine i_27_50 (lv2 := [(7, Value.int 0), (6, Value.int 0), (5, Value.int ((a3 + a1) - (64 : Int32))), (4, Value.int (a3 + a1)), (0, Value.ref 78), (1, Value.ref h0), (2, Value.ref 16), (3, Value.int a0)]) rfl ?_
  refine i_27_52 (x := h0) rfl ?_
  refine i_27_53 (x := 16) rfl ?_
  refine i_27_54 (x := ((a3 + a1) - (64 : Int32))) rfl ?_
  refine i_27_56 (x := 0) rfl ?_
  refine i_27_58 hw5 (Nat.le_of_ble_eq_true rfl) (s_38_0 hw0 hw1 hw2 hg3 hg4 hg8 hw5 e9 e10 e11 e12 hg13 e14 hw15 hg16 e17 hw18 e19 hg20 e21 e22 e23 e24 e25 e26 e27 e28 e29 e30) ?_
  refine i_27_61 (x := h0) rfl ?_
  refine i_27_62 (v := Value.int 3) (xgn e26 (xgn e27 (xgs hw5))) rfl ?_
  refine i_27_65 ?_
  refine i_27_66 (fun h => absurd h (by decide)) (fun _ => ?_)
  refine i_27_69 (x := h0) rfl ?_
  refine i_27_70 (v := Value.int (a3 + a1)) (xgn e26 (xgn e27 (xgs hw5))) rfl ?_
  refine i_27_73 (x := 78) rfl ?_
  refine i_27_74 (v := Value.int 16384) (xgn e31 (xgn e32 (xgn e33 hw6))) rfl ?_
  refine i_27_77 (fun _ => ?_) (fun h => absurd e34 (Int.not_le.mpr h))
  refine i_27_95 (x := h0) rfl ?_
  refine i_27_96 (v := Value.int 3) (xgn e26 (xgn e27 (xgs hw5))) rfl ?_
  refine i_27_99 ?_
  refine i_27_100 (fun h => absurd h (by decide)) (fun _ => ?_)
  refine i_27_103 (x := 78) rfl ?_
  refine i_27_104 (v := Value.int 0) (xgn e31 (xgn e32 (xgn e33 hw6))) rfl ?_
  refine i_27_107 (fun h => absurd h (by decide)) (fun _ => ?_)
  refine i_27_110 (x := h0) rfl ?_
  refine i_27_111 (v := Value.int (a3 + a1)) (xgn e26 (xgn e27 (xgs hw5))) rfl ?_
  refine i_27_114 (x := 78) rfl ?_
  refine i_27_115 (v := Value.int (-16384)) (xgn e31 (xgn e32 (xgn e33 hw6))) rfl ?_
  refine i_27_118 (fun h => absurd e35 (Int.not_lt.mpr h)) (fun _ => ?_)
  refine i_27_121 (x := 78) rfl ?_
  refine i_27_122 (x := h0) rfl ?_
  refine i_27_123 (x := 16) rfl ?_
  refine i_27_124 (x := a0) rfl ?_
  refine i_27_125 (xgn e31 (xgn e32 (xgn e33 hw6))) (Nat.le_of_ble_eq_true rfl) (s_50_1 (xgn e31 (xgn e32 (xgn e33 hw6))) (xgn e36 (xgn e37 (xgn e10 hw0))) e38 e39 e40 e41 (xgn e26 (xgn e27 (xgs hw5))) e9 e14 e42 (xgs (xgn e22 (xgn e14 hw15))) e17 e43 (xgn e28 (xgs (xgn e17 hw18))) e21 e22 e25) ?_
  refine i_27_128 (lv2 := [(7, Value.int 1), (6, Value.int 0), (5, Value.int ((a3 + a1) - (64 : Int32))), (4, Value.int (a3 + a1)), (0, Value.ref 78), (1, Value.ref h0), (2, Value.ref 16), (3, Value.int a0)]) rfl ?_
  refine i_27_130 ?_
  refine i_27_164 (x := 1) rfl ?_
  refine i_27_166 (fun h => absurd h (by decide)) (fun _ => ?_)
  refine i_27_169 (x := 78) rfl ?_
  refine i_27_170 rfl ?_
  refine i_27_171 (v := Value.int 4) (xgn e31 (xgn e32 (xgn e33 (xgs (xgn e31 (xgn e32 (xgn e33 hw6))))))) rfl ?_
  refine i_27_174 ?_
  refine i_27_175 (c := 5) (by decide) ?_
  refine i_27_176 (fs2 := [Value.int (-16384), Value.int 16384, Value.int 0, Value.int 5]) (xgn e31 (xgn e32 (xgn e33 (xgs (xgn e31 (xgn e32 (xgn e33 hw6))))))) (Nat.le_of_ble_eq_true rfl) rfl (by decide) ?_
  refine i_27_179 (x := 16) rfl ?_
  refine i_27_180 (v := Value.int 0) (xgn (by decide) (xgn e36 (xgn e37 (xgn e10 (xgn (by decide) (xgn e36 (xgn e37 (xgn e10 hw0)))))))) rfl ?_
  refine i_27_183 (fun _ => ?_) (fun h => absurd h (by decide))
  refine i_27_192 (x := 1) rfl ?_
  exact i_27_194 ⟨rfl, rfl⟩
theorem s_21_6 {d : Nat} {w : xW} {a0 : Int32} {b0 : Int64} {a1 : Int32} {a2 : Int32} {g0 : Nat → Value} {h0 : Nat} {a3 : Int32} {h1 : Nat} {a4 : Int32} {h2 : Nat} (e0 : 0 ≤ a0.toInt) (e1 : a0.toInt < 16) (e2 : (-40000) ≤ a1.toInt) (e3 : a1.toInt ≤ 40000) (e4 : 0 ≤ a2.toInt) (e5 : a2.toInt ≤ 4) (hw6 : w[7]? = some (Sum.inr (0, [Value.ref 8, Value.ref 78, Value.ref 9, Value.ref 10, Value.ref 13, Value.ref 16, Value.ref 19, Value.ref 93, Value.ref 108, Value.ref 113, Value.ref 29, Value.int 0]))) (hw7 : w[8]? = some (Sum.inl (4, 16, g0))) (hg8 : g0 a0.toInt.toNat = Value.ref h0) (e9 : (lg_cmp b0 (0 : Int64)).toInt ≠ 0) (e10 : 0 ≤ (lg_cmp b0 (0 : Int64)).toInt) (hw11 : w[16]? = some (Sum.inr (4, [Value.int 0, Value.ref 17, Value.int 0, Value.int 0]))) (hw12 : w[17]? = some (Sum.inr (3, [Value.ref 18, Value.int 0]))) (hw13 : w[18]? = some (Sum.inl (0, 8, fun _ => Value.int 0))) (hg14 : (xhi b0) = 0) (e15 : (xlo b0).toInt ≠ 0) (hw16 : w[78]? = some (Sum.inr (1, [Value.int (-16384), Value.int 16384, Value.int 0, Value.int 0]))) (hg17 : ((32 : Int32) - (xnlz (xlo b0))) = a3) (e18 : 16 ≠ h0) (e19 : 17 ≠ h0) (e20 : 18 ≠ h0) (hw21 : w[h0]? = some (Sum.inr (2, [Value.int 64, Value.int 0, Value.int 0, Value.int 0, Value.ref h1]))) (e22 : (((a3 + a1) - (64 : Int32)) - a1).toInt ≤ 0) (hg23 : ((a3 + a1) - ((a3 + a1) - (64 : Int32))) = 64) (e24 : 7 ≤ h0) (e25 : h0 ≠ 16) (e26 : h0 ≠ 17) (e27 : h0 ≠ 18) (hg28 : ((64 : Int32) - a3) = a4) (e29 : h0 ≠ h1) (e30 : 16 ≠ h1) (e31 : 17 ≠ h1) (e32 : 18 ≠ h1) (hw33 : w[h1]? = some (Sum.inr (3, [Value.ref h2, Value.int 0]))) (hg34 : (a3 + a4) = 64) (e35 : h0 ≠ h2) (e36 : 16 ≠ h2) (e37 : 17 ≠ h2) (e38 : 18 ≠ h2) (hw39 : w[h2]? = some (Sum.inl (0, 8, fun _ => Value.int 0))) (e40 : 0 ≤ a4.toInt) (e41 : 7 ≤ h2) (e42 : h2 ≠ h1) (e43 : h2 ≠ 17) (e44 : h2 ≠ 18) (e45 : 7 ≤ h1) (e46 : h1 ≠ h0) (e47 : h2 ≠ h0) (e48 : h1 ≠ h2) (e49 : (xbf 1 (xlo b0) (0 : Int32) ((32 : Int32) - a4)).toInt ≠ 0) (e50 : ((64 : Int32) - (xnlz (xbf 1 (xlo b0) (0 : Int32) ((32 : Int32) - a4)))).toInt ≤ 64) (e51 : h1 ≠ 78) (e52 : h2 ≠ 78) (e53 : h0 ≠ 78) (e54 : (a3 + a1).toInt ≤ 16384) (e55 : (a3 + a1).toInt < (-16384)) (e56 : h1 ≠ 16) (e57 : h2 ≠ 16) (e58 : a2.toInt ≠ 4) (e59 : a2.toInt = 2) (e60 : a2.toInt ≠ 0) (e61 : 78 ≠ h0) (e62 : 78 ≠ h1) (e63 : 78 ≠ h2) : xRun (d + 6) 21 [Value.ref 7, Value.int a0, Value.long b0, Value.int a1, Value.int a2] w (.inl (some (Value.int 1))) (((((((((((((w.set 16 (Sum.inr (4, [Value.int 0, Value.ref 17, Value.int 0, Value.int 0]))).set 18 (Sum.inl (0, 8, xup (xup (fun _ => Value.int 0) (0 : Int32).toInt.toNat (Value.int (xlo b0))) (1 : Int32).toInt.toNat (Value.int 0)))).set 17 (Sum.inr (3, [Value.ref 18, Value.int 2]))).set 17 (Sum.inr (3, [Value.ref 18, Value.int 1]))).set 16 (Sum.inr (4, [Value.int 0, Value.ref 17, Value.int a1, Value.int 0]))).set h0 (Sum.inr (2, [Value.int 64, Value.int 3, Value.int 0, Value.int (a3 + a1), Value.ref h1]))).set h2 (Sum.inl (0, 8, xup (xup (fun _ => Value.int 0) (1 : Int32).toInt.toNat (Value.int (xbf 1 (xlo b0) (0 : Int32) ((32 : Int32) - a4)))) (0 : Int32).toInt.toNat (Value.int (xbf 1 (xlo b0) (0 : Int32) ((0 : Int32) - a4)))))).set h1 (Sum.inr (3, [Value.ref h2, Value.int 2]))).set 78 (Sum.inr (1, [Value.int (-16384), Value.int 16384, Value.int 0, Value.int 4]))).set h0 (Sum.inr (2, [Value.int 64, Value.int 3, Value.int 0, Value.int (-16384), Value.ref h1]))).set h2 (Sum.inl (0, 8, xup (xup (xup (xup (xup (fun _ => Value.int 0) (1 : Int32).toInt.toNat (Value.int (xbf 1 (xlo b0) (0 : Int32) ((32 : Int32) - a4)))) (0 : Int32).toInt.toNat (Value.int (xbf 1 (xlo b0) (0 : Int32) ((0 : Int32) - a4)))) (0 : Int32).toInt.toNat (Value.int 0)) (1 : Int32).toInt.toNat (Value.int 0)) (1 : Int32).toInt.toNat (Value.int (-2147483648))))).set h1 (Sum.inr (3, [Value.ref h2, Value.int 2]))).set 78 (Sum.inr (1, [Value.int (-16384), Value.int 16384, Value.int 0, Value.int 5]))) := by
  refine xRun.of ?_
  refine i_21_0 (x := a0) rfl ?_
  refine i_21_1 (Nat.le_of_ble_eq_true rfl) (s_15_0 e0 e1) ?_
  refine i_21_4 (fun h => absurd h (by decide)) (fun _ => ?_)
  refine i_21_7 (x := a1) rfl ?_
  refine i_21_9 ?_
  refine i_21_11 (fun h => absurd e2 (Int.not_le.mpr h)) (fun _ => ?_)
  refine i_21_14 (x := a1) rfl ?_
  refine i_21_16 ?_
  refine i_21_18 (fun h => absurd e3 (Int.not_le.mpr h)) (fun _ => ?_)
  refine i_21_21 (x := a2) rfl ?_
  refine i_21_23 (Nat.le_of_ble_eq_true rfl) (s_22_0 e4 e5) ?_
  refine i_21_26 (fun _ => ?_) (fun h => absurd h (by decide))
  refine i_21_37 (x := 7) rfl ?_
  refine i_21_38 (v := Value.ref 8) hw6 rfl ?_
  refine i_21_41 (x := a0) rfl ?_
  refine i_21_42 (v := Value.ref h0) hw7 e0 e1 hg8 ?_
  refine i_21_43 (lv2 := [(6, Value.ref h0), (0, Value.ref 7), (1, Value.int a0), (2, Value.long b0), (4, Value.int a1), (5, Value.int a2)]) rfl ?_
  refine i_21_45 (x := b0) rfl ?_
  refine i_21_46 ?_
  refine i_21_47 (c := (lg_cmp b0 (0 : Int64))) rfl ?_
  refine i_21_48 (fun _ => ?_) (fun h => absurd e9 (fun g => g h))
  refine i_21_58 (x := 7) rfl ?_
  refine i_21_59 (v := Value.ref 16) hw6 rfl ?_
  refine i_21_62 (x := b0) rfl ?_
  refine i_21_63 ?_
  refine i_21_64 (c := (lg_cmp b0 (0 : Int64))) rfl ?_
  refine i_21_65 (fun _ => ?_) (fun h => absurd e10 (Int.not_le.mpr h))
  refine i_21_72 ?_
  refine i_21_73 (x := b0) rfl ?_
  refine i_21_74 ?_
  refine i_21_75 (c := (lg_cmp b0 (0 : Int64))) rfl ?_
  refine i_21_76 (fun _ => ?_) (fun h => absurd e10 (Int.not_le.mpr h))
  refine i_21_84 (x := b0) rfl ?_
  refine i_21_85 (x := a1) rfl ?_
  refine i_21_87 hw11 (Nat.le_of_ble_eq_true rfl) (s_24_0 hw11 hw12 hw13 hg14 e15) ?_
  refine i_21_90 (x := 7) rfl ?_
  refine i_21_91 (v := Value.ref 78) (xgn (by decide) (xgn (by decide) (xgn (by decide) (xgn (by decide) (xgn (by decide) hw6))))) rfl ?_
  refine i_21_94 (x := h0) rfl ?_
  refine i_21_96 (x := 7) rfl ?_
  refine i_21_97 (v := Value.ref 16) (xgn (by decide) (xgn (by decide) (xgn (by decide) (xgn (by decide) (xgn (by decide) hw6))))) rfl ?_
  refine i_21_100 (x := a2) rfl ?_
  refine i_21_102 (xgn (by decide) (xgn (by decide) (xgn (by decide) (xgn (by decide) (xgn (by decide) hw16))))) (Nat.le_of_ble_eq_true rfl) (s_27_6 (xgs (xgn (by decide) (xgn (by decide) (xgn (by decide) (xgs hw11))))) (xgn (by decide) (xgs (xgs (xgn (by decide) (xgn (by decide) hw12))))) (xgn (by decide) (xgn (by decide) (xgn (by decide) (xgs (xgn (by decide) hw13))))) (xup_n (by decide) xup_s) hg17 (xgn e18 (xgn e19 (xgn e19 (xgn e20 (xgn e18 hw21))))) (xgn (by decide) (xgn (by decide) (xgn (by decide) (xgn (by decide) (xgn (by decide) hw16))))) e22 hg23 e24 e25 e26 e27 hg28 e29 (xgn e30 (xgn e31 (xgn e31 (xgn e32 (xgn e30 hw33))))) hg34 e35 (xgn e36 (xgn e37 (xgn e37 (xgn e38 (xgn e36 hw39))))) e40 xup_s e41 e42 e43 e44 e45 e46 e47 e48 e49 e50 e51 e52 e53 e54 e55 e56 e57 e58 e59 e60 e61 e62 e63) ?_
  exact i_21_105 ⟨rfl, rfl⟩
theorem s_20_6 {d : Nat} {w : xW} {a0 : Int32} {b0 : Int64} {a1 : Int32} {a2 : Int32} {g0 : Nat → Value} {h0 : Nat} {a3 : Int32} {h1 : Nat} {a4 : Int32} {h2 : Nat} (hw0 : w[7]? = some (Sum.inr (0, [Value.ref 8, Value.ref 78, Value.ref 9, Value.ref 10, Value.ref 13, Value.ref 16, Value.ref 19, Value.ref 93, Value.ref 108, Value.ref 113, Value.ref 29, Value.int 0]))) (e1 : 0 ≤ a0.toInt) (e2 : a0.toInt < 16) (e3 : (-40000) ≤ a1.toInt) (e4 : a1.toInt ≤ 40000) (e5 : 0 ≤ a2.toInt) (e6 : a2.toInt ≤ 4) (hw7 : w[8]? = some (Sum.inl (4, 16, g0))) (hg8 : g0 a0.toInt.toNat = Value.ref h0) (e9 : (lg_cmp b0 (0 : Int64)).toInt ≠ 0) (e10 : 0 ≤ (lg_cmp b0 (0 : Int64)).toInt) (hw11 : w[16]? = some (Sum.inr (4, [Value.int 0, Value.ref 17, Value.int 0, Value.int 0]))) (hw12 : w[17]? = some (Sum.inr (3, [Value.ref 18, Value.int 0]))) (hw13 : w[18]? = some (Sum.inl (0, 8, fun _ => Value.int 0))) (hg14 : (xhi b0) = 0) (e15 : (xlo b0).toInt ≠ 0) (hw16 : w[78]? = some (Sum.inr (1, [Value.int (-16384), Value.int 16384, Value.int 0, Value.int 0]))) (hg17 : ((32 : Int32) - (xnlz (xlo b0))) = a3) (e18 : 16 ≠ h0) (e19 : 17 ≠ h0) (e20 : 18 ≠ h0) (hw21 : w[h0]? = some (Sum.inr (2, [Value.int 64, Value.int 0, Value.int 0, Value.int 0, Value.ref h1]))) (e22 : (((a3 + a1) - (64 : Int32)) - a1).toInt ≤ 0) (hg23 : ((a3 + a1) - ((a3 + a1) - (64 : Int32))) = 64) (e24 : 7 ≤ h0) (e25 : h0 ≠ 16) (e26 : h0 ≠ 17) (e27 : h0 ≠ 18) (hg28 : ((64 : Int32) - a3) = a4) (e29 : h0 ≠ h1) (e30 : 16 ≠ h1) (e31 : 17 ≠ h1) (e32 : 18 ≠ h1) (hw33 : w[h1]? = some (Sum.inr (3, [Value.ref h2, Value.int 0]))) (hg34 : (a3 + a4) = 64) (e35 : h0 ≠ h2) (e36 : 16 ≠ h2) (e37 : 17 ≠ h2) (e38 : 18 ≠ h2) (hw39 : w[h2]? = some (Sum.inl (0, 8, fun _ => Value.int 0))) (e40 : 0 ≤ a4.toInt) (e41 : 7 ≤ h2) (e42 : h2 ≠ h1) (e43 : h2 ≠ 17) (e44 : h2 ≠ 18) (e45 : 7 ≤ h1) (e46 : h1 ≠ h0) (e47 : h2 ≠ h0) (e48 : h1 ≠ h2) (e49 : (xbf 1 (xlo b0) (0 : Int32) ((32 : Int32) - a4)).toInt ≠ 0) (e50 : ((64 : Int32) - (xnlz (xbf 1 (xlo b0) (0 : Int32) ((32 : Int32) - a4)))).toInt ≤ 64) (e51 : h1 ≠ 78) (e52 : h2 ≠ 78) (e53 : h0 ≠ 78) (e54 : (a3 + a1).toInt ≤ 16384) (e55 : (a3 + a1).toInt < (-16384)) (e56 : h1 ≠ 16) (e57 : h2 ≠ 16) (e58 : a2.toInt ≠ 4) (e59 : a2.toInt = 2) (e60 : a2.toInt ≠ 0) (e61 : 78 ≠ h0) (e62 : 78 ≠ h1) (e63 : 78 ≠ h2) (e64 : h1 ≠ 194) (e65 : h2 ≠ 194) (e66 : h0 ≠ 194) (hw67 : w[194]? = some (Sum.inl (3, 1, fun _ => Value.long 0))) : xRun (d + 7) 20 [Value.ref 7, Value.int a0, Value.long b0, Value.int a1, Value.int a2, Value.ref 194] w (.inl (some (Value.int 0))) ((((((((((((((w.set 16 (Sum.inr (4, [Value.int 0, Value.ref 17, Value.int 0, Value.int 0]))).set 18 (Sum.inl (0, 8, xup (xup (fun _ => Value.int 0) (0 : Int32).toInt.toNat (Value.int (xlo b0))) (1 : Int32).toInt.toNat (Value.int 0)))).set 17 (Sum.inr (3, [Value.ref 18, Value.int 2]))).set 17 (Sum.inr (3, [Value.ref 18, Value.int 1]))).set 16 (Sum.inr (4, [Value.int 0, Value.ref 17, Value.int a1, Value.int 0]))).set h0 (Sum.inr (2, [Value.int 64, Value.int 3, Value.int 0, Value.int (a3 + a1), Value.ref h1]))).set h2 (Sum.inl (0, 8, xup (xup (fun _ => Value.int 0) (1 : Int32).toInt.toNat (Value.int (xbf 1 (xlo b0) (0 : Int32) ((32 : Int32) - a4)))) (0 : Int32).toInt.toNat (Value.int (xbf 1 (xlo b0) (0 : Int32) ((0 : Int32) - a4)))))).set h1 (Sum.inr (3, [Value.ref h2, Value.int 2]))).set 78 (Sum.inr (1, [Value.int (-16384), Value.int 16384, Value.int 0, Value.int 4]))).set h0 (Sum.inr (2, [Value.int 64, Value.int 3, Value.int 0, Value.int (-16384), Value.ref h1]))).set h2 (Sum.inl (0, 8, xup (xup (xup (xup (xup (fun _ => Value.int 0) (1 : Int32).toInt.toNat (Value.int (xbf 1 (xlo b0) (0 : Int32) ((32 : Int32) - a4)))) (0 : Int32).toInt.toNat (Value.int (xbf 1 (xlo b0) (0 : Int32) ((0 : Int32) - a4)))) (0 : Int32).toInt.toNat (Value.int 0)) (1 : Int32).toInt.toNat (Value.int 0)) (1 : Int32).toInt.toNat (Value.int (-2147483648))))).set h1 (Sum.inr (3, [Value.ref h2, Value.int 2]))).set 78 (Sum.inr (1, [Value.int (-16384), Value.int 16384, Value.int 0, Value.int 5]))).set 194 (Sum.inl (3, 1, xup (fun _ => Value.long 0) (0 : Int32).toInt.toNat (Value.long 1)))) := by
  refine xRun.of ?_
  refine i_20_0 (x := 194) rfl ?_
  refine i_20_2 ?_
  refine i_20_3 (x := 7) rfl ?_
  refine i_20_4 (x := a0) rfl ?_
  refine i_20_5 (x := b0) rfl ?_
  refine i_20_6 (x := a1) rfl ?_
  refine i_20_8 (x := a2) rfl ?_
  refine i_20_10 hw0 (Nat.le_of_ble_eq_true rfl) (s_21_6 e1 e2 e3 e4 e5 e6 hw0 hw7 hg8 e9 e10 hw11 hw12 hw13 hg14 e15 hw16 hg17 e18 e19 e20 hw21 e22 hg23 e24 e25 e26 e27 hg28 e29 e30 e31 e32 hw33 hg34 e35 e36 e37 e38 hw39 e40 e41 e42 e43 e44 e45 e46 e47 e48 e49 e50 e51 e52 e53 e54 e55 e56 e57 e58 e59 e60 e61 e62 e63) ?_
  refine i_20_13 (c := 1) (by decide) ?_
  refine i_20_14 (v := Value.long 1) (xgn (by decide) (xgn e64 (xgn e65 (xgn e66 (xgn (by decide) (xgn e64 (xgn e65 (xgn e66 (xgn (by decide) (xgn (by decide) (xgn (by decide) (xgn (by decide) (xgn (by decide) hw67))))))))))))) (by decide) (by decide) (by decide) rfl ?_
  refine i_20_15 ?_
  refine i_20_22 ?_
  exact i_20_23 ⟨rfl, rfl⟩
theorem cn3_0_6 {d : Nat} {xs : Nat → Int32} {B K : Int32} (c0 : 0 ≤ (xs 1).toInt) (c1 : (xs 1).toInt < 16) (c2 : (-40000) ≤ (xs 4).toInt) (c3 : (xs 4).toInt ≤ 40000) (c4 : 0 ≤ (xs 5).toInt) (c5 : (xs 5).toInt ≤ 4) (c6 : (lg_cmp (xvv xs) (0 : Int64)).toInt ≠ 0) (c7 : 0 ≤ (lg_cmp (xvv xs) (0 : Int64)).toInt) (c8 : K.toInt = 64 - B.toInt) (c9 : 1 ≤ B.toInt) (c10 : B.toInt ≤ 32) (c11 : (xhi (xvv xs)).toInt = 0) (c12 : (xlo (xvv xs)).toInt ≠ 0) (c13 : (xnlz (xlo (xvv xs))).toInt = 32 - B.toInt) (c14 : (xbf 1 (xlo (xvv xs)) (0 : Int32) ((32 : Int32) - K)).toInt ≠ 0) (c15 : (B + (xs 4)).toInt ≤ 16384) (c16 : (B + (xs 4)).toInt < (-16384)) (c17 : (xs 5).toInt ≠ 4) (c18 : (xs 5).toInt = 2) : ∃ w1, xRun (d + 18) 20 [Value.ref 7, Value.int (xs 1), Value.long (xvv xs), Value.int (xs 4), Value.int (xs 5), Value.ref 194] (W0 6 xs) (.inl (some (Value.int 0))) w1 ∧ xKp (W0 6 xs) w1 xPC ∧ w1[194]? = some (Sum.inl (3, 1, xup (fun _ => Value.long 0) (0 : Int32).toInt.toNat (Value.long 1))) := by
  have f0 : ((32 : Int32) - (xnlz (xlo (xvv xs)))).toInt = 32 - (xnlz (xlo (xvv xs))).toInt := xsub_g rfl rfl (by omega) (by omega)
  have f1 : (B + (xs 4)).toInt = B.toInt + (xs 4).toInt := xadd_i (by omega) (by omega)
  have f2 : ((B + (xs 4)) - (64 : Int32)).toInt = (B + (xs 4)).toInt - 64 := xsub_g rfl rfl (by omega) (by omega)
  have f3 : (((B + (xs 4)) - (64 : Int32)) - (xs 4)).toInt = ((B + (xs 4)) - (64 : Int32)).toInt - (xs 4).toInt := xsub_i (by omega) (by omega)
  have f4 : ((B + (xs 4)) - ((B + (xs 4)) - (64 : Int32))).toInt = (B + (xs 4)).toInt - ((B + (xs 4)) - (64 : Int32)).toInt := xsub_i (by omega) (by omega)
  have f5 : ((64 : Int32) - B).toInt = 64 - B.toInt := xsub_g rfl rfl (by omega) (by omega)
  have f6 : (B + K).toInt = B.toInt + K.toInt := xadd_i (by omega) (by omega)
  have f7 : 0 ≤ (xnlz (xbf 1 (xlo (xvv xs)) (0 : Int32) ((32 : Int32) - K))).toInt := (xnlz_b _).1
  have f8 : (xnlz (xbf 1 (xlo (xvv xs)) (0 : Int32) ((32 : Int32) - K))).toInt ≤ 32 := (xnlz_b _).2
  have f9 : ((64 : Int32) - (xnlz (xbf 1 (xlo (xvv xs)) (0 : Int32) ((32 : Int32) - K)))).toInt = 64 - (xnlz (xbf 1 (xlo (xvv xs)) (0 : Int32) ((32 : Int32) - K))).toInt := xsub_g rfl rfl (by omega) (by omega)
  refine ⟨(((((((((((((((W0 6 xs).set 16 (Sum.inr (4, [Value.int 0, Value.ref 17, Value.int 0, Value.int 0]))).set 18 (Sum.inl (0, 8, xup (xup (fun _ => Value.int 0) (0 : Int32).toInt.toNat (Value.int (xlo (xvv xs)))) (1 : Int32).toInt.toNat (Value.int 0)))).set 17 (Sum.inr (3, [Value.ref 18, Value.int 2]))).set 17 (Sum.inr (3, [Value.ref 18, Value.int 1]))).set 16 (Sum.inr (4, [Value.int 0, Value.ref 17, Value.int (xs 4), Value.int 0]))).set (30 + 3 * (xs 1).toInt.toNat) (Sum.inr (2, [Value.int 64, Value.int 3, Value.int 0, Value.int (B + (xs 4)), Value.ref (31 + 3 * (xs 1).toInt.toNat)]))).set (32 + 3 * (xs 1).toInt.toNat) (Sum.inl (0, 8, xup (xup (fun _ => Value.int 0) (1 : Int32).toInt.toNat (Value.int (xbf 1 (xlo (xvv xs)) (0 : Int32) ((32 : Int32) - K)))) (0 : Int32).toInt.toNat (Value.int (xbf 1 (xlo (xvv xs)) (0 : Int32) ((0 : Int32) - K)))))).set (31 + 3 * (xs 1).toInt.toNat) (Sum.inr (3, [Value.ref (32 + 3 * (xs 1).toInt.toNat), Value.int 2]))).set 78 (Sum.inr (1, [Value.int (-16384), Value.int 16384, Value.int 0, Value.int 4]))).set (30 + 3 * (xs 1).toInt.toNat) (Sum.inr (2, [Value.int 64, Value.int 3, Value.int 0, Value.int (-16384), Value.ref (31 + 3 * (xs 1).toInt.toNat)]))).set (32 + 3 * (xs 1).toInt.toNat) (Sum.inl (0, 8, xup (xup (xup (xup (xup (fun _ => Value.int 0) (1 : Int32).toInt.toNat (Value.int (xbf 1 (xlo (xvv xs)) (0 : Int32) ((32 : Int32) - K)))) (0 : Int32).toInt.toNat (Value.int (xbf 1 (xlo (xvv xs)) (0 : Int32) ((0 : Int32) - K)))) (0 : Int32).toInt.toNat (Value.int 0)) (1 : Int32).toInt.toNat (Value.int 0)) (1 : Int32).toInt.toNat (Value.int (-2147483648))))).set (31 + 3 * (xs 1).toInt.toNat) (Sum.inr (3, [Value.ref (32 + 3 * (xs 1).toInt.toNat), Value.int 2]))).set 78 (Sum.inr (1, [Value.int (-16384), Value.int 16384, Value.int 0, Value.int 5]))).set 194 (Sum.inl (3, 1, xup (fun _ => Value.long 0) (0 : Int32).toInt.toNat (Value.long 1)))), (s_20_6 W0_7 (by omega) (by omega) (by omega) (by omega) (by omega) (by omega) W0_8 (greg_at (by omega)) (by omega) (by omega) W0_16 W0_17 W0_18 (show (xhi (xvv xs)) = 0 from (xge_c (n := 0) (by omega) rfl)) (by omega) W0_78 (show ((32 : Int32) - (xnlz (xlo (xvv xs)))) = B from (xge_i (by omega))) (by omega) (by omega) (by omega) (W0_reg (by omega)) (by omega) (show ((B + (xs 4)) - ((B + (xs 4)) - (64 : Int32))) = 64 from (xge_c (n := 64) (by omega) rfl)) (by omega) (by omega) (by omega) (by omega) (show ((64 : Int32) - B) = K from (xge_i (by omega))) (by omega) (by omega) (by omega) (by omega) (W0_man (by omega)) (show (B + K) = 64 from (xge_c (n := 64) (by omega) rfl)) (by omega) (by omega) (by omega) (by omega) (W0_mw (by omega)) (by omega) (by omega) (by omega) (by omega) (by omega) (by omega) (by omega) (by omega) (by omega) (by omega) (by omega) (by omega) (by omega) (by omega) (by omega) (by omega) (by omega) (by omega) (by omega) (by omega) (by omega) (by omega) (by omega) (by omega) (by omega) (by omega) (by omega) W0_194), ?_, xgs (xgn (by decide) (xgn (by omega) (xgn (by omega) (xgn (by omega) (xgn (by decide) (xgn (by omega) (xgn (by omega) (xgn (by omega) (xgn (by decide) (xgn (by decide) (xgn (by decide) (xgn (by decide) (xgn (by decide) W0_194)))))))))))))⟩
  refine xKp.set ?_ (fun h hh => by unfold xPC at hh; omega) (xgn (by decide) (xgn (by omega) (xgn (by omega) (xgn (by omega) (xgn (by decide) (xgn (by omega) (xgn (by omega) (xgn (by omega) (xgn (by decide) (xgn (by decide) (xgn (by decide) (xgn (by decide) (xgn (by decide) W0_194))))))))))))) xcs_a
  refine xKp.set ?_ (fun h hh => by unfold xPC at hh; omega) (xgn (by omega) (xgn (by omega) (xgn (by omega) (xgs (xgn (by omega) (xgn (by omega) (xgn (by omega) (xgn (by decide) (xgn (by decide) (xgn (by decide) (xgn (by decide) (xgn (by decide) W0_78)))))))))))) xcs_o
  refine xKp.set ?_ (fun h hh => by unfold xPC at hh; omega) (xgn (by omega) (xgn (by omega) (xgn (by omega) (xgs (xgn (by omega) (xgn (by omega) (xgn (by omega) (xgn (by omega) (xgn (by omega) (xgn (by omega) (xgn (by omega) (W0_man (by omega))))))))))))) xcs_o
  refine xKp.set ?_ (fun h hh => by unfold xPC at hh; omega) (xgn (by omega) (xgn (by omega) (xgn (by omega) (xgs (xgn (by omega) (xgn (by omega) (xgn (by omega) (xgn (by omega) (xgn (by omega) (xgn (by omega) (W0_mw (by omega)))))))))))) xcs_a
  refine xKp.set ?_ (fun h hh => by unfold xPC at hh; omega) (xgn (by omega) (xgn (by omega) (xgn (by omega) (xgs (xgn (by omega) (xgn (by omega) (xgn (by omega) (xgn (by omega) (xgn (by omega) (W0_reg (by omega))))))))))) xcs_o
  refine xKp.set ?_ (fun h hh => by unfold xPC at hh; omega) (xgn (by omega) (xgn (by omega) (xgn (by omega) (xgn (by decide) (xgn (by decide) (xgn (by decide) (xgn (by decide) (xgn (by decide) W0_78)))))))) xcs_o
  refine xKp.set ?_ (fun h hh => by unfold xPC at hh; omega) (xgn (by omega) (xgn (by omega) (xgn (by omega) (xgn (by omega) (xgn (by omega) (xgn (by omega) (xgn (by omega) (W0_man (by omega))))))))) xcs_o
  refine xKp.set ?_ (fun h hh => by unfold xPC at hh; omega) (xgn (by omega) (xgn (by omega) (xgn (by omega) (xgn (by omega) (xgn (by omega) (xgn (by omega) (W0_mw (by omega)))))))) xcs_a
  refine xKp.set ?_ (fun h hh => by unfold xPC at hh; omega) (xgn (by omega) (xgn (by omega) (xgn (by omega) (xgn (by omega) (xgn (by omega) (W0_reg (by omega))))))) xcs_o
  refine xKp.set ?_ (fun h hh => by unfold xPC at hh; omega) (xgn (by decide) (xgn (by decide) (xgn (by decide) (xgs W0_16)))) xcs_o
  refine xKp.set ?_ (fun h hh => by unfold xPC at hh; omega) (xgs (xgn (by decide) (xgn (by decide) W0_17))) xcs_o
  refine xKp.set ?_ (fun h hh => by unfold xPC at hh; omega) (xgn (by decide) (xgn (by decide) W0_17)) xcs_o
  refine xKp.set ?_ (fun h hh => by unfold xPC at hh; omega) (xgn (by decide) W0_18) xcs_a
  refine xKp.set ?_ (fun h hh => by unfold xPC at hh; omega) (W0_16) xcs_o
  exact xKp.refl
theorem s_17_1 {d : Nat} {w : xW} {h0 : Nat} {a0 : Int32} {h1 : Nat} (hw0 : w[h0]? = some (Sum.inr (2, [Value.int 64, Value.int 3, Value.int 0, Value.int a0, Value.ref h1]))) (e1 : 7 ≤ h0) : xRun d 17 [Value.ref h0, Value.int 2, Value.int 0] w (.inl (some (Value.int 0))) (w.set h0 (Sum.inr (2, [Value.int 64, Value.int 2, Value.int 0, Value.int a0, Value.ref h1]))) := by
  refine xRun.of ?_
  refine i_17_0 (x := h0) rfl ?_
  refine i_17_1 (x := 2) rfl ?_
  refine i_17_2 (fs2 := [Value.int 64, Value.int 2, Value.int 0, Value.int a0, Value.ref h1]) hw0 (Nat.le_of_ble_eq_true rfl) rfl e1 ?_
  refine i_17_5 (x := h0) rfl ?_
  refine i_17_6 (x := 0) rfl ?_
  refine i_17_7 (fs2 := [Value.int 64, Value.int 2, Value.int 0, Value.int a0, Value.ref h1]) (xgs hw0) rfl (Nat.le_of_ble_eq_true rfl) rfl e1 ?_
  refine xEv.world (List.set_set _) ?_
  refine i_17_10 ?_
  exact i_17_11 ⟨rfl, rfl⟩
theorem s_23_0 {d : Nat} {w : xW} {h0 : Nat} {a0 : Int32} {h1 : Nat} (hw0 : w[h0]? = some (Sum.inr (2, [Value.int 64, Value.int 3, Value.int 0, Value.int a0, Value.ref h1]))) (e1 : 7 ≤ h0) : xRun (d + 1) 23 [Value.ref h0, Value.int 0] w (.inl (some (Value.int 0))) (w.set h0 (Sum.inr (2, [Value.int 64, Value.int 2, Value.int 0, Value.int a0, Value.ref h1]))) := by
  refine xRun.of ?_
  refine i_23_0 (x := h0) rfl ?_
  refine i_23_1 ?_
  refine i_23_2 (x := 0) rfl ?_
  refine i_23_3 hw0 (Nat.le_of_ble_eq_true rfl) (s_17_1 hw0 e1) ?_
  exact i_23_6 ⟨rfl, rfl⟩
theorem s_50_2 {d : Nat} {w : xW} {h0 : Nat} {a0 : Int32} {a1 : Int32} {a2 : Int32} {h1 : Nat} (hw0 : w[78]? = some (Sum.inr (1, [Value.int (-16384), Value.int 16384, Value.int 0, Value.int 0]))) (hw1 : w[16]? = some (Sum.inr (4, [Value.int 0, Value.ref 17, Value.int a1, Value.int 0]))) (e2 : a0.toInt ≠ 4) (e3 : a0.toInt ≠ 2) (e4 : a0.toInt = 3) (e5 : a0.toInt ≠ 0) (e6 : 78 ≠ h0) (hw7 : w[h0]? = some (Sum.inr (2, [Value.int 64, Value.int 3, Value.int 0, Value.int a2, Value.ref h1]))) (e8 : 7 ≤ h0) : xRun (d + 2) 50 [Value.ref 78, Value.ref h0, Value.ref 16, Value.int a0] w (.inl (some (Value.int (-1)))) ((w.set 78 (Sum.inr (1, [Value.int (-16384), Value.int 16384, Value.int 0, Value.int 4]))).set h0 (Sum.inr (2, [Value.int 64, Value.int 2, Value.int 0, Value.int a2, Value.ref h1]))) := by
  refine xRun.of ?_
  refine i_50_0 (x := 78) rfl ?_
  refine i_50_1 rfl ?_
  refine i_50_2 (v := Value.int 0) hw0 rfl ?_
  refine i_50_5 ?_
  refine i_50_6 (c := 4) (by decide) ?_
  refine i_50_7 (fs2 := [Value.int (-16384), Value.int 16384, Value.int 0, Value.int 4]) hw0 (Nat.le_of_ble_eq_true rfl) rfl (by decide) ?_
  refine i_50_10 (x := a0) rfl ?_
  refine i_50_11 (x := 16) rfl ?_
  refine i_50_12 (v := Value.int 0) (xgn (by decide) hw1) rfl ?_
  refine i_50_15 (Nat.le_of_ble_eq_true rfl) (s_37_2 e2 e3 e4) ?_
  refine i_50_18 (lv2 := [(4, Value.int 0), (0, Value.ref 78), (1, Value.ref h0), (2, Value.ref 16), (3, Value.int a0)]) rfl ?_
  refine i_50_20 (x := a0) rfl ?_
  refine i_50_21 (fun _ => ?_) (fun h => absurd e5 (fun g => g h))
  refine i_50_82 (x := 0) rfl ?_
  refine i_50_84 (fun _ => ?_) (fun h => absurd h (by decide))
  refine i_50_101 (x := h0) rfl ?_
  refine i_50_102 (x := 16) rfl ?_
  refine i_50_103 (v := Value.int 0) (xgn (by decide) hw1) rfl ?_
  refine i_50_106 (xgn e6 hw7) (Nat.le_of_ble_eq_true rfl) (s_23_0 (xgn e6 hw7) e8) ?_
  refine i_50_109 rfl ?_
  refine i_50_110 ?_
  exact i_50_111 ⟨rfl, rfl⟩
theorem s_27_7 {d : Nat} {w : xW} {h0 : Nat} {a0 : Int32} {a1 : Int32} {g0 : Nat → Value} {a2 : Int32} {a3 : Int32} {h1 : Nat} {a4 : Int32} {h2 : Nat} (hw0 : w[16]? = some (Sum.inr (4, [Value.int 0, Value.ref 17, Value.int a1, Value.int 0]))) (hw1 : w[17]? = some (Sum.inr (3, [Value.ref 18, Value.int 1]))) (hw2 : w[18]? = some (Sum.inl (0, 8, g0))) (hg3 : g0 (0 : Int32).toInt.toNat = Value.int a2) (hg4 : ((32 : Int32) - (xnlz a2)) = a3) (hw5 : w[h0]? = some (Sum.inr (2, [Value.int 64, Value.int 0, Value.int 0, Value.int 0, Value.ref h1]))) (hw6 : w[78]? = some (Sum.inr (1, [Value.int (-16384), Value.int 16384, Value.int 0, Value.int 0]))) (e7 : (((a3 + a1) - (64 : Int32)) - a1).toInt ≤ 0) (hg8 : ((a3 + a1) - ((a3 + a1) - (64 : Int32))) = 64) (e9 : 7 ≤ h0) (e10 : h0 ≠ 16) (e11 : h0 ≠ 17) (e12 : h0 ≠ 18) (hg13 : ((64 : Int32) - a3) = a4) (e14 : h0 ≠ h1) (hw15 : w[h1]? = some (Sum.inr (3, [Value.ref h2, Value.int 0]))) (hg16 : (a3 + a4) = 64) (e17 : h0 ≠ h2) (hw18 : w[h2]? = some (Sum.inl (0, 8, fun _ => Value.int 0))) (e19 : 0 ≤ a4.toInt) (hg20 : g0 (1 : Int32).toInt.toNat = Value.int 0) (e21 : 7 ≤ h2) (e22 : h2 ≠ h1) (e23 : h2 ≠ 17) (e24 : h2 ≠ 18) (e25 : 7 ≤ h1) (e26 : h1 ≠ h0) (e27 : h2 ≠ h0) (e28 : h1 ≠ h2) (e29 : (xbf 1 a2 (0 : Int32) ((32 : Int32) - a4)).toInt ≠ 0) (e30 : ((64 : Int32) - (xnlz (xbf 1 a2 (0 : Int32) ((32 : Int32) - a4)))).toInt ≤ 64) (e31 : h1 ≠ 78) (e32 : h2 ≠ 78) (e33 : h0 ≠ 78) (e34 : (a3 + a1).toInt ≤ 16384) (e35 : (a3 + a1).toInt < (-16384)) (e36 : h1 ≠ 16) (e37 : h2 ≠ 16) (e38 : a0.toInt ≠ 4) (e39 : a0.toInt ≠ 2) (e40 : a0.toInt = 3) (e41 : a0.toInt ≠ 0) (e42 : 78 ≠ h0) : xRun (d + 4) 27 [Value.ref 78, Value.ref h0, Value.ref 16, Value.int a0] w (.inl (some (Value.int (-1)))) ((((((w.set h0 (Sum.inr (2, [Value.int 64, Value.int 3, Value.int 0, Value.int (a3 + a1), Value.ref h1]))).set h2 (Sum.inl (0, 8, xup (xup (fun _ => Value.int 0) (1 : Int32).toInt.toNat (Value.int (xbf 1 a2 (0 : Int32) ((32 : Int32) - a4)))) (0 : Int32).toInt.toNat (Value.int (xbf 1 a2 (0 : Int32) ((0 : Int32) - a4)))))).set h1 (Sum.inr (3, [Value.ref h2, Value.int 2]))).set 78 (Sum.inr (1, [Value.int (-16384), Value.int 16384, Value.int 0, Value.int 4]))).set h0 (Sum.inr (2, [Value.int 64, Value.int 2, Value.int 0, Value.int (a3 + a1), Value.ref h1]))).set 78 (Sum.inr (1, [Value.int (-16384), Value.int 16384, Value.int 0, Value.int 5]))) := by
  refine xRun.of ?_
  refine i_27_0 (x := 16) rfl ?_
  refine i_27_1 hw0 (Nat.le_of_ble_eq_true rfl) (s_28_0 hw0 hw1 hw2 hg3 hg4) ?_
  refine i_27_4 (lv2 := [(4, Value.int (a3 + a1)), (0, Value.ref 78), (1, Value.ref h0), (2, Value.ref 16), (3, Value.int a0)]) rfl ?_
  refine i_27_6 (x := 78) rfl ?_
  refine i_27_7 (x := (a3 + a1)) rfl ?_
  refine i_27_9 (x := h0) rfl ?_
  refine i_27_10 (v := Value.int 64) hw5 rfl ?_
  refine i_27_13 hw6 (Nat.le_of_ble_eq_true rfl) (s_30_0 hw6) ?_
  refine i_27_16 (lv2 := [(5, Value.int ((a3 + a1) - (64 : Int32))), (4, Value.int (a3 + a1)), (0, Value.ref 78), (1, Value.ref h0), (2, Value.ref 16), (3, Value.int a0)]) rfl ?_
  refine i_27_18 (x := 16) rfl ?_
  refine i_27_19 (x := ((a3 + a1) - (64 : Int32))) rfl ?_
  refine i_27_21 (x := a0) rfl ?_
  refine i_27_22 hw0 (Nat.le_of_ble_eq_true rfl) (s_31_0 hw0 hw1 e7) ?_
  refine i_27_25 (lv2 := [(6, Value.int 0), (5, Value.int ((a3 + a1) - (64 : Int32))), (4, Value.int (a3 + a1)), (0, Value.ref 78), (1, Value.ref h0), (2, Value.ref 16), (3, Value.int a0)]) rfl ?_
  refine i_27_27 (x := 16) rfl ?_
  refine i_27_28 (x := ((a3 + a1) - (64 : Int32))) rfl ?_
  refine i_27_30 hw0 (Nat.le_of_ble_eq_true rfl) (s_32_0 hw0 hw1 e7) ?_
  refine i_27_33 (fun h => absurd h (by decide)) (fun _ => ?_)
  refine i_27_36 ?_
  refine i_27_37 ?_
  refine i_27_50 (lv2 := [(7, Value.int 0), (6, Value.int 0), (5, Value.int ((a3 + a1) - (64 : Int32))), (4, Value.int (a3 + a1)), (0, Value.ref 78), (1, Value.ref h0), (2, Value.ref 16), (3, Value.int a0)]) rfl ?_
  refine i_27_52 (x := h0) rfl ?_
  refine i_27_53 (x := 16) rfl ?_
  refine i_27_54 (x := ((a3 + a1) - (64 : Int32))) rfl ?_
  refine i_27_56 (x := 0) rfl ?_
  refine i_27_58 hw5 (Nat.le_of_ble_eq_true rfl) (s_38_0 hw0 hw1 hw2 hg3 hg4 hg8 hw5 e9 e10 e11 e12 hg13 e14 hw15 hg16 e17 hw18 e19 hg20 e21 e22 e23 e24 e25 e26 e27 e28 e29 e30) ?_
  refine i_27_61 (x := h0) rfl ?_
  refine i_27_62 (v := Value.int 3) (xgn e26 (xgn e27 (xgs hw5))) rfl ?_
  refine i_27_65 ?_
  refine i_27_66 (fun h => absurd h (by decide)) (fun _ => ?_)
  refine i_27_69 (x := h0) rfl ?_
  refine i_27_70 (v := Value.int (a3 + a1)) (xgn e26 (xgn e27 (xgs hw5))) rfl ?_
  refine i_27_73 (x := 78) rfl ?_
  refine i_27_74 (v := Value.int 16384) (xgn e31 (xgn e32 (xgn e33 hw6))) rfl ?_
  refine i_27_77 (fun _ => ?_) (fun h => absurd e34 (Int.not_le.mpr h))
  refine i_27_95 (x := h0) rfl ?_
  refine i_27_96 (v := Value.int 3) (xgn e26 (xgn e27 (xgs hw5))) rfl ?_
  refine i_27_99 ?_
  refine i_27_100 (fun h => absurd h (by decide)) (fun _ => ?_)
  refine i_27_103 (x := 78) rfl ?_
  refine i_27_104 (v := Value.int 0) (xgn e31 (xgn e32 (xgn e33 hw6))) rfl ?_
  refine i_27_107 (fun h => absurd h (by decide)) (fun _ => ?_)
  refine i_27_110 (x := h0) rfl ?_
  refine i_27_111 (v := Value.int (a3 + a1)) (xgn e26 (xgn e27 (xgs hw5))) rfl ?_
  refine i_27_114 (x := 78) rfl ?_
  refine i_27_115 (v := Value.int (-16384)) (xgn e31 (xgn e32 (xgn e33 hw6))) rfl ?_
  refine i_27_118 (fun h => absurd e35 (Int.not_lt.mpr h)) (fun _ => ?_)
  refine i_27_121 (x := 78) rfl ?_
  refine i_27_122 (x := h0) rfl ?_
  refine i_27_123 (x := 16) rfl ?_
  refine i_27_124 (x := a0) rfl ?_
  refine i_27_125 (xgn e31 (xgn e32 (xgn e33 hw6))) (Nat.le_of_ble_eq_true rfl) (s_50_2 (xgn e31 (xgn e32 (xgn e33 hw6))) (xgn e36 (xgn e37 (xgn e10 hw0))) e38 e39 e40 e41 e42 (xgn e26 (xgn e27 (xgs hw5))) e9) ?_
  refine i_27_128 (lv2 := [(7, Value.int (-1)), (6, Value.int 0), (5, Value.int ((a3 + a1) - (64 : Int32))), (4, Value.int (a3 + a1)), (0, Value.ref 78), (1, Value.ref h0), (2, Value.ref 16), (3, Value.int a0)]) rfl ?_
  refine i_27_130 ?_
  refine i_27_164 (x := (-1)) rfl ?_
  refine i_27_166 (fun h => absurd h (by decide)) (fun _ => ?_)
  refine i_27_169 (x := 78) rfl ?_
  refine i_27_170 rfl ?_
  refine i_27_171 (v := Value.int 4) (xgn e33 (xgs (xgn e31 (xgn e32 (xgn e33 hw6))))) rfl ?_
  refine i_27_174 ?_
  refine i_27_175 (c := 5) (by decide) ?_
  refine i_27_176 (fs2 := [Value.int (-16384), Value.int 16384, Value.int 0, Value.int 5]) (xgn e33 (xgs (xgn e31 (xgn e32 (xgn e33 hw6))))) (Nat.le_of_ble_eq_true rfl) rfl (by decide) ?_
  refine i_27_179 (x := 16) rfl ?_
  refine i_27_180 (v := Value.int 0) (xgn (by decide) (xgn e10 (xgn (by decide) (xgn e36 (xgn e37 (xgn e10 hw0)))))) rfl ?_
  refine i_27_183 (fun _ => ?_) (fun h => absurd h (by decide))
  refine i_27_192 (x := (-1)) rfl ?_
  exact i_27_194 ⟨rfl, rfl⟩
theorem s_21_7 {d : Nat} {w : xW} {a0 : Int32} {b0 : Int64} {a1 : Int32} {a2 : Int32} {g0 : Nat → Value} {h0 : Nat} {a3 : Int32} {h1 : Nat} {a4 : Int32} {h2 : Nat} (e0 : 0 ≤ a0.toInt) (e1 : a0.toInt < 16) (e2 : (-40000) ≤ a1.toInt) (e3 : a1.toInt ≤ 40000) (e4 : 0 ≤ a2.toInt) (e5 : a2.toInt ≤ 4) (hw6 : w[7]? = some (Sum.inr (0, [Value.ref 8, Value.ref 78, Value.ref 9, Value.ref 10, Value.ref 13, Value.ref 16, Value.ref 19, Value.ref 93, Value.ref 108, Value.ref 113, Value.ref 29, Value.int 0]))) (hw7 : w[8]? = some (Sum.inl (4, 16, g0))) (hg8 : g0 a0.toInt.toNat = Value.ref h0) (e9 : (lg_cmp b0 (0 : Int64)).toInt ≠ 0) (e10 : 0 ≤ (lg_cmp b0 (0 : Int64)).toInt) (hw11 : w[16]? = some (Sum.inr (4, [Value.int 0, Value.ref 17, Value.int 0, Value.int 0]))) (hw12 : w[17]? = some (Sum.inr (3, [Value.ref 18, Value.int 0]))) (hw13 : w[18]? = some (Sum.inl (0, 8, fun _ => Value.int 0))) (hg14 : (xhi b0) = 0) (e15 : (xlo b0).toInt ≠ 0) (hw16 : w[78]? = some (Sum.inr (1, [Value.int (-16384), Value.int 16384, Value.int 0, Value.int 0]))) (hg17 : ((32 : Int32) - (xnlz (xlo b0))) = a3) (e18 : 16 ≠ h0) (e19 : 17 ≠ h0) (e20 : 18 ≠ h0) (hw21 : w[h0]? = some (Sum.inr (2, [Value.int 64, Value.int 0, Value.int 0, Value.int 0, Value.ref h1]))) (e22 : (((a3 + a1) - (64 : Int32)) - a1).toInt ≤ 0) (hg23 : ((a3 + a1) - ((a3 + a1) - (64 : Int32))) = 64) (e24 : 7 ≤ h0) (e25 : h0 ≠ 16) (e26 : h0 ≠ 17) (e27 : h0 ≠ 18) (hg28 : ((64 : Int32) - a3) = a4) (e29 : h0 ≠ h1) (e30 : 16 ≠ h1) (e31 : 17 ≠ h1) (e32 : 18 ≠ h1) (hw33 : w[h1]? = some (Sum.inr (3, [Value.ref h2, Value.int 0]))) (hg34 : (a3 + a4) = 64) (e35 : h0 ≠ h2) (e36 : 16 ≠ h2) (e37 : 17 ≠ h2) (e38 : 18 ≠ h2) (hw39 : w[h2]? = some (Sum.inl (0, 8, fun _ => Value.int 0))) (e40 : 0 ≤ a4.toInt) (e41 : 7 ≤ h2) (e42 : h2 ≠ h1) (e43 : h2 ≠ 17) (e44 : h2 ≠ 18) (e45 : 7 ≤ h1) (e46 : h1 ≠ h0) (e47 : h2 ≠ h0) (e48 : h1 ≠ h2) (e49 : (xbf 1 (xlo b0) (0 : Int32) ((32 : Int32) - a4)).toInt ≠ 0) (e50 : ((64 : Int32) - (xnlz (xbf 1 (xlo b0) (0 : Int32) ((32 : Int32) - a4)))).toInt ≤ 64) (e51 : h1 ≠ 78) (e52 : h2 ≠ 78) (e53 : h0 ≠ 78) (e54 : (a3 + a1).toInt ≤ 16384) (e55 : (a3 + a1).toInt < (-16384)) (e56 : h1 ≠ 16) (e57 : h2 ≠ 16) (e58 : a2.toInt ≠ 4) (e59 : a2.toInt ≠ 2) (e60 : a2.toInt = 3) (e61 : a2.toInt ≠ 0) (e62 : 78 ≠ h0) : xRun (d + 5) 21 [Value.ref 7, Value.int a0, Value.long b0, Value.int a1, Value.int a2] w (.inl (some (Value.int (-1)))) (((((((((((w.set 16 (Sum.inr (4, [Value.int 0, Value.ref 17, Value.int 0, Value.int 0]))).set 18 (Sum.inl (0, 8, xup (xup (fun _ => Value.int 0) (0 : Int32).toInt.toNat (Value.int (xlo b0))) (1 : Int32).toInt.toNat (Value.int 0)))).set 17 (Sum.inr (3, [Value.ref 18, Value.int 2]))).set 17 (Sum.inr (3, [Value.ref 18, Value.int 1]))).set 16 (Sum.inr (4, [Value.int 0, Value.ref 17, Value.int a1, Value.int 0]))).set h0 (Sum.inr (2, [Value.int 64, Value.int 3, Value.int 0, Value.int (a3 + a1), Value.ref h1]))).set h2 (Sum.inl (0, 8, xup (xup (fun _ => Value.int 0) (1 : Int32).toInt.toNat (Value.int (xbf 1 (xlo b0) (0 : Int32) ((32 : Int32) - a4)))) (0 : Int32).toInt.toNat (Value.int (xbf 1 (xlo b0) (0 : Int32) ((0 : Int32) - a4)))))).set h1 (Sum.inr (3, [Value.ref h2, Value.int 2]))).set 78 (Sum.inr (1, [Value.int (-16384), Value.int 16384, Value.int 0, Value.int 4]))).set h0 (Sum.inr (2, [Value.int 64, Value.int 2, Value.int 0, Value.int (a3 + a1), Value.ref h1]))).set 78 (Sum.inr (1, [Value.int (-16384), Value.int 16384, Value.int 0, Value.int 5]))) := by
  refine xRun.of ?_
  refine i_21_0 (x := a0) rfl ?_
  refine i_21_1 (Nat.le_of_ble_eq_true rfl) (s_15_0 e0 e1) ?_
  refine i_21_4 (fun h => absurd h (by decide)) (fun _ => ?_)
  refine i_21_7 (x := a1) rfl ?_
  refine i_21_9 ?_
  refine i_21_11 (fun h => absurd e2 (Int.not_le.mpr h)) (fun _ => ?_)
  refine i_21_14 (x := a1) rfl ?_
  refine i_21_16 ?_
  refine i_21_18 (fun h => absurd e3 (Int.not_le.mpr h)) (fun _ => ?_)
  refine i_21_21 (x := a2) rfl ?_
  refine i_21_23 (Nat.le_of_ble_eq_true rfl) (s_22_0 e4 e5) ?_
  refine i_21_26 (fun _ => ?_) (fun h => absurd h (by decide))
  refine i_21_37 (x := 7) rfl ?_
  refine i_21_38 (v := Value.ref 8) hw6 rfl ?_
  refine i_21_41 (x := a0) rfl ?_
  refine i_21_42 (v := Value.ref h0) hw7 e0 e1 hg8 ?_
  refine i_21_43 (lv2 := [(6, Value.ref h0), (0, Value.ref 7), (1, Value.int a0), (2, Value.long b0), (4, Value.int a1), (5, Value.int a2)]) rfl ?_
  refine i_21_45 (x := b0) rfl ?_
  refine i_21_46 ?_
  refine i_21_47 (c := (lg_cmp b0 (0 : Int64))) rfl ?_
  refine i_21_48 (fun _ => ?_) (fun h => absurd e9 (fun g => g h))
  refine i_21_58 (x := 7) rfl ?_
  refine i_21_59 (v := Value.ref 16) hw6 rfl ?_
  refine i_21_62 (x := b0) rfl ?_
  refine i_21_63 ?_
  refine i_21_64 (c := (lg_cmp b0 (0 : Int64))) rfl ?_
  refine i_21_65 (fun _ => ?_) (fun h => absurd e10 (Int.not_le.mpr h))
  refine i_21_72 ?_
  refine i_21_73 (x := b0) rfl ?_
  refine i_21_74 ?_
  refine i_21_75 (c := (lg_cmp b0 (0 : Int64))) rfl ?_
  refine i_21_76 (fun _ => ?_) (fun h => absurd e10 (Int.not_le.mpr h))
  refine i_21_84 (x := b0) rfl ?_
  refine i_21_85 (x := a1) rfl ?_
  refine i_21_87 hw11 (Nat.le_of_ble_eq_true rfl) (s_24_0 hw11 hw12 hw13 hg14 e15) ?_
  refine i_21_90 (x := 7) rfl ?_
  refine i_21_91 (v := Value.ref 78) (xgn (by decide) (xgn (by decide) (xgn (by decide) (xgn (by decide) (xgn (by decide) hw6))))) rfl ?_
  refine i_21_94 (x := h0) rfl ?_
  refine i_21_96 (x := 7) rfl ?_
  refine i_21_97 (v := Value.ref 16) (xgn (by decide) (xgn (by decide) (xgn (by decide) (xgn (by decide) (xgn (by decide) hw6))))) rfl ?_
  refine i_21_100 (x := a2) rfl ?_
  refine i_21_102 (xgn (by decide) (xgn (by decide) (xgn (by decide) (xgn (by decide) (xgn (by decide) hw16))))) (Nat.le_of_ble_eq_true rfl) (s_27_7 (xgs (xgn (by decide) (xgn (by decide) (xgn (by decide) (xgs hw11))))) (xgn (by decide) (xgs (xgs (xgn (by decide) (xgn (by decide) hw12))))) (xgn (by decide) (xgn (by decide) (xgn (by decide) (xgs (xgn (by decide) hw13))))) (xup_n (by decide) xup_s) hg17 (xgn e18 (xgn e19 (xgn e19 (xgn e20 (xgn e18 hw21))))) (xgn (by decide) (xgn (by decide) (xgn (by decide) (xgn (by decide) (xgn (by decide) hw16))))) e22 hg23 e24 e25 e26 e27 hg28 e29 (xgn e30 (xgn e31 (xgn e31 (xgn e32 (xgn e30 hw33))))) hg34 e35 (xgn e36 (xgn e37 (xgn e37 (xgn e38 (xgn e36 hw39))))) e40 xup_s e41 e42 e43 e44 e45 e46 e47 e48 e49 e50 e51 e52 e53 e54 e55 e56 e57 e58 e59 e60 e61 e62) ?_
  exact i_21_105 ⟨rfl, rfl⟩
theorem s_20_7 {d : Nat} {w : xW} {a0 : Int32} {b0 : Int64} {a1 : Int32} {a2 : Int32} {g0 : Nat → Value} {h0 : Nat} {a3 : Int32} {h1 : Nat} {a4 : Int32} {h2 : Nat} (hw0 : w[7]? = some (Sum.inr (0, [Value.ref 8, Value.ref 78, Value.ref 9, Value.ref 10, Value.ref 13, Value.ref 16, Value.ref 19, Value.ref 93, Value.ref 108, Value.ref 113, Value.ref 29, Value.int 0]))) (e1 : 0 ≤ a0.toInt) (e2 : a0.toInt < 16) (e3 : (-40000) ≤ a1.toInt) (e4 : a1.toInt ≤ 40000) (e5 : 0 ≤ a2.toInt) (e6 : a2.toInt ≤ 4) (hw7 : w[8]? = some (Sum.inl (4, 16, g0))) (hg8 : g0 a0.toInt.toNat = Value.ref h0) (e9 : (lg_cmp b0 (0 : Int64)).toInt ≠ 0) (e10 : 0 ≤ (lg_cmp b0 (0 : Int64)).toInt) (hw11 : w[16]? = some (Sum.inr (4, [Value.int 0, Value.ref 17, Value.int 0, Value.int 0]))) (hw12 : w[17]? = some (Sum.inr (3, [Value.ref 18, Value.int 0]))) (hw13 : w[18]? = some (Sum.inl (0, 8, fun _ => Value.int 0))) (hg14 : (xhi b0) = 0) (e15 : (xlo b0).toInt ≠ 0) (hw16 : w[78]? = some (Sum.inr (1, [Value.int (-16384), Value.int 16384, Value.int 0, Value.int 0]))) (hg17 : ((32 : Int32) - (xnlz (xlo b0))) = a3) (e18 : 16 ≠ h0) (e19 : 17 ≠ h0) (e20 : 18 ≠ h0) (hw21 : w[h0]? = some (Sum.inr (2, [Value.int 64, Value.int 0, Value.int 0, Value.int 0, Value.ref h1]))) (e22 : (((a3 + a1) - (64 : Int32)) - a1).toInt ≤ 0) (hg23 : ((a3 + a1) - ((a3 + a1) - (64 : Int32))) = 64) (e24 : 7 ≤ h0) (e25 : h0 ≠ 16) (e26 : h0 ≠ 17) (e27 : h0 ≠ 18) (hg28 : ((64 : Int32) - a3) = a4) (e29 : h0 ≠ h1) (e30 : 16 ≠ h1) (e31 : 17 ≠ h1) (e32 : 18 ≠ h1) (hw33 : w[h1]? = some (Sum.inr (3, [Value.ref h2, Value.int 0]))) (hg34 : (a3 + a4) = 64) (e35 : h0 ≠ h2) (e36 : 16 ≠ h2) (e37 : 17 ≠ h2) (e38 : 18 ≠ h2) (hw39 : w[h2]? = some (Sum.inl (0, 8, fun _ => Value.int 0))) (e40 : 0 ≤ a4.toInt) (e41 : 7 ≤ h2) (e42 : h2 ≠ h1) (e43 : h2 ≠ 17) (e44 : h2 ≠ 18) (e45 : 7 ≤ h1) (e46 : h1 ≠ h0) (e47 : h2 ≠ h0) (e48 : h1 ≠ h2) (e49 : (xbf 1 (xlo b0) (0 : Int32) ((32 : Int32) - a4)).toInt ≠ 0) (e50 : ((64 : Int32) - (xnlz (xbf 1 (xlo b0) (0 : Int32) ((32 : Int32) - a4)))).toInt ≤ 64) (e51 : h1 ≠ 78) (e52 : h2 ≠ 78) (e53 : h0 ≠ 78) (e54 : (a3 + a1).toInt ≤ 16384) (e55 : (a3 + a1).toInt < (-16384)) (e56 : h1 ≠ 16) (e57 : h2 ≠ 16) (e58 : a2.toInt ≠ 4) (e59 : a2.toInt ≠ 2) (e60 : a2.toInt = 3) (e61 : a2.toInt ≠ 0) (e62 : 78 ≠ h0) (e63 : h0 ≠ 194) (e64 : h1 ≠ 194) (e65 : h2 ≠ 194) (hw66 : w[194]? = some (Sum.inl (3, 1, fun _ => Value.long 0))) : xRun (d + 6) 20 [Value.ref 7, Value.int a0, Value.long b0, Value.int a1, Value.int a2, Value.ref 194] w (.inl (some (Value.int 0))) ((((((((((((w.set 16 (Sum.inr (4, [Value.int 0, Value.ref 17, Value.int 0, Value.int 0]))).set 18 (Sum.inl (0, 8, xup (xup (fun _ => Value.int 0) (0 : Int32).toInt.toNat (Value.int (xlo b0))) (1 : Int32).toInt.toNat (Value.int 0)))).set 17 (Sum.inr (3, [Value.ref 18, Value.int 2]))).set 17 (Sum.inr (3, [Value.ref 18, Value.int 1]))).set 16 (Sum.inr (4, [Value.int 0, Value.ref 17, Value.int a1, Value.int 0]))).set h0 (Sum.inr (2, [Value.int 64, Value.int 3, Value.int 0, Value.int (a3 + a1), Value.ref h1]))).set h2 (Sum.inl (0, 8, xup (xup (fun _ => Value.int 0) (1 : Int32).toInt.toNat (Value.int (xbf 1 (xlo b0) (0 : Int32) ((32 : Int32) - a4)))) (0 : Int32).toInt.toNat (Value.int (xbf 1 (xlo b0) (0 : Int32) ((0 : Int32) - a4)))))).set h1 (Sum.inr (3, [Value.ref h2, Value.int 2]))).set 78 (Sum.inr (1, [Value.int (-16384), Value.int 16384, Value.int 0, Value.int 4]))).set h0 (Sum.inr (2, [Value.int 64, Value.int 2, Value.int 0, Value.int (a3 + a1), Value.ref h1]))).set 78 (Sum.inr (1, [Value.int (-16384), Value.int 16384, Value.int 0, Value.int 5]))).set 194 (Sum.inl (3, 1, xup (fun _ => Value.long 0) (0 : Int32).toInt.toNat (Value.long (-1))))) := by
  refine xRun.of ?_
  refine i_20_0 (x := 194) rfl ?_
  refine i_20_2 ?_
  refine i_20_3 (x := 7) rfl ?_
  refine i_20_4 (x := a0) rfl ?_
  refine i_20_5 (x := b0) rfl ?_
  refine i_20_6 (x := a1) rfl ?_
  refine i_20_8 (x := a2) rfl ?_
  refine i_20_10 hw0 (Nat.le_of_ble_eq_true rfl) (s_21_7 e1 e2 e3 e4 e5 e6 hw0 hw7 hg8 e9 e10 hw11 hw12 hw13 hg14 e15 hw16 hg17 e18 e19 e20 hw21 e22 hg23 e24 e25 e26 e27 hg28 e29 e30 e31 e32 hw33 hg34 e35 e36 e37 e38 hw39 e40 e41 e42 e43 e44 e45 e46 e47 e48 e49 e50 e51 e52 e53 e54 e55 e56 e57 e58 e59 e60 e61 e62) ?_
  refine i_20_13 (c := (-1)) (by decide) ?_
  refine i_20_14 (v := Value.long (-1)) (xgn (by decide) (xgn e63 (xgn (by decide) (xgn e64 (xgn e65 (xgn e63 (xgn (by decide) (xgn (by decide) (xgn (by decide) (xgn (by decide) (xgn (by decide) hw66))))))))))) (by decide) (by decide) (by decide) rfl ?_
  refine i_20_15 ?_
  refine i_20_22 ?_
  exact i_20_23 ⟨rfl, rfl⟩
theorem cn3_0_7 {d : Nat} {xs : Nat → Int32} {B K : Int32} (c0 : 0 ≤ (xs 1).toInt) (c1 : (xs 1).toInt < 16) (c2 : (-40000) ≤ (xs 4).toInt) (c3 : (xs 4).toInt ≤ 40000) (c4 : 0 ≤ (xs 5).toInt) (c5 : (xs 5).toInt ≤ 4) (c6 : (lg_cmp (xvv xs) (0 : Int64)).toInt ≠ 0) (c7 : 0 ≤ (lg_cmp (xvv xs) (0 : Int64)).toInt) (c8 : K.toInt = 64 - B.toInt) (c9 : 1 ≤ B.toInt) (c10 : B.toInt ≤ 32) (c11 : (xhi (xvv xs)).toInt = 0) (c12 : (xlo (xvv xs)).toInt ≠ 0) (c13 : (xnlz (xlo (xvv xs))).toInt = 32 - B.toInt) (c14 : (xbf 1 (xlo (xvv xs)) (0 : Int32) ((32 : Int32) - K)).toInt ≠ 0) (c15 : (B + (xs 4)).toInt ≤ 16384) (c16 : (B + (xs 4)).toInt < (-16384)) (c17 : (xs 5).toInt ≠ 4) (c18 : (xs 5).toInt ≠ 2) (c19 : (xs 5).toInt = 3) : ∃ w1, xRun (d + 18) 20 [Value.ref 7, Value.int (xs 1), Value.long (xvv xs), Value.int (xs 4), Value.int (xs 5), Value.ref 194] (W0 6 xs) (.inl (some (Value.int 0))) w1 ∧ xKp (W0 6 xs) w1 xPC ∧ w1[194]? = some (Sum.inl (3, 1, xup (fun _ => Value.long 0) (0 : Int32).toInt.toNat (Value.long (-1)))) := by
  have f0 : ((32 : Int32) - (xnlz (xlo (xvv xs)))).toInt = 32 - (xnlz (xlo (xvv xs))).toInt := xsub_g rfl rfl (by omega) (by omega)
  have f1 : (B + (xs 4)).toInt = B.toInt + (xs 4).toInt := xadd_i (by omega) (by omega)
  have f2 : ((B + (xs 4)) - (64 : Int32)).toInt = (B + (xs 4)).toInt - 64 := xsub_g rfl rfl (by omega) (by omega)
  have f3 : (((B + (xs 4)) - (64 : Int32)) - (xs 4)).toInt = ((B + (xs 4)) - (64 : Int32)).toInt - (xs 4).toInt := xsub_i (by omega) (by omega)
  have f4 : ((B + (xs 4)) - ((B + (xs 4)) - (64 : Int32))).toInt = (B + (xs 4)).toInt - ((B + (xs 4)) - (64 : Int32)).toInt := xsub_i (by omega) (by omega)
  have f5 : ((64 : Int32) - B).toInt = 64 - B.toInt := xsub_g rfl rfl (by omega) (by omega)
  have f6 : (B + K).toInt = B.toInt + K.toInt := xadd_i (by omega) (by omega)
  have f7 : 0 ≤ (xnlz (xbf 1 (xlo (xvv xs)) (0 : Int32) ((32 : Int32) - K))).toInt := (xnlz_b _).1
  have f8 : (xnlz (xbf 1 (xlo (xvv xs)) (0 : Int32) ((32 : Int32) - K))).toInt ≤ 32 := (xnlz_b _).2
  have f9 : ((64 : Int32) - (xnlz (xbf 1 (xlo (xvv xs)) (0 : Int32) ((32 : Int32) - K)))).toInt = 64 - (xnlz (xbf 1 (xlo (xvv xs)) (0 : Int32) ((32 : Int32) - K))).toInt := xsub_g rfl rfl (by omega) (by omega)
  refine ⟨(((((((((((((W0 6 xs).set 16 (Sum.inr (4, [Value.int 0, Value.ref 17, Value.int 0, Value.int 0]))).set 18 (Sum.inl (0, 8, xup (xup (fun _ => Value.int 0) (0 : Int32).toInt.toNat (Value.int (xlo (xvv xs)))) (1 : Int32).toInt.toNat (Value.int 0)))).set 17 (Sum.inr (3, [Value.ref 18, Value.int 2]))).set 17 (Sum.inr (3, [Value.ref 18, Value.int 1]))).set 16 (Sum.inr (4, [Value.int 0, Value.ref 17, Value.int (xs 4), Value.int 0]))).set (30 + 3 * (xs 1).toInt.toNat) (Sum.inr (2, [Value.int 64, Value.int 3, Value.int 0, Value.int (B + (xs 4)), Value.ref (31 + 3 * (xs 1).toInt.toNat)]))).set (32 + 3 * (xs 1).toInt.toNat) (Sum.inl (0, 8, xup (xup (fun _ => Value.int 0) (1 : Int32).toInt.toNat (Value.int (xbf 1 (xlo (xvv xs)) (0 : Int32) ((32 : Int32) - K)))) (0 : Int32).toInt.toNat (Value.int (xbf 1 (xlo (xvv xs)) (0 : Int32) ((0 : Int32) - K)))))).set (31 + 3 * (xs 1).toInt.toNat) (Sum.inr (3, [Value.ref (32 + 3 * (xs 1).toInt.toNat), Value.int 2]))).set 78 (Sum.inr (1, [Value.int (-16384), Value.int 16384, Value.int 0, Value.int 4]))).set (30 + 3 * (xs 1).toInt.toNat) (Sum.inr (2, [Value.int 64, Value.int 2, Value.int 0, Value.int (B + (xs 4)), Value.ref (31 + 3 * (xs 1).toInt.toNat)]))).set 78 (Sum.inr (1, [Value.int (-16384), Value.int 16384, Value.int 0, Value.int 5]))).set 194 (Sum.inl (3, 1, xup (fun _ => Value.long 0) (0 : Int32).toInt.toNat (Value.long (-1))))), (s_20_7 W0_7 (by omega) (by omega) (by omega) (by omega) (by omega) (by omega) W0_8 (greg_at (by omega)) (by omega) (by omega) W0_16 W0_17 W0_18 (show (xhi (xvv xs)) = 0 from (xge_c (n := 0) (by omega) rfl)) (by omega) W0_78 (show ((32 : Int32) - (xnlz (xlo (xvv xs)))) = B from (xge_i (by omega))) (by omega) (by omega) (by omega) (W0_reg (by omega)) (by omega) (show ((B + (xs 4)) - ((B + (xs 4)) - (64 : Int32))) = 64 from (xge_c (n := 64) (by omega) rfl)) (by omega) (by omega) (by omega) (by omega) (show ((64 : Int32) - B) = K from (xge_i (by omega))) (by omega) (by omega) (by omega) (by omega) (W0_man (by omega)) (show (B + K) = 64 from (xge_c (n := 64) (by omega) rfl)) (by omega) (by omega) (by omega) (by omega) (W0_mw (by omega)) (by omega) (by omega) (by omega) (by omega) (by omega) (by omega) (by omega) (by omega) (by omega) (by omega) (by omega) (by omega) (by omega) (by omega) (by omega) (by omega) (by omega) (by omega) (by omega) (by omega) (by omega) (by omega) (by omega) (by omega) (by omega) (by omega) W0_194), ?_, xgs (xgn (by decide) (xgn (by omega) (xgn (by decide) (xgn (by omega) (xgn (by omega) (xgn (by omega) (xgn (by decide) (xgn (by decide) (xgn (by decide) (xgn (by decide) (xgn (by decide) W0_194)))))))))))⟩
  refine xKp.set ?_ (fun h hh => by unfold xPC at hh; omega) (xgn (by decide) (xgn (by omega) (xgn (by decide) (xgn (by omega) (xgn (by omega) (xgn (by omega) (xgn (by decide) (xgn (by decide) (xgn (by decide) (xgn (by decide) (xgn (by decide) W0_194))))))))))) xcs_a
  refine xKp.set ?_ (fun h hh => by unfold xPC at hh; omega) (xgn (by omega) (xgs (xgn (by omega) (xgn (by omega) (xgn (by omega) (xgn (by decide) (xgn (by decide) (xgn (by decide) (xgn (by decide) (xgn (by decide) W0_78)))))))))) xcs_o
  refine xKp.set ?_ (fun h hh => by unfold xPC at hh; omega) (xgn (by omega) (xgn (by omega) (xgn (by omega) (xgs (xgn (by omega) (xgn (by omega) (xgn (by omega) (xgn (by omega) (xgn (by omega) (W0_reg (by omega))))))))))) xcs_o
  refine xKp.set ?_ (fun h hh => by unfold xPC at hh; omega) (xgn (by omega) (xgn (by omega) (xgn (by omega) (xgn (by decide) (xgn (by decide) (xgn (by decide) (xgn (by decide) (xgn (by decide) W0_78)))))))) xcs_o
  refine xKp.set ?_ (fun h hh => by unfold xPC at hh; omega) (xgn (by omega) (xgn (by omega) (xgn (by omega) (xgn (by omega) (xgn (by omega) (xgn (by omega) (xgn (by omega) (W0_man (by omega))))))))) xcs_o
  refine xKp.set ?_ (fun h hh => by unfold xPC at hh; omega) (xgn (by omega) (xgn (by omega) (xgn (by omega) (xgn (by omega) (xgn (by omega) (xgn (by omega) (W0_mw (by omega)))))))) xcs_a
  refine xKp.set ?_ (fun h hh => by unfold xPC at hh; omega) (xgn (by omega) (xgn (by omega) (xgn (by omega) (xgn (by omega) (xgn (by omega) (W0_reg (by omega))))))) xcs_o
  refine xKp.set ?_ (fun h hh => by unfold xPC at hh; omega) (xgn (by decide) (xgn (by decide) (xgn (by decide) (xgs W0_16)))) xcs_o
  refine xKp.set ?_ (fun h hh => by unfold xPC at hh; omega) (xgs (xgn (by decide) (xgn (by decide) W0_17))) xcs_o
  refine xKp.set ?_ (fun h hh => by unfold xPC at hh; omega) (xgn (by decide) (xgn (by decide) W0_17)) xcs_o
  refine xKp.set ?_ (fun h hh => by unfold xPC at hh; omega) (xgn (by decide) W0_18) xcs_a
  refine xKp.set ?_ (fun h hh => by unfold xPC at hh; omega) (W0_16) xcs_o
  exact xKp.refl
theorem s_51_0 {d : Nat} {w : xW} {g0 : Nat → Value} {a0 : Int32} (hw0 : w[17]? = some (Sum.inr (3, [Value.ref 18, Value.int 1]))) (hw1 : w[18]? = some (Sum.inl (0, 8, g0))) (hg2 : g0 (0 : Int32).toInt.toNat = Value.int a0) (e3 : a0.toInt ≠ 0) : xRun (d + 1) 51 [Value.ref 17] w (.inl (some (Value.int ((0 : Int32) + (xntz a0))))) w := by
  refine xRun.of ?_
  refine i_51_0 ?_
  refine i_51_1 (lv2 := [(1, Value.int 0), (0, Value.ref 17)]) rfl ?_
  refine i_51_2 (x := 0) rfl ?_
  refine i_51_3 (x := 17) rfl ?_
  refine i_51_4 (v := Value.int 1) hw0 rfl ?_
  refine i_51_7 (fun h => absurd h (by decide)) (fun _ => ?_)
  refine i_51_10 (x := 17) rfl ?_
  refine i_51_11 (v := Value.ref 18) hw0 rfl ?_
  refine i_51_14 (x := 0) rfl ?_
  refine i_51_15 (v := Value.int a0) hw1 (by decide) (by decide) hg2 ?_
  refine i_51_16 (fun h => absurd e3 (fun g => g h)) (fun _ => ?_)
  refine i_51_19 ?_
  refine i_51_21 (x := 0) rfl ?_
  refine i_51_22 (c := 0) (by decide) ?_
  refine i_51_23 (x := 17) rfl ?_
  refine i_51_24 (v := Value.ref 18) hw0 rfl ?_
  refine i_51_27 (x := 0) rfl ?_
  refine i_51_28 (v := Value.int a0) hw1 (by decide) (by decide) hg2 ?_
  refine i_51_29 (Nat.le_of_ble_eq_true rfl) (ntz_run e3) ?_
  refine i_51_32 (c := ((0 : Int32) + (xntz a0))) rfl ?_
  exact i_51_33 ⟨rfl, rfl⟩
theorem s_50_3 {d : Nat} {w : xW} {h0 : Nat} {a0 : Int32} {a1 : Int32} {g0 : Nat → Value} {a2 : Int32} {a3 : Int32} {a4 : Int32} {h1 : Nat} (hw0 : w[78]? = some (Sum.inr (1, [Value.int (-16384), Value.int 16384, Value.int 0, Value.int 0]))) (hw1 : w[16]? = some (Sum.inr (4, [Value.int 0, Value.ref 17, Value.int a1, Value.int 0]))) (e2 : a0.toInt ≠ 4) (e3 : a0.toInt ≠ 2) (e4 : a0.toInt ≠ 3) (e5 : a0.toInt = 0) (hw6 : w[17]? = some (Sum.inr (3, [Value.ref 18, Value.int 1]))) (hw7 : w[18]? = some (Sum.inl (0, 8, g0))) (hg8 : g0 (0 : Int32).toInt.toNat = Value.int a2) (e9 : a2.toInt ≠ 0) (hg10 : ((32 : Int32) - (xnlz a2)) = a3) (e11 : ((0 : Int32) + (xntz a2)).toInt = (a3 - (1 : Int32)).toInt) (e12 : (a3 + a1).toInt = (-16385)) (e13 : 78 ≠ h0) (hw14 : w[h0]? = some (Sum.inr (2, [Value.int 64, Value.int 3, Value.int 0, Value.int a4, Value.ref h1]))) (e15 : 7 ≤ h0) : xRun (d + 3) 50 [Value.ref 78, Value.ref h0, Value.ref 16, Value.int a0] w (.inl (some (Value.int (-1)))) ((w.set 78 (Sum.inr (1, [Value.int (-16384), Value.int 16384, Value.int 0, Value.int 4]))).set h0 (Sum.inr (2, [Value.int 64, Value.int 2, Value.int 0, Value.int a4, Value.ref h1]))) := by
  refine xRun.of ?_
  refine i_50_0 (x := 78) rfl ?_
  refine i_50_1 rfl ?_
  refine i_50_2 (v := Value.int 0) hw0 rfl ?_
  refine i_50_5 ?_
  refine i_50_6 (c := 4) (by decide) ?_
  refine i_50_7 (fs2 := [Value.int (-16384), Value.int 16384, Value.int 0, Value.int 4]) hw0 (Nat.le_of_ble_eq_true rfl) rfl (by decide) ?_
  refine i_50_10 (x := a0) rfl ?_
  refine i_50_11 (x := 16) rfl ?_
  refine i_50_12 (v := Value.int 0) (xgn (by decide) hw1) rfl ?_
  refine i_50_15 (Nat.le_of_ble_eq_true rfl) (s_37_3 e2 e3 e4) ?_
  refine i_50_18 (lv2 := [(4, Value.int 0), (0, Value.ref 78), (1, Value.ref h0), (2, Value.ref 16), (3, Value.int a0)]) rfl ?_
  refine i_50_20 (x := a0) rfl ?_
  refine i_50_21 (fun h => absurd e5 h) (fun _ => ?_)
  refine i_50_24 (x := 16) rfl ?_
  refine i_50_25 (v := Value.int 0) (xgn (by decide) hw1) rfl ?_
  refine i_50_28 (fun h => absurd h (by decide)) (fun _ => ?_)
  refine i_50_31 (x := 16) rfl ?_
  refine i_50_32 (v := Value.ref 17) (xgn (by decide) hw1) rfl ?_
  refine i_50_35 (xgn (by decide) hw6) (Nat.le_of_ble_eq_true rfl) (s_51_0 (xgn (by decide) hw6) (xgn (by decide) hw7) hg8 e9) ?_
  refine i_50_38 (x := 16) rfl ?_
  refine i_50_39 (v := Value.ref 17) (xgn (by decide) hw1) rfl ?_
  refine i_50_42 (xgn (by decide) hw6) (Nat.le_of_ble_eq_true rfl) (s_29_0 (xgn (by decide) hw6) (xgn (by decide) hw7) hg8 hg10) ?_
  refine i_50_45 ?_
  refine i_50_46 (c := (a3 - (1 : Int32))) rfl ?_
  refine i_50_47 (fun h => absurd e11 h) (fun _ => ?_)
  refine i_50_50 ?_
  refine i_50_51 ?_
  refine i_50_55 (lv2 := [(5, Value.int 1), (4, Value.int 0), (0, Value.ref 78), (1, Value.ref h0), (2, Value.ref 16), (3, Value.int a0)]) rfl ?_
  refine i_50_57 (x := 16) rfl ?_
  refine i_50_58 (xgn (by decide) hw1) (Nat.le_of_ble_eq_true rfl) (s_28_0 (xgn (by decide) hw1) (xgn (by decide) hw6) (xgn (by decide) hw7) hg8 hg10) ?_
  refine i_50_61 (x := 78) rfl ?_
  refine i_50_62 (v := Value.int (-16384)) (xgs hw0) rfl ?_
  refine i_50_65 ?_
  refine i_50_66 (c := (-16385)) (by decide) ?_
  refine i_50_67 (fun h => absurd e12 h) (fun _ => ?_)
  refine i_50_70 (x := 1) rfl ?_
  refine i_50_72 (fun _ => ?_) (fun h => absurd h (by decide))
  refine i_50_79 ?_
  refine i_50_80 (lv2 := [(4, Value.int 0), (5, Value.int 1), (0, Value.ref 78), (1, Value.ref h0), (2, Value.ref 16), (3, Value.int a0)]) rfl ?_
  refine i_50_82 (x := 0) rfl ?_
  refine i_50_84 (fun _ => ?_) (fun h => absurd h (by decide))
  refine i_50_101 (x := h0) rfl ?_
  refine i_50_102 (x := 16) rfl ?_
  refine i_50_103 (v := Value.int 0) (xgn (by decide) hw1) rfl ?_
  refine i_50_106 (xgn e13 hw14) (Nat.le_of_ble_eq_true rfl) (s_23_0 (xgn e13 hw14) e15) ?_
  refine i_50_109 rfl ?_
  refine i_50_110 ?_
  exact i_50_111 ⟨rfl, rfl⟩
theorem s_27_8 {d : Nat} {w : xW} {h0 : Nat} {a0 : Int32} {a1 : Int32} {g0 : Nat → Value} {a2 : Int32} {a3 : Int32} {h1 : Nat} {a4 : Int32} {h2 : Nat} (hw0 : w[16]? = some (Sum.inr (4, [Value.int 0, Value.ref 17, Value.int a1, Value.int 0]))) (hw1 : w[17]? = some (Sum.inr (3, [Value.ref 18, Value.int 1]))) (hw2 : w[18]? = some (Sum.inl (0, 8, g0))) (hg3 : g0 (0 : Int32).toInt.toNat = Value.int a2) (hg4 : ((32 : Int32) - (xnlz a2)) = a3) (hw5 : w[h0]? = some (Sum.inr (2, [Value.int 64, Value.int 0, Value.int 0, Value.int 0, Value.ref h1]))) (hw6 : w[78]? = some (Sum.inr (1, [Value.int (-16384), Value.int 16384, Value.int 0, Value.int 0]))) (e7 : (((a3 + a1) - (64 : Int32)) - a1).toInt ≤ 0) (hg8 : ((a3 + a1) - ((a3 + a1) - (64 : Int32))) = 64) (e9 : 7 ≤ h0) (e10 : h0 ≠ 16) (e11 : h0 ≠ 17) (e12 : h0 ≠ 18) (hg13 : ((64 : Int32) - a3) = a4) (e14 : h0 ≠ h1) (hw15 : w[h1]? = some (Sum.inr (3, [Value.ref h2, Value.int 0]))) (hg16 : (a3 + a4) = 64) (e17 : h0 ≠ h2) (hw18 : w[h2]? = some (Sum.inl (0, 8, fun _ => Value.int 0))) (e19 : 0 ≤ a4.toInt) (hg20 : g0 (1 : Int32).toInt.toNat = Value.int 0) (e21 : 7 ≤ h2) (e22 : h2 ≠ h1) (e23 : h2 ≠ 17) (e24 : h2 ≠ 18) (e25 : 7 ≤ h1) (e26 : h1 ≠ h0) (e27 : h2 ≠ h0) (e28 : h1 ≠ h2) (e29 : (xbf 1 a2 (0 : Int32) ((32 : Int32) - a4)).toInt ≠ 0) (e30 : ((64 : Int32) - (xnlz (xbf 1 a2 (0 : Int32) ((32 : Int32) - a4)))).toInt ≤ 64) (e31 : h1 ≠ 78) (e32 : h2 ≠ 78) (e33 : h0 ≠ 78) (e34 : (a3 + a1).toInt ≤ 16384) (e35 : (a3 + a1).toInt < (-16384)) (e36 : h1 ≠ 16) (e37 : h2 ≠ 16) (e38 : a0.toInt ≠ 4) (e39 : a0.toInt ≠ 2) (e40 : a0.toInt ≠ 3) (e41 : a0.toInt = 0) (e42 : h1 ≠ 17) (e43 : h1 ≠ 18) (e44 : a2.toInt ≠ 0) (e45 : ((0 : Int32) + (xntz a2)).toInt = (a3 - (1 : Int32)).toInt) (e46 : (a3 + a1).toInt = (-16385)) (e47 : 78 ≠ h0) : xRun (d + 4) 27 [Value.ref 78, Value.ref h0, Value.ref 16, Value.int a0] w (.inl (some (Value.int (-1)))) ((((((w.set h0 (Sum.inr (2, [Value.int 64, Value.int 3, Value.int 0, Value.int (a3 + a1), Value.ref h1]))).set h2 (Sum.inl (0, 8, xup (xup (fun _ => Value.int 0) (1 : Int32).toInt.toNat (Value.int (xbf 1 a2 (0 : Int32) ((32 : Int32) - a4)))) (0 : Int32).toInt.toNat (Value.int (xbf 1 a2 (0 : Int32) ((0 : Int32) - a4)))))).set h1 (Sum.inr (3, [Value.ref h2, Value.int 2]))).set 78 (Sum.inr (1, [Value.int (-16384), Value.int 16384, Value.int 0, Value.int 4]))).set h0 (Sum.inr (2, [Value.int 64, Value.int 2, Value.int 0, Value.int (a3 + a1), Value.ref h1]))).set 78 (Sum.inr (1, [Value.int (-16384), Value.int 16384, Value.int 0, Value.int 5]))) := by
  refine xRun.of ?_
  refine i_27_0 (x := 16) rfl ?_
  refine i_27_1 hw0 (Nat.le_of_ble_eq_true rfl) (s_28_0 hw0 hw1 hw2 hg3 hg4) ?_
  refine i_27_4 (lv2 := [(4, Value.int (a3 + a1)), (0, Value.ref 78), (1, Value.ref h0), (2, Value.ref 16), (3, Value.int a0)]) rfl ?_
  refine i_27_6 (x := 78) rfl ?_
  refine i_27_7 (x := (a3 + a1)) rfl ?_
  refine i_27_9 (x := h0) rfl ?_
  refine i_27_10 (v := Value.int 64) hw5 rfl ?_
  refine i_27_13 hw6 (Nat.le_of_ble_eq_true rfl) (s_30_0 hw6) ?_
  refine i_27_16 (lv2 := [(5, Value.int ((a3 + a1) - (64 : Int32))), (4, Value.int (a3 + a1)), (0, Value.ref 78), (1, Value.ref h0), (2, Value.ref 16), (3, Value.int a0)]) rfl ?_
  refine i_27_18 (x := 16) rfl ?_
  refine i_27_19 (x := ((a3 + a1) - (64 : Int32))) rfl ?_
  refine i_27_21 (x := a0) rfl ?_
  refine i_27_22 hw0 (Nat.le_of_ble_eq_true rfl) (s_31_0 hw0 hw1 e7) ?_
  refine i_27_25 (lv2 := [(6, Value.int 0), (5, Value.int ((a3 + a1) - (64 : Int32))), (4, Value.int (a3 + a1)), (0, Value.ref 78), (1, Value.ref h0), (2, Value.ref 16), (3, Value.int a0)]) rfl ?_
  refine i_27_27 (x := 16) rfl ?_
  refine i_27_28 (x := ((a3 + a1) - (64 : Int32))) rfl ?_
  refine i_27_30 hw0 (Nat.le_of_ble_eq_true rfl) (s_32_0 hw0 hw1 e7) ?_
  refine i_27_33 (fun h => absurd h (by decide)) (fun _ => ?_)
  refine i_27_36 ?_
  refine i_27_37 ?_
  refine i_27_50 (lv2 := [(7, Value.int 0), (6, Value.int 0), (5, Value.int ((a3 + a1) - (64 : Int32))), (4, Value.int (a3 + a1)), (0, Value.ref 78), (1, Value.ref h0), (2, Value.ref 16), (3, Value.int a0)]) rfl ?_
  refine i_27_52 (x := h0) rfl ?_
  refine i_27_53 (x := 16) rfl ?_
  refine i_27_54 (x := ((a3 + a1) - (64 : Int32))) rfl ?_
  refine i_27_56 (x := 0) rfl ?_
  refine i_27_58 hw5 (Nat.le_of_ble_eq_true rfl) (s_38_0 hw0 hw1 hw2 hg3 hg4 hg8 hw5 e9 e10 e11 e12 hg13 e14 hw15 hg16 e17 hw18 e19 hg20 e21 e22 e23 e24 e25 e26 e27 e28 e29 e30) ?_
  refine i_27_61 (x := h0) rfl ?_
  refine i_27_62 (v := Value.int 3) (xgn e26 (xgn e27 (xgs hw5))) rfl ?_
  refine i_27_65 ?_
  refine i_27_66 (fun h => absurd h (by decide)) (fun _ => ?_)
  refine i_27_69 (x := h0) rfl ?_
  refine i_27_70 (v := Value.int (a3 + a1)) (xgn e26 (xgn e27 (xgs hw5))) rfl ?_
  refine i_27_73 (x := 78) rfl ?_
  refine i_27_74 (v := Value.int 16384) (xgn e31 (xgn e32 (xgn e33 hw6))) rfl ?_
  refine i_27_77 (fun _ => ?_) (fun h => absurd e34 (Int.not_le.mpr h))
  refine i_27_95 (x := h0) rfl ?_
  refine i_27_96 (v := Value.int 3) (xgn e26 (xgn e27 (xgs hw5))) rfl ?_
  refine i_27_99 ?_
  refine i_27_100 (fun h => absurd h (by decide)) (fun _ => ?_)
  refine i_27_103 (x := 78) rfl ?_
  refine i_27_104 (v := Value.int 0) (xgn e31 (xgn e32 (xgn e33 hw6))) rfl ?_
  refine i_27_107 (fun h => absurd h (by decide)) (fun _ => ?_)
  refine i_27_110 (x := h0) rfl ?_
  refine i_27_111 (v := Value.int (a3 + a1)) (xgn e26 (xgn e27 (xgs hw5))) rfl ?_
  refine i_27_114 (x := 78) rfl ?_
  refine i_27_115 (v := Value.int (-16384)) (xgn e31 (xgn e32 (xgn e33 hw6))) rfl ?_
  refine i_27_118 (fun h => absurd e35 (Int.not_lt.mpr h)) (fun _ => ?_)
  refine i_27_121 (x := 78) rfl ?_
  refine i_27_122 (x := h0) rfl ?_
  refine i_27_123 (x := 16) rfl ?_
  refine i_27_124 (x := a0) rfl ?_
  refine i_27_125 (xgn e31 (xgn e32 (xgn e33 hw6))) (Nat.le_of_ble_eq_true rfl) (s_50_3 (xgn e31 (xgn e32 (xgn e33 hw6))) (xgn e36 (xgn e37 (xgn e10 hw0))) e38 e39 e40 e41 (xgn e42 (xgn e23 (xgn e11 hw1))) (xgn e43 (xgn e24 (xgn e12 hw2))) hg3 e44 hg4 e45 e46 e47 (xgn e26 (xgn e27 (xgs hw5))) e9) ?_
  refine i_27_128 (lv2 := [(7, Value.int (-1)), (6, Value.int 0), (5, Value.int ((a3 + a1) - (64 : Int32))), (4, Value.int (a3 + a1)), (0, Value.ref 78), (1, Value.ref h0), (2, Value.ref 16), (3, Value.int a0)]) rfl ?_
  refine i_27_130 ?_
  refine i_27_164 (x := (-1)) rfl ?_
  refine i_27_166 (fun h => absurd h (by decide)) (fun _ => ?_)
  refine i_27_169 (x := 78) rfl ?_
  refine i_27_170 rfl ?_
  refine i_27_171 (v := Value.int 4) (xgn e33 (xgs (xgn e31 (xgn e32 (xgn e33 hw6))))) rfl ?_
  refine i_27_174 ?_
  refine i_27_175 (c := 5) (by decide) ?_
  refine i_27_176 (fs2 := [Value.int (-16384), Value.int 16384, Value.int 0, Value.int 5]) (xgn e33 (xgs (xgn e31 (xgn e32 (xgn e33 hw6))))) (Nat.le_of_ble_eq_true rfl) rfl (by decide) ?_
  refine i_27_179 (x := 16) rfl ?_
  refine i_27_180 (v := Value.int 0) (xgn (by decide) (xgn e10 (xgn (by decide) (xgn e36 (xgn e37 (xgn e10 hw0)))))) rfl ?_
  refine i_27_183 (fun _ => ?_) (fun h => absurd h (by decide))
  refine i_27_192 (x := (-1)) rfl ?_
  exact i_27_194 ⟨rfl, rfl⟩
theorem s_21_8 {d : Nat} {w : xW} {a0 : Int32} {b0 : Int64} {a1 : Int32} {a2 : Int32} {g0 : Nat → Value} {h0 : Nat} {a3 : Int32} {h1 : Nat} {a4 : Int32} {h2 : Nat} (e0 : 0 ≤ a0.toInt) (e1 : a0.toInt < 16) (e2 : (-40000) ≤ a1.toInt) (e3 : a1.toInt ≤ 40000) (e4 : 0 ≤ a2.toInt) (e5 : a2.toInt ≤ 4) (hw6 : w[7]? = some (Sum.inr (0, [Value.ref 8, Value.ref 78, Value.ref 9, Value.ref 10, Value.ref 13, Value.ref 16, Value.ref 19, Value.ref 93, Value.ref 108, Value.ref 113, Value.ref 29, Value.int 0]))) (hw7 : w[8]? = some (Sum.inl (4, 16, g0))) (hg8 : g0 a0.toInt.toNat = Value.ref h0) (e9 : (lg_cmp b0 (0 : Int64)).toInt ≠ 0) (e10 : 0 ≤ (lg_cmp b0 (0 : Int64)).toInt) (hw11 : w[16]? = some (Sum.inr (4, [Value.int 0, Value.ref 17, Value.int 0, Value.int 0]))) (hw12 : w[17]? = some (Sum.inr (3, [Value.ref 18, Value.int 0]))) (hw13 : w[18]? = some (Sum.inl (0, 8, fun _ => Value.int 0))) (hg14 : (xhi b0) = 0) (e15 : (xlo b0).toInt ≠ 0) (hw16 : w[78]? = some (Sum.inr (1, [Value.int (-16384), Value.int 16384, Value.int 0, Value.int 0]))) (hg17 : ((32 : Int32) - (xnlz (xlo b0))) = a3) (e18 : 16 ≠ h0) (e19 : 17 ≠ h0) (e20 : 18 ≠ h0) (hw21 : w[h0]? = some (Sum.inr (2, [Value.int 64, Value.int 0, Value.int 0, Value.int 0, Value.ref h1]))) (e22 : (((a3 + a1) - (64 : Int32)) - a1).toInt ≤ 0) (hg23 : ((a3 + a1) - ((a3 + a1) - (64 : Int32))) = 64) (e24 : 7 ≤ h0) (e25 : h0 ≠ 16) (e26 : h0 ≠ 17) (e27 : h0 ≠ 18) (hg28 : ((64 : Int32) - a3) = a4) (e29 : h0 ≠ h1) (e30 : 16 ≠ h1) (e31 : 17 ≠ h1) (e32 : 18 ≠ h1) (hw33 : w[h1]? = some (Sum.inr (3, [Value.ref h2, Value.int 0]))) (hg34 : (a3 + a4) = 64) (e35 : h0 ≠ h2) (e36 : 16 ≠ h2) (e37 : 17 ≠ h2) (e38 : 18 ≠ h2) (hw39 : w[h2]? = some (Sum.inl (0, 8, fun _ => Value.int 0))) (e40 : 0 ≤ a4.toInt) (e41 : 7 ≤ h2) (e42 : h2 ≠ h1) (e43 : h2 ≠ 17) (e44 : h2 ≠ 18) (e45 : 7 ≤ h1) (e46 : h1 ≠ h0) (e47 : h2 ≠ h0) (e48 : h1 ≠ h2) (e49 : (xbf 1 (xlo b0) (0 : Int32) ((32 : Int32) - a4)).toInt ≠ 0) (e50 : ((64 : Int32) - (xnlz (xbf 1 (xlo b0) (0 : Int32) ((32 : Int32) - a4)))).toInt ≤ 64) (e51 : h1 ≠ 78) (e52 : h2 ≠ 78) (e53 : h0 ≠ 78) (e54 : (a3 + a1).toInt ≤ 16384) (e55 : (a3 + a1).toInt < (-16384)) (e56 : h1 ≠ 16) (e57 : h2 ≠ 16) (e58 : a2.toInt ≠ 4) (e59 : a2.toInt ≠ 2) (e60 : a2.toInt ≠ 3) (e61 : a2.toInt = 0) (e62 : h1 ≠ 17) (e63 : h1 ≠ 18) (e64 : ((0 : Int32) + (xntz (xlo b0))).toInt = (a3 - (1 : Int32)).toInt) (e65 : (a3 + a1).toInt = (-16385)) (e66 : 78 ≠ h0) : xRun (d + 5) 21 [Value.ref 7, Value.int a0, Value.long b0, Value.int a1, Value.int a2] w (.inl (some (Value.int (-1)))) (((((((((((w.set 16 (Sum.inr (4, [Value.int 0, Value.ref 17, Value.int 0, Value.int 0]))).set 18 (Sum.inl (0, 8, xup (xup (fun _ => Value.int 0) (0 : Int32).toInt.toNat (Value.int (xlo b0))) (1 : Int32).toInt.toNat (Value.int 0)))).set 17 (Sum.inr (3, [Value.ref 18, Value.int 2]))).set 17 (Sum.inr (3, [Value.ref 18, Value.int 1]))).set 16 (Sum.inr (4, [Value.int 0, Value.ref 17, Value.int a1, Value.int 0]))).set h0 (Sum.inr (2, [Value.int 64, Value.int 3, Value.int 0, Value.int (a3 + a1), Value.ref h1]))).set h2 (Sum.inl (0, 8, xup (xup (fun _ => Value.int 0) (1 : Int32).toInt.toNat (Value.int (xbf 1 (xlo b0) (0 : Int32) ((32 : Int32) - a4)))) (0 : Int32).toInt.toNat (Value.int (xbf 1 (xlo b0) (0 : Int32) ((0 : Int32) - a4)))))).set h1 (Sum.inr (3, [Value.ref h2, Value.int 2]))).set 78 (Sum.inr (1, [Value.int (-16384), Value.int 16384, Value.int 0, Value.int 4]))).set h0 (Sum.inr (2, [Value.int 64, Value.int 2, Value.int 0, Value.int (a3 + a1), Value.ref h1]))).set 78 (Sum.inr (1, [Value.int (-16384), Value.int 16384, Value.int 0, Value.int 5]))) := by
  refine xRun.of ?_
  refine i_21_0 (x := a0) rfl ?_
  refine i_21_1 (Nat.le_of_ble_eq_true rfl) (s_15_0 e0 e1) ?_
  refine i_21_4 (fun h => absurd h (by decide)) (fun _ => ?_)
  refine i_21_7 (x := a1) rfl ?_
  refine i_21_9 ?_
  refine i_21_11 (fun h => absurd e2 (Int.not_le.mpr h)) (fun _ => ?_)
  refine i_21_14 (x := a1) rfl ?_
  refine i_21_16 ?_
  refine i_21_18 (fun h => absurd e3 (Int.not_le.mpr h)) (fun _ => ?_)
  refine i_21_21 (x := a2) rfl ?_
  refine i_21_23 (Nat.le_of_ble_eq_true rfl) (s_22_0 e4 e5) ?_
  refine i_21_26 (fun _ => ?_) (fun h => absurd h (by decide))
  refine i_21_37 (x := 7) rfl ?_
  refine i_21_38 (v := Value.ref 8) hw6 rfl ?_
  refine i_21_41 (x := a0) rfl ?_
  refine i_21_42 (v := Value.ref h0) hw7 e0 e1 hg8 ?_
  refine i_21_43 (lv2 := [(6, Value.ref h0), (0, Value.ref 7), (1, Value.int a0), (2, Value.long b0), (4, Value.int a1), (5, Value.int a2)]) rfl ?_
  refine i_21_45 (x := b0) rfl ?_
  refine i_21_46 ?_
  refine i_21_47 (c := (lg_cmp b0 (0 : Int64))) rfl ?_
  refine i_21_48 (fun _ => ?_) (fun h => absurd e9 (fun g => g h))
  refine i_21_58 (x := 7) rfl ?_
  refine i_21_59 (v := Value.ref 16) hw6 rfl ?_
  refine i_21_62 (x := b0) rfl ?_
  refine i_21_63 ?_
  refine i_21_64 (c := (lg_cmp b0 (0 : Int64))) rfl ?_
  refine i_21_65 (fun _ => ?_) (fun h => absurd e10 (Int.not_le.mpr h))
  refine i_21_72 ?_
  refine i_21_73 (x := b0) rfl ?_
  refine i_21_74 ?_
  refine i_21_75 (c := (lg_cmp b0 (0 : Int64))) rfl ?_
  refine i_21_76 (fun _ => ?_) (fun h => absurd e10 (Int.not_le.mpr h))
  refine i_21_84 (x := b0) rfl ?_
  refine i_21_85 (x := a1) rfl ?_
  refine i_21_87 hw11 (Nat.le_of_ble_eq_true rfl) (s_24_0 hw11 hw12 hw13 hg14 e15) ?_
  refine i_21_90 (x := 7) rfl ?_
  refine i_21_91 (v := Value.ref 78) (xgn (by decide) (xgn (by decide) (xgn (by decide) (xgn (by decide) (xgn (by decide) hw6))))) rfl ?_
  refine i_21_94 (x := h0) rfl ?_
  refine i_21_96 (x := 7) rfl ?_
  refine i_21_97 (v := Value.ref 16) (xgn (by decide) (xgn (by decide) (xgn (by decide) (xgn (by decide) (xgn (by decide) hw6))))) rfl ?_
  refine i_21_100 (x := a2) rfl ?_
  refine i_21_102 (xgn (by decide) (xgn (by decide) (xgn (by decide) (xgn (by decide) (xgn (by decide) hw16))))) (Nat.le_of_ble_eq_true rfl) (s_27_8 (xgs (xgn (by decide) (xgn (by decide) (xgn (by decide) (xgs hw11))))) (xgn (by decide) (xgs (xgs (xgn (by decide) (xgn (by decide) hw12))))) (xgn (by decide) (xgn (by decide) (xgn (by decide) (xgs (xgn (by decide) hw13))))) (xup_n (by decide) xup_s) hg17 (xgn e18 (xgn e19 (xgn e19 (xgn e20 (xgn e18 hw21))))) (xgn (by decide) (xgn (by decide) (xgn (by decide) (xgn (by decide) (xgn (by decide) hw16))))) e22 hg23 e24 e25 e26 e27 hg28 e29 (xgn e30 (xgn e31 (xgn e31 (xgn e32 (xgn e30 hw33))))) hg34 e35 (xgn e36 (xgn e37 (xgn e37 (xgn e38 (xgn e36 hw39))))) e40 xup_s e41 e42 e43 e44 e45 e46 e47 e48 e49 e50 e51 e52 e53 e54 e55 e56 e57 e58 e59 e60 e61 e62 e63 e15 e64 e65 e66) ?_
  exact i_21_105 ⟨rfl, rfl⟩
theorem s_20_8 {d : Nat} {w : xW} {a0 : Int32} {b0 : Int64} {a1 : Int32} {a2 : Int32} {g0 : Nat → Value} {h0 : Nat} {a3 : Int32} {h1 : Nat} {a4 : Int32} {h2 : Nat} (hw0 : w[7]? = some (Sum.inr (0, [Value.ref 8, Value.ref 78, Value.ref 9, Value.ref 10, Value.ref 13, Value.ref 16, Value.ref 19, Value.ref 93, Value.ref 108, Value.ref 113, Value.ref 29, Value.int 0]))) (e1 : 0 ≤ a0.toInt) (e2 : a0.toInt < 16) (e3 : (-40000) ≤ a1.toInt) (e4 : a1.toInt ≤ 40000) (e5 : 0 ≤ a2.toInt) (e6 : a2.toInt ≤ 4) (hw7 : w[8]? = some (Sum.inl (4, 16, g0))) (hg8 : g0 a0.toInt.toNat = Value.ref h0) (e9 : (lg_cmp b0 (0 : Int64)).toInt ≠ 0) (e10 : 0 ≤ (lg_cmp b0 (0 : Int64)).toInt) (hw11 : w[16]? = some (Sum.inr (4, [Value.int 0, Value.ref 17, Value.int 0, Value.int 0]))) (hw12 : w[17]? = some (Sum.inr (3, [Value.ref 18, Value.int 0]))) (hw13 : w[18]? = some (Sum.inl (0, 8, fun _ => Value.int 0))) (hg14 : (xhi b0) = 0) (e15 : (xlo b0).toInt ≠ 0) (hw16 : w[78]? = some (Sum.inr (1, [Value.int (-16384), Value.int 16384, Value.int 0, Value.int 0]))) (hg17 : ((32 : Int32) - (xnlz (xlo b0))) = a3) (e18 : 16 ≠ h0) (e19 : 17 ≠ h0) (e20 : 18 ≠ h0) (hw21 : w[h0]? = some (Sum.inr (2, [Value.int 64, Value.int 0, Value.int 0, Value.int 0, Value.ref h1]))) (e22 : (((a3 + a1) - (64 : Int32)) - a1).toInt ≤ 0) (hg23 : ((a3 + a1) - ((a3 + a1) - (64 : Int32))) = 64) (e24 : 7 ≤ h0) (e25 : h0 ≠ 16) (e26 : h0 ≠ 17) (e27 : h0 ≠ 18) (hg28 : ((64 : Int32) - a3) = a4) (e29 : h0 ≠ h1) (e30 : 16 ≠ h1) (e31 : 17 ≠ h1) (e32 : 18 ≠ h1) (hw33 : w[h1]? = some (Sum.inr (3, [Value.ref h2, Value.int 0]))) (hg34 : (a3 + a4) = 64) (e35 : h0 ≠ h2) (e36 : 16 ≠ h2) (e37 : 17 ≠ h2) (e38 : 18 ≠ h2) (hw39 : w[h2]? = some (Sum.inl (0, 8, fun _ => Value.int 0))) (e40 : 0 ≤ a4.toInt) (e41 : 7 ≤ h2) (e42 : h2 ≠ h1) (e43 : h2 ≠ 17) (e44 : h2 ≠ 18) (e45 : 7 ≤ h1) (e46 : h1 ≠ h0) (e47 : h2 ≠ h0) (e48 : h1 ≠ h2) (e49 : (xbf 1 (xlo b0) (0 : Int32) ((32 : Int32) - a4)).toInt ≠ 0) (e50 : ((64 : Int32) - (xnlz (xbf 1 (xlo b0) (0 : Int32) ((32 : Int32) - a4)))).toInt ≤ 64) (e51 : h1 ≠ 78) (e52 : h2 ≠ 78) (e53 : h0 ≠ 78) (e54 : (a3 + a1).toInt ≤ 16384) (e55 : (a3 + a1).toInt < (-16384)) (e56 : h1 ≠ 16) (e57 : h2 ≠ 16) (e58 : a2.toInt ≠ 4) (e59 : a2.toInt ≠ 2) (e60 : a2.toInt ≠ 3) (e61 : a2.toInt = 0) (e62 : h1 ≠ 17) (e63 : h1 ≠ 18) (e64 : ((0 : Int32) + (xntz (xlo b0))).toInt = (a3 - (1 : Int32)).toInt) (e65 : (a3 + a1).toInt = (-16385)) (e66 : 78 ≠ h0) (e67 : h0 ≠ 194) (e68 : h1 ≠ 194) (e69 : h2 ≠ 194) (hw70 : w[194]? = some (Sum.inl (3, 1, fun _ => Value.long 0))) : xRun (d + 6) 20 [Value.ref 7, Value.int a0, Value.long b0, Value.int a1, Value.int a2, Value.ref 194] w (.inl (some (Value.int 0))) ((((((((((((w.set 16 (Sum.inr (4, [Value.int 0, Value.ref 17, Value.int 0, Value.int 0]))).set 18 (Sum.inl (0, 8, xup (xup (fun _ => Value.int 0) (0 : Int32).toInt.toNat (Value.int (xlo b0))) (1 : Int32).toInt.toNat (Value.int 0)))).set 17 (Sum.inr (3, [Value.ref 18, Value.int 2]))).set 17 (Sum.inr (3, [Value.ref 18, Value.int 1]))).set 16 (Sum.inr (4, [Value.int 0, Value.ref 17, Value.int a1, Value.int 0]))).set h0 (Sum.inr (2, [Value.int 64, Value.int 3, Value.int 0, Value.int (a3 + a1), Value.ref h1]))).set h2 (Sum.inl (0, 8, xup (xup (fun _ => Value.int 0) (1 : Int32).toInt.toNat (Value.int (xbf 1 (xlo b0) (0 : Int32) ((32 : Int32) - a4)))) (0 : Int32).toInt.toNat (Value.int (xbf 1 (xlo b0) (0 : Int32) ((0 : Int32) - a4)))))).set h1 (Sum.inr (3, [Value.ref h2, Value.int 2]))).set 78 (Sum.inr (1, [Value.int (-16384), Value.int 16384, Value.int 0, Value.int 4]))).set h0 (Sum.inr (2, [Value.int 64, Value.int 2, Value.int 0, Value.int (a3 + a1), Value.ref h1]))).set 78 (Sum.inr (1, [Value.int (-16384), Value.int 16384, Value.int 0, Value.int 5]))).set 194 (Sum.inl (3, 1, xup (fun _ => Value.long 0) (0 : Int32).toInt.toNat (Value.long (-1))))) := by
  refine xRun.of ?_
  refine i_20_0 (x := 194) rfl ?_
  refine i_20_2 ?_
  refine i_20_3 (x := 7) rfl ?_
  refine i_20_4 (x := a0) rfl ?_
  refine i_20_5 (x := b0) rfl ?_
  refine i_20_6 (x := a1) rfl ?_
  refine i_20_8 (x := a2) rfl ?_
  refine i_20_10 hw0 (Nat.le_of_ble_eq_true rfl) (s_21_8 e1 e2 e3 e4 e5 e6 hw0 hw7 hg8 e9 e10 hw11 hw12 hw13 hg14 e15 hw16 hg17 e18 e19 e20 hw21 e22 hg23 e24 e25 e26 e27 hg28 e29 e30 e31 e32 hw33 hg34 e35 e36 e37 e38 hw39 e40 e41 e42 e43 e44 e45 e46 e47 e48 e49 e50 e51 e52 e53 e54 e55 e56 e57 e58 e59 e60 e61 e62 e63 e64 e65 e66) ?_
  refine i_20_13 (c := (-1)) (by decide) ?_
  refine i_20_14 (v := Value.long (-1)) (xgn (by decide) (xgn e67 (xgn (by decide) (xgn e68 (xgn e69 (xgn e67 (xgn (by decide) (xgn (by decide) (xgn (by decide) (xgn (by decide) (xgn (by decide) hw70))))))))))) (by decide) (by decide) (by decide) rfl ?_
  refine i_20_15 ?_
  refine i_20_22 ?_
  exact i_20_23 ⟨rfl, rfl⟩
theorem cn3_0_8 {d : Nat} {xs : Nat → Int32} {B K : Int32} (c0 : 0 ≤ (xs 1).toInt) (c1 : (xs 1).toInt < 16) (c2 : (-40000) ≤ (xs 4).toInt) (c3 : (xs 4).toInt ≤ 40000) (c4 : 0 ≤ (xs 5).toInt) (c5 : (xs 5).toInt ≤ 4) (c6 : (lg_cmp (xvv xs) (0 : Int64)).toInt ≠ 0) (c7 : 0 ≤ (lg_cmp (xvv xs) (0 : Int64)).toInt) (c8 : K.toInt = 64 - B.toInt) (c9 : 1 ≤ B.toInt) (c10 : B.toInt ≤ 32) (c11 : (xhi (xvv xs)).toInt = 0) (c12 : (xlo (xvv xs)).toInt ≠ 0) (c13 : (xnlz (xlo (xvv xs))).toInt = 32 - B.toInt) (c14 : (xbf 1 (xlo (xvv xs)) (0 : Int32) ((32 : Int32) - K)).toInt ≠ 0) (c15 : (B + (xs 4)).toInt ≤ 16384) (c16 : (B + (xs 4)).toInt < (-16384)) (c17 : (xs 5).toInt ≠ 4) (c18 : (xs 5).toInt ≠ 2) (c19 : (xs 5).toInt ≠ 3) (c20 : (xs 5).toInt = 0) (c21 : (xntz (xlo (xvv xs))).toInt = B.toInt - 1) (c23 : (B + (xs 4)).toInt = (-16385)) : ∃ w1, xRun (d + 18) 20 [Value.ref 7, Value.int (xs 1), Value.long (xvv xs), Value.int (xs 4), Value.int (xs 5), Value.ref 194] (W0 6 xs) (.inl (some (Value.int 0))) w1 ∧ xKp (W0 6 xs) w1 xPC ∧ w1[194]? = some (Sum.inl (3, 1, xup (fun _ => Value.long 0) (0 : Int32).toInt.toNat (Value.long (-1)))) := by
  have f0 : ((32 : Int32) - (xnlz (xlo (xvv xs)))).toInt = 32 - (xnlz (xlo (xvv xs))).toInt := xsub_g rfl rfl (by omega) (by omega)
  have f1 : (B + (xs 4)).toInt = B.toInt + (xs 4).toInt := xadd_i (by omega) (by omega)
  have f2 : ((B + (xs 4)) - (64 : Int32)).toInt = (B + (xs 4)).toInt - 64 := xsub_g rfl rfl (by omega) (by omega)
  have f3 : (((B + (xs 4)) - (64 : Int32)) - (xs 4)).toInt = ((B + (xs 4)) - (64 : Int32)).toInt - (xs 4).toInt := xsub_i (by omega) (by omega)
  have f4 : ((B + (xs 4)) - ((B + (xs 4)) - (64 : Int32))).toInt = (B + (xs 4)).toInt - ((B + (xs 4)) - (64 : Int32)).toInt := xsub_i (by omega) (by omega)
  have f5 : ((64 : Int32) - B).toInt = 64 - B.toInt := xsub_g rfl rfl (by omega) (by omega)
  have f6 : (B + K).toInt = B.toInt + K.toInt := xadd_i (by omega) (by omega)
  have f7 : 0 ≤ (xnlz (xbf 1 (xlo (xvv xs)) (0 : Int32) ((32 : Int32) - K))).toInt := (xnlz_b _).1
  have f8 : (xnlz (xbf 1 (xlo (xvv xs)) (0 : Int32) ((32 : Int32) - K))).toInt ≤ 32 := (xnlz_b _).2
  have f9 : ((64 : Int32) - (xnlz (xbf 1 (xlo (xvv xs)) (0 : Int32) ((32 : Int32) - K)))).toInt = 64 - (xnlz (xbf 1 (xlo (xvv xs)) (0 : Int32) ((32 : Int32) - K))).toInt := xsub_g rfl rfl (by omega) (by omega)
  have f10 : ((0 : Int32) + (xntz (xlo (xvv xs)))).toInt = 0 + (xntz (xlo (xvv xs))).toInt := xadd_g rfl rfl (by omega) (by omega)
  have f11 : (B - (1 : Int32)).toInt = B.toInt - 1 := xsub_g rfl rfl (by omega) (by omega)
  refine ⟨(((((((((((((W0 6 xs).set 16 (Sum.inr (4, [Value.int 0, Value.ref 17, Value.int 0, Value.int 0]))).set 18 (Sum.inl (0, 8, xup (xup (fun _ => Value.int 0) (0 : Int32).toInt.toNat (Value.int (xlo (xvv xs)))) (1 : Int32).toInt.toNat (Value.int 0)))).set 17 (Sum.inr (3, [Value.ref 18, Value.int 2]))).set 17 (Sum.inr (3, [Value.ref 18, Value.int 1]))).set 16 (Sum.inr (4, [Value.int 0, Value.ref 17, Value.int (xs 4), Value.int 0]))).set (30 + 3 * (xs 1).toInt.toNat) (Sum.inr (2, [Value.int 64, Value.int 3, Value.int 0, Value.int (B + (xs 4)), Value.ref (31 + 3 * (xs 1).toInt.toNat)]))).set (32 + 3 * (xs 1).toInt.toNat) (Sum.inl (0, 8, xup (xup (fun _ => Value.int 0) (1 : Int32).toInt.toNat (Value.int (xbf 1 (xlo (xvv xs)) (0 : Int32) ((32 : Int32) - K)))) (0 : Int32).toInt.toNat (Value.int (xbf 1 (xlo (xvv xs)) (0 : Int32) ((0 : Int32) - K)))))).set (31 + 3 * (xs 1).toInt.toNat) (Sum.inr (3, [Value.ref (32 + 3 * (xs 1).toInt.toNat), Value.int 2]))).set 78 (Sum.inr (1, [Value.int (-16384), Value.int 16384, Value.int 0, Value.int 4]))).set (30 + 3 * (xs 1).toInt.toNat) (Sum.inr (2, [Value.int 64, Value.int 2, Value.int 0, Value.int (B + (xs 4)), Value.ref (31 + 3 * (xs 1).toInt.toNat)]))).set 78 (Sum.inr (1, [Value.int (-16384), Value.int 16384, Value.int 0, Value.int 5]))).set 194 (Sum.inl (3, 1, xup (fun _ => Value.long 0) (0 : Int32).toInt.toNat (Value.long (-1))))), (s_20_8 W0_7 (by omega) (by omega) (by omega) (by omega) (by omega) (by omega) W0_8 (greg_at (by omega)) (by omega) (by omega) W0_16 W0_17 W0_18 (show (xhi (xvv xs)) = 0 from (xge_c (n := 0) (by omega) rfl)) (by omega) W0_78 (show ((32 : Int32) - (xnlz (xlo (xvv xs)))) = B from (xge_i (by omega))) (by omega) (by omega) (by omega) (W0_reg (by omega)) (by omega) (show ((B + (xs 4)) - ((B + (xs 4)) - (64 : Int32))) = 64 from (xge_c (n := 64) (by omega) rfl)) (by omega) (by omega) (by omega) (by omega) (show ((64 : Int32) - B) = K from (xge_i (by omega))) (by omega) (by omega) (by omega) (by omega) (W0_man (by omega)) (show (B + K) = 64 from (xge_c (n := 64) (by omega) rfl)) (by omega) (by omega) (by omega) (by omega) (W0_mw (by omega)) (by omega) (by omega) (by omega) (by omega) (by omega) (by omega) (by omega) (by omega) (by omega) (by omega) (by omega) (by omega) (by omega) (by omega) (by omega) (by omega) (by omega) (by omega) (by omega) (by omega) (by omega) (by omega) (by omega) (by omega) (by omega) (by omega) (by omega) (by omega) (by omega) (by omega) W0_194), ?_, xgs (xgn (by decide) (xgn (by omega) (xgn (by decide) (xgn (by omega) (xgn (by omega) (xgn (by omega) (xgn (by decide) (xgn (by decide) (xgn (by decide) (xgn (by decide) (xgn (by decide) W0_194)))))))))))⟩
  refine xKp.set ?_ (fun h hh => by unfold xPC at hh; omega) (xgn (by decide) (xgn (by omega) (xgn (by decide) (xgn (by omega) (xgn (by omega) (xgn (by omega) (xgn (by decide) (xgn (by decide) (xgn (by decide) (xgn (by decide) (xgn (by decide) W0_194))))))))))) xcs_a
  refine xKp.set ?_ (fun h hh => by unfold xPC at hh; omega) (xgn (by omega) (xgs (xgn (by omega) (xgn (by omega) (xgn (by omega) (xgn (by decide) (xgn (by decide) (xgn (by decide) (xgn (by decide) (xgn (by decide) W0_78)))))))))) xcs_o
  refine xKp.set ?_ (fun h hh => by unfold xPC at hh; omega) (xgn (by omega) (xgn (by omega) (xgn (by omega) (xgs (xgn (by omega) (xgn (by omega) (xgn (by omega) (xgn (by omega) (xgn (by omega) (W0_reg (by omega))))))))))) xcs_o
  refine xKp.set ?_ (fun h hh => by unfold xPC at hh; omega) (xgn (by omega) (xgn (by omega) (xgn (by omega) (xgn (by decide) (xgn (by decide) (xgn (by decide) (xgn (by decide) (xgn (by decide) W0_78)))))))) xcs_o
  refine xKp.set ?_ (fun h hh => by unfold xPC at hh; omega) (xgn (by omega) (xgn (by omega) (xgn (by omega) (xgn (by omega) (xgn (by omega) (xgn (by omega) (xgn (by omega) (W0_man (by omega))))))))) xcs_o
  refine xKp.set ?_ (fun h hh => by unfold xPC at hh; omega) (xgn (by omega) (xgn (by omega) (xgn (by omega) (xgn (by omega) (xgn (by omega) (xgn (by omega) (W0_mw (by omega)))))))) xcs_a
  refine xKp.set ?_ (fun h hh => by unfold xPC at hh; omega) (xgn (by omega) (xgn (by omega) (xgn (by omega) (xgn (by omega) (xgn (by omega) (W0_reg (by omega))))))) xcs_o
  refine xKp.set ?_ (fun h hh => by unfold xPC at hh; omega) (xgn (by decide) (xgn (by decide) (xgn (by decide) (xgs W0_16)))) xcs_o
  refine xKp.set ?_ (fun h hh => by unfold xPC at hh; omega) (xgs (xgn (by decide) (xgn (by decide) W0_17))) xcs_o
  refine xKp.set ?_ (fun h hh => by unfold xPC at hh; omega) (xgn (by decide) (xgn (by decide) W0_17)) xcs_o
  refine xKp.set ?_ (fun h hh => by unfold xPC at hh; omega) (xgn (by decide) W0_18) xcs_a
  refine xKp.set ?_ (fun h hh => by unfold xPC at hh; omega) (W0_16) xcs_o
  exact xKp.refl
theorem s_50_4 {d : Nat} {w : xW} {h0 : Nat} {a0 : Int32} {a1 : Int32} {g0 : Nat → Value} {a2 : Int32} {a3 : Int32} {a4 : Int32} {h1 : Nat} (hw0 : w[78]? = some (Sum.inr (1, [Value.int (-16384), Value.int 16384, Value.int 0, Value.int 0]))) (hw1 : w[16]? = some (Sum.inr (4, [Value.int 0, Value.ref 17, Value.int a1, Value.int 0]))) (e2 : a0.toInt ≠ 4) (e3 : a0.toInt ≠ 2) (e4 : a0.toInt ≠ 3) (e5 : a0.toInt = 0) (hw6 : w[17]? = some (Sum.inr (3, [Value.ref 18, Value.int 1]))) (hw7 : w[18]? = some (Sum.inl (0, 8, g0))) (hg8 : g0 (0 : Int32).toInt.toNat = Value.int a2) (e9 : a2.toInt ≠ 0) (hg10 : ((32 : Int32) - (xnlz a2)) = a3) (e11 : ((0 : Int32) + (xntz a2)).toInt = (a3 - (1 : Int32)).toInt) (e12 : (a3 + a1).toInt ≠ (-16385)) (e13 : 78 ≠ h0) (hw14 : w[h0]? = some (Sum.inr (2, [Value.int 64, Value.int 3, Value.int 0, Value.int a4, Value.ref h1]))) (e15 : 7 ≤ h0) : xRun (d + 3) 50 [Value.ref 78, Value.ref h0, Value.ref 16, Value.int a0] w (.inl (some (Value.int (-1)))) ((w.set 78 (Sum.inr (1, [Value.int (-16384), Value.int 16384, Value.int 0, Value.int 4]))).set h0 (Sum.inr (2, [Value.int 64, Value.int 2, Value.int 0, Value.int a4, Value.ref h1]))) := by
  refine xRun.of ?_
  refine i_50_0 (x := 78) rfl ?_
  refine i_50_1 rfl ?_
  refine i_50_2 (v := Value.int 0) hw0 rfl ?_
  refine i_50_5 ?_
  refine i_50_6 (c := 4) (by decide) ?_
  refine i_50_7 (fs2 := [Value.int (-16384), Value.int 16384, Value.int 0, Value.int 4]) hw0 (Nat.le_of_ble_eq_true rfl) rfl (by decide) ?_
  refine i_50_10 (x := a0) rfl ?_
  refine i_50_11 (x := 16) rfl ?_
  refine i_50_12 (v := Value.int 0) (xgn (by decide) hw1) rfl ?_
  refine i_50_15 (Nat.le_of_ble_eq_true rfl) (s_37_3 e2 e3 e4) ?_
  refine i_50_18 (lv2 := [(4, Value.int 0), (0, Value.ref 78), (1, Value.ref h0), (2, Value.ref 16), (3, Value.int a0)]) rfl ?_
  refine i_50_20 (x := a0) rfl ?_
  refine i_50_21 (fun h => absurd e5 h) (fun _ => ?_)
  refine i_50_24 (x := 16) rfl ?_
  refine i_50_25 (v := Value.int 0) (xgn (by decide) hw1) rfl ?_
  refine i_50_28 (fun h => absurd h (by decide)) (fun _ => ?_)
  refine i_50_31 (x := 16) rfl ?_
  refine i_50_32 (v := Value.ref 17) (xgn (by decide) hw1) rfl ?_
  refine i_50_35 (xgn (by decide) hw6) (Nat.le_of_ble_eq_true rfl) (s_51_0 (xgn (by decide) hw6) (xgn (by decide) hw7) hg8 e9) ?_
  refine i_50_38 (x := 16) rfl ?_
  refine i_50_39 (v := Value.ref 17) (xgn (by decide) hw1) rfl ?_
  refine i_50_42 (xgn (by decide) hw6) (Nat.le_of_ble_eq_true rfl) (s_29_0 (xgn (by decide) hw6) (xgn (by decide) hw7) hg8 hg10) ?_
  refine i_50_45 ?_
  refine i_50_46 (c := (a3 - (1 : Int32))) rfl ?_
  refine i_50_47 (fun h => absurd e11 h) (fun _ => ?_)
  refine i_50_50 ?_
  refine i_50_51 ?_
  refine i_50_55 (lv2 := [(5, Value.int 1), (4, Value.int 0), (0, Value.ref 78), (1, Value.ref h0), (2, Value.ref 16), (3, Value.int a0)]) rfl ?_
  refine i_50_57 (x := 16) rfl ?_
  refine i_50_58 (xgn (by decide) hw1) (Nat.le_of_ble_eq_true rfl) (s_28_0 (xgn (by decide) hw1) (xgn (by decide) hw6) (xgn (by decide) hw7) hg8 hg10) ?_
  refine i_50_61 (x := 78) rfl ?_
  refine i_50_62 (v := Value.int (-16384)) (xgs hw0) rfl ?_
  refine i_50_65 ?_
  refine i_50_66 (c := (-16385)) (by decide) ?_
  refine i_50_67 (fun _ => ?_) (fun h => absurd e12 (fun g => g h))
  refine i_50_79 ?_
  refine i_50_80 (lv2 := [(4, Value.int 0), (5, Value.int 1), (0, Value.ref 78), (1, Value.ref h0), (2, Value.ref 16), (3, Value.int a0)]) rfl ?_
  refine i_50_82 (x := 0) rfl ?_
  refine i_50_84 (fun _ => ?_) (fun h => absurd h (by decide))
  refine i_50_101 (x := h0) rfl ?_
  refine i_50_102 (x := 16) rfl ?_
  refine i_50_103 (v := Value.int 0) (xgn (by decide) hw1) rfl ?_
  refine i_50_106 (xgn e13 hw14) (Nat.le_of_ble_eq_true rfl) (s_23_0 (xgn e13 hw14) e15) ?_
  refine i_50_109 rfl ?_
  refine i_50_110 ?_
  exact i_50_111 ⟨rfl, rfl⟩
theorem s_27_9 {d : Nat} {w : xW} {h0 : Nat} {a0 : Int32} {a1 : Int32} {g0 : Nat → Value} {a2 : Int32} {a3 : Int32} {h1 : Nat} {a4 : Int32} {h2 : Nat} (hw0 : w[16]? = some (Sum.inr (4, [Value.int 0, Value.ref 17, Value.int a1, Value.int 0]))) (hw1 : w[17]? = some (Sum.inr (3, [Value.ref 18, Value.int 1]))) (hw2 : w[18]? = some (Sum.inl (0, 8, g0))) (hg3 : g0 (0 : Int32).toInt.toNat = Value.int a2) (hg4 : ((32 : Int32) - (xnlz a2)) = a3) (hw5 : w[h0]? = some (Sum.inr (2, [Value.int 64, Value.int 0, Value.int 0, Value.int 0, Value.ref h1]))) (hw6 : w[78]? = some (Sum.inr (1, [Value.int (-16384), Value.int 16384, Value.int 0, Value.int 0]))) (e7 : (((a3 + a1) - (64 : Int32)) - a1).toInt ≤ 0) (hg8 : ((a3 + a1) - ((a3 + a1) - (64 : Int32))) = 64) (e9 : 7 ≤ h0) (e10 : h0 ≠ 16) (e11 : h0 ≠ 17) (e12 : h0 ≠ 18) (hg13 : ((64 : Int32) - a3) = a4) (e14 : h0 ≠ h1) (hw15 : w[h1]? = some (Sum.inr (3, [Value.ref h2, Value.int 0]))) (hg16 : (a3 + a4) = 64) (e17 : h0 ≠ h2) (hw18 : w[h2]? = some (Sum.inl (0, 8, fun _ => Value.int 0))) (e19 : 0 ≤ a4.toInt) (hg20 : g0 (1 : Int32).toInt.toNat = Value.int 0) (e21 : 7 ≤ h2) (e22 : h2 ≠ h1) (e23 : h2 ≠ 17) (e24 : h2 ≠ 18) (e25 : 7 ≤ h1) (e26 : h1 ≠ h0) (e27 : h2 ≠ h0) (e28 : h1 ≠ h2) (e29 : (xbf 1 a2 (0 : Int32) ((32 : Int32) - a4)).toInt ≠ 0) (e30 : ((64 : Int32) - (xnlz (xbf 1 a2 (0 : Int32) ((32 : Int32) - a4)))).toInt ≤ 64) (e31 : h1 ≠ 78) (e32 : h2 ≠ 78) (e33 : h0 ≠ 78) (e34 : (a3 + a1).toInt ≤ 16384) (e35 : (a3 + a1).toInt < (-16384)) (e36 : h1 ≠ 16) (e37 : h2 ≠ 16) (e38 : a0.toInt ≠ 4) (e39 : a0.toInt ≠ 2) (e40 : a0.toInt ≠ 3) (e41 : a0.toInt = 0) (e42 : h1 ≠ 17) (e43 : h1 ≠ 18) (e44 : a2.toInt ≠ 0) (e45 : ((0 : Int32) + (xntz a2)).toInt = (a3 - (1 : Int32)).toInt) (e46 : (a3 + a1).toInt ≠ (-16385)) (e47 : 78 ≠ h0) : xRun (d + 4) 27 [Value.ref 78, Value.ref h0, Value.ref 16, Value.int a0] w (.inl (some (Value.int (-1)))) ((((((w.set h0 (Sum.inr (2, [Value.int 64, Value.int 3, Value.int 0, Value.int (a3 + a1), Value.ref h1]))).set h2 (Sum.inl (0, 8, xup (xup (fun _ => Value.int 0) (1 : Int32).toInt.toNat (Value.int (xbf 1 a2 (0 : Int32) ((32 : Int32) - a4)))) (0 : Int32).toInt.toNat (Value.int (xbf 1 a2 (0 : Int32) ((0 : Int32) - a4)))))).set h1 (Sum.inr (3, [Value.ref h2, Value.int 2]))).set 78 (Sum.inr (1, [Value.int (-16384), Value.int 16384, Value.int 0, Value.int 4]))).set h0 (Sum.inr (2, [Value.int 64, Value.int 2, Value.int 0, Value.int (a3 + a1), Value.ref h1]))).set 78 (Sum.inr (1, [Value.int (-16384), Value.int 16384, Value.int 0, Value.int 5]))) := by
  refine xRun.of ?_
  refine i_27_0 (x := 16) rfl ?_
  refine i_27_1 hw0 (Nat.le_of_ble_eq_true rfl) (s_28_0 hw0 hw1 hw2 hg3 hg4) ?_
  refine i_27_4 (lv2 := [(4, Value.int (a3 + a1)), (0, Value.ref 78), (1, Value.ref h0), (2, Value.ref 16), (3, Value.int a0)]) rfl ?_
  refine i_27_6 (x := 78) rfl ?_
  refine i_27_7 (x := (a3 + a1)) rfl ?_
  refine i_27_9 (x := h0) rfl ?_
  refine i_27_10 (v := Value.int 64) hw5 rfl ?_
  refine i_27_13 hw6 (Nat.le_of_ble_eq_true rfl) (s_30_0 hw6) ?_
  refine i_27_16 (lv2 := [(5, Value.int ((a3 + a1) - (64 : Int32))), (4, Value.int (a3 + a1)), (0, Value.ref 78), (1, Value.ref h0), (2, Value.ref 16), (3, Value.int a0)]) rfl ?_
  refine i_27_18 (x := 16) rfl ?_
  refine i_27_19 (x := ((a3 + a1) - (64 : Int32))) rfl ?_
  refine i_27_21 (x := a0) rfl ?_
  refine i_27_22 hw0 (Nat.le_of_ble_eq_true rfl) (s_31_0 hw0 hw1 e7) ?_
  refine i_27_25 (lv2 := [(6, Value.int 0), (5, Value.int ((a3 + a1) - (64 : Int32))), (4, Value.int (a3 + a1)), (0, Value.ref 78), (1, Value.ref h0), (2, Value.ref 16), (3, Value.int a0)]) rfl ?_
  refine i_27_27 (x := 16) rfl ?_
  refine i_27_28 (x := ((a3 + a1) - (64 : Int32))) rfl ?_
  refine i_27_30 hw0 (Nat.le_of_ble_eq_true rfl) (s_32_0 hw0 hw1 e7) ?_
  refine i_27_33 (fun h => absurd h (by decide)) (fun _ => ?_)
  refine i_27_36 ?_
  refine i_27_37 ?_
  refine i_27_50 (lv2 := [(7, Value.int 0), (6, Value.int 0), (5, Value.int ((a3 + a1) - (64 : Int32))), (4, Value.int (a3 + a1)), (0, Value.ref 78), (1, Value.ref h0), (2, Value.ref 16), (3, Value.int a0)]) rfl ?_
  refine i_27_52 (x := h0) rfl ?_
  refine i_27_53 (x := 16) rfl ?_
  refine i_27_54 (x := ((a3 + a1) - (64 : Int32))) rfl ?_
  refine i_27_56 (x := 0) rfl ?_
  refine i_27_58 hw5 (Nat.le_of_ble_eq_true rfl) (s_38_0 hw0 hw1 hw2 hg3 hg4 hg8 hw5 e9 e10 e11 e12 hg13 e14 hw15 hg16 e17 hw18 e19 hg20 e21 e22 e23 e24 e25 e26 e27 e28 e29 e30) ?_
  refine i_27_61 (x := h0) rfl ?_
  refine i_27_62 (v := Value.int 3) (xgn e26 (xgn e27 (xgs hw5))) rfl ?_
  refine i_27_65 ?_
  refine i_27_66 (fun h => absurd h (by decide)) (fun _ => ?_)
  refine i_27_69 (x := h0) rfl ?_
  refine i_27_70 (v := Value.int (a3 + a1)) (xgn e26 (xgn e27 (xgs hw5))) rfl ?_
  refine i_27_73 (x := 78) rfl ?_
  refine i_27_74 (v := Value.int 16384) (xgn e31 (xgn e32 (xgn e33 hw6))) rfl ?_
  refine i_27_77 (fun _ => ?_) (fun h => absurd e34 (Int.not_le.mpr h))
  refine i_27_95 (x := h0) rfl ?_
  refine i_27_96 (v := Value.int 3) (xgn e26 (xgn e27 (xgs hw5))) rfl ?_
  refine i_27_99 ?_
  refine i_27_100 (fun h => absurd h (by decide)) (fun _ => ?_)
  refine i_27_103 (x := 78) rfl ?_
  refine i_27_104 (v := Value.int 0) (xgn e31 (xgn e32 (xgn e33 hw6))) rfl ?_
  refine i_27_107 (fun h => absurd h (by decide)) (fun _ => ?_)
  refine i_27_110 (x := h0) rfl ?_
  refine i_27_111 (v := Value.int (a3 + a1)) (xgn e26 (xgn e27 (xgs hw5))) rfl ?_
  refine i_27_114 (x := 78) rfl ?_
  refine i_27_115 (v := Value.int (-16384)) (xgn e31 (xgn e32 (xgn e33 hw6))) rfl ?_
  refine i_27_118 (fun h => absurd e35 (Int.not_lt.mpr h)) (fun _ => ?_)
  refine i_27_121 (x := 78) rfl ?_
  refine i_27_122 (x := h0) rfl ?_
  refine i_27_123 (x := 16) rfl ?_
  refine i_27_124 (x := a0) rfl ?_
  refine i_27_125 (xgn e31 (xgn e32 (xgn e33 hw6))) (Nat.le_of_ble_eq_true rfl) (s_50_4 (xgn e31 (xgn e32 (xgn e33 hw6))) (xgn e36 (xgn e37 (xgn e10 hw0))) e38 e39 e40 e41 (xgn e42 (xgn e23 (xgn e11 hw1))) (xgn e43 (xgn e24 (xgn e12 hw2))) hg3 e44 hg4 e45 e46 e47 (xgn e26 (xgn e27 (xgs hw5))) e9) ?_
  refine i_27_128 (lv2 := [(7, Value.int (-1)), (6, Value.int 0), (5, Value.int ((a3 + a1) - (64 : Int32))), (4, Value.int (a3 + a1)), (0, Value.ref 78), (1, Value.ref h0), (2, Value.ref 16), (3, Value.int a0)]) rfl ?_
  refine i_27_130 ?_
  refine i_27_164 (x := (-1)) rfl ?_
  refine i_27_166 (fun h => absurd h (by decide)) (fun _ => ?_)
  refine i_27_169 (x := 78) rfl ?_
  refine i_27_170 rfl ?_
  refine i_27_171 (v := Value.int 4) (xgn e33 (xgs (xgn e31 (xgn e32 (xgn e33 hw6))))) rfl ?_
  refine i_27_174 ?_
  refine i_27_175 (c := 5) (by decide) ?_
  refine i_27_176 (fs2 := [Value.int (-16384), Value.int 16384, Value.int 0, Value.int 5]) (xgn e33 (xgs (xgn e31 (xgn e32 (xgn e33 hw6))))) (Nat.le_of_ble_eq_true rfl) rfl (by decide) ?_
  refine i_27_179 (x := 16) rfl ?_
  refine i_27_180 (v := Value.int 0) (xgn (by decide) (xgn e10 (xgn (by decide) (xgn e36 (xgn e37 (xgn e10 hw0)))))) rfl ?_
  refine i_27_183 (fun _ => ?_) (fun h => absurd h (by decide))
  refine i_27_192 (x := (-1)) rfl ?_
  exact i_27_194 ⟨rfl, rfl⟩
theorem s_21_9 {d : Nat} {w : xW} {a0 : Int32} {b0 : Int64} {a1 : Int32} {a2 : Int32} {g0 : Nat → Value} {h0 : Nat} {a3 : Int32} {h1 : Nat} {a4 : Int32} {h2 : Nat} (e0 : 0 ≤ a0.toInt) (e1 : a0.toInt < 16) (e2 : (-40000) ≤ a1.toInt) (e3 : a1.toInt ≤ 40000) (e4 : 0 ≤ a2.toInt) (e5 : a2.toInt ≤ 4) (hw6 : w[7]? = some (Sum.inr (0, [Value.ref 8, Value.ref 78, Value.ref 9, Value.ref 10, Value.ref 13, Value.ref 16, Value.ref 19, Value.ref 93, Value.ref 108, Value.ref 113, Value.ref 29, Value.int 0]))) (hw7 : w[8]? = some (Sum.inl (4, 16, g0))) (hg8 : g0 a0.toInt.toNat = Value.ref h0) (e9 : (lg_cmp b0 (0 : Int64)).toInt ≠ 0) (e10 : 0 ≤ (lg_cmp b0 (0 : Int64)).toInt) (hw11 : w[16]? = some (Sum.inr (4, [Value.int 0, Value.ref 17, Value.int 0, Value.int 0]))) (hw12 : w[17]? = some (Sum.inr (3, [Value.ref 18, Value.int 0]))) (hw13 : w[18]? = some (Sum.inl (0, 8, fun _ => Value.int 0))) (hg14 : (xhi b0) = 0) (e15 : (xlo b0).toInt ≠ 0) (hw16 : w[78]? = some (Sum.inr (1, [Value.int (-16384), Value.int 16384, Value.int 0, Value.int 0]))) (hg17 : ((32 : Int32) - (xnlz (xlo b0))) = a3) (e18 : 16 ≠ h0) (e19 : 17 ≠ h0) (e20 : 18 ≠ h0) (hw21 : w[h0]? = some (Sum.inr (2, [Value.int 64, Value.int 0, Value.int 0, Value.int 0, Value.ref h1]))) (e22 : (((a3 + a1) - (64 : Int32)) - a1).toInt ≤ 0) (hg23 : ((a3 + a1) - ((a3 + a1) - (64 : Int32))) = 64) (e24 : 7 ≤ h0) (e25 : h0 ≠ 16) (e26 : h0 ≠ 17) (e27 : h0 ≠ 18) (hg28 : ((64 : Int32) - a3) = a4) (e29 : h0 ≠ h1) (e30 : 16 ≠ h1) (e31 : 17 ≠ h1) (e32 : 18 ≠ h1) (hw33 : w[h1]? = some (Sum.inr (3, [Value.ref h2, Value.int 0]))) (hg34 : (a3 + a4) = 64) (e35 : h0 ≠ h2) (e36 : 16 ≠ h2) (e37 : 17 ≠ h2) (e38 : 18 ≠ h2) (hw39 : w[h2]? = some (Sum.inl (0, 8, fun _ => Value.int 0))) (e40 : 0 ≤ a4.toInt) (e41 : 7 ≤ h2) (e42 : h2 ≠ h1) (e43 : h2 ≠ 17) (e44 : h2 ≠ 18) (e45 : 7 ≤ h1) (e46 : h1 ≠ h0) (e47 : h2 ≠ h0) (e48 : h1 ≠ h2) (e49 : (xbf 1 (xlo b0) (0 : Int32) ((32 : Int32) - a4)).toInt ≠ 0) (e50 : ((64 : Int32) - (xnlz (xbf 1 (xlo b0) (0 : Int32) ((32 : Int32) - a4)))).toInt ≤ 64) (e51 : h1 ≠ 78) (e52 : h2 ≠ 78) (e53 : h0 ≠ 78) (e54 : (a3 + a1).toInt ≤ 16384) (e55 : (a3 + a1).toInt < (-16384)) (e56 : h1 ≠ 16) (e57 : h2 ≠ 16) (e58 : a2.toInt ≠ 4) (e59 : a2.toInt ≠ 2) (e60 : a2.toInt ≠ 3) (e61 : a2.toInt = 0) (e62 : h1 ≠ 17) (e63 : h1 ≠ 18) (e64 : ((0 : Int32) + (xntz (xlo b0))).toInt = (a3 - (1 : Int32)).toInt) (e65 : (a3 + a1).toInt ≠ (-16385)) (e66 : 78 ≠ h0) : xRun (d + 5) 21 [Value.ref 7, Value.int a0, Value.long b0, Value.int a1, Value.int a2] w (.inl (some (Value.int (-1)))) (((((((((((w.set 16 (Sum.inr (4, [Value.int 0, Value.ref 17, Value.int 0, Value.int 0]))).set 18 (Sum.inl (0, 8, xup (xup (fun _ => Value.int 0) (0 : Int32).toInt.toNat (Value.int (xlo b0))) (1 : Int32).toInt.toNat (Value.int 0)))).set 17 (Sum.inr (3, [Value.ref 18, Value.int 2]))).set 17 (Sum.inr (3, [Value.ref 18, Value.int 1]))).set 16 (Sum.inr (4, [Value.int 0, Value.ref 17, Value.int a1, Value.int 0]))).set h0 (Sum.inr (2, [Value.int 64, Value.int 3, Value.int 0, Value.int (a3 + a1), Value.ref h1]))).set h2 (Sum.inl (0, 8, xup (xup (fun _ => Value.int 0) (1 : Int32).toInt.toNat (Value.int (xbf 1 (xlo b0) (0 : Int32) ((32 : Int32) - a4)))) (0 : Int32).toInt.toNat (Value.int (xbf 1 (xlo b0) (0 : Int32) ((0 : Int32) - a4)))))).set h1 (Sum.inr (3, [Value.ref h2, Value.int 2]))).set 78 (Sum.inr (1, [Value.int (-16384), Value.int 16384, Value.int 0, Value.int 4]))).set h0 (Sum.inr (2, [Value.int 64, Value.int 2, Value.int 0, Value.int (a3 + a1), Value.ref h1]))).set 78 (Sum.inr (1, [Value.int (-16384), Value.int 16384, Value.int 0, Value.int 5]))) := by
  refine xRun.of ?_
  refine i_21_0 (x := a0) rfl ?_
  refine i_21_1 (Nat.le_of_ble_eq_true rfl) (s_15_0 e0 e1) ?_
  refine i_21_4 (fun h => absurd h (by decide)) (fun _ => ?_)
  refine i_21_7 (x := a1) rfl ?_
  refine i_21_9 ?_
  refine i_21_11 (fun h => absurd e2 (Int.not_le.mpr h)) (fun _ => ?_)
  refine i_21_14 (x := a1) rfl ?_
  refine i_21_16 ?_
  refine i_21_18 (fun h => absurd e3 (Int.not_le.mpr h)) (fun _ => ?_)
  refine i_21_21 (x := a2) rfl ?_
  refine i_21_23 (Nat.le_of_ble_eq_true rfl) (s_22_0 e4 e5) ?_
  refine i_21_26 (fun _ => ?_) (fun h => absurd h (by decide))
  refine i_21_37 (x := 7) rfl ?_
  refine i_21_38 (v := Value.ref 8) hw6 rfl ?_
  refine i_21_41 (x := a0) rfl ?_
  refine i_21_42 (v := Value.ref h0) hw7 e0 e1 hg8 ?_
  refine i_21_43 (lv2 := [(6, Value.ref h0), (0, Value.ref 7), (1, Value.int a0), (2, Value.long b0), (4, Value.int a1), (5, Value.int a2)]) rfl ?_
  refine i_21_45 (x := b0) rfl ?_
  refine i_21_46 ?_
  refine i_21_47 (c := (lg_cmp b0 (0 : Int64))) rfl ?_
  refine i_21_48 (fun _ => ?_) (fun h => absurd e9 (fun g => g h))
  refine i_21_58 (x := 7) rfl ?_
  refine i_21_59 (v := Value.ref 16) hw6 rfl ?_
  refine i_21_62 (x := b0) rfl ?_
  refine i_21_63 ?_
  refine i_21_64 (c := (lg_cmp b0 (0 : Int64))) rfl ?_
  refine i_21_65 (fun _ => ?_) (fun h => absurd e10 (Int.not_le.mpr h))
  refine i_21_72 ?_
  refine i_21_73 (x := b0) rfl ?_
  refine i_21_74 ?_
  refine i_21_75 (c := (lg_cmp b0 (0 : Int64))) rfl ?_
  refine i_21_76 (fun _ => ?_) (fun h => absurd e10 (Int.not_le.mpr h))
  refine i_21_84 (x := b0) rfl ?_
  refine i_21_85 (x := a1) rfl ?_
  refine i_21_87 hw11 (Nat.le_of_ble_eq_true rfl) (s_24_0 hw11 hw12 hw13 hg14 e15) ?_
  refine i_21_90 (x := 7) rfl ?_
  refine i_21_91 (v := Value.ref 78) (xgn (by decide) (xgn (by decide) (xgn (by decide) (xgn (by decide) (xgn (by decide) hw6))))) rfl ?_
  refine i_21_94 (x := h0) rfl ?_
  refine i_21_96 (x := 7) rfl ?_
  refine i_21_97 (v := Value.ref 16) (xgn (by decide) (xgn (by decide) (xgn (by decide) (xgn (by decide) (xgn (by decide) hw6))))) rfl ?_
  refine i_21_100 (x := a2) rfl ?_
  refine i_21_102 (xgn (by decide) (xgn (by decide) (xgn (by decide) (xgn (by decide) (xgn (by decide) hw16))))) (Nat.le_of_ble_eq_true rfl) (s_27_9 (xgs (xgn (by decide) (xgn (by decide) (xgn (by decide) (xgs hw11))))) (xgn (by decide) (xgs (xgs (xgn (by decide) (xgn (by decide) hw12))))) (xgn (by decide) (xgn (by decide) (xgn (by decide) (xgs (xgn (by decide) hw13))))) (xup_n (by decide) xup_s) hg17 (xgn e18 (xgn e19 (xgn e19 (xgn e20 (xgn e18 hw21))))) (xgn (by decide) (xgn (by decide) (xgn (by decide) (xgn (by decide) (xgn (by decide) hw16))))) e22 hg23 e24 e25 e26 e27 hg28 e29 (xgn e30 (xgn e31 (xgn e31 (xgn e32 (xgn e30 hw33))))) hg34 e35 (xgn e36 (xgn e37 (xgn e37 (xgn e38 (xgn e36 hw39))))) e40 xup_s e41 e42 e43 e44 e45 e46 e47 e48 e49 e50 e51 e52 e53 e54 e55 e56 e57 e58 e59 e60 e61 e62 e63 e15 e64 e65 e66) ?_
  exact i_21_105 ⟨rfl, rfl⟩
theorem s_20_9 {d : Nat} {w : xW} {a0 : Int32} {b0 : Int64} {a1 : Int32} {a2 : Int32} {g0 : Nat → Value} {h0 : Nat} {a3 : Int32} {h1 : Nat} {a4 : Int32} {h2 : Nat} (hw0 : w[7]? = some (Sum.inr (0, [Value.ref 8, Value.ref 78, Value.ref 9, Value.ref 10, Value.ref 13, Value.ref 16, Value.ref 19, Value.ref 93, Value.ref 108, Value.ref 113, Value.ref 29, Value.int 0]))) (e1 : 0 ≤ a0.toInt) (e2 : a0.toInt < 16) (e3 : (-40000) ≤ a1.toInt) (e4 : a1.toInt ≤ 40000) (e5 : 0 ≤ a2.toInt) (e6 : a2.toInt ≤ 4) (hw7 : w[8]? = some (Sum.inl (4, 16, g0))) (hg8 : g0 a0.toInt.toNat = Value.ref h0) (e9 : (lg_cmp b0 (0 : Int64)).toInt ≠ 0) (e10 : 0 ≤ (lg_cmp b0 (0 : Int64)).toInt) (hw11 : w[16]? = some (Sum.inr (4, [Value.int 0, Value.ref 17, Value.int 0, Value.int 0]))) (hw12 : w[17]? = some (Sum.inr (3, [Value.ref 18, Value.int 0]))) (hw13 : w[18]? = some (Sum.inl (0, 8, fun _ => Value.int 0))) (hg14 : (xhi b0) = 0) (e15 : (xlo b0).toInt ≠ 0) (hw16 : w[78]? = some (Sum.inr (1, [Value.int (-16384), Value.int 16384, Value.int 0, Value.int 0]))) (hg17 : ((32 : Int32) - (xnlz (xlo b0))) = a3) (e18 : 16 ≠ h0) (e19 : 17 ≠ h0) (e20 : 18 ≠ h0) (hw21 : w[h0]? = some (Sum.inr (2, [Value.int 64, Value.int 0, Value.int 0, Value.int 0, Value.ref h1]))) (e22 : (((a3 + a1) - (64 : Int32)) - a1).toInt ≤ 0) (hg23 : ((a3 + a1) - ((a3 + a1) - (64 : Int32))) = 64) (e24 : 7 ≤ h0) (e25 : h0 ≠ 16) (e26 : h0 ≠ 17) (e27 : h0 ≠ 18) (hg28 : ((64 : Int32) - a3) = a4) (e29 : h0 ≠ h1) (e30 : 16 ≠ h1) (e31 : 17 ≠ h1) (e32 : 18 ≠ h1) (hw33 : w[h1]? = some (Sum.inr (3, [Value.ref h2, Value.int 0]))) (hg34 : (a3 + a4) = 64) (e35 : h0 ≠ h2) (e36 : 16 ≠ h2) (e37 : 17 ≠ h2) (e38 : 18 ≠ h2) (hw39 : w[h2]? = some (Sum.inl (0, 8, fun _ => Value.int 0))) (e40 : 0 ≤ a4.toInt) (e41 : 7 ≤ h2) (e42 : h2 ≠ h1) (e43 : h2 ≠ 17) (e44 : h2 ≠ 18) (e45 : 7 ≤ h1) (e46 : h1 ≠ h0) (e47 : h2 ≠ h0) (e48 : h1 ≠ h2) (e49 : (xbf 1 (xlo b0) (0 : Int32) ((32 : Int32) - a4)).toInt ≠ 0) (e50 : ((64 : Int32) - (xnlz (xbf 1 (xlo b0) (0 : Int32) ((32 : Int32) - a4)))).toInt ≤ 64) (e51 : h1 ≠ 78) (e52 : h2 ≠ 78) (e53 : h0 ≠ 78) (e54 : (a3 + a1).toInt ≤ 16384) (e55 : (a3 + a1).toInt < (-16384)) (e56 : h1 ≠ 16) (e57 : h2 ≠ 16) (e58 : a2.toInt ≠ 4) (e59 : a2.toInt ≠ 2) (e60 : a2.toInt ≠ 3) (e61 : a2.toInt = 0) (e62 : h1 ≠ 17) (e63 : h1 ≠ 18) (e64 : ((0 : Int32) + (xntz (xlo b0))).toInt = (a3 - (1 : Int32)).toInt) (e65 : (a3 + a1).toInt ≠ (-16385)) (e66 : 78 ≠ h0) (e67 : h0 ≠ 194) (e68 : h1 ≠ 194) (e69 : h2 ≠ 194) (hw70 : w[194]? = some (Sum.inl (3, 1, fun _ => Value.long 0))) : xRun (d + 6) 20 [Value.ref 7, Value.int a0, Value.long b0, Value.int a1, Value.int a2, Value.ref 194] w (.inl (some (Value.int 0))) ((((((((((((w.set 16 (Sum.inr (4, [Value.int 0, Value.ref 17, Value.int 0, Value.int 0]))).set 18 (Sum.inl (0, 8, xup (xup (fun _ => Value.int 0) (0 : Int32).toInt.toNat (Value.int (xlo b0))) (1 : Int32).toInt.toNat (Value.int 0)))).set 17 (Sum.inr (3, [Value.ref 18, Value.int 2]))).set 17 (Sum.inr (3, [Value.ref 18, Value.int 1]))).set 16 (Sum.inr (4, [Value.int 0, Value.ref 17, Value.int a1, Value.int 0]))).set h0 (Sum.inr (2, [Value.int 64, Value.int 3, Value.int 0, Value.int (a3 + a1), Value.ref h1]))).set h2 (Sum.inl (0, 8, xup (xup (fun _ => Value.int 0) (1 : Int32).toInt.toNat (Value.int (xbf 1 (xlo b0) (0 : Int32) ((32 : Int32) - a4)))) (0 : Int32).toInt.toNat (Value.int (xbf 1 (xlo b0) (0 : Int32) ((0 : Int32) - a4)))))).set h1 (Sum.inr (3, [Value.ref h2, Value.int 2]))).set 78 (Sum.inr (1, [Value.int (-16384), Value.int 16384, Value.int 0, Value.int 4]))).set h0 (Sum.inr (2, [Value.int 64, Value.int 2, Value.int 0, Value.int (a3 + a1), Value.ref h1]))).set 78 (Sum.inr (1, [Value.int (-16384), Value.int 16384, Value.int 0, Value.int 5]))).set 194 (Sum.inl (3, 1, xup (fun _ => Value.long 0) (0 : Int32).toInt.toNat (Value.long (-1))))) := by
  refine xRun.of ?_
  refine i_20_0 (x := 194) rfl ?_
  refine i_20_2 ?_
  refine i_20_3 (x := 7) rfl ?_
  refine i_20_4 (x := a0) rfl ?_
  refine i_20_5 (x := b0) rfl ?_
  refine i_20_6 (x := a1) rfl ?_
  refine i_20_8 (x := a2) rfl ?_
  refine i_20_10 hw0 (Nat.le_of_ble_eq_true rfl) (s_21_9 e1 e2 e3 e4 e5 e6 hw0 hw7 hg8 e9 e10 hw11 hw12 hw13 hg14 e15 hw16 hg17 e18 e19 e20 hw21 e22 hg23 e24 e25 e26 e27 hg28 e29 e30 e31 e32 hw33 hg34 e35 e36 e37 e38 hw39 e40 e41 e42 e43 e44 e45 e46 e47 e48 e49 e50 e51 e52 e53 e54 e55 e56 e57 e58 e59 e60 e61 e62 e63 e64 e65 e66) ?_
  refine i_20_13 (c := (-1)) (by decide) ?_
  refine i_20_14 (v := Value.long (-1)) (xgn (by decide) (xgn e67 (xgn (by decide) (xgn e68 (xgn e69 (xgn e67 (xgn (by decide) (xgn (by decide) (xgn (by decide) (xgn (by decide) (xgn (by decide) hw70))))))))))) (by decide) (by decide) (by decide) rfl ?_
  refine i_20_15 ?_
  refine i_20_22 ?_
  exact i_20_23 ⟨rfl, rfl⟩
theorem cn3_0_9 {d : Nat} {xs : Nat → Int32} {B K : Int32} (c0 : 0 ≤ (xs 1).toInt) (c1 : (xs 1).toInt < 16) (c2 : (-40000) ≤ (xs 4).toInt) (c3 : (xs 4).toInt ≤ 40000) (c4 : 0 ≤ (xs 5).toInt) (c5 : (xs 5).toInt ≤ 4) (c6 : (lg_cmp (xvv xs) (0 : Int64)).toInt ≠ 0) (c7 : 0 ≤ (lg_cmp (xvv xs) (0 : Int64)).toInt) (c8 : K.toInt = 64 - B.toInt) (c9 : 1 ≤ B.toInt) (c10 : B.toInt ≤ 32) (c11 : (xhi (xvv xs)).toInt = 0) (c12 : (xlo (xvv xs)).toInt ≠ 0) (c13 : (xnlz (xlo (xvv xs))).toInt = 32 - B.toInt) (c14 : (xbf 1 (xlo (xvv xs)) (0 : Int32) ((32 : Int32) - K)).toInt ≠ 0) (c15 : (B + (xs 4)).toInt ≤ 16384) (c16 : (B + (xs 4)).toInt < (-16384)) (c17 : (xs 5).toInt ≠ 4) (c18 : (xs 5).toInt ≠ 2) (c19 : (xs 5).toInt ≠ 3) (c20 : (xs 5).toInt = 0) (c21 : (xntz (xlo (xvv xs))).toInt = B.toInt - 1) (c23 : (B + (xs 4)).toInt ≠ (-16385)) : ∃ w1, xRun (d + 18) 20 [Value.ref 7, Value.int (xs 1), Value.long (xvv xs), Value.int (xs 4), Value.int (xs 5), Value.ref 194] (W0 6 xs) (.inl (some (Value.int 0))) w1 ∧ xKp (W0 6 xs) w1 xPC ∧ w1[194]? = some (Sum.inl (3, 1, xup (fun _ => Value.long 0) (0 : Int32).toInt.toNat (Value.long (-1)))) := by
  have f0 : ((32 : Int32) - (xnlz (xlo (xvv xs)))).toInt = 32 - (xnlz (xlo (xvv xs))).toInt := xsub_g rfl rfl (by omega) (by omega)
  have f1 : (B + (xs 4)).toInt = B.toInt + (xs 4).toInt := xadd_i (by omega) (by omega)
  have f2 : ((B + (xs 4)) - (64 : Int32)).toInt = (B + (xs 4)).toInt - 64 := xsub_g rfl rfl (by omega) (by omega)
  have f3 : (((B + (xs 4)) - (64 : Int32)) - (xs 4)).toInt = ((B + (xs 4)) - (64 : Int32)).toInt - (xs 4).toInt := xsub_i (by omega) (by omega)
  have f4 : ((B + (xs 4)) - ((B + (xs 4)) - (64 : Int32))).toInt = (B + (xs 4)).toInt - ((B + (xs 4)) - (64 : Int32)).toInt := xsub_i (by omega) (by omega)
  have f5 : ((64 : Int32) - B).toInt = 64 - B.toInt := xsub_g rfl rfl (by omega) (by omega)
  have f6 : (B + K).toInt = B.toInt + K.toInt := xadd_i (by omega) (by omega)
  have f7 : 0 ≤ (xnlz (xbf 1 (xlo (xvv xs)) (0 : Int32) ((32 : Int32) - K))).toInt := (xnlz_b _).1
  have f8 : (xnlz (xbf 1 (xlo (xvv xs)) (0 : Int32) ((32 : Int32) - K))).toInt ≤ 32 := (xnlz_b _).2
  have f9 : ((64 : Int32) - (xnlz (xbf 1 (xlo (xvv xs)) (0 : Int32) ((32 : Int32) - K)))).toInt = 64 - (xnlz (xbf 1 (xlo (xvv xs)) (0 : Int32) ((32 : Int32) - K))).toInt := xsub_g rfl rfl (by omega) (by omega)
  have f10 : ((0 : Int32) + (xntz (xlo (xvv xs)))).toInt = 0 + (xntz (xlo (xvv xs))).toInt := xadd_g rfl rfl (by omega) (by omega)
  have f11 : (B - (1 : Int32)).toInt = B.toInt - 1 := xsub_g rfl rfl (by omega) (by omega)
  refine ⟨(((((((((((((W0 6 xs).set 16 (Sum.inr (4, [Value.int 0, Value.ref 17, Value.int 0, Value.int 0]))).set 18 (Sum.inl (0, 8, xup (xup (fun _ => Value.int 0) (0 : Int32).toInt.toNat (Value.int (xlo (xvv xs)))) (1 : Int32).toInt.toNat (Value.int 0)))).set 17 (Sum.inr (3, [Value.ref 18, Value.int 2]))).set 17 (Sum.inr (3, [Value.ref 18, Value.int 1]))).set 16 (Sum.inr (4, [Value.int 0, Value.ref 17, Value.int (xs 4), Value.int 0]))).set (30 + 3 * (xs 1).toInt.toNat) (Sum.inr (2, [Value.int 64, Value.int 3, Value.int 0, Value.int (B + (xs 4)), Value.ref (31 + 3 * (xs 1).toInt.toNat)]))).set (32 + 3 * (xs 1).toInt.toNat) (Sum.inl (0, 8, xup (xup (fun _ => Value.int 0) (1 : Int32).toInt.toNat (Value.int (xbf 1 (xlo (xvv xs)) (0 : Int32) ((32 : Int32) - K)))) (0 : Int32).toInt.toNat (Value.int (xbf 1 (xlo (xvv xs)) (0 : Int32) ((0 : Int32) - K)))))).set (31 + 3 * (xs 1).toInt.toNat) (Sum.inr (3, [Value.ref (32 + 3 * (xs 1).toInt.toNat), Value.int 2]))).set 78 (Sum.inr (1, [Value.int (-16384), Value.int 16384, Value.int 0, Value.int 4]))).set (30 + 3 * (xs 1).toInt.toNat) (Sum.inr (2, [Value.int 64, Value.int 2, Value.int 0, Value.int (B + (xs 4)), Value.ref (31 + 3 * (xs 1).toInt.toNat)]))).set 78 (Sum.inr (1, [Value.int (-16384), Value.int 16384, Value.int 0, Value.int 5]))).set 194 (Sum.inl (3, 1, xup (fun _ => Value.long 0) (0 : Int32).toInt.toNat (Value.long (-1))))), (s_20_9 W0_7 (by omega) (by omega) (by omega) (by omega) (by omega) (by omega) W0_8 (greg_at (by omega)) (by omega) (by omega) W0_16 W0_17 W0_18 (show (xhi (xvv xs)) = 0 from (xge_c (n := 0) (by omega) rfl)) (by omega) W0_78 (show ((32 : Int32) - (xnlz (xlo (xvv xs)))) = B from (xge_i (by omega))) (by omega) (by omega) (by omega) (W0_reg (by omega)) (by omega) (show ((B + (xs 4)) - ((B + (xs 4)) - (64 : Int32))) = 64 from (xge_c (n := 64) (by omega) rfl)) (by omega) (by omega) (by omega) (by omega) (show ((64 : Int32) - B) = K from (xge_i (by omega))) (by omega) (by omega) (by omega) (by omega) (W0_man (by omega)) (show (B + K) = 64 from (xge_c (n := 64) (by omega) rfl)) (by omega) (by omega) (by omega) (by omega) (W0_mw (by omega)) (by omega) (by omega) (by omega) (by omega) (by omega) (by omega) (by omega) (by omega) (by omega) (by omega) (by omega) (by omega) (by omega) (by omega) (by omega) (by omega) (by omega) (by omega) (by omega) (by omega) (by omega) (by omega) (by omega) (by omega) (by omega) (by omega) (by omega) (by omega) (by omega) (by omega) W0_194), ?_, xgs (xgn (by decide) (xgn (by omega) (xgn (by decide) (xgn (by omega) (xgn (by omega) (xgn (by omega) (xgn (by decide) (xgn (by decide) (xgn (by decide) (xgn (by decide) (xgn (by decide) W0_194)))))))))))⟩
  refine xKp.set ?_ (fun h hh => by unfold xPC at hh; omega) (xgn (by decide) (xgn (by omega) (xgn (by decide) (xgn (by omega) (xgn (by omega) (xgn (by omega) (xgn (by decide) (xgn (by decide) (xgn (by decide) (xgn (by decide) (xgn (by decide) W0_194))))))))))) xcs_a
  refine xKp.set ?_ (fun h hh => by unfold xPC at hh; omega) (xgn (by omega) (xgs (xgn (by omega) (xgn (by omega) (xgn (by omega) (xgn (by decide) (xgn (by decide) (xgn (by decide) (xgn (by decide) (xgn (by decide) W0_78)))))))))) xcs_o
  refine xKp.set ?_ (fun h hh => by unfold xPC at hh; omega) (xgn (by omega) (xgn (by omega) (xgn (by omega) (xgs (xgn (by omega) (xgn (by omega) (xgn (by omega) (xgn (by omega) (xgn (by omega) (W0_reg (by omega))))))))))) xcs_o
  refine xKp.set ?_ (fun h hh => by unfold xPC at hh; omega) (xgn (by omega) (xgn (by omega) (xgn (by omega) (xgn (by decide) (xgn (by decide) (xgn (by decide) (xgn (by decide) (xgn (by decide) W0_78)))))))) xcs_o
  refine xKp.set ?_ (fun h hh => by unfold xPC at hh; omega) (xgn (by omega) (xgn (by omega) (xgn (by omega) (xgn (by omega) (xgn (by omega) (xgn (by omega) (xgn (by omega) (W0_man (by omega))))))))) xcs_o
  refine xKp.set ?_ (fun h hh => by unfold xPC at hh; omega) (xgn (by omega) (xgn (by omega) (xgn (by omega) (xgn (by omega) (xgn (by omega) (xgn (by omega) (W0_mw (by omega)))))))) xcs_a
  refine xKp.set ?_ (fun h hh => by unfold xPC at hh; omega) (xgn (by omega) (xgn (by omega) (xgn (by omega) (xgn (by omega) (xgn (by omega) (W0_reg (by omega))))))) xcs_o
  refine xKp.set ?_ (fun h hh => by unfold xPC at hh; omega) (xgn (by decide) (xgn (by decide) (xgn (by decide) (xgs W0_16)))) xcs_o
  refine xKp.set ?_ (fun h hh => by unfold xPC at hh; omega) (xgs (xgn (by decide) (xgn (by decide) W0_17))) xcs_o
  refine xKp.set ?_ (fun h hh => by unfold xPC at hh; omega) (xgn (by decide) (xgn (by decide) W0_17)) xcs_o
  refine xKp.set ?_ (fun h hh => by unfold xPC at hh; omega) (xgn (by decide) W0_18) xcs_a
  refine xKp.set ?_ (fun h hh => by unfold xPC at hh; omega) (W0_16) xcs_o
  exact xKp.refl
theorem s_51_1 {d : Nat} {w : xW} {g0 : Nat → Value} {a0 : Int32} {a1 : Int32} (hw0 : w[17]? = some (Sum.inr (3, [Value.ref 18, Value.int 1]))) (hw1 : w[18]? = some (Sum.inl (0, 8, g0))) (hg2 : g0 (0 : Int32).toInt.toNat = Value.int a0) (e3 : a0.toInt ≠ 0) (hg4 : ((0 : Int32) + (xntz a0)) = a1) : xRun (d + 1) 51 [Value.ref 17] w (.inl (some (Value.int a1))) w := by
  refine xRun.of ?_
  refine i_51_0 ?_
  refine i_51_1 (lv2 := [(1, Value.int 0), (0, Value.ref 17)]) rfl ?_
  refine i_51_2 (x := 0) rfl ?_
  refine i_51_3 (x := 17) rfl ?_
  refine i_51_4 (v := Value.int 1) hw0 rfl ?_
  refine i_51_7 (fun h => absurd h (by decide)) (fun _ => ?_)
  refine i_51_10 (x := 17) rfl ?_
  refine i_51_11 (v := Value.ref 18) hw0 rfl ?_
  refine i_51_14 (x := 0) rfl ?_
  refine i_51_15 (v := Value.int a0) hw1 (by decide) (by decide) hg2 ?_
  refine i_51_16 (fun h => absurd e3 (fun g => g h)) (fun _ => ?_)
  refine i_51_19 ?_
  refine i_51_21 (x := 0) rfl ?_
  refine i_51_22 (c := 0) (by decide) ?_
  refine i_51_23 (x := 17) rfl ?_
  refine i_51_24 (v := Value.ref 18) hw0 rfl ?_
  refine i_51_27 (x := 0) rfl ?_
  refine i_51_28 (v := Value.int a0) hw1 (by decide) (by decide) hg2 ?_
  refine i_51_29 (Nat.le_of_ble_eq_true rfl) (ntz_run e3) ?_
  refine i_51_32 (c := a1) hg4 ?_
  exact i_51_33 ⟨rfl, rfl⟩
theorem s_50_5 {d : Nat} {w : xW} {h0 : Nat} {a0 : Int32} {a1 : Int32} {g0 : Nat → Value} {a2 : Int32} {a3 : Int32} {a4 : Int32} {a5 : Int32} {h1 : Nat} {h2 : Nat} {g1 : Nat → Value} (hw0 : w[78]? = some (Sum.inr (1, [Value.int (-16384), Value.int 16384, Value.int 0, Value.int 0]))) (hw1 : w[16]? = some (Sum.inr (4, [Value.int 0, Value.ref 17, Value.int a1, Value.int 0]))) (e2 : a0.toInt ≠ 4) (e3 : a0.toInt ≠ 2) (e4 : a0.toInt ≠ 3) (e5 : a0.toInt = 0) (hw6 : w[17]? = some (Sum.inr (3, [Value.ref 18, Value.int 1]))) (hw7 : w[18]? = some (Sum.inl (0, 8, g0))) (hg8 : g0 (0 : Int32).toInt.toNat = Value.int a2) (e9 : a2.toInt ≠ 0) (hg10 : ((0 : Int32) + (xntz a2)) = a3) (hg11 : ((32 : Int32) - (xnlz a2)) = a4) (e12 : a3.toInt ≠ (a4 - (1 : Int32)).toInt) (e13 : (a4 + a1).toInt = (-16385)) (e14 : 78 ≠ h0) (hw15 : w[h0]? = some (Sum.inr (2, [Value.int 64, Value.int 3, Value.int 0, Value.int a5, Value.ref h1]))) (e16 : 7 ≤ h0) (e17 : h0 ≠ h1) (e18 : 78 ≠ h1) (hw19 : w[h1]? = some (Sum.inr (3, [Value.ref h2, Value.int 2]))) (e20 : h0 ≠ h2) (e21 : 78 ≠ h2) (hw22 : w[h2]? = some (Sum.inl (0, 8, g1))) (e23 : 7 ≤ h2) (e24 : h2 ≠ h1) (e25 : 7 ≤ h1) : xRun (d + 4) 50 [Value.ref 78, Value.ref h0, Value.ref 16, Value.int a0] w (.inl (some (Value.int 1))) ((((w.set 78 (Sum.inr (1, [Value.int (-16384), Value.int 16384, Value.int 0, Value.int 4]))).set h0 (Sum.inr (2, [Value.int 64, Value.int 3, Value.int 0, Value.int (-16384), Value.ref h1]))).set h2 (Sum.inl (0, 8, xup (xup (xup g1 (0 : Int32).toInt.toNat (Value.int 0)) (1 : Int32).toInt.toNat (Value.int 0)) (1 : Int32).toInt.toNat (Value.int (-2147483648))))).set h1 (Sum.inr (3, [Value.ref h2, Value.int 2]))) := by
  refine xRun.of ?_
  refine i_50_0 (x := 78) rfl ?_
  refine i_50_1 rfl ?_
  refine i_50_2 (v := Value.int 0) hw0 rfl ?_
  refine i_50_5 ?_
  refine i_50_6 (c := 4) (by decide) ?_
  refine i_50_7 (fs2 := [Value.int (-16384), Value.int 16384, Value.int 0, Value.int 4]) hw0 (Nat.le_of_ble_eq_true rfl) rfl (by decide) ?_
  refine i_50_10 (x := a0) rfl ?_
  refine i_50_11 (x := 16) rfl ?_
  refine i_50_12 (v := Value.int 0) (xgn (by decide) hw1) rfl ?_
  refine i_50_15 (Nat.le_of_ble_eq_true rfl) (s_37_3 e2 e3 e4) ?_
  refine i_50_18 (lv2 := [(4, Value.int 0), (0, Value.ref 78), (1, Value.ref h0), (2, Value.ref 16), (3, Value.int a0)]) rfl ?_
  refine i_50_20 (x := a0) rfl ?_
  refine i_50_21 (fun h => absurd e5 h) (fun _ => ?_)
  refine i_50_24 (x := 16) rfl ?_
  refine i_50_25 (v := Value.int 0) (xgn (by decide) hw1) rfl ?_
  refine i_50_28 (fun h => absurd h (by decide)) (fun _ => ?_)
  refine i_50_31 (x := 16) rfl ?_
  refine i_50_32 (v := Value.ref 17) (xgn (by decide) hw1) rfl ?_
  refine i_50_35 (xgn (by decide) hw6) (Nat.le_of_ble_eq_true rfl) (s_51_1 (xgn (by decide) hw6) (xgn (by decide) hw7) hg8 e9 hg10) ?_
  refine i_50_38 (x := 16) rfl ?_
  refine i_50_39 (v := Value.ref 17) (xgn (by decide) hw1) rfl ?_
  refine i_50_42 (xgn (by decide) hw6) (Nat.le_of_ble_eq_true rfl) (s_29_0 (xgn (by decide) hw6) (xgn (by decide) hw7) hg8 hg11) ?_
  refine i_50_45 ?_
  refine i_50_46 (c := (a4 - (1 : Int32))) rfl ?_
  refine i_50_47 (fun _ => ?_) (fun h => absurd e12 (fun g => g h))
  refine i_50_54 ?_
  refine i_50_55 (lv2 := [(5, Value.int 0), (4, Value.int 0), (0, Value.ref 78), (1, Value.ref h0), (2, Value.ref 16), (3, Value.int a0)]) rfl ?_
  refine i_50_57 (x := 16) rfl ?_
  refine i_50_58 (xgn (by decide) hw1) (Nat.le_of_ble_eq_true rfl) (s_28_0 (xgn (by decide) hw1) (xgn (by decide) hw6) (xgn (by decide) hw7) hg8 hg11) ?_
  refine i_50_61 (x := 78) rfl ?_
  refine i_50_62 (v := Value.int (-16384)) (xgs hw0) rfl ?_
  refine i_50_65 ?_
  refine i_50_66 (c := (-16385)) (by decide) ?_
  refine i_50_67 (fun h => absurd e13 h) (fun _ => ?_)
  refine i_50_70 (x := 0) rfl ?_
  refine i_50_72 (fun h => absurd h (by decide)) (fun _ => ?_)
  refine i_50_75 ?_
  refine i_50_76 ?_
  refine i_50_80 (lv2 := [(4, Value.int 1), (5, Value.int 0), (0, Value.ref 78), (1, Value.ref h0), (2, Value.ref 16), (3, Value.int a0)]) rfl ?_
  refine i_50_82 (x := 1) rfl ?_
  refine i_50_84 (fun h => absurd h (by decide)) (fun _ => ?_)
  refine i_50_87 (x := h0) rfl ?_
  refine i_50_88 (x := 16) rfl ?_
  refine i_50_89 (v := Value.int 0) (xgn (by decide) hw1) rfl ?_
  refine i_50_92 (x := 78) rfl ?_
  refine i_50_93 (v := Value.int (-16384)) (xgs hw0) rfl ?_
  refine i_50_96 (xgn e14 hw15) (Nat.le_of_ble_eq_true rfl) (s_39_0 (xgn e14 hw15) e16 e17 (xgn e18 hw19) e20 (xgn e21 hw22) e23 e24 e25) ?_
  refine i_50_99 ?_
  exact i_50_100 ⟨rfl, rfl⟩
theorem s_27_10 {d : Nat} {w : xW} {h0 : Nat} {a0 : Int32} {a1 : Int32} {g0 : Nat → Value} {a2 : Int32} {a3 : Int32} {h1 : Nat} {a4 : Int32} {h2 : Nat} {a5 : Int32} (hw0 : w[16]? = some (Sum.inr (4, [Value.int 0, Value.ref 17, Value.int a1, Value.int 0]))) (hw1 : w[17]? = some (Sum.inr (3, [Value.ref 18, Value.int 1]))) (hw2 : w[18]? = some (Sum.inl (0, 8, g0))) (hg3 : g0 (0 : Int32).toInt.toNat = Value.int a2) (hg4 : ((32 : Int32) - (xnlz a2)) = a3) (hw5 : w[h0]? = some (Sum.inr (2, [Value.int 64, Value.int 0, Value.int 0, Value.int 0, Value.ref h1]))) (hw6 : w[78]? = some (Sum.inr (1, [Value.int (-16384), Value.int 16384, Value.int 0, Value.int 0]))) (e7 : (((a3 + a1) - (64 : Int32)) - a1).toInt ≤ 0) (hg8 : ((a3 + a1) - ((a3 + a1) - (64 : Int32))) = 64) (e9 : 7 ≤ h0) (e10 : h0 ≠ 16) (e11 : h0 ≠ 17) (e12 : h0 ≠ 18) (hg13 : ((64 : Int32) - a3) = a4) (e14 : h0 ≠ h1) (hw15 : w[h1]? = some (Sum.inr (3, [Value.ref h2, Value.int 0]))) (hg16 : (a3 + a4) = 64) (e17 : h0 ≠ h2) (hw18 : w[h2]? = some (Sum.inl (0, 8, fun _ => Value.int 0))) (e19 : 0 ≤ a4.toInt) (hg20 : g0 (1 : Int32).toInt.toNat = Value.int 0) (e21 : 7 ≤ h2) (e22 : h2 ≠ h1) (e23 : h2 ≠ 17) (e24 : h2 ≠ 18) (e25 : 7 ≤ h1) (e26 : h1 ≠ h0) (e27 : h2 ≠ h0) (e28 : h1 ≠ h2) (e29 : (xbf 1 a2 (0 : Int32) ((32 : Int32) - a4)).toInt ≠ 0) (e30 : ((64 : Int32) - (xnlz (xbf 1 a2 (0 : Int32) ((32 : Int32) - a4)))).toInt ≤ 64) (e31 : h1 ≠ 78) (e32 : h2 ≠ 78) (e33 : h0 ≠ 78) (e34 : (a3 + a1).toInt ≤ 16384) (e35 : (a3 + a1).toInt < (-16384)) (e36 : h1 ≠ 16) (e37 : h2 ≠ 16) (e38 : a0.toInt ≠ 4) (e39 : a0.toInt ≠ 2) (e40 : a0.toInt ≠ 3) (e41 : a0.toInt = 0) (e42 : h1 ≠ 17) (e43 : h1 ≠ 18) (e44 : a2.toInt ≠ 0) (hg45 : ((0 : Int32) + (xntz a2)) = a5) (e46 : a5.toInt ≠ (a3 - (1 : Int32)).toInt) (e47 : (a3 + a1).toInt = (-16385)) (e48 : 78 ≠ h0) (e49 : 78 ≠ h1) (e50 : 78 ≠ h2) : xRun (d + 5) 27 [Value.ref 78, Value.ref h0, Value.ref 16, Value.int a0] w (.inl (some (Value.int 1))) ((((((((w.set h0 (Sum.inr (2, [Value.int 64, Value.int 3, Value.int 0, Value.int (a3 + a1), Value.ref h1]))).set h2 (Sum.inl (0, 8, xup (xup (fun _ => Value.int 0) (1 : Int32).toInt.toNat (Value.int (xbf 1 a2 (0 : Int32) ((32 : Int32) - a4)))) (0 : Int32).toInt.toNat (Value.int (xbf 1 a2 (0 : Int32) ((0 : Int32) - a4)))))).set h1 (Sum.inr (3, [Value.ref h2, Value.int 2]))).set 78 (Sum.inr (1, [Value.int (-16384), Value.int 16384, Value.int 0, Value.int 4]))).set h0 (Sum.inr (2, [Value.int 64, Value.int 3, Value.int 0, Value.int (-16384), Value.ref h1]))).set h2 (Sum.inl (0, 8, xup (xup (xup (xup (xup (fun _ => Value.int 0) (1 : Int32).toInt.toNat (Value.int (xbf 1 a2 (0 : Int32) ((32 : Int32) - a4)))) (0 : Int32).toInt.toNat (Value.int (xbf 1 a2 (0 : Int32) ((0 : Int32) - a4)))) (0 : Int32).toInt.toNat (Value.int 0)) (1 : Int32).toInt.toNat (Value.int 0)) (1 : Int32).toInt.toNat (Value.int (-2147483648))))).set h1 (Sum.inr (3, [Value.ref h2, Value.int 2]))).set 78 (Sum.inr (1, [Value.int (-16384), Value.int 16384, Value.int 0, Value.int 5]))) := by
  refine xRun.of ?_
  refine i_27_0 (x := 16) rfl ?_
  refine i_27_1 hw0 (Nat.le_of_ble_eq_true rfl) (s_28_0 hw0 hw1 hw2 hg3 hg4) ?_
  refine i_27_4 (lv2 := [(4, Value.int (a3 + a1)), (0, Value.ref 78), (1, Value.ref h0), (2, Value.ref 16), (3, Value.int a0)]) rfl ?_
  refine i_27_6 (x := 78) rfl ?_
  refine i_27_7 (x := (a3 + a1)) rfl ?_
  refine i_27_9 (x := h0) rfl ?_
  refine i_27_10 (v := Value.int 64) hw5 rfl ?_
  refine i_27_13 hw6 (Nat.le_of_ble_eq_true rfl) (s_30_0 hw6) ?_
  refine i_27_16 (lv2 := [(5, Value.int ((a3 + a1) - (64 : Int32))), (4, Value.int (a3 + a1)), (0, Value.ref 78), (1, Value.ref h0), (2, Value.ref 16), (3, Value.int a0)]) rfl ?_
  refine i_27_18 (x := 16) rfl ?_
  refine i_27_19 (x := ((a3 + a1) - (64 : Int32))) rfl ?_
  refine i_27_21 (x := a0) rfl ?_
  refine i_27_22 hw0 (Nat.le_of_ble_eq_true rfl) (s_31_0 hw0 hw1 e7) ?_
  refine i_27_25 (lv2 := [(6, Value.int 0), (5, Value.int ((a3 + a1) - (64 : Int32))), (4, Value.int (a3 + a1)), (0, Value.ref 78), (1, Value.ref h0), (2, Value.ref 16), (3, Value.int a0)]) rfl ?_
  refine i_27_27 (x := 16) rfl ?_
  refine i_27_28 (x := ((a3 + a1) - (64 : Int32))) rfl ?_
  refine i_27_30 hw0 (Nat.le_of_ble_eq_true rfl) (s_32_0 hw0 hw1 e7) ?_
  refine i_27_33 (fun h => absurd h (by decide)) (fun _ => ?_)
  refine i_27_36 ?_
  refine i_27_37 ?_
  refine i_27_50 (lv2 := [(7, Value.int 0), (6, Value.int 0), (5, Value.int ((a3 + a1) - (64 : Int32))), (4, Value.int (a3 + a1)), (0, Value.ref 78), (1, Value.ref h0), (2, Value.ref 16), (3, Value.int a0)]) rfl ?_
  refine i_27_52 (x := h0) rfl ?_
  refine i_27_53 (x := 16) rfl ?_
  refine i_27_54 (x := ((a3 + a1) - (64 : Int32))) rfl ?_
  refine i_27_56 (x := 0) rfl ?_
  refine i_27_58 hw5 (Nat.le_of_ble_eq_true rfl) (s_38_0 hw0 hw1 hw2 hg3 hg4 hg8 hw5 e9 e10 e11 e12 hg13 e14 hw15 hg16 e17 hw18 e19 hg20 e21 e22 e23 e24 e25 e26 e27 e28 e29 e30) ?_
  refine i_27_61 (x := h0) rfl ?_
  refine i_27_62 (v := Value.int 3) (xgn e26 (xgn e27 (xgs hw5))) rfl ?_
  refine i_27_65 ?_
  refine i_27_66 (fun h => absurd h (by decide)) (fun _ => ?_)
  refine i_27_69 (x := h0) rfl ?_
  refine i_27_70 (v := Value.int (a3 + a1)) (xgn e26 (xgn e27 (xgs hw5))) rfl ?_
  refine i_27_73 (x := 78) rfl ?_
  refine i_27_74 (v := Value.int 16384) (xgn e31 (xgn e32 (xgn e33 hw6))) rfl ?_
  refine i_27_77 (fun _ => ?_) (fun h => absurd e34 (Int.not_le.mpr h))
  refine i_27_95 (x := h0) rfl ?_
  refine i_27_96 (v := Value.int 3) (xgn e26 (xgn e27 (xgs hw5))) rfl ?_
  refine i_27_99 ?_
  refine i_27_100 (fun h => absurd h (by decide)) (fun _ => ?_)
  refine i_27_103 (x := 78) rfl ?_
  refine i_27_104 (v := Value.int 0) (xgn e31 (xgn e32 (xgn e33 hw6))) rfl ?_
  refine i_27_107 (fun h => absurd h (by decide)) (fun _ => ?_)
  refine i_27_110 (x := h0) rfl ?_
  refine i_27_111 (v := Value.int (a3 + a1)) (xgn e26 (xgn e27 (xgs hw5))) rfl ?_
  refine i_27_114 (x := 78) rfl ?_
  refine i_27_115 (v := Value.int (-16384)) (xgn e31 (xgn e32 (xgn e33 hw6))) rfl ?_
  refine i_27_118 (fun h => absurd e35 (Int.not_lt.mpr h)) (fun _ => ?_)
  refine i_27_121 (x := 78) rfl ?_
  refine i_27_122 (x := h0) rfl ?_
  refine i_27_123 (x := 16) rfl ?_
  refine i_27_124 (x := a0) rfl ?_
  refine i_27_125 (xgn e31 (xgn e32 (xgn e33 hw6))) (Nat.le_of_ble_eq_true rfl) (s_50_5 (xgn e31 (xgn e32 (xgn e33 hw6))) (xgn e36 (xgn e37 (xgn e10 hw0))) e38 e39 e40 e41 (xgn e42 (xgn e23 (xgn e11 hw1))) (xgn e43 (xgn e24 (xgn e12 hw2))) hg3 e44 hg45 hg4 e46 e47 e48 (xgn e26 (xgn e27 (xgs hw5))) e9 e14 e49 (xgs (xgn e22 (xgn e14 hw15))) e17 e50 (xgn e28 (xgs (xgn e17 hw18))) e21 e22 e25) ?_
  refine i_27_128 (lv2 := [(7, Value.int 1), (6, Value.int 0), (5, Value.int ((a3 + a1) - (64 : Int32))), (4, Value.int (a3 + a1)), (0, Value.ref 78), (1, Value.ref h0), (2, Value.ref 16), (3, Value.int a0)]) rfl ?_
  refine i_27_130 ?_
  refine i_27_164 (x := 1) rfl ?_
  refine i_27_166 (fun h => absurd h (by decide)) (fun _ => ?_)
  refine i_27_169 (x := 78) rfl ?_
  refine i_27_170 rfl ?_
  refine i_27_171 (v := Value.int 4) (xgn e31 (xgn e32 (xgn e33 (xgs (xgn e31 (xgn e32 (xgn e33 hw6))))))) rfl ?_
  refine i_27_174 ?_
  refine i_27_175 (c := 5) (by decide) ?_
  refine i_27_176 (fs2 := [Value.int (-16384), Value.int 16384, Value.int 0, Value.int 5]) (xgn e31 (xgn e32 (xgn e33 (xgs (xgn e31 (xgn e32 (xgn e33 hw6))))))) (Nat.le_of_ble_eq_true rfl) rfl (by decide) ?_
  refine i_27_179 (x := 16) rfl ?_
  refine i_27_180 (v := Value.int 0) (xgn (by decide) (xgn e36 (xgn e37 (xgn e10 (xgn (by decide) (xgn e36 (xgn e37 (xgn e10 hw0)))))))) rfl ?_
  refine i_27_183 (fun _ => ?_) (fun h => absurd h (by decide))
  refine i_27_192 (x := 1) rfl ?_
  exact i_27_194 ⟨rfl, rfl⟩
theorem s_21_10 {d : Nat} {w : xW} {a0 : Int32} {b0 : Int64} {a1 : Int32} {a2 : Int32} {g0 : Nat → Value} {h0 : Nat} {a3 : Int32} {h1 : Nat} {a4 : Int32} {h2 : Nat} {a5 : Int32} (e0 : 0 ≤ a0.toInt) (e1 : a0.toInt < 16) (e2 : (-40000) ≤ a1.toInt) (e3 : a1.toInt ≤ 40000) (e4 : 0 ≤ a2.toInt) (e5 : a2.toInt ≤ 4) (hw6 : w[7]? = some (Sum.inr (0, [Value.ref 8, Value.ref 78, Value.ref 9, Value.ref 10, Value.ref 13, Value.ref 16, Value.ref 19, Value.ref 93, Value.ref 108, Value.ref 113, Value.ref 29, Value.int 0]))) (hw7 : w[8]? = some (Sum.inl (4, 16, g0))) (hg8 : g0 a0.toInt.toNat = Value.ref h0) (e9 : (lg_cmp b0 (0 : Int64)).toInt ≠ 0) (e10 : 0 ≤ (lg_cmp b0 (0 : Int64)).toInt) (hw11 : w[16]? = some (Sum.inr (4, [Value.int 0, Value.ref 17, Value.int 0, Value.int 0]))) (hw12 : w[17]? = some (Sum.inr (3, [Value.ref 18, Value.int 0]))) (hw13 : w[18]? = some (Sum.inl (0, 8, fun _ => Value.int 0))) (hg14 : (xhi b0) = 0) (e15 : (xlo b0).toInt ≠ 0) (hw16 : w[78]? = some (Sum.inr (1, [Value.int (-16384), Value.int 16384, Value.int 0, Value.int 0]))) (hg17 : ((32 : Int32) - (xnlz (xlo b0))) = a3) (e18 : 16 ≠ h0) (e19 : 17 ≠ h0) (e20 : 18 ≠ h0) (hw21 : w[h0]? = some (Sum.inr (2, [Value.int 64, Value.int 0, Value.int 0, Value.int 0, Value.ref h1]))) (e22 : (((a3 + a1) - (64 : Int32)) - a1).toInt ≤ 0) (hg23 : ((a3 + a1) - ((a3 + a1) - (64 : Int32))) = 64) (e24 : 7 ≤ h0) (e25 : h0 ≠ 16) (e26 : h0 ≠ 17) (e27 : h0 ≠ 18) (hg28 : ((64 : Int32) - a3) = a4) (e29 : h0 ≠ h1) (e30 : 16 ≠ h1) (e31 : 17 ≠ h1) (e32 : 18 ≠ h1) (hw33 : w[h1]? = some (Sum.inr (3, [Value.ref h2, Value.int 0]))) (hg34 : (a3 + a4) = 64) (e35 : h0 ≠ h2) (e36 : 16 ≠ h2) (e37 : 17 ≠ h2) (e38 : 18 ≠ h2) (hw39 : w[h2]? = some (Sum.inl (0, 8, fun _ => Value.int 0))) (e40 : 0 ≤ a4.toInt) (e41 : 7 ≤ h2) (e42 : h2 ≠ h1) (e43 : h2 ≠ 17) (e44 : h2 ≠ 18) (e45 : 7 ≤ h1) (e46 : h1 ≠ h0) (e47 : h2 ≠ h0) (e48 : h1 ≠ h2) (e49 : (xbf 1 (xlo b0) (0 : Int32) ((32 : Int32) - a4)).toInt ≠ 0) (e50 : ((64 : Int32) - (xnlz (xbf 1 (xlo b0) (0 : Int32) ((32 : Int32) - a4)))).toInt ≤ 64) (e51 : h1 ≠ 78) (e52 : h2 ≠ 78) (e53 : h0 ≠ 78) (e54 : (a3 + a1).toInt ≤ 16384) (e55 : (a3 + a1).toInt < (-16384)) (e56 : h1 ≠ 16) (e57 : h2 ≠ 16) (e58 : a2.toInt ≠ 4) (e59 : a2.toInt ≠ 2) (e60 : a2.toInt ≠ 3) (e61 : a2.toInt = 0) (e62 : h1 ≠ 17) (e63 : h1 ≠ 18) (hg64 : ((0 : Int32) + (xntz (xlo b0))) = a5) (e65 : a5.toInt ≠ (a3 - (1 : Int32)).toInt) (e66 : (a3 + a1).toInt = (-16385)) (e67 : 78 ≠ h0) (e68 : 78 ≠ h1) (e69 : 78 ≠ h2) : xRun (d + 6) 21 [Value.ref 7, Value.int a0, Value.long b0, Value.int a1, Value.int a2] w (.inl (some (Value.int 1))) (((((((((((((w.set 16 (Sum.inr (4, [Value.int 0, Value.ref 17, Value.int 0, Value.int 0]))).set 18 (Sum.inl (0, 8, xup (xup (fun _ => Value.int 0) (0 : Int32).toInt.toNat (Value.int (xlo b0))) (1 : Int32).toInt.toNat (Value.int 0)))).set 17 (Sum.inr (3, [Value.ref 18, Value.int 2]))).set 17 (Sum.inr (3, [Value.ref 18, Value.int 1]))).set 16 (Sum.inr (4, [Value.int 0, Value.ref 17, Value.int a1, Value.int 0]))).set h0 (Sum.inr (2, [Value.int 64, Value.int 3, Value.int 0, Value.int (a3 + a1), Value.ref h1]))).set h2 (Sum.inl (0, 8, xup (xup (fun _ => Value.int 0) (1 : Int32).toInt.toNat (Value.int (xbf 1 (xlo b0) (0 : Int32) ((32 : Int32) - a4)))) (0 : Int32).toInt.toNat (Value.int (xbf 1 (xlo b0) (0 : Int32) ((0 : Int32) - a4)))))).set h1 (Sum.inr (3, [Value.ref h2, Value.int 2]))).set 78 (Sum.inr (1, [Value.int (-16384), Value.int 16384, Value.int 0, Value.int 4]))).set h0 (Sum.inr (2, [Value.int 64, Value.int 3, Value.int 0, Value.int (-16384), Value.ref h1]))).set h2 (Sum.inl (0, 8, xup (xup (xup (xup (xup (fun _ => Value.int 0) (1 : Int32).toInt.toNat (Value.int (xbf 1 (xlo b0) (0 : Int32) ((32 : Int32) - a4)))) (0 : Int32).toInt.toNat (Value.int (xbf 1 (xlo b0) (0 : Int32) ((0 : Int32) - a4)))) (0 : Int32).toInt.toNat (Value.int 0)) (1 : Int32).toInt.toNat (Value.int 0)) (1 : Int32).toInt.toNat (Value.int (-2147483648))))).set h1 (Sum.inr (3, [Value.ref h2, Value.int 2]))).set 78 (Sum.inr (1, [Value.int (-16384), Value.int 16384, Value.int 0, Value.int 5]))) := by
  refine xRun.of ?_
  refine i_21_0 (x := a0) rfl ?_
  refine i_21_1 (Nat.le_of_ble_eq_true rfl) (s_15_0 e0 e1) ?_
  refine i_21_4 (fun h => absurd h (by decide)) (fun _ => ?_)
  refine i_21_7 (x := a1) rfl ?_
  refine i_21_9 ?_
  refine i_21_11 (fun h => absurd e2 (Int.not_le.mpr h)) (fun _ => ?_)
  refine i_21_14 (x := a1) rfl ?_
  refine i_21_16 ?_
  refine i_21_18 (fun h => absurd e3 (Int.not_le.mpr h)) (fun _ => ?_)
  refine i_21_21 (x := a2) rfl ?_
  refine i_21_23 (Nat.le_of_ble_eq_true rfl) (s_22_0 e4 e5) ?_
  refine i_21_26 (fun _ => ?_) (fun h => absurd h (by decide))
  refine i_21_37 (x := 7) rfl ?_
  refine i_21_38 (v := Value.ref 8) hw6 rfl ?_
  refine i_21_41 (x := a0) rfl ?_
  refine i_21_42 (v := Value.ref h0) hw7 e0 e1 hg8 ?_
  refine i_21_43 (lv2 := [(6, Value.ref h0), (0, Value.ref 7), (1, Value.int a0), (2, Value.long b0), (4, Value.int a1), (5, Value.int a2)]) rfl ?_
  refine i_21_45 (x := b0) rfl ?_
  refine i_21_46 ?_
  refine i_21_47 (c := (lg_cmp b0 (0 : Int64))) rfl ?_
  refine i_21_48 (fun _ => ?_) (fun h => absurd e9 (fun g => g h))
  refine i_21_58 (x := 7) rfl ?_
  refine i_21_59 (v := Value.ref 16) hw6 rfl ?_
  refine i_21_62 (x := b0) rfl ?_
  refine i_21_63 ?_
  refine i_21_64 (c := (lg_cmp b0 (0 : Int64))) rfl ?_
  refine i_21_65 (fun _ => ?_) (fun h => absurd e10 (Int.not_le.mpr h))
  refine i_21_72 ?_
  refine i_21_73 (x := b0) rfl ?_
  refine i_21_74 ?_
  refine i_21_75 (c := (lg_cmp b0 (0 : Int64))) rfl ?_
  refine i_21_76 (fun _ => ?_) (fun h => absurd e10 (Int.not_le.mpr h))
  refine i_21_84 (x := b0) rfl ?_
  refine i_21_85 (x := a1) rfl ?_
  refine i_21_87 hw11 (Nat.le_of_ble_eq_true rfl) (s_24_0 hw11 hw12 hw13 hg14 e15) ?_
  refine i_21_90 (x := 7) rfl ?_
  refine i_21_91 (v := Value.ref 78) (xgn (by decide) (xgn (by decide) (xgn (by decide) (xgn (by decide) (xgn (by decide) hw6))))) rfl ?_
  refine i_21_94 (x := h0) rfl ?_
  refine i_21_96 (x := 7) rfl ?_
  refine i_21_97 (v := Value.ref 16) (xgn (by decide) (xgn (by decide) (xgn (by decide) (xgn (by decide) (xgn (by decide) hw6))))) rfl ?_
  refine i_21_100 (x := a2) rfl ?_
  refine i_21_102 (xgn (by decide) (xgn (by decide) (xgn (by decide) (xgn (by decide) (xgn (by decide) hw16))))) (Nat.le_of_ble_eq_true rfl) (s_27_10 (xgs (xgn (by decide) (xgn (by decide) (xgn (by decide) (xgs hw11))))) (xgn (by decide) (xgs (xgs (xgn (by decide) (xgn (by decide) hw12))))) (xgn (by decide) (xgn (by decide) (xgn (by decide) (xgs (xgn (by decide) hw13))))) (xup_n (by decide) xup_s) hg17 (xgn e18 (xgn e19 (xgn e19 (xgn e20 (xgn e18 hw21))))) (xgn (by decide) (xgn (by decide) (xgn (by decide) (xgn (by decide) (xgn (by decide) hw16))))) e22 hg23 e24 e25 e26 e27 hg28 e29 (xgn e30 (xgn e31 (xgn e31 (xgn e32 (xgn e30 hw33))))) hg34 e35 (xgn e36 (xgn e37 (xgn e37 (xgn e38 (xgn e36 hw39))))) e40 xup_s e41 e42 e43 e44 e45 e46 e47 e48 e49 e50 e51 e52 e53 e54 e55 e56 e57 e58 e59 e60 e61 e62 e63 e15 hg64 e65 e66 e67 e68 e69) ?_
  exact i_21_105 ⟨rfl, rfl⟩
theorem s_20_10 {d : Nat} {w : xW} {a0 : Int32} {b0 : Int64} {a1 : Int32} {a2 : Int32} {g0 : Nat → Value} {h0 : Nat} {a3 : Int32} {h1 : Nat} {a4 : Int32} {h2 : Nat} {a5 : Int32} (hw0 : w[7]? = some (Sum.inr (0, [Value.ref 8, Value.ref 78, Value.ref 9, Value.ref 10, Value.ref 13, Value.ref 16, Value.ref 19, Value.ref 93, Value.ref 108, Value.ref 113, Value.ref 29, Value.int 0]))) (e1 : 0 ≤ a0.toInt) (e2 : a0.toInt < 16) (e3 : (-40000) ≤ a1.toInt) (e4 : a1.toInt ≤ 40000) (e5 : 0 ≤ a2.toInt) (e6 : a2.toInt ≤ 4) (hw7 : w[8]? = some (Sum.inl (4, 16, g0))) (hg8 : g0 a0.toInt.toNat = Value.ref h0) (e9 : (lg_cmp b0 (0 : Int64)).toInt ≠ 0) (e10 : 0 ≤ (lg_cmp b0 (0 : Int64)).toInt) (hw11 : w[16]? = some (Sum.inr (4, [Value.int 0, Value.ref 17, Value.int 0, Value.int 0]))) (hw12 : w[17]? = some (Sum.inr (3, [Value.ref 18, Value.int 0]))) (hw13 : w[18]? = some (Sum.inl (0, 8, fun _ => Value.int 0))) (hg14 : (xhi b0) = 0) (e15 : (xlo b0).toInt ≠ 0) (hw16 : w[78]? = some (Sum.inr (1, [Value.int (-16384), Value.int 16384, Value.int 0, Value.int 0]))) (hg17 : ((32 : Int32) - (xnlz (xlo b0))) = a3) (e18 : 16 ≠ h0) (e19 : 17 ≠ h0) (e20 : 18 ≠ h0) (hw21 : w[h0]? = some (Sum.inr (2, [Value.int 64, Value.int 0, Value.int 0, Value.int 0, Value.ref h1]))) (e22 : (((a3 + a1) - (64 : Int32)) - a1).toInt ≤ 0) (hg23 : ((a3 + a1) - ((a3 + a1) - (64 : Int32))) = 64) (e24 : 7 ≤ h0) (e25 : h0 ≠ 16) (e26 : h0 ≠ 17) (e27 : h0 ≠ 18) (hg28 : ((64 : Int32) - a3) = a4) (e29 : h0 ≠ h1) (e30 : 16 ≠ h1) (e31 : 17 ≠ h1) (e32 : 18 ≠ h1) (hw33 : w[h1]? = some (Sum.inr (3, [Value.ref h2, Value.int 0]))) (hg34 : (a3 + a4) = 64) (e35 : h0 ≠ h2) (e36 : 16 ≠ h2) (e37 : 17 ≠ h2) (e38 : 18 ≠ h2) (hw39 : w[h2]? = some (Sum.inl (0, 8, fun _ => Value.int 0))) (e40 : 0 ≤ a4.toInt) (e41 : 7 ≤ h2) (e42 : h2 ≠ h1) (e43 : h2 ≠ 17) (e44 : h2 ≠ 18) (e45 : 7 ≤ h1) (e46 : h1 ≠ h0) (e47 : h2 ≠ h0) (e48 : h1 ≠ h2) (e49 : (xbf 1 (xlo b0) (0 : Int32) ((32 : Int32) - a4)).toInt ≠ 0) (e50 : ((64 : Int32) - (xnlz (xbf 1 (xlo b0) (0 : Int32) ((32 : Int32) - a4)))).toInt ≤ 64) (e51 : h1 ≠ 78) (e52 : h2 ≠ 78) (e53 : h0 ≠ 78) (e54 : (a3 + a1).toInt ≤ 16384) (e55 : (a3 + a1).toInt < (-16384)) (e56 : h1 ≠ 16) (e57 : h2 ≠ 16) (e58 : a2.toInt ≠ 4) (e59 : a2.toInt ≠ 2) (e60 : a2.toInt ≠ 3) (e61 : a2.toInt = 0) (e62 : h1 ≠ 17) (e63 : h1 ≠ 18) (hg64 : ((0 : Int32) + (xntz (xlo b0))) = a5) (e65 : a5.toInt ≠ (a3 - (1 : Int32)).toInt) (e66 : (a3 + a1).toInt = (-16385)) (e67 : 78 ≠ h0) (e68 : 78 ≠ h1) (e69 : 78 ≠ h2) (e70 : h1 ≠ 194) (e71 : h2 ≠ 194) (e72 : h0 ≠ 194) (hw73 : w[194]? = some (Sum.inl (3, 1, fun _ => Value.long 0))) : xRun (d + 7) 20 [Value.ref 7, Value.int a0, Value.long b0, Value.int a1, Value.int a2, Value.ref 194] w (.inl (some (Value.int 0))) ((((((((((((((w.set 16 (Sum.inr (4, [Value.int 0, Value.ref 17, Value.int 0, Value.int 0]))).set 18 (Sum.inl (0, 8, xup (xup (fun _ => Value.int 0) (0 : Int32).toInt.toNat (Value.int (xlo b0))) (1 : Int32).toInt.toNat (Value.int 0)))).set 17 (Sum.inr (3, [Value.ref 18, Value.int 2]))).set 17 (Sum.inr (3, [Value.ref 18, Value.int 1]))).set 16 (Sum.inr (4, [Value.int 0, Value.ref 17, Value.int a1, Value.int 0]))).set h0 (Sum.inr (2, [Value.int 64, Value.int 3, Value.int 0, Value.int (a3 + a1), Value.ref h1]))).set h2 (Sum.inl (0, 8, xup (xup (fun _ => Value.int 0) (1 : Int32).toInt.toNat (Value.int (xbf 1 (xlo b0) (0 : Int32) ((32 : Int32) - a4)))) (0 : Int32).toInt.toNat (Value.int (xbf 1 (xlo b0) (0 : Int32) ((0 : Int32) - a4)))))).set h1 (Sum.inr (3, [Value.ref h2, Value.int 2]))).set 78 (Sum.inr (1, [Value.int (-16384), Value.int 16384, Value.int 0, Value.int 4]))).set h0 (Sum.inr (2, [Value.int 64, Value.int 3, Value.int 0, Value.int (-16384), Value.ref h1]))).set h2 (Sum.inl (0, 8, xup (xup (xup (xup (xup (fun _ => Value.int 0) (1 : Int32).toInt.toNat (Value.int (xbf 1 (xlo b0) (0 : Int32) ((32 : Int32) - a4)))) (0 : Int32).toInt.toNat (Value.int (xbf 1 (xlo b0) (0 : Int32) ((0 : Int32) - a4)))) (0 : Int32).toInt.toNat (Value.int 0)) (1 : Int32).toInt.toNat (Value.int 0)) (1 : Int32).toInt.toNat (Value.int (-2147483648))))).set h1 (Sum.inr (3, [Value.ref h2, Value.int 2]))).set 78 (Sum.inr (1, [Value.int (-16384), Value.int 16384, Value.int 0, Value.int 5]))).set 194 (Sum.inl (3, 1, xup (fun _ => Value.long 0) (0 : Int32).toInt.toNat (Value.long 1)))) := by
  refine xRun.of ?_
  refine i_20_0 (x := 194) rfl ?_
  refine i_20_2 ?_
  refine i_20_3 (x := 7) rfl ?_
  refine i_20_4 (x := a0) rfl ?_
  refine i_20_5 (x := b0) rfl ?_
  refine i_20_6 (x := a1) rfl ?_
  refine i_20_8 (x := a2) rfl ?_
  refine i_20_10 hw0 (Nat.le_of_ble_eq_true rfl) (s_21_10 e1 e2 e3 e4 e5 e6 hw0 hw7 hg8 e9 e10 hw11 hw12 hw13 hg14 e15 hw16 hg17 e18 e19 e20 hw21 e22 hg23 e24 e25 e26 e27 hg28 e29 e30 e31 e32 hw33 hg34 e35 e36 e37 e38 hw39 e40 e41 e42 e43 e44 e45 e46 e47 e48 e49 e50 e51 e52 e53 e54 e55 e56 e57 e58 e59 e60 e61 e62 e63 hg64 e65 e66 e67 e68 e69) ?_
  refine i_20_13 (c := 1) (by decide) ?_
  refine i_20_14 (v := Value.long 1) (xgn (by decide) (xgn e70 (xgn e71 (xgn e72 (xgn (by decide) (xgn e70 (xgn e71 (xgn e72 (xgn (by decide) (xgn (by decide) (xgn (by decide) (xgn (by decide) (xgn (by decide) hw73))))))))))))) (by decide) (by decide) (by decide) rfl ?_
  refine i_20_15 ?_
  refine i_20_22 ?_
  exact i_20_23 ⟨rfl, rfl⟩
theorem cn3_0_10 {d : Nat} {xs : Nat → Int32} {B K : Int32} (c0 : 0 ≤ (xs 1).toInt) (c1 : (xs 1).toInt < 16) (c2 : (-40000) ≤ (xs 4).toInt) (c3 : (xs 4).toInt ≤ 40000) (c4 : 0 ≤ (xs 5).toInt) (c5 : (xs 5).toInt ≤ 4) (c6 : (lg_cmp (xvv xs) (0 : Int64)).toInt ≠ 0) (c7 : 0 ≤ (lg_cmp (xvv xs) (0 : Int64)).toInt) (c8 : K.toInt = 64 - B.toInt) (c9 : 1 ≤ B.toInt) (c10 : B.toInt ≤ 32) (c11 : (xhi (xvv xs)).toInt = 0) (c12 : (xlo (xvv xs)).toInt ≠ 0) (c13 : (xnlz (xlo (xvv xs))).toInt = 32 - B.toInt) (c14 : (xbf 1 (xlo (xvv xs)) (0 : Int32) ((32 : Int32) - K)).toInt ≠ 0) (c15 : (B + (xs 4)).toInt ≤ 16384) (c16 : (B + (xs 4)).toInt < (-16384)) (c17 : (xs 5).toInt ≠ 4) (c18 : (xs 5).toInt ≠ 2) (c19 : (xs 5).toInt ≠ 3) (c20 : (xs 5).toInt = 0) (c21 : (xntz (xlo (xvv xs))).toInt ≠ B.toInt - 1) (c23 : (B + (xs 4)).toInt = (-16385)) : ∃ w1, xRun (d + 18) 20 [Value.ref 7, Value.int (xs 1), Value.long (xvv xs), Value.int (xs 4), Value.int (xs 5), Value.ref 194] (W0 6 xs) (.inl (some (Value.int 0))) w1 ∧ xKp (W0 6 xs) w1 xPC ∧ w1[194]? = some (Sum.inl (3, 1, xup (fun _ => Value.long 0) (0 : Int32).toInt.toNat (Value.long 1))) := by
  have f0 : ((32 : Int32) - (xnlz (xlo (xvv xs)))).toInt = 32 - (xnlz (xlo (xvv xs))).toInt := xsub_g rfl rfl (by omega) (by omega)
  have f1 : (B + (xs 4)).toInt = B.toInt + (xs 4).toInt := xadd_i (by omega) (by omega)
  have f2 : ((B + (xs 4)) - (64 : Int32)).toInt = (B + (xs 4)).toInt - 64 := xsub_g rfl rfl (by omega) (by omega)
  have f3 : (((B + (xs 4)) - (64 : Int32)) - (xs 4)).toInt = ((B + (xs 4)) - (64 : Int32)).toInt - (xs 4).toInt := xsub_i (by omega) (by omega)
  have f4 : ((B + (xs 4)) - ((B + (xs 4)) - (64 : Int32))).toInt = (B + (xs 4)).toInt - ((B + (xs 4)) - (64 : Int32)).toInt := xsub_i (by omega) (by omega)
  have f5 : ((64 : Int32) - B).toInt = 64 - B.toInt := xsub_g rfl rfl (by omega) (by omega)
  have f6 : (B + K).toInt = B.toInt + K.toInt := xadd_i (by omega) (by omega)
  have f7 : 0 ≤ (xnlz (xbf 1 (xlo (xvv xs)) (0 : Int32) ((32 : Int32) - K))).toInt := (xnlz_b _).1
  have f8 : (xnlz (xbf 1 (xlo (xvv xs)) (0 : Int32) ((32 : Int32) - K))).toInt ≤ 32 := (xnlz_b _).2
  have f9 : ((64 : Int32) - (xnlz (xbf 1 (xlo (xvv xs)) (0 : Int32) ((32 : Int32) - K)))).toInt = 64 - (xnlz (xbf 1 (xlo (xvv xs)) (0 : Int32) ((32 : Int32) - K))).toInt := xsub_g rfl rfl (by omega) (by omega)
  have f10 : 0 ≤ (xntz (xlo (xvv xs))).toInt := (xntz_b _).1
  have f11 : (xntz (xlo (xvv xs))).toInt ≤ 32 := (xntz_b _).2
  have f12 : ((0 : Int32) + (xntz (xlo (xvv xs)))).toInt = 0 + (xntz (xlo (xvv xs))).toInt := xadd_g rfl rfl (by omega) (by omega)
  have f13 : (B - (1 : Int32)).toInt = B.toInt - 1 := xsub_g rfl rfl (by omega) (by omega)
  refine ⟨(((((((((((((((W0 6 xs).set 16 (Sum.inr (4, [Value.int 0, Value.ref 17, Value.int 0, Value.int 0]))).set 18 (Sum.inl (0, 8, xup (xup (fun _ => Value.int 0) (0 : Int32).toInt.toNat (Value.int (xlo (xvv xs)))) (1 : Int32).toInt.toNat (Value.int 0)))).set 17 (Sum.inr (3, [Value.ref 18, Value.int 2]))).set 17 (Sum.inr (3, [Value.ref 18, Value.int 1]))).set 16 (Sum.inr (4, [Value.int 0, Value.ref 17, Value.int (xs 4), Value.int 0]))).set (30 + 3 * (xs 1).toInt.toNat) (Sum.inr (2, [Value.int 64, Value.int 3, Value.int 0, Value.int (B + (xs 4)), Value.ref (31 + 3 * (xs 1).toInt.toNat)]))).set (32 + 3 * (xs 1).toInt.toNat) (Sum.inl (0, 8, xup (xup (fun _ => Value.int 0) (1 : Int32).toInt.toNat (Value.int (xbf 1 (xlo (xvv xs)) (0 : Int32) ((32 : Int32) - K)))) (0 : Int32).toInt.toNat (Value.int (xbf 1 (xlo (xvv xs)) (0 : Int32) ((0 : Int32) - K)))))).set (31 + 3 * (xs 1).toInt.toNat) (Sum.inr (3, [Value.ref (32 + 3 * (xs 1).toInt.toNat), Value.int 2]))).set 78 (Sum.inr (1, [Value.int (-16384), Value.int 16384, Value.int 0, Value.int 4]))).set (30 + 3 * (xs 1).toInt.toNat) (Sum.inr (2, [Value.int 64, Value.int 3, Value.int 0, Value.int (-16384), Value.ref (31 + 3 * (xs 1).toInt.toNat)]))).set (32 + 3 * (xs 1).toInt.toNat) (Sum.inl (0, 8, xup (xup (xup (xup (xup (fun _ => Value.int 0) (1 : Int32).toInt.toNat (Value.int (xbf 1 (xlo (xvv xs)) (0 : Int32) ((32 : Int32) - K)))) (0 : Int32).toInt.toNat (Value.int (xbf 1 (xlo (xvv xs)) (0 : Int32) ((0 : Int32) - K)))) (0 : Int32).toInt.toNat (Value.int 0)) (1 : Int32).toInt.toNat (Value.int 0)) (1 : Int32).toInt.toNat (Value.int (-2147483648))))).set (31 + 3 * (xs 1).toInt.toNat) (Sum.inr (3, [Value.ref (32 + 3 * (xs 1).toInt.toNat), Value.int 2]))).set 78 (Sum.inr (1, [Value.int (-16384), Value.int 16384, Value.int 0, Value.int 5]))).set 194 (Sum.inl (3, 1, xup (fun _ => Value.long 0) (0 : Int32).toInt.toNat (Value.long 1)))), (s_20_10 W0_7 (by omega) (by omega) (by omega) (by omega) (by omega) (by omega) W0_8 (greg_at (by omega)) (by omega) (by omega) W0_16 W0_17 W0_18 (show (xhi (xvv xs)) = 0 from (xge_c (n := 0) (by omega) rfl)) (by omega) W0_78 (show ((32 : Int32) - (xnlz (xlo (xvv xs)))) = B from (xge_i (by omega))) (by omega) (by omega) (by omega) (W0_reg (by omega)) (by omega) (show ((B + (xs 4)) - ((B + (xs 4)) - (64 : Int32))) = 64 from (xge_c (n := 64) (by omega) rfl)) (by omega) (by omega) (by omega) (by omega) (show ((64 : Int32) - B) = K from (xge_i (by omega))) (by omega) (by omega) (by omega) (by omega) (W0_man (by omega)) (show (B + K) = 64 from (xge_c (n := 64) (by omega) rfl)) (by omega) (by omega) (by omega) (by omega) (W0_mw (by omega)) (by omega) (by omega) (by omega) (by omega) (by omega) (by omega) (by omega) (by omega) (by omega) (by omega) (by omega) (by omega) (by omega) (by omega) (by omega) (by omega) (by omega) (by omega) (by omega) (by omega) (by omega) (by omega) (by omega) (by omega) (show ((0 : Int32) + (xntz (xlo (xvv xs)))) = (xntz (xlo (xvv xs))) from (xge_i (by omega))) (by omega) (by omega) (by omega) (by omega) (by omega) (by omega) (by omega) (by omega) W0_194), ?_, xgs (xgn (by decide) (xgn (by omega) (xgn (by omega) (xgn (by omega) (xgn (by decide) (xgn (by omega) (xgn (by omega) (xgn (by omega) (xgn (by decide) (xgn (by decide) (xgn (by decide) (xgn (by decide) (xgn (by decide) W0_194)))))))))))))⟩
  refine xKp.set ?_ (fun h hh => by unfold xPC at hh; omega) (xgn (by decide) (xgn (by omega) (xgn (by omega) (xgn (by omega) (xgn (by decide) (xgn (by omega) (xgn (by omega) (xgn (by omega) (xgn (by decide) (xgn (by decide) (xgn (by decide) (xgn (by decide) (xgn (by decide) W0_194))))))))))))) xcs_a
  refine xKp.set ?_ (fun h hh => by unfold xPC at hh; omega) (xgn (by omega) (xgn (by omega) (xgn (by omega) (xgs (xgn (by omega) (xgn (by omega) (xgn (by omega) (xgn (by decide) (xgn (by decide) (xgn (by decide) (xgn (by decide) (xgn (by decide) W0_78)))))))))))) xcs_o
  refine xKp.set ?_ (fun h hh => by unfold xPC at hh; omega) (xgn (by omega) (xgn (by omega) (xgn (by omega) (xgs (xgn (by omega) (xgn (by omega) (xgn (by omega) (xgn (by omega) (xgn (by omega) (xgn (by omega) (xgn (by omega) (W0_man (by omega))))))))))))) xcs_o
  refine xKp.set ?_ (fun h hh => by unfold xPC at hh; omega) (xgn (by omega) (xgn (by omega) (xgn (by omega) (xgs (xgn (by omega) (xgn (by omega) (xgn (by omega) (xgn (by omega) (xgn (by omega) (xgn (by omega) (W0_mw (by omega)))))))))))) xcs_a
  refine xKp.set ?_ (fun h hh => by unfold xPC at hh; omega) (xgn (by omega) (xgn (by omega) (xgn (by omega) (xgs (xgn (by omega) (xgn (by omega) (xgn (by omega) (xgn (by omega) (xgn (by omega) (W0_reg (by omega))))))))))) xcs_o
  refine xKp.set ?_ (fun h hh => by unfold xPC at hh; omega) (xgn (by omega) (xgn (by omega) (xgn (by omega) (xgn (by decide) (xgn (by decide) (xgn (by decide) (xgn (by decide) (xgn (by decide) W0_78)))))))) xcs_o
  refine xKp.set ?_ (fun h hh => by unfold xPC at hh; omega) (xgn (by omega) (xgn (by omega) (xgn (by omega) (xgn (by omega) (xgn (by omega) (xgn (by omega) (xgn (by omega) (W0_man (by omega))))))))) xcs_o
  refine xKp.set ?_ (fun h hh => by unfold xPC at hh; omega) (xgn (by omega) (xgn (by omega) (xgn (by omega) (xgn (by omega) (xgn (by omega) (xgn (by omega) (W0_mw (by omega)))))))) xcs_a
  refine xKp.set ?_ (fun h hh => by unfold xPC at hh; omega) (xgn (by omega) (xgn (by omega) (xgn (by omega) (xgn (by omega) (xgn (by omega) (W0_reg (by omega))))))) xcs_o
  refine xKp.set ?_ (fun h hh => by unfold xPC at hh; omega) (xgn (by decide) (xgn (by decide) (xgn (by decide) (xgs W0_16)))) xcs_o
  refine xKp.set ?_ (fun h hh => by unfold xPC at hh; omega) (xgs (xgn (by decide) (xgn (by decide) W0_17))) xcs_o
  refine xKp.set ?_ (fun h hh => by unfold xPC at hh; omega) (xgn (by decide) (xgn (by decide) W0_17)) xcs_o
  refine xKp.set ?_ (fun h hh => by unfold xPC at hh; omega) (xgn (by decide) W0_18) xcs_a
  refine xKp.set ?_ (fun h hh => by unfold xPC at hh; omega) (W0_16) xcs_o
  exact xKp.refl
theorem s_50_6 {d : Nat} {w : xW} {h0 : Nat} {a0 : Int32} {a1 : Int32} {g0 : Nat → Value} {a2 : Int32} {a3 : Int32} {a4 : Int32} {a5 : Int32} {h1 : Nat} (hw0 : w[78]? = some (Sum.inr (1, [Value.int (-16384), Value.int 16384, Value.int 0, Value.int 0]))) (hw1 : w[16]? = some (Sum.inr (4, [Value.int 0, Value.ref 17, Value.int a1, Value.int 0]))) (e2 : a0.toInt ≠ 4) (e3 : a0.toInt ≠ 2) (e4 : a0.toInt ≠ 3) (e5 : a0.toInt = 0) (hw6 : w[17]? = some (Sum.inr (3, [Value.ref 18, Value.int 1]))) (hw7 : w[18]? = some (Sum.inl (0, 8, g0))) (hg8 : g0 (0 : Int32).toInt.toNat = Value.int a2) (e9 : a2.toInt ≠ 0) (hg10 : ((0 : Int32) + (xntz a2)) = a3) (hg11 : ((32 : Int32) - (xnlz a2)) = a4) (e12 : a3.toInt ≠ (a4 - (1 : Int32)).toInt) (e13 : (a4 + a1).toInt ≠ (-16385)) (e14 : 78 ≠ h0) (hw15 : w[h0]? = some (Sum.inr (2, [Value.int 64, Value.int 3, Value.int 0, Value.int a5, Value.ref h1]))) (e16 : 7 ≤ h0) : xRun (d + 3) 50 [Value.ref 78, Value.ref h0, Value.ref 16, Value.int a0] w (.inl (some (Value.int (-1)))) ((w.set 78 (Sum.inr (1, [Value.int (-16384), Value.int 16384, Value.int 0, Value.int 4]))).set h0 (Sum.inr (2, [Value.int 64, Value.int 2, Value.int 0, Value.int a5, Value.ref h1]))) := by
  refine xRun.of ?_
  refine i_50_0 (x := 78) rfl ?_
  refine i_50_1 rfl ?_
  refine i_50_2 (v := Value.int 0) hw0 rfl ?_
  refine i_50_5 ?_
  refine i_50_6 (c := 4) (by decide) ?_
  refine i_50_7 (fs2 := [Value.int (-16384), Value.int 16384, Value.int 0, Value.int 4]) hw0 (Nat.le_of_ble_eq_true rfl) rfl (by decide) ?_
  refine i_50_10 (x := a0) rfl ?_
  refine i_50_11 (x := 16) rfl ?_
  refine i_50_12 (v := Value.int 0) (xgn (by decide) hw1) rfl ?_
  refine i_50_15 (Nat.le_of_ble_eq_true rfl) (s_37_3 e2 e3 e4) ?_
  refine i_50_18 (lv2 := [(4, Value.int 0), (0, Value.ref 78), (1, Value.ref h0), (2, Value.ref 16), (3, Value.int a0)]) rfl ?_
  refine i_50_20 (x := a0) rfl ?_
  refine i_50_21 (fun h => absurd e5 h) (fun _ => ?_)
  refine i_50_24 (x := 16) rfl ?_
  refine i_50_25 (v := Value.int 0) (xgn (by decide) hw1) rfl ?_
  refine i_50_28 (fun h => absurd h (by decide)) (fun _ => ?_)
  refine i_50_31 (x := 16) rfl ?_
  refine i_50_32 (v := Value.ref 17) (xgn (by decide) hw1) rfl ?_
  refine i_50_35 (xgn (by decide) hw6) (Nat.le_of_ble_eq_true rfl) (s_51_1 (xgn (by decide) hw6) (xgn (by decide) hw7) hg8 e9 hg10) ?_
  refine i_50_38 (x := 16) rfl ?_
  refine i_50_39 (v := Value.ref 17) (xgn (by decide) hw1) rfl ?_
  refine i_50_42 (xgn (by decide) hw6) (Nat.le_of_ble_eq_true rfl) (s_29_0 (xgn (by decide) hw6) (xgn (by decide) hw7) hg8 hg11) ?_
  refine i_50_45 ?_
  refine i_50_46 (c := (a4 - (1 : Int32))) rfl ?_
  refine i_50_47 (fun _ => ?_) (fun h => absurd e12 (fun g => g h))
  refine i_50_54 ?_
  refine i_50_55 (lv2 := [(5, Value.int 0), (4, Value.int 0), (0, Value.ref 78), (1, Value.ref h0), (2, Value.ref 16), (3, Value.int a0)]) rfl ?_
  refine i_50_57 (x := 16) rfl ?_
  refine i_50_58 (xgn (by decide) hw1) (Nat.le_of_ble_eq_true rfl) (s_28_0 (xgn (by decide) hw1) (xgn (by decide) hw6) (xgn (by decide) hw7) hg8 hg11) ?_
  refine i_50_61 (x := 78) rfl ?_
  refine i_50_62 (v := Value.int (-16384)) (xgs hw0) rfl ?_
  refine i_50_65 ?_
  refine i_50_66 (c := (-16385)) (by decide) ?_
  refine i_50_67 (fun _ => ?_) (fun h => absurd e13 (fun g => g h))
  refine i_50_79 ?_
  refine i_50_80 (lv2 := [(4, Value.int 0), (5, Value.int 0), (0, Value.ref 78), (1, Value.ref h0), (2, Value.ref 16), (3, Value.int a0)]) rfl ?_
  refine i_50_82 (x := 0) rfl ?_
  refine i_50_84 (fun _ => ?_) (fun h => absurd h (by decide))
  refine i_50_101 (x := h0) rfl ?_
  refine i_50_102 (x := 16) rfl ?_
  refine i_50_103 (v := Value.int 0) (xgn (by decide) hw1) rfl ?_
  refine i_50_106 (xgn e14 hw15) (Nat.le_of_ble_eq_true rfl) (s_23_0 (xgn e14 hw15) e16) ?_
  refine i_50_109 rfl ?_
  refine i_50_110 ?_
  exact i_50_111 ⟨rfl, rfl⟩
theorem s_27_11 {d : Nat} {w : xW} {h0 : Nat} {a0 : Int32} {a1 : Int32} {g0 : Nat → Value} {a2 : Int32} {a3 : Int32} {h1 : Nat} {a4 : Int32} {h2 : Nat} {a5 : Int32} (hw0 : w[16]? = some (Sum.inr (4, [Value.int 0, Value.ref 17, Value.int a1, Value.int 0]))) (hw1 : w[17]? = some (Sum.inr (3, [Value.ref 18, Value.int 1]))) (hw2 : w[18]? = some (Sum.inl (0, 8, g0))) (hg3 : g0 (0 : Int32).toInt.toNat = Value.int a2) (hg4 : ((32 : Int32) - (xnlz a2)) = a3) (hw5 : w[h0]? = some (Sum.inr (2, [Value.int 64, Value.int 0, Value.int 0, Value.int 0, Value.ref h1]))) (hw6 : w[78]? = some (Sum.inr (1, [Value.int (-16384), Value.int 16384, Value.int 0, Value.int 0]))) (e7 : (((a3 + a1) - (64 : Int32)) - a1).toInt ≤ 0) (hg8 : ((a3 + a1) - ((a3 + a1) - (64 : Int32))) = 64) (e9 : 7 ≤ h0) (e10 : h0 ≠ 16) (e11 : h0 ≠ 17) (e12 : h0 ≠ 18) (hg13 : ((64 : Int32) - a3) = a4) (e14 : h0 ≠ h1) (hw15 : w[h1]? = some (Sum.inr (3, [Value.ref h2, Value.int 0]))) (hg16 : (a3 + a4) = 64) (e17 : h0 ≠ h2) (hw18 : w[h2]? = some (Sum.inl (0, 8, fun _ => Value.int 0))) (e19 : 0 ≤ a4.toInt) (hg20 : g0 (1 : Int32).toInt.toNat = Value.int 0) (e21 : 7 ≤ h2) (e22 : h2 ≠ h1) (e23 : h2 ≠ 17) (e24 : h2 ≠ 18) (e25 : 7 ≤ h1) (e26 : h1 ≠ h0) (e27 : h2 ≠ h0) (e28 : h1 ≠ h2) (e29 : (xbf 1 a2 (0 : Int32) ((32 : Int32) - a4)).toInt ≠ 0) (e30 : ((64 : Int32) - (xnlz (xbf 1 a2 (0 : Int32) ((32 : Int32) - a4)))).toInt ≤ 64) (e31 : h1 ≠ 78) (e32 : h2 ≠ 78) (e33 : h0 ≠ 78) (e34 : (a3 + a1).toInt ≤ 16384) (e35 : (a3 + a1).toInt < (-16384)) (e36 : h1 ≠ 16) (e37 : h2 ≠ 16) (e38 : a0.toInt ≠ 4) (e39 : a0.toInt ≠ 2) (e40 : a0.toInt ≠ 3) (e41 : a0.toInt = 0) (e42 : h1 ≠ 17) (e43 : h1 ≠ 18) (e44 : a2.toInt ≠ 0) (hg45 : ((0 : Int32) + (xntz a2)) = a5) (e46 : a5.toInt ≠ (a3 - (1 : Int32)).toInt) (e47 : (a3 + a1).toInt ≠ (-16385)) (e48 : 78 ≠ h0) : xRun (d + 4) 27 [Value.ref 78, Value.ref h0, Value.ref 16, Value.int a0] w (.inl (some (Value.int (-1)))) ((((((w.set h0 (Sum.inr (2, [Value.int 64, Value.int 3, Value.int 0, Value.int (a3 + a1), Value.ref h1]))).set h2 (Sum.inl (0, 8, xup (xup (fun _ => Value.int 0) (1 : Int32).toInt.toNat (Value.int (xbf 1 a2 (0 : Int32) ((32 : Int32) - a4)))) (0 : Int32).toInt.toNat (Value.int (xbf 1 a2 (0 : Int32) ((0 : Int32) - a4)))))).set h1 (Sum.inr (3, [Value.ref h2, Value.int 2]))).set 78 (Sum.inr (1, [Value.int (-16384), Value.int 16384, Value.int 0, Value.int 4]))).set h0 (Sum.inr (2, [Value.int 64, Value.int 2, Value.int 0, Value.int (a3 + a1), Value.ref h1]))).set 78 (Sum.inr (1, [Value.int (-16384), Value.int 16384, Value.int 0, Value.int 5]))) := by
  refine xRun.of ?_
  refine i_27_0 (x := 16) rfl ?_
  refine i_27_1 hw0 (Nat.le_of_ble_eq_true rfl) (s_28_0 hw0 hw1 hw2 hg3 hg4) ?_
  refine i_27_4 (lv2 := [(4, Value.int (a3 + a1)), (0, Value.ref 78), (1, Value.ref h0), (2, Value.ref 16), (3, Value.int a0)]) rfl ?_
  refine i_27_6 (x := 78) rfl ?_
  refine i_27_7 (x := (a3 + a1)) rfl ?_
  refine i_27_9 (x := h0) rfl ?_
  refine i_27_10 (v := Value.int 64) hw5 rfl ?_
  refine i_27_13 hw6 (Nat.le_of_ble_eq_true rfl) (s_30_0 hw6) ?_
  refine i_27_16 (lv2 := [(5, Value.int ((a3 + a1) - (64 : Int32))), (4, Value.int (a3 + a1)), (0, Value.ref 78), (1, Value.ref h0), (2, Value.ref 16), (3, Value.int a0)]) rfl ?_
  refine i_27_18 (x := 16) rfl ?_
  refine i_27_19 (x := ((a3 + a1) - (64 : Int32))) rfl ?_
  refine i_27_21 (x := a0) rfl ?_
  refine i_27_22 hw0 (Nat.le_of_ble_eq_true rfl) (s_31_0 hw0 hw1 e7) ?_
  refine i_27_25 (lv2 := [(6, Value.int 0), (5, Value.int ((a3 + a1) - (64 : Int32))), (4, Value.int (a3 + a1)), (0, Value.ref 78), (1, Value.ref h0), (2, Value.ref 16), (3, Value.int a0)]) rfl ?_
  refine i_27_27 (x := 16) rfl ?_
  refine i_27_28 (x := ((a3 + a1) - (64 : Int32))) rfl ?_
  refine i_27_30 hw0 (Nat.le_of_ble_eq_true rfl) (s_32_0 hw0 hw1 e7) ?_
  refine i_27_33 (fun h => absurd h (by decide)) (fun _ => ?_)
  refine i_27_36 ?_
  refine i_27_37 ?_
  refine i_27_50 (lv2 := [(7, Value.int 0), (6, Value.int 0), (5, Value.int ((a3 + a1) - (64 : Int32))), (4, Value.int (a3 + a1)), (0, Value.ref 78), (1, Value.ref h0), (2, Value.ref 16), (3, Value.int a0)]) rfl ?_
  refine i_27_52 (x := h0) rfl ?_
  refine i_27_53 (x := 16) rfl ?_
  refine i_27_54 (x := ((a3 + a1) - (64 : Int32))) rfl ?_
  refine i_27_56 (x := 0) rfl ?_
  refine i_27_58 hw5 (Nat.le_of_ble_eq_true rfl) (s_38_0 hw0 hw1 hw2 hg3 hg4 hg8 hw5 e9 e10 e11 e12 hg13 e14 hw15 hg16 e17 hw18 e19 hg20 e21 e22 e23 e24 e25 e26 e27 e28 e29 e30) ?_
  refine i_27_61 (x := h0) rfl ?_
  refine i_27_62 (v := Value.int 3) (xgn e26 (xgn e27 (xgs hw5))) rfl ?_
  refine i_27_65 ?_
  refine i_27_66 (fun h => absurd h (by decide)) (fun _ => ?_)
  refine i_27_69 (x := h0) rfl ?_
  refine i_27_70 (v := Value.int (a3 + a1)) (xgn e26 (xgn e27 (xgs hw5))) rfl ?_
  refine i_27_73 (x := 78) rfl ?_
  refine i_27_74 (v := Value.int 16384) (xgn e31 (xgn e32 (xgn e33 hw6))) rfl ?_
  refine i_27_77 (fun _ => ?_) (fun h => absurd e34 (Int.not_le.mpr h))
  refine i_27_95 (x := h0) rfl ?_
  refine i_27_96 (v := Value.int 3) (xgn e26 (xgn e27 (xgs hw5))) rfl ?_
  refine i_27_99 ?_
  refine i_27_100 (fun h => absurd h (by decide)) (fun _ => ?_)
  refine i_27_103 (x := 78) rfl ?_
  refine i_27_104 (v := Value.int 0) (xgn e31 (xgn e32 (xgn e33 hw6))) rfl ?_
  refine i_27_107 (fun h => absurd h (by decide)) (fun _ => ?_)
  refine i_27_110 (x := h0) rfl ?_
  refine i_27_111 (v := Value.int (a3 + a1)) (xgn e26 (xgn e27 (xgs hw5))) rfl ?_
  refine i_27_114 (x := 78) rfl ?_
  refine i_27_115 (v := Value.int (-16384)) (xgn e31 (xgn e32 (xgn e33 hw6))) rfl ?_
  refine i_27_118 (fun h => absurd e35 (Int.not_lt.mpr h)) (fun _ => ?_)
  refine i_27_121 (x := 78) rfl ?_
  refine i_27_122 (x := h0) rfl ?_
  refine i_27_123 (x := 16) rfl ?_
  refine i_27_124 (x := a0) rfl ?_
  refine i_27_125 (xgn e31 (xgn e32 (xgn e33 hw6))) (Nat.le_of_ble_eq_true rfl) (s_50_6 (xgn e31 (xgn e32 (xgn e33 hw6))) (xgn e36 (xgn e37 (xgn e10 hw0))) e38 e39 e40 e41 (xgn e42 (xgn e23 (xgn e11 hw1))) (xgn e43 (xgn e24 (xgn e12 hw2))) hg3 e44 hg45 hg4 e46 e47 e48 (xgn e26 (xgn e27 (xgs hw5))) e9) ?_
  refine i_27_128 (lv2 := [(7, Value.int (-1)), (6, Value.int 0), (5, Value.int ((a3 + a1) - (64 : Int32))), (4, Value.int (a3 + a1)), (0, Value.ref 78), (1, Value.ref h0), (2, Value.ref 16), (3, Value.int a0)]) rfl ?_
  refine i_27_130 ?_
  refine i_27_164 (x := (-1)) rfl ?_
  refine i_27_166 (fun h => absurd h (by decide)) (fun _ => ?_)
  refine i_27_169 (x := 78) rfl ?_
  refine i_27_170 rfl ?_
  refine i_27_171 (v := Value.int 4) (xgn e33 (xgs (xgn e31 (xgn e32 (xgn e33 hw6))))) rfl ?_
  refine i_27_174 ?_
  refine i_27_175 (c := 5) (by decide) ?_
  refine i_27_176 (fs2 := [Value.int (-16384), Value.int 16384, Value.int 0, Value.int 5]) (xgn e33 (xgs (xgn e31 (xgn e32 (xgn e33 hw6))))) (Nat.le_of_ble_eq_true rfl) rfl (by decide) ?_
  refine i_27_179 (x := 16) rfl ?_
  refine i_27_180 (v := Value.int 0) (xgn (by decide) (xgn e10 (xgn (by decide) (xgn e36 (xgn e37 (xgn e10 hw0)))))) rfl ?_
  refine i_27_183 (fun _ => ?_) (fun h => absurd h (by decide))
  refine i_27_192 (x := (-1)) rfl ?_
  exact i_27_194 ⟨rfl, rfl⟩
theorem s_21_11 {d : Nat} {w : xW} {a0 : Int32} {b0 : Int64} {a1 : Int32} {a2 : Int32} {g0 : Nat → Value} {h0 : Nat} {a3 : Int32} {h1 : Nat} {a4 : Int32} {h2 : Nat} {a5 : Int32} (e0 : 0 ≤ a0.toInt) (e1 : a0.toInt < 16) (e2 : (-40000) ≤ a1.toInt) (e3 : a1.toInt ≤ 40000) (e4 : 0 ≤ a2.toInt) (e5 : a2.toInt ≤ 4) (hw6 : w[7]? = some (Sum.inr (0, [Value.ref 8, Value.ref 78, Value.ref 9, Value.ref 10, Value.ref 13, Value.ref 16, Value.ref 19, Value.ref 93, Value.ref 108, Value.ref 113, Value.ref 29, Value.int 0]))) (hw7 : w[8]? = some (Sum.inl (4, 16, g0))) (hg8 : g0 a0.toInt.toNat = Value.ref h0) (e9 : (lg_cmp b0 (0 : Int64)).toInt ≠ 0) (e10 : 0 ≤ (lg_cmp b0 (0 : Int64)).toInt) (hw11 : w[16]? = some (Sum.inr (4, [Value.int 0, Value.ref 17, Value.int 0, Value.int 0]))) (hw12 : w[17]? = some (Sum.inr (3, [Value.ref 18, Value.int 0]))) (hw13 : w[18]? = some (Sum.inl (0, 8, fun _ => Value.int 0))) (hg14 : (xhi b0) = 0) (e15 : (xlo b0).toInt ≠ 0) (hw16 : w[78]? = some (Sum.inr (1, [Value.int (-16384), Value.int 16384, Value.int 0, Value.int 0]))) (hg17 : ((32 : Int32) - (xnlz (xlo b0))) = a3) (e18 : 16 ≠ h0) (e19 : 17 ≠ h0) (e20 : 18 ≠ h0) (hw21 : w[h0]? = some (Sum.inr (2, [Value.int 64, Value.int 0, Value.int 0, Value.int 0, Value.ref h1]))) (e22 : (((a3 + a1) - (64 : Int32)) - a1).toInt ≤ 0) (hg23 : ((a3 + a1) - ((a3 + a1) - (64 : Int32))) = 64) (e24 : 7 ≤ h0) (e25 : h0 ≠ 16) (e26 : h0 ≠ 17) (e27 : h0 ≠ 18) (hg28 : ((64 : Int32) - a3) = a4) (e29 : h0 ≠ h1) (e30 : 16 ≠ h1) (e31 : 17 ≠ h1) (e32 : 18 ≠ h1) (hw33 : w[h1]? = some (Sum.inr (3, [Value.ref h2, Value.int 0]))) (hg34 : (a3 + a4) = 64) (e35 : h0 ≠ h2) (e36 : 16 ≠ h2) (e37 : 17 ≠ h2) (e38 : 18 ≠ h2) (hw39 : w[h2]? = some (Sum.inl (0, 8, fun _ => Value.int 0))) (e40 : 0 ≤ a4.toInt) (e41 : 7 ≤ h2) (e42 : h2 ≠ h1) (e43 : h2 ≠ 17) (e44 : h2 ≠ 18) (e45 : 7 ≤ h1) (e46 : h1 ≠ h0) (e47 : h2 ≠ h0) (e48 : h1 ≠ h2) (e49 : (xbf 1 (xlo b0) (0 : Int32) ((32 : Int32) - a4)).toInt ≠ 0) (e50 : ((64 : Int32) - (xnlz (xbf 1 (xlo b0) (0 : Int32) ((32 : Int32) - a4)))).toInt ≤ 64) (e51 : h1 ≠ 78) (e52 : h2 ≠ 78) (e53 : h0 ≠ 78) (e54 : (a3 + a1).toInt ≤ 16384) (e55 : (a3 + a1).toInt < (-16384)) (e56 : h1 ≠ 16) (e57 : h2 ≠ 16) (e58 : a2.toInt ≠ 4) (e59 : a2.toInt ≠ 2) (e60 : a2.toInt ≠ 3) (e61 : a2.toInt = 0) (e62 : h1 ≠ 17) (e63 : h1 ≠ 18) (hg64 : ((0 : Int32) + (xntz (xlo b0))) = a5) (e65 : a5.toInt ≠ (a3 - (1 : Int32)).toInt) (e66 : (a3 + a1).toInt ≠ (-16385)) (e67 : 78 ≠ h0) : xRun (d + 5) 21 [Value.ref 7, Value.int a0, Value.long b0, Value.int a1, Value.int a2] w (.inl (some (Value.int (-1)))) (((((((((((w.set 16 (Sum.inr (4, [Value.int 0, Value.ref 17, Value.int 0, Value.int 0]))).set 18 (Sum.inl (0, 8, xup (xup (fun _ => Value.int 0) (0 : Int32).toInt.toNat (Value.int (xlo b0))) (1 : Int32).toInt.toNat (Value.int 0)))).set 17 (Sum.inr (3, [Value.ref 18, Value.int 2]))).set 17 (Sum.inr (3, [Value.ref 18, Value.int 1]))).set 16 (Sum.inr (4, [Value.int 0, Value.ref 17, Value.int a1, Value.int 0]))).set h0 (Sum.inr (2, [Value.int 64, Value.int 3, Value.int 0, Value.int (a3 + a1), Value.ref h1]))).set h2 (Sum.inl (0, 8, xup (xup (fun _ => Value.int 0) (1 : Int32).toInt.toNat (Value.int (xbf 1 (xlo b0) (0 : Int32) ((32 : Int32) - a4)))) (0 : Int32).toInt.toNat (Value.int (xbf 1 (xlo b0) (0 : Int32) ((0 : Int32) - a4)))))).set h1 (Sum.inr (3, [Value.ref h2, Value.int 2]))).set 78 (Sum.inr (1, [Value.int (-16384), Value.int 16384, Value.int 0, Value.int 4]))).set h0 (Sum.inr (2, [Value.int 64, Value.int 2, Value.int 0, Value.int (a3 + a1), Value.ref h1]))).set 78 (Sum.inr (1, [Value.int (-16384), Value.int 16384, Value.int 0, Value.int 5]))) := by
  refine xRun.of ?_
  refine i_21_0 (x := a0) rfl ?_
  refine i_21_1 (Nat.le_of_ble_eq_true rfl) (s_15_0 e0 e1) ?_
  refine i_21_4 (fun h => absurd h (by decide)) (fun _ => ?_)
  refine i_21_7 (x := a1) rfl ?_
  refine i_21_9 ?_
  refine i_21_11 (fun h => absurd e2 (Int.not_le.mpr h)) (fun _ => ?_)
  refine i_21_14 (x := a1) rfl ?_
  refine i_21_16 ?_
  refine i_21_18 (fun h => absurd e3 (Int.not_le.mpr h)) (fun _ => ?_)
  refine i_21_21 (x := a2) rfl ?_
  refine i_21_23 (Nat.le_of_ble_eq_true rfl) (s_22_0 e4 e5) ?_
  refine i_21_26 (fun _ => ?_) (fun h => absurd h (by decide))
  refine i_21_37 (x := 7) rfl ?_
  refine i_21_38 (v := Value.ref 8) hw6 rfl ?_
  refine i_21_41 (x := a0) rfl ?_
  refine i_21_42 (v := Value.ref h0) hw7 e0 e1 hg8 ?_
  refine i_21_43 (lv2 := [(6, Value.ref h0), (0, Value.ref 7), (1, Value.int a0), (2, Value.long b0), (4, Value.int a1), (5, Value.int a2)]) rfl ?_
  refine i_21_45 (x := b0) rfl ?_
  refine i_21_46 ?_
  refine i_21_47 (c := (lg_cmp b0 (0 : Int64))) rfl ?_
  refine i_21_48 (fun _ => ?_) (fun h => absurd e9 (fun g => g h))
  refine i_21_58 (x := 7) rfl ?_
  refine i_21_59 (v := Value.ref 16) hw6 rfl ?_
  refine i_21_62 (x := b0) rfl ?_
  refine i_21_63 ?_
  refine i_21_64 (c := (lg_cmp b0 (0 : Int64))) rfl ?_
  refine i_21_65 (fun _ => ?_) (fun h => absurd e10 (Int.not_le.mpr h))
  refine i_21_72 ?_
  refine i_21_73 (x := b0) rfl ?_
  refine i_21_74 ?_
  refine i_21_75 (c := (lg_cmp b0 (0 : Int64))) rfl ?_
  refine i_21_76 (fun _ => ?_) (fun h => absurd e10 (Int.not_le.mpr h))
  refine i_21_84 (x := b0) rfl ?_
  refine i_21_85 (x := a1) rfl ?_
  refine i_21_87 hw11 (Nat.le_of_ble_eq_true rfl) (s_24_0 hw11 hw12 hw13 hg14 e15) ?_
  refine i_21_90 (x := 7) rfl ?_
  refine i_21_91 (v := Value.ref 78) (xgn (by decide) (xgn (by decide) (xgn (by decide) (xgn (by decide) (xgn (by decide) hw6))))) rfl ?_
  refine i_21_94 (x := h0) rfl ?_
  refine i_21_96 (x := 7) rfl ?_
  refine i_21_97 (v := Value.ref 16) (xgn (by decide) (xgn (by decide) (xgn (by decide) (xgn (by decide) (xgn (by decide) hw6))))) rfl ?_
  refine i_21_100 (x := a2) rfl ?_
  refine i_21_102 (xgn (by decide) (xgn (by decide) (xgn (by decide) (xgn (by decide) (xgn (by decide) hw16))))) (Nat.le_of_ble_eq_true rfl) (s_27_11 (xgs (xgn (by decide) (xgn (by decide) (xgn (by decide) (xgs hw11))))) (xgn (by decide) (xgs (xgs (xgn (by decide) (xgn (by decide) hw12))))) (xgn (by decide) (xgn (by decide) (xgn (by decide) (xgs (xgn (by decide) hw13))))) (xup_n (by decide) xup_s) hg17 (xgn e18 (xgn e19 (xgn e19 (xgn e20 (xgn e18 hw21))))) (xgn (by decide) (xgn (by decide) (xgn (by decide) (xgn (by decide) (xgn (by decide) hw16))))) e22 hg23 e24 e25 e26 e27 hg28 e29 (xgn e30 (xgn e31 (xgn e31 (xgn e32 (xgn e30 hw33))))) hg34 e35 (xgn e36 (xgn e37 (xgn e37 (xgn e38 (xgn e36 hw39))))) e40 xup_s e41 e42 e43 e44 e45 e46 e47 e48 e49 e50 e51 e52 e53 e54 e55 e56 e57 e58 e59 e60 e61 e62 e63 e15 hg64 e65 e66 e67) ?_
  exact i_21_105 ⟨rfl, rfl⟩
theorem s_20_11 {d : Nat} {w : xW} {a0 : Int32} {b0 : Int64} {a1 : Int32} {a2 : Int32} {g0 : Nat → Value} {h0 : Nat} {a3 : Int32} {h1 : Nat} {a4 : Int32} {h2 : Nat} {a5 : Int32} (hw0 : w[7]? = some (Sum.inr (0, [Value.ref 8, Value.ref 78, Value.ref 9, Value.ref 10, Value.ref 13, Value.ref 16, Value.ref 19, Value.ref 93, Value.ref 108, Value.ref 113, Value.ref 29, Value.int 0]))) (e1 : 0 ≤ a0.toInt) (e2 : a0.toInt < 16) (e3 : (-40000) ≤ a1.toInt) (e4 : a1.toInt ≤ 40000) (e5 : 0 ≤ a2.toInt) (e6 : a2.toInt ≤ 4) (hw7 : w[8]? = some (Sum.inl (4, 16, g0))) (hg8 : g0 a0.toInt.toNat = Value.ref h0) (e9 : (lg_cmp b0 (0 : Int64)).toInt ≠ 0) (e10 : 0 ≤ (lg_cmp b0 (0 : Int64)).toInt) (hw11 : w[16]? = some (Sum.inr (4, [Value.int 0, Value.ref 17, Value.int 0, Value.int 0]))) (hw12 : w[17]? = some (Sum.inr (3, [Value.ref 18, Value.int 0]))) (hw13 : w[18]? = some (Sum.inl (0, 8, fun _ => Value.int 0))) (hg14 : (xhi b0) = 0) (e15 : (xlo b0).toInt ≠ 0) (hw16 : w[78]? = some (Sum.inr (1, [Value.int (-16384), Value.int 16384, Value.int 0, Value.int 0]))) (hg17 : ((32 : Int32) - (xnlz (xlo b0))) = a3) (e18 : 16 ≠ h0) (e19 : 17 ≠ h0) (e20 : 18 ≠ h0) (hw21 : w[h0]? = some (Sum.inr (2, [Value.int 64, Value.int 0, Value.int 0, Value.int 0, Value.ref h1]))) (e22 : (((a3 + a1) - (64 : Int32)) - a1).toInt ≤ 0) (hg23 : ((a3 + a1) - ((a3 + a1) - (64 : Int32))) = 64) (e24 : 7 ≤ h0) (e25 : h0 ≠ 16) (e26 : h0 ≠ 17) (e27 : h0 ≠ 18) (hg28 : ((64 : Int32) - a3) = a4) (e29 : h0 ≠ h1) (e30 : 16 ≠ h1) (e31 : 17 ≠ h1) (e32 : 18 ≠ h1) (hw33 : w[h1]? = some (Sum.inr (3, [Value.ref h2, Value.int 0]))) (hg34 : (a3 + a4) = 64) (e35 : h0 ≠ h2) (e36 : 16 ≠ h2) (e37 : 17 ≠ h2) (e38 : 18 ≠ h2) (hw39 : w[h2]? = some (Sum.inl (0, 8, fun _ => Value.int 0))) (e40 : 0 ≤ a4.toInt) (e41 : 7 ≤ h2) (e42 : h2 ≠ h1) (e43 : h2 ≠ 17) (e44 : h2 ≠ 18) (e45 : 7 ≤ h1) (e46 : h1 ≠ h0) (e47 : h2 ≠ h0) (e48 : h1 ≠ h2) (e49 : (xbf 1 (xlo b0) (0 : Int32) ((32 : Int32) - a4)).toInt ≠ 0) (e50 : ((64 : Int32) - (xnlz (xbf 1 (xlo b0) (0 : Int32) ((32 : Int32) - a4)))).toInt ≤ 64) (e51 : h1 ≠ 78) (e52 : h2 ≠ 78) (e53 : h0 ≠ 78) (e54 : (a3 + a1).toInt ≤ 16384) (e55 : (a3 + a1).toInt < (-16384)) (e56 : h1 ≠ 16) (e57 : h2 ≠ 16) (e58 : a2.toInt ≠ 4) (e59 : a2.toInt ≠ 2) (e60 : a2.toInt ≠ 3) (e61 : a2.toInt = 0) (e62 : h1 ≠ 17) (e63 : h1 ≠ 18) (hg64 : ((0 : Int32) + (xntz (xlo b0))) = a5) (e65 : a5.toInt ≠ (a3 - (1 : Int32)).toInt) (e66 : (a3 + a1).toInt ≠ (-16385)) (e67 : 78 ≠ h0) (e68 : h0 ≠ 194) (e69 : h1 ≠ 194) (e70 : h2 ≠ 194) (hw71 : w[194]? = some (Sum.inl (3, 1, fun _ => Value.long 0))) : xRun (d + 6) 20 [Value.ref 7, Value.int a0, Value.long b0, Value.int a1, Value.int a2, Value.ref 194] w (.inl (some (Value.int 0))) ((((((((((((w.set 16 (Sum.inr (4, [Value.int 0, Value.ref 17, Value.int 0, Value.int 0]))).set 18 (Sum.inl (0, 8, xup (xup (fun _ => Value.int 0) (0 : Int32).toInt.toNat (Value.int (xlo b0))) (1 : Int32).toInt.toNat (Value.int 0)))).set 17 (Sum.inr (3, [Value.ref 18, Value.int 2]))).set 17 (Sum.inr (3, [Value.ref 18, Value.int 1]))).set 16 (Sum.inr (4, [Value.int 0, Value.ref 17, Value.int a1, Value.int 0]))).set h0 (Sum.inr (2, [Value.int 64, Value.int 3, Value.int 0, Value.int (a3 + a1), Value.ref h1]))).set h2 (Sum.inl (0, 8, xup (xup (fun _ => Value.int 0) (1 : Int32).toInt.toNat (Value.int (xbf 1 (xlo b0) (0 : Int32) ((32 : Int32) - a4)))) (0 : Int32).toInt.toNat (Value.int (xbf 1 (xlo b0) (0 : Int32) ((0 : Int32) - a4)))))).set h1 (Sum.inr (3, [Value.ref h2, Value.int 2]))).set 78 (Sum.inr (1, [Value.int (-16384), Value.int 16384, Value.int 0, Value.int 4]))).set h0 (Sum.inr (2, [Value.int 64, Value.int 2, Value.int 0, Value.int (a3 + a1), Value.ref h1]))).set 78 (Sum.inr (1, [Value.int (-16384), Value.int 16384, Value.int 0, Value.int 5]))).set 194 (Sum.inl (3, 1, xup (fun _ => Value.long 0) (0 : Int32).toInt.toNat (Value.long (-1))))) := by
  refine xRun.of ?_
  refine i_20_0 (x := 194) rfl ?_
  refine i_20_2 ?_
  refine i_20_3 (x := 7) rfl ?_
  refine i_20_4 (x := a0) rfl ?_
  refine i_20_5 (x := b0) rfl ?_
  refine i_20_6 (x := a1) rfl ?_
  refine i_20_8 (x := a2) rfl ?_
  refine i_20_10 hw0 (Nat.le_of_ble_eq_true rfl) (s_21_11 e1 e2 e3 e4 e5 e6 hw0 hw7 hg8 e9 e10 hw11 hw12 hw13 hg14 e15 hw16 hg17 e18 e19 e20 hw21 e22 hg23 e24 e25 e26 e27 hg28 e29 e30 e31 e32 hw33 hg34 e35 e36 e37 e38 hw39 e40 e41 e42 e43 e44 e45 e46 e47 e48 e49 e50 e51 e52 e53 e54 e55 e56 e57 e58 e59 e60 e61 e62 e63 hg64 e65 e66 e67) ?_
  refine i_20_13 (c := (-1)) (by decide) ?_
  refine i_20_14 (v := Value.long (-1)) (xgn (by decide) (xgn e68 (xgn (by decide) (xgn e69 (xgn e70 (xgn e68 (xgn (by decide) (xgn (by decide) (xgn (by decide) (xgn (by decide) (xgn (by decide) hw71))))))))))) (by decide) (by decide) (by decide) rfl ?_
  refine i_20_15 ?_
  refine i_20_22 ?_
  exact i_20_23 ⟨rfl, rfl⟩
theorem cn3_0_11 {d : Nat} {xs : Nat → Int32} {B K : Int32} (c0 : 0 ≤ (xs 1).toInt) (c1 : (xs 1).toInt < 16) (c2 : (-40000) ≤ (xs 4).toInt) (c3 : (xs 4).toInt ≤ 40000) (c4 : 0 ≤ (xs 5).toInt) (c5 : (xs 5).toInt ≤ 4) (c6 : (lg_cmp (xvv xs) (0 : Int64)).toInt ≠ 0) (c7 : 0 ≤ (lg_cmp (xvv xs) (0 : Int64)).toInt) (c8 : K.toInt = 64 - B.toInt) (c9 : 1 ≤ B.toInt) (c10 : B.toInt ≤ 32) (c11 : (xhi (xvv xs)).toInt = 0) (c12 : (xlo (xvv xs)).toInt ≠ 0) (c13 : (xnlz (xlo (xvv xs))).toInt = 32 - B.toInt) (c14 : (xbf 1 (xlo (xvv xs)) (0 : Int32) ((32 : Int32) - K)).toInt ≠ 0) (c15 : (B + (xs 4)).toInt ≤ 16384) (c16 : (B + (xs 4)).toInt < (-16384)) (c17 : (xs 5).toInt ≠ 4) (c18 : (xs 5).toInt ≠ 2) (c19 : (xs 5).toInt ≠ 3) (c20 : (xs 5).toInt = 0) (c21 : (xntz (xlo (xvv xs))).toInt ≠ B.toInt - 1) (c23 : (B + (xs 4)).toInt ≠ (-16385)) : ∃ w1, xRun (d + 18) 20 [Value.ref 7, Value.int (xs 1), Value.long (xvv xs), Value.int (xs 4), Value.int (xs 5), Value.ref 194] (W0 6 xs) (.inl (some (Value.int 0))) w1 ∧ xKp (W0 6 xs) w1 xPC ∧ w1[194]? = some (Sum.inl (3, 1, xup (fun _ => Value.long 0) (0 : Int32).toInt.toNat (Value.long (-1)))) := by
  have f0 : ((32 : Int32) - (xnlz (xlo (xvv xs)))).toInt = 32 - (xnlz (xlo (xvv xs))).toInt := xsub_g rfl rfl (by omega) (by omega)
  have f1 : (B + (xs 4)).toInt = B.toInt + (xs 4).toInt := xadd_i (by omega) (by omega)
  have f2 : ((B + (xs 4)) - (64 : Int32)).toInt = (B + (xs 4)).toInt - 64 := xsub_g rfl rfl (by omega) (by omega)
  have f3 : (((B + (xs 4)) - (64 : Int32)) - (xs 4)).toInt = ((B + (xs 4)) - (64 : Int32)).toInt - (xs 4).toInt := xsub_i (by omega) (by omega)
  have f4 : ((B + (xs 4)) - ((B + (xs 4)) - (64 : Int32))).toInt = (B + (xs 4)).toInt - ((B + (xs 4)) - (64 : Int32)).toInt := xsub_i (by omega) (by omega)
  have f5 : ((64 : Int32) - B).toInt = 64 - B.toInt := xsub_g rfl rfl (by omega) (by omega)
  have f6 : (B + K).toInt = B.toInt + K.toInt := xadd_i (by omega) (by omega)
  have f7 : 0 ≤ (xnlz (xbf 1 (xlo (xvv xs)) (0 : Int32) ((32 : Int32) - K))).toInt := (xnlz_b _).1
  have f8 : (xnlz (xbf 1 (xlo (xvv xs)) (0 : Int32) ((32 : Int32) - K))).toInt ≤ 32 := (xnlz_b _).2
  have f9 : ((64 : Int32) - (xnlz (xbf 1 (xlo (xvv xs)) (0 : Int32) ((32 : Int32) - K)))).toInt = 64 - (xnlz (xbf 1 (xlo (xvv xs)) (0 : Int32) ((32 : Int32) - K))).toInt := xsub_g rfl rfl (by omega) (by omega)
  have f10 : 0 ≤ (xntz (xlo (xvv xs))).toInt := (xntz_b _).1
  have f11 : (xntz (xlo (xvv xs))).toInt ≤ 32 := (xntz_b _).2
  have f12 : ((0 : Int32) + (xntz (xlo (xvv xs)))).toInt = 0 + (xntz (xlo (xvv xs))).toInt := xadd_g rfl rfl (by omega) (by omega)
  have f13 : (B - (1 : Int32)).toInt = B.toInt - 1 := xsub_g rfl rfl (by omega) (by omega)
  refine ⟨(((((((((((((W0 6 xs).set 16 (Sum.inr (4, [Value.int 0, Value.ref 17, Value.int 0, Value.int 0]))).set 18 (Sum.inl (0, 8, xup (xup (fun _ => Value.int 0) (0 : Int32).toInt.toNat (Value.int (xlo (xvv xs)))) (1 : Int32).toInt.toNat (Value.int 0)))).set 17 (Sum.inr (3, [Value.ref 18, Value.int 2]))).set 17 (Sum.inr (3, [Value.ref 18, Value.int 1]))).set 16 (Sum.inr (4, [Value.int 0, Value.ref 17, Value.int (xs 4), Value.int 0]))).set (30 + 3 * (xs 1).toInt.toNat) (Sum.inr (2, [Value.int 64, Value.int 3, Value.int 0, Value.int (B + (xs 4)), Value.ref (31 + 3 * (xs 1).toInt.toNat)]))).set (32 + 3 * (xs 1).toInt.toNat) (Sum.inl (0, 8, xup (xup (fun _ => Value.int 0) (1 : Int32).toInt.toNat (Value.int (xbf 1 (xlo (xvv xs)) (0 : Int32) ((32 : Int32) - K)))) (0 : Int32).toInt.toNat (Value.int (xbf 1 (xlo (xvv xs)) (0 : Int32) ((0 : Int32) - K)))))).set (31 + 3 * (xs 1).toInt.toNat) (Sum.inr (3, [Value.ref (32 + 3 * (xs 1).toInt.toNat), Value.int 2]))).set 78 (Sum.inr (1, [Value.int (-16384), Value.int 16384, Value.int 0, Value.int 4]))).set (30 + 3 * (xs 1).toInt.toNat) (Sum.inr (2, [Value.int 64, Value.int 2, Value.int 0, Value.int (B + (xs 4)), Value.ref (31 + 3 * (xs 1).toInt.toNat)]))).set 78 (Sum.inr (1, [Value.int (-16384), Value.int 16384, Value.int 0, Value.int 5]))).set 194 (Sum.inl (3, 1, xup (fun _ => Value.long 0) (0 : Int32).toInt.toNat (Value.long (-1))))), (s_20_11 W0_7 (by omega) (by omega) (by omega) (by omega) (by omega) (by omega) W0_8 (greg_at (by omega)) (by omega) (by omega) W0_16 W0_17 W0_18 (show (xhi (xvv xs)) = 0 from (xge_c (n := 0) (by omega) rfl)) (by omega) W0_78 (show ((32 : Int32) - (xnlz (xlo (xvv xs)))) = B from (xge_i (by omega))) (by omega) (by omega) (by omega) (W0_reg (by omega)) (by omega) (show ((B + (xs 4)) - ((B + (xs 4)) - (64 : Int32))) = 64 from (xge_c (n := 64) (by omega) rfl)) (by omega) (by omega) (by omega) (by omega) (show ((64 : Int32) - B) = K from (xge_i (by omega))) (by omega) (by omega) (by omega) (by omega) (W0_man (by omega)) (show (B + K) = 64 from (xge_c (n := 64) (by omega) rfl)) (by omega) (by omega) (by omega) (by omega) (W0_mw (by omega)) (by omega) (by omega) (by omega) (by omega) (by omega) (by omega) (by omega) (by omega) (by omega) (by omega) (by omega) (by omega) (by omega) (by omega) (by omega) (by omega) (by omega) (by omega) (by omega) (by omega) (by omega) (by omega) (by omega) (by omega) (show ((0 : Int32) + (xntz (xlo (xvv xs)))) = (xntz (xlo (xvv xs))) from (xge_i (by omega))) (by omega) (by omega) (by omega) (by omega) (by omega) (by omega) W0_194), ?_, xgs (xgn (by decide) (xgn (by omega) (xgn (by decide) (xgn (by omega) (xgn (by omega) (xgn (by omega) (xgn (by decide) (xgn (by decide) (xgn (by decide) (xgn (by decide) (xgn (by decide) W0_194)))))))))))⟩
  refine xKp.set ?_ (fun h hh => by unfold xPC at hh; omega) (xgn (by decide) (xgn (by omega) (xgn (by decide) (xgn (by omega) (xgn (by omega) (xgn (by omega) (xgn (by decide) (xgn (by decide) (xgn (by decide) (xgn (by decide) (xgn (by decide) W0_194))))))))))) xcs_a
  refine xKp.set ?_ (fun h hh => by unfold xPC at hh; omega) (xgn (by omega) (xgs (xgn (by omega) (xgn (by omega) (xgn (by omega) (xgn (by decide) (xgn (by decide) (xgn (by decide) (xgn (by decide) (xgn (by decide) W0_78)))))))))) xcs_o
  refine xKp.set ?_ (fun h hh => by unfold xPC at hh; omega) (xgn (by omega) (xgn (by omega) (xgn (by omega) (xgs (xgn (by omega) (xgn (by omega) (xgn (by omega) (xgn (by omega) (xgn (by omega) (W0_reg (by omega))))))))))) xcs_o
  refine xKp.set ?_ (fun h hh => by unfold xPC at hh; omega) (xgn (by omega) (xgn (by omega) (xgn (by omega) (xgn (by decide) (xgn (by decide) (xgn (by decide) (xgn (by decide) (xgn (by decide) W0_78)))))))) xcs_o
  refine xKp.set ?_ (fun h hh => by unfold xPC at hh; omega) (xgn (by omega) (xgn (by omega) (xgn (by omega) (xgn (by omega) (xgn (by omega) (xgn (by omega) (xgn (by omega) (W0_man (by omega))))))))) xcs_o
  refine xKp.set ?_ (fun h hh => by unfold xPC at hh; omega) (xgn (by omega) (xgn (by omega) (xgn (by omega) (xgn (by omega) (xgn (by omega) (xgn (by omega) (W0_mw (by omega)))))))) xcs_a
  refine xKp.set ?_ (fun h hh => by unfold xPC at hh; omega) (xgn (by omega) (xgn (by omega) (xgn (by omega) (xgn (by omega) (xgn (by omega) (W0_reg (by omega))))))) xcs_o
  refine xKp.set ?_ (fun h hh => by unfold xPC at hh; omega) (xgn (by decide) (xgn (by decide) (xgn (by decide) (xgs W0_16)))) xcs_o
  refine xKp.set ?_ (fun h hh => by unfold xPC at hh; omega) (xgs (xgn (by decide) (xgn (by decide) W0_17))) xcs_o
  refine xKp.set ?_ (fun h hh => by unfold xPC at hh; omega) (xgn (by decide) (xgn (by decide) W0_17)) xcs_o
  refine xKp.set ?_ (fun h hh => by unfold xPC at hh; omega) (xgn (by decide) W0_18) xcs_a
  refine xKp.set ?_ (fun h hh => by unfold xPC at hh; omega) (W0_16) xcs_o
  exact xKp.refl
theorem s_50_7 {d : Nat} {w : xW} {h0 : Nat} {a0 : Int32} {a1 : Int32} {a2 : Int32} {h1 : Nat} (hw0 : w[78]? = some (Sum.inr (1, [Value.int (-16384), Value.int 16384, Value.int 0, Value.int 0]))) (hw1 : w[16]? = some (Sum.inr (4, [Value.int 0, Value.ref 17, Value.int a1, Value.int 0]))) (e2 : a0.toInt ≠ 4) (e3 : a0.toInt ≠ 2) (e4 : a0.toInt ≠ 3) (e5 : a0.toInt ≠ 0) (e6 : 78 ≠ h0) (hw7 : w[h0]? = some (Sum.inr (2, [Value.int 64, Value.int 3, Value.int 0, Value.int a2, Value.ref h1]))) (e8 : 7 ≤ h0) : xRun (d + 2) 50 [Value.ref 78, Value.ref h0, Value.ref 16, Value.int a0] w (.inl (some (Value.int (-1)))) ((w.set 78 (Sum.inr (1, [Value.int (-16384), Value.int 16384, Value.int 0, Value.int 4]))).set h0 (Sum.inr (2, [Value.int 64, Value.int 2, Value.int 0, Value.int a2, Value.ref h1]))) := by
  refine xRun.of ?_
  refine i_50_0 (x := 78) rfl ?_
  refine i_50_1 rfl ?_
  refine i_50_2 (v := Value.int 0) hw0 rfl ?_
  refine i_50_5 ?_
  refine i_50_6 (c := 4) (by decide) ?_
  refine i_50_7 (fs2 := [Value.int (-16384), Value.int 16384, Value.int 0, Value.int 4]) hw0 (Nat.le_of_ble_eq_true rfl) rfl (by decide) ?_
  refine i_50_10 (x := a0) rfl ?_
  refine i_50_11 (x := 16) rfl ?_
  refine i_50_12 (v := Value.int 0) (xgn (by decide) hw1) rfl ?_
  refine i_50_15 (Nat.le_of_ble_eq_true rfl) (s_37_3 e2 e3 e4) ?_
  refine i_50_18 (lv2 := [(4, Value.int 0), (0, Value.ref 78), (1, Value.ref h0), (2, Value.ref 16), (3, Value.int a0)]) rfl ?_
  refine i_50_20 (x := a0) rfl ?_
  refine i_50_21 (fun _ => ?_) (fun h => absurd e5 (fun g => g h))
  refine i_50_82 (x := 0) rfl ?_
  refine i_50_84 (fun _ => ?_) (fun h => absurd h (by decide))
  refine i_50_101 (x := h0) rfl ?_
  refine i_50_102 (x := 16) rfl ?_
  refine i_50_103 (v := Value.int 0) (xgn (by decide) hw1) rfl ?_
  refine i_50_106 (xgn e6 hw7) (Nat.le_of_ble_eq_true rfl) (s_23_0 (xgn e6 hw7) e8) ?_
  refine i_50_109 rfl ?_
  refine i_50_110 ?_
  exact i_50_111 ⟨rfl, rfl⟩
theorem s_27_12 {d : Nat} {w : xW} {h0 : Nat} {a0 : Int32} {a1 : Int32} {g0 : Nat → Value} {a2 : Int32} {a3 : Int32} {h1 : Nat} {a4 : Int32} {h2 : Nat} (hw0 : w[16]? = some (Sum.inr (4, [Value.int 0, Value.ref 17, Value.int a1, Value.int 0]))) (hw1 : w[17]? = some (Sum.inr (3, [Value.ref 18, Value.int 1]))) (hw2 : w[18]? = some (Sum.inl (0, 8, g0))) (hg3 : g0 (0 : Int32).toInt.toNat = Value.int a2) (hg4 : ((32 : Int32) - (xnlz a2)) = a3) (hw5 : w[h0]? = some (Sum.inr (2, [Value.int 64, Value.int 0, Value.int 0, Value.int 0, Value.ref h1]))) (hw6 : w[78]? = some (Sum.inr (1, [Value.int (-16384), Value.int 16384, Value.int 0, Value.int 0]))) (e7 : (((a3 + a1) - (64 : Int32)) - a1).toInt ≤ 0) (hg8 : ((a3 + a1) - ((a3 + a1) - (64 : Int32))) = 64) (e9 : 7 ≤ h0) (e10 : h0 ≠ 16) (e11 : h0 ≠ 17) (e12 : h0 ≠ 18) (hg13 : ((64 : Int32) - a3) = a4) (e14 : h0 ≠ h1) (hw15 : w[h1]? = some (Sum.inr (3, [Value.ref h2, Value.int 0]))) (hg16 : (a3 + a4) = 64) (e17 : h0 ≠ h2) (hw18 : w[h2]? = some (Sum.inl (0, 8, fun _ => Value.int 0))) (e19 : 0 ≤ a4.toInt) (hg20 : g0 (1 : Int32).toInt.toNat = Value.int 0) (e21 : 7 ≤ h2) (e22 : h2 ≠ h1) (e23 : h2 ≠ 17) (e24 : h2 ≠ 18) (e25 : 7 ≤ h1) (e26 : h1 ≠ h0) (e27 : h2 ≠ h0) (e28 : h1 ≠ h2) (e29 : (xbf 1 a2 (0 : Int32) ((32 : Int32) - a4)).toInt ≠ 0) (e30 : ((64 : Int32) - (xnlz (xbf 1 a2 (0 : Int32) ((32 : Int32) - a4)))).toInt ≤ 64) (e31 : h1 ≠ 78) (e32 : h2 ≠ 78) (e33 : h0 ≠ 78) (e34 : (a3 + a1).toInt ≤ 16384) (e35 : (a3 + a1).toInt < (-16384)) (e36 : h1 ≠ 16) (e37 : h2 ≠ 16) (e38 : a0.toInt ≠ 4) (e39 : a0.toInt ≠ 2) (e40 : a0.toInt ≠ 3) (e41 : a0.toInt ≠ 0) (e42 : 78 ≠ h0) : xRun (d + 4) 27 [Value.ref 78, Value.ref h0, Value.ref 16, Value.int a0] w (.inl (some (Value.int (-1)))) ((((((w.set h0 (Sum.inr (2, [Value.int 64, Value.int 3, Value.int 0, Value.int (a3 + a1), Value.ref h1]))).set h2 (Sum.inl (0, 8, xup (xup (fun _ => Value.int 0) (1 : Int32).toInt.toNat (Value.int (xbf 1 a2 (0 : Int32) ((32 : Int32) - a4)))) (0 : Int32).toInt.toNat (Value.int (xbf 1 a2 (0 : Int32) ((0 : Int32) - a4)))))).set h1 (Sum.inr (3, [Value.ref h2, Value.int 2]))).set 78 (Sum.inr (1, [Value.int (-16384), Value.int 16384, Value.int 0, Value.int 4]))).set h0 (Sum.inr (2, [Value.int 64, Value.int 2, Value.int 0, Value.int (a3 + a1), Value.ref h1]))).set 78 (Sum.inr (1, [Value.int (-16384), Value.int 16384, Value.int 0, Value.int 5]))) := by
  refine xRun.of ?_
  refine i_27_0 (x := 16) rfl ?_
  refine i_27_1 hw0 (Nat.le_of_ble_eq_true rfl) (s_28_0 hw0 hw1 hw2 hg3 hg4) ?_
  refine i_27_4 (lv2 := [(4, Value.int (a3 + a1)), (0, Value.ref 78), (1, Value.ref h0), (2, Value.ref 16), (3, Value.int a0)]) rfl ?_
  refine i_27_6 (x := 78) rfl ?_
  refine i_27_7 (x := (a3 + a1)) rfl ?_
  refine i_27_9 (x := h0) rfl ?_
  refine i_27_10 (v := Value.int 64) hw5 rfl ?_
  refine i_27_13 hw6 (Nat.le_of_ble_eq_true rfl) (s_30_0 hw6) ?_
  refine i_27_16 (lv2 := [(5, Value.int ((a3 + a1) - (64 : Int32))), (4, Value.int (a3 + a1)), (0, Value.ref 78), (1, Value.ref h0), (2, Value.ref 16), (3, Value.int a0)]) rfl ?_
  refine i_27_18 (x := 16) rfl ?_
  refine i_27_19 (x := ((a3 + a1) - (64 : Int32))) rfl ?_
  refine i_27_21 (x := a0) rfl ?_
  refine i_27_22 hw0 (Nat.le_of_ble_eq_true rfl) (s_31_0 hw0 hw1 e7) ?_
  refine i_27_25 (lv2 := [(6, Value.int 0), (5, Value.int ((a3 + a1) - (64 : Int32))), (4, Value.int (a3 + a1)), (0, Value.ref 78), (1, Value.ref h0), (2, Value.ref 16), (3, Value.int a0)]) rfl ?_
  refine i_27_27 (x := 16) rfl ?_
  refine i_27_28 (x := ((a3 + a1) - (64 : Int32))) rfl ?_
  refine i_27_30 hw0 (Nat.le_of_ble_eq_true rfl) (s_32_0 hw0 hw1 e7) ?_
  refine i_27_33 (fun h => absurd h (by decide)) (fun _ => ?_)
  refine i_27_36 ?_
  refine i_27_37 ?_
  refine i_27_50 (lv2 := [(7, Value.int 0), (6, Value.int 0), (5, Value.int ((a3 + a1) - (64 : Int32))), (4, Value.int (a3 + a1)), (0, Value.ref 78), (1, Value.ref h0), (2, Value.ref 16), (3, Value.int a0)]) rfl ?_
  refine i_27_52 (x := h0) rfl ?_
  refine i_27_53 (x := 16) rfl ?_
  refine i_27_54 (x := ((a3 + a1) - (64 : Int32))) rfl ?_
  refine i_27_56 (x := 0) rfl ?_
  refine i_27_58 hw5 (Nat.le_of_ble_eq_true rfl) (s_38_0 hw0 hw1 hw2 hg3 hg4 hg8 hw5 e9 e10 e11 e12 hg13 e14 hw15 hg16 e17 hw18 e19 hg20 e21 e22 e23 e24 e25 e26 e27 e28 e29 e30) ?_
  refine i_27_61 (x := h0) rfl ?_
  refine i_27_62 (v := Value.int 3) (xgn e26 (xgn e27 (xgs hw5))) rfl ?_
  refine i_27_65 ?_
  refine i_27_66 (fun h => absurd h (by decide)) (fun _ => ?_)
  refine i_27_69 (x := h0) rfl ?_
  refine i_27_70 (v := Value.int (a3 + a1)) (xgn e26 (xgn e27 (xgs hw5))) rfl ?_
  refine i_27_73 (x := 78) rfl ?_
  refine i_27_74 (v := Value.int 16384) (xgn e31 (xgn e32 (xgn e33 hw6))) rfl ?_
  refine i_27_77 (fun _ => ?_) (fun h => absurd e34 (Int.not_le.mpr h))
  refine i_27_95 (x := h0) rfl ?_
  refine i_27_96 (v := Value.int 3) (xgn e26 (xgn e27 (xgs hw5))) rfl ?_
  refine i_27_99 ?_
  refine i_27_100 (fun h => absurd h (by decide)) (fun _ => ?_)
  refine i_27_103 (x := 78) rfl ?_
  refine i_27_104 (v := Value.int 0) (xgn e31 (xgn e32 (xgn e33 hw6))) rfl ?_
  refine i_27_107 (fun h => absurd h (by decide)) (fun _ => ?_)
  refine i_27_110 (x := h0) rfl ?_
  refine i_27_111 (v := Value.int (a3 + a1)) (xgn e26 (xgn e27 (xgs hw5))) rfl ?_
  refine i_27_114 (x := 78) rfl ?_
  refine i_27_115 (v := Value.int (-16384)) (xgn e31 (xgn e32 (xgn e33 hw6))) rfl ?_
  refine i_27_118 (fun h => absurd e35 (Int.not_lt.mpr h)) (fun _ => ?_)
  refine i_27_121 (x := 78) rfl ?_
  refine i_27_122 (x := h0) rfl ?_
  refine i_27_123 (x := 16) rfl ?_
  refine i_27_124 (x := a0) rfl ?_
  refine i_27_125 (xgn e31 (xgn e32 (xgn e33 hw6))) (Nat.le_of_ble_eq_true rfl) (s_50_7 (xgn e31 (xgn e32 (xgn e33 hw6))) (xgn e36 (xgn e37 (xgn e10 hw0))) e38 e39 e40 e41 e42 (xgn e26 (xgn e27 (xgs hw5))) e9) ?_
  refine i_27_128 (lv2 := [(7, Value.int (-1)), (6, Value.int 0), (5, Value.int ((a3 + a1) - (64 : Int32))), (4, Value.int (a3 + a1)), (0, Value.ref 78), (1, Value.ref h0), (2, Value.ref 16), (3, Value.int a0)]) rfl ?_
  refine i_27_130 ?_
  refine i_27_164 (x := (-1)) rfl ?_
  refine i_27_166 (fun h => absurd h (by decide)) (fun _ => ?_)
  refine i_27_169 (x := 78) rfl ?_
  refine i_27_170 rfl ?_
  refine i_27_171 (v := Value.int 4) (xgn e33 (xgs (xgn e31 (xgn e32 (xgn e33 hw6))))) rfl ?_
  refine i_27_174 ?_
  refine i_27_175 (c := 5) (by decide) ?_
  refine i_27_176 (fs2 := [Value.int (-16384), Value.int 16384, Value.int 0, Value.int 5]) (xgn e33 (xgs (xgn e31 (xgn e32 (xgn e33 hw6))))) (Nat.le_of_ble_eq_true rfl) rfl (by decide) ?_
  refine i_27_179 (x := 16) rfl ?_
  refine i_27_180 (v := Value.int 0) (xgn (by decide) (xgn e10 (xgn (by decide) (xgn e36 (xgn e37 (xgn e10 hw0)))))) rfl ?_
  refine i_27_183 (fun _ => ?_) (fun h => absurd h (by decide))
  refine i_27_192 (x := (-1)) rfl ?_
  exact i_27_194 ⟨rfl, rfl⟩
theorem s_21_12 {d : Nat} {w : xW} {a0 : Int32} {b0 : Int64} {a1 : Int32} {a2 : Int32} {g0 : Nat → Value} {h0 : Nat} {a3 : Int32} {h1 : Nat} {a4 : Int32} {h2 : Nat} (e0 : 0 ≤ a0.toInt) (e1 : a0.toInt < 16) (e2 : (-40000) ≤ a1.toInt) (e3 : a1.toInt ≤ 40000) (e4 : 0 ≤ a2.toInt) (e5 : a2.toInt ≤ 4) (hw6 : w[7]? = some (Sum.inr (0, [Value.ref 8, Value.ref 78, Value.ref 9, Value.ref 10, Value.ref 13, Value.ref 16, Value.ref 19, Value.ref 93, Value.ref 108, Value.ref 113, Value.ref 29, Value.int 0]))) (hw7 : w[8]? = some (Sum.inl (4, 16, g0))) (hg8 : g0 a0.toInt.toNat = Value.ref h0) (e9 : (lg_cmp b0 (0 : Int64)).toInt ≠ 0) (e10 : 0 ≤ (lg_cmp b0 (0 : Int64)).toInt) (hw11 : w[16]? = some (Sum.inr (4, [Value.int 0, Value.ref 17, Value.int 0, Value.int 0]))) (hw12 : w[17]? = some (Sum.inr (3, [Value.ref 18, Value.int 0]))) (hw13 : w[18]? = some (Sum.inl (0, 8, fun _ => Value.int 0))) (hg14 : (xhi b0) = 0) (e15 : (xlo b0).toInt ≠ 0) (hw16 : w[78]? = some (Sum.inr (1, [Value.int (-16384), Value.int 16384, Value.int 0, Value.int 0]))) (hg17 : ((32 : Int32) - (xnlz (xlo b0))) = a3) (e18 : 16 ≠ h0) (e19 : 17 ≠ h0) (e20 : 18 ≠ h0) (hw21 : w[h0]? = some (Sum.inr (2, [Value.int 64, Value.int 0, Value.int 0, Value.int 0, Value.ref h1]))) (e22 : (((a3 + a1) - (64 : Int32)) - a1).toInt ≤ 0) (hg23 : ((a3 + a1) - ((a3 + a1) - (64 : Int32))) = 64) (e24 : 7 ≤ h0) (e25 : h0 ≠ 16) (e26 : h0 ≠ 17) (e27 : h0 ≠ 18) (hg28 : ((64 : Int32) - a3) = a4) (e29 : h0 ≠ h1) (e30 : 16 ≠ h1) (e31 : 17 ≠ h1) (e32 : 18 ≠ h1) (hw33 : w[h1]? = some (Sum.inr (3, [Value.ref h2, Value.int 0]))) (hg34 : (a3 + a4) = 64) (e35 : h0 ≠ h2) (e36 : 16 ≠ h2) (e37 : 17 ≠ h2) (e38 : 18 ≠ h2) (hw39 : w[h2]? = some (Sum.inl (0, 8, fun _ => Value.int 0))) (e40 : 0 ≤ a4.toInt) (e41 : 7 ≤ h2) (e42 : h2 ≠ h1) (e43 : h2 ≠ 17) (e44 : h2 ≠ 18) (e45 : 7 ≤ h1) (e46 : h1 ≠ h0) (e47 : h2 ≠ h0) (e48 : h1 ≠ h2) (e49 : (xbf 1 (xlo b0) (0 : Int32) ((32 : Int32) - a4)).toInt ≠ 0) (e50 : ((64 : Int32) - (xnlz (xbf 1 (xlo b0) (0 : Int32) ((32 : Int32) - a4)))).toInt ≤ 64) (e51 : h1 ≠ 78) (e52 : h2 ≠ 78) (e53 : h0 ≠ 78) (e54 : (a3 + a1).toInt ≤ 16384) (e55 : (a3 + a1).toInt < (-16384)) (e56 : h1 ≠ 16) (e57 : h2 ≠ 16) (e58 : a2.toInt ≠ 4) (e59 : a2.toInt ≠ 2) (e60 : a2.toInt ≠ 3) (e61 : a2.toInt ≠ 0) (e62 : 78 ≠ h0) : xRun (d + 5) 21 [Value.ref 7, Value.int a0, Value.long b0, Value.int a1, Value.int a2] w (.inl (some (Value.int (-1)))) (((((((((((w.set 16 (Sum.inr (4, [Value.int 0, Value.ref 17, Value.int 0, Value.int 0]))).set 18 (Sum.inl (0, 8, xup (xup (fun _ => Value.int 0) (0 : Int32).toInt.toNat (Value.int (xlo b0))) (1 : Int32).toInt.toNat (Value.int 0)))).set 17 (Sum.inr (3, [Value.ref 18, Value.int 2]))).set 17 (Sum.inr (3, [Value.ref 18, Value.int 1]))).set 16 (Sum.inr (4, [Value.int 0, Value.ref 17, Value.int a1, Value.int 0]))).set h0 (Sum.inr (2, [Value.int 64, Value.int 3, Value.int 0, Value.int (a3 + a1), Value.ref h1]))).set h2 (Sum.inl (0, 8, xup (xup (fun _ => Value.int 0) (1 : Int32).toInt.toNat (Value.int (xbf 1 (xlo b0) (0 : Int32) ((32 : Int32) - a4)))) (0 : Int32).toInt.toNat (Value.int (xbf 1 (xlo b0) (0 : Int32) ((0 : Int32) - a4)))))).set h1 (Sum.inr (3, [Value.ref h2, Value.int 2]))).set 78 (Sum.inr (1, [Value.int (-16384), Value.int 16384, Value.int 0, Value.int 4]))).set h0 (Sum.inr (2, [Value.int 64, Value.int 2, Value.int 0, Value.int (a3 + a1), Value.ref h1]))).set 78 (Sum.inr (1, [Value.int (-16384), Value.int 16384, Value.int 0, Value.int 5]))) := by
  refine xRun.of ?_
  refine i_21_0 (x := a0) rfl ?_
  refine i_21_1 (Nat.le_of_ble_eq_true rfl) (s_15_0 e0 e1) ?_
  refine i_21_4 (fun h => absurd h (by decide)) (fun _ => ?_)
  refine i_21_7 (x := a1) rfl ?_
  refine i_21_9 ?_
  refine i_21_11 (fun h => absurd e2 (Int.not_le.mpr h)) (fun _ => ?_)
  refine i_21_14 (x := a1) rfl ?_
  refine i_21_16 ?_
  refine i_21_18 (fun h => absurd e3 (Int.not_le.mpr h)) (fun _ => ?_)
  refine i_21_21 (x := a2) rfl ?_
  refine i_21_23 (Nat.le_of_ble_eq_true rfl) (s_22_0 e4 e5) ?_
  refine i_21_26 (fun _ => ?_) (fun h => absurd h (by decide))
  refine i_21_37 (x := 7) rfl ?_
  refine i_21_38 (v := Value.ref 8) hw6 rfl ?_
  refine i_21_41 (x := a0) rfl ?_
  refine i_21_42 (v := Value.ref h0) hw7 e0 e1 hg8 ?_
  refine i_21_43 (lv2 := [(6, Value.ref h0), (0, Value.ref 7), (1, Value.int a0), (2, Value.long b0), (4, Value.int a1), (5, Value.int a2)]) rfl ?_
  refine i_21_45 (x := b0) rfl ?_
  refine i_21_46 ?_
  refine i_21_47 (c := (lg_cmp b0 (0 : Int64))) rfl ?_
  refine i_21_48 (fun _ => ?_) (fun h => absurd e9 (fun g => g h))
  refine i_21_58 (x := 7) rfl ?_
  refine i_21_59 (v := Value.ref 16) hw6 rfl ?_
  refine i_21_62 (x := b0) rfl ?_
  refine i_21_63 ?_
  refine i_21_64 (c := (lg_cmp b0 (0 : Int64))) rfl ?_
  refine i_21_65 (fun _ => ?_) (fun h => absurd e10 (Int.not_le.mpr h))
  refine i_21_72 ?_
  refine i_21_73 (x := b0) rfl ?_
  refine i_21_74 ?_
  refine i_21_75 (c := (lg_cmp b0 (0 : Int64))) rfl ?_
  refine i_21_76 (fun _ => ?_) (fun h => absurd e10 (Int.not_le.mpr h))
  refine i_21_84 (x := b0) rfl ?_
  refine i_21_85 (x := a1) rfl ?_
  refine i_21_87 hw11 (Nat.le_of_ble_eq_true rfl) (s_24_0 hw11 hw12 hw13 hg14 e15) ?_
  refine i_21_90 (x := 7) rfl ?_
  refine i_21_91 (v := Value.ref 78) (xgn (by decide) (xgn (by decide) (xgn (by decide) (xgn (by decide) (xgn (by decide) hw6))))) rfl ?_
  refine i_21_94 (x := h0) rfl ?_
  refine i_21_96 (x := 7) rfl ?_
  refine i_21_97 (v := Value.ref 16) (xgn (by decide) (xgn (by decide) (xgn (by decide) (xgn (by decide) (xgn (by decide) hw6))))) rfl ?_
  refine i_21_100 (x := a2) rfl ?_
  refine i_21_102 (xgn (by decide) (xgn (by decide) (xgn (by decide) (xgn (by decide) (xgn (by decide) hw16))))) (Nat.le_of_ble_eq_true rfl) (s_27_12 (xgs (xgn (by decide) (xgn (by decide) (xgn (by decide) (xgs hw11))))) (xgn (by decide) (xgs (xgs (xgn (by decide) (xgn (by decide) hw12))))) (xgn (by decide) (xgn (by decide) (xgn (by decide) (xgs (xgn (by decide) hw13))))) (xup_n (by decide) xup_s) hg17 (xgn e18 (xgn e19 (xgn e19 (xgn e20 (xgn e18 hw21))))) (xgn (by decide) (xgn (by decide) (xgn (by decide) (xgn (by decide) (xgn (by decide) hw16))))) e22 hg23 e24 e25 e26 e27 hg28 e29 (xgn e30 (xgn e31 (xgn e31 (xgn e32 (xgn e30 hw33))))) hg34 e35 (xgn e36 (xgn e37 (xgn e37 (xgn e38 (xgn e36 hw39))))) e40 xup_s e41 e42 e43 e44 e45 e46 e47 e48 e49 e50 e51 e52 e53 e54 e55 e56 e57 e58 e59 e60 e61 e62) ?_
  exact i_21_105 ⟨rfl, rfl⟩
theorem s_20_12 {d : Nat} {w : xW} {a0 : Int32} {b0 : Int64} {a1 : Int32} {a2 : Int32} {g0 : Nat → Value} {h0 : Nat} {a3 : Int32} {h1 : Nat} {a4 : Int32} {h2 : Nat} (hw0 : w[7]? = some (Sum.inr (0, [Value.ref 8, Value.ref 78, Value.ref 9, Value.ref 10, Value.ref 13, Value.ref 16, Value.ref 19, Value.ref 93, Value.ref 108, Value.ref 113, Value.ref 29, Value.int 0]))) (e1 : 0 ≤ a0.toInt) (e2 : a0.toInt < 16) (e3 : (-40000) ≤ a1.toInt) (e4 : a1.toInt ≤ 40000) (e5 : 0 ≤ a2.toInt) (e6 : a2.toInt ≤ 4) (hw7 : w[8]? = some (Sum.inl (4, 16, g0))) (hg8 : g0 a0.toInt.toNat = Value.ref h0) (e9 : (lg_cmp b0 (0 : Int64)).toInt ≠ 0) (e10 : 0 ≤ (lg_cmp b0 (0 : Int64)).toInt) (hw11 : w[16]? = some (Sum.inr (4, [Value.int 0, Value.ref 17, Value.int 0, Value.int 0]))) (hw12 : w[17]? = some (Sum.inr (3, [Value.ref 18, Value.int 0]))) (hw13 : w[18]? = some (Sum.inl (0, 8, fun _ => Value.int 0))) (hg14 : (xhi b0) = 0) (e15 : (xlo b0).toInt ≠ 0) (hw16 : w[78]? = some (Sum.inr (1, [Value.int (-16384), Value.int 16384, Value.int 0, Value.int 0]))) (hg17 : ((32 : Int32) - (xnlz (xlo b0))) = a3) (e18 : 16 ≠ h0) (e19 : 17 ≠ h0) (e20 : 18 ≠ h0) (hw21 : w[h0]? = some (Sum.inr (2, [Value.int 64, Value.int 0, Value.int 0, Value.int 0, Value.ref h1]))) (e22 : (((a3 + a1) - (64 : Int32)) - a1).toInt ≤ 0) (hg23 : ((a3 + a1) - ((a3 + a1) - (64 : Int32))) = 64) (e24 : 7 ≤ h0) (e25 : h0 ≠ 16) (e26 : h0 ≠ 17) (e27 : h0 ≠ 18) (hg28 : ((64 : Int32) - a3) = a4) (e29 : h0 ≠ h1) (e30 : 16 ≠ h1) (e31 : 17 ≠ h1) (e32 : 18 ≠ h1) (hw33 : w[h1]? = some (Sum.inr (3, [Value.ref h2, Value.int 0]))) (hg34 : (a3 + a4) = 64) (e35 : h0 ≠ h2) (e36 : 16 ≠ h2) (e37 : 17 ≠ h2) (e38 : 18 ≠ h2) (hw39 : w[h2]? = some (Sum.inl (0, 8, fun _ => Value.int 0))) (e40 : 0 ≤ a4.toInt) (e41 : 7 ≤ h2) (e42 : h2 ≠ h1) (e43 : h2 ≠ 17) (e44 : h2 ≠ 18) (e45 : 7 ≤ h1) (e46 : h1 ≠ h0) (e47 : h2 ≠ h0) (e48 : h1 ≠ h2) (e49 : (xbf 1 (xlo b0) (0 : Int32) ((32 : Int32) - a4)).toInt ≠ 0) (e50 : ((64 : Int32) - (xnlz (xbf 1 (xlo b0) (0 : Int32) ((32 : Int32) - a4)))).toInt ≤ 64) (e51 : h1 ≠ 78) (e52 : h2 ≠ 78) (e53 : h0 ≠ 78) (e54 : (a3 + a1).toInt ≤ 16384) (e55 : (a3 + a1).toInt < (-16384)) (e56 : h1 ≠ 16) (e57 : h2 ≠ 16) (e58 : a2.toInt ≠ 4) (e59 : a2.toInt ≠ 2) (e60 : a2.toInt ≠ 3) (e61 : a2.toInt ≠ 0) (e62 : 78 ≠ h0) (e63 : h0 ≠ 194) (e64 : h1 ≠ 194) (e65 : h2 ≠ 194) (hw66 : w[194]? = some (Sum.inl (3, 1, fun _ => Value.long 0))) : xRun (d + 6) 20 [Value.ref 7, Value.int a0, Value.long b0, Value.int a1, Value.int a2, Value.ref 194] w (.inl (some (Value.int 0))) ((((((((((((w.set 16 (Sum.inr (4, [Value.int 0, Value.ref 17, Value.int 0, Value.int 0]))).set 18 (Sum.inl (0, 8, xup (xup (fun _ => Value.int 0) (0 : Int32).toInt.toNat (Value.int (xlo b0))) (1 : Int32).toInt.toNat (Value.int 0)))).set 17 (Sum.inr (3, [Value.ref 18, Value.int 2]))).set 17 (Sum.inr (3, [Value.ref 18, Value.int 1]))).set 16 (Sum.inr (4, [Value.int 0, Value.ref 17, Value.int a1, Value.int 0]))).set h0 (Sum.inr (2, [Value.int 64, Value.int 3, Value.int 0, Value.int (a3 + a1), Value.ref h1]))).set h2 (Sum.inl (0, 8, xup (xup (fun _ => Value.int 0) (1 : Int32).toInt.toNat (Value.int (xbf 1 (xlo b0) (0 : Int32) ((32 : Int32) - a4)))) (0 : Int32).toInt.toNat (Value.int (xbf 1 (xlo b0) (0 : Int32) ((0 : Int32) - a4)))))).set h1 (Sum.inr (3, [Value.ref h2, Value.int 2]))).set 78 (Sum.inr (1, [Value.int (-16384), Value.int 16384, Value.int 0, Value.int 4]))).set h0 (Sum.inr (2, [Value.int 64, Value.int 2, Value.int 0, Value.int (a3 + a1), Value.ref h1]))).set 78 (Sum.inr (1, [Value.int (-16384), Value.int 16384, Value.int 0, Value.int 5]))).set 194 (Sum.inl (3, 1, xup (fun _ => Value.long 0) (0 : Int32).toInt.toNat (Value.long (-1))))) := by
  refine xRun.of ?_
  refine i_20_0 (x := 194) rfl ?_
  refine i_20_2 ?_
  refine i_20_3 (x := 7) rfl ?_
  refine i_20_4 (x := a0) rfl ?_
  refine i_20_5 (x := b0) rfl ?_
  refine i_20_6 (x := a1) rfl ?_
  refine i_20_8 (x := a2) rfl ?_
  refine i_20_10 hw0 (Nat.le_of_ble_eq_true rfl) (s_21_12 e1 e2 e3 e4 e5 e6 hw0 hw7 hg8 e9 e10 hw11 hw12 hw13 hg14 e15 hw16 hg17 e18 e19 e20 hw21 e22 hg23 e24 e25 e26 e27 hg28 e29 e30 e31 e32 hw33 hg34 e35 e36 e37 e38 hw39 e40 e41 e42 e43 e44 e45 e46 e47 e48 e49 e50 e51 e52 e53 e54 e55 e56 e57 e58 e59 e60 e61 e62) ?_
  refine i_20_13 (c := (-1)) (by decide) ?_
  refine i_20_14 (v := Value.long (-1)) (xgn (by decide) (xgn e63 (xgn (by decide) (xgn e64 (xgn e65 (xgn e63 (xgn (by decide) (xgn (by decide) (xgn (by decide) (xgn (by decide) (xgn (by decide) hw66))))))))))) (by decide) (by decide) (by decide) rfl ?_
  refine i_20_15 ?_
  refine i_20_22 ?_
  exact i_20_23 ⟨rfl, rfl⟩
theorem cn3_0_12 {d : Nat} {xs : Nat → Int32} {B K : Int32} (c0 : 0 ≤ (xs 1).toInt) (c1 : (xs 1).toInt < 16) (c2 : (-40000) ≤ (xs 4).toInt) (c3 : (xs 4).toInt ≤ 40000) (c4 : 0 ≤ (xs 5).toInt) (c5 : (xs 5).toInt ≤ 4) (c6 : (lg_cmp (xvv xs) (0 : Int64)).toInt ≠ 0) (c7 : 0 ≤ (lg_cmp (xvv xs) (0 : Int64)).toInt) (c8 : K.toInt = 64 - B.toInt) (c9 : 1 ≤ B.toInt) (c10 : B.toInt ≤ 32) (c11 : (xhi (xvv xs)).toInt = 0) (c12 : (xlo (xvv xs)).toInt ≠ 0) (c13 : (xnlz (xlo (xvv xs))).toInt = 32 - B.toInt) (c14 : (xbf 1 (xlo (xvv xs)) (0 : Int32) ((32 : Int32) - K)).toInt ≠ 0) (c15 : (B + (xs 4)).toInt ≤ 16384) (c16 : (B + (xs 4)).toInt < (-16384)) (c17 : (xs 5).toInt ≠ 4) (c18 : (xs 5).toInt ≠ 2) (c19 : (xs 5).toInt ≠ 3) (c20 : (xs 5).toInt ≠ 0) : ∃ w1, xRun (d + 18) 20 [Value.ref 7, Value.int (xs 1), Value.long (xvv xs), Value.int (xs 4), Value.int (xs 5), Value.ref 194] (W0 6 xs) (.inl (some (Value.int 0))) w1 ∧ xKp (W0 6 xs) w1 xPC ∧ w1[194]? = some (Sum.inl (3, 1, xup (fun _ => Value.long 0) (0 : Int32).toInt.toNat (Value.long (-1)))) := by
  have f0 : ((32 : Int32) - (xnlz (xlo (xvv xs)))).toInt = 32 - (xnlz (xlo (xvv xs))).toInt := xsub_g rfl rfl (by omega) (by omega)
  have f1 : (B + (xs 4)).toInt = B.toInt + (xs 4).toInt := xadd_i (by omega) (by omega)
  have f2 : ((B + (xs 4)) - (64 : Int32)).toInt = (B + (xs 4)).toInt - 64 := xsub_g rfl rfl (by omega) (by omega)
  have f3 : (((B + (xs 4)) - (64 : Int32)) - (xs 4)).toInt = ((B + (xs 4)) - (64 : Int32)).toInt - (xs 4).toInt := xsub_i (by omega) (by omega)
  have f4 : ((B + (xs 4)) - ((B + (xs 4)) - (64 : Int32))).toInt = (B + (xs 4)).toInt - ((B + (xs 4)) - (64 : Int32)).toInt := xsub_i (by omega) (by omega)
  have f5 : ((64 : Int32) - B).toInt = 64 - B.toInt := xsub_g rfl rfl (by omega) (by omega)
  have f6 : (B + K).toInt = B.toInt + K.toInt := xadd_i (by omega) (by omega)
  have f7 : 0 ≤ (xnlz (xbf 1 (xlo (xvv xs)) (0 : Int32) ((32 : Int32) - K))).toInt := (xnlz_b _).1
  have f8 : (xnlz (xbf 1 (xlo (xvv xs)) (0 : Int32) ((32 : Int32) - K))).toInt ≤ 32 := (xnlz_b _).2
  have f9 : ((64 : Int32) - (xnlz (xbf 1 (xlo (xvv xs)) (0 : Int32) ((32 : Int32) - K)))).toInt = 64 - (xnlz (xbf 1 (xlo (xvv xs)) (0 : Int32) ((32 : Int32) - K))).toInt := xsub_g rfl rfl (by omega) (by omega)
  refine ⟨(((((((((((((W0 6 xs).set 16 (Sum.inr (4, [Value.int 0, Value.ref 17, Value.int 0, Value.int 0]))).set 18 (Sum.inl (0, 8, xup (xup (fun _ => Value.int 0) (0 : Int32).toInt.toNat (Value.int (xlo (xvv xs)))) (1 : Int32).toInt.toNat (Value.int 0)))).set 17 (Sum.inr (3, [Value.ref 18, Value.int 2]))).set 17 (Sum.inr (3, [Value.ref 18, Value.int 1]))).set 16 (Sum.inr (4, [Value.int 0, Value.ref 17, Value.int (xs 4), Value.int 0]))).set (30 + 3 * (xs 1).toInt.toNat) (Sum.inr (2, [Value.int 64, Value.int 3, Value.int 0, Value.int (B + (xs 4)), Value.ref (31 + 3 * (xs 1).toInt.toNat)]))).set (32 + 3 * (xs 1).toInt.toNat) (Sum.inl (0, 8, xup (xup (fun _ => Value.int 0) (1 : Int32).toInt.toNat (Value.int (xbf 1 (xlo (xvv xs)) (0 : Int32) ((32 : Int32) - K)))) (0 : Int32).toInt.toNat (Value.int (xbf 1 (xlo (xvv xs)) (0 : Int32) ((0 : Int32) - K)))))).set (31 + 3 * (xs 1).toInt.toNat) (Sum.inr (3, [Value.ref (32 + 3 * (xs 1).toInt.toNat), Value.int 2]))).set 78 (Sum.inr (1, [Value.int (-16384), Value.int 16384, Value.int 0, Value.int 4]))).set (30 + 3 * (xs 1).toInt.toNat) (Sum.inr (2, [Value.int 64, Value.int 2, Value.int 0, Value.int (B + (xs 4)), Value.ref (31 + 3 * (xs 1).toInt.toNat)]))).set 78 (Sum.inr (1, [Value.int (-16384), Value.int 16384, Value.int 0, Value.int 5]))).set 194 (Sum.inl (3, 1, xup (fun _ => Value.long 0) (0 : Int32).toInt.toNat (Value.long (-1))))), (s_20_12 W0_7 (by omega) (by omega) (by omega) (by omega) (by omega) (by omega) W0_8 (greg_at (by omega)) (by omega) (by omega) W0_16 W0_17 W0_18 (show (xhi (xvv xs)) = 0 from (xge_c (n := 0) (by omega) rfl)) (by omega) W0_78 (show ((32 : Int32) - (xnlz (xlo (xvv xs)))) = B from (xge_i (by omega))) (by omega) (by omega) (by omega) (W0_reg (by omega)) (by omega) (show ((B + (xs 4)) - ((B + (xs 4)) - (64 : Int32))) = 64 from (xge_c (n := 64) (by omega) rfl)) (by omega) (by omega) (by omega) (by omega) (show ((64 : Int32) - B) = K from (xge_i (by omega))) (by omega) (by omega) (by omega) (by omega) (W0_man (by omega)) (show (B + K) = 64 from (xge_c (n := 64) (by omega) rfl)) (by omega) (by omega) (by omega) (by omega) (W0_mw (by omega)) (by omega) (by omega) (by omega) (by omega) (by omega) (by omega) (by omega) (by omega) (by omega) (by omega) (by omega) (by omega) (by omega) (by omega) (by omega) (by omega) (by omega) (by omega) (by omega) (by omega) (by omega) (by omega) (by omega) (by omega) (by omega) (by omega) W0_194), ?_, xgs (xgn (by decide) (xgn (by omega) (xgn (by decide) (xgn (by omega) (xgn (by omega) (xgn (by omega) (xgn (by decide) (xgn (by decide) (xgn (by decide) (xgn (by decide) (xgn (by decide) W0_194)))))))))))⟩
  refine xKp.set ?_ (fun h hh => by unfold xPC at hh; omega) (xgn (by decide) (xgn (by omega) (xgn (by decide) (xgn (by omega) (xgn (by omega) (xgn (by omega) (xgn (by decide) (xgn (by decide) (xgn (by decide) (xgn (by decide) (xgn (by decide) W0_194))))))))))) xcs_a
  refine xKp.set ?_ (fun h hh => by unfold xPC at hh; omega) (xgn (by omega) (xgs (xgn (by omega) (xgn (by omega) (xgn (by omega) (xgn (by decide) (xgn (by decide) (xgn (by decide) (xgn (by decide) (xgn (by decide) W0_78)))))))))) xcs_o
  refine xKp.set ?_ (fun h hh => by unfold xPC at hh; omega) (xgn (by omega) (xgn (by omega) (xgn (by omega) (xgs (xgn (by omega) (xgn (by omega) (xgn (by omega) (xgn (by omega) (xgn (by omega) (W0_reg (by omega))))))))))) xcs_o
  refine xKp.set ?_ (fun h hh => by unfold xPC at hh; omega) (xgn (by omega) (xgn (by omega) (xgn (by omega) (xgn (by decide) (xgn (by decide) (xgn (by decide) (xgn (by decide) (xgn (by decide) W0_78)))))))) xcs_o
  refine xKp.set ?_ (fun h hh => by unfold xPC at hh; omega) (xgn (by omega) (xgn (by omega) (xgn (by omega) (xgn (by omega) (xgn (by omega) (xgn (by omega) (xgn (by omega) (W0_man (by omega))))))))) xcs_o
  refine xKp.set ?_ (fun h hh => by unfold xPC at hh; omega) (xgn (by omega) (xgn (by omega) (xgn (by omega) (xgn (by omega) (xgn (by omega) (xgn (by omega) (W0_mw (by omega)))))))) xcs_a
  refine xKp.set ?_ (fun h hh => by unfold xPC at hh; omega) (xgn (by omega) (xgn (by omega) (xgn (by omega) (xgn (by omega) (xgn (by omega) (W0_reg (by omega))))))) xcs_o
  refine xKp.set ?_ (fun h hh => by unfold xPC at hh; omega) (xgn (by decide) (xgn (by decide) (xgn (by decide) (xgs W0_16)))) xcs_o
  refine xKp.set ?_ (fun h hh => by unfold xPC at hh; omega) (xgs (xgn (by decide) (xgn (by decide) W0_17))) xcs_o
  refine xKp.set ?_ (fun h hh => by unfold xPC at hh; omega) (xgn (by decide) (xgn (by decide) W0_17)) xcs_o
  refine xKp.set ?_ (fun h hh => by unfold xPC at hh; omega) (xgn (by decide) W0_18) xcs_a
  refine xKp.set ?_ (fun h hh => by unfold xPC at hh; omega) (W0_16) xcs_o
  exact xKp.refl
theorem s_27_13 {d : Nat} {w : xW} {h0 : Nat} {a0 : Int32} {a1 : Int32} {g0 : Nat → Value} {a2 : Int32} {a3 : Int32} {h1 : Nat} {a4 : Int32} {h2 : Nat} (hw0 : w[16]? = some (Sum.inr (4, [Value.int 0, Value.ref 17, Value.int a1, Value.int 0]))) (hw1 : w[17]? = some (Sum.inr (3, [Value.ref 18, Value.int 1]))) (hw2 : w[18]? = some (Sum.inl (0, 8, g0))) (hg3 : g0 (0 : Int32).toInt.toNat = Value.int a2) (hg4 : ((32 : Int32) - (xnlz a2)) = a3) (hw5 : w[h0]? = some (Sum.inr (2, [Value.int 64, Value.int 0, Value.int 0, Value.int 0, Value.ref h1]))) (hw6 : w[78]? = some (Sum.inr (1, [Value.int (-16384), Value.int 16384, Value.int 0, Value.int 0]))) (e7 : (((a3 + a1) - (64 : Int32)) - a1).toInt ≤ 0) (hg8 : ((a3 + a1) - ((a3 + a1) - (64 : Int32))) = 64) (e9 : 7 ≤ h0) (e10 : h0 ≠ 16) (e11 : h0 ≠ 17) (e12 : h0 ≠ 18) (hg13 : ((64 : Int32) - a3) = a4) (e14 : h0 ≠ h1) (hw15 : w[h1]? = some (Sum.inr (3, [Value.ref h2, Value.int 0]))) (hg16 : (a3 + a4) = 64) (e17 : h0 ≠ h2) (hw18 : w[h2]? = some (Sum.inl (0, 8, fun _ => Value.int 0))) (e19 : 0 ≤ a4.toInt) (hg20 : g0 (1 : Int32).toInt.toNat = Value.int 0) (e21 : 7 ≤ h2) (e22 : h2 ≠ h1) (e23 : h2 ≠ 17) (e24 : h2 ≠ 18) (e25 : 7 ≤ h1) (e26 : h1 ≠ h0) (e27 : h2 ≠ h0) (e28 : h1 ≠ h2) (e29 : (xbf 1 a2 (0 : Int32) ((32 : Int32) - a4)).toInt ≠ 0) (e30 : ((64 : Int32) - (xnlz (xbf 1 a2 (0 : Int32) ((32 : Int32) - a4)))).toInt ≤ 64) (e31 : h1 ≠ 78) (e32 : h2 ≠ 78) (e33 : h0 ≠ 78) (e34 : (a3 + a1).toInt ≤ 16384) (e35 : (-16384) ≤ (a3 + a1).toInt) (e36 : h1 ≠ 16) (e37 : h2 ≠ 16) : xRun (d + 4) 27 [Value.ref 78, Value.ref h0, Value.ref 16, Value.int a0] w (.inl (some (Value.int 0))) (((w.set h0 (Sum.inr (2, [Value.int 64, Value.int 3, Value.int 0, Value.int (a3 + a1), Value.ref h1]))).set h2 (Sum.inl (0, 8, xup (xup (fun _ => Value.int 0) (1 : Int32).toInt.toNat (Value.int (xbf 1 a2 (0 : Int32) ((32 : Int32) - a4)))) (0 : Int32).toInt.toNat (Value.int (xbf 1 a2 (0 : Int32) ((0 : Int32) - a4)))))).set h1 (Sum.inr (3, [Value.ref h2, Value.int 2]))) := by
  refine xRun.of ?_
  refine i_27_0 (x := 16) rfl ?_
  refine i_27_1 hw0 (Nat.le_of_ble_eq_true rfl) (s_28_0 hw0 hw1 hw2 hg3 hg4) ?_
  refine i_27_4 (lv2 := [(4, Value.int (a3 + a1)), (0, Value.ref 78), (1, Value.ref h0), (2, Value.ref 16), (3, Value.int a0)]) rfl ?_
  refine i_27_6 (x := 78) rfl ?_
  refine i_27_7 (x := (a3 + a1)) rfl ?_
  refine i_27_9 (x := h0) rfl ?_
  refine i_27_10 (v := Value.int 64) hw5 rfl ?_
  refine i_27_13 hw6 (Nat.le_of_ble_eq_true rfl) (s_30_0 hw6) ?_
  refine i_27_16 (lv2 := [(5, Value.int ((a3 + a1) - (64 : Int32))), (4, Value.int (a3 + a1)), (0, Value.ref 78), (1, Value.ref h0), (2, Value.ref 16), (3, Value.int a0)]) rfl ?_
  refine i_27_18 (x := 16) rfl ?_
  refine i_27_19 (x := ((a3 + a1) - (64 : Int32))) rfl ?_
  refine i_27_21 (x := a0) rfl ?_
  refine i_27_22 hw0 (Nat.le_of_ble_eq_true rfl) (s_31_0 hw0 hw1 e7) ?_
  refine i_27_25 (lv2 := [(6, Value.int 0), (5, Value.int ((a3 + a1) - (64 : Int32))), (4, Value.int (a3 + a1)), (0, Value.ref 78), (1, Value.ref h0), (2, Value.ref 16), (3, Value.int a0)]) rfl ?_
  refine i_27_27 (x := 16) rfl ?_
  refine i_27_28 (x := ((a3 + a1) - (64 : Int32))) rfl ?_
  refine i_27_30 hw0 (Nat.le_of_ble_eq_true rfl) (s_32_0 hw0 hw1 e7) ?_
  refine i_27_33 (fun h => absurd h (by decide)) (fun _ => ?_)
  refine i_27_36 ?_
  refine i_27_37 ?_
  refine i_27_50 (lv2 := [(7, Value.int 0), (6, Value.int 0), (5, Value.int ((a3 + a1) - (64 : Int32))), (4, Value.int (a3 + a1)), (0, Value.ref 78), (1, Value.ref h0), (2, Value.ref 16), (3, Value.int a0)]) rfl ?_
  refine i_27_52 (x := h0) rfl ?_
  refine i_27_53 (x := 16) rfl ?_
  refine i_27_54 (x := ((a3 + a1) - (64 : Int32))) rfl ?_
  refine i_27_56 (x := 0) rfl ?_
  refine i_27_58 hw5 (Nat.le_of_ble_eq_true rfl) (s_38_0 hw0 hw1 hw2 hg3 hg4 hg8 hw5 e9 e10 e11 e12 hg13 e14 hw15 hg16 e17 hw18 e19 hg20 e21 e22 e23 e24 e25 e26 e27 e28 e29 e30) ?_
  refine i_27_61 (x := h0) rfl ?_
  refine i_27_62 (v := Value.int 3) (xgn e26 (xgn e27 (xgs hw5))) rfl ?_
  refine i_27_65 ?_
  refine i_27_66 (fun h => absurd h (by decide)) (fun _ => ?_)
  refine i_27_69 (x := h0) rfl ?_
  refine i_27_70 (v := Value.int (a3 + a1)) (xgn e26 (xgn e27 (xgs hw5))) rfl ?_
  refine i_27_73 (x := 78) rfl ?_
  refine i_27_74 (v := Value.int 16384) (xgn e31 (xgn e32 (xgn e33 hw6))) rfl ?_
  refine i_27_77 (fun _ => ?_) (fun h => absurd e34 (Int.not_le.mpr h))
  refine i_27_95 (x := h0) rfl ?_
  refine i_27_96 (v := Value.int 3) (xgn e26 (xgn e27 (xgs hw5))) rfl ?_
  refine i_27_99 ?_
  refine i_27_100 (fun h => absurd h (by decide)) (fun _ => ?_)
  refine i_27_103 (x := 78) rfl ?_
  refine i_27_104 (v := Value.int 0) (xgn e31 (xgn e32 (xgn e33 hw6))) rfl ?_
  refine i_27_107 (fun h => absurd h (by decide)) (fun _ => ?_)
  refine i_27_110 (x := h0) rfl ?_
  refine i_27_111 (v := Value.int (a3 + a1)) (xgn e26 (xgn e27 (xgs hw5))) rfl ?_
  refine i_27_114 (x := 78) rfl ?_
  refine i_27_115 (v := Value.int (-16384)) (xgn e31 (xgn e32 (xgn e33 hw6))) rfl ?_
  refine i_27_118 (fun _ => ?_) (fun h => absurd e35 (Int.not_le.mpr h))
  refine i_27_133 (x := 78) rfl ?_
  refine i_27_134 (v := Value.int 0) (xgn e31 (xgn e32 (xgn e33 hw6))) rfl ?_
  refine i_27_137 (fun _ => ?_) (fun h => absurd h (by decide))
  refine i_27_164 (x := 0) rfl ?_
  refine i_27_166 (fun _ => ?_) (fun h => absurd h (by decide))
  refine i_27_179 (x := 16) rfl ?_
  refine i_27_180 (v := Value.int 0) (xgn e36 (xgn e37 (xgn e10 hw0))) rfl ?_
  refine i_27_183 (fun _ => ?_) (fun h => absurd h (by decide))
  refine i_27_192 (x := 0) rfl ?_
  exact i_27_194 ⟨rfl, rfl⟩
theorem s_21_13 {d : Nat} {w : xW} {a0 : Int32} {b0 : Int64} {a1 : Int32} {a2 : Int32} {g0 : Nat → Value} {h0 : Nat} {a3 : Int32} {h1 : Nat} {a4 : Int32} {h2 : Nat} (e0 : 0 ≤ a0.toInt) (e1 : a0.toInt < 16) (e2 : (-40000) ≤ a1.toInt) (e3 : a1.toInt ≤ 40000) (e4 : 0 ≤ a2.toInt) (e5 : a2.toInt ≤ 4) (hw6 : w[7]? = some (Sum.inr (0, [Value.ref 8, Value.ref 78, Value.ref 9, Value.ref 10, Value.ref 13, Value.ref 16, Value.ref 19, Value.ref 93, Value.ref 108, Value.ref 113, Value.ref 29, Value.int 0]))) (hw7 : w[8]? = some (Sum.inl (4, 16, g0))) (hg8 : g0 a0.toInt.toNat = Value.ref h0) (e9 : (lg_cmp b0 (0 : Int64)).toInt ≠ 0) (e10 : 0 ≤ (lg_cmp b0 (0 : Int64)).toInt) (hw11 : w[16]? = some (Sum.inr (4, [Value.int 0, Value.ref 17, Value.int 0, Value.int 0]))) (hw12 : w[17]? = some (Sum.inr (3, [Value.ref 18, Value.int 0]))) (hw13 : w[18]? = some (Sum.inl (0, 8, fun _ => Value.int 0))) (hg14 : (xhi b0) = 0) (e15 : (xlo b0).toInt ≠ 0) (hw16 : w[78]? = some (Sum.inr (1, [Value.int (-16384), Value.int 16384, Value.int 0, Value.int 0]))) (hg17 : ((32 : Int32) - (xnlz (xlo b0))) = a3) (e18 : 16 ≠ h0) (e19 : 17 ≠ h0) (e20 : 18 ≠ h0) (hw21 : w[h0]? = some (Sum.inr (2, [Value.int 64, Value.int 0, Value.int 0, Value.int 0, Value.ref h1]))) (e22 : (((a3 + a1) - (64 : Int32)) - a1).toInt ≤ 0) (hg23 : ((a3 + a1) - ((a3 + a1) - (64 : Int32))) = 64) (e24 : 7 ≤ h0) (e25 : h0 ≠ 16) (e26 : h0 ≠ 17) (e27 : h0 ≠ 18) (hg28 : ((64 : Int32) - a3) = a4) (e29 : h0 ≠ h1) (e30 : 16 ≠ h1) (e31 : 17 ≠ h1) (e32 : 18 ≠ h1) (hw33 : w[h1]? = some (Sum.inr (3, [Value.ref h2, Value.int 0]))) (hg34 : (a3 + a4) = 64) (e35 : h0 ≠ h2) (e36 : 16 ≠ h2) (e37 : 17 ≠ h2) (e38 : 18 ≠ h2) (hw39 : w[h2]? = some (Sum.inl (0, 8, fun _ => Value.int 0))) (e40 : 0 ≤ a4.toInt) (e41 : 7 ≤ h2) (e42 : h2 ≠ h1) (e43 : h2 ≠ 17) (e44 : h2 ≠ 18) (e45 : 7 ≤ h1) (e46 : h1 ≠ h0) (e47 : h2 ≠ h0) (e48 : h1 ≠ h2) (e49 : (xbf 1 (xlo b0) (0 : Int32) ((32 : Int32) - a4)).toInt ≠ 0) (e50 : ((64 : Int32) - (xnlz (xbf 1 (xlo b0) (0 : Int32) ((32 : Int32) - a4)))).toInt ≤ 64) (e51 : h1 ≠ 78) (e52 : h2 ≠ 78) (e53 : h0 ≠ 78) (e54 : (a3 + a1).toInt ≤ 16384) (e55 : (-16384) ≤ (a3 + a1).toInt) (e56 : h1 ≠ 16) (e57 : h2 ≠ 16) : xRun (d + 5) 21 [Value.ref 7, Value.int a0, Value.long b0, Value.int a1, Value.int a2] w (.inl (some (Value.int 0))) ((((((((w.set 16 (Sum.inr (4, [Value.int 0, Value.ref 17, Value.int 0, Value.int 0]))).set 18 (Sum.inl (0, 8, xup (xup (fun _ => Value.int 0) (0 : Int32).toInt.toNat (Value.int (xlo b0))) (1 : Int32).toInt.toNat (Value.int 0)))).set 17 (Sum.inr (3, [Value.ref 18, Value.int 2]))).set 17 (Sum.inr (3, [Value.ref 18, Value.int 1]))).set 16 (Sum.inr (4, [Value.int 0, Value.ref 17, Value.int a1, Value.int 0]))).set h0 (Sum.inr (2, [Value.int 64, Value.int 3, Value.int 0, Value.int (a3 + a1), Value.ref h1]))).set h2 (Sum.inl (0, 8, xup (xup (fun _ => Value.int 0) (1 : Int32).toInt.toNat (Value.int (xbf 1 (xlo b0) (0 : Int32) ((32 : Int32) - a4)))) (0 : Int32).toInt.toNat (Value.int (xbf 1 (xlo b0) (0 : Int32) ((0 : Int32) - a4)))))).set h1 (Sum.inr (3, [Value.ref h2, Value.int 2]))) := by
  refine xRun.of ?_
  refine i_21_0 (x := a0) rfl ?_
  refine i_21_1 (Nat.le_of_ble_eq_true rfl) (s_15_0 e0 e1) ?_
  refine i_21_4 (fun h => absurd h (by decide)) (fun _ => ?_)
  refine i_21_7 (x := a1) rfl ?_
  refine i_21_9 ?_
  refine i_21_11 (fun h => absurd e2 (Int.not_le.mpr h)) (fun _ => ?_)
  refine i_21_14 (x := a1) rfl ?_
  refine i_21_16 ?_
  refine i_21_18 (fun h => absurd e3 (Int.not_le.mpr h)) (fun _ => ?_)
  refine i_21_21 (x := a2) rfl ?_
  refine i_21_23 (Nat.le_of_ble_eq_true rfl) (s_22_0 e4 e5) ?_
  refine i_21_26 (fun _ => ?_) (fun h => absurd h (by decide))
  refine i_21_37 (x := 7) rfl ?_
  refine i_21_38 (v := Value.ref 8) hw6 rfl ?_
  refine i_21_41 (x := a0) rfl ?_
  refine i_21_42 (v := Value.ref h0) hw7 e0 e1 hg8 ?_
  refine i_21_43 (lv2 := [(6, Value.ref h0), (0, Value.ref 7), (1, Value.int a0), (2, Value.long b0), (4, Value.int a1), (5, Value.int a2)]) rfl ?_
  refine i_21_45 (x := b0) rfl ?_
  refine i_21_46 ?_
  refine i_21_47 (c := (lg_cmp b0 (0 : Int64))) rfl ?_
  refine i_21_48 (fun _ => ?_) (fun h => absurd e9 (fun g => g h))
  refine i_21_58 (x := 7) rfl ?_
  refine i_21_59 (v := Value.ref 16) hw6 rfl ?_
  refine i_21_62 (x := b0) rfl ?_
  refine i_21_63 ?_
  refine i_21_64 (c := (lg_cmp b0 (0 : Int64))) rfl ?_
  refine i_21_65 (fun _ => ?_) (fun h => absurd e10 (Int.not_le.mpr h))
  refine i_21_72 ?_
  refine i_21_73 (x := b0) rfl ?_
  refine i_21_74 ?_
  refine i_21_75 (c := (lg_cmp b0 (0 : Int64))) rfl ?_
  refine i_21_76 (fun _ => ?_) (fun h => absurd e10 (Int.not_le.mpr h))
  refine i_21_84 (x := b0) rfl ?_
  refine i_21_85 (x := a1) rfl ?_
  refine i_21_87 hw11 (Nat.le_of_ble_eq_true rfl) (s_24_0 hw11 hw12 hw13 hg14 e15) ?_
  refine i_21_90 (x := 7) rfl ?_
  refine i_21_91 (v := Value.ref 78) (xgn (by decide) (xgn (by decide) (xgn (by decide) (xgn (by decide) (xgn (by decide) hw6))))) rfl ?_
  refine i_21_94 (x := h0) rfl ?_
  refine i_21_96 (x := 7) rfl ?_
  refine i_21_97 (v := Value.ref 16) (xgn (by decide) (xgn (by decide) (xgn (by decide) (xgn (by decide) (xgn (by decide) hw6))))) rfl ?_
  refine i_21_100 (x := a2) rfl ?_
  refine i_21_102 (xgn (by decide) (xgn (by decide) (xgn (by decide) (xgn (by decide) (xgn (by decide) hw16))))) (Nat.le_of_ble_eq_true rfl) (s_27_13 (xgs (xgn (by decide) (xgn (by decide) (xgn (by decide) (xgs hw11))))) (xgn (by decide) (xgs (xgs (xgn (by decide) (xgn (by decide) hw12))))) (xgn (by decide) (xgn (by decide) (xgn (by decide) (xgs (xgn (by decide) hw13))))) (xup_n (by decide) xup_s) hg17 (xgn e18 (xgn e19 (xgn e19 (xgn e20 (xgn e18 hw21))))) (xgn (by decide) (xgn (by decide) (xgn (by decide) (xgn (by decide) (xgn (by decide) hw16))))) e22 hg23 e24 e25 e26 e27 hg28 e29 (xgn e30 (xgn e31 (xgn e31 (xgn e32 (xgn e30 hw33))))) hg34 e35 (xgn e36 (xgn e37 (xgn e37 (xgn e38 (xgn e36 hw39))))) e40 xup_s e41 e42 e43 e44 e45 e46 e47 e48 e49 e50 e51 e52 e53 e54 e55 e56 e57) ?_
  exact i_21_105 ⟨rfl, rfl⟩
theorem s_20_13 {d : Nat} {w : xW} {a0 : Int32} {b0 : Int64} {a1 : Int32} {a2 : Int32} {g0 : Nat → Value} {h0 : Nat} {a3 : Int32} {h1 : Nat} {a4 : Int32} {h2 : Nat} (hw0 : w[7]? = some (Sum.inr (0, [Value.ref 8, Value.ref 78, Value.ref 9, Value.ref 10, Value.ref 13, Value.ref 16, Value.ref 19, Value.ref 93, Value.ref 108, Value.ref 113, Value.ref 29, Value.int 0]))) (e1 : 0 ≤ a0.toInt) (e2 : a0.toInt < 16) (e3 : (-40000) ≤ a1.toInt) (e4 : a1.toInt ≤ 40000) (e5 : 0 ≤ a2.toInt) (e6 : a2.toInt ≤ 4) (hw7 : w[8]? = some (Sum.inl (4, 16, g0))) (hg8 : g0 a0.toInt.toNat = Value.ref h0) (e9 : (lg_cmp b0 (0 : Int64)).toInt ≠ 0) (e10 : 0 ≤ (lg_cmp b0 (0 : Int64)).toInt) (hw11 : w[16]? = some (Sum.inr (4, [Value.int 0, Value.ref 17, Value.int 0, Value.int 0]))) (hw12 : w[17]? = some (Sum.inr (3, [Value.ref 18, Value.int 0]))) (hw13 : w[18]? = some (Sum.inl (0, 8, fun _ => Value.int 0))) (hg14 : (xhi b0) = 0) (e15 : (xlo b0).toInt ≠ 0) (hw16 : w[78]? = some (Sum.inr (1, [Value.int (-16384), Value.int 16384, Value.int 0, Value.int 0]))) (hg17 : ((32 : Int32) - (xnlz (xlo b0))) = a3) (e18 : 16 ≠ h0) (e19 : 17 ≠ h0) (e20 : 18 ≠ h0) (hw21 : w[h0]? = some (Sum.inr (2, [Value.int 64, Value.int 0, Value.int 0, Value.int 0, Value.ref h1]))) (e22 : (((a3 + a1) - (64 : Int32)) - a1).toInt ≤ 0) (hg23 : ((a3 + a1) - ((a3 + a1) - (64 : Int32))) = 64) (e24 : 7 ≤ h0) (e25 : h0 ≠ 16) (e26 : h0 ≠ 17) (e27 : h0 ≠ 18) (hg28 : ((64 : Int32) - a3) = a4) (e29 : h0 ≠ h1) (e30 : 16 ≠ h1) (e31 : 17 ≠ h1) (e32 : 18 ≠ h1) (hw33 : w[h1]? = some (Sum.inr (3, [Value.ref h2, Value.int 0]))) (hg34 : (a3 + a4) = 64) (e35 : h0 ≠ h2) (e36 : 16 ≠ h2) (e37 : 17 ≠ h2) (e38 : 18 ≠ h2) (hw39 : w[h2]? = some (Sum.inl (0, 8, fun _ => Value.int 0))) (e40 : 0 ≤ a4.toInt) (e41 : 7 ≤ h2) (e42 : h2 ≠ h1) (e43 : h2 ≠ 17) (e44 : h2 ≠ 18) (e45 : 7 ≤ h1) (e46 : h1 ≠ h0) (e47 : h2 ≠ h0) (e48 : h1 ≠ h2) (e49 : (xbf 1 (xlo b0) (0 : Int32) ((32 : Int32) - a4)).toInt ≠ 0) (e50 : ((64 : Int32) - (xnlz (xbf 1 (xlo b0) (0 : Int32) ((32 : Int32) - a4)))).toInt ≤ 64) (e51 : h1 ≠ 78) (e52 : h2 ≠ 78) (e53 : h0 ≠ 78) (e54 : (a3 + a1).toInt ≤ 16384) (e55 : (-16384) ≤ (a3 + a1).toInt) (e56 : h1 ≠ 16) (e57 : h2 ≠ 16) (e58 : h1 ≠ 194) (e59 : h2 ≠ 194) (e60 : h0 ≠ 194) (hw61 : w[194]? = some (Sum.inl (3, 1, fun _ => Value.long 0))) : xRun (d + 6) 20 [Value.ref 7, Value.int a0, Value.long b0, Value.int a1, Value.int a2, Value.ref 194] w (.inl (some (Value.int 0))) (((((((((w.set 16 (Sum.inr (4, [Value.int 0, Value.ref 17, Value.int 0, Value.int 0]))).set 18 (Sum.inl (0, 8, xup (xup (fun _ => Value.int 0) (0 : Int32).toInt.toNat (Value.int (xlo b0))) (1 : Int32).toInt.toNat (Value.int 0)))).set 17 (Sum.inr (3, [Value.ref 18, Value.int 2]))).set 17 (Sum.inr (3, [Value.ref 18, Value.int 1]))).set 16 (Sum.inr (4, [Value.int 0, Value.ref 17, Value.int a1, Value.int 0]))).set h0 (Sum.inr (2, [Value.int 64, Value.int 3, Value.int 0, Value.int (a3 + a1), Value.ref h1]))).set h2 (Sum.inl (0, 8, xup (xup (fun _ => Value.int 0) (1 : Int32).toInt.toNat (Value.int (xbf 1 (xlo b0) (0 : Int32) ((32 : Int32) - a4)))) (0 : Int32).toInt.toNat (Value.int (xbf 1 (xlo b0) (0 : Int32) ((0 : Int32) - a4)))))).set h1 (Sum.inr (3, [Value.ref h2, Value.int 2]))).set 194 (Sum.inl (3, 1, xup (fun _ => Value.long 0) (0 : Int32).toInt.toNat (Value.long 0)))) := by
  refine xRun.of ?_
  refine i_20_0 (x := 194) rfl ?_
  refine i_20_2 ?_
  refine i_20_3 (x := 7) rfl ?_
  refine i_20_4 (x := a0) rfl ?_
  refine i_20_5 (x := b0) rfl ?_
  refine i_20_6 (x := a1) rfl ?_
  refine i_20_8 (x := a2) rfl ?_
  refine i_20_10 hw0 (Nat.le_of_ble_eq_true rfl) (s_21_13 e1 e2 e3 e4 e5 e6 hw0 hw7 hg8 e9 e10 hw11 hw12 hw13 hg14 e15 hw16 hg17 e18 e19 e20 hw21 e22 hg23 e24 e25 e26 e27 hg28 e29 e30 e31 e32 hw33 hg34 e35 e36 e37 e38 hw39 e40 e41 e42 e43 e44 e45 e46 e47 e48 e49 e50 e51 e52 e53 e54 e55 e56 e57) ?_
  refine i_20_13 (c := 0) (by decide) ?_
  refine i_20_14 (v := Value.long 0) (xgn e58 (xgn e59 (xgn e60 (xgn (by decide) (xgn (by decide) (xgn (by decide) (xgn (by decide) (xgn (by decide) hw61)))))))) (by decide) (by decide) (by decide) rfl ?_
  refine i_20_15 ?_
  refine i_20_22 ?_
  exact i_20_23 ⟨rfl, rfl⟩
theorem cn3_0_13 {d : Nat} {xs : Nat → Int32} {B K : Int32} (c0 : 0 ≤ (xs 1).toInt) (c1 : (xs 1).toInt < 16) (c2 : (-40000) ≤ (xs 4).toInt) (c3 : (xs 4).toInt ≤ 40000) (c4 : 0 ≤ (xs 5).toInt) (c5 : (xs 5).toInt ≤ 4) (c6 : (lg_cmp (xvv xs) (0 : Int64)).toInt ≠ 0) (c7 : 0 ≤ (lg_cmp (xvv xs) (0 : Int64)).toInt) (c8 : K.toInt = 64 - B.toInt) (c9 : 1 ≤ B.toInt) (c10 : B.toInt ≤ 32) (c11 : (xhi (xvv xs)).toInt = 0) (c12 : (xlo (xvv xs)).toInt ≠ 0) (c13 : (xnlz (xlo (xvv xs))).toInt = 32 - B.toInt) (c14 : (xbf 1 (xlo (xvv xs)) (0 : Int32) ((32 : Int32) - K)).toInt ≠ 0) (c15 : (B + (xs 4)).toInt ≤ 16384) (c16 : (-16384) ≤ (B + (xs 4)).toInt) : ∃ w1, xRun (d + 18) 20 [Value.ref 7, Value.int (xs 1), Value.long (xvv xs), Value.int (xs 4), Value.int (xs 5), Value.ref 194] (W0 6 xs) (.inl (some (Value.int 0))) w1 ∧ xKp (W0 6 xs) w1 xPC ∧ w1[194]? = some (Sum.inl (3, 1, xup (fun _ => Value.long 0) (0 : Int32).toInt.toNat (Value.long 0))) := by
  have f0 : ((32 : Int32) - (xnlz (xlo (xvv xs)))).toInt = 32 - (xnlz (xlo (xvv xs))).toInt := xsub_g rfl rfl (by omega) (by omega)
  have f1 : (B + (xs 4)).toInt = B.toInt + (xs 4).toInt := xadd_i (by omega) (by omega)
  have f2 : ((B + (xs 4)) - (64 : Int32)).toInt = (B + (xs 4)).toInt - 64 := xsub_g rfl rfl (by omega) (by omega)
  have f3 : (((B + (xs 4)) - (64 : Int32)) - (xs 4)).toInt = ((B + (xs 4)) - (64 : Int32)).toInt - (xs 4).toInt := xsub_i (by omega) (by omega)
  have f4 : ((B + (xs 4)) - ((B + (xs 4)) - (64 : Int32))).toInt = (B + (xs 4)).toInt - ((B + (xs 4)) - (64 : Int32)).toInt := xsub_i (by omega) (by omega)
  have f5 : ((64 : Int32) - B).toInt = 64 - B.toInt := xsub_g rfl rfl (by omega) (by omega)
  have f6 : (B + K).toInt = B.toInt + K.toInt := xadd_i (by omega) (by omega)
  have f7 : 0 ≤ (xnlz (xbf 1 (xlo (xvv xs)) (0 : Int32) ((32 : Int32) - K))).toInt := (xnlz_b _).1
  have f8 : (xnlz (xbf 1 (xlo (xvv xs)) (0 : Int32) ((32 : Int32) - K))).toInt ≤ 32 := (xnlz_b _).2
  have f9 : ((64 : Int32) - (xnlz (xbf 1 (xlo (xvv xs)) (0 : Int32) ((32 : Int32) - K)))).toInt = 64 - (xnlz (xbf 1 (xlo (xvv xs)) (0 : Int32) ((32 : Int32) - K))).toInt := xsub_g rfl rfl (by omega) (by omega)
  refine ⟨((((((((((W0 6 xs).set 16 (Sum.inr (4, [Value.int 0, Value.ref 17, Value.int 0, Value.int 0]))).set 18 (Sum.inl (0, 8, xup (xup (fun _ => Value.int 0) (0 : Int32).toInt.toNat (Value.int (xlo (xvv xs)))) (1 : Int32).toInt.toNat (Value.int 0)))).set 17 (Sum.inr (3, [Value.ref 18, Value.int 2]))).set 17 (Sum.inr (3, [Value.ref 18, Value.int 1]))).set 16 (Sum.inr (4, [Value.int 0, Value.ref 17, Value.int (xs 4), Value.int 0]))).set (30 + 3 * (xs 1).toInt.toNat) (Sum.inr (2, [Value.int 64, Value.int 3, Value.int 0, Value.int (B + (xs 4)), Value.ref (31 + 3 * (xs 1).toInt.toNat)]))).set (32 + 3 * (xs 1).toInt.toNat) (Sum.inl (0, 8, xup (xup (fun _ => Value.int 0) (1 : Int32).toInt.toNat (Value.int (xbf 1 (xlo (xvv xs)) (0 : Int32) ((32 : Int32) - K)))) (0 : Int32).toInt.toNat (Value.int (xbf 1 (xlo (xvv xs)) (0 : Int32) ((0 : Int32) - K)))))).set (31 + 3 * (xs 1).toInt.toNat) (Sum.inr (3, [Value.ref (32 + 3 * (xs 1).toInt.toNat), Value.int 2]))).set 194 (Sum.inl (3, 1, xup (fun _ => Value.long 0) (0 : Int32).toInt.toNat (Value.long 0)))), (s_20_13 W0_7 (by omega) (by omega) (by omega) (by omega) (by omega) (by omega) W0_8 (greg_at (by omega)) (by omega) (by omega) W0_16 W0_17 W0_18 (show (xhi (xvv xs)) = 0 from (xge_c (n := 0) (by omega) rfl)) (by omega) W0_78 (show ((32 : Int32) - (xnlz (xlo (xvv xs)))) = B from (xge_i (by omega))) (by omega) (by omega) (by omega) (W0_reg (by omega)) (by omega) (show ((B + (xs 4)) - ((B + (xs 4)) - (64 : Int32))) = 64 from (xge_c (n := 64) (by omega) rfl)) (by omega) (by omega) (by omega) (by omega) (show ((64 : Int32) - B) = K from (xge_i (by omega))) (by omega) (by omega) (by omega) (by omega) (W0_man (by omega)) (show (B + K) = 64 from (xge_c (n := 64) (by omega) rfl)) (by omega) (by omega) (by omega) (by omega) (W0_mw (by omega)) (by omega) (by omega) (by omega) (by omega) (by omega) (by omega) (by omega) (by omega) (by omega) (by omega) (by omega) (by omega) (by omega) (by omega) (by omega) (by omega) (by omega) (by omega) (by omega) (by omega) (by omega) W0_194), ?_, xgs (xgn (by omega) (xgn (by omega) (xgn (by omega) (xgn (by decide) (xgn (by decide) (xgn (by decide) (xgn (by decide) (xgn (by decide) W0_194))))))))⟩
  refine xKp.set ?_ (fun h hh => by unfold xPC at hh; omega) (xgn (by omega) (xgn (by omega) (xgn (by omega) (xgn (by decide) (xgn (by decide) (xgn (by decide) (xgn (by decide) (xgn (by decide) W0_194)))))))) xcs_a
  refine xKp.set ?_ (fun h hh => by unfold xPC at hh; omega) (xgn (by omega) (xgn (by omega) (xgn (by omega) (xgn (by omega) (xgn (by omega) (xgn (by omega) (xgn (by omega) (W0_man (by omega))))))))) xcs_o
  refine xKp.set ?_ (fun h hh => by unfold xPC at hh; omega) (xgn (by omega) (xgn (by omega) (xgn (by omega) (xgn (by omega) (xgn (by omega) (xgn (by omega) (W0_mw (by omega)))))))) xcs_a
  refine xKp.set ?_ (fun h hh => by unfold xPC at hh; omega) (xgn (by omega) (xgn (by omega) (xgn (by omega) (xgn (by omega) (xgn (by omega) (W0_reg (by omega))))))) xcs_o
  refine xKp.set ?_ (fun h hh => by unfold xPC at hh; omega) (xgn (by decide) (xgn (by decide) (xgn (by decide) (xgs W0_16)))) xcs_o
  refine xKp.set ?_ (fun h hh => by unfold xPC at hh; omega) (xgs (xgn (by decide) (xgn (by decide) W0_17))) xcs_o
  refine xKp.set ?_ (fun h hh => by unfold xPC at hh; omega) (xgn (by decide) (xgn (by decide) W0_17)) xcs_o
  refine xKp.set ?_ (fun h hh => by unfold xPC at hh; omega) (xgn (by decide) W0_18) xcs_a
  refine xKp.set ?_ (fun h hh => by unfold xPC at hh; omega) (W0_16) xcs_o
  exact xKp.refl
theorem s_26_2 {d : Nat} {w : xW} {g0 : Nat → Value} {a0 : Int32} (hw0 : w[17]? = some (Sum.inr (3, [Value.ref 18, Value.int 2]))) (hw1 : w[18]? = some (Sum.inl (0, 8, g0))) (hg2 : g0 (1 : Int32).toInt.toNat = Value.int a0) (e3 : a0.toInt ≠ 0) : xRun d 26 [Value.ref 17] w (.inl none) w := by
  refine xRun.of ?_
  refine i_26_0 (x := 17) rfl ?_
  refine i_26_1 (v := Value.int 2) hw0 rfl ?_
  refine i_26_4 (fun h => absurd h (by decide)) (fun _ => ?_)
  refine i_26_7 (x := 17) rfl ?_
  refine i_26_8 (v := Value.ref 18) hw0 rfl ?_
  refine i_26_11 (x := 17) rfl ?_
  refine i_26_12 (v := Value.int 2) hw0 rfl ?_
  refine i_26_15 ?_
  refine i_26_16 (c := 1) (by decide) ?_
  refine i_26_17 (v := Value.int a0) hw1 (by decide) (by decide) hg2 ?_
  refine i_26_18 (fun _ => ?_) (fun h => absurd e3 (fun g => g h))
  exact i_26_34 ⟨rfl, rfl⟩
theorem s_25_1 {d : Nat} {w : xW} {b0 : Int64} (hw0 : w[17]? = some (Sum.inr (3, [Value.ref 18, Value.int 0]))) (hw1 : w[18]? = some (Sum.inl (0, 8, fun _ => Value.int 0))) (e2 : (xhi b0).toInt ≠ 0) : xRun (d + 1) 25 [Value.ref 17, Value.long b0] w (.inl none) ((w.set 18 (Sum.inl (0, 8, xup (xup (fun _ => Value.int 0) (0 : Int32).toInt.toNat (Value.int (xlo b0))) (1 : Int32).toInt.toNat (Value.int (xhi b0))))).set 17 (Sum.inr (3, [Value.ref 18, Value.int 2]))) := by
  refine xRun.of ?_
  refine i_25_0 (x := 17) rfl ?_
  refine i_25_1 (v := Value.ref 18) hw0 rfl ?_
  refine i_25_4 ?_
  refine i_25_5 (x := b0) rfl ?_
  refine i_25_6 (c := (xlo b0)) rfl ?_
  refine i_25_7 (v := Value.int (xlo b0)) hw1 (by decide) (by decide) (by decide) rfl ?_
  refine i_25_8 (x := 17) rfl ?_
  refine i_25_9 (v := Value.ref 18) (xgn (by decide) hw0) rfl ?_
  refine i_25_12 ?_
  refine i_25_13 (x := b0) rfl ?_
  refine i_25_14 ?_
  refine i_25_16 (c := (xsr b0 32)) rfl ?_
  refine i_25_17 (c := (xhi b0)) rfl ?_
  refine i_25_18 (v := Value.int (xhi b0)) (xgs hw1) (by decide) (by decide) (by decide) rfl ?_
  refine xEv.world (List.set_set _) ?_
  refine i_25_19 (x := 17) rfl ?_
  refine i_25_20 ?_
  refine i_25_21 (fs2 := [Value.ref 18, Value.int 2]) (xgn (by decide) hw0) (Nat.le_of_ble_eq_true rfl) rfl (by decide) ?_
  refine i_25_24 (x := 17) rfl ?_
  refine i_25_25 (xgs (xgn (by decide) hw0)) (Nat.le_of_ble_eq_true rfl) (s_26_2 (xgs (xgn (by decide) hw0)) (xgn (by decide) (xgs hw1)) xup_s e2) ?_
  exact i_25_28 ⟨rfl, rfl⟩
theorem s_24_1 {d : Nat} {w : xW} {b0 : Int64} {a0 : Int32} (hw0 : w[16]? = some (Sum.inr (4, [Value.int 0, Value.ref 17, Value.int 0, Value.int 0]))) (hw1 : w[17]? = some (Sum.inr (3, [Value.ref 18, Value.int 0]))) (hw2 : w[18]? = some (Sum.inl (0, 8, fun _ => Value.int 0))) (e3 : (xhi b0).toInt ≠ 0) : xRun (d + 2) 24 [Value.ref 16, Value.int 0, Value.long b0, Value.int a0] w (.inl none) ((((w.set 16 (Sum.inr (4, [Value.int 0, Value.ref 17, Value.int 0, Value.int 0]))).set 18 (Sum.inl (0, 8, xup (xup (fun _ => Value.int 0) (0 : Int32).toInt.toNat (Value.int (xlo b0))) (1 : Int32).toInt.toNat (Value.int (xhi b0))))).set 17 (Sum.inr (3, [Value.ref 18, Value.int 2]))).set 16 (Sum.inr (4, [Value.int 0, Value.ref 17, Value.int a0, Value.int 0]))) := by
  refine xRun.of ?_
  refine i_24_0 (x := 16) rfl ?_
  refine i_24_1 (x := 0) rfl ?_
  refine i_24_2 (fs2 := [Value.int 0, Value.ref 17, Value.int 0, Value.int 0]) hw0 rfl (Nat.le_of_ble_eq_true rfl) rfl (by decide) ?_
  refine i_24_5 (x := 16) rfl ?_
  refine i_24_6 (v := Value.ref 17) (xgs hw0) rfl ?_
  refine i_24_9 (x := b0) rfl ?_
  refine i_24_10 (xgn (by decide) hw1) (Nat.le_of_ble_eq_true rfl) (s_25_1 (xgn (by decide) hw1) (xgn (by decide) hw2) e3) ?_
  refine i_24_13 (x := 16) rfl ?_
  refine i_24_14 (x := a0) rfl ?_
  refine i_24_16 (fs2 := [Value.int 0, Value.ref 17, Value.int a0, Value.int 0]) (xgn (by decide) (xgn (by decide) (xgs hw0))) (Nat.le_of_ble_eq_true rfl) rfl (by decide) ?_
  refine i_24_19 (x := 16) rfl ?_
  refine i_24_20 ?_
  refine i_24_21 (fs2 := [Value.int 0, Value.ref 17, Value.int a0, Value.int 0]) (xgs (xgn (by decide) (xgn (by decide) (xgs hw0)))) rfl (Nat.le_of_ble_eq_true rfl) rfl (by decide) ?_
  refine xEv.world (List.set_set _) ?_
  exact i_24_24 ⟨rfl, rfl⟩
theorem s_29_2 {d : Nat} {w : xW} {g0 : Nat → Value} {a0 : Int32} {a1 : Int32} (hw0 : w[17]? = some (Sum.inr (3, [Value.ref 18, Value.int 2]))) (hw1 : w[18]? = some (Sum.inl (0, 8, g0))) (hg2 : g0 (1 : Int32).toInt.toNat = Value.int a0) (hg3 : ((64 : Int32) - (xnlz a0)) = a1) : xRun (d + 1) 29 [Value.ref 17] w (.inl (some (Value.int a1))) w := by
  refine xRun.of ?_
  refine i_29_0 (x := 17) rfl ?_
  refine i_29_1 (v := Value.int 2) hw0 rfl ?_
  refine i_29_4 (fun _ => ?_) (fun h => absurd h (by decide))
  refine i_29_11 ?_
  refine i_29_13 (x := 17) rfl ?_
  refine i_29_14 (v := Value.int 2) hw0 rfl ?_
  refine i_29_17 (c := 64) (by decide) ?_
  refine i_29_18 (x := 17) rfl ?_
  refine i_29_19 (v := Value.ref 18) hw0 rfl ?_
  refine i_29_22 (x := 17) rfl ?_
  refine i_29_23 (v := Value.int 2) hw0 rfl ?_
  refine i_29_26 ?_
  refine i_29_27 (c := 1) (by decide) ?_
  refine i_29_28 (v := Value.int a0) hw1 (by decide) (by decide) hg2 ?_
  refine i_29_29 (Nat.le_of_ble_eq_true rfl) nlz_run ?_
  refine i_29_32 (c := a1) hg3 ?_
  exact i_29_33 ⟨rfl, rfl⟩
theorem s_28_1 {d : Nat} {w : xW} {a0 : Int32} {g0 : Nat → Value} {a1 : Int32} {a2 : Int32} (hw0 : w[16]? = some (Sum.inr (4, [Value.int 0, Value.ref 17, Value.int a0, Value.int 0]))) (hw1 : w[17]? = some (Sum.inr (3, [Value.ref 18, Value.int 2]))) (hw2 : w[18]? = some (Sum.inl (0, 8, g0))) (hg3 : g0 (1 : Int32).toInt.toNat = Value.int a1) (hg4 : ((64 : Int32) - (xnlz a1)) = a2) : xRun (d + 2) 28 [Value.ref 16] w (.inl (some (Value.int (a2 + a0)))) w := by
  refine xRun.of ?_
  refine i_28_0 (x := 16) rfl ?_
  refine i_28_1 (v := Value.ref 17) hw0 rfl ?_
  refine i_28_4 hw1 (Nat.le_of_ble_eq_true rfl) (s_29_2 hw1 hw2 hg3 hg4) ?_
  refine i_28_7 (x := 16) rfl ?_
  refine i_28_8 (v := Value.int a0) hw0 rfl ?_
  refine i_28_11 (c := (a2 + a0)) rfl ?_
  exact i_28_12 ⟨rfl, rfl⟩
theorem s_32_1 {d : Nat} {w : xW} {a0 : Int32} {a1 : Int32} (hw0 : w[16]? = some (Sum.inr (4, [Value.int 0, Value.ref 17, Value.int a1, Value.int 0]))) (hw1 : w[17]? = some (Sum.inr (3, [Value.ref 18, Value.int 2]))) (e2 : (a0 - a1).toInt ≤ 0) : xRun (d + 1) 32 [Value.ref 16, Value.int a0] w (.inl (some (Value.int 1))) w := by
  refine xRun.of ?_
  refine i_32_0 (x := 16) rfl ?_
  refine i_32_1 (v := Value.int 0) hw0 rfl ?_
  refine i_32_4 (fun h => absurd h (by decide)) (fun _ => ?_)
  refine i_32_7 (x := 16) rfl ?_
  refine i_32_8 (v := Value.ref 17) hw0 rfl ?_
  refine i_32_11 (x := a0) rfl ?_
  refine i_32_12 (x := 16) rfl ?_
  refine i_32_13 (v := Value.int a1) hw0 rfl ?_
  refine i_32_16 (c := (a0 - a1)) rfl ?_
  refine i_32_17 hw1 (Nat.le_of_ble_eq_true rfl) (s_33_0 e2) ?_
  refine i_32_20 (fun h => absurd h (by decide)) (fun _ => ?_)
  refine i_32_23 ?_
  refine i_32_24 ?_
  exact i_32_28 rfl ⟨rfl, rfl⟩
theorem s_31_1 {d : Nat} {w : xW} {a0 : Int32} {a1 : Int32} {a2 : Int32} (hw0 : w[16]? = some (Sum.inr (4, [Value.int 0, Value.ref 17, Value.int a2, Value.int 0]))) (hw1 : w[17]? = some (Sum.inr (3, [Value.ref 18, Value.int 2]))) (e2 : (a0 - a2).toInt ≤ 0) : xRun (d + 2) 31 [Value.ref 16, Value.int a0, Value.int a1] w (.inl (some (Value.int 0))) w := by
  refine xRun.of ?_
  refine i_31_0 (x := 16) rfl ?_
  refine i_31_1 (x := a0) rfl ?_
  refine i_31_2 hw0 (Nat.le_of_ble_eq_true rfl) (s_32_1 hw0 hw1 e2) ?_
  refine i_31_5 (fun h => absurd h (by decide)) (fun _ => ?_)
  refine i_31_8 ?_
  exact i_31_9 rfl ⟨rfl, rfl⟩
theorem s_42_1 {d : Nat} {w : xW} {h0 : Nat} {a0 : Int32} {g0 : Nat → Value} {a1 : Int32} {a2 : Int32} {h1 : Nat} {a3 : Int32} (hw0 : w[17]? = some (Sum.inr (3, [Value.ref 18, Value.int 2]))) (hw1 : w[18]? = some (Sum.inl (0, 8, g0))) (hg2 : g0 (1 : Int32).toInt.toNat = Value.int a1) (hg3 : ((64 : Int32) - (xnlz a1)) = a2) (hg4 : (a2 + a0) = 64) (hw5 : w[h0]? = some (Sum.inr (3, [Value.ref h1, Value.int 0]))) (hw6 : w[h1]? = some (Sum.inl (0, 8, fun _ => Value.int 0))) (e7 : 0 ≤ a0.toInt) (hg8 : g0 (0 : Int32).toInt.toNat = Value.int a3) (e9 : 7 ≤ h1) (e10 : h1 ≠ h0) (e11 : h1 ≠ 17) (e12 : h1 ≠ 18) (e13 : 7 ≤ h0) : xRun (d + 2) 42 [Value.ref h0, Value.ref 17, Value.int a0] w (.inl none) ((w.set h1 (Sum.inl (0, 8, xup (xup (fun _ => Value.int 0) (1 : Int32).toInt.toNat (Value.int (xbf 2 a3 a1 ((32 : Int32) - a0)))) (0 : Int32).toInt.toNat (Value.int (xbf 2 a3 a1 ((0 : Int32) - a0)))))).set h0 (Sum.inr (3, [Value.ref h1, Value.int 2]))) := by
  refine xRun.of ?_
  refine i_42_0 (x := 17) rfl ?_
  refine i_42_1 (v := Value.int 2) hw0 rfl ?_
  refine i_42_4 (fun _ => ?_) (fun h => absurd h (by decide))
  refine i_42_11 ?_
  refine i_42_12 (x := 17) rfl ?_
  refine i_42_13 hw0 (Nat.le_of_ble_eq_true rfl) (s_29_2 hw0 hw1 hg2 hg3) ?_
  refine i_42_16 (x := a0) rfl ?_
  refine i_42_17 (c := 64) hg4 ?_
  refine i_42_18 ?_
  refine i_42_20 (c := 95) (by decide) ?_
  refine i_42_21 ?_
  refine i_42_22 (c := 2) (by decide) ?_
  refine i_42_23 (Nat.le_of_ble_eq_true rfl) (s_273_0) ?_
  refine i_42_26 (lv2 := [(3, Value.int 2), (0, Value.ref h0), (1, Value.ref 17), (2, Value.int a0)]) rfl ?_
  refine i_42_27 (x := h0) rfl ?_
  refine i_42_28 (x := 2) rfl ?_
  refine i_42_29 hw5 (Nat.le_of_ble_eq_true rfl) (s_41_0 hw5 hw6) ?_
  refine i_42_32 (x := a0) rfl ?_
  refine i_42_33 (fun h => absurd e7 (Int.not_le.mpr h)) (fun _ => ?_)
  refine i_42_36 (x := 2) rfl ?_
  refine i_42_37 ?_
  refine i_42_38 (c := 1) (by decide) ?_
  refine i_42_39 (lv2 := [(4, Value.int 1), (3, Value.int 2), (0, Value.ref h0), (1, Value.ref 17), (2, Value.int a0)]) rfl ?_
  refine i_42_41 (x := 1) rfl ?_
  refine i_42_43 (fun h => absurd h (by decide)) (fun _ => ?_)
  refine i_42_46 (x := h0) rfl ?_
  refine i_42_47 (v := Value.ref h1) hw5 rfl ?_
  refine i_42_50 (x := 1) rfl ?_
  refine i_42_52 (x := 17) rfl ?_
  refine i_42_53 ?_
  refine i_42_55 (x := 1) rfl ?_
  refine i_42_57 (c := 32) (by decide) ?_
  refine i_42_58 (x := a0) rfl ?_
  refine i_42_59 (c := ((32 : Int32) - a0)) rfl ?_
  refine i_42_60 hw0 (Nat.le_of_ble_eq_true rfl) (bf_run2 hw0 hw1 hg8 hg2) ?_
  refine i_42_63 (v := Value.int (xbf 2 a3 a1 ((32 : Int32) - a0))) hw6 (by decide) (by decide) e9 rfl ?_
  refine i_42_64 (x := 1) (c := 0) (lv2 := [(4, Value.int 0), (3, Value.int 2), (0, Value.ref h0), (1, Value.ref 17), (2, Value.int a0)]) rfl (by decide) rfl ?_
  refine i_42_67 ?_
  refine i_42_41 (x := 0) rfl ?_
  refine i_42_43 (fun h => absurd h (by decide)) (fun _ => ?_)
  refine i_42_46 (x := h0) rfl ?_
  refine i_42_47 (v := Value.ref h1) (xgn e10 hw5) rfl ?_
  refine i_42_50 (x := 0) rfl ?_
  refine i_42_52 (x := 17) rfl ?_
  refine i_42_53 ?_
  refine i_42_55 (x := 0) rfl ?_
  refine i_42_57 (c := 0) (by decide) ?_
  refine i_42_58 (x := a0) rfl ?_
  refine i_42_59 (c := ((0 : Int32) - a0)) rfl ?_
  refine i_42_60 (xgn e11 hw0) (Nat.le_of_ble_eq_true rfl) (bf_run2 (xgn e11 hw0) (xgn e12 hw1) hg8 hg2) ?_
  refine i_42_63 (v := Value.int (xbf 2 a3 a1 ((0 : Int32) - a0))) (xgs hw6) (by decide) (by decide) e9 rfl ?_
  refine xEv.world (List.set_set _) ?_
  refine i_42_64 (x := 0) (c := (-1)) (lv2 := [(4, Value.int (-1)), (3, Value.int 2), (0, Value.ref h0), (1, Value.ref 17), (2, Value.int a0)]) rfl (by decide) rfl ?_
  refine i_42_67 ?_
  refine i_42_41 (x := (-1)) rfl ?_
  refine i_42_43 (fun _ => ?_) (fun h => absurd h (by decide))
  refine i_42_70 ?_
  refine i_42_106 (x := h0) rfl ?_
  refine i_42_107 (x := 2) rfl ?_
  refine i_42_108 (fs2 := [Value.ref h1, Value.int 2]) (xgn e10 hw5) (Nat.le_of_ble_eq_true rfl) rfl e13 ?_
  exact i_42_111 ⟨rfl, rfl⟩
theorem s_38_1 {d : Nat} {w : xW} {h0 : Nat} {a0 : Int32} {a1 : Int32} {g0 : Nat → Value} {a2 : Int32} {a3 : Int32} {h1 : Nat} {a4 : Int32} {h2 : Nat} {a5 : Int32} (hw0 : w[16]? = some (Sum.inr (4, [Value.int 0, Value.ref 17, Value.int a1, Value.int 0]))) (hw1 : w[17]? = some (Sum.inr (3, [Value.ref 18, Value.int 2]))) (hw2 : w[18]? = some (Sum.inl (0, 8, g0))) (hg3 : g0 (1 : Int32).toInt.toNat = Value.int a2) (hg4 : ((64 : Int32) - (xnlz a2)) = a3) (hg5 : ((a3 + a1) - a0) = 64) (hw6 : w[h0]? = some (Sum.inr (2, [Value.int 64, Value.int 0, Value.int 0, Value.int 0, Value.ref h1]))) (e7 : 7 ≤ h0) (e8 : h0 ≠ 16) (e9 : h0 ≠ 17) (e10 : h0 ≠ 18) (hg11 : ((64 : Int32) - a3) = a4) (e12 : h0 ≠ h1) (hw13 : w[h1]? = some (Sum.inr (3, [Value.ref h2, Value.int 0]))) (hg14 : (a3 + a4) = 64) (e15 : h0 ≠ h2) (hw16 : w[h2]? = some (Sum.inl (0, 8, fun _ => Value.int 0))) (e17 : 0 ≤ a4.toInt) (hg18 : g0 (0 : Int32).toInt.toNat = Value.int a5) (e19 : 7 ≤ h2) (e20 : h2 ≠ h1) (e21 : h2 ≠ 17) (e22 : h2 ≠ 18) (e23 : 7 ≤ h1) (e24 : h1 ≠ h0) (e25 : h2 ≠ h0) (e26 : h1 ≠ h2) (e27 : (xbf 2 a5 a2 ((32 : Int32) - a4)).toInt ≠ 0) (e28 : ((64 : Int32) - (xnlz (xbf 2 a5 a2 ((32 : Int32) - a4)))).toInt ≤ 64) : xRun (d + 3) 38 [Value.ref h0, Value.ref 16, Value.int a0, Value.int 0] w (.inl none) (((w.set h0 (Sum.inr (2, [Value.int 64, Value.int 3, Value.int 0, Value.int (a3 + a1), Value.ref h1]))).set h2 (Sum.inl (0, 8, xup (xup (fun _ => Value.int 0) (1 : Int32).toInt.toNat (Value.int (xbf 2 a5 a2 ((32 : Int32) - a4)))) (0 : Int32).toInt.toNat (Value.int (xbf 2 a5 a2 ((0 : Int32) - a4)))))).set h1 (Sum.inr (3, [Value.ref h2, Value.int 2]))) := by
  refine xRun.of ?_
  refine i_38_0 (x := 16) rfl ?_
  refine i_38_1 hw0 (Nat.le_of_ble_eq_true rfl) (s_28_1 hw0 hw1 hw2 hg3 hg4) ?_
  refine i_38_4 (lv2 := [(4, Value.int (a3 + a1)), (0, Value.ref h0), (1, Value.ref 16), (2, Value.int a0), (3, Value.int 0)]) rfl ?_
  refine i_38_6 (x := (a3 + a1)) rfl ?_
  refine i_38_8 (x := a0) rfl ?_
  refine i_38_9 (c := 64) hg5 ?_
  refine i_38_10 (lv2 := [(5, Value.int 64), (4, Value.int (a3 + a1)), (0, Value.ref h0), (1, Value.ref 16), (2, Value.int a0), (3, Value.int 0)]) rfl ?_
  refine i_38_12 (x := 64) rfl ?_
  refine i_38_14 (fun _ => ?_) (fun h => absurd h (by decide))
  refine i_38_31 (x := 64) rfl ?_
  refine i_38_33 (fun _ => ?_) (fun h => absurd h (by decide))
  refine i_38_48 (x := h0) rfl ?_
  refine i_38_49 ?_
  refine i_38_50 (fs2 := [Value.int 64, Value.int 3, Value.int 0, Value.int 0, Value.ref h1]) hw6 (Nat.le_of_ble_eq_true rfl) rfl e7 ?_
  refine i_38_53 (x := h0) rfl ?_
  refine i_38_54 (x := 16) rfl ?_
  refine i_38_55 (v := Value.int 0) (xgn e8 hw0) rfl ?_
  refine i_38_58 (fs2 := [Value.int 64, Value.int 3, Value.int 0, Value.int 0, Value.ref h1]) (xgs hw6) rfl (Nat.le_of_ble_eq_true rfl) rfl e7 ?_
  refine xEv.world (List.set_set _) ?_
  refine i_38_61 (x := h0) rfl ?_
  refine i_38_62 (x := (a3 + a1)) rfl ?_
  refine i_38_64 (fs2 := [Value.int 64, Value.int 3, Value.int 0, Value.int (a3 + a1), Value.ref h1]) (xgs hw6) (Nat.le_of_ble_eq_true rfl) rfl e7 ?_
  refine xEv.world (List.set_set _) ?_
  refine i_38_67 (x := h0) rfl ?_
  refine i_38_68 (v := Value.ref h1) (xgs hw6) rfl ?_
  refine i_38_71 (x := 16) rfl ?_
  refine i_38_72 (v := Value.ref 17) (xgn e8 hw0) rfl ?_
  refine i_38_75 (x := h0) rfl ?_
  refine i_38_76 (v := Value.int 64) (xgs hw6) rfl ?_
  refine i_38_79 (x := 16) rfl ?_
  refine i_38_80 (v := Value.ref 17) (xgn e8 hw0) rfl ?_
  refine i_38_83 (xgn e9 hw1) (Nat.le_of_ble_eq_true rfl) (s_29_2 (xgn e9 hw1) (xgn e10 hw2) hg3 hg4) ?_
  refine i_38_86 (c := a4) hg11 ?_
  refine i_38_87 (xgn e12 hw13) (Nat.le_of_ble_eq_true rfl) (s_42_1 (xgn e9 hw1) (xgn e10 hw2) hg3 hg4 hg14 (xgn e12 hw13) (xgn e15 hw16) e17 hg18 e19 e20 e21 e22 e23) ?_
  refine i_38_90 (x := h0) rfl ?_
  refine i_38_91 (v := Value.ref h1) (xgn e24 (xgn e25 (xgs hw6))) rfl ?_
  refine i_38_94 (x := h0) rfl ?_
  refine i_38_95 (v := Value.int 64) (xgn e24 (xgn e25 (xgs hw6))) rfl ?_
  refine i_38_98 (x := 64) rfl ?_
  refine i_38_100 (c := 0) (by decide) ?_
  refine i_38_101 (xgs (xgn e20 (xgn e12 hw13))) (Nat.le_of_ble_eq_true rfl) (s_43_0 (xgs (xgn e20 (xgn e12 hw13))) (xgn e26 (xgs (xgn e15 hw16))) (xup_n (by decide) xup_s) e27) ?_
  refine i_38_104 (x := 0) rfl ?_
  refine i_38_105 (fun _ => ?_) (fun h => absurd h (by decide))
  refine i_38_122 (x := h0) rfl ?_
  refine i_38_123 (v := Value.ref h1) (xgn e24 (xgn e25 (xgs hw6))) rfl ?_
  refine i_38_126 (xgs (xgn e20 (xgn e12 hw13))) (Nat.le_of_ble_eq_true rfl) (s_29_1 (xgs (xgn e20 (xgn e12 hw13))) (xgn e26 (xgs (xgn e15 hw16))) (xup_n (by decide) xup_s)) ?_
  refine i_38_129 (x := h0) rfl ?_
  refine i_38_130 (v := Value.int 64) (xgn e24 (xgn e25 (xgs hw6))) rfl ?_
  refine i_38_133 (fun _ => ?_) (fun h => absurd e28 (Int.not_le.mpr h))
  exact i_38_148 ⟨rfl, rfl⟩
theorem s_27_14 {d : Nat} {w : xW} {h0 : Nat} {a0 : Int32} {a1 : Int32} {g0 : Nat → Value} {a2 : Int32} {a3 : Int32} {h1 : Nat} {a4 : Int32} {h2 : Nat} {a5 : Int32} (hw0 : w[16]? = some (Sum.inr (4, [Value.int 0, Value.ref 17, Value.int a1, Value.int 0]))) (hw1 : w[17]? = some (Sum.inr (3, [Value.ref 18, Value.int 2]))) (hw2 : w[18]? = some (Sum.inl (0, 8, g0))) (hg3 : g0 (1 : Int32).toInt.toNat = Value.int a2) (hg4 : ((64 : Int32) - (xnlz a2)) = a3) (hw5 : w[h0]? = some (Sum.inr (2, [Value.int 64, Value.int 0, Value.int 0, Value.int 0, Value.ref h1]))) (hw6 : w[78]? = some (Sum.inr (1, [Value.int (-16384), Value.int 16384, Value.int 0, Value.int 0]))) (e7 : (((a3 + a1) - (64 : Int32)) - a1).toInt ≤ 0) (hg8 : ((a3 + a1) - ((a3 + a1) - (64 : Int32))) = 64) (e9 : 7 ≤ h0) (e10 : h0 ≠ 16) (e11 : h0 ≠ 17) (e12 : h0 ≠ 18) (hg13 : ((64 : Int32) - a3) = a4) (e14 : h0 ≠ h1) (hw15 : w[h1]? = some (Sum.inr (3, [Value.ref h2, Value.int 0]))) (hg16 : (a3 + a4) = 64) (e17 : h0 ≠ h2) (hw18 : w[h2]? = some (Sum.inl (0, 8, fun _ => Value.int 0))) (e19 : 0 ≤ a4.toInt) (hg20 : g0 (0 : Int32).toInt.toNat = Value.int a5) (e21 : 7 ≤ h2) (e22 : h2 ≠ h1) (e23 : h2 ≠ 17) (e24 : h2 ≠ 18) (e25 : 7 ≤ h1) (e26 : h1 ≠ h0) (e27 : h2 ≠ h0) (e28 : h1 ≠ h2) (e29 : (xbf 2 a5 a2 ((32 : Int32) - a4)).toInt ≠ 0) (e30 : ((64 : Int32) - (xnlz (xbf 2 a5 a2 ((32 : Int32) - a4)))).toInt ≤ 64) (e31 : h1 ≠ 78) (e32 : h2 ≠ 78) (e33 : h0 ≠ 78) (e34 : 16384 < (a3 + a1).toInt) (e35 : h1 ≠ 16) (e36 : h2 ≠ 16) (e37 : a0.toInt = 0) (e38 : 78 ≠ h0) : xRun (d + 4) 27 [Value.ref 78, Value.ref h0, Value.ref 16, Value.int a0] w (.inl (some (Value.int 1))) ((((((w.set h0 (Sum.inr (2, [Value.int 64, Value.int 3, Value.int 0, Value.int (a3 + a1), Value.ref h1]))).set h2 (Sum.inl (0, 8, xup (xup (fun _ => Value.int 0) (1 : Int32).toInt.toNat (Value.int (xbf 2 a5 a2 ((32 : Int32) - a4)))) (0 : Int32).toInt.toNat (Value.int (xbf 2 a5 a2 ((0 : Int32) - a4)))))).set h1 (Sum.inr (3, [Value.ref h2, Value.int 2]))).set 78 (Sum.inr (1, [Value.int (-16384), Value.int 16384, Value.int 0, Value.int 2]))).set h0 (Sum.inr (2, [Value.int 64, Value.int 1, Value.int 0, Value.int (a3 + a1), Value.ref h1]))).set 78 (Sum.inr (1, [Value.int (-16384), Value.int 16384, Value.int 0, Value.int 3]))) := by
  refine xRun.of ?_
  refine i_27_0 (x := 16) rfl ?_
  refine i_27_1 hw0 (Nat.le_of_ble_eq_true rfl) (s_28_1 hw0 hw1 hw2 hg3 hg4) ?_
  refine i_27_4 (lv2 := [(4, Value.int (a3 + a1)), (0, Value.ref 78), (1, Value.ref h0), (2, Value.ref 16), (3, Value.int a0)]) rfl ?_
  refine i_27_6 (x := 78) rfl ?_
  refine i_27_7 (x := (a3 + a1)) rfl ?_
  refine i_27_9 (x := h0) rfl ?_
  refine i_27_10 (v := Value.int 64) hw5 rfl ?_
  refine i_27_13 hw6 (Nat.le_of_ble_eq_true rfl) (s_30_0 hw6) ?_
  refine i_27_16 (lv2 := [(5, Value.int ((a3 + a1) - (64 : Int32))), (4, Value.int (a3 + a1)), (0, Value.ref 78), (1, Value.ref h0), (2, Value.ref 16), (3, Value.int a0)]) rfl ?_
  refine i_27_18 (x := 16) rfl ?_
  refine i_27_19 (x := ((a3 + a1) - (64 : Int32))) rfl ?_
  refine i_27_21 (x := a0) rfl ?_
  refine i_27_22 hw0 (Nat.le_of_ble_eq_true rfl) (s_31_1 hw0 hw1 e7) ?_
  refine i_27_25 (lv2 := [(6, Value.int 0), (5, Value.int ((a3 + a1) - (64 : Int32))), (4, Value.int (a3 + a1)), (0, Value.ref 78), (1, Value.ref h0), (2, Value.ref 16), (3, Value.int a0)]) rfl ?_
  refine i_27_27 (x := 16) rfl ?_
  refine i_27_28 (x := ((a3 + a1) - (64 : Int32))) rfl ?_
  refine i_27_30 hw0 (Nat.le_of_ble_eq_true rfl) (s_32_1 hw0 hw1 e7) ?_
  refine i_27_33 (fun h => absurd h (by decide)) (fun _ => ?_)
  refine i_27_36 ?_
  refine i_27_37 ?_
  refine i_27_50 (lv2 := [(7, Value.int 0), (6, Value.int 0), (5, Value.int ((a3 + a1) - (64 : Int32))), (4, Value.int (a3 + a1)), (0, Value.ref 78), (1, Value.ref h0), (2, Value.ref 16), (3, Value.int a0)]) rfl ?_
  refine i_27_52 (x := h0) rfl ?_
  refine i_27_53 (x := 16) rfl ?_
  refine i_27_54 (x := ((a3 + a1) - (64 : Int32))) rfl ?_
  refine i_27_56 (x := 0) rfl ?_
  refine i_27_58 hw5 (Nat.le_of_ble_eq_true rfl) (s_38_1 hw0 hw1 hw2 hg3 hg4 hg8 hw5 e9 e10 e11 e12 hg13 e14 hw15 hg16 e17 hw18 e19 hg20 e21 e22 e23 e24 e25 e26 e27 e28 e29 e30) ?_
  refine i_27_61 (x := h0) rfl ?_
  refine i_27_62 (v := Value.int 3) (xgn e26 (xgn e27 (xgs hw5))) rfl ?_
  refine i_27_65 ?_
  refine i_27_66 (fun h => absurd h (by decide)) (fun _ => ?_)
  refine i_27_69 (x := h0) rfl ?_
  refine i_27_70 (v := Value.int (a3 + a1)) (xgn e26 (xgn e27 (xgs hw5))) rfl ?_
  refine i_27_73 (x := 78) rfl ?_
  refine i_27_74 (v := Value.int 16384) (xgn e31 (xgn e32 (xgn e33 hw6))) rfl ?_
  refine i_27_77 (fun h => absurd e34 (Int.not_lt.mpr h)) (fun _ => ?_)
  refine i_27_80 (x := 78) rfl ?_
  refine i_27_81 (x := h0) rfl ?_
  refine i_27_82 (x := 16) rfl ?_
  refine i_27_83 (v := Value.int 0) (xgn e35 (xgn e36 (xgn e10 hw0))) rfl ?_
  refine i_27_86 (x := a0) rfl ?_
  refine i_27_87 (xgn e31 (xgn e32 (xgn e33 hw6))) (Nat.le_of_ble_eq_true rfl) (s_46_0 (xgn e31 (xgn e32 (xgn e33 hw6))) e37 e38 (xgn e26 (xgn e27 (xgs hw5))) e9) ?_
  refine i_27_90 (lv2 := [(7, Value.int 1), (6, Value.int 0), (5, Value.int ((a3 + a1) - (64 : Int32))), (4, Value.int (a3 + a1)), (0, Value.ref 78), (1, Value.ref h0), (2, Value.ref 16), (3, Value.int a0)]) rfl ?_
  refine i_27_92 ?_
  refine i_27_164 (x := 1) rfl ?_
  refine i_27_166 (fun h => absurd h (by decide)) (fun _ => ?_)
  refine i_27_169 (x := 78) rfl ?_
  refine i_27_170 rfl ?_
  refine i_27_171 (v := Value.int 2) (xgn e33 (xgs (xgn e31 (xgn e32 (xgn e33 hw6))))) rfl ?_
  refine i_27_174 ?_
  refine i_27_175 (c := 3) (by decide) ?_
  refine i_27_176 (fs2 := [Value.int (-16384), Value.int 16384, Value.int 0, Value.int 3]) (xgn e33 (xgs (xgn e31 (xgn e32 (xgn e33 hw6))))) (Nat.le_of_ble_eq_true rfl) rfl (by decide) ?_
  refine i_27_179 (x := 16) rfl ?_
  refine i_27_180 (v := Value.int 0) (xgn (by decide) (xgn e10 (xgn (by decide) (xgn e35 (xgn e36 (xgn e10 hw0)))))) rfl ?_
  refine i_27_183 (fun _ => ?_) (fun h => absurd h (by decide))
  refine i_27_192 (x := 1) rfl ?_
  exact i_27_194 ⟨rfl, rfl⟩
theorem s_21_14 {d : Nat} {w : xW} {a0 : Int32} {b0 : Int64} {a1 : Int32} {a2 : Int32} {g0 : Nat → Value} {h0 : Nat} {a3 : Int32} {h1 : Nat} {a4 : Int32} {h2 : Nat} (e0 : 0 ≤ a0.toInt) (e1 : a0.toInt < 16) (e2 : (-40000) ≤ a1.toInt) (e3 : a1.toInt ≤ 40000) (e4 : 0 ≤ a2.toInt) (e5 : a2.toInt ≤ 4) (hw6 : w[7]? = some (Sum.inr (0, [Value.ref 8, Value.ref 78, Value.ref 9, Value.ref 10, Value.ref 13, Value.ref 16, Value.ref 19, Value.ref 93, Value.ref 108, Value.ref 113, Value.ref 29, Value.int 0]))) (hw7 : w[8]? = some (Sum.inl (4, 16, g0))) (hg8 : g0 a0.toInt.toNat = Value.ref h0) (e9 : (lg_cmp b0 (0 : Int64)).toInt ≠ 0) (e10 : 0 ≤ (lg_cmp b0 (0 : Int64)).toInt) (hw11 : w[16]? = some (Sum.inr (4, [Value.int 0, Value.ref 17, Value.int 0, Value.int 0]))) (hw12 : w[17]? = some (Sum.inr (3, [Value.ref 18, Value.int 0]))) (hw13 : w[18]? = some (Sum.inl (0, 8, fun _ => Value.int 0))) (e14 : (xhi b0).toInt ≠ 0) (hw15 : w[78]? = some (Sum.inr (1, [Value.int (-16384), Value.int 16384, Value.int 0, Value.int 0]))) (hg16 : ((64 : Int32) - (xnlz (xhi b0))) = a3) (e17 : 16 ≠ h0) (e18 : 17 ≠ h0) (e19 : 18 ≠ h0) (hw20 : w[h0]? = some (Sum.inr (2, [Value.int 64, Value.int 0, Value.int 0, Value.int 0, Value.ref h1]))) (e21 : (((a3 + a1) - (64 : Int32)) - a1).toInt ≤ 0) (hg22 : ((a3 + a1) - ((a3 + a1) - (64 : Int32))) = 64) (e23 : 7 ≤ h0) (e24 : h0 ≠ 16) (e25 : h0 ≠ 17) (e26 : h0 ≠ 18) (hg27 : ((64 : Int32) - a3) = a4) (e28 : h0 ≠ h1) (e29 : 16 ≠ h1) (e30 : 17 ≠ h1) (e31 : 18 ≠ h1) (hw32 : w[h1]? = some (Sum.inr (3, [Value.ref h2, Value.int 0]))) (hg33 : (a3 + a4) = 64) (e34 : h0 ≠ h2) (e35 : 16 ≠ h2) (e36 : 17 ≠ h2) (e37 : 18 ≠ h2) (hw38 : w[h2]? = some (Sum.inl (0, 8, fun _ => Value.int 0))) (e39 : 0 ≤ a4.toInt) (e40 : 7 ≤ h2) (e41 : h2 ≠ h1) (e42 : h2 ≠ 17) (e43 : h2 ≠ 18) (e44 : 7 ≤ h1) (e45 : h1 ≠ h0) (e46 : h2 ≠ h0) (e47 : h1 ≠ h2) (e48 : (xbf 2 (xlo b0) (xhi b0) ((32 : Int32) - a4)).toInt ≠ 0) (e49 : ((64 : Int32) - (xnlz (xbf 2 (xlo b0) (xhi b0) ((32 : Int32) - a4)))).toInt ≤ 64) (e50 : h1 ≠ 78) (e51 : h2 ≠ 78) (e52 : h0 ≠ 78) (e53 : 16384 < (a3 + a1).toInt) (e54 : h1 ≠ 16) (e55 : h2 ≠ 16) (e56 : a2.toInt = 0) (e57 : 78 ≠ h0) : xRun (d + 5) 21 [Value.ref 7, Value.int a0, Value.long b0, Value.int a1, Value.int a2] w (.inl (some (Value.int 1))) ((((((((((w.set 16 (Sum.inr (4, [Value.int 0, Value.ref 17, Value.int 0, Value.int 0]))).set 18 (Sum.inl (0, 8, xup (xup (fun _ => Value.int 0) (0 : Int32).toInt.toNat (Value.int (xlo b0))) (1 : Int32).toInt.toNat (Value.int (xhi b0))))).set 17 (Sum.inr (3, [Value.ref 18, Value.int 2]))).set 16 (Sum.inr (4, [Value.int 0, Value.ref 17, Value.int a1, Value.int 0]))).set h0 (Sum.inr (2, [Value.int 64, Value.int 3, Value.int 0, Value.int (a3 + a1), Value.ref h1]))).set h2 (Sum.inl (0, 8, xup (xup (fun _ => Value.int 0) (1 : Int32).toInt.toNat (Value.int (xbf 2 (xlo b0) (xhi b0) ((32 : Int32) - a4)))) (0 : Int32).toInt.toNat (Value.int (xbf 2 (xlo b0) (xhi b0) ((0 : Int32) - a4)))))).set h1 (Sum.inr (3, [Value.ref h2, Value.int 2]))).set 78 (Sum.inr (1, [Value.int (-16384), Value.int 16384, Value.int 0, Value.int 2]))).set h0 (Sum.inr (2, [Value.int 64, Value.int 1, Value.int 0, Value.int (a3 + a1), Value.ref h1]))).set 78 (Sum.inr (1, [Value.int (-16384), Value.int 16384, Value.int 0, Value.int 3]))) := by
  refine xRun.of ?_
  refine i_21_0 (x := a0) rfl ?_
  refine i_21_1 (Nat.le_of_ble_eq_true rfl) (s_15_0 e0 e1) ?_
  refine i_21_4 (fun h => absurd h (by decide)) (fun _ => ?_)
  refine i_21_7 (x := a1) rfl ?_
  refine i_21_9 ?_
  refine i_21_11 (fun h => absurd e2 (Int.not_le.mpr h)) (fun _ => ?_)
  refine i_21_14 (x := a1) rfl ?_
  refine i_21_16 ?_
  refine i_21_18 (fun h => absurd e3 (Int.not_le.mpr h)) (fun _ => ?_)
  refine i_21_21 (x := a2) rfl ?_
  refine i_21_23 (Nat.le_of_ble_eq_true rfl) (s_22_0 e4 e5) ?_
  refine i_21_26 (fun _ => ?_) (fun h => absurd h (by decide))
  refine i_21_37 (x := 7) rfl ?_
  refine i_21_38 (v := Value.ref 8) hw6 rfl ?_
  refine i_21_41 (x := a0) rfl ?_
  refine i_21_42 (v := Value.ref h0) hw7 e0 e1 hg8 ?_
  refine i_21_43 (lv2 := [(6, Value.ref h0), (0, Value.ref 7), (1, Value.int a0), (2, Value.long b0), (4, Value.int a1), (5, Value.int a2)]) rfl ?_
  refine i_21_45 (x := b0) rfl ?_
  refine i_21_46 ?_
  refine i_21_47 (c := (lg_cmp b0 (0 : Int64))) rfl ?_
  refine i_21_48 (fun _ => ?_) (fun h => absurd e9 (fun g => g h))
  refine i_21_58 (x := 7) rfl ?_
  refine i_21_59 (v := Value.ref 16) hw6 rfl ?_
  refine i_21_62 (x := b0) rfl ?_
  refine i_21_63 ?_
  refine i_21_64 (c := (lg_cmp b0 (0 : Int64))) rfl ?_
  refine i_21_65 (fun _ => ?_) (fun h => absurd e10 (Int.not_le.mpr h))
  refine i_21_72 ?_
  refine i_21_73 (x := b0) rfl ?_
  refine i_21_74 ?_
  refine i_21_75 (c := (lg_cmp b0 (0 : Int64))) rfl ?_
  refine i_21_76 (fun _ => ?_) (fun h => absurd e10 (Int.not_le.mpr h))
  refine i_21_84 (x := b0) rfl ?_
  refine i_21_85 (x := a1) rfl ?_
  refine i_21_87 hw11 (Nat.le_of_ble_eq_true rfl) (s_24_1 hw11 hw12 hw13 e14) ?_
  refine i_21_90 (x := 7) rfl ?_
  refine i_21_91 (v := Value.ref 78) (xgn (by decide) (xgn (by decide) (xgn (by decide) (xgn (by decide) hw6)))) rfl ?_
  refine i_21_94 (x := h0) rfl ?_
  refine i_21_96 (x := 7) rfl ?_
  refine i_21_97 (v := Value.ref 16) (xgn (by decide) (xgn (by decide) (xgn (by decide) (xgn (by decide) hw6)))) rfl ?_
  refine i_21_100 (x := a2) rfl ?_
  refine i_21_102 (xgn (by decide) (xgn (by decide) (xgn (by decide) (xgn (by decide) hw15)))) (Nat.le_of_ble_eq_true rfl) (s_27_14 (xgs (xgn (by decide) (xgn (by decide) (xgs hw11)))) (xgn (by decide) (xgs (xgn (by decide) (xgn (by decide) hw12)))) (xgn (by decide) (xgn (by decide) (xgs (xgn (by decide) hw13)))) xup_s hg16 (xgn e17 (xgn e18 (xgn e19 (xgn e17 hw20)))) (xgn (by decide) (xgn (by decide) (xgn (by decide) (xgn (by decide) hw15)))) e21 hg22 e23 e24 e25 e26 hg27 e28 (xgn e29 (xgn e30 (xgn e31 (xgn e29 hw32)))) hg33 e34 (xgn e35 (xgn e36 (xgn e37 (xgn e35 hw38)))) e39 (xup_n (by decide) xup_s) e40 e41 e42 e43 e44 e45 e46 e47 e48 e49 e50 e51 e52 e53 e54 e55 e56 e57) ?_
  exact i_21_105 ⟨rfl, rfl⟩
theorem s_20_14 {d : Nat} {w : xW} {a0 : Int32} {b0 : Int64} {a1 : Int32} {a2 : Int32} {g0 : Nat → Value} {h0 : Nat} {a3 : Int32} {h1 : Nat} {a4 : Int32} {h2 : Nat} (hw0 : w[7]? = some (Sum.inr (0, [Value.ref 8, Value.ref 78, Value.ref 9, Value.ref 10, Value.ref 13, Value.ref 16, Value.ref 19, Value.ref 93, Value.ref 108, Value.ref 113, Value.ref 29, Value.int 0]))) (e1 : 0 ≤ a0.toInt) (e2 : a0.toInt < 16) (e3 : (-40000) ≤ a1.toInt) (e4 : a1.toInt ≤ 40000) (e5 : 0 ≤ a2.toInt) (e6 : a2.toInt ≤ 4) (hw7 : w[8]? = some (Sum.inl (4, 16, g0))) (hg8 : g0 a0.toInt.toNat = Value.ref h0) (e9 : (lg_cmp b0 (0 : Int64)).toInt ≠ 0) (e10 : 0 ≤ (lg_cmp b0 (0 : Int64)).toInt) (hw11 : w[16]? = some (Sum.inr (4, [Value.int 0, Value.ref 17, Value.int 0, Value.int 0]))) (hw12 : w[17]? = some (Sum.inr (3, [Value.ref 18, Value.int 0]))) (hw13 : w[18]? = some (Sum.inl (0, 8, fun _ => Value.int 0))) (e14 : (xhi b0).toInt ≠ 0) (hw15 : w[78]? = some (Sum.inr (1, [Value.int (-16384), Value.int 16384, Value.int 0, Value.int 0]))) (hg16 : ((64 : Int32) - (xnlz (xhi b0))) = a3) (e17 : 16 ≠ h0) (e18 : 17 ≠ h0) (e19 : 18 ≠ h0) (hw20 : w[h0]? = some (Sum.inr (2, [Value.int 64, Value.int 0, Value.int 0, Value.int 0, Value.ref h1]))) (e21 : (((a3 + a1) - (64 : Int32)) - a1).toInt ≤ 0) (hg22 : ((a3 + a1) - ((a3 + a1) - (64 : Int32))) = 64) (e23 : 7 ≤ h0) (e24 : h0 ≠ 16) (e25 : h0 ≠ 17) (e26 : h0 ≠ 18) (hg27 : ((64 : Int32) - a3) = a4) (e28 : h0 ≠ h1) (e29 : 16 ≠ h1) (e30 : 17 ≠ h1) (e31 : 18 ≠ h1) (hw32 : w[h1]? = some (Sum.inr (3, [Value.ref h2, Value.int 0]))) (hg33 : (a3 + a4) = 64) (e34 : h0 ≠ h2) (e35 : 16 ≠ h2) (e36 : 17 ≠ h2) (e37 : 18 ≠ h2) (hw38 : w[h2]? = some (Sum.inl (0, 8, fun _ => Value.int 0))) (e39 : 0 ≤ a4.toInt) (e40 : 7 ≤ h2) (e41 : h2 ≠ h1) (e42 : h2 ≠ 17) (e43 : h2 ≠ 18) (e44 : 7 ≤ h1) (e45 : h1 ≠ h0) (e46 : h2 ≠ h0) (e47 : h1 ≠ h2) (e48 : (xbf 2 (xlo b0) (xhi b0) ((32 : Int32) - a4)).toInt ≠ 0) (e49 : ((64 : Int32) - (xnlz (xbf 2 (xlo b0) (xhi b0) ((32 : Int32) - a4)))).toInt ≤ 64) (e50 : h1 ≠ 78) (e51 : h2 ≠ 78) (e52 : h0 ≠ 78) (e53 : 16384 < (a3 + a1).toInt) (e54 : h1 ≠ 16) (e55 : h2 ≠ 16) (e56 : a2.toInt = 0) (e57 : 78 ≠ h0) (e58 : h0 ≠ 194) (e59 : h1 ≠ 194) (e60 : h2 ≠ 194) (hw61 : w[194]? = some (Sum.inl (3, 1, fun _ => Value.long 0))) : xRun (d + 6) 20 [Value.ref 7, Value.int a0, Value.long b0, Value.int a1, Value.int a2, Value.ref 194] w (.inl (some (Value.int 0))) (((((((((((w.set 16 (Sum.inr (4, [Value.int 0, Value.ref 17, Value.int 0, Value.int 0]))).set 18 (Sum.inl (0, 8, xup (xup (fun _ => Value.int 0) (0 : Int32).toInt.toNat (Value.int (xlo b0))) (1 : Int32).toInt.toNat (Value.int (xhi b0))))).set 17 (Sum.inr (3, [Value.ref 18, Value.int 2]))).set 16 (Sum.inr (4, [Value.int 0, Value.ref 17, Value.int a1, Value.int 0]))).set h0 (Sum.inr (2, [Value.int 64, Value.int 3, Value.int 0, Value.int (a3 + a1), Value.ref h1]))).set h2 (Sum.inl (0, 8, xup (xup (fun _ => Value.int 0) (1 : Int32).toInt.toNat (Value.int (xbf 2 (xlo b0) (xhi b0) ((32 : Int32) - a4)))) (0 : Int32).toInt.toNat (Value.int (xbf 2 (xlo b0) (xhi b0) ((0 : Int32) - a4)))))).set h1 (Sum.inr (3, [Value.ref h2, Value.int 2]))).set 78 (Sum.inr (1, [Value.int (-16384), Value.int 16384, Value.int 0, Value.int 2]))).set h0 (Sum.inr (2, [Value.int 64, Value.int 1, Value.int 0, Value.int (a3 + a1), Value.ref h1]))).set 78 (Sum.inr (1, [Value.int (-16384), Value.int 16384, Value.int 0, Value.int 3]))).set 194 (Sum.inl (3, 1, xup (fun _ => Value.long 0) (0 : Int32).toInt.toNat (Value.long 1)))) := by
  refine xRun.of ?_
  refine i_20_0 (x := 194) rfl ?_
  refine i_20_2 ?_
  refine i_20_3 (x := 7) rfl ?_
  refine i_20_4 (x := a0) rfl ?_
  refine i_20_5 (x := b0) rfl ?_
  refine i_20_6 (x := a1) rfl ?_
  refine i_20_8 (x := a2) rfl ?_
  refine i_20_10 hw0 (Nat.le_of_ble_eq_true rfl) (s_21_14 e1 e2 e3 e4 e5 e6 hw0 hw7 hg8 e9 e10 hw11 hw12 hw13 e14 hw15 hg16 e17 e18 e19 hw20 e21 hg22 e23 e24 e25 e26 hg27 e28 e29 e30 e31 hw32 hg33 e34 e35 e36 e37 hw38 e39 e40 e41 e42 e43 e44 e45 e46 e47 e48 e49 e50 e51 e52 e53 e54 e55 e56 e57) ?_
  refine i_20_13 (c := 1) (by decide) ?_
  refine i_20_14 (v := Value.long 1) (xgn (by decide) (xgn e58 (xgn (by decide) (xgn e59 (xgn e60 (xgn e58 (xgn (by decide) (xgn (by decide) (xgn (by decide) (xgn (by decide) hw61)))))))))) (by decide) (by decide) (by decide) rfl ?_
  refine i_20_15 ?_
  refine i_20_22 ?_
  exact i_20_23 ⟨rfl, rfl⟩
theorem cn3_0_14 {d : Nat} {xs : Nat → Int32} {B K : Int32} (c0 : 0 ≤ (xs 1).toInt) (c1 : (xs 1).toInt < 16) (c2 : (-40000) ≤ (xs 4).toInt) (c3 : (xs 4).toInt ≤ 40000) (c4 : 0 ≤ (xs 5).toInt) (c5 : (xs 5).toInt ≤ 4) (c6 : (lg_cmp (xvv xs) (0 : Int64)).toInt ≠ 0) (c7 : 0 ≤ (lg_cmp (xvv xs) (0 : Int64)).toInt) (c8 : K.toInt = 64 - B.toInt) (c9 : 33 ≤ B.toInt) (c10 : B.toInt ≤ 64) (c11 : (xhi (xvv xs)).toInt ≠ 0) (c12 : (xnlz (xhi (xvv xs))).toInt = 64 - B.toInt) (c13 : (xbf 2 (xlo (xvv xs)) (xhi (xvv xs)) ((32 : Int32) - K)).toInt ≠ 0) (c14 : 16384 < (B + (xs 4)).toInt) (c15 : (xs 5).toInt = 0) : ∃ w1, xRun (d + 18) 20 [Value.ref 7, Value.int (xs 1), Value.long (xvv xs), Value.int (xs 4), Value.int (xs 5), Value.ref 194] (W0 6 xs) (.inl (some (Value.int 0))) w1 ∧ xKp (W0 6 xs) w1 xPC ∧ w1[194]? = some (Sum.inl (3, 1, xup (fun _ => Value.long 0) (0 : Int32).toInt.toNat (Value.long 1))) := by
  have f0 : ((64 : Int32) - (xnlz (xhi (xvv xs)))).toInt = 64 - (xnlz (xhi (xvv xs))).toInt := xsub_g rfl rfl (by omega) (by omega)
  have f1 : (B + (xs 4)).toInt = B.toInt + (xs 4).toInt := xadd_i (by omega) (by omega)
  have f2 : ((B + (xs 4)) - (64 : Int32)).toInt = (B + (xs 4)).toInt - 64 := xsub_g rfl rfl (by omega) (by omega)
  have f3 : (((B + (xs 4)) - (64 : Int32)) - (xs 4)).toInt = ((B + (xs 4)) - (64 : Int32)).toInt - (xs 4).toInt := xsub_i (by omega) (by omega)
  have f4 : ((B + (xs 4)) - ((B + (xs 4)) - (64 : Int32))).toInt = (B + (xs 4)).toInt - ((B + (xs 4)) - (64 : Int32)).toInt := xsub_i (by omega) (by omega)
  have f5 : ((64 : Int32) - B).toInt = 64 - B.toInt := xsub_g rfl rfl (by omega) (by omega)
  have f6 : (B + K).toInt = B.toInt + K.toInt := xadd_i (by omega) (by omega)
  have f7 : 0 ≤ (xnlz (xbf 2 (xlo (xvv xs)) (xhi (xvv xs)) ((32 : Int32) - K))).toInt := (xnlz_b _).1
  have f8 : (xnlz (xbf 2 (xlo (xvv xs)) (xhi (xvv xs)) ((32 : Int32) - K))).toInt ≤ 32 := (xnlz_b _).2
  have f9 : ((64 : Int32) - (xnlz (xbf 2 (xlo (xvv xs)) (xhi (xvv xs)) ((32 : Int32) - K)))).toInt = 64 - (xnlz (xbf 2 (xlo (xvv xs)) (xhi (xvv xs)) ((32 : Int32) - K))).toInt := xsub_g rfl rfl (by omega) (by omega)
  refine ⟨((((((((((((W0 6 xs).set 16 (Sum.inr (4, [Value.int 0, Value.ref 17, Value.int 0, Value.int 0]))).set 18 (Sum.inl (0, 8, xup (xup (fun _ => Value.int 0) (0 : Int32).toInt.toNat (Value.int (xlo (xvv xs)))) (1 : Int32).toInt.toNat (Value.int (xhi (xvv xs)))))).set 17 (Sum.inr (3, [Value.ref 18, Value.int 2]))).set 16 (Sum.inr (4, [Value.int 0, Value.ref 17, Value.int (xs 4), Value.int 0]))).set (30 + 3 * (xs 1).toInt.toNat) (Sum.inr (2, [Value.int 64, Value.int 3, Value.int 0, Value.int (B + (xs 4)), Value.ref (31 + 3 * (xs 1).toInt.toNat)]))).set (32 + 3 * (xs 1).toInt.toNat) (Sum.inl (0, 8, xup (xup (fun _ => Value.int 0) (1 : Int32).toInt.toNat (Value.int (xbf 2 (xlo (xvv xs)) (xhi (xvv xs)) ((32 : Int32) - K)))) (0 : Int32).toInt.toNat (Value.int (xbf 2 (xlo (xvv xs)) (xhi (xvv xs)) ((0 : Int32) - K)))))).set (31 + 3 * (xs 1).toInt.toNat) (Sum.inr (3, [Value.ref (32 + 3 * (xs 1).toInt.toNat), Value.int 2]))).set 78 (Sum.inr (1, [Value.int (-16384), Value.int 16384, Value.int 0, Value.int 2]))).set (30 + 3 * (xs 1).toInt.toNat) (Sum.inr (2, [Value.int 64, Value.int 1, Value.int 0, Value.int (B + (xs 4)), Value.ref (31 + 3 * (xs 1).toInt.toNat)]))).set 78 (Sum.inr (1, [Value.int (-16384), Value.int 16384, Value.int 0, Value.int 3]))).set 194 (Sum.inl (3, 1, xup (fun _ => Value.long 0) (0 : Int32).toInt.toNat (Value.long 1)))), (s_20_14 W0_7 (by omega) (by omega) (by omega) (by omega) (by omega) (by omega) W0_8 (greg_at (by omega)) (by omega) (by omega) W0_16 W0_17 W0_18 (by omega) W0_78 (show ((64 : Int32) - (xnlz (xhi (xvv xs)))) = B from (xge_i (by omega))) (by omega) (by omega) (by omega) (W0_reg (by omega)) (by omega) (show ((B + (xs 4)) - ((B + (xs 4)) - (64 : Int32))) = 64 from (xge_c (n := 64) (by omega) rfl)) (by omega) (by omega) (by omega) (by omega) (show ((64 : Int32) - B) = K from (xge_i (by omega))) (by omega) (by omega) (by omega) (by omega) (W0_man (by omega)) (show (B + K) = 64 from (xge_c (n := 64) (by omega) rfl)) (by omega) (by omega) (by omega) (by omega) (W0_mw (by omega)) (by omega) (by omega) (by omega) (by omega) (by omega) (by omega) (by omega) (by omega) (by omega) (by omega) (by omega) (by omega) (by omega) (by omega) (by omega) (by omega) (by omega) (by omega) (by omega) (by omega) (by omega) (by omega) W0_194), ?_, xgs (xgn (by decide) (xgn (by omega) (xgn (by decide) (xgn (by omega) (xgn (by omega) (xgn (by omega) (xgn (by decide) (xgn (by decide) (xgn (by decide) (xgn (by decide) W0_194))))))))))⟩
  refine xKp.set ?_ (fun h hh => by unfold xPC at hh; omega) (xgn (by decide) (xgn (by omega) (xgn (by decide) (xgn (by omega) (xgn (by omega) (xgn (by omega) (xgn (by decide) (xgn (by decide) (xgn (by decide) (xgn (by decide) W0_194)))))))))) xcs_a
  refine xKp.set ?_ (fun h hh => by unfold xPC at hh; omega) (xgn (by omega) (xgs (xgn (by omega) (xgn (by omega) (xgn (by omega) (xgn (by decide) (xgn (by decide) (xgn (by decide) (xgn (by decide) W0_78))))))))) xcs_o
  refine xKp.set ?_ (fun h hh => by unfold xPC at hh; omega) (xgn (by omega) (xgn (by omega) (xgn (by omega) (xgs (xgn (by omega) (xgn (by omega) (xgn (by omega) (xgn (by omega) (W0_reg (by omega)))))))))) xcs_o
  refine xKp.set ?_ (fun h hh => by unfold xPC at hh; omega) (xgn (by omega) (xgn (by omega) (xgn (by omega) (xgn (by decide) (xgn (by decide) (xgn (by decide) (xgn (by decide) W0_78))))))) xcs_o
  refine xKp.set ?_ (fun h hh => by unfold xPC at hh; omega) (xgn (by omega) (xgn (by omega) (xgn (by omega) (xgn (by omega) (xgn (by omega) (xgn (by omega) (W0_man (by omega)))))))) xcs_o
  refine xKp.set ?_ (fun h hh => by unfold xPC at hh; omega) (xgn (by omega) (xgn (by omega) (xgn (by omega) (xgn (by omega) (xgn (by omega) (W0_mw (by omega))))))) xcs_a
  refine xKp.set ?_ (fun h hh => by unfold xPC at hh; omega) (xgn (by omega) (xgn (by omega) (xgn (by omega) (xgn (by omega) (W0_reg (by omega)))))) xcs_o
  refine xKp.set ?_ (fun h hh => by unfold xPC at hh; omega) (xgn (by decide) (xgn (by decide) (xgs W0_16))) xcs_o
  refine xKp.set ?_ (fun h hh => by unfold xPC at hh; omega) (xgn (by decide) (xgn (by decide) W0_17)) xcs_o
  refine xKp.set ?_ (fun h hh => by unfold xPC at hh; omega) (xgn (by decide) W0_18) xcs_a
  refine xKp.set ?_ (fun h hh => by unfold xPC at hh; omega) (W0_16) xcs_o
  exact xKp.refl
theorem s_27_15 {d : Nat} {w : xW} {h0 : Nat} {a0 : Int32} {a1 : Int32} {g0 : Nat → Value} {a2 : Int32} {a3 : Int32} {h1 : Nat} {a4 : Int32} {h2 : Nat} {a5 : Int32} (hw0 : w[16]? = some (Sum.inr (4, [Value.int 0, Value.ref 17, Value.int a1, Value.int 0]))) (hw1 : w[17]? = some (Sum.inr (3, [Value.ref 18, Value.int 2]))) (hw2 : w[18]? = some (Sum.inl (0, 8, g0))) (hg3 : g0 (1 : Int32).toInt.toNat = Value.int a2) (hg4 : ((64 : Int32) - (xnlz a2)) = a3) (hw5 : w[h0]? = some (Sum.inr (2, [Value.int 64, Value.int 0, Value.int 0, Value.int 0, Value.ref h1]))) (hw6 : w[78]? = some (Sum.inr (1, [Value.int (-16384), Value.int 16384, Value.int 0, Value.int 0]))) (e7 : (((a3 + a1) - (64 : Int32)) - a1).toInt ≤ 0) (hg8 : ((a3 + a1) - ((a3 + a1) - (64 : Int32))) = 64) (e9 : 7 ≤ h0) (e10 : h0 ≠ 16) (e11 : h0 ≠ 17) (e12 : h0 ≠ 18) (hg13 : ((64 : Int32) - a3) = a4) (e14 : h0 ≠ h1) (hw15 : w[h1]? = some (Sum.inr (3, [Value.ref h2, Value.int 0]))) (hg16 : (a3 + a4) = 64) (e17 : h0 ≠ h2) (hw18 : w[h2]? = some (Sum.inl (0, 8, fun _ => Value.int 0))) (e19 : 0 ≤ a4.toInt) (hg20 : g0 (0 : Int32).toInt.toNat = Value.int a5) (e21 : 7 ≤ h2) (e22 : h2 ≠ h1) (e23 : h2 ≠ 17) (e24 : h2 ≠ 18) (e25 : 7 ≤ h1) (e26 : h1 ≠ h0) (e27 : h2 ≠ h0) (e28 : h1 ≠ h2) (e29 : (xbf 2 a5 a2 ((32 : Int32) - a4)).toInt ≠ 0) (e30 : ((64 : Int32) - (xnlz (xbf 2 a5 a2 ((32 : Int32) - a4)))).toInt ≤ 64) (e31 : h1 ≠ 78) (e32 : h2 ≠ 78) (e33 : h0 ≠ 78) (e34 : 16384 < (a3 + a1).toInt) (e35 : h1 ≠ 16) (e36 : h2 ≠ 16) (e37 : a0.toInt ≠ 0) (e38 : a0.toInt = 4) (e39 : 78 ≠ h0) : xRun (d + 4) 27 [Value.ref 78, Value.ref h0, Value.ref 16, Value.int a0] w (.inl (some (Value.int 1))) ((((((w.set h0 (Sum.inr (2, [Value.int 64, Value.int 3, Value.int 0, Value.int (a3 + a1), Value.ref h1]))).set h2 (Sum.inl (0, 8, xup (xup (fun _ => Value.int 0) (1 : Int32).toInt.toNat (Value.int (xbf 2 a5 a2 ((32 : Int32) - a4)))) (0 : Int32).toInt.toNat (Value.int (xbf 2 a5 a2 ((0 : Int32) - a4)))))).set h1 (Sum.inr (3, [Value.ref h2, Value.int 2]))).set 78 (Sum.inr (1, [Value.int (-16384), Value.int 16384, Value.int 0, Value.int 2]))).set h0 (Sum.inr (2, [Value.int 64, Value.int 1, Value.int 0, Value.int (a3 + a1), Value.ref h1]))).set 78 (Sum.inr (1, [Value.int (-16384), Value.int 16384, Value.int 0, Value.int 3]))) := by
  refine xRun.of ?_
  refine i_27_0 (x := 16) rfl ?_
  refine i_27_1 hw0 (Nat.le_of_ble_eq_true rfl) (s_28_1 hw0 hw1 hw2 hg3 hg4) ?_
  refine i_27_4 (lv2 := [(4, Value.int (a3 + a1)), (0, Value.ref 78), (1, Value.ref h0), (2, Value.ref 16), (3, Value.int a0)]) rfl ?_
  refine i_27_6 (x := 78) rfl ?_
  refine i_27_7 (x := (a3 + a1)) rfl ?_
  refine i_27_9 (x := h0) rfl ?_
  refine i_27_10 (v := Value.int 64) hw5 rfl ?_
  refine i_27_13 hw6 (Nat.le_of_ble_eq_true rfl) (s_30_0 hw6) ?_
  refine i_27_16 (lv2 := [(5, Value.int ((a3 + a1) - (64 : Int32))), (4, Value.int (a3 + a1)), (0, Value.ref 78), (1, Value.ref h0), (2, Value.ref 16), (3, Value.int a0)]) rfl ?_
  refine i_27_18 (x := 16) rfl ?_
  refine i_27_19 (x := ((a3 + a1) - (64 : Int32))) rfl ?_
  refine i_27_21 (x := a0) rfl ?_
  refine i_27_22 hw0 (Nat.le_of_ble_eq_true rfl) (s_31_1 hw0 hw1 e7) ?_
  refine i_27_25 (lv2 := [(6, Value.int 0), (5, Value.int ((a3 + a1) - (64 : Int32))), (4, Value.int (a3 + a1)), (0, Value.ref 78), (1, Value.ref h0), (2, Value.ref 16), (3, Value.int a0)]) rfl ?_
  refine i_27_27 (x := 16) rfl ?_
  refine i_27_28 (x := ((a3 + a1) - (64 : Int32))) rfl ?_
  refine i_27_30 hw0 (Nat.le_of_ble_eq_true rfl) (s_32_1 hw0 hw1 e7) ?_
  refine i_27_33 (fun h => absurd h (by decide)) (fun _ => ?_)
  refine i_27_36 ?_
  refine i_27_37 ?_
  refine i_27_50 (lv2 := [(7, Value.int 0), (6, Value.int 0), (5, Value.int ((a3 + a1) - (64 : Int32))), (4, Value.int (a3 + a1)), (0, Value.ref 78), (1, Value.ref h0), (2, Value.ref 16), (3, Value.int a0)]) rfl ?_
  refine i_27_52 (x := h0) rfl ?_
  refine i_27_53 (x := 16) rfl ?_
  refine i_27_54 (x := ((a3 + a1) - (64 : Int32))) rfl ?_
  refine i_27_56 (x := 0) rfl ?_
  refine i_27_58 hw5 (Nat.le_of_ble_eq_true rfl) (s_38_1 hw0 hw1 hw2 hg3 hg4 hg8 hw5 e9 e10 e11 e12 hg13 e14 hw15 hg16 e17 hw18 e19 hg20 e21 e22 e23 e24 e25 e26 e27 e28 e29 e30) ?_
  refine i_27_61 (x := h0) rfl ?_
  refine i_27_62 (v := Value.int 3) (xgn e26 (xgn e27 (xgs hw5))) rfl ?_
  refine i_27_65 ?_
  refine i_27_66 (fun h => absurd h (by decide)) (fun _ => ?_)
  refine i_27_69 (x := h0) rfl ?_
  refine i_27_70 (v := Value.int (a3 + a1)) (xgn e26 (xgn e27 (xgs hw5))) rfl ?_
  refine i_27_73 (x := 78) rfl ?_
  refine i_27_74 (v := Value.int 16384) (xgn e31 (xgn e32 (xgn e33 hw6))) rfl ?_
  refine i_27_77 (fun h => absurd e34 (Int.not_lt.mpr h)) (fun _ => ?_)
  refine i_27_80 (x := 78) rfl ?_
  refine i_27_81 (x := h0) rfl ?_
  refine i_27_82 (x := 16) rfl ?_
  refine i_27_83 (v := Value.int 0) (xgn e35 (xgn e36 (xgn e10 hw0))) rfl ?_
  refine i_27_86 (x := a0) rfl ?_
  refine i_27_87 (xgn e31 (xgn e32 (xgn e33 hw6))) (Nat.le_of_ble_eq_true rfl) (s_46_1 (xgn e31 (xgn e32 (xgn e33 hw6))) e37 e38 e39 (xgn e26 (xgn e27 (xgs hw5))) e9) ?_
  refine i_27_90 (lv2 := [(7, Value.int 1), (6, Value.int 0), (5, Value.int ((a3 + a1) - (64 : Int32))), (4, Value.int (a3 + a1)), (0, Value.ref 78), (1, Value.ref h0), (2, Value.ref 16), (3, Value.int a0)]) rfl ?_
  refine i_27_92 ?_
  refine i_27_164 (x := 1) rfl ?_
  refine i_27_166 (fun h => absurd h (by decide)) (fun _ => ?_)
  refine i_27_169 (x := 78) rfl ?_
  refine i_27_170 rfl ?_
  refine i_27_171 (v := Value.int 2) (xgn e33 (xgs (xgn e31 (xgn e32 (xgn e33 hw6))))) rfl ?_
  refine i_27_174 ?_
  refine i_27_175 (c := 3) (by decide) ?_
  refine i_27_176 (fs2 := [Value.int (-16384), Value.int 16384, Value.int 0, Value.int 3]) (xgn e33 (xgs (xgn e31 (xgn e32 (xgn e33 hw6))))) (Nat.le_of_ble_eq_true rfl) rfl (by decide) ?_
  refine i_27_179 (x := 16) rfl ?_
  refine i_27_180 (v := Value.int 0) (xgn (by decide) (xgn e10 (xgn (by decide) (xgn e35 (xgn e36 (xgn e10 hw0)))))) rfl ?_
  refine i_27_183 (fun _ => ?_) (fun h => absurd h (by decide))
  refine i_27_192 (x := 1) rfl ?_
  exact i_27_194 ⟨rfl, rfl⟩
theorem s_21_15 {d : Nat} {w : xW} {a0 : Int32} {b0 : Int64} {a1 : Int32} {a2 : Int32} {g0 : Nat → Value} {h0 : Nat} {a3 : Int32} {h1 : Nat} {a4 : Int32} {h2 : Nat} (e0 : 0 ≤ a0.toInt) (e1 : a0.toInt < 16) (e2 : (-40000) ≤ a1.toInt) (e3 : a1.toInt ≤ 40000) (e4 : 0 ≤ a2.toInt) (e5 : a2.toInt ≤ 4) (hw6 : w[7]? = some (Sum.inr (0, [Value.ref 8, Value.ref 78, Value.ref 9, Value.ref 10, Value.ref 13, Value.ref 16, Value.ref 19, Value.ref 93, Value.ref 108, Value.ref 113, Value.ref 29, Value.int 0]))) (hw7 : w[8]? = some (Sum.inl (4, 16, g0))) (hg8 : g0 a0.toInt.toNat = Value.ref h0) (e9 : (lg_cmp b0 (0 : Int64)).toInt ≠ 0) (e10 : 0 ≤ (lg_cmp b0 (0 : Int64)).toInt) (hw11 : w[16]? = some (Sum.inr (4, [Value.int 0, Value.ref 17, Value.int 0, Value.int 0]))) (hw12 : w[17]? = some (Sum.inr (3, [Value.ref 18, Value.int 0]))) (hw13 : w[18]? = some (Sum.inl (0, 8, fun _ => Value.int 0))) (e14 : (xhi b0).toInt ≠ 0) (hw15 : w[78]? = some (Sum.inr (1, [Value.int (-16384), Value.int 16384, Value.int 0, Value.int 0]))) (hg16 : ((64 : Int32) - (xnlz (xhi b0))) = a3) (e17 : 16 ≠ h0) (e18 : 17 ≠ h0) (e19 : 18 ≠ h0) (hw20 : w[h0]? = some (Sum.inr (2, [Value.int 64, Value.int 0, Value.int 0, Value.int 0, Value.ref h1]))) (e21 : (((a3 + a1) - (64 : Int32)) - a1).toInt ≤ 0) (hg22 : ((a3 + a1) - ((a3 + a1) - (64 : Int32))) = 64) (e23 : 7 ≤ h0) (e24 : h0 ≠ 16) (e25 : h0 ≠ 17) (e26 : h0 ≠ 18) (hg27 : ((64 : Int32) - a3) = a4) (e28 : h0 ≠ h1) (e29 : 16 ≠ h1) (e30 : 17 ≠ h1) (e31 : 18 ≠ h1) (hw32 : w[h1]? = some (Sum.inr (3, [Value.ref h2, Value.int 0]))) (hg33 : (a3 + a4) = 64) (e34 : h0 ≠ h2) (e35 : 16 ≠ h2) (e36 : 17 ≠ h2) (e37 : 18 ≠ h2) (hw38 : w[h2]? = some (Sum.inl (0, 8, fun _ => Value.int 0))) (e39 : 0 ≤ a4.toInt) (e40 : 7 ≤ h2) (e41 : h2 ≠ h1) (e42 : h2 ≠ 17) (e43 : h2 ≠ 18) (e44 : 7 ≤ h1) (e45 : h1 ≠ h0) (e46 : h2 ≠ h0) (e47 : h1 ≠ h2) (e48 : (xbf 2 (xlo b0) (xhi b0) ((32 : Int32) - a4)).toInt ≠ 0) (e49 : ((64 : Int32) - (xnlz (xbf 2 (xlo b0) (xhi b0) ((32 : Int32) - a4)))).toInt ≤ 64) (e50 : h1 ≠ 78) (e51 : h2 ≠ 78) (e52 : h0 ≠ 78) (e53 : 16384 < (a3 + a1).toInt) (e54 : h1 ≠ 16) (e55 : h2 ≠ 16) (e56 : a2.toInt ≠ 0) (e57 : a2.toInt = 4) (e58 : 78 ≠ h0) : xRun (d + 5) 21 [Value.ref 7, Value.int a0, Value.long b0, Value.int a1, Value.int a2] w (.inl (some (Value.int 1))) ((((((((((w.set 16 (Sum.inr (4, [Value.int 0, Value.ref 17, Value.int 0, Value.int 0]))).set 18 (Sum.inl (0, 8, xup (xup (fun _ => Value.int 0) (0 : Int32).toInt.toNat (Value.int (xlo b0))) (1 : Int32).toInt.toNat (Value.int (xhi b0))))).set 17 (Sum.inr (3, [Value.ref 18, Value.int 2]))).set 16 (Sum.inr (4, [Value.int 0, Value.ref 17, Value.int a1, Value.int 0]))).set h0 (Sum.inr (2, [Value.int 64, Value.int 3, Value.int 0, Value.int (a3 + a1), Value.ref h1]))).set h2 (Sum.inl (0, 8, xup (xup (fun _ => Value.int 0) (1 : Int32).toInt.toNat (Value.int (xbf 2 (xlo b0) (xhi b0) ((32 : Int32) - a4)))) (0 : Int32).toInt.toNat (Value.int (xbf 2 (xlo b0) (xhi b0) ((0 : Int32) - a4)))))).set h1 (Sum.inr (3, [Value.ref h2, Value.int 2]))).set 78 (Sum.inr (1, [Value.int (-16384), Value.int 16384, Value.int 0, Value.int 2]))).set h0 (Sum.inr (2, [Value.int 64, Value.int 1, Value.int 0, Value.int (a3 + a1), Value.ref h1]))).set 78 (Sum.inr (1, [Value.int (-16384), Value.int 16384, Value.int 0, Value.int 3]))) := by
  refine xRun.of ?_
  refine i_21_0 (x := a0) rfl ?_
  refine i_21_1 (Nat.le_of_ble_eq_true rfl) (s_15_0 e0 e1) ?_
  refine i_21_4 (fun h => absurd h (by decide)) (fun _ => ?_)
  refine i_21_7 (x := a1) rfl ?_
  refine i_21_9 ?_
  refine i_21_11 (fun h => absurd e2 (Int.not_le.mpr h)) (fun _ => ?_)
  refine i_21_14 (x := a1) rfl ?_
  refine i_21_16 ?_
  refine i_21_18 (fun h => absurd e3 (Int.not_le.mpr h)) (fun _ => ?_)
  refine i_21_21 (x := a2) rfl ?_
  refine i_21_23 (Nat.le_of_ble_eq_true rfl) (s_22_0 e4 e5) ?_
  refine i_21_26 (fun _ => ?_) (fun h => absurd h (by decide))
  refine i_21_37 (x := 7) rfl ?_
  refine i_21_38 (v := Value.ref 8) hw6 rfl ?_
  refine i_21_41 (x := a0) rfl ?_
  refine i_21_42 (v := Value.ref h0) hw7 e0 e1 hg8 ?_
  refine i_21_43 (lv2 := [(6, Value.ref h0), (0, Value.ref 7), (1, Value.int a0), (2, Value.long b0), (4, Value.int a1), (5, Value.int a2)]) rfl ?_
  refine i_21_45 (x := b0) rfl ?_
  refine i_21_46 ?_
  refine i_21_47 (c := (lg_cmp b0 (0 : Int64))) rfl ?_
  refine i_21_48 (fun _ => ?_) (fun h => absurd e9 (fun g => g h))
  refine i_21_58 (x := 7) rfl ?_
  refine i_21_59 (v := Value.ref 16) hw6 rfl ?_
  refine i_21_62 (x := b0) rfl ?_
  refine i_21_63 ?_
  refine i_21_64 (c := (lg_cmp b0 (0 : Int64))) rfl ?_
  refine i_21_65 (fun _ => ?_) (fun h => absurd e10 (Int.not_le.mpr h))
  refine i_21_72 ?_
  refine i_21_73 (x := b0) rfl ?_
  refine i_21_74 ?_
  refine i_21_75 (c := (lg_cmp b0 (0 : Int64))) rfl ?_
  refine i_21_76 (fun _ => ?_) (fun h => absurd e10 (Int.not_le.mpr h))
  refine i_21_84 (x := b0) rfl ?_
  refine i_21_85 (x := a1) rfl ?_
  refine i_21_87 hw11 (Nat.le_of_ble_eq_true rfl) (s_24_1 hw11 hw12 hw13 e14) ?_
  refine i_21_90 (x := 7) rfl ?_
  refine i_21_91 (v := Value.ref 78) (xgn (by decide) (xgn (by decide) (xgn (by decide) (xgn (by decide) hw6)))) rfl ?_
  refine i_21_94 (x := h0) rfl ?_
  refine i_21_96 (x := 7) rfl ?_
  refine i_21_97 (v := Value.ref 16) (xgn (by decide) (xgn (by decide) (xgn (by decide) (xgn (by decide) hw6)))) rfl ?_
  refine i_21_100 (x := a2) rfl ?_
  refine i_21_102 (xgn (by decide) (xgn (by decide) (xgn (by decide) (xgn (by decide) hw15)))) (Nat.le_of_ble_eq_true rfl) (s_27_15 (xgs (xgn (by decide) (xgn (by decide) (xgs hw11)))) (xgn (by decide) (xgs (xgn (by decide) (xgn (by decide) hw12)))) (xgn (by decide) (xgn (by decide) (xgs (xgn (by decide) hw13)))) xup_s hg16 (xgn e17 (xgn e18 (xgn e19 (xgn e17 hw20)))) (xgn (by decide) (xgn (by decide) (xgn (by decide) (xgn (by decide) hw15)))) e21 hg22 e23 e24 e25 e26 hg27 e28 (xgn e29 (xgn e30 (xgn e31 (xgn e29 hw32)))) hg33 e34 (xgn e35 (xgn e36 (xgn e37 (xgn e35 hw38)))) e39 (xup_n (by decide) xup_s) e40 e41 e42 e43 e44 e45 e46 e47 e48 e49 e50 e51 e52 e53 e54 e55 e56 e57 e58) ?_
  exact i_21_105 ⟨rfl, rfl⟩
theorem s_20_15 {d : Nat} {w : xW} {a0 : Int32} {b0 : Int64} {a1 : Int32} {a2 : Int32} {g0 : Nat → Value} {h0 : Nat} {a3 : Int32} {h1 : Nat} {a4 : Int32} {h2 : Nat} (hw0 : w[7]? = some (Sum.inr (0, [Value.ref 8, Value.ref 78, Value.ref 9, Value.ref 10, Value.ref 13, Value.ref 16, Value.ref 19, Value.ref 93, Value.ref 108, Value.ref 113, Value.ref 29, Value.int 0]))) (e1 : 0 ≤ a0.toInt) (e2 : a0.toInt < 16) (e3 : (-40000) ≤ a1.toInt) (e4 : a1.toInt ≤ 40000) (e5 : 0 ≤ a2.toInt) (e6 : a2.toInt ≤ 4) (hw7 : w[8]? = some (Sum.inl (4, 16, g0))) (hg8 : g0 a0.toInt.toNat = Value.ref h0) (e9 : (lg_cmp b0 (0 : Int64)).toInt ≠ 0) (e10 : 0 ≤ (lg_cmp b0 (0 : Int64)).toInt) (hw11 : w[16]? = some (Sum.inr (4, [Value.int 0, Value.ref 17, Value.int 0, Value.int 0]))) (hw12 : w[17]? = some (Sum.inr (3, [Value.ref 18, Value.int 0]))) (hw13 : w[18]? = some (Sum.inl (0, 8, fun _ => Value.int 0))) (e14 : (xhi b0).toInt ≠ 0) (hw15 : w[78]? = some (Sum.inr (1, [Value.int (-16384), Value.int 16384, Value.int 0, Value.int 0]))) (hg16 : ((64 : Int32) - (xnlz (xhi b0))) = a3) (e17 : 16 ≠ h0) (e18 : 17 ≠ h0) (e19 : 18 ≠ h0) (hw20 : w[h0]? = some (Sum.inr (2, [Value.int 64, Value.int 0, Value.int 0, Value.int 0, Value.ref h1]))) (e21 : (((a3 + a1) - (64 : Int32)) - a1).toInt ≤ 0) (hg22 : ((a3 + a1) - ((a3 + a1) - (64 : Int32))) = 64) (e23 : 7 ≤ h0) (e24 : h0 ≠ 16) (e25 : h0 ≠ 17) (e26 : h0 ≠ 18) (hg27 : ((64 : Int32) - a3) = a4) (e28 : h0 ≠ h1) (e29 : 16 ≠ h1) (e30 : 17 ≠ h1) (e31 : 18 ≠ h1) (hw32 : w[h1]? = some (Sum.inr (3, [Value.ref h2, Value.int 0]))) (hg33 : (a3 + a4) = 64) (e34 : h0 ≠ h2) (e35 : 16 ≠ h2) (e36 : 17 ≠ h2) (e37 : 18 ≠ h2) (hw38 : w[h2]? = some (Sum.inl (0, 8, fun _ => Value.int 0))) (e39 : 0 ≤ a4.toInt) (e40 : 7 ≤ h2) (e41 : h2 ≠ h1) (e42 : h2 ≠ 17) (e43 : h2 ≠ 18) (e44 : 7 ≤ h1) (e45 : h1 ≠ h0) (e46 : h2 ≠ h0) (e47 : h1 ≠ h2) (e48 : (xbf 2 (xlo b0) (xhi b0) ((32 : Int32) - a4)).toInt ≠ 0) (e49 : ((64 : Int32) - (xnlz (xbf 2 (xlo b0) (xhi b0) ((32 : Int32) - a4)))).toInt ≤ 64) (e50 : h1 ≠ 78) (e51 : h2 ≠ 78) (e52 : h0 ≠ 78) (e53 : 16384 < (a3 + a1).toInt) (e54 : h1 ≠ 16) (e55 : h2 ≠ 16) (e56 : a2.toInt ≠ 0) (e57 : a2.toInt = 4) (e58 : 78 ≠ h0) (e59 : h0 ≠ 194) (e60 : h1 ≠ 194) (e61 : h2 ≠ 194) (hw62 : w[194]? = some (Sum.inl (3, 1, fun _ => Value.long 0))) : xRun (d + 6) 20 [Value.ref 7, Value.int a0, Value.long b0, Value.int a1, Value.int a2, Value.ref 194] w (.inl (some (Value.int 0))) (((((((((((w.set 16 (Sum.inr (4, [Value.int 0, Value.ref 17, Value.int 0, Value.int 0]))).set 18 (Sum.inl (0, 8, xup (xup (fun _ => Value.int 0) (0 : Int32).toInt.toNat (Value.int (xlo b0))) (1 : Int32).toInt.toNat (Value.int (xhi b0))))).set 17 (Sum.inr (3, [Value.ref 18, Value.int 2]))).set 16 (Sum.inr (4, [Value.int 0, Value.ref 17, Value.int a1, Value.int 0]))).set h0 (Sum.inr (2, [Value.int 64, Value.int 3, Value.int 0, Value.int (a3 + a1), Value.ref h1]))).set h2 (Sum.inl (0, 8, xup (xup (fun _ => Value.int 0) (1 : Int32).toInt.toNat (Value.int (xbf 2 (xlo b0) (xhi b0) ((32 : Int32) - a4)))) (0 : Int32).toInt.toNat (Value.int (xbf 2 (xlo b0) (xhi b0) ((0 : Int32) - a4)))))).set h1 (Sum.inr (3, [Value.ref h2, Value.int 2]))).set 78 (Sum.inr (1, [Value.int (-16384), Value.int 16384, Value.int 0, Value.int 2]))).set h0 (Sum.inr (2, [Value.int 64, Value.int 1, Value.int 0, Value.int (a3 + a1), Value.ref h1]))).set 78 (Sum.inr (1, [Value.int (-16384), Value.int 16384, Value.int 0, Value.int 3]))).set 194 (Sum.inl (3, 1, xup (fun _ => Value.long 0) (0 : Int32).toInt.toNat (Value.long 1)))) := by
  refine xRun.of ?_
  refine i_20_0 (x := 194) rfl ?_
  refine i_20_2 ?_
  refine i_20_3 (x := 7) rfl ?_
  refine i_20_4 (x := a0) rfl ?_
  refine i_20_5 (x := b0) rfl ?_
  refine i_20_6 (x := a1) rfl ?_
  refine i_20_8 (x := a2) rfl ?_
  refine i_20_10 hw0 (Nat.le_of_ble_eq_true rfl) (s_21_15 e1 e2 e3 e4 e5 e6 hw0 hw7 hg8 e9 e10 hw11 hw12 hw13 e14 hw15 hg16 e17 e18 e19 hw20 e21 hg22 e23 e24 e25 e26 hg27 e28 e29 e30 e31 hw32 hg33 e34 e35 e36 e37 hw38 e39 e40 e41 e42 e43 e44 e45 e46 e47 e48 e49 e50 e51 e52 e53 e54 e55 e56 e57 e58) ?_
  refine i_20_13 (c := 1) (by decide) ?_
  refine i_20_14 (v := Value.long 1) (xgn (by decide) (xgn e59 (xgn (by decide) (xgn e60 (xgn e61 (xgn e59 (xgn (by decide) (xgn (by decide) (xgn (by decide) (xgn (by decide) hw62)))))))))) (by decide) (by decide) (by decide) rfl ?_
  refine i_20_15 ?_
  refine i_20_22 ?_
  exact i_20_23 ⟨rfl, rfl⟩
theorem cn3_0_15 {d : Nat} {xs : Nat → Int32} {B K : Int32} (c0 : 0 ≤ (xs 1).toInt) (c1 : (xs 1).toInt < 16) (c2 : (-40000) ≤ (xs 4).toInt) (c3 : (xs 4).toInt ≤ 40000) (c4 : 0 ≤ (xs 5).toInt) (c5 : (xs 5).toInt ≤ 4) (c6 : (lg_cmp (xvv xs) (0 : Int64)).toInt ≠ 0) (c7 : 0 ≤ (lg_cmp (xvv xs) (0 : Int64)).toInt) (c8 : K.toInt = 64 - B.toInt) (c9 : 33 ≤ B.toInt) (c10 : B.toInt ≤ 64) (c11 : (xhi (xvv xs)).toInt ≠ 0) (c12 : (xnlz (xhi (xvv xs))).toInt = 64 - B.toInt) (c13 : (xbf 2 (xlo (xvv xs)) (xhi (xvv xs)) ((32 : Int32) - K)).toInt ≠ 0) (c14 : 16384 < (B + (xs 4)).toInt) (c15 : (xs 5).toInt ≠ 0) (c16 : (xs 5).toInt = 4) : ∃ w1, xRun (d + 18) 20 [Value.ref 7, Value.int (xs 1), Value.long (xvv xs), Value.int (xs 4), Value.int (xs 5), Value.ref 194] (W0 6 xs) (.inl (some (Value.int 0))) w1 ∧ xKp (W0 6 xs) w1 xPC ∧ w1[194]? = some (Sum.inl (3, 1, xup (fun _ => Value.long 0) (0 : Int32).toInt.toNat (Value.long 1))) := by
  have f0 : ((64 : Int32) - (xnlz (xhi (xvv xs)))).toInt = 64 - (xnlz (xhi (xvv xs))).toInt := xsub_g rfl rfl (by omega) (by omega)
  have f1 : (B + (xs 4)).toInt = B.toInt + (xs 4).toInt := xadd_i (by omega) (by omega)
  have f2 : ((B + (xs 4)) - (64 : Int32)).toInt = (B + (xs 4)).toInt - 64 := xsub_g rfl rfl (by omega) (by omega)
  have f3 : (((B + (xs 4)) - (64 : Int32)) - (xs 4)).toInt = ((B + (xs 4)) - (64 : Int32)).toInt - (xs 4).toInt := xsub_i (by omega) (by omega)
  have f4 : ((B + (xs 4)) - ((B + (xs 4)) - (64 : Int32))).toInt = (B + (xs 4)).toInt - ((B + (xs 4)) - (64 : Int32)).toInt := xsub_i (by omega) (by omega)
  have f5 : ((64 : Int32) - B).toInt = 64 - B.toInt := xsub_g rfl rfl (by omega) (by omega)
  have f6 : (B + K).toInt = B.toInt + K.toInt := xadd_i (by omega) (by omega)
  have f7 : 0 ≤ (xnlz (xbf 2 (xlo (xvv xs)) (xhi (xvv xs)) ((32 : Int32) - K))).toInt := (xnlz_b _).1
  have f8 : (xnlz (xbf 2 (xlo (xvv xs)) (xhi (xvv xs)) ((32 : Int32) - K))).toInt ≤ 32 := (xnlz_b _).2
  have f9 : ((64 : Int32) - (xnlz (xbf 2 (xlo (xvv xs)) (xhi (xvv xs)) ((32 : Int32) - K)))).toInt = 64 - (xnlz (xbf 2 (xlo (xvv xs)) (xhi (xvv xs)) ((32 : Int32) - K))).toInt := xsub_g rfl rfl (by omega) (by omega)
  refine ⟨((((((((((((W0 6 xs).set 16 (Sum.inr (4, [Value.int 0, Value.ref 17, Value.int 0, Value.int 0]))).set 18 (Sum.inl (0, 8, xup (xup (fun _ => Value.int 0) (0 : Int32).toInt.toNat (Value.int (xlo (xvv xs)))) (1 : Int32).toInt.toNat (Value.int (xhi (xvv xs)))))).set 17 (Sum.inr (3, [Value.ref 18, Value.int 2]))).set 16 (Sum.inr (4, [Value.int 0, Value.ref 17, Value.int (xs 4), Value.int 0]))).set (30 + 3 * (xs 1).toInt.toNat) (Sum.inr (2, [Value.int 64, Value.int 3, Value.int 0, Value.int (B + (xs 4)), Value.ref (31 + 3 * (xs 1).toInt.toNat)]))).set (32 + 3 * (xs 1).toInt.toNat) (Sum.inl (0, 8, xup (xup (fun _ => Value.int 0) (1 : Int32).toInt.toNat (Value.int (xbf 2 (xlo (xvv xs)) (xhi (xvv xs)) ((32 : Int32) - K)))) (0 : Int32).toInt.toNat (Value.int (xbf 2 (xlo (xvv xs)) (xhi (xvv xs)) ((0 : Int32) - K)))))).set (31 + 3 * (xs 1).toInt.toNat) (Sum.inr (3, [Value.ref (32 + 3 * (xs 1).toInt.toNat), Value.int 2]))).set 78 (Sum.inr (1, [Value.int (-16384), Value.int 16384, Value.int 0, Value.int 2]))).set (30 + 3 * (xs 1).toInt.toNat) (Sum.inr (2, [Value.int 64, Value.int 1, Value.int 0, Value.int (B + (xs 4)), Value.ref (31 + 3 * (xs 1).toInt.toNat)]))).set 78 (Sum.inr (1, [Value.int (-16384), Value.int 16384, Value.int 0, Value.int 3]))).set 194 (Sum.inl (3, 1, xup (fun _ => Value.long 0) (0 : Int32).toInt.toNat (Value.long 1)))), (s_20_15 W0_7 (by omega) (by omega) (by omega) (by omega) (by omega) (by omega) W0_8 (greg_at (by omega)) (by omega) (by omega) W0_16 W0_17 W0_18 (by omega) W0_78 (show ((64 : Int32) - (xnlz (xhi (xvv xs)))) = B from (xge_i (by omega))) (by omega) (by omega) (by omega) (W0_reg (by omega)) (by omega) (show ((B + (xs 4)) - ((B + (xs 4)) - (64 : Int32))) = 64 from (xge_c (n := 64) (by omega) rfl)) (by omega) (by omega) (by omega) (by omega) (show ((64 : Int32) - B) = K from (xge_i (by omega))) (by omega) (by omega) (by omega) (by omega) (W0_man (by omega)) (show (B + K) = 64 from (xge_c (n := 64) (by omega) rfl)) (by omega) (by omega) (by omega) (by omega) (W0_mw (by omega)) (by omega) (by omega) (by omega) (by omega) (by omega) (by omega) (by omega) (by omega) (by omega) (by omega) (by omega) (by omega) (by omega) (by omega) (by omega) (by omega) (by omega) (by omega) (by omega) (by omega) (by omega) (by omega) (by omega) W0_194), ?_, xgs (xgn (by decide) (xgn (by omega) (xgn (by decide) (xgn (by omega) (xgn (by omega) (xgn (by omega) (xgn (by decide) (xgn (by decide) (xgn (by decide) (xgn (by decide) W0_194))))))))))⟩
  refine xKp.set ?_ (fun h hh => by unfold xPC at hh; omega) (xgn (by decide) (xgn (by omega) (xgn (by decide) (xgn (by omega) (xgn (by omega) (xgn (by omega) (xgn (by decide) (xgn (by decide) (xgn (by decide) (xgn (by decide) W0_194)))))))))) xcs_a
  refine xKp.set ?_ (fun h hh => by unfold xPC at hh; omega) (xgn (by omega) (xgs (xgn (by omega) (xgn (by omega) (xgn (by omega) (xgn (by decide) (xgn (by decide) (xgn (by decide) (xgn (by decide) W0_78))))))))) xcs_o
  refine xKp.set ?_ (fun h hh => by unfold xPC at hh; omega) (xgn (by omega) (xgn (by omega) (xgn (by omega) (xgs (xgn (by omega) (xgn (by omega) (xgn (by omega) (xgn (by omega) (W0_reg (by omega)))))))))) xcs_o
  refine xKp.set ?_ (fun h hh => by unfold xPC at hh; omega) (xgn (by omega) (xgn (by omega) (xgn (by omega) (xgn (by decide) (xgn (by decide) (xgn (by decide) (xgn (by decide) W0_78))))))) xcs_o
  refine xKp.set ?_ (fun h hh => by unfold xPC at hh; omega) (xgn (by omega) (xgn (by omega) (xgn (by omega) (xgn (by omega) (xgn (by omega) (xgn (by omega) (W0_man (by omega)))))))) xcs_o
  refine xKp.set ?_ (fun h hh => by unfold xPC at hh; omega) (xgn (by omega) (xgn (by omega) (xgn (by omega) (xgn (by omega) (xgn (by omega) (W0_mw (by omega))))))) xcs_a
  refine xKp.set ?_ (fun h hh => by unfold xPC at hh; omega) (xgn (by omega) (xgn (by omega) (xgn (by omega) (xgn (by omega) (W0_reg (by omega)))))) xcs_o
  refine xKp.set ?_ (fun h hh => by unfold xPC at hh; omega) (xgn (by decide) (xgn (by decide) (xgs W0_16))) xcs_o
  refine xKp.set ?_ (fun h hh => by unfold xPC at hh; omega) (xgn (by decide) (xgn (by decide) W0_17)) xcs_o
  refine xKp.set ?_ (fun h hh => by unfold xPC at hh; omega) (xgn (by decide) W0_18) xcs_a
  refine xKp.set ?_ (fun h hh => by unfold xPC at hh; omega) (W0_16) xcs_o
  exact xKp.refl
theorem s_27_16 {d : Nat} {w : xW} {h0 : Nat} {a0 : Int32} {a1 : Int32} {g0 : Nat → Value} {a2 : Int32} {a3 : Int32} {h1 : Nat} {a4 : Int32} {h2 : Nat} {a5 : Int32} (hw0 : w[16]? = some (Sum.inr (4, [Value.int 0, Value.ref 17, Value.int a1, Value.int 0]))) (hw1 : w[17]? = some (Sum.inr (3, [Value.ref 18, Value.int 2]))) (hw2 : w[18]? = some (Sum.inl (0, 8, g0))) (hg3 : g0 (1 : Int32).toInt.toNat = Value.int a2) (hg4 : ((64 : Int32) - (xnlz a2)) = a3) (hw5 : w[h0]? = some (Sum.inr (2, [Value.int 64, Value.int 0, Value.int 0, Value.int 0, Value.ref h1]))) (hw6 : w[78]? = some (Sum.inr (1, [Value.int (-16384), Value.int 16384, Value.int 0, Value.int 0]))) (e7 : (((a3 + a1) - (64 : Int32)) - a1).toInt ≤ 0) (hg8 : ((a3 + a1) - ((a3 + a1) - (64 : Int32))) = 64) (e9 : 7 ≤ h0) (e10 : h0 ≠ 16) (e11 : h0 ≠ 17) (e12 : h0 ≠ 18) (hg13 : ((64 : Int32) - a3) = a4) (e14 : h0 ≠ h1) (hw15 : w[h1]? = some (Sum.inr (3, [Value.ref h2, Value.int 0]))) (hg16 : (a3 + a4) = 64) (e17 : h0 ≠ h2) (hw18 : w[h2]? = some (Sum.inl (0, 8, fun _ => Value.int 0))) (e19 : 0 ≤ a4.toInt) (hg20 : g0 (0 : Int32).toInt.toNat = Value.int a5) (e21 : 7 ≤ h2) (e22 : h2 ≠ h1) (e23 : h2 ≠ 17) (e24 : h2 ≠ 18) (e25 : 7 ≤ h1) (e26 : h1 ≠ h0) (e27 : h2 ≠ h0) (e28 : h1 ≠ h2) (e29 : (xbf 2 a5 a2 ((32 : Int32) - a4)).toInt ≠ 0) (e30 : ((64 : Int32) - (xnlz (xbf 2 a5 a2 ((32 : Int32) - a4)))).toInt ≤ 64) (e31 : h1 ≠ 78) (e32 : h2 ≠ 78) (e33 : h0 ≠ 78) (e34 : 16384 < (a3 + a1).toInt) (e35 : h1 ≠ 16) (e36 : h2 ≠ 16) (e37 : a0.toInt ≠ 0) (e38 : a0.toInt ≠ 4) (e39 : a0.toInt = 2) (e40 : 78 ≠ h0) : xRun (d + 4) 27 [Value.ref 78, Value.ref h0, Value.ref 16, Value.int a0] w (.inl (some (Value.int 1))) ((((((w.set h0 (Sum.inr (2, [Value.int 64, Value.int 3, Value.int 0, Value.int (a3 + a1), Value.ref h1]))).set h2 (Sum.inl (0, 8, xup (xup (fun _ => Value.int 0) (1 : Int32).toInt.toNat (Value.int (xbf 2 a5 a2 ((32 : Int32) - a4)))) (0 : Int32).toInt.toNat (Value.int (xbf 2 a5 a2 ((0 : Int32) - a4)))))).set h1 (Sum.inr (3, [Value.ref h2, Value.int 2]))).set 78 (Sum.inr (1, [Value.int (-16384), Value.int 16384, Value.int 0, Value.int 2]))).set h0 (Sum.inr (2, [Value.int 64, Value.int 1, Value.int 0, Value.int (a3 + a1), Value.ref h1]))).set 78 (Sum.inr (1, [Value.int (-16384), Value.int 16384, Value.int 0, Value.int 3]))) := by
  refine xRun.of ?_
  refine i_27_0 (x := 16) rfl ?_
  refine i_27_1 hw0 (Nat.le_of_ble_eq_true rfl) (s_28_1 hw0 hw1 hw2 hg3 hg4) ?_
  refine i_27_4 (lv2 := [(4, Value.int (a3 + a1)), (0, Value.ref 78), (1, Value.ref h0), (2, Value.ref 16), (3, Value.int a0)]) rfl ?_
  refine i_27_6 (x := 78) rfl ?_
  refine i_27_7 (x := (a3 + a1)) rfl ?_
  refine i_27_9 (x := h0) rfl ?_
  refine i_27_10 (v := Value.int 64) hw5 rfl ?_
  refine i_27_13 hw6 (Nat.le_of_ble_eq_true rfl) (s_30_0 hw6) ?_
  refine i_27_16 (lv2 := [(5, Value.int ((a3 + a1) - (64 : Int32))), (4, Value.int (a3 + a1)), (0, Value.ref 78), (1, Value.ref h0), (2, Value.ref 16), (3, Value.int a0)]) rfl ?_
  refine i_27_18 (x := 16) rfl ?_
  refine i_27_19 (x := ((a3 + a1) - (64 : Int32))) rfl ?_
  refine i_27_21 (x := a0) rfl ?_
  refine i_27_22 hw0 (Nat.le_of_ble_eq_true rfl) (s_31_1 hw0 hw1 e7) ?_
  refine i_27_25 (lv2 := [(6, Value.int 0), (5, Value.int ((a3 + a1) - (64 : Int32))), (4, Value.int (a3 + a1)), (0, Value.ref 78), (1, Value.ref h0), (2, Value.ref 16), (3, Value.int a0)]) rfl ?_
  refine i_27_27 (x := 16) rfl ?_
  refine i_27_28 (x := ((a3 + a1) - (64 : Int32))) rfl ?_
  refine i_27_30 hw0 (Nat.le_of_ble_eq_true rfl) (s_32_1 hw0 hw1 e7) ?_
  refine i_27_33 (fun h => absurd h (by decide)) (fun _ => ?_)
  refine i_27_36 ?_
  refine i_27_37 ?_
  refine i_27_50 (lv2 := [(7, Value.int 0), (6, Value.int 0), (5, Value.int ((a3 + a1) - (64 : Int32))), (4, Value.int (a3 + a1)), (0, Value.ref 78), (1, Value.ref h0), (2, Value.ref 16), (3, Value.int a0)]) rfl ?_
  refine i_27_52 (x := h0) rfl ?_
  refine i_27_53 (x := 16) rfl ?_
  refine i_27_54 (x := ((a3 + a1) - (64 : Int32))) rfl ?_
  refine i_27_56 (x := 0) rfl ?_
  refine i_27_58 hw5 (Nat.le_of_ble_eq_true rfl) (s_38_1 hw0 hw1 hw2 hg3 hg4 hg8 hw5 e9 e10 e11 e12 hg13 e14 hw15 hg16 e17 hw18 e19 hg20 e21 e22 e23 e24 e25 e26 e27 e28 e29 e30) ?_
  refine i_27_61 (x := h0) rfl ?_
  refine i_27_62 (v := Value.int 3) (xgn e26 (xgn e27 (xgs hw5))) rfl ?_
  refine i_27_65 ?_
  refine i_27_66 (fun h => absurd h (by decide)) (fun _ => ?_)
  refine i_27_69 (x := h0) rfl ?_
  refine i_27_70 (v := Value.int (a3 + a1)) (xgn e26 (xgn e27 (xgs hw5))) rfl ?_
  refine i_27_73 (x := 78) rfl ?_
  refine i_27_74 (v := Value.int 16384) (xgn e31 (xgn e32 (xgn e33 hw6))) rfl ?_
  refine i_27_77 (fun h => absurd e34 (Int.not_lt.mpr h)) (fun _ => ?_)
  refine i_27_80 (x := 78) rfl ?_
  refine i_27_81 (x := h0) rfl ?_
  refine i_27_82 (x := 16) rfl ?_
  refine i_27_83 (v := Value.int 0) (xgn e35 (xgn e36 (xgn e10 hw0))) rfl ?_
  refine i_27_86 (x := a0) rfl ?_
  refine i_27_87 (xgn e31 (xgn e32 (xgn e33 hw6))) (Nat.le_of_ble_eq_true rfl) (s_46_2 (xgn e31 (xgn e32 (xgn e33 hw6))) e37 e38 e39 e40 (xgn e26 (xgn e27 (xgs hw5))) e9) ?_
  refine i_27_90 (lv2 := [(7, Value.int 1), (6, Value.int 0), (5, Value.int ((a3 + a1) - (64 : Int32))), (4, Value.int (a3 + a1)), (0, Value.ref 78), (1, Value.ref h0), (2, Value.ref 16), (3, Value.int a0)]) rfl ?_
  refine i_27_92 ?_
  refine i_27_164 (x := 1) rfl ?_
  refine i_27_166 (fun h => absurd h (by decide)) (fun _ => ?_)
  refine i_27_169 (x := 78) rfl ?_
  refine i_27_170 rfl ?_
  refine i_27_171 (v := Value.int 2) (xgn e33 (xgs (xgn e31 (xgn e32 (xgn e33 hw6))))) rfl ?_
  refine i_27_174 ?_
  refine i_27_175 (c := 3) (by decide) ?_
  refine i_27_176 (fs2 := [Value.int (-16384), Value.int 16384, Value.int 0, Value.int 3]) (xgn e33 (xgs (xgn e31 (xgn e32 (xgn e33 hw6))))) (Nat.le_of_ble_eq_true rfl) rfl (by decide) ?_
  refine i_27_179 (x := 16) rfl ?_
  refine i_27_180 (v := Value.int 0) (xgn (by decide) (xgn e10 (xgn (by decide) (xgn e35 (xgn e36 (xgn e10 hw0)))))) rfl ?_
  refine i_27_183 (fun _ => ?_) (fun h => absurd h (by decide))
  refine i_27_192 (x := 1) rfl ?_
  exact i_27_194 ⟨rfl, rfl⟩
theorem s_21_16 {d : Nat} {w : xW} {a0 : Int32} {b0 : Int64} {a1 : Int32} {a2 : Int32} {g0 : Nat → Value} {h0 : Nat} {a3 : Int32} {h1 : Nat} {a4 : Int32} {h2 : Nat} (e0 : 0 ≤ a0.toInt) (e1 : a0.toInt < 16) (e2 : (-40000) ≤ a1.toInt) (e3 : a1.toInt ≤ 40000) (e4 : 0 ≤ a2.toInt) (e5 : a2.toInt ≤ 4) (hw6 : w[7]? = some (Sum.inr (0, [Value.ref 8, Value.ref 78, Value.ref 9, Value.ref 10, Value.ref 13, Value.ref 16, Value.ref 19, Value.ref 93, Value.ref 108, Value.ref 113, Value.ref 29, Value.int 0]))) (hw7 : w[8]? = some (Sum.inl (4, 16, g0))) (hg8 : g0 a0.toInt.toNat = Value.ref h0) (e9 : (lg_cmp b0 (0 : Int64)).toInt ≠ 0) (e10 : 0 ≤ (lg_cmp b0 (0 : Int64)).toInt) (hw11 : w[16]? = some (Sum.inr (4, [Value.int 0, Value.ref 17, Value.int 0, Value.int 0]))) (hw12 : w[17]? = some (Sum.inr (3, [Value.ref 18, Value.int 0]))) (hw13 : w[18]? = some (Sum.inl (0, 8, fun _ => Value.int 0))) (e14 : (xhi b0).toInt ≠ 0) (hw15 : w[78]? = some (Sum.inr (1, [Value.int (-16384), Value.int 16384, Value.int 0, Value.int 0]))) (hg16 : ((64 : Int32) - (xnlz (xhi b0))) = a3) (e17 : 16 ≠ h0) (e18 : 17 ≠ h0) (e19 : 18 ≠ h0) (hw20 : w[h0]? = some (Sum.inr (2, [Value.int 64, Value.int 0, Value.int 0, Value.int 0, Value.ref h1]))) (e21 : (((a3 + a1) - (64 : Int32)) - a1).toInt ≤ 0) (hg22 : ((a3 + a1) - ((a3 + a1) - (64 : Int32))) = 64) (e23 : 7 ≤ h0) (e24 : h0 ≠ 16) (e25 : h0 ≠ 17) (e26 : h0 ≠ 18) (hg27 : ((64 : Int32) - a3) = a4) (e28 : h0 ≠ h1) (e29 : 16 ≠ h1) (e30 : 17 ≠ h1) (e31 : 18 ≠ h1) (hw32 : w[h1]? = some (Sum.inr (3, [Value.ref h2, Value.int 0]))) (hg33 : (a3 + a4) = 64) (e34 : h0 ≠ h2) (e35 : 16 ≠ h2) (e36 : 17 ≠ h2) (e37 : 18 ≠ h2) (hw38 : w[h2]? = some (Sum.inl (0, 8, fun _ => Value.int 0))) (e39 : 0 ≤ a4.toInt) (e40 : 7 ≤ h2) (e41 : h2 ≠ h1) (e42 : h2 ≠ 17) (e43 : h2 ≠ 18) (e44 : 7 ≤ h1) (e45 : h1 ≠ h0) (e46 : h2 ≠ h0) (e47 : h1 ≠ h2) (e48 : (xbf 2 (xlo b0) (xhi b0) ((32 : Int32) - a4)).toInt ≠ 0) (e49 : ((64 : Int32) - (xnlz (xbf 2 (xlo b0) (xhi b0) ((32 : Int32) - a4)))).toInt ≤ 64) (e50 : h1 ≠ 78) (e51 : h2 ≠ 78) (e52 : h0 ≠ 78) (e53 : 16384 < (a3 + a1).toInt) (e54 : h1 ≠ 16) (e55 : h2 ≠ 16) (e56 : a2.toInt ≠ 0) (e57 : a2.toInt ≠ 4) (e58 : a2.toInt = 2) (e59 : 78 ≠ h0) : xRun (d + 5) 21 [Value.ref 7, Value.int a0, Value.long b0, Value.int a1, Value.int a2] w (.inl (some (Value.int 1))) ((((((((((w.set 16 (Sum.inr (4, [Value.int 0, Value.ref 17, Value.int 0, Value.int 0]))).set 18 (Sum.inl (0, 8, xup (xup (fun _ => Value.int 0) (0 : Int32).toInt.toNat (Value.int (xlo b0))) (1 : Int32).toInt.toNat (Value.int (xhi b0))))).set 17 (Sum.inr (3, [Value.ref 18, Value.int 2]))).set 16 (Sum.inr (4, [Value.int 0, Value.ref 17, Value.int a1, Value.int 0]))).set h0 (Sum.inr (2, [Value.int 64, Value.int 3, Value.int 0, Value.int (a3 + a1), Value.ref h1]))).set h2 (Sum.inl (0, 8, xup (xup (fun _ => Value.int 0) (1 : Int32).toInt.toNat (Value.int (xbf 2 (xlo b0) (xhi b0) ((32 : Int32) - a4)))) (0 : Int32).toInt.toNat (Value.int (xbf 2 (xlo b0) (xhi b0) ((0 : Int32) - a4)))))).set h1 (Sum.inr (3, [Value.ref h2, Value.int 2]))).set 78 (Sum.inr (1, [Value.int (-16384), Value.int 16384, Value.int 0, Value.int 2]))).set h0 (Sum.inr (2, [Value.int 64, Value.int 1, Value.int 0, Value.int (a3 + a1), Value.ref h1]))).set 78 (Sum.inr (1, [Value.int (-16384), Value.int 16384, Value.int 0, Value.int 3]))) := by
  refine xRun.of ?_
  refine i_21_0 (x := a0) rfl ?_
  refine i_21_1 (Nat.le_of_ble_eq_true rfl) (s_15_0 e0 e1) ?_
  refine i_21_4 (fun h => absurd h (by decide)) (fun _ => ?_)
  refine i_21_7 (x := a1) rfl ?_
  refine i_21_9 ?_
  refine i_21_11 (fun h => absurd e2 (Int.not_le.mpr h)) (fun _ => ?_)
  refine i_21_14 (x := a1) rfl ?_
  refine i_21_16 ?_
  refine i_21_18 (fun h => absurd e3 (Int.not_le.mpr h)) (fun _ => ?_)
  refine i_21_21 (x := a2) rfl ?_
  refine i_21_23 (Nat.le_of_ble_eq_true rfl) (s_22_0 e4 e5) ?_
  refine i_21_26 (fun _ => ?_) (fun h => absurd h (by decide))
  refine i_21_37 (x := 7) rfl ?_
  refine i_21_38 (v := Value.ref 8) hw6 rfl ?_
  refine i_21_41 (x := a0) rfl ?_
  refine i_21_42 (v := Value.ref h0) hw7 e0 e1 hg8 ?_
  refine i_21_43 (lv2 := [(6, Value.ref h0), (0, Value.ref 7), (1, Value.int a0), (2, Value.long b0), (4, Value.int a1), (5, Value.int a2)]) rfl ?_
  refine i_21_45 (x := b0) rfl ?_
  refine i_21_46 ?_
  refine i_21_47 (c := (lg_cmp b0 (0 : Int64))) rfl ?_
  refine i_21_48 (fun _ => ?_) (fun h => absurd e9 (fun g => g h))
  refine i_21_58 (x := 7) rfl ?_
  refine i_21_59 (v := Value.ref 16) hw6 rfl ?_
  refine i_21_62 (x := b0) rfl ?_
  refine i_21_63 ?_
  refine i_21_64 (c := (lg_cmp b0 (0 : Int64))) rfl ?_
  refine i_21_65 (fun _ => ?_) (fun h => absurd e10 (Int.not_le.mpr h))
  refine i_21_72 ?_
  refine i_21_73 (x := b0) rfl ?_
  refine i_21_74 ?_
  refine i_21_75 (c := (lg_cmp b0 (0 : Int64))) rfl ?_
  refine i_21_76 (fun _ => ?_) (fun h => absurd e10 (Int.not_le.mpr h))
  refine i_21_84 (x := b0) rfl ?_
  refine i_21_85 (x := a1) rfl ?_
  refine i_21_87 hw11 (Nat.le_of_ble_eq_true rfl) (s_24_1 hw11 hw12 hw13 e14) ?_
  refine i_21_90 (x := 7) rfl ?_
  refine i_21_91 (v := Value.ref 78) (xgn (by decide) (xgn (by decide) (xgn (by decide) (xgn (by decide) hw6)))) rfl ?_
  refine i_21_94 (x := h0) rfl ?_
  refine i_21_96 (x := 7) rfl ?_
  refine i_21_97 (v := Value.ref 16) (xgn (by decide) (xgn (by decide) (xgn (by decide) (xgn (by decide) hw6)))) rfl ?_
  refine i_21_100 (x := a2) rfl ?_
  refine i_21_102 (xgn (by decide) (xgn (by decide) (xgn (by decide) (xgn (by decide) hw15)))) (Nat.le_of_ble_eq_true rfl) (s_27_16 (xgs (xgn (by decide) (xgn (by decide) (xgs hw11)))) (xgn (by decide) (xgs (xgn (by decide) (xgn (by decide) hw12)))) (xgn (by decide) (xgn (by decide) (xgs (xgn (by decide) hw13)))) xup_s hg16 (xgn e17 (xgn e18 (xgn e19 (xgn e17 hw20)))) (xgn (by decide) (xgn (by decide) (xgn (by decide) (xgn (by decide) hw15)))) e21 hg22 e23 e24 e25 e26 hg27 e28 (xgn e29 (xgn e30 (xgn e31 (xgn e29 hw32)))) hg33 e34 (xgn e35 (xgn e36 (xgn e37 (xgn e35 hw38)))) e39 (xup_n (by decide) xup_s) e40 e41 e42 e43 e44 e45 e46 e47 e48 e49 e50 e51 e52 e53 e54 e55 e56 e57 e58 e59) ?_
  exact i_21_105 ⟨rfl, rfl⟩
theorem s_20_16 {d : Nat} {w : xW} {a0 : Int32} {b0 : Int64} {a1 : Int32} {a2 : Int32} {g0 : Nat → Value} {h0 : Nat} {a3 : Int32} {h1 : Nat} {a4 : Int32} {h2 : Nat} (hw0 : w[7]? = some (Sum.inr (0, [Value.ref 8, Value.ref 78, Value.ref 9, Value.ref 10, Value.ref 13, Value.ref 16, Value.ref 19, Value.ref 93, Value.ref 108, Value.ref 113, Value.ref 29, Value.int 0]))) (e1 : 0 ≤ a0.toInt) (e2 : a0.toInt < 16) (e3 : (-40000) ≤ a1.toInt) (e4 : a1.toInt ≤ 40000) (e5 : 0 ≤ a2.toInt) (e6 : a2.toInt ≤ 4) (hw7 : w[8]? = some (Sum.inl (4, 16, g0))) (hg8 : g0 a0.toInt.toNat = Value.ref h0) (e9 : (lg_cmp b0 (0 : Int64)).toInt ≠ 0) (e10 : 0 ≤ (lg_cmp b0 (0 : Int64)).toInt) (hw11 : w[16]? = some (Sum.inr (4, [Value.int 0, Value.ref 17, Value.int 0, Value.int 0]))) (hw12 : w[17]? = some (Sum.inr (3, [Value.ref 18, Value.int 0]))) (hw13 : w[18]? = some (Sum.inl (0, 8, fun _ => Value.int 0))) (e14 : (xhi b0).toInt ≠ 0) (hw15 : w[78]? = some (Sum.inr (1, [Value.int (-16384), Value.int 16384, Value.int 0, Value.int 0]))) (hg16 : ((64 : Int32) - (xnlz (xhi b0))) = a3) (e17 : 16 ≠ h0) (e18 : 17 ≠ h0) (e19 : 18 ≠ h0) (hw20 : w[h0]? = some (Sum.inr (2, [Value.int 64, Value.int 0, Value.int 0, Value.int 0, Value.ref h1]))) (e21 : (((a3 + a1) - (64 : Int32)) - a1).toInt ≤ 0) (hg22 : ((a3 + a1) - ((a3 + a1) - (64 : Int32))) = 64) (e23 : 7 ≤ h0) (e24 : h0 ≠ 16) (e25 : h0 ≠ 17) (e26 : h0 ≠ 18) (hg27 : ((64 : Int32) - a3) = a4) (e28 : h0 ≠ h1) (e29 : 16 ≠ h1) (e30 : 17 ≠ h1) (e31 : 18 ≠ h1) (hw32 : w[h1]? = some (Sum.inr (3, [Value.ref h2, Value.int 0]))) (hg33 : (a3 + a4) = 64) (e34 : h0 ≠ h2) (e35 : 16 ≠ h2) (e36 : 17 ≠ h2) (e37 : 18 ≠ h2) (hw38 : w[h2]? = some (Sum.inl (0, 8, fun _ => Value.int 0))) (e39 : 0 ≤ a4.toInt) (e40 : 7 ≤ h2) (e41 : h2 ≠ h1) (e42 : h2 ≠ 17) (e43 : h2 ≠ 18) (e44 : 7 ≤ h1) (e45 : h1 ≠ h0) (e46 : h2 ≠ h0) (e47 : h1 ≠ h2) (e48 : (xbf 2 (xlo b0) (xhi b0) ((32 : Int32) - a4)).toInt ≠ 0) (e49 : ((64 : Int32) - (xnlz (xbf 2 (xlo b0) (xhi b0) ((32 : Int32) - a4)))).toInt ≤ 64) (e50 : h1 ≠ 78) (e51 : h2 ≠ 78) (e52 : h0 ≠ 78) (e53 : 16384 < (a3 + a1).toInt) (e54 : h1 ≠ 16) (e55 : h2 ≠ 16) (e56 : a2.toInt ≠ 0) (e57 : a2.toInt ≠ 4) (e58 : a2.toInt = 2) (e59 : 78 ≠ h0) (e60 : h0 ≠ 194) (e61 : h1 ≠ 194) (e62 : h2 ≠ 194) (hw63 : w[194]? = some (Sum.inl (3, 1, fun _ => Value.long 0))) : xRun (d + 6) 20 [Value.ref 7, Value.int a0, Value.long b0, Value.int a1, Value.int a2, Value.ref 194] w (.inl (some (Value.int 0))) (((((((((((w.set 16 (Sum.inr (4, [Value.int 0, Value.ref 17, Value.int 0, Value.int 0]))).set 18 (Sum.inl (0, 8, xup (xup (fun _ => Value.int 0) (0 : Int32).toInt.toNat (Value.int (xlo b0))) (1 : Int32).toInt.toNat (Value.int (xhi b0))))).set 17 (Sum.inr (3, [Value.ref 18, Value.int 2]))).set 16 (Sum.inr (4, [Value.int 0, Value.ref 17, Value.int a1, Value.int 0]))).set h0 (Sum.inr (2, [Value.int 64, Value.int 3, Value.int 0, Value.int (a3 + a1), Value.ref h1]))).set h2 (Sum.inl (0, 8, xup (xup (fun _ => Value.int 0) (1 : Int32).toInt.toNat (Value.int (xbf 2 (xlo b0) (xhi b0) ((32 : Int32) - a4)))) (0 : Int32).toInt.toNat (Value.int (xbf 2 (xlo b0) (xhi b0) ((0 : Int32) - a4)))))).set h1 (Sum.inr (3, [Value.ref h2, Value.int 2]))).set 78 (Sum.inr (1, [Value.int (-16384), Value.int 16384, Value.int 0, Value.int 2]))).set h0 (Sum.inr (2, [Value.int 64, Value.int 1, Value.int 0, Value.int (a3 + a1), Value.ref h1]))).set 78 (Sum.inr (1, [Value.int (-16384), Value.int 16384, Value.int 0, Value.int 3]))).set 194 (Sum.inl (3, 1, xup (fun _ => Value.long 0) (0 : Int32).toInt.toNat (Value.long 1)))) := by
  refine xRun.of ?_
  refine i_20_0 (x := 194) rfl ?_
  refine i_20_2 ?_
  refine i_20_3 (x := 7) rfl ?_
  refine i_20_4 (x := a0) rfl ?_
  refine i_20_5 (x := b0) rfl ?_
  refine i_20_6 (x := a1) rfl ?_
  refine i_20_8 (x := a2) rfl ?_
  refine i_20_10 hw0 (Nat.le_of_ble_eq_true rfl) (s_21_16 e1 e2 e3 e4 e5 e6 hw0 hw7 hg8 e9 e10 hw11 hw12 hw13 e14 hw15 hg16 e17 e18 e19 hw20 e21 hg22 e23 e24 e25 e26 hg27 e28 e29 e30 e31 hw32 hg33 e34 e35 e36 e37 hw38 e39 e40 e41 e42 e43 e44 e45 e46 e47 e48 e49 e50 e51 e52 e53 e54 e55 e56 e57 e58 e59) ?_
  refine i_20_13 (c := 1) (by decide) ?_
  refine i_20_14 (v := Value.long 1) (xgn (by decide) (xgn e60 (xgn (by decide) (xgn e61 (xgn e62 (xgn e60 (xgn (by decide) (xgn (by decide) (xgn (by decide) (xgn (by decide) hw63)))))))))) (by decide) (by decide) (by decide) rfl ?_
  refine i_20_15 ?_
  refine i_20_22 ?_
  exact i_20_23 ⟨rfl, rfl⟩
theorem cn3_0_16 {d : Nat} {xs : Nat → Int32} {B K : Int32} (c0 : 0 ≤ (xs 1).toInt) (c1 : (xs 1).toInt < 16) (c2 : (-40000) ≤ (xs 4).toInt) (c3 : (xs 4).toInt ≤ 40000) (c4 : 0 ≤ (xs 5).toInt) (c5 : (xs 5).toInt ≤ 4) (c6 : (lg_cmp (xvv xs) (0 : Int64)).toInt ≠ 0) (c7 : 0 ≤ (lg_cmp (xvv xs) (0 : Int64)).toInt) (c8 : K.toInt = 64 - B.toInt) (c9 : 33 ≤ B.toInt) (c10 : B.toInt ≤ 64) (c11 : (xhi (xvv xs)).toInt ≠ 0) (c12 : (xnlz (xhi (xvv xs))).toInt = 64 - B.toInt) (c13 : (xbf 2 (xlo (xvv xs)) (xhi (xvv xs)) ((32 : Int32) - K)).toInt ≠ 0) (c14 : 16384 < (B + (xs 4)).toInt) (c15 : (xs 5).toInt ≠ 0) (c16 : (xs 5).toInt ≠ 4) (c17 : (xs 5).toInt = 2) : ∃ w1, xRun (d + 18) 20 [Value.ref 7, Value.int (xs 1), Value.long (xvv xs), Value.int (xs 4), Value.int (xs 5), Value.ref 194] (W0 6 xs) (.inl (some (Value.int 0))) w1 ∧ xKp (W0 6 xs) w1 xPC ∧ w1[194]? = some (Sum.inl (3, 1, xup (fun _ => Value.long 0) (0 : Int32).toInt.toNat (Value.long 1))) := by
  have f0 : ((64 : Int32) - (xnlz (xhi (xvv xs)))).toInt = 64 - (xnlz (xhi (xvv xs))).toInt := xsub_g rfl rfl (by omega) (by omega)
  have f1 : (B + (xs 4)).toInt = B.toInt + (xs 4).toInt := xadd_i (by omega) (by omega)
  have f2 : ((B + (xs 4)) - (64 : Int32)).toInt = (B + (xs 4)).toInt - 64 := xsub_g rfl rfl (by omega) (by omega)
  have f3 : (((B + (xs 4)) - (64 : Int32)) - (xs 4)).toInt = ((B + (xs 4)) - (64 : Int32)).toInt - (xs 4).toInt := xsub_i (by omega) (by omega)
  have f4 : ((B + (xs 4)) - ((B + (xs 4)) - (64 : Int32))).toInt = (B + (xs 4)).toInt - ((B + (xs 4)) - (64 : Int32)).toInt := xsub_i (by omega) (by omega)
  have f5 : ((64 : Int32) - B).toInt = 64 - B.toInt := xsub_g rfl rfl (by omega) (by omega)
  have f6 : (B + K).toInt = B.toInt + K.toInt := xadd_i (by omega) (by omega)
  have f7 : 0 ≤ (xnlz (xbf 2 (xlo (xvv xs)) (xhi (xvv xs)) ((32 : Int32) - K))).toInt := (xnlz_b _).1
  have f8 : (xnlz (xbf 2 (xlo (xvv xs)) (xhi (xvv xs)) ((32 : Int32) - K))).toInt ≤ 32 := (xnlz_b _).2
  have f9 : ((64 : Int32) - (xnlz (xbf 2 (xlo (xvv xs)) (xhi (xvv xs)) ((32 : Int32) - K)))).toInt = 64 - (xnlz (xbf 2 (xlo (xvv xs)) (xhi (xvv xs)) ((32 : Int32) - K))).toInt := xsub_g rfl rfl (by omega) (by omega)
  refine ⟨((((((((((((W0 6 xs).set 16 (Sum.inr (4, [Value.int 0, Value.ref 17, Value.int 0, Value.int 0]))).set 18 (Sum.inl (0, 8, xup (xup (fun _ => Value.int 0) (0 : Int32).toInt.toNat (Value.int (xlo (xvv xs)))) (1 : Int32).toInt.toNat (Value.int (xhi (xvv xs)))))).set 17 (Sum.inr (3, [Value.ref 18, Value.int 2]))).set 16 (Sum.inr (4, [Value.int 0, Value.ref 17, Value.int (xs 4), Value.int 0]))).set (30 + 3 * (xs 1).toInt.toNat) (Sum.inr (2, [Value.int 64, Value.int 3, Value.int 0, Value.int (B + (xs 4)), Value.ref (31 + 3 * (xs 1).toInt.toNat)]))).set (32 + 3 * (xs 1).toInt.toNat) (Sum.inl (0, 8, xup (xup (fun _ => Value.int 0) (1 : Int32).toInt.toNat (Value.int (xbf 2 (xlo (xvv xs)) (xhi (xvv xs)) ((32 : Int32) - K)))) (0 : Int32).toInt.toNat (Value.int (xbf 2 (xlo (xvv xs)) (xhi (xvv xs)) ((0 : Int32) - K)))))).set (31 + 3 * (xs 1).toInt.toNat) (Sum.inr (3, [Value.ref (32 + 3 * (xs 1).toInt.toNat), Value.int 2]))).set 78 (Sum.inr (1, [Value.int (-16384), Value.int 16384, Value.int 0, Value.int 2]))).set (30 + 3 * (xs 1).toInt.toNat) (Sum.inr (2, [Value.int 64, Value.int 1, Value.int 0, Value.int (B + (xs 4)), Value.ref (31 + 3 * (xs 1).toInt.toNat)]))).set 78 (Sum.inr (1, [Value.int (-16384), Value.int 16384, Value.int 0, Value.int 3]))).set 194 (Sum.inl (3, 1, xup (fun _ => Value.long 0) (0 : Int32).toInt.toNat (Value.long 1)))), (s_20_16 W0_7 (by omega) (by omega) (by omega) (by omega) (by omega) (by omega) W0_8 (greg_at (by omega)) (by omega) (by omega) W0_16 W0_17 W0_18 (by omega) W0_78 (show ((64 : Int32) - (xnlz (xhi (xvv xs)))) = B from (xge_i (by omega))) (by omega) (by omega) (by omega) (W0_reg (by omega)) (by omega) (show ((B + (xs 4)) - ((B + (xs 4)) - (64 : Int32))) = 64 from (xge_c (n := 64) (by omega) rfl)) (by omega) (by omega) (by omega) (by omega) (show ((64 : Int32) - B) = K from (xge_i (by omega))) (by omega) (by omega) (by omega) (by omega) (W0_man (by omega)) (show (B + K) = 64 from (xge_c (n := 64) (by omega) rfl)) (by omega) (by omega) (by omega) (by omega) (W0_mw (by omega)) (by omega) (by omega) (by omega) (by omega) (by omega) (by omega) (by omega) (by omega) (by omega) (by omega) (by omega) (by omega) (by omega) (by omega) (by omega) (by omega) (by omega) (by omega) (by omega) (by omega) (by omega) (by omega) (by omega) (by omega) W0_194), ?_, xgs (xgn (by decide) (xgn (by omega) (xgn (by decide) (xgn (by omega) (xgn (by omega) (xgn (by omega) (xgn (by decide) (xgn (by decide) (xgn (by decide) (xgn (by decide) W0_194))))))))))⟩
  refine xKp.set ?_ (fun h hh => by unfold xPC at hh; omega) (xgn (by decide) (xgn (by omega) (xgn (by decide) (xgn (by omega) (xgn (by omega) (xgn (by omega) (xgn (by decide) (xgn (by decide) (xgn (by decide) (xgn (by decide) W0_194)))))))))) xcs_a
  refine xKp.set ?_ (fun h hh => by unfold xPC at hh; omega) (xgn (by omega) (xgs (xgn (by omega) (xgn (by omega) (xgn (by omega) (xgn (by decide) (xgn (by decide) (xgn (by decide) (xgn (by decide) W0_78))))))))) xcs_o
  refine xKp.set ?_ (fun h hh => by unfold xPC at hh; omega) (xgn (by omega) (xgn (by omega) (xgn (by omega) (xgs (xgn (by omega) (xgn (by omega) (xgn (by omega) (xgn (by omega) (W0_reg (by omega)))))))))) xcs_o
  refine xKp.set ?_ (fun h hh => by unfold xPC at hh; omega) (xgn (by omega) (xgn (by omega) (xgn (by omega) (xgn (by decide) (xgn (by decide) (xgn (by decide) (xgn (by decide) W0_78))))))) xcs_o
  refine xKp.set ?_ (fun h hh => by unfold xPC at hh; omega) (xgn (by omega) (xgn (by omega) (xgn (by omega) (xgn (by omega) (xgn (by omega) (xgn (by omega) (W0_man (by omega)))))))) xcs_o
  refine xKp.set ?_ (fun h hh => by unfold xPC at hh; omega) (xgn (by omega) (xgn (by omega) (xgn (by omega) (xgn (by omega) (xgn (by omega) (W0_mw (by omega))))))) xcs_a
  refine xKp.set ?_ (fun h hh => by unfold xPC at hh; omega) (xgn (by omega) (xgn (by omega) (xgn (by omega) (xgn (by omega) (W0_reg (by omega)))))) xcs_o
  refine xKp.set ?_ (fun h hh => by unfold xPC at hh; omega) (xgn (by decide) (xgn (by decide) (xgs W0_16))) xcs_o
  refine xKp.set ?_ (fun h hh => by unfold xPC at hh; omega) (xgn (by decide) (xgn (by decide) W0_17)) xcs_o
  refine xKp.set ?_ (fun h hh => by unfold xPC at hh; omega) (xgn (by decide) W0_18) xcs_a
  refine xKp.set ?_ (fun h hh => by unfold xPC at hh; omega) (W0_16) xcs_o
  exact xKp.refl
theorem s_27_17 {d : Nat} {w : xW} {h0 : Nat} {a0 : Int32} {a1 : Int32} {g0 : Nat → Value} {a2 : Int32} {a3 : Int32} {h1 : Nat} {a4 : Int32} {h2 : Nat} {a5 : Int32} (hw0 : w[16]? = some (Sum.inr (4, [Value.int 0, Value.ref 17, Value.int a1, Value.int 0]))) (hw1 : w[17]? = some (Sum.inr (3, [Value.ref 18, Value.int 2]))) (hw2 : w[18]? = some (Sum.inl (0, 8, g0))) (hg3 : g0 (1 : Int32).toInt.toNat = Value.int a2) (hg4 : ((64 : Int32) - (xnlz a2)) = a3) (hw5 : w[h0]? = some (Sum.inr (2, [Value.int 64, Value.int 0, Value.int 0, Value.int 0, Value.ref h1]))) (hw6 : w[78]? = some (Sum.inr (1, [Value.int (-16384), Value.int 16384, Value.int 0, Value.int 0]))) (e7 : (((a3 + a1) - (64 : Int32)) - a1).toInt ≤ 0) (hg8 : ((a3 + a1) - ((a3 + a1) - (64 : Int32))) = 64) (e9 : 7 ≤ h0) (e10 : h0 ≠ 16) (e11 : h0 ≠ 17) (e12 : h0 ≠ 18) (hg13 : ((64 : Int32) - a3) = a4) (e14 : h0 ≠ h1) (hw15 : w[h1]? = some (Sum.inr (3, [Value.ref h2, Value.int 0]))) (hg16 : (a3 + a4) = 64) (e17 : h0 ≠ h2) (hw18 : w[h2]? = some (Sum.inl (0, 8, fun _ => Value.int 0))) (e19 : 0 ≤ a4.toInt) (hg20 : g0 (0 : Int32).toInt.toNat = Value.int a5) (e21 : 7 ≤ h2) (e22 : h2 ≠ h1) (e23 : h2 ≠ 17) (e24 : h2 ≠ 18) (e25 : 7 ≤ h1) (e26 : h1 ≠ h0) (e27 : h2 ≠ h0) (e28 : h1 ≠ h2) (e29 : (xbf 2 a5 a2 ((32 : Int32) - a4)).toInt ≠ 0) (e30 : ((64 : Int32) - (xnlz (xbf 2 a5 a2 ((32 : Int32) - a4)))).toInt ≤ 64) (e31 : h1 ≠ 78) (e32 : h2 ≠ 78) (e33 : h0 ≠ 78) (e34 : 16384 < (a3 + a1).toInt) (e35 : h1 ≠ 16) (e36 : h2 ≠ 16) (e37 : a0.toInt ≠ 0) (e38 : a0.toInt ≠ 4) (e39 : a0.toInt ≠ 2) (e40 : a0.toInt = 3) (e41 : 78 ≠ h0) (e42 : 78 ≠ h1) (e43 : 78 ≠ h2) : xRun (d + 5) 27 [Value.ref 78, Value.ref h0, Value.ref 16, Value.int a0] w (.inl (some (Value.int (-1)))) ((((((((w.set h0 (Sum.inr (2, [Value.int 64, Value.int 3, Value.int 0, Value.int (a3 + a1), Value.ref h1]))).set h2 (Sum.inl (0, 8, xup (xup (fun _ => Value.int 0) (1 : Int32).toInt.toNat (Value.int (xbf 2 a5 a2 ((32 : Int32) - a4)))) (0 : Int32).toInt.toNat (Value.int (xbf 2 a5 a2 ((0 : Int32) - a4)))))).set h1 (Sum.inr (3, [Value.ref h2, Value.int 2]))).set 78 (Sum.inr (1, [Value.int (-16384), Value.int 16384, Value.int 0, Value.int 2]))).set h0 (Sum.inr (2, [Value.int 64, Value.int 3, Value.int 0, Value.int 16384, Value.ref h1]))).set h2 (Sum.inl (0, 8, xup (xup (xup (xup (xup (fun _ => Value.int 0) (1 : Int32).toInt.toNat (Value.int (xbf 2 a5 a2 ((32 : Int32) - a4)))) (0 : Int32).toInt.toNat (Value.int (xbf 2 a5 a2 ((0 : Int32) - a4)))) (0 : Int32).toInt.toNat (Value.int (-1))) (1 : Int32).toInt.toNat (Value.int (-1))) (1 : Int32).toInt.toNat (Value.int (-1))))).set h1 (Sum.inr (3, [Value.ref h2, Value.int 2]))).set 78 (Sum.inr (1, [Value.int (-16384), Value.int 16384, Value.int 0, Value.int 3]))) := by
  refine xRun.of ?_
  refine i_27_0 (x := 16) rfl ?_
  refine i_27_1 hw0 (Nat.le_of_ble_eq_true rfl) (s_28_1 hw0 hw1 hw2 hg3 hg4) ?_
  refine i_27_4 (lv2 := [(4, Value.int (a3 + a1)), (0, Value.ref 78), (1, Value.ref h0), (2, Value.ref 16), (3, Value.int a0)]) rfl ?_
  refine i_27_6 (x := 78) rfl ?_
  refine i_27_7 (x := (a3 + a1)) rfl ?_
  refine i_27_9 (x := h0) rfl ?_
  refine i_27_10 (v := Value.int 64) hw5 rfl ?_
  refine i_27_13 hw6 (Nat.le_of_ble_eq_true rfl) (s_30_0 hw6) ?_
  refine i_27_16 (lv2 := [(5, Value.int ((a3 + a1) - (64 : Int32))), (4, Value.int (a3 + a1)), (0, Value.ref 78), (1, Value.ref h0), (2, Value.ref 16), (3, Value.int a0)]) rfl ?_
  refine i_27_18 (x := 16) rfl ?_
  refine i_27_19 (x := ((a3 + a1) - (64 : Int32))) rfl ?_
  refine i_27_21 (x := a0) rfl ?_
  refine i_27_22 hw0 (Nat.le_of_ble_eq_true rfl) (s_31_1 hw0 hw1 e7) ?_
  refine i_27_25 (lv2 := [(6, Value.int 0), (5, Value.int ((a3 + a1) - (64 : Int32))), (4, Value.int (a3 + a1)), (0, Value.ref 78), (1, Value.ref h0), (2, Value.ref 16), (3, Value.int a0)]) rfl ?_
  refine i_27_27 (x := 16) rfl ?_
  refine i_27_28 (x := ((a3 + a1) - (64 : Int32))) rfl ?_
  refine i_27_30 hw0 (Nat.le_of_ble_eq_true rfl) (s_32_1 hw0 hw1 e7) ?_
  refine i_27_33 (fun h => absurd h (by decide)) (fun _ => ?_)
  refine i_27_36 ?_
  refine i_27_37 ?_
  refine i_27_50 (lv2 := [(7, Value.int 0), (6, Value.int 0), (5, Value.int ((a3 + a1) - (64 : Int32))), (4, Value.int (a3 + a1)), (0, Value.ref 78), (1, Value.ref h0), (2, Value.ref 16), (3, Value.int a0)]) rfl ?_
  refine i_27_52 (x := h0) rfl ?_
  refine i_27_53 (x := 16) rfl ?_
  refine i_27_54 (x := ((a3 + a1) - (64 : Int32))) rfl ?_
  refine i_27_56 (x := 0) rfl ?_
  refine i_27_58 hw5 (Nat.le_of_ble_eq_true rfl) (s_38_1 hw0 hw1 hw2 hg3 hg4 hg8 hw5 e9 e10 e11 e12 hg13 e14 hw15 hg16 e17 hw18 e19 hg20 e21 e22 e23 e24 e25 e26 e27 e28 e29 e30) ?_
  refine i_27_61 (x := h0) rfl ?_
  refine i_27_62 (v := Value.int 3) (xgn e26 (xgn e27 (xgs hw5))) rfl ?_
  refine i_27_65 ?_
  refine i_27_66 (fun h => absurd h (by decide)) (fun _ => ?_)
  refine i_27_69 (x := h0) rfl ?_
  refine i_27_70 (v := Value.int (a3 + a1)) (xgn e26 (xgn e27 (xgs hw5))) rfl ?_
  refine i_27_73 (x := 78) rfl ?_
  refine i_27_74 (v := Value.int 16384) (xgn e31 (xgn e32 (xgn e33 hw6))) rfl ?_
  refine i_27_77 (fun h => absurd e34 (Int.not_lt.mpr h)) (fun _ => ?_)
  refine i_27_80 (x := 78) rfl ?_
  refine i_27_81 (x := h0) rfl ?_
  refine i_27_82 (x := 16) rfl ?_
  refine i_27_83 (v := Value.int 0) (xgn e35 (xgn e36 (xgn e10 hw0))) rfl ?_
  refine i_27_86 (x := a0) rfl ?_
  refine i_27_87 (xgn e31 (xgn e32 (xgn e33 hw6))) (Nat.le_of_ble_eq_true rfl) (s_46_3 (xgn e31 (xgn e32 (xgn e33 hw6))) e37 e38 e39 e40 e41 (xgn e26 (xgn e27 (xgs hw5))) e9 e14 e42 (xgs (xgn e22 (xgn e14 hw15))) e17 e43 (xgn e28 (xgs (xgn e17 hw18))) e21 e22 e25) ?_
  refine i_27_90 (lv2 := [(7, Value.int (-1)), (6, Value.int 0), (5, Value.int ((a3 + a1) - (64 : Int32))), (4, Value.int (a3 + a1)), (0, Value.ref 78), (1, Value.ref h0), (2, Value.ref 16), (3, Value.int a0)]) rfl ?_
  refine i_27_92 ?_
  refine i_27_164 (x := (-1)) rfl ?_
  refine i_27_166 (fun h => absurd h (by decide)) (fun _ => ?_)
  refine i_27_169 (x := 78) rfl ?_
  refine i_27_170 rfl ?_
  refine i_27_171 (v := Value.int 2) (xgn e31 (xgn e32 (xgn e33 (xgs (xgn e31 (xgn e32 (xgn e33 hw6))))))) rfl ?_
  refine i_27_174 ?_
  refine i_27_175 (c := 3) (by decide) ?_
  refine i_27_176 (fs2 := [Value.int (-16384), Value.int 16384, Value.int 0, Value.int 3]) (xgn e31 (xgn e32 (xgn e33 (xgs (xgn e31 (xgn e32 (xgn e33 hw6))))))) (Nat.le_of_ble_eq_true rfl) rfl (by decide) ?_
  refine i_27_179 (x := 16) rfl ?_
  refine i_27_180 (v := Value.int 0) (xgn (by decide) (xgn e35 (xgn e36 (xgn e10 (xgn (by decide) (xgn e35 (xgn e36 (xgn e10 hw0)))))))) rfl ?_
  refine i_27_183 (fun _ => ?_) (fun h => absurd h (by decide))
  refine i_27_192 (x := (-1)) rfl ?_
  exact i_27_194 ⟨rfl, rfl⟩
theorem s_21_17 {d : Nat} {w : xW} {a0 : Int32} {b0 : Int64} {a1 : Int32} {a2 : Int32} {g0 : Nat → Value} {h0 : Nat} {a3 : Int32} {h1 : Nat} {a4 : Int32} {h2 : Nat} (e0 : 0 ≤ a0.toInt) (e1 : a0.toInt < 16) (e2 : (-40000) ≤ a1.toInt) (e3 : a1.toInt ≤ 40000) (e4 : 0 ≤ a2.toInt) (e5 : a2.toInt ≤ 4) (hw6 : w[7]? = some (Sum.inr (0, [Value.ref 8, Value.ref 78, Value.ref 9, Value.ref 10, Value.ref 13, Value.ref 16, Value.ref 19, Value.ref 93, Value.ref 108, Value.ref 113, Value.ref 29, Value.int 0]))) (hw7 : w[8]? = some (Sum.inl (4, 16, g0))) (hg8 : g0 a0.toInt.toNat = Value.ref h0) (e9 : (lg_cmp b0 (0 : Int64)).toInt ≠ 0) (e10 : 0 ≤ (lg_cmp b0 (0 : Int64)).toInt) (hw11 : w[16]? = some (Sum.inr (4, [Value.int 0, Value.ref 17, Value.int 0, Value.int 0]))) (hw12 : w[17]? = some (Sum.inr (3, [Value.ref 18, Value.int 0]))) (hw13 : w[18]? = some (Sum.inl (0, 8, fun _ => Value.int 0))) (e14 : (xhi b0).toInt ≠ 0) (hw15 : w[78]? = some (Sum.inr (1, [Value.int (-16384), Value.int 16384, Value.int 0, Value.int 0]))) (hg16 : ((64 : Int32) - (xnlz (xhi b0))) = a3) (e17 : 16 ≠ h0) (e18 : 17 ≠ h0) (e19 : 18 ≠ h0) (hw20 : w[h0]? = some (Sum.inr (2, [Value.int 64, Value.int 0, Value.int 0, Value.int 0, Value.ref h1]))) (e21 : (((a3 + a1) - (64 : Int32)) - a1).toInt ≤ 0) (hg22 : ((a3 + a1) - ((a3 + a1) - (64 : Int32))) = 64) (e23 : 7 ≤ h0) (e24 : h0 ≠ 16) (e25 : h0 ≠ 17) (e26 : h0 ≠ 18) (hg27 : ((64 : Int32) - a3) = a4) (e28 : h0 ≠ h1) (e29 : 16 ≠ h1) (e30 : 17 ≠ h1) (e31 : 18 ≠ h1) (hw32 : w[h1]? = some (Sum.inr (3, [Value.ref h2, Value.int 0]))) (hg33 : (a3 + a4) = 64) (e34 : h0 ≠ h2) (e35 : 16 ≠ h2) (e36 : 17 ≠ h2) (e37 : 18 ≠ h2) (hw38 : w[h2]? = some (Sum.inl (0, 8, fun _ => Value.int 0))) (e39 : 0 ≤ a4.toInt) (e40 : 7 ≤ h2) (e41 : h2 ≠ h1) (e42 : h2 ≠ 17) (e43 : h2 ≠ 18) (e44 : 7 ≤ h1) (e45 : h1 ≠ h0) (e46 : h2 ≠ h0) (e47 : h1 ≠ h2) (e48 : (xbf 2 (xlo b0) (xhi b0) ((32 : Int32) - a4)).toInt ≠ 0) (e49 : ((64 : Int32) - (xnlz (xbf 2 (xlo b0) (xhi b0) ((32 : Int32) - a4)))).toInt ≤ 64) (e50 : h1 ≠ 78) (e51 : h2 ≠ 78) (e52 : h0 ≠ 78) (e53 : 16384 < (a3 + a1).toInt) (e54 : h1 ≠ 16) (e55 : h2 ≠ 16) (e56 : a2.toInt ≠ 0) (e57 : a2.toInt ≠ 4) (e58 : a2.toInt ≠ 2) (e59 : a2.toInt = 3) (e60 : 78 ≠ h0) (e61 : 78 ≠ h1) (e62 : 78 ≠ h2) : xRun (d + 6) 21 [Value.ref 7, Value.int a0, Value.long b0, Value.int a1, Value.int a2] w (.inl (some (Value.int (-1)))) ((((((((((((w.set 16 (Sum.inr (4, [Value.int 0, Value.ref 17, Value.int 0, Value.int 0]))).set 18 (Sum.inl (0, 8, xup (xup (fun _ => Value.int 0) (0 : Int32).toInt.toNat (Value.int (xlo b0))) (1 : Int32).toInt.toNat (Value.int (xhi b0))))).set 17 (Sum.inr (3, [Value.ref 18, Value.int 2]))).set 16 (Sum.inr (4, [Value.int 0, Value.ref 17, Value.int a1, Value.int 0]))).set h0 (Sum.inr (2, [Value.int 64, Value.int 3, Value.int 0, Value.int (a3 + a1), Value.ref h1]))).set h2 (Sum.inl (0, 8, xup (xup (fun _ => Value.int 0) (1 : Int32).toInt.toNat (Value.int (xbf 2 (xlo b0) (xhi b0) ((32 : Int32) - a4)))) (0 : Int32).toInt.toNat (Value.int (xbf 2 (xlo b0) (xhi b0) ((0 : Int32) - a4)))))).set h1 (Sum.inr (3, [Value.ref h2, Value.int 2]))).set 78 (Sum.inr (1, [Value.int (-16384), Value.int 16384, Value.int 0, Value.int 2]))).set h0 (Sum.inr (2, [Value.int 64, Value.int 3, Value.int 0, Value.int 16384, Value.ref h1]))).set h2 (Sum.inl (0, 8, xup (xup (xup (xup (xup (fun _ => Value.int 0) (1 : Int32).toInt.toNat (Value.int (xbf 2 (xlo b0) (xhi b0) ((32 : Int32) - a4)))) (0 : Int32).toInt.toNat (Value.int (xbf 2 (xlo b0) (xhi b0) ((0 : Int32) - a4)))) (0 : Int32).toInt.toNat (Value.int (-1))) (1 : Int32).toInt.toNat (Value.int (-1))) (1 : Int32).toInt.toNat (Value.int (-1))))).set h1 (Sum.inr (3, [Value.ref h2, Value.int 2]))).set 78 (Sum.inr (1, [Value.int (-16384), Value.int 16384, Value.int 0, Value.int 3]))) := by
  refine xRun.of ?_
  refine i_21_0 (x := a0) rfl ?_
  refine i_21_1 (Nat.le_of_ble_eq_true rfl) (s_15_0 e0 e1) ?_
  refine i_21_4 (fun h => absurd h (by decide)) (fun _ => ?_)
  refine i_21_7 (x := a1) rfl ?_
  refine i_21_9 ?_
  refine i_21_11 (fun h => absurd e2 (Int.not_le.mpr h)) (fun _ => ?_)
  refine i_21_14 (x := a1) rfl ?_
  refine i_21_16 ?_
  refine i_21_18 (fun h => absurd e3 (Int.not_le.mpr h)) (fun _ => ?_)
  refine i_21_21 (x := a2) rfl ?_
  refine i_21_23 (Nat.le_of_ble_eq_true rfl) (s_22_0 e4 e5) ?_
  refine i_21_26 (fun _ => ?_) (fun h => absurd h (by decide))
  refine i_21_37 (x := 7) rfl ?_
  refine i_21_38 (v := Value.ref 8) hw6 rfl ?_
  refine i_21_41 (x := a0) rfl ?_
  refine i_21_42 (v := Value.ref h0) hw7 e0 e1 hg8 ?_
  refine i_21_43 (lv2 := [(6, Value.ref h0), (0, Value.ref 7), (1, Value.int a0), (2, Value.long b0), (4, Value.int a1), (5, Value.int a2)]) rfl ?_
  refine i_21_45 (x := b0) rfl ?_
  refine i_21_46 ?_
  refine i_21_47 (c := (lg_cmp b0 (0 : Int64))) rfl ?_
  refine i_21_48 (fun _ => ?_) (fun h => absurd e9 (fun g => g h))
  refine i_21_58 (x := 7) rfl ?_
  refine i_21_59 (v := Value.ref 16) hw6 rfl ?_
  refine i_21_62 (x := b0) rfl ?_
  refine i_21_63 ?_
  refine i_21_64 (c := (lg_cmp b0 (0 : Int64))) rfl ?_
  refine i_21_65 (fun _ => ?_) (fun h => absurd e10 (Int.not_le.mpr h))
  refine i_21_72 ?_
  refine i_21_73 (x := b0) rfl ?_
  refine i_21_74 ?_
  refine i_21_75 (c := (lg_cmp b0 (0 : Int64))) rfl ?_
  refine i_21_76 (fun _ => ?_) (fun h => absurd e10 (Int.not_le.mpr h))
  refine i_21_84 (x := b0) rfl ?_
  refine i_21_85 (x := a1) rfl ?_
  refine i_21_87 hw11 (Nat.le_of_ble_eq_true rfl) (s_24_1 hw11 hw12 hw13 e14) ?_
  refine i_21_90 (x := 7) rfl ?_
  refine i_21_91 (v := Value.ref 78) (xgn (by decide) (xgn (by decide) (xgn (by decide) (xgn (by decide) hw6)))) rfl ?_
  refine i_21_94 (x := h0) rfl ?_
  refine i_21_96 (x := 7) rfl ?_
  refine i_21_97 (v := Value.ref 16) (xgn (by decide) (xgn (by decide) (xgn (by decide) (xgn (by decide) hw6)))) rfl ?_
  refine i_21_100 (x := a2) rfl ?_
  refine i_21_102 (xgn (by decide) (xgn (by decide) (xgn (by decide) (xgn (by decide) hw15)))) (Nat.le_of_ble_eq_true rfl) (s_27_17 (xgs (xgn (by decide) (xgn (by decide) (xgs hw11)))) (xgn (by decide) (xgs (xgn (by decide) (xgn (by decide) hw12)))) (xgn (by decide) (xgn (by decide) (xgs (xgn (by decide) hw13)))) xup_s hg16 (xgn e17 (xgn e18 (xgn e19 (xgn e17 hw20)))) (xgn (by decide) (xgn (by decide) (xgn (by decide) (xgn (by decide) hw15)))) e21 hg22 e23 e24 e25 e26 hg27 e28 (xgn e29 (xgn e30 (xgn e31 (xgn e29 hw32)))) hg33 e34 (xgn e35 (xgn e36 (xgn e37 (xgn e35 hw38)))) e39 (xup_n (by decide) xup_s) e40 e41 e42 e43 e44 e45 e46 e47 e48 e49 e50 e51 e52 e53 e54 e55 e56 e57 e58 e59 e60 e61 e62) ?_
  exact i_21_105 ⟨rfl, rfl⟩
theorem s_20_17 {d : Nat} {w : xW} {a0 : Int32} {b0 : Int64} {a1 : Int32} {a2 : Int32} {g0 : Nat → Value} {h0 : Nat} {a3 : Int32} {h1 : Nat} {a4 : Int32} {h2 : Nat} (hw0 : w[7]? = some (Sum.inr (0, [Value.ref 8, Value.ref 78, Value.ref 9, Value.ref 10, Value.ref 13, Value.ref 16, Value.ref 19, Value.ref 93, Value.ref 108, Value.ref 113, Value.ref 29, Value.int 0]))) (e1 : 0 ≤ a0.toInt) (e2 : a0.toInt < 16) (e3 : (-40000) ≤ a1.toInt) (e4 : a1.toInt ≤ 40000) (e5 : 0 ≤ a2.toInt) (e6 : a2.toInt ≤ 4) (hw7 : w[8]? = some (Sum.inl (4, 16, g0))) (hg8 : g0 a0.toInt.toNat = Value.ref h0) (e9 : (lg_cmp b0 (0 : Int64)).toInt ≠ 0) (e10 : 0 ≤ (lg_cmp b0 (0 : Int64)).toInt) (hw11 : w[16]? = some (Sum.inr (4, [Value.int 0, Value.ref 17, Value.int 0, Value.int 0]))) (hw12 : w[17]? = some (Sum.inr (3, [Value.ref 18, Value.int 0]))) (hw13 : w[18]? = some (Sum.inl (0, 8, fun _ => Value.int 0))) (e14 : (xhi b0).toInt ≠ 0) (hw15 : w[78]? = some (Sum.inr (1, [Value.int (-16384), Value.int 16384, Value.int 0, Value.int 0]))) (hg16 : ((64 : Int32) - (xnlz (xhi b0))) = a3) (e17 : 16 ≠ h0) (e18 : 17 ≠ h0) (e19 : 18 ≠ h0) (hw20 : w[h0]? = some (Sum.inr (2, [Value.int 64, Value.int 0, Value.int 0, Value.int 0, Value.ref h1]))) (e21 : (((a3 + a1) - (64 : Int32)) - a1).toInt ≤ 0) (hg22 : ((a3 + a1) - ((a3 + a1) - (64 : Int32))) = 64) (e23 : 7 ≤ h0) (e24 : h0 ≠ 16) (e25 : h0 ≠ 17) (e26 : h0 ≠ 18) (hg27 : ((64 : Int32) - a3) = a4) (e28 : h0 ≠ h1) (e29 : 16 ≠ h1) (e30 : 17 ≠ h1) (e31 : 18 ≠ h1) (hw32 : w[h1]? = some (Sum.inr (3, [Value.ref h2, Value.int 0]))) (hg33 : (a3 + a4) = 64) (e34 : h0 ≠ h2) (e35 : 16 ≠ h2) (e36 : 17 ≠ h2) (e37 : 18 ≠ h2) (hw38 : w[h2]? = some (Sum.inl (0, 8, fun _ => Value.int 0))) (e39 : 0 ≤ a4.toInt) (e40 : 7 ≤ h2) (e41 : h2 ≠ h1) (e42 : h2 ≠ 17) (e43 : h2 ≠ 18) (e44 : 7 ≤ h1) (e45 : h1 ≠ h0) (e46 : h2 ≠ h0) (e47 : h1 ≠ h2) (e48 : (xbf 2 (xlo b0) (xhi b0) ((32 : Int32) - a4)).toInt ≠ 0) (e49 : ((64 : Int32) - (xnlz (xbf 2 (xlo b0) (xhi b0) ((32 : Int32) - a4)))).toInt ≤ 64) (e50 : h1 ≠ 78) (e51 : h2 ≠ 78) (e52 : h0 ≠ 78) (e53 : 16384 < (a3 + a1).toInt) (e54 : h1 ≠ 16) (e55 : h2 ≠ 16) (e56 : a2.toInt ≠ 0) (e57 : a2.toInt ≠ 4) (e58 : a2.toInt ≠ 2) (e59 : a2.toInt = 3) (e60 : 78 ≠ h0) (e61 : 78 ≠ h1) (e62 : 78 ≠ h2) (e63 : h1 ≠ 194) (e64 : h2 ≠ 194) (e65 : h0 ≠ 194) (hw66 : w[194]? = some (Sum.inl (3, 1, fun _ => Value.long 0))) : xRun (d + 7) 20 [Value.ref 7, Value.int a0, Value.long b0, Value.int a1, Value.int a2, Value.ref 194] w (.inl (some (Value.int 0))) (((((((((((((w.set 16 (Sum.inr (4, [Value.int 0, Value.ref 17, Value.int 0, Value.int 0]))).set 18 (Sum.inl (0, 8, xup (xup (fun _ => Value.int 0) (0 : Int32).toInt.toNat (Value.int (xlo b0))) (1 : Int32).toInt.toNat (Value.int (xhi b0))))).set 17 (Sum.inr (3, [Value.ref 18, Value.int 2]))).set 16 (Sum.inr (4, [Value.int 0, Value.ref 17, Value.int a1, Value.int 0]))).set h0 (Sum.inr (2, [Value.int 64, Value.int 3, Value.int 0, Value.int (a3 + a1), Value.ref h1]))).set h2 (Sum.inl (0, 8, xup (xup (fun _ => Value.int 0) (1 : Int32).toInt.toNat (Value.int (xbf 2 (xlo b0) (xhi b0) ((32 : Int32) - a4)))) (0 : Int32).toInt.toNat (Value.int (xbf 2 (xlo b0) (xhi b0) ((0 : Int32) - a4)))))).set h1 (Sum.inr (3, [Value.ref h2, Value.int 2]))).set 78 (Sum.inr (1, [Value.int (-16384), Value.int 16384, Value.int 0, Value.int 2]))).set h0 (Sum.inr (2, [Value.int 64, Value.int 3, Value.int 0, Value.int 16384, Value.ref h1]))).set h2 (Sum.inl (0, 8, xup (xup (xup (xup (xup (fun _ => Value.int 0) (1 : Int32).toInt.toNat (Value.int (xbf 2 (xlo b0) (xhi b0) ((32 : Int32) - a4)))) (0 : Int32).toInt.toNat (Value.int (xbf 2 (xlo b0) (xhi b0) ((0 : Int32) - a4)))) (0 : Int32).toInt.toNat (Value.int (-1))) (1 : Int32).toInt.toNat (Value.int (-1))) (1 : Int32).toInt.toNat (Value.int (-1))))).set h1 (Sum.inr (3, [Value.ref h2, Value.int 2]))).set 78 (Sum.inr (1, [Value.int (-16384), Value.int 16384, Value.int 0, Value.int 3]))).set 194 (Sum.inl (3, 1, xup (fun _ => Value.long 0) (0 : Int32).toInt.toNat (Value.long (-1))))) := by
  refine xRun.of ?_
  refine i_20_0 (x := 194) rfl ?_
  refine i_20_2 ?_
  refine i_20_3 (x := 7) rfl ?_
  refine i_20_4 (x := a0) rfl ?_
  refine i_20_5 (x := b0) rfl ?_
  refine i_20_6 (x := a1) rfl ?_
  refine i_20_8 (x := a2) rfl ?_
  refine i_20_10 hw0 (Nat.le_of_ble_eq_true rfl) (s_21_17 e1 e2 e3 e4 e5 e6 hw0 hw7 hg8 e9 e10 hw11 hw12 hw13 e14 hw15 hg16 e17 e18 e19 hw20 e21 hg22 e23 e24 e25 e26 hg27 e28 e29 e30 e31 hw32 hg33 e34 e35 e36 e37 hw38 e39 e40 e41 e42 e43 e44 e45 e46 e47 e48 e49 e50 e51 e52 e53 e54 e55 e56 e57 e58 e59 e60 e61 e62) ?_
  refine i_20_13 (c := (-1)) (by decide) ?_
  refine i_20_14 (v := Value.long (-1)) (xgn (by decide) (xgn e63 (xgn e64 (xgn e65 (xgn (by decide) (xgn e63 (xgn e64 (xgn e65 (xgn (by decide) (xgn (by decide) (xgn (by decide) (xgn (by decide) hw66)))))))))))) (by decide) (by decide) (by decide) rfl ?_
  refine i_20_15 ?_
  refine i_20_22 ?_
  exact i_20_23 ⟨rfl, rfl⟩
theorem cn3_0_17 {d : Nat} {xs : Nat → Int32} {B K : Int32} (c0 : 0 ≤ (xs 1).toInt) (c1 : (xs 1).toInt < 16) (c2 : (-40000) ≤ (xs 4).toInt) (c3 : (xs 4).toInt ≤ 40000) (c4 : 0 ≤ (xs 5).toInt) (c5 : (xs 5).toInt ≤ 4) (c6 : (lg_cmp (xvv xs) (0 : Int64)).toInt ≠ 0) (c7 : 0 ≤ (lg_cmp (xvv xs) (0 : Int64)).toInt) (c8 : K.toInt = 64 - B.toInt) (c9 : 33 ≤ B.toInt) (c10 : B.toInt ≤ 64) (c11 : (xhi (xvv xs)).toInt ≠ 0) (c12 : (xnlz (xhi (xvv xs))).toInt = 64 - B.toInt) (c13 : (xbf 2 (xlo (xvv xs)) (xhi (xvv xs)) ((32 : Int32) - K)).toInt ≠ 0) (c14 : 16384 < (B + (xs 4)).toInt) (c15 : (xs 5).toInt ≠ 0) (c16 : (xs 5).toInt ≠ 4) (c17 : (xs 5).toInt ≠ 2) (c18 : (xs 5).toInt = 3) : ∃ w1, xRun (d + 18) 20 [Value.ref 7, Value.int (xs 1), Value.long (xvv xs), Value.int (xs 4), Value.int (xs 5), Value.ref 194] (W0 6 xs) (.inl (some (Value.int 0))) w1 ∧ xKp (W0 6 xs) w1 xPC ∧ w1[194]? = some (Sum.inl (3, 1, xup (fun _ => Value.long 0) (0 : Int32).toInt.toNat (Value.long (-1)))) := by
  have f0 : ((64 : Int32) - (xnlz (xhi (xvv xs)))).toInt = 64 - (xnlz (xhi (xvv xs))).toInt := xsub_g rfl rfl (by omega) (by omega)
  have f1 : (B + (xs 4)).toInt = B.toInt + (xs 4).toInt := xadd_i (by omega) (by omega)
  have f2 : ((B + (xs 4)) - (64 : Int32)).toInt = (B + (xs 4)).toInt - 64 := xsub_g rfl rfl (by omega) (by omega)
  have f3 : (((B + (xs 4)) - (64 : Int32)) - (xs 4)).toInt = ((B + (xs 4)) - (64 : Int32)).toInt - (xs 4).toInt := xsub_i (by omega) (by omega)
  have f4 : ((B + (xs 4)) - ((B + (xs 4)) - (64 : Int32))).toInt = (B + (xs 4)).toInt - ((B + (xs 4)) - (64 : Int32)).toInt := xsub_i (by omega) (by omega)
  have f5 : ((64 : Int32) - B).toInt = 64 - B.toInt := xsub_g rfl rfl (by omega) (by omega)
  have f6 : (B + K).toInt = B.toInt + K.toInt := xadd_i (by omega) (by omega)
  have f7 : 0 ≤ (xnlz (xbf 2 (xlo (xvv xs)) (xhi (xvv xs)) ((32 : Int32) - K))).toInt := (xnlz_b _).1
  have f8 : (xnlz (xbf 2 (xlo (xvv xs)) (xhi (xvv xs)) ((32 : Int32) - K))).toInt ≤ 32 := (xnlz_b _).2
  have f9 : ((64 : Int32) - (xnlz (xbf 2 (xlo (xvv xs)) (xhi (xvv xs)) ((32 : Int32) - K)))).toInt = 64 - (xnlz (xbf 2 (xlo (xvv xs)) (xhi (xvv xs)) ((32 : Int32) - K))).toInt := xsub_g rfl rfl (by omega) (by omega)
  refine ⟨((((((((((((((W0 6 xs).set 16 (Sum.inr (4, [Value.int 0, Value.ref 17, Value.int 0, Value.int 0]))).set 18 (Sum.inl (0, 8, xup (xup (fun _ => Value.int 0) (0 : Int32).toInt.toNat (Value.int (xlo (xvv xs)))) (1 : Int32).toInt.toNat (Value.int (xhi (xvv xs)))))).set 17 (Sum.inr (3, [Value.ref 18, Value.int 2]))).set 16 (Sum.inr (4, [Value.int 0, Value.ref 17, Value.int (xs 4), Value.int 0]))).set (30 + 3 * (xs 1).toInt.toNat) (Sum.inr (2, [Value.int 64, Value.int 3, Value.int 0, Value.int (B + (xs 4)), Value.ref (31 + 3 * (xs 1).toInt.toNat)]))).set (32 + 3 * (xs 1).toInt.toNat) (Sum.inl (0, 8, xup (xup (fun _ => Value.int 0) (1 : Int32).toInt.toNat (Value.int (xbf 2 (xlo (xvv xs)) (xhi (xvv xs)) ((32 : Int32) - K)))) (0 : Int32).toInt.toNat (Value.int (xbf 2 (xlo (xvv xs)) (xhi (xvv xs)) ((0 : Int32) - K)))))).set (31 + 3 * (xs 1).toInt.toNat) (Sum.inr (3, [Value.ref (32 + 3 * (xs 1).toInt.toNat), Value.int 2]))).set 78 (Sum.inr (1, [Value.int (-16384), Value.int 16384, Value.int 0, Value.int 2]))).set (30 + 3 * (xs 1).toInt.toNat) (Sum.inr (2, [Value.int 64, Value.int 3, Value.int 0, Value.int 16384, Value.ref (31 + 3 * (xs 1).toInt.toNat)]))).set (32 + 3 * (xs 1).toInt.toNat) (Sum.inl (0, 8, xup (xup (xup (xup (xup (fun _ => Value.int 0) (1 : Int32).toInt.toNat (Value.int (xbf 2 (xlo (xvv xs)) (xhi (xvv xs)) ((32 : Int32) - K)))) (0 : Int32).toInt.toNat (Value.int (xbf 2 (xlo (xvv xs)) (xhi (xvv xs)) ((0 : Int32) - K)))) (0 : Int32).toInt.toNat (Value.int (-1))) (1 : Int32).toInt.toNat (Value.int (-1))) (1 : Int32).toInt.toNat (Value.int (-1))))).set (31 + 3 * (xs 1).toInt.toNat) (Sum.inr (3, [Value.ref (32 + 3 * (xs 1).toInt.toNat), Value.int 2]))).set 78 (Sum.inr (1, [Value.int (-16384), Value.int 16384, Value.int 0, Value.int 3]))).set 194 (Sum.inl (3, 1, xup (fun _ => Value.long 0) (0 : Int32).toInt.toNat (Value.long (-1))))), (s_20_17 W0_7 (by omega) (by omega) (by omega) (by omega) (by omega) (by omega) W0_8 (greg_at (by omega)) (by omega) (by omega) W0_16 W0_17 W0_18 (by omega) W0_78 (show ((64 : Int32) - (xnlz (xhi (xvv xs)))) = B from (xge_i (by omega))) (by omega) (by omega) (by omega) (W0_reg (by omega)) (by omega) (show ((B + (xs 4)) - ((B + (xs 4)) - (64 : Int32))) = 64 from (xge_c (n := 64) (by omega) rfl)) (by omega) (by omega) (by omega) (by omega) (show ((64 : Int32) - B) = K from (xge_i (by omega))) (by omega) (by omega) (by omega) (by omega) (W0_man (by omega)) (show (B + K) = 64 from (xge_c (n := 64) (by omega) rfl)) (by omega) (by omega) (by omega) (by omega) (W0_mw (by omega)) (by omega) (by omega) (by omega) (by omega) (by omega) (by omega) (by omega) (by omega) (by omega) (by omega) (by omega) (by omega) (by omega) (by omega) (by omega) (by omega) (by omega) (by omega) (by omega) (by omega) (by omega) (by omega) (by omega) (by omega) (by omega) (by omega) (by omega) W0_194), ?_, xgs (xgn (by decide) (xgn (by omega) (xgn (by omega) (xgn (by omega) (xgn (by decide) (xgn (by omega) (xgn (by omega) (xgn (by omega) (xgn (by decide) (xgn (by decide) (xgn (by decide) (xgn (by decide) W0_194))))))))))))⟩
  refine xKp.set ?_ (fun h hh => by unfold xPC at hh; omega) (xgn (by decide) (xgn (by omega) (xgn (by omega) (xgn (by omega) (xgn (by decide) (xgn (by omega) (xgn (by omega) (xgn (by omega) (xgn (by decide) (xgn (by decide) (xgn (by decide) (xgn (by decide) W0_194)))))))))))) xcs_a
  refine xKp.set ?_ (fun h hh => by unfold xPC at hh; omega) (xgn (by omega) (xgn (by omega) (xgn (by omega) (xgs (xgn (by omega) (xgn (by omega) (xgn (by omega) (xgn (by decide) (xgn (by decide) (xgn (by decide) (xgn (by decide) W0_78))))))))))) xcs_o
  refine xKp.set ?_ (fun h hh => by unfold xPC at hh; omega) (xgn (by omega) (xgn (by omega) (xgn (by omega) (xgs (xgn (by omega) (xgn (by omega) (xgn (by omega) (xgn (by omega) (xgn (by omega) (xgn (by omega) (W0_man (by omega)))))))))))) xcs_o
  refine xKp.set ?_ (fun h hh => by unfold xPC at hh; omega) (xgn (by omega) (xgn (by omega) (xgn (by omega) (xgs (xgn (by omega) (xgn (by omega) (xgn (by omega) (xgn (by omega) (xgn (by omega) (W0_mw (by omega))))))))))) xcs_a
  refine xKp.set ?_ (fun h hh => by unfold xPC at hh; omega) (xgn (by omega) (xgn (by omega) (xgn (by omega) (xgs (xgn (by omega) (xgn (by omega) (xgn (by omega) (xgn (by omega) (W0_reg (by omega)))))))))) xcs_o
  refine xKp.set ?_ (fun h hh => by unfold xPC at hh; omega) (xgn (by omega) (xgn (by omega) (xgn (by omega) (xgn (by decide) (xgn (by decide) (xgn (by decide) (xgn (by decide) W0_78))))))) xcs_o
  refine xKp.set ?_ (fun h hh => by unfold xPC at hh; omega) (xgn (by omega) (xgn (by omega) (xgn (by omega) (xgn (by omega) (xgn (by omega) (xgn (by omega) (W0_man (by omega)))))))) xcs_o
  refine xKp.set ?_ (fun h hh => by unfold xPC at hh; omega) (xgn (by omega) (xgn (by omega) (xgn (by omega) (xgn (by omega) (xgn (by omega) (W0_mw (by omega))))))) xcs_a
  refine xKp.set ?_ (fun h hh => by unfold xPC at hh; omega) (xgn (by omega) (xgn (by omega) (xgn (by omega) (xgn (by omega) (W0_reg (by omega)))))) xcs_o
  refine xKp.set ?_ (fun h hh => by unfold xPC at hh; omega) (xgn (by decide) (xgn (by decide) (xgs W0_16))) xcs_o
  refine xKp.set ?_ (fun h hh => by unfold xPC at hh; omega) (xgn (by decide) (xgn (by decide) W0_17)) xcs_o
  refine xKp.set ?_ (fun h hh => by unfold xPC at hh; omega) (xgn (by decide) W0_18) xcs_a
  refine xKp.set ?_ (fun h hh => by unfold xPC at hh; omega) (W0_16) xcs_o
  exact xKp.refl
theorem s_27_18 {d : Nat} {w : xW} {h0 : Nat} {a0 : Int32} {a1 : Int32} {g0 : Nat → Value} {a2 : Int32} {a3 : Int32} {h1 : Nat} {a4 : Int32} {h2 : Nat} {a5 : Int32} (hw0 : w[16]? = some (Sum.inr (4, [Value.int 0, Value.ref 17, Value.int a1, Value.int 0]))) (hw1 : w[17]? = some (Sum.inr (3, [Value.ref 18, Value.int 2]))) (hw2 : w[18]? = some (Sum.inl (0, 8, g0))) (hg3 : g0 (1 : Int32).toInt.toNat = Value.int a2) (hg4 : ((64 : Int32) - (xnlz a2)) = a3) (hw5 : w[h0]? = some (Sum.inr (2, [Value.int 64, Value.int 0, Value.int 0, Value.int 0, Value.ref h1]))) (hw6 : w[78]? = some (Sum.inr (1, [Value.int (-16384), Value.int 16384, Value.int 0, Value.int 0]))) (e7 : (((a3 + a1) - (64 : Int32)) - a1).toInt ≤ 0) (hg8 : ((a3 + a1) - ((a3 + a1) - (64 : Int32))) = 64) (e9 : 7 ≤ h0) (e10 : h0 ≠ 16) (e11 : h0 ≠ 17) (e12 : h0 ≠ 18) (hg13 : ((64 : Int32) - a3) = a4) (e14 : h0 ≠ h1) (hw15 : w[h1]? = some (Sum.inr (3, [Value.ref h2, Value.int 0]))) (hg16 : (a3 + a4) = 64) (e17 : h0 ≠ h2) (hw18 : w[h2]? = some (Sum.inl (0, 8, fun _ => Value.int 0))) (e19 : 0 ≤ a4.toInt) (hg20 : g0 (0 : Int32).toInt.toNat = Value.int a5) (e21 : 7 ≤ h2) (e22 : h2 ≠ h1) (e23 : h2 ≠ 17) (e24 : h2 ≠ 18) (e25 : 7 ≤ h1) (e26 : h1 ≠ h0) (e27 : h2 ≠ h0) (e28 : h1 ≠ h2) (e29 : (xbf 2 a5 a2 ((32 : Int32) - a4)).toInt ≠ 0) (e30 : ((64 : Int32) - (xnlz (xbf 2 a5 a2 ((32 : Int32) - a4)))).toInt ≤ 64) (e31 : h1 ≠ 78) (e32 : h2 ≠ 78) (e33 : h0 ≠ 78) (e34 : 16384 < (a3 + a1).toInt) (e35 : h1 ≠ 16) (e36 : h2 ≠ 16) (e37 : a0.toInt ≠ 0) (e38 : a0.toInt ≠ 4) (e39 : a0.toInt ≠ 2) (e40 : a0.toInt ≠ 3) (e41 : 78 ≠ h0) (e42 : 78 ≠ h1) (e43 : 78 ≠ h2) : xRun (d + 5) 27 [Value.ref 78, Value.ref h0, Value.ref 16, Value.int a0] w (.inl (some (Value.int (-1)))) ((((((((w.set h0 (Sum.inr (2, [Value.int 64, Value.int 3, Value.int 0, Value.int (a3 + a1), Value.ref h1]))).set h2 (Sum.inl (0, 8, xup (xup (fun _ => Value.int 0) (1 : Int32).toInt.toNat (Value.int (xbf 2 a5 a2 ((32 : Int32) - a4)))) (0 : Int32).toInt.toNat (Value.int (xbf 2 a5 a2 ((0 : Int32) - a4)))))).set h1 (Sum.inr (3, [Value.ref h2, Value.int 2]))).set 78 (Sum.inr (1, [Value.int (-16384), Value.int 16384, Value.int 0, Value.int 2]))).set h0 (Sum.inr (2, [Value.int 64, Value.int 3, Value.int 0, Value.int 16384, Value.ref h1]))).set h2 (Sum.inl (0, 8, xup (xup (xup (xup (xup (fun _ => Value.int 0) (1 : Int32).toInt.toNat (Value.int (xbf 2 a5 a2 ((32 : Int32) - a4)))) (0 : Int32).toInt.toNat (Value.int (xbf 2 a5 a2 ((0 : Int32) - a4)))) (0 : Int32).toInt.toNat (Value.int (-1))) (1 : Int32).toInt.toNat (Value.int (-1))) (1 : Int32).toInt.toNat (Value.int (-1))))).set h1 (Sum.inr (3, [Value.ref h2, Value.int 2]))).set 78 (Sum.inr (1, [Value.int (-16384), Value.int 16384, Value.int 0, Value.int 3]))) := by
  refine xRun.of ?_
  refine i_27_0 (x := 16) rfl ?_
  refine i_27_1 hw0 (Nat.le_of_ble_eq_true rfl) (s_28_1 hw0 hw1 hw2 hg3 hg4) ?_
  refine i_27_4 (lv2 := [(4, Value.int (a3 + a1)), (0, Value.ref 78), (1, Value.ref h0), (2, Value.ref 16), (3, Value.int a0)]) rfl ?_
  refine i_27_6 (x := 78) rfl ?_
  refine i_27_7 (x := (a3 + a1)) rfl ?_
  refine i_27_9 (x := h0) rfl ?_
  refine i_27_10 (v := Value.int 64) hw5 rfl ?_
  refine i_27_13 hw6 (Nat.le_of_ble_eq_true rfl) (s_30_0 hw6) ?_
  refine i_27_16 (lv2 := [(5, Value.int ((a3 + a1) - (64 : Int32))), (4, Value.int (a3 + a1)), (0, Value.ref 78), (1, Value.ref h0), (2, Value.ref 16), (3, Value.int a0)]) rfl ?_
  refine i_27_18 (x := 16) rfl ?_
  refine i_27_19 (x := ((a3 + a1) - (64 : Int32))) rfl ?_
  refine i_27_21 (x := a0) rfl ?_
  refine i_27_22 hw0 (Nat.le_of_ble_eq_true rfl) (s_31_1 hw0 hw1 e7) ?_
  refine i_27_25 (lv2 := [(6, Value.int 0), (5, Value.int ((a3 + a1) - (64 : Int32))), (4, Value.int (a3 + a1)), (0, Value.ref 78), (1, Value.ref h0), (2, Value.ref 16), (3, Value.int a0)]) rfl ?_
  refine i_27_27 (x := 16) rfl ?_
  refine i_27_28 (x := ((a3 + a1) - (64 : Int32))) rfl ?_
  refine i_27_30 hw0 (Nat.le_of_ble_eq_true rfl) (s_32_1 hw0 hw1 e7) ?_
  refine i_27_33 (fun h => absurd h (by decide)) (fun _ => ?_)
  refine i_27_36 ?_
  refine i_27_37 ?_
  refine i_27_50 (lv2 := [(7, Value.int 0), (6, Value.int 0), (5, Value.int ((a3 + a1) - (64 : Int32))), (4, Value.int (a3 + a1)), (0, Value.ref 78), (1, Value.ref h0), (2, Value.ref 16), (3, Value.int a0)]) rfl ?_
  refine i_27_52 (x := h0) rfl ?_
  refine i_27_53 (x := 16) rfl ?_
  refine i_27_54 (x := ((a3 + a1) - (64 : Int32))) rfl ?_
  refine i_27_56 (x := 0) rfl ?_
  refine i_27_58 hw5 (Nat.le_of_ble_eq_true rfl) (s_38_1 hw0 hw1 hw2 hg3 hg4 hg8 hw5 e9 e10 e11 e12 hg13 e14 hw15 hg16 e17 hw18 e19 hg20 e21 e22 e23 e24 e25 e26 e27 e28 e29 e30) ?_
  refine i_27_61 (x := h0) rfl ?_
  refine i_27_62 (v := Value.int 3) (xgn e26 (xgn e27 (xgs hw5))) rfl ?_
  refine i_27_65 ?_
  refine i_27_66 (fun h => absurd h (by decide)) (fun _ => ?_)
  refine i_27_69 (x := h0) rfl ?_
  refine i_27_70 (v := Value.int (a3 + a1)) (xgn e26 (xgn e27 (xgs hw5))) rfl ?_
  refine i_27_73 (x := 78) rfl ?_
  refine i_27_74 (v := Value.int 16384) (xgn e31 (xgn e32 (xgn e33 hw6))) rfl ?_
  refine i_27_77 (fun h => absurd e34 (Int.not_lt.mpr h)) (fun _ => ?_)
  refine i_27_80 (x := 78) rfl ?_
  refine i_27_81 (x := h0) rfl ?_
  refine i_27_82 (x := 16) rfl ?_
  refine i_27_83 (v := Value.int 0) (xgn e35 (xgn e36 (xgn e10 hw0))) rfl ?_
  refine i_27_86 (x := a0) rfl ?_
  refine i_27_87 (xgn e31 (xgn e32 (xgn e33 hw6))) (Nat.le_of_ble_eq_true rfl) (s_46_4 (xgn e31 (xgn e32 (xgn e33 hw6))) e37 e38 e39 e40 e41 (xgn e26 (xgn e27 (xgs hw5))) e9 e14 e42 (xgs (xgn e22 (xgn e14 hw15))) e17 e43 (xgn e28 (xgs (xgn e17 hw18))) e21 e22 e25) ?_
  refine i_27_90 (lv2 := [(7, Value.int (-1)), (6, Value.int 0), (5, Value.int ((a3 + a1) - (64 : Int32))), (4, Value.int (a3 + a1)), (0, Value.ref 78), (1, Value.ref h0), (2, Value.ref 16), (3, Value.int a0)]) rfl ?_
  refine i_27_92 ?_
  refine i_27_164 (x := (-1)) rfl ?_
  refine i_27_166 (fun h => absurd h (by decide)) (fun _ => ?_)
  refine i_27_169 (x := 78) rfl ?_
  refine i_27_170 rfl ?_
  refine i_27_171 (v := Value.int 2) (xgn e31 (xgn e32 (xgn e33 (xgs (xgn e31 (xgn e32 (xgn e33 hw6))))))) rfl ?_
  refine i_27_174 ?_
  refine i_27_175 (c := 3) (by decide) ?_
  refine i_27_176 (fs2 := [Value.int (-16384), Value.int 16384, Value.int 0, Value.int 3]) (xgn e31 (xgn e32 (xgn e33 (xgs (xgn e31 (xgn e32 (xgn e33 hw6))))))) (Nat.le_of_ble_eq_true rfl) rfl (by decide) ?_
  refine i_27_179 (x := 16) rfl ?_
  refine i_27_180 (v := Value.int 0) (xgn (by decide) (xgn e35 (xgn e36 (xgn e10 (xgn (by decide) (xgn e35 (xgn e36 (xgn e10 hw0)))))))) rfl ?_
  refine i_27_183 (fun _ => ?_) (fun h => absurd h (by decide))
  refine i_27_192 (x := (-1)) rfl ?_
  exact i_27_194 ⟨rfl, rfl⟩
theorem s_21_18 {d : Nat} {w : xW} {a0 : Int32} {b0 : Int64} {a1 : Int32} {a2 : Int32} {g0 : Nat → Value} {h0 : Nat} {a3 : Int32} {h1 : Nat} {a4 : Int32} {h2 : Nat} (e0 : 0 ≤ a0.toInt) (e1 : a0.toInt < 16) (e2 : (-40000) ≤ a1.toInt) (e3 : a1.toInt ≤ 40000) (e4 : 0 ≤ a2.toInt) (e5 : a2.toInt ≤ 4) (hw6 : w[7]? = some (Sum.inr (0, [Value.ref 8, Value.ref 78, Value.ref 9, Value.ref 10, Value.ref 13, Value.ref 16, Value.ref 19, Value.ref 93, Value.ref 108, Value.ref 113, Value.ref 29, Value.int 0]))) (hw7 : w[8]? = some (Sum.inl (4, 16, g0))) (hg8 : g0 a0.toInt.toNat = Value.ref h0) (e9 : (lg_cmp b0 (0 : Int64)).toInt ≠ 0) (e10 : 0 ≤ (lg_cmp b0 (0 : Int64)).toInt) (hw11 : w[16]? = some (Sum.inr (4, [Value.int 0, Value.ref 17, Value.int 0, Value.int 0]))) (hw12 : w[17]? = some (Sum.inr (3, [Value.ref 18, Value.int 0]))) (hw13 : w[18]? = some (Sum.inl (0, 8, fun _ => Value.int 0))) (e14 : (xhi b0).toInt ≠ 0) (hw15 : w[78]? = some (Sum.inr (1, [Value.int (-16384), Value.int 16384, Value.int 0, Value.int 0]))) (hg16 : ((64 : Int32) - (xnlz (xhi b0))) = a3) (e17 : 16 ≠ h0) (e18 : 17 ≠ h0) (e19 : 18 ≠ h0) (hw20 : w[h0]? = some (Sum.inr (2, [Value.int 64, Value.int 0, Value.int 0, Value.int 0, Value.ref h1]))) (e21 : (((a3 + a1) - (64 : Int32)) - a1).toInt ≤ 0) (hg22 : ((a3 + a1) - ((a3 + a1) - (64 : Int32))) = 64) (e23 : 7 ≤ h0) (e24 : h0 ≠ 16) (e25 : h0 ≠ 17) (e26 : h0 ≠ 18) (hg27 : ((64 : Int32) - a3) = a4) (e28 : h0 ≠ h1) (e29 : 16 ≠ h1) (e30 : 17 ≠ h1) (e31 : 18 ≠ h1) (hw32 : w[h1]? = some (Sum.inr (3, [Value.ref h2, Value.int 0]))) (hg33 : (a3 + a4) = 64) (e34 : h0 ≠ h2) (e35 : 16 ≠ h2) (e36 : 17 ≠ h2) (e37 : 18 ≠ h2) (hw38 : w[h2]? = some (Sum.inl (0, 8, fun _ => Value.int 0))) (e39 : 0 ≤ a4.toInt) (e40 : 7 ≤ h2) (e41 : h2 ≠ h1) (e42 : h2 ≠ 17) (e43 : h2 ≠ 18) (e44 : 7 ≤ h1) (e45 : h1 ≠ h0) (e46 : h2 ≠ h0) (e47 : h1 ≠ h2) (e48 : (xbf 2 (xlo b0) (xhi b0) ((32 : Int32) - a4)).toInt ≠ 0) (e49 : ((64 : Int32) - (xnlz (xbf 2 (xlo b0) (xhi b0) ((32 : Int32) - a4)))).toInt ≤ 64) (e50 : h1 ≠ 78) (e51 : h2 ≠ 78) (e52 : h0 ≠ 78) (e53 : 16384 < (a3 + a1).toInt) (e54 : h1 ≠ 16) (e55 : h2 ≠ 16) (e56 : a2.toInt ≠ 0) (e57 : a2.toInt ≠ 4) (e58 : a2.toInt ≠ 2) (e59 : a2.toInt ≠ 3) (e60 : 78 ≠ h0) (e61 : 78 ≠ h1) (e62 : 78 ≠ h2) : xRun (d + 6) 21 [Value.ref 7, Value.int a0, Value.long b0, Value.int a1, Value.int a2] w (.inl (some (Value.int (-1)))) ((((((((((((w.set 16 (Sum.inr (4, [Value.int 0, Value.ref 17, Value.int 0, Value.int 0]))).set 18 (Sum.inl (0, 8, xup (xup (fun _ => Value.int 0) (0 : Int32).toInt.toNat (Value.int (xlo b0))) (1 : Int32).toInt.toNat (Value.int (xhi b0))))).set 17 (Sum.inr (3, [Value.ref 18, Value.int 2]))).set 16 (Sum.inr (4, [Value.int 0, Value.ref 17, Value.int a1, Value.int 0]))).set h0 (Sum.inr (2, [Value.int 64, Value.int 3, Value.int 0, Value.int (a3 + a1), Value.ref h1]))).set h2 (Sum.inl (0, 8, xup (xup (fun _ => Value.int 0) (1 : Int32).toInt.toNat (Value.int (xbf 2 (xlo b0) (xhi b0) ((32 : Int32) - a4)))) (0 : Int32).toInt.toNat (Value.int (xbf 2 (xlo b0) (xhi b0) ((0 : Int32) - a4)))))).set h1 (Sum.inr (3, [Value.ref h2, Value.int 2]))).set 78 (Sum.inr (1, [Value.int (-16384), Value.int 16384, Value.int 0, Value.int 2]))).set h0 (Sum.inr (2, [Value.int 64, Value.int 3, Value.int 0, Value.int 16384, Value.ref h1]))).set h2 (Sum.inl (0, 8, xup (xup (xup (xup (xup (fun _ => Value.int 0) (1 : Int32).toInt.toNat (Value.int (xbf 2 (xlo b0) (xhi b0) ((32 : Int32) - a4)))) (0 : Int32).toInt.toNat (Value.int (xbf 2 (xlo b0) (xhi b0) ((0 : Int32) - a4)))) (0 : Int32).toInt.toNat (Value.int (-1))) (1 : Int32).toInt.toNat (Value.int (-1))) (1 : Int32).toInt.toNat (Value.int (-1))))).set h1 (Sum.inr (3, [Value.ref h2, Value.int 2]))).set 78 (Sum.inr (1, [Value.int (-16384), Value.int 16384, Value.int 0, Value.int 3]))) := by
  refine xRun.of ?_
  refine i_21_0 (x := a0) rfl ?_
  refine i_21_1 (Nat.le_of_ble_eq_true rfl) (s_15_0 e0 e1) ?_
  refine i_21_4 (fun h => absurd h (by decide)) (fun _ => ?_)
  refine i_21_7 (x := a1) rfl ?_
  refine i_21_9 ?_
  refine i_21_11 (fun h => absurd e2 (Int.not_le.mpr h)) (fun _ => ?_)
  refine i_21_14 (x := a1) rfl ?_
  refine i_21_16 ?_
  refine i_21_18 (fun h => absurd e3 (Int.not_le.mpr h)) (fun _ => ?_)
  refine i_21_21 (x := a2) rfl ?_
  refine i_21_23 (Nat.le_of_ble_eq_true rfl) (s_22_0 e4 e5) ?_
  refine i_21_26 (fun _ => ?_) (fun h => absurd h (by decide))
  refine i_21_37 (x := 7) rfl ?_
  refine i_21_38 (v := Value.ref 8) hw6 rfl ?_
  refine i_21_41 (x := a0) rfl ?_
  refine i_21_42 (v := Value.ref h0) hw7 e0 e1 hg8 ?_
  refine i_21_43 (lv2 := [(6, Value.ref h0), (0, Value.ref 7), (1, Value.int a0), (2, Value.long b0), (4, Value.int a1), (5, Value.int a2)]) rfl ?_
  refine i_21_45 (x := b0) rfl ?_
  refine i_21_46 ?_
  refine i_21_47 (c := (lg_cmp b0 (0 : Int64))) rfl ?_
  refine i_21_48 (fun _ => ?_) (fun h => absurd e9 (fun g => g h))
  refine i_21_58 (x := 7) rfl ?_
  refine i_21_59 (v := Value.ref 16) hw6 rfl ?_
  refine i_21_62 (x := b0) rfl ?_
  refine i_21_63 ?_
  refine i_21_64 (c := (lg_cmp b0 (0 : Int64))) rfl ?_
  refine i_21_65 (fun _ => ?_) (fun h => absurd e10 (Int.not_le.mpr h))
  refine i_21_72 ?_
  refine i_21_73 (x := b0) rfl ?_
  refine i_21_74 ?_
  refine i_21_75 (c := (lg_cmp b0 (0 : Int64))) rfl ?_
  refine i_21_76 (fun _ => ?_) (fun h => absurd e10 (Int.not_le.mpr h))
  refine i_21_84 (x := b0) rfl ?_
  refine i_21_85 (x := a1) rfl ?_
  refine i_21_87 hw11 (Nat.le_of_ble_eq_true rfl) (s_24_1 hw11 hw12 hw13 e14) ?_
  refine i_21_90 (x := 7) rfl ?_
  refine i_21_91 (v := Value.ref 78) (xgn (by decide) (xgn (by decide) (xgn (by decide) (xgn (by decide) hw6)))) rfl ?_
  refine i_21_94 (x := h0) rfl ?_
  refine i_21_96 (x := 7) rfl ?_
  refine i_21_97 (v := Value.ref 16) (xgn (by decide) (xgn (by decide) (xgn (by decide) (xgn (by decide) hw6)))) rfl ?_
  refine i_21_100 (x := a2) rfl ?_
  refine i_21_102 (xgn (by decide) (xgn (by decide) (xgn (by decide) (xgn (by decide) hw15)))) (Nat.le_of_ble_eq_true rfl) (s_27_18 (xgs (xgn (by decide) (xgn (by decide) (xgs hw11)))) (xgn (by decide) (xgs (xgn (by decide) (xgn (by decide) hw12)))) (xgn (by decide) (xgn (by decide) (xgs (xgn (by decide) hw13)))) xup_s hg16 (xgn e17 (xgn e18 (xgn e19 (xgn e17 hw20)))) (xgn (by decide) (xgn (by decide) (xgn (by decide) (xgn (by decide) hw15)))) e21 hg22 e23 e24 e25 e26 hg27 e28 (xgn e29 (xgn e30 (xgn e31 (xgn e29 hw32)))) hg33 e34 (xgn e35 (xgn e36 (xgn e37 (xgn e35 hw38)))) e39 (xup_n (by decide) xup_s) e40 e41 e42 e43 e44 e45 e46 e47 e48 e49 e50 e51 e52 e53 e54 e55 e56 e57 e58 e59 e60 e61 e62) ?_
  exact i_21_105 ⟨rfl, rfl⟩
theorem s_20_18 {d : Nat} {w : xW} {a0 : Int32} {b0 : Int64} {a1 : Int32} {a2 : Int32} {g0 : Nat → Value} {h0 : Nat} {a3 : Int32} {h1 : Nat} {a4 : Int32} {h2 : Nat} (hw0 : w[7]? = some (Sum.inr (0, [Value.ref 8, Value.ref 78, Value.ref 9, Value.ref 10, Value.ref 13, Value.ref 16, Value.ref 19, Value.ref 93, Value.ref 108, Value.ref 113, Value.ref 29, Value.int 0]))) (e1 : 0 ≤ a0.toInt) (e2 : a0.toInt < 16) (e3 : (-40000) ≤ a1.toInt) (e4 : a1.toInt ≤ 40000) (e5 : 0 ≤ a2.toInt) (e6 : a2.toInt ≤ 4) (hw7 : w[8]? = some (Sum.inl (4, 16, g0))) (hg8 : g0 a0.toInt.toNat = Value.ref h0) (e9 : (lg_cmp b0 (0 : Int64)).toInt ≠ 0) (e10 : 0 ≤ (lg_cmp b0 (0 : Int64)).toInt) (hw11 : w[16]? = some (Sum.inr (4, [Value.int 0, Value.ref 17, Value.int 0, Value.int 0]))) (hw12 : w[17]? = some (Sum.inr (3, [Value.ref 18, Value.int 0]))) (hw13 : w[18]? = some (Sum.inl (0, 8, fun _ => Value.int 0))) (e14 : (xhi b0).toInt ≠ 0) (hw15 : w[78]? = some (Sum.inr (1, [Value.int (-16384), Value.int 16384, Value.int 0, Value.int 0]))) (hg16 : ((64 : Int32) - (xnlz (xhi b0))) = a3) (e17 : 16 ≠ h0) (e18 : 17 ≠ h0) (e19 : 18 ≠ h0) (hw20 : w[h0]? = some (Sum.inr (2, [Value.int 64, Value.int 0, Value.int 0, Value.int 0, Value.ref h1]))) (e21 : (((a3 + a1) - (64 : Int32)) - a1).toInt ≤ 0) (hg22 : ((a3 + a1) - ((a3 + a1) - (64 : Int32))) = 64) (e23 : 7 ≤ h0) (e24 : h0 ≠ 16) (e25 : h0 ≠ 17) (e26 : h0 ≠ 18) (hg27 : ((64 : Int32) - a3) = a4) (e28 : h0 ≠ h1) (e29 : 16 ≠ h1) (e30 : 17 ≠ h1) (e31 : 18 ≠ h1) (hw32 : w[h1]? = some (Sum.inr (3, [Value.ref h2, Value.int 0]))) (hg33 : (a3 + a4) = 64) (e34 : h0 ≠ h2) (e35 : 16 ≠ h2) (e36 : 17 ≠ h2) (e37 : 18 ≠ h2) (hw38 : w[h2]? = some (Sum.inl (0, 8, fun _ => Value.int 0))) (e39 : 0 ≤ a4.toInt) (e40 : 7 ≤ h2) (e41 : h2 ≠ h1) (e42 : h2 ≠ 17) (e43 : h2 ≠ 18) (e44 : 7 ≤ h1) (e45 : h1 ≠ h0) (e46 : h2 ≠ h0) (e47 : h1 ≠ h2) (e48 : (xbf 2 (xlo b0) (xhi b0) ((32 : Int32) - a4)).toInt ≠ 0) (e49 : ((64 : Int32) - (xnlz (xbf 2 (xlo b0) (xhi b0) ((32 : Int32) - a4)))).toInt ≤ 64) (e50 : h1 ≠ 78) (e51 : h2 ≠ 78) (e52 : h0 ≠ 78) (e53 : 16384 < (a3 + a1).toInt) (e54 : h1 ≠ 16) (e55 : h2 ≠ 16) (e56 : a2.toInt ≠ 0) (e57 : a2.toInt ≠ 4) (e58 : a2.toInt ≠ 2) (e59 : a2.toInt ≠ 3) (e60 : 78 ≠ h0) (e61 : 78 ≠ h1) (e62 : 78 ≠ h2) (e63 : h1 ≠ 194) (e64 : h2 ≠ 194) (e65 : h0 ≠ 194) (hw66 : w[194]? = some (Sum.inl (3, 1, fun _ => Value.long 0))) : xRun (d + 7) 20 [Value.ref 7, Value.int a0, Value.long b0, Value.int a1, Value.int a2, Value.ref 194] w (.inl (some (Value.int 0))) (((((((((((((w.set 16 (Sum.inr (4, [Value.int 0, Value.ref 17, Value.int 0, Value.int 0]))).set 18 (Sum.inl (0, 8, xup (xup (fun _ => Value.int 0) (0 : Int32).toInt.toNat (Value.int (xlo b0))) (1 : Int32).toInt.toNat (Value.int (xhi b0))))).set 17 (Sum.inr (3, [Value.ref 18, Value.int 2]))).set 16 (Sum.inr (4, [Value.int 0, Value.ref 17, Value.int a1, Value.int 0]))).set h0 (Sum.inr (2, [Value.int 64, Value.int 3, Value.int 0, Value.int (a3 + a1), Value.ref h1]))).set h2 (Sum.inl (0, 8, xup (xup (fun _ => Value.int 0) (1 : Int32).toInt.toNat (Value.int (xbf 2 (xlo b0) (xhi b0) ((32 : Int32) - a4)))) (0 : Int32).toInt.toNat (Value.int (xbf 2 (xlo b0) (xhi b0) ((0 : Int32) - a4)))))).set h1 (Sum.inr (3, [Value.ref h2, Value.int 2]))).set 78 (Sum.inr (1, [Value.int (-16384), Value.int 16384, Value.int 0, Value.int 2]))).set h0 (Sum.inr (2, [Value.int 64, Value.int 3, Value.int 0, Value.int 16384, Value.ref h1]))).set h2 (Sum.inl (0, 8, xup (xup (xup (xup (xup (fun _ => Value.int 0) (1 : Int32).toInt.toNat (Value.int (xbf 2 (xlo b0) (xhi b0) ((32 : Int32) - a4)))) (0 : Int32).toInt.toNat (Value.int (xbf 2 (xlo b0) (xhi b0) ((0 : Int32) - a4)))) (0 : Int32).toInt.toNat (Value.int (-1))) (1 : Int32).toInt.toNat (Value.int (-1))) (1 : Int32).toInt.toNat (Value.int (-1))))).set h1 (Sum.inr (3, [Value.ref h2, Value.int 2]))).set 78 (Sum.inr (1, [Value.int (-16384), Value.int 16384, Value.int 0, Value.int 3]))).set 194 (Sum.inl (3, 1, xup (fun _ => Value.long 0) (0 : Int32).toInt.toNat (Value.long (-1))))) := by
  refine xRun.of ?_
  refine i_20_0 (x := 194) rfl ?_
  refine i_20_2 ?_
  refine i_20_3 (x := 7) rfl ?_
  refine i_20_4 (x := a0) rfl ?_
  refine i_20_5 (x := b0) rfl ?_
  refine i_20_6 (x := a1) rfl ?_
  refine i_20_8 (x := a2) rfl ?_
  refine i_20_10 hw0 (Nat.le_of_ble_eq_true rfl) (s_21_18 e1 e2 e3 e4 e5 e6 hw0 hw7 hg8 e9 e10 hw11 hw12 hw13 e14 hw15 hg16 e17 e18 e19 hw20 e21 hg22 e23 e24 e25 e26 hg27 e28 e29 e30 e31 hw32 hg33 e34 e35 e36 e37 hw38 e39 e40 e41 e42 e43 e44 e45 e46 e47 e48 e49 e50 e51 e52 e53 e54 e55 e56 e57 e58 e59 e60 e61 e62) ?_
  refine i_20_13 (c := (-1)) (by decide) ?_
  refine i_20_14 (v := Value.long (-1)) (xgn (by decide) (xgn e63 (xgn e64 (xgn e65 (xgn (by decide) (xgn e63 (xgn e64 (xgn e65 (xgn (by decide) (xgn (by decide) (xgn (by decide) (xgn (by decide) hw66)))))))))))) (by decide) (by decide) (by decide) rfl ?_
  refine i_20_15 ?_
  refine i_20_22 ?_
  exact i_20_23 ⟨rfl, rfl⟩
theorem cn3_0_18 {d : Nat} {xs : Nat → Int32} {B K : Int32} (c0 : 0 ≤ (xs 1).toInt) (c1 : (xs 1).toInt < 16) (c2 : (-40000) ≤ (xs 4).toInt) (c3 : (xs 4).toInt ≤ 40000) (c4 : 0 ≤ (xs 5).toInt) (c5 : (xs 5).toInt ≤ 4) (c6 : (lg_cmp (xvv xs) (0 : Int64)).toInt ≠ 0) (c7 : 0 ≤ (lg_cmp (xvv xs) (0 : Int64)).toInt) (c8 : K.toInt = 64 - B.toInt) (c9 : 33 ≤ B.toInt) (c10 : B.toInt ≤ 64) (c11 : (xhi (xvv xs)).toInt ≠ 0) (c12 : (xnlz (xhi (xvv xs))).toInt = 64 - B.toInt) (c13 : (xbf 2 (xlo (xvv xs)) (xhi (xvv xs)) ((32 : Int32) - K)).toInt ≠ 0) (c14 : 16384 < (B + (xs 4)).toInt) (c15 : (xs 5).toInt ≠ 0) (c16 : (xs 5).toInt ≠ 4) (c17 : (xs 5).toInt ≠ 2) (c18 : (xs 5).toInt ≠ 3) : ∃ w1, xRun (d + 18) 20 [Value.ref 7, Value.int (xs 1), Value.long (xvv xs), Value.int (xs 4), Value.int (xs 5), Value.ref 194] (W0 6 xs) (.inl (some (Value.int 0))) w1 ∧ xKp (W0 6 xs) w1 xPC ∧ w1[194]? = some (Sum.inl (3, 1, xup (fun _ => Value.long 0) (0 : Int32).toInt.toNat (Value.long (-1)))) := by
  have f0 : ((64 : Int32) - (xnlz (xhi (xvv xs)))).toInt = 64 - (xnlz (xhi (xvv xs))).toInt := xsub_g rfl rfl (by omega) (by omega)
  have f1 : (B + (xs 4)).toInt = B.toInt + (xs 4).toInt := xadd_i (by omega) (by omega)
  have f2 : ((B + (xs 4)) - (64 : Int32)).toInt = (B + (xs 4)).toInt - 64 := xsub_g rfl rfl (by omega) (by omega)
  have f3 : (((B + (xs 4)) - (64 : Int32)) - (xs 4)).toInt = ((B + (xs 4)) - (64 : Int32)).toInt - (xs 4).toInt := xsub_i (by omega) (by omega)
  have f4 : ((B + (xs 4)) - ((B + (xs 4)) - (64 : Int32))).toInt = (B + (xs 4)).toInt - ((B + (xs 4)) - (64 : Int32)).toInt := xsub_i (by omega) (by omega)
  have f5 : ((64 : Int32) - B).toInt = 64 - B.toInt := xsub_g rfl rfl (by omega) (by omega)
  have f6 : (B + K).toInt = B.toInt + K.toInt := xadd_i (by omega) (by omega)
  have f7 : 0 ≤ (xnlz (xbf 2 (xlo (xvv xs)) (xhi (xvv xs)) ((32 : Int32) - K))).toInt := (xnlz_b _).1
  have f8 : (xnlz (xbf 2 (xlo (xvv xs)) (xhi (xvv xs)) ((32 : Int32) - K))).toInt ≤ 32 := (xnlz_b _).2
  have f9 : ((64 : Int32) - (xnlz (xbf 2 (xlo (xvv xs)) (xhi (xvv xs)) ((32 : Int32) - K)))).toInt = 64 - (xnlz (xbf 2 (xlo (xvv xs)) (xhi (xvv xs)) ((32 : Int32) - K))).toInt := xsub_g rfl rfl (by omega) (by omega)
  refine ⟨((((((((((((((W0 6 xs).set 16 (Sum.inr (4, [Value.int 0, Value.ref 17, Value.int 0, Value.int 0]))).set 18 (Sum.inl (0, 8, xup (xup (fun _ => Value.int 0) (0 : Int32).toInt.toNat (Value.int (xlo (xvv xs)))) (1 : Int32).toInt.toNat (Value.int (xhi (xvv xs)))))).set 17 (Sum.inr (3, [Value.ref 18, Value.int 2]))).set 16 (Sum.inr (4, [Value.int 0, Value.ref 17, Value.int (xs 4), Value.int 0]))).set (30 + 3 * (xs 1).toInt.toNat) (Sum.inr (2, [Value.int 64, Value.int 3, Value.int 0, Value.int (B + (xs 4)), Value.ref (31 + 3 * (xs 1).toInt.toNat)]))).set (32 + 3 * (xs 1).toInt.toNat) (Sum.inl (0, 8, xup (xup (fun _ => Value.int 0) (1 : Int32).toInt.toNat (Value.int (xbf 2 (xlo (xvv xs)) (xhi (xvv xs)) ((32 : Int32) - K)))) (0 : Int32).toInt.toNat (Value.int (xbf 2 (xlo (xvv xs)) (xhi (xvv xs)) ((0 : Int32) - K)))))).set (31 + 3 * (xs 1).toInt.toNat) (Sum.inr (3, [Value.ref (32 + 3 * (xs 1).toInt.toNat), Value.int 2]))).set 78 (Sum.inr (1, [Value.int (-16384), Value.int 16384, Value.int 0, Value.int 2]))).set (30 + 3 * (xs 1).toInt.toNat) (Sum.inr (2, [Value.int 64, Value.int 3, Value.int 0, Value.int 16384, Value.ref (31 + 3 * (xs 1).toInt.toNat)]))).set (32 + 3 * (xs 1).toInt.toNat) (Sum.inl (0, 8, xup (xup (xup (xup (xup (fun _ => Value.int 0) (1 : Int32).toInt.toNat (Value.int (xbf 2 (xlo (xvv xs)) (xhi (xvv xs)) ((32 : Int32) - K)))) (0 : Int32).toInt.toNat (Value.int (xbf 2 (xlo (xvv xs)) (xhi (xvv xs)) ((0 : Int32) - K)))) (0 : Int32).toInt.toNat (Value.int (-1))) (1 : Int32).toInt.toNat (Value.int (-1))) (1 : Int32).toInt.toNat (Value.int (-1))))).set (31 + 3 * (xs 1).toInt.toNat) (Sum.inr (3, [Value.ref (32 + 3 * (xs 1).toInt.toNat), Value.int 2]))).set 78 (Sum.inr (1, [Value.int (-16384), Value.int 16384, Value.int 0, Value.int 3]))).set 194 (Sum.inl (3, 1, xup (fun _ => Value.long 0) (0 : Int32).toInt.toNat (Value.long (-1))))), (s_20_18 W0_7 (by omega) (by omega) (by omega) (by omega) (by omega) (by omega) W0_8 (greg_at (by omega)) (by omega) (by omega) W0_16 W0_17 W0_18 (by omega) W0_78 (show ((64 : Int32) - (xnlz (xhi (xvv xs)))) = B from (xge_i (by omega))) (by omega) (by omega) (by omega) (W0_reg (by omega)) (by omega) (show ((B + (xs 4)) - ((B + (xs 4)) - (64 : Int32))) = 64 from (xge_c (n := 64) (by omega) rfl)) (by omega) (by omega) (by omega) (by omega) (show ((64 : Int32) - B) = K from (xge_i (by omega))) (by omega) (by omega) (by omega) (by omega) (W0_man (by omega)) (show (B + K) = 64 from (xge_c (n := 64) (by omega) rfl)) (by omega) (by omega) (by omega) (by omega) (W0_mw (by omega)) (by omega) (by omega) (by omega) (by omega) (by omega) (by omega) (by omega) (by omega) (by omega) (by omega) (by omega) (by omega) (by omega) (by omega) (by omega) (by omega) (by omega) (by omega) (by omega) (by omega) (by omega) (by omega) (by omega) (by omega) (by omega) (by omega) (by omega) W0_194), ?_, xgs (xgn (by decide) (xgn (by omega) (xgn (by omega) (xgn (by omega) (xgn (by decide) (xgn (by omega) (xgn (by omega) (xgn (by omega) (xgn (by decide) (xgn (by decide) (xgn (by decide) (xgn (by decide) W0_194))))))))))))⟩
  refine xKp.set ?_ (fun h hh => by unfold xPC at hh; omega) (xgn (by decide) (xgn (by omega) (xgn (by omega) (xgn (by omega) (xgn (by decide) (xgn (by omega) (xgn (by omega) (xgn (by omega) (xgn (by decide) (xgn (by decide) (xgn (by decide) (xgn (by decide) W0_194)))))))))))) xcs_a
  refine xKp.set ?_ (fun h hh => by unfold xPC at hh; omega) (xgn (by omega) (xgn (by omega) (xgn (by omega) (xgs (xgn (by omega) (xgn (by omega) (xgn (by omega) (xgn (by decide) (xgn (by decide) (xgn (by decide) (xgn (by decide) W0_78))))))))))) xcs_o
  refine xKp.set ?_ (fun h hh => by unfold xPC at hh; omega) (xgn (by omega) (xgn (by omega) (xgn (by omega) (xgs (xgn (by omega) (xgn (by omega) (xgn (by omega) (xgn (by omega) (xgn (by omega) (xgn (by omega) (W0_man (by omega)))))))))))) xcs_o
  refine xKp.set ?_ (fun h hh => by unfold xPC at hh; omega) (xgn (by omega) (xgn (by omega) (xgn (by omega) (xgs (xgn (by omega) (xgn (by omega) (xgn (by omega) (xgn (by omega) (xgn (by omega) (W0_mw (by omega))))))))))) xcs_a
  refine xKp.set ?_ (fun h hh => by unfold xPC at hh; omega) (xgn (by omega) (xgn (by omega) (xgn (by omega) (xgs (xgn (by omega) (xgn (by omega) (xgn (by omega) (xgn (by omega) (W0_reg (by omega)))))))))) xcs_o
  refine xKp.set ?_ (fun h hh => by unfold xPC at hh; omega) (xgn (by omega) (xgn (by omega) (xgn (by omega) (xgn (by decide) (xgn (by decide) (xgn (by decide) (xgn (by decide) W0_78))))))) xcs_o
  refine xKp.set ?_ (fun h hh => by unfold xPC at hh; omega) (xgn (by omega) (xgn (by omega) (xgn (by omega) (xgn (by omega) (xgn (by omega) (xgn (by omega) (W0_man (by omega)))))))) xcs_o
  refine xKp.set ?_ (fun h hh => by unfold xPC at hh; omega) (xgn (by omega) (xgn (by omega) (xgn (by omega) (xgn (by omega) (xgn (by omega) (W0_mw (by omega))))))) xcs_a
  refine xKp.set ?_ (fun h hh => by unfold xPC at hh; omega) (xgn (by omega) (xgn (by omega) (xgn (by omega) (xgn (by omega) (W0_reg (by omega)))))) xcs_o
  refine xKp.set ?_ (fun h hh => by unfold xPC at hh; omega) (xgn (by decide) (xgn (by decide) (xgs W0_16))) xcs_o
  refine xKp.set ?_ (fun h hh => by unfold xPC at hh; omega) (xgn (by decide) (xgn (by decide) W0_17)) xcs_o
  refine xKp.set ?_ (fun h hh => by unfold xPC at hh; omega) (xgn (by decide) W0_18) xcs_a
  refine xKp.set ?_ (fun h hh => by unfold xPC at hh; omega) (W0_16) xcs_o
  exact xKp.refl
theorem s_27_19 {d : Nat} {w : xW} {h0 : Nat} {a0 : Int32} {a1 : Int32} {g0 : Nat → Value} {a2 : Int32} {a3 : Int32} {h1 : Nat} {a4 : Int32} {h2 : Nat} {a5 : Int32} (hw0 : w[16]? = some (Sum.inr (4, [Value.int 0, Value.ref 17, Value.int a1, Value.int 0]))) (hw1 : w[17]? = some (Sum.inr (3, [Value.ref 18, Value.int 2]))) (hw2 : w[18]? = some (Sum.inl (0, 8, g0))) (hg3 : g0 (1 : Int32).toInt.toNat = Value.int a2) (hg4 : ((64 : Int32) - (xnlz a2)) = a3) (hw5 : w[h0]? = some (Sum.inr (2, [Value.int 64, Value.int 0, Value.int 0, Value.int 0, Value.ref h1]))) (hw6 : w[78]? = some (Sum.inr (1, [Value.int (-16384), Value.int 16384, Value.int 0, Value.int 0]))) (e7 : (((a3 + a1) - (64 : Int32)) - a1).toInt ≤ 0) (hg8 : ((a3 + a1) - ((a3 + a1) - (64 : Int32))) = 64) (e9 : 7 ≤ h0) (e10 : h0 ≠ 16) (e11 : h0 ≠ 17) (e12 : h0 ≠ 18) (hg13 : ((64 : Int32) - a3) = a4) (e14 : h0 ≠ h1) (hw15 : w[h1]? = some (Sum.inr (3, [Value.ref h2, Value.int 0]))) (hg16 : (a3 + a4) = 64) (e17 : h0 ≠ h2) (hw18 : w[h2]? = some (Sum.inl (0, 8, fun _ => Value.int 0))) (e19 : 0 ≤ a4.toInt) (hg20 : g0 (0 : Int32).toInt.toNat = Value.int a5) (e21 : 7 ≤ h2) (e22 : h2 ≠ h1) (e23 : h2 ≠ 17) (e24 : h2 ≠ 18) (e25 : 7 ≤ h1) (e26 : h1 ≠ h0) (e27 : h2 ≠ h0) (e28 : h1 ≠ h2) (e29 : (xbf 2 a5 a2 ((32 : Int32) - a4)).toInt ≠ 0) (e30 : ((64 : Int32) - (xnlz (xbf 2 a5 a2 ((32 : Int32) - a4)))).toInt ≤ 64) (e31 : h1 ≠ 78) (e32 : h2 ≠ 78) (e33 : h0 ≠ 78) (e34 : (a3 + a1).toInt ≤ 16384) (e35 : (a3 + a1).toInt < (-16384)) (e36 : h1 ≠ 16) (e37 : h2 ≠ 16) (e38 : a0.toInt = 4) (e39 : a0.toInt ≠ 0) (e40 : 78 ≠ h0) (e41 : 78 ≠ h1) (e42 : 78 ≠ h2) : xRun (d + 5) 27 [Value.ref 78, Value.ref h0, Value.ref 16, Value.int a0] w (.inl (some (Value.int 1))) ((((((((w.set h0 (Sum.inr (2, [Value.int 64, Value.int 3, Value.int 0, Value.int (a3 + a1), Value.ref h1]))).set h2 (Sum.inl (0, 8, xup (xup (fun _ => Value.int 0) (1 : Int32).toInt.toNat (Value.int (xbf 2 a5 a2 ((32 : Int32) - a4)))) (0 : Int32).toInt.toNat (Value.int (xbf 2 a5 a2 ((0 : Int32) - a4)))))).set h1 (Sum.inr (3, [Value.ref h2, Value.int 2]))).set 78 (Sum.inr (1, [Value.int (-16384), Value.int 16384, Value.int 0, Value.int 4]))).set h0 (Sum.inr (2, [Value.int 64, Value.int 3, Value.int 0, Value.int (-16384), Value.ref h1]))).set h2 (Sum.inl (0, 8, xup (xup (xup (xup (xup (fun _ => Value.int 0) (1 : Int32).toInt.toNat (Value.int (xbf 2 a5 a2 ((32 : Int32) - a4)))) (0 : Int32).toInt.toNat (Value.int (xbf 2 a5 a2 ((0 : Int32) - a4)))) (0 : Int32).toInt.toNat (Value.int 0)) (1 : Int32).toInt.toNat (Value.int 0)) (1 : Int32).toInt.toNat (Value.int (-2147483648))))).set h1 (Sum.inr (3, [Value.ref h2, Value.int 2]))).set 78 (Sum.inr (1, [Value.int (-16384), Value.int 16384, Value.int 0, Value.int 5]))) := by
  refine xRun.of ?_
  refine i_27_0 (x := 16) rfl ?_
  refine i_27_1 hw0 (Nat.le_of_ble_eq_true rfl) (s_28_1 hw0 hw1 hw2 hg3 hg4) ?_
  refine i_27_4 (lv2 := [(4, Value.int (a3 + a1)), (0, Value.ref 78), (1, Value.ref h0), (2, Value.ref 16), (3, Value.int a0)]) rfl ?_
  refine i_27_6 (x := 78) rfl ?_
  refine i_27_7 (x := (a3 + a1)) rfl ?_
  refine i_27_9 (x := h0) rfl ?_
  refine i_27_10 (v := Value.int 64) hw5 rfl ?_
  refine i_27_13 hw6 (Nat.le_of_ble_eq_true rfl) (s_30_0 hw6) ?_
  refine i_27_16 (lv2 := [(5, Value.int ((a3 + a1) - (64 : Int32))), (4, Value.int (a3 + a1)), (0, Value.ref 78), (1, Value.ref h0), (2, Value.ref 16), (3, Value.int a0)]) rfl ?_
  refine i_27_18 (x := 16) rfl ?_
  refine i_27_19 (x := ((a3 + a1) - (64 : Int32))) rfl ?_
  refine i_27_21 (x := a0) rfl ?_
  refine i_27_22 hw0 (Nat.le_of_ble_eq_true rfl) (s_31_1 hw0 hw1 e7) ?_
  refine i_27_25 (lv2 := [(6, Value.int 0), (5, Value.int ((a3 + a1) - (64 : Int32))), (4, Value.int (a3 + a1)), (0, Value.ref 78), (1, Value.ref h0), (2, Value.ref 16), (3, Value.int a0)]) rfl ?_
  refine i_27_27 (x := 16) rfl ?_
  refine i_27_28 (x := ((a3 + a1) - (64 : Int32))) rfl ?_
  refine i_27_30 hw0 (Nat.le_of_ble_eq_true rfl) (s_32_1 hw0 hw1 e7) ?_
  refine i_27_33 (fun h => absurd h (by decide)) (fun _ => ?_)
  refine i_27_36 ?_
  refine i_27_37 ?_
  refine i_27_50 (lv2 := [(7, Value.int 0), (6, Value.int 0), (5, Value.int ((a3 + a1) - (64 : Int32))), (4, Value.int (a3 + a1)), (0, Value.ref 78), (1, Value.ref h0), (2, Value.ref 16), (3, Value.int a0)]) rfl ?_
  refine i_27_52 (x := h0) rfl ?_
  refine i_27_53 (x := 16) rfl ?_
  refine i_27_54 (x := ((a3 + a1) - (64 : Int32))) rfl ?_
  refine i_27_56 (x := 0) rfl ?_
  refine i_27_58 hw5 (Nat.le_of_ble_eq_true rfl) (s_38_1 hw0 hw1 hw2 hg3 hg4 hg8 hw5 e9 e10 e11 e12 hg13 e14 hw15 hg16 e17 hw18 e19 hg20 e21 e22 e23 e24 e25 e26 e27 e28 e29 e30) ?_
  refine i_27_61 (x := h0) rfl ?_
  refine i_27_62 (v := Value.int 3) (xgn e26 (xgn e27 (xgs hw5))) rfl ?_
  refine i_27_65 ?_
  refine i_27_66 (fun h => absurd h (by decide)) (fun _ => ?_)
  refine i_27_69 (x := h0) rfl ?_
  refine i_27_70 (v := Value.int (a3 + a1)) (xgn e26 (xgn e27 (xgs hw5))) rfl ?_
  refine i_27_73 (x := 78) rfl ?_
  refine i_27_74 (v := Value.int 16384) (xgn e31 (xgn e32 (xgn e33 hw6))) rfl ?_
  refine i_27_77 (fun _ => ?_) (fun h => absurd e34 (Int.not_le.mpr h))
  refine i_27_95 (x := h0) rfl ?_
  refine i_27_96 (v := Value.int 3) (xgn e26 (xgn e27 (xgs hw5))) rfl ?_
  refine i_27_99 ?_
  refine i_27_100 (fun h => absurd h (by decide)) (fun _ => ?_)
  refine i_27_103 (x := 78) rfl ?_
  refine i_27_104 (v := Value.int 0) (xgn e31 (xgn e32 (xgn e33 hw6))) rfl ?_
  refine i_27_107 (fun h => absurd h (by decide)) (fun _ => ?_)
  refine i_27_110 (x := h0) rfl ?_
  refine i_27_111 (v := Value.int (a3 + a1)) (xgn e26 (xgn e27 (xgs hw5))) rfl ?_
  refine i_27_114 (x := 78) rfl ?_
  refine i_27_115 (v := Value.int (-16384)) (xgn e31 (xgn e32 (xgn e33 hw6))) rfl ?_
  refine i_27_118 (fun h => absurd e35 (Int.not_lt.mpr h)) (fun _ => ?_)
  refine i_27_121 (x := 78) rfl ?_
  refine i_27_122 (x := h0) rfl ?_
  refine i_27_123 (x := 16) rfl ?_
  refine i_27_124 (x := a0) rfl ?_
  refine i_27_125 (xgn e31 (xgn e32 (xgn e33 hw6))) (Nat.le_of_ble_eq_true rfl) (s_50_0 (xgn e31 (xgn e32 (xgn e33 hw6))) (xgn e36 (xgn e37 (xgn e10 hw0))) e38 e39 e40 (xgn e26 (xgn e27 (xgs hw5))) e9 e14 e41 (xgs (xgn e22 (xgn e14 hw15))) e17 e42 (xgn e28 (xgs (xgn e17 hw18))) e21 e22 e25) ?_
  refine i_27_128 (lv2 := [(7, Value.int 1), (6, Value.int 0), (5, Value.int ((a3 + a1) - (64 : Int32))), (4, Value.int (a3 + a1)), (0, Value.ref 78), (1, Value.ref h0), (2, Value.ref 16), (3, Value.int a0)]) rfl ?_
  refine i_27_130 ?_
  refine i_27_164 (x := 1) rfl ?_
  refine i_27_166 (fun h => absurd h (by decide)) (fun _ => ?_)
  refine i_27_169 (x := 78) rfl ?_
  refine i_27_170 rfl ?_
  refine i_27_171 (v := Value.int 4) (xgn e31 (xgn e32 (xgn e33 (xgs (xgn e31 (xgn e32 (xgn e33 hw6))))))) rfl ?_
  refine i_27_174 ?_
  refine i_27_175 (c := 5) (by decide) ?_
  refine i_27_176 (fs2 := [Value.int (-16384), Value.int 16384, Value.int 0, Value.int 5]) (xgn e31 (xgn e32 (xgn e33 (xgs (xgn e31 (xgn e32 (xgn e33 hw6))))))) (Nat.le_of_ble_eq_true rfl) rfl (by decide) ?_
  refine i_27_179 (x := 16) rfl ?_
  refine i_27_180 (v := Value.int 0) (xgn (by decide) (xgn e36 (xgn e37 (xgn e10 (xgn (by decide) (xgn e36 (xgn e37 (xgn e10 hw0)))))))) rfl ?_
  refine i_27_183 (fun _ => ?_) (fun h => absurd h (by decide))
  refine i_27_192 (x := 1) rfl ?_
  exact i_27_194 ⟨rfl, rfl⟩
theorem s_21_19 {d : Nat} {w : xW} {a0 : Int32} {b0 : Int64} {a1 : Int32} {a2 : Int32} {g0 : Nat → Value} {h0 : Nat} {a3 : Int32} {h1 : Nat} {a4 : Int32} {h2 : Nat} (e0 : 0 ≤ a0.toInt) (e1 : a0.toInt < 16) (e2 : (-40000) ≤ a1.toInt) (e3 : a1.toInt ≤ 40000) (e4 : 0 ≤ a2.toInt) (e5 : a2.toInt ≤ 4) (hw6 : w[7]? = some (Sum.inr (0, [Value.ref 8, Value.ref 78, Value.ref 9, Value.ref 10, Value.ref 13, Value.ref 16, Value.ref 19, Value.ref 93, Value.ref 108, Value.ref 113, Value.ref 29, Value.int 0]))) (hw7 : w[8]? = some (Sum.inl (4, 16, g0))) (hg8 : g0 a0.toInt.toNat = Value.ref h0) (e9 : (lg_cmp b0 (0 : Int64)).toInt ≠ 0) (e10 : 0 ≤ (lg_cmp b0 (0 : Int64)).toInt) (hw11 : w[16]? = some (Sum.inr (4, [Value.int 0, Value.ref 17, Value.int 0, Value.int 0]))) (hw12 : w[17]? = some (Sum.inr (3, [Value.ref 18, Value.int 0]))) (hw13 : w[18]? = some (Sum.inl (0, 8, fun _ => Value.int 0))) (e14 : (xhi b0).toInt ≠ 0) (hw15 : w[78]? = some (Sum.inr (1, [Value.int (-16384), Value.int 16384, Value.int 0, Value.int 0]))) (hg16 : ((64 : Int32) - (xnlz (xhi b0))) = a3) (e17 : 16 ≠ h0) (e18 : 17 ≠ h0) (e19 : 18 ≠ h0) (hw20 : w[h0]? = some (Sum.inr (2, [Value.int 64, Value.int 0, Value.int 0, Value.int 0, Value.ref h1]))) (e21 : (((a3 + a1) - (64 : Int32)) - a1).toInt ≤ 0) (hg22 : ((a3 + a1) - ((a3 + a1) - (64 : Int32))) = 64) (e23 : 7 ≤ h0) (e24 : h0 ≠ 16) (e25 : h0 ≠ 17) (e26 : h0 ≠ 18) (hg27 : ((64 : Int32) - a3) = a4) (e28 : h0 ≠ h1) (e29 : 16 ≠ h1) (e30 : 17 ≠ h1) (e31 : 18 ≠ h1) (hw32 : w[h1]? = some (Sum.inr (3, [Value.ref h2, Value.int 0]))) (hg33 : (a3 + a4) = 64) (e34 : h0 ≠ h2) (e35 : 16 ≠ h2) (e36 : 17 ≠ h2) (e37 : 18 ≠ h2) (hw38 : w[h2]? = some (Sum.inl (0, 8, fun _ => Value.int 0))) (e39 : 0 ≤ a4.toInt) (e40 : 7 ≤ h2) (e41 : h2 ≠ h1) (e42 : h2 ≠ 17) (e43 : h2 ≠ 18) (e44 : 7 ≤ h1) (e45 : h1 ≠ h0) (e46 : h2 ≠ h0) (e47 : h1 ≠ h2) (e48 : (xbf 2 (xlo b0) (xhi b0) ((32 : Int32) - a4)).toInt ≠ 0) (e49 : ((64 : Int32) - (xnlz (xbf 2 (xlo b0) (xhi b0) ((32 : Int32) - a4)))).toInt ≤ 64) (e50 : h1 ≠ 78) (e51 : h2 ≠ 78) (e52 : h0 ≠ 78) (e53 : (a3 + a1).toInt ≤ 16384) (e54 : (a3 + a1).toInt < (-16384)) (e55 : h1 ≠ 16) (e56 : h2 ≠ 16) (e57 : a2.toInt = 4) (e58 : a2.toInt ≠ 0) (e59 : 78 ≠ h0) (e60 : 78 ≠ h1) (e61 : 78 ≠ h2) : xRun (d + 6) 21 [Value.ref 7, Value.int a0, Value.long b0, Value.int a1, Value.int a2] w (.inl (some (Value.int 1))) ((((((((((((w.set 16 (Sum.inr (4, [Value.int 0, Value.ref 17, Value.int 0, Value.int 0]))).set 18 (Sum.inl (0, 8, xup (xup (fun _ => Value.int 0) (0 : Int32).toInt.toNat (Value.int (xlo b0))) (1 : Int32).toInt.toNat (Value.int (xhi b0))))).set 17 (Sum.inr (3, [Value.ref 18, Value.int 2]))).set 16 (Sum.inr (4, [Value.int 0, Value.ref 17, Value.int a1, Value.int 0]))).set h0 (Sum.inr (2, [Value.int 64, Value.int 3, Value.int 0, Value.int (a3 + a1), Value.ref h1]))).set h2 (Sum.inl (0, 8, xup (xup (fun _ => Value.int 0) (1 : Int32).toInt.toNat (Value.int (xbf 2 (xlo b0) (xhi b0) ((32 : Int32) - a4)))) (0 : Int32).toInt.toNat (Value.int (xbf 2 (xlo b0) (xhi b0) ((0 : Int32) - a4)))))).set h1 (Sum.inr (3, [Value.ref h2, Value.int 2]))).set 78 (Sum.inr (1, [Value.int (-16384), Value.int 16384, Value.int 0, Value.int 4]))).set h0 (Sum.inr (2, [Value.int 64, Value.int 3, Value.int 0, Value.int (-16384), Value.ref h1]))).set h2 (Sum.inl (0, 8, xup (xup (xup (xup (xup (fun _ => Value.int 0) (1 : Int32).toInt.toNat (Value.int (xbf 2 (xlo b0) (xhi b0) ((32 : Int32) - a4)))) (0 : Int32).toInt.toNat (Value.int (xbf 2 (xlo b0) (xhi b0) ((0 : Int32) - a4)))) (0 : Int32).toInt.toNat (Value.int 0)) (1 : Int32).toInt.toNat (Value.int 0)) (1 : Int32).toInt.toNat (Value.int (-2147483648))))).set h1 (Sum.inr (3, [Value.ref h2, Value.int 2]))).set 78 (Sum.inr (1, [Value.int (-16384), Value.int 16384, Value.int 0, Value.int 5]))) := by
  refine xRun.of ?_
  refine i_21_0 (x := a0) rfl ?_
  refine i_21_1 (Nat.le_of_ble_eq_true rfl) (s_15_0 e0 e1) ?_
  refine i_21_4 (fun h => absurd h (by decide)) (fun _ => ?_)
  refine i_21_7 (x := a1) rfl ?_
  refine i_21_9 ?_
  refine i_21_11 (fun h => absurd e2 (Int.not_le.mpr h)) (fun _ => ?_)
  refine i_21_14 (x := a1) rfl ?_
  refine i_21_16 ?_
  refine i_21_18 (fun h => absurd e3 (Int.not_le.mpr h)) (fun _ => ?_)
  refine i_21_21 (x := a2) rfl ?_
  refine i_21_23 (Nat.le_of_ble_eq_true rfl) (s_22_0 e4 e5) ?_
  refine i_21_26 (fun _ => ?_) (fun h => absurd h (by decide))
  refine i_21_37 (x := 7) rfl ?_
  refine i_21_38 (v := Value.ref 8) hw6 rfl ?_
  refine i_21_41 (x := a0) rfl ?_
  refine i_21_42 (v := Value.ref h0) hw7 e0 e1 hg8 ?_
  refine i_21_43 (lv2 := [(6, Value.ref h0), (0, Value.ref 7), (1, Value.int a0), (2, Value.long b0), (4, Value.int a1), (5, Value.int a2)]) rfl ?_
  refine i_21_45 (x := b0) rfl ?_
  refine i_21_46 ?_
  refine i_21_47 (c := (lg_cmp b0 (0 : Int64))) rfl ?_
  refine i_21_48 (fun _ => ?_) (fun h => absurd e9 (fun g => g h))
  refine i_21_58 (x := 7) rfl ?_
  refine i_21_59 (v := Value.ref 16) hw6 rfl ?_
  refine i_21_62 (x := b0) rfl ?_
  refine i_21_63 ?_
  refine i_21_64 (c := (lg_cmp b0 (0 : Int64))) rfl ?_
  refine i_21_65 (fun _ => ?_) (fun h => absurd e10 (Int.not_le.mpr h))
  refine i_21_72 ?_
  refine i_21_73 (x := b0) rfl ?_
  refine i_21_74 ?_
  refine i_21_75 (c := (lg_cmp b0 (0 : Int64))) rfl ?_
  refine i_21_76 (fun _ => ?_) (fun h => absurd e10 (Int.not_le.mpr h))
  refine i_21_84 (x := b0) rfl ?_
  refine i_21_85 (x := a1) rfl ?_
  refine i_21_87 hw11 (Nat.le_of_ble_eq_true rfl) (s_24_1 hw11 hw12 hw13 e14) ?_
  refine i_21_90 (x := 7) rfl ?_
  refine i_21_91 (v := Value.ref 78) (xgn (by decide) (xgn (by decide) (xgn (by decide) (xgn (by decide) hw6)))) rfl ?_
  refine i_21_94 (x := h0) rfl ?_
  refine i_21_96 (x := 7) rfl ?_
  refine i_21_97 (v := Value.ref 16) (xgn (by decide) (xgn (by decide) (xgn (by decide) (xgn (by decide) hw6)))) rfl ?_
  refine i_21_100 (x := a2) rfl ?_
  refine i_21_102 (xgn (by decide) (xgn (by decide) (xgn (by decide) (xgn (by decide) hw15)))) (Nat.le_of_ble_eq_true rfl) (s_27_19 (xgs (xgn (by decide) (xgn (by decide) (xgs hw11)))) (xgn (by decide) (xgs (xgn (by decide) (xgn (by decide) hw12)))) (xgn (by decide) (xgn (by decide) (xgs (xgn (by decide) hw13)))) xup_s hg16 (xgn e17 (xgn e18 (xgn e19 (xgn e17 hw20)))) (xgn (by decide) (xgn (by decide) (xgn (by decide) (xgn (by decide) hw15)))) e21 hg22 e23 e24 e25 e26 hg27 e28 (xgn e29 (xgn e30 (xgn e31 (xgn e29 hw32)))) hg33 e34 (xgn e35 (xgn e36 (xgn e37 (xgn e35 hw38)))) e39 (xup_n (by decide) xup_s) e40 e41 e42 e43 e44 e45 e46 e47 e48 e49 e50 e51 e52 e53 e54 e55 e56 e57 e58 e59 e60 e61) ?_
  exact i_21_105 ⟨rfl, rfl⟩
theorem s_20_19 {d : Nat} {w : xW} {a0 : Int32} {b0 : Int64} {a1 : Int32} {a2 : Int32} {g0 : Nat → Value} {h0 : Nat} {a3 : Int32} {h1 : Nat} {a4 : Int32} {h2 : Nat} (hw0 : w[7]? = some (Sum.inr (0, [Value.ref 8, Value.ref 78, Value.ref 9, Value.ref 10, Value.ref 13, Value.ref 16, Value.ref 19, Value.ref 93, Value.ref 108, Value.ref 113, Value.ref 29, Value.int 0]))) (e1 : 0 ≤ a0.toInt) (e2 : a0.toInt < 16) (e3 : (-40000) ≤ a1.toInt) (e4 : a1.toInt ≤ 40000) (e5 : 0 ≤ a2.toInt) (e6 : a2.toInt ≤ 4) (hw7 : w[8]? = some (Sum.inl (4, 16, g0))) (hg8 : g0 a0.toInt.toNat = Value.ref h0) (e9 : (lg_cmp b0 (0 : Int64)).toInt ≠ 0) (e10 : 0 ≤ (lg_cmp b0 (0 : Int64)).toInt) (hw11 : w[16]? = some (Sum.inr (4, [Value.int 0, Value.ref 17, Value.int 0, Value.int 0]))) (hw12 : w[17]? = some (Sum.inr (3, [Value.ref 18, Value.int 0]))) (hw13 : w[18]? = some (Sum.inl (0, 8, fun _ => Value.int 0))) (e14 : (xhi b0).toInt ≠ 0) (hw15 : w[78]? = some (Sum.inr (1, [Value.int (-16384), Value.int 16384, Value.int 0, Value.int 0]))) (hg16 : ((64 : Int32) - (xnlz (xhi b0))) = a3) (e17 : 16 ≠ h0) (e18 : 17 ≠ h0) (e19 : 18 ≠ h0) (hw20 : w[h0]? = some (Sum.inr (2, [Value.int 64, Value.int 0, Value.int 0, Value.int 0, Value.ref h1]))) (e21 : (((a3 + a1) - (64 : Int32)) - a1).toInt ≤ 0) (hg22 : ((a3 + a1) - ((a3 + a1) - (64 : Int32))) = 64) (e23 : 7 ≤ h0) (e24 : h0 ≠ 16) (e25 : h0 ≠ 17) (e26 : h0 ≠ 18) (hg27 : ((64 : Int32) - a3) = a4) (e28 : h0 ≠ h1) (e29 : 16 ≠ h1) (e30 : 17 ≠ h1) (e31 : 18 ≠ h1) (hw32 : w[h1]? = some (Sum.inr (3, [Value.ref h2, Value.int 0]))) (hg33 : (a3 + a4) = 64) (e34 : h0 ≠ h2) (e35 : 16 ≠ h2) (e36 : 17 ≠ h2) (e37 : 18 ≠ h2) (hw38 : w[h2]? = some (Sum.inl (0, 8, fun _ => Value.int 0))) (e39 : 0 ≤ a4.toInt) (e40 : 7 ≤ h2) (e41 : h2 ≠ h1) (e42 : h2 ≠ 17) (e43 : h2 ≠ 18) (e44 : 7 ≤ h1) (e45 : h1 ≠ h0) (e46 : h2 ≠ h0) (e47 : h1 ≠ h2) (e48 : (xbf 2 (xlo b0) (xhi b0) ((32 : Int32) - a4)).toInt ≠ 0) (e49 : ((64 : Int32) - (xnlz (xbf 2 (xlo b0) (xhi b0) ((32 : Int32) - a4)))).toInt ≤ 64) (e50 : h1 ≠ 78) (e51 : h2 ≠ 78) (e52 : h0 ≠ 78) (e53 : (a3 + a1).toInt ≤ 16384) (e54 : (a3 + a1).toInt < (-16384)) (e55 : h1 ≠ 16) (e56 : h2 ≠ 16) (e57 : a2.toInt = 4) (e58 : a2.toInt ≠ 0) (e59 : 78 ≠ h0) (e60 : 78 ≠ h1) (e61 : 78 ≠ h2) (e62 : h1 ≠ 194) (e63 : h2 ≠ 194) (e64 : h0 ≠ 194) (hw65 : w[194]? = some (Sum.inl (3, 1, fun _ => Value.long 0))) : xRun (d + 7) 20 [Value.ref 7, Value.int a0, Value.long b0, Value.int a1, Value.int a2, Value.ref 194] w (.inl (some (Value.int 0))) (((((((((((((w.set 16 (Sum.inr (4, [Value.int 0, Value.ref 17, Value.int 0, Value.int 0]))).set 18 (Sum.inl (0, 8, xup (xup (fun _ => Value.int 0) (0 : Int32).toInt.toNat (Value.int (xlo b0))) (1 : Int32).toInt.toNat (Value.int (xhi b0))))).set 17 (Sum.inr (3, [Value.ref 18, Value.int 2]))).set 16 (Sum.inr (4, [Value.int 0, Value.ref 17, Value.int a1, Value.int 0]))).set h0 (Sum.inr (2, [Value.int 64, Value.int 3, Value.int 0, Value.int (a3 + a1), Value.ref h1]))).set h2 (Sum.inl (0, 8, xup (xup (fun _ => Value.int 0) (1 : Int32).toInt.toNat (Value.int (xbf 2 (xlo b0) (xhi b0) ((32 : Int32) - a4)))) (0 : Int32).toInt.toNat (Value.int (xbf 2 (xlo b0) (xhi b0) ((0 : Int32) - a4)))))).set h1 (Sum.inr (3, [Value.ref h2, Value.int 2]))).set 78 (Sum.inr (1, [Value.int (-16384), Value.int 16384, Value.int 0, Value.int 4]))).set h0 (Sum.inr (2, [Value.int 64, Value.int 3, Value.int 0, Value.int (-16384), Value.ref h1]))).set h2 (Sum.inl (0, 8, xup (xup (xup (xup (xup (fun _ => Value.int 0) (1 : Int32).toInt.toNat (Value.int (xbf 2 (xlo b0) (xhi b0) ((32 : Int32) - a4)))) (0 : Int32).toInt.toNat (Value.int (xbf 2 (xlo b0) (xhi b0) ((0 : Int32) - a4)))) (0 : Int32).toInt.toNat (Value.int 0)) (1 : Int32).toInt.toNat (Value.int 0)) (1 : Int32).toInt.toNat (Value.int (-2147483648))))).set h1 (Sum.inr (3, [Value.ref h2, Value.int 2]))).set 78 (Sum.inr (1, [Value.int (-16384), Value.int 16384, Value.int 0, Value.int 5]))).set 194 (Sum.inl (3, 1, xup (fun _ => Value.long 0) (0 : Int32).toInt.toNat (Value.long 1)))) := by
  refine xRun.of ?_
  refine i_20_0 (x := 194) rfl ?_
  refine i_20_2 ?_
  refine i_20_3 (x := 7) rfl ?_
  refine i_20_4 (x := a0) rfl ?_
  refine i_20_5 (x := b0) rfl ?_
  refine i_20_6 (x := a1) rfl ?_
  refine i_20_8 (x := a2) rfl ?_
  refine i_20_10 hw0 (Nat.le_of_ble_eq_true rfl) (s_21_19 e1 e2 e3 e4 e5 e6 hw0 hw7 hg8 e9 e10 hw11 hw12 hw13 e14 hw15 hg16 e17 e18 e19 hw20 e21 hg22 e23 e24 e25 e26 hg27 e28 e29 e30 e31 hw32 hg33 e34 e35 e36 e37 hw38 e39 e40 e41 e42 e43 e44 e45 e46 e47 e48 e49 e50 e51 e52 e53 e54 e55 e56 e57 e58 e59 e60 e61) ?_
  refine i_20_13 (c := 1) (by decide) ?_
  refine i_20_14 (v := Value.long 1) (xgn (by decide) (xgn e62 (xgn e63 (xgn e64 (xgn (by decide) (xgn e62 (xgn e63 (xgn e64 (xgn (by decide) (xgn (by decide) (xgn (by decide) (xgn (by decide) hw65)))))))))))) (by decide) (by decide) (by decide) rfl ?_
  refine i_20_15 ?_
  refine i_20_22 ?_
  exact i_20_23 ⟨rfl, rfl⟩
theorem cn3_0_19 {d : Nat} {xs : Nat → Int32} {B K : Int32} (c0 : 0 ≤ (xs 1).toInt) (c1 : (xs 1).toInt < 16) (c2 : (-40000) ≤ (xs 4).toInt) (c3 : (xs 4).toInt ≤ 40000) (c4 : 0 ≤ (xs 5).toInt) (c5 : (xs 5).toInt ≤ 4) (c6 : (lg_cmp (xvv xs) (0 : Int64)).toInt ≠ 0) (c7 : 0 ≤ (lg_cmp (xvv xs) (0 : Int64)).toInt) (c8 : K.toInt = 64 - B.toInt) (c9 : 33 ≤ B.toInt) (c10 : B.toInt ≤ 64) (c11 : (xhi (xvv xs)).toInt ≠ 0) (c12 : (xnlz (xhi (xvv xs))).toInt = 64 - B.toInt) (c13 : (xbf 2 (xlo (xvv xs)) (xhi (xvv xs)) ((32 : Int32) - K)).toInt ≠ 0) (c14 : (B + (xs 4)).toInt ≤ 16384) (c15 : (B + (xs 4)).toInt < (-16384)) (c16 : (xs 5).toInt = 4) : ∃ w1, xRun (d + 18) 20 [Value.ref 7, Value.int (xs 1), Value.long (xvv xs), Value.int (xs 4), Value.int (xs 5), Value.ref 194] (W0 6 xs) (.inl (some (Value.int 0))) w1 ∧ xKp (W0 6 xs) w1 xPC ∧ w1[194]? = some (Sum.inl (3, 1, xup (fun _ => Value.long 0) (0 : Int32).toInt.toNat (Value.long 1))) := by
  have f0 : ((64 : Int32) - (xnlz (xhi (xvv xs)))).toInt = 64 - (xnlz (xhi (xvv xs))).toInt := xsub_g rfl rfl (by omega) (by omega)
  have f1 : (B + (xs 4)).toInt = B.toInt + (xs 4).toInt := xadd_i (by omega) (by omega)
  have f2 : ((B + (xs 4)) - (64 : Int32)).toInt = (B + (xs 4)).toInt - 64 := xsub_g rfl rfl (by omega) (by omega)
  have f3 : (((B + (xs 4)) - (64 : Int32)) - (xs 4)).toInt = ((B + (xs 4)) - (64 : Int32)).toInt - (xs 4).toInt := xsub_i (by omega) (by omega)
  have f4 : ((B + (xs 4)) - ((B + (xs 4)) - (64 : Int32))).toInt = (B + (xs 4)).toInt - ((B + (xs 4)) - (64 : Int32)).toInt := xsub_i (by omega) (by omega)
  have f5 : ((64 : Int32) - B).toInt = 64 - B.toInt := xsub_g rfl rfl (by omega) (by omega)
  have f6 : (B + K).toInt = B.toInt + K.toInt := xadd_i (by omega) (by omega)
  have f7 : 0 ≤ (xnlz (xbf 2 (xlo (xvv xs)) (xhi (xvv xs)) ((32 : Int32) - K))).toInt := (xnlz_b _).1
  have f8 : (xnlz (xbf 2 (xlo (xvv xs)) (xhi (xvv xs)) ((32 : Int32) - K))).toInt ≤ 32 := (xnlz_b _).2
  have f9 : ((64 : Int32) - (xnlz (xbf 2 (xlo (xvv xs)) (xhi (xvv xs)) ((32 : Int32) - K)))).toInt = 64 - (xnlz (xbf 2 (xlo (xvv xs)) (xhi (xvv xs)) ((32 : Int32) - K))).toInt := xsub_g rfl rfl (by omega) (by omega)
  refine ⟨((((((((((((((W0 6 xs).set 16 (Sum.inr (4, [Value.int 0, Value.ref 17, Value.int 0, Value.int 0]))).set 18 (Sum.inl (0, 8, xup (xup (fun _ => Value.int 0) (0 : Int32).toInt.toNat (Value.int (xlo (xvv xs)))) (1 : Int32).toInt.toNat (Value.int (xhi (xvv xs)))))).set 17 (Sum.inr (3, [Value.ref 18, Value.int 2]))).set 16 (Sum.inr (4, [Value.int 0, Value.ref 17, Value.int (xs 4), Value.int 0]))).set (30 + 3 * (xs 1).toInt.toNat) (Sum.inr (2, [Value.int 64, Value.int 3, Value.int 0, Value.int (B + (xs 4)), Value.ref (31 + 3 * (xs 1).toInt.toNat)]))).set (32 + 3 * (xs 1).toInt.toNat) (Sum.inl (0, 8, xup (xup (fun _ => Value.int 0) (1 : Int32).toInt.toNat (Value.int (xbf 2 (xlo (xvv xs)) (xhi (xvv xs)) ((32 : Int32) - K)))) (0 : Int32).toInt.toNat (Value.int (xbf 2 (xlo (xvv xs)) (xhi (xvv xs)) ((0 : Int32) - K)))))).set (31 + 3 * (xs 1).toInt.toNat) (Sum.inr (3, [Value.ref (32 + 3 * (xs 1).toInt.toNat), Value.int 2]))).set 78 (Sum.inr (1, [Value.int (-16384), Value.int 16384, Value.int 0, Value.int 4]))).set (30 + 3 * (xs 1).toInt.toNat) (Sum.inr (2, [Value.int 64, Value.int 3, Value.int 0, Value.int (-16384), Value.ref (31 + 3 * (xs 1).toInt.toNat)]))).set (32 + 3 * (xs 1).toInt.toNat) (Sum.inl (0, 8, xup (xup (xup (xup (xup (fun _ => Value.int 0) (1 : Int32).toInt.toNat (Value.int (xbf 2 (xlo (xvv xs)) (xhi (xvv xs)) ((32 : Int32) - K)))) (0 : Int32).toInt.toNat (Value.int (xbf 2 (xlo (xvv xs)) (xhi (xvv xs)) ((0 : Int32) - K)))) (0 : Int32).toInt.toNat (Value.int 0)) (1 : Int32).toInt.toNat (Value.int 0)) (1 : Int32).toInt.toNat (Value.int (-2147483648))))).set (31 + 3 * (xs 1).toInt.toNat) (Sum.inr (3, [Value.ref (32 + 3 * (xs 1).toInt.toNat), Value.int 2]))).set 78 (Sum.inr (1, [Value.int (-16384), Value.int 16384, Value.int 0, Value.int 5]))).set 194 (Sum.inl (3, 1, xup (fun _ => Value.long 0) (0 : Int32).toInt.toNat (Value.long 1)))), (s_20_19 W0_7 (by omega) (by omega) (by omega) (by omega) (by omega) (by omega) W0_8 (greg_at (by omega)) (by omega) (by omega) W0_16 W0_17 W0_18 (by omega) W0_78 (show ((64 : Int32) - (xnlz (xhi (xvv xs)))) = B from (xge_i (by omega))) (by omega) (by omega) (by omega) (W0_reg (by omega)) (by omega) (show ((B + (xs 4)) - ((B + (xs 4)) - (64 : Int32))) = 64 from (xge_c (n := 64) (by omega) rfl)) (by omega) (by omega) (by omega) (by omega) (show ((64 : Int32) - B) = K from (xge_i (by omega))) (by omega) (by omega) (by omega) (by omega) (W0_man (by omega)) (show (B + K) = 64 from (xge_c (n := 64) (by omega) rfl)) (by omega) (by omega) (by omega) (by omega) (W0_mw (by omega)) (by omega) (by omega) (by omega) (by omega) (by omega) (by omega) (by omega) (by omega) (by omega) (by omega) (by omega) (by omega) (by omega) (by omega) (by omega) (by omega) (by omega) (by omega) (by omega) (by omega) (by omega) (by omega) (by omega) (by omega) (by omega) (by omega) W0_194), ?_, xgs (xgn (by decide) (xgn (by omega) (xgn (by omega) (xgn (by omega) (xgn (by decide) (xgn (by omega) (xgn (by omega) (xgn (by omega) (xgn (by decide) (xgn (by decide) (xgn (by decide) (xgn (by decide) W0_194))))))))))))⟩
  refine xKp.set ?_ (fun h hh => by unfold xPC at hh; omega) (xgn (by decide) (xgn (by omega) (xgn (by omega) (xgn (by omega) (xgn (by decide) (xgn (by omega) (xgn (by omega) (xgn (by omega) (xgn (by decide) (xgn (by decide) (xgn (by decide) (xgn (by decide) W0_194)))))))))))) xcs_a
  refine xKp.set ?_ (fun h hh => by unfold xPC at hh; omega) (xgn (by omega) (xgn (by omega) (xgn (by omega) (xgs (xgn (by omega) (xgn (by omega) (xgn (by omega) (xgn (by decide) (xgn (by decide) (xgn (by decide) (xgn (by decide) W0_78))))))))))) xcs_o
  refine xKp.set ?_ (fun h hh => by unfold xPC at hh; omega) (xgn (by omega) (xgn (by omega) (xgn (by omega) (xgs (xgn (by omega) (xgn (by omega) (xgn (by omega) (xgn (by omega) (xgn (by omega) (xgn (by omega) (W0_man (by omega)))))))))))) xcs_o
  refine xKp.set ?_ (fun h hh => by unfold xPC at hh; omega) (xgn (by omega) (xgn (by omega) (xgn (by omega) (xgs (xgn (by omega) (xgn (by omega) (xgn (by omega) (xgn (by omega) (xgn (by omega) (W0_mw (by omega))))))))))) xcs_a
  refine xKp.set ?_ (fun h hh => by unfold xPC at hh; omega) (xgn (by omega) (xgn (by omega) (xgn (by omega) (xgs (xgn (by omega) (xgn (by omega) (xgn (by omega) (xgn (by omega) (W0_reg (by omega)))))))))) xcs_o
  refine xKp.set ?_ (fun h hh => by unfold xPC at hh; omega) (xgn (by omega) (xgn (by omega) (xgn (by omega) (xgn (by decide) (xgn (by decide) (xgn (by decide) (xgn (by decide) W0_78))))))) xcs_o
  refine xKp.set ?_ (fun h hh => by unfold xPC at hh; omega) (xgn (by omega) (xgn (by omega) (xgn (by omega) (xgn (by omega) (xgn (by omega) (xgn (by omega) (W0_man (by omega)))))))) xcs_o
  refine xKp.set ?_ (fun h hh => by unfold xPC at hh; omega) (xgn (by omega) (xgn (by omega) (xgn (by omega) (xgn (by omega) (xgn (by omega) (W0_mw (by omega))))))) xcs_a
  refine xKp.set ?_ (fun h hh => by unfold xPC at hh; omega) (xgn (by omega) (xgn (by omega) (xgn (by omega) (xgn (by omega) (W0_reg (by omega)))))) xcs_o
  refine xKp.set ?_ (fun h hh => by unfold xPC at hh; omega) (xgn (by decide) (xgn (by decide) (xgs W0_16))) xcs_o
  refine xKp.set ?_ (fun h hh => by unfold xPC at hh; omega) (xgn (by decide) (xgn (by decide) W0_17)) xcs_o
  refine xKp.set ?_ (fun h hh => by unfold xPC at hh; omega) (xgn (by decide) W0_18) xcs_a
  refine xKp.set ?_ (fun h hh => by unfold xPC at hh; omega) (W0_16) xcs_o
  exact xKp.refl
theorem s_27_20 {d : Nat} {w : xW} {h0 : Nat} {a0 : Int32} {a1 : Int32} {g0 : Nat → Value} {a2 : Int32} {a3 : Int32} {h1 : Nat} {a4 : Int32} {h2 : Nat} {a5 : Int32} (hw0 : w[16]? = some (Sum.inr (4, [Value.int 0, Value.ref 17, Value.int a1, Value.int 0]))) (hw1 : w[17]? = some (Sum.inr (3, [Value.ref 18, Value.int 2]))) (hw2 : w[18]? = some (Sum.inl (0, 8, g0))) (hg3 : g0 (1 : Int32).toInt.toNat = Value.int a2) (hg4 : ((64 : Int32) - (xnlz a2)) = a3) (hw5 : w[h0]? = some (Sum.inr (2, [Value.int 64, Value.int 0, Value.int 0, Value.int 0, Value.ref h1]))) (hw6 : w[78]? = some (Sum.inr (1, [Value.int (-16384), Value.int 16384, Value.int 0, Value.int 0]))) (e7 : (((a3 + a1) - (64 : Int32)) - a1).toInt ≤ 0) (hg8 : ((a3 + a1) - ((a3 + a1) - (64 : Int32))) = 64) (e9 : 7 ≤ h0) (e10 : h0 ≠ 16) (e11 : h0 ≠ 17) (e12 : h0 ≠ 18) (hg13 : ((64 : Int32) - a3) = a4) (e14 : h0 ≠ h1) (hw15 : w[h1]? = some (Sum.inr (3, [Value.ref h2, Value.int 0]))) (hg16 : (a3 + a4) = 64) (e17 : h0 ≠ h2) (hw18 : w[h2]? = some (Sum.inl (0, 8, fun _ => Value.int 0))) (e19 : 0 ≤ a4.toInt) (hg20 : g0 (0 : Int32).toInt.toNat = Value.int a5) (e21 : 7 ≤ h2) (e22 : h2 ≠ h1) (e23 : h2 ≠ 17) (e24 : h2 ≠ 18) (e25 : 7 ≤ h1) (e26 : h1 ≠ h0) (e27 : h2 ≠ h0) (e28 : h1 ≠ h2) (e29 : (xbf 2 a5 a2 ((32 : Int32) - a4)).toInt ≠ 0) (e30 : ((64 : Int32) - (xnlz (xbf 2 a5 a2 ((32 : Int32) - a4)))).toInt ≤ 64) (e31 : h1 ≠ 78) (e32 : h2 ≠ 78) (e33 : h0 ≠ 78) (e34 : (a3 + a1).toInt ≤ 16384) (e35 : (a3 + a1).toInt < (-16384)) (e36 : h1 ≠ 16) (e37 : h2 ≠ 16) (e38 : a0.toInt ≠ 4) (e39 : a0.toInt = 2) (e40 : a0.toInt ≠ 0) (e41 : 78 ≠ h0) (e42 : 78 ≠ h1) (e43 : 78 ≠ h2) : xRun (d + 5) 27 [Value.ref 78, Value.ref h0, Value.ref 16, Value.int a0] w (.inl (some (Value.int 1))) ((((((((w.set h0 (Sum.inr (2, [Value.int 64, Value.int 3, Value.int 0, Value.int (a3 + a1), Value.ref h1]))).set h2 (Sum.inl (0, 8, xup (xup (fun _ => Value.int 0) (1 : Int32).toInt.toNat (Value.int (xbf 2 a5 a2 ((32 : Int32) - a4)))) (0 : Int32).toInt.toNat (Value.int (xbf 2 a5 a2 ((0 : Int32) - a4)))))).set h1 (Sum.inr (3, [Value.ref h2, Value.int 2]))).set 78 (Sum.inr (1, [Value.int (-16384), Value.int 16384, Value.int 0, Value.int 4]))).set h0 (Sum.inr (2, [Value.int 64, Value.int 3, Value.int 0, Value.int (-16384), Value.ref h1]))).set h2 (Sum.inl (0, 8, xup (xup (xup (xup (xup (fun _ => Value.int 0) (1 : Int32).toInt.toNat (Value.int (xbf 2 a5 a2 ((32 : Int32) - a4)))) (0 : Int32).toInt.toNat (Value.int (xbf 2 a5 a2 ((0 : Int32) - a4)))) (0 : Int32).toInt.toNat (Value.int 0)) (1 : Int32).toInt.toNat (Value.int 0)) (1 : Int32).toInt.toNat (Value.int (-2147483648))))).set h1 (Sum.inr (3, [Value.ref h2, Value.int 2]))).set 78 (Sum.inr (1, [Value.int (-16384), Value.int 16384, Value.int 0, Value.int 5]))) := by
  refine xRun.of ?_
  refine i_27_0 (x := 16) rfl ?_
  refine i_27_1 hw0 (Nat.le_of_ble_eq_true rfl) (s_28_1 hw0 hw1 hw2 hg3 hg4) ?_
  refine i_27_4 (lv2 := [(4, Value.int (a3 + a1)), (0, Value.ref 78), (1, Value.ref h0), (2, Value.ref 16), (3, Value.int a0)]) rfl ?_
  refine i_27_6 (x := 78) rfl ?_
  refine i_27_7 (x := (a3 + a1)) rfl ?_
  refine i_27_9 (x := h0) rfl ?_
  refine i_27_10 (v := Value.int 64) hw5 rfl ?_
  refine i_27_13 hw6 (Nat.le_of_ble_eq_true rfl) (s_30_0 hw6) ?_
  refine i_27_16 (lv2 := [(5, Value.int ((a3 + a1) - (64 : Int32))), (4, Value.int (a3 + a1)), (0, Value.ref 78), (1, Value.ref h0), (2, Value.ref 16), (3, Value.int a0)]) rfl ?_
  refine i_27_18 (x := 16) rfl ?_
  refine i_27_19 (x := ((a3 + a1) - (64 : Int32))) rfl ?_
  refine i_27_21 (x := a0) rfl ?_
  refine i_27_22 hw0 (Nat.le_of_ble_eq_true rfl) (s_31_1 hw0 hw1 e7) ?_
  refine i_27_25 (lv2 := [(6, Value.int 0), (5, Value.int ((a3 + a1) - (64 : Int32))), (4, Value.int (a3 + a1)), (0, Value.ref 78), (1, Value.ref h0), (2, Value.ref 16), (3, Value.int a0)]) rfl ?_
  refine i_27_27 (x := 16) rfl ?_
  refine i_27_28 (x := ((a3 + a1) - (64 : Int32))) rfl ?_
  refine i_27_30 hw0 (Nat.le_of_ble_eq_true rfl) (s_32_1 hw0 hw1 e7) ?_
  refine i_27_33 (fun h => absurd h (by decide)) (fun _ => ?_)
  refine i_27_36 ?_
  refine i_27_37 ?_
  refine i_27_50 (lv2 := [(7, Value.int 0), (6, Value.int 0), (5, Value.int ((a3 + a1) - (64 : Int32))), (4, Value.int (a3 + a1)), (0, Value.ref 78), (1, Value.ref h0), (2, Value.ref 16), (3, Value.int a0)]) rfl ?_
  refine i_27_52 (x := h0) rfl ?_
  refine i_27_53 (x := 16) rfl ?_
  refine i_27_54 (x := ((a3 + a1) - (64 : Int32))) rfl ?_
  refine i_27_56 (x := 0) rfl ?_
  refine i_27_58 hw5 (Nat.le_of_ble_eq_true rfl) (s_38_1 hw0 hw1 hw2 hg3 hg4 hg8 hw5 e9 e10 e11 e12 hg13 e14 hw15 hg16 e17 hw18 e19 hg20 e21 e22 e23 e24 e25 e26 e27 e28 e29 e30) ?_
  refine i_27_61 (x := h0) rfl ?_
  refine i_27_62 (v := Value.int 3) (xgn e26 (xgn e27 (xgs hw5))) rfl ?_
  refine i_27_65 ?_
  refine i_27_66 (fun h => absurd h (by decide)) (fun _ => ?_)
  refine i_27_69 (x := h0) rfl ?_
  refine i_27_70 (v := Value.int (a3 + a1)) (xgn e26 (xgn e27 (xgs hw5))) rfl ?_
  refine i_27_73 (x := 78) rfl ?_
  refine i_27_74 (v := Value.int 16384) (xgn e31 (xgn e32 (xgn e33 hw6))) rfl ?_
  refine i_27_77 (fun _ => ?_) (fun h => absurd e34 (Int.not_le.mpr h))
  refine i_27_95 (x := h0) rfl ?_
  refine i_27_96 (v := Value.int 3) (xgn e26 (xgn e27 (xgs hw5))) rfl ?_
  refine i_27_99 ?_
  refine i_27_100 (fun h => absurd h (by decide)) (fun _ => ?_)
  refine i_27_103 (x := 78) rfl ?_
  refine i_27_104 (v := Value.int 0) (xgn e31 (xgn e32 (xgn e33 hw6))) rfl ?_
  refine i_27_107 (fun h => absurd h (by decide)) (fun _ => ?_)
  refine i_27_110 (x := h0) rfl ?_
  refine i_27_111 (v := Value.int (a3 + a1)) (xgn e26 (xgn e27 (xgs hw5))) rfl ?_
  refine i_27_114 (x := 78) rfl ?_
  refine i_27_115 (v := Value.int (-16384)) (xgn e31 (xgn e32 (xgn e33 hw6))) rfl ?_
  refine i_27_118 (fun h => absurd e35 (Int.not_lt.mpr h)) (fun _ => ?_)
  refine i_27_121 (x := 78) rfl ?_
  refine i_27_122 (x := h0) rfl ?_
  refine i_27_123 (x := 16) rfl ?_
  refine i_27_124 (x := a0) rfl ?_
  refine i_27_125 (xgn e31 (xgn e32 (xgn e33 hw6))) (Nat.le_of_ble_eq_true rfl) (s_50_1 (xgn e31 (xgn e32 (xgn e33 hw6))) (xgn e36 (xgn e37 (xgn e10 hw0))) e38 e39 e40 e41 (xgn e26 (xgn e27 (xgs hw5))) e9 e14 e42 (xgs (xgn e22 (xgn e14 hw15))) e17 e43 (xgn e28 (xgs (xgn e17 hw18))) e21 e22 e25) ?_
  refine i_27_128 (lv2 := [(7, Value.int 1), (6, Value.int 0), (5, Value.int ((a3 + a1) - (64 : Int32))), (4, Value.int (a3 + a1)), (0, Value.ref 78), (1, Value.ref h0), (2, Value.ref 16), (3, Value.int a0)]) rfl ?_
  refine i_27_130 ?_
  refine i_27_164 (x := 1) rfl ?_
  refine i_27_166 (fun h => absurd h (by decide)) (fun _ => ?_)
  refine i_27_169 (x := 78) rfl ?_
  refine i_27_170 rfl ?_
  refine i_27_171 (v := Value.int 4) (xgn e31 (xgn e32 (xgn e33 (xgs (xgn e31 (xgn e32 (xgn e33 hw6))))))) rfl ?_
  refine i_27_174 ?_
  refine i_27_175 (c := 5) (by decide) ?_
  refine i_27_176 (fs2 := [Value.int (-16384), Value.int 16384, Value.int 0, Value.int 5]) (xgn e31 (xgn e32 (xgn e33 (xgs (xgn e31 (xgn e32 (xgn e33 hw6))))))) (Nat.le_of_ble_eq_true rfl) rfl (by decide) ?_
  refine i_27_179 (x := 16) rfl ?_
  refine i_27_180 (v := Value.int 0) (xgn (by decide) (xgn e36 (xgn e37 (xgn e10 (xgn (by decide) (xgn e36 (xgn e37 (xgn e10 hw0)))))))) rfl ?_
  refine i_27_183 (fun _ => ?_) (fun h => absurd h (by decide))
  refine i_27_192 (x := 1) rfl ?_
  exact i_27_194 ⟨rfl, rfl⟩
theorem s_21_20 {d : Nat} {w : xW} {a0 : Int32} {b0 : Int64} {a1 : Int32} {a2 : Int32} {g0 : Nat → Value} {h0 : Nat} {a3 : Int32} {h1 : Nat} {a4 : Int32} {h2 : Nat} (e0 : 0 ≤ a0.toInt) (e1 : a0.toInt < 16) (e2 : (-40000) ≤ a1.toInt) (e3 : a1.toInt ≤ 40000) (e4 : 0 ≤ a2.toInt) (e5 : a2.toInt ≤ 4) (hw6 : w[7]? = some (Sum.inr (0, [Value.ref 8, Value.ref 78, Value.ref 9, Value.ref 10, Value.ref 13, Value.ref 16, Value.ref 19, Value.ref 93, Value.ref 108, Value.ref 113, Value.ref 29, Value.int 0]))) (hw7 : w[8]? = some (Sum.inl (4, 16, g0))) (hg8 : g0 a0.toInt.toNat = Value.ref h0) (e9 : (lg_cmp b0 (0 : Int64)).toInt ≠ 0) (e10 : 0 ≤ (lg_cmp b0 (0 : Int64)).toInt) (hw11 : w[16]? = some (Sum.inr (4, [Value.int 0, Value.ref 17, Value.int 0, Value.int 0]))) (hw12 : w[17]? = some (Sum.inr (3, [Value.ref 18, Value.int 0]))) (hw13 : w[18]? = some (Sum.inl (0, 8, fun _ => Value.int 0))) (e14 : (xhi b0).toInt ≠ 0) (hw15 : w[78]? = some (Sum.inr (1, [Value.int (-16384), Value.int 16384, Value.int 0, Value.int 0]))) (hg16 : ((64 : Int32) - (xnlz (xhi b0))) = a3) (e17 : 16 ≠ h0) (e18 : 17 ≠ h0) (e19 : 18 ≠ h0) (hw20 : w[h0]? = some (Sum.inr (2, [Value.int 64, Value.int 0, Value.int 0, Value.int 0, Value.ref h1]))) (e21 : (((a3 + a1) - (64 : Int32)) - a1).toInt ≤ 0) (hg22 : ((a3 + a1) - ((a3 + a1) - (64 : Int32))) = 64) (e23 : 7 ≤ h0) (e24 : h0 ≠ 16) (e25 : h0 ≠ 17) (e26 : h0 ≠ 18) (hg27 : ((64 : Int32) - a3) = a4) (e28 : h0 ≠ h1) (e29 : 16 ≠ h1) (e30 : 17 ≠ h1) (e31 : 18 ≠ h1) (hw32 : w[h1]? = some (Sum.inr (3, [Value.ref h2, Value.int 0]))) (hg33 : (a3 + a4) = 64) (e34 : h0 ≠ h2) (e35 : 16 ≠ h2) (e36 : 17 ≠ h2) (e37 : 18 ≠ h2) (hw38 : w[h2]? = some (Sum.inl (0, 8, fun _ => Value.int 0))) (e39 : 0 ≤ a4.toInt) (e40 : 7 ≤ h2) (e41 : h2 ≠ h1) (e42 : h2 ≠ 17) (e43 : h2 ≠ 18) (e44 : 7 ≤ h1) (e45 : h1 ≠ h0) (e46 : h2 ≠ h0) (e47 : h1 ≠ h2) (e48 : (xbf 2 (xlo b0) (xhi b0) ((32 : Int32) - a4)).toInt ≠ 0) (e49 : ((64 : Int32) - (xnlz (xbf 2 (xlo b0) (xhi b0) ((32 : Int32) - a4)))).toInt ≤ 64) (e50 : h1 ≠ 78) (e51 : h2 ≠ 78) (e52 : h0 ≠ 78) (e53 : (a3 + a1).toInt ≤ 16384) (e54 : (a3 + a1).toInt < (-16384)) (e55 : h1 ≠ 16) (e56 : h2 ≠ 16) (e57 : a2.toInt ≠ 4) (e58 : a2.toInt = 2) (e59 : a2.toInt ≠ 0) (e60 : 78 ≠ h0) (e61 : 78 ≠ h1) (e62 : 78 ≠ h2) : xRun (d + 6) 21 [Value.ref 7, Value.int a0, Value.long b0, Value.int a1, Value.int a2] w (.inl (some (Value.int 1))) ((((((((((((w.set 16 (Sum.inr (4, [Value.int 0, Value.ref 17, Value.int 0, Value.int 0]))).set 18 (Sum.inl (0, 8, xup (xup (fun _ => Value.int 0) (0 : Int32).toInt.toNat (Value.int (xlo b0))) (1 : Int32).toInt.toNat (Value.int (xhi b0))))).set 17 (Sum.inr (3, [Value.ref 18, Value.int 2]))).set 16 (Sum.inr (4, [Value.int 0, Value.ref 17, Value.int a1, Value.int 0]))).set h0 (Sum.inr (2, [Value.int 64, Value.int 3, Value.int 0, Value.int (a3 + a1), Value.ref h1]))).set h2 (Sum.inl (0, 8, xup (xup (fun _ => Value.int 0) (1 : Int32).toInt.toNat (Value.int (xbf 2 (xlo b0) (xhi b0) ((32 : Int32) - a4)))) (0 : Int32).toInt.toNat (Value.int (xbf 2 (xlo b0) (xhi b0) ((0 : Int32) - a4)))))).set h1 (Sum.inr (3, [Value.ref h2, Value.int 2]))).set 78 (Sum.inr (1, [Value.int (-16384), Value.int 16384, Value.int 0, Value.int 4]))).set h0 (Sum.inr (2, [Value.int 64, Value.int 3, Value.int 0, Value.int (-16384), Value.ref h1]))).set h2 (Sum.inl (0, 8, xup (xup (xup (xup (xup (fun _ => Value.int 0) (1 : Int32).toInt.toNat (Value.int (xbf 2 (xlo b0) (xhi b0) ((32 : Int32) - a4)))) (0 : Int32).toInt.toNat (Value.int (xbf 2 (xlo b0) (xhi b0) ((0 : Int32) - a4)))) (0 : Int32).toInt.toNat (Value.int 0)) (1 : Int32).toInt.toNat (Value.int 0)) (1 : Int32).toInt.toNat (Value.int (-2147483648))))).set h1 (Sum.inr (3, [Value.ref h2, Value.int 2]))).set 78 (Sum.inr (1, [Value.int (-16384), Value.int 16384, Value.int 0, Value.int 5]))) := by
  refine xRun.of ?_
  refine i_21_0 (x := a0) rfl ?_
  refine i_21_1 (Nat.le_of_ble_eq_true rfl) (s_15_0 e0 e1) ?_
  refine i_21_4 (fun h => absurd h (by decide)) (fun _ => ?_)
  refine i_21_7 (x := a1) rfl ?_
  refine i_21_9 ?_
  refine i_21_11 (fun h => absurd e2 (Int.not_le.mpr h)) (fun _ => ?_)
  refine i_21_14 (x := a1) rfl ?_
  refine i_21_16 ?_
  refine i_21_18 (fun h => absurd e3 (Int.not_le.mpr h)) (fun _ => ?_)
  refine i_21_21 (x := a2) rfl ?_
  refine i_21_23 (Nat.le_of_ble_eq_true rfl) (s_22_0 e4 e5) ?_
  refine i_21_26 (fun _ => ?_) (fun h => absurd h (by decide))
  refine i_21_37 (x := 7) rfl ?_
  refine i_21_38 (v := Value.ref 8) hw6 rfl ?_
  refine i_21_41 (x := a0) rfl ?_
  refine i_21_42 (v := Value.ref h0) hw7 e0 e1 hg8 ?_
  refine i_21_43 (lv2 := [(6, Value.ref h0), (0, Value.ref 7), (1, Value.int a0), (2, Value.long b0), (4, Value.int a1), (5, Value.int a2)]) rfl ?_
  refine i_21_45 (x := b0) rfl ?_
  refine i_21_46 ?_
  refine i_21_47 (c := (lg_cmp b0 (0 : Int64))) rfl ?_
  refine i_21_48 (fun _ => ?_) (fun h => absurd e9 (fun g => g h))
  refine i_21_58 (x := 7) rfl ?_
  refine i_21_59 (v := Value.ref 16) hw6 rfl ?_
  refine i_21_62 (x := b0) rfl ?_
  refine i_21_63 ?_
  refine i_21_64 (c := (lg_cmp b0 (0 : Int64))) rfl ?_
  refine i_21_65 (fun _ => ?_) (fun h => absurd e10 (Int.not_le.mpr h))
  refine i_21_72 ?_
  refine i_21_73 (x := b0) rfl ?_
  refine i_21_74 ?_
  refine i_21_75 (c := (lg_cmp b0 (0 : Int64))) rfl ?_
  refine i_21_76 (fun _ => ?_) (fun h => absurd e10 (Int.not_le.mpr h))
  refine i_21_84 (x := b0) rfl ?_
  refine i_21_85 (x := a1) rfl ?_
  refine i_21_87 hw11 (Nat.le_of_ble_eq_true rfl) (s_24_1 hw11 hw12 hw13 e14) ?_
  refine i_21_90 (x := 7) rfl ?_
  refine i_21_91 (v := Value.ref 78) (xgn (by decide) (xgn (by decide) (xgn (by decide) (xgn (by decide) hw6)))) rfl ?_
  refine i_21_94 (x := h0) rfl ?_
  refine i_21_96 (x := 7) rfl ?_
  refine i_21_97 (v := Value.ref 16) (xgn (by decide) (xgn (by decide) (xgn (by decide) (xgn (by decide) hw6)))) rfl ?_
  refine i_21_100 (x := a2) rfl ?_
  refine i_21_102 (xgn (by decide) (xgn (by decide) (xgn (by decide) (xgn (by decide) hw15)))) (Nat.le_of_ble_eq_true rfl) (s_27_20 (xgs (xgn (by decide) (xgn (by decide) (xgs hw11)))) (xgn (by decide) (xgs (xgn (by decide) (xgn (by decide) hw12)))) (xgn (by decide) (xgn (by decide) (xgs (xgn (by decide) hw13)))) xup_s hg16 (xgn e17 (xgn e18 (xgn e19 (xgn e17 hw20)))) (xgn (by decide) (xgn (by decide) (xgn (by decide) (xgn (by decide) hw15)))) e21 hg22 e23 e24 e25 e26 hg27 e28 (xgn e29 (xgn e30 (xgn e31 (xgn e29 hw32)))) hg33 e34 (xgn e35 (xgn e36 (xgn e37 (xgn e35 hw38)))) e39 (xup_n (by decide) xup_s) e40 e41 e42 e43 e44 e45 e46 e47 e48 e49 e50 e51 e52 e53 e54 e55 e56 e57 e58 e59 e60 e61 e62) ?_
  exact i_21_105 ⟨rfl, rfl⟩
theorem s_20_20 {d : Nat} {w : xW} {a0 : Int32} {b0 : Int64} {a1 : Int32} {a2 : Int32} {g0 : Nat → Value} {h0 : Nat} {a3 : Int32} {h1 : Nat} {a4 : Int32} {h2 : Nat} (hw0 : w[7]? = some (Sum.inr (0, [Value.ref 8, Value.ref 78, Value.ref 9, Value.ref 10, Value.ref 13, Value.ref 16, Value.ref 19, Value.ref 93, Value.ref 108, Value.ref 113, Value.ref 29, Value.int 0]))) (e1 : 0 ≤ a0.toInt) (e2 : a0.toInt < 16) (e3 : (-40000) ≤ a1.toInt) (e4 : a1.toInt ≤ 40000) (e5 : 0 ≤ a2.toInt) (e6 : a2.toInt ≤ 4) (hw7 : w[8]? = some (Sum.inl (4, 16, g0))) (hg8 : g0 a0.toInt.toNat = Value.ref h0) (e9 : (lg_cmp b0 (0 : Int64)).toInt ≠ 0) (e10 : 0 ≤ (lg_cmp b0 (0 : Int64)).toInt) (hw11 : w[16]? = some (Sum.inr (4, [Value.int 0, Value.ref 17, Value.int 0, Value.int 0]))) (hw12 : w[17]? = some (Sum.inr (3, [Value.ref 18, Value.int 0]))) (hw13 : w[18]? = some (Sum.inl (0, 8, fun _ => Value.int 0))) (e14 : (xhi b0).toInt ≠ 0) (hw15 : w[78]? = some (Sum.inr (1, [Value.int (-16384), Value.int 16384, Value.int 0, Value.int 0]))) (hg16 : ((64 : Int32) - (xnlz (xhi b0))) = a3) (e17 : 16 ≠ h0) (e18 : 17 ≠ h0) (e19 : 18 ≠ h0) (hw20 : w[h0]? = some (Sum.inr (2, [Value.int 64, Value.int 0, Value.int 0, Value.int 0, Value.ref h1]))) (e21 : (((a3 + a1) - (64 : Int32)) - a1).toInt ≤ 0) (hg22 : ((a3 + a1) - ((a3 + a1) - (64 : Int32))) = 64) (e23 : 7 ≤ h0) (e24 : h0 ≠ 16) (e25 : h0 ≠ 17) (e26 : h0 ≠ 18) (hg27 : ((64 : Int32) - a3) = a4) (e28 : h0 ≠ h1) (e29 : 16 ≠ h1) (e30 : 17 ≠ h1) (e31 : 18 ≠ h1) (hw32 : w[h1]? = some (Sum.inr (3, [Value.ref h2, Value.int 0]))) (hg33 : (a3 + a4) = 64) (e34 : h0 ≠ h2) (e35 : 16 ≠ h2) (e36 : 17 ≠ h2) (e37 : 18 ≠ h2) (hw38 : w[h2]? = some (Sum.inl (0, 8, fun _ => Value.int 0))) (e39 : 0 ≤ a4.toInt) (e40 : 7 ≤ h2) (e41 : h2 ≠ h1) (e42 : h2 ≠ 17) (e43 : h2 ≠ 18) (e44 : 7 ≤ h1) (e45 : h1 ≠ h0) (e46 : h2 ≠ h0) (e47 : h1 ≠ h2) (e48 : (xbf 2 (xlo b0) (xhi b0) ((32 : Int32) - a4)).toInt ≠ 0) (e49 : ((64 : Int32) - (xnlz (xbf 2 (xlo b0) (xhi b0) ((32 : Int32) - a4)))).toInt ≤ 64) (e50 : h1 ≠ 78) (e51 : h2 ≠ 78) (e52 : h0 ≠ 78) (e53 : (a3 + a1).toInt ≤ 16384) (e54 : (a3 + a1).toInt < (-16384)) (e55 : h1 ≠ 16) (e56 : h2 ≠ 16) (e57 : a2.toInt ≠ 4) (e58 : a2.toInt = 2) (e59 : a2.toInt ≠ 0) (e60 : 78 ≠ h0) (e61 : 78 ≠ h1) (e62 : 78 ≠ h2) (e63 : h1 ≠ 194) (e64 : h2 ≠ 194) (e65 : h0 ≠ 194) (hw66 : w[194]? = some (Sum.inl (3, 1, fun _ => Value.long 0))) : xRun (d + 7) 20 [Value.ref 7, Value.int a0, Value.long b0, Value.int a1, Value.int a2, Value.ref 194] w (.inl (some (Value.int 0))) (((((((((((((w.set 16 (Sum.inr (4, [Value.int 0, Value.ref 17, Value.int 0, Value.int 0]))).set 18 (Sum.inl (0, 8, xup (xup (fun _ => Value.int 0) (0 : Int32).toInt.toNat (Value.int (xlo b0))) (1 : Int32).toInt.toNat (Value.int (xhi b0))))).set 17 (Sum.inr (3, [Value.ref 18, Value.int 2]))).set 16 (Sum.inr (4, [Value.int 0, Value.ref 17, Value.int a1, Value.int 0]))).set h0 (Sum.inr (2, [Value.int 64, Value.int 3, Value.int 0, Value.int (a3 + a1), Value.ref h1]))).set h2 (Sum.inl (0, 8, xup (xup (fun _ => Value.int 0) (1 : Int32).toInt.toNat (Value.int (xbf 2 (xlo b0) (xhi b0) ((32 : Int32) - a4)))) (0 : Int32).toInt.toNat (Value.int (xbf 2 (xlo b0) (xhi b0) ((0 : Int32) - a4)))))).set h1 (Sum.inr (3, [Value.ref h2, Value.int 2]))).set 78 (Sum.inr (1, [Value.int (-16384), Value.int 16384, Value.int 0, Value.int 4]))).set h0 (Sum.inr (2, [Value.int 64, Value.int 3, Value.int 0, Value.int (-16384), Value.ref h1]))).set h2 (Sum.inl (0, 8, xup (xup (xup (xup (xup (fun _ => Value.int 0) (1 : Int32).toInt.toNat (Value.int (xbf 2 (xlo b0) (xhi b0) ((32 : Int32) - a4)))) (0 : Int32).toInt.toNat (Value.int (xbf 2 (xlo b0) (xhi b0) ((0 : Int32) - a4)))) (0 : Int32).toInt.toNat (Value.int 0)) (1 : Int32).toInt.toNat (Value.int 0)) (1 : Int32).toInt.toNat (Value.int (-2147483648))))).set h1 (Sum.inr (3, [Value.ref h2, Value.int 2]))).set 78 (Sum.inr (1, [Value.int (-16384), Value.int 16384, Value.int 0, Value.int 5]))).set 194 (Sum.inl (3, 1, xup (fun _ => Value.long 0) (0 : Int32).toInt.toNat (Value.long 1)))) := by
  refine xRun.of ?_
  refine i_20_0 (x := 194) rfl ?_
  refine i_20_2 ?_
  refine i_20_3 (x := 7) rfl ?_
  refine i_20_4 (x := a0) rfl ?_
  refine i_20_5 (x := b0) rfl ?_
  refine i_20_6 (x := a1) rfl ?_
  refine i_20_8 (x := a2) rfl ?_
  refine i_20_10 hw0 (Nat.le_of_ble_eq_true rfl) (s_21_20 e1 e2 e3 e4 e5 e6 hw0 hw7 hg8 e9 e10 hw11 hw12 hw13 e14 hw15 hg16 e17 e18 e19 hw20 e21 hg22 e23 e24 e25 e26 hg27 e28 e29 e30 e31 hw32 hg33 e34 e35 e36 e37 hw38 e39 e40 e41 e42 e43 e44 e45 e46 e47 e48 e49 e50 e51 e52 e53 e54 e55 e56 e57 e58 e59 e60 e61 e62) ?_
  refine i_20_13 (c := 1) (by decide) ?_
  refine i_20_14 (v := Value.long 1) (xgn (by decide) (xgn e63 (xgn e64 (xgn e65 (xgn (by decide) (xgn e63 (xgn e64 (xgn e65 (xgn (by decide) (xgn (by decide) (xgn (by decide) (xgn (by decide) hw66)))))))))))) (by decide) (by decide) (by decide) rfl ?_
  refine i_20_15 ?_
  refine i_20_22 ?_
  exact i_20_23 ⟨rfl, rfl⟩
theorem cn3_0_20 {d : Nat} {xs : Nat → Int32} {B K : Int32} (c0 : 0 ≤ (xs 1).toInt) (c1 : (xs 1).toInt < 16) (c2 : (-40000) ≤ (xs 4).toInt) (c3 : (xs 4).toInt ≤ 40000) (c4 : 0 ≤ (xs 5).toInt) (c5 : (xs 5).toInt ≤ 4) (c6 : (lg_cmp (xvv xs) (0 : Int64)).toInt ≠ 0) (c7 : 0 ≤ (lg_cmp (xvv xs) (0 : Int64)).toInt) (c8 : K.toInt = 64 - B.toInt) (c9 : 33 ≤ B.toInt) (c10 : B.toInt ≤ 64) (c11 : (xhi (xvv xs)).toInt ≠ 0) (c12 : (xnlz (xhi (xvv xs))).toInt = 64 - B.toInt) (c13 : (xbf 2 (xlo (xvv xs)) (xhi (xvv xs)) ((32 : Int32) - K)).toInt ≠ 0) (c14 : (B + (xs 4)).toInt ≤ 16384) (c15 : (B + (xs 4)).toInt < (-16384)) (c16 : (xs 5).toInt ≠ 4) (c17 : (xs 5).toInt = 2) : ∃ w1, xRun (d + 18) 20 [Value.ref 7, Value.int (xs 1), Value.long (xvv xs), Value.int (xs 4), Value.int (xs 5), Value.ref 194] (W0 6 xs) (.inl (some (Value.int 0))) w1 ∧ xKp (W0 6 xs) w1 xPC ∧ w1[194]? = some (Sum.inl (3, 1, xup (fun _ => Value.long 0) (0 : Int32).toInt.toNat (Value.long 1))) := by
  have f0 : ((64 : Int32) - (xnlz (xhi (xvv xs)))).toInt = 64 - (xnlz (xhi (xvv xs))).toInt := xsub_g rfl rfl (by omega) (by omega)
  have f1 : (B + (xs 4)).toInt = B.toInt + (xs 4).toInt := xadd_i (by omega) (by omega)
  have f2 : ((B + (xs 4)) - (64 : Int32)).toInt = (B + (xs 4)).toInt - 64 := xsub_g rfl rfl (by omega) (by omega)
  have f3 : (((B + (xs 4)) - (64 : Int32)) - (xs 4)).toInt = ((B + (xs 4)) - (64 : Int32)).toInt - (xs 4).toInt := xsub_i (by omega) (by omega)
  have f4 : ((B + (xs 4)) - ((B + (xs 4)) - (64 : Int32))).toInt = (B + (xs 4)).toInt - ((B + (xs 4)) - (64 : Int32)).toInt := xsub_i (by omega) (by omega)
  have f5 : ((64 : Int32) - B).toInt = 64 - B.toInt := xsub_g rfl rfl (by omega) (by omega)
  have f6 : (B + K).toInt = B.toInt + K.toInt := xadd_i (by omega) (by omega)
  have f7 : 0 ≤ (xnlz (xbf 2 (xlo (xvv xs)) (xhi (xvv xs)) ((32 : Int32) - K))).toInt := (xnlz_b _).1
  have f8 : (xnlz (xbf 2 (xlo (xvv xs)) (xhi (xvv xs)) ((32 : Int32) - K))).toInt ≤ 32 := (xnlz_b _).2
  have f9 : ((64 : Int32) - (xnlz (xbf 2 (xlo (xvv xs)) (xhi (xvv xs)) ((32 : Int32) - K)))).toInt = 64 - (xnlz (xbf 2 (xlo (xvv xs)) (xhi (xvv xs)) ((32 : Int32) - K))).toInt := xsub_g rfl rfl (by omega) (by omega)
  refine ⟨((((((((((((((W0 6 xs).set 16 (Sum.inr (4, [Value.int 0, Value.ref 17, Value.int 0, Value.int 0]))).set 18 (Sum.inl (0, 8, xup (xup (fun _ => Value.int 0) (0 : Int32).toInt.toNat (Value.int (xlo (xvv xs)))) (1 : Int32).toInt.toNat (Value.int (xhi (xvv xs)))))).set 17 (Sum.inr (3, [Value.ref 18, Value.int 2]))).set 16 (Sum.inr (4, [Value.int 0, Value.ref 17, Value.int (xs 4), Value.int 0]))).set (30 + 3 * (xs 1).toInt.toNat) (Sum.inr (2, [Value.int 64, Value.int 3, Value.int 0, Value.int (B + (xs 4)), Value.ref (31 + 3 * (xs 1).toInt.toNat)]))).set (32 + 3 * (xs 1).toInt.toNat) (Sum.inl (0, 8, xup (xup (fun _ => Value.int 0) (1 : Int32).toInt.toNat (Value.int (xbf 2 (xlo (xvv xs)) (xhi (xvv xs)) ((32 : Int32) - K)))) (0 : Int32).toInt.toNat (Value.int (xbf 2 (xlo (xvv xs)) (xhi (xvv xs)) ((0 : Int32) - K)))))).set (31 + 3 * (xs 1).toInt.toNat) (Sum.inr (3, [Value.ref (32 + 3 * (xs 1).toInt.toNat), Value.int 2]))).set 78 (Sum.inr (1, [Value.int (-16384), Value.int 16384, Value.int 0, Value.int 4]))).set (30 + 3 * (xs 1).toInt.toNat) (Sum.inr (2, [Value.int 64, Value.int 3, Value.int 0, Value.int (-16384), Value.ref (31 + 3 * (xs 1).toInt.toNat)]))).set (32 + 3 * (xs 1).toInt.toNat) (Sum.inl (0, 8, xup (xup (xup (xup (xup (fun _ => Value.int 0) (1 : Int32).toInt.toNat (Value.int (xbf 2 (xlo (xvv xs)) (xhi (xvv xs)) ((32 : Int32) - K)))) (0 : Int32).toInt.toNat (Value.int (xbf 2 (xlo (xvv xs)) (xhi (xvv xs)) ((0 : Int32) - K)))) (0 : Int32).toInt.toNat (Value.int 0)) (1 : Int32).toInt.toNat (Value.int 0)) (1 : Int32).toInt.toNat (Value.int (-2147483648))))).set (31 + 3 * (xs 1).toInt.toNat) (Sum.inr (3, [Value.ref (32 + 3 * (xs 1).toInt.toNat), Value.int 2]))).set 78 (Sum.inr (1, [Value.int (-16384), Value.int 16384, Value.int 0, Value.int 5]))).set 194 (Sum.inl (3, 1, xup (fun _ => Value.long 0) (0 : Int32).toInt.toNat (Value.long 1)))), (s_20_20 W0_7 (by omega) (by omega) (by omega) (by omega) (by omega) (by omega) W0_8 (greg_at (by omega)) (by omega) (by omega) W0_16 W0_17 W0_18 (by omega) W0_78 (show ((64 : Int32) - (xnlz (xhi (xvv xs)))) = B from (xge_i (by omega))) (by omega) (by omega) (by omega) (W0_reg (by omega)) (by omega) (show ((B + (xs 4)) - ((B + (xs 4)) - (64 : Int32))) = 64 from (xge_c (n := 64) (by omega) rfl)) (by omega) (by omega) (by omega) (by omega) (show ((64 : Int32) - B) = K from (xge_i (by omega))) (by omega) (by omega) (by omega) (by omega) (W0_man (by omega)) (show (B + K) = 64 from (xge_c (n := 64) (by omega) rfl)) (by omega) (by omega) (by omega) (by omega) (W0_mw (by omega)) (by omega) (by omega) (by omega) (by omega) (by omega) (by omega) (by omega) (by omega) (by omega) (by omega) (by omega) (by omega) (by omega) (by omega) (by omega) (by omega) (by omega) (by omega) (by omega) (by omega) (by omega) (by omega) (by omega) (by omega) (by omega) (by omega) (by omega) W0_194), ?_, xgs (xgn (by decide) (xgn (by omega) (xgn (by omega) (xgn (by omega) (xgn (by decide) (xgn (by omega) (xgn (by omega) (xgn (by omega) (xgn (by decide) (xgn (by decide) (xgn (by decide) (xgn (by decide) W0_194))))))))))))⟩
  refine xKp.set ?_ (fun h hh => by unfold xPC at hh; omega) (xgn (by decide) (xgn (by omega) (xgn (by omega) (xgn (by omega) (xgn (by decide) (xgn (by omega) (xgn (by omega) (xgn (by omega) (xgn (by decide) (xgn (by decide) (xgn (by decide) (xgn (by decide) W0_194)))))))))))) xcs_a
  refine xKp.set ?_ (fun h hh => by unfold xPC at hh; omega) (xgn (by omega) (xgn (by omega) (xgn (by omega) (xgs (xgn (by omega) (xgn (by omega) (xgn (by omega) (xgn (by decide) (xgn (by decide) (xgn (by decide) (xgn (by decide) W0_78))))))))))) xcs_o
  refine xKp.set ?_ (fun h hh => by unfold xPC at hh; omega) (xgn (by omega) (xgn (by omega) (xgn (by omega) (xgs (xgn (by omega) (xgn (by omega) (xgn (by omega) (xgn (by omega) (xgn (by omega) (xgn (by omega) (W0_man (by omega)))))))))))) xcs_o
  refine xKp.set ?_ (fun h hh => by unfold xPC at hh; omega) (xgn (by omega) (xgn (by omega) (xgn (by omega) (xgs (xgn (by omega) (xgn (by omega) (xgn (by omega) (xgn (by omega) (xgn (by omega) (W0_mw (by omega))))))))))) xcs_a
  refine xKp.set ?_ (fun h hh => by unfold xPC at hh; omega) (xgn (by omega) (xgn (by omega) (xgn (by omega) (xgs (xgn (by omega) (xgn (by omega) (xgn (by omega) (xgn (by omega) (W0_reg (by omega)))))))))) xcs_o
  refine xKp.set ?_ (fun h hh => by unfold xPC at hh; omega) (xgn (by omega) (xgn (by omega) (xgn (by omega) (xgn (by decide) (xgn (by decide) (xgn (by decide) (xgn (by decide) W0_78))))))) xcs_o
  refine xKp.set ?_ (fun h hh => by unfold xPC at hh; omega) (xgn (by omega) (xgn (by omega) (xgn (by omega) (xgn (by omega) (xgn (by omega) (xgn (by omega) (W0_man (by omega)))))))) xcs_o
  refine xKp.set ?_ (fun h hh => by unfold xPC at hh; omega) (xgn (by omega) (xgn (by omega) (xgn (by omega) (xgn (by omega) (xgn (by omega) (W0_mw (by omega))))))) xcs_a
  refine xKp.set ?_ (fun h hh => by unfold xPC at hh; omega) (xgn (by omega) (xgn (by omega) (xgn (by omega) (xgn (by omega) (W0_reg (by omega)))))) xcs_o
  refine xKp.set ?_ (fun h hh => by unfold xPC at hh; omega) (xgn (by decide) (xgn (by decide) (xgs W0_16))) xcs_o
  refine xKp.set ?_ (fun h hh => by unfold xPC at hh; omega) (xgn (by decide) (xgn (by decide) W0_17)) xcs_o
  refine xKp.set ?_ (fun h hh => by unfold xPC at hh; omega) (xgn (by decide) W0_18) xcs_a
  refine xKp.set ?_ (fun h hh => by unfold xPC at hh; omega) (W0_16) xcs_o
  exact xKp.refl
theorem s_27_21 {d : Nat} {w : xW} {h0 : Nat} {a0 : Int32} {a1 : Int32} {g0 : Nat → Value} {a2 : Int32} {a3 : Int32} {h1 : Nat} {a4 : Int32} {h2 : Nat} {a5 : Int32} (hw0 : w[16]? = some (Sum.inr (4, [Value.int 0, Value.ref 17, Value.int a1, Value.int 0]))) (hw1 : w[17]? = some (Sum.inr (3, [Value.ref 18, Value.int 2]))) (hw2 : w[18]? = some (Sum.inl (0, 8, g0))) (hg3 : g0 (1 : Int32).toInt.toNat = Value.int a2) (hg4 : ((64 : Int32) - (xnlz a2)) = a3) (hw5 : w[h0]? = some (Sum.inr (2, [Value.int 64, Value.int 0, Value.int 0, Value.int 0, Value.ref h1]))) (hw6 : w[78]? = some (Sum.inr (1, [Value.int (-16384), Value.int 16384, Value.int 0, Value.int 0]))) (e7 : (((a3 + a1) - (64 : Int32)) - a1).toInt ≤ 0) (hg8 : ((a3 + a1) - ((a3 + a1) - (64 : Int32))) = 64) (e9 : 7 ≤ h0) (e10 : h0 ≠ 16) (e11 : h0 ≠ 17) (e12 : h0 ≠ 18) (hg13 : ((64 : Int32) - a3) = a4) (e14 : h0 ≠ h1) (hw15 : w[h1]? = some (Sum.inr (3, [Value.ref h2, Value.int 0]))) (hg16 : (a3 + a4) = 64) (e17 : h0 ≠ h2) (hw18 : w[h2]? = some (Sum.inl (0, 8, fun _ => Value.int 0))) (e19 : 0 ≤ a4.toInt) (hg20 : g0 (0 : Int32).toInt.toNat = Value.int a5) (e21 : 7 ≤ h2) (e22 : h2 ≠ h1) (e23 : h2 ≠ 17) (e24 : h2 ≠ 18) (e25 : 7 ≤ h1) (e26 : h1 ≠ h0) (e27 : h2 ≠ h0) (e28 : h1 ≠ h2) (e29 : (xbf 2 a5 a2 ((32 : Int32) - a4)).toInt ≠ 0) (e30 : ((64 : Int32) - (xnlz (xbf 2 a5 a2 ((32 : Int32) - a4)))).toInt ≤ 64) (e31 : h1 ≠ 78) (e32 : h2 ≠ 78) (e33 : h0 ≠ 78) (e34 : (a3 + a1).toInt ≤ 16384) (e35 : (a3 + a1).toInt < (-16384)) (e36 : h1 ≠ 16) (e37 : h2 ≠ 16) (e38 : a0.toInt ≠ 4) (e39 : a0.toInt ≠ 2) (e40 : a0.toInt = 3) (e41 : a0.toInt ≠ 0) (e42 : 78 ≠ h0) : xRun (d + 4) 27 [Value.ref 78, Value.ref h0, Value.ref 16, Value.int a0] w (.inl (some (Value.int (-1)))) ((((((w.set h0 (Sum.inr (2, [Value.int 64, Value.int 3, Value.int 0, Value.int (a3 + a1), Value.ref h1]))).set h2 (Sum.inl (0, 8, xup (xup (fun _ => Value.int 0) (1 : Int32).toInt.toNat (Value.int (xbf 2 a5 a2 ((32 : Int32) - a4)))) (0 : Int32).toInt.toNat (Value.int (xbf 2 a5 a2 ((0 : Int32) - a4)))))).set h1 (Sum.inr (3, [Value.ref h2, Value.int 2]))).set 78 (Sum.inr (1, [Value.int (-16384), Value.int 16384, Value.int 0, Value.int 4]))).set h0 (Sum.inr (2, [Value.int 64, Value.int 2, Value.int 0, Value.int (a3 + a1), Value.ref h1]))).set 78 (Sum.inr (1, [Value.int (-16384), Value.int 16384, Value.int 0, Value.int 5]))) := by
  refine xRun.of ?_
  refine i_27_0 (x := 16) rfl ?_
  refine i_27_1 hw0 (Nat.le_of_ble_eq_true rfl) (s_28_1 hw0 hw1 hw2 hg3 hg4) ?_
  refine i_27_4 (lv2 := [(4, Value.int (a3 + a1)), (0, Value.ref 78), (1, Value.ref h0), (2, Value.ref 16), (3, Value.int a0)]) rfl ?_
  refine i_27_6 (x := 78) rfl ?_
  refine i_27_7 (x := (a3 + a1)) rfl ?_
  refine i_27_9 (x := h0) rfl ?_
  refine i_27_10 (v := Value.int 64) hw5 rfl ?_
  refine i_27_13 hw6 (Nat.le_of_ble_eq_true rfl) (s_30_0 hw6) ?_
  refine i_27_16 (lv2 := [(5, Value.int ((a3 + a1) - (64 : Int32))), (4, Value.int (a3 + a1)), (0, Value.ref 78), (1, Value.ref h0), (2, Value.ref 16), (3, Value.int a0)]) rfl ?_
  refine i_27_18 (x := 16) rfl ?_
  refine i_27_19 (x := ((a3 + a1) - (64 : Int32))) rfl ?_
  refine i_27_21 (x := a0) rfl ?_
  refine i_27_22 hw0 (Nat.le_of_ble_eq_true rfl) (s_31_1 hw0 hw1 e7) ?_
  refine i_27_25 (lv2 := [(6, Value.int 0), (5, Value.int ((a3 + a1) - (64 : Int32))), (4, Value.int (a3 + a1)), (0, Value.ref 78), (1, Value.ref h0), (2, Value.ref 16), (3, Value.int a0)]) rfl ?_
  refine i_27_27 (x := 16) rfl ?_
  refine i_27_28 (x := ((a3 + a1) - (64 : Int32))) rfl ?_
  refine i_27_30 hw0 (Nat.le_of_ble_eq_true rfl) (s_32_1 hw0 hw1 e7) ?_
  refine i_27_33 (fun h => absurd h (by decide)) (fun _ => ?_)
  refine i_27_36 ?_
  refine i_27_37 ?_
  refine i_27_50 (lv2 := [(7, Value.int 0), (6, Value.int 0), (5, Value.int ((a3 + a1) - (64 : Int32))), (4, Value.int (a3 + a1)), (0, Value.ref 78), (1, Value.ref h0), (2, Value.ref 16), (3, Value.int a0)]) rfl ?_
  refine i_27_52 (x := h0) rfl ?_
  refine i_27_53 (x := 16) rfl ?_
  refine i_27_54 (x := ((a3 + a1) - (64 : Int32))) rfl ?_
  refine i_27_56 (x := 0) rfl ?_
  refine i_27_58 hw5 (Nat.le_of_ble_eq_true rfl) (s_38_1 hw0 hw1 hw2 hg3 hg4 hg8 hw5 e9 e10 e11 e12 hg13 e14 hw15 hg16 e17 hw18 e19 hg20 e21 e22 e23 e24 e25 e26 e27 e28 e29 e30) ?_
  refine i_27_61 (x := h0) rfl ?_
  refine i_27_62 (v := Value.int 3) (xgn e26 (xgn e27 (xgs hw5))) rfl ?_
  refine i_27_65 ?_
  refine i_27_66 (fun h => absurd h (by decide)) (fun _ => ?_)
  refine i_27_69 (x := h0) rfl ?_
  refine i_27_70 (v := Value.int (a3 + a1)) (xgn e26 (xgn e27 (xgs hw5))) rfl ?_
  refine i_27_73 (x := 78) rfl ?_
  refine i_27_74 (v := Value.int 16384) (xgn e31 (xgn e32 (xgn e33 hw6))) rfl ?_
  refine i_27_77 (fun _ => ?_) (fun h => absurd e34 (Int.not_le.mpr h))
  refine i_27_95 (x := h0) rfl ?_
  refine i_27_96 (v := Value.int 3) (xgn e26 (xgn e27 (xgs hw5))) rfl ?_
  refine i_27_99 ?_
  refine i_27_100 (fun h => absurd h (by decide)) (fun _ => ?_)
  refine i_27_103 (x := 78) rfl ?_
  refine i_27_104 (v := Value.int 0) (xgn e31 (xgn e32 (xgn e33 hw6))) rfl ?_
  refine i_27_107 (fun h => absurd h (by decide)) (fun _ => ?_)
  refine i_27_110 (x := h0) rfl ?_
  refine i_27_111 (v := Value.int (a3 + a1)) (xgn e26 (xgn e27 (xgs hw5))) rfl ?_
  refine i_27_114 (x := 78) rfl ?_
  refine i_27_115 (v := Value.int (-16384)) (xgn e31 (xgn e32 (xgn e33 hw6))) rfl ?_
  refine i_27_118 (fun h => absurd e35 (Int.not_lt.mpr h)) (fun _ => ?_)
  refine i_27_121 (x := 78) rfl ?_
  refine i_27_122 (x := h0) rfl ?_
  refine i_27_123 (x := 16) rfl ?_
  refine i_27_124 (x := a0) rfl ?_
  refine i_27_125 (xgn e31 (xgn e32 (xgn e33 hw6))) (Nat.le_of_ble_eq_true rfl) (s_50_2 (xgn e31 (xgn e32 (xgn e33 hw6))) (xgn e36 (xgn e37 (xgn e10 hw0))) e38 e39 e40 e41 e42 (xgn e26 (xgn e27 (xgs hw5))) e9) ?_
  refine i_27_128 (lv2 := [(7, Value.int (-1)), (6, Value.int 0), (5, Value.int ((a3 + a1) - (64 : Int32))), (4, Value.int (a3 + a1)), (0, Value.ref 78), (1, Value.ref h0), (2, Value.ref 16), (3, Value.int a0)]) rfl ?_
  refine i_27_130 ?_
  refine i_27_164 (x := (-1)) rfl ?_
  refine i_27_166 (fun h => absurd h (by decide)) (fun _ => ?_)
  refine i_27_169 (x := 78) rfl ?_
  refine i_27_170 rfl ?_
  refine i_27_171 (v := Value.int 4) (xgn e33 (xgs (xgn e31 (xgn e32 (xgn e33 hw6))))) rfl ?_
  refine i_27_174 ?_
  refine i_27_175 (c := 5) (by decide) ?_
  refine i_27_176 (fs2 := [Value.int (-16384), Value.int 16384, Value.int 0, Value.int 5]) (xgn e33 (xgs (xgn e31 (xgn e32 (xgn e33 hw6))))) (Nat.le_of_ble_eq_true rfl) rfl (by decide) ?_
  refine i_27_179 (x := 16) rfl ?_
  refine i_27_180 (v := Value.int 0) (xgn (by decide) (xgn e10 (xgn (by decide) (xgn e36 (xgn e37 (xgn e10 hw0)))))) rfl ?_
  refine i_27_183 (fun _ => ?_) (fun h => absurd h (by decide))
  refine i_27_192 (x := (-1)) rfl ?_
  exact i_27_194 ⟨rfl, rfl⟩
