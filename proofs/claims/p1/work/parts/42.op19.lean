theorem p_138_0 {d : Nat} {w : xW} {a0 : Int32} (hw0 : w[7]? = some (Sum.inr (0, [Value.ref 8, Value.ref 78, Value.ref 9, Value.ref 10, Value.ref 13, Value.ref 16, Value.ref 19, Value.ref 93, Value.ref 108, Value.ref 113, Value.ref 29, Value.int 0]))) (hw1 : w[29]? = some (Sum.inl (1, 4096, fun _ => Value.int 0))) : xRun d 138 [Value.ref 7, Value.int a0] w (.inl none) ((((((((w.set 29 (Sum.inl (1, 4096, xup (fun _ => Value.int 0) (0 : Int32).toInt.toNat (Value.int ((((a0.toUInt32 >>> ((24 : Int32).toUInt32 &&& Int32.toUInt32 31)).toInt32).toInt8.toInt32).toInt8.toInt32))))).set 7 (Sum.inr (0, [Value.ref 8, Value.ref 78, Value.ref 9, Value.ref 10, Value.ref 13, Value.ref 16, Value.ref 19, Value.ref 93, Value.ref 108, Value.ref 113, Value.ref 29, Value.int 1]))).set 29 (Sum.inl (1, 4096, xup (xup (fun _ => Value.int 0) (0 : Int32).toInt.toNat (Value.int ((((a0.toUInt32 >>> ((24 : Int32).toUInt32 &&& Int32.toUInt32 31)).toInt32).toInt8.toInt32).toInt8.toInt32))) (1 : Int32).toInt.toNat (Value.int ((((a0.toUInt32 >>> ((16 : Int32).toUInt32 &&& Int32.toUInt32 31)).toInt32).toInt8.toInt32).toInt8.toInt32))))).set 7 (Sum.inr (0, [Value.ref 8, Value.ref 78, Value.ref 9, Value.ref 10, Value.ref 13, Value.ref 16, Value.ref 19, Value.ref 93, Value.ref 108, Value.ref 113, Value.ref 29, Value.int 2]))).set 29 (Sum.inl (1, 4096, xup (xup (xup (fun _ => Value.int 0) (0 : Int32).toInt.toNat (Value.int ((((a0.toUInt32 >>> ((24 : Int32).toUInt32 &&& Int32.toUInt32 31)).toInt32).toInt8.toInt32).toInt8.toInt32))) (1 : Int32).toInt.toNat (Value.int ((((a0.toUInt32 >>> ((16 : Int32).toUInt32 &&& Int32.toUInt32 31)).toInt32).toInt8.toInt32).toInt8.toInt32))) (2 : Int32).toInt.toNat (Value.int ((((a0.toUInt32 >>> ((8 : Int32).toUInt32 &&& Int32.toUInt32 31)).toInt32).toInt8.toInt32).toInt8.toInt32))))).set 7 (Sum.inr (0, [Value.ref 8, Value.ref 78, Value.ref 9, Value.ref 10, Value.ref 13, Value.ref 16, Value.ref 19, Value.ref 93, Value.ref 108, Value.ref 113, Value.ref 29, Value.int 3]))).set 29 (Sum.inl (1, 4096, xup (xup (xup (xup (fun _ => Value.int 0) (0 : Int32).toInt.toNat (Value.int ((((a0.toUInt32 >>> ((24 : Int32).toUInt32 &&& Int32.toUInt32 31)).toInt32).toInt8.toInt32).toInt8.toInt32))) (1 : Int32).toInt.toNat (Value.int ((((a0.toUInt32 >>> ((16 : Int32).toUInt32 &&& Int32.toUInt32 31)).toInt32).toInt8.toInt32).toInt8.toInt32))) (2 : Int32).toInt.toNat (Value.int ((((a0.toUInt32 >>> ((8 : Int32).toUInt32 &&& Int32.toUInt32 31)).toInt32).toInt8.toInt32).toInt8.toInt32))) (3 : Int32).toInt.toNat (Value.int ((((a0.toUInt32 >>> ((0 : Int32).toUInt32 &&& Int32.toUInt32 31)).toInt32).toInt8.toInt32).toInt8.toInt32))))).set 7 (Sum.inr (0, [Value.ref 8, Value.ref 78, Value.ref 9, Value.ref 10, Value.ref 13, Value.ref 16, Value.ref 19, Value.ref 93, Value.ref 108, Value.ref 113, Value.ref 29, Value.int 4]))) := by
  refine xRun.of ?_
  refine i_138_0 ?_
  refine i_138_2 (lv2 := [(2, Value.int 24), (0, Value.ref 7), (1, Value.int a0)]) rfl ?_
  refine i_138_3 (x := 24) rfl ?_
  refine i_138_4 (fun h => absurd h (by decide)) (fun _ => ?_)
  refine i_138_7 (x := 7) rfl ?_
  refine i_138_8 (v := Value.int 0) hw0 rfl ?_
  refine i_138_11 ?_
  refine i_138_14 (fun h => absurd h (by decide)) (fun _ => ?_)
  refine i_138_17 (x := 7) rfl ?_
  refine i_138_18 (v := Value.ref 29) hw0 rfl ?_
  refine i_138_21 (x := 7) rfl ?_
  refine i_138_22 (v := Value.int 0) hw0 rfl ?_
  refine i_138_25 (x := a0) rfl ?_
  refine i_138_26 (x := 24) rfl ?_
  refine i_138_27 (c := ((a0.toUInt32 >>> ((24 : Int32).toUInt32 &&& Int32.toUInt32 31)).toInt32)) rfl ?_
  refine i_138_28 (c := ((a0.toUInt32 >>> ((24 : Int32).toUInt32 &&& Int32.toUInt32 31)).toInt32).toInt8.toInt32) rfl ?_
  refine i_138_29 (v := Value.int ((((a0.toUInt32 >>> ((24 : Int32).toUInt32 &&& Int32.toUInt32 31)).toInt32).toInt8.toInt32).toInt8.toInt32)) hw1 (by decide) (by decide) (by decide) rfl ?_
  refine i_138_30 (x := 7) rfl ?_
  refine i_138_31 rfl ?_
  refine i_138_32 (v := Value.int 0) (xgn (by decide) hw0) rfl ?_
  refine i_138_35 ?_
  refine i_138_36 (c := 1) (by decide) ?_
  refine i_138_37 (fs2 := [Value.ref 8, Value.ref 78, Value.ref 9, Value.ref 10, Value.ref 13, Value.ref 16, Value.ref 19, Value.ref 93, Value.ref 108, Value.ref 113, Value.ref 29, Value.int 1]) (xgn (by decide) hw0) (Nat.le_of_ble_eq_true rfl) rfl (by decide) ?_
  refine i_138_40 (x := 24) (c := 16) (lv2 := [(2, Value.int 16), (0, Value.ref 7), (1, Value.int a0)]) rfl (by decide) rfl ?_
  refine i_138_43 ?_
  refine i_138_3 (x := 16) rfl ?_
  refine i_138_4 (fun h => absurd h (by decide)) (fun _ => ?_)
  refine i_138_7 (x := 7) rfl ?_
  refine i_138_8 (v := Value.int 1) (xgs (xgn (by decide) hw0)) rfl ?_
  refine i_138_11 ?_
  refine i_138_14 (fun h => absurd h (by decide)) (fun _ => ?_)
  refine i_138_17 (x := 7) rfl ?_
  refine i_138_18 (v := Value.ref 29) (xgs (xgn (by decide) hw0)) rfl ?_
  refine i_138_21 (x := 7) rfl ?_
  refine i_138_22 (v := Value.int 1) (xgs (xgn (by decide) hw0)) rfl ?_
  refine i_138_25 (x := a0) rfl ?_
  refine i_138_26 (x := 16) rfl ?_
  refine i_138_27 (c := ((a0.toUInt32 >>> ((16 : Int32).toUInt32 &&& Int32.toUInt32 31)).toInt32)) rfl ?_
  refine i_138_28 (c := ((a0.toUInt32 >>> ((16 : Int32).toUInt32 &&& Int32.toUInt32 31)).toInt32).toInt8.toInt32) rfl ?_
  refine i_138_29 (v := Value.int ((((a0.toUInt32 >>> ((16 : Int32).toUInt32 &&& Int32.toUInt32 31)).toInt32).toInt8.toInt32).toInt8.toInt32)) (xgn (by decide) (xgs hw1)) (by decide) (by decide) (by decide) rfl ?_
  refine i_138_30 (x := 7) rfl ?_
  refine i_138_31 rfl ?_
  refine i_138_32 (v := Value.int 1) (xgn (by decide) (xgs (xgn (by decide) hw0))) rfl ?_
  refine i_138_35 ?_
  refine i_138_36 (c := 2) (by decide) ?_
  refine i_138_37 (fs2 := [Value.ref 8, Value.ref 78, Value.ref 9, Value.ref 10, Value.ref 13, Value.ref 16, Value.ref 19, Value.ref 93, Value.ref 108, Value.ref 113, Value.ref 29, Value.int 2]) (xgn (by decide) (xgs (xgn (by decide) hw0))) (Nat.le_of_ble_eq_true rfl) rfl (by decide) ?_
  refine i_138_40 (x := 16) (c := 8) (lv2 := [(2, Value.int 8), (0, Value.ref 7), (1, Value.int a0)]) rfl (by decide) rfl ?_
  refine i_138_43 ?_
  refine i_138_3 (x := 8) rfl ?_
  refine i_138_4 (fun h => absurd h (by decide)) (fun _ => ?_)
  refine i_138_7 (x := 7) rfl ?_
  refine i_138_8 (v := Value.int 2) (xgs (xgn (by decide) (xgs (xgn (by decide) hw0)))) rfl ?_
  refine i_138_11 ?_
  refine i_138_14 (fun h => absurd h (by decide)) (fun _ => ?_)
  refine i_138_17 (x := 7) rfl ?_
  refine i_138_18 (v := Value.ref 29) (xgs (xgn (by decide) (xgs (xgn (by decide) hw0)))) rfl ?_
  refine i_138_21 (x := 7) rfl ?_
  refine i_138_22 (v := Value.int 2) (xgs (xgn (by decide) (xgs (xgn (by decide) hw0)))) rfl ?_
  refine i_138_25 (x := a0) rfl ?_
  refine i_138_26 (x := 8) rfl ?_
  refine i_138_27 (c := ((a0.toUInt32 >>> ((8 : Int32).toUInt32 &&& Int32.toUInt32 31)).toInt32)) rfl ?_
  refine i_138_28 (c := ((a0.toUInt32 >>> ((8 : Int32).toUInt32 &&& Int32.toUInt32 31)).toInt32).toInt8.toInt32) rfl ?_
  refine i_138_29 (v := Value.int ((((a0.toUInt32 >>> ((8 : Int32).toUInt32 &&& Int32.toUInt32 31)).toInt32).toInt8.toInt32).toInt8.toInt32)) (xgn (by decide) (xgs (xgn (by decide) (xgs hw1)))) (by decide) (by decide) (by decide) rfl ?_
  refine i_138_30 (x := 7) rfl ?_
  refine i_138_31 rfl ?_
  refine i_138_32 (v := Value.int 2) (xgn (by decide) (xgs (xgn (by decide) (xgs (xgn (by decide) hw0))))) rfl ?_
  refine i_138_35 ?_
  refine i_138_36 (c := 3) (by decide) ?_
  refine i_138_37 (fs2 := [Value.ref 8, Value.ref 78, Value.ref 9, Value.ref 10, Value.ref 13, Value.ref 16, Value.ref 19, Value.ref 93, Value.ref 108, Value.ref 113, Value.ref 29, Value.int 3]) (xgn (by decide) (xgs (xgn (by decide) (xgs (xgn (by decide) hw0))))) (Nat.le_of_ble_eq_true rfl) rfl (by decide) ?_
  refine i_138_40 (x := 8) (c := 0) (lv2 := [(2, Value.int 0), (0, Value.ref 7), (1, Value.int a0)]) rfl (by decide) rfl ?_
  refine i_138_43 ?_
  refine i_138_3 (x := 0) rfl ?_
  refine i_138_4 (fun h => absurd h (by decide)) (fun _ => ?_)
  refine i_138_7 (x := 7) rfl ?_
  refine i_138_8 (v := Value.int 3) (xgs (xgn (by decide) (xgs (xgn (by decide) (xgs (xgn (by decide) hw0)))))) rfl ?_
  refine i_138_11 ?_
  refine i_138_14 (fun h => absurd h (by decide)) (fun _ => ?_)
  refine i_138_17 (x := 7) rfl ?_
  refine i_138_18 (v := Value.ref 29) (xgs (xgn (by decide) (xgs (xgn (by decide) (xgs (xgn (by decide) hw0)))))) rfl ?_
  refine i_138_21 (x := 7) rfl ?_
  refine i_138_22 (v := Value.int 3) (xgs (xgn (by decide) (xgs (xgn (by decide) (xgs (xgn (by decide) hw0)))))) rfl ?_
  refine i_138_25 (x := a0) rfl ?_
  refine i_138_26 (x := 0) rfl ?_
  refine i_138_27 (c := ((a0.toUInt32 >>> ((0 : Int32).toUInt32 &&& Int32.toUInt32 31)).toInt32)) rfl ?_
  refine i_138_28 (c := ((a0.toUInt32 >>> ((0 : Int32).toUInt32 &&& Int32.toUInt32 31)).toInt32).toInt8.toInt32) rfl ?_
  refine i_138_29 (v := Value.int ((((a0.toUInt32 >>> ((0 : Int32).toUInt32 &&& Int32.toUInt32 31)).toInt32).toInt8.toInt32).toInt8.toInt32)) (xgn (by decide) (xgs (xgn (by decide) (xgs (xgn (by decide) (xgs hw1)))))) (by decide) (by decide) (by decide) rfl ?_
  refine i_138_30 (x := 7) rfl ?_
  refine i_138_31 rfl ?_
  refine i_138_32 (v := Value.int 3) (xgn (by decide) (xgs (xgn (by decide) (xgs (xgn (by decide) (xgs (xgn (by decide) hw0))))))) rfl ?_
  refine i_138_35 ?_
  refine i_138_36 (c := 4) (by decide) ?_
  refine i_138_37 (fs2 := [Value.ref 8, Value.ref 78, Value.ref 9, Value.ref 10, Value.ref 13, Value.ref 16, Value.ref 19, Value.ref 93, Value.ref 108, Value.ref 113, Value.ref 29, Value.int 4]) (xgn (by decide) (xgs (xgn (by decide) (xgs (xgn (by decide) (xgs (xgn (by decide) hw0))))))) (Nat.le_of_ble_eq_true rfl) rfl (by decide) ?_
  refine i_138_40 (x := 0) (c := (-8)) (lv2 := [(2, Value.int (-8)), (0, Value.ref 7), (1, Value.int a0)]) rfl (by decide) rfl ?_
  refine i_138_43 ?_
  refine i_138_3 (x := (-8)) rfl ?_
  refine i_138_4 (fun _ => ?_) (fun h => absurd h (by decide))
  exact i_138_46 ⟨rfl, rfl⟩
theorem p_138_1 {d : Nat} {w : xW} {a0 : Int32} {g0 : Nat → Value} (hw0 : w[7]? = some (Sum.inr (0, [Value.ref 8, Value.ref 78, Value.ref 9, Value.ref 10, Value.ref 13, Value.ref 16, Value.ref 19, Value.ref 93, Value.ref 108, Value.ref 113, Value.ref 29, Value.int 4]))) (hw1 : w[29]? = some (Sum.inl (1, 4096, g0))) : xRun d 138 [Value.ref 7, Value.int a0] w (.inl none) ((((((((w.set 29 (Sum.inl (1, 4096, xup g0 (4 : Int32).toInt.toNat (Value.int ((((a0.toUInt32 >>> ((24 : Int32).toUInt32 &&& Int32.toUInt32 31)).toInt32).toInt8.toInt32).toInt8.toInt32))))).set 7 (Sum.inr (0, [Value.ref 8, Value.ref 78, Value.ref 9, Value.ref 10, Value.ref 13, Value.ref 16, Value.ref 19, Value.ref 93, Value.ref 108, Value.ref 113, Value.ref 29, Value.int 5]))).set 29 (Sum.inl (1, 4096, xup (xup g0 (4 : Int32).toInt.toNat (Value.int ((((a0.toUInt32 >>> ((24 : Int32).toUInt32 &&& Int32.toUInt32 31)).toInt32).toInt8.toInt32).toInt8.toInt32))) (5 : Int32).toInt.toNat (Value.int ((((a0.toUInt32 >>> ((16 : Int32).toUInt32 &&& Int32.toUInt32 31)).toInt32).toInt8.toInt32).toInt8.toInt32))))).set 7 (Sum.inr (0, [Value.ref 8, Value.ref 78, Value.ref 9, Value.ref 10, Value.ref 13, Value.ref 16, Value.ref 19, Value.ref 93, Value.ref 108, Value.ref 113, Value.ref 29, Value.int 6]))).set 29 (Sum.inl (1, 4096, xup (xup (xup g0 (4 : Int32).toInt.toNat (Value.int ((((a0.toUInt32 >>> ((24 : Int32).toUInt32 &&& Int32.toUInt32 31)).toInt32).toInt8.toInt32).toInt8.toInt32))) (5 : Int32).toInt.toNat (Value.int ((((a0.toUInt32 >>> ((16 : Int32).toUInt32 &&& Int32.toUInt32 31)).toInt32).toInt8.toInt32).toInt8.toInt32))) (6 : Int32).toInt.toNat (Value.int ((((a0.toUInt32 >>> ((8 : Int32).toUInt32 &&& Int32.toUInt32 31)).toInt32).toInt8.toInt32).toInt8.toInt32))))).set 7 (Sum.inr (0, [Value.ref 8, Value.ref 78, Value.ref 9, Value.ref 10, Value.ref 13, Value.ref 16, Value.ref 19, Value.ref 93, Value.ref 108, Value.ref 113, Value.ref 29, Value.int 7]))).set 29 (Sum.inl (1, 4096, xup (xup (xup (xup g0 (4 : Int32).toInt.toNat (Value.int ((((a0.toUInt32 >>> ((24 : Int32).toUInt32 &&& Int32.toUInt32 31)).toInt32).toInt8.toInt32).toInt8.toInt32))) (5 : Int32).toInt.toNat (Value.int ((((a0.toUInt32 >>> ((16 : Int32).toUInt32 &&& Int32.toUInt32 31)).toInt32).toInt8.toInt32).toInt8.toInt32))) (6 : Int32).toInt.toNat (Value.int ((((a0.toUInt32 >>> ((8 : Int32).toUInt32 &&& Int32.toUInt32 31)).toInt32).toInt8.toInt32).toInt8.toInt32))) (7 : Int32).toInt.toNat (Value.int ((((a0.toUInt32 >>> ((0 : Int32).toUInt32 &&& Int32.toUInt32 31)).toInt32).toInt8.toInt32).toInt8.toInt32))))).set 7 (Sum.inr (0, [Value.ref 8, Value.ref 78, Value.ref 9, Value.ref 10, Value.ref 13, Value.ref 16, Value.ref 19, Value.ref 93, Value.ref 108, Value.ref 113, Value.ref 29, Value.int 8]))) := by
  refine xRun.of ?_
  refine i_138_0 ?_
  refine i_138_2 (lv2 := [(2, Value.int 24), (0, Value.ref 7), (1, Value.int a0)]) rfl ?_
  refine i_138_3 (x := 24) rfl ?_
  refine i_138_4 (fun h => absurd h (by decide)) (fun _ => ?_)
  refine i_138_7 (x := 7) rfl ?_
  refine i_138_8 (v := Value.int 4) hw0 rfl ?_
  refine i_138_11 ?_
  refine i_138_14 (fun h => absurd h (by decide)) (fun _ => ?_)
  refine i_138_17 (x := 7) rfl ?_
  refine i_138_18 (v := Value.ref 29) hw0 rfl ?_
  refine i_138_21 (x := 7) rfl ?_
  refine i_138_22 (v := Value.int 4) hw0 rfl ?_
  refine i_138_25 (x := a0) rfl ?_
  refine i_138_26 (x := 24) rfl ?_
  refine i_138_27 (c := ((a0.toUInt32 >>> ((24 : Int32).toUInt32 &&& Int32.toUInt32 31)).toInt32)) rfl ?_
  refine i_138_28 (c := ((a0.toUInt32 >>> ((24 : Int32).toUInt32 &&& Int32.toUInt32 31)).toInt32).toInt8.toInt32) rfl ?_
  refine i_138_29 (v := Value.int ((((a0.toUInt32 >>> ((24 : Int32).toUInt32 &&& Int32.toUInt32 31)).toInt32).toInt8.toInt32).toInt8.toInt32)) hw1 (by decide) (by decide) (by decide) rfl ?_
  refine i_138_30 (x := 7) rfl ?_
  refine i_138_31 rfl ?_
  refine i_138_32 (v := Value.int 4) (xgn (by decide) hw0) rfl ?_
  refine i_138_35 ?_
  refine i_138_36 (c := 5) (by decide) ?_
  refine i_138_37 (fs2 := [Value.ref 8, Value.ref 78, Value.ref 9, Value.ref 10, Value.ref 13, Value.ref 16, Value.ref 19, Value.ref 93, Value.ref 108, Value.ref 113, Value.ref 29, Value.int 5]) (xgn (by decide) hw0) (Nat.le_of_ble_eq_true rfl) rfl (by decide) ?_
  refine i_138_40 (x := 24) (c := 16) (lv2 := [(2, Value.int 16), (0, Value.ref 7), (1, Value.int a0)]) rfl (by decide) rfl ?_
  refine i_138_43 ?_
  refine i_138_3 (x := 16) rfl ?_
  refine i_138_4 (fun h => absurd h (by decide)) (fun _ => ?_)
  refine i_138_7 (x := 7) rfl ?_
  refine i_138_8 (v := Value.int 5) (xgs (xgn (by decide) hw0)) rfl ?_
  refine i_138_11 ?_
  refine i_138_14 (fun h => absurd h (by decide)) (fun _ => ?_)
  refine i_138_17 (x := 7) rfl ?_
  refine i_138_18 (v := Value.ref 29) (xgs (xgn (by decide) hw0)) rfl ?_
  refine i_138_21 (x := 7) rfl ?_
  refine i_138_22 (v := Value.int 5) (xgs (xgn (by decide) hw0)) rfl ?_
  refine i_138_25 (x := a0) rfl ?_
  refine i_138_26 (x := 16) rfl ?_
  refine i_138_27 (c := ((a0.toUInt32 >>> ((16 : Int32).toUInt32 &&& Int32.toUInt32 31)).toInt32)) rfl ?_
  refine i_138_28 (c := ((a0.toUInt32 >>> ((16 : Int32).toUInt32 &&& Int32.toUInt32 31)).toInt32).toInt8.toInt32) rfl ?_
  refine i_138_29 (v := Value.int ((((a0.toUInt32 >>> ((16 : Int32).toUInt32 &&& Int32.toUInt32 31)).toInt32).toInt8.toInt32).toInt8.toInt32)) (xgn (by decide) (xgs hw1)) (by decide) (by decide) (by decide) rfl ?_
  refine i_138_30 (x := 7) rfl ?_
  refine i_138_31 rfl ?_
  refine i_138_32 (v := Value.int 5) (xgn (by decide) (xgs (xgn (by decide) hw0))) rfl ?_
  refine i_138_35 ?_
  refine i_138_36 (c := 6) (by decide) ?_
  refine i_138_37 (fs2 := [Value.ref 8, Value.ref 78, Value.ref 9, Value.ref 10, Value.ref 13, Value.ref 16, Value.ref 19, Value.ref 93, Value.ref 108, Value.ref 113, Value.ref 29, Value.int 6]) (xgn (by decide) (xgs (xgn (by decide) hw0))) (Nat.le_of_ble_eq_true rfl) rfl (by decide) ?_
  refine i_138_40 (x := 16) (c := 8) (lv2 := [(2, Value.int 8), (0, Value.ref 7), (1, Value.int a0)]) rfl (by decide) rfl ?_
  refine i_138_43 ?_
  refine i_138_3 (x := 8) rfl ?_
  refine i_138_4 (fun h => absurd h (by decide)) (fun _ => ?_)
  refine i_138_7 (x := 7) rfl ?_
  refine i_138_8 (v := Value.int 6) (xgs (xgn (by decide) (xgs (xgn (by decide) hw0)))) rfl ?_
  refine i_138_11 ?_
  refine i_138_14 (fun h => absurd h (by decide)) (fun _ => ?_)
  refine i_138_17 (x := 7) rfl ?_
  refine i_138_18 (v := Value.ref 29) (xgs (xgn (by decide) (xgs (xgn (by decide) hw0)))) rfl ?_
  refine i_138_21 (x := 7) rfl ?_
  refine i_138_22 (v := Value.int 6) (xgs (xgn (by decide) (xgs (xgn (by decide) hw0)))) rfl ?_
  refine i_138_25 (x := a0) rfl ?_
  refine i_138_26 (x := 8) rfl ?_
  refine i_138_27 (c := ((a0.toUInt32 >>> ((8 : Int32).toUInt32 &&& Int32.toUInt32 31)).toInt32)) rfl ?_
  refine i_138_28 (c := ((a0.toUInt32 >>> ((8 : Int32).toUInt32 &&& Int32.toUInt32 31)).toInt32).toInt8.toInt32) rfl ?_
  refine i_138_29 (v := Value.int ((((a0.toUInt32 >>> ((8 : Int32).toUInt32 &&& Int32.toUInt32 31)).toInt32).toInt8.toInt32).toInt8.toInt32)) (xgn (by decide) (xgs (xgn (by decide) (xgs hw1)))) (by decide) (by decide) (by decide) rfl ?_
  refine i_138_30 (x := 7) rfl ?_
  refine i_138_31 rfl ?_
  refine i_138_32 (v := Value.int 6) (xgn (by decide) (xgs (xgn (by decide) (xgs (xgn (by decide) hw0))))) rfl ?_
  refine i_138_35 ?_
  refine i_138_36 (c := 7) (by decide) ?_
  refine i_138_37 (fs2 := [Value.ref 8, Value.ref 78, Value.ref 9, Value.ref 10, Value.ref 13, Value.ref 16, Value.ref 19, Value.ref 93, Value.ref 108, Value.ref 113, Value.ref 29, Value.int 7]) (xgn (by decide) (xgs (xgn (by decide) (xgs (xgn (by decide) hw0))))) (Nat.le_of_ble_eq_true rfl) rfl (by decide) ?_
  refine i_138_40 (x := 8) (c := 0) (lv2 := [(2, Value.int 0), (0, Value.ref 7), (1, Value.int a0)]) rfl (by decide) rfl ?_
  refine i_138_43 ?_
  refine i_138_3 (x := 0) rfl ?_
  refine i_138_4 (fun h => absurd h (by decide)) (fun _ => ?_)
  refine i_138_7 (x := 7) rfl ?_
  refine i_138_8 (v := Value.int 7) (xgs (xgn (by decide) (xgs (xgn (by decide) (xgs (xgn (by decide) hw0)))))) rfl ?_
  refine i_138_11 ?_
  refine i_138_14 (fun h => absurd h (by decide)) (fun _ => ?_)
  refine i_138_17 (x := 7) rfl ?_
  refine i_138_18 (v := Value.ref 29) (xgs (xgn (by decide) (xgs (xgn (by decide) (xgs (xgn (by decide) hw0)))))) rfl ?_
  refine i_138_21 (x := 7) rfl ?_
  refine i_138_22 (v := Value.int 7) (xgs (xgn (by decide) (xgs (xgn (by decide) (xgs (xgn (by decide) hw0)))))) rfl ?_
  refine i_138_25 (x := a0) rfl ?_
  refine i_138_26 (x := 0) rfl ?_
  refine i_138_27 (c := ((a0.toUInt32 >>> ((0 : Int32).toUInt32 &&& Int32.toUInt32 31)).toInt32)) rfl ?_
  refine i_138_28 (c := ((a0.toUInt32 >>> ((0 : Int32).toUInt32 &&& Int32.toUInt32 31)).toInt32).toInt8.toInt32) rfl ?_
  refine i_138_29 (v := Value.int ((((a0.toUInt32 >>> ((0 : Int32).toUInt32 &&& Int32.toUInt32 31)).toInt32).toInt8.toInt32).toInt8.toInt32)) (xgn (by decide) (xgs (xgn (by decide) (xgs (xgn (by decide) (xgs hw1)))))) (by decide) (by decide) (by decide) rfl ?_
  refine i_138_30 (x := 7) rfl ?_
  refine i_138_31 rfl ?_
  refine i_138_32 (v := Value.int 7) (xgn (by decide) (xgs (xgn (by decide) (xgs (xgn (by decide) (xgs (xgn (by decide) hw0))))))) rfl ?_
  refine i_138_35 ?_
  refine i_138_36 (c := 8) (by decide) ?_
  refine i_138_37 (fs2 := [Value.ref 8, Value.ref 78, Value.ref 9, Value.ref 10, Value.ref 13, Value.ref 16, Value.ref 19, Value.ref 93, Value.ref 108, Value.ref 113, Value.ref 29, Value.int 8]) (xgn (by decide) (xgs (xgn (by decide) (xgs (xgn (by decide) (xgs (xgn (by decide) hw0))))))) (Nat.le_of_ble_eq_true rfl) rfl (by decide) ?_
  refine i_138_40 (x := 0) (c := (-8)) (lv2 := [(2, Value.int (-8)), (0, Value.ref 7), (1, Value.int a0)]) rfl (by decide) rfl ?_
  refine i_138_43 ?_
  refine i_138_3 (x := (-8)) rfl ?_
  refine i_138_4 (fun _ => ?_) (fun h => absurd h (by decide))
  exact i_138_46 ⟨rfl, rfl⟩
theorem p_138_2 {d : Nat} {w : xW} {a0 : Int32} {g0 : Nat → Value} (hw0 : w[7]? = some (Sum.inr (0, [Value.ref 8, Value.ref 78, Value.ref 9, Value.ref 10, Value.ref 13, Value.ref 16, Value.ref 19, Value.ref 93, Value.ref 108, Value.ref 113, Value.ref 29, Value.int 8]))) (hw1 : w[29]? = some (Sum.inl (1, 4096, g0))) : xRun d 138 [Value.ref 7, Value.int a0] w (.inl none) ((((((((w.set 29 (Sum.inl (1, 4096, xup g0 (8 : Int32).toInt.toNat (Value.int ((((a0.toUInt32 >>> ((24 : Int32).toUInt32 &&& Int32.toUInt32 31)).toInt32).toInt8.toInt32).toInt8.toInt32))))).set 7 (Sum.inr (0, [Value.ref 8, Value.ref 78, Value.ref 9, Value.ref 10, Value.ref 13, Value.ref 16, Value.ref 19, Value.ref 93, Value.ref 108, Value.ref 113, Value.ref 29, Value.int 9]))).set 29 (Sum.inl (1, 4096, xup (xup g0 (8 : Int32).toInt.toNat (Value.int ((((a0.toUInt32 >>> ((24 : Int32).toUInt32 &&& Int32.toUInt32 31)).toInt32).toInt8.toInt32).toInt8.toInt32))) (9 : Int32).toInt.toNat (Value.int ((((a0.toUInt32 >>> ((16 : Int32).toUInt32 &&& Int32.toUInt32 31)).toInt32).toInt8.toInt32).toInt8.toInt32))))).set 7 (Sum.inr (0, [Value.ref 8, Value.ref 78, Value.ref 9, Value.ref 10, Value.ref 13, Value.ref 16, Value.ref 19, Value.ref 93, Value.ref 108, Value.ref 113, Value.ref 29, Value.int 10]))).set 29 (Sum.inl (1, 4096, xup (xup (xup g0 (8 : Int32).toInt.toNat (Value.int ((((a0.toUInt32 >>> ((24 : Int32).toUInt32 &&& Int32.toUInt32 31)).toInt32).toInt8.toInt32).toInt8.toInt32))) (9 : Int32).toInt.toNat (Value.int ((((a0.toUInt32 >>> ((16 : Int32).toUInt32 &&& Int32.toUInt32 31)).toInt32).toInt8.toInt32).toInt8.toInt32))) (10 : Int32).toInt.toNat (Value.int ((((a0.toUInt32 >>> ((8 : Int32).toUInt32 &&& Int32.toUInt32 31)).toInt32).toInt8.toInt32).toInt8.toInt32))))).set 7 (Sum.inr (0, [Value.ref 8, Value.ref 78, Value.ref 9, Value.ref 10, Value.ref 13, Value.ref 16, Value.ref 19, Value.ref 93, Value.ref 108, Value.ref 113, Value.ref 29, Value.int 11]))).set 29 (Sum.inl (1, 4096, xup (xup (xup (xup g0 (8 : Int32).toInt.toNat (Value.int ((((a0.toUInt32 >>> ((24 : Int32).toUInt32 &&& Int32.toUInt32 31)).toInt32).toInt8.toInt32).toInt8.toInt32))) (9 : Int32).toInt.toNat (Value.int ((((a0.toUInt32 >>> ((16 : Int32).toUInt32 &&& Int32.toUInt32 31)).toInt32).toInt8.toInt32).toInt8.toInt32))) (10 : Int32).toInt.toNat (Value.int ((((a0.toUInt32 >>> ((8 : Int32).toUInt32 &&& Int32.toUInt32 31)).toInt32).toInt8.toInt32).toInt8.toInt32))) (11 : Int32).toInt.toNat (Value.int ((((a0.toUInt32 >>> ((0 : Int32).toUInt32 &&& Int32.toUInt32 31)).toInt32).toInt8.toInt32).toInt8.toInt32))))).set 7 (Sum.inr (0, [Value.ref 8, Value.ref 78, Value.ref 9, Value.ref 10, Value.ref 13, Value.ref 16, Value.ref 19, Value.ref 93, Value.ref 108, Value.ref 113, Value.ref 29, Value.int 12]))) := by
  refine xRun.of ?_
  refine i_138_0 ?_
  refine i_138_2 (lv2 := [(2, Value.int 24), (0, Value.ref 7), (1, Value.int a0)]) rfl ?_
  refine i_138_3 (x := 24) rfl ?_
  refine i_138_4 (fun h => absurd h (by decide)) (fun _ => ?_)
  refine i_138_7 (x := 7) rfl ?_
  refine i_138_8 (v := Value.int 8) hw0 rfl ?_
  refine i_138_11 ?_
  refine i_138_14 (fun h => absurd h (by decide)) (fun _ => ?_)
  refine i_138_17 (x := 7) rfl ?_
  refine i_138_18 (v := Value.ref 29) hw0 rfl ?_
  refine i_138_21 (x := 7) rfl ?_
  refine i_138_22 (v := Value.int 8) hw0 rfl ?_
  refine i_138_25 (x := a0) rfl ?_
  refine i_138_26 (x := 24) rfl ?_
  refine i_138_27 (c := ((a0.toUInt32 >>> ((24 : Int32).toUInt32 &&& Int32.toUInt32 31)).toInt32)) rfl ?_
  refine i_138_28 (c := ((a0.toUInt32 >>> ((24 : Int32).toUInt32 &&& Int32.toUInt32 31)).toInt32).toInt8.toInt32) rfl ?_
  refine i_138_29 (v := Value.int ((((a0.toUInt32 >>> ((24 : Int32).toUInt32 &&& Int32.toUInt32 31)).toInt32).toInt8.toInt32).toInt8.toInt32)) hw1 (by decide) (by decide) (by decide) rfl ?_
  refine i_138_30 (x := 7) rfl ?_
  refine i_138_31 rfl ?_
  refine i_138_32 (v := Value.int 8) (xgn (by decide) hw0) rfl ?_
  refine i_138_35 ?_
  refine i_138_36 (c := 9) (by decide) ?_
  refine i_138_37 (fs2 := [Value.ref 8, Value.ref 78, Value.ref 9, Value.ref 10, Value.ref 13, Value.ref 16, Value.ref 19, Value.ref 93, Value.ref 108, Value.ref 113, Value.ref 29, Value.int 9]) (xgn (by decide) hw0) (Nat.le_of_ble_eq_true rfl) rfl (by decide) ?_
  refine i_138_40 (x := 24) (c := 16) (lv2 := [(2, Value.int 16), (0, Value.ref 7), (1, Value.int a0)]) rfl (by decide) rfl ?_
  refine i_138_43 ?_
  refine i_138_3 (x := 16) rfl ?_
  refine i_138_4 (fun h => absurd h (by decide)) (fun _ => ?_)
  refine i_138_7 (x := 7) rfl ?_
  refine i_138_8 (v := Value.int 9) (xgs (xgn (by decide) hw0)) rfl ?_
  refine i_138_11 ?_
  refine i_138_14 (fun h => absurd h (by decide)) (fun _ => ?_)
  refine i_138_17 (x := 7) rfl ?_
  refine i_138_18 (v := Value.ref 29) (xgs (xgn (by decide) hw0)) rfl ?_
  refine i_138_21 (x := 7) rfl ?_
  refine i_138_22 (v := Value.int 9) (xgs (xgn (by decide) hw0)) rfl ?_
  refine i_138_25 (x := a0) rfl ?_
  refine i_138_26 (x := 16) rfl ?_
  refine i_138_27 (c := ((a0.toUInt32 >>> ((16 : Int32).toUInt32 &&& Int32.toUInt32 31)).toInt32)) rfl ?_
  refine i_138_28 (c := ((a0.toUInt32 >>> ((16 : Int32).toUInt32 &&& Int32.toUInt32 31)).toInt32).toInt8.toInt32) rfl ?_
  refine i_138_29 (v := Value.int ((((a0.toUInt32 >>> ((16 : Int32).toUInt32 &&& Int32.toUInt32 31)).toInt32).toInt8.toInt32).toInt8.toInt32)) (xgn (by decide) (xgs hw1)) (by decide) (by decide) (by decide) rfl ?_
  refine i_138_30 (x := 7) rfl ?_
  refine i_138_31 rfl ?_
  refine i_138_32 (v := Value.int 9) (xgn (by decide) (xgs (xgn (by decide) hw0))) rfl ?_
  refine i_138_35 ?_
  refine i_138_36 (c := 10) (by decide) ?_
  refine i_138_37 (fs2 := [Value.ref 8, Value.ref 78, Value.ref 9, Value.ref 10, Value.ref 13, Value.ref 16, Value.ref 19, Value.ref 93, Value.ref 108, Value.ref 113, Value.ref 29, Value.int 10]) (xgn (by decide) (xgs (xgn (by decide) hw0))) (Nat.le_of_ble_eq_true rfl) rfl (by decide) ?_
  refine i_138_40 (x := 16) (c := 8) (lv2 := [(2, Value.int 8), (0, Value.ref 7), (1, Value.int a0)]) rfl (by decide) rfl ?_
  refine i_138_43 ?_
  refine i_138_3 (x := 8) rfl ?_
  refine i_138_4 (fun h => absurd h (by decide)) (fun _ => ?_)
  refine i_138_7 (x := 7) rfl ?_
  refine i_138_8 (v := Value.int 10) (xgs (xgn (by decide) (xgs (xgn (by decide) hw0)))) rfl ?_
  refine i_138_11 ?_
  refine i_138_14 (fun h => absurd h (by decide)) (fun _ => ?_)
  refine i_138_17 (x := 7) rfl ?_
  refine i_138_18 (v := Value.ref 29) (xgs (xgn (by decide) (xgs (xgn (by decide) hw0)))) rfl ?_
  refine i_138_21 (x := 7) rfl ?_
  refine i_138_22 (v := Value.int 10) (xgs (xgn (by decide) (xgs (xgn (by decide) hw0)))) rfl ?_
  refine i_138_25 (x := a0) rfl ?_
  refine i_138_26 (x := 8) rfl ?_
  refine i_138_27 (c := ((a0.toUInt32 >>> ((8 : Int32).toUInt32 &&& Int32.toUInt32 31)).toInt32)) rfl ?_
  refine i_138_28 (c := ((a0.toUInt32 >>> ((8 : Int32).toUInt32 &&& Int32.toUInt32 31)).toInt32).toInt8.toInt32) rfl ?_
  refine i_138_29 (v := Value.int ((((a0.toUInt32 >>> ((8 : Int32).toUInt32 &&& Int32.toUInt32 31)).toInt32).toInt8.toInt32).toInt8.toInt32)) (xgn (by decide) (xgs (xgn (by decide) (xgs hw1)))) (by decide) (by decide) (by decide) rfl ?_
  refine i_138_30 (x := 7) rfl ?_
  refine i_138_31 rfl ?_
  refine i_138_32 (v := Value.int 10) (xgn (by decide) (xgs (xgn (by decide) (xgs (xgn (by decide) hw0))))) rfl ?_
  refine i_138_35 ?_
  refine i_138_36 (c := 11) (by decide) ?_
  refine i_138_37 (fs2 := [Value.ref 8, Value.ref 78, Value.ref 9, Value.ref 10, Value.ref 13, Value.ref 16, Value.ref 19, Value.ref 93, Value.ref 108, Value.ref 113, Value.ref 29, Value.int 11]) (xgn (by decide) (xgs (xgn (by decide) (xgs (xgn (by decide) hw0))))) (Nat.le_of_ble_eq_true rfl) rfl (by decide) ?_
  refine i_138_40 (x := 8) (c := 0) (lv2 := [(2, Value.int 0), (0, Value.ref 7), (1, Value.int a0)]) rfl (by decide) rfl ?_
  refine i_138_43 ?_
  refine i_138_3 (x := 0) rfl ?_
  refine i_138_4 (fun h => absurd h (by decide)) (fun _ => ?_)
  refine i_138_7 (x := 7) rfl ?_
  refine i_138_8 (v := Value.int 11) (xgs (xgn (by decide) (xgs (xgn (by decide) (xgs (xgn (by decide) hw0)))))) rfl ?_
  refine i_138_11 ?_
  refine i_138_14 (fun h => absurd h (by decide)) (fun _ => ?_)
  refine i_138_17 (x := 7) rfl ?_
  refine i_138_18 (v := Value.ref 29) (xgs (xgn (by decide) (xgs (xgn (by decide) (xgs (xgn (by decide) hw0)))))) rfl ?_
  refine i_138_21 (x := 7) rfl ?_
  refine i_138_22 (v := Value.int 11) (xgs (xgn (by decide) (xgs (xgn (by decide) (xgs (xgn (by decide) hw0)))))) rfl ?_
  refine i_138_25 (x := a0) rfl ?_
  refine i_138_26 (x := 0) rfl ?_
  refine i_138_27 (c := ((a0.toUInt32 >>> ((0 : Int32).toUInt32 &&& Int32.toUInt32 31)).toInt32)) rfl ?_
  refine i_138_28 (c := ((a0.toUInt32 >>> ((0 : Int32).toUInt32 &&& Int32.toUInt32 31)).toInt32).toInt8.toInt32) rfl ?_
  refine i_138_29 (v := Value.int ((((a0.toUInt32 >>> ((0 : Int32).toUInt32 &&& Int32.toUInt32 31)).toInt32).toInt8.toInt32).toInt8.toInt32)) (xgn (by decide) (xgs (xgn (by decide) (xgs (xgn (by decide) (xgs hw1)))))) (by decide) (by decide) (by decide) rfl ?_
  refine i_138_30 (x := 7) rfl ?_
  refine i_138_31 rfl ?_
  refine i_138_32 (v := Value.int 11) (xgn (by decide) (xgs (xgn (by decide) (xgs (xgn (by decide) (xgs (xgn (by decide) hw0))))))) rfl ?_
  refine i_138_35 ?_
  refine i_138_36 (c := 12) (by decide) ?_
  refine i_138_37 (fs2 := [Value.ref 8, Value.ref 78, Value.ref 9, Value.ref 10, Value.ref 13, Value.ref 16, Value.ref 19, Value.ref 93, Value.ref 108, Value.ref 113, Value.ref 29, Value.int 12]) (xgn (by decide) (xgs (xgn (by decide) (xgs (xgn (by decide) (xgs (xgn (by decide) hw0))))))) (Nat.le_of_ble_eq_true rfl) rfl (by decide) ?_
  refine i_138_40 (x := 0) (c := (-8)) (lv2 := [(2, Value.int (-8)), (0, Value.ref 7), (1, Value.int a0)]) rfl (by decide) rfl ?_
  refine i_138_43 ?_
  refine i_138_3 (x := (-8)) rfl ?_
  refine i_138_4 (fun _ => ?_) (fun h => absurd h (by decide))
  exact i_138_46 ⟨rfl, rfl⟩
theorem p_138_3 {d : Nat} {w : xW} {a0 : Int32} {g0 : Nat → Value} (hw0 : w[7]? = some (Sum.inr (0, [Value.ref 8, Value.ref 78, Value.ref 9, Value.ref 10, Value.ref 13, Value.ref 16, Value.ref 19, Value.ref 93, Value.ref 108, Value.ref 113, Value.ref 29, Value.int 12]))) (hw1 : w[29]? = some (Sum.inl (1, 4096, g0))) : xRun d 138 [Value.ref 7, Value.int a0] w (.inl none) ((((((((w.set 29 (Sum.inl (1, 4096, xup g0 (12 : Int32).toInt.toNat (Value.int ((((a0.toUInt32 >>> ((24 : Int32).toUInt32 &&& Int32.toUInt32 31)).toInt32).toInt8.toInt32).toInt8.toInt32))))).set 7 (Sum.inr (0, [Value.ref 8, Value.ref 78, Value.ref 9, Value.ref 10, Value.ref 13, Value.ref 16, Value.ref 19, Value.ref 93, Value.ref 108, Value.ref 113, Value.ref 29, Value.int 13]))).set 29 (Sum.inl (1, 4096, xup (xup g0 (12 : Int32).toInt.toNat (Value.int ((((a0.toUInt32 >>> ((24 : Int32).toUInt32 &&& Int32.toUInt32 31)).toInt32).toInt8.toInt32).toInt8.toInt32))) (13 : Int32).toInt.toNat (Value.int ((((a0.toUInt32 >>> ((16 : Int32).toUInt32 &&& Int32.toUInt32 31)).toInt32).toInt8.toInt32).toInt8.toInt32))))).set 7 (Sum.inr (0, [Value.ref 8, Value.ref 78, Value.ref 9, Value.ref 10, Value.ref 13, Value.ref 16, Value.ref 19, Value.ref 93, Value.ref 108, Value.ref 113, Value.ref 29, Value.int 14]))).set 29 (Sum.inl (1, 4096, xup (xup (xup g0 (12 : Int32).toInt.toNat (Value.int ((((a0.toUInt32 >>> ((24 : Int32).toUInt32 &&& Int32.toUInt32 31)).toInt32).toInt8.toInt32).toInt8.toInt32))) (13 : Int32).toInt.toNat (Value.int ((((a0.toUInt32 >>> ((16 : Int32).toUInt32 &&& Int32.toUInt32 31)).toInt32).toInt8.toInt32).toInt8.toInt32))) (14 : Int32).toInt.toNat (Value.int ((((a0.toUInt32 >>> ((8 : Int32).toUInt32 &&& Int32.toUInt32 31)).toInt32).toInt8.toInt32).toInt8.toInt32))))).set 7 (Sum.inr (0, [Value.ref 8, Value.ref 78, Value.ref 9, Value.ref 10, Value.ref 13, Value.ref 16, Value.ref 19, Value.ref 93, Value.ref 108, Value.ref 113, Value.ref 29, Value.int 15]))).set 29 (Sum.inl (1, 4096, xup (xup (xup (xup g0 (12 : Int32).toInt.toNat (Value.int ((((a0.toUInt32 >>> ((24 : Int32).toUInt32 &&& Int32.toUInt32 31)).toInt32).toInt8.toInt32).toInt8.toInt32))) (13 : Int32).toInt.toNat (Value.int ((((a0.toUInt32 >>> ((16 : Int32).toUInt32 &&& Int32.toUInt32 31)).toInt32).toInt8.toInt32).toInt8.toInt32))) (14 : Int32).toInt.toNat (Value.int ((((a0.toUInt32 >>> ((8 : Int32).toUInt32 &&& Int32.toUInt32 31)).toInt32).toInt8.toInt32).toInt8.toInt32))) (15 : Int32).toInt.toNat (Value.int ((((a0.toUInt32 >>> ((0 : Int32).toUInt32 &&& Int32.toUInt32 31)).toInt32).toInt8.toInt32).toInt8.toInt32))))).set 7 (Sum.inr (0, [Value.ref 8, Value.ref 78, Value.ref 9, Value.ref 10, Value.ref 13, Value.ref 16, Value.ref 19, Value.ref 93, Value.ref 108, Value.ref 113, Value.ref 29, Value.int 16]))) := by
  refine xRun.of ?_
  refine i_138_0 ?_
  refine i_138_2 (lv2 := [(2, Value.int 24), (0, Value.ref 7), (1, Value.int a0)]) rfl ?_
  refine i_138_3 (x := 24) rfl ?_
  refine i_138_4 (fun h => absurd h (by decide)) (fun _ => ?_)
  refine i_138_7 (x := 7) rfl ?_
  refine i_138_8 (v := Value.int 12) hw0 rfl ?_
  refine i_138_11 ?_
  refine i_138_14 (fun h => absurd h (by decide)) (fun _ => ?_)
  refine i_138_17 (x := 7) rfl ?_
  refine i_138_18 (v := Value.ref 29) hw0 rfl ?_
  refine i_138_21 (x := 7) rfl ?_
  refine i_138_22 (v := Value.int 12) hw0 rfl ?_
  refine i_138_25 (x := a0) rfl ?_
  refine i_138_26 (x := 24) rfl ?_
  refine i_138_27 (c := ((a0.toUInt32 >>> ((24 : Int32).toUInt32 &&& Int32.toUInt32 31)).toInt32)) rfl ?_
  refine i_138_28 (c := ((a0.toUInt32 >>> ((24 : Int32).toUInt32 &&& Int32.toUInt32 31)).toInt32).toInt8.toInt32) rfl ?_
  refine i_138_29 (v := Value.int ((((a0.toUInt32 >>> ((24 : Int32).toUInt32 &&& Int32.toUInt32 31)).toInt32).toInt8.toInt32).toInt8.toInt32)) hw1 (by decide) (by decide) (by decide) rfl ?_
  refine i_138_30 (x := 7) rfl ?_
  refine i_138_31 rfl ?_
  refine i_138_32 (v := Value.int 12) (xgn (by decide) hw0) rfl ?_
  refine i_138_35 ?_
  refine i_138_36 (c := 13) (by decide) ?_
  refine i_138_37 (fs2 := [Value.ref 8, Value.ref 78, Value.ref 9, Value.ref 10, Value.ref 13, Value.ref 16, Value.ref 19, Value.ref 93, Value.ref 108, Value.ref 113, Value.ref 29, Value.int 13]) (xgn (by decide) hw0) (Nat.le_of_ble_eq_true rfl) rfl (by decide) ?_
  refine i_138_40 (x := 24) (c := 16) (lv2 := [(2, Value.int 16), (0, Value.ref 7), (1, Value.int a0)]) rfl (by decide) rfl ?_
  refine i_138_43 ?_
  refine i_138_3 (x := 16) rfl ?_
  refine i_138_4 (fun h => absurd h (by decide)) (fun _ => ?_)
  refine i_138_7 (x := 7) rfl ?_
  refine i_138_8 (v := Value.int 13) (xgs (xgn (by decide) hw0)) rfl ?_
  refine i_138_11 ?_
  refine i_138_14 (fun h => absurd h (by decide)) (fun _ => ?_)
  refine i_138_17 (x := 7) rfl ?_
  refine i_138_18 (v := Value.ref 29) (xgs (xgn (by decide) hw0)) rfl ?_
  refine i_138_21 (x := 7) rfl ?_
  refine i_138_22 (v := Value.int 13) (xgs (xgn (by decide) hw0)) rfl ?_
  refine i_138_25 (x := a0) rfl ?_
  refine i_138_26 (x := 16) rfl ?_
  refine i_138_27 (c := ((a0.toUInt32 >>> ((16 : Int32).toUInt32 &&& Int32.toUInt32 31)).toInt32)) rfl ?_
  refine i_138_28 (c := ((a0.toUInt32 >>> ((16 : Int32).toUInt32 &&& Int32.toUInt32 31)).toInt32).toInt8.toInt32) rfl ?_
  refine i_138_29 (v := Value.int ((((a0.toUInt32 >>> ((16 : Int32).toUInt32 &&& Int32.toUInt32 31)).toInt32).toInt8.toInt32).toInt8.toInt32)) (xgn (by decide) (xgs hw1)) (by decide) (by decide) (by decide) rfl ?_
  refine i_138_30 (x := 7) rfl ?_
  refine i_138_31 rfl ?_
  refine i_138_32 (v := Value.int 13) (xgn (by decide) (xgs (xgn (by decide) hw0))) rfl ?_
  refine i_138_35 ?_
  refine i_138_36 (c := 14) (by decide) ?_
  refine i_138_37 (fs2 := [Value.ref 8, Value.ref 78, Value.ref 9, Value.ref 10, Value.ref 13, Value.ref 16, Value.ref 19, Value.ref 93, Value.ref 108, Value.ref 113, Value.ref 29, Value.int 14]) (xgn (by decide) (xgs (xgn (by decide) hw0))) (Nat.le_of_ble_eq_true rfl) rfl (by decide) ?_
  refine i_138_40 (x := 16) (c := 8) (lv2 := [(2, Value.int 8), (0, Value.ref 7), (1, Value.int a0)]) rfl (by decide) rfl ?_
  refine i_138_43 ?_
  refine i_138_3 (x := 8) rfl ?_
  refine i_138_4 (fun h => absurd h (by decide)) (fun _ => ?_)
  refine i_138_7 (x := 7) rfl ?_
  refine i_138_8 (v := Value.int 14) (xgs (xgn (by decide) (xgs (xgn (by decide) hw0)))) rfl ?_
  refine i_138_11 ?_
  refine i_138_14 (fun h => absurd h (by decide)) (fun _ => ?_)
  refine i_138_17 (x := 7) rfl ?_
  refine i_138_18 (v := Value.ref 29) (xgs (xgn (by decide) (xgs (xgn (by decide) hw0)))) rfl ?_
  refine i_138_21 (x := 7) rfl ?_
  refine i_138_22 (v := Value.int 14) (xgs (xgn (by decide) (xgs (xgn (by decide) hw0)))) rfl ?_
  refine i_138_25 (x := a0) rfl ?_
  refine i_138_26 (x := 8) rfl ?_
  refine i_138_27 (c := ((a0.toUInt32 >>> ((8 : Int32).toUInt32 &&& Int32.toUInt32 31)).toInt32)) rfl ?_
  refine i_138_28 (c := ((a0.toUInt32 >>> ((8 : Int32).toUInt32 &&& Int32.toUInt32 31)).toInt32).toInt8.toInt32) rfl ?_
  refine i_138_29 (v := Value.int ((((a0.toUInt32 >>> ((8 : Int32).toUInt32 &&& Int32.toUInt32 31)).toInt32).toInt8.toInt32).toInt8.toInt32)) (xgn (by decide) (xgs (xgn (by decide) (xgs hw1)))) (by decide) (by decide) (by decide) rfl ?_
  refine i_138_30 (x := 7) rfl ?_
  refine i_138_31 rfl ?_
  refine i_138_32 (v := Value.int 14) (xgn (by decide) (xgs (xgn (by decide) (xgs (xgn (by decide) hw0))))) rfl ?_
  refine i_138_35 ?_
  refine i_138_36 (c := 15) (by decide) ?_
  refine i_138_37 (fs2 := [Value.ref 8, Value.ref 78, Value.ref 9, Value.ref 10, Value.ref 13, Value.ref 16, Value.ref 19, Value.ref 93, Value.ref 108, Value.ref 113, Value.ref 29, Value.int 15]) (xgn (by decide) (xgs (xgn (by decide) (xgs (xgn (by decide) hw0))))) (Nat.le_of_ble_eq_true rfl) rfl (by decide) ?_
  refine i_138_40 (x := 8) (c := 0) (lv2 := [(2, Value.int 0), (0, Value.ref 7), (1, Value.int a0)]) rfl (by decide) rfl ?_
  refine i_138_43 ?_
  refine i_138_3 (x := 0) rfl ?_
  refine i_138_4 (fun h => absurd h (by decide)) (fun _ => ?_)
  refine i_138_7 (x := 7) rfl ?_
  refine i_138_8 (v := Value.int 15) (xgs (xgn (by decide) (xgs (xgn (by decide) (xgs (xgn (by decide) hw0)))))) rfl ?_
  refine i_138_11 ?_
  refine i_138_14 (fun h => absurd h (by decide)) (fun _ => ?_)
  refine i_138_17 (x := 7) rfl ?_
  refine i_138_18 (v := Value.ref 29) (xgs (xgn (by decide) (xgs (xgn (by decide) (xgs (xgn (by decide) hw0)))))) rfl ?_
  refine i_138_21 (x := 7) rfl ?_
  refine i_138_22 (v := Value.int 15) (xgs (xgn (by decide) (xgs (xgn (by decide) (xgs (xgn (by decide) hw0)))))) rfl ?_
  refine i_138_25 (x := a0) rfl ?_
  refine i_138_26 (x := 0) rfl ?_
  refine i_138_27 (c := ((a0.toUInt32 >>> ((0 : Int32).toUInt32 &&& Int32.toUInt32 31)).toInt32)) rfl ?_
  refine i_138_28 (c := ((a0.toUInt32 >>> ((0 : Int32).toUInt32 &&& Int32.toUInt32 31)).toInt32).toInt8.toInt32) rfl ?_
  refine i_138_29 (v := Value.int ((((a0.toUInt32 >>> ((0 : Int32).toUInt32 &&& Int32.toUInt32 31)).toInt32).toInt8.toInt32).toInt8.toInt32)) (xgn (by decide) (xgs (xgn (by decide) (xgs (xgn (by decide) (xgs hw1)))))) (by decide) (by decide) (by decide) rfl ?_
  refine i_138_30 (x := 7) rfl ?_
  refine i_138_31 rfl ?_
  refine i_138_32 (v := Value.int 15) (xgn (by decide) (xgs (xgn (by decide) (xgs (xgn (by decide) (xgs (xgn (by decide) hw0))))))) rfl ?_
  refine i_138_35 ?_
  refine i_138_36 (c := 16) (by decide) ?_
  refine i_138_37 (fs2 := [Value.ref 8, Value.ref 78, Value.ref 9, Value.ref 10, Value.ref 13, Value.ref 16, Value.ref 19, Value.ref 93, Value.ref 108, Value.ref 113, Value.ref 29, Value.int 16]) (xgn (by decide) (xgs (xgn (by decide) (xgs (xgn (by decide) (xgs (xgn (by decide) hw0))))))) (Nat.le_of_ble_eq_true rfl) rfl (by decide) ?_
  refine i_138_40 (x := 0) (c := (-8)) (lv2 := [(2, Value.int (-8)), (0, Value.ref 7), (1, Value.int a0)]) rfl (by decide) rfl ?_
  refine i_138_43 ?_
  refine i_138_3 (x := (-8)) rfl ?_
  refine i_138_4 (fun _ => ?_) (fun h => absurd h (by decide))
  exact i_138_46 ⟨rfl, rfl⟩
theorem p_138_4 {d : Nat} {w : xW} {a0 : Int32} {g0 : Nat → Value} (hw0 : w[7]? = some (Sum.inr (0, [Value.ref 8, Value.ref 78, Value.ref 9, Value.ref 10, Value.ref 13, Value.ref 16, Value.ref 19, Value.ref 93, Value.ref 108, Value.ref 113, Value.ref 29, Value.int 16]))) (hw1 : w[29]? = some (Sum.inl (1, 4096, g0))) : xRun d 138 [Value.ref 7, Value.int a0] w (.inl none) ((((((((w.set 29 (Sum.inl (1, 4096, xup g0 (16 : Int32).toInt.toNat (Value.int ((((a0.toUInt32 >>> ((24 : Int32).toUInt32 &&& Int32.toUInt32 31)).toInt32).toInt8.toInt32).toInt8.toInt32))))).set 7 (Sum.inr (0, [Value.ref 8, Value.ref 78, Value.ref 9, Value.ref 10, Value.ref 13, Value.ref 16, Value.ref 19, Value.ref 93, Value.ref 108, Value.ref 113, Value.ref 29, Value.int 17]))).set 29 (Sum.inl (1, 4096, xup (xup g0 (16 : Int32).toInt.toNat (Value.int ((((a0.toUInt32 >>> ((24 : Int32).toUInt32 &&& Int32.toUInt32 31)).toInt32).toInt8.toInt32).toInt8.toInt32))) (17 : Int32).toInt.toNat (Value.int ((((a0.toUInt32 >>> ((16 : Int32).toUInt32 &&& Int32.toUInt32 31)).toInt32).toInt8.toInt32).toInt8.toInt32))))).set 7 (Sum.inr (0, [Value.ref 8, Value.ref 78, Value.ref 9, Value.ref 10, Value.ref 13, Value.ref 16, Value.ref 19, Value.ref 93, Value.ref 108, Value.ref 113, Value.ref 29, Value.int 18]))).set 29 (Sum.inl (1, 4096, xup (xup (xup g0 (16 : Int32).toInt.toNat (Value.int ((((a0.toUInt32 >>> ((24 : Int32).toUInt32 &&& Int32.toUInt32 31)).toInt32).toInt8.toInt32).toInt8.toInt32))) (17 : Int32).toInt.toNat (Value.int ((((a0.toUInt32 >>> ((16 : Int32).toUInt32 &&& Int32.toUInt32 31)).toInt32).toInt8.toInt32).toInt8.toInt32))) (18 : Int32).toInt.toNat (Value.int ((((a0.toUInt32 >>> ((8 : Int32).toUInt32 &&& Int32.toUInt32 31)).toInt32).toInt8.toInt32).toInt8.toInt32))))).set 7 (Sum.inr (0, [Value.ref 8, Value.ref 78, Value.ref 9, Value.ref 10, Value.ref 13, Value.ref 16, Value.ref 19, Value.ref 93, Value.ref 108, Value.ref 113, Value.ref 29, Value.int 19]))).set 29 (Sum.inl (1, 4096, xup (xup (xup (xup g0 (16 : Int32).toInt.toNat (Value.int ((((a0.toUInt32 >>> ((24 : Int32).toUInt32 &&& Int32.toUInt32 31)).toInt32).toInt8.toInt32).toInt8.toInt32))) (17 : Int32).toInt.toNat (Value.int ((((a0.toUInt32 >>> ((16 : Int32).toUInt32 &&& Int32.toUInt32 31)).toInt32).toInt8.toInt32).toInt8.toInt32))) (18 : Int32).toInt.toNat (Value.int ((((a0.toUInt32 >>> ((8 : Int32).toUInt32 &&& Int32.toUInt32 31)).toInt32).toInt8.toInt32).toInt8.toInt32))) (19 : Int32).toInt.toNat (Value.int ((((a0.toUInt32 >>> ((0 : Int32).toUInt32 &&& Int32.toUInt32 31)).toInt32).toInt8.toInt32).toInt8.toInt32))))).set 7 (Sum.inr (0, [Value.ref 8, Value.ref 78, Value.ref 9, Value.ref 10, Value.ref 13, Value.ref 16, Value.ref 19, Value.ref 93, Value.ref 108, Value.ref 113, Value.ref 29, Value.int 20]))) := by
  refine xRun.of ?_
  refine i_138_0 ?_
  refine i_138_2 (lv2 := [(2, Value.int 24), (0, Value.ref 7), (1, Value.int a0)]) rfl ?_
  refine i_138_3 (x := 24) rfl ?_
  refine i_138_4 (fun h => absurd h (by decide)) (fun _ => ?_)
  refine i_138_7 (x := 7) rfl ?_
  refine i_138_8 (v := Value.int 16) hw0 rfl ?_
  refine i_138_11 ?_
  refine i_138_14 (fun h => absurd h (by decide)) (fun _ => ?_)
  refine i_138_17 (x := 7) rfl ?_
  refine i_138_18 (v := Value.ref 29) hw0 rfl ?_
  refine i_138_21 (x := 7) rfl ?_
  refine i_138_22 (v := Value.int 16) hw0 rfl ?_
  refine i_138_25 (x := a0) rfl ?_
  refine i_138_26 (x := 24) rfl ?_
  refine i_138_27 (c := ((a0.toUInt32 >>> ((24 : Int32).toUInt32 &&& Int32.toUInt32 31)).toInt32)) rfl ?_
  refine i_138_28 (c := ((a0.toUInt32 >>> ((24 : Int32).toUInt32 &&& Int32.toUInt32 31)).toInt32).toInt8.toInt32) rfl ?_
  refine i_138_29 (v := Value.int ((((a0.toUInt32 >>> ((24 : Int32).toUInt32 &&& Int32.toUInt32 31)).toInt32).toInt8.toInt32).toInt8.toInt32)) hw1 (by decide) (by decide) (by decide) rfl ?_
  refine i_138_30 (x := 7) rfl ?_
  refine i_138_31 rfl ?_
  refine i_138_32 (v := Value.int 16) (xgn (by decide) hw0) rfl ?_
  refine i_138_35 ?_
  refine i_138_36 (c := 17) (by decide) ?_
  refine i_138_37 (fs2 := [Value.ref 8, Value.ref 78, Value.ref 9, Value.ref 10, Value.ref 13, Value.ref 16, Value.ref 19, Value.ref 93, Value.ref 108, Value.ref 113, Value.ref 29, Value.int 17]) (xgn (by decide) hw0) (Nat.le_of_ble_eq_true rfl) rfl (by decide) ?_
  refine i_138_40 (x := 24) (c := 16) (lv2 := [(2, Value.int 16), (0, Value.ref 7), (1, Value.int a0)]) rfl (by decide) rfl ?_
  refine i_138_43 ?_
  refine i_138_3 (x := 16) rfl ?_
  refine i_138_4 (fun h => absurd h (by decide)) (fun _ => ?_)
  refine i_138_7 (x := 7) rfl ?_
  refine i_138_8 (v := Value.int 17) (xgs (xgn (by decide) hw0)) rfl ?_
  refine i_138_11 ?_
  refine i_138_14 (fun h => absurd h (by decide)) (fun _ => ?_)
  refine i_138_17 (x := 7) rfl ?_
  refine i_138_18 (v := Value.ref 29) (xgs (xgn (by decide) hw0)) rfl ?_
  refine i_138_21 (x := 7) rfl ?_
  refine i_138_22 (v := Value.int 17) (xgs (xgn (by decide) hw0)) rfl ?_
  refine i_138_25 (x := a0) rfl ?_
  refine i_138_26 (x := 16) rfl ?_
  refine i_138_27 (c := ((a0.toUInt32 >>> ((16 : Int32).toUInt32 &&& Int32.toUInt32 31)).toInt32)) rfl ?_
  refine i_138_28 (c := ((a0.toUInt32 >>> ((16 : Int32).toUInt32 &&& Int32.toUInt32 31)).toInt32).toInt8.toInt32) rfl ?_
  refine i_138_29 (v := Value.int ((((a0.toUInt32 >>> ((16 : Int32).toUInt32 &&& Int32.toUInt32 31)).toInt32).toInt8.toInt32).toInt8.toInt32)) (xgn (by decide) (xgs hw1)) (by decide) (by decide) (by decide) rfl ?_
  refine i_138_30 (x := 7) rfl ?_
  refine i_138_31 rfl ?_
  refine i_138_32 (v := Value.int 17) (xgn (by decide) (xgs (xgn (by decide) hw0))) rfl ?_
  refine i_138_35 ?_
  refine i_138_36 (c := 18) (by decide) ?_
  refine i_138_37 (fs2 := [Value.ref 8, Value.ref 78, Value.ref 9, Value.ref 10, Value.ref 13, Value.ref 16, Value.ref 19, Value.ref 93, Value.ref 108, Value.ref 113, Value.ref 29, Value.int 18]) (xgn (by decide) (xgs (xgn (by decide) hw0))) (Nat.le_of_ble_eq_true rfl) rfl (by decide) ?_
  refine i_138_40 (x := 16) (c := 8) (lv2 := [(2, Value.int 8), (0, Value.ref 7), (1, Value.int a0)]) rfl (by decide) rfl ?_
  refine i_138_43 ?_
  refine i_138_3 (x := 8) rfl ?_
  refine i_138_4 (fun h => absurd h (by decide)) (fun _ => ?_)
  refine i_138_7 (x := 7) rfl ?_
  refine i_138_8 (v := Value.int 18) (xgs (xgn (by decide) (xgs (xgn (by decide) hw0)))) rfl ?_
  refine i_138_11 ?_
  refine i_138_14 (fun h => absurd h (by decide)) (fun _ => ?_)
  refine i_138_17 (x := 7) rfl ?_
  refine i_138_18 (v := Value.ref 29) (xgs (xgn (by decide) (xgs (xgn (by decide) hw0)))) rfl ?_
  refine i_138_21 (x := 7) rfl ?_
  refine i_138_22 (v := Value.int 18) (xgs (xgn (by decide) (xgs (xgn (by decide) hw0)))) rfl ?_
  refine i_138_25 (x := a0) rfl ?_
  refine i_138_26 (x := 8) rfl ?_
  refine i_138_27 (c := ((a0.toUInt32 >>> ((8 : Int32).toUInt32 &&& Int32.toUInt32 31)).toInt32)) rfl ?_
  refine i_138_28 (c := ((a0.toUInt32 >>> ((8 : Int32).toUInt32 &&& Int32.toUInt32 31)).toInt32).toInt8.toInt32) rfl ?_
  refine i_138_29 (v := Value.int ((((a0.toUInt32 >>> ((8 : Int32).toUInt32 &&& Int32.toUInt32 31)).toInt32).toInt8.toInt32).toInt8.toInt32)) (xgn (by decide) (xgs (xgn (by decide) (xgs hw1)))) (by decide) (by decide) (by decide) rfl ?_
  refine i_138_30 (x := 7) rfl ?_
  refine i_138_31 rfl ?_
  refine i_138_32 (v := Value.int 18) (xgn (by decide) (xgs (xgn (by decide) (xgs (xgn (by decide) hw0))))) rfl ?_
  refine i_138_35 ?_
  refine i_138_36 (c := 19) (by decide) ?_
  refine i_138_37 (fs2 := [Value.ref 8, Value.ref 78, Value.ref 9, Value.ref 10, Value.ref 13, Value.ref 16, Value.ref 19, Value.ref 93, Value.ref 108, Value.ref 113, Value.ref 29, Value.int 19]) (xgn (by decide) (xgs (xgn (by decide) (xgs (xgn (by decide) hw0))))) (Nat.le_of_ble_eq_true rfl) rfl (by decide) ?_
  refine i_138_40 (x := 8) (c := 0) (lv2 := [(2, Value.int 0), (0, Value.ref 7), (1, Value.int a0)]) rfl (by decide) rfl ?_
  refine i_138_43 ?_
  refine i_138_3 (x := 0) rfl ?_
  refine i_138_4 (fun h => absurd h (by decide)) (fun _ => ?_)
  refine i_138_7 (x := 7) rfl ?_
  refine i_138_8 (v := Value.int 19) (xgs (xgn (by decide) (xgs (xgn (by decide) (xgs (xgn (by decide) hw0)))))) rfl ?_
  refine i_138_11 ?_
  refine i_138_14 (fun h => absurd h (by decide)) (fun _ => ?_)
  refine i_138_17 (x := 7) rfl ?_
  refine i_138_18 (v := Value.ref 29) (xgs (xgn (by decide) (xgs (xgn (by decide) (xgs (xgn (by decide) hw0)))))) rfl ?_
  refine i_138_21 (x := 7) rfl ?_
  refine i_138_22 (v := Value.int 19) (xgs (xgn (by decide) (xgs (xgn (by decide) (xgs (xgn (by decide) hw0)))))) rfl ?_
  refine i_138_25 (x := a0) rfl ?_
  refine i_138_26 (x := 0) rfl ?_
  refine i_138_27 (c := ((a0.toUInt32 >>> ((0 : Int32).toUInt32 &&& Int32.toUInt32 31)).toInt32)) rfl ?_
  refine i_138_28 (c := ((a0.toUInt32 >>> ((0 : Int32).toUInt32 &&& Int32.toUInt32 31)).toInt32).toInt8.toInt32) rfl ?_
  refine i_138_29 (v := Value.int ((((a0.toUInt32 >>> ((0 : Int32).toUInt32 &&& Int32.toUInt32 31)).toInt32).toInt8.toInt32).toInt8.toInt32)) (xgn (by decide) (xgs (xgn (by decide) (xgs (xgn (by decide) (xgs hw1)))))) (by decide) (by decide) (by decide) rfl ?_
  refine i_138_30 (x := 7) rfl ?_
  refine i_138_31 rfl ?_
  refine i_138_32 (v := Value.int 19) (xgn (by decide) (xgs (xgn (by decide) (xgs (xgn (by decide) (xgs (xgn (by decide) hw0))))))) rfl ?_
  refine i_138_35 ?_
  refine i_138_36 (c := 20) (by decide) ?_
  refine i_138_37 (fs2 := [Value.ref 8, Value.ref 78, Value.ref 9, Value.ref 10, Value.ref 13, Value.ref 16, Value.ref 19, Value.ref 93, Value.ref 108, Value.ref 113, Value.ref 29, Value.int 20]) (xgn (by decide) (xgs (xgn (by decide) (xgs (xgn (by decide) (xgs (xgn (by decide) hw0))))))) (Nat.le_of_ble_eq_true rfl) rfl (by decide) ?_
  refine i_138_40 (x := 0) (c := (-8)) (lv2 := [(2, Value.int (-8)), (0, Value.ref 7), (1, Value.int a0)]) rfl (by decide) rfl ?_
  refine i_138_43 ?_
  refine i_138_3 (x := (-8)) rfl ?_
  refine i_138_4 (fun _ => ?_) (fun h => absurd h (by decide))
  exact i_138_46 ⟨rfl, rfl⟩
theorem p_137_0 {d : Nat} {w : xW} {a0 : Int32} {a1 : Int32} {a2 : Int32} {a3 : Int32} {a4 : Int32} (hw0 : w[7]? = some (Sum.inr (0, [Value.ref 8, Value.ref 78, Value.ref 9, Value.ref 10, Value.ref 13, Value.ref 16, Value.ref 19, Value.ref 93, Value.ref 108, Value.ref 113, Value.ref 29, Value.int 0]))) (hw1 : w[29]? = some (Sum.inl (1, 4096, fun _ => Value.int 0))) : xRun (d + 1) 137 [Value.ref 7, Value.int a0, Value.int a1, Value.int a2, Value.int a3, Value.int a4] w (.inl none) ((((((((((((((((((((((((((((((((((((((((w.set 29 (Sum.inl (1, 4096, xup (fun _ => Value.int 0) (0 : Int32).toInt.toNat (Value.int ((((a0.toUInt32 >>> ((24 : Int32).toUInt32 &&& Int32.toUInt32 31)).toInt32).toInt8.toInt32).toInt8.toInt32))))).set 7 (Sum.inr (0, [Value.ref 8, Value.ref 78, Value.ref 9, Value.ref 10, Value.ref 13, Value.ref 16, Value.ref 19, Value.ref 93, Value.ref 108, Value.ref 113, Value.ref 29, Value.int 1]))).set 29 (Sum.inl (1, 4096, xup (xup (fun _ => Value.int 0) (0 : Int32).toInt.toNat (Value.int ((((a0.toUInt32 >>> ((24 : Int32).toUInt32 &&& Int32.toUInt32 31)).toInt32).toInt8.toInt32).toInt8.toInt32))) (1 : Int32).toInt.toNat (Value.int ((((a0.toUInt32 >>> ((16 : Int32).toUInt32 &&& Int32.toUInt32 31)).toInt32).toInt8.toInt32).toInt8.toInt32))))).set 7 (Sum.inr (0, [Value.ref 8, Value.ref 78, Value.ref 9, Value.ref 10, Value.ref 13, Value.ref 16, Value.ref 19, Value.ref 93, Value.ref 108, Value.ref 113, Value.ref 29, Value.int 2]))).set 29 (Sum.inl (1, 4096, xup (xup (xup (fun _ => Value.int 0) (0 : Int32).toInt.toNat (Value.int ((((a0.toUInt32 >>> ((24 : Int32).toUInt32 &&& Int32.toUInt32 31)).toInt32).toInt8.toInt32).toInt8.toInt32))) (1 : Int32).toInt.toNat (Value.int ((((a0.toUInt32 >>> ((16 : Int32).toUInt32 &&& Int32.toUInt32 31)).toInt32).toInt8.toInt32).toInt8.toInt32))) (2 : Int32).toInt.toNat (Value.int ((((a0.toUInt32 >>> ((8 : Int32).toUInt32 &&& Int32.toUInt32 31)).toInt32).toInt8.toInt32).toInt8.toInt32))))).set 7 (Sum.inr (0, [Value.ref 8, Value.ref 78, Value.ref 9, Value.ref 10, Value.ref 13, Value.ref 16, Value.ref 19, Value.ref 93, Value.ref 108, Value.ref 113, Value.ref 29, Value.int 3]))).set 29 (Sum.inl (1, 4096, xup (xup (xup (xup (fun _ => Value.int 0) (0 : Int32).toInt.toNat (Value.int ((((a0.toUInt32 >>> ((24 : Int32).toUInt32 &&& Int32.toUInt32 31)).toInt32).toInt8.toInt32).toInt8.toInt32))) (1 : Int32).toInt.toNat (Value.int ((((a0.toUInt32 >>> ((16 : Int32).toUInt32 &&& Int32.toUInt32 31)).toInt32).toInt8.toInt32).toInt8.toInt32))) (2 : Int32).toInt.toNat (Value.int ((((a0.toUInt32 >>> ((8 : Int32).toUInt32 &&& Int32.toUInt32 31)).toInt32).toInt8.toInt32).toInt8.toInt32))) (3 : Int32).toInt.toNat (Value.int ((((a0.toUInt32 >>> ((0 : Int32).toUInt32 &&& Int32.toUInt32 31)).toInt32).toInt8.toInt32).toInt8.toInt32))))).set 7 (Sum.inr (0, [Value.ref 8, Value.ref 78, Value.ref 9, Value.ref 10, Value.ref 13, Value.ref 16, Value.ref 19, Value.ref 93, Value.ref 108, Value.ref 113, Value.ref 29, Value.int 4]))).set 29 (Sum.inl (1, 4096, xup (xup (xup (xup (xup (fun _ => Value.int 0) (0 : Int32).toInt.toNat (Value.int ((((a0.toUInt32 >>> ((24 : Int32).toUInt32 &&& Int32.toUInt32 31)).toInt32).toInt8.toInt32).toInt8.toInt32))) (1 : Int32).toInt.toNat (Value.int ((((a0.toUInt32 >>> ((16 : Int32).toUInt32 &&& Int32.toUInt32 31)).toInt32).toInt8.toInt32).toInt8.toInt32))) (2 : Int32).toInt.toNat (Value.int ((((a0.toUInt32 >>> ((8 : Int32).toUInt32 &&& Int32.toUInt32 31)).toInt32).toInt8.toInt32).toInt8.toInt32))) (3 : Int32).toInt.toNat (Value.int ((((a0.toUInt32 >>> ((0 : Int32).toUInt32 &&& Int32.toUInt32 31)).toInt32).toInt8.toInt32).toInt8.toInt32))) (4 : Int32).toInt.toNat (Value.int ((((a1.toUInt32 >>> ((24 : Int32).toUInt32 &&& Int32.toUInt32 31)).toInt32).toInt8.toInt32).toInt8.toInt32))))).set 7 (Sum.inr (0, [Value.ref 8, Value.ref 78, Value.ref 9, Value.ref 10, Value.ref 13, Value.ref 16, Value.ref 19, Value.ref 93, Value.ref 108, Value.ref 113, Value.ref 29, Value.int 5]))).set 29 (Sum.inl (1, 4096, xup (xup (xup (xup (xup (xup (fun _ => Value.int 0) (0 : Int32).toInt.toNat (Value.int ((((a0.toUInt32 >>> ((24 : Int32).toUInt32 &&& Int32.toUInt32 31)).toInt32).toInt8.toInt32).toInt8.toInt32))) (1 : Int32).toInt.toNat (Value.int ((((a0.toUInt32 >>> ((16 : Int32).toUInt32 &&& Int32.toUInt32 31)).toInt32).toInt8.toInt32).toInt8.toInt32))) (2 : Int32).toInt.toNat (Value.int ((((a0.toUInt32 >>> ((8 : Int32).toUInt32 &&& Int32.toUInt32 31)).toInt32).toInt8.toInt32).toInt8.toInt32))) (3 : Int32).toInt.toNat (Value.int ((((a0.toUInt32 >>> ((0 : Int32).toUInt32 &&& Int32.toUInt32 31)).toInt32).toInt8.toInt32).toInt8.toInt32))) (4 : Int32).toInt.toNat (Value.int ((((a1.toUInt32 >>> ((24 : Int32).toUInt32 &&& Int32.toUInt32 31)).toInt32).toInt8.toInt32).toInt8.toInt32))) (5 : Int32).toInt.toNat (Value.int ((((a1.toUInt32 >>> ((16 : Int32).toUInt32 &&& Int32.toUInt32 31)).toInt32).toInt8.toInt32).toInt8.toInt32))))).set 7 (Sum.inr (0, [Value.ref 8, Value.ref 78, Value.ref 9, Value.ref 10, Value.ref 13, Value.ref 16, Value.ref 19, Value.ref 93, Value.ref 108, Value.ref 113, Value.ref 29, Value.int 6]))).set 29 (Sum.inl (1, 4096, xup (xup (xup (xup (xup (xup (xup (fun _ => Value.int 0) (0 : Int32).toInt.toNat (Value.int ((((a0.toUInt32 >>> ((24 : Int32).toUInt32 &&& Int32.toUInt32 31)).toInt32).toInt8.toInt32).toInt8.toInt32))) (1 : Int32).toInt.toNat (Value.int ((((a0.toUInt32 >>> ((16 : Int32).toUInt32 &&& Int32.toUInt32 31)).toInt32).toInt8.toInt32).toInt8.toInt32))) (2 : Int32).toInt.toNat (Value.int ((((a0.toUInt32 >>> ((8 : Int32).toUInt32 &&& Int32.toUInt32 31)).toInt32).toInt8.toInt32).toInt8.toInt32))) (3 : Int32).toInt.toNat (Value.int ((((a0.toUInt32 >>> ((0 : Int32).toUInt32 &&& Int32.toUInt32 31)).toInt32).toInt8.toInt32).toInt8.toInt32))) (4 : Int32).toInt.toNat (Value.int ((((a1.toUInt32 >>> ((24 : Int32).toUInt32 &&& Int32.toUInt32 31)).toInt32).toInt8.toInt32).toInt8.toInt32))) (5 : Int32).toInt.toNat (Value.int ((((a1.toUInt32 >>> ((16 : Int32).toUInt32 &&& Int32.toUInt32 31)).toInt32).toInt8.toInt32).toInt8.toInt32))) (6 : Int32).toInt.toNat (Value.int ((((a1.toUInt32 >>> ((8 : Int32).toUInt32 &&& Int32.toUInt32 31)).toInt32).toInt8.toInt32).toInt8.toInt32))))).set 7 (Sum.inr (0, [Value.ref 8, Value.ref 78, Value.ref 9, Value.ref 10, Value.ref 13, Value.ref 16, Value.ref 19, Value.ref 93, Value.ref 108, Value.ref 113, Value.ref 29, Value.int 7]))).set 29 (Sum.inl (1, 4096, xup (xup (xup (xup (xup (xup (xup (xup (fun _ => Value.int 0) (0 : Int32).toInt.toNat (Value.int ((((a0.toUInt32 >>> ((24 : Int32).toUInt32 &&& Int32.toUInt32 31)).toInt32).toInt8.toInt32).toInt8.toInt32))) (1 : Int32).toInt.toNat (Value.int ((((a0.toUInt32 >>> ((16 : Int32).toUInt32 &&& Int32.toUInt32 31)).toInt32).toInt8.toInt32).toInt8.toInt32))) (2 : Int32).toInt.toNat (Value.int ((((a0.toUInt32 >>> ((8 : Int32).toUInt32 &&& Int32.toUInt32 31)).toInt32).toInt8.toInt32).toInt8.toInt32))) (3 : Int32).toInt.toNat (Value.int ((((a0.toUInt32 >>> ((0 : Int32).toUInt32 &&& Int32.toUInt32 31)).toInt32).toInt8.toInt32).toInt8.toInt32))) (4 : Int32).toInt.toNat (Value.int ((((a1.toUInt32 >>> ((24 : Int32).toUInt32 &&& Int32.toUInt32 31)).toInt32).toInt8.toInt32).toInt8.toInt32))) (5 : Int32).toInt.toNat (Value.int ((((a1.toUInt32 >>> ((16 : Int32).toUInt32 &&& Int32.toUInt32 31)).toInt32).toInt8.toInt32).toInt8.toInt32))) (6 : Int32).toInt.toNat (Value.int ((((a1.toUInt32 >>> ((8 : Int32).toUInt32 &&& Int32.toUInt32 31)).toInt32).toInt8.toInt32).toInt8.toInt32))) (7 : Int32).toInt.toNat (Value.int ((((a1.toUInt32 >>> ((0 : Int32).toUInt32 &&& Int32.toUInt32 31)).toInt32).toInt8.toInt32).toInt8.toInt32))))).set 7 (Sum.inr (0, [Value.ref 8, Value.ref 78, Value.ref 9, Value.ref 10, Value.ref 13, Value.ref 16, Value.ref 19, Value.ref 93, Value.ref 108, Value.ref 113, Value.ref 29, Value.int 8]))).set 29 (Sum.inl (1, 4096, xup (xup (xup (xup (xup (xup (xup (xup (xup (fun _ => Value.int 0) (0 : Int32).toInt.toNat (Value.int ((((a0.toUInt32 >>> ((24 : Int32).toUInt32 &&& Int32.toUInt32 31)).toInt32).toInt8.toInt32).toInt8.toInt32))) (1 : Int32).toInt.toNat (Value.int ((((a0.toUInt32 >>> ((16 : Int32).toUInt32 &&& Int32.toUInt32 31)).toInt32).toInt8.toInt32).toInt8.toInt32))) (2 : Int32).toInt.toNat (Value.int ((((a0.toUInt32 >>> ((8 : Int32).toUInt32 &&& Int32.toUInt32 31)).toInt32).toInt8.toInt32).toInt8.toInt32))) (3 : Int32).toInt.toNat (Value.int ((((a0.toUInt32 >>> ((0 : Int32).toUInt32 &&& Int32.toUInt32 31)).toInt32).toInt8.toInt32).toInt8.toInt32))) (4 : Int32).toInt.toNat (Value.int ((((a1.toUInt32 >>> ((24 : Int32).toUInt32 &&& Int32.toUInt32 31)).toInt32).toInt8.toInt32).toInt8.toInt32))) (5 : Int32).toInt.toNat (Value.int ((((a1.toUInt32 >>> ((16 : Int32).toUInt32 &&& Int32.toUInt32 31)).toInt32).toInt8.toInt32).toInt8.toInt32))) (6 : Int32).toInt.toNat (Value.int ((((a1.toUInt32 >>> ((8 : Int32).toUInt32 &&& Int32.toUInt32 31)).toInt32).toInt8.toInt32).toInt8.toInt32))) (7 : Int32).toInt.toNat (Value.int ((((a1.toUInt32 >>> ((0 : Int32).toUInt32 &&& Int32.toUInt32 31)).toInt32).toInt8.toInt32).toInt8.toInt32))) (8 : Int32).toInt.toNat (Value.int ((((a2.toUInt32 >>> ((24 : Int32).toUInt32 &&& Int32.toUInt32 31)).toInt32).toInt8.toInt32).toInt8.toInt32))))).set 7 (Sum.inr (0, [Value.ref 8, Value.ref 78, Value.ref 9, Value.ref 10, Value.ref 13, Value.ref 16, Value.ref 19, Value.ref 93, Value.ref 108, Value.ref 113, Value.ref 29, Value.int 9]))).set 29 (Sum.inl (1, 4096, xup (xup (xup (xup (xup (xup (xup (xup (xup (xup (fun _ => Value.int 0) (0 : Int32).toInt.toNat (Value.int ((((a0.toUInt32 >>> ((24 : Int32).toUInt32 &&& Int32.toUInt32 31)).toInt32).toInt8.toInt32).toInt8.toInt32))) (1 : Int32).toInt.toNat (Value.int ((((a0.toUInt32 >>> ((16 : Int32).toUInt32 &&& Int32.toUInt32 31)).toInt32).toInt8.toInt32).toInt8.toInt32))) (2 : Int32).toInt.toNat (Value.int ((((a0.toUInt32 >>> ((8 : Int32).toUInt32 &&& Int32.toUInt32 31)).toInt32).toInt8.toInt32).toInt8.toInt32))) (3 : Int32).toInt.toNat (Value.int ((((a0.toUInt32 >>> ((0 : Int32).toUInt32 &&& Int32.toUInt32 31)).toInt32).toInt8.toInt32).toInt8.toInt32))) (4 : Int32).toInt.toNat (Value.int ((((a1.toUInt32 >>> ((24 : Int32).toUInt32 &&& Int32.toUInt32 31)).toInt32).toInt8.toInt32).toInt8.toInt32))) (5 : Int32).toInt.toNat (Value.int ((((a1.toUInt32 >>> ((16 : Int32).toUInt32 &&& Int32.toUInt32 31)).toInt32).toInt8.toInt32).toInt8.toInt32))) (6 : Int32).toInt.toNat (Value.int ((((a1.toUInt32 >>> ((8 : Int32).toUInt32 &&& Int32.toUInt32 31)).toInt32).toInt8.toInt32).toInt8.toInt32))) (7 : Int32).toInt.toNat (Value.int ((((a1.toUInt32 >>> ((0 : Int32).toUInt32 &&& Int32.toUInt32 31)).toInt32).toInt8.toInt32).toInt8.toInt32))) (8 : Int32).toInt.toNat (Value.int ((((a2.toUInt32 >>> ((24 : Int32).toUInt32 &&& Int32.toUInt32 31)).toInt32).toInt8.toInt32).toInt8.toInt32))) (9 : Int32).toInt.toNat (Value.int ((((a2.toUInt32 >>> ((16 : Int32).toUInt32 &&& Int32.toUInt32 31)).toInt32).toInt8.toInt32).toInt8.toInt32))))).set 7 (Sum.inr (0, [Value.ref 8, Value.ref 78, Value.ref 9, Value.ref 10, Value.ref 13, Value.ref 16, Value.ref 19, Value.ref 93, Value.ref 108, Value.ref 113, Value.ref 29, Value.int 10]))).set 29 (Sum.inl (1, 4096, xup (xup (xup (xup (xup (xup (xup (xup (xup (xup (xup (fun _ => Value.int 0) (0 : Int32).toInt.toNat (Value.int ((((a0.toUInt32 >>> ((24 : Int32).toUInt32 &&& Int32.toUInt32 31)).toInt32).toInt8.toInt32).toInt8.toInt32))) (1 : Int32).toInt.toNat (Value.int ((((a0.toUInt32 >>> ((16 : Int32).toUInt32 &&& Int32.toUInt32 31)).toInt32).toInt8.toInt32).toInt8.toInt32))) (2 : Int32).toInt.toNat (Value.int ((((a0.toUInt32 >>> ((8 : Int32).toUInt32 &&& Int32.toUInt32 31)).toInt32).toInt8.toInt32).toInt8.toInt32))) (3 : Int32).toInt.toNat (Value.int ((((a0.toUInt32 >>> ((0 : Int32).toUInt32 &&& Int32.toUInt32 31)).toInt32).toInt8.toInt32).toInt8.toInt32))) (4 : Int32).toInt.toNat (Value.int ((((a1.toUInt32 >>> ((24 : Int32).toUInt32 &&& Int32.toUInt32 31)).toInt32).toInt8.toInt32).toInt8.toInt32))) (5 : Int32).toInt.toNat (Value.int ((((a1.toUInt32 >>> ((16 : Int32).toUInt32 &&& Int32.toUInt32 31)).toInt32).toInt8.toInt32).toInt8.toInt32))) (6 : Int32).toInt.toNat (Value.int ((((a1.toUInt32 >>> ((8 : Int32).toUInt32 &&& Int32.toUInt32 31)).toInt32).toInt8.toInt32).toInt8.toInt32))) (7 : Int32).toInt.toNat (Value.int ((((a1.toUInt32 >>> ((0 : Int32).toUInt32 &&& Int32.toUInt32 31)).toInt32).toInt8.toInt32).toInt8.toInt32))) (8 : Int32).toInt.toNat (Value.int ((((a2.toUInt32 >>> ((24 : Int32).toUInt32 &&& Int32.toUInt32 31)).toInt32).toInt8.toInt32).toInt8.toInt32))) (9 : Int32).toInt.toNat (Value.int ((((a2.toUInt32 >>> ((16 : Int32).toUInt32 &&& Int32.toUInt32 31)).toInt32).toInt8.toInt32).toInt8.toInt32))) (10 : Int32).toInt.toNat (Value.int ((((a2.toUInt32 >>> ((8 : Int32).toUInt32 &&& Int32.toUInt32 31)).toInt32).toInt8.toInt32).toInt8.toInt32))))).set 7 (Sum.inr (0, [Value.ref 8, Value.ref 78, Value.ref 9, Value.ref 10, Value.ref 13, Value.ref 16, Value.ref 19, Value.ref 93, Value.ref 108, Value.ref 113, Value.ref 29, Value.int 11]))).set 29 (Sum.inl (1, 4096, xup (xup (xup (xup (xup (xup (xup (xup (xup (xup (xup (xup (fun _ => Value.int 0) (0 : Int32).toInt.toNat (Value.int ((((a0.toUInt32 >>> ((24 : Int32).toUInt32 &&& Int32.toUInt32 31)).toInt32).toInt8.toInt32).toInt8.toInt32))) (1 : Int32).toInt.toNat (Value.int ((((a0.toUInt32 >>> ((16 : Int32).toUInt32 &&& Int32.toUInt32 31)).toInt32).toInt8.toInt32).toInt8.toInt32))) (2 : Int32).toInt.toNat (Value.int ((((a0.toUInt32 >>> ((8 : Int32).toUInt32 &&& Int32.toUInt32 31)).toInt32).toInt8.toInt32).toInt8.toInt32))) (3 : Int32).toInt.toNat (Value.int ((((a0.toUInt32 >>> ((0 : Int32).toUInt32 &&& Int32.toUInt32 31)).toInt32).toInt8.toInt32).toInt8.toInt32))) (4 : Int32).toInt.toNat (Value.int ((((a1.toUInt32 >>> ((24 : Int32).toUInt32 &&& Int32.toUInt32 31)).toInt32).toInt8.toInt32).toInt8.toInt32))) (5 : Int32).toInt.toNat (Value.int ((((a1.toUInt32 >>> ((16 : Int32).toUInt32 &&& Int32.toUInt32 31)).toInt32).toInt8.toInt32).toInt8.toInt32))) (6 : Int32).toInt.toNat (Value.int ((((a1.toUInt32 >>> ((8 : Int32).toUInt32 &&& Int32.toUInt32 31)).toInt32).toInt8.toInt32).toInt8.toInt32))) (7 : Int32).toInt.toNat (Value.int ((((a1.toUInt32 >>> ((0 : Int32).toUInt32 &&& Int32.toUInt32 31)).toInt32).toInt8.toInt32).toInt8.toInt32))) (8 : Int32).toInt.toNat (Value.int ((((a2.toUInt32 >>> ((24 : Int32).toUInt32 &&& Int32.toUInt32 31)).toInt32).toInt8.toInt32).toInt8.toInt32))) (9 : Int32).toInt.toNat (Value.int ((((a2.toUInt32 >>> ((16 : Int32).toUInt32 &&& Int32.toUInt32 31)).toInt32).toInt8.toInt32).toInt8.toInt32))) (10 : Int32).toInt.toNat (Value.int ((((a2.toUInt32 >>> ((8 : Int32).toUInt32 &&& Int32.toUInt32 31)).toInt32).toInt8.toInt32).toInt8.toInt32))) (11 : Int32).toInt.toNat (Value.int ((((a2.toUInt32 >>> ((0 : Int32).toUInt32 &&& Int32.toUInt32 31)).toInt32).toInt8.toInt32).toInt8.toInt32))))).set 7 (Sum.inr (0, [Value.ref 8, Value.ref 78, Value.ref 9, Value.ref 10, Value.ref 13, Value.ref 16, Value.ref 19, Value.ref 93, Value.ref 108, Value.ref 113, Value.ref 29, Value.int 12]))).set 29 (Sum.inl (1, 4096, xup (xup (xup (xup (xup (xup (xup (xup (xup (xup (xup (xup (xup (fun _ => Value.int 0) (0 : Int32).toInt.toNat (Value.int ((((a0.toUInt32 >>> ((24 : Int32).toUInt32 &&& Int32.toUInt32 31)).toInt32).toInt8.toInt32).toInt8.toInt32))) (1 : Int32).toInt.toNat (Value.int ((((a0.toUInt32 >>> ((16 : Int32).toUInt32 &&& Int32.toUInt32 31)).toInt32).toInt8.toInt32).toInt8.toInt32))) (2 : Int32).toInt.toNat (Value.int ((((a0.toUInt32 >>> ((8 : Int32).toUInt32 &&& Int32.toUInt32 31)).toInt32).toInt8.toInt32).toInt8.toInt32))) (3 : Int32).toInt.toNat (Value.int ((((a0.toUInt32 >>> ((0 : Int32).toUInt32 &&& Int32.toUInt32 31)).toInt32).toInt8.toInt32).toInt8.toInt32))) (4 : Int32).toInt.toNat (Value.int ((((a1.toUInt32 >>> ((24 : Int32).toUInt32 &&& Int32.toUInt32 31)).toInt32).toInt8.toInt32).toInt8.toInt32))) (5 : Int32).toInt.toNat (Value.int ((((a1.toUInt32 >>> ((16 : Int32).toUInt32 &&& Int32.toUInt32 31)).toInt32).toInt8.toInt32).toInt8.toInt32))) (6 : Int32).toInt.toNat (Value.int ((((a1.toUInt32 >>> ((8 : Int32).toUInt32 &&& Int32.toUInt32 31)).toInt32).toInt8.toInt32).toInt8.toInt32))) (7 : Int32).toInt.toNat (Value.int ((((a1.toUInt32 >>> ((0 : Int32).toUInt32 &&& Int32.toUInt32 31)).toInt32).toInt8.toInt32).toInt8.toInt32))) (8 : Int32).toInt.toNat (Value.int ((((a2.toUInt32 >>> ((24 : Int32).toUInt32 &&& Int32.toUInt32 31)).toInt32).toInt8.toInt32).toInt8.toInt32))) (9 : Int32).toInt.toNat (Value.int ((((a2.toUInt32 >>> ((16 : Int32).toUInt32 &&& Int32.toUInt32 31)).toInt32).toInt8.toInt32).toInt8.toInt32))) (10 : Int32).toInt.toNat (Value.int ((((a2.toUInt32 >>> ((8 : Int32).toUInt32 &&& Int32.toUInt32 31)).toInt32).toInt8.toInt32).toInt8.toInt32))) (11 : Int32).toInt.toNat (Value.int ((((a2.toUInt32 >>> ((0 : Int32).toUInt32 &&& Int32.toUInt32 31)).toInt32).toInt8.toInt32).toInt8.toInt32))) (12 : Int32).toInt.toNat (Value.int ((((a3.toUInt32 >>> ((24 : Int32).toUInt32 &&& Int32.toUInt32 31)).toInt32).toInt8.toInt32).toInt8.toInt32))))).set 7 (Sum.inr (0, [Value.ref 8, Value.ref 78, Value.ref 9, Value.ref 10, Value.ref 13, Value.ref 16, Value.ref 19, Value.ref 93, Value.ref 108, Value.ref 113, Value.ref 29, Value.int 13]))).set 29 (Sum.inl (1, 4096, xup (xup (xup (xup (xup (xup (xup (xup (xup (xup (xup (xup (xup (xup (fun _ => Value.int 0) (0 : Int32).toInt.toNat (Value.int ((((a0.toUInt32 >>> ((24 : Int32).toUInt32 &&& Int32.toUInt32 31)).toInt32).toInt8.toInt32).toInt8.toInt32))) (1 : Int32).toInt.toNat (Value.int ((((a0.toUInt32 >>> ((16 : Int32).toUInt32 &&& Int32.toUInt32 31)).toInt32).toInt8.toInt32).toInt8.toInt32))) (2 : Int32).toInt.toNat (Value.int ((((a0.toUInt32 >>> ((8 : Int32).toUInt32 &&& Int32.toUInt32 31)).toInt32).toInt8.toInt32).toInt8.toInt32))) (3 : Int32).toInt.toNat (Value.int ((((a0.toUInt32 >>> ((0 : Int32).toUInt32 &&& Int32.toUInt32 31)).toInt32).toInt8.toInt32).toInt8.toInt32))) (4 : Int32).toInt.toNat (Value.int ((((a1.toUInt32 >>> ((24 : Int32).toUInt32 &&& Int32.toUInt32 31)).toInt32).toInt8.toInt32).toInt8.toInt32))) (5 : Int32).toInt.toNat (Value.int ((((a1.toUInt32 >>> ((16 : Int32).toUInt32 &&& Int32.toUInt32 31)).toInt32).toInt8.toInt32).toInt8.toInt32))) (6 : Int32).toInt.toNat (Value.int ((((a1.toUInt32 >>> ((8 : Int32).toUInt32 &&& Int32.toUInt32 31)).toInt32).toInt8.toInt32).toInt8.toInt32))) (7 : Int32).toInt.toNat (Value.int ((((a1.toUInt32 >>> ((0 : Int32).toUInt32 &&& Int32.toUInt32 31)).toInt32).toInt8.toInt32).toInt8.toInt32))) (8 : Int32).toInt.toNat (Value.int ((((a2.toUInt32 >>> ((24 : Int32).toUInt32 &&& Int32.toUInt32 31)).toInt32).toInt8.toInt32).toInt8.toInt32))) (9 : Int32).toInt.toNat (Value.int ((((a2.toUInt32 >>> ((16 : Int32).toUInt32 &&& Int32.toUInt32 31)).toInt32).toInt8.toInt32).toInt8.toInt32))) (10 : Int32).toInt.toNat (Value.int ((((a2.toUInt32 >>> ((8 : Int32).toUInt32 &&& Int32.toUInt32 31)).toInt32).toInt8.toInt32).toInt8.toInt32))) (11 : Int32).toInt.toNat (Value.int ((((a2.toUInt32 >>> ((0 : Int32).toUInt32 &&& Int32.toUInt32 31)).toInt32).toInt8.toInt32).toInt8.toInt32))) (12 : Int32).toInt.toNat (Value.int ((((a3.toUInt32 >>> ((24 : Int32).toUInt32 &&& Int32.toUInt32 31)).toInt32).toInt8.toInt32).toInt8.toInt32))) (13 : Int32).toInt.toNat (Value.int ((((a3.toUInt32 >>> ((16 : Int32).toUInt32 &&& Int32.toUInt32 31)).toInt32).toInt8.toInt32).toInt8.toInt32))))).set 7 (Sum.inr (0, [Value.ref 8, Value.ref 78, Value.ref 9, Value.ref 10, Value.ref 13, Value.ref 16, Value.ref 19, Value.ref 93, Value.ref 108, Value.ref 113, Value.ref 29, Value.int 14]))).set 29 (Sum.inl (1, 4096, xup (xup (xup (xup (xup (xup (xup (xup (xup (xup (xup (xup (xup (xup (xup (fun _ => Value.int 0) (0 : Int32).toInt.toNat (Value.int ((((a0.toUInt32 >>> ((24 : Int32).toUInt32 &&& Int32.toUInt32 31)).toInt32).toInt8.toInt32).toInt8.toInt32))) (1 : Int32).toInt.toNat (Value.int ((((a0.toUInt32 >>> ((16 : Int32).toUInt32 &&& Int32.toUInt32 31)).toInt32).toInt8.toInt32).toInt8.toInt32))) (2 : Int32).toInt.toNat (Value.int ((((a0.toUInt32 >>> ((8 : Int32).toUInt32 &&& Int32.toUInt32 31)).toInt32).toInt8.toInt32).toInt8.toInt32))) (3 : Int32).toInt.toNat (Value.int ((((a0.toUInt32 >>> ((0 : Int32).toUInt32 &&& Int32.toUInt32 31)).toInt32).toInt8.toInt32).toInt8.toInt32))) (4 : Int32).toInt.toNat (Value.int ((((a1.toUInt32 >>> ((24 : Int32).toUInt32 &&& Int32.toUInt32 31)).toInt32).toInt8.toInt32).toInt8.toInt32))) (5 : Int32).toInt.toNat (Value.int ((((a1.toUInt32 >>> ((16 : Int32).toUInt32 &&& Int32.toUInt32 31)).toInt32).toInt8.toInt32).toInt8.toInt32))) (6 : Int32).toInt.toNat (Value.int ((((a1.toUInt32 >>> ((8 : Int32).toUInt32 &&& Int32.toUInt32 31)).toInt32).toInt8.toInt32).toInt8.toInt32))) (7 : Int32).toInt.toNat (Value.int ((((a1.toUInt32 >>> ((0 : Int32).toUInt32 &&& Int32.toUInt32 31)).toInt32).toInt8.toInt32).toInt8.toInt32))) (8 : Int32).toInt.toNat (Value.int ((((a2.toUInt32 >>> ((24 : Int32).toUInt32 &&& Int32.toUInt32 31)).toInt32).toInt8.toInt32).toInt8.toInt32))) (9 : Int32).toInt.toNat (Value.int ((((a2.toUInt32 >>> ((16 : Int32).toUInt32 &&& Int32.toUInt32 31)).toInt32).toInt8.toInt32).toInt8.toInt32))) (10 : Int32).toInt.toNat (Value.int ((((a2.toUInt32 >>> ((8 : Int32).toUInt32 &&& Int32.toUInt32 31)).toInt32).toInt8.toInt32).toInt8.toInt32))) (11 : Int32).toInt.toNat (Value.int ((((a2.toUInt32 >>> ((0 : Int32).toUInt32 &&& Int32.toUInt32 31)).toInt32).toInt8.toInt32).toInt8.toInt32))) (12 : Int32).toInt.toNat (Value.int ((((a3.toUInt32 >>> ((24 : Int32).toUInt32 &&& Int32.toUInt32 31)).toInt32).toInt8.toInt32).toInt8.toInt32))) (13 : Int32).toInt.toNat (Value.int ((((a3.toUInt32 >>> ((16 : Int32).toUInt32 &&& Int32.toUInt32 31)).toInt32).toInt8.toInt32).toInt8.toInt32))) (14 : Int32).toInt.toNat (Value.int ((((a3.toUInt32 >>> ((8 : Int32).toUInt32 &&& Int32.toUInt32 31)).toInt32).toInt8.toInt32).toInt8.toInt32))))).set 7 (Sum.inr (0, [Value.ref 8, Value.ref 78, Value.ref 9, Value.ref 10, Value.ref 13, Value.ref 16, Value.ref 19, Value.ref 93, Value.ref 108, Value.ref 113, Value.ref 29, Value.int 15]))).set 29 (Sum.inl (1, 4096, xup (xup (xup (xup (xup (xup (xup (xup (xup (xup (xup (xup (xup (xup (xup (xup (fun _ => Value.int 0) (0 : Int32).toInt.toNat (Value.int ((((a0.toUInt32 >>> ((24 : Int32).toUInt32 &&& Int32.toUInt32 31)).toInt32).toInt8.toInt32).toInt8.toInt32))) (1 : Int32).toInt.toNat (Value.int ((((a0.toUInt32 >>> ((16 : Int32).toUInt32 &&& Int32.toUInt32 31)).toInt32).toInt8.toInt32).toInt8.toInt32))) (2 : Int32).toInt.toNat (Value.int ((((a0.toUInt32 >>> ((8 : Int32).toUInt32 &&& Int32.toUInt32 31)).toInt32).toInt8.toInt32).toInt8.toInt32))) (3 : Int32).toInt.toNat (Value.int ((((a0.toUInt32 >>> ((0 : Int32).toUInt32 &&& Int32.toUInt32 31)).toInt32).toInt8.toInt32).toInt8.toInt32))) (4 : Int32).toInt.toNat (Value.int ((((a1.toUInt32 >>> ((24 : Int32).toUInt32 &&& Int32.toUInt32 31)).toInt32).toInt8.toInt32).toInt8.toInt32))) (5 : Int32).toInt.toNat (Value.int ((((a1.toUInt32 >>> ((16 : Int32).toUInt32 &&& Int32.toUInt32 31)).toInt32).toInt8.toInt32).toInt8.toInt32))) (6 : Int32).toInt.toNat (Value.int ((((a1.toUInt32 >>> ((8 : Int32).toUInt32 &&& Int32.toUInt32 31)).toInt32).toInt8.toInt32).toInt8.toInt32))) (7 : Int32).toInt.toNat (Value.int ((((a1.toUInt32 >>> ((0 : Int32).toUInt32 &&& Int32.toUInt32 31)).toInt32).toInt8.toInt32).toInt8.toInt32))) (8 : Int32).toInt.toNat (Value.int ((((a2.toUInt32 >>> ((24 : Int32).toUInt32 &&& Int32.toUInt32 31)).toInt32).toInt8.toInt32).toInt8.toInt32))) (9 : Int32).toInt.toNat (Value.int ((((a2.toUInt32 >>> ((16 : Int32).toUInt32 &&& Int32.toUInt32 31)).toInt32).toInt8.toInt32).toInt8.toInt32))) (10 : Int32).toInt.toNat (Value.int ((((a2.toUInt32 >>> ((8 : Int32).toUInt32 &&& Int32.toUInt32 31)).toInt32).toInt8.toInt32).toInt8.toInt32))) (11 : Int32).toInt.toNat (Value.int ((((a2.toUInt32 >>> ((0 : Int32).toUInt32 &&& Int32.toUInt32 31)).toInt32).toInt8.toInt32).toInt8.toInt32))) (12 : Int32).toInt.toNat (Value.int ((((a3.toUInt32 >>> ((24 : Int32).toUInt32 &&& Int32.toUInt32 31)).toInt32).toInt8.toInt32).toInt8.toInt32))) (13 : Int32).toInt.toNat (Value.int ((((a3.toUInt32 >>> ((16 : Int32).toUInt32 &&& Int32.toUInt32 31)).toInt32).toInt8.toInt32).toInt8.toInt32))) (14 : Int32).toInt.toNat (Value.int ((((a3.toUInt32 >>> ((8 : Int32).toUInt32 &&& Int32.toUInt32 31)).toInt32).toInt8.toInt32).toInt8.toInt32))) (15 : Int32).toInt.toNat (Value.int ((((a3.toUInt32 >>> ((0 : Int32).toUInt32 &&& Int32.toUInt32 31)).toInt32).toInt8.toInt32).toInt8.toInt32))))).set 7 (Sum.inr (0, [Value.ref 8, Value.ref 78, Value.ref 9, Value.ref 10, Value.ref 13, Value.ref 16, Value.ref 19, Value.ref 93, Value.ref 108, Value.ref 113, Value.ref 29, Value.int 16]))).set 29 (Sum.inl (1, 4096, xup (xup (xup (xup (xup (xup (xup (xup (xup (xup (xup (xup (xup (xup (xup (xup (xup (fun _ => Value.int 0) (0 : Int32).toInt.toNat (Value.int ((((a0.toUInt32 >>> ((24 : Int32).toUInt32 &&& Int32.toUInt32 31)).toInt32).toInt8.toInt32).toInt8.toInt32))) (1 : Int32).toInt.toNat (Value.int ((((a0.toUInt32 >>> ((16 : Int32).toUInt32 &&& Int32.toUInt32 31)).toInt32).toInt8.toInt32).toInt8.toInt32))) (2 : Int32).toInt.toNat (Value.int ((((a0.toUInt32 >>> ((8 : Int32).toUInt32 &&& Int32.toUInt32 31)).toInt32).toInt8.toInt32).toInt8.toInt32))) (3 : Int32).toInt.toNat (Value.int ((((a0.toUInt32 >>> ((0 : Int32).toUInt32 &&& Int32.toUInt32 31)).toInt32).toInt8.toInt32).toInt8.toInt32))) (4 : Int32).toInt.toNat (Value.int ((((a1.toUInt32 >>> ((24 : Int32).toUInt32 &&& Int32.toUInt32 31)).toInt32).toInt8.toInt32).toInt8.toInt32))) (5 : Int32).toInt.toNat (Value.int ((((a1.toUInt32 >>> ((16 : Int32).toUInt32 &&& Int32.toUInt32 31)).toInt32).toInt8.toInt32).toInt8.toInt32))) (6 : Int32).toInt.toNat (Value.int ((((a1.toUInt32 >>> ((8 : Int32).toUInt32 &&& Int32.toUInt32 31)).toInt32).toInt8.toInt32).toInt8.toInt32))) (7 : Int32).toInt.toNat (Value.int ((((a1.toUInt32 >>> ((0 : Int32).toUInt32 &&& Int32.toUInt32 31)).toInt32).toInt8.toInt32).toInt8.toInt32))) (8 : Int32).toInt.toNat (Value.int ((((a2.toUInt32 >>> ((24 : Int32).toUInt32 &&& Int32.toUInt32 31)).toInt32).toInt8.toInt32).toInt8.toInt32))) (9 : Int32).toInt.toNat (Value.int ((((a2.toUInt32 >>> ((16 : Int32).toUInt32 &&& Int32.toUInt32 31)).toInt32).toInt8.toInt32).toInt8.toInt32))) (10 : Int32).toInt.toNat (Value.int ((((a2.toUInt32 >>> ((8 : Int32).toUInt32 &&& Int32.toUInt32 31)).toInt32).toInt8.toInt32).toInt8.toInt32))) (11 : Int32).toInt.toNat (Value.int ((((a2.toUInt32 >>> ((0 : Int32).toUInt32 &&& Int32.toUInt32 31)).toInt32).toInt8.toInt32).toInt8.toInt32))) (12 : Int32).toInt.toNat (Value.int ((((a3.toUInt32 >>> ((24 : Int32).toUInt32 &&& Int32.toUInt32 31)).toInt32).toInt8.toInt32).toInt8.toInt32))) (13 : Int32).toInt.toNat (Value.int ((((a3.toUInt32 >>> ((16 : Int32).toUInt32 &&& Int32.toUInt32 31)).toInt32).toInt8.toInt32).toInt8.toInt32))) (14 : Int32).toInt.toNat (Value.int ((((a3.toUInt32 >>> ((8 : Int32).toUInt32 &&& Int32.toUInt32 31)).toInt32).toInt8.toInt32).toInt8.toInt32))) (15 : Int32).toInt.toNat (Value.int ((((a3.toUInt32 >>> ((0 : Int32).toUInt32 &&& Int32.toUInt32 31)).toInt32).toInt8.toInt32).toInt8.toInt32))) (16 : Int32).toInt.toNat (Value.int ((((a4.toUInt32 >>> ((24 : Int32).toUInt32 &&& Int32.toUInt32 31)).toInt32).toInt8.toInt32).toInt8.toInt32))))).set 7 (Sum.inr (0, [Value.ref 8, Value.ref 78, Value.ref 9, Value.ref 10, Value.ref 13, Value.ref 16, Value.ref 19, Value.ref 93, Value.ref 108, Value.ref 113, Value.ref 29, Value.int 17]))).set 29 (Sum.inl (1, 4096, xup (xup (xup (xup (xup (xup (xup (xup (xup (xup (xup (xup (xup (xup (xup (xup (xup (xup (fun _ => Value.int 0) (0 : Int32).toInt.toNat (Value.int ((((a0.toUInt32 >>> ((24 : Int32).toUInt32 &&& Int32.toUInt32 31)).toInt32).toInt8.toInt32).toInt8.toInt32))) (1 : Int32).toInt.toNat (Value.int ((((a0.toUInt32 >>> ((16 : Int32).toUInt32 &&& Int32.toUInt32 31)).toInt32).toInt8.toInt32).toInt8.toInt32))) (2 : Int32).toInt.toNat (Value.int ((((a0.toUInt32 >>> ((8 : Int32).toUInt32 &&& Int32.toUInt32 31)).toInt32).toInt8.toInt32).toInt8.toInt32))) (3 : Int32).toInt.toNat (Value.int ((((a0.toUInt32 >>> ((0 : Int32).toUInt32 &&& Int32.toUInt32 31)).toInt32).toInt8.toInt32).toInt8.toInt32))) (4 : Int32).toInt.toNat (Value.int ((((a1.toUInt32 >>> ((24 : Int32).toUInt32 &&& Int32.toUInt32 31)).toInt32).toInt8.toInt32).toInt8.toInt32))) (5 : Int32).toInt.toNat (Value.int ((((a1.toUInt32 >>> ((16 : Int32).toUInt32 &&& Int32.toUInt32 31)).toInt32).toInt8.toInt32).toInt8.toInt32))) (6 : Int32).toInt.toNat (Value.int ((((a1.toUInt32 >>> ((8 : Int32).toUInt32 &&& Int32.toUInt32 31)).toInt32).toInt8.toInt32).toInt8.toInt32))) (7 : Int32).toInt.toNat (Value.int ((((a1.toUInt32 >>> ((0 : Int32).toUInt32 &&& Int32.toUInt32 31)).toInt32).toInt8.toInt32).toInt8.toInt32))) (8 : Int32).toInt.toNat (Value.int ((((a2.toUInt32 >>> ((24 : Int32).toUInt32 &&& Int32.toUInt32 31)).toInt32).toInt8.toInt32).toInt8.toInt32))) (9 : Int32).toInt.toNat (Value.int ((((a2.toUInt32 >>> ((16 : Int32).toUInt32 &&& Int32.toUInt32 31)).toInt32).toInt8.toInt32).toInt8.toInt32))) (10 : Int32).toInt.toNat (Value.int ((((a2.toUInt32 >>> ((8 : Int32).toUInt32 &&& Int32.toUInt32 31)).toInt32).toInt8.toInt32).toInt8.toInt32))) (11 : Int32).toInt.toNat (Value.int ((((a2.toUInt32 >>> ((0 : Int32).toUInt32 &&& Int32.toUInt32 31)).toInt32).toInt8.toInt32).toInt8.toInt32))) (12 : Int32).toInt.toNat (Value.int ((((a3.toUInt32 >>> ((24 : Int32).toUInt32 &&& Int32.toUInt32 31)).toInt32).toInt8.toInt32).toInt8.toInt32))) (13 : Int32).toInt.toNat (Value.int ((((a3.toUInt32 >>> ((16 : Int32).toUInt32 &&& Int32.toUInt32 31)).toInt32).toInt8.toInt32).toInt8.toInt32))) (14 : Int32).toInt.toNat (Value.int ((((a3.toUInt32 >>> ((8 : Int32).toUInt32 &&& Int32.toUInt32 31)).toInt32).toInt8.toInt32).toInt8.toInt32))) (15 : Int32).toInt.toNat (Value.int ((((a3.toUInt32 >>> ((0 : Int32).toUInt32 &&& Int32.toUInt32 31)).toInt32).toInt8.toInt32).toInt8.toInt32))) (16 : Int32).toInt.toNat (Value.int ((((a4.toUInt32 >>> ((24 : Int32).toUInt32 &&& Int32.toUInt32 31)).toInt32).toInt8.toInt32).toInt8.toInt32))) (17 : Int32).toInt.toNat (Value.int ((((a4.toUInt32 >>> ((16 : Int32).toUInt32 &&& Int32.toUInt32 31)).toInt32).toInt8.toInt32).toInt8.toInt32))))).set 7 (Sum.inr (0, [Value.ref 8, Value.ref 78, Value.ref 9, Value.ref 10, Value.ref 13, Value.ref 16, Value.ref 19, Value.ref 93, Value.ref 108, Value.ref 113, Value.ref 29, Value.int 18]))).set 29 (Sum.inl (1, 4096, xup (xup (xup (xup (xup (xup (xup (xup (xup (xup (xup (xup (xup (xup (xup (xup (xup (xup (xup (fun _ => Value.int 0) (0 : Int32).toInt.toNat (Value.int ((((a0.toUInt32 >>> ((24 : Int32).toUInt32 &&& Int32.toUInt32 31)).toInt32).toInt8.toInt32).toInt8.toInt32))) (1 : Int32).toInt.toNat (Value.int ((((a0.toUInt32 >>> ((16 : Int32).toUInt32 &&& Int32.toUInt32 31)).toInt32).toInt8.toInt32).toInt8.toInt32))) (2 : Int32).toInt.toNat (Value.int ((((a0.toUInt32 >>> ((8 : Int32).toUInt32 &&& Int32.toUInt32 31)).toInt32).toInt8.toInt32).toInt8.toInt32))) (3 : Int32).toInt.toNat (Value.int ((((a0.toUInt32 >>> ((0 : Int32).toUInt32 &&& Int32.toUInt32 31)).toInt32).toInt8.toInt32).toInt8.toInt32))) (4 : Int32).toInt.toNat (Value.int ((((a1.toUInt32 >>> ((24 : Int32).toUInt32 &&& Int32.toUInt32 31)).toInt32).toInt8.toInt32).toInt8.toInt32))) (5 : Int32).toInt.toNat (Value.int ((((a1.toUInt32 >>> ((16 : Int32).toUInt32 &&& Int32.toUInt32 31)).toInt32).toInt8.toInt32).toInt8.toInt32))) (6 : Int32).toInt.toNat (Value.int ((((a1.toUInt32 >>> ((8 : Int32).toUInt32 &&& Int32.toUInt32 31)).toInt32).toInt8.toInt32).toInt8.toInt32))) (7 : Int32).toInt.toNat (Value.int ((((a1.toUInt32 >>> ((0 : Int32).toUInt32 &&& Int32.toUInt32 31)).toInt32).toInt8.toInt32).toInt8.toInt32))) (8 : Int32).toInt.toNat (Value.int ((((a2.toUInt32 >>> ((24 : Int32).toUInt32 &&& Int32.toUInt32 31)).toInt32).toInt8.toInt32).toInt8.toInt32))) (9 : Int32).toInt.toNat (Value.int ((((a2.toUInt32 >>> ((16 : Int32).toUInt32 &&& Int32.toUInt32 31)).toInt32).toInt8.toInt32).toInt8.toInt32))) (10 : Int32).toInt.toNat (Value.int ((((a2.toUInt32 >>> ((8 : Int32).toUInt32 &&& Int32.toUInt32 31)).toInt32).toInt8.toInt32).toInt8.toInt32))) (11 : Int32).toInt.toNat (Value.int ((((a2.toUInt32 >>> ((0 : Int32).toUInt32 &&& Int32.toUInt32 31)).toInt32).toInt8.toInt32).toInt8.toInt32))) (12 : Int32).toInt.toNat (Value.int ((((a3.toUInt32 >>> ((24 : Int32).toUInt32 &&& Int32.toUInt32 31)).toInt32).toInt8.toInt32).toInt8.toInt32))) (13 : Int32).toInt.toNat (Value.int ((((a3.toUInt32 >>> ((16 : Int32).toUInt32 &&& Int32.toUInt32 31)).toInt32).toInt8.toInt32).toInt8.toInt32))) (14 : Int32).toInt.toNat (Value.int ((((a3.toUInt32 >>> ((8 : Int32).toUInt32 &&& Int32.toUInt32 31)).toInt32).toInt8.toInt32).toInt8.toInt32))) (15 : Int32).toInt.toNat (Value.int ((((a3.toUInt32 >>> ((0 : Int32).toUInt32 &&& Int32.toUInt32 31)).toInt32).toInt8.toInt32).toInt8.toInt32))) (16 : Int32).toInt.toNat (Value.int ((((a4.toUInt32 >>> ((24 : Int32).toUInt32 &&& Int32.toUInt32 31)).toInt32).toInt8.toInt32).toInt8.toInt32))) (17 : Int32).toInt.toNat (Value.int ((((a4.toUInt32 >>> ((16 : Int32).toUInt32 &&& Int32.toUInt32 31)).toInt32).toInt8.toInt32).toInt8.toInt32))) (18 : Int32).toInt.toNat (Value.int ((((a4.toUInt32 >>> ((8 : Int32).toUInt32 &&& Int32.toUInt32 31)).toInt32).toInt8.toInt32).toInt8.toInt32))))).set 7 (Sum.inr (0, [Value.ref 8, Value.ref 78, Value.ref 9, Value.ref 10, Value.ref 13, Value.ref 16, Value.ref 19, Value.ref 93, Value.ref 108, Value.ref 113, Value.ref 29, Value.int 19]))).set 29 (Sum.inl (1, 4096, xup (xup (xup (xup (xup (xup (xup (xup (xup (xup (xup (xup (xup (xup (xup (xup (xup (xup (xup (xup (fun _ => Value.int 0) (0 : Int32).toInt.toNat (Value.int ((((a0.toUInt32 >>> ((24 : Int32).toUInt32 &&& Int32.toUInt32 31)).toInt32).toInt8.toInt32).toInt8.toInt32))) (1 : Int32).toInt.toNat (Value.int ((((a0.toUInt32 >>> ((16 : Int32).toUInt32 &&& Int32.toUInt32 31)).toInt32).toInt8.toInt32).toInt8.toInt32))) (2 : Int32).toInt.toNat (Value.int ((((a0.toUInt32 >>> ((8 : Int32).toUInt32 &&& Int32.toUInt32 31)).toInt32).toInt8.toInt32).toInt8.toInt32))) (3 : Int32).toInt.toNat (Value.int ((((a0.toUInt32 >>> ((0 : Int32).toUInt32 &&& Int32.toUInt32 31)).toInt32).toInt8.toInt32).toInt8.toInt32))) (4 : Int32).toInt.toNat (Value.int ((((a1.toUInt32 >>> ((24 : Int32).toUInt32 &&& Int32.toUInt32 31)).toInt32).toInt8.toInt32).toInt8.toInt32))) (5 : Int32).toInt.toNat (Value.int ((((a1.toUInt32 >>> ((16 : Int32).toUInt32 &&& Int32.toUInt32 31)).toInt32).toInt8.toInt32).toInt8.toInt32))) (6 : Int32).toInt.toNat (Value.int ((((a1.toUInt32 >>> ((8 : Int32).toUInt32 &&& Int32.toUInt32 31)).toInt32).toInt8.toInt32).toInt8.toInt32))) (7 : Int32).toInt.toNat (Value.int ((((a1.toUInt32 >>> ((0 : Int32).toUInt32 &&& Int32.toUInt32 31)).toInt32).toInt8.toInt32).toInt8.toInt32))) (8 : Int32).toInt.toNat (Value.int ((((a2.toUInt32 >>> ((24 : Int32).toUInt32 &&& Int32.toUInt32 31)).toInt32).toInt8.toInt32).toInt8.toInt32))) (9 : Int32).toInt.toNat (Value.int ((((a2.toUInt32 >>> ((16 : Int32).toUInt32 &&& Int32.toUInt32 31)).toInt32).toInt8.toInt32).toInt8.toInt32))) (10 : Int32).toInt.toNat (Value.int ((((a2.toUInt32 >>> ((8 : Int32).toUInt32 &&& Int32.toUInt32 31)).toInt32).toInt8.toInt32).toInt8.toInt32))) (11 : Int32).toInt.toNat (Value.int ((((a2.toUInt32 >>> ((0 : Int32).toUInt32 &&& Int32.toUInt32 31)).toInt32).toInt8.toInt32).toInt8.toInt32))) (12 : Int32).toInt.toNat (Value.int ((((a3.toUInt32 >>> ((24 : Int32).toUInt32 &&& Int32.toUInt32 31)).toInt32).toInt8.toInt32).toInt8.toInt32))) (13 : Int32).toInt.toNat (Value.int ((((a3.toUInt32 >>> ((16 : Int32).toUInt32 &&& Int32.toUInt32 31)).toInt32).toInt8.toInt32).toInt8.toInt32))) (14 : Int32).toInt.toNat (Value.int ((((a3.toUInt32 >>> ((8 : Int32).toUInt32 &&& Int32.toUInt32 31)).toInt32).toInt8.toInt32).toInt8.toInt32))) (15 : Int32).toInt.toNat (Value.int ((((a3.toUInt32 >>> ((0 : Int32).toUInt32 &&& Int32.toUInt32 31)).toInt32).toInt8.toInt32).toInt8.toInt32))) (16 : Int32).toInt.toNat (Value.int ((((a4.toUInt32 >>> ((24 : Int32).toUInt32 &&& Int32.toUInt32 31)).toInt32).toInt8.toInt32).toInt8.toInt32))) (17 : Int32).toInt.toNat (Value.int ((((a4.toUInt32 >>> ((16 : Int32).toUInt32 &&& Int32.toUInt32 31)).toInt32).toInt8.toInt32).toInt8.toInt32))) (18 : Int32).toInt.toNat (Value.int ((((a4.toUInt32 >>> ((8 : Int32).toUInt32 &&& Int32.toUInt32 31)).toInt32).toInt8.toInt32).toInt8.toInt32))) (19 : Int32).toInt.toNat (Value.int ((((a4.toUInt32 >>> ((0 : Int32).toUInt32 &&& Int32.toUInt32 31)).toInt32).toInt8.toInt32).toInt8.toInt32))))).set 7 (Sum.inr (0, [Value.ref 8, Value.ref 78, Value.ref 9, Value.ref 10, Value.ref 13, Value.ref 16, Value.ref 19, Value.ref 93, Value.ref 108, Value.ref 113, Value.ref 29, Value.int 20]))) := by
  refine xRun.of ?_
  refine i_137_0 (x := 7) rfl ?_
  refine i_137_1 (v := Value.int 0) hw0 rfl ?_
  refine i_137_4 ?_
  refine i_137_6 (c := 20) (by decide) ?_
  refine i_137_7 ?_
  refine i_137_10 (fun _ => ?_) (fun h => absurd h (by decide))
  refine i_137_21 (x := 7) rfl ?_
  refine i_137_22 (x := a0) rfl ?_
  refine i_137_23 hw0 (Nat.le_of_ble_eq_true rfl) (p_138_0 hw0 hw1) ?_
  refine i_137_26 (x := 7) rfl ?_
  refine i_137_27 (x := a1) rfl ?_
  refine i_137_28 (xgs (xgn (by decide) (xgs (xgn (by decide) (xgs (xgn (by decide) (xgs (xgn (by decide) hw0)))))))) (Nat.le_of_ble_eq_true rfl) (p_138_1 (xgs (xgn (by decide) (xgs (xgn (by decide) (xgs (xgn (by decide) (xgs (xgn (by decide) hw0)))))))) (xgn (by decide) (xgs (xgn (by decide) (xgs (xgn (by decide) (xgs (xgn (by decide) (xgs hw1))))))))) ?_
  refine i_137_31 (x := 7) rfl ?_
  refine i_137_32 (x := a2) rfl ?_
  refine i_137_33 (xgs (xgn (by decide) (xgs (xgn (by decide) (xgs (xgn (by decide) (xgs (xgn (by decide) (xgs (xgn (by decide) (xgs (xgn (by decide) (xgs (xgn (by decide) (xgs (xgn (by decide) hw0)))))))))))))))) (Nat.le_of_ble_eq_true rfl) (p_138_2 (xgs (xgn (by decide) (xgs (xgn (by decide) (xgs (xgn (by decide) (xgs (xgn (by decide) (xgs (xgn (by decide) (xgs (xgn (by decide) (xgs (xgn (by decide) (xgs (xgn (by decide) hw0)))))))))))))))) (xgn (by decide) (xgs (xgn (by decide) (xgs (xgn (by decide) (xgs (xgn (by decide) (xgs (xgn (by decide) (xgs (xgn (by decide) (xgs (xgn (by decide) (xgs (xgn (by decide) (xgs hw1))))))))))))))))) ?_
  refine i_137_36 (x := 7) rfl ?_
  refine i_137_37 (x := a3) rfl ?_
  refine i_137_39 (xgs (xgn (by decide) (xgs (xgn (by decide) (xgs (xgn (by decide) (xgs (xgn (by decide) (xgs (xgn (by decide) (xgs (xgn (by decide) (xgs (xgn (by decide) (xgs (xgn (by decide) (xgs (xgn (by decide) (xgs (xgn (by decide) (xgs (xgn (by decide) (xgs (xgn (by decide) hw0)))))))))))))))))))))))) (Nat.le_of_ble_eq_true rfl) (p_138_3 (xgs (xgn (by decide) (xgs (xgn (by decide) (xgs (xgn (by decide) (xgs (xgn (by decide) (xgs (xgn (by decide) (xgs (xgn (by decide) (xgs (xgn (by decide) (xgs (xgn (by decide) (xgs (xgn (by decide) (xgs (xgn (by decide) (xgs (xgn (by decide) (xgs (xgn (by decide) hw0)))))))))))))))))))))))) (xgn (by decide) (xgs (xgn (by decide) (xgs (xgn (by decide) (xgs (xgn (by decide) (xgs (xgn (by decide) (xgs (xgn (by decide) (xgs (xgn (by decide) (xgs (xgn (by decide) (xgs (xgn (by decide) (xgs (xgn (by decide) (xgs (xgn (by decide) (xgs (xgn (by decide) (xgs hw1))))))))))))))))))))))))) ?_
  refine i_137_42 (x := 7) rfl ?_
  refine i_137_43 (x := a4) rfl ?_
  refine i_137_45 (xgs (xgn (by decide) (xgs (xgn (by decide) (xgs (xgn (by decide) (xgs (xgn (by decide) (xgs (xgn (by decide) (xgs (xgn (by decide) (xgs (xgn (by decide) (xgs (xgn (by decide) (xgs (xgn (by decide) (xgs (xgn (by decide) (xgs (xgn (by decide) (xgs (xgn (by decide) (xgs (xgn (by decide) (xgs (xgn (by decide) (xgs (xgn (by decide) (xgs (xgn (by decide) hw0)))))))))))))))))))))))))))))))) (Nat.le_of_ble_eq_true rfl) (p_138_4 (xgs (xgn (by decide) (xgs (xgn (by decide) (xgs (xgn (by decide) (xgs (xgn (by decide) (xgs (xgn (by decide) (xgs (xgn (by decide) (xgs (xgn (by decide) (xgs (xgn (by decide) (xgs (xgn (by decide) (xgs (xgn (by decide) (xgs (xgn (by decide) (xgs (xgn (by decide) (xgs (xgn (by decide) (xgs (xgn (by decide) (xgs (xgn (by decide) (xgs (xgn (by decide) hw0)))))))))))))))))))))))))))))))) (xgn (by decide) (xgs (xgn (by decide) (xgs (xgn (by decide) (xgs (xgn (by decide) (xgs (xgn (by decide) (xgs (xgn (by decide) (xgs (xgn (by decide) (xgs (xgn (by decide) (xgs (xgn (by decide) (xgs (xgn (by decide) (xgs (xgn (by decide) (xgs (xgn (by decide) (xgs (xgn (by decide) (xgs (xgn (by decide) (xgs (xgn (by decide) (xgs (xgn (by decide) (xgs hw1))))))))))))))))))))))))))))))))) ?_
  exact i_137_48 ⟨rfl, rfl⟩
theorem p_136_0 {d : Nat} {w : xW} {a0 : Int32} {a1 : Int32} {a2 : Int32} {a3 : Int32} {a4 : Int32} (hw0 : w[7]? = some (Sum.inr (0, [Value.ref 8, Value.ref 78, Value.ref 9, Value.ref 10, Value.ref 13, Value.ref 16, Value.ref 19, Value.ref 93, Value.ref 108, Value.ref 113, Value.ref 29, Value.int 0]))) (hw1 : w[29]? = some (Sum.inl (1, 4096, fun _ => Value.int 0))) : xRun (d + 2) 136 [Value.ref 7, Value.int a0, Value.int a1, Value.int a2, Value.int a3, Value.int a4] w (.inl (some (Value.int 0))) ((((((((((((((((((((((((((((((((((((((((w.set 29 (Sum.inl (1, 4096, xup (fun _ => Value.int 0) (0 : Int32).toInt.toNat (Value.int ((((a0.toUInt32 >>> ((24 : Int32).toUInt32 &&& Int32.toUInt32 31)).toInt32).toInt8.toInt32).toInt8.toInt32))))).set 7 (Sum.inr (0, [Value.ref 8, Value.ref 78, Value.ref 9, Value.ref 10, Value.ref 13, Value.ref 16, Value.ref 19, Value.ref 93, Value.ref 108, Value.ref 113, Value.ref 29, Value.int 1]))).set 29 (Sum.inl (1, 4096, xup (xup (fun _ => Value.int 0) (0 : Int32).toInt.toNat (Value.int ((((a0.toUInt32 >>> ((24 : Int32).toUInt32 &&& Int32.toUInt32 31)).toInt32).toInt8.toInt32).toInt8.toInt32))) (1 : Int32).toInt.toNat (Value.int ((((a0.toUInt32 >>> ((16 : Int32).toUInt32 &&& Int32.toUInt32 31)).toInt32).toInt8.toInt32).toInt8.toInt32))))).set 7 (Sum.inr (0, [Value.ref 8, Value.ref 78, Value.ref 9, Value.ref 10, Value.ref 13, Value.ref 16, Value.ref 19, Value.ref 93, Value.ref 108, Value.ref 113, Value.ref 29, Value.int 2]))).set 29 (Sum.inl (1, 4096, xup (xup (xup (fun _ => Value.int 0) (0 : Int32).toInt.toNat (Value.int ((((a0.toUInt32 >>> ((24 : Int32).toUInt32 &&& Int32.toUInt32 31)).toInt32).toInt8.toInt32).toInt8.toInt32))) (1 : Int32).toInt.toNat (Value.int ((((a0.toUInt32 >>> ((16 : Int32).toUInt32 &&& Int32.toUInt32 31)).toInt32).toInt8.toInt32).toInt8.toInt32))) (2 : Int32).toInt.toNat (Value.int ((((a0.toUInt32 >>> ((8 : Int32).toUInt32 &&& Int32.toUInt32 31)).toInt32).toInt8.toInt32).toInt8.toInt32))))).set 7 (Sum.inr (0, [Value.ref 8, Value.ref 78, Value.ref 9, Value.ref 10, Value.ref 13, Value.ref 16, Value.ref 19, Value.ref 93, Value.ref 108, Value.ref 113, Value.ref 29, Value.int 3]))).set 29 (Sum.inl (1, 4096, xup (xup (xup (xup (fun _ => Value.int 0) (0 : Int32).toInt.toNat (Value.int ((((a0.toUInt32 >>> ((24 : Int32).toUInt32 &&& Int32.toUInt32 31)).toInt32).toInt8.toInt32).toInt8.toInt32))) (1 : Int32).toInt.toNat (Value.int ((((a0.toUInt32 >>> ((16 : Int32).toUInt32 &&& Int32.toUInt32 31)).toInt32).toInt8.toInt32).toInt8.toInt32))) (2 : Int32).toInt.toNat (Value.int ((((a0.toUInt32 >>> ((8 : Int32).toUInt32 &&& Int32.toUInt32 31)).toInt32).toInt8.toInt32).toInt8.toInt32))) (3 : Int32).toInt.toNat (Value.int ((((a0.toUInt32 >>> ((0 : Int32).toUInt32 &&& Int32.toUInt32 31)).toInt32).toInt8.toInt32).toInt8.toInt32))))).set 7 (Sum.inr (0, [Value.ref 8, Value.ref 78, Value.ref 9, Value.ref 10, Value.ref 13, Value.ref 16, Value.ref 19, Value.ref 93, Value.ref 108, Value.ref 113, Value.ref 29, Value.int 4]))).set 29 (Sum.inl (1, 4096, xup (xup (xup (xup (xup (fun _ => Value.int 0) (0 : Int32).toInt.toNat (Value.int ((((a0.toUInt32 >>> ((24 : Int32).toUInt32 &&& Int32.toUInt32 31)).toInt32).toInt8.toInt32).toInt8.toInt32))) (1 : Int32).toInt.toNat (Value.int ((((a0.toUInt32 >>> ((16 : Int32).toUInt32 &&& Int32.toUInt32 31)).toInt32).toInt8.toInt32).toInt8.toInt32))) (2 : Int32).toInt.toNat (Value.int ((((a0.toUInt32 >>> ((8 : Int32).toUInt32 &&& Int32.toUInt32 31)).toInt32).toInt8.toInt32).toInt8.toInt32))) (3 : Int32).toInt.toNat (Value.int ((((a0.toUInt32 >>> ((0 : Int32).toUInt32 &&& Int32.toUInt32 31)).toInt32).toInt8.toInt32).toInt8.toInt32))) (4 : Int32).toInt.toNat (Value.int ((((a1.toUInt32 >>> ((24 : Int32).toUInt32 &&& Int32.toUInt32 31)).toInt32).toInt8.toInt32).toInt8.toInt32))))).set 7 (Sum.inr (0, [Value.ref 8, Value.ref 78, Value.ref 9, Value.ref 10, Value.ref 13, Value.ref 16, Value.ref 19, Value.ref 93, Value.ref 108, Value.ref 113, Value.ref 29, Value.int 5]))).set 29 (Sum.inl (1, 4096, xup (xup (xup (xup (xup (xup (fun _ => Value.int 0) (0 : Int32).toInt.toNat (Value.int ((((a0.toUInt32 >>> ((24 : Int32).toUInt32 &&& Int32.toUInt32 31)).toInt32).toInt8.toInt32).toInt8.toInt32))) (1 : Int32).toInt.toNat (Value.int ((((a0.toUInt32 >>> ((16 : Int32).toUInt32 &&& Int32.toUInt32 31)).toInt32).toInt8.toInt32).toInt8.toInt32))) (2 : Int32).toInt.toNat (Value.int ((((a0.toUInt32 >>> ((8 : Int32).toUInt32 &&& Int32.toUInt32 31)).toInt32).toInt8.toInt32).toInt8.toInt32))) (3 : Int32).toInt.toNat (Value.int ((((a0.toUInt32 >>> ((0 : Int32).toUInt32 &&& Int32.toUInt32 31)).toInt32).toInt8.toInt32).toInt8.toInt32))) (4 : Int32).toInt.toNat (Value.int ((((a1.toUInt32 >>> ((24 : Int32).toUInt32 &&& Int32.toUInt32 31)).toInt32).toInt8.toInt32).toInt8.toInt32))) (5 : Int32).toInt.toNat (Value.int ((((a1.toUInt32 >>> ((16 : Int32).toUInt32 &&& Int32.toUInt32 31)).toInt32).toInt8.toInt32).toInt8.toInt32))))).set 7 (Sum.inr (0, [Value.ref 8, Value.ref 78, Value.ref 9, Value.ref 10, Value.ref 13, Value.ref 16, Value.ref 19, Value.ref 93, Value.ref 108, Value.ref 113, Value.ref 29, Value.int 6]))).set 29 (Sum.inl (1, 4096, xup (xup (xup (xup (xup (xup (xup (fun _ => Value.int 0) (0 : Int32).toInt.toNat (Value.int ((((a0.toUInt32 >>> ((24 : Int32).toUInt32 &&& Int32.toUInt32 31)).toInt32).toInt8.toInt32).toInt8.toInt32))) (1 : Int32).toInt.toNat (Value.int ((((a0.toUInt32 >>> ((16 : Int32).toUInt32 &&& Int32.toUInt32 31)).toInt32).toInt8.toInt32).toInt8.toInt32))) (2 : Int32).toInt.toNat (Value.int ((((a0.toUInt32 >>> ((8 : Int32).toUInt32 &&& Int32.toUInt32 31)).toInt32).toInt8.toInt32).toInt8.toInt32))) (3 : Int32).toInt.toNat (Value.int ((((a0.toUInt32 >>> ((0 : Int32).toUInt32 &&& Int32.toUInt32 31)).toInt32).toInt8.toInt32).toInt8.toInt32))) (4 : Int32).toInt.toNat (Value.int ((((a1.toUInt32 >>> ((24 : Int32).toUInt32 &&& Int32.toUInt32 31)).toInt32).toInt8.toInt32).toInt8.toInt32))) (5 : Int32).toInt.toNat (Value.int ((((a1.toUInt32 >>> ((16 : Int32).toUInt32 &&& Int32.toUInt32 31)).toInt32).toInt8.toInt32).toInt8.toInt32))) (6 : Int32).toInt.toNat (Value.int ((((a1.toUInt32 >>> ((8 : Int32).toUInt32 &&& Int32.toUInt32 31)).toInt32).toInt8.toInt32).toInt8.toInt32))))).set 7 (Sum.inr (0, [Value.ref 8, Value.ref 78, Value.ref 9, Value.ref 10, Value.ref 13, Value.ref 16, Value.ref 19, Value.ref 93, Value.ref 108, Value.ref 113, Value.ref 29, Value.int 7]))).set 29 (Sum.inl (1, 4096, xup (xup (xup (xup (xup (xup (xup (xup (fun _ => Value.int 0) (0 : Int32).toInt.toNat (Value.int ((((a0.toUInt32 >>> ((24 : Int32).toUInt32 &&& Int32.toUInt32 31)).toInt32).toInt8.toInt32).toInt8.toInt32))) (1 : Int32).toInt.toNat (Value.int ((((a0.toUInt32 >>> ((16 : Int32).toUInt32 &&& Int32.toUInt32 31)).toInt32).toInt8.toInt32).toInt8.toInt32))) (2 : Int32).toInt.toNat (Value.int ((((a0.toUInt32 >>> ((8 : Int32).toUInt32 &&& Int32.toUInt32 31)).toInt32).toInt8.toInt32).toInt8.toInt32))) (3 : Int32).toInt.toNat (Value.int ((((a0.toUInt32 >>> ((0 : Int32).toUInt32 &&& Int32.toUInt32 31)).toInt32).toInt8.toInt32).toInt8.toInt32))) (4 : Int32).toInt.toNat (Value.int ((((a1.toUInt32 >>> ((24 : Int32).toUInt32 &&& Int32.toUInt32 31)).toInt32).toInt8.toInt32).toInt8.toInt32))) (5 : Int32).toInt.toNat (Value.int ((((a1.toUInt32 >>> ((16 : Int32).toUInt32 &&& Int32.toUInt32 31)).toInt32).toInt8.toInt32).toInt8.toInt32))) (6 : Int32).toInt.toNat (Value.int ((((a1.toUInt32 >>> ((8 : Int32).toUInt32 &&& Int32.toUInt32 31)).toInt32).toInt8.toInt32).toInt8.toInt32))) (7 : Int32).toInt.toNat (Value.int ((((a1.toUInt32 >>> ((0 : Int32).toUInt32 &&& Int32.toUInt32 31)).toInt32).toInt8.toInt32).toInt8.toInt32))))).set 7 (Sum.inr (0, [Value.ref 8, Value.ref 78, Value.ref 9, Value.ref 10, Value.ref 13, Value.ref 16, Value.ref 19, Value.ref 93, Value.ref 108, Value.ref 113, Value.ref 29, Value.int 8]))).set 29 (Sum.inl (1, 4096, xup (xup (xup (xup (xup (xup (xup (xup (xup (fun _ => Value.int 0) (0 : Int32).toInt.toNat (Value.int ((((a0.toUInt32 >>> ((24 : Int32).toUInt32 &&& Int32.toUInt32 31)).toInt32).toInt8.toInt32).toInt8.toInt32))) (1 : Int32).toInt.toNat (Value.int ((((a0.toUInt32 >>> ((16 : Int32).toUInt32 &&& Int32.toUInt32 31)).toInt32).toInt8.toInt32).toInt8.toInt32))) (2 : Int32).toInt.toNat (Value.int ((((a0.toUInt32 >>> ((8 : Int32).toUInt32 &&& Int32.toUInt32 31)).toInt32).toInt8.toInt32).toInt8.toInt32))) (3 : Int32).toInt.toNat (Value.int ((((a0.toUInt32 >>> ((0 : Int32).toUInt32 &&& Int32.toUInt32 31)).toInt32).toInt8.toInt32).toInt8.toInt32))) (4 : Int32).toInt.toNat (Value.int ((((a1.toUInt32 >>> ((24 : Int32).toUInt32 &&& Int32.toUInt32 31)).toInt32).toInt8.toInt32).toInt8.toInt32))) (5 : Int32).toInt.toNat (Value.int ((((a1.toUInt32 >>> ((16 : Int32).toUInt32 &&& Int32.toUInt32 31)).toInt32).toInt8.toInt32).toInt8.toInt32))) (6 : Int32).toInt.toNat (Value.int ((((a1.toUInt32 >>> ((8 : Int32).toUInt32 &&& Int32.toUInt32 31)).toInt32).toInt8.toInt32).toInt8.toInt32))) (7 : Int32).toInt.toNat (Value.int ((((a1.toUInt32 >>> ((0 : Int32).toUInt32 &&& Int32.toUInt32 31)).toInt32).toInt8.toInt32).toInt8.toInt32))) (8 : Int32).toInt.toNat (Value.int ((((a2.toUInt32 >>> ((24 : Int32).toUInt32 &&& Int32.toUInt32 31)).toInt32).toInt8.toInt32).toInt8.toInt32))))).set 7 (Sum.inr (0, [Value.ref 8, Value.ref 78, Value.ref 9, Value.ref 10, Value.ref 13, Value.ref 16, Value.ref 19, Value.ref 93, Value.ref 108, Value.ref 113, Value.ref 29, Value.int 9]))).set 29 (Sum.inl (1, 4096, xup (xup (xup (xup (xup (xup (xup (xup (xup (xup (fun _ => Value.int 0) (0 : Int32).toInt.toNat (Value.int ((((a0.toUInt32 >>> ((24 : Int32).toUInt32 &&& Int32.toUInt32 31)).toInt32).toInt8.toInt32).toInt8.toInt32))) (1 : Int32).toInt.toNat (Value.int ((((a0.toUInt32 >>> ((16 : Int32).toUInt32 &&& Int32.toUInt32 31)).toInt32).toInt8.toInt32).toInt8.toInt32))) (2 : Int32).toInt.toNat (Value.int ((((a0.toUInt32 >>> ((8 : Int32).toUInt32 &&& Int32.toUInt32 31)).toInt32).toInt8.toInt32).toInt8.toInt32))) (3 : Int32).toInt.toNat (Value.int ((((a0.toUInt32 >>> ((0 : Int32).toUInt32 &&& Int32.toUInt32 31)).toInt32).toInt8.toInt32).toInt8.toInt32))) (4 : Int32).toInt.toNat (Value.int ((((a1.toUInt32 >>> ((24 : Int32).toUInt32 &&& Int32.toUInt32 31)).toInt32).toInt8.toInt32).toInt8.toInt32))) (5 : Int32).toInt.toNat (Value.int ((((a1.toUInt32 >>> ((16 : Int32).toUInt32 &&& Int32.toUInt32 31)).toInt32).toInt8.toInt32).toInt8.toInt32))) (6 : Int32).toInt.toNat (Value.int ((((a1.toUInt32 >>> ((8 : Int32).toUInt32 &&& Int32.toUInt32 31)).toInt32).toInt8.toInt32).toInt8.toInt32))) (7 : Int32).toInt.toNat (Value.int ((((a1.toUInt32 >>> ((0 : Int32).toUInt32 &&& Int32.toUInt32 31)).toInt32).toInt8.toInt32).toInt8.toInt32))) (8 : Int32).toInt.toNat (Value.int ((((a2.toUInt32 >>> ((24 : Int32).toUInt32 &&& Int32.toUInt32 31)).toInt32).toInt8.toInt32).toInt8.toInt32))) (9 : Int32).toInt.toNat (Value.int ((((a2.toUInt32 >>> ((16 : Int32).toUInt32 &&& Int32.toUInt32 31)).toInt32).toInt8.toInt32).toInt8.toInt32))))).set 7 (Sum.inr (0, [Value.ref 8, Value.ref 78, Value.ref 9, Value.ref 10, Value.ref 13, Value.ref 16, Value.ref 19, Value.ref 93, Value.ref 108, Value.ref 113, Value.ref 29, Value.int 10]))).set 29 (Sum.inl (1, 4096, xup (xup (xup (xup (xup (xup (xup (xup (xup (xup (xup (fun _ => Value.int 0) (0 : Int32).toInt.toNat (Value.int ((((a0.toUInt32 >>> ((24 : Int32).toUInt32 &&& Int32.toUInt32 31)).toInt32).toInt8.toInt32).toInt8.toInt32))) (1 : Int32).toInt.toNat (Value.int ((((a0.toUInt32 >>> ((16 : Int32).toUInt32 &&& Int32.toUInt32 31)).toInt32).toInt8.toInt32).toInt8.toInt32))) (2 : Int32).toInt.toNat (Value.int ((((a0.toUInt32 >>> ((8 : Int32).toUInt32 &&& Int32.toUInt32 31)).toInt32).toInt8.toInt32).toInt8.toInt32))) (3 : Int32).toInt.toNat (Value.int ((((a0.toUInt32 >>> ((0 : Int32).toUInt32 &&& Int32.toUInt32 31)).toInt32).toInt8.toInt32).toInt8.toInt32))) (4 : Int32).toInt.toNat (Value.int ((((a1.toUInt32 >>> ((24 : Int32).toUInt32 &&& Int32.toUInt32 31)).toInt32).toInt8.toInt32).toInt8.toInt32))) (5 : Int32).toInt.toNat (Value.int ((((a1.toUInt32 >>> ((16 : Int32).toUInt32 &&& Int32.toUInt32 31)).toInt32).toInt8.toInt32).toInt8.toInt32))) (6 : Int32).toInt.toNat (Value.int ((((a1.toUInt32 >>> ((8 : Int32).toUInt32 &&& Int32.toUInt32 31)).toInt32).toInt8.toInt32).toInt8.toInt32))) (7 : Int32).toInt.toNat (Value.int ((((a1.toUInt32 >>> ((0 : Int32).toUInt32 &&& Int32.toUInt32 31)).toInt32).toInt8.toInt32).toInt8.toInt32))) (8 : Int32).toInt.toNat (Value.int ((((a2.toUInt32 >>> ((24 : Int32).toUInt32 &&& Int32.toUInt32 31)).toInt32).toInt8.toInt32).toInt8.toInt32))) (9 : Int32).toInt.toNat (Value.int ((((a2.toUInt32 >>> ((16 : Int32).toUInt32 &&& Int32.toUInt32 31)).toInt32).toInt8.toInt32).toInt8.toInt32))) (10 : Int32).toInt.toNat (Value.int ((((a2.toUInt32 >>> ((8 : Int32).toUInt32 &&& Int32.toUInt32 31)).toInt32).toInt8.toInt32).toInt8.toInt32))))).set 7 (Sum.inr (0, [Value.ref 8, Value.ref 78, Value.ref 9, Value.ref 10, Value.ref 13, Value.ref 16, Value.ref 19, Value.ref 93, Value.ref 108, Value.ref 113, Value.ref 29, Value.int 11]))).set 29 (Sum.inl (1, 4096, xup (xup (xup (xup (xup (xup (xup (xup (xup (xup (xup (xup (fun _ => Value.int 0) (0 : Int32).toInt.toNat (Value.int ((((a0.toUInt32 >>> ((24 : Int32).toUInt32 &&& Int32.toUInt32 31)).toInt32).toInt8.toInt32).toInt8.toInt32))) (1 : Int32).toInt.toNat (Value.int ((((a0.toUInt32 >>> ((16 : Int32).toUInt32 &&& Int32.toUInt32 31)).toInt32).toInt8.toInt32).toInt8.toInt32))) (2 : Int32).toInt.toNat (Value.int ((((a0.toUInt32 >>> ((8 : Int32).toUInt32 &&& Int32.toUInt32 31)).toInt32).toInt8.toInt32).toInt8.toInt32))) (3 : Int32).toInt.toNat (Value.int ((((a0.toUInt32 >>> ((0 : Int32).toUInt32 &&& Int32.toUInt32 31)).toInt32).toInt8.toInt32).toInt8.toInt32))) (4 : Int32).toInt.toNat (Value.int ((((a1.toUInt32 >>> ((24 : Int32).toUInt32 &&& Int32.toUInt32 31)).toInt32).toInt8.toInt32).toInt8.toInt32))) (5 : Int32).toInt.toNat (Value.int ((((a1.toUInt32 >>> ((16 : Int32).toUInt32 &&& Int32.toUInt32 31)).toInt32).toInt8.toInt32).toInt8.toInt32))) (6 : Int32).toInt.toNat (Value.int ((((a1.toUInt32 >>> ((8 : Int32).toUInt32 &&& Int32.toUInt32 31)).toInt32).toInt8.toInt32).toInt8.toInt32))) (7 : Int32).toInt.toNat (Value.int ((((a1.toUInt32 >>> ((0 : Int32).toUInt32 &&& Int32.toUInt32 31)).toInt32).toInt8.toInt32).toInt8.toInt32))) (8 : Int32).toInt.toNat (Value.int ((((a2.toUInt32 >>> ((24 : Int32).toUInt32 &&& Int32.toUInt32 31)).toInt32).toInt8.toInt32).toInt8.toInt32))) (9 : Int32).toInt.toNat (Value.int ((((a2.toUInt32 >>> ((16 : Int32).toUInt32 &&& Int32.toUInt32 31)).toInt32).toInt8.toInt32).toInt8.toInt32))) (10 : Int32).toInt.toNat (Value.int ((((a2.toUInt32 >>> ((8 : Int32).toUInt32 &&& Int32.toUInt32 31)).toInt32).toInt8.toInt32).toInt8.toInt32))) (11 : Int32).toInt.toNat (Value.int ((((a2.toUInt32 >>> ((0 : Int32).toUInt32 &&& Int32.toUInt32 31)).toInt32).toInt8.toInt32).toInt8.toInt32))))).set 7 (Sum.inr (0, [Value.ref 8, Value.ref 78, Value.ref 9, Value.ref 10, Value.ref 13, Value.ref 16, Value.ref 19, Value.ref 93, Value.ref 108, Value.ref 113, Value.ref 29, Value.int 12]))).set 29 (Sum.inl (1, 4096, xup (xup (xup (xup (xup (xup (xup (xup (xup (xup (xup (xup (xup (fun _ => Value.int 0) (0 : Int32).toInt.toNat (Value.int ((((a0.toUInt32 >>> ((24 : Int32).toUInt32 &&& Int32.toUInt32 31)).toInt32).toInt8.toInt32).toInt8.toInt32))) (1 : Int32).toInt.toNat (Value.int ((((a0.toUInt32 >>> ((16 : Int32).toUInt32 &&& Int32.toUInt32 31)).toInt32).toInt8.toInt32).toInt8.toInt32))) (2 : Int32).toInt.toNat (Value.int ((((a0.toUInt32 >>> ((8 : Int32).toUInt32 &&& Int32.toUInt32 31)).toInt32).toInt8.toInt32).toInt8.toInt32))) (3 : Int32).toInt.toNat (Value.int ((((a0.toUInt32 >>> ((0 : Int32).toUInt32 &&& Int32.toUInt32 31)).toInt32).toInt8.toInt32).toInt8.toInt32))) (4 : Int32).toInt.toNat (Value.int ((((a1.toUInt32 >>> ((24 : Int32).toUInt32 &&& Int32.toUInt32 31)).toInt32).toInt8.toInt32).toInt8.toInt32))) (5 : Int32).toInt.toNat (Value.int ((((a1.toUInt32 >>> ((16 : Int32).toUInt32 &&& Int32.toUInt32 31)).toInt32).toInt8.toInt32).toInt8.toInt32))) (6 : Int32).toInt.toNat (Value.int ((((a1.toUInt32 >>> ((8 : Int32).toUInt32 &&& Int32.toUInt32 31)).toInt32).toInt8.toInt32).toInt8.toInt32))) (7 : Int32).toInt.toNat (Value.int ((((a1.toUInt32 >>> ((0 : Int32).toUInt32 &&& Int32.toUInt32 31)).toInt32).toInt8.toInt32).toInt8.toInt32))) (8 : Int32).toInt.toNat (Value.int ((((a2.toUInt32 >>> ((24 : Int32).toUInt32 &&& Int32.toUInt32 31)).toInt32).toInt8.toInt32).toInt8.toInt32))) (9 : Int32).toInt.toNat (Value.int ((((a2.toUInt32 >>> ((16 : Int32).toUInt32 &&& Int32.toUInt32 31)).toInt32).toInt8.toInt32).toInt8.toInt32))) (10 : Int32).toInt.toNat (Value.int ((((a2.toUInt32 >>> ((8 : Int32).toUInt32 &&& Int32.toUInt32 31)).toInt32).toInt8.toInt32).toInt8.toInt32))) (11 : Int32).toInt.toNat (Value.int ((((a2.toUInt32 >>> ((0 : Int32).toUInt32 &&& Int32.toUInt32 31)).toInt32).toInt8.toInt32).toInt8.toInt32))) (12 : Int32).toInt.toNat (Value.int ((((a3.toUInt32 >>> ((24 : Int32).toUInt32 &&& Int32.toUInt32 31)).toInt32).toInt8.toInt32).toInt8.toInt32))))).set 7 (Sum.inr (0, [Value.ref 8, Value.ref 78, Value.ref 9, Value.ref 10, Value.ref 13, Value.ref 16, Value.ref 19, Value.ref 93, Value.ref 108, Value.ref 113, Value.ref 29, Value.int 13]))).set 29 (Sum.inl (1, 4096, xup (xup (xup (xup (xup (xup (xup (xup (xup (xup (xup (xup (xup (xup (fun _ => Value.int 0) (0 : Int32).toInt.toNat (Value.int ((((a0.toUInt32 >>> ((24 : Int32).toUInt32 &&& Int32.toUInt32 31)).toInt32).toInt8.toInt32).toInt8.toInt32))) (1 : Int32).toInt.toNat (Value.int ((((a0.toUInt32 >>> ((16 : Int32).toUInt32 &&& Int32.toUInt32 31)).toInt32).toInt8.toInt32).toInt8.toInt32))) (2 : Int32).toInt.toNat (Value.int ((((a0.toUInt32 >>> ((8 : Int32).toUInt32 &&& Int32.toUInt32 31)).toInt32).toInt8.toInt32).toInt8.toInt32))) (3 : Int32).toInt.toNat (Value.int ((((a0.toUInt32 >>> ((0 : Int32).toUInt32 &&& Int32.toUInt32 31)).toInt32).toInt8.toInt32).toInt8.toInt32))) (4 : Int32).toInt.toNat (Value.int ((((a1.toUInt32 >>> ((24 : Int32).toUInt32 &&& Int32.toUInt32 31)).toInt32).toInt8.toInt32).toInt8.toInt32))) (5 : Int32).toInt.toNat (Value.int ((((a1.toUInt32 >>> ((16 : Int32).toUInt32 &&& Int32.toUInt32 31)).toInt32).toInt8.toInt32).toInt8.toInt32))) (6 : Int32).toInt.toNat (Value.int ((((a1.toUInt32 >>> ((8 : Int32).toUInt32 &&& Int32.toUInt32 31)).toInt32).toInt8.toInt32).toInt8.toInt32))) (7 : Int32).toInt.toNat (Value.int ((((a1.toUInt32 >>> ((0 : Int32).toUInt32 &&& Int32.toUInt32 31)).toInt32).toInt8.toInt32).toInt8.toInt32))) (8 : Int32).toInt.toNat (Value.int ((((a2.toUInt32 >>> ((24 : Int32).toUInt32 &&& Int32.toUInt32 31)).toInt32).toInt8.toInt32).toInt8.toInt32))) (9 : Int32).toInt.toNat (Value.int ((((a2.toUInt32 >>> ((16 : Int32).toUInt32 &&& Int32.toUInt32 31)).toInt32).toInt8.toInt32).toInt8.toInt32))) (10 : Int32).toInt.toNat (Value.int ((((a2.toUInt32 >>> ((8 : Int32).toUInt32 &&& Int32.toUInt32 31)).toInt32).toInt8.toInt32).toInt8.toInt32))) (11 : Int32).toInt.toNat (Value.int ((((a2.toUInt32 >>> ((0 : Int32).toUInt32 &&& Int32.toUInt32 31)).toInt32).toInt8.toInt32).toInt8.toInt32))) (12 : Int32).toInt.toNat (Value.int ((((a3.toUInt32 >>> ((24 : Int32).toUInt32 &&& Int32.toUInt32 31)).toInt32).toInt8.toInt32).toInt8.toInt32))) (13 : Int32).toInt.toNat (Value.int ((((a3.toUInt32 >>> ((16 : Int32).toUInt32 &&& Int32.toUInt32 31)).toInt32).toInt8.toInt32).toInt8.toInt32))))).set 7 (Sum.inr (0, [Value.ref 8, Value.ref 78, Value.ref 9, Value.ref 10, Value.ref 13, Value.ref 16, Value.ref 19, Value.ref 93, Value.ref 108, Value.ref 113, Value.ref 29, Value.int 14]))).set 29 (Sum.inl (1, 4096, xup (xup (xup (xup (xup (xup (xup (xup (xup (xup (xup (xup (xup (xup (xup (fun _ => Value.int 0) (0 : Int32).toInt.toNat (Value.int ((((a0.toUInt32 >>> ((24 : Int32).toUInt32 &&& Int32.toUInt32 31)).toInt32).toInt8.toInt32).toInt8.toInt32))) (1 : Int32).toInt.toNat (Value.int ((((a0.toUInt32 >>> ((16 : Int32).toUInt32 &&& Int32.toUInt32 31)).toInt32).toInt8.toInt32).toInt8.toInt32))) (2 : Int32).toInt.toNat (Value.int ((((a0.toUInt32 >>> ((8 : Int32).toUInt32 &&& Int32.toUInt32 31)).toInt32).toInt8.toInt32).toInt8.toInt32))) (3 : Int32).toInt.toNat (Value.int ((((a0.toUInt32 >>> ((0 : Int32).toUInt32 &&& Int32.toUInt32 31)).toInt32).toInt8.toInt32).toInt8.toInt32))) (4 : Int32).toInt.toNat (Value.int ((((a1.toUInt32 >>> ((24 : Int32).toUInt32 &&& Int32.toUInt32 31)).toInt32).toInt8.toInt32).toInt8.toInt32))) (5 : Int32).toInt.toNat (Value.int ((((a1.toUInt32 >>> ((16 : Int32).toUInt32 &&& Int32.toUInt32 31)).toInt32).toInt8.toInt32).toInt8.toInt32))) (6 : Int32).toInt.toNat (Value.int ((((a1.toUInt32 >>> ((8 : Int32).toUInt32 &&& Int32.toUInt32 31)).toInt32).toInt8.toInt32).toInt8.toInt32))) (7 : Int32).toInt.toNat (Value.int ((((a1.toUInt32 >>> ((0 : Int32).toUInt32 &&& Int32.toUInt32 31)).toInt32).toInt8.toInt32).toInt8.toInt32))) (8 : Int32).toInt.toNat (Value.int ((((a2.toUInt32 >>> ((24 : Int32).toUInt32 &&& Int32.toUInt32 31)).toInt32).toInt8.toInt32).toInt8.toInt32))) (9 : Int32).toInt.toNat (Value.int ((((a2.toUInt32 >>> ((16 : Int32).toUInt32 &&& Int32.toUInt32 31)).toInt32).toInt8.toInt32).toInt8.toInt32))) (10 : Int32).toInt.toNat (Value.int ((((a2.toUInt32 >>> ((8 : Int32).toUInt32 &&& Int32.toUInt32 31)).toInt32).toInt8.toInt32).toInt8.toInt32))) (11 : Int32).toInt.toNat (Value.int ((((a2.toUInt32 >>> ((0 : Int32).toUInt32 &&& Int32.toUInt32 31)).toInt32).toInt8.toInt32).toInt8.toInt32))) (12 : Int32).toInt.toNat (Value.int ((((a3.toUInt32 >>> ((24 : Int32).toUInt32 &&& Int32.toUInt32 31)).toInt32).toInt8.toInt32).toInt8.toInt32))) (13 : Int32).toInt.toNat (Value.int ((((a3.toUInt32 >>> ((16 : Int32).toUInt32 &&& Int32.toUInt32 31)).toInt32).toInt8.toInt32).toInt8.toInt32))) (14 : Int32).toInt.toNat (Value.int ((((a3.toUInt32 >>> ((8 : Int32).toUInt32 &&& Int32.toUInt32 31)).toInt32).toInt8.toInt32).toInt8.toInt32))))).set 7 (Sum.inr (0, [Value.ref 8, Value.ref 78, Value.ref 9, Value.ref 10, Value.ref 13, Value.ref 16, Value.ref 19, Value.ref 93, Value.ref 108, Value.ref 113, Value.ref 29, Value.int 15]))).set 29 (Sum.inl (1, 4096, xup (xup (xup (xup (xup (xup (xup (xup (xup (xup (xup (xup (xup (xup (xup (xup (fun _ => Value.int 0) (0 : Int32).toInt.toNat (Value.int ((((a0.toUInt32 >>> ((24 : Int32).toUInt32 &&& Int32.toUInt32 31)).toInt32).toInt8.toInt32).toInt8.toInt32))) (1 : Int32).toInt.toNat (Value.int ((((a0.toUInt32 >>> ((16 : Int32).toUInt32 &&& Int32.toUInt32 31)).toInt32).toInt8.toInt32).toInt8.toInt32))) (2 : Int32).toInt.toNat (Value.int ((((a0.toUInt32 >>> ((8 : Int32).toUInt32 &&& Int32.toUInt32 31)).toInt32).toInt8.toInt32).toInt8.toInt32))) (3 : Int32).toInt.toNat (Value.int ((((a0.toUInt32 >>> ((0 : Int32).toUInt32 &&& Int32.toUInt32 31)).toInt32).toInt8.toInt32).toInt8.toInt32))) (4 : Int32).toInt.toNat (Value.int ((((a1.toUInt32 >>> ((24 : Int32).toUInt32 &&& Int32.toUInt32 31)).toInt32).toInt8.toInt32).toInt8.toInt32))) (5 : Int32).toInt.toNat (Value.int ((((a1.toUInt32 >>> ((16 : Int32).toUInt32 &&& Int32.toUInt32 31)).toInt32).toInt8.toInt32).toInt8.toInt32))) (6 : Int32).toInt.toNat (Value.int ((((a1.toUInt32 >>> ((8 : Int32).toUInt32 &&& Int32.toUInt32 31)).toInt32).toInt8.toInt32).toInt8.toInt32))) (7 : Int32).toInt.toNat (Value.int ((((a1.toUInt32 >>> ((0 : Int32).toUInt32 &&& Int32.toUInt32 31)).toInt32).toInt8.toInt32).toInt8.toInt32))) (8 : Int32).toInt.toNat (Value.int ((((a2.toUInt32 >>> ((24 : Int32).toUInt32 &&& Int32.toUInt32 31)).toInt32).toInt8.toInt32).toInt8.toInt32))) (9 : Int32).toInt.toNat (Value.int ((((a2.toUInt32 >>> ((16 : Int32).toUInt32 &&& Int32.toUInt32 31)).toInt32).toInt8.toInt32).toInt8.toInt32))) (10 : Int32).toInt.toNat (Value.int ((((a2.toUInt32 >>> ((8 : Int32).toUInt32 &&& Int32.toUInt32 31)).toInt32).toInt8.toInt32).toInt8.toInt32))) (11 : Int32).toInt.toNat (Value.int ((((a2.toUInt32 >>> ((0 : Int32).toUInt32 &&& Int32.toUInt32 31)).toInt32).toInt8.toInt32).toInt8.toInt32))) (12 : Int32).toInt.toNat (Value.int ((((a3.toUInt32 >>> ((24 : Int32).toUInt32 &&& Int32.toUInt32 31)).toInt32).toInt8.toInt32).toInt8.toInt32))) (13 : Int32).toInt.toNat (Value.int ((((a3.toUInt32 >>> ((16 : Int32).toUInt32 &&& Int32.toUInt32 31)).toInt32).toInt8.toInt32).toInt8.toInt32))) (14 : Int32).toInt.toNat (Value.int ((((a3.toUInt32 >>> ((8 : Int32).toUInt32 &&& Int32.toUInt32 31)).toInt32).toInt8.toInt32).toInt8.toInt32))) (15 : Int32).toInt.toNat (Value.int ((((a3.toUInt32 >>> ((0 : Int32).toUInt32 &&& Int32.toUInt32 31)).toInt32).toInt8.toInt32).toInt8.toInt32))))).set 7 (Sum.inr (0, [Value.ref 8, Value.ref 78, Value.ref 9, Value.ref 10, Value.ref 13, Value.ref 16, Value.ref 19, Value.ref 93, Value.ref 108, Value.ref 113, Value.ref 29, Value.int 16]))).set 29 (Sum.inl (1, 4096, xup (xup (xup (xup (xup (xup (xup (xup (xup (xup (xup (xup (xup (xup (xup (xup (xup (fun _ => Value.int 0) (0 : Int32).toInt.toNat (Value.int ((((a0.toUInt32 >>> ((24 : Int32).toUInt32 &&& Int32.toUInt32 31)).toInt32).toInt8.toInt32).toInt8.toInt32))) (1 : Int32).toInt.toNat (Value.int ((((a0.toUInt32 >>> ((16 : Int32).toUInt32 &&& Int32.toUInt32 31)).toInt32).toInt8.toInt32).toInt8.toInt32))) (2 : Int32).toInt.toNat (Value.int ((((a0.toUInt32 >>> ((8 : Int32).toUInt32 &&& Int32.toUInt32 31)).toInt32).toInt8.toInt32).toInt8.toInt32))) (3 : Int32).toInt.toNat (Value.int ((((a0.toUInt32 >>> ((0 : Int32).toUInt32 &&& Int32.toUInt32 31)).toInt32).toInt8.toInt32).toInt8.toInt32))) (4 : Int32).toInt.toNat (Value.int ((((a1.toUInt32 >>> ((24 : Int32).toUInt32 &&& Int32.toUInt32 31)).toInt32).toInt8.toInt32).toInt8.toInt32))) (5 : Int32).toInt.toNat (Value.int ((((a1.toUInt32 >>> ((16 : Int32).toUInt32 &&& Int32.toUInt32 31)).toInt32).toInt8.toInt32).toInt8.toInt32))) (6 : Int32).toInt.toNat (Value.int ((((a1.toUInt32 >>> ((8 : Int32).toUInt32 &&& Int32.toUInt32 31)).toInt32).toInt8.toInt32).toInt8.toInt32))) (7 : Int32).toInt.toNat (Value.int ((((a1.toUInt32 >>> ((0 : Int32).toUInt32 &&& Int32.toUInt32 31)).toInt32).toInt8.toInt32).toInt8.toInt32))) (8 : Int32).toInt.toNat (Value.int ((((a2.toUInt32 >>> ((24 : Int32).toUInt32 &&& Int32.toUInt32 31)).toInt32).toInt8.toInt32).toInt8.toInt32))) (9 : Int32).toInt.toNat (Value.int ((((a2.toUInt32 >>> ((16 : Int32).toUInt32 &&& Int32.toUInt32 31)).toInt32).toInt8.toInt32).toInt8.toInt32))) (10 : Int32).toInt.toNat (Value.int ((((a2.toUInt32 >>> ((8 : Int32).toUInt32 &&& Int32.toUInt32 31)).toInt32).toInt8.toInt32).toInt8.toInt32))) (11 : Int32).toInt.toNat (Value.int ((((a2.toUInt32 >>> ((0 : Int32).toUInt32 &&& Int32.toUInt32 31)).toInt32).toInt8.toInt32).toInt8.toInt32))) (12 : Int32).toInt.toNat (Value.int ((((a3.toUInt32 >>> ((24 : Int32).toUInt32 &&& Int32.toUInt32 31)).toInt32).toInt8.toInt32).toInt8.toInt32))) (13 : Int32).toInt.toNat (Value.int ((((a3.toUInt32 >>> ((16 : Int32).toUInt32 &&& Int32.toUInt32 31)).toInt32).toInt8.toInt32).toInt8.toInt32))) (14 : Int32).toInt.toNat (Value.int ((((a3.toUInt32 >>> ((8 : Int32).toUInt32 &&& Int32.toUInt32 31)).toInt32).toInt8.toInt32).toInt8.toInt32))) (15 : Int32).toInt.toNat (Value.int ((((a3.toUInt32 >>> ((0 : Int32).toUInt32 &&& Int32.toUInt32 31)).toInt32).toInt8.toInt32).toInt8.toInt32))) (16 : Int32).toInt.toNat (Value.int ((((a4.toUInt32 >>> ((24 : Int32).toUInt32 &&& Int32.toUInt32 31)).toInt32).toInt8.toInt32).toInt8.toInt32))))).set 7 (Sum.inr (0, [Value.ref 8, Value.ref 78, Value.ref 9, Value.ref 10, Value.ref 13, Value.ref 16, Value.ref 19, Value.ref 93, Value.ref 108, Value.ref 113, Value.ref 29, Value.int 17]))).set 29 (Sum.inl (1, 4096, xup (xup (xup (xup (xup (xup (xup (xup (xup (xup (xup (xup (xup (xup (xup (xup (xup (xup (fun _ => Value.int 0) (0 : Int32).toInt.toNat (Value.int ((((a0.toUInt32 >>> ((24 : Int32).toUInt32 &&& Int32.toUInt32 31)).toInt32).toInt8.toInt32).toInt8.toInt32))) (1 : Int32).toInt.toNat (Value.int ((((a0.toUInt32 >>> ((16 : Int32).toUInt32 &&& Int32.toUInt32 31)).toInt32).toInt8.toInt32).toInt8.toInt32))) (2 : Int32).toInt.toNat (Value.int ((((a0.toUInt32 >>> ((8 : Int32).toUInt32 &&& Int32.toUInt32 31)).toInt32).toInt8.toInt32).toInt8.toInt32))) (3 : Int32).toInt.toNat (Value.int ((((a0.toUInt32 >>> ((0 : Int32).toUInt32 &&& Int32.toUInt32 31)).toInt32).toInt8.toInt32).toInt8.toInt32))) (4 : Int32).toInt.toNat (Value.int ((((a1.toUInt32 >>> ((24 : Int32).toUInt32 &&& Int32.toUInt32 31)).toInt32).toInt8.toInt32).toInt8.toInt32))) (5 : Int32).toInt.toNat (Value.int ((((a1.toUInt32 >>> ((16 : Int32).toUInt32 &&& Int32.toUInt32 31)).toInt32).toInt8.toInt32).toInt8.toInt32))) (6 : Int32).toInt.toNat (Value.int ((((a1.toUInt32 >>> ((8 : Int32).toUInt32 &&& Int32.toUInt32 31)).toInt32).toInt8.toInt32).toInt8.toInt32))) (7 : Int32).toInt.toNat (Value.int ((((a1.toUInt32 >>> ((0 : Int32).toUInt32 &&& Int32.toUInt32 31)).toInt32).toInt8.toInt32).toInt8.toInt32))) (8 : Int32).toInt.toNat (Value.int ((((a2.toUInt32 >>> ((24 : Int32).toUInt32 &&& Int32.toUInt32 31)).toInt32).toInt8.toInt32).toInt8.toInt32))) (9 : Int32).toInt.toNat (Value.int ((((a2.toUInt32 >>> ((16 : Int32).toUInt32 &&& Int32.toUInt32 31)).toInt32).toInt8.toInt32).toInt8.toInt32))) (10 : Int32).toInt.toNat (Value.int ((((a2.toUInt32 >>> ((8 : Int32).toUInt32 &&& Int32.toUInt32 31)).toInt32).toInt8.toInt32).toInt8.toInt32))) (11 : Int32).toInt.toNat (Value.int ((((a2.toUInt32 >>> ((0 : Int32).toUInt32 &&& Int32.toUInt32 31)).toInt32).toInt8.toInt32).toInt8.toInt32))) (12 : Int32).toInt.toNat (Value.int ((((a3.toUInt32 >>> ((24 : Int32).toUInt32 &&& Int32.toUInt32 31)).toInt32).toInt8.toInt32).toInt8.toInt32))) (13 : Int32).toInt.toNat (Value.int ((((a3.toUInt32 >>> ((16 : Int32).toUInt32 &&& Int32.toUInt32 31)).toInt32).toInt8.toInt32).toInt8.toInt32))) (14 : Int32).toInt.toNat (Value.int ((((a3.toUInt32 >>> ((8 : Int32).toUInt32 &&& Int32.toUInt32 31)).toInt32).toInt8.toInt32).toInt8.toInt32))) (15 : Int32).toInt.toNat (Value.int ((((a3.toUInt32 >>> ((0 : Int32).toUInt32 &&& Int32.toUInt32 31)).toInt32).toInt8.toInt32).toInt8.toInt32))) (16 : Int32).toInt.toNat (Value.int ((((a4.toUInt32 >>> ((24 : Int32).toUInt32 &&& Int32.toUInt32 31)).toInt32).toInt8.toInt32).toInt8.toInt32))) (17 : Int32).toInt.toNat (Value.int ((((a4.toUInt32 >>> ((16 : Int32).toUInt32 &&& Int32.toUInt32 31)).toInt32).toInt8.toInt32).toInt8.toInt32))))).set 7 (Sum.inr (0, [Value.ref 8, Value.ref 78, Value.ref 9, Value.ref 10, Value.ref 13, Value.ref 16, Value.ref 19, Value.ref 93, Value.ref 108, Value.ref 113, Value.ref 29, Value.int 18]))).set 29 (Sum.inl (1, 4096, xup (xup (xup (xup (xup (xup (xup (xup (xup (xup (xup (xup (xup (xup (xup (xup (xup (xup (xup (fun _ => Value.int 0) (0 : Int32).toInt.toNat (Value.int ((((a0.toUInt32 >>> ((24 : Int32).toUInt32 &&& Int32.toUInt32 31)).toInt32).toInt8.toInt32).toInt8.toInt32))) (1 : Int32).toInt.toNat (Value.int ((((a0.toUInt32 >>> ((16 : Int32).toUInt32 &&& Int32.toUInt32 31)).toInt32).toInt8.toInt32).toInt8.toInt32))) (2 : Int32).toInt.toNat (Value.int ((((a0.toUInt32 >>> ((8 : Int32).toUInt32 &&& Int32.toUInt32 31)).toInt32).toInt8.toInt32).toInt8.toInt32))) (3 : Int32).toInt.toNat (Value.int ((((a0.toUInt32 >>> ((0 : Int32).toUInt32 &&& Int32.toUInt32 31)).toInt32).toInt8.toInt32).toInt8.toInt32))) (4 : Int32).toInt.toNat (Value.int ((((a1.toUInt32 >>> ((24 : Int32).toUInt32 &&& Int32.toUInt32 31)).toInt32).toInt8.toInt32).toInt8.toInt32))) (5 : Int32).toInt.toNat (Value.int ((((a1.toUInt32 >>> ((16 : Int32).toUInt32 &&& Int32.toUInt32 31)).toInt32).toInt8.toInt32).toInt8.toInt32))) (6 : Int32).toInt.toNat (Value.int ((((a1.toUInt32 >>> ((8 : Int32).toUInt32 &&& Int32.toUInt32 31)).toInt32).toInt8.toInt32).toInt8.toInt32))) (7 : Int32).toInt.toNat (Value.int ((((a1.toUInt32 >>> ((0 : Int32).toUInt32 &&& Int32.toUInt32 31)).toInt32).toInt8.toInt32).toInt8.toInt32))) (8 : Int32).toInt.toNat (Value.int ((((a2.toUInt32 >>> ((24 : Int32).toUInt32 &&& Int32.toUInt32 31)).toInt32).toInt8.toInt32).toInt8.toInt32))) (9 : Int32).toInt.toNat (Value.int ((((a2.toUInt32 >>> ((16 : Int32).toUInt32 &&& Int32.toUInt32 31)).toInt32).toInt8.toInt32).toInt8.toInt32))) (10 : Int32).toInt.toNat (Value.int ((((a2.toUInt32 >>> ((8 : Int32).toUInt32 &&& Int32.toUInt32 31)).toInt32).toInt8.toInt32).toInt8.toInt32))) (11 : Int32).toInt.toNat (Value.int ((((a2.toUInt32 >>> ((0 : Int32).toUInt32 &&& Int32.toUInt32 31)).toInt32).toInt8.toInt32).toInt8.toInt32))) (12 : Int32).toInt.toNat (Value.int ((((a3.toUInt32 >>> ((24 : Int32).toUInt32 &&& Int32.toUInt32 31)).toInt32).toInt8.toInt32).toInt8.toInt32))) (13 : Int32).toInt.toNat (Value.int ((((a3.toUInt32 >>> ((16 : Int32).toUInt32 &&& Int32.toUInt32 31)).toInt32).toInt8.toInt32).toInt8.toInt32))) (14 : Int32).toInt.toNat (Value.int ((((a3.toUInt32 >>> ((8 : Int32).toUInt32 &&& Int32.toUInt32 31)).toInt32).toInt8.toInt32).toInt8.toInt32))) (15 : Int32).toInt.toNat (Value.int ((((a3.toUInt32 >>> ((0 : Int32).toUInt32 &&& Int32.toUInt32 31)).toInt32).toInt8.toInt32).toInt8.toInt32))) (16 : Int32).toInt.toNat (Value.int ((((a4.toUInt32 >>> ((24 : Int32).toUInt32 &&& Int32.toUInt32 31)).toInt32).toInt8.toInt32).toInt8.toInt32))) (17 : Int32).toInt.toNat (Value.int ((((a4.toUInt32 >>> ((16 : Int32).toUInt32 &&& Int32.toUInt32 31)).toInt32).toInt8.toInt32).toInt8.toInt32))) (18 : Int32).toInt.toNat (Value.int ((((a4.toUInt32 >>> ((8 : Int32).toUInt32 &&& Int32.toUInt32 31)).toInt32).toInt8.toInt32).toInt8.toInt32))))).set 7 (Sum.inr (0, [Value.ref 8, Value.ref 78, Value.ref 9, Value.ref 10, Value.ref 13, Value.ref 16, Value.ref 19, Value.ref 93, Value.ref 108, Value.ref 113, Value.ref 29, Value.int 19]))).set 29 (Sum.inl (1, 4096, xup (xup (xup (xup (xup (xup (xup (xup (xup (xup (xup (xup (xup (xup (xup (xup (xup (xup (xup (xup (fun _ => Value.int 0) (0 : Int32).toInt.toNat (Value.int ((((a0.toUInt32 >>> ((24 : Int32).toUInt32 &&& Int32.toUInt32 31)).toInt32).toInt8.toInt32).toInt8.toInt32))) (1 : Int32).toInt.toNat (Value.int ((((a0.toUInt32 >>> ((16 : Int32).toUInt32 &&& Int32.toUInt32 31)).toInt32).toInt8.toInt32).toInt8.toInt32))) (2 : Int32).toInt.toNat (Value.int ((((a0.toUInt32 >>> ((8 : Int32).toUInt32 &&& Int32.toUInt32 31)).toInt32).toInt8.toInt32).toInt8.toInt32))) (3 : Int32).toInt.toNat (Value.int ((((a0.toUInt32 >>> ((0 : Int32).toUInt32 &&& Int32.toUInt32 31)).toInt32).toInt8.toInt32).toInt8.toInt32))) (4 : Int32).toInt.toNat (Value.int ((((a1.toUInt32 >>> ((24 : Int32).toUInt32 &&& Int32.toUInt32 31)).toInt32).toInt8.toInt32).toInt8.toInt32))) (5 : Int32).toInt.toNat (Value.int ((((a1.toUInt32 >>> ((16 : Int32).toUInt32 &&& Int32.toUInt32 31)).toInt32).toInt8.toInt32).toInt8.toInt32))) (6 : Int32).toInt.toNat (Value.int ((((a1.toUInt32 >>> ((8 : Int32).toUInt32 &&& Int32.toUInt32 31)).toInt32).toInt8.toInt32).toInt8.toInt32))) (7 : Int32).toInt.toNat (Value.int ((((a1.toUInt32 >>> ((0 : Int32).toUInt32 &&& Int32.toUInt32 31)).toInt32).toInt8.toInt32).toInt8.toInt32))) (8 : Int32).toInt.toNat (Value.int ((((a2.toUInt32 >>> ((24 : Int32).toUInt32 &&& Int32.toUInt32 31)).toInt32).toInt8.toInt32).toInt8.toInt32))) (9 : Int32).toInt.toNat (Value.int ((((a2.toUInt32 >>> ((16 : Int32).toUInt32 &&& Int32.toUInt32 31)).toInt32).toInt8.toInt32).toInt8.toInt32))) (10 : Int32).toInt.toNat (Value.int ((((a2.toUInt32 >>> ((8 : Int32).toUInt32 &&& Int32.toUInt32 31)).toInt32).toInt8.toInt32).toInt8.toInt32))) (11 : Int32).toInt.toNat (Value.int ((((a2.toUInt32 >>> ((0 : Int32).toUInt32 &&& Int32.toUInt32 31)).toInt32).toInt8.toInt32).toInt8.toInt32))) (12 : Int32).toInt.toNat (Value.int ((((a3.toUInt32 >>> ((24 : Int32).toUInt32 &&& Int32.toUInt32 31)).toInt32).toInt8.toInt32).toInt8.toInt32))) (13 : Int32).toInt.toNat (Value.int ((((a3.toUInt32 >>> ((16 : Int32).toUInt32 &&& Int32.toUInt32 31)).toInt32).toInt8.toInt32).toInt8.toInt32))) (14 : Int32).toInt.toNat (Value.int ((((a3.toUInt32 >>> ((8 : Int32).toUInt32 &&& Int32.toUInt32 31)).toInt32).toInt8.toInt32).toInt8.toInt32))) (15 : Int32).toInt.toNat (Value.int ((((a3.toUInt32 >>> ((0 : Int32).toUInt32 &&& Int32.toUInt32 31)).toInt32).toInt8.toInt32).toInt8.toInt32))) (16 : Int32).toInt.toNat (Value.int ((((a4.toUInt32 >>> ((24 : Int32).toUInt32 &&& Int32.toUInt32 31)).toInt32).toInt8.toInt32).toInt8.toInt32))) (17 : Int32).toInt.toNat (Value.int ((((a4.toUInt32 >>> ((16 : Int32).toUInt32 &&& Int32.toUInt32 31)).toInt32).toInt8.toInt32).toInt8.toInt32))) (18 : Int32).toInt.toNat (Value.int ((((a4.toUInt32 >>> ((8 : Int32).toUInt32 &&& Int32.toUInt32 31)).toInt32).toInt8.toInt32).toInt8.toInt32))) (19 : Int32).toInt.toNat (Value.int ((((a4.toUInt32 >>> ((0 : Int32).toUInt32 &&& Int32.toUInt32 31)).toInt32).toInt8.toInt32).toInt8.toInt32))))).set 7 (Sum.inr (0, [Value.ref 8, Value.ref 78, Value.ref 9, Value.ref 10, Value.ref 13, Value.ref 16, Value.ref 19, Value.ref 93, Value.ref 108, Value.ref 113, Value.ref 29, Value.int 20]))) := by
  refine xRun.of ?_
  refine i_136_0 (x := 7) rfl ?_
  refine i_136_1 (x := a0) rfl ?_
  refine i_136_2 (x := a1) rfl ?_
  refine i_136_3 (x := a2) rfl ?_
  refine i_136_4 (x := a3) rfl ?_
  refine i_136_6 (x := a4) rfl ?_
  refine i_136_8 hw0 (Nat.le_of_ble_eq_true rfl) (p_137_0 hw0 hw1) ?_
  refine i_136_11 ?_
  refine i_136_18 ?_
  exact i_136_19 ⟨rfl, rfl⟩
theorem p_254_0 {d : Nat} {w : xW} {a0 : Int32} {a1 : Int32} {a2 : Int32} {a3 : Int32} {a4 : Int32} {l : Nat} (hw0 : w[128]? = some (Sum.inr (12, [Value.ref 129, Value.ref 131, Value.ref 133, Value.ref 135, Value.ref 137, Value.ref 139, Value.ref 141, Value.ref 143, Value.ref 145, Value.ref 147, Value.ref 149, Value.ref 151, Value.ref 153, Value.ref 154, Value.ref 155, Value.ref 156, Value.ref 157, Value.int (-16384), Value.int 16384, Value.int 0, Value.int 0, Value.int 0, Value.ref 158, Value.ref 159, Value.int 0, Value.int 0, Value.int 0, Value.int 0, Value.int 0, Value.int 0, Value.int 0, Value.int 0]))) (hw1 : w[158]? = some (Sum.inl (1, 4096, fun _ => Value.int 0))) (hw2 : w.length = l) (e3 : 7 ≤ l) (e4 : l ≠ 128) (e5 : l ≠ 158) (e6 : 158 ≠ l) : xRun d 254 [Value.ref 128, Value.int a0, Value.int a1, Value.int a2, Value.int a3, Value.int a4] w (.inl none) ((((w ++ [Sum.inl (0, 5, fun _ => Value.int 0)]).set l (Sum.inl (0, 5, xup (xup (xup (xup (xup (fun _ => Value.int 0) (0 : Int32).toInt.toNat (Value.int a0)) (1 : Int32).toInt.toNat (Value.int a1)) (2 : Int32).toInt.toNat (Value.int a2)) (3 : Int32).toInt.toNat (Value.int a3)) (4 : Int32).toInt.toNat (Value.int a4)))).set 158 (Sum.inl (1, 4096, xup (xup (xup (xup (xup (xup (xup (xup (xup (xup (xup (xup (xup (xup (xup (xup (xup (xup (xup (xup (fun _ => Value.int 0) (0 : Int32).toInt.toNat (Value.int (((a0 >>> ((24 : Int32) &&& 31)).toInt8.toInt32).toInt8.toInt32))) (1 : Int32).toInt.toNat (Value.int (((a0 >>> ((16 : Int32) &&& 31)).toInt8.toInt32).toInt8.toInt32))) (2 : Int32).toInt.toNat (Value.int (((a0 >>> ((8 : Int32) &&& 31)).toInt8.toInt32).toInt8.toInt32))) (3 : Int32).toInt.toNat (Value.int (((a0 >>> ((0 : Int32) &&& 31)).toInt8.toInt32).toInt8.toInt32))) (4 : Int32).toInt.toNat (Value.int (((a1 >>> ((24 : Int32) &&& 31)).toInt8.toInt32).toInt8.toInt32))) (5 : Int32).toInt.toNat (Value.int (((a1 >>> ((16 : Int32) &&& 31)).toInt8.toInt32).toInt8.toInt32))) (6 : Int32).toInt.toNat (Value.int (((a1 >>> ((8 : Int32) &&& 31)).toInt8.toInt32).toInt8.toInt32))) (7 : Int32).toInt.toNat (Value.int (((a1 >>> ((0 : Int32) &&& 31)).toInt8.toInt32).toInt8.toInt32))) (8 : Int32).toInt.toNat (Value.int (((a2 >>> ((24 : Int32) &&& 31)).toInt8.toInt32).toInt8.toInt32))) (9 : Int32).toInt.toNat (Value.int (((a2 >>> ((16 : Int32) &&& 31)).toInt8.toInt32).toInt8.toInt32))) (10 : Int32).toInt.toNat (Value.int (((a2 >>> ((8 : Int32) &&& 31)).toInt8.toInt32).toInt8.toInt32))) (11 : Int32).toInt.toNat (Value.int (((a2 >>> ((0 : Int32) &&& 31)).toInt8.toInt32).toInt8.toInt32))) (12 : Int32).toInt.toNat (Value.int (((a3 >>> ((24 : Int32) &&& 31)).toInt8.toInt32).toInt8.toInt32))) (13 : Int32).toInt.toNat (Value.int (((a3 >>> ((16 : Int32) &&& 31)).toInt8.toInt32).toInt8.toInt32))) (14 : Int32).toInt.toNat (Value.int (((a3 >>> ((8 : Int32) &&& 31)).toInt8.toInt32).toInt8.toInt32))) (15 : Int32).toInt.toNat (Value.int (((a3 >>> ((0 : Int32) &&& 31)).toInt8.toInt32).toInt8.toInt32))) (16 : Int32).toInt.toNat (Value.int (((a4 >>> ((24 : Int32) &&& 31)).toInt8.toInt32).toInt8.toInt32))) (17 : Int32).toInt.toNat (Value.int (((a4 >>> ((16 : Int32) &&& 31)).toInt8.toInt32).toInt8.toInt32))) (18 : Int32).toInt.toNat (Value.int (((a4 >>> ((8 : Int32) &&& 31)).toInt8.toInt32).toInt8.toInt32))) (19 : Int32).toInt.toNat (Value.int (((a4 >>> ((0 : Int32) &&& 31)).toInt8.toInt32).toInt8.toInt32))))).set 128 (Sum.inr (12, [Value.ref 129, Value.ref 131, Value.ref 133, Value.ref 135, Value.ref 137, Value.ref 139, Value.ref 141, Value.ref 143, Value.ref 145, Value.ref 147, Value.ref 149, Value.ref 151, Value.ref 153, Value.ref 154, Value.ref 155, Value.ref 156, Value.ref 157, Value.int (-16384), Value.int 16384, Value.int 0, Value.int 0, Value.int 0, Value.ref 158, Value.ref 159, Value.int 20, Value.int 0, Value.int 0, Value.int 0, Value.int 0, Value.int 0, Value.int 0, Value.int 0]))) := by
  refine xRun.of ?_
  refine i_254_0 (x := 128) rfl ?_
  refine i_254_1 (v := Value.int 0) hw0 rfl ?_
  refine i_254_4 ?_
  refine i_254_6 (c := 20) (by decide) ?_
  refine i_254_7 (x := 128) rfl ?_
  refine i_254_8 (v := Value.ref 158) hw0 rfl ?_
  refine i_254_11 (c := 4096) hw1 (by decide) ?_
  refine i_254_12 (fun _ => ?_) (fun h => absurd h (by decide))
  refine i_254_23 ?_
  refine i_254_24 (m := 5) (l := l) (by decide) (by decide) (by decide) hw2 ?_
  refine i_254_26 rfl ?_
  refine i_254_27 ?_
  refine i_254_28 (x := a0) rfl ?_
  refine i_254_29 (v := Value.int a0) (xgl2 hw2) (by decide) (by decide) e3 rfl ?_
  refine i_254_30 rfl ?_
  refine i_254_31 ?_
  refine i_254_32 (x := a1) rfl ?_
  refine i_254_33 (v := Value.int a1) (xgs (xgl2 hw2)) (by decide) (by decide) e3 rfl ?_
  refine xEv.world (List.set_set _) ?_
  refine i_254_34 rfl ?_
  refine i_254_35 ?_
  refine i_254_36 (x := a2) rfl ?_
  refine i_254_37 (v := Value.int a2) (xgs (xgl2 hw2)) (by decide) (by decide) e3 rfl ?_
  refine xEv.world (List.set_set _) ?_
  refine i_254_38 rfl ?_
  refine i_254_39 ?_
  refine i_254_40 (x := a3) rfl ?_
  refine i_254_42 (v := Value.int a3) (xgs (xgl2 hw2)) (by decide) (by decide) e3 rfl ?_
  refine xEv.world (List.set_set _) ?_
  refine i_254_43 rfl ?_
  refine i_254_44 ?_
  refine i_254_45 (x := a4) rfl ?_
  refine i_254_47 (v := Value.int a4) (xgs (xgl2 hw2)) (by decide) (by decide) e3 rfl ?_
  refine xEv.world (List.set_set _) ?_
  refine i_254_48 (lv2 := [(6, Value.ref l), (0, Value.ref 128), (1, Value.int a0), (2, Value.int a1), (3, Value.int a2), (4, Value.int a3), (5, Value.int a4)]) rfl ?_
  refine i_254_50 ?_
  refine i_254_51 (lv2 := [(7, Value.int 0), (6, Value.ref l), (0, Value.ref 128), (1, Value.int a0), (2, Value.int a1), (3, Value.int a2), (4, Value.int a3), (5, Value.int a4)]) rfl ?_
  refine i_254_53 (x := 0) rfl ?_
  refine i_254_55 ?_
  refine i_254_57 (fun h => absurd h (by decide)) (fun _ => ?_)
  refine i_254_60 (x := 128) rfl ?_
  refine i_254_61 (v := Value.ref 158) (xgn e4 (xga hw0)) rfl ?_
  refine i_254_64 (x := 128) rfl ?_
  refine i_254_65 (v := Value.int 0) (xgn e4 (xga hw0)) rfl ?_
  refine i_254_68 (x := 0) rfl ?_
  refine i_254_70 (c := 0) (by decide) ?_
  refine i_254_71 (x := l) rfl ?_
  refine i_254_73 (x := 0) rfl ?_
  refine i_254_75 ?_
  refine i_254_76 (x := 0) (z := 4) (c := 0) (by decide) (by decide) ?_
  refine i_254_77 (v := Value.int a0) (xgs (xgl2 hw2)) (by decide) (by decide) (xup_n (by decide) (xup_n (by decide) (xup_n (by decide) (xup_n (by decide) xup_s)))) ?_
  refine i_254_78 ?_
  refine i_254_80 ?_
  refine i_254_82 (x := 0) rfl ?_
  refine i_254_84 ?_
  refine i_254_85 (x := 0) (z := 4) (c := 0) (by decide) (by decide) ?_
  refine i_254_86 (c := 0) (by decide) ?_
  refine i_254_87 (c := 24) (by decide) ?_
  refine i_254_88 (c := (a0 >>> ((24 : Int32) &&& 31))) rfl ?_
  refine i_254_89 (c := (a0 >>> ((24 : Int32) &&& 31)).toInt8.toInt32) rfl ?_
  refine i_254_90 (v := Value.int (((a0 >>> ((24 : Int32) &&& 31)).toInt8.toInt32).toInt8.toInt32)) (xgn e5 (xga hw1)) (by decide) (by decide) (by decide) rfl ?_
  refine i_254_91 (x := 0) (c := 1) (lv2 := [(7, Value.int 1), (6, Value.ref l), (0, Value.ref 128), (1, Value.int a0), (2, Value.int a1), (3, Value.int a2), (4, Value.int a3), (5, Value.int a4)]) rfl (by decide) rfl ?_
  refine i_254_94 ?_
  refine i_254_53 (x := 1) rfl ?_
  refine i_254_55 ?_
  refine i_254_57 (fun h => absurd h (by decide)) (fun _ => ?_)
  refine i_254_60 (x := 128) rfl ?_
  refine i_254_61 (v := Value.ref 158) (xgn (by decide) (xgn e4 (xga hw0))) rfl ?_
  refine i_254_64 (x := 128) rfl ?_
  refine i_254_65 (v := Value.int 0) (xgn (by decide) (xgn e4 (xga hw0))) rfl ?_
  refine i_254_68 (x := 1) rfl ?_
  refine i_254_70 (c := 1) (by decide) ?_
  refine i_254_71 (x := l) rfl ?_
  refine i_254_73 (x := 1) rfl ?_
  refine i_254_75 ?_
  refine i_254_76 (x := 1) (z := 4) (c := 0) (by decide) (by decide) ?_
  refine i_254_77 (v := Value.int a0) (xgn e6 (xgs (xgl2 hw2))) (by decide) (by decide) (xup_n (by decide) (xup_n (by decide) (xup_n (by decide) (xup_n (by decide) xup_s)))) ?_
  refine i_254_78 ?_
  refine i_254_80 ?_
  refine i_254_82 (x := 1) rfl ?_
  refine i_254_84 ?_
  refine i_254_85 (x := 1) (z := 4) (c := 1) (by decide) (by decide) ?_
  refine i_254_86 (c := 8) (by decide) ?_
  refine i_254_87 (c := 16) (by decide) ?_
  refine i_254_88 (c := (a0 >>> ((16 : Int32) &&& 31))) rfl ?_
  refine i_254_89 (c := (a0 >>> ((16 : Int32) &&& 31)).toInt8.toInt32) rfl ?_
  refine i_254_90 (v := Value.int (((a0 >>> ((16 : Int32) &&& 31)).toInt8.toInt32).toInt8.toInt32)) (xgs (xgn e5 (xga hw1))) (by decide) (by decide) (by decide) rfl ?_
  refine xEv.world (List.set_set _) ?_
  refine i_254_91 (x := 1) (c := 2) (lv2 := [(7, Value.int 2), (6, Value.ref l), (0, Value.ref 128), (1, Value.int a0), (2, Value.int a1), (3, Value.int a2), (4, Value.int a3), (5, Value.int a4)]) rfl (by decide) rfl ?_
  refine i_254_94 ?_
  refine i_254_53 (x := 2) rfl ?_
  refine i_254_55 ?_
  refine i_254_57 (fun h => absurd h (by decide)) (fun _ => ?_)
  refine i_254_60 (x := 128) rfl ?_
  refine i_254_61 (v := Value.ref 158) (xgn (by decide) (xgn e4 (xga hw0))) rfl ?_
  refine i_254_64 (x := 128) rfl ?_
  refine i_254_65 (v := Value.int 0) (xgn (by decide) (xgn e4 (xga hw0))) rfl ?_
  refine i_254_68 (x := 2) rfl ?_
  refine i_254_70 (c := 2) (by decide) ?_
  refine i_254_71 (x := l) rfl ?_
  refine i_254_73 (x := 2) rfl ?_
  refine i_254_75 ?_
  refine i_254_76 (x := 2) (z := 4) (c := 0) (by decide) (by decide) ?_
  refine i_254_77 (v := Value.int a0) (xgn e6 (xgs (xgl2 hw2))) (by decide) (by decide) (xup_n (by decide) (xup_n (by decide) (xup_n (by decide) (xup_n (by decide) xup_s)))) ?_
  refine i_254_78 ?_
  refine i_254_80 ?_
  refine i_254_82 (x := 2) rfl ?_
  refine i_254_84 ?_
  refine i_254_85 (x := 2) (z := 4) (c := 2) (by decide) (by decide) ?_
  refine i_254_86 (c := 16) (by decide) ?_
  refine i_254_87 (c := 8) (by decide) ?_
  refine i_254_88 (c := (a0 >>> ((8 : Int32) &&& 31))) rfl ?_
  refine i_254_89 (c := (a0 >>> ((8 : Int32) &&& 31)).toInt8.toInt32) rfl ?_
  refine i_254_90 (v := Value.int (((a0 >>> ((8 : Int32) &&& 31)).toInt8.toInt32).toInt8.toInt32)) (xgs (xgn e5 (xga hw1))) (by decide) (by decide) (by decide) rfl ?_
  refine xEv.world (List.set_set _) ?_
  refine i_254_91 (x := 2) (c := 3) (lv2 := [(7, Value.int 3), (6, Value.ref l), (0, Value.ref 128), (1, Value.int a0), (2, Value.int a1), (3, Value.int a2), (4, Value.int a3), (5, Value.int a4)]) rfl (by decide) rfl ?_
  refine i_254_94 ?_
  refine i_254_53 (x := 3) rfl ?_
  refine i_254_55 ?_
  refine i_254_57 (fun h => absurd h (by decide)) (fun _ => ?_)
  refine i_254_60 (x := 128) rfl ?_
  refine i_254_61 (v := Value.ref 158) (xgn (by decide) (xgn e4 (xga hw0))) rfl ?_
  refine i_254_64 (x := 128) rfl ?_
  refine i_254_65 (v := Value.int 0) (xgn (by decide) (xgn e4 (xga hw0))) rfl ?_
  refine i_254_68 (x := 3) rfl ?_
  refine i_254_70 (c := 3) (by decide) ?_
  refine i_254_71 (x := l) rfl ?_
  refine i_254_73 (x := 3) rfl ?_
  refine i_254_75 ?_
  refine i_254_76 (x := 3) (z := 4) (c := 0) (by decide) (by decide) ?_
  refine i_254_77 (v := Value.int a0) (xgn e6 (xgs (xgl2 hw2))) (by decide) (by decide) (xup_n (by decide) (xup_n (by decide) (xup_n (by decide) (xup_n (by decide) xup_s)))) ?_
  refine i_254_78 ?_
  refine i_254_80 ?_
  refine i_254_82 (x := 3) rfl ?_
  refine i_254_84 ?_
  refine i_254_85 (x := 3) (z := 4) (c := 3) (by decide) (by decide) ?_
  refine i_254_86 (c := 24) (by decide) ?_
  refine i_254_87 (c := 0) (by decide) ?_
  refine i_254_88 (c := (a0 >>> ((0 : Int32) &&& 31))) rfl ?_
  refine i_254_89 (c := (a0 >>> ((0 : Int32) &&& 31)).toInt8.toInt32) rfl ?_
  refine i_254_90 (v := Value.int (((a0 >>> ((0 : Int32) &&& 31)).toInt8.toInt32).toInt8.toInt32)) (xgs (xgn e5 (xga hw1))) (by decide) (by decide) (by decide) rfl ?_
  refine xEv.world (List.set_set _) ?_
  refine i_254_91 (x := 3) (c := 4) (lv2 := [(7, Value.int 4), (6, Value.ref l), (0, Value.ref 128), (1, Value.int a0), (2, Value.int a1), (3, Value.int a2), (4, Value.int a3), (5, Value.int a4)]) rfl (by decide) rfl ?_
  refine i_254_94 ?_
  refine i_254_53 (x := 4) rfl ?_
  refine i_254_55 ?_
  refine i_254_57 (fun h => absurd h (by decide)) (fun _ => ?_)
  refine i_254_60 (x := 128) rfl ?_
  refine i_254_61 (v := Value.ref 158) (xgn (by decide) (xgn e4 (xga hw0))) rfl ?_
  refine i_254_64 (x := 128) rfl ?_
  refine i_254_65 (v := Value.int 0) (xgn (by decide) (xgn e4 (xga hw0))) rfl ?_
  refine i_254_68 (x := 4) rfl ?_
  refine i_254_70 (c := 4) (by decide) ?_
  refine i_254_71 (x := l) rfl ?_
  refine i_254_73 (x := 4) rfl ?_
  refine i_254_75 ?_
  refine i_254_76 (x := 4) (z := 4) (c := 1) (by decide) (by decide) ?_
  refine i_254_77 (v := Value.int a1) (xgn e6 (xgs (xgl2 hw2))) (by decide) (by decide) (xup_n (by decide) (xup_n (by decide) (xup_n (by decide) xup_s))) ?_
  refine i_254_78 ?_
  refine i_254_80 ?_
  refine i_254_82 (x := 4) rfl ?_
  refine i_254_84 ?_
  refine i_254_85 (x := 4) (z := 4) (c := 0) (by decide) (by decide) ?_
  refine i_254_86 (c := 0) (by decide) ?_
  refine i_254_87 (c := 24) (by decide) ?_
  refine i_254_88 (c := (a1 >>> ((24 : Int32) &&& 31))) rfl ?_
  refine i_254_89 (c := (a1 >>> ((24 : Int32) &&& 31)).toInt8.toInt32) rfl ?_
  refine i_254_90 (v := Value.int (((a1 >>> ((24 : Int32) &&& 31)).toInt8.toInt32).toInt8.toInt32)) (xgs (xgn e5 (xga hw1))) (by decide) (by decide) (by decide) rfl ?_
  refine xEv.world (List.set_set _) ?_
  refine i_254_91 (x := 4) (c := 5) (lv2 := [(7, Value.int 5), (6, Value.ref l), (0, Value.ref 128), (1, Value.int a0), (2, Value.int a1), (3, Value.int a2), (4, Value.int a3), (5, Value.int a4)]) rfl (by decide) rfl ?_
  refine i_254_94 ?_
  refine i_254_53 (x := 5) rfl ?_
  refine i_254_55 ?_
  refine i_254_57 (fun h => absurd h (by decide)) (fun _ => ?_)
  refine i_254_60 (x := 128) rfl ?_
  refine i_254_61 (v := Value.ref 158) (xgn (by decide) (xgn e4 (xga hw0))) rfl ?_
  refine i_254_64 (x := 128) rfl ?_
  refine i_254_65 (v := Value.int 0) (xgn (by decide) (xgn e4 (xga hw0))) rfl ?_
  refine i_254_68 (x := 5) rfl ?_
  refine i_254_70 (c := 5) (by decide) ?_
  refine i_254_71 (x := l) rfl ?_
  refine i_254_73 (x := 5) rfl ?_
  refine i_254_75 ?_
  refine i_254_76 (x := 5) (z := 4) (c := 1) (by decide) (by decide) ?_
  refine i_254_77 (v := Value.int a1) (xgn e6 (xgs (xgl2 hw2))) (by decide) (by decide) (xup_n (by decide) (xup_n (by decide) (xup_n (by decide) xup_s))) ?_
  refine i_254_78 ?_
  refine i_254_80 ?_
  refine i_254_82 (x := 5) rfl ?_
  refine i_254_84 ?_
  refine i_254_85 (x := 5) (z := 4) (c := 1) (by decide) (by decide) ?_
  refine i_254_86 (c := 8) (by decide) ?_
  refine i_254_87 (c := 16) (by decide) ?_
  refine i_254_88 (c := (a1 >>> ((16 : Int32) &&& 31))) rfl ?_
  refine i_254_89 (c := (a1 >>> ((16 : Int32) &&& 31)).toInt8.toInt32) rfl ?_
  refine i_254_90 (v := Value.int (((a1 >>> ((16 : Int32) &&& 31)).toInt8.toInt32).toInt8.toInt32)) (xgs (xgn e5 (xga hw1))) (by decide) (by decide) (by decide) rfl ?_
  refine xEv.world (List.set_set _) ?_
  refine i_254_91 (x := 5) (c := 6) (lv2 := [(7, Value.int 6), (6, Value.ref l), (0, Value.ref 128), (1, Value.int a0), (2, Value.int a1), (3, Value.int a2), (4, Value.int a3), (5, Value.int a4)]) rfl (by decide) rfl ?_
  refine i_254_94 ?_
  refine i_254_53 (x := 6) rfl ?_
  refine i_254_55 ?_
  refine i_254_57 (fun h => absurd h (by decide)) (fun _ => ?_)
  refine i_254_60 (x := 128) rfl ?_
  refine i_254_61 (v := Value.ref 158) (xgn (by decide) (xgn e4 (xga hw0))) rfl ?_
  refine i_254_64 (x := 128) rfl ?_
  refine i_254_65 (v := Value.int 0) (xgn (by decide) (xgn e4 (xga hw0))) rfl ?_
  refine i_254_68 (x := 6) rfl ?_
  refine i_254_70 (c := 6) (by decide) ?_
  refine i_254_71 (x := l) rfl ?_
  refine i_254_73 (x := 6) rfl ?_
  refine i_254_75 ?_
  refine i_254_76 (x := 6) (z := 4) (c := 1) (by decide) (by decide) ?_
  refine i_254_77 (v := Value.int a1) (xgn e6 (xgs (xgl2 hw2))) (by decide) (by decide) (xup_n (by decide) (xup_n (by decide) (xup_n (by decide) xup_s))) ?_
  refine i_254_78 ?_
  refine i_254_80 ?_
  refine i_254_82 (x := 6) rfl ?_
  refine i_254_84 ?_
  refine i_254_85 (x := 6) (z := 4) (c := 2) (by decide) (by decide) ?_
  refine i_254_86 (c := 16) (by decide) ?_
  refine i_254_87 (c := 8) (by decide) ?_
  refine i_254_88 (c := (a1 >>> ((8 : Int32) &&& 31))) rfl ?_
  refine i_254_89 (c := (a1 >>> ((8 : Int32) &&& 31)).toInt8.toInt32) rfl ?_
  refine i_254_90 (v := Value.int (((a1 >>> ((8 : Int32) &&& 31)).toInt8.toInt32).toInt8.toInt32)) (xgs (xgn e5 (xga hw1))) (by decide) (by decide) (by decide) rfl ?_
  refine xEv.world (List.set_set _) ?_
  refine i_254_91 (x := 6) (c := 7) (lv2 := [(7, Value.int 7), (6, Value.ref l), (0, Value.ref 128), (1, Value.int a0), (2, Value.int a1), (3, Value.int a2), (4, Value.int a3), (5, Value.int a4)]) rfl (by decide) rfl ?_
  refine i_254_94 ?_
  refine i_254_53 (x := 7) rfl ?_
  refine i_254_55 ?_
  refine i_254_57 (fun h => absurd h (by decide)) (fun _ => ?_)
  refine i_254_60 (x := 128) rfl ?_
  refine i_254_61 (v := Value.ref 158) (xgn (by decide) (xgn e4 (xga hw0))) rfl ?_
  refine i_254_64 (x := 128) rfl ?_
  refine i_254_65 (v := Value.int 0) (xgn (by decide) (xgn e4 (xga hw0))) rfl ?_
  refine i_254_68 (x := 7) rfl ?_
  refine i_254_70 (c := 7) (by decide) ?_
  refine i_254_71 (x := l) rfl ?_
  refine i_254_73 (x := 7) rfl ?_
  refine i_254_75 ?_
  refine i_254_76 (x := 7) (z := 4) (c := 1) (by decide) (by decide) ?_
  refine i_254_77 (v := Value.int a1) (xgn e6 (xgs (xgl2 hw2))) (by decide) (by decide) (xup_n (by decide) (xup_n (by decide) (xup_n (by decide) xup_s))) ?_
  refine i_254_78 ?_
  refine i_254_80 ?_
  refine i_254_82 (x := 7) rfl ?_
  refine i_254_84 ?_
  refine i_254_85 (x := 7) (z := 4) (c := 3) (by decide) (by decide) ?_
  refine i_254_86 (c := 24) (by decide) ?_
  refine i_254_87 (c := 0) (by decide) ?_
  refine i_254_88 (c := (a1 >>> ((0 : Int32) &&& 31))) rfl ?_
  refine i_254_89 (c := (a1 >>> ((0 : Int32) &&& 31)).toInt8.toInt32) rfl ?_
  refine i_254_90 (v := Value.int (((a1 >>> ((0 : Int32) &&& 31)).toInt8.toInt32).toInt8.toInt32)) (xgs (xgn e5 (xga hw1))) (by decide) (by decide) (by decide) rfl ?_
  refine xEv.world (List.set_set _) ?_
  refine i_254_91 (x := 7) (c := 8) (lv2 := [(7, Value.int 8), (6, Value.ref l), (0, Value.ref 128), (1, Value.int a0), (2, Value.int a1), (3, Value.int a2), (4, Value.int a3), (5, Value.int a4)]) rfl (by decide) rfl ?_
  refine i_254_94 ?_
  refine i_254_53 (x := 8) rfl ?_
  refine i_254_55 ?_
  refine i_254_57 (fun h => absurd h (by decide)) (fun _ => ?_)
  refine i_254_60 (x := 128) rfl ?_
  refine i_254_61 (v := Value.ref 158) (xgn (by decide) (xgn e4 (xga hw0))) rfl ?_
  refine i_254_64 (x := 128) rfl ?_
  refine i_254_65 (v := Value.int 0) (xgn (by decide) (xgn e4 (xga hw0))) rfl ?_
  refine i_254_68 (x := 8) rfl ?_
  refine i_254_70 (c := 8) (by decide) ?_
  refine i_254_71 (x := l) rfl ?_
  refine i_254_73 (x := 8) rfl ?_
  refine i_254_75 ?_
  refine i_254_76 (x := 8) (z := 4) (c := 2) (by decide) (by decide) ?_
  refine i_254_77 (v := Value.int a2) (xgn e6 (xgs (xgl2 hw2))) (by decide) (by decide) (xup_n (by decide) (xup_n (by decide) xup_s)) ?_
  refine i_254_78 ?_
  refine i_254_80 ?_
  refine i_254_82 (x := 8) rfl ?_
  refine i_254_84 ?_
  refine i_254_85 (x := 8) (z := 4) (c := 0) (by decide) (by decide) ?_
  refine i_254_86 (c := 0) (by decide) ?_
  refine i_254_87 (c := 24) (by decide) ?_
  refine i_254_88 (c := (a2 >>> ((24 : Int32) &&& 31))) rfl ?_
  refine i_254_89 (c := (a2 >>> ((24 : Int32) &&& 31)).toInt8.toInt32) rfl ?_
  refine i_254_90 (v := Value.int (((a2 >>> ((24 : Int32) &&& 31)).toInt8.toInt32).toInt8.toInt32)) (xgs (xgn e5 (xga hw1))) (by decide) (by decide) (by decide) rfl ?_
  refine xEv.world (List.set_set _) ?_
  refine i_254_91 (x := 8) (c := 9) (lv2 := [(7, Value.int 9), (6, Value.ref l), (0, Value.ref 128), (1, Value.int a0), (2, Value.int a1), (3, Value.int a2), (4, Value.int a3), (5, Value.int a4)]) rfl (by decide) rfl ?_
  refine i_254_94 ?_
  refine i_254_53 (x := 9) rfl ?_
  refine i_254_55 ?_
  refine i_254_57 (fun h => absurd h (by decide)) (fun _ => ?_)
  refine i_254_60 (x := 128) rfl ?_
  refine i_254_61 (v := Value.ref 158) (xgn (by decide) (xgn e4 (xga hw0))) rfl ?_
  refine i_254_64 (x := 128) rfl ?_
  refine i_254_65 (v := Value.int 0) (xgn (by decide) (xgn e4 (xga hw0))) rfl ?_
  refine i_254_68 (x := 9) rfl ?_
  refine i_254_70 (c := 9) (by decide) ?_
  refine i_254_71 (x := l) rfl ?_
  refine i_254_73 (x := 9) rfl ?_
  refine i_254_75 ?_
  refine i_254_76 (x := 9) (z := 4) (c := 2) (by decide) (by decide) ?_
  refine i_254_77 (v := Value.int a2) (xgn e6 (xgs (xgl2 hw2))) (by decide) (by decide) (xup_n (by decide) (xup_n (by decide) xup_s)) ?_
  refine i_254_78 ?_
  refine i_254_80 ?_
  refine i_254_82 (x := 9) rfl ?_
  refine i_254_84 ?_
  refine i_254_85 (x := 9) (z := 4) (c := 1) (by decide) (by decide) ?_
  refine i_254_86 (c := 8) (by decide) ?_
  refine i_254_87 (c := 16) (by decide) ?_
  refine i_254_88 (c := (a2 >>> ((16 : Int32) &&& 31))) rfl ?_
  refine i_254_89 (c := (a2 >>> ((16 : Int32) &&& 31)).toInt8.toInt32) rfl ?_
  refine i_254_90 (v := Value.int (((a2 >>> ((16 : Int32) &&& 31)).toInt8.toInt32).toInt8.toInt32)) (xgs (xgn e5 (xga hw1))) (by decide) (by decide) (by decide) rfl ?_
  refine xEv.world (List.set_set _) ?_
  refine i_254_91 (x := 9) (c := 10) (lv2 := [(7, Value.int 10), (6, Value.ref l), (0, Value.ref 128), (1, Value.int a0), (2, Value.int a1), (3, Value.int a2), (4, Value.int a3), (5, Value.int a4)]) rfl (by decide) rfl ?_
  refine i_254_94 ?_
  refine i_254_53 (x := 10) rfl ?_
  refine i_254_55 ?_
  refine i_254_57 (fun h => absurd h (by decide)) (fun _ => ?_)
  refine i_254_60 (x := 128) rfl ?_
  refine i_254_61 (v := Value.ref 158) (xgn (by decide) (xgn e4 (xga hw0))) rfl ?_
  refine i_254_64 (x := 128) rfl ?_
  refine i_254_65 (v := Value.int 0) (xgn (by decide) (xgn e4 (xga hw0))) rfl ?_
  refine i_254_68 (x := 10) rfl ?_
  refine i_254_70 (c := 10) (by decide) ?_
  refine i_254_71 (x := l) rfl ?_
  refine i_254_73 (x := 10) rfl ?_
  refine i_254_75 ?_
  refine i_254_76 (x := 10) (z := 4) (c := 2) (by decide) (by decide) ?_
  refine i_254_77 (v := Value.int a2) (xgn e6 (xgs (xgl2 hw2))) (by decide) (by decide) (xup_n (by decide) (xup_n (by decide) xup_s)) ?_
  refine i_254_78 ?_
  refine i_254_80 ?_
  refine i_254_82 (x := 10) rfl ?_
  refine i_254_84 ?_
  refine i_254_85 (x := 10) (z := 4) (c := 2) (by decide) (by decide) ?_
  refine i_254_86 (c := 16) (by decide) ?_
  refine i_254_87 (c := 8) (by decide) ?_
  refine i_254_88 (c := (a2 >>> ((8 : Int32) &&& 31))) rfl ?_
  refine i_254_89 (c := (a2 >>> ((8 : Int32) &&& 31)).toInt8.toInt32) rfl ?_
  refine i_254_90 (v := Value.int (((a2 >>> ((8 : Int32) &&& 31)).toInt8.toInt32).toInt8.toInt32)) (xgs (xgn e5 (xga hw1))) (by decide) (by decide) (by decide) rfl ?_
  refine xEv.world (List.set_set _) ?_
  refine i_254_91 (x := 10) (c := 11) (lv2 := [(7, Value.int 11), (6, Value.ref l), (0, Value.ref 128), (1, Value.int a0), (2, Value.int a1), (3, Value.int a2), (4, Value.int a3), (5, Value.int a4)]) rfl (by decide) rfl ?_
  refine i_254_94 ?_
  refine i_254_53 (x := 11) rfl ?_
  refine i_254_55 ?_
  refine i_254_57 (fun h => absurd h (by decide)) (fun _ => ?_)
  refine i_254_60 (x := 128) rfl ?_
  refine i_254_61 (v := Value.ref 158) (xgn (by decide) (xgn e4 (xga hw0))) rfl ?_
  refine i_254_64 (x := 128) rfl ?_
  refine i_254_65 (v := Value.int 0) (xgn (by decide) (xgn e4 (xga hw0))) rfl ?_
  refine i_254_68 (x := 11) rfl ?_
  refine i_254_70 (c := 11) (by decide) ?_
  refine i_254_71 (x := l) rfl ?_
  refine i_254_73 (x := 11) rfl ?_
  refine i_254_75 ?_
  refine i_254_76 (x := 11) (z := 4) (c := 2) (by decide) (by decide) ?_
  refine i_254_77 (v := Value.int a2) (xgn e6 (xgs (xgl2 hw2))) (by decide) (by decide) (xup_n (by decide) (xup_n (by decide) xup_s)) ?_
  refine i_254_78 ?_
  refine i_254_80 ?_
  refine i_254_82 (x := 11) rfl ?_
  refine i_254_84 ?_
  refine i_254_85 (x := 11) (z := 4) (c := 3) (by decide) (by decide) ?_
  refine i_254_86 (c := 24) (by decide) ?_
  refine i_254_87 (c := 0) (by decide) ?_
  refine i_254_88 (c := (a2 >>> ((0 : Int32) &&& 31))) rfl ?_
  refine i_254_89 (c := (a2 >>> ((0 : Int32) &&& 31)).toInt8.toInt32) rfl ?_
  refine i_254_90 (v := Value.int (((a2 >>> ((0 : Int32) &&& 31)).toInt8.toInt32).toInt8.toInt32)) (xgs (xgn e5 (xga hw1))) (by decide) (by decide) (by decide) rfl ?_
  refine xEv.world (List.set_set _) ?_
  refine i_254_91 (x := 11) (c := 12) (lv2 := [(7, Value.int 12), (6, Value.ref l), (0, Value.ref 128), (1, Value.int a0), (2, Value.int a1), (3, Value.int a2), (4, Value.int a3), (5, Value.int a4)]) rfl (by decide) rfl ?_
  refine i_254_94 ?_
  refine i_254_53 (x := 12) rfl ?_
  refine i_254_55 ?_
  refine i_254_57 (fun h => absurd h (by decide)) (fun _ => ?_)
  refine i_254_60 (x := 128) rfl ?_
  refine i_254_61 (v := Value.ref 158) (xgn (by decide) (xgn e4 (xga hw0))) rfl ?_
  refine i_254_64 (x := 128) rfl ?_
  refine i_254_65 (v := Value.int 0) (xgn (by decide) (xgn e4 (xga hw0))) rfl ?_
  refine i_254_68 (x := 12) rfl ?_
  refine i_254_70 (c := 12) (by decide) ?_
  refine i_254_71 (x := l) rfl ?_
  refine i_254_73 (x := 12) rfl ?_
  refine i_254_75 ?_
  refine i_254_76 (x := 12) (z := 4) (c := 3) (by decide) (by decide) ?_
  refine i_254_77 (v := Value.int a3) (xgn e6 (xgs (xgl2 hw2))) (by decide) (by decide) (xup_n (by decide) xup_s) ?_
  refine i_254_78 ?_
  refine i_254_80 ?_
  refine i_254_82 (x := 12) rfl ?_
  refine i_254_84 ?_
  refine i_254_85 (x := 12) (z := 4) (c := 0) (by decide) (by decide) ?_
  refine i_254_86 (c := 0) (by decide) ?_
  refine i_254_87 (c := 24) (by decide) ?_
  refine i_254_88 (c := (a3 >>> ((24 : Int32) &&& 31))) rfl ?_
  refine i_254_89 (c := (a3 >>> ((24 : Int32) &&& 31)).toInt8.toInt32) rfl ?_
  refine i_254_90 (v := Value.int (((a3 >>> ((24 : Int32) &&& 31)).toInt8.toInt32).toInt8.toInt32)) (xgs (xgn e5 (xga hw1))) (by decide) (by decide) (by decide) rfl ?_
  refine xEv.world (List.set_set _) ?_
  refine i_254_91 (x := 12) (c := 13) (lv2 := [(7, Value.int 13), (6, Value.ref l), (0, Value.ref 128), (1, Value.int a0), (2, Value.int a1), (3, Value.int a2), (4, Value.int a3), (5, Value.int a4)]) rfl (by decide) rfl ?_
  refine i_254_94 ?_
  refine i_254_53 (x := 13) rfl ?_
  refine i_254_55 ?_
  refine i_254_57 (fun h => absurd h (by decide)) (fun _ => ?_)
  refine i_254_60 (x := 128) rfl ?_
  refine i_254_61 (v := Value.ref 158) (xgn (by decide) (xgn e4 (xga hw0))) rfl ?_
  refine i_254_64 (x := 128) rfl ?_
  refine i_254_65 (v := Value.int 0) (xgn (by decide) (xgn e4 (xga hw0))) rfl ?_
  refine i_254_68 (x := 13) rfl ?_
  refine i_254_70 (c := 13) (by decide) ?_
  refine i_254_71 (x := l) rfl ?_
  refine i_254_73 (x := 13) rfl ?_
  refine i_254_75 ?_
  refine i_254_76 (x := 13) (z := 4) (c := 3) (by decide) (by decide) ?_
  refine i_254_77 (v := Value.int a3) (xgn e6 (xgs (xgl2 hw2))) (by decide) (by decide) (xup_n (by decide) xup_s) ?_
  refine i_254_78 ?_
  refine i_254_80 ?_
  refine i_254_82 (x := 13) rfl ?_
  refine i_254_84 ?_
  refine i_254_85 (x := 13) (z := 4) (c := 1) (by decide) (by decide) ?_
  refine i_254_86 (c := 8) (by decide) ?_
  refine i_254_87 (c := 16) (by decide) ?_
  refine i_254_88 (c := (a3 >>> ((16 : Int32) &&& 31))) rfl ?_
  refine i_254_89 (c := (a3 >>> ((16 : Int32) &&& 31)).toInt8.toInt32) rfl ?_
  refine i_254_90 (v := Value.int (((a3 >>> ((16 : Int32) &&& 31)).toInt8.toInt32).toInt8.toInt32)) (xgs (xgn e5 (xga hw1))) (by decide) (by decide) (by decide) rfl ?_
  refine xEv.world (List.set_set _) ?_
  refine i_254_91 (x := 13) (c := 14) (lv2 := [(7, Value.int 14), (6, Value.ref l), (0, Value.ref 128), (1, Value.int a0), (2, Value.int a1), (3, Value.int a2), (4, Value.int a3), (5, Value.int a4)]) rfl (by decide) rfl ?_
  refine i_254_94 ?_
  refine i_254_53 (x := 14) rfl ?_
  refine i_254_55 ?_
  refine i_254_57 (fun h => absurd h (by decide)) (fun _ => ?_)
  refine i_254_60 (x := 128) rfl ?_
  refine i_254_61 (v := Value.ref 158) (xgn (by decide) (xgn e4 (xga hw0))) rfl ?_
  refine i_254_64 (x := 128) rfl ?_
  refine i_254_65 (v := Value.int 0) (xgn (by decide) (xgn e4 (xga hw0))) rfl ?_
  refine i_254_68 (x := 14) rfl ?_
  refine i_254_70 (c := 14) (by decide) ?_
  refine i_254_71 (x := l) rfl ?_
  refine i_254_73 (x := 14) rfl ?_
  refine i_254_75 ?_
  refine i_254_76 (x := 14) (z := 4) (c := 3) (by decide) (by decide) ?_
  refine i_254_77 (v := Value.int a3) (xgn e6 (xgs (xgl2 hw2))) (by decide) (by decide) (xup_n (by decide) xup_s) ?_
  refine i_254_78 ?_
  refine i_254_80 ?_
  refine i_254_82 (x := 14) rfl ?_
  refine i_254_84 ?_
  refine i_254_85 (x := 14) (z := 4) (c := 2) (by decide) (by decide) ?_
  refine i_254_86 (c := 16) (by decide) ?_
  refine i_254_87 (c := 8) (by decide) ?_
  refine i_254_88 (c := (a3 >>> ((8 : Int32) &&& 31))) rfl ?_
  refine i_254_89 (c := (a3 >>> ((8 : Int32) &&& 31)).toInt8.toInt32) rfl ?_
  refine i_254_90 (v := Value.int (((a3 >>> ((8 : Int32) &&& 31)).toInt8.toInt32).toInt8.toInt32)) (xgs (xgn e5 (xga hw1))) (by decide) (by decide) (by decide) rfl ?_
  refine xEv.world (List.set_set _) ?_
  refine i_254_91 (x := 14) (c := 15) (lv2 := [(7, Value.int 15), (6, Value.ref l), (0, Value.ref 128), (1, Value.int a0), (2, Value.int a1), (3, Value.int a2), (4, Value.int a3), (5, Value.int a4)]) rfl (by decide) rfl ?_
  refine i_254_94 ?_
  refine i_254_53 (x := 15) rfl ?_
  refine i_254_55 ?_
  refine i_254_57 (fun h => absurd h (by decide)) (fun _ => ?_)
  refine i_254_60 (x := 128) rfl ?_
  refine i_254_61 (v := Value.ref 158) (xgn (by decide) (xgn e4 (xga hw0))) rfl ?_
  refine i_254_64 (x := 128) rfl ?_
  refine i_254_65 (v := Value.int 0) (xgn (by decide) (xgn e4 (xga hw0))) rfl ?_
  refine i_254_68 (x := 15) rfl ?_
  refine i_254_70 (c := 15) (by decide) ?_
  refine i_254_71 (x := l) rfl ?_
  refine i_254_73 (x := 15) rfl ?_
  refine i_254_75 ?_
  refine i_254_76 (x := 15) (z := 4) (c := 3) (by decide) (by decide) ?_
  refine i_254_77 (v := Value.int a3) (xgn e6 (xgs (xgl2 hw2))) (by decide) (by decide) (xup_n (by decide) xup_s) ?_
  refine i_254_78 ?_
  refine i_254_80 ?_
  refine i_254_82 (x := 15) rfl ?_
  refine i_254_84 ?_
  refine i_254_85 (x := 15) (z := 4) (c := 3) (by decide) (by decide) ?_
  refine i_254_86 (c := 24) (by decide) ?_
  refine i_254_87 (c := 0) (by decide) ?_
  refine i_254_88 (c := (a3 >>> ((0 : Int32) &&& 31))) rfl ?_
  refine i_254_89 (c := (a3 >>> ((0 : Int32) &&& 31)).toInt8.toInt32) rfl ?_
  refine i_254_90 (v := Value.int (((a3 >>> ((0 : Int32) &&& 31)).toInt8.toInt32).toInt8.toInt32)) (xgs (xgn e5 (xga hw1))) (by decide) (by decide) (by decide) rfl ?_
  refine xEv.world (List.set_set _) ?_
  refine i_254_91 (x := 15) (c := 16) (lv2 := [(7, Value.int 16), (6, Value.ref l), (0, Value.ref 128), (1, Value.int a0), (2, Value.int a1), (3, Value.int a2), (4, Value.int a3), (5, Value.int a4)]) rfl (by decide) rfl ?_
  refine i_254_94 ?_
  refine i_254_53 (x := 16) rfl ?_
  refine i_254_55 ?_
  refine i_254_57 (fun h => absurd h (by decide)) (fun _ => ?_)
  refine i_254_60 (x := 128) rfl ?_
  refine i_254_61 (v := Value.ref 158) (xgn (by decide) (xgn e4 (xga hw0))) rfl ?_
  refine i_254_64 (x := 128) rfl ?_
  refine i_254_65 (v := Value.int 0) (xgn (by decide) (xgn e4 (xga hw0))) rfl ?_
  refine i_254_68 (x := 16) rfl ?_
  refine i_254_70 (c := 16) (by decide) ?_
  refine i_254_71 (x := l) rfl ?_
  refine i_254_73 (x := 16) rfl ?_
  refine i_254_75 ?_
  refine i_254_76 (x := 16) (z := 4) (c := 4) (by decide) (by decide) ?_
  refine i_254_77 (v := Value.int a4) (xgn e6 (xgs (xgl2 hw2))) (by decide) (by decide) xup_s ?_
  refine i_254_78 ?_
  refine i_254_80 ?_
  refine i_254_82 (x := 16) rfl ?_
  refine i_254_84 ?_
  refine i_254_85 (x := 16) (z := 4) (c := 0) (by decide) (by decide) ?_
  refine i_254_86 (c := 0) (by decide) ?_
  refine i_254_87 (c := 24) (by decide) ?_
  refine i_254_88 (c := (a4 >>> ((24 : Int32) &&& 31))) rfl ?_
  refine i_254_89 (c := (a4 >>> ((24 : Int32) &&& 31)).toInt8.toInt32) rfl ?_
  refine i_254_90 (v := Value.int (((a4 >>> ((24 : Int32) &&& 31)).toInt8.toInt32).toInt8.toInt32)) (xgs (xgn e5 (xga hw1))) (by decide) (by decide) (by decide) rfl ?_
  refine xEv.world (List.set_set _) ?_
  refine i_254_91 (x := 16) (c := 17) (lv2 := [(7, Value.int 17), (6, Value.ref l), (0, Value.ref 128), (1, Value.int a0), (2, Value.int a1), (3, Value.int a2), (4, Value.int a3), (5, Value.int a4)]) rfl (by decide) rfl ?_
  refine i_254_94 ?_
  refine i_254_53 (x := 17) rfl ?_
  refine i_254_55 ?_
  refine i_254_57 (fun h => absurd h (by decide)) (fun _ => ?_)
  refine i_254_60 (x := 128) rfl ?_
  refine i_254_61 (v := Value.ref 158) (xgn (by decide) (xgn e4 (xga hw0))) rfl ?_
  refine i_254_64 (x := 128) rfl ?_
  refine i_254_65 (v := Value.int 0) (xgn (by decide) (xgn e4 (xga hw0))) rfl ?_
  refine i_254_68 (x := 17) rfl ?_
  refine i_254_70 (c := 17) (by decide) ?_
  refine i_254_71 (x := l) rfl ?_
  refine i_254_73 (x := 17) rfl ?_
  refine i_254_75 ?_
  refine i_254_76 (x := 17) (z := 4) (c := 4) (by decide) (by decide) ?_
  refine i_254_77 (v := Value.int a4) (xgn e6 (xgs (xgl2 hw2))) (by decide) (by decide) xup_s ?_
  refine i_254_78 ?_
  refine i_254_80 ?_
  refine i_254_82 (x := 17) rfl ?_
  refine i_254_84 ?_
  refine i_254_85 (x := 17) (z := 4) (c := 1) (by decide) (by decide) ?_
  refine i_254_86 (c := 8) (by decide) ?_
  refine i_254_87 (c := 16) (by decide) ?_
  refine i_254_88 (c := (a4 >>> ((16 : Int32) &&& 31))) rfl ?_
  refine i_254_89 (c := (a4 >>> ((16 : Int32) &&& 31)).toInt8.toInt32) rfl ?_
  refine i_254_90 (v := Value.int (((a4 >>> ((16 : Int32) &&& 31)).toInt8.toInt32).toInt8.toInt32)) (xgs (xgn e5 (xga hw1))) (by decide) (by decide) (by decide) rfl ?_
  refine xEv.world (List.set_set _) ?_
  refine i_254_91 (x := 17) (c := 18) (lv2 := [(7, Value.int 18), (6, Value.ref l), (0, Value.ref 128), (1, Value.int a0), (2, Value.int a1), (3, Value.int a2), (4, Value.int a3), (5, Value.int a4)]) rfl (by decide) rfl ?_
  refine i_254_94 ?_
  refine i_254_53 (x := 18) rfl ?_
  refine i_254_55 ?_
  refine i_254_57 (fun h => absurd h (by decide)) (fun _ => ?_)
  refine i_254_60 (x := 128) rfl ?_
  refine i_254_61 (v := Value.ref 158) (xgn (by decide) (xgn e4 (xga hw0))) rfl ?_
  refine i_254_64 (x := 128) rfl ?_
  refine i_254_65 (v := Value.int 0) (xgn (by decide) (xgn e4 (xga hw0))) rfl ?_
  refine i_254_68 (x := 18) rfl ?_
  refine i_254_70 (c := 18) (by decide) ?_
  refine i_254_71 (x := l) rfl ?_
  refine i_254_73 (x := 18) rfl ?_
  refine i_254_75 ?_
  refine i_254_76 (x := 18) (z := 4) (c := 4) (by decide) (by decide) ?_
  refine i_254_77 (v := Value.int a4) (xgn e6 (xgs (xgl2 hw2))) (by decide) (by decide) xup_s ?_
  refine i_254_78 ?_
  refine i_254_80 ?_
  refine i_254_82 (x := 18) rfl ?_
  refine i_254_84 ?_
  refine i_254_85 (x := 18) (z := 4) (c := 2) (by decide) (by decide) ?_
  refine i_254_86 (c := 16) (by decide) ?_
  refine i_254_87 (c := 8) (by decide) ?_
  refine i_254_88 (c := (a4 >>> ((8 : Int32) &&& 31))) rfl ?_
  refine i_254_89 (c := (a4 >>> ((8 : Int32) &&& 31)).toInt8.toInt32) rfl ?_
  refine i_254_90 (v := Value.int (((a4 >>> ((8 : Int32) &&& 31)).toInt8.toInt32).toInt8.toInt32)) (xgs (xgn e5 (xga hw1))) (by decide) (by decide) (by decide) rfl ?_
  refine xEv.world (List.set_set _) ?_
  refine i_254_91 (x := 18) (c := 19) (lv2 := [(7, Value.int 19), (6, Value.ref l), (0, Value.ref 128), (1, Value.int a0), (2, Value.int a1), (3, Value.int a2), (4, Value.int a3), (5, Value.int a4)]) rfl (by decide) rfl ?_
  refine i_254_94 ?_
  refine i_254_53 (x := 19) rfl ?_
  refine i_254_55 ?_
  refine i_254_57 (fun h => absurd h (by decide)) (fun _ => ?_)
  refine i_254_60 (x := 128) rfl ?_
  refine i_254_61 (v := Value.ref 158) (xgn (by decide) (xgn e4 (xga hw0))) rfl ?_
  refine i_254_64 (x := 128) rfl ?_
  refine i_254_65 (v := Value.int 0) (xgn (by decide) (xgn e4 (xga hw0))) rfl ?_
  refine i_254_68 (x := 19) rfl ?_
  refine i_254_70 (c := 19) (by decide) ?_
  refine i_254_71 (x := l) rfl ?_
  refine i_254_73 (x := 19) rfl ?_
  refine i_254_75 ?_
  refine i_254_76 (x := 19) (z := 4) (c := 4) (by decide) (by decide) ?_
  refine i_254_77 (v := Value.int a4) (xgn e6 (xgs (xgl2 hw2))) (by decide) (by decide) xup_s ?_
  refine i_254_78 ?_
  refine i_254_80 ?_
  refine i_254_82 (x := 19) rfl ?_
  refine i_254_84 ?_
  refine i_254_85 (x := 19) (z := 4) (c := 3) (by decide) (by decide) ?_
  refine i_254_86 (c := 24) (by decide) ?_
  refine i_254_87 (c := 0) (by decide) ?_
  refine i_254_88 (c := (a4 >>> ((0 : Int32) &&& 31))) rfl ?_
  refine i_254_89 (c := (a4 >>> ((0 : Int32) &&& 31)).toInt8.toInt32) rfl ?_
  refine i_254_90 (v := Value.int (((a4 >>> ((0 : Int32) &&& 31)).toInt8.toInt32).toInt8.toInt32)) (xgs (xgn e5 (xga hw1))) (by decide) (by decide) (by decide) rfl ?_
  refine xEv.world (List.set_set _) ?_
  refine i_254_91 (x := 19) (c := 20) (lv2 := [(7, Value.int 20), (6, Value.ref l), (0, Value.ref 128), (1, Value.int a0), (2, Value.int a1), (3, Value.int a2), (4, Value.int a3), (5, Value.int a4)]) rfl (by decide) rfl ?_
  refine i_254_94 ?_
  refine i_254_53 (x := 20) rfl ?_
  refine i_254_55 ?_
  refine i_254_57 (fun _ => ?_) (fun h => absurd h (by decide))
  refine i_254_97 (x := 128) rfl ?_
  refine i_254_98 rfl ?_
  refine i_254_99 (v := Value.int 0) (xgn (by decide) (xgn e4 (xga hw0))) rfl ?_
  refine i_254_102 ?_
  refine i_254_104 (c := 20) (by decide) ?_
  refine i_254_105 (fs2 := [Value.ref 129, Value.ref 131, Value.ref 133, Value.ref 135, Value.ref 137, Value.ref 139, Value.ref 141, Value.ref 143, Value.ref 145, Value.ref 147, Value.ref 149, Value.ref 151, Value.ref 153, Value.ref 154, Value.ref 155, Value.ref 156, Value.ref 157, Value.int (-16384), Value.int 16384, Value.int 0, Value.int 0, Value.int 0, Value.ref 158, Value.ref 159, Value.int 20, Value.int 0, Value.int 0, Value.int 0, Value.int 0, Value.int 0, Value.int 0, Value.int 0]) (xgn (by decide) (xgn e4 (xga hw0))) (Nat.le_of_ble_eq_true rfl) rfl (by decide) ?_
  exact i_254_108 ⟨rfl, rfl⟩
theorem p_253_0 {d : Nat} {w : xW} {a0 : Int32} {a1 : Int32} {a2 : Int32} {a3 : Int32} {a4 : Int32} {l : Nat} (hw0 : w[128]? = some (Sum.inr (12, [Value.ref 129, Value.ref 131, Value.ref 133, Value.ref 135, Value.ref 137, Value.ref 139, Value.ref 141, Value.ref 143, Value.ref 145, Value.ref 147, Value.ref 149, Value.ref 151, Value.ref 153, Value.ref 154, Value.ref 155, Value.ref 156, Value.ref 157, Value.int (-16384), Value.int 16384, Value.int 0, Value.int 0, Value.int 0, Value.ref 158, Value.ref 159, Value.int 0, Value.int 0, Value.int 0, Value.int 0, Value.int 0, Value.int 0, Value.int 0, Value.int 0]))) (hw1 : w[158]? = some (Sum.inl (1, 4096, fun _ => Value.int 0))) (hw2 : w.length = l) (e3 : 7 ≤ l) (e4 : l ≠ 128) (e5 : l ≠ 158) (e6 : 158 ≠ l) : xRun (d + 1) 253 [Value.ref 128, Value.int a0, Value.int a1, Value.int a2, Value.int a3, Value.int a4] w (.inl none) (((((w.set 128 (Sum.inr (12, [Value.ref 129, Value.ref 131, Value.ref 133, Value.ref 135, Value.ref 137, Value.ref 139, Value.ref 141, Value.ref 143, Value.ref 145, Value.ref 147, Value.ref 149, Value.ref 151, Value.ref 153, Value.ref 154, Value.ref 155, Value.ref 156, Value.ref 157, Value.int (-16384), Value.int 16384, Value.int 0, Value.int 0, Value.int 0, Value.ref 158, Value.ref 159, Value.int 0, Value.int 0, Value.int 0, Value.int 0, Value.int 0, Value.int 0, Value.int 0, Value.int 0]))) ++ [Sum.inl (0, 5, fun _ => Value.int 0)]).set l (Sum.inl (0, 5, xup (xup (xup (xup (xup (fun _ => Value.int 0) (0 : Int32).toInt.toNat (Value.int a0)) (1 : Int32).toInt.toNat (Value.int a1)) (2 : Int32).toInt.toNat (Value.int a2)) (3 : Int32).toInt.toNat (Value.int a3)) (4 : Int32).toInt.toNat (Value.int a4)))).set 158 (Sum.inl (1, 4096, xup (xup (xup (xup (xup (xup (xup (xup (xup (xup (xup (xup (xup (xup (xup (xup (xup (xup (xup (xup (fun _ => Value.int 0) (0 : Int32).toInt.toNat (Value.int (((a0 >>> ((24 : Int32) &&& 31)).toInt8.toInt32).toInt8.toInt32))) (1 : Int32).toInt.toNat (Value.int (((a0 >>> ((16 : Int32) &&& 31)).toInt8.toInt32).toInt8.toInt32))) (2 : Int32).toInt.toNat (Value.int (((a0 >>> ((8 : Int32) &&& 31)).toInt8.toInt32).toInt8.toInt32))) (3 : Int32).toInt.toNat (Value.int (((a0 >>> ((0 : Int32) &&& 31)).toInt8.toInt32).toInt8.toInt32))) (4 : Int32).toInt.toNat (Value.int (((a1 >>> ((24 : Int32) &&& 31)).toInt8.toInt32).toInt8.toInt32))) (5 : Int32).toInt.toNat (Value.int (((a1 >>> ((16 : Int32) &&& 31)).toInt8.toInt32).toInt8.toInt32))) (6 : Int32).toInt.toNat (Value.int (((a1 >>> ((8 : Int32) &&& 31)).toInt8.toInt32).toInt8.toInt32))) (7 : Int32).toInt.toNat (Value.int (((a1 >>> ((0 : Int32) &&& 31)).toInt8.toInt32).toInt8.toInt32))) (8 : Int32).toInt.toNat (Value.int (((a2 >>> ((24 : Int32) &&& 31)).toInt8.toInt32).toInt8.toInt32))) (9 : Int32).toInt.toNat (Value.int (((a2 >>> ((16 : Int32) &&& 31)).toInt8.toInt32).toInt8.toInt32))) (10 : Int32).toInt.toNat (Value.int (((a2 >>> ((8 : Int32) &&& 31)).toInt8.toInt32).toInt8.toInt32))) (11 : Int32).toInt.toNat (Value.int (((a2 >>> ((0 : Int32) &&& 31)).toInt8.toInt32).toInt8.toInt32))) (12 : Int32).toInt.toNat (Value.int (((a3 >>> ((24 : Int32) &&& 31)).toInt8.toInt32).toInt8.toInt32))) (13 : Int32).toInt.toNat (Value.int (((a3 >>> ((16 : Int32) &&& 31)).toInt8.toInt32).toInt8.toInt32))) (14 : Int32).toInt.toNat (Value.int (((a3 >>> ((8 : Int32) &&& 31)).toInt8.toInt32).toInt8.toInt32))) (15 : Int32).toInt.toNat (Value.int (((a3 >>> ((0 : Int32) &&& 31)).toInt8.toInt32).toInt8.toInt32))) (16 : Int32).toInt.toNat (Value.int (((a4 >>> ((24 : Int32) &&& 31)).toInt8.toInt32).toInt8.toInt32))) (17 : Int32).toInt.toNat (Value.int (((a4 >>> ((16 : Int32) &&& 31)).toInt8.toInt32).toInt8.toInt32))) (18 : Int32).toInt.toNat (Value.int (((a4 >>> ((8 : Int32) &&& 31)).toInt8.toInt32).toInt8.toInt32))) (19 : Int32).toInt.toNat (Value.int (((a4 >>> ((0 : Int32) &&& 31)).toInt8.toInt32).toInt8.toInt32))))).set 128 (Sum.inr (12, [Value.ref 129, Value.ref 131, Value.ref 133, Value.ref 135, Value.ref 137, Value.ref 139, Value.ref 141, Value.ref 143, Value.ref 145, Value.ref 147, Value.ref 149, Value.ref 151, Value.ref 153, Value.ref 154, Value.ref 155, Value.ref 156, Value.ref 157, Value.int (-16384), Value.int 16384, Value.int 0, Value.int 0, Value.int 0, Value.ref 158, Value.ref 159, Value.int 20, Value.int 0, Value.int 0, Value.int 0, Value.int 0, Value.int 0, Value.int 0, Value.int 0]))) := by
  refine xRun.of ?_
  refine i_253_0 (x := 128) rfl ?_
  refine i_253_1 ?_
  refine i_253_2 (fs2 := [Value.ref 129, Value.ref 131, Value.ref 133, Value.ref 135, Value.ref 137, Value.ref 139, Value.ref 141, Value.ref 143, Value.ref 145, Value.ref 147, Value.ref 149, Value.ref 151, Value.ref 153, Value.ref 154, Value.ref 155, Value.ref 156, Value.ref 157, Value.int (-16384), Value.int 16384, Value.int 0, Value.int 0, Value.int 0, Value.ref 158, Value.ref 159, Value.int 0, Value.int 0, Value.int 0, Value.int 0, Value.int 0, Value.int 0, Value.int 0, Value.int 0]) hw0 (Nat.le_of_ble_eq_true rfl) rfl (by decide) ?_
  refine i_253_5 (x := 128) rfl ?_
  refine i_253_6 (x := a0) rfl ?_
  refine i_253_7 (x := a1) rfl ?_
  refine i_253_8 (x := a2) rfl ?_
  refine i_253_9 (x := a3) rfl ?_
  refine i_253_11 (x := a4) rfl ?_
  refine i_253_13 (xgs hw0) (Nat.le_of_ble_eq_true rfl) (p_254_0 (xgs hw0) (xgn (by decide) hw1) (xls hw2) e3 e4 e5 e6) ?_
  refine i_253_16 ?_
  exact i_253_26 ⟨rfl, rfl⟩
theorem p_165_7 {d : Nat} {w : xW} (hw0 : w[128]? = some (Sum.inr (12, [Value.ref 129, Value.ref 131, Value.ref 133, Value.ref 135, Value.ref 137, Value.ref 139, Value.ref 141, Value.ref 143, Value.ref 145, Value.ref 147, Value.ref 149, Value.ref 151, Value.ref 153, Value.ref 154, Value.ref 155, Value.ref 156, Value.ref 157, Value.int (-16384), Value.int 16384, Value.int 0, Value.int 0, Value.int 0, Value.ref 158, Value.ref 159, Value.int 20, Value.int 0, Value.int 0, Value.int 0, Value.int 0, Value.int 0, Value.int 0, Value.int 0]))) : xRun d 165 [Value.ref 128] w (.inl (some (Value.int 0))) w := by
  refine xRun.of ?_
  refine i_165_0 (x := 128) rfl ?_
  refine i_165_1 (v := Value.int 0) hw0 rfl ?_
  exact i_165_4 ⟨rfl, rfl⟩
theorem o_19_0 {d : Nat} {xs : Nat → Int32} (h0 : ((xs 0) &&& (31 : Int32)).toInt = 19) : ∃ w1, xEv (d + 20) 287 23 [(4, Value.int 0), (3, Value.ref 194), (2, Value.ref 128), (1, Value.ref 7), (0, Value.ref 0)] [] (W0 6 xs) (fun o' w' => o' = .inl (some (Value.int 1)) ∧ w' = w1) ∧ w1.length ≤ 220 ∧ xsz w1 ≤ 200000 := by
  refine ⟨((((((((((((((((((((((((((((((((((((((((((((((W0 6 xs).set 29 (Sum.inl (1, 4096, xup (fun _ => Value.int 0) (0 : Int32).toInt.toNat (Value.int (((((xs 1).toUInt32 >>> ((24 : Int32).toUInt32 &&& Int32.toUInt32 31)).toInt32).toInt8.toInt32).toInt8.toInt32))))).set 7 (Sum.inr (0, [Value.ref 8, Value.ref 78, Value.ref 9, Value.ref 10, Value.ref 13, Value.ref 16, Value.ref 19, Value.ref 93, Value.ref 108, Value.ref 113, Value.ref 29, Value.int 1]))).set 29 (Sum.inl (1, 4096, xup (xup (fun _ => Value.int 0) (0 : Int32).toInt.toNat (Value.int (((((xs 1).toUInt32 >>> ((24 : Int32).toUInt32 &&& Int32.toUInt32 31)).toInt32).toInt8.toInt32).toInt8.toInt32))) (1 : Int32).toInt.toNat (Value.int (((((xs 1).toUInt32 >>> ((16 : Int32).toUInt32 &&& Int32.toUInt32 31)).toInt32).toInt8.toInt32).toInt8.toInt32))))).set 7 (Sum.inr (0, [Value.ref 8, Value.ref 78, Value.ref 9, Value.ref 10, Value.ref 13, Value.ref 16, Value.ref 19, Value.ref 93, Value.ref 108, Value.ref 113, Value.ref 29, Value.int 2]))).set 29 (Sum.inl (1, 4096, xup (xup (xup (fun _ => Value.int 0) (0 : Int32).toInt.toNat (Value.int (((((xs 1).toUInt32 >>> ((24 : Int32).toUInt32 &&& Int32.toUInt32 31)).toInt32).toInt8.toInt32).toInt8.toInt32))) (1 : Int32).toInt.toNat (Value.int (((((xs 1).toUInt32 >>> ((16 : Int32).toUInt32 &&& Int32.toUInt32 31)).toInt32).toInt8.toInt32).toInt8.toInt32))) (2 : Int32).toInt.toNat (Value.int (((((xs 1).toUInt32 >>> ((8 : Int32).toUInt32 &&& Int32.toUInt32 31)).toInt32).toInt8.toInt32).toInt8.toInt32))))).set 7 (Sum.inr (0, [Value.ref 8, Value.ref 78, Value.ref 9, Value.ref 10, Value.ref 13, Value.ref 16, Value.ref 19, Value.ref 93, Value.ref 108, Value.ref 113, Value.ref 29, Value.int 3]))).set 29 (Sum.inl (1, 4096, xup (xup (xup (xup (fun _ => Value.int 0) (0 : Int32).toInt.toNat (Value.int (((((xs 1).toUInt32 >>> ((24 : Int32).toUInt32 &&& Int32.toUInt32 31)).toInt32).toInt8.toInt32).toInt8.toInt32))) (1 : Int32).toInt.toNat (Value.int (((((xs 1).toUInt32 >>> ((16 : Int32).toUInt32 &&& Int32.toUInt32 31)).toInt32).toInt8.toInt32).toInt8.toInt32))) (2 : Int32).toInt.toNat (Value.int (((((xs 1).toUInt32 >>> ((8 : Int32).toUInt32 &&& Int32.toUInt32 31)).toInt32).toInt8.toInt32).toInt8.toInt32))) (3 : Int32).toInt.toNat (Value.int (((((xs 1).toUInt32 >>> ((0 : Int32).toUInt32 &&& Int32.toUInt32 31)).toInt32).toInt8.toInt32).toInt8.toInt32))))).set 7 (Sum.inr (0, [Value.ref 8, Value.ref 78, Value.ref 9, Value.ref 10, Value.ref 13, Value.ref 16, Value.ref 19, Value.ref 93, Value.ref 108, Value.ref 113, Value.ref 29, Value.int 4]))).set 29 (Sum.inl (1, 4096, xup (xup (xup (xup (xup (fun _ => Value.int 0) (0 : Int32).toInt.toNat (Value.int (((((xs 1).toUInt32 >>> ((24 : Int32).toUInt32 &&& Int32.toUInt32 31)).toInt32).toInt8.toInt32).toInt8.toInt32))) (1 : Int32).toInt.toNat (Value.int (((((xs 1).toUInt32 >>> ((16 : Int32).toUInt32 &&& Int32.toUInt32 31)).toInt32).toInt8.toInt32).toInt8.toInt32))) (2 : Int32).toInt.toNat (Value.int (((((xs 1).toUInt32 >>> ((8 : Int32).toUInt32 &&& Int32.toUInt32 31)).toInt32).toInt8.toInt32).toInt8.toInt32))) (3 : Int32).toInt.toNat (Value.int (((((xs 1).toUInt32 >>> ((0 : Int32).toUInt32 &&& Int32.toUInt32 31)).toInt32).toInt8.toInt32).toInt8.toInt32))) (4 : Int32).toInt.toNat (Value.int (((((xs 2).toUInt32 >>> ((24 : Int32).toUInt32 &&& Int32.toUInt32 31)).toInt32).toInt8.toInt32).toInt8.toInt32))))).set 7 (Sum.inr (0, [Value.ref 8, Value.ref 78, Value.ref 9, Value.ref 10, Value.ref 13, Value.ref 16, Value.ref 19, Value.ref 93, Value.ref 108, Value.ref 113, Value.ref 29, Value.int 5]))).set 29 (Sum.inl (1, 4096, xup (xup (xup (xup (xup (xup (fun _ => Value.int 0) (0 : Int32).toInt.toNat (Value.int (((((xs 1).toUInt32 >>> ((24 : Int32).toUInt32 &&& Int32.toUInt32 31)).toInt32).toInt8.toInt32).toInt8.toInt32))) (1 : Int32).toInt.toNat (Value.int (((((xs 1).toUInt32 >>> ((16 : Int32).toUInt32 &&& Int32.toUInt32 31)).toInt32).toInt8.toInt32).toInt8.toInt32))) (2 : Int32).toInt.toNat (Value.int (((((xs 1).toUInt32 >>> ((8 : Int32).toUInt32 &&& Int32.toUInt32 31)).toInt32).toInt8.toInt32).toInt8.toInt32))) (3 : Int32).toInt.toNat (Value.int (((((xs 1).toUInt32 >>> ((0 : Int32).toUInt32 &&& Int32.toUInt32 31)).toInt32).toInt8.toInt32).toInt8.toInt32))) (4 : Int32).toInt.toNat (Value.int (((((xs 2).toUInt32 >>> ((24 : Int32).toUInt32 &&& Int32.toUInt32 31)).toInt32).toInt8.toInt32).toInt8.toInt32))) (5 : Int32).toInt.toNat (Value.int (((((xs 2).toUInt32 >>> ((16 : Int32).toUInt32 &&& Int32.toUInt32 31)).toInt32).toInt8.toInt32).toInt8.toInt32))))).set 7 (Sum.inr (0, [Value.ref 8, Value.ref 78, Value.ref 9, Value.ref 10, Value.ref 13, Value.ref 16, Value.ref 19, Value.ref 93, Value.ref 108, Value.ref 113, Value.ref 29, Value.int 6]))).set 29 (Sum.inl (1, 4096, xup (xup (xup (xup (xup (xup (xup (fun _ => Value.int 0) (0 : Int32).toInt.toNat (Value.int (((((xs 1).toUInt32 >>> ((24 : Int32).toUInt32 &&& Int32.toUInt32 31)).toInt32).toInt8.toInt32).toInt8.toInt32))) (1 : Int32).toInt.toNat (Value.int (((((xs 1).toUInt32 >>> ((16 : Int32).toUInt32 &&& Int32.toUInt32 31)).toInt32).toInt8.toInt32).toInt8.toInt32))) (2 : Int32).toInt.toNat (Value.int (((((xs 1).toUInt32 >>> ((8 : Int32).toUInt32 &&& Int32.toUInt32 31)).toInt32).toInt8.toInt32).toInt8.toInt32))) (3 : Int32).toInt.toNat (Value.int (((((xs 1).toUInt32 >>> ((0 : Int32).toUInt32 &&& Int32.toUInt32 31)).toInt32).toInt8.toInt32).toInt8.toInt32))) (4 : Int32).toInt.toNat (Value.int (((((xs 2).toUInt32 >>> ((24 : Int32).toUInt32 &&& Int32.toUInt32 31)).toInt32).toInt8.toInt32).toInt8.toInt32))) (5 : Int32).toInt.toNat (Value.int (((((xs 2).toUInt32 >>> ((16 : Int32).toUInt32 &&& Int32.toUInt32 31)).toInt32).toInt8.toInt32).toInt8.toInt32))) (6 : Int32).toInt.toNat (Value.int (((((xs 2).toUInt32 >>> ((8 : Int32).toUInt32 &&& Int32.toUInt32 31)).toInt32).toInt8.toInt32).toInt8.toInt32))))).set 7 (Sum.inr (0, [Value.ref 8, Value.ref 78, Value.ref 9, Value.ref 10, Value.ref 13, Value.ref 16, Value.ref 19, Value.ref 93, Value.ref 108, Value.ref 113, Value.ref 29, Value.int 7]))).set 29 (Sum.inl (1, 4096, xup (xup (xup (xup (xup (xup (xup (xup (fun _ => Value.int 0) (0 : Int32).toInt.toNat (Value.int (((((xs 1).toUInt32 >>> ((24 : Int32).toUInt32 &&& Int32.toUInt32 31)).toInt32).toInt8.toInt32).toInt8.toInt32))) (1 : Int32).toInt.toNat (Value.int (((((xs 1).toUInt32 >>> ((16 : Int32).toUInt32 &&& Int32.toUInt32 31)).toInt32).toInt8.toInt32).toInt8.toInt32))) (2 : Int32).toInt.toNat (Value.int (((((xs 1).toUInt32 >>> ((8 : Int32).toUInt32 &&& Int32.toUInt32 31)).toInt32).toInt8.toInt32).toInt8.toInt32))) (3 : Int32).toInt.toNat (Value.int (((((xs 1).toUInt32 >>> ((0 : Int32).toUInt32 &&& Int32.toUInt32 31)).toInt32).toInt8.toInt32).toInt8.toInt32))) (4 : Int32).toInt.toNat (Value.int (((((xs 2).toUInt32 >>> ((24 : Int32).toUInt32 &&& Int32.toUInt32 31)).toInt32).toInt8.toInt32).toInt8.toInt32))) (5 : Int32).toInt.toNat (Value.int (((((xs 2).toUInt32 >>> ((16 : Int32).toUInt32 &&& Int32.toUInt32 31)).toInt32).toInt8.toInt32).toInt8.toInt32))) (6 : Int32).toInt.toNat (Value.int (((((xs 2).toUInt32 >>> ((8 : Int32).toUInt32 &&& Int32.toUInt32 31)).toInt32).toInt8.toInt32).toInt8.toInt32))) (7 : Int32).toInt.toNat (Value.int (((((xs 2).toUInt32 >>> ((0 : Int32).toUInt32 &&& Int32.toUInt32 31)).toInt32).toInt8.toInt32).toInt8.toInt32))))).set 7 (Sum.inr (0, [Value.ref 8, Value.ref 78, Value.ref 9, Value.ref 10, Value.ref 13, Value.ref 16, Value.ref 19, Value.ref 93, Value.ref 108, Value.ref 113, Value.ref 29, Value.int 8]))).set 29 (Sum.inl (1, 4096, xup (xup (xup (xup (xup (xup (xup (xup (xup (fun _ => Value.int 0) (0 : Int32).toInt.toNat (Value.int (((((xs 1).toUInt32 >>> ((24 : Int32).toUInt32 &&& Int32.toUInt32 31)).toInt32).toInt8.toInt32).toInt8.toInt32))) (1 : Int32).toInt.toNat (Value.int (((((xs 1).toUInt32 >>> ((16 : Int32).toUInt32 &&& Int32.toUInt32 31)).toInt32).toInt8.toInt32).toInt8.toInt32))) (2 : Int32).toInt.toNat (Value.int (((((xs 1).toUInt32 >>> ((8 : Int32).toUInt32 &&& Int32.toUInt32 31)).toInt32).toInt8.toInt32).toInt8.toInt32))) (3 : Int32).toInt.toNat (Value.int (((((xs 1).toUInt32 >>> ((0 : Int32).toUInt32 &&& Int32.toUInt32 31)).toInt32).toInt8.toInt32).toInt8.toInt32))) (4 : Int32).toInt.toNat (Value.int (((((xs 2).toUInt32 >>> ((24 : Int32).toUInt32 &&& Int32.toUInt32 31)).toInt32).toInt8.toInt32).toInt8.toInt32))) (5 : Int32).toInt.toNat (Value.int (((((xs 2).toUInt32 >>> ((16 : Int32).toUInt32 &&& Int32.toUInt32 31)).toInt32).toInt8.toInt32).toInt8.toInt32))) (6 : Int32).toInt.toNat (Value.int (((((xs 2).toUInt32 >>> ((8 : Int32).toUInt32 &&& Int32.toUInt32 31)).toInt32).toInt8.toInt32).toInt8.toInt32))) (7 : Int32).toInt.toNat (Value.int (((((xs 2).toUInt32 >>> ((0 : Int32).toUInt32 &&& Int32.toUInt32 31)).toInt32).toInt8.toInt32).toInt8.toInt32))) (8 : Int32).toInt.toNat (Value.int (((((xs 3).toUInt32 >>> ((24 : Int32).toUInt32 &&& Int32.toUInt32 31)).toInt32).toInt8.toInt32).toInt8.toInt32))))).set 7 (Sum.inr (0, [Value.ref 8, Value.ref 78, Value.ref 9, Value.ref 10, Value.ref 13, Value.ref 16, Value.ref 19, Value.ref 93, Value.ref 108, Value.ref 113, Value.ref 29, Value.int 9]))).set 29 (Sum.inl (1, 4096, xup (xup (xup (xup (xup (xup (xup (xup (xup (xup (fun _ => Value.int 0) (0 : Int32).toInt.toNat (Value.int (((((xs 1).toUInt32 >>> ((24 : Int32).toUInt32 &&& Int32.toUInt32 31)).toInt32).toInt8.toInt32).toInt8.toInt32))) (1 : Int32).toInt.toNat (Value.int (((((xs 1).toUInt32 >>> ((16 : Int32).toUInt32 &&& Int32.toUInt32 31)).toInt32).toInt8.toInt32).toInt8.toInt32))) (2 : Int32).toInt.toNat (Value.int (((((xs 1).toUInt32 >>> ((8 : Int32).toUInt32 &&& Int32.toUInt32 31)).toInt32).toInt8.toInt32).toInt8.toInt32))) (3 : Int32).toInt.toNat (Value.int (((((xs 1).toUInt32 >>> ((0 : Int32).toUInt32 &&& Int32.toUInt32 31)).toInt32).toInt8.toInt32).toInt8.toInt32))) (4 : Int32).toInt.toNat (Value.int (((((xs 2).toUInt32 >>> ((24 : Int32).toUInt32 &&& Int32.toUInt32 31)).toInt32).toInt8.toInt32).toInt8.toInt32))) (5 : Int32).toInt.toNat (Value.int (((((xs 2).toUInt32 >>> ((16 : Int32).toUInt32 &&& Int32.toUInt32 31)).toInt32).toInt8.toInt32).toInt8.toInt32))) (6 : Int32).toInt.toNat (Value.int (((((xs 2).toUInt32 >>> ((8 : Int32).toUInt32 &&& Int32.toUInt32 31)).toInt32).toInt8.toInt32).toInt8.toInt32))) (7 : Int32).toInt.toNat (Value.int (((((xs 2).toUInt32 >>> ((0 : Int32).toUInt32 &&& Int32.toUInt32 31)).toInt32).toInt8.toInt32).toInt8.toInt32))) (8 : Int32).toInt.toNat (Value.int (((((xs 3).toUInt32 >>> ((24 : Int32).toUInt32 &&& Int32.toUInt32 31)).toInt32).toInt8.toInt32).toInt8.toInt32))) (9 : Int32).toInt.toNat (Value.int (((((xs 3).toUInt32 >>> ((16 : Int32).toUInt32 &&& Int32.toUInt32 31)).toInt32).toInt8.toInt32).toInt8.toInt32))))).set 7 (Sum.inr (0, [Value.ref 8, Value.ref 78, Value.ref 9, Value.ref 10, Value.ref 13, Value.ref 16, Value.ref 19, Value.ref 93, Value.ref 108, Value.ref 113, Value.ref 29, Value.int 10]))).set 29 (Sum.inl (1, 4096, xup (xup (xup (xup (xup (xup (xup (xup (xup (xup (xup (fun _ => Value.int 0) (0 : Int32).toInt.toNat (Value.int (((((xs 1).toUInt32 >>> ((24 : Int32).toUInt32 &&& Int32.toUInt32 31)).toInt32).toInt8.toInt32).toInt8.toInt32))) (1 : Int32).toInt.toNat (Value.int (((((xs 1).toUInt32 >>> ((16 : Int32).toUInt32 &&& Int32.toUInt32 31)).toInt32).toInt8.toInt32).toInt8.toInt32))) (2 : Int32).toInt.toNat (Value.int (((((xs 1).toUInt32 >>> ((8 : Int32).toUInt32 &&& Int32.toUInt32 31)).toInt32).toInt8.toInt32).toInt8.toInt32))) (3 : Int32).toInt.toNat (Value.int (((((xs 1).toUInt32 >>> ((0 : Int32).toUInt32 &&& Int32.toUInt32 31)).toInt32).toInt8.toInt32).toInt8.toInt32))) (4 : Int32).toInt.toNat (Value.int (((((xs 2).toUInt32 >>> ((24 : Int32).toUInt32 &&& Int32.toUInt32 31)).toInt32).toInt8.toInt32).toInt8.toInt32))) (5 : Int32).toInt.toNat (Value.int (((((xs 2).toUInt32 >>> ((16 : Int32).toUInt32 &&& Int32.toUInt32 31)).toInt32).toInt8.toInt32).toInt8.toInt32))) (6 : Int32).toInt.toNat (Value.int (((((xs 2).toUInt32 >>> ((8 : Int32).toUInt32 &&& Int32.toUInt32 31)).toInt32).toInt8.toInt32).toInt8.toInt32))) (7 : Int32).toInt.toNat (Value.int (((((xs 2).toUInt32 >>> ((0 : Int32).toUInt32 &&& Int32.toUInt32 31)).toInt32).toInt8.toInt32).toInt8.toInt32))) (8 : Int32).toInt.toNat (Value.int (((((xs 3).toUInt32 >>> ((24 : Int32).toUInt32 &&& Int32.toUInt32 31)).toInt32).toInt8.toInt32).toInt8.toInt32))) (9 : Int32).toInt.toNat (Value.int (((((xs 3).toUInt32 >>> ((16 : Int32).toUInt32 &&& Int32.toUInt32 31)).toInt32).toInt8.toInt32).toInt8.toInt32))) (10 : Int32).toInt.toNat (Value.int (((((xs 3).toUInt32 >>> ((8 : Int32).toUInt32 &&& Int32.toUInt32 31)).toInt32).toInt8.toInt32).toInt8.toInt32))))).set 7 (Sum.inr (0, [Value.ref 8, Value.ref 78, Value.ref 9, Value.ref 10, Value.ref 13, Value.ref 16, Value.ref 19, Value.ref 93, Value.ref 108, Value.ref 113, Value.ref 29, Value.int 11]))).set 29 (Sum.inl (1, 4096, xup (xup (xup (xup (xup (xup (xup (xup (xup (xup (xup (xup (fun _ => Value.int 0) (0 : Int32).toInt.toNat (Value.int (((((xs 1).toUInt32 >>> ((24 : Int32).toUInt32 &&& Int32.toUInt32 31)).toInt32).toInt8.toInt32).toInt8.toInt32))) (1 : Int32).toInt.toNat (Value.int (((((xs 1).toUInt32 >>> ((16 : Int32).toUInt32 &&& Int32.toUInt32 31)).toInt32).toInt8.toInt32).toInt8.toInt32))) (2 : Int32).toInt.toNat (Value.int (((((xs 1).toUInt32 >>> ((8 : Int32).toUInt32 &&& Int32.toUInt32 31)).toInt32).toInt8.toInt32).toInt8.toInt32))) (3 : Int32).toInt.toNat (Value.int (((((xs 1).toUInt32 >>> ((0 : Int32).toUInt32 &&& Int32.toUInt32 31)).toInt32).toInt8.toInt32).toInt8.toInt32))) (4 : Int32).toInt.toNat (Value.int (((((xs 2).toUInt32 >>> ((24 : Int32).toUInt32 &&& Int32.toUInt32 31)).toInt32).toInt8.toInt32).toInt8.toInt32))) (5 : Int32).toInt.toNat (Value.int (((((xs 2).toUInt32 >>> ((16 : Int32).toUInt32 &&& Int32.toUInt32 31)).toInt32).toInt8.toInt32).toInt8.toInt32))) (6 : Int32).toInt.toNat (Value.int (((((xs 2).toUInt32 >>> ((8 : Int32).toUInt32 &&& Int32.toUInt32 31)).toInt32).toInt8.toInt32).toInt8.toInt32))) (7 : Int32).toInt.toNat (Value.int (((((xs 2).toUInt32 >>> ((0 : Int32).toUInt32 &&& Int32.toUInt32 31)).toInt32).toInt8.toInt32).toInt8.toInt32))) (8 : Int32).toInt.toNat (Value.int (((((xs 3).toUInt32 >>> ((24 : Int32).toUInt32 &&& Int32.toUInt32 31)).toInt32).toInt8.toInt32).toInt8.toInt32))) (9 : Int32).toInt.toNat (Value.int (((((xs 3).toUInt32 >>> ((16 : Int32).toUInt32 &&& Int32.toUInt32 31)).toInt32).toInt8.toInt32).toInt8.toInt32))) (10 : Int32).toInt.toNat (Value.int (((((xs 3).toUInt32 >>> ((8 : Int32).toUInt32 &&& Int32.toUInt32 31)).toInt32).toInt8.toInt32).toInt8.toInt32))) (11 : Int32).toInt.toNat (Value.int (((((xs 3).toUInt32 >>> ((0 : Int32).toUInt32 &&& Int32.toUInt32 31)).toInt32).toInt8.toInt32).toInt8.toInt32))))).set 7 (Sum.inr (0, [Value.ref 8, Value.ref 78, Value.ref 9, Value.ref 10, Value.ref 13, Value.ref 16, Value.ref 19, Value.ref 93, Value.ref 108, Value.ref 113, Value.ref 29, Value.int 12]))).set 29 (Sum.inl (1, 4096, xup (xup (xup (xup (xup (xup (xup (xup (xup (xup (xup (xup (xup (fun _ => Value.int 0) (0 : Int32).toInt.toNat (Value.int (((((xs 1).toUInt32 >>> ((24 : Int32).toUInt32 &&& Int32.toUInt32 31)).toInt32).toInt8.toInt32).toInt8.toInt32))) (1 : Int32).toInt.toNat (Value.int (((((xs 1).toUInt32 >>> ((16 : Int32).toUInt32 &&& Int32.toUInt32 31)).toInt32).toInt8.toInt32).toInt8.toInt32))) (2 : Int32).toInt.toNat (Value.int (((((xs 1).toUInt32 >>> ((8 : Int32).toUInt32 &&& Int32.toUInt32 31)).toInt32).toInt8.toInt32).toInt8.toInt32))) (3 : Int32).toInt.toNat (Value.int (((((xs 1).toUInt32 >>> ((0 : Int32).toUInt32 &&& Int32.toUInt32 31)).toInt32).toInt8.toInt32).toInt8.toInt32))) (4 : Int32).toInt.toNat (Value.int (((((xs 2).toUInt32 >>> ((24 : Int32).toUInt32 &&& Int32.toUInt32 31)).toInt32).toInt8.toInt32).toInt8.toInt32))) (5 : Int32).toInt.toNat (Value.int (((((xs 2).toUInt32 >>> ((16 : Int32).toUInt32 &&& Int32.toUInt32 31)).toInt32).toInt8.toInt32).toInt8.toInt32))) (6 : Int32).toInt.toNat (Value.int (((((xs 2).toUInt32 >>> ((8 : Int32).toUInt32 &&& Int32.toUInt32 31)).toInt32).toInt8.toInt32).toInt8.toInt32))) (7 : Int32).toInt.toNat (Value.int (((((xs 2).toUInt32 >>> ((0 : Int32).toUInt32 &&& Int32.toUInt32 31)).toInt32).toInt8.toInt32).toInt8.toInt32))) (8 : Int32).toInt.toNat (Value.int (((((xs 3).toUInt32 >>> ((24 : Int32).toUInt32 &&& Int32.toUInt32 31)).toInt32).toInt8.toInt32).toInt8.toInt32))) (9 : Int32).toInt.toNat (Value.int (((((xs 3).toUInt32 >>> ((16 : Int32).toUInt32 &&& Int32.toUInt32 31)).toInt32).toInt8.toInt32).toInt8.toInt32))) (10 : Int32).toInt.toNat (Value.int (((((xs 3).toUInt32 >>> ((8 : Int32).toUInt32 &&& Int32.toUInt32 31)).toInt32).toInt8.toInt32).toInt8.toInt32))) (11 : Int32).toInt.toNat (Value.int (((((xs 3).toUInt32 >>> ((0 : Int32).toUInt32 &&& Int32.toUInt32 31)).toInt32).toInt8.toInt32).toInt8.toInt32))) (12 : Int32).toInt.toNat (Value.int (((((xs 4).toUInt32 >>> ((24 : Int32).toUInt32 &&& Int32.toUInt32 31)).toInt32).toInt8.toInt32).toInt8.toInt32))))).set 7 (Sum.inr (0, [Value.ref 8, Value.ref 78, Value.ref 9, Value.ref 10, Value.ref 13, Value.ref 16, Value.ref 19, Value.ref 93, Value.ref 108, Value.ref 113, Value.ref 29, Value.int 13]))).set 29 (Sum.inl (1, 4096, xup (xup (xup (xup (xup (xup (xup (xup (xup (xup (xup (xup (xup (xup (fun _ => Value.int 0) (0 : Int32).toInt.toNat (Value.int (((((xs 1).toUInt32 >>> ((24 : Int32).toUInt32 &&& Int32.toUInt32 31)).toInt32).toInt8.toInt32).toInt8.toInt32))) (1 : Int32).toInt.toNat (Value.int (((((xs 1).toUInt32 >>> ((16 : Int32).toUInt32 &&& Int32.toUInt32 31)).toInt32).toInt8.toInt32).toInt8.toInt32))) (2 : Int32).toInt.toNat (Value.int (((((xs 1).toUInt32 >>> ((8 : Int32).toUInt32 &&& Int32.toUInt32 31)).toInt32).toInt8.toInt32).toInt8.toInt32))) (3 : Int32).toInt.toNat (Value.int (((((xs 1).toUInt32 >>> ((0 : Int32).toUInt32 &&& Int32.toUInt32 31)).toInt32).toInt8.toInt32).toInt8.toInt32))) (4 : Int32).toInt.toNat (Value.int (((((xs 2).toUInt32 >>> ((24 : Int32).toUInt32 &&& Int32.toUInt32 31)).toInt32).toInt8.toInt32).toInt8.toInt32))) (5 : Int32).toInt.toNat (Value.int (((((xs 2).toUInt32 >>> ((16 : Int32).toUInt32 &&& Int32.toUInt32 31)).toInt32).toInt8.toInt32).toInt8.toInt32))) (6 : Int32).toInt.toNat (Value.int (((((xs 2).toUInt32 >>> ((8 : Int32).toUInt32 &&& Int32.toUInt32 31)).toInt32).toInt8.toInt32).toInt8.toInt32))) (7 : Int32).toInt.toNat (Value.int (((((xs 2).toUInt32 >>> ((0 : Int32).toUInt32 &&& Int32.toUInt32 31)).toInt32).toInt8.toInt32).toInt8.toInt32))) (8 : Int32).toInt.toNat (Value.int (((((xs 3).toUInt32 >>> ((24 : Int32).toUInt32 &&& Int32.toUInt32 31)).toInt32).toInt8.toInt32).toInt8.toInt32))) (9 : Int32).toInt.toNat (Value.int (((((xs 3).toUInt32 >>> ((16 : Int32).toUInt32 &&& Int32.toUInt32 31)).toInt32).toInt8.toInt32).toInt8.toInt32))) (10 : Int32).toInt.toNat (Value.int (((((xs 3).toUInt32 >>> ((8 : Int32).toUInt32 &&& Int32.toUInt32 31)).toInt32).toInt8.toInt32).toInt8.toInt32))) (11 : Int32).toInt.toNat (Value.int (((((xs 3).toUInt32 >>> ((0 : Int32).toUInt32 &&& Int32.toUInt32 31)).toInt32).toInt8.toInt32).toInt8.toInt32))) (12 : Int32).toInt.toNat (Value.int (((((xs 4).toUInt32 >>> ((24 : Int32).toUInt32 &&& Int32.toUInt32 31)).toInt32).toInt8.toInt32).toInt8.toInt32))) (13 : Int32).toInt.toNat (Value.int (((((xs 4).toUInt32 >>> ((16 : Int32).toUInt32 &&& Int32.toUInt32 31)).toInt32).toInt8.toInt32).toInt8.toInt32))))).set 7 (Sum.inr (0, [Value.ref 8, Value.ref 78, Value.ref 9, Value.ref 10, Value.ref 13, Value.ref 16, Value.ref 19, Value.ref 93, Value.ref 108, Value.ref 113, Value.ref 29, Value.int 14]))).set 29 (Sum.inl (1, 4096, xup (xup (xup (xup (xup (xup (xup (xup (xup (xup (xup (xup (xup (xup (xup (fun _ => Value.int 0) (0 : Int32).toInt.toNat (Value.int (((((xs 1).toUInt32 >>> ((24 : Int32).toUInt32 &&& Int32.toUInt32 31)).toInt32).toInt8.toInt32).toInt8.toInt32))) (1 : Int32).toInt.toNat (Value.int (((((xs 1).toUInt32 >>> ((16 : Int32).toUInt32 &&& Int32.toUInt32 31)).toInt32).toInt8.toInt32).toInt8.toInt32))) (2 : Int32).toInt.toNat (Value.int (((((xs 1).toUInt32 >>> ((8 : Int32).toUInt32 &&& Int32.toUInt32 31)).toInt32).toInt8.toInt32).toInt8.toInt32))) (3 : Int32).toInt.toNat (Value.int (((((xs 1).toUInt32 >>> ((0 : Int32).toUInt32 &&& Int32.toUInt32 31)).toInt32).toInt8.toInt32).toInt8.toInt32))) (4 : Int32).toInt.toNat (Value.int (((((xs 2).toUInt32 >>> ((24 : Int32).toUInt32 &&& Int32.toUInt32 31)).toInt32).toInt8.toInt32).toInt8.toInt32))) (5 : Int32).toInt.toNat (Value.int (((((xs 2).toUInt32 >>> ((16 : Int32).toUInt32 &&& Int32.toUInt32 31)).toInt32).toInt8.toInt32).toInt8.toInt32))) (6 : Int32).toInt.toNat (Value.int (((((xs 2).toUInt32 >>> ((8 : Int32).toUInt32 &&& Int32.toUInt32 31)).toInt32).toInt8.toInt32).toInt8.toInt32))) (7 : Int32).toInt.toNat (Value.int (((((xs 2).toUInt32 >>> ((0 : Int32).toUInt32 &&& Int32.toUInt32 31)).toInt32).toInt8.toInt32).toInt8.toInt32))) (8 : Int32).toInt.toNat (Value.int (((((xs 3).toUInt32 >>> ((24 : Int32).toUInt32 &&& Int32.toUInt32 31)).toInt32).toInt8.toInt32).toInt8.toInt32))) (9 : Int32).toInt.toNat (Value.int (((((xs 3).toUInt32 >>> ((16 : Int32).toUInt32 &&& Int32.toUInt32 31)).toInt32).toInt8.toInt32).toInt8.toInt32))) (10 : Int32).toInt.toNat (Value.int (((((xs 3).toUInt32 >>> ((8 : Int32).toUInt32 &&& Int32.toUInt32 31)).toInt32).toInt8.toInt32).toInt8.toInt32))) (11 : Int32).toInt.toNat (Value.int (((((xs 3).toUInt32 >>> ((0 : Int32).toUInt32 &&& Int32.toUInt32 31)).toInt32).toInt8.toInt32).toInt8.toInt32))) (12 : Int32).toInt.toNat (Value.int (((((xs 4).toUInt32 >>> ((24 : Int32).toUInt32 &&& Int32.toUInt32 31)).toInt32).toInt8.toInt32).toInt8.toInt32))) (13 : Int32).toInt.toNat (Value.int (((((xs 4).toUInt32 >>> ((16 : Int32).toUInt32 &&& Int32.toUInt32 31)).toInt32).toInt8.toInt32).toInt8.toInt32))) (14 : Int32).toInt.toNat (Value.int (((((xs 4).toUInt32 >>> ((8 : Int32).toUInt32 &&& Int32.toUInt32 31)).toInt32).toInt8.toInt32).toInt8.toInt32))))).set 7 (Sum.inr (0, [Value.ref 8, Value.ref 78, Value.ref 9, Value.ref 10, Value.ref 13, Value.ref 16, Value.ref 19, Value.ref 93, Value.ref 108, Value.ref 113, Value.ref 29, Value.int 15]))).set 29 (Sum.inl (1, 4096, xup (xup (xup (xup (xup (xup (xup (xup (xup (xup (xup (xup (xup (xup (xup (xup (fun _ => Value.int 0) (0 : Int32).toInt.toNat (Value.int (((((xs 1).toUInt32 >>> ((24 : Int32).toUInt32 &&& Int32.toUInt32 31)).toInt32).toInt8.toInt32).toInt8.toInt32))) (1 : Int32).toInt.toNat (Value.int (((((xs 1).toUInt32 >>> ((16 : Int32).toUInt32 &&& Int32.toUInt32 31)).toInt32).toInt8.toInt32).toInt8.toInt32))) (2 : Int32).toInt.toNat (Value.int (((((xs 1).toUInt32 >>> ((8 : Int32).toUInt32 &&& Int32.toUInt32 31)).toInt32).toInt8.toInt32).toInt8.toInt32))) (3 : Int32).toInt.toNat (Value.int (((((xs 1).toUInt32 >>> ((0 : Int32).toUInt32 &&& Int32.toUInt32 31)).toInt32).toInt8.toInt32).toInt8.toInt32))) (4 : Int32).toInt.toNat (Value.int (((((xs 2).toUInt32 >>> ((24 : Int32).toUInt32 &&& Int32.toUInt32 31)).toInt32).toInt8.toInt32).toInt8.toInt32))) (5 : Int32).toInt.toNat (Value.int (((((xs 2).toUInt32 >>> ((16 : Int32).toUInt32 &&& Int32.toUInt32 31)).toInt32).toInt8.toInt32).toInt8.toInt32))) (6 : Int32).toInt.toNat (Value.int (((((xs 2).toUInt32 >>> ((8 : Int32).toUInt32 &&& Int32.toUInt32 31)).toInt32).toInt8.toInt32).toInt8.toInt32))) (7 : Int32).toInt.toNat (Value.int (((((xs 2).toUInt32 >>> ((0 : Int32).toUInt32 &&& Int32.toUInt32 31)).toInt32).toInt8.toInt32).toInt8.toInt32))) (8 : Int32).toInt.toNat (Value.int (((((xs 3).toUInt32 >>> ((24 : Int32).toUInt32 &&& Int32.toUInt32 31)).toInt32).toInt8.toInt32).toInt8.toInt32))) (9 : Int32).toInt.toNat (Value.int (((((xs 3).toUInt32 >>> ((16 : Int32).toUInt32 &&& Int32.toUInt32 31)).toInt32).toInt8.toInt32).toInt8.toInt32))) (10 : Int32).toInt.toNat (Value.int (((((xs 3).toUInt32 >>> ((8 : Int32).toUInt32 &&& Int32.toUInt32 31)).toInt32).toInt8.toInt32).toInt8.toInt32))) (11 : Int32).toInt.toNat (Value.int (((((xs 3).toUInt32 >>> ((0 : Int32).toUInt32 &&& Int32.toUInt32 31)).toInt32).toInt8.toInt32).toInt8.toInt32))) (12 : Int32).toInt.toNat (Value.int (((((xs 4).toUInt32 >>> ((24 : Int32).toUInt32 &&& Int32.toUInt32 31)).toInt32).toInt8.toInt32).toInt8.toInt32))) (13 : Int32).toInt.toNat (Value.int (((((xs 4).toUInt32 >>> ((16 : Int32).toUInt32 &&& Int32.toUInt32 31)).toInt32).toInt8.toInt32).toInt8.toInt32))) (14 : Int32).toInt.toNat (Value.int (((((xs 4).toUInt32 >>> ((8 : Int32).toUInt32 &&& Int32.toUInt32 31)).toInt32).toInt8.toInt32).toInt8.toInt32))) (15 : Int32).toInt.toNat (Value.int (((((xs 4).toUInt32 >>> ((0 : Int32).toUInt32 &&& Int32.toUInt32 31)).toInt32).toInt8.toInt32).toInt8.toInt32))))).set 7 (Sum.inr (0, [Value.ref 8, Value.ref 78, Value.ref 9, Value.ref 10, Value.ref 13, Value.ref 16, Value.ref 19, Value.ref 93, Value.ref 108, Value.ref 113, Value.ref 29, Value.int 16]))).set 29 (Sum.inl (1, 4096, xup (xup (xup (xup (xup (xup (xup (xup (xup (xup (xup (xup (xup (xup (xup (xup (xup (fun _ => Value.int 0) (0 : Int32).toInt.toNat (Value.int (((((xs 1).toUInt32 >>> ((24 : Int32).toUInt32 &&& Int32.toUInt32 31)).toInt32).toInt8.toInt32).toInt8.toInt32))) (1 : Int32).toInt.toNat (Value.int (((((xs 1).toUInt32 >>> ((16 : Int32).toUInt32 &&& Int32.toUInt32 31)).toInt32).toInt8.toInt32).toInt8.toInt32))) (2 : Int32).toInt.toNat (Value.int (((((xs 1).toUInt32 >>> ((8 : Int32).toUInt32 &&& Int32.toUInt32 31)).toInt32).toInt8.toInt32).toInt8.toInt32))) (3 : Int32).toInt.toNat (Value.int (((((xs 1).toUInt32 >>> ((0 : Int32).toUInt32 &&& Int32.toUInt32 31)).toInt32).toInt8.toInt32).toInt8.toInt32))) (4 : Int32).toInt.toNat (Value.int (((((xs 2).toUInt32 >>> ((24 : Int32).toUInt32 &&& Int32.toUInt32 31)).toInt32).toInt8.toInt32).toInt8.toInt32))) (5 : Int32).toInt.toNat (Value.int (((((xs 2).toUInt32 >>> ((16 : Int32).toUInt32 &&& Int32.toUInt32 31)).toInt32).toInt8.toInt32).toInt8.toInt32))) (6 : Int32).toInt.toNat (Value.int (((((xs 2).toUInt32 >>> ((8 : Int32).toUInt32 &&& Int32.toUInt32 31)).toInt32).toInt8.toInt32).toInt8.toInt32))) (7 : Int32).toInt.toNat (Value.int (((((xs 2).toUInt32 >>> ((0 : Int32).toUInt32 &&& Int32.toUInt32 31)).toInt32).toInt8.toInt32).toInt8.toInt32))) (8 : Int32).toInt.toNat (Value.int (((((xs 3).toUInt32 >>> ((24 : Int32).toUInt32 &&& Int32.toUInt32 31)).toInt32).toInt8.toInt32).toInt8.toInt32))) (9 : Int32).toInt.toNat (Value.int (((((xs 3).toUInt32 >>> ((16 : Int32).toUInt32 &&& Int32.toUInt32 31)).toInt32).toInt8.toInt32).toInt8.toInt32))) (10 : Int32).toInt.toNat (Value.int (((((xs 3).toUInt32 >>> ((8 : Int32).toUInt32 &&& Int32.toUInt32 31)).toInt32).toInt8.toInt32).toInt8.toInt32))) (11 : Int32).toInt.toNat (Value.int (((((xs 3).toUInt32 >>> ((0 : Int32).toUInt32 &&& Int32.toUInt32 31)).toInt32).toInt8.toInt32).toInt8.toInt32))) (12 : Int32).toInt.toNat (Value.int (((((xs 4).toUInt32 >>> ((24 : Int32).toUInt32 &&& Int32.toUInt32 31)).toInt32).toInt8.toInt32).toInt8.toInt32))) (13 : Int32).toInt.toNat (Value.int (((((xs 4).toUInt32 >>> ((16 : Int32).toUInt32 &&& Int32.toUInt32 31)).toInt32).toInt8.toInt32).toInt8.toInt32))) (14 : Int32).toInt.toNat (Value.int (((((xs 4).toUInt32 >>> ((8 : Int32).toUInt32 &&& Int32.toUInt32 31)).toInt32).toInt8.toInt32).toInt8.toInt32))) (15 : Int32).toInt.toNat (Value.int (((((xs 4).toUInt32 >>> ((0 : Int32).toUInt32 &&& Int32.toUInt32 31)).toInt32).toInt8.toInt32).toInt8.toInt32))) (16 : Int32).toInt.toNat (Value.int (((((xs 5).toUInt32 >>> ((24 : Int32).toUInt32 &&& Int32.toUInt32 31)).toInt32).toInt8.toInt32).toInt8.toInt32))))).set 7 (Sum.inr (0, [Value.ref 8, Value.ref 78, Value.ref 9, Value.ref 10, Value.ref 13, Value.ref 16, Value.ref 19, Value.ref 93, Value.ref 108, Value.ref 113, Value.ref 29, Value.int 17]))).set 29 (Sum.inl (1, 4096, xup (xup (xup (xup (xup (xup (xup (xup (xup (xup (xup (xup (xup (xup (xup (xup (xup (xup (fun _ => Value.int 0) (0 : Int32).toInt.toNat (Value.int (((((xs 1).toUInt32 >>> ((24 : Int32).toUInt32 &&& Int32.toUInt32 31)).toInt32).toInt8.toInt32).toInt8.toInt32))) (1 : Int32).toInt.toNat (Value.int (((((xs 1).toUInt32 >>> ((16 : Int32).toUInt32 &&& Int32.toUInt32 31)).toInt32).toInt8.toInt32).toInt8.toInt32))) (2 : Int32).toInt.toNat (Value.int (((((xs 1).toUInt32 >>> ((8 : Int32).toUInt32 &&& Int32.toUInt32 31)).toInt32).toInt8.toInt32).toInt8.toInt32))) (3 : Int32).toInt.toNat (Value.int (((((xs 1).toUInt32 >>> ((0 : Int32).toUInt32 &&& Int32.toUInt32 31)).toInt32).toInt8.toInt32).toInt8.toInt32))) (4 : Int32).toInt.toNat (Value.int (((((xs 2).toUInt32 >>> ((24 : Int32).toUInt32 &&& Int32.toUInt32 31)).toInt32).toInt8.toInt32).toInt8.toInt32))) (5 : Int32).toInt.toNat (Value.int (((((xs 2).toUInt32 >>> ((16 : Int32).toUInt32 &&& Int32.toUInt32 31)).toInt32).toInt8.toInt32).toInt8.toInt32))) (6 : Int32).toInt.toNat (Value.int (((((xs 2).toUInt32 >>> ((8 : Int32).toUInt32 &&& Int32.toUInt32 31)).toInt32).toInt8.toInt32).toInt8.toInt32))) (7 : Int32).toInt.toNat (Value.int (((((xs 2).toUInt32 >>> ((0 : Int32).toUInt32 &&& Int32.toUInt32 31)).toInt32).toInt8.toInt32).toInt8.toInt32))) (8 : Int32).toInt.toNat (Value.int (((((xs 3).toUInt32 >>> ((24 : Int32).toUInt32 &&& Int32.toUInt32 31)).toInt32).toInt8.toInt32).toInt8.toInt32))) (9 : Int32).toInt.toNat (Value.int (((((xs 3).toUInt32 >>> ((16 : Int32).toUInt32 &&& Int32.toUInt32 31)).toInt32).toInt8.toInt32).toInt8.toInt32))) (10 : Int32).toInt.toNat (Value.int (((((xs 3).toUInt32 >>> ((8 : Int32).toUInt32 &&& Int32.toUInt32 31)).toInt32).toInt8.toInt32).toInt8.toInt32))) (11 : Int32).toInt.toNat (Value.int (((((xs 3).toUInt32 >>> ((0 : Int32).toUInt32 &&& Int32.toUInt32 31)).toInt32).toInt8.toInt32).toInt8.toInt32))) (12 : Int32).toInt.toNat (Value.int (((((xs 4).toUInt32 >>> ((24 : Int32).toUInt32 &&& Int32.toUInt32 31)).toInt32).toInt8.toInt32).toInt8.toInt32))) (13 : Int32).toInt.toNat (Value.int (((((xs 4).toUInt32 >>> ((16 : Int32).toUInt32 &&& Int32.toUInt32 31)).toInt32).toInt8.toInt32).toInt8.toInt32))) (14 : Int32).toInt.toNat (Value.int (((((xs 4).toUInt32 >>> ((8 : Int32).toUInt32 &&& Int32.toUInt32 31)).toInt32).toInt8.toInt32).toInt8.toInt32))) (15 : Int32).toInt.toNat (Value.int (((((xs 4).toUInt32 >>> ((0 : Int32).toUInt32 &&& Int32.toUInt32 31)).toInt32).toInt8.toInt32).toInt8.toInt32))) (16 : Int32).toInt.toNat (Value.int (((((xs 5).toUInt32 >>> ((24 : Int32).toUInt32 &&& Int32.toUInt32 31)).toInt32).toInt8.toInt32).toInt8.toInt32))) (17 : Int32).toInt.toNat (Value.int (((((xs 5).toUInt32 >>> ((16 : Int32).toUInt32 &&& Int32.toUInt32 31)).toInt32).toInt8.toInt32).toInt8.toInt32))))).set 7 (Sum.inr (0, [Value.ref 8, Value.ref 78, Value.ref 9, Value.ref 10, Value.ref 13, Value.ref 16, Value.ref 19, Value.ref 93, Value.ref 108, Value.ref 113, Value.ref 29, Value.int 18]))).set 29 (Sum.inl (1, 4096, xup (xup (xup (xup (xup (xup (xup (xup (xup (xup (xup (xup (xup (xup (xup (xup (xup (xup (xup (fun _ => Value.int 0) (0 : Int32).toInt.toNat (Value.int (((((xs 1).toUInt32 >>> ((24 : Int32).toUInt32 &&& Int32.toUInt32 31)).toInt32).toInt8.toInt32).toInt8.toInt32))) (1 : Int32).toInt.toNat (Value.int (((((xs 1).toUInt32 >>> ((16 : Int32).toUInt32 &&& Int32.toUInt32 31)).toInt32).toInt8.toInt32).toInt8.toInt32))) (2 : Int32).toInt.toNat (Value.int (((((xs 1).toUInt32 >>> ((8 : Int32).toUInt32 &&& Int32.toUInt32 31)).toInt32).toInt8.toInt32).toInt8.toInt32))) (3 : Int32).toInt.toNat (Value.int (((((xs 1).toUInt32 >>> ((0 : Int32).toUInt32 &&& Int32.toUInt32 31)).toInt32).toInt8.toInt32).toInt8.toInt32))) (4 : Int32).toInt.toNat (Value.int (((((xs 2).toUInt32 >>> ((24 : Int32).toUInt32 &&& Int32.toUInt32 31)).toInt32).toInt8.toInt32).toInt8.toInt32))) (5 : Int32).toInt.toNat (Value.int (((((xs 2).toUInt32 >>> ((16 : Int32).toUInt32 &&& Int32.toUInt32 31)).toInt32).toInt8.toInt32).toInt8.toInt32))) (6 : Int32).toInt.toNat (Value.int (((((xs 2).toUInt32 >>> ((8 : Int32).toUInt32 &&& Int32.toUInt32 31)).toInt32).toInt8.toInt32).toInt8.toInt32))) (7 : Int32).toInt.toNat (Value.int (((((xs 2).toUInt32 >>> ((0 : Int32).toUInt32 &&& Int32.toUInt32 31)).toInt32).toInt8.toInt32).toInt8.toInt32))) (8 : Int32).toInt.toNat (Value.int (((((xs 3).toUInt32 >>> ((24 : Int32).toUInt32 &&& Int32.toUInt32 31)).toInt32).toInt8.toInt32).toInt8.toInt32))) (9 : Int32).toInt.toNat (Value.int (((((xs 3).toUInt32 >>> ((16 : Int32).toUInt32 &&& Int32.toUInt32 31)).toInt32).toInt8.toInt32).toInt8.toInt32))) (10 : Int32).toInt.toNat (Value.int (((((xs 3).toUInt32 >>> ((8 : Int32).toUInt32 &&& Int32.toUInt32 31)).toInt32).toInt8.toInt32).toInt8.toInt32))) (11 : Int32).toInt.toNat (Value.int (((((xs 3).toUInt32 >>> ((0 : Int32).toUInt32 &&& Int32.toUInt32 31)).toInt32).toInt8.toInt32).toInt8.toInt32))) (12 : Int32).toInt.toNat (Value.int (((((xs 4).toUInt32 >>> ((24 : Int32).toUInt32 &&& Int32.toUInt32 31)).toInt32).toInt8.toInt32).toInt8.toInt32))) (13 : Int32).toInt.toNat (Value.int (((((xs 4).toUInt32 >>> ((16 : Int32).toUInt32 &&& Int32.toUInt32 31)).toInt32).toInt8.toInt32).toInt8.toInt32))) (14 : Int32).toInt.toNat (Value.int (((((xs 4).toUInt32 >>> ((8 : Int32).toUInt32 &&& Int32.toUInt32 31)).toInt32).toInt8.toInt32).toInt8.toInt32))) (15 : Int32).toInt.toNat (Value.int (((((xs 4).toUInt32 >>> ((0 : Int32).toUInt32 &&& Int32.toUInt32 31)).toInt32).toInt8.toInt32).toInt8.toInt32))) (16 : Int32).toInt.toNat (Value.int (((((xs 5).toUInt32 >>> ((24 : Int32).toUInt32 &&& Int32.toUInt32 31)).toInt32).toInt8.toInt32).toInt8.toInt32))) (17 : Int32).toInt.toNat (Value.int (((((xs 5).toUInt32 >>> ((16 : Int32).toUInt32 &&& Int32.toUInt32 31)).toInt32).toInt8.toInt32).toInt8.toInt32))) (18 : Int32).toInt.toNat (Value.int (((((xs 5).toUInt32 >>> ((8 : Int32).toUInt32 &&& Int32.toUInt32 31)).toInt32).toInt8.toInt32).toInt8.toInt32))))).set 7 (Sum.inr (0, [Value.ref 8, Value.ref 78, Value.ref 9, Value.ref 10, Value.ref 13, Value.ref 16, Value.ref 19, Value.ref 93, Value.ref 108, Value.ref 113, Value.ref 29, Value.int 19]))).set 29 (Sum.inl (1, 4096, xup (xup (xup (xup (xup (xup (xup (xup (xup (xup (xup (xup (xup (xup (xup (xup (xup (xup (xup (xup (fun _ => Value.int 0) (0 : Int32).toInt.toNat (Value.int (((((xs 1).toUInt32 >>> ((24 : Int32).toUInt32 &&& Int32.toUInt32 31)).toInt32).toInt8.toInt32).toInt8.toInt32))) (1 : Int32).toInt.toNat (Value.int (((((xs 1).toUInt32 >>> ((16 : Int32).toUInt32 &&& Int32.toUInt32 31)).toInt32).toInt8.toInt32).toInt8.toInt32))) (2 : Int32).toInt.toNat (Value.int (((((xs 1).toUInt32 >>> ((8 : Int32).toUInt32 &&& Int32.toUInt32 31)).toInt32).toInt8.toInt32).toInt8.toInt32))) (3 : Int32).toInt.toNat (Value.int (((((xs 1).toUInt32 >>> ((0 : Int32).toUInt32 &&& Int32.toUInt32 31)).toInt32).toInt8.toInt32).toInt8.toInt32))) (4 : Int32).toInt.toNat (Value.int (((((xs 2).toUInt32 >>> ((24 : Int32).toUInt32 &&& Int32.toUInt32 31)).toInt32).toInt8.toInt32).toInt8.toInt32))) (5 : Int32).toInt.toNat (Value.int (((((xs 2).toUInt32 >>> ((16 : Int32).toUInt32 &&& Int32.toUInt32 31)).toInt32).toInt8.toInt32).toInt8.toInt32))) (6 : Int32).toInt.toNat (Value.int (((((xs 2).toUInt32 >>> ((8 : Int32).toUInt32 &&& Int32.toUInt32 31)).toInt32).toInt8.toInt32).toInt8.toInt32))) (7 : Int32).toInt.toNat (Value.int (((((xs 2).toUInt32 >>> ((0 : Int32).toUInt32 &&& Int32.toUInt32 31)).toInt32).toInt8.toInt32).toInt8.toInt32))) (8 : Int32).toInt.toNat (Value.int (((((xs 3).toUInt32 >>> ((24 : Int32).toUInt32 &&& Int32.toUInt32 31)).toInt32).toInt8.toInt32).toInt8.toInt32))) (9 : Int32).toInt.toNat (Value.int (((((xs 3).toUInt32 >>> ((16 : Int32).toUInt32 &&& Int32.toUInt32 31)).toInt32).toInt8.toInt32).toInt8.toInt32))) (10 : Int32).toInt.toNat (Value.int (((((xs 3).toUInt32 >>> ((8 : Int32).toUInt32 &&& Int32.toUInt32 31)).toInt32).toInt8.toInt32).toInt8.toInt32))) (11 : Int32).toInt.toNat (Value.int (((((xs 3).toUInt32 >>> ((0 : Int32).toUInt32 &&& Int32.toUInt32 31)).toInt32).toInt8.toInt32).toInt8.toInt32))) (12 : Int32).toInt.toNat (Value.int (((((xs 4).toUInt32 >>> ((24 : Int32).toUInt32 &&& Int32.toUInt32 31)).toInt32).toInt8.toInt32).toInt8.toInt32))) (13 : Int32).toInt.toNat (Value.int (((((xs 4).toUInt32 >>> ((16 : Int32).toUInt32 &&& Int32.toUInt32 31)).toInt32).toInt8.toInt32).toInt8.toInt32))) (14 : Int32).toInt.toNat (Value.int (((((xs 4).toUInt32 >>> ((8 : Int32).toUInt32 &&& Int32.toUInt32 31)).toInt32).toInt8.toInt32).toInt8.toInt32))) (15 : Int32).toInt.toNat (Value.int (((((xs 4).toUInt32 >>> ((0 : Int32).toUInt32 &&& Int32.toUInt32 31)).toInt32).toInt8.toInt32).toInt8.toInt32))) (16 : Int32).toInt.toNat (Value.int (((((xs 5).toUInt32 >>> ((24 : Int32).toUInt32 &&& Int32.toUInt32 31)).toInt32).toInt8.toInt32).toInt8.toInt32))) (17 : Int32).toInt.toNat (Value.int (((((xs 5).toUInt32 >>> ((16 : Int32).toUInt32 &&& Int32.toUInt32 31)).toInt32).toInt8.toInt32).toInt8.toInt32))) (18 : Int32).toInt.toNat (Value.int (((((xs 5).toUInt32 >>> ((8 : Int32).toUInt32 &&& Int32.toUInt32 31)).toInt32).toInt8.toInt32).toInt8.toInt32))) (19 : Int32).toInt.toNat (Value.int (((((xs 5).toUInt32 >>> ((0 : Int32).toUInt32 &&& Int32.toUInt32 31)).toInt32).toInt8.toInt32).toInt8.toInt32))))).set 7 (Sum.inr (0, [Value.ref 8, Value.ref 78, Value.ref 9, Value.ref 10, Value.ref 13, Value.ref 16, Value.ref 19, Value.ref 93, Value.ref 108, Value.ref 113, Value.ref 29, Value.int 20]))).set 128 (Sum.inr (12, [Value.ref 129, Value.ref 131, Value.ref 133, Value.ref 135, Value.ref 137, Value.ref 139, Value.ref 141, Value.ref 143, Value.ref 145, Value.ref 147, Value.ref 149, Value.ref 151, Value.ref 153, Value.ref 154, Value.ref 155, Value.ref 156, Value.ref 157, Value.int (-16384), Value.int 16384, Value.int 0, Value.int 0, Value.int 0, Value.ref 158, Value.ref 159, Value.int 0, Value.int 0, Value.int 0, Value.int 0, Value.int 0, Value.int 0, Value.int 0, Value.int 0]))) ++ [Sum.inl (0, 5, fun _ => Value.int 0)]).set 195 (Sum.inl (0, 5, xup (xup (xup (xup (xup (fun _ => Value.int 0) (0 : Int32).toInt.toNat (Value.int (xs 1))) (1 : Int32).toInt.toNat (Value.int (xs 2))) (2 : Int32).toInt.toNat (Value.int (xs 3))) (3 : Int32).toInt.toNat (Value.int (xs 4))) (4 : Int32).toInt.toNat (Value.int (xs 5))))).set 158 (Sum.inl (1, 4096, xup (xup (xup (xup (xup (xup (xup (xup (xup (xup (xup (xup (xup (xup (xup (xup (xup (xup (xup (xup (fun _ => Value.int 0) (0 : Int32).toInt.toNat (Value.int ((((xs 1) >>> ((24 : Int32) &&& 31)).toInt8.toInt32).toInt8.toInt32))) (1 : Int32).toInt.toNat (Value.int ((((xs 1) >>> ((16 : Int32) &&& 31)).toInt8.toInt32).toInt8.toInt32))) (2 : Int32).toInt.toNat (Value.int ((((xs 1) >>> ((8 : Int32) &&& 31)).toInt8.toInt32).toInt8.toInt32))) (3 : Int32).toInt.toNat (Value.int ((((xs 1) >>> ((0 : Int32) &&& 31)).toInt8.toInt32).toInt8.toInt32))) (4 : Int32).toInt.toNat (Value.int ((((xs 2) >>> ((24 : Int32) &&& 31)).toInt8.toInt32).toInt8.toInt32))) (5 : Int32).toInt.toNat (Value.int ((((xs 2) >>> ((16 : Int32) &&& 31)).toInt8.toInt32).toInt8.toInt32))) (6 : Int32).toInt.toNat (Value.int ((((xs 2) >>> ((8 : Int32) &&& 31)).toInt8.toInt32).toInt8.toInt32))) (7 : Int32).toInt.toNat (Value.int ((((xs 2) >>> ((0 : Int32) &&& 31)).toInt8.toInt32).toInt8.toInt32))) (8 : Int32).toInt.toNat (Value.int ((((xs 3) >>> ((24 : Int32) &&& 31)).toInt8.toInt32).toInt8.toInt32))) (9 : Int32).toInt.toNat (Value.int ((((xs 3) >>> ((16 : Int32) &&& 31)).toInt8.toInt32).toInt8.toInt32))) (10 : Int32).toInt.toNat (Value.int ((((xs 3) >>> ((8 : Int32) &&& 31)).toInt8.toInt32).toInt8.toInt32))) (11 : Int32).toInt.toNat (Value.int ((((xs 3) >>> ((0 : Int32) &&& 31)).toInt8.toInt32).toInt8.toInt32))) (12 : Int32).toInt.toNat (Value.int ((((xs 4) >>> ((24 : Int32) &&& 31)).toInt8.toInt32).toInt8.toInt32))) (13 : Int32).toInt.toNat (Value.int ((((xs 4) >>> ((16 : Int32) &&& 31)).toInt8.toInt32).toInt8.toInt32))) (14 : Int32).toInt.toNat (Value.int ((((xs 4) >>> ((8 : Int32) &&& 31)).toInt8.toInt32).toInt8.toInt32))) (15 : Int32).toInt.toNat (Value.int ((((xs 4) >>> ((0 : Int32) &&& 31)).toInt8.toInt32).toInt8.toInt32))) (16 : Int32).toInt.toNat (Value.int ((((xs 5) >>> ((24 : Int32) &&& 31)).toInt8.toInt32).toInt8.toInt32))) (17 : Int32).toInt.toNat (Value.int ((((xs 5) >>> ((16 : Int32) &&& 31)).toInt8.toInt32).toInt8.toInt32))) (18 : Int32).toInt.toNat (Value.int ((((xs 5) >>> ((8 : Int32) &&& 31)).toInt8.toInt32).toInt8.toInt32))) (19 : Int32).toInt.toNat (Value.int ((((xs 5) >>> ((0 : Int32) &&& 31)).toInt8.toInt32).toInt8.toInt32))))).set 128 (Sum.inr (12, [Value.ref 129, Value.ref 131, Value.ref 133, Value.ref 135, Value.ref 137, Value.ref 139, Value.ref 141, Value.ref 143, Value.ref 145, Value.ref 147, Value.ref 149, Value.ref 151, Value.ref 153, Value.ref 154, Value.ref 155, Value.ref 156, Value.ref 157, Value.int (-16384), Value.int 16384, Value.int 0, Value.int 0, Value.int 0, Value.ref 158, Value.ref 159, Value.int 20, Value.int 0, Value.int 0, Value.int 0, Value.int 0, Value.int 0, Value.int 0, Value.int 0]))), ?_, (show xLs _ 220 200000 from ?_)⟩
  · refine i_287_23 (x := 0) rfl ?_
    refine i_287_25 (x := 0) rfl ?_
    refine i_287_26 (c := 6) W0_0 (by decide) ?_
    refine i_287_27 ?_
    refine i_287_29 (c := 0) (by decide) ?_
    refine i_287_30 (fun h => absurd h (by decide)) (fun _ => ?_)
    refine i_287_33 (x := 0) rfl ?_
    refine i_287_34 (x := 0) rfl ?_
    refine i_287_36 (v := Value.int (xs 0)) W0_0 (by decide) (by decide) rfl ?_
    refine i_287_37 ?_
    refine i_287_39 (c := ((xs 0) &&& (31 : Int32))) rfl ?_
    refine i_287_40_19 (by omega) ?_
    refine i_287_1786 (x := 7) rfl ?_
    refine i_287_1787 (x := 0) rfl ?_
    refine i_287_1788 (x := 0) rfl ?_
    refine i_287_1790 ?_
    refine i_287_1791 (c := 1) (by decide) ?_
    refine i_287_1792 (v := Value.int (xs 1)) W0_0 (by decide) (by decide) rfl ?_
    refine i_287_1793 (x := 0) rfl ?_
    refine i_287_1794 (x := 0) rfl ?_
    refine i_287_1796 ?_
    refine i_287_1797 (c := 2) (by decide) ?_
    refine i_287_1798 (v := Value.int (xs 2)) W0_0 (by decide) (by decide) rfl ?_
    refine i_287_1799 (x := 0) rfl ?_
    refine i_287_1800 (x := 0) rfl ?_
    refine i_287_1802 ?_
    refine i_287_1803 (c := 3) (by decide) ?_
    refine i_287_1804 (v := Value.int (xs 3)) W0_0 (by decide) (by decide) rfl ?_
    refine i_287_1805 (x := 0) rfl ?_
    refine i_287_1806 (x := 0) rfl ?_
    refine i_287_1808 ?_
    refine i_287_1809 (c := 4) (by decide) ?_
    refine i_287_1810 (v := Value.int (xs 4)) W0_0 (by decide) (by decide) rfl ?_
    refine i_287_1811 (x := 0) rfl ?_
    refine i_287_1812 (x := 0) rfl ?_
    refine i_287_1814 ?_
    refine i_287_1815 (c := 5) (by decide) ?_
    refine i_287_1816 (v := Value.int (xs 5)) W0_0 (by decide) (by decide) rfl ?_
    refine i_287_1817 (Nat.le_of_ble_eq_true rfl) (p_136_0 W0_7 W0_29) ?_
    refine i_287_1820 (lv2 := [(5, Value.int 0), (4, Value.int 0), (3, Value.ref 194), (2, Value.ref 128), (1, Value.ref 7), (0, Value.ref 0)]) rfl ?_
    refine i_287_1822 (x := 128) rfl ?_
    refine i_287_1823 (x := 0) rfl ?_
    refine i_287_1824 (x := 0) rfl ?_
    refine i_287_1826 ?_
    refine i_287_1827 (c := 1) (by decide) ?_
    refine i_287_1828 (v := Value.int (xs 1)) (xgn (by decide) (xgn (by decide) (xgn (by decide) (xgn (by decide) (xgn (by decide) (xgn (by decide) (xgn (by decide) (xgn (by decide) (xgn (by decide) (xgn (by decide) (xgn (by decide) (xgn (by decide) (xgn (by decide) (xgn (by decide) (xgn (by decide) (xgn (by decide) (xgn (by decide) (xgn (by decide) (xgn (by decide) (xgn (by decide) (xgn (by decide) (xgn (by decide) (xgn (by decide) (xgn (by decide) (xgn (by decide) (xgn (by decide) (xgn (by decide) (xgn (by decide) (xgn (by decide) (xgn (by decide) (xgn (by decide) (xgn (by decide) (xgn (by decide) (xgn (by decide) (xgn (by decide) (xgn (by decide) (xgn (by decide) (xgn (by decide) (xgn (by decide) (xgn (by decide) W0_0)))))))))))))))))))))))))))))))))))))))) (by decide) (by decide) rfl ?_
    refine i_287_1829 (x := 0) rfl ?_
    refine i_287_1830 (x := 0) rfl ?_
    refine i_287_1832 ?_
    refine i_287_1833 (c := 2) (by decide) ?_
    refine i_287_1834 (v := Value.int (xs 2)) (xgn (by decide) (xgn (by decide) (xgn (by decide) (xgn (by decide) (xgn (by decide) (xgn (by decide) (xgn (by decide) (xgn (by decide) (xgn (by decide) (xgn (by decide) (xgn (by decide) (xgn (by decide) (xgn (by decide) (xgn (by decide) (xgn (by decide) (xgn (by decide) (xgn (by decide) (xgn (by decide) (xgn (by decide) (xgn (by decide) (xgn (by decide) (xgn (by decide) (xgn (by decide) (xgn (by decide) (xgn (by decide) (xgn (by decide) (xgn (by decide) (xgn (by decide) (xgn (by decide) (xgn (by decide) (xgn (by decide) (xgn (by decide) (xgn (by decide) (xgn (by decide) (xgn (by decide) (xgn (by decide) (xgn (by decide) (xgn (by decide) (xgn (by decide) (xgn (by decide) W0_0)))))))))))))))))))))))))))))))))))))))) (by decide) (by decide) rfl ?_
    refine i_287_1835 (x := 0) rfl ?_
    refine i_287_1836 (x := 0) rfl ?_
    refine i_287_1838 ?_
    refine i_287_1839 (c := 3) (by decide) ?_
    refine i_287_1840 (v := Value.int (xs 3)) (xgn (by decide) (xgn (by decide) (xgn (by decide) (xgn (by decide) (xgn (by decide) (xgn (by decide) (xgn (by decide) (xgn (by decide) (xgn (by decide) (xgn (by decide) (xgn (by decide) (xgn (by decide) (xgn (by decide) (xgn (by decide) (xgn (by decide) (xgn (by decide) (xgn (by decide) (xgn (by decide) (xgn (by decide) (xgn (by decide) (xgn (by decide) (xgn (by decide) (xgn (by decide) (xgn (by decide) (xgn (by decide) (xgn (by decide) (xgn (by decide) (xgn (by decide) (xgn (by decide) (xgn (by decide) (xgn (by decide) (xgn (by decide) (xgn (by decide) (xgn (by decide) (xgn (by decide) (xgn (by decide) (xgn (by decide) (xgn (by decide) (xgn (by decide) (xgn (by decide) W0_0)))))))))))))))))))))))))))))))))))))))) (by decide) (by decide) rfl ?_
    refine i_287_1841 (x := 0) rfl ?_
    refine i_287_1842 (x := 0) rfl ?_
    refine i_287_1844 ?_
    refine i_287_1845 (c := 4) (by decide) ?_
    refine i_287_1846 (v := Value.int (xs 4)) (xgn (by decide) (xgn (by decide) (xgn (by decide) (xgn (by decide) (xgn (by decide) (xgn (by decide) (xgn (by decide) (xgn (by decide) (xgn (by decide) (xgn (by decide) (xgn (by decide) (xgn (by decide) (xgn (by decide) (xgn (by decide) (xgn (by decide) (xgn (by decide) (xgn (by decide) (xgn (by decide) (xgn (by decide) (xgn (by decide) (xgn (by decide) (xgn (by decide) (xgn (by decide) (xgn (by decide) (xgn (by decide) (xgn (by decide) (xgn (by decide) (xgn (by decide) (xgn (by decide) (xgn (by decide) (xgn (by decide) (xgn (by decide) (xgn (by decide) (xgn (by decide) (xgn (by decide) (xgn (by decide) (xgn (by decide) (xgn (by decide) (xgn (by decide) (xgn (by decide) W0_0)))))))))))))))))))))))))))))))))))))))) (by decide) (by decide) rfl ?_
    refine i_287_1847 (x := 0) rfl ?_
    refine i_287_1848 (x := 0) rfl ?_
    refine i_287_1850 ?_
    refine i_287_1851 (c := 5) (by decide) ?_
    refine i_287_1852 (v := Value.int (xs 5)) (xgn (by decide) (xgn (by decide) (xgn (by decide) (xgn (by decide) (xgn (by decide) (xgn (by decide) (xgn (by decide) (xgn (by decide) (xgn (by decide) (xgn (by decide) (xgn (by decide) (xgn (by decide) (xgn (by decide) (xgn (by decide) (xgn (by decide) (xgn (by decide) (xgn (by decide) (xgn (by decide) (xgn (by decide) (xgn (by decide) (xgn (by decide) (xgn (by decide) (xgn (by decide) (xgn (by decide) (xgn (by decide) (xgn (by decide) (xgn (by decide) (xgn (by decide) (xgn (by decide) (xgn (by decide) (xgn (by decide) (xgn (by decide) (xgn (by decide) (xgn (by decide) (xgn (by decide) (xgn (by decide) (xgn (by decide) (xgn (by decide) (xgn (by decide) (xgn (by decide) W0_0)))))))))))))))))))))))))))))))))))))))) (by decide) (by decide) rfl ?_
    refine i_287_1853 (xgn (by decide) (xgn (by decide) (xgn (by decide) (xgn (by decide) (xgn (by decide) (xgn (by decide) (xgn (by decide) (xgn (by decide) (xgn (by decide) (xgn (by decide) (xgn (by decide) (xgn (by decide) (xgn (by decide) (xgn (by decide) (xgn (by decide) (xgn (by decide) (xgn (by decide) (xgn (by decide) (xgn (by decide) (xgn (by decide) (xgn (by decide) (xgn (by decide) (xgn (by decide) (xgn (by decide) (xgn (by decide) (xgn (by decide) (xgn (by decide) (xgn (by decide) (xgn (by decide) (xgn (by decide) (xgn (by decide) (xgn (by decide) (xgn (by decide) (xgn (by decide) (xgn (by decide) (xgn (by decide) (xgn (by decide) (xgn (by decide) (xgn (by decide) (xgn (by decide) W0_128)))))))))))))))))))))))))))))))))))))))) (Nat.le_of_ble_eq_true rfl) (p_253_0 (xgn (by decide) (xgn (by decide) (xgn (by decide) (xgn (by decide) (xgn (by decide) (xgn (by decide) (xgn (by decide) (xgn (by decide) (xgn (by decide) (xgn (by decide) (xgn (by decide) (xgn (by decide) (xgn (by decide) (xgn (by decide) (xgn (by decide) (xgn (by decide) (xgn (by decide) (xgn (by decide) (xgn (by decide) (xgn (by decide) (xgn (by decide) (xgn (by decide) (xgn (by decide) (xgn (by decide) (xgn (by decide) (xgn (by decide) (xgn (by decide) (xgn (by decide) (xgn (by decide) (xgn (by decide) (xgn (by decide) (xgn (by decide) (xgn (by decide) (xgn (by decide) (xgn (by decide) (xgn (by decide) (xgn (by decide) (xgn (by decide) (xgn (by decide) (xgn (by decide) W0_128)))))))))))))))))))))))))))))))))))))))) (xgn (by decide) (xgn (by decide) (xgn (by decide) (xgn (by decide) (xgn (by decide) (xgn (by decide) (xgn (by decide) (xgn (by decide) (xgn (by decide) (xgn (by decide) (xgn (by decide) (xgn (by decide) (xgn (by decide) (xgn (by decide) (xgn (by decide) (xgn (by decide) (xgn (by decide) (xgn (by decide) (xgn (by decide) (xgn (by decide) (xgn (by decide) (xgn (by decide) (xgn (by decide) (xgn (by decide) (xgn (by decide) (xgn (by decide) (xgn (by decide) (xgn (by decide) (xgn (by decide) (xgn (by decide) (xgn (by decide) (xgn (by decide) (xgn (by decide) (xgn (by decide) (xgn (by decide) (xgn (by decide) (xgn (by decide) (xgn (by decide) (xgn (by decide) (xgn (by decide) W0_158)))))))))))))))))))))))))))))))))))))))) (xls (xls (xls (xls (xls (xls (xls (xls (xls (xls (xls (xls (xls (xls (xls (xls (xls (xls (xls (xls (xls (xls (xls (xls (xls (xls (xls (xls (xls (xls (xls (xls (xls (xls (xls (xls (xls (xls (xls (xls (W0_len))))))))))))))))))))))))))))))))))))))))) (by decide) (by decide) (by decide) (by decide)) ?_
    refine i_287_1856 (x := 128) rfl ?_
    refine i_287_1857 (xgs (xgn (by decide) (xgn (by decide) (xga (xgs (xgn (by decide) (xgn (by decide) (xgn (by decide) (xgn (by decide) (xgn (by decide) (xgn (by decide) (xgn (by decide) (xgn (by decide) (xgn (by decide) (xgn (by decide) (xgn (by decide) (xgn (by decide) (xgn (by decide) (xgn (by decide) (xgn (by decide) (xgn (by decide) (xgn (by decide) (xgn (by decide) (xgn (by decide) (xgn (by decide) (xgn (by decide) (xgn (by decide) (xgn (by decide) (xgn (by decide) (xgn (by decide) (xgn (by decide) (xgn (by decide) (xgn (by decide) (xgn (by decide) (xgn (by decide) (xgn (by decide) (xgn (by decide) (xgn (by decide) (xgn (by decide) (xgn (by decide) (xgn (by decide) (xgn (by decide) (xgn (by decide) (xgn (by decide) (xgn (by decide) W0_128))))))))))))))))))))))))))))))))))))))))))))) (Nat.le_of_ble_eq_true rfl) (p_165_7 (xgs (xgn (by decide) (xgn (by decide) (xga (xgs (xgn (by decide) (xgn (by decide) (xgn (by decide) (xgn (by decide) (xgn (by decide) (xgn (by decide) (xgn (by decide) (xgn (by decide) (xgn (by decide) (xgn (by decide) (xgn (by decide) (xgn (by decide) (xgn (by decide) (xgn (by decide) (xgn (by decide) (xgn (by decide) (xgn (by decide) (xgn (by decide) (xgn (by decide) (xgn (by decide) (xgn (by decide) (xgn (by decide) (xgn (by decide) (xgn (by decide) (xgn (by decide) (xgn (by decide) (xgn (by decide) (xgn (by decide) (xgn (by decide) (xgn (by decide) (xgn (by decide) (xgn (by decide) (xgn (by decide) (xgn (by decide) (xgn (by decide) (xgn (by decide) (xgn (by decide) (xgn (by decide) (xgn (by decide) (xgn (by decide) W0_128)))))))))))))))))))))))))))))))))))))))))))))) ?_
    refine i_287_1860 (x := 0) rfl ?_
    refine i_287_1862 (fun _ => ?_) (fun h => absurd h (by decide))
    refine i_287_1867 ?_
    refine i_287_2154 (x := 0) (c := 6) (lv2 := [(4, Value.int 6), (5, Value.int 0), (3, Value.ref 194), (2, Value.ref 128), (1, Value.ref 7), (0, Value.ref 0)]) rfl (by decide) rfl ?_
    refine i_287_2157 ?_
    refine i_287_23 (x := 6) rfl ?_
    refine i_287_25 (x := 0) rfl ?_
    refine i_287_26 (c := 6) (xgn (by decide) (xgn (by decide) (xgn (by decide) (xga (xgn (by decide) (xgn (by decide) (xgn (by decide) (xgn (by decide) (xgn (by decide) (xgn (by decide) (xgn (by decide) (xgn (by decide) (xgn (by decide) (xgn (by decide) (xgn (by decide) (xgn (by decide) (xgn (by decide) (xgn (by decide) (xgn (by decide) (xgn (by decide) (xgn (by decide) (xgn (by decide) (xgn (by decide) (xgn (by decide) (xgn (by decide) (xgn (by decide) (xgn (by decide) (xgn (by decide) (xgn (by decide) (xgn (by decide) (xgn (by decide) (xgn (by decide) (xgn (by decide) (xgn (by decide) (xgn (by decide) (xgn (by decide) (xgn (by decide) (xgn (by decide) (xgn (by decide) (xgn (by decide) (xgn (by decide) (xgn (by decide) (xgn (by decide) (xgn (by decide) (xgn (by decide) W0_0))))))))))))))))))))))))))))))))))))))))))))) (by decide) ?_
    refine i_287_27 ?_
    refine i_287_29 (c := 0) (by decide) ?_
    refine i_287_30 (fun _ => ?_) (fun h => absurd h (by decide))
    refine i_287_2160 ?_
    exact i_287_2161 rfl ⟨rfl, rfl⟩
  · refine xLs.set ?_ (xgn (by decide) (xgn (by decide) (xga (xgs (xgn (by decide) (xgn (by decide) (xgn (by decide) (xgn (by decide) (xgn (by decide) (xgn (by decide) (xgn (by decide) (xgn (by decide) (xgn (by decide) (xgn (by decide) (xgn (by decide) (xgn (by decide) (xgn (by decide) (xgn (by decide) (xgn (by decide) (xgn (by decide) (xgn (by decide) (xgn (by decide) (xgn (by decide) (xgn (by decide) (xgn (by decide) (xgn (by decide) (xgn (by decide) (xgn (by decide) (xgn (by decide) (xgn (by decide) (xgn (by decide) (xgn (by decide) (xgn (by decide) (xgn (by decide) (xgn (by decide) (xgn (by decide) (xgn (by decide) (xgn (by decide) (xgn (by decide) (xgn (by decide) (xgn (by decide) (xgn (by decide) (xgn (by decide) (xgn (by decide) W0_128)))))))))))))))))))))))))))))))))))))))))))) xcs_o
    refine xLs.set ?_ (xgn (by decide) (xga (xgn (by decide) (xgn (by decide) (xgn (by decide) (xgn (by decide) (xgn (by decide) (xgn (by decide) (xgn (by decide) (xgn (by decide) (xgn (by decide) (xgn (by decide) (xgn (by decide) (xgn (by decide) (xgn (by decide) (xgn (by decide) (xgn (by decide) (xgn (by decide) (xgn (by decide) (xgn (by decide) (xgn (by decide) (xgn (by decide) (xgn (by decide) (xgn (by decide) (xgn (by decide) (xgn (by decide) (xgn (by decide) (xgn (by decide) (xgn (by decide) (xgn (by decide) (xgn (by decide) (xgn (by decide) (xgn (by decide) (xgn (by decide) (xgn (by decide) (xgn (by decide) (xgn (by decide) (xgn (by decide) (xgn (by decide) (xgn (by decide) (xgn (by decide) (xgn (by decide) (xgn (by decide) W0_158))))))))))))))))))))))))))))))))))))))))))) xcs_a
    refine xLs.set ?_ (xgl2 (xls (xls (xls (xls (xls (xls (xls (xls (xls (xls (xls (xls (xls (xls (xls (xls (xls (xls (xls (xls (xls (xls (xls (xls (xls (xls (xls (xls (xls (xls (xls (xls (xls (xls (xls (xls (xls (xls (xls (xls (xls (W0_len))))))))))))))))))))))))))))))))))))))))))) xcs_a
    refine xLs.app (n := 219) (z := 199995) (m := 5) ?_ rfl
    refine xLs.set ?_ (xgn (by decide) (xgn (by decide) (xgn (by decide) (xgn (by decide) (xgn (by decide) (xgn (by decide) (xgn (by decide) (xgn (by decide) (xgn (by decide) (xgn (by decide) (xgn (by decide) (xgn (by decide) (xgn (by decide) (xgn (by decide) (xgn (by decide) (xgn (by decide) (xgn (by decide) (xgn (by decide) (xgn (by decide) (xgn (by decide) (xgn (by decide) (xgn (by decide) (xgn (by decide) (xgn (by decide) (xgn (by decide) (xgn (by decide) (xgn (by decide) (xgn (by decide) (xgn (by decide) (xgn (by decide) (xgn (by decide) (xgn (by decide) (xgn (by decide) (xgn (by decide) (xgn (by decide) (xgn (by decide) (xgn (by decide) (xgn (by decide) (xgn (by decide) (xgn (by decide) W0_128)))))))))))))))))))))))))))))))))))))))) xcs_o
    refine xLs.set ?_ (xgn (by decide) (xgs (xgn (by decide) (xgs (xgn (by decide) (xgs (xgn (by decide) (xgs (xgn (by decide) (xgs (xgn (by decide) (xgs (xgn (by decide) (xgs (xgn (by decide) (xgs (xgn (by decide) (xgs (xgn (by decide) (xgs (xgn (by decide) (xgs (xgn (by decide) (xgs (xgn (by decide) (xgs (xgn (by decide) (xgs (xgn (by decide) (xgs (xgn (by decide) (xgs (xgn (by decide) (xgs (xgn (by decide) (xgs (xgn (by decide) (xgs (xgn (by decide) W0_7))))))))))))))))))))))))))))))))))))))) xcs_o
    refine xLs.set ?_ (xgn (by decide) (xgs (xgn (by decide) (xgs (xgn (by decide) (xgs (xgn (by decide) (xgs (xgn (by decide) (xgs (xgn (by decide) (xgs (xgn (by decide) (xgs (xgn (by decide) (xgs (xgn (by decide) (xgs (xgn (by decide) (xgs (xgn (by decide) (xgs (xgn (by decide) (xgs (xgn (by decide) (xgs (xgn (by decide) (xgs (xgn (by decide) (xgs (xgn (by decide) (xgs (xgn (by decide) (xgs (xgn (by decide) (xgs (xgn (by decide) (xgs W0_29)))))))))))))))))))))))))))))))))))))) xcs_a
    refine xLs.set ?_ (xgn (by decide) (xgs (xgn (by decide) (xgs (xgn (by decide) (xgs (xgn (by decide) (xgs (xgn (by decide) (xgs (xgn (by decide) (xgs (xgn (by decide) (xgs (xgn (by decide) (xgs (xgn (by decide) (xgs (xgn (by decide) (xgs (xgn (by decide) (xgs (xgn (by decide) (xgs (xgn (by decide) (xgs (xgn (by decide) (xgs (xgn (by decide) (xgs (xgn (by decide) (xgs (xgn (by decide) (xgs (xgn (by decide) (xgs (xgn (by decide) W0_7))))))))))))))))))))))))))))))))))))) xcs_o
    refine xLs.set ?_ (xgn (by decide) (xgs (xgn (by decide) (xgs (xgn (by decide) (xgs (xgn (by decide) (xgs (xgn (by decide) (xgs (xgn (by decide) (xgs (xgn (by decide) (xgs (xgn (by decide) (xgs (xgn (by decide) (xgs (xgn (by decide) (xgs (xgn (by decide) (xgs (xgn (by decide) (xgs (xgn (by decide) (xgs (xgn (by decide) (xgs (xgn (by decide) (xgs (xgn (by decide) (xgs (xgn (by decide) (xgs (xgn (by decide) (xgs W0_29)))))))))))))))))))))))))))))))))))) xcs_a
    refine xLs.set ?_ (xgn (by decide) (xgs (xgn (by decide) (xgs (xgn (by decide) (xgs (xgn (by decide) (xgs (xgn (by decide) (xgs (xgn (by decide) (xgs (xgn (by decide) (xgs (xgn (by decide) (xgs (xgn (by decide) (xgs (xgn (by decide) (xgs (xgn (by decide) (xgs (xgn (by decide) (xgs (xgn (by decide) (xgs (xgn (by decide) (xgs (xgn (by decide) (xgs (xgn (by decide) (xgs (xgn (by decide) (xgs (xgn (by decide) W0_7))))))))))))))))))))))))))))))))))) xcs_o
    refine xLs.set ?_ (xgn (by decide) (xgs (xgn (by decide) (xgs (xgn (by decide) (xgs (xgn (by decide) (xgs (xgn (by decide) (xgs (xgn (by decide) (xgs (xgn (by decide) (xgs (xgn (by decide) (xgs (xgn (by decide) (xgs (xgn (by decide) (xgs (xgn (by decide) (xgs (xgn (by decide) (xgs (xgn (by decide) (xgs (xgn (by decide) (xgs (xgn (by decide) (xgs (xgn (by decide) (xgs (xgn (by decide) (xgs W0_29)))))))))))))))))))))))))))))))))) xcs_a
    refine xLs.set ?_ (xgn (by decide) (xgs (xgn (by decide) (xgs (xgn (by decide) (xgs (xgn (by decide) (xgs (xgn (by decide) (xgs (xgn (by decide) (xgs (xgn (by decide) (xgs (xgn (by decide) (xgs (xgn (by decide) (xgs (xgn (by decide) (xgs (xgn (by decide) (xgs (xgn (by decide) (xgs (xgn (by decide) (xgs (xgn (by decide) (xgs (xgn (by decide) (xgs (xgn (by decide) (xgs (xgn (by decide) W0_7))))))))))))))))))))))))))))))))) xcs_o
    refine xLs.set ?_ (xgn (by decide) (xgs (xgn (by decide) (xgs (xgn (by decide) (xgs (xgn (by decide) (xgs (xgn (by decide) (xgs (xgn (by decide) (xgs (xgn (by decide) (xgs (xgn (by decide) (xgs (xgn (by decide) (xgs (xgn (by decide) (xgs (xgn (by decide) (xgs (xgn (by decide) (xgs (xgn (by decide) (xgs (xgn (by decide) (xgs (xgn (by decide) (xgs (xgn (by decide) (xgs W0_29)))))))))))))))))))))))))))))))) xcs_a
    refine xLs.set ?_ (xgn (by decide) (xgs (xgn (by decide) (xgs (xgn (by decide) (xgs (xgn (by decide) (xgs (xgn (by decide) (xgs (xgn (by decide) (xgs (xgn (by decide) (xgs (xgn (by decide) (xgs (xgn (by decide) (xgs (xgn (by decide) (xgs (xgn (by decide) (xgs (xgn (by decide) (xgs (xgn (by decide) (xgs (xgn (by decide) (xgs (xgn (by decide) (xgs (xgn (by decide) W0_7))))))))))))))))))))))))))))))) xcs_o
    refine xLs.set ?_ (xgn (by decide) (xgs (xgn (by decide) (xgs (xgn (by decide) (xgs (xgn (by decide) (xgs (xgn (by decide) (xgs (xgn (by decide) (xgs (xgn (by decide) (xgs (xgn (by decide) (xgs (xgn (by decide) (xgs (xgn (by decide) (xgs (xgn (by decide) (xgs (xgn (by decide) (xgs (xgn (by decide) (xgs (xgn (by decide) (xgs (xgn (by decide) (xgs W0_29)))))))))))))))))))))))))))))) xcs_a
    refine xLs.set ?_ (xgn (by decide) (xgs (xgn (by decide) (xgs (xgn (by decide) (xgs (xgn (by decide) (xgs (xgn (by decide) (xgs (xgn (by decide) (xgs (xgn (by decide) (xgs (xgn (by decide) (xgs (xgn (by decide) (xgs (xgn (by decide) (xgs (xgn (by decide) (xgs (xgn (by decide) (xgs (xgn (by decide) (xgs (xgn (by decide) (xgs (xgn (by decide) W0_7))))))))))))))))))))))))))))) xcs_o
    refine xLs.set ?_ (xgn (by decide) (xgs (xgn (by decide) (xgs (xgn (by decide) (xgs (xgn (by decide) (xgs (xgn (by decide) (xgs (xgn (by decide) (xgs (xgn (by decide) (xgs (xgn (by decide) (xgs (xgn (by decide) (xgs (xgn (by decide) (xgs (xgn (by decide) (xgs (xgn (by decide) (xgs (xgn (by decide) (xgs (xgn (by decide) (xgs W0_29)))))))))))))))))))))))))))) xcs_a
    refine xLs.set ?_ (xgn (by decide) (xgs (xgn (by decide) (xgs (xgn (by decide) (xgs (xgn (by decide) (xgs (xgn (by decide) (xgs (xgn (by decide) (xgs (xgn (by decide) (xgs (xgn (by decide) (xgs (xgn (by decide) (xgs (xgn (by decide) (xgs (xgn (by decide) (xgs (xgn (by decide) (xgs (xgn (by decide) (xgs (xgn (by decide) W0_7))))))))))))))))))))))))))) xcs_o
    refine xLs.set ?_ (xgn (by decide) (xgs (xgn (by decide) (xgs (xgn (by decide) (xgs (xgn (by decide) (xgs (xgn (by decide) (xgs (xgn (by decide) (xgs (xgn (by decide) (xgs (xgn (by decide) (xgs (xgn (by decide) (xgs (xgn (by decide) (xgs (xgn (by decide) (xgs (xgn (by decide) (xgs (xgn (by decide) (xgs W0_29)))))))))))))))))))))))))) xcs_a
    refine xLs.set ?_ (xgn (by decide) (xgs (xgn (by decide) (xgs (xgn (by decide) (xgs (xgn (by decide) (xgs (xgn (by decide) (xgs (xgn (by decide) (xgs (xgn (by decide) (xgs (xgn (by decide) (xgs (xgn (by decide) (xgs (xgn (by decide) (xgs (xgn (by decide) (xgs (xgn (by decide) (xgs (xgn (by decide) W0_7))))))))))))))))))))))))) xcs_o
    refine xLs.set ?_ (xgn (by decide) (xgs (xgn (by decide) (xgs (xgn (by decide) (xgs (xgn (by decide) (xgs (xgn (by decide) (xgs (xgn (by decide) (xgs (xgn (by decide) (xgs (xgn (by decide) (xgs (xgn (by decide) (xgs (xgn (by decide) (xgs (xgn (by decide) (xgs (xgn (by decide) (xgs W0_29)))))))))))))))))))))))) xcs_a
    refine xLs.set ?_ (xgn (by decide) (xgs (xgn (by decide) (xgs (xgn (by decide) (xgs (xgn (by decide) (xgs (xgn (by decide) (xgs (xgn (by decide) (xgs (xgn (by decide) (xgs (xgn (by decide) (xgs (xgn (by decide) (xgs (xgn (by decide) (xgs (xgn (by decide) (xgs (xgn (by decide) W0_7))))))))))))))))))))))) xcs_o
    refine xLs.set ?_ (xgn (by decide) (xgs (xgn (by decide) (xgs (xgn (by decide) (xgs (xgn (by decide) (xgs (xgn (by decide) (xgs (xgn (by decide) (xgs (xgn (by decide) (xgs (xgn (by decide) (xgs (xgn (by decide) (xgs (xgn (by decide) (xgs (xgn (by decide) (xgs W0_29)))))))))))))))))))))) xcs_a
    refine xLs.set ?_ (xgn (by decide) (xgs (xgn (by decide) (xgs (xgn (by decide) (xgs (xgn (by decide) (xgs (xgn (by decide) (xgs (xgn (by decide) (xgs (xgn (by decide) (xgs (xgn (by decide) (xgs (xgn (by decide) (xgs (xgn (by decide) (xgs (xgn (by decide) W0_7))))))))))))))))))))) xcs_o
    refine xLs.set ?_ (xgn (by decide) (xgs (xgn (by decide) (xgs (xgn (by decide) (xgs (xgn (by decide) (xgs (xgn (by decide) (xgs (xgn (by decide) (xgs (xgn (by decide) (xgs (xgn (by decide) (xgs (xgn (by decide) (xgs (xgn (by decide) (xgs W0_29)))))))))))))))))))) xcs_a
    refine xLs.set ?_ (xgn (by decide) (xgs (xgn (by decide) (xgs (xgn (by decide) (xgs (xgn (by decide) (xgs (xgn (by decide) (xgs (xgn (by decide) (xgs (xgn (by decide) (xgs (xgn (by decide) (xgs (xgn (by decide) (xgs (xgn (by decide) W0_7))))))))))))))))))) xcs_o
    refine xLs.set ?_ (xgn (by decide) (xgs (xgn (by decide) (xgs (xgn (by decide) (xgs (xgn (by decide) (xgs (xgn (by decide) (xgs (xgn (by decide) (xgs (xgn (by decide) (xgs (xgn (by decide) (xgs (xgn (by decide) (xgs W0_29)))))))))))))))))) xcs_a
    refine xLs.set ?_ (xgn (by decide) (xgs (xgn (by decide) (xgs (xgn (by decide) (xgs (xgn (by decide) (xgs (xgn (by decide) (xgs (xgn (by decide) (xgs (xgn (by decide) (xgs (xgn (by decide) (xgs (xgn (by decide) W0_7))))))))))))))))) xcs_o
    refine xLs.set ?_ (xgn (by decide) (xgs (xgn (by decide) (xgs (xgn (by decide) (xgs (xgn (by decide) (xgs (xgn (by decide) (xgs (xgn (by decide) (xgs (xgn (by decide) (xgs (xgn (by decide) (xgs W0_29)))))))))))))))) xcs_a
    refine xLs.set ?_ (xgn (by decide) (xgs (xgn (by decide) (xgs (xgn (by decide) (xgs (xgn (by decide) (xgs (xgn (by decide) (xgs (xgn (by decide) (xgs (xgn (by decide) (xgs (xgn (by decide) W0_7))))))))))))))) xcs_o
    refine xLs.set ?_ (xgn (by decide) (xgs (xgn (by decide) (xgs (xgn (by decide) (xgs (xgn (by decide) (xgs (xgn (by decide) (xgs (xgn (by decide) (xgs (xgn (by decide) (xgs W0_29)))))))))))))) xcs_a
    refine xLs.set ?_ (xgn (by decide) (xgs (xgn (by decide) (xgs (xgn (by decide) (xgs (xgn (by decide) (xgs (xgn (by decide) (xgs (xgn (by decide) (xgs (xgn (by decide) W0_7))))))))))))) xcs_o
    refine xLs.set ?_ (xgn (by decide) (xgs (xgn (by decide) (xgs (xgn (by decide) (xgs (xgn (by decide) (xgs (xgn (by decide) (xgs (xgn (by decide) (xgs W0_29)))))))))))) xcs_a
    refine xLs.set ?_ (xgn (by decide) (xgs (xgn (by decide) (xgs (xgn (by decide) (xgs (xgn (by decide) (xgs (xgn (by decide) (xgs (xgn (by decide) W0_7))))))))))) xcs_o
    refine xLs.set ?_ (xgn (by decide) (xgs (xgn (by decide) (xgs (xgn (by decide) (xgs (xgn (by decide) (xgs (xgn (by decide) (xgs W0_29)))))))))) xcs_a
    refine xLs.set ?_ (xgn (by decide) (xgs (xgn (by decide) (xgs (xgn (by decide) (xgs (xgn (by decide) (xgs (xgn (by decide) W0_7))))))))) xcs_o
    refine xLs.set ?_ (xgn (by decide) (xgs (xgn (by decide) (xgs (xgn (by decide) (xgs (xgn (by decide) (xgs W0_29)))))))) xcs_a
    refine xLs.set ?_ (xgn (by decide) (xgs (xgn (by decide) (xgs (xgn (by decide) (xgs (xgn (by decide) W0_7))))))) xcs_o
    refine xLs.set ?_ (xgn (by decide) (xgs (xgn (by decide) (xgs (xgn (by decide) (xgs W0_29)))))) xcs_a
    refine xLs.set ?_ (xgn (by decide) (xgs (xgn (by decide) (xgs (xgn (by decide) W0_7))))) xcs_o
    refine xLs.set ?_ (xgn (by decide) (xgs (xgn (by decide) (xgs W0_29)))) xcs_a
    refine xLs.set ?_ (xgn (by decide) (xgs (xgn (by decide) W0_7))) xcs_o
    refine xLs.set ?_ (xgn (by decide) (xgs W0_29)) xcs_a
    refine xLs.set ?_ (xgn (by decide) W0_7) xcs_o
    refine xLs.set ?_ (W0_29) xcs_a
    exact ⟨Nat.le_trans (Nat.le_of_eq W0_len) (by decide), Nat.le_trans (Nat.le_of_eq W0_sz) (by decide)⟩
theorem op_19 {d : Nat} {xs : Nat → Int32} (h0 : ((xs 0) &&& (31 : Int32)).toInt = 19) : ∃ w1, xEv (d + 20) 287 23 [(4, Value.int 0), (3, Value.ref 194), (2, Value.ref 128), (1, Value.ref 7), (0, Value.ref 0)] [] (W0 6 xs) (fun o' w' => o' = .inl (some (Value.int 1)) ∧ w' = w1) ∧ w1.length ≤ 220 ∧ xsz w1 ≤ 200000 := by
  exact o_19_0 h0
