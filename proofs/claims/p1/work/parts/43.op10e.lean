theorem o_10_23 {d : Nat} {xs : Nat → Int32} (h0 : ((xs 0) &&& (31 : Int32)).toInt = 10) (c0 : 0 ≤ (xs 1).toInt) (c1 : (xs 1).toInt < 16) (c2 : 0 ≤ (xs 2).toInt) (c3 : 16 ≤ (xs 2).toInt) : ∃ w1, xEv (d + 20) 287 23 [(4, Value.int 0), (3, Value.ref 194), (2, Value.ref 128), (1, Value.ref 7), (0, Value.ref 0)] [] (W0 6 xs) (fun o' w' => o' = .inl (some (Value.int 1)) ∧ w' = w1) ∧ w1.length ≤ 220 ∧ xsz w1 ≤ 200000 := by
  refine ⟨(((((W0 6 xs) ++ [Sum.inr (14, [])]).set 128 (Sum.inr (12, [Value.ref 129, Value.ref 131, Value.ref 133, Value.ref 135, Value.ref 137, Value.ref 139, Value.ref 141, Value.ref 143, Value.ref 145, Value.ref 147, Value.ref 149, Value.ref 151, Value.ref 153, Value.ref 154, Value.ref 155, Value.ref 156, Value.ref 157, Value.int (-16384), Value.int 16384, Value.int 0, Value.int 0, Value.int 0, Value.ref 158, Value.ref 159, Value.int 0, Value.int 0, Value.int 0, Value.int 0, Value.int 0, Value.int 0, Value.int 0, Value.int 0]))) ++ [Sum.inr (14, [])]).set 128 (Sum.inr (12, [Value.ref 129, Value.ref 131, Value.ref 133, Value.ref 135, Value.ref 137, Value.ref 139, Value.ref 141, Value.ref 143, Value.ref 145, Value.ref 147, Value.ref 149, Value.ref 151, Value.ref 153, Value.ref 154, Value.ref 155, Value.ref 156, Value.ref 157, Value.int (-16384), Value.int 16384, Value.int 0, Value.int 0, Value.int 0, Value.ref 158, Value.ref 159, Value.int 0, Value.int 0, Value.int 0, Value.int 0, Value.int 0, Value.int 0, Value.int 0, Value.int 1]))), ?_, (show xLs _ 220 200000 from ?_)⟩
  · refine i_287_23 (x := 0) rfl ?_
    refine i_287_25 (x := 0) rfl ?_
    refine i_287_26 (c := 6) W0_0 (by decide) ?_
    refine i_287_27 ?_
    refine i_287_29 (c := 0) (by decide) ?_
    refine i_287_30 (fun h => absurd h (by decide)) (fun _ => ?_)
    refine i_287_33 (x := 0) rfl ?_
    refine i_287_34 (x := 0) rfl ?_
    refine i_287_36 (v := Value.int (xs 0)) W0_0 (by decide) (by decide) rfl ?_
    refine i_287_37 ?_
    refine i_287_39 (c := ((xs 0) &&& (31 : Int32))) rfl ?_
    refine i_287_40_10 (by omega) ?_
    refine i_287_1057 (x := 7) rfl ?_
    refine i_287_1058 (x := 0) rfl ?_
    refine i_287_1059 (x := 0) rfl ?_
    refine i_287_1061 ?_
    refine i_287_1062 (c := 1) (by decide) ?_
    refine i_287_1063 (v := Value.int (xs 1)) W0_0 (by decide) (by decide) rfl ?_
    refine i_287_1064 (x := 0) rfl ?_
    refine i_287_1065 (x := 0) rfl ?_
    refine i_287_1067 ?_
    refine i_287_1068 (c := 2) (by decide) ?_
    refine i_287_1069 (v := Value.int (xs 2)) W0_0 (by decide) (by decide) rfl ?_
    refine i_287_1070 (x := 0) rfl ?_
    refine i_287_1071 (x := 0) rfl ?_
    refine i_287_1073 ?_
    refine i_287_1074 (c := 3) (by decide) ?_
    refine i_287_1075 (v := Value.int (xs 3)) W0_0 (by decide) (by decide) rfl ?_
    refine i_287_1076 (x := 0) rfl ?_
    refine i_287_1077 (x := 0) rfl ?_
    refine i_287_1079 ?_
    refine i_287_1080 (c := 4) (by decide) ?_
    refine i_287_1081 (v := Value.int (xs 4)) W0_0 (by decide) (by decide) rfl ?_
    refine i_287_1082 (x := 194) rfl ?_
    refine i_287_1083 (Nat.le_of_ble_eq_true rfl) (p_111_23 W0_7 (by omega) (by omega) (by omega) (by omega)) ?_
    refine i_287_1086 (lv2 := [(5, Value.int 1), (4, Value.int 0), (3, Value.ref 194), (2, Value.ref 128), (1, Value.ref 7), (0, Value.ref 0)]) rfl ?_
    refine i_287_1088 (x := 128) rfl ?_
    refine i_287_1089 (x := 0) rfl ?_
    refine i_287_1090 (x := 0) rfl ?_
    refine i_287_1092 ?_
    refine i_287_1093 (c := 1) (by decide) ?_
    refine i_287_1094 (v := Value.int (xs 1)) (xga W0_0) (by decide) (by decide) rfl ?_
    refine i_287_1095 (x := 0) rfl ?_
    refine i_287_1096 (x := 0) rfl ?_
    refine i_287_1098 ?_
    refine i_287_1099 (c := 2) (by decide) ?_
    refine i_287_1100 (v := Value.int (xs 2)) (xga W0_0) (by decide) (by decide) rfl ?_
    refine i_287_1101 (x := 0) rfl ?_
    refine i_287_1102 (x := 0) rfl ?_
    refine i_287_1104 ?_
    refine i_287_1105 (c := 3) (by decide) ?_
    refine i_287_1106 (v := Value.int (xs 3)) (xga W0_0) (by decide) (by decide) rfl ?_
    refine i_287_1107 (x := 0) rfl ?_
    refine i_287_1108 (x := 0) rfl ?_
    refine i_287_1110 ?_
    refine i_287_1111 (c := 4) (by decide) ?_
    refine i_287_1112 (v := Value.int (xs 4)) (xga W0_0) (by decide) (by decide) rfl ?_
    refine i_287_1113 (xga W0_128) (Nat.le_of_ble_eq_true rfl) (p_228_23 (xga W0_128) (by omega) (by omega) (by omega) (by omega)) ?_
    refine i_287_1116 (lv2 := [(6, Value.int 0), (5, Value.int 1), (4, Value.int 0), (3, Value.ref 194), (2, Value.ref 128), (1, Value.ref 7), (0, Value.ref 0)]) rfl ?_
    refine i_287_1118 (x := 128) rfl ?_
    refine i_287_1119 (xgs (xga (xgs (xga W0_128)))) (Nat.le_of_ble_eq_true rfl) (p_165_0 (xgs (xga (xgs (xga W0_128))))) ?_
    refine i_287_1122 (x := 1) rfl ?_
    refine i_287_1124 (fun _ => ?_) (fun h => absurd h (by decide))
    refine i_287_1129 (x := 1) rfl ?_
    refine i_287_1131 (fun _ => ?_) (fun h => absurd h (by decide))
    refine i_287_1146 ?_
    refine i_287_2154 (x := 0) (c := 6) (lv2 := [(4, Value.int 6), (6, Value.int 0), (5, Value.int 1), (3, Value.ref 194), (2, Value.ref 128), (1, Value.ref 7), (0, Value.ref 0)]) rfl (by decide) rfl ?_
    refine i_287_2157 ?_
    refine i_287_23 (x := 6) rfl ?_
    refine i_287_25 (x := 0) rfl ?_
    refine i_287_26 (c := 6) (xgn (by decide) (xga (xgn (by decide) (xga W0_0)))) (by decide) ?_
    refine i_287_27 ?_
    refine i_287_29 (c := 0) (by decide) ?_
    refine i_287_30 (fun _ => ?_) (fun h => absurd h (by decide))
    refine i_287_2160 ?_
    exact i_287_2161 rfl ⟨rfl, rfl⟩
  · refine xLs.set ?_ (xga (xgs (xga W0_128))) xcs_o
    refine xLs.app (n := 219) (z := 199994) (m := 6) ?_ rfl
    refine xLs.set ?_ (xga W0_128) xcs_o
    refine xLs.app (n := 218) (z := 199988) (m := 6) ?_ rfl
    exact ⟨Nat.le_trans (Nat.le_of_eq W0_len) (by decide), Nat.le_trans (Nat.le_of_eq W0_sz) (by decide)⟩
theorem p_112_24 {d : Nat} {w : xW} {a0 : Int32} {a1 : Int32} {a2 : Int32} {a3 : Int32} (e0 : 0 ≤ a0.toInt) (e1 : 16 ≤ a0.toInt) : xRun (d + 6) 112 [Value.ref 7, Value.int a0, Value.int a1, Value.int a2, Value.int a3] w (.inr w.length) (w ++ [Sum.inr (14, [])]) := by
  refine xRun.of ?_
  refine i_112_0 (x := a0) rfl ?_
  refine i_112_1 (Nat.le_of_ble_eq_true rfl) (p_15_2 e0 e1) ?_
  refine i_112_4 (fun _ => ?_) (fun h => absurd h (by decide))
  exact i_112_23 (by omega) (Nat.le_of_ble_eq_true rfl) ⟨rfl, rfl⟩
theorem p_111_24 {d : Nat} {w : xW} {a0 : Int32} {a1 : Int32} {a2 : Int32} {a3 : Int32} (hw0 : w[7]? = some (Sum.inr (0, [Value.ref 8, Value.ref 78, Value.ref 9, Value.ref 10, Value.ref 13, Value.ref 16, Value.ref 19, Value.ref 93, Value.ref 108, Value.ref 113, Value.ref 29, Value.int 0]))) (e1 : 0 ≤ a0.toInt) (e2 : 16 ≤ a0.toInt) : xRun (d + 7) 111 [Value.ref 7, Value.int a0, Value.int a1, Value.int a2, Value.int a3, Value.ref 194] w (.inl (some (Value.int 1))) (w ++ [Sum.inr (14, [])]) := by
  refine xRun.of ?_
  refine i_111_0 (x := 194) rfl ?_
  refine i_111_2 ?_
  refine i_111_3 (x := 7) rfl ?_
  refine i_111_4 (x := a0) rfl ?_
  refine i_111_5 (x := a1) rfl ?_
  refine i_111_6 (x := a2) rfl ?_
  refine i_111_7 (x := a3) rfl ?_
  refine j_111_9 hw0 (Nat.le_of_ble_eq_true rfl) (p_112_24 e1 e2) (xDone.c xgl rfl rfl ?_)
  refine i_111_17 (lv2 := [(6, Value.ref w.length), (0, Value.ref 7), (1, Value.int a0), (2, Value.int a1), (3, Value.int a2), (4, Value.int a3), (5, Value.ref 194)]) rfl ?_
  refine i_111_19 ?_
  exact i_111_20 ⟨rfl, rfl⟩
theorem p_229_24 {d : Nat} {w : xW} {a0 : Int32} {a1 : Int32} {a2 : Int32} {a3 : Int32} (e0 : 0 ≤ a0.toInt) (e1 : 15 < a0.toInt) : xRun (d + 8) 229 [Value.ref 128, Value.int a0, Value.int a1, Value.int a2, Value.int a3] w (.inr w.length) (w ++ [Sum.inr (14, [])]) := by
  refine xRun.of ?_
  refine i_229_0 (x := a0) rfl ?_
  exact j_229_1 (Nat.le_of_ble_eq_true rfl) (p_168_2 e0 e1) (xDone.t xgl rfl rfl ⟨rfl, rfl⟩)
theorem p_228_24 {d : Nat} {w : xW} {a0 : Int32} {a1 : Int32} {a2 : Int32} {a3 : Int32} (hw0 : w[128]? = some (Sum.inr (12, [Value.ref 129, Value.ref 131, Value.ref 133, Value.ref 135, Value.ref 137, Value.ref 139, Value.ref 141, Value.ref 143, Value.ref 145, Value.ref 147, Value.ref 149, Value.ref 151, Value.ref 153, Value.ref 154, Value.ref 155, Value.ref 156, Value.ref 157, Value.int (-16384), Value.int 16384, Value.int 0, Value.int 0, Value.int 0, Value.ref 158, Value.ref 159, Value.int 0, Value.int 0, Value.int 0, Value.int 0, Value.int 0, Value.int 0, Value.int 0, Value.int 0]))) (e1 : 0 ≤ a0.toInt) (e2 : 15 < a0.toInt) : xRun (d + 9) 228 [Value.ref 128, Value.int a0, Value.int a1, Value.int a2, Value.int a3] w (.inl (some (Value.int 0))) (((w.set 128 (Sum.inr (12, [Value.ref 129, Value.ref 131, Value.ref 133, Value.ref 135, Value.ref 137, Value.ref 139, Value.ref 141, Value.ref 143, Value.ref 145, Value.ref 147, Value.ref 149, Value.ref 151, Value.ref 153, Value.ref 154, Value.ref 155, Value.ref 156, Value.ref 157, Value.int (-16384), Value.int 16384, Value.int 0, Value.int 0, Value.int 0, Value.ref 158, Value.ref 159, Value.int 0, Value.int 0, Value.int 0, Value.int 0, Value.int 0, Value.int 0, Value.int 0, Value.int 0]))) ++ [Sum.inr (14, [])]).set 128 (Sum.inr (12, [Value.ref 129, Value.ref 131, Value.ref 133, Value.ref 135, Value.ref 137, Value.ref 139, Value.ref 141, Value.ref 143, Value.ref 145, Value.ref 147, Value.ref 149, Value.ref 151, Value.ref 153, Value.ref 154, Value.ref 155, Value.ref 156, Value.ref 157, Value.int (-16384), Value.int 16384, Value.int 0, Value.int 0, Value.int 0, Value.ref 158, Value.ref 159, Value.int 0, Value.int 0, Value.int 0, Value.int 0, Value.int 0, Value.int 0, Value.int 0, Value.int 1]))) := by
  refine xRun.of ?_
  refine i_228_0 (x := 128) rfl ?_
  refine i_228_1 ?_
  refine i_228_2 (fs2 := [Value.ref 129, Value.ref 131, Value.ref 133, Value.ref 135, Value.ref 137, Value.ref 139, Value.ref 141, Value.ref 143, Value.ref 145, Value.ref 147, Value.ref 149, Value.ref 151, Value.ref 153, Value.ref 154, Value.ref 155, Value.ref 156, Value.ref 157, Value.int (-16384), Value.int 16384, Value.int 0, Value.int 0, Value.int 0, Value.ref 158, Value.ref 159, Value.int 0, Value.int 0, Value.int 0, Value.int 0, Value.int 0, Value.int 0, Value.int 0, Value.int 0]) hw0 (Nat.le_of_ble_eq_true rfl) rfl (by decide) ?_
  refine i_228_5 (x := 128) rfl ?_
  refine i_228_6 (x := a0) rfl ?_
  refine i_228_7 (x := a1) rfl ?_
  refine i_228_8 (x := a2) rfl ?_
  refine i_228_9 (x := a3) rfl ?_
  refine j_228_11 (xgs hw0) (Nat.le_of_ble_eq_true rfl) (p_229_24 e1 e2) (xDone.c xgl rfl rfl ?_)
  refine i_228_15 (lv2 := [(5, Value.ref ((w.set 128 (Sum.inr (12, [Value.ref 129, Value.ref 131, Value.ref 133, Value.ref 135, Value.ref 137, Value.ref 139, Value.ref 141, Value.ref 143, Value.ref 145, Value.ref 147, Value.ref 149, Value.ref 151, Value.ref 153, Value.ref 154, Value.ref 155, Value.ref 156, Value.ref 157, Value.int (-16384), Value.int 16384, Value.int 0, Value.int 0, Value.int 0, Value.ref 158, Value.ref 159, Value.int 0, Value.int 0, Value.int 0, Value.int 0, Value.int 0, Value.int 0, Value.int 0, Value.int 0]))).length)), (0, Value.ref 128), (1, Value.int a0), (2, Value.int a1), (3, Value.int a2), (4, Value.int a3)]) rfl ?_
  refine i_228_17 (x := 128) rfl ?_
  refine i_228_18 ?_
  refine i_228_19 (fs2 := [Value.ref 129, Value.ref 131, Value.ref 133, Value.ref 135, Value.ref 137, Value.ref 139, Value.ref 141, Value.ref 143, Value.ref 145, Value.ref 147, Value.ref 149, Value.ref 151, Value.ref 153, Value.ref 154, Value.ref 155, Value.ref 156, Value.ref 157, Value.int (-16384), Value.int 16384, Value.int 0, Value.int 0, Value.int 0, Value.ref 158, Value.ref 159, Value.int 0, Value.int 0, Value.int 0, Value.int 0, Value.int 0, Value.int 0, Value.int 0, Value.int 1]) (xga (xgs hw0)) (Nat.le_of_ble_eq_true rfl) rfl (by decide) ?_
  refine i_228_22 ?_
  exact i_228_23 ⟨rfl, rfl⟩
theorem o_10_24 {d : Nat} {xs : Nat → Int32} (h0 : ((xs 0) &&& (31 : Int32)).toInt = 10) (c0 : 0 ≤ (xs 1).toInt) (c1 : 16 ≤ (xs 1).toInt) : ∃ w1, xEv (d + 20) 287 23 [(4, Value.int 0), (3, Value.ref 194), (2, Value.ref 128), (1, Value.ref 7), (0, Value.ref 0)] [] (W0 6 xs) (fun o' w' => o' = .inl (some (Value.int 1)) ∧ w' = w1) ∧ w1.length ≤ 220 ∧ xsz w1 ≤ 200000 := by
  refine ⟨(((((W0 6 xs) ++ [Sum.inr (14, [])]).set 128 (Sum.inr (12, [Value.ref 129, Value.ref 131, Value.ref 133, Value.ref 135, Value.ref 137, Value.ref 139, Value.ref 141, Value.ref 143, Value.ref 145, Value.ref 147, Value.ref 149, Value.ref 151, Value.ref 153, Value.ref 154, Value.ref 155, Value.ref 156, Value.ref 157, Value.int (-16384), Value.int 16384, Value.int 0, Value.int 0, Value.int 0, Value.ref 158, Value.ref 159, Value.int 0, Value.int 0, Value.int 0, Value.int 0, Value.int 0, Value.int 0, Value.int 0, Value.int 0]))) ++ [Sum.inr (14, [])]).set 128 (Sum.inr (12, [Value.ref 129, Value.ref 131, Value.ref 133, Value.ref 135, Value.ref 137, Value.ref 139, Value.ref 141, Value.ref 143, Value.ref 145, Value.ref 147, Value.ref 149, Value.ref 151, Value.ref 153, Value.ref 154, Value.ref 155, Value.ref 156, Value.ref 157, Value.int (-16384), Value.int 16384, Value.int 0, Value.int 0, Value.int 0, Value.ref 158, Value.ref 159, Value.int 0, Value.int 0, Value.int 0, Value.int 0, Value.int 0, Value.int 0, Value.int 0, Value.int 1]))), ?_, (show xLs _ 220 200000 from ?_)⟩
  · refine i_287_23 (x := 0) rfl ?_
    refine i_287_25 (x := 0) rfl ?_
    refine i_287_26 (c := 6) W0_0 (by decide) ?_
    refine i_287_27 ?_
    refine i_287_29 (c := 0) (by decide) ?_
    refine i_287_30 (fun h => absurd h (by decide)) (fun _ => ?_)
    refine i_287_33 (x := 0) rfl ?_
    refine i_287_34 (x := 0) rfl ?_
    refine i_287_36 (v := Value.int (xs 0)) W0_0 (by decide) (by decide) rfl ?_
    refine i_287_37 ?_
    refine i_287_39 (c := ((xs 0) &&& (31 : Int32))) rfl ?_
    refine i_287_40_10 (by omega) ?_
    refine i_287_1057 (x := 7) rfl ?_
    refine i_287_1058 (x := 0) rfl ?_
    refine i_287_1059 (x := 0) rfl ?_
    refine i_287_1061 ?_
    refine i_287_1062 (c := 1) (by decide) ?_
    refine i_287_1063 (v := Value.int (xs 1)) W0_0 (by decide) (by decide) rfl ?_
    refine i_287_1064 (x := 0) rfl ?_
    refine i_287_1065 (x := 0) rfl ?_
    refine i_287_1067 ?_
    refine i_287_1068 (c := 2) (by decide) ?_
    refine i_287_1069 (v := Value.int (xs 2)) W0_0 (by decide) (by decide) rfl ?_
    refine i_287_1070 (x := 0) rfl ?_
    refine i_287_1071 (x := 0) rfl ?_
    refine i_287_1073 ?_
    refine i_287_1074 (c := 3) (by decide) ?_
    refine i_287_1075 (v := Value.int (xs 3)) W0_0 (by decide) (by decide) rfl ?_
    refine i_287_1076 (x := 0) rfl ?_
    refine i_287_1077 (x := 0) rfl ?_
    refine i_287_1079 ?_
    refine i_287_1080 (c := 4) (by decide) ?_
    refine i_287_1081 (v := Value.int (xs 4)) W0_0 (by decide) (by decide) rfl ?_
    refine i_287_1082 (x := 194) rfl ?_
    refine i_287_1083 (Nat.le_of_ble_eq_true rfl) (p_111_24 W0_7 (by omega) (by omega)) ?_
    refine i_287_1086 (lv2 := [(5, Value.int 1), (4, Value.int 0), (3, Value.ref 194), (2, Value.ref 128), (1, Value.ref 7), (0, Value.ref 0)]) rfl ?_
    refine i_287_1088 (x := 128) rfl ?_
    refine i_287_1089 (x := 0) rfl ?_
    refine i_287_1090 (x := 0) rfl ?_
    refine i_287_1092 ?_
    refine i_287_1093 (c := 1) (by decide) ?_
    refine i_287_1094 (v := Value.int (xs 1)) (xga W0_0) (by decide) (by decide) rfl ?_
    refine i_287_1095 (x := 0) rfl ?_
    refine i_287_1096 (x := 0) rfl ?_
    refine i_287_1098 ?_
    refine i_287_1099 (c := 2) (by decide) ?_
    refine i_287_1100 (v := Value.int (xs 2)) (xga W0_0) (by decide) (by decide) rfl ?_
    refine i_287_1101 (x := 0) rfl ?_
    refine i_287_1102 (x := 0) rfl ?_
    refine i_287_1104 ?_
    refine i_287_1105 (c := 3) (by decide) ?_
    refine i_287_1106 (v := Value.int (xs 3)) (xga W0_0) (by decide) (by decide) rfl ?_
    refine i_287_1107 (x := 0) rfl ?_
    refine i_287_1108 (x := 0) rfl ?_
    refine i_287_1110 ?_
    refine i_287_1111 (c := 4) (by decide) ?_
    refine i_287_1112 (v := Value.int (xs 4)) (xga W0_0) (by decide) (by decide) rfl ?_
    refine i_287_1113 (xga W0_128) (Nat.le_of_ble_eq_true rfl) (p_228_24 (xga W0_128) (by omega) (by omega)) ?_
    refine i_287_1116 (lv2 := [(6, Value.int 0), (5, Value.int 1), (4, Value.int 0), (3, Value.ref 194), (2, Value.ref 128), (1, Value.ref 7), (0, Value.ref 0)]) rfl ?_
    refine i_287_1118 (x := 128) rfl ?_
    refine i_287_1119 (xgs (xga (xgs (xga W0_128)))) (Nat.le_of_ble_eq_true rfl) (p_165_0 (xgs (xga (xgs (xga W0_128))))) ?_
    refine i_287_1122 (x := 1) rfl ?_
    refine i_287_1124 (fun _ => ?_) (fun h => absurd h (by decide))
    refine i_287_1129 (x := 1) rfl ?_
    refine i_287_1131 (fun _ => ?_) (fun h => absurd h (by decide))
    refine i_287_1146 ?_
    refine i_287_2154 (x := 0) (c := 6) (lv2 := [(4, Value.int 6), (6, Value.int 0), (5, Value.int 1), (3, Value.ref 194), (2, Value.ref 128), (1, Value.ref 7), (0, Value.ref 0)]) rfl (by decide) rfl ?_
    refine i_287_2157 ?_
    refine i_287_23 (x := 6) rfl ?_
    refine i_287_25 (x := 0) rfl ?_
    refine i_287_26 (c := 6) (xgn (by decide) (xga (xgn (by decide) (xga W0_0)))) (by decide) ?_
    refine i_287_27 ?_
    refine i_287_29 (c := 0) (by decide) ?_
    refine i_287_30 (fun _ => ?_) (fun h => absurd h (by decide))
    refine i_287_2160 ?_
    exact i_287_2161 rfl ⟨rfl, rfl⟩
  · refine xLs.set ?_ (xga (xgs (xga W0_128))) xcs_o
    refine xLs.app (n := 219) (z := 199994) (m := 6) ?_ rfl
    refine xLs.set ?_ (xga W0_128) xcs_o
    refine xLs.app (n := 218) (z := 199988) (m := 6) ?_ rfl
    exact ⟨Nat.le_trans (Nat.le_of_eq W0_len) (by decide), Nat.le_trans (Nat.le_of_eq W0_sz) (by decide)⟩
theorem op_10 {d : Nat} {xs : Nat → Int32} (h0 : ((xs 0) &&& (31 : Int32)).toInt = 10) : ∃ w1, xEv (d + 20) 287 23 [(4, Value.int 0), (3, Value.ref 194), (2, Value.ref 128), (1, Value.ref 7), (0, Value.ref 0)] [] (W0 6 xs) (fun o' w' => o' = .inl (some (Value.int 1)) ∧ w' = w1) ∧ w1.length ≤ 220 ∧ xsz w1 ≤ 200000 := by
  rcases Int.lt_or_le (xs 1).toInt (0) with c0 | c0
  · exact o_10_0 h0 c0
  · rcases Int.lt_or_le (xs 1).toInt (16) with c1 | c1
    · rcases Int.lt_or_le (xs 2).toInt (0) with c2 | c2
      · exact o_10_1 h0 c0 c1 c2
      · rcases Int.lt_or_le (xs 2).toInt (16) with c3 | c3
        · rcases Int.lt_or_le (xs 3).toInt (1) with c4 | c4
          · exact o_10_2 h0 c0 c1 c2 c3 c4
          · rcases Int.lt_or_le (16) (xs 3).toInt with c5 | c5
            · exact o_10_3 h0 c0 c1 c2 c3 c4 c5
            · rcases Int.lt_or_le (16) ((xs 2) + (xs 3)).toInt with c6 | c6
              · exact o_10_4 h0 c0 c1 c2 c3 c4 c5 c6
              · rcases Int.lt_or_le (xs 4).toInt (0) with c7 | c7
                · exact o_10_5 h0 c0 c1 c2 c3 c4 c5 c6 c7
                · rcases Int.lt_or_le (4) (xs 4).toInt with c8 | c8
                  · exact o_10_6 h0 c0 c1 c2 c3 c4 c5 c6 c7 c8
                  · rcases Int.lt_or_le ((xs 2) + (1 : Int32)).toInt ((xs 2) + (xs 3)).toInt with c9 | c9
                    · rcases Int.lt_or_le (((xs 2) + (1 : Int32)) + (1 : Int32)).toInt ((xs 2) + (xs 3)).toInt with c10 | c10
                      · rcases Int.lt_or_le ((((xs 2) + (1 : Int32)) + (1 : Int32)) + (1 : Int32)).toInt ((xs 2) + (xs 3)).toInt with c11 | c11
                        · rcases Int.lt_or_le (((((xs 2) + (1 : Int32)) + (1 : Int32)) + (1 : Int32)) + (1 : Int32)).toInt ((xs 2) + (xs 3)).toInt with c12 | c12
                          · rcases Int.lt_or_le ((((((xs 2) + (1 : Int32)) + (1 : Int32)) + (1 : Int32)) + (1 : Int32)) + (1 : Int32)).toInt ((xs 2) + (xs 3)).toInt with c13 | c13
                            · rcases Int.lt_or_le (((((((xs 2) + (1 : Int32)) + (1 : Int32)) + (1 : Int32)) + (1 : Int32)) + (1 : Int32)) + (1 : Int32)).toInt ((xs 2) + (xs 3)).toInt with c14 | c14
                              · rcases Int.lt_or_le ((((((((xs 2) + (1 : Int32)) + (1 : Int32)) + (1 : Int32)) + (1 : Int32)) + (1 : Int32)) + (1 : Int32)) + (1 : Int32)).toInt ((xs 2) + (xs 3)).toInt with c15 | c15
                                · rcases Int.lt_or_le (((((((((xs 2) + (1 : Int32)) + (1 : Int32)) + (1 : Int32)) + (1 : Int32)) + (1 : Int32)) + (1 : Int32)) + (1 : Int32)) + (1 : Int32)).toInt ((xs 2) + (xs 3)).toInt with c16 | c16
                                  · rcases Int.lt_or_le ((((((((((xs 2) + (1 : Int32)) + (1 : Int32)) + (1 : Int32)) + (1 : Int32)) + (1 : Int32)) + (1 : Int32)) + (1 : Int32)) + (1 : Int32)) + (1 : Int32)).toInt ((xs 2) + (xs 3)).toInt with c17 | c17
                                    · rcases Int.lt_or_le (((((((((((xs 2) + (1 : Int32)) + (1 : Int32)) + (1 : Int32)) + (1 : Int32)) + (1 : Int32)) + (1 : Int32)) + (1 : Int32)) + (1 : Int32)) + (1 : Int32)) + (1 : Int32)).toInt ((xs 2) + (xs 3)).toInt with c18 | c18
                                      · rcases Int.lt_or_le ((((((((((((xs 2) + (1 : Int32)) + (1 : Int32)) + (1 : Int32)) + (1 : Int32)) + (1 : Int32)) + (1 : Int32)) + (1 : Int32)) + (1 : Int32)) + (1 : Int32)) + (1 : Int32)) + (1 : Int32)).toInt ((xs 2) + (xs 3)).toInt with c19 | c19
                                        · rcases Int.lt_or_le (((((((((((((xs 2) + (1 : Int32)) + (1 : Int32)) + (1 : Int32)) + (1 : Int32)) + (1 : Int32)) + (1 : Int32)) + (1 : Int32)) + (1 : Int32)) + (1 : Int32)) + (1 : Int32)) + (1 : Int32)) + (1 : Int32)).toInt ((xs 2) + (xs 3)).toInt with c20 | c20
                                          · rcases Int.lt_or_le ((((((((((((((xs 2) + (1 : Int32)) + (1 : Int32)) + (1 : Int32)) + (1 : Int32)) + (1 : Int32)) + (1 : Int32)) + (1 : Int32)) + (1 : Int32)) + (1 : Int32)) + (1 : Int32)) + (1 : Int32)) + (1 : Int32)) + (1 : Int32)).toInt ((xs 2) + (xs 3)).toInt with c21 | c21
                                            · rcases Int.lt_or_le (((((((((((((((xs 2) + (1 : Int32)) + (1 : Int32)) + (1 : Int32)) + (1 : Int32)) + (1 : Int32)) + (1 : Int32)) + (1 : Int32)) + (1 : Int32)) + (1 : Int32)) + (1 : Int32)) + (1 : Int32)) + (1 : Int32)) + (1 : Int32)) + (1 : Int32)).toInt ((xs 2) + (xs 3)).toInt with c22 | c22
                                              · rcases Int.lt_or_le ((((((((((((((((xs 2) + (1 : Int32)) + (1 : Int32)) + (1 : Int32)) + (1 : Int32)) + (1 : Int32)) + (1 : Int32)) + (1 : Int32)) + (1 : Int32)) + (1 : Int32)) + (1 : Int32)) + (1 : Int32)) + (1 : Int32)) + (1 : Int32)) + (1 : Int32)) + (1 : Int32)).toInt ((xs 2) + (xs 3)).toInt with c23 | c23
                                                · exact o_10_7 h0 c0 c1 c2 c3 c4 c5 c6 c7 c8 c9 c10 c11 c12 c13 c14 c15 c16 c17 c18 c19 c20 c21 c22 c23
                                                · exact o_10_8 h0 c0 c1 c2 c3 c4 c5 c6 c7 c8 c9 c10 c11 c12 c13 c14 c15 c16 c17 c18 c19 c20 c21 c22 c23
                                              · exact o_10_9 h0 c0 c1 c2 c3 c4 c5 c6 c7 c8 c9 c10 c11 c12 c13 c14 c15 c16 c17 c18 c19 c20 c21 c22
                                            · exact o_10_10 h0 c0 c1 c2 c3 c4 c5 c6 c7 c8 c9 c10 c11 c12 c13 c14 c15 c16 c17 c18 c19 c20 c21
                                          · exact o_10_11 h0 c0 c1 c2 c3 c4 c5 c6 c7 c8 c9 c10 c11 c12 c13 c14 c15 c16 c17 c18 c19 c20
                                        · exact o_10_12 h0 c0 c1 c2 c3 c4 c5 c6 c7 c8 c9 c10 c11 c12 c13 c14 c15 c16 c17 c18 c19
                                      · exact o_10_13 h0 c0 c1 c2 c3 c4 c5 c6 c7 c8 c9 c10 c11 c12 c13 c14 c15 c16 c17 c18
                                    · exact o_10_14 h0 c0 c1 c2 c3 c4 c5 c6 c7 c8 c9 c10 c11 c12 c13 c14 c15 c16 c17
                                  · exact o_10_15 h0 c0 c1 c2 c3 c4 c5 c6 c7 c8 c9 c10 c11 c12 c13 c14 c15 c16
                                · exact o_10_16 h0 c0 c1 c2 c3 c4 c5 c6 c7 c8 c9 c10 c11 c12 c13 c14 c15
                              · exact o_10_17 h0 c0 c1 c2 c3 c4 c5 c6 c7 c8 c9 c10 c11 c12 c13 c14
                            · exact o_10_18 h0 c0 c1 c2 c3 c4 c5 c6 c7 c8 c9 c10 c11 c12 c13
                          · exact o_10_19 h0 c0 c1 c2 c3 c4 c5 c6 c7 c8 c9 c10 c11 c12
                        · exact o_10_20 h0 c0 c1 c2 c3 c4 c5 c6 c7 c8 c9 c10 c11
                      · exact o_10_21 h0 c0 c1 c2 c3 c4 c5 c6 c7 c8 c9 c10
                    · exact o_10_22 h0 c0 c1 c2 c3 c4 c5 c6 c7 c8 c9
        · exact o_10_23 h0 c0 c1 c2 c3
    · exact o_10_24 h0 c0 c1
