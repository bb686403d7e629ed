theorem p_115_0 {d : Nat} {w : xW} {a0 : Int32} {a1 : Int32} {a2 : Int32} {a3 : Int32} {a4 : Int32} (e0 : a0.toInt < 0) : xRun (d + 6) 115 [Value.ref 7, Value.int a0, Value.int a1, Value.int a2, Value.int a3, Value.int a4] w (.inr w.length) (w ++ [Sum.inr (14, [])]) := by
  refine xRun.of ?_
  refine i_115_0 (x := a0) rfl ?_
  refine i_115_1 (Nat.le_of_ble_eq_true rfl) (p_15_0 e0) ?_
  refine i_115_4 (fun _ => ?_) (fun h => absurd h (by decide))
  exact i_115_33 (by omega) (Nat.le_of_ble_eq_true rfl) ⟨rfl, rfl⟩
theorem p_114_0 {d : Nat} {w : xW} {a0 : Int32} {a1 : Int32} {a2 : Int32} {a3 : Int32} {a4 : Int32} (hw0 : w[7]? = some (Sum.inr (0, [Value.ref 8, Value.ref 78, Value.ref 9, Value.ref 10, Value.ref 13, Value.ref 16, Value.ref 19, Value.ref 93, Value.ref 108, Value.ref 113, Value.ref 29, Value.int 0]))) (e1 : a0.toInt < 0) : xRun (d + 7) 114 [Value.ref 7, Value.int a0, Value.int a1, Value.int a2, Value.int a3, Value.int a4, Value.ref 194] w (.inl (some (Value.int 1))) (w ++ [Sum.inr (14, [])]) := by
  refine xRun.of ?_
  refine i_114_0 (x := 194) rfl ?_
  refine i_114_2 ?_
  refine i_114_3 (x := 7) rfl ?_
  refine i_114_4 (x := a0) rfl ?_
  refine i_114_5 (x := a1) rfl ?_
  refine i_114_6 (x := a2) rfl ?_
  refine i_114_7 (x := a3) rfl ?_
  refine i_114_9 (x := a4) rfl ?_
  refine j_114_11 hw0 (Nat.le_of_ble_eq_true rfl) (p_115_0 e1) (xDone.c xgl rfl rfl ?_)
  refine i_114_19 (lv2 := [(7, Value.ref w.length), (0, Value.ref 7), (1, Value.int a0), (2, Value.int a1), (3, Value.int a2), (4, Value.int a3), (5, Value.int a4), (6, Value.ref 194)]) rfl ?_
  refine i_114_21 ?_
  exact i_114_22 ⟨rfl, rfl⟩
theorem p_231_0 {d : Nat} {w : xW} {a0 : Int32} {a1 : Int32} {a2 : Int32} {a3 : Int32} {a4 : Int32} (e0 : a0.toInt < 0) : xRun (d + 8) 231 [Value.ref 128, Value.int a0, Value.int a1, Value.int a2, Value.int a3, Value.int a4] w (.inr w.length) (w ++ [Sum.inr (14, [])]) := by
  refine xRun.of ?_
  refine i_231_0 (x := a0) rfl ?_
  exact j_231_1 (Nat.le_of_ble_eq_true rfl) (p_168_0 e0) (xDone.t xgl rfl rfl ⟨rfl, rfl⟩)
theorem p_230_0 {d : Nat} {w : xW} {a0 : Int32} {a1 : Int32} {a2 : Int32} {a3 : Int32} {a4 : Int32} (hw0 : w[128]? = some (Sum.inr (12, [Value.ref 129, Value.ref 131, Value.ref 133, Value.ref 135, Value.ref 137, Value.ref 139, Value.ref 141, Value.ref 143, Value.ref 145, Value.ref 147, Value.ref 149, Value.ref 151, Value.ref 153, Value.ref 154, Value.ref 155, Value.ref 156, Value.ref 157, Value.int (-16384), Value.int 16384, Value.int 0, Value.int 0, Value.int 0, Value.ref 158, Value.ref 159, Value.int 0, Value.int 0, Value.int 0, Value.int 0, Value.int 0, Value.int 0, Value.int 0, Value.int 0]))) (e1 : a0.toInt < 0) : xRun (d + 9) 230 [Value.ref 128, Value.int a0, Value.int a1, Value.int a2, Value.int a3, Value.int a4] w (.inl (some (Value.int 0))) (((w.set 128 (Sum.inr (12, [Value.ref 129, Value.ref 131, Value.ref 133, Value.ref 135, Value.ref 137, Value.ref 139, Value.ref 141, Value.ref 143, Value.ref 145, Value.ref 147, Value.ref 149, Value.ref 151, Value.ref 153, Value.ref 154, Value.ref 155, Value.ref 156, Value.ref 157, Value.int (-16384), Value.int 16384, Value.int 0, Value.int 0, Value.int 0, Value.ref 158, Value.ref 159, Value.int 0, Value.int 0, Value.int 0, Value.int 0, Value.int 0, Value.int 0, Value.int 0, Value.int 0]))) ++ [Sum.inr (14, [])]).set 128 (Sum.inr (12, [Value.ref 129, Value.ref 131, Value.ref 133, Value.ref 135, Value.ref 137, Value.ref 139, Value.ref 141, Value.ref 143, Value.ref 145, Value.ref 147, Value.ref 149, Value.ref 151, Value.ref 153, Value.ref 154, Value.ref 155, Value.ref 156, Value.ref 157, Value.int (-16384), Value.int 16384, Value.int 0, Value.int 0, Value.int 0, Value.ref 158, Value.ref 159, Value.int 0, Value.int 0, Value.int 0, Value.int 0, Value.int 0, Value.int 0, Value.int 0, Value.int 1]))) := by
  refine xRun.of ?_
  refine i_230_0 (x := 128) rfl ?_
  refine i_230_1 ?_
  refine i_230_2 (fs2 := [Value.ref 129, Value.ref 131, Value.ref 133, Value.ref 135, Value.ref 137, Value.ref 139, Value.ref 141, Value.ref 143, Value.ref 145, Value.ref 147, Value.ref 149, Value.ref 151, Value.ref 153, Value.ref 154, Value.ref 155, Value.ref 156, Value.ref 157, Value.int (-16384), Value.int 16384, Value.int 0, Value.int 0, Value.int 0, Value.ref 158, Value.ref 159, Value.int 0, Value.int 0, Value.int 0, Value.int 0, Value.int 0, Value.int 0, Value.int 0, Value.int 0]) hw0 (Nat.le_of_ble_eq_true rfl) rfl (by decide) ?_
  refine i_230_5 (x := 128) rfl ?_
  refine i_230_6 (x := a0) rfl ?_
  refine i_230_7 (x := a1) rfl ?_
  refine i_230_8 (x := a2) rfl ?_
  refine i_230_9 (x := a3) rfl ?_
  refine i_230_11 (x := a4) rfl ?_
  refine j_230_13 (xgs hw0) (Nat.le_of_ble_eq_true rfl) (p_231_0 e1) (xDone.c xgl rfl rfl ?_)
  refine i_230_17 (lv2 := [(6, Value.ref ((w.set 128 (Sum.inr (12, [Value.ref 129, Value.ref 131, Value.ref 133, Value.ref 135, Value.ref 137, Value.ref 139, Value.ref 141, Value.ref 143, Value.ref 145, Value.ref 147, Value.ref 149, Value.ref 151, Value.ref 153, Value.ref 154, Value.ref 155, Value.ref 156, Value.ref 157, Value.int (-16384), Value.int 16384, Value.int 0, Value.int 0, Value.int 0, Value.ref 158, Value.ref 159, Value.int 0, Value.int 0, Value.int 0, Value.int 0, Value.int 0, Value.int 0, Value.int 0, Value.int 0]))).length)), (0, Value.ref 128), (1, Value.int a0), (2, Value.int a1), (3, Value.int a2), (4, Value.int a3), (5, Value.int a4)]) rfl ?_
  refine i_230_19 (x := 128) rfl ?_
  refine i_230_20 ?_
  refine i_230_21 (fs2 := [Value.ref 129, Value.ref 131, Value.ref 133, Value.ref 135, Value.ref 137, Value.ref 139, Value.ref 141, Value.ref 143, Value.ref 145, Value.ref 147, Value.ref 149, Value.ref 151, Value.ref 153, Value.ref 154, Value.ref 155, Value.ref 156, Value.ref 157, Value.int (-16384), Value.int 16384, Value.int 0, Value.int 0, Value.int 0, Value.ref 158, Value.ref 159, Value.int 0, Value.int 0, Value.int 0, Value.int 0, Value.int 0, Value.int 0, Value.int 0, Value.int 1]) (xga (xgs hw0)) (Nat.le_of_ble_eq_true rfl) rfl (by decide) ?_
  refine i_230_24 ?_
  exact i_230_25 ⟨rfl, rfl⟩
theorem o_11_0 {d : Nat} {xs : Nat → Int32} (h0 : ((xs 0) &&& (31 : Int32)).toInt = 11) (c0 : (xs 1).toInt < 0) : ∃ w1, xEv (d + 20) 287 23 [(4, Value.int 0), (3, Value.ref 194), (2, Value.ref 128), (1, Value.ref 7), (0, Value.ref 0)] [] (W0 6 xs) (fun o' w' => o' = .inl (some (Value.int 1)) ∧ w' = w1) ∧ w1.length ≤ 220 ∧ xsz w1 ≤ 200000 := by
  refine ⟨(((((W0 6 xs) ++ [Sum.inr (14, [])]).set 128 (Sum.inr (12, [Value.ref 129, Value.ref 131, Value.ref 133, Value.ref 135, Value.ref 137, Value.ref 139, Value.ref 141, Value.ref 143, Value.ref 145, Value.ref 147, Value.ref 149, Value.ref 151, Value.ref 153, Value.ref 154, Value.ref 155, Value.ref 156, Value.ref 157, Value.int (-16384), Value.int 16384, Value.int 0, Value.int 0, Value.int 0, Value.ref 158, Value.ref 159, Value.int 0, Value.int 0, Value.int 0, Value.int 0, Value.int 0, Value.int 0, Value.int 0, Value.int 0]))) ++ [Sum.inr (14, [])]).set 128 (Sum.inr (12, [Value.ref 129, Value.ref 131, Value.ref 133, Value.ref 135, Value.ref 137, Value.ref 139, Value.ref 141, Value.ref 143, Value.ref 145, Value.ref 147, Value.ref 149, Value.ref 151, Value.ref 153, Value.ref 154, Value.ref 155, Value.ref 156, Value.ref 157, Value.int (-16384), Value.int 16384, Value.int 0, Value.int 0, Value.int 0, Value.ref 158, Value.ref 159, Value.int 0, Value.int 0, Value.int 0, Value.int 0, Value.int 0, Value.int 0, Value.int 0, Value.int 1]))), ?_, (show xLs _ 220 200000 from ?_)⟩
  · refine i_287_23 (x := 0) rfl ?_
    refine i_287_25 (x := 0) rfl ?_
    refine i_287_26 (c := 6) W0_0 (by decide) ?_
    refine i_287_27 ?_
    refine i_287_29 (c := 0) (by decide) ?_
    refine i_287_30 (fun h => absurd h (by decide)) (fun _ => ?_)
    refine i_287_33 (x := 0) rfl ?_
    refine i_287_34 (x := 0) rfl ?_
    refine i_287_36 (v := Value.int (xs 0)) W0_0 (by decide) (by decide) rfl ?_
    refine i_287_37 ?_
    refine i_287_39 (c := 11) (show ((xs 0) &&& (31 : Int32)) = 11 from (xge_c (n := 11) (by omega) rfl)) ?_
    refine i_287_40_11 rfl ?_
    refine i_287_1149 (x := 7) rfl ?_
    refine i_287_1150 (x := 0) rfl ?_
    refine i_287_1151 (x := 0) rfl ?_
    refine i_287_1153 ?_
    refine i_287_1154 (c := 1) (by decide) ?_
    refine i_287_1155 (v := Value.int (xs 1)) W0_0 (by decide) (by decide) rfl ?_
    refine i_287_1156 (x := 0) rfl ?_
    refine i_287_1157 (x := 0) rfl ?_
    refine i_287_1159 ?_
    refine i_287_1160 (c := 2) (by decide) ?_
    refine i_287_1161 (v := Value.int (xs 2)) W0_0 (by decide) (by decide) rfl ?_
    refine i_287_1162 (x := 0) rfl ?_
    refine i_287_1163 (x := 0) rfl ?_
    refine i_287_1165 ?_
    refine i_287_1166 (c := 3) (by decide) ?_
    refine i_287_1167 (v := Value.int (xs 3)) W0_0 (by decide) (by decide) rfl ?_
    refine i_287_1168 (x := 0) rfl ?_
    refine i_287_1169 (x := 0) rfl ?_
    refine i_287_1171 ?_
    refine i_287_1172 (c := 4) (by decide) ?_
    refine i_287_1173 (v := Value.int (xs 4)) W0_0 (by decide) (by decide) rfl ?_
    refine i_287_1174 (x := 0) rfl ?_
    refine i_287_1175 (x := 0) rfl ?_
    refine i_287_1177 ?_
    refine i_287_1178 (c := 5) (by decide) ?_
    refine i_287_1179 (v := Value.int (xs 5)) W0_0 (by decide) (by decide) rfl ?_
    refine i_287_1180 (x := 194) rfl ?_
    refine i_287_1181 (Nat.le_of_ble_eq_true rfl) (p_114_0 W0_7 (by omega)) ?_
    refine i_287_1184 (lv2 := [(5, Value.int 1), (4, Value.int 0), (3, Value.ref 194), (2, Value.ref 128), (1, Value.ref 7), (0, Value.ref 0)]) rfl ?_
    refine i_287_1186 (x := 128) rfl ?_
    refine i_287_1187 (x := 0) rfl ?_
    refine i_287_1188 (x := 0) rfl ?_
    refine i_287_1190 ?_
    refine i_287_1191 (c := 1) (by decide) ?_
    refine i_287_1192 (v := Value.int (xs 1)) (xga W0_0) (by decide) (by decide) rfl ?_
    refine i_287_1193 (x := 0) rfl ?_
    refine i_287_1194 (x := 0) rfl ?_
    refine i_287_1196 ?_
    refine i_287_1197 (c := 2) (by decide) ?_
    refine i_287_1198 (v := Value.int (xs 2)) (xga W0_0) (by decide) (by decide) rfl ?_
    refine i_287_1199 (x := 0) rfl ?_
    refine i_287_1200 (x := 0) rfl ?_
    refine i_287_1202 ?_
    refine i_287_1203 (c := 3) (by decide) ?_
    refine i_287_1204 (v := Value.int (xs 3)) (xga W0_0) (by decide) (by decide) rfl ?_
    refine i_287_1205 (x := 0) rfl ?_
    refine i_287_1206 (x := 0) rfl ?_
    refine i_287_1208 ?_
    refine i_287_1209 (c := 4) (by decide) ?_
    refine i_287_1210 (v := Value.int (xs 4)) (xga W0_0) (by decide) (by decide) rfl ?_
    refine i_287_1211 (x := 0) rfl ?_
    refine i_287_1212 (x := 0) rfl ?_
    refine i_287_1214 ?_
    refine i_287_1215 (c := 5) (by decide) ?_
    refine i_287_1216 (v := Value.int (xs 5)) (xga W0_0) (by decide) (by decide) rfl ?_
    refine i_287_1217 (xga W0_128) (Nat.le_of_ble_eq_true rfl) (p_230_0 (xga W0_128) (by omega)) ?_
    refine i_287_1220 (lv2 := [(6, Value.int 0), (5, Value.int 1), (4, Value.int 0), (3, Value.ref 194), (2, Value.ref 128), (1, Value.ref 7), (0, Value.ref 0)]) rfl ?_
    refine i_287_1222 (x := 128) rfl ?_
    refine i_287_1223 (xgs (xga (xgs (xga W0_128)))) (Nat.le_of_ble_eq_true rfl) (p_165_0 (xgs (xga (xgs (xga W0_128))))) ?_
    refine i_287_1226 (x := 1) rfl ?_
    refine i_287_1228 (fun _ => ?_) (fun h => absurd h (by decide))
    refine i_287_1233 (x := 1) rfl ?_
    refine i_287_1235 (fun _ => ?_) (fun h => absurd h (by decide))
    refine i_287_1250 ?_
    refine i_287_2154 (x := 0) (c := 6) (lv2 := [(4, Value.int 6), (6, Value.int 0), (5, Value.int 1), (3, Value.ref 194), (2, Value.ref 128), (1, Value.ref 7), (0, Value.ref 0)]) rfl (by decide) rfl ?_
    refine i_287_2157 ?_
    refine i_287_23 (x := 6) rfl ?_
    refine i_287_25 (x := 0) rfl ?_
    refine i_287_26 (c := 6) (xgn (by decide) (xga (xgn (by decide) (xga W0_0)))) (by decide) ?_
    refine i_287_27 ?_
    refine i_287_29 (c := 0) (by decide) ?_
    refine i_287_30 (fun _ => ?_) (fun h => absurd h (by decide))
    refine i_287_2160 ?_
    exact i_287_2161 rfl ⟨rfl, rfl⟩
  · refine xLs.set ?_ (xga (xgs (xga W0_128))) xcs_o
    refine xLs.app (n := 219) (z := 199994) (m := 6) ?_ rfl
    refine xLs.set ?_ (xga W0_128) xcs_o
    refine xLs.app (n := 218) (z := 199988) (m := 6) ?_ rfl
    exact ⟨Nat.le_trans (Nat.le_of_eq W0_len) (by decide), Nat.le_trans (Nat.le_of_eq W0_sz) (by decide)⟩
theorem p_115_1 {d : Nat} {w : xW} {a0 : Int32} {a1 : Int32} {a2 : Int32} {a3 : Int32} {a4 : Int32} (e0 : 0 ≤ a0.toInt) (e1 : a0.toInt < 16) (e2 : a1.toInt < 0) : xRun (d + 6) 115 [Value.ref 7, Value.int a0, Value.int a1, Value.int a2, Value.int a3, Value.int a4] w (.inr w.length) (w ++ [Sum.inr (14, [])]) := by
  refine xRun.of ?_
  refine i_115_0 (x := a0) rfl ?_
  refine i_115_1 (Nat.le_of_ble_eq_true rfl) (p_15_1 e0 e1) ?_
  refine i_115_4 (fun h => absurd h (by decide)) (fun _ => ?_)
  refine i_115_7 (x := a1) rfl ?_
  refine i_115_8 (x := a3) rfl ?_
  refine i_115_10 (Nat.le_of_ble_eq_true rfl) (p_113_0 e2) ?_
  refine i_115_13 (fun _ => ?_) (fun h => absurd h (by decide))
  exact i_115_33 (by omega) (Nat.le_of_ble_eq_true rfl) ⟨rfl, rfl⟩
theorem p_114_1 {d : Nat} {w : xW} {a0 : Int32} {a1 : Int32} {a2 : Int32} {a3 : Int32} {a4 : Int32} (hw0 : w[7]? = some (Sum.inr (0, [Value.ref 8, Value.ref 78, Value.ref 9, Value.ref 10, Value.ref 13, Value.ref 16, Value.ref 19, Value.ref 93, Value.ref 108, Value.ref 113, Value.ref 29, Value.int 0]))) (e1 : 0 ≤ a0.toInt) (e2 : a0.toInt < 16) (e3 : a1.toInt < 0) : xRun (d + 7) 114 [Value.ref 7, Value.int a0, Value.int a1, Value.int a2, Value.int a3, Value.int a4, Value.ref 194] w (.inl (some (Value.int 1))) (w ++ [Sum.inr (14, [])]) := by
  refine xRun.of ?_
  refine i_114_0 (x := 194) rfl ?_
  refine i_114_2 ?_
  refine i_114_3 (x := 7) rfl ?_
  refine i_114_4 (x := a0) rfl ?_
  refine i_114_5 (x := a1) rfl ?_
  refine i_114_6 (x := a2) rfl ?_
  refine i_114_7 (x := a3) rfl ?_
  refine i_114_9 (x := a4) rfl ?_
  refine j_114_11 hw0 (Nat.le_of_ble_eq_true rfl) (p_115_1 e1 e2 e3) (xDone.c xgl rfl rfl ?_)
  refine i_114_19 (lv2 := [(7, Value.ref w.length), (0, Value.ref 7), (1, Value.int a0), (2, Value.int a1), (3, Value.int a2), (4, Value.int a3), (5, Value.int a4), (6, Value.ref 194)]) rfl ?_
  refine i_114_21 ?_
  exact i_114_22 ⟨rfl, rfl⟩
theorem p_231_1 {d : Nat} {w : xW} {a0 : Int32} {a1 : Int32} {a2 : Int32} {a3 : Int32} {a4 : Int32} (e0 : 0 ≤ a0.toInt) (e1 : a0.toInt ≤ 15) (e2 : a1.toInt < 0) : xRun (d + 8) 231 [Value.ref 128, Value.int a0, Value.int a1, Value.int a2, Value.int a3, Value.int a4] w (.inr w.length) (w ++ [Sum.inr (14, [])]) := by
  refine xRun.of ?_
  refine i_231_0 (x := a0) rfl ?_
  refine i_231_1 (Nat.le_of_ble_eq_true rfl) (p_168_1 e0 e1) ?_
  refine i_231_4 (x := a1) rfl ?_
  exact j_231_5 (Nat.le_of_ble_eq_true rfl) (p_168_0 e2) (xDone.t xgl rfl rfl ⟨rfl, rfl⟩)
theorem p_230_1 {d : Nat} {w : xW} {a0 : Int32} {a1 : Int32} {a2 : Int32} {a3 : Int32} {a4 : Int32} (hw0 : w[128]? = some (Sum.inr (12, [Value.ref 129, Value.ref 131, Value.ref 133, Value.ref 135, Value.ref 137, Value.ref 139, Value.ref 141, Value.ref 143, Value.ref 145, Value.ref 147, Value.ref 149, Value.ref 151, Value.ref 153, Value.ref 154, Value.ref 155, Value.ref 156, Value.ref 157, Value.int (-16384), Value.int 16384, Value.int 0, Value.int 0, Value.int 0, Value.ref 158, Value.ref 159, Value.int 0, Value.int 0, Value.int 0, Value.int 0, Value.int 0, Value.int 0, Value.int 0, Value.int 0]))) (e1 : 0 ≤ a0.toInt) (e2 : a0.toInt ≤ 15) (e3 : a1.toInt < 0) : xRun (d + 9) 230 [Value.ref 128, Value.int a0, Value.int a1, Value.int a2, Value.int a3, Value.int a4] w (.inl (some (Value.int 0))) (((w.set 128 (Sum.inr (12, [Value.ref 129, Value.ref 131, Value.ref 133, Value.ref 135, Value.ref 137, Value.ref 139, Value.ref 141, Value.ref 143, Value.ref 145, Value.ref 147, Value.ref 149, Value.ref 151, Value.ref 153, Value.ref 154, Value.ref 155, Value.ref 156, Value.ref 157, Value.int (-16384), Value.int 16384, Value.int 0, Value.int 0, Value.int 0, Value.ref 158, Value.ref 159, Value.int 0, Value.int 0, Value.int 0, Value.int 0, Value.int 0, Value.int 0, Value.int 0, Value.int 0]))) ++ [Sum.inr (14, [])]).set 128 (Sum.inr (12, [Value.ref 129, Value.ref 131, Value.ref 133, Value.ref 135, Value.ref 137, Value.ref 139, Value.ref 141, Value.ref 143, Value.ref 145, Value.ref 147, Value.ref 149, Value.ref 151, Value.ref 153, Value.ref 154, Value.ref 155, Value.ref 156, Value.ref 157, Value.int (-16384), Value.int 16384, Value.int 0, Value.int 0, Value.int 0, Value.ref 158, Value.ref 159, Value.int 0, Value.int 0, Value.int 0, Value.int 0, Value.int 0, Value.int 0, Value.int 0, Value.int 1]))) := by
  refine xRun.of ?_
  refine i_230_0 (x := 128) rfl ?_
  refine i_230_1 ?_
  refine i_230_2 (fs2 := [Value.ref 129, Value.ref 131, Value.ref 133, Value.ref 135, Value.ref 137, Value.ref 139, Value.ref 141, Value.ref 143, Value.ref 145, Value.ref 147, Value.ref 149, Value.ref 151, Value.ref 153, Value.ref 154, Value.ref 155, Value.ref 156, Value.ref 157, Value.int (-16384), Value.int 16384, Value.int 0, Value.int 0, Value.int 0, Value.ref 158, Value.ref 159, Value.int 0, Value.int 0, Value.int 0, Value.int 0, Value.int 0, Value.int 0, Value.int 0, Value.int 0]) hw0 (Nat.le_of_ble_eq_true rfl) rfl (by decide) ?_
  refine i_230_5 (x := 128) rfl ?_
  refine i_230_6 (x := a0) rfl ?_
  refine i_230_7 (x := a1) rfl ?_
  refine i_230_8 (x := a2) rfl ?_
  refine i_230_9 (x := a3) rfl ?_
  refine i_230_11 (x := a4) rfl ?_
  refine j_230_13 (xgs hw0) (Nat.le_of_ble_eq_true rfl) (p_231_1 e1 e2 e3) (xDone.c xgl rfl rfl ?_)
  refine i_230_17 (lv2 := [(6, Value.ref ((w.set 128 (Sum.inr (12, [Value.ref 129, Value.ref 131, Value.ref 133, Value.ref 135, Value.ref 137, Value.ref 139, Value.ref 141, Value.ref 143, Value.ref 145, Value.ref 147, Value.ref 149, Value.ref 151, Value.ref 153, Value.ref 154, Value.ref 155, Value.ref 156, Value.ref 157, Value.int (-16384), Value.int 16384, Value.int 0, Value.int 0, Value.int 0, Value.ref 158, Value.ref 159, Value.int 0, Value.int 0, Value.int 0, Value.int 0, Value.int 0, Value.int 0, Value.int 0, Value.int 0]))).length)), (0, Value.ref 128), (1, Value.int a0), (2, Value.int a1), (3, Value.int a2), (4, Value.int a3), (5, Value.int a4)]) rfl ?_
  refine i_230_19 (x := 128) rfl ?_
  refine i_230_20 ?_
  refine i_230_21 (fs2 := [Value.ref 129, Value.ref 131, Value.ref 133, Value.ref 135, Value.ref 137, Value.ref 139, Value.ref 141, Value.ref 143, Value.ref 145, Value.ref 147, Value.ref 149, Value.ref 151, Value.ref 153, Value.ref 154, Value.ref 155, Value.ref 156, Value.ref 157, Value.int (-16384), Value.int 16384, Value.int 0, Value.int 0, Value.int 0, Value.ref 158, Value.ref 159, Value.int 0, Value.int 0, Value.int 0, Value.int 0, Value.int 0, Value.int 0, Value.int 0, Value.int 1]) (xga (xgs hw0)) (Nat.le_of_ble_eq_true rfl) rfl (by decide) ?_
  refine i_230_24 ?_
  exact i_230_25 ⟨rfl, rfl⟩
theorem o_11_1 {d : Nat} {xs : Nat → Int32} (h0 : ((xs 0) &&& (31 : Int32)).toInt = 11) (c0 : 0 ≤ (xs 1).toInt) (c1 : (xs 1).toInt < 16) (c2 : (xs 2).toInt < 0) : ∃ w1, xEv (d + 20) 287 23 [(4, Value.int 0), (3, Value.ref 194), (2, Value.ref 128), (1, Value.ref 7), (0, Value.ref 0)] [] (W0 6 xs) (fun o' w' => o' = .inl (some (Value.int 1)) ∧ w' = w1) ∧ w1.length ≤ 220 ∧ xsz w1 ≤ 200000 := by
  refine ⟨(((((W0 6 xs) ++ [Sum.inr (14, [])]).set 128 (Sum.inr (12, [Value.ref 129, Value.ref 131, Value.ref 133, Value.ref 135, Value.ref 137, Value.ref 139, Value.ref 141, Value.ref 143, Value.ref 145, Value.ref 147, Value.ref 149, Value.ref 151, Value.ref 153, Value.ref 154, Value.ref 155, Value.ref 156, Value.ref 157, Value.int (-16384), Value.int 16384, Value.int 0, Value.int 0, Value.int 0, Value.ref 158, Value.ref 159, Value.int 0, Value.int 0, Value.int 0, Value.int 0, Value.int 0, Value.int 0, Value.int 0, Value.int 0]))) ++ [Sum.inr (14, [])]).set 128 (Sum.inr (12, [Value.ref 129, Value.ref 131, Value.ref 133, Value.ref 135, Value.ref 137, Value.ref 139, Value.ref 141, Value.ref 143, Value.ref 145, Value.ref 147, Value.ref 149, Value.ref 151, Value.ref 153, Value.ref 154, Value.ref 155, Value.ref 156, Value.ref 157, Value.int (-16384), Value.int 16384, Value.int 0, Value.int 0, Value.int 0, Value.ref 158, Value.ref 159, Value.int 0, Value.int 0, Value.int 0, Value.int 0, Value.int 0, Value.int 0, Value.int 0, Value.int 1]))), ?_, (show xLs _ 220 200000 from ?_)⟩
  · refine i_287_23 (x := 0) rfl ?_
    refine i_287_25 (x := 0) rfl ?_
    refine i_287_26 (c := 6) W0_0 (by decide) ?_
    refine i_287_27 ?_
    refine i_287_29 (c := 0) (by decide) ?_
    refine i_287_30 (fun h => absurd h (by decide)) (fun _ => ?_)
    refine i_287_33 (x := 0) rfl ?_
    refine i_287_34 (x := 0) rfl ?_
    refine i_287_36 (v := Value.int (xs 0)) W0_0 (by decide) (by decide) rfl ?_
    refine i_287_37 ?_
    refine i_287_39 (c := 11) (show ((xs 0) &&& (31 : Int32)) = 11 from (xge_c (n := 11) (by omega) rfl)) ?_
    refine i_287_40_11 rfl ?_
    refine i_287_1149 (x := 7) rfl ?_
    refine i_287_1150 (x := 0) rfl ?_
    refine i_287_1151 (x := 0) rfl ?_
    refine i_287_1153 ?_
    refine i_287_1154 (c := 1) (by decide) ?_
    refine i_287_1155 (v := Value.int (xs 1)) W0_0 (by decide) (by decide) rfl ?_
    refine i_287_1156 (x := 0) rfl ?_
    refine i_287_1157 (x := 0) rfl ?_
    refine i_287_1159 ?_
    refine i_287_1160 (c := 2) (by decide) ?_
    refine i_287_1161 (v := Value.int (xs 2)) W0_0 (by decide) (by decide) rfl ?_
    refine i_287_1162 (x := 0) rfl ?_
    refine i_287_1163 (x := 0) rfl ?_
    refine i_287_1165 ?_
    refine i_287_1166 (c := 3) (by decide) ?_
    refine i_287_1167 (v := Value.int (xs 3)) W0_0 (by decide) (by decide) rfl ?_
    refine i_287_1168 (x := 0) rfl ?_
    refine i_287_1169 (x := 0) rfl ?_
    refine i_287_1171 ?_
    refine i_287_1172 (c := 4) (by decide) ?_
    refine i_287_1173 (v := Value.int (xs 4)) W0_0 (by decide) (by decide) rfl ?_
    refine i_287_1174 (x := 0) rfl ?_
    refine i_287_1175 (x := 0) rfl ?_
    refine i_287_1177 ?_
    refine i_287_1178 (c := 5) (by decide) ?_
    refine i_287_1179 (v := Value.int (xs 5)) W0_0 (by decide) (by decide) rfl ?_
    refine i_287_1180 (x := 194) rfl ?_
    refine i_287_1181 (Nat.le_of_ble_eq_true rfl) (p_114_1 W0_7 (by omega) (by omega) (by omega)) ?_
    refine i_287_1184 (lv2 := [(5, Value.int 1), (4, Value.int 0), (3, Value.ref 194), (2, Value.ref 128), (1, Value.ref 7), (0, Value.ref 0)]) rfl ?_
    refine i_287_1186 (x := 128) rfl ?_
    refine i_287_1187 (x := 0) rfl ?_
    refine i_287_1188 (x := 0) rfl ?_
    refine i_287_1190 ?_
    refine i_287_1191 (c := 1) (by decide) ?_
    refine i_287_1192 (v := Value.int (xs 1)) (xga W0_0) (by decide) (by decide) rfl ?_
    refine i_287_1193 (x := 0) rfl ?_
    refine i_287_1194 (x := 0) rfl ?_
    refine i_287_1196 ?_
    refine i_287_1197 (c := 2) (by decide) ?_
    refine i_287_1198 (v := Value.int (xs 2)) (xga W0_0) (by decide) (by decide) rfl ?_
    refine i_287_1199 (x := 0) rfl ?_
    refine i_287_1200 (x := 0) rfl ?_
    refine i_287_1202 ?_
    refine i_287_1203 (c := 3) (by decide) ?_
    refine i_287_1204 (v := Value.int (xs 3)) (xga W0_0) (by decide) (by decide) rfl ?_
    refine i_287_1205 (x := 0) rfl ?_
    refine i_287_1206 (x := 0) rfl ?_
    refine i_287_1208 ?_
    refine i_287_1209 (c := 4) (by decide) ?_
    refine i_287_1210 (v := Value.int (xs 4)) (xga W0_0) (by decide) (by decide) rfl ?_
    refine i_287_1211 (x := 0) rfl ?_
    refine i_287_1212 (x := 0) rfl ?_
    refine i_287_1214 ?_
    refine i_287_1215 (c := 5) (by decide) ?_
    refine i_287_1216 (v := Value.int (xs 5)) (xga W0_0) (by decide) (by decide) rfl ?_
    refine i_287_1217 (xga W0_128) (Nat.le_of_ble_eq_true rfl) (p_230_1 (xga W0_128) (by omega) (by omega) (by omega)) ?_
    refine i_287_1220 (lv2 := [(6, Value.int 0), (5, Value.int 1), (4, Value.int 0), (3, Value.ref 194), (2, Value.ref 128), (1, Value.ref 7), (0, Value.ref 0)]) rfl ?_
    refine i_287_1222 (x := 128) rfl ?_
    refine i_287_1223 (xgs (xga (xgs (xga W0_128)))) (Nat.le_of_ble_eq_true rfl) (p_165_0 (xgs (xga (xgs (xga W0_128))))) ?_
    refine i_287_1226 (x := 1) rfl ?_
    refine i_287_1228 (fun _ => ?_) (fun h => absurd h (by decide))
    refine i_287_1233 (x := 1) rfl ?_
    refine i_287_1235 (fun _ => ?_) (fun h => absurd h (by decide))
    refine i_287_1250 ?_
    refine i_287_2154 (x := 0) (c := 6) (lv2 := [(4, Value.int 6), (6, Value.int 0), (5, Value.int 1), (3, Value.ref 194), (2, Value.ref 128), (1, Value.ref 7), (0, Value.ref 0)]) rfl (by decide) rfl ?_
    refine i_287_2157 ?_
    refine i_287_23 (x := 6) rfl ?_
    refine i_287_25 (x := 0) rfl ?_
    refine i_287_26 (c := 6) (xgn (by decide) (xga (xgn (by decide) (xga W0_0)))) (by decide) ?_
    refine i_287_27 ?_
    refine i_287_29 (c := 0) (by decide) ?_
    refine i_287_30 (fun _ => ?_) (fun h => absurd h (by decide))
    refine i_287_2160 ?_
    exact i_287_2161 rfl ⟨rfl, rfl⟩
  · refine xLs.set ?_ (xga (xgs (xga W0_128))) xcs_o
    refine xLs.app (n := 219) (z := 199994) (m := 6) ?_ rfl
    refine xLs.set ?_ (xga W0_128) xcs_o
    refine xLs.app (n := 218) (z := 199988) (m := 6) ?_ rfl
    exact ⟨Nat.le_trans (Nat.le_of_eq W0_len) (by decide), Nat.le_trans (Nat.le_of_eq W0_sz) (by decide)⟩
theorem p_115_2 {d : Nat} {w : xW} {a0 : Int32} {a1 : Int32} {a2 : Int32} {a3 : Int32} {a4 : Int32} (e0 : 0 ≤ a0.toInt) (e1 : a0.toInt < 16) (e2 : 0 ≤ a1.toInt) (e3 : a1.toInt < 16) (e4 : a3.toInt < 1) : xRun (d + 6) 115 [Value.ref 7, Value.int a0, Value.int a1, Value.int a2, Value.int a3, Value.int a4] w (.inr w.length) (w ++ [Sum.inr (14, [])]) := by
  refine xRun.of ?_
  refine i_115_0 (x := a0) rfl ?_
  refine i_115_1 (Nat.le_of_ble_eq_true rfl) (p_15_1 e0 e1) ?_
  refine i_115_4 (fun h => absurd h (by decide)) (fun _ => ?_)
  refine i_115_7 (x := a1) rfl ?_
  refine i_115_8 (x := a3) rfl ?_
  refine i_115_10 (Nat.le_of_ble_eq_true rfl) (p_113_1 e2 e3 e4) ?_
  refine i_115_13 (fun _ => ?_) (fun h => absurd h (by decide))
  exact i_115_33 (by omega) (Nat.le_of_ble_eq_true rfl) ⟨rfl, rfl⟩
theorem p_114_2 {d : Nat} {w : xW} {a0 : Int32} {a1 : Int32} {a2 : Int32} {a3 : Int32} {a4 : Int32} (hw0 : w[7]? = some (Sum.inr (0, [Value.ref 8, Value.ref 78, Value.ref 9, Value.ref 10, Value.ref 13, Value.ref 16, Value.ref 19, Value.ref 93, Value.ref 108, Value.ref 113, Value.ref 29, Value.int 0]))) (e1 : 0 ≤ a0.toInt) (e2 : a0.toInt < 16) (e3 : 0 ≤ a1.toInt) (e4 : a1.toInt < 16) (e5 : a3.toInt < 1) : xRun (d + 7) 114 [Value.ref 7, Value.int a0, Value.int a1, Value.int a2, Value.int a3, Value.int a4, Value.ref 194] w (.inl (some (Value.int 1))) (w ++ [Sum.inr (14, [])]) := by
  refine xRun.of ?_
  refine i_114_0 (x := 194) rfl ?_
  refine i_114_2 ?_
  refine i_114_3 (x := 7) rfl ?_
  refine i_114_4 (x := a0) rfl ?_
  refine i_114_5 (x := a1) rfl ?_
  refine i_114_6 (x := a2) rfl ?_
  refine i_114_7 (x := a3) rfl ?_
  refine i_114_9 (x := a4) rfl ?_
  refine j_114_11 hw0 (Nat.le_of_ble_eq_true rfl) (p_115_2 e1 e2 e3 e4 e5) (xDone.c xgl rfl rfl ?_)
  refine i_114_19 (lv2 := [(7, Value.ref w.length), (0, Value.ref 7), (1, Value.int a0), (2, Value.int a1), (3, Value.int a2), (4, Value.int a3), (5, Value.int a4), (6, Value.ref 194)]) rfl ?_
  refine i_114_21 ?_
  exact i_114_22 ⟨rfl, rfl⟩
theorem p_231_2 {d : Nat} {w : xW} {a0 : Int32} {a1 : Int32} {a2 : Int32} {a3 : Int32} {a4 : Int32} (e0 : 0 ≤ a0.toInt) (e1 : a0.toInt ≤ 15) (e2 : 0 ≤ a1.toInt) (e3 : a1.toInt ≤ 15) (e4 : a2.toInt < 0) : xRun (d + 8) 231 [Value.ref 128, Value.int a0, Value.int a1, Value.int a2, Value.int a3, Value.int a4] w (.inr w.length) (w ++ [Sum.inr (14, [])]) := by
  refine xRun.of ?_
  refine i_231_0 (x := a0) rfl ?_
  refine i_231_1 (Nat.le_of_ble_eq_true rfl) (p_168_1 e0 e1) ?_
  refine i_231_4 (x := a1) rfl ?_
  refine i_231_5 (Nat.le_of_ble_eq_true rfl) (p_168_1 e2 e3) ?_
  refine i_231_8 (x := a2) rfl ?_
  exact j_231_9 (Nat.le_of_ble_eq_true rfl) (p_168_0 e4) (xDone.t xgl rfl rfl ⟨rfl, rfl⟩)
theorem p_230_2 {d : Nat} {w : xW} {a0 : Int32} {a1 : Int32} {a2 : Int32} {a3 : Int32} {a4 : Int32} (hw0 : w[128]? = some (Sum.inr (12, [Value.ref 129, Value.ref 131, Value.ref 133, Value.ref 135, Value.ref 137, Value.ref 139, Value.ref 141, Value.ref 143, Value.ref 145, Value.ref 147, Value.ref 149, Value.ref 151, Value.ref 153, Value.ref 154, Value.ref 155, Value.ref 156, Value.ref 157, Value.int (-16384), Value.int 16384, Value.int 0, Value.int 0, Value.int 0, Value.ref 158, Value.ref 159, Value.int 0, Value.int 0, Value.int 0, Value.int 0, Value.int 0, Value.int 0, Value.int 0, Value.int 0]))) (e1 : 0 ≤ a0.toInt) (e2 : a0.toInt ≤ 15) (e3 : 0 ≤ a1.toInt) (e4 : a1.toInt ≤ 15) (e5 : a2.toInt < 0) : xRun (d + 9) 230 [Value.ref 128, Value.int a0, Value.int a1, Value.int a2, Value.int a3, Value.int a4] w (.inl (some (Value.int 0))) (((w.set 128 (Sum.inr (12, [Value.ref 129, Value.ref 131, Value.ref 133, Value.ref 135, Value.ref 137, Value.ref 139, Value.ref 141, Value.ref 143, Value.ref 145, Value.ref 147, Value.ref 149, Value.ref 151, Value.ref 153, Value.ref 154, Value.ref 155, Value.ref 156, Value.ref 157, Value.int (-16384), Value.int 16384, Value.int 0, Value.int 0, Value.int 0, Value.ref 158, Value.ref 159, Value.int 0, Value.int 0, Value.int 0, Value.int 0, Value.int 0, Value.int 0, Value.int 0, Value.int 0]))) ++ [Sum.inr (14, [])]).set 128 (Sum.inr (12, [Value.ref 129, Value.ref 131, Value.ref 133, Value.ref 135, Value.ref 137, Value.ref 139, Value.ref 141, Value.ref 143, Value.ref 145, Value.ref 147, Value.ref 149, Value.ref 151, Value.ref 153, Value.ref 154, Value.ref 155, Value.ref 156, Value.ref 157, Value.int (-16384), Value.int 16384, Value.int 0, Value.int 0, Value.int 0, Value.ref 158, Value.ref 159, Value.int 0, Value.int 0, Value.int 0, Value.int 0, Value.int 0, Value.int 0, Value.int 0, Value.int 1]))) := by
  refine xRun.of ?_
  refine i_230_0 (x := 128) rfl ?_
  refine i_230_1 ?_
  refine i_230_2 (fs2 := [Value.ref 129, Value.ref 131, Value.ref 133, Value.ref 135, Value.ref 137, Value.ref 139, Value.ref 141, Value.ref 143, Value.ref 145, Value.ref 147, Value.ref 149, Value.ref 151, Value.ref 153, Value.ref 154, Value.ref 155, Value.ref 156, Value.ref 157, Value.int (-16384), Value.int 16384, Value.int 0, Value.int 0, Value.int 0, Value.ref 158, Value.ref 159, Value.int 0, Value.int 0, Value.int 0, Value.int 0, Value.int 0, Value.int 0, Value.int 0, Value.int 0]) hw0 (Nat.le_of_ble_eq_true rfl) rfl (by decide) ?_
  refine i_230_5 (x := 128) rfl ?_
  refine i_230_6 (x := a0) rfl ?_
  refine i_230_7 (x := a1) rfl ?_
  refine i_230_8 (x := a2) rfl ?_
  refine i_230_9 (x := a3) rfl ?_
  refine i_230_11 (x := a4) rfl ?_
  refine j_230_13 (xgs hw0) (Nat.le_of_ble_eq_true rfl) (p_231_2 e1 e2 e3 e4 e5) (xDone.c xgl rfl rfl ?_)
  refine i_230_17 (lv2 := [(6, Value.ref ((w.set 128 (Sum.inr (12, [Value.ref 129, Value.ref 131, Value.ref 133, Value.ref 135, Value.ref 137, Value.ref 139, Value.ref 141, Value.ref 143, Value.ref 145, Value.ref 147, Value.ref 149, Value.ref 151, Value.ref 153, Value.ref 154, Value.ref 155, Value.ref 156, Value.ref 157, Value.int (-16384), Value.int 16384, Value.int 0, Value.int 0, Value.int 0, Value.ref 158, Value.ref 159, Value.int 0, Value.int 0, Value.int 0, Value.int 0, Value.int 0, Value.int 0, Value.int 0, Value.int 0]))).length)), (0, Value.ref 128), (1, Value.int a0), (2, Value.int a1), (3, Value.int a2), (4, Value.int a3), (5, Value.int a4)]) rfl ?_
  refine i_230_19 (x := 128) rfl ?_
  refine i_230_20 ?_
  refine i_230_21 (fs2 := [Value.ref 129, Value.ref 131, Value.ref 133, Value.ref 135, Value.ref 137, Value.ref 139, Value.ref 141, Value.ref 143, Value.ref 145, Value.ref 147, Value.ref 149, Value.ref 151, Value.ref 153, Value.ref 154, Value.ref 155, Value.ref 156, Value.ref 157, Value.int (-16384), Value.int 16384, Value.int 0, Value.int 0, Value.int 0, Value.ref 158, Value.ref 159, Value.int 0, Value.int 0, Value.int 0, Value.int 0, Value.int 0, Value.int 0, Value.int 0, Value.int 1]) (xga (xgs hw0)) (Nat.le_of_ble_eq_true rfl) rfl (by decide) ?_
  refine i_230_24 ?_
  exact i_230_25 ⟨rfl, rfl⟩
theorem o_11_2 {d : Nat} {xs : Nat → Int32} (h0 : ((xs 0) &&& (31 : Int32)).toInt = 11) (c0 : 0 ≤ (xs 1).toInt) (c1 : (xs 1).toInt < 16) (c2 : 0 ≤ (xs 2).toInt) (c3 : (xs 2).toInt < 16) (c4 : (xs 4).toInt < 1) (c5 : (xs 3).toInt < 0) : ∃ w1, xEv (d + 20) 287 23 [(4, Value.int 0), (3, Value.ref 194), (2, Value.ref 128), (1, Value.ref 7), (0, Value.ref 0)] [] (W0 6 xs) (fun o' w' => o' = .inl (some (Value.int 1)) ∧ w' = w1) ∧ w1.length ≤ 220 ∧ xsz w1 ≤ 200000 := by
  refine ⟨(((((W0 6 xs) ++ [Sum.inr (14, [])]).set 128 (Sum.inr (12, [Value.ref 129, Value.ref 131, Value.ref 133, Value.ref 135, Value.ref 137, Value.ref 139, Value.ref 141, Value.ref 143, Value.ref 145, Value.ref 147, Value.ref 149, Value.ref 151, Value.ref 153, Value.ref 154, Value.ref 155, Value.ref 156, Value.ref 157, Value.int (-16384), Value.int 16384, Value.int 0, Value.int 0, Value.int 0, Value.ref 158, Value.ref 159, Value.int 0, Value.int 0, Value.int 0, Value.int 0, Value.int 0, Value.int 0, Value.int 0, Value.int 0]))) ++ [Sum.inr (14, [])]).set 128 (Sum.inr (12, [Value.ref 129, Value.ref 131, Value.ref 133, Value.ref 135, Value.ref 137, Value.ref 139, Value.ref 141, Value.ref 143, Value.ref 145, Value.ref 147, Value.ref 149, Value.ref 151, Value.ref 153, Value.ref 154, Value.ref 155, Value.ref 156, Value.ref 157, Value.int (-16384), Value.int 16384, Value.int 0, Value.int 0, Value.int 0, Value.ref 158, Value.ref 159, Value.int 0, Value.int 0, Value.int 0, Value.int 0, Value.int 0, Value.int 0, Value.int 0, Value.int 1]))), ?_, (show xLs _ 220 200000 from ?_)⟩
  · refine i_287_23 (x := 0) rfl ?_
    refine i_287_25 (x := 0) rfl ?_
    refine i_287_26 (c := 6) W0_0 (by decide) ?_
    refine i_287_27 ?_
    refine i_287_29 (c := 0) (by decide) ?_
    refine i_287_30 (fun h => absurd h (by decide)) (fun _ => ?_)
    refine i_287_33 (x := 0) rfl ?_
    refine i_287_34 (x := 0) rfl ?_
    refine i_287_36 (v := Value.int (xs 0)) W0_0 (by decide) (by decide) rfl ?_
    refine i_287_37 ?_
    refine i_287_39 (c := 11) (show ((xs 0) &&& (31 : Int32)) = 11 from (xge_c (n := 11) (by omega) rfl)) ?_
    refine i_287_40_11 rfl ?_
    refine i_287_1149 (x := 7) rfl ?_
    refine i_287_1150 (x := 0) rfl ?_
    refine i_287_1151 (x := 0) rfl ?_
    refine i_287_1153 ?_
    refine i_287_1154 (c := 1) (by decide) ?_
    refine i_287_1155 (v := Value.int (xs 1)) W0_0 (by decide) (by decide) rfl ?_
    refine i_287_1156 (x := 0) rfl ?_
    refine i_287_1157 (x := 0) rfl ?_
    refine i_287_1159 ?_
    refine i_287_1160 (c := 2) (by decide) ?_
    refine i_287_1161 (v := Value.int (xs 2)) W0_0 (by decide) (by decide) rfl ?_
    refine i_287_1162 (x := 0) rfl ?_
    refine i_287_1163 (x := 0) rfl ?_
    refine i_287_1165 ?_
    refine i_287_1166 (c := 3) (by decide) ?_
    refine i_287_1167 (v := Value.int (xs 3)) W0_0 (by decide) (by decide) rfl ?_
    refine i_287_1168 (x := 0) rfl ?_
    refine i_287_1169 (x := 0) rfl ?_
    refine i_287_1171 ?_
    refine i_287_1172 (c := 4) (by decide) ?_
    refine i_287_1173 (v := Value.int (xs 4)) W0_0 (by decide) (by decide) rfl ?_
    refine i_287_1174 (x := 0) rfl ?_
    refine i_287_1175 (x := 0) rfl ?_
    refine i_287_1177 ?_
    refine i_287_1178 (c := 5) (by decide) ?_
    refine i_287_1179 (v := Value.int (xs 5)) W0_0 (by decide) (by decide) rfl ?_
    refine i_287_1180 (x := 194) rfl ?_
    refine i_287_1181 (Nat.le_of_ble_eq_true rfl) (p_114_2 W0_7 (by omega) (by omega) (by omega) (by omega) (by omega)) ?_
    refine i_287_1184 (lv2 := [(5, Value.int 1), (4, Value.int 0), (3, Value.ref 194), (2, Value.ref 128), (1, Value.ref 7), (0, Value.ref 0)]) rfl ?_
    refine i_287_1186 (x := 128) rfl ?_
    refine i_287_1187 (x := 0) rfl ?_
    refine i_287_1188 (x := 0) rfl ?_
    refine i_287_1190 ?_
    refine i_287_1191 (c := 1) (by decide) ?_
    refine i_287_1192 (v := Value.int (xs 1)) (xga W0_0) (by decide) (by decide) rfl ?_
    refine i_287_1193 (x := 0) rfl ?_
    refine i_287_1194 (x := 0) rfl ?_
    refine i_287_1196 ?_
    refine i_287_1197 (c := 2) (by decide) ?_
    refine i_287_1198 (v := Value.int (xs 2)) (xga W0_0) (by decide) (by decide) rfl ?_
    refine i_287_1199 (x := 0) rfl ?_
    refine i_287_1200 (x := 0) rfl ?_
    refine i_287_1202 ?_
    refine i_287_1203 (c := 3) (by decide) ?_
    refine i_287_1204 (v := Value.int (xs 3)) (xga W0_0) (by decide) (by decide) rfl ?_
    refine i_287_1205 (x := 0) rfl ?_
    refine i_287_1206 (x := 0) rfl ?_
    refine i_287_1208 ?_
    refine i_287_1209 (c := 4) (by decide) ?_
    refine i_287_1210 (v := Value.int (xs 4)) (xga W0_0) (by decide) (by decide) rfl ?_
    refine i_287_1211 (x := 0) rfl ?_
    refine i_287_1212 (x := 0) rfl ?_
    refine i_287_1214 ?_
    refine i_287_1215 (c := 5) (by decide) ?_
    refine i_287_1216 (v := Value.int (xs 5)) (xga W0_0) (by decide) (by decide) rfl ?_
    refine i_287_1217 (xga W0_128) (Nat.le_of_ble_eq_true rfl) (p_230_2 (xga W0_128) (by omega) (by omega) (by omega) (by omega) (by omega)) ?_
    refine i_287_1220 (lv2 := [(6, Value.int 0), (5, Value.int 1), (4, Value.int 0), (3, Value.ref 194), (2, Value.ref 128), (1, Value.ref 7), (0, Value.ref 0)]) rfl ?_
    refine i_287_1222 (x := 128) rfl ?_
    refine i_287_1223 (xgs (xga (xgs (xga W0_128)))) (Nat.le_of_ble_eq_true rfl) (p_165_0 (xgs (xga (xgs (xga W0_128))))) ?_
    refine i_287_1226 (x := 1) rfl ?_
    refine i_287_1228 (fun _ => ?_) (fun h => absurd h (by decide))
    refine i_287_1233 (x := 1) rfl ?_
    refine i_287_1235 (fun _ => ?_) (fun h => absurd h (by decide))
    refine i_287_1250 ?_
    refine i_287_2154 (x := 0) (c := 6) (lv2 := [(4, Value.int 6), (6, Value.int 0), (5, Value.int 1), (3, Value.ref 194), (2, Value.ref 128), (1, Value.ref 7), (0, Value.ref 0)]) rfl (by decide) rfl ?_
    refine i_287_2157 ?_
    refine i_287_23 (x := 6) rfl ?_
    refine i_287_25 (x := 0) rfl ?_
    refine i_287_26 (c := 6) (xgn (by decide) (xga (xgn (by decide) (xga W0_0)))) (by decide) ?_
    refine i_287_27 ?_
    refine i_287_29 (c := 0) (by decide) ?_
    refine i_287_30 (fun _ => ?_) (fun h => absurd h (by decide))
    refine i_287_2160 ?_
    exact i_287_2161 rfl ⟨rfl, rfl⟩
  · refine xLs.set ?_ (xga (xgs (xga W0_128))) xcs_o
    refine xLs.app (n := 219) (z := 199994) (m := 6) ?_ rfl
    refine xLs.set ?_ (xga W0_128) xcs_o
    refine xLs.app (n := 218) (z := 199988) (m := 6) ?_ rfl
    exact ⟨Nat.le_trans (Nat.le_of_eq W0_len) (by decide), Nat.le_trans (Nat.le_of_eq W0_sz) (by decide)⟩
theorem p_231_3 {d : Nat} {w : xW} {a0 : Int32} {a1 : Int32} {a2 : Int32} {a3 : Int32} {a4 : Int32} (e0 : 0 ≤ a0.toInt) (e1 : a0.toInt ≤ 15) (e2 : 0 ≤ a1.toInt) (e3 : a1.toInt ≤ 15) (e4 : 0 ≤ a2.toInt) (e5 : 15 < a2.toInt) : xRun (d + 8) 231 [Value.ref 128, Value.int a0, Value.int a1, Value.int a2, Value.int a3, Value.int a4] w (.inr w.length) (w ++ [Sum.inr (14, [])]) := by
  refine xRun.of ?_
  refine i_231_0 (x := a0) rfl ?_
  refine i_231_1 (Nat.le_of_ble_eq_true rfl) (p_168_1 e0 e1) ?_
  refine i_231_4 (x := a1) rfl ?_
  refine i_231_5 (Nat.le_of_ble_eq_true rfl) (p_168_1 e2 e3) ?_
  refine i_231_8 (x := a2) rfl ?_
  exact j_231_9 (Nat.le_of_ble_eq_true rfl) (p_168_2 e4 e5) (xDone.t xgl rfl rfl ⟨rfl, rfl⟩)
theorem p_230_3 {d : Nat} {w : xW} {a0 : Int32} {a1 : Int32} {a2 : Int32} {a3 : Int32} {a4 : Int32} (hw0 : w[128]? = some (Sum.inr (12, [Value.ref 129, Value.ref 131, Value.ref 133, Value.ref 135, Value.ref 137, Value.ref 139, Value.ref 141, Value.ref 143, Value.ref 145, Value.ref 147, Value.ref 149, Value.ref 151, Value.ref 153, Value.ref 154, Value.ref 155, Value.ref 156, Value.ref 157, Value.int (-16384), Value.int 16384, Value.int 0, Value.int 0, Value.int 0, Value.ref 158, Value.ref 159, Value.int 0, Value.int 0, Value.int 0, Value.int 0, Value.int 0, Value.int 0, Value.int 0, Value.int 0]))) (e1 : 0 ≤ a0.toInt) (e2 : a0.toInt ≤ 15) (e3 : 0 ≤ a1.toInt) (e4 : a1.toInt ≤ 15) (e5 : 0 ≤ a2.toInt) (e6 : 15 < a2.toInt) : xRun (d + 9) 230 [Value.ref 128, Value.int a0, Value.int a1, Value.int a2, Value.int a3, Value.int a4] w (.inl (some (Value.int 0))) (((w.set 128 (Sum.inr (12, [Value.ref 129, Value.ref 131, Value.ref 133, Value.ref 135, Value.ref 137, Value.ref 139, Value.ref 141, Value.ref 143, Value.ref 145, Value.ref 147, Value.ref 149, Value.ref 151, Value.ref 153, Value.ref 154, Value.ref 155, Value.ref 156, Value.ref 157, Value.int (-16384), Value.int 16384, Value.int 0, Value.int 0, Value.int 0, Value.ref 158, Value.ref 159, Value.int 0, Value.int 0, Value.int 0, Value.int 0, Value.int 0, Value.int 0, Value.int 0, Value.int 0]))) ++ [Sum.inr (14, [])]).set 128 (Sum.inr (12, [Value.ref 129, Value.ref 131, Value.ref 133, Value.ref 135, Value.ref 137, Value.ref 139, Value.ref 141, Value.ref 143, Value.ref 145, Value.ref 147, Value.ref 149, Value.ref 151, Value.ref 153, Value.ref 154, Value.ref 155, Value.ref 156, Value.ref 157, Value.int (-16384), Value.int 16384, Value.int 0, Value.int 0, Value.int 0, Value.ref 158, Value.ref 159, Value.int 0, Value.int 0, Value.int 0, Value.int 0, Value.int 0, Value.int 0, Value.int 0, Value.int 1]))) := by
  refine xRun.of ?_
  refine i_230_0 (x := 128) rfl ?_
  refine i_230_1 ?_
  refine i_230_2 (fs2 := [Value.ref 129, Value.ref 131, Value.ref 133, Value.ref 135, Value.ref 137, Value.ref 139, Value.ref 141, Value.ref 143, Value.ref 145, Value.ref 147, Value.ref 149, Value.ref 151, Value.ref 153, Value.ref 154, Value.ref 155, Value.ref 156, Value.ref 157, Value.int (-16384), Value.int 16384, Value.int 0, Value.int 0, Value.int 0, Value.ref 158, Value.ref 159, Value.int 0, Value.int 0, Value.int 0, Value.int 0, Value.int 0, Value.int 0, Value.int 0, Value.int 0]) hw0 (Nat.le_of_ble_eq_true rfl) rfl (by decide) ?_
  refine i_230_5 (x := 128) rfl ?_
  refine i_230_6 (x := a0) rfl ?_
  refine i_230_7 (x := a1) rfl ?_
  refine i_230_8 (x := a2) rfl ?_
  refine i_230_9 (x := a3) rfl ?_
  refine i_230_11 (x := a4) rfl ?_
  refine j_230_13 (xgs hw0) (Nat.le_of_ble_eq_true rfl) (p_231_3 e1 e2 e3 e4 e5 e6) (xDone.c xgl rfl rfl ?_)
  refine i_230_17 (lv2 := [(6, Value.ref ((w.set 128 (Sum.inr (12, [Value.ref 129, Value.ref 131, Value.ref 133, Value.ref 135, Value.ref 137, Value.ref 139, Value.ref 141, Value.ref 143, Value.ref 145, Value.ref 147, Value.ref 149, Value.ref 151, Value.ref 153, Value.ref 154, Value.ref 155, Value.ref 156, Value.ref 157, Value.int (-16384), Value.int 16384, Value.int 0, Value.int 0, Value.int 0, Value.ref 158, Value.ref 159, Value.int 0, Value.int 0, Value.int 0, Value.int 0, Value.int 0, Value.int 0, Value.int 0, Value.int 0]))).length)), (0, Value.ref 128), (1, Value.int a0), (2, Value.int a1), (3, Value.int a2), (4, Value.int a3), (5, Value.int a4)]) rfl ?_
  refine i_230_19 (x := 128) rfl ?_
  refine i_230_20 ?_
  refine i_230_21 (fs2 := [Value.ref 129, Value.ref 131, Value.ref 133, Value.ref 135, Value.ref 137, Value.ref 139, Value.ref 141, Value.ref 143, Value.ref 145, Value.ref 147, Value.ref 149, Value.ref 151, Value.ref 153, Value.ref 154, Value.ref 155, Value.ref 156, Value.ref 157, Value.int (-16384), Value.int 16384, Value.int 0, Value.int 0, Value.int 0, Value.ref 158, Value.ref 159, Value.int 0, Value.int 0, Value.int 0, Value.int 0, Value.int 0, Value.int 0, Value.int 0, Value.int 1]) (xga (xgs hw0)) (Nat.le_of_ble_eq_true rfl) rfl (by decide) ?_
  refine i_230_24 ?_
  exact i_230_25 ⟨rfl, rfl⟩
theorem o_11_3 {d : Nat} {xs : Nat → Int32} (h0 : ((xs 0) &&& (31 : Int32)).toInt = 11) (c0 : 0 ≤ (xs 1).toInt) (c1 : (xs 1).toInt < 16) (c2 : 0 ≤ (xs 2).toInt) (c3 : (xs 2).toInt < 16) (c4 : (xs 4).toInt < 1) (c5 : 0 ≤ (xs 3).toInt) (c6 : 15 < (xs 3).toInt) : ∃ w1, xEv (d + 20) 287 23 [(4, Value.int 0), (3, Value.ref 194), (2, Value.ref 128), (1, Value.ref 7), (0, Value.ref 0)] [] (W0 6 xs) (fun o' w' => o' = .inl (some (Value.int 1)) ∧ w' = w1) ∧ w1.length ≤ 220 ∧ xsz w1 ≤ 200000 := by
  refine ⟨(((((W0 6 xs) ++ [Sum.inr (14, [])]).set 128 (Sum.inr (12, [Value.ref 129, Value.ref 131, Value.ref 133, Value.ref 135, Value.ref 137, Value.ref 139, Value.ref 141, Value.ref 143, Value.ref 145, Value.ref 147, Value.ref 149, Value.ref 151, Value.ref 153, Value.ref 154, Value.ref 155, Value.ref 156, Value.ref 157, Value.int (-16384), Value.int 16384, Value.int 0, Value.int 0, Value.int 0, Value.ref 158, Value.ref 159, Value.int 0, Value.int 0, Value.int 0, Value.int 0, Value.int 0, Value.int 0, Value.int 0, Value.int 0]))) ++ [Sum.inr (14, [])]).set 128 (Sum.inr (12, [Value.ref 129, Value.ref 131, Value.ref 133, Value.ref 135, Value.ref 137, Value.ref 139, Value.ref 141, Value.ref 143, Value.ref 145, Value.ref 147, Value.ref 149, Value.ref 151, Value.ref 153, Value.ref 154, Value.ref 155, Value.ref 156, Value.ref 157, Value.int (-16384), Value.int 16384, Value.int 0, Value.int 0, Value.int 0, Value.ref 158, Value.ref 159, Value.int 0, Value.int 0, Value.int 0, Value.int 0, Value.int 0, Value.int 0, Value.int 0, Value.int 1]))), ?_, (show xLs _ 220 200000 from ?_)⟩
  · refine i_287_23 (x := 0) rfl ?_
    refine i_287_25 (x := 0) rfl ?_
    refine i_287_26 (c := 6) W0_0 (by decide) ?_
    refine i_287_27 ?_
    refine i_287_29 (c := 0) (by decide) ?_
    refine i_287_30 (fun h => absurd h (by decide)) (fun _ => ?_)
    refine i_287_33 (x := 0) rfl ?_
    refine i_287_34 (x := 0) rfl ?_
    refine i_287_36 (v := Value.int (xs 0)) W0_0 (by decide) (by decide) rfl ?_
    refine i_287_37 ?_
    refine i_287_39 (c := 11) (show ((xs 0) &&& (31 : Int32)) = 11 from (xge_c (n := 11) (by omega) rfl)) ?_
    refine i_287_40_11 rfl ?_
    refine i_287_1149 (x := 7) rfl ?_
    refine i_287_1150 (x := 0) rfl ?_
    refine i_287_1151 (x := 0) rfl ?_
    refine i_287_1153 ?_
    refine i_287_1154 (c := 1) (by decide) ?_
    refine i_287_1155 (v := Value.int (xs 1)) W0_0 (by decide) (by decide) rfl ?_
    refine i_287_1156 (x := 0) rfl ?_
    refine i_287_1157 (x := 0) rfl ?_
    refine i_287_1159 ?_
    refine i_287_1160 (c := 2) (by decide) ?_
    refine i_287_1161 (v := Value.int (xs 2)) W0_0 (by decide) (by decide) rfl ?_
    refine i_287_1162 (x := 0) rfl ?_
    refine i_287_1163 (x := 0) rfl ?_
    refine i_287_1165 ?_
    refine i_287_1166 (c := 3) (by decide) ?_
    refine i_287_1167 (v := Value.int (xs 3)) W0_0 (by decide) (by decide) rfl ?_
    refine i_287_1168 (x := 0) rfl ?_
    refine i_287_1169 (x := 0) rfl ?_
    refine i_287_1171 ?_
    refine i_287_1172 (c := 4) (by decide) ?_
    refine i_287_1173 (v := Value.int (xs 4)) W0_0 (by decide) (by decide) rfl ?_
    refine i_287_1174 (x := 0) rfl ?_
    refine i_287_1175 (x := 0) rfl ?_
    refine i_287_1177 ?_
    refine i_287_1178 (c := 5) (by decide) ?_
    refine i_287_1179 (v := Value.int (xs 5)) W0_0 (by decide) (by decide) rfl ?_
    refine i_287_1180 (x := 194) rfl ?_
    refine i_287_1181 (Nat.le_of_ble_eq_true rfl) (p_114_2 W0_7 (by omega) (by omega) (by omega) (by omega) (by omega)) ?_
    refine i_287_1184 (lv2 := [(5, Value.int 1), (4, Value.int 0), (3, Value.ref 194), (2, Value.ref 128), (1, Value.ref 7), (0, Value.ref 0)]) rfl ?_
    refine i_287_1186 (x := 128) rfl ?_
    refine i_287_1187 (x := 0) rfl ?_
    refine i_287_1188 (x := 0) rfl ?_
    refine i_287_1190 ?_
    refine i_287_1191 (c := 1) (by decide) ?_
    refine i_287_1192 (v := Value.int (xs 1)) (xga W0_0) (by decide) (by decide) rfl ?_
    refine i_287_1193 (x := 0) rfl ?_
    refine i_287_1194 (x := 0) rfl ?_
    refine i_287_1196 ?_
    refine i_287_1197 (c := 2) (by decide) ?_
    refine i_287_1198 (v := Value.int (xs 2)) (xga W0_0) (by decide) (by decide) rfl ?_
    refine i_287_1199 (x := 0) rfl ?_
    refine i_287_1200 (x := 0) rfl ?_
    refine i_287_1202 ?_
    refine i_287_1203 (c := 3) (by decide) ?_
    refine i_287_1204 (v := Value.int (xs 3)) (xga W0_0) (by decide) (by decide) rfl ?_
    refine i_287_1205 (x := 0) rfl ?_
    refine i_287_1206 (x := 0) rfl ?_
    refine i_287_1208 ?_
    refine i_287_1209 (c := 4) (by decide) ?_
    refine i_287_1210 (v := Value.int (xs 4)) (xga W0_0) (by decide) (by decide) rfl ?_
    refine i_287_1211 (x := 0) rfl ?_
    refine i_287_1212 (x := 0) rfl ?_
    refine i_287_1214 ?_
    refine i_287_1215 (c := 5) (by decide) ?_
    refine i_287_1216 (v := Value.int (xs 5)) (xga W0_0) (by decide) (by decide) rfl ?_
    refine i_287_1217 (xga W0_128) (Nat.le_of_ble_eq_true rfl) (p_230_3 (xga W0_128) (by omega) (by omega) (by omega) (by omega) (by omega) (by omega)) ?_
    refine i_287_1220 (lv2 := [(6, Value.int 0), (5, Value.int 1), (4, Value.int 0), (3, Value.ref 194), (2, Value.ref 128), (1, Value.ref 7), (0, Value.ref 0)]) rfl ?_
    refine i_287_1222 (x := 128) rfl ?_
    refine i_287_1223 (xgs (xga (xgs (xga W0_128)))) (Nat.le_of_ble_eq_true rfl) (p_165_0 (xgs (xga (xgs (xga W0_128))))) ?_
    refine i_287_1226 (x := 1) rfl ?_
    refine i_287_1228 (fun _ => ?_) (fun h => absurd h (by decide))
    refine i_287_1233 (x := 1) rfl ?_
    refine i_287_1235 (fun _ => ?_) (fun h => absurd h (by decide))
    refine i_287_1250 ?_
    refine i_287_2154 (x := 0) (c := 6) (lv2 := [(4, Value.int 6), (6, Value.int 0), (5, Value.int 1), (3, Value.ref 194), (2, Value.ref 128), (1, Value.ref 7), (0, Value.ref 0)]) rfl (by decide) rfl ?_
    refine i_287_2157 ?_
    refine i_287_23 (x := 6) rfl ?_
    refine i_287_25 (x := 0) rfl ?_
    refine i_287_26 (c := 6) (xgn (by decide) (xga (xgn (by decide) (xga W0_0)))) (by decide) ?_
    refine i_287_27 ?_
    refine i_287_29 (c := 0) (by decide) ?_
    refine i_287_30 (fun _ => ?_) (fun h => absurd h (by decide))
    refine i_287_2160 ?_
    exact i_287_2161 rfl ⟨rfl, rfl⟩
  · refine xLs.set ?_ (xga (xgs (xga W0_128))) xcs_o
    refine xLs.app (n := 219) (z := 199994) (m := 6) ?_ rfl
    refine xLs.set ?_ (xga W0_128) xcs_o
    refine xLs.app (n := 218) (z := 199988) (m := 6) ?_ rfl
    exact ⟨Nat.le_trans (Nat.le_of_eq W0_len) (by decide), Nat.le_trans (Nat.le_of_eq W0_sz) (by decide)⟩
theorem p_231_4 {d : Nat} {w : xW} {a0 : Int32} {a1 : Int32} {a2 : Int32} {a3 : Int32} {a4 : Int32} (e0 : 0 ≤ a0.toInt) (e1 : a0.toInt ≤ 15) (e2 : 0 ≤ a1.toInt) (e3 : a1.toInt ≤ 15) (e4 : 0 ≤ a2.toInt) (e5 : a2.toInt ≤ 15) (e6 : a3.toInt < 1) : xRun (d + 7) 231 [Value.ref 128, Value.int a0, Value.int a1, Value.int a2, Value.int a3, Value.int a4] w (.inr w.length) (w ++ [Sum.inr (14, [])]) := by
  refine xRun.of ?_
  refine i_231_0 (x := a0) rfl ?_
  refine i_231_1 (Nat.le_of_ble_eq_true rfl) (p_168_1 e0 e1) ?_
  refine i_231_4 (x := a1) rfl ?_
  refine i_231_5 (Nat.le_of_ble_eq_true rfl) (p_168_1 e2 e3) ?_
  refine i_231_8 (x := a2) rfl ?_
  refine i_231_9 (Nat.le_of_ble_eq_true rfl) (p_168_1 e4 e5) ?_
  refine i_231_12 (x := a3) rfl ?_
  refine i_231_14 ?_
  refine i_231_15 ?_
  refine i_231_17 (Nat.le_of_ble_eq_true rfl) (p_169_42 e6) ?_
  refine i_231_20 (fun _ => ?_) (fun h => absurd h (by decide))
  refine i_231_45 ?_
  exact j_231_46 (Nat.le_of_ble_eq_true rfl) (p_170_0) (xDone.t xgl rfl rfl ⟨rfl, rfl⟩)
theorem p_230_4 {d : Nat} {w : xW} {a0 : Int32} {a1 : Int32} {a2 : Int32} {a3 : Int32} {a4 : Int32} (hw0 : w[128]? = some (Sum.inr (12, [Value.ref 129, Value.ref 131, Value.ref 133, Value.ref 135, Value.ref 137, Value.ref 139, Value.ref 141, Value.ref 143, Value.ref 145, Value.ref 147, Value.ref 149, Value.ref 151, Value.ref 153, Value.ref 154, Value.ref 155, Value.ref 156, Value.ref 157, Value.int (-16384), Value.int 16384, Value.int 0, Value.int 0, Value.int 0, Value.ref 158, Value.ref 159, Value.int 0, Value.int 0, Value.int 0, Value.int 0, Value.int 0, Value.int 0, Value.int 0, Value.int 0]))) (e1 : 0 ≤ a0.toInt) (e2 : a0.toInt ≤ 15) (e3 : 0 ≤ a1.toInt) (e4 : a1.toInt ≤ 15) (e5 : 0 ≤ a2.toInt) (e6 : a2.toInt ≤ 15) (e7 : a3.toInt < 1) : xRun (d + 8) 230 [Value.ref 128, Value.int a0, Value.int a1, Value.int a2, Value.int a3, Value.int a4] w (.inl (some (Value.int 0))) (((w.set 128 (Sum.inr (12, [Value.ref 129, Value.ref 131, Value.ref 133, Value.ref 135, Value.ref 137, Value.ref 139, Value.ref 141, Value.ref 143, Value.ref 145, Value.ref 147, Value.ref 149, Value.ref 151, Value.ref 153, Value.ref 154, Value.ref 155, Value.ref 156, Value.ref 157, Value.int (-16384), Value.int 16384, Value.int 0, Value.int 0, Value.int 0, Value.ref 158, Value.ref 159, Value.int 0, Value.int 0, Value.int 0, Value.int 0, Value.int 0, Value.int 0, Value.int 0, Value.int 0]))) ++ [Sum.inr (14, [])]).set 128 (Sum.inr (12, [Value.ref 129, Value.ref 131, Value.ref 133, Value.ref 135, Value.ref 137, Value.ref 139, Value.ref 141, Value.ref 143, Value.ref 145, Value.ref 147, Value.ref 149, Value.ref 151, Value.ref 153, Value.ref 154, Value.ref 155, Value.ref 156, Value.ref 157, Value.int (-16384), Value.int 16384, Value.int 0, Value.int 0, Value.int 0, Value.ref 158, Value.ref 159, Value.int 0, Value.int 0, Value.int 0, Value.int 0, Value.int 0, Value.int 0, Value.int 0, Value.int 1]))) := by
  refine xRun.of ?_
  refine i_230_0 (x := 128) rfl ?_
  refine i_230_1 ?_
  refine i_230_2 (fs2 := [Value.ref 129, Value.ref 131, Value.ref 133, Value.ref 135, Value.ref 137, Value.ref 139, Value.ref 141, Value.ref 143, Value.ref 145, Value.ref 147, Value.ref 149, Value.ref 151, Value.ref 153, Value.ref 154, Value.ref 155, Value.ref 156, Value.ref 157, Value.int (-16384), Value.int 16384, Value.int 0, Value.int 0, Value.int 0, Value.ref 158, Value.ref 159, Value.int 0, Value.int 0, Value.int 0, Value.int 0, Value.int 0, Value.int 0, Value.int 0, Value.int 0]) hw0 (Nat.le_of_ble_eq_true rfl) rfl (by decide) ?_
  refine i_230_5 (x := 128) rfl ?_
  refine i_230_6 (x := a0) rfl ?_
  refine i_230_7 (x := a1) rfl ?_
  refine i_230_8 (x := a2) rfl ?_
  refine i_230_9 (x := a3) rfl ?_
  refine i_230_11 (x := a4) rfl ?_
  refine j_230_13 (xgs hw0) (Nat.le_of_ble_eq_true rfl) (p_231_4 e1 e2 e3 e4 e5 e6 e7) (xDone.c xgl rfl rfl ?_)
  refine i_230_17 (lv2 := [(6, Value.ref ((w.set 128 (Sum.inr (12, [Value.ref 129, Value.ref 131, Value.ref 133, Value.ref 135, Value.ref 137, Value.ref 139, Value.ref 141, Value.ref 143, Value.ref 145, Value.ref 147, Value.ref 149, Value.ref 151, Value.ref 153, Value.ref 154, Value.ref 155, Value.ref 156, Value.ref 157, Value.int (-16384), Value.int 16384, Value.int 0, Value.int 0, Value.int 0, Value.ref 158, Value.ref 159, Value.int 0, Value.int 0, Value.int 0, Value.int 0, Value.int 0, Value.int 0, Value.int 0, Value.int 0]))).length)), (0, Value.ref 128), (1, Value.int a0), (2, Value.int a1), (3, Value.int a2), (4, Value.int a3), (5, Value.int a4)]) rfl ?_
  refine i_230_19 (x := 128) rfl ?_
  refine i_230_20 ?_
  refine i_230_21 (fs2 := [Value.ref 129, Value.ref 131, Value.ref 133, Value.ref 135, Value.ref 137, Value.ref 139, Value.ref 141, Value.ref 143, Value.ref 145, Value.ref 147, Value.ref 149, Value.ref 151, Value.ref 153, Value.ref 154, Value.ref 155, Value.ref 156, Value.ref 157, Value.int (-16384), Value.int 16384, Value.int 0, Value.int 0, Value.int 0, Value.ref 158, Value.ref 159, Value.int 0, Value.int 0, Value.int 0, Value.int 0, Value.int 0, Value.int 0, Value.int 0, Value.int 1]) (xga (xgs hw0)) (Nat.le_of_ble_eq_true rfl) rfl (by decide) ?_
  refine i_230_24 ?_
  exact i_230_25 ⟨rfl, rfl⟩
theorem o_11_4 {d : Nat} {xs : Nat → Int32} (h0 : ((xs 0) &&& (31 : Int32)).toInt = 11) (c0 : 0 ≤ (xs 1).toInt) (c1 : (xs 1).toInt < 16) (c2 : 0 ≤ (xs 2).toInt) (c3 : (xs 2).toInt < 16) (c4 : (xs 4).toInt < 1) (c5 : 0 ≤ (xs 3).toInt) (c6 : (xs 3).toInt ≤ 15) : ∃ w1, xEv (d + 20) 287 23 [(4, Value.int 0), (3, Value.ref 194), (2, Value.ref 128), (1, Value.ref 7), (0, Value.ref 0)] [] (W0 6 xs) (fun o' w' => o' = .inl (some (Value.int 1)) ∧ w' = w1) ∧ w1.length ≤ 220 ∧ xsz w1 ≤ 200000 := by
  refine ⟨(((((W0 6 xs) ++ [Sum.inr (14, [])]).set 128 (Sum.inr (12, [Value.ref 129, Value.ref 131, Value.ref 133, Value.ref 135, Value.ref 137, Value.ref 139, Value.ref 141, Value.ref 143, Value.ref 145, Value.ref 147, Value.ref 149, Value.ref 151, Value.ref 153, Value.ref 154, Value.ref 155, Value.ref 156, Value.ref 157, Value.int (-16384), Value.int 16384, Value.int 0, Value.int 0, Value.int 0, Value.ref 158, Value.ref 159, Value.int 0, Value.int 0, Value.int 0, Value.int 0, Value.int 0, Value.int 0, Value.int 0, Value.int 0]))) ++ [Sum.inr (14, [])]).set 128 (Sum.inr (12, [Value.ref 129, Value.ref 131, Value.ref 133, Value.ref 135, Value.ref 137, Value.ref 139, Value.ref 141, Value.ref 143, Value.ref 145, Value.ref 147, Value.ref 149, Value.ref 151, Value.ref 153, Value.ref 154, Value.ref 155, Value.ref 156, Value.ref 157, Value.int (-16384), Value.int 16384, Value.int 0, Value.int 0, Value.int 0, Value.ref 158, Value.ref 159, Value.int 0, Value.int 0, Value.int 0, Value.int 0, Value.int 0, Value.int 0, Value.int 0, Value.int 1]))), ?_, (show xLs _ 220 200000 from ?_)⟩
  · refine i_287_23 (x := 0) rfl ?_
    refine i_287_25 (x := 0) rfl ?_
    refine i_287_26 (c := 6) W0_0 (by decide) ?_
    refine i_287_27 ?_
    refine i_287_29 (c := 0) (by decide) ?_
    refine i_287_30 (fun h => absurd h (by decide)) (fun _ => ?_)
    refine i_287_33 (x := 0) rfl ?_
    refine i_287_34 (x := 0) rfl ?_
    refine i_287_36 (v := Value.int (xs 0)) W0_0 (by decide) (by decide) rfl ?_
    refine i_287_37 ?_
    refine i_287_39 (c := 11) (show ((xs 0) &&& (31 : Int32)) = 11 from (xge_c (n := 11) (by omega) rfl)) ?_
    refine i_287_40_11 rfl ?_
    refine i_287_1149 (x := 7) rfl ?_
    refine i_287_1150 (x := 0) rfl ?_
    refine i_287_1151 (x := 0) rfl ?_
    refine i_287_1153 ?_
    refine i_287_1154 (c := 1) (by decide) ?_
    refine i_287_1155 (v := Value.int (xs 1)) W0_0 (by decide) (by decide) rfl ?_
    refine i_287_1156 (x := 0) rfl ?_
    refine i_287_1157 (x := 0) rfl ?_
    refine i_287_1159 ?_
    refine i_287_1160 (c := 2) (by decide) ?_
    refine i_287_1161 (v := Value.int (xs 2)) W0_0 (by decide) (by decide) rfl ?_
    refine i_287_1162 (x := 0) rfl ?_
    refine i_287_1163 (x := 0) rfl ?_
    refine i_287_1165 ?_
    refine i_287_1166 (c := 3) (by decide) ?_
    refine i_287_1167 (v := Value.int (xs 3)) W0_0 (by decide) (by decide) rfl ?_
    refine i_287_1168 (x := 0) rfl ?_
    refine i_287_1169 (x := 0) rfl ?_
    refine i_287_1171 ?_
    refine i_287_1172 (c := 4) (by decide) ?_
    refine i_287_1173 (v := Value.int (xs 4)) W0_0 (by decide) (by decide) rfl ?_
    refine i_287_1174 (x := 0) rfl ?_
    refine i_287_1175 (x := 0) rfl ?_
    refine i_287_1177 ?_
    refine i_287_1178 (c := 5) (by decide) ?_
    refine i_287_1179 (v := Value.int (xs 5)) W0_0 (by decide) (by decide) rfl ?_
    refine i_287_1180 (x := 194) rfl ?_
    refine i_287_1181 (Nat.le_of_ble_eq_true rfl) (p_114_2 W0_7 (by omega) (by omega) (by omega) (by omega) (by omega)) ?_
    refine i_287_1184 (lv2 := [(5, Value.int 1), (4, Value.int 0), (3, Value.ref 194), (2, Value.ref 128), (1, Value.ref 7), (0, Value.ref 0)]) rfl ?_
    refine i_287_1186 (x := 128) rfl ?_
    refine i_287_1187 (x := 0) rfl ?_
    refine i_287_1188 (x := 0) rfl ?_
    refine i_287_1190 ?_
    refine i_287_1191 (c := 1) (by decide) ?_
    refine i_287_1192 (v := Value.int (xs 1)) (xga W0_0) (by decide) (by decide) rfl ?_
    refine i_287_1193 (x := 0) rfl ?_
    refine i_287_1194 (x := 0) rfl ?_
    refine i_287_1196 ?_
    refine i_287_1197 (c := 2) (by decide) ?_
    refine i_287_1198 (v := Value.int (xs 2)) (xga W0_0) (by decide) (by decide) rfl ?_
    refine i_287_1199 (x := 0) rfl ?_
    refine i_287_1200 (x := 0) rfl ?_
    refine i_287_1202 ?_
    refine i_287_1203 (c := 3) (by decide) ?_
    refine i_287_1204 (v := Value.int (xs 3)) (xga W0_0) (by decide) (by decide) rfl ?_
    refine i_287_1205 (x := 0) rfl ?_
    refine i_287_1206 (x := 0) rfl ?_
    refine i_287_1208 ?_
    refine i_287_1209 (c := 4) (by decide) ?_
    refine i_287_1210 (v := Value.int (xs 4)) (xga W0_0) (by decide) (by decide) rfl ?_
    refine i_287_1211 (x := 0) rfl ?_
    refine i_287_1212 (x := 0) rfl ?_
    refine i_287_1214 ?_
    refine i_287_1215 (c := 5) (by decide) ?_
    refine i_287_1216 (v := Value.int (xs 5)) (xga W0_0) (by decide) (by decide) rfl ?_
    refine i_287_1217 (xga W0_128) (Nat.le_of_ble_eq_true rfl) (p_230_4 (xga W0_128) (by omega) (by omega) (by omega) (by omega) (by omega) (by omega) (by omega)) ?_
    refine i_287_1220 (lv2 := [(6, Value.int 0), (5, Value.int 1), (4, Value.int 0), (3, Value.ref 194), (2, Value.ref 128), (1, Value.ref 7), (0, Value.ref 0)]) rfl ?_
    refine i_287_1222 (x := 128) rfl ?_
    refine i_287_1223 (xgs (xga (xgs (xga W0_128)))) (Nat.le_of_ble_eq_true rfl) (p_165_0 (xgs (xga (xgs (xga W0_128))))) ?_
    refine i_287_1226 (x := 1) rfl ?_
    refine i_287_1228 (fun _ => ?_) (fun h => absurd h (by decide))
    refine i_287_1233 (x := 1) rfl ?_
    refine i_287_1235 (fun _ => ?_) (fun h => absurd h (by decide))
    refine i_287_1250 ?_
    refine i_287_2154 (x := 0) (c := 6) (lv2 := [(4, Value.int 6), (6, Value.int 0), (5, Value.int 1), (3, Value.ref 194), (2, Value.ref 128), (1, Value.ref 7), (0, Value.ref 0)]) rfl (by decide) rfl ?_
    refine i_287_2157 ?_
    refine i_287_23 (x := 6) rfl ?_
    refine i_287_25 (x := 0) rfl ?_
    refine i_287_26 (c := 6) (xgn (by decide) (xga (xgn (by decide) (xga W0_0)))) (by decide) ?_
    refine i_287_27 ?_
    refine i_287_29 (c := 0) (by decide) ?_
    refine i_287_30 (fun _ => ?_) (fun h => absurd h (by decide))
    refine i_287_2160 ?_
    exact i_287_2161 rfl ⟨rfl, rfl⟩
  · refine xLs.set ?_ (xga (xgs (xga W0_128))) xcs_o
    refine xLs.app (n := 219) (z := 199994) (m := 6) ?_ rfl
    refine xLs.set ?_ (xga W0_128) xcs_o
    refine xLs.app (n := 218) (z := 199988) (m := 6) ?_ rfl
    exact ⟨Nat.le_trans (Nat.le_of_eq W0_len) (by decide), Nat.le_trans (Nat.le_of_eq W0_sz) (by decide)⟩
theorem p_115_3 {d : Nat} {w : xW} {a0 : Int32} {a1 : Int32} {a2 : Int32} {a3 : Int32} {a4 : Int32} (e0 : 0 ≤ a0.toInt) (e1 : a0.toInt < 16) (e2 : 0 ≤ a1.toInt) (e3 : a1.toInt < 16) (e4 : 1 ≤ a3.toInt) (e5 : 16 < a3.toInt) : xRun (d + 6) 115 [Value.ref 7, Value.int a0, Value.int a1, Value.int a2, Value.int a3, Value.int a4] w (.inr w.length) (w ++ [Sum.inr (14, [])]) := by
  refine xRun.of ?_
  refine i_115_0 (x := a0) rfl ?_
  refine i_115_1 (Nat.le_of_ble_eq_true rfl) (p_15_1 e0 e1) ?_
  refine i_115_4 (fun h => absurd h (by decide)) (fun _ => ?_)
  refine i_115_7 (x := a1) rfl ?_
  refine i_115_8 (x := a3) rfl ?_
  refine i_115_10 (Nat.le_of_ble_eq_true rfl) (p_113_2 e2 e3 e4 e5) ?_
  refine i_115_13 (fun _ => ?_) (fun h => absurd h (by decide))
  exact i_115_33 (by omega) (Nat.le_of_ble_eq_true rfl) ⟨rfl, rfl⟩
theorem p_114_3 {d : Nat} {w : xW} {a0 : Int32} {a1 : Int32} {a2 : Int32} {a3 : Int32} {a4 : Int32} (hw0 : w[7]? = some (Sum.inr (0, [Value.ref 8, Value.ref 78, Value.ref 9, Value.ref 10, Value.ref 13, Value.ref 16, Value.ref 19, Value.ref 93, Value.ref 108, Value.ref 113, Value.ref 29, Value.int 0]))) (e1 : 0 ≤ a0.toInt) (e2 : a0.toInt < 16) (e3 : 0 ≤ a1.toInt) (e4 : a1.toInt < 16) (e5 : 1 ≤ a3.toInt) (e6 : 16 < a3.toInt) : xRun (d + 7) 114 [Value.ref 7, Value.int a0, Value.int a1, Value.int a2, Value.int a3, Value.int a4, Value.ref 194] w (.inl (some (Value.int 1))) (w ++ [Sum.inr (14, [])]) := by
  refine xRun.of ?_
  refine i_114_0 (x := 194) rfl ?_
  refine i_114_2 ?_
  refine i_114_3 (x := 7) rfl ?_
  refine i_114_4 (x := a0) rfl ?_
  refine i_114_5 (x := a1) rfl ?_
  refine i_114_6 (x := a2) rfl ?_
  refine i_114_7 (x := a3) rfl ?_
  refine i_114_9 (x := a4) rfl ?_
  refine j_114_11 hw0 (Nat.le_of_ble_eq_true rfl) (p_115_3 e1 e2 e3 e4 e5 e6) (xDone.c xgl rfl rfl ?_)
  refine i_114_19 (lv2 := [(7, Value.ref w.length), (0, Value.ref 7), (1, Value.int a0), (2, Value.int a1), (3, Value.int a2), (4, Value.int a3), (5, Value.int a4), (6, Value.ref 194)]) rfl ?_
  refine i_114_21 ?_
  exact i_114_22 ⟨rfl, rfl⟩
theorem o_11_5 {d : Nat} {xs : Nat → Int32} (h0 : ((xs 0) &&& (31 : Int32)).toInt = 11) (c0 : 0 ≤ (xs 1).toInt) (c1 : (xs 1).toInt < 16) (c2 : 0 ≤ (xs 2).toInt) (c3 : (xs 2).toInt < 16) (c4 : 1 ≤ (xs 4).toInt) (c5 : 16 < (xs 4).toInt) (c6 : (xs 3).toInt < 0) : ∃ w1, xEv (d + 20) 287 23 [(4, Value.int 0), (3, Value.ref 194), (2, Value.ref 128), (1, Value.ref 7), (0, Value.ref 0)] [] (W0 6 xs) (fun o' w' => o' = .inl (some (Value.int 1)) ∧ w' = w1) ∧ w1.length ≤ 220 ∧ xsz w1 ≤ 200000 := by
  refine ⟨(((((W0 6 xs) ++ [Sum.inr (14, [])]).set 128 (Sum.inr (12, [Value.ref 129, Value.ref 131, Value.ref 133, Value.ref 135, Value.ref 137, Value.ref 139, Value.ref 141, Value.ref 143, Value.ref 145, Value.ref 147, Value.ref 149, Value.ref 151, Value.ref 153, Value.ref 154, Value.ref 155, Value.ref 156, Value.ref 157, Value.int (-16384), Value.int 16384, Value.int 0, Value.int 0, Value.int 0, Value.ref 158, Value.ref 159, Value.int 0, Value.int 0, Value.int 0, Value.int 0, Value.int 0, Value.int 0, Value.int 0, Value.int 0]))) ++ [Sum.inr (14, [])]).set 128 (Sum.inr (12, [Value.ref 129, Value.ref 131, Value.ref 133, Value.ref 135, Value.ref 137, Value.ref 139, Value.ref 141, Value.ref 143, Value.ref 145, Value.ref 147, Value.ref 149, Value.ref 151, Value.ref 153, Value.ref 154, Value.ref 155, Value.ref 156, Value.ref 157, Value.int (-16384), Value.int 16384, Value.int 0, Value.int 0, Value.int 0, Value.ref 158, Value.ref 159, Value.int 0, Value.int 0, Value.int 0, Value.int 0, Value.int 0, Value.int 0, Value.int 0, Value.int 1]))), ?_, (show xLs _ 220 200000 from ?_)⟩
  · refine i_287_23 (x := 0) rfl ?_
    refine i_287_25 (x := 0) rfl ?_
    refine i_287_26 (c := 6) W0_0 (by decide) ?_
    refine i_287_27 ?_
    refine i_287_29 (c := 0) (by decide) ?_
    refine i_287_30 (fun h => absurd h (by decide)) (fun _ => ?_)
    refine i_287_33 (x := 0) rfl ?_
    refine i_287_34 (x := 0) rfl ?_
    refine i_287_36 (v := Value.int (xs 0)) W0_0 (by decide) (by decide) rfl ?_
    refine i_287_37 ?_
    refine i_287_39 (c := 11) (show ((xs 0) &&& (31 : Int32)) = 11 from (xge_c (n := 11) (by omega) rfl)) ?_
    refine i_287_40_11 rfl ?_
    refine i_287_1149 (x := 7) rfl ?_
    refine i_287_1150 (x := 0) rfl ?_
    refine i_287_1151 (x := 0) rfl ?_
    refine i_287_1153 ?_
    refine i_287_1154 (c := 1) (by decide) ?_
    refine i_287_1155 (v := Value.int (xs 1)) W0_0 (by decide) (by decide) rfl ?_
    refine i_287_1156 (x := 0) rfl ?_
    refine i_287_1157 (x := 0) rfl ?_
    refine i_287_1159 ?_
    refine i_287_1160 (c := 2) (by decide) ?_
    refine i_287_1161 (v := Value.int (xs 2)) W0_0 (by decide) (by decide) rfl ?_
    refine i_287_1162 (x := 0) rfl ?_
    refine i_287_1163 (x := 0) rfl ?_
    refine i_287_1165 ?_
    refine i_287_1166 (c := 3) (by decide) ?_
    refine i_287_1167 (v := Value.int (xs 3)) W0_0 (by decide) (by decide) rfl ?_
    refine i_287_1168 (x := 0) rfl ?_
    refine i_287_1169 (x := 0) rfl ?_
    refine i_287_1171 ?_
    refine i_287_1172 (c := 4) (by decide) ?_
    refine i_287_1173 (v := Value.int (xs 4)) W0_0 (by decide) (by decide) rfl ?_
    refine i_287_1174 (x := 0) rfl ?_
    refine i_287_1175 (x := 0) rfl ?_
    refine i_287_1177 ?_
    refine i_287_1178 (c := 5) (by decide) ?_
    refine i_287_1179 (v := Value.int (xs 5)) W0_0 (by decide) (by decide) rfl ?_
    refine i_287_1180 (x := 194) rfl ?_
    refine i_287_1181 (Nat.le_of_ble_eq_true rfl) (p_114_3 W0_7 (by omega) (by omega) (by omega) (by omega) (by omega) (by omega)) ?_
    refine i_287_1184 (lv2 := [(5, Value.int 1), (4, Value.int 0), (3, Value.ref 194), (2, Value.ref 128), (1, Value.ref 7), (0, Value.ref 0)]) rfl ?_
    refine i_287_1186 (x := 128) rfl ?_
    refine i_287_1187 (x := 0) rfl ?_
    refine i_287_1188 (x := 0) rfl ?_
    refine i_287_1190 ?_
    refine i_287_1191 (c := 1) (by decide) ?_
    refine i_287_1192 (v := Value.int (xs 1)) (xga W0_0) (by decide) (by decide) rfl ?_
    refine i_287_1193 (x := 0) rfl ?_
    refine i_287_1194 (x := 0) rfl ?_
    refine i_287_1196 ?_
    refine i_287_1197 (c := 2) (by decide) ?_
    refine i_287_1198 (v := Value.int (xs 2)) (xga W0_0) (by decide) (by decide) rfl ?_
    refine i_287_1199 (x := 0) rfl ?_
    refine i_287_1200 (x := 0) rfl ?_
    refine i_287_1202 ?_
    refine i_287_1203 (c := 3) (by decide) ?_
    refine i_287_1204 (v := Value.int (xs 3)) (xga W0_0) (by decide) (by decide) rfl ?_
    refine i_287_1205 (x := 0) rfl ?_
    refine i_287_1206 (x := 0) rfl ?_
    refine i_287_1208 ?_
    refine i_287_1209 (c := 4) (by decide) ?_
    refine i_287_1210 (v := Value.int (xs 4)) (xga W0_0) (by decide) (by decide) rfl ?_
    refine i_287_1211 (x := 0) rfl ?_
    refine i_287_1212 (x := 0) rfl ?_
    refine i_287_1214 ?_
    refine i_287_1215 (c := 5) (by decide) ?_
    refine i_287_1216 (v := Value.int (xs 5)) (xga W0_0) (by decide) (by decide) rfl ?_
    refine i_287_1217 (xga W0_128) (Nat.le_of_ble_eq_true rfl) (p_230_2 (xga W0_128) (by omega) (by omega) (by omega) (by omega) (by omega)) ?_
    refine i_287_1220 (lv2 := [(6, Value.int 0), (5, Value.int 1), (4, Value.int 0), (3, Value.ref 194), (2, Value.ref 128), (1, Value.ref 7), (0, Value.ref 0)]) rfl ?_
    refine i_287_1222 (x := 128) rfl ?_
    refine i_287_1223 (xgs (xga (xgs (xga W0_128)))) (Nat.le_of_ble_eq_true rfl) (p_165_0 (xgs (xga (xgs (xga W0_128))))) ?_
    refine i_287_1226 (x := 1) rfl ?_
    refine i_287_1228 (fun _ => ?_) (fun h => absurd h (by decide))
    refine i_287_1233 (x := 1) rfl ?_
    refine i_287_1235 (fun _ => ?_) (fun h => absurd h (by decide))
    refine i_287_1250 ?_
    refine i_287_2154 (x := 0) (c := 6) (lv2 := [(4, Value.int 6), (6, Value.int 0), (5, Value.int 1), (3, Value.ref 194), (2, Value.ref 128), (1, Value.ref 7), (0, Value.ref 0)]) rfl (by decide) rfl ?_
    refine i_287_2157 ?_
    refine i_287_23 (x := 6) rfl ?_
    refine i_287_25 (x := 0) rfl ?_
    refine i_287_26 (c := 6) (xgn (by decide) (xga (xgn (by decide) (xga W0_0)))) (by decide) ?_
    refine i_287_27 ?_
    refine i_287_29 (c := 0) (by decide) ?_
    refine i_287_30 (fun _ => ?_) (fun h => absurd h (by decide))
    refine i_287_2160 ?_
    exact i_287_2161 rfl ⟨rfl, rfl⟩
  · refine xLs.set ?_ (xga (xgs (xga W0_128))) xcs_o
    refine xLs.app (n := 219) (z := 199994) (m := 6) ?_ rfl
    refine xLs.set ?_ (xga W0_128) xcs_o
    refine xLs.app (n := 218) (z := 199988) (m := 6) ?_ rfl
    exact ⟨Nat.le_trans (Nat.le_of_eq W0_len) (by decide), Nat.le_trans (Nat.le_of_eq W0_sz) (by decide)⟩
theorem o_11_6 {d : Nat} {xs : Nat → Int32} (h0 : ((xs 0) &&& (31 : Int32)).toInt = 11) (c0 : 0 ≤ (xs 1).toInt) (c1 : (xs 1).toInt < 16) (c2 : 0 ≤ (xs 2).toInt) (c3 : (xs 2).toInt < 16) (c4 : 1 ≤ (xs 4).toInt) (c5 : 16 < (xs 4).toInt) (c6 : 0 ≤ (xs 3).toInt) (c7 : 15 < (xs 3).toInt) : ∃ w1, xEv (d + 20) 287 23 [(4, Value.int 0), (3, Value.ref 194), (2, Value.ref 128), (1, Value.ref 7), (0, Value.ref 0)] [] (W0 6 xs) (fun o' w' => o' = .inl (some (Value.int 1)) ∧ w' = w1) ∧ w1.length ≤ 220 ∧ xsz w1 ≤ 200000 := by
  refine ⟨(((((W0 6 xs) ++ [Sum.inr (14, [])]).set 128 (Sum.inr (12, [Value.ref 129, Value.ref 131, Value.ref 133, Value.ref 135, Value.ref 137, Value.ref 139, Value.ref 141, Value.ref 143, Value.ref 145, Value.ref 147, Value.ref 149, Value.ref 151, Value.ref 153, Value.ref 154, Value.ref 155, Value.ref 156, Value.ref 157, Value.int (-16384), Value.int 16384, Value.int 0, Value.int 0, Value.int 0, Value.ref 158, Value.ref 159, Value.int 0, Value.int 0, Value.int 0, Value.int 0, Value.int 0, Value.int 0, Value.int 0, Value.int 0]))) ++ [Sum.inr (14, [])]).set 128 (Sum.inr (12, [Value.ref 129, Value.ref 131, Value.ref 133, Value.ref 135, Value.ref 137, Value.ref 139, Value.ref 141, Value.ref 143, Value.ref 145, Value.ref 147, Value.ref 149, Value.ref 151, Value.ref 153, Value.ref 154, Value.ref 155, Value.ref 156, Value.ref 157, Value.int (-16384), Value.int 16384, Value.int 0, Value.int 0, Value.int 0, Value.ref 158, Value.ref 159, Value.int 0, Value.int 0, Value.int 0, Value.int 0, Value.int 0, Value.int 0, Value.int 0, Value.int 1]))), ?_, (show xLs _ 220 200000 from ?_)⟩
  · refine i_287_23 (x := 0) rfl ?_
    refine i_287_25 (x := 0) rfl ?_
    refine i_287_26 (c := 6) W0_0 (by decide) ?_
    refine i_287_27 ?_
    refine i_287_29 (c := 0) (by decide) ?_
    refine i_287_30 (fun h => absurd h (by decide)) (fun _ => ?_)
    refine i_287_33 (x := 0) rfl ?_
    refine i_287_34 (x := 0) rfl ?_
    refine i_287_36 (v := Value.int (xs 0)) W0_0 (by decide) (by decide) rfl ?_
    refine i_287_37 ?_
    refine i_287_39 (c := 11) (show ((xs 0) &&& (31 : Int32)) = 11 from (xge_c (n := 11) (by omega) rfl)) ?_
    refine i_287_40_11 rfl ?_
    refine i_287_1149 (x := 7) rfl ?_
    refine i_287_1150 (x := 0) rfl ?_
    refine i_287_1151 (x := 0) rfl ?_
    refine i_287_1153 ?_
    refine i_287_1154 (c := 1) (by decide) ?_
    refine i_287_1155 (v := Value.int (xs 1)) W0_0 (by decide) (by decide) rfl ?_
    refine i_287_1156 (x := 0) rfl ?_
    refine i_287_1157 (x := 0) rfl ?_
    refine i_287_1159 ?_
    refine i_287_1160 (c := 2) (by decide) ?_
    refine i_287_1161 (v := Value.int (xs 2)) W0_0 (by decide) (by decide) rfl ?_
    refine i_287_1162 (x := 0) rfl ?_
    refine i_287_1163 (x := 0) rfl ?_
    refine i_287_1165 ?_
    refine i_287_1166 (c := 3) (by decide) ?_
    refine i_287_1167 (v := Value.int (xs 3)) W0_0 (by decide) (by decide) rfl ?_
    refine i_287_1168 (x := 0) rfl ?_
    refine i_287_1169 (x := 0) rfl ?_
    refine i_287_1171 ?_
    refine i_287_1172 (c := 4) (by decide) ?_
    refine i_287_1173 (v := Value.int (xs 4)) W0_0 (by decide) (by decide) rfl ?_
    refine i_287_1174 (x := 0) rfl ?_
    refine i_287_1175 (x := 0) rfl ?_
    refine i_287_1177 ?_
    refine i_287_1178 (c := 5) (by decide) ?_
    refine i_287_1179 (v := Value.int (xs 5)) W0_0 (by decide) (by decide) rfl ?_
    refine i_287_1180 (x := 194) rfl ?_
    refine i_287_1181 (Nat.le_of_ble_eq_true rfl) (p_114_3 W0_7 (by omega) (by omega) (by omega) (by omega) (by omega) (by omega)) ?_
    refine i_287_1184 (lv2 := [(5, Value.int 1), (4, Value.int 0), (3, Value.ref 194), (2, Value.ref 128), (1, Value.ref 7), (0, Value.ref 0)]) rfl ?_
    refine i_287_1186 (x := 128) rfl ?_
    refine i_287_1187 (x := 0) rfl ?_
    refine i_287_1188 (x := 0) rfl ?_
    refine i_287_1190 ?_
    refine i_287_1191 (c := 1) (by decide) ?_
    refine i_287_1192 (v := Value.int (xs 1)) (xga W0_0) (by decide) (by decide) rfl ?_
    refine i_287_1193 (x := 0) rfl ?_
    refine i_287_1194 (x := 0) rfl ?_
    refine i_287_1196 ?_
    refine i_287_1197 (c := 2) (by decide) ?_
    refine i_287_1198 (v := Value.int (xs 2)) (xga W0_0) (by decide) (by decide) rfl ?_
    refine i_287_1199 (x := 0) rfl ?_
    refine i_287_1200 (x := 0) rfl ?_
    refine i_287_1202 ?_
    refine i_287_1203 (c := 3) (by decide) ?_
    refine i_287_1204 (v := Value.int (xs 3)) (xga W0_0) (by decide) (by decide) rfl ?_
    refine i_287_1205 (x := 0) rfl ?_
    refine i_287_1206 (x := 0) rfl ?_
    refine i_287_1208 ?_
    refine i_287_1209 (c := 4) (by decide) ?_
    refine i_287_1210 (v := Value.int (xs 4)) (xga W0_0) (by decide) (by decide) rfl ?_
    refine i_287_1211 (x := 0) rfl ?_
    refine i_287_1212 (x := 0) rfl ?_
    refine i_287_1214 ?_
    refine i_287_1215 (c := 5) (by decide) ?_
    refine i_287_1216 (v := Value.int (xs 5)) (xga W0_0) (by decide) (by decide) rfl ?_
    refine i_287_1217 (xga W0_128) (Nat.le_of_ble_eq_true rfl) (p_230_3 (xga W0_128) (by omega) (by omega) (by omega) (by omega) (by omega) (by omega)) ?_
    refine i_287_1220 (lv2 := [(6, Value.int 0), (5, Value.int 1), (4, Value.int 0), (3, Value.ref 194), (2, Value.ref 128), (1, Value.ref 7), (0, Value.ref 0)]) rfl ?_
    refine i_287_1222 (x := 128) rfl ?_
    refine i_287_1223 (xgs (xga (xgs (xga W0_128)))) (Nat.le_of_ble_eq_true rfl) (p_165_0 (xgs (xga (xgs (xga W0_128))))) ?_
    refine i_287_1226 (x := 1) rfl ?_
    refine i_287_1228 (fun _ => ?_) (fun h => absurd h (by decide))
    refine i_287_1233 (x := 1) rfl ?_
    refine i_287_1235 (fun _ => ?_) (fun h => absurd h (by decide))
    refine i_287_1250 ?_
    refine i_287_2154 (x := 0) (c := 6) (lv2 := [(4, Value.int 6), (6, Value.int 0), (5, Value.int 1), (3, Value.ref 194), (2, Value.ref 128), (1, Value.ref 7), (0, Value.ref 0)]) rfl (by decide) rfl ?_
    refine i_287_2157 ?_
    refine i_287_23 (x := 6) rfl ?_
    refine i_287_25 (x := 0) rfl ?_
    refine i_287_26 (c := 6) (xgn (by decide) (xga (xgn (by decide) (xga W0_0)))) (by decide) ?_
    refine i_287_27 ?_
    refine i_287_29 (c := 0) (by decide) ?_
    refine i_287_30 (fun _ => ?_) (fun h => absurd h (by decide))
    refine i_287_2160 ?_
    exact i_287_2161 rfl ⟨rfl, rfl⟩
  · refine xLs.set ?_ (xga (xgs (xga W0_128))) xcs_o
    refine xLs.app (n := 219) (z := 199994) (m := 6) ?_ rfl
    refine xLs.set ?_ (xga W0_128) xcs_o
    refine xLs.app (n := 218) (z := 199988) (m := 6) ?_ rfl
    exact ⟨Nat.le_trans (Nat.le_of_eq W0_len) (by decide), Nat.le_trans (Nat.le_of_eq W0_sz) (by decide)⟩
theorem p_231_5 {d : Nat} {w : xW} {a0 : Int32} {a1 : Int32} {a2 : Int32} {a3 : Int32} {a4 : Int32} (e0 : 0 ≤ a0.toInt) (e1 : a0.toInt ≤ 15) (e2 : 0 ≤ a1.toInt) (e3 : a1.toInt ≤ 15) (e4 : 0 ≤ a2.toInt) (e5 : a2.toInt ≤ 15) (e6 : 1 ≤ a3.toInt) (e7 : 16 < a3.toInt) : xRun (d + 7) 231 [Value.ref 128, Value.int a0, Value.int a1, Value.int a2, Value.int a3, Value.int a4] w (.inr w.length) (w ++ [Sum.inr (14, [])]) := by
  refine xRun.of ?_
  refine i_231_0 (x := a0) rfl ?_
  refine i_231_1 (Nat.le_of_ble_eq_true rfl) (p_168_1 e0 e1) ?_
  refine i_231_4 (x := a1) rfl ?_
  refine i_231_5 (Nat.le_of_ble_eq_true rfl) (p_168_1 e2 e3) ?_
  refine i_231_8 (x := a2) rfl ?_
  refine i_231_9 (Nat.le_of_ble_eq_true rfl) (p_168_1 e4 e5) ?_
  refine i_231_12 (x := a3) rfl ?_
  refine i_231_14 ?_
  refine i_231_15 ?_
  refine i_231_17 (Nat.le_of_ble_eq_true rfl) (p_169_43 e6 e7) ?_
  refine i_231_20 (fun _ => ?_) (fun h => absurd h (by decide))
  refine i_231_45 ?_
  exact j_231_46 (Nat.le_of_ble_eq_true rfl) (p_170_0) (xDone.t xgl rfl rfl ⟨rfl, rfl⟩)
theorem p_230_5 {d : Nat} {w : xW} {a0 : Int32} {a1 : Int32} {a2 : Int32} {a3 : Int32} {a4 : Int32} (hw0 : w[128]? = some (Sum.inr (12, [Value.ref 129, Value.ref 131, Value.ref 133, Value.ref 135, Value.ref 137, Value.ref 139, Value.ref 141, Value.ref 143, Value.ref 145, Value.ref 147, Value.ref 149, Value.ref 151, Value.ref 153, Value.ref 154, Value.ref 155, Value.ref 156, Value.ref 157, Value.int (-16384), Value.int 16384, Value.int 0, Value.int 0, Value.int 0, Value.ref 158, Value.ref 159, Value.int 0, Value.int 0, Value.int 0, Value.int 0, Value.int 0, Value.int 0, Value.int 0, Value.int 0]))) (e1 : 0 ≤ a0.toInt) (e2 : a0.toInt ≤ 15) (e3 : 0 ≤ a1.toInt) (e4 : a1.toInt ≤ 15) (e5 : 0 ≤ a2.toInt) (e6 : a2.toInt ≤ 15) (e7 : 1 ≤ a3.toInt) (e8 : 16 < a3.toInt) : xRun (d + 8) 230 [Value.ref 128, Value.int a0, Value.int a1, Value.int a2, Value.int a3, Value.int a4] w (.inl (some (Value.int 0))) (((w.set 128 (Sum.inr (12, [Value.ref 129, Value.ref 131, Value.ref 133, Value.ref 135, Value.ref 137, Value.ref 139, Value.ref 141, Value.ref 143, Value.ref 145, Value.ref 147, Value.ref 149, Value.ref 151, Value.ref 153, Value.ref 154, Value.ref 155, Value.ref 156, Value.ref 157, Value.int (-16384), Value.int 16384, Value.int 0, Value.int 0, Value.int 0, Value.ref 158, Value.ref 159, Value.int 0, Value.int 0, Value.int 0, Value.int 0, Value.int 0, Value.int 0, Value.int 0, Value.int 0]))) ++ [Sum.inr (14, [])]).set 128 (Sum.inr (12, [Value.ref 129, Value.ref 131, Value.ref 133, Value.ref 135, Value.ref 137, Value.ref 139, Value.ref 141, Value.ref 143, Value.ref 145, Value.ref 147, Value.ref 149, Value.ref 151, Value.ref 153, Value.ref 154, Value.ref 155, Value.ref 156, Value.ref 157, Value.int (-16384), Value.int 16384, Value.int 0, Value.int 0, Value.int 0, Value.ref 158, Value.ref 159, Value.int 0, Value.int 0, Value.int 0, Value.int 0, Value.int 0, Value.int 0, Value.int 0, Value.int 1]))) := by
  refine xRun.of ?_
  refine i_230_0 (x := 128) rfl ?_
  refine i_230_1 ?_
  refine i_230_2 (fs2 := [Value.ref 129, Value.ref 131, Value.ref 133, Value.ref 135, Value.ref 137, Value.ref 139, Value.ref 141, Value.ref 143, Value.ref 145, Value.ref 147, Value.ref 149, Value.ref 151, Value.ref 153, Value.ref 154, Value.ref 155, Value.ref 156, Value.ref 157, Value.int (-16384), Value.int 16384, Value.int 0, Value.int 0, Value.int 0, Value.ref 158, Value.ref 159, Value.int 0, Value.int 0, Value.int 0, Value.int 0, Value.int 0, Value.int 0, Value.int 0, Value.int 0]) hw0 (Nat.le_of_ble_eq_true rfl) rfl (by decide) ?_
  refine i_230_5 (x := 128) rfl ?_
  refine i_230_6 (x := a0) rfl ?_
  refine i_230_7 (x := a1) rfl ?_
  refine i_230_8 (x := a2) rfl ?_
  refine i_230_9 (x := a3) rfl ?_
  refine i_230_11 (x := a4) rfl ?_
  refine j_230_13 (xgs hw0) (Nat.le_of_ble_eq_true rfl) (p_231_5 e1 e2 e3 e4 e5 e6 e7 e8) (xDone.c xgl rfl rfl ?_)
  refine i_230_17 (lv2 := [(6, Value.ref ((w.set 128 (Sum.inr (12, [Value.ref 129, Value.ref 131, Value.ref 133, Value.ref 135, Value.ref 137, Value.ref 139, Value.ref 141, Value.ref 143, Value.ref 145, Value.ref 147, Value.ref 149, Value.ref 151, Value.ref 153, Value.ref 154, Value.ref 155, Value.ref 156, Value.ref 157, Value.int (-16384), Value.int 16384, Value.int 0, Value.int 0, Value.int 0, Value.ref 158, Value.ref 159, Value.int 0, Value.int 0, Value.int 0, Value.int 0, Value.int 0, Value.int 0, Value.int 0, Value.int 0]))).length)), (0, Value.ref 128), (1, Value.int a0), (2, Value.int a1), (3, Value.int a2), (4, Value.int a3), (5, Value.int a4)]) rfl ?_
  refine i_230_19 (x := 128) rfl ?_
  refine i_230_20 ?_
  refine i_230_21 (fs2 := [Value.ref 129, Value.ref 131, Value.ref 133, Value.ref 135, Value.ref 137, Value.ref 139, Value.ref 141, Value.ref 143, Value.ref 145, Value.ref 147, Value.ref 149, Value.ref 151, Value.ref 153, Value.ref 154, Value.ref 155, Value.ref 156, Value.ref 157, Value.int (-16384), Value.int 16384, Value.int 0, Value.int 0, Value.int 0, Value.ref 158, Value.ref 159, Value.int 0, Value.int 0, Value.int 0, Value.int 0, Value.int 0, Value.int 0, Value.int 0, Value.int 1]) (xga (xgs hw0)) (Nat.le_of_ble_eq_true rfl) rfl (by decide) ?_
  refine i_230_24 ?_
  exact i_230_25 ⟨rfl, rfl⟩
theorem o_11_7 {d : Nat} {xs : Nat → Int32} (h0 : ((xs 0) &&& (31 : Int32)).toInt = 11) (c0 : 0 ≤ (xs 1).toInt) (c1 : (xs 1).toInt < 16) (c2 : 0 ≤ (xs 2).toInt) (c3 : (xs 2).toInt < 16) (c4 : 1 ≤ (xs 4).toInt) (c5 : 16 < (xs 4).toInt) (c6 : 0 ≤ (xs 3).toInt) (c7 : (xs 3).toInt ≤ 15) : ∃ w1, xEv (d + 20) 287 23 [(4, Value.int 0), (3, Value.ref 194), (2, Value.ref 128), (1, Value.ref 7), (0, Value.ref 0)] [] (W0 6 xs) (fun o' w' => o' = .inl (some (Value.int 1)) ∧ w' = w1) ∧ w1.length ≤ 220 ∧ xsz w1 ≤ 200000 := by
  refine ⟨(((((W0 6 xs) ++ [Sum.inr (14, [])]).set 128 (Sum.inr (12, [Value.ref 129, Value.ref 131, Value.ref 133, Value.ref 135, Value.ref 137, Value.ref 139, Value.ref 141, Value.ref 143, Value.ref 145, Value.ref 147, Value.ref 149, Value.ref 151, Value.ref 153, Value.ref 154, Value.ref 155, Value.ref 156, Value.ref 157, Value.int (-16384), Value.int 16384, Value.int 0, Value.int 0, Value.int 0, Value.ref 158, Value.ref 159, Value.int 0, Value.int 0, Value.int 0, Value.int 0, Value.int 0, Value.int 0, Value.int 0, Value.int 0]))) ++ [Sum.inr (14, [])]).set 128 (Sum.inr (12, [Value.ref 129, Value.ref 131, Value.ref 133, Value.ref 135, Value.ref 137, Value.ref 139, Value.ref 141, Value.ref 143, Value.ref 145, Value.ref 147, Value.ref 149, Value.ref 151, Value.ref 153, Value.ref 154, Value.ref 155, Value.ref 156, Value.ref 157, Value.int (-16384), Value.int 16384, Value.int 0, Value.int 0, Value.int 0, Value.ref 158, Value.ref 159, Value.int 0, Value.int 0, Value.int 0, Value.int 0, Value.int 0, Value.int 0, Value.int 0, Value.int 1]))), ?_, (show xLs _ 220 200000 from ?_)⟩
  · refine i_287_23 (x := 0) rfl ?_
    refine i_287_25 (x := 0) rfl ?_
    refine i_287_26 (c := 6) W0_0 (by decide) ?_
    refine i_287_27 ?_
    refine i_287_29 (c := 0) (by decide) ?_
    refine i_287_30 (fun h => absurd h (by decide)) (fun _ => ?_)
    refine i_287_33 (x := 0) rfl ?_
    refine i_287_34 (x := 0) rfl ?_
    refine i_287_36 (v := Value.int (xs 0)) W0_0 (by decide) (by decide) rfl ?_
    refine i_287_37 ?_
    refine i_287_39 (c := 11) (show ((xs 0) &&& (31 : Int32)) = 11 from (xge_c (n := 11) (by omega) rfl)) ?_
    refine i_287_40_11 rfl ?_
    refine i_287_1149 (x := 7) rfl ?_
    refine i_287_1150 (x := 0) rfl ?_
    refine i_287_1151 (x := 0) rfl ?_
    refine i_287_1153 ?_
    refine i_287_1154 (c := 1) (by decide) ?_
    refine i_287_1155 (v := Value.int (xs 1)) W0_0 (by decide) (by decide) rfl ?_
    refine i_287_1156 (x := 0) rfl ?_
    refine i_287_1157 (x := 0) rfl ?_
    refine i_287_1159 ?_
    refine i_287_1160 (c := 2) (by decide) ?_
    refine i_287_1161 (v := Value.int (xs 2)) W0_0 (by decide) (by decide) rfl ?_
    refine i_287_1162 (x := 0) rfl ?_
    refine i_287_1163 (x := 0) rfl ?_
    refine i_287_1165 ?_
    refine i_287_1166 (c := 3) (by decide) ?_
    refine i_287_1167 (v := Value.int (xs 3)) W0_0 (by decide) (by decide) rfl ?_
    refine i_287_1168 (x := 0) rfl ?_
    refine i_287_1169 (x := 0) rfl ?_
    refine i_287_1171 ?_
    refine i_287_1172 (c := 4) (by decide) ?_
    refine i_287_1173 (v := Value.int (xs 4)) W0_0 (by decide) (by decide) rfl ?_
    refine i_287_1174 (x := 0) rfl ?_
    refine i_287_1175 (x := 0) rfl ?_
    refine i_287_1177 ?_
    refine i_287_1178 (c := 5) (by decide) ?_
    refine i_287_1179 (v := Value.int (xs 5)) W0_0 (by decide) (by decide) rfl ?_
    refine i_287_1180 (x := 194) rfl ?_
    refine i_287_1181 (Nat.le_of_ble_eq_true rfl) (p_114_3 W0_7 (by omega) (by omega) (by omega) (by omega) (by omega) (by omega)) ?_
    refine i_287_1184 (lv2 := [(5, Value.int 1), (4, Value.int 0), (3, Value.ref 194), (2, Value.ref 128), (1, Value.ref 7), (0, Value.ref 0)]) rfl ?_
    refine i_287_1186 (x := 128) rfl ?_
    refine i_287_1187 (x := 0) rfl ?_
    refine i_287_1188 (x := 0) rfl ?_
    refine i_287_1190 ?_
    refine i_287_1191 (c := 1) (by decide) ?_
    refine i_287_1192 (v := Value.int (xs 1)) (xga W0_0) (by decide) (by decide) rfl ?_
    refine i_287_1193 (x := 0) rfl ?_
    refine i_287_1194 (x := 0) rfl ?_
    refine i_287_1196 ?_
    refine i_287_1197 (c := 2) (by decide) ?_
    refine i_287_1198 (v := Value.int (xs 2)) (xga W0_0) (by decide) (by decide) rfl ?_
    refine i_287_1199 (x := 0) rfl ?_
    refine i_287_1200 (x := 0) rfl ?_
    refine i_287_1202 ?_
    refine i_287_1203 (c := 3) (by decide) ?_
    refine i_287_1204 (v := Value.int (xs 3)) (xga W0_0) (by decide) (by decide) rfl ?_
    refine i_287_1205 (x := 0) rfl ?_
    refine i_287_1206 (x := 0) rfl ?_
    refine i_287_1208 ?_
    refine i_287_1209 (c := 4) (by decide) ?_
    refine i_287_1210 (v := Value.int (xs 4)) (xga W0_0) (by decide) (by decide) rfl ?_
    refine i_287_1211 (x := 0) rfl ?_
    refine i_287_1212 (x := 0) rfl ?_
    refine i_287_1214 ?_
    refine i_287_1215 (c := 5) (by decide) ?_
    refine i_287_1216 (v := Value.int (xs 5)) (xga W0_0) (by decide) (by decide) rfl ?_
    refine i_287_1217 (xga W0_128) (Nat.le_of_ble_eq_true rfl) (p_230_5 (xga W0_128) (by omega) (by omega) (by omega) (by omega) (by omega) (by omega) (by omega) (by omega)) ?_
    refine i_287_1220 (lv2 := [(6, Value.int 0), (5, Value.int 1), (4, Value.int 0), (3, Value.ref 194), (2, Value.ref 128), (1, Value.ref 7), (0, Value.ref 0)]) rfl ?_
    refine i_287_1222 (x := 128) rfl ?_
    refine i_287_1223 (xgs (xga (xgs (xga W0_128)))) (Nat.le_of_ble_eq_true rfl) (p_165_0 (xgs (xga (xgs (xga W0_128))))) ?_
    refine i_287_1226 (x := 1) rfl ?_
    refine i_287_1228 (fun _ => ?_) (fun h => absurd h (by decide))
    refine i_287_1233 (x := 1) rfl ?_
    refine i_287_1235 (fun _ => ?_) (fun h => absurd h (by decide))
    refine i_287_1250 ?_
    refine i_287_2154 (x := 0) (c := 6) (lv2 := [(4, Value.int 6), (6, Value.int 0), (5, Value.int 1), (3, Value.ref 194), (2, Value.ref 128), (1, Value.ref 7), (0, Value.ref 0)]) rfl (by decide) rfl ?_
    refine i_287_2157 ?_
    refine i_287_23 (x := 6) rfl ?_
    refine i_287_25 (x := 0) rfl ?_
    refine i_287_26 (c := 6) (xgn (by decide) (xga (xgn (by decide) (xga W0_0)))) (by decide) ?_
    refine i_287_27 ?_
    refine i_287_29 (c := 0) (by decide) ?_
    refine i_287_30 (fun _ => ?_) (fun h => absurd h (by decide))
    refine i_287_2160 ?_
    exact i_287_2161 rfl ⟨rfl, rfl⟩
  · refine xLs.set ?_ (xga (xgs (xga W0_128))) xcs_o
    refine xLs.app (n := 219) (z := 199994) (m := 6) ?_ rfl
    refine xLs.set ?_ (xga W0_128) xcs_o
    refine xLs.app (n := 218) (z := 199988) (m := 6) ?_ rfl
    exact ⟨Nat.le_trans (Nat.le_of_eq W0_len) (by decide), Nat.le_trans (Nat.le_of_eq W0_sz) (by decide)⟩
theorem p_115_4 {d : Nat} {w : xW} {a0 : Int32} {a1 : Int32} {a2 : Int32} {a3 : Int32} {a4 : Int32} {a5 : Int32} (e0 : 0 ≤ a0.toInt) (e1 : a0.toInt < 16) (e2 : 0 ≤ a1.toInt) (e3 : a1.toInt < 16) (e4 : 1 ≤ a3.toInt) (e5 : a3.toInt ≤ 16) (hg6 : (a1 + a3) = a5) (e7 : 16 < a5.toInt) : xRun (d + 6) 115 [Value.ref 7, Value.int a0, Value.int a1, Value.int a2, Value.int a3, Value.int a4] w (.inr w.length) (w ++ [Sum.inr (14, [])]) := by
  refine xRun.of ?_
  refine i_115_0 (x := a0) rfl ?_
  refine i_115_1 (Nat.le_of_ble_eq_true rfl) (p_15_1 e0 e1) ?_
  refine i_115_4 (fun h => absurd h (by decide)) (fun _ => ?_)
  refine i_115_7 (x := a1) rfl ?_
  refine i_115_8 (x := a3) rfl ?_
  refine i_115_10 (Nat.le_of_ble_eq_true rfl) (p_113_3 e2 e3 e4 e5 hg6 e7) ?_
  refine i_115_13 (fun _ => ?_) (fun h => absurd h (by decide))
  exact i_115_33 (by omega) (Nat.le_of_ble_eq_true rfl) ⟨rfl, rfl⟩
theorem p_114_4 {d : Nat} {w : xW} {a0 : Int32} {a1 : Int32} {a2 : Int32} {a3 : Int32} {a4 : Int32} {a5 : Int32} (hw0 : w[7]? = some (Sum.inr (0, [Value.ref 8, Value.ref 78, Value.ref 9, Value.ref 10, Value.ref 13, Value.ref 16, Value.ref 19, Value.ref 93, Value.ref 108, Value.ref 113, Value.ref 29, Value.int 0]))) (e1 : 0 ≤ a0.toInt) (e2 : a0.toInt < 16) (e3 : 0 ≤ a1.toInt) (e4 : a1.toInt < 16) (e5 : 1 ≤ a3.toInt) (e6 : a3.toInt ≤ 16) (hg7 : (a1 + a3) = a5) (e8 : 16 < a5.toInt) : xRun (d + 7) 114 [Value.ref 7, Value.int a0, Value.int a1, Value.int a2, Value.int a3, Value.int a4, Value.ref 194] w (.inl (some (Value.int 1))) (w ++ [Sum.inr (14, [])]) := by
  refine xRun.of ?_
  refine i_114_0 (x := 194) rfl ?_
  refine i_114_2 ?_
  refine i_114_3 (x := 7) rfl ?_
  refine i_114_4 (x := a0) rfl ?_
  refine i_114_5 (x := a1) rfl ?_
  refine i_114_6 (x := a2) rfl ?_
  refine i_114_7 (x := a3) rfl ?_
  refine i_114_9 (x := a4) rfl ?_
  refine j_114_11 hw0 (Nat.le_of_ble_eq_true rfl) (p_115_4 e1 e2 e3 e4 e5 e6 hg7 e8) (xDone.c xgl rfl rfl ?_)
  refine i_114_19 (lv2 := [(7, Value.ref w.length), (0, Value.ref 7), (1, Value.int a0), (2, Value.int a1), (3, Value.int a2), (4, Value.int a3), (5, Value.int a4), (6, Value.ref 194)]) rfl ?_
  refine i_114_21 ?_
  exact i_114_22 ⟨rfl, rfl⟩
theorem o_11_8 {d : Nat} {xs : Nat → Int32} {N6 : Int32} (h0 : ((xs 0) &&& (31 : Int32)).toInt = 11) (c0 : 0 ≤ (xs 1).toInt) (c1 : (xs 1).toInt < 16) (c2 : 0 ≤ (xs 2).toInt) (c3 : (xs 2).toInt < 16) (c4 : 1 ≤ (xs 4).toInt) (c5 : (xs 4).toInt ≤ 16) (eN6 : ((xs 2) + (xs 4)) = N6) (nN6 : N6.toInt = (xs 2).toInt + (xs 4).toInt) (c7 : 16 < N6.toInt) (c8 : (xs 3).toInt < 0) : ∃ w1, xEv (d + 20) 287 23 [(4, Value.int 0), (3, Value.ref 194), (2, Value.ref 128), (1, Value.ref 7), (0, Value.ref 0)] [] (W0 6 xs) (fun o' w' => o' = .inl (some (Value.int 1)) ∧ w' = w1) ∧ w1.length ≤ 220 ∧ xsz w1 ≤ 200000 := by
  refine ⟨(((((W0 6 xs) ++ [Sum.inr (14, [])]).set 128 (Sum.inr (12, [Value.ref 129, Value.ref 131, Value.ref 133, Value.ref 135, Value.ref 137, Value.ref 139, Value.ref 141, Value.ref 143, Value.ref 145, Value.ref 147, Value.ref 149, Value.ref 151, Value.ref 153, Value.ref 154, Value.ref 155, Value.ref 156, Value.ref 157, Value.int (-16384), Value.int 16384, Value.int 0, Value.int 0, Value.int 0, Value.ref 158, Value.ref 159, Value.int 0, Value.int 0, Value.int 0, Value.int 0, Value.int 0, Value.int 0, Value.int 0, Value.int 0]))) ++ [Sum.inr (14, [])]).set 128 (Sum.inr (12, [Value.ref 129, Value.ref 131, Value.ref 133, Value.ref 135, Value.ref 137, Value.ref 139, Value.ref 141, Value.ref 143, Value.ref 145, Value.ref 147, Value.ref 149, Value.ref 151, Value.ref 153, Value.ref 154, Value.ref 155, Value.ref 156, Value.ref 157, Value.int (-16384), Value.int 16384, Value.int 0, Value.int 0, Value.int 0, Value.ref 158, Value.ref 159, Value.int 0, Value.int 0, Value.int 0, Value.int 0, Value.int 0, Value.int 0, Value.int 0, Value.int 1]))), ?_, (show xLs _ 220 200000 from ?_)⟩
  · refine i_287_23 (x := 0) rfl ?_
    refine i_287_25 (x := 0) rfl ?_
    refine i_287_26 (c := 6) W0_0 (by decide) ?_
    refine i_287_27 ?_
    refine i_287_29 (c := 0) (by decide) ?_
    refine i_287_30 (fun h => absurd h (by decide)) (fun _ => ?_)
    refine i_287_33 (x := 0) rfl ?_
    refine i_287_34 (x := 0) rfl ?_
    refine i_287_36 (v := Value.int (xs 0)) W0_0 (by decide) (by decide) rfl ?_
    refine i_287_37 ?_
    refine i_287_39 (c := 11) (show ((xs 0) &&& (31 : Int32)) = 11 from (xge_c (n := 11) (by omega) rfl)) ?_
    refine i_287_40_11 rfl ?_
    refine i_287_1149 (x := 7) rfl ?_
    refine i_287_1150 (x := 0) rfl ?_
    refine i_287_1151 (x := 0) rfl ?_
    refine i_287_1153 ?_
    refine i_287_1154 (c := 1) (by decide) ?_
    refine i_287_1155 (v := Value.int (xs 1)) W0_0 (by decide) (by decide) rfl ?_
    refine i_287_1156 (x := 0) rfl ?_
    refine i_287_1157 (x := 0) rfl ?_
    refine i_287_1159 ?_
    refine i_287_1160 (c := 2) (by decide) ?_
    refine i_287_1161 (v := Value.int (xs 2)) W0_0 (by decide) (by decide) rfl ?_
    refine i_287_1162 (x := 0) rfl ?_
    refine i_287_1163 (x := 0) rfl ?_
    refine i_287_1165 ?_
    refine i_287_1166 (c := 3) (by decide) ?_
    refine i_287_1167 (v := Value.int (xs 3)) W0_0 (by decide) (by decide) rfl ?_
    refine i_287_1168 (x := 0) rfl ?_
    refine i_287_1169 (x := 0) rfl ?_
    refine i_287_1171 ?_
    refine i_287_1172 (c := 4) (by decide) ?_
    refine i_287_1173 (v := Value.int (xs 4)) W0_0 (by decide) (by decide) rfl ?_
    refine i_287_1174 (x := 0) rfl ?_
    refine i_287_1175 (x := 0) rfl ?_
    refine i_287_1177 ?_
    refine i_287_1178 (c := 5) (by decide) ?_
    refine i_287_1179 (v := Value.int (xs 5)) W0_0 (by decide) (by decide) rfl ?_
    refine i_287_1180 (x := 194) rfl ?_
    refine i_287_1181 (Nat.le_of_ble_eq_true rfl) (p_114_4 W0_7 (by omega) (by omega) (by omega) (by omega) (by omega) (by omega) (show ((xs 2) + (xs 4)) = N6 from eN6) (by omega)) ?_
    refine i_287_1184 (lv2 := [(5, Value.int 1), (4, Value.int 0), (3, Value.ref 194), (2, Value.ref 128), (1, Value.ref 7), (0, Value.ref 0)]) rfl ?_
    refine i_287_1186 (x := 128) rfl ?_
    refine i_287_1187 (x := 0) rfl ?_
    refine i_287_1188 (x := 0) rfl ?_
    refine i_287_1190 ?_
    refine i_287_1191 (c := 1) (by decide) ?_
    refine i_287_1192 (v := Value.int (xs 1)) (xga W0_0) (by decide) (by decide) rfl ?_
    refine i_287_1193 (x := 0) rfl ?_
    refine i_287_1194 (x := 0) rfl ?_
    refine i_287_1196 ?_
    refine i_287_1197 (c := 2) (by decide) ?_
    refine i_287_1198 (v := Value.int (xs 2)) (xga W0_0) (by decide) (by decide) rfl ?_
    refine i_287_1199 (x := 0) rfl ?_
    refine i_287_1200 (x := 0) rfl ?_
    refine i_287_1202 ?_
    refine i_287_1203 (c := 3) (by decide) ?_
    refine i_287_1204 (v := Value.int (xs 3)) (xga W0_0) (by decide) (by decide) rfl ?_
    refine i_287_1205 (x := 0) rfl ?_
    refine i_287_1206 (x := 0) rfl ?_
    refine i_287_1208 ?_
    refine i_287_1209 (c := 4) (by decide) ?_
    refine i_287_1210 (v := Value.int (xs 4)) (xga W0_0) (by decide) (by decide) rfl ?_
    refine i_287_1211 (x := 0) rfl ?_
    refine i_287_1212 (x := 0) rfl ?_
    refine i_287_1214 ?_
    refine i_287_1215 (c := 5) (by decide) ?_
    refine i_287_1216 (v := Value.int (xs 5)) (xga W0_0) (by decide) (by decide) rfl ?_
    refine i_287_1217 (xga W0_128) (Nat.le_of_ble_eq_true rfl) (p_230_2 (xga W0_128) (by omega) (by omega) (by omega) (by omega) (by omega)) ?_
    refine i_287_1220 (lv2 := [(6, Value.int 0), (5, Value.int 1), (4, Value.int 0), (3, Value.ref 194), (2, Value.ref 128), (1, Value.ref 7), (0, Value.ref 0)]) rfl ?_
    refine i_287_1222 (x := 128) rfl ?_
    refine i_287_1223 (xgs (xga (xgs (xga W0_128)))) (Nat.le_of_ble_eq_true rfl) (p_165_0 (xgs (xga (xgs (xga W0_128))))) ?_
    refine i_287_1226 (x := 1) rfl ?_
    refine i_287_1228 (fun _ => ?_) (fun h => absurd h (by decide))
    refine i_287_1233 (x := 1) rfl ?_
    refine i_287_1235 (fun _ => ?_) (fun h => absurd h (by decide))
    refine i_287_1250 ?_
    refine i_287_2154 (x := 0) (c := 6) (lv2 := [(4, Value.int 6), (6, Value.int 0), (5, Value.int 1), (3, Value.ref 194), (2, Value.ref 128), (1, Value.ref 7), (0, Value.ref 0)]) rfl (by decide) rfl ?_
    refine i_287_2157 ?_
    refine i_287_23 (x := 6) rfl ?_
    refine i_287_25 (x := 0) rfl ?_
    refine i_287_26 (c := 6) (xgn (by decide) (xga (xgn (by decide) (xga W0_0)))) (by decide) ?_
    refine i_287_27 ?_
    refine i_287_29 (c := 0) (by decide) ?_
    refine i_287_30 (fun _ => ?_) (fun h => absurd h (by decide))
    refine i_287_2160 ?_
    exact i_287_2161 rfl ⟨rfl, rfl⟩
  · refine xLs.set ?_ (xga (xgs (xga W0_128))) xcs_o
    refine xLs.app (n := 219) (z := 199994) (m := 6) ?_ rfl
    refine xLs.set ?_ (xga W0_128) xcs_o
    refine xLs.app (n := 218) (z := 199988) (m := 6) ?_ rfl
    exact ⟨Nat.le_trans (Nat.le_of_eq W0_len) (by decide), Nat.le_trans (Nat.le_of_eq W0_sz) (by decide)⟩
theorem o_11_9 {d : Nat} {xs : Nat → Int32} {N6 : Int32} (h0 : ((xs 0) &&& (31 : Int32)).toInt = 11) (c0 : 0 ≤ (xs 1).toInt) (c1 : (xs 1).toInt < 16) (c2 : 0 ≤ (xs 2).toInt) (c3 : (xs 2).toInt < 16) (c4 : 1 ≤ (xs 4).toInt) (c5 : (xs 4).toInt ≤ 16) (eN6 : ((xs 2) + (xs 4)) = N6) (nN6 : N6.toInt = (xs 2).toInt + (xs 4).toInt) (c7 : 16 < N6.toInt) (c8 : 0 ≤ (xs 3).toInt) (c9 : 15 < (xs 3).toInt) : ∃ w1, xEv (d + 20) 287 23 [(4, Value.int 0), (3, Value.ref 194), (2, Value.ref 128), (1, Value.ref 7), (0, Value.ref 0)] [] (W0 6 xs) (fun o' w' => o' = .inl (some (Value.int 1)) ∧ w' = w1) ∧ w1.length ≤ 220 ∧ xsz w1 ≤ 200000 := by
  refine ⟨(((((W0 6 xs) ++ [Sum.inr (14, [])]).set 128 (Sum.inr (12, [Value.ref 129, Value.ref 131, Value.ref 133, Value.ref 135, Value.ref 137, Value.ref 139, Value.ref 141, Value.ref 143, Value.ref 145, Value.ref 147, Value.ref 149, Value.ref 151, Value.ref 153, Value.ref 154, Value.ref 155, Value.ref 156, Value.ref 157, Value.int (-16384), Value.int 16384, Value.int 0, Value.int 0, Value.int 0, Value.ref 158, Value.ref 159, Value.int 0, Value.int 0, Value.int 0, Value.int 0, Value.int 0, Value.int 0, Value.int 0, Value.int 0]))) ++ [Sum.inr (14, [])]).set 128 (Sum.inr (12, [Value.ref 129, Value.ref 131, Value.ref 133, Value.ref 135, Value.ref 137, Value.ref 139, Value.ref 141, Value.ref 143, Value.ref 145, Value.ref 147, Value.ref 149, Value.ref 151, Value.ref 153, Value.ref 154, Value.ref 155, Value.ref 156, Value.ref 157, Value.int (-16384), Value.int 16384, Value.int 0, Value.int 0, Value.int 0, Value.ref 158, Value.ref 159, Value.int 0, Value.int 0, Value.int 0, Value.int 0, Value.int 0, Value.int 0, Value.int 0, Value.int 1]))), ?_, (show xLs _ 220 200000 from ?_)⟩
  · refine i_287_23 (x := 0) rfl ?_
    refine i_287_25 (x := 0) rfl ?_
    refine i_287_26 (c := 6) W0_0 (by decide) ?_
    refine i_287_27 ?_
    refine i_287_29 (c := 0) (by decide) ?_
    refine i_287_30 (fun h => absurd h (by decide)) (fun _ => ?_)
    refine i_287_33 (x := 0) rfl ?_
    refine i_287_34 (x := 0) rfl ?_
    refine i_287_36 (v := Value.int (xs 0)) W0_0 (by decide) (by decide) rfl ?_
    refine i_287_37 ?_
    refine i_287_39 (c := 11) (show ((xs 0) &&& (31 : Int32)) = 11 from (xge_c (n := 11) (by omega) rfl)) ?_
    refine i_287_40_11 rfl ?_
    refine i_287_1149 (x := 7) rfl ?_
    refine i_287_1150 (x := 0) rfl ?_
    refine i_287_1151 (x := 0) rfl ?_
    refine i_287_1153 ?_
    refine i_287_1154 (c := 1) (by decide) ?_
    refine i_287_1155 (v := Value.int (xs 1)) W0_0 (by decide) (by decide) rfl ?_
    refine i_287_1156 (x := 0) rfl ?_
    refine i_287_1157 (x := 0) rfl ?_
    refine i_287_1159 ?_
    refine i_287_1160 (c := 2) (by decide) ?_
    refine i_287_1161 (v := Value.int (xs 2)) W0_0 (by decide) (by decide) rfl ?_
    refine i_287_1162 (x := 0) rfl ?_
    refine i_287_1163 (x := 0) rfl ?_
    refine i_287_1165 ?_
    refine i_287_1166 (c := 3) (by decide) ?_
    refine i_287_1167 (v := Value.int (xs 3)) W0_0 (by decide) (by decide) rfl ?_
    refine i_287_1168 (x := 0) rfl ?_
    refine i_287_1169 (x := 0) rfl ?_
    refine i_287_1171 ?_
    refine i_287_1172 (c := 4) (by decide) ?_
    refine i_287_1173 (v := Value.int (xs 4)) W0_0 (by decide) (by decide) rfl ?_
    refine i_287_1174 (x := 0) rfl ?_
    refine i_287_1175 (x := 0) rfl ?_
    refine i_287_1177 ?_
    refine i_287_1178 (c := 5) (by decide) ?_
    refine i_287_1179 (v := Value.int (xs 5)) W0_0 (by decide) (by decide) rfl ?_
    refine i_287_1180 (x := 194) rfl ?_
    refine i_287_1181 (Nat.le_of_ble_eq_true rfl) (p_114_4 W0_7 (by omega) (by omega) (by omega) (by omega) (by omega) (by omega) (show ((xs 2) + (xs 4)) = N6 from eN6) (by omega)) ?_
    refine i_287_1184 (lv2 := [(5, Value.int 1), (4, Value.int 0), (3, Value.ref 194), (2, Value.ref 128), (1, Value.ref 7), (0, Value.ref 0)]) rfl ?_
    refine i_287_1186 (x := 128) rfl ?_
    refine i_287_1187 (x := 0) rfl ?_
    refine i_287_1188 (x := 0) rfl ?_
    refine i_287_1190 ?_
    refine i_287_1191 (c := 1) (by decide) ?_
    refine i_287_1192 (v := Value.int (xs 1)) (xga W0_0) (by decide) (by decide) rfl ?_
    refine i_287_1193 (x := 0) rfl ?_
    refine i_287_1194 (x := 0) rfl ?_
    refine i_287_1196 ?_
    refine i_287_1197 (c := 2) (by decide) ?_
    refine i_287_1198 (v := Value.int (xs 2)) (xga W0_0) (by decide) (by decide) rfl ?_
    refine i_287_1199 (x := 0) rfl ?_
    refine i_287_1200 (x := 0) rfl ?_
    refine i_287_1202 ?_
    refine i_287_1203 (c := 3) (by decide) ?_
    refine i_287_1204 (v := Value.int (xs 3)) (xga W0_0) (by decide) (by decide) rfl ?_
    refine i_287_1205 (x := 0) rfl ?_
    refine i_287_1206 (x := 0) rfl ?_
    refine i_287_1208 ?_
    refine i_287_1209 (c := 4) (by decide) ?_
    refine i_287_1210 (v := Value.int (xs 4)) (xga W0_0) (by decide) (by decide) rfl ?_
    refine i_287_1211 (x := 0) rfl ?_
    refine i_287_1212 (x := 0) rfl ?_
    refine i_287_1214 ?_
    refine i_287_1215 (c := 5) (by decide) ?_
    refine i_287_1216 (v := Value.int (xs 5)) (xga W0_0) (by decide) (by decide) rfl ?_
    refine i_287_1217 (xga W0_128) (Nat.le_of_ble_eq_true rfl) (p_230_3 (xga W0_128) (by omega) (by omega) (by omega) (by omega) (by omega) (by omega)) ?_
    refine i_287_1220 (lv2 := [(6, Value.int 0), (5, Value.int 1), (4, Value.int 0), (3, Value.ref 194), (2, Value.ref 128), (1, Value.ref 7), (0, Value.ref 0)]) rfl ?_
    refine i_287_1222 (x := 128) rfl ?_
    refine i_287_1223 (xgs (xga (xgs (xga W0_128)))) (Nat.le_of_ble_eq_true rfl) (p_165_0 (xgs (xga (xgs (xga W0_128))))) ?_
    refine i_287_1226 (x := 1) rfl ?_
    refine i_287_1228 (fun _ => ?_) (fun h => absurd h (by decide))
    refine i_287_1233 (x := 1) rfl ?_
    refine i_287_1235 (fun _ => ?_) (fun h => absurd h (by decide))
    refine i_287_1250 ?_
    refine i_287_2154 (x := 0) (c := 6) (lv2 := [(4, Value.int 6), (6, Value.int 0), (5, Value.int 1), (3, Value.ref 194), (2, Value.ref 128), (1, Value.ref 7), (0, Value.ref 0)]) rfl (by decide) rfl ?_
    refine i_287_2157 ?_
    refine i_287_23 (x := 6) rfl ?_
    refine i_287_25 (x := 0) rfl ?_
    refine i_287_26 (c := 6) (xgn (by decide) (xga (xgn (by decide) (xga W0_0)))) (by decide) ?_
    refine i_287_27 ?_
    refine i_287_29 (c := 0) (by decide) ?_
    refine i_287_30 (fun _ => ?_) (fun h => absurd h (by decide))
    refine i_287_2160 ?_
    exact i_287_2161 rfl ⟨rfl, rfl⟩
  · refine xLs.set ?_ (xga (xgs (xga W0_128))) xcs_o
    refine xLs.app (n := 219) (z := 199994) (m := 6) ?_ rfl
    refine xLs.set ?_ (xga W0_128) xcs_o
    refine xLs.app (n := 218) (z := 199988) (m := 6) ?_ rfl
    exact ⟨Nat.le_trans (Nat.le_of_eq W0_len) (by decide), Nat.le_trans (Nat.le_of_eq W0_sz) (by decide)⟩
theorem p_231_6 {d : Nat} {w : xW} {a0 : Int32} {a1 : Int32} {a2 : Int32} {a3 : Int32} {a4 : Int32} {a5 : Int32} (e0 : 0 ≤ a0.toInt) (e1 : a0.toInt ≤ 15) (e2 : 0 ≤ a1.toInt) (e3 : a1.toInt ≤ 15) (e4 : 0 ≤ a2.toInt) (e5 : a2.toInt ≤ 15) (e6 : 1 ≤ a3.toInt) (e7 : a3.toInt ≤ 16) (hg8 : (a1 + a3) = a5) (e9 : 16 < a5.toInt) : xRun (d + 7) 231 [Value.ref 128, Value.int a0, Value.int a1, Value.int a2, Value.int a3, Value.int a4] w (.inr w.length) (w ++ [Sum.inr (14, [])]) := by
  refine xRun.of ?_
  refine i_231_0 (x := a0) rfl ?_
  refine i_231_1 (Nat.le_of_ble_eq_true rfl) (p_168_1 e0 e1) ?_
  refine i_231_4 (x := a1) rfl ?_
  refine i_231_5 (Nat.le_of_ble_eq_true rfl) (p_168_1 e2 e3) ?_
  refine i_231_8 (x := a2) rfl ?_
  refine i_231_9 (Nat.le_of_ble_eq_true rfl) (p_168_1 e4 e5) ?_
  refine i_231_12 (x := a3) rfl ?_
  refine i_231_14 ?_
  refine i_231_15 ?_
  refine i_231_17 (Nat.le_of_ble_eq_true rfl) (p_169_44 e6 e7) ?_
  refine i_231_20 (fun h => absurd h (by decide)) (fun _ => ?_)
  refine i_231_23 (x := a1) rfl ?_
  refine i_231_24 (x := a3) rfl ?_
  refine i_231_26 (c := a5) hg8 ?_
  refine i_231_27 ?_
  refine i_231_29 (fun _ => ?_) (fun h => absurd e9 (Int.not_lt.mpr h))
  refine i_231_45 ?_
  exact j_231_46 (Nat.le_of_ble_eq_true rfl) (p_170_0) (xDone.t xgl rfl rfl ⟨rfl, rfl⟩)
theorem p_230_6 {d : Nat} {w : xW} {a0 : Int32} {a1 : Int32} {a2 : Int32} {a3 : Int32} {a4 : Int32} {a5 : Int32} (hw0 : w[128]? = some (Sum.inr (12, [Value.ref 129, Value.ref 131, Value.ref 133, Value.ref 135, Value.ref 137, Value.ref 139, Value.ref 141, Value.ref 143, Value.ref 145, Value.ref 147, Value.ref 149, Value.ref 151, Value.ref 153, Value.ref 154, Value.ref 155, Value.ref 156, Value.ref 157, Value.int (-16384), Value.int 16384, Value.int 0, Value.int 0, Value.int 0, Value.ref 158, Value.ref 159, Value.int 0, Value.int 0, Value.int 0, Value.int 0, Value.int 0, Value.int 0, Value.int 0, Value.int 0]))) (e1 : 0 ≤ a0.toInt) (e2 : a0.toInt ≤ 15) (e3 : 0 ≤ a1.toInt) (e4 : a1.toInt ≤ 15) (e5 : 0 ≤ a2.toInt) (e6 : a2.toInt ≤ 15) (e7 : 1 ≤ a3.toInt) (e8 : a3.toInt ≤ 16) (hg9 : (a1 + a3) = a5) (e10 : 16 < a5.toInt) : xRun (d + 8) 230 [Value.ref 128, Value.int a0, Value.int a1, Value.int a2, Value.int a3, Value.int a4] w (.inl (some (Value.int 0))) (((w.set 128 (Sum.inr (12, [Value.ref 129, Value.ref 131, Value.ref 133, Value.ref 135, Value.ref 137, Value.ref 139, Value.ref 141, Value.ref 143, Value.ref 145, Value.ref 147, Value.ref 149, Value.ref 151, Value.ref 153, Value.ref 154, Value.ref 155, Value.ref 156, Value.ref 157, Value.int (-16384), Value.int 16384, Value.int 0, Value.int 0, Value.int 0, Value.ref 158, Value.ref 159, Value.int 0, Value.int 0, Value.int 0, Value.int 0, Value.int 0, Value.int 0, Value.int 0, Value.int 0]))) ++ [Sum.inr (14, [])]).set 128 (Sum.inr (12, [Value.ref 129, Value.ref 131, Value.ref 133, Value.ref 135, Value.ref 137, Value.ref 139, Value.ref 141, Value.ref 143, Value.ref 145, Value.ref 147, Value.ref 149, Value.ref 151, Value.ref 153, Value.ref 154, Value.ref 155, Value.ref 156, Value.ref 157, Value.int (-16384), Value.int 16384, Value.int 0, Value.int 0, Value.int 0, Value.ref 158, Value.ref 159, Value.int 0, Value.int 0, Value.int 0, Value.int 0, Value.int 0, Value.int 0, Value.int 0, Value.int 1]))) := by
  refine xRun.of ?_
  refine i_230_0 (x := 128) rfl ?_
  refine i_230_1 ?_
  refine i_230_2 (fs2 := [Value.ref 129, Value.ref 131, Value.ref 133, Value.ref 135, Value.ref 137, Value.ref 139, Value.ref 141, Value.ref 143, Value.ref 145, Value.ref 147, Value.ref 149, Value.ref 151, Value.ref 153, Value.ref 154, Value.ref 155, Value.ref 156, Value.ref 157, Value.int (-16384), Value.int 16384, Value.int 0, Value.int 0, Value.int 0, Value.ref 158, Value.ref 159, Value.int 0, Value.int 0, Value.int 0, Value.int 0, Value.int 0, Value.int 0, Value.int 0, Value.int 0]) hw0 (Nat.le_of_ble_eq_true rfl) rfl (by decide) ?_
  refine i_230_5 (x := 128) rfl ?_
  refine i_230_6 (x := a0) rfl ?_
  refine i_230_7 (x := a1) rfl ?_
  refine i_230_8 (x := a2) rfl ?_
  refine i_230_9 (x := a3) rfl ?_
  refine i_230_11 (x := a4) rfl ?_
  refine j_230_13 (xgs hw0) (Nat.le_of_ble_eq_true rfl) (p_231_6 e1 e2 e3 e4 e5 e6 e7 e8 hg9 e10) (xDone.c xgl rfl rfl ?_)
  refine i_230_17 (lv2 := [(6, Value.ref ((w.set 128 (Sum.inr (12, [Value.ref 129, Value.ref 131, Value.ref 133, Value.ref 135, Value.ref 137, Value.ref 139, Value.ref 141, Value.ref 143, Value.ref 145, Value.ref 147, Value.ref 149, Value.ref 151, Value.ref 153, Value.ref 154, Value.ref 155, Value.ref 156, Value.ref 157, Value.int (-16384), Value.int 16384, Value.int 0, Value.int 0, Value.int 0, Value.ref 158, Value.ref 159, Value.int 0, Value.int 0, Value.int 0, Value.int 0, Value.int 0, Value.int 0, Value.int 0, Value.int 0]))).length)), (0, Value.ref 128), (1, Value.int a0), (2, Value.int a1), (3, Value.int a2), (4, Value.int a3), (5, Value.int a4)]) rfl ?_
  refine i_230_19 (x := 128) rfl ?_
  refine i_230_20 ?_
  refine i_230_21 (fs2 := [Value.ref 129, Value.ref 131, Value.ref 133, Value.ref 135, Value.ref 137, Value.ref 139, Value.ref 141, Value.ref 143, Value.ref 145, Value.ref 147, Value.ref 149, Value.ref 151, Value.ref 153, Value.ref 154, Value.ref 155, Value.ref 156, Value.ref 157, Value.int (-16384), Value.int 16384, Value.int 0, Value.int 0, Value.int 0, Value.ref 158, Value.ref 159, Value.int 0, Value.int 0, Value.int 0, Value.int 0, Value.int 0, Value.int 0, Value.int 0, Value.int 1]) (xga (xgs hw0)) (Nat.le_of_ble_eq_true rfl) rfl (by decide) ?_
  refine i_230_24 ?_
  exact i_230_25 ⟨rfl, rfl⟩
theorem o_11_10 {d : Nat} {xs : Nat → Int32} {N6 : Int32} (h0 : ((xs 0) &&& (31 : Int32)).toInt = 11) (c0 : 0 ≤ (xs 1).toInt) (c1 : (xs 1).toInt < 16) (c2 : 0 ≤ (xs 2).toInt) (c3 : (xs 2).toInt < 16) (c4 : 1 ≤ (xs 4).toInt) (c5 : (xs 4).toInt ≤ 16) (eN6 : ((xs 2) + (xs 4)) = N6) (nN6 : N6.toInt = (xs 2).toInt + (xs 4).toInt) (c7 : 16 < N6.toInt) (c8 : 0 ≤ (xs 3).toInt) (c9 : (xs 3).toInt ≤ 15) : ∃ w1, xEv (d + 20) 287 23 [(4, Value.int 0), (3, Value.ref 194), (2, Value.ref 128), (1, Value.ref 7), (0, Value.ref 0)] [] (W0 6 xs) (fun o' w' => o' = .inl (some (Value.int 1)) ∧ w' = w1) ∧ w1.length ≤ 220 ∧ xsz w1 ≤ 200000 := by
  refine ⟨(((((W0 6 xs) ++ [Sum.inr (14, [])]).set 128 (Sum.inr (12, [Value.ref 129, Value.ref 131, Value.ref 133, Value.ref 135, Value.ref 137, Value.ref 139, Value.ref 141, Value.ref 143, Value.ref 145, Value.ref 147, Value.ref 149, Value.ref 151, Value.ref 153, Value.ref 154, Value.ref 155, Value.ref 156, Value.ref 157, Value.int (-16384), Value.int 16384, Value.int 0, Value.int 0, Value.int 0, Value.ref 158, Value.ref 159, Value.int 0, Value.int 0, Value.int 0, Value.int 0, Value.int 0, Value.int 0, Value.int 0, Value.int 0]))) ++ [Sum.inr (14, [])]).set 128 (Sum.inr (12, [Value.ref 129, Value.ref 131, Value.ref 133, Value.ref 135, Value.ref 137, Value.ref 139, Value.ref 141, Value.ref 143, Value.ref 145, Value.ref 147, Value.ref 149, Value.ref 151, Value.ref 153, Value.ref 154, Value.ref 155, Value.ref 156, Value.ref 157, Value.int (-16384), Value.int 16384, Value.int 0, Value.int 0, Value.int 0, Value.ref 158, Value.ref 159, Value.int 0, Value.int 0, Value.int 0, Value.int 0, Value.int 0, Value.int 0, Value.int 0, Value.int 1]))), ?_, (show xLs _ 220 200000 from ?_)⟩
  · refine i_287_23 (x := 0) rfl ?_
    refine i_287_25 (x := 0) rfl ?_
    refine i_287_26 (c := 6) W0_0 (by decide) ?_
    refine i_287_27 ?_
    refine i_287_29 (c := 0) (by decide) ?_
    refine i_287_30 (fun h => absurd h (by decide)) (fun _ => ?_)
    refine i_287_33 (x := 0) rfl ?_
    refine i_287_34 (x := 0) rfl ?_
    refine i_287_36 (v := Value.int (xs 0)) W0_0 (by decide) (by decide) rfl ?_
    refine i_287_37 ?_
    refine i_287_39 (c := 11) (show ((xs 0) &&& (31 : Int32)) = 11 from (xge_c (n := 11) (by omega) rfl)) ?_
    refine i_287_40_11 rfl ?_
    refine i_287_1149 (x := 7) rfl ?_
    refine i_287_1150 (x := 0) rfl ?_
    refine i_287_1151 (x := 0) rfl ?_
    refine i_287_1153 ?_
    refine i_287_1154 (c := 1) (by decide) ?_
    refine i_287_1155 (v := Value.int (xs 1)) W0_0 (by decide) (by decide) rfl ?_
    refine i_287_1156 (x := 0) rfl ?_
    refine i_287_1157 (x := 0) rfl ?_
    refine i_287_1159 ?_
    refine i_287_1160 (c := 2) (by decide) ?_
    refine i_287_1161 (v := Value.int (xs 2)) W0_0 (by decide) (by decide) rfl ?_
    refine i_287_1162 (x := 0) rfl ?_
    refine i_287_1163 (x := 0) rfl ?_
    refine i_287_1165 ?_
    refine i_287_1166 (c := 3) (by decide) ?_
    refine i_287_1167 (v := Value.int (xs 3)) W0_0 (by decide) (by decide) rfl ?_
    refine i_287_1168 (x := 0) rfl ?_
    refine i_287_1169 (x := 0) rfl ?_
    refine i_287_1171 ?_
    refine i_287_1172 (c := 4) (by decide) ?_
    refine i_287_1173 (v := Value.int (xs 4)) W0_0 (by decide) (by decide) rfl ?_
    refine i_287_1174 (x := 0) rfl ?_
    refine i_287_1175 (x := 0) rfl ?_
    refine i_287_1177 ?_
    refine i_287_1178 (c := 5) (by decide) ?_
    refine i_287_1179 (v := Value.int (xs 5)) W0_0 (by decide) (by decide) rfl ?_
    refine i_287_1180 (x := 194) rfl ?_
    refine i_287_1181 (Nat.le_of_ble_eq_true rfl) (p_114_4 W0_7 (by omega) (by omega) (by omega) (by omega) (by omega) (by omega) (show ((xs 2) + (xs 4)) = N6 from eN6) (by omega)) ?_
    refine i_287_1184 (lv2 := [(5, Value.int 1), (4, Value.int 0), (3, Value.ref 194), (2, Value.ref 128), (1, Value.ref 7), (0, Value.ref 0)]) rfl ?_
    refine i_287_1186 (x := 128) rfl ?_
    refine i_287_1187 (x := 0) rfl ?_
    refine i_287_1188 (x := 0) rfl ?_
    refine i_287_1190 ?_
    refine i_287_1191 (c := 1) (by decide) ?_
    refine i_287_1192 (v := Value.int (xs 1)) (xga W0_0) (by decide) (by decide) rfl ?_
    refine i_287_1193 (x := 0) rfl ?_
    refine i_287_1194 (x := 0) rfl ?_
    refine i_287_1196 ?_
    refine i_287_1197 (c := 2) (by decide) ?_
    refine i_287_1198 (v := Value.int (xs 2)) (xga W0_0) (by decide) (by decide) rfl ?_
    refine i_287_1199 (x := 0) rfl ?_
    refine i_287_1200 (x := 0) rfl ?_
    refine i_287_1202 ?_
    refine i_287_1203 (c := 3) (by decide) ?_
    refine i_287_1204 (v := Value.int (xs 3)) (xga W0_0) (by decide) (by decide) rfl ?_
    refine i_287_1205 (x := 0) rfl ?_
    refine i_287_1206 (x := 0) rfl ?_
    refine i_287_1208 ?_
    refine i_287_1209 (c := 4) (by decide) ?_
    refine i_287_1210 (v := Value.int (xs 4)) (xga W0_0) (by decide) (by decide) rfl ?_
    refine i_287_1211 (x := 0) rfl ?_
    refine i_287_1212 (x := 0) rfl ?_
    refine i_287_1214 ?_
    refine i_287_1215 (c := 5) (by decide) ?_
    refine i_287_1216 (v := Value.int (xs 5)) (xga W0_0) (by decide) (by decide) rfl ?_
    refine i_287_1217 (xga W0_128) (Nat.le_of_ble_eq_true rfl) (p_230_6 (xga W0_128) (by omega) (by omega) (by omega) (by omega) (by omega) (by omega) (by omega) (by omega) (show ((xs 2) + (xs 4)) = N6 from eN6) (by omega)) ?_
    refine i_287_1220 (lv2 := [(6, Value.int 0), (5, Value.int 1), (4, Value.int 0), (3, Value.ref 194), (2, Value.ref 128), (1, Value.ref 7), (0, Value.ref 0)]) rfl ?_
    refine i_287_1222 (x := 128) rfl ?_
    refine i_287_1223 (xgs (xga (xgs (xga W0_128)))) (Nat.le_of_ble_eq_true rfl) (p_165_0 (xgs (xga (xgs (xga W0_128))))) ?_
    refine i_287_1226 (x := 1) rfl ?_
    refine i_287_1228 (fun _ => ?_) (fun h => absurd h (by decide))
    refine i_287_1233 (x := 1) rfl ?_
    refine i_287_1235 (fun _ => ?_) (fun h => absurd h (by decide))
    refine i_287_1250 ?_
    refine i_287_2154 (x := 0) (c := 6) (lv2 := [(4, Value.int 6), (6, Value.int 0), (5, Value.int 1), (3, Value.ref 194), (2, Value.ref 128), (1, Value.ref 7), (0, Value.ref 0)]) rfl (by decide) rfl ?_
    refine i_287_2157 ?_
    refine i_287_23 (x := 6) rfl ?_
    refine i_287_25 (x := 0) rfl ?_
    refine i_287_26 (c := 6) (xgn (by decide) (xga (xgn (by decide) (xga W0_0)))) (by decide) ?_
    refine i_287_27 ?_
    refine i_287_29 (c := 0) (by decide) ?_
    refine i_287_30 (fun _ => ?_) (fun h => absurd h (by decide))
    refine i_287_2160 ?_
    exact i_287_2161 rfl ⟨rfl, rfl⟩
  · refine xLs.set ?_ (xga (xgs (xga W0_128))) xcs_o
    refine xLs.app (n := 219) (z := 199994) (m := 6) ?_ rfl
    refine xLs.set ?_ (xga W0_128) xcs_o
    refine xLs.app (n := 218) (z := 199988) (m := 6) ?_ rfl
    exact ⟨Nat.le_trans (Nat.le_of_eq W0_len) (by decide), Nat.le_trans (Nat.le_of_eq W0_sz) (by decide)⟩
theorem p_115_5 {d : Nat} {w : xW} {a0 : Int32} {a1 : Int32} {a2 : Int32} {a3 : Int32} {a4 : Int32} {a5 : Int32} (e0 : 0 ≤ a0.toInt) (e1 : a0.toInt < 16) (e2 : 0 ≤ a1.toInt) (e3 : a1.toInt < 16) (e4 : 1 ≤ a3.toInt) (e5 : a3.toInt ≤ 16) (hg6 : (a1 + a3) = a5) (e7 : a5.toInt ≤ 16) (e8 : a2.toInt < 0) : xRun (d + 6) 115 [Value.ref 7, Value.int a0, Value.int a1, Value.int a2, Value.int a3, Value.int a4] w (.inr w.length) (w ++ [Sum.inr (14, [])]) := by
  refine xRun.of ?_
  refine i_115_0 (x := a0) rfl ?_
  refine i_115_1 (Nat.le_of_ble_eq_true rfl) (p_15_1 e0 e1) ?_
  refine i_115_4 (fun h => absurd h (by decide)) (fun _ => ?_)
  refine i_115_7 (x := a1) rfl ?_
  refine i_115_8 (x := a3) rfl ?_
  refine i_115_10 (Nat.le_of_ble_eq_true rfl) (p_113_4 e2 e3 e4 e5 hg6 e7) ?_
  refine i_115_13 (fun h => absurd h (by decide)) (fun _ => ?_)
  refine i_115_16 (x := a2) rfl ?_
  refine i_115_17 (x := a3) rfl ?_
  refine i_115_19 (Nat.le_of_ble_eq_true rfl) (p_113_0 e8) ?_
  refine i_115_22 (fun _ => ?_) (fun h => absurd h (by decide))
  exact i_115_33 (by omega) (Nat.le_of_ble_eq_true rfl) ⟨rfl, rfl⟩
theorem p_114_5 {d : Nat} {w : xW} {a0 : Int32} {a1 : Int32} {a2 : Int32} {a3 : Int32} {a4 : Int32} {a5 : Int32} (hw0 : w[7]? = some (Sum.inr (0, [Value.ref 8, Value.ref 78, Value.ref 9, Value.ref 10, Value.ref 13, Value.ref 16, Value.ref 19, Value.ref 93, Value.ref 108, Value.ref 113, Value.ref 29, Value.int 0]))) (e1 : 0 ≤ a0.toInt) (e2 : a0.toInt < 16) (e3 : 0 ≤ a1.toInt) (e4 : a1.toInt < 16) (e5 : 1 ≤ a3.toInt) (e6 : a3.toInt ≤ 16) (hg7 : (a1 + a3) = a5) (e8 : a5.toInt ≤ 16) (e9 : a2.toInt < 0) : xRun (d + 7) 114 [Value.ref 7, Value.int a0, Value.int a1, Value.int a2, Value.int a3, Value.int a4, Value.ref 194] w (.inl (some (Value.int 1))) (w ++ [Sum.inr (14, [])]) := by
  refine xRun.of ?_
  refine i_114_0 (x := 194) rfl ?_
  refine i_114_2 ?_
  refine i_114_3 (x := 7) rfl ?_
  refine i_114_4 (x := a0) rfl ?_
  refine i_114_5 (x := a1) rfl ?_
  refine i_114_6 (x := a2) rfl ?_
  refine i_114_7 (x := a3) rfl ?_
  refine i_114_9 (x := a4) rfl ?_
  refine j_114_11 hw0 (Nat.le_of_ble_eq_true rfl) (p_115_5 e1 e2 e3 e4 e5 e6 hg7 e8 e9) (xDone.c xgl rfl rfl ?_)
  refine i_114_19 (lv2 := [(7, Value.ref w.length), (0, Value.ref 7), (1, Value.int a0), (2, Value.int a1), (3, Value.int a2), (4, Value.int a3), (5, Value.int a4), (6, Value.ref 194)]) rfl ?_
  refine i_114_21 ?_
  exact i_114_22 ⟨rfl, rfl⟩
theorem o_11_11 {d : Nat} {xs : Nat → Int32} {N6 : Int32} (h0 : ((xs 0) &&& (31 : Int32)).toInt = 11) (c0 : 0 ≤ (xs 1).toInt) (c1 : (xs 1).toInt < 16) (c2 : 0 ≤ (xs 2).toInt) (c3 : (xs 2).toInt < 16) (c4 : 1 ≤ (xs 4).toInt) (c5 : (xs 4).toInt ≤ 16) (eN6 : ((xs 2) + (xs 4)) = N6) (nN6 : N6.toInt = (xs 2).toInt + (xs 4).toInt) (c7 : N6.toInt ≤ 16) (c8 : (xs 3).toInt < 0) : ∃ w1, xEv (d + 20) 287 23 [(4, Value.int 0), (3, Value.ref 194), (2, Value.ref 128), (1, Value.ref 7), (0, Value.ref 0)] [] (W0 6 xs) (fun o' w' => o' = .inl (some (Value.int 1)) ∧ w' = w1) ∧ w1.length ≤ 220 ∧ xsz w1 ≤ 200000 := by
  refine ⟨(((((W0 6 xs) ++ [Sum.inr (14, [])]).set 128 (Sum.inr (12, [Value.ref 129, Value.ref 131, Value.ref 133, Value.ref 135, Value.ref 137, Value.ref 139, Value.ref 141, Value.ref 143, Value.ref 145, Value.ref 147, Value.ref 149, Value.ref 151, Value.ref 153, Value.ref 154, Value.ref 155, Value.ref 156, Value.ref 157, Value.int (-16384), Value.int 16384, Value.int 0, Value.int 0, Value.int 0, Value.ref 158, Value.ref 159, Value.int 0, Value.int 0, Value.int 0, Value.int 0, Value.int 0, Value.int 0, Value.int 0, Value.int 0]))) ++ [Sum.inr (14, [])]).set 128 (Sum.inr (12, [Value.ref 129, Value.ref 131, Value.ref 133, Value.ref 135, Value.ref 137, Value.ref 139, Value.ref 141, Value.ref 143, Value.ref 145, Value.ref 147, Value.ref 149, Value.ref 151, Value.ref 153, Value.ref 154, Value.ref 155, Value.ref 156, Value.ref 157, Value.int (-16384), Value.int 16384, Value.int 0, Value.int 0, Value.int 0, Value.ref 158, Value.ref 159, Value.int 0, Value.int 0, Value.int 0, Value.int 0, Value.int 0, Value.int 0, Value.int 0, Value.int 1]))), ?_, (show xLs _ 220 200000 from ?_)⟩
  · refine i_287_23 (x := 0) rfl ?_
    refine i_287_25 (x := 0) rfl ?_
    refine i_287_26 (c := 6) W0_0 (by decide) ?_
    refine i_287_27 ?_
    refine i_287_29 (c := 0) (by decide) ?_
    refine i_287_30 (fun h => absurd h (by decide)) (fun _ => ?_)
    refine i_287_33 (x := 0) rfl ?_
    refine i_287_34 (x := 0) rfl ?_
    refine i_287_36 (v := Value.int (xs 0)) W0_0 (by decide) (by decide) rfl ?_
    refine i_287_37 ?_
    refine i_287_39 (c := 11) (show ((xs 0) &&& (31 : Int32)) = 11 from (xge_c (n := 11) (by omega) rfl)) ?_
    refine i_287_40_11 rfl ?_
    refine i_287_1149 (x := 7) rfl ?_
    refine i_287_1150 (x := 0) rfl ?_
    refine i_287_1151 (x := 0) rfl ?_
    refine i_287_1153 ?_
    refine i_287_1154 (c := 1) (by decide) ?_
    refine i_287_1155 (v := Value.int (xs 1)) W0_0 (by decide) (by decide) rfl ?_
    refine i_287_1156 (x := 0) rfl ?_
    refine i_287_1157 (x := 0) rfl ?_
    refine i_287_1159 ?_
    refine i_287_1160 (c := 2) (by decide) ?_
    refine i_287_1161 (v := Value.int (xs 2)) W0_0 (by decide) (by decide) rfl ?_
    refine i_287_1162 (x := 0) rfl ?_
    refine i_287_1163 (x := 0) rfl ?_
    refine i_287_1165 ?_
    refine i_287_1166 (c := 3) (by decide) ?_
    refine i_287_1167 (v := Value.int (xs 3)) W0_0 (by decide) (by decide) rfl ?_
    refine i_287_1168 (x := 0) rfl ?_
    refine i_287_1169 (x := 0) rfl ?_
    refine i_287_1171 ?_
    refine i_287_1172 (c := 4) (by decide) ?_
    refine i_287_1173 (v := Value.int (xs 4)) W0_0 (by decide) (by decide) rfl ?_
    refine i_287_1174 (x := 0) rfl ?_
    refine i_287_1175 (x := 0) rfl ?_
    refine i_287_1177 ?_
    refine i_287_1178 (c := 5) (by decide) ?_
    refine i_287_1179 (v := Value.int (xs 5)) W0_0 (by decide) (by decide) rfl ?_
    refine i_287_1180 (x := 194) rfl ?_
    refine i_287_1181 (Nat.le_of_ble_eq_true rfl) (p_114_5 W0_7 (by omega) (by omega) (by omega) (by omega) (by omega) (by omega) (show ((xs 2) + (xs 4)) = N6 from eN6) (by omega) (by omega)) ?_
    refine i_287_1184 (lv2 := [(5, Value.int 1), (4, Value.int 0), (3, Value.ref 194), (2, Value.ref 128), (1, Value.ref 7), (0, Value.ref 0)]) rfl ?_
    refine i_287_1186 (x := 128) rfl ?_
    refine i_287_1187 (x := 0) rfl ?_
    refine i_287_1188 (x := 0) rfl ?_
    refine i_287_1190 ?_
    refine i_287_1191 (c := 1) (by decide) ?_
    refine i_287_1192 (v := Value.int (xs 1)) (xga W0_0) (by decide) (by decide) rfl ?_
    refine i_287_1193 (x := 0) rfl ?_
    refine i_287_1194 (x := 0) rfl ?_
    refine i_287_1196 ?_
    refine i_287_1197 (c := 2) (by decide) ?_
    refine i_287_1198 (v := Value.int (xs 2)) (xga W0_0) (by decide) (by decide) rfl ?_
    refine i_287_1199 (x := 0) rfl ?_
    refine i_287_1200 (x := 0) rfl ?_
    refine i_287_1202 ?_
    refine i_287_1203 (c := 3) (by decide) ?_
    refine i_287_1204 (v := Value.int (xs 3)) (xga W0_0) (by decide) (by decide) rfl ?_
    refine i_287_1205 (x := 0) rfl ?_
    refine i_287_1206 (x := 0) rfl ?_
    refine i_287_1208 ?_
    refine i_287_1209 (c := 4) (by decide) ?_
    refine i_287_1210 (v := Value.int (xs 4)) (xga W0_0) (by decide) (by decide) rfl ?_
    refine i_287_1211 (x := 0) rfl ?_
    refine i_287_1212 (x := 0) rfl ?_
    refine i_287_1214 ?_
    refine i_287_1215 (c := 5) (by decide) ?_
    refine i_287_1216 (v := Value.int (xs 5)) (xga W0_0) (by decide) (by decide) rfl ?_
    refine i_287_1217 (xga W0_128) (Nat.le_of_ble_eq_true rfl) (p_230_2 (xga W0_128) (by omega) (by omega) (by omega) (by omega) (by omega)) ?_
    refine i_287_1220 (lv2 := [(6, Value.int 0), (5, Value.int 1), (4, Value.int 0), (3, Value.ref 194), (2, Value.ref 128), (1, Value.ref 7), (0, Value.ref 0)]) rfl ?_
    refine i_287_1222 (x := 128) rfl ?_
    refine i_287_1223 (xgs (xga (xgs (xga W0_128)))) (Nat.le_of_ble_eq_true rfl) (p_165_0 (xgs (xga (xgs (xga W0_128))))) ?_
    refine i_287_1226 (x := 1) rfl ?_
    refine i_287_1228 (fun _ => ?_) (fun h => absurd h (by decide))
    refine i_287_1233 (x := 1) rfl ?_
    refine i_287_1235 (fun _ => ?_) (fun h => absurd h (by decide))
    refine i_287_1250 ?_
    refine i_287_2154 (x := 0) (c := 6) (lv2 := [(4, Value.int 6), (6, Value.int 0), (5, Value.int 1), (3, Value.ref 194), (2, Value.ref 128), (1, Value.ref 7), (0, Value.ref 0)]) rfl (by decide) rfl ?_
    refine i_287_2157 ?_
    refine i_287_23 (x := 6) rfl ?_
    refine i_287_25 (x := 0) rfl ?_
    refine i_287_26 (c := 6) (xgn (by decide) (xga (xgn (by decide) (xga W0_0)))) (by decide) ?_
    refine i_287_27 ?_
    refine i_287_29 (c := 0) (by decide) ?_
    refine i_287_30 (fun _ => ?_) (fun h => absurd h (by decide))
    refine i_287_2160 ?_
    exact i_287_2161 rfl ⟨rfl, rfl⟩
  · refine xLs.set ?_ (xga (xgs (xga W0_128))) xcs_o
    refine xLs.app (n := 219) (z := 199994) (m := 6) ?_ rfl
    refine xLs.set ?_ (xga W0_128) xcs_o
    refine xLs.app (n := 218) (z := 199988) (m := 6) ?_ rfl
    exact ⟨Nat.le_trans (Nat.le_of_eq W0_len) (by decide), Nat.le_trans (Nat.le_of_eq W0_sz) (by decide)⟩
theorem p_115_6 {d : Nat} {w : xW} {a0 : Int32} {a1 : Int32} {a2 : Int32} {a3 : Int32} {a4 : Int32} {a5 : Int32} {a6 : Int32} (e0 : 0 ≤ a0.toInt) (e1 : a0.toInt < 16) (e2 : 0 ≤ a1.toInt) (e3 : a1.toInt < 16) (e4 : 1 ≤ a3.toInt) (e5 : a3.toInt ≤ 16) (hg6 : (a1 + a3) = a5) (e7 : a5.toInt ≤ 16) (e8 : 0 ≤ a2.toInt) (e9 : a2.toInt < 16) (hg10 : (a2 + a3) = a6) (e11 : 16 < a6.toInt) : xRun (d + 6) 115 [Value.ref 7, Value.int a0, Value.int a1, Value.int a2, Value.int a3, Value.int a4] w (.inr w.length) (w ++ [Sum.inr (14, [])]) := by
  refine xRun.of ?_
  refine i_115_0 (x := a0) rfl ?_
  refine i_115_1 (Nat.le_of_ble_eq_true rfl) (p_15_1 e0 e1) ?_
  refine i_115_4 (fun h => absurd h (by decide)) (fun _ => ?_)
  refine i_115_7 (x := a1) rfl ?_
  refine i_115_8 (x := a3) rfl ?_
  refine i_115_10 (Nat.le_of_ble_eq_true rfl) (p_113_4 e2 e3 e4 e5 hg6 e7) ?_
  refine i_115_13 (fun h => absurd h (by decide)) (fun _ => ?_)
  refine i_115_16 (x := a2) rfl ?_
  refine i_115_17 (x := a3) rfl ?_
  refine i_115_19 (Nat.le_of_ble_eq_true rfl) (p_113_3 e8 e9 e4 e5 hg10 e11) ?_
  refine i_115_22 (fun _ => ?_) (fun h => absurd h (by decide))
  exact i_115_33 (by omega) (Nat.le_of_ble_eq_true rfl) ⟨rfl, rfl⟩
theorem p_114_6 {d : Nat} {w : xW} {a0 : Int32} {a1 : Int32} {a2 : Int32} {a3 : Int32} {a4 : Int32} {a5 : Int32} {a6 : Int32} (hw0 : w[7]? = some (Sum.inr (0, [Value.ref 8, Value.ref 78, Value.ref 9, Value.ref 10, Value.ref 13, Value.ref 16, Value.ref 19, Value.ref 93, Value.ref 108, Value.ref 113, Value.ref 29, Value.int 0]))) (e1 : 0 ≤ a0.toInt) (e2 : a0.toInt < 16) (e3 : 0 ≤ a1.toInt) (e4 : a1.toInt < 16) (e5 : 1 ≤ a3.toInt) (e6 : a3.toInt ≤ 16) (hg7 : (a1 + a3) = a5) (e8 : a5.toInt ≤ 16) (e9 : 0 ≤ a2.toInt) (e10 : a2.toInt < 16) (hg11 : (a2 + a3) = a6) (e12 : 16 < a6.toInt) : xRun (d + 7) 114 [Value.ref 7, Value.int a0, Value.int a1, Value.int a2, Value.int a3, Value.int a4, Value.ref 194] w (.inl (some (Value.int 1))) (w ++ [Sum.inr (14, [])]) := by
  refine xRun.of ?_
  refine i_114_0 (x := 194) rfl ?_
  refine i_114_2 ?_
  refine i_114_3 (x := 7) rfl ?_
  refine i_114_4 (x := a0) rfl ?_
  refine i_114_5 (x := a1) rfl ?_
  refine i_114_6 (x := a2) rfl ?_
  refine i_114_7 (x := a3) rfl ?_
  refine i_114_9 (x := a4) rfl ?_
  refine j_114_11 hw0 (Nat.le_of_ble_eq_true rfl) (p_115_6 e1 e2 e3 e4 e5 e6 hg7 e8 e9 e10 hg11 e12) (xDone.c xgl rfl rfl ?_)
  refine i_114_19 (lv2 := [(7, Value.ref w.length), (0, Value.ref 7), (1, Value.int a0), (2, Value.int a1), (3, Value.int a2), (4, Value.int a3), (5, Value.int a4), (6, Value.ref 194)]) rfl ?_
  refine i_114_21 ?_
  exact i_114_22 ⟨rfl, rfl⟩
theorem p_231_7 {d : Nat} {w : xW} {a0 : Int32} {a1 : Int32} {a2 : Int32} {a3 : Int32} {a4 : Int32} {a5 : Int32} {a6 : Int32} (e0 : 0 ≤ a0.toInt) (e1 : a0.toInt ≤ 15) (e2 : 0 ≤ a1.toInt) (e3 : a1.toInt ≤ 15) (e4 : 0 ≤ a2.toInt) (e5 : a2.toInt ≤ 15) (e6 : 1 ≤ a3.toInt) (e7 : a3.toInt ≤ 16) (hg8 : (a1 + a3) = a5) (e9 : a5.toInt ≤ 16) (hg10 : (a2 + a3) = a6) (e11 : 16 < a6.toInt) : xRun (d + 7) 231 [Value.ref 128, Value.int a0, Value.int a1, Value.int a2, Value.int a3, Value.int a4] w (.inr w.length) (w ++ [Sum.inr (14, [])]) := by
  refine xRun.of ?_
  refine i_231_0 (x := a0) rfl ?_
  refine i_231_1 (Nat.le_of_ble_eq_true rfl) (p_168_1 e0 e1) ?_
  refine i_231_4 (x := a1) rfl ?_
  refine i_231_5 (Nat.le_of_ble_eq_true rfl) (p_168_1 e2 e3) ?_
  refine i_231_8 (x := a2) rfl ?_
  refine i_231_9 (Nat.le_of_ble_eq_true rfl) (p_168_1 e4 e5) ?_
  refine i_231_12 (x := a3) rfl ?_
  refine i_231_14 ?_
  refine i_231_15 ?_
  refine i_231_17 (Nat.le_of_ble_eq_true rfl) (p_169_44 e6 e7) ?_
  refine i_231_20 (fun h => absurd h (by decide)) (fun _ => ?_)
  refine i_231_23 (x := a1) rfl ?_
  refine i_231_24 (x := a3) rfl ?_
  refine i_231_26 (c := a5) hg8 ?_
  refine i_231_27 ?_
  refine i_231_29 (fun h => absurd e9 (Int.not_le.mpr h)) (fun _ => ?_)
  refine i_231_32 (x := a2) rfl ?_
  refine i_231_33 (x := a3) rfl ?_
  refine i_231_35 (c := a6) hg10 ?_
  refine i_231_36 ?_
  refine i_231_38 (fun _ => ?_) (fun h => absurd e11 (Int.not_lt.mpr h))
  refine i_231_45 ?_
  exact j_231_46 (Nat.le_of_ble_eq_true rfl) (p_170_0) (xDone.t xgl rfl rfl ⟨rfl, rfl⟩)
theorem p_230_7 {d : Nat} {w : xW} {a0 : Int32} {a1 : Int32} {a2 : Int32} {a3 : Int32} {a4 : Int32} {a5 : Int32} {a6 : Int32} (hw0 : w[128]? = some (Sum.inr (12, [Value.ref 129, Value.ref 131, Value.ref 133, Value.ref 135, Value.ref 137, Value.ref 139, Value.ref 141, Value.ref 143, Value.ref 145, Value.ref 147, Value.ref 149, Value.ref 151, Value.ref 153, Value.ref 154, Value.ref 155, Value.ref 156, Value.ref 157, Value.int (-16384), Value.int 16384, Value.int 0, Value.int 0, Value.int 0, Value.ref 158, Value.ref 159, Value.int 0, Value.int 0, Value.int 0, Value.int 0, Value.int 0, Value.int 0, Value.int 0, Value.int 0]))) (e1 : 0 ≤ a0.toInt) (e2 : a0.toInt ≤ 15) (e3 : 0 ≤ a1.toInt) (e4 : a1.toInt ≤ 15) (e5 : 0 ≤ a2.toInt) (e6 : a2.toInt ≤ 15) (e7 : 1 ≤ a3.toInt) (e8 : a3.toInt ≤ 16) (hg9 : (a1 + a3) = a5) (e10 : a5.toInt ≤ 16) (hg11 : (a2 + a3) = a6) (e12 : 16 < a6.toInt) : xRun (d + 8) 230 [Value.ref 128, Value.int a0, Value.int a1, Value.int a2, Value.int a3, Value.int a4] w (.inl (some (Value.int 0))) (((w.set 128 (Sum.inr (12, [Value.ref 129, Value.ref 131, Value.ref 133, Value.ref 135, Value.ref 137, Value.ref 139, Value.ref 141, Value.ref 143, Value.ref 145, Value.ref 147, Value.ref 149, Value.ref 151, Value.ref 153, Value.ref 154, Value.ref 155, Value.ref 156, Value.ref 157, Value.int (-16384), Value.int 16384, Value.int 0, Value.int 0, Value.int 0, Value.ref 158, Value.ref 159, Value.int 0, Value.int 0, Value.int 0, Value.int 0, Value.int 0, Value.int 0, Value.int 0, Value.int 0]))) ++ [Sum.inr (14, [])]).set 128 (Sum.inr (12, [Value.ref 129, Value.ref 131, Value.ref 133, Value.ref 135, Value.ref 137, Value.ref 139, Value.ref 141, Value.ref 143, Value.ref 145, Value.ref 147, Value.ref 149, Value.ref 151, Value.ref 153, Value.ref 154, Value.ref 155, Value.ref 156, Value.ref 157, Value.int (-16384), Value.int 16384, Value.int 0, Value.int 0, Value.int 0, Value.ref 158, Value.ref 159, Value.int 0, Value.int 0, Value.int 0, Value.int 0, Value.int 0, Value.int 0, Value.int 0, Value.int 1]))) := by
  refine xRun.of ?_
  refine i_230_0 (x := 128) rfl ?_
  refine i_230_1 ?_
  refine i_230_2 (fs2 := [Value.ref 129, Value.ref 131, Value.ref 133, Value.ref 135, Value.ref 137, Value.ref 139, Value.ref 141, Value.ref 143, Value.ref 145, Value.ref 147, Value.ref 149, Value.ref 151, Value.ref 153, Value.ref 154, Value.ref 155, Value.ref 156, Value.ref 157, Value.int (-16384), Value.int 16384, Value.int 0, Value.int 0, Value.int 0, Value.ref 158, Value.ref 159, Value.int 0, Value.int 0, Value.int 0, Value.int 0, Value.int 0, Value.int 0, Value.int 0, Value.int 0]) hw0 (Nat.le_of_ble_eq_true rfl) rfl (by decide) ?_
  refine i_230_5 (x := 128) rfl ?_
  refine i_230_6 (x := a0) rfl ?_
  refine i_230_7 (x := a1) rfl ?_
  refine i_230_8 (x := a2) rfl ?_
  refine i_230_9 (x := a3) rfl ?_
  refine i_230_11 (x := a4) rfl ?_
  refine j_230_13 (xgs hw0) (Nat.le_of_ble_eq_true rfl) (p_231_7 e1 e2 e3 e4 e5 e6 e7 e8 hg9 e10 hg11 e12) (xDone.c xgl rfl rfl ?_)
  refine i_230_17 (lv2 := [(6, Value.ref ((w.set 128 (Sum.inr (12, [Value.ref 129, Value.ref 131, Value.ref 133, Value.ref 135, Value.ref 137, Value.ref 139, Value.ref 141, Value.ref 143, Value.ref 145, Value.ref 147, Value.ref 149, Value.ref 151, Value.ref 153, Value.ref 154, Value.ref 155, Value.ref 156, Value.ref 157, Value.int (-16384), Value.int 16384, Value.int 0, Value.int 0, Value.int 0, Value.ref 158, Value.ref 159, Value.int 0, Value.int 0, Value.int 0, Value.int 0, Value.int 0, Value.int 0, Value.int 0, Value.int 0]))).length)), (0, Value.ref 128), (1, Value.int a0), (2, Value.int a1), (3, Value.int a2), (4, Value.int a3), (5, Value.int a4)]) rfl ?_
  refine i_230_19 (x := 128) rfl ?_
  refine i_230_20 ?_
  refine i_230_21 (fs2 := [Value.ref 129, Value.ref 131, Value.ref 133, Value.ref 135, Value.ref 137, Value.ref 139, Value.ref 141, Value.ref 143, Value.ref 145, Value.ref 147, Value.ref 149, Value.ref 151, Value.ref 153, Value.ref 154, Value.ref 155, Value.ref 156, Value.ref 157, Value.int (-16384), Value.int 16384, Value.int 0, Value.int 0, Value.int 0, Value.ref 158, Value.ref 159, Value.int 0, Value.int 0, Value.int 0, Value.int 0, Value.int 0, Value.int 0, Value.int 0, Value.int 1]) (xga (xgs hw0)) (Nat.le_of_ble_eq_true rfl) rfl (by decide) ?_
  refine i_230_24 ?_
  exact i_230_25 ⟨rfl, rfl⟩
theorem o_11_12 {d : Nat} {xs : Nat → Int32} {N6 N10 : Int32} (h0 : ((xs 0) &&& (31 : Int32)).toInt = 11) (c0 : 0 ≤ (xs 1).toInt) (c1 : (xs 1).toInt < 16) (c2 : 0 ≤ (xs 2).toInt) (c3 : (xs 2).toInt < 16) (c4 : 1 ≤ (xs 4).toInt) (c5 : (xs 4).toInt ≤ 16) (eN6 : ((xs 2) + (xs 4)) = N6) (nN6 : N6.toInt = (xs 2).toInt + (xs 4).toInt) (c7 : N6.toInt ≤ 16) (c8 : 0 ≤ (xs 3).toInt) (c9 : (xs 3).toInt < 16) (eN10 : ((xs 3) + (xs 4)) = N10) (nN10 : N10.toInt = (xs 3).toInt + (xs 4).toInt) (c11 : 16 < N10.toInt) : ∃ w1, xEv (d + 20) 287 23 [(4, Value.int 0), (3, Value.ref 194), (2, Value.ref 128), (1, Value.ref 7), (0, Value.ref 0)] [] (W0 6 xs) (fun o' w' => o' = .inl (some (Value.int 1)) ∧ w' = w1) ∧ w1.length ≤ 220 ∧ xsz w1 ≤ 200000 := by
  refine ⟨(((((W0 6 xs) ++ [Sum.inr (14, [])]).set 128 (Sum.inr (12, [Value.ref 129, Value.ref 131, Value.ref 133, Value.ref 135, Value.ref 137, Value.ref 139, Value.ref 141, Value.ref 143, Value.ref 145, Value.ref 147, Value.ref 149, Value.ref 151, Value.ref 153, Value.ref 154, Value.ref 155, Value.ref 156, Value.ref 157, Value.int (-16384), Value.int 16384, Value.int 0, Value.int 0, Value.int 0, Value.ref 158, Value.ref 159, Value.int 0, Value.int 0, Value.int 0, Value.int 0, Value.int 0, Value.int 0, Value.int 0, Value.int 0]))) ++ [Sum.inr (14, [])]).set 128 (Sum.inr (12, [Value.ref 129, Value.ref 131, Value.ref 133, Value.ref 135, Value.ref 137, Value.ref 139, Value.ref 141, Value.ref 143, Value.ref 145, Value.ref 147, Value.ref 149, Value.ref 151, Value.ref 153, Value.ref 154, Value.ref 155, Value.ref 156, Value.ref 157, Value.int (-16384), Value.int 16384, Value.int 0, Value.int 0, Value.int 0, Value.ref 158, Value.ref 159, Value.int 0, Value.int 0, Value.int 0, Value.int 0, Value.int 0, Value.int 0, Value.int 0, Value.int 1]))), ?_, (show xLs _ 220 200000 from ?_)⟩
  · refine i_287_23 (x := 0) rfl ?_
    refine i_287_25 (x := 0) rfl ?_
    refine i_287_26 (c := 6) W0_0 (by decide) ?_
    refine i_287_27 ?_
    refine i_287_29 (c := 0) (by decide) ?_
    refine i_287_30 (fun h => absurd h (by decide)) (fun _ => ?_)
    refine i_287_33 (x := 0) rfl ?_
    refine i_287_34 (x := 0) rfl ?_
    refine i_287_36 (v := Value.int (xs 0)) W0_0 (by decide) (by decide) rfl ?_
    refine i_287_37 ?_
    refine i_287_39 (c := 11) (show ((xs 0) &&& (31 : Int32)) = 11 from (xge_c (n := 11) (by omega) rfl)) ?_
    refine i_287_40_11 rfl ?_
    refine i_287_1149 (x := 7) rfl ?_
    refine i_287_1150 (x := 0) rfl ?_
    refine i_287_1151 (x := 0) rfl ?_
    refine i_287_1153 ?_
    refine i_287_1154 (c := 1) (by decide) ?_
    refine i_287_1155 (v := Value.int (xs 1)) W0_0 (by decide) (by decide) rfl ?_
    refine i_287_1156 (x := 0) rfl ?_
    refine i_287_1157 (x := 0) rfl ?_
    refine i_287_1159 ?_
    refine i_287_1160 (c := 2) (by decide) ?_
    refine i_287_1161 (v := Value.int (xs 2)) W0_0 (by decide) (by decide) rfl ?_
    refine i_287_1162 (x := 0) rfl ?_
    refine i_287_1163 (x := 0) rfl ?_
    refine i_287_1165 ?_
    refine i_287_1166 (c := 3) (by decide) ?_
    refine i_287_1167 (v := Value.int (xs 3)) W0_0 (by decide) (by decide) rfl ?_
    refine i_287_1168 (x := 0) rfl ?_
    refine i_287_1169 (x := 0) rfl ?_
    refine i_287_1171 ?_
    refine i_287_1172 (c := 4) (by decide) ?_
    refine i_287_1173 (v := Value.int (xs 4)) W0_0 (by decide) (by decide) rfl ?_
    refine i_287_1174 (x := 0) rfl ?_
    refine i_287_1175 (x := 0) rfl ?_
    refine i_287_1177 ?_
    refine i_287_1178 (c := 5) (by decide) ?_
    refine i_287_1179 (v := Value.int (xs 5)) W0_0 (by decide) (by decide) rfl ?_
    refine i_287_1180 (x := 194) rfl ?_
    refine i_287_1181 (Nat.le_of_ble_eq_true rfl) (p_114_6 W0_7 (by omega) (by omega) (by omega) (by omega) (by omega) (by omega) (show ((xs 2) + (xs 4)) = N6 from eN6) (by omega) (by omega) (by omega) (show ((xs 3) + (xs 4)) = N10 from eN10) (by omega)) ?_
    refine i_287_1184 (lv2 := [(5, Value.int 1), (4, Value.int 0), (3, Value.ref 194), (2, Value.ref 128), (1, Value.ref 7), (0, Value.ref 0)]) rfl ?_
    refine i_287_1186 (x := 128) rfl ?_
    refine i_287_1187 (x := 0) rfl ?_
    refine i_287_1188 (x := 0) rfl ?_
    refine i_287_1190 ?_
    refine i_287_1191 (c := 1) (by decide) ?_
    refine i_287_1192 (v := Value.int (xs 1)) (xga W0_0) (by decide) (by decide) rfl ?_
    refine i_287_1193 (x := 0) rfl ?_
    refine i_287_1194 (x := 0) rfl ?_
    refine i_287_1196 ?_
    refine i_287_1197 (c := 2) (by decide) ?_
    refine i_287_1198 (v := Value.int (xs 2)) (xga W0_0) (by decide) (by decide) rfl ?_
    refine i_287_1199 (x := 0) rfl ?_
    refine i_287_1200 (x := 0) rfl ?_
    refine i_287_1202 ?_
    refine i_287_1203 (c := 3) (by decide) ?_
    refine i_287_1204 (v := Value.int (xs 3)) (xga W0_0) (by decide) (by decide) rfl ?_
    refine i_287_1205 (x := 0) rfl ?_
    refine i_287_1206 (x := 0) rfl ?_
    refine i_287_1208 ?_
    refine i_287_1209 (c := 4) (by decide) ?_
    refine i_287_1210 (v := Value.int (xs 4)) (xga W0_0) (by decide) (by decide) rfl ?_
    refine i_287_1211 (x := 0) rfl ?_
    refine i_287_1212 (x := 0) rfl ?_
    refine i_287_1214 ?_
    refine i_287_1215 (c := 5) (by decide) ?_
    refine i_287_1216 (v := Value.int (xs 5)) (xga W0_0) (by decide) (by decide) rfl ?_
    refine i_287_1217 (xga W0_128) (Nat.le_of_ble_eq_true rfl) (p_230_7 (xga W0_128) (by omega) (by omega) (by omega) (by omega) (by omega) (by omega) (by omega) (by omega) (show ((xs 2) + (xs 4)) = N6 from eN6) (by omega) (show ((xs 3) + (xs 4)) = N10 from eN10) (by omega)) ?_
    refine i_287_1220 (lv2 := [(6, Value.int 0), (5, Value.int 1), (4, Value.int 0), (3, Value.ref 194), (2, Value.ref 128), (1, Value.ref 7), (0, Value.ref 0)]) rfl ?_
    refine i_287_1222 (x := 128) rfl ?_
    refine i_287_1223 (xgs (xga (xgs (xga W0_128)))) (Nat.le_of_ble_eq_true rfl) (p_165_0 (xgs (xga (xgs (xga W0_128))))) ?_
    refine i_287_1226 (x := 1) rfl ?_
    refine i_287_1228 (fun _ => ?_) (fun h => absurd h (by decide))
    refine i_287_1233 (x := 1) rfl ?_
    refine i_287_1235 (fun _ => ?_) (fun h => absurd h (by decide))
    refine i_287_1250 ?_
    refine i_287_2154 (x := 0) (c := 6) (lv2 := [(4, Value.int 6), (6, Value.int 0), (5, Value.int 1), (3, Value.ref 194), (2, Value.ref 128), (1, Value.ref 7), (0, Value.ref 0)]) rfl (by decide) rfl ?_
    refine i_287_2157 ?_
    refine i_287_23 (x := 6) rfl ?_
    refine i_287_25 (x := 0) rfl ?_
    refine i_287_26 (c := 6) (xgn (by decide) (xga (xgn (by decide) (xga W0_0)))) (by decide) ?_
    refine i_287_27 ?_
    refine i_287_29 (c := 0) (by decide) ?_
    refine i_287_30 (fun _ => ?_) (fun h => absurd h (by decide))
    refine i_287_2160 ?_
    exact i_287_2161 rfl ⟨rfl, rfl⟩
  · refine xLs.set ?_ (xga (xgs (xga W0_128))) xcs_o
    refine xLs.app (n := 219) (z := 199994) (m := 6) ?_ rfl
    refine xLs.set ?_ (xga W0_128) xcs_o
    refine xLs.app (n := 218) (z := 199988) (m := 6) ?_ rfl
    exact ⟨Nat.le_trans (Nat.le_of_eq W0_len) (by decide), Nat.le_trans (Nat.le_of_eq W0_sz) (by decide)⟩
theorem p_115_7 {d : Nat} {w : xW} {a0 : Int32} {a1 : Int32} {a2 : Int32} {a3 : Int32} {a4 : Int32} {a5 : Int32} {a6 : Int32} (e0 : 0 ≤ a0.toInt) (e1 : a0.toInt < 16) (e2 : 0 ≤ a1.toInt) (e3 : a1.toInt < 16) (e4 : 1 ≤ a3.toInt) (e5 : a3.toInt ≤ 16) (hg6 : (a1 + a3) = a5) (e7 : a5.toInt ≤ 16) (e8 : 0 ≤ a2.toInt) (e9 : a2.toInt < 16) (hg10 : (a2 + a3) = a6) (e11 : a6.toInt ≤ 16) (e12 : a4.toInt < 0) : xRun (d + 6) 115 [Value.ref 7, Value.int a0, Value.int a1, Value.int a2, Value.int a3, Value.int a4] w (.inr w.length) (w ++ [Sum.inr (14, [])]) := by
  refine xRun.of ?_
  refine i_115_0 (x := a0) rfl ?_
  refine i_115_1 (Nat.le_of_ble_eq_true rfl) (p_15_1 e0 e1) ?_
  refine i_115_4 (fun h => absurd h (by decide)) (fun _ => ?_)
  refine i_115_7 (x := a1) rfl ?_
  refine i_115_8 (x := a3) rfl ?_
  refine i_115_10 (Nat.le_of_ble_eq_true rfl) (p_113_4 e2 e3 e4 e5 hg6 e7) ?_
  refine i_115_13 (fun h => absurd h (by decide)) (fun _ => ?_)
  refine i_115_16 (x := a2) rfl ?_
  refine i_115_17 (x := a3) rfl ?_
  refine i_115_19 (Nat.le_of_ble_eq_true rfl) (p_113_4 e8 e9 e4 e5 hg10 e11) ?_
  refine i_115_22 (fun h => absurd h (by decide)) (fun _ => ?_)
  refine i_115_25 (x := a4) rfl ?_
  refine i_115_27 (Nat.le_of_ble_eq_true rfl) (p_22_0 e12) ?_
  refine i_115_30 (fun h => absurd h (by decide)) (fun _ => ?_)
  exact i_115_33 (by omega) (Nat.le_of_ble_eq_true rfl) ⟨rfl, rfl⟩
theorem p_114_7 {d : Nat} {w : xW} {a0 : Int32} {a1 : Int32} {a2 : Int32} {a3 : Int32} {a4 : Int32} {a5 : Int32} {a6 : Int32} (hw0 : w[7]? = some (Sum.inr (0, [Value.ref 8, Value.ref 78, Value.ref 9, Value.ref 10, Value.ref 13, Value.ref 16, Value.ref 19, Value.ref 93, Value.ref 108, Value.ref 113, Value.ref 29, Value.int 0]))) (e1 : 0 ≤ a0.toInt) (e2 : a0.toInt < 16) (e3 : 0 ≤ a1.toInt) (e4 : a1.toInt < 16) (e5 : 1 ≤ a3.toInt) (e6 : a3.toInt ≤ 16) (hg7 : (a1 + a3) = a5) (e8 : a5.toInt ≤ 16) (e9 : 0 ≤ a2.toInt) (e10 : a2.toInt < 16) (hg11 : (a2 + a3) = a6) (e12 : a6.toInt ≤ 16) (e13 : a4.toInt < 0) : xRun (d + 7) 114 [Value.ref 7, Value.int a0, Value.int a1, Value.int a2, Value.int a3, Value.int a4, Value.ref 194] w (.inl (some (Value.int 1))) (w ++ [Sum.inr (14, [])]) := by
  refine xRun.of ?_
  refine i_114_0 (x := 194) rfl ?_
  refine i_114_2 ?_
  refine i_114_3 (x := 7) rfl ?_
  refine i_114_4 (x := a0) rfl ?_
  refine i_114_5 (x := a1) rfl ?_
  refine i_114_6 (x := a2) rfl ?_
  refine i_114_7 (x := a3) rfl ?_
  refine i_114_9 (x := a4) rfl ?_
  refine j_114_11 hw0 (Nat.le_of_ble_eq_true rfl) (p_115_7 e1 e2 e3 e4 e5 e6 hg7 e8 e9 e10 hg11 e12 e13) (xDone.c xgl rfl rfl ?_)
  refine i_114_19 (lv2 := [(7, Value.ref w.length), (0, Value.ref 7), (1, Value.int a0), (2, Value.int a1), (3, Value.int a2), (4, Value.int a3), (5, Value.int a4), (6, Value.ref 194)]) rfl ?_
  refine i_114_21 ?_
  exact i_114_22 ⟨rfl, rfl⟩
theorem p_231_8 {d : Nat} {w : xW} {a0 : Int32} {a1 : Int32} {a2 : Int32} {a3 : Int32} {a4 : Int32} {a5 : Int32} {a6 : Int32} (e0 : 0 ≤ a0.toInt) (e1 : a0.toInt ≤ 15) (e2 : 0 ≤ a1.toInt) (e3 : a1.toInt ≤ 15) (e4 : 0 ≤ a2.toInt) (e5 : a2.toInt ≤ 15) (e6 : 1 ≤ a3.toInt) (e7 : a3.toInt ≤ 16) (hg8 : (a1 + a3) = a5) (e9 : a5.toInt ≤ 16) (hg10 : (a2 + a3) = a6) (e11 : a6.toInt ≤ 16) (e12 : a4.toInt < 0) : xRun (d + 8) 231 [Value.ref 128, Value.int a0, Value.int a1, Value.int a2, Value.int a3, Value.int a4] w (.inr w.length) (w ++ [Sum.inr (14, [])]) := by
  refine xRun.of ?_
  refine i_231_0 (x := a0) rfl ?_
  refine i_231_1 (Nat.le_of_ble_eq_true rfl) (p_168_1 e0 e1) ?_
  refine i_231_4 (x := a1) rfl ?_
  refine i_231_5 (Nat.le_of_ble_eq_true rfl) (p_168_1 e2 e3) ?_
  refine i_231_8 (x := a2) rfl ?_
  refine i_231_9 (Nat.le_of_ble_eq_true rfl) (p_168_1 e4 e5) ?_
  refine i_231_12 (x := a3) rfl ?_
  refine i_231_14 ?_
  refine i_231_15 ?_
  refine i_231_17 (Nat.le_of_ble_eq_true rfl) (p_169_44 e6 e7) ?_
  refine i_231_20 (fun h => absurd h (by decide)) (fun _ => ?_)
  refine i_231_23 (x := a1) rfl ?_
  refine i_231_24 (x := a3) rfl ?_
  refine i_231_26 (c := a5) hg8 ?_
  refine i_231_27 ?_
  refine i_231_29 (fun h => absurd e9 (Int.not_le.mpr h)) (fun _ => ?_)
  refine i_231_32 (x := a2) rfl ?_
  refine i_231_33 (x := a3) rfl ?_
  refine i_231_35 (c := a6) hg10 ?_
  refine i_231_36 ?_
  refine i_231_38 (fun h => absurd e11 (Int.not_le.mpr h)) (fun _ => ?_)
  refine i_231_41 ?_
  refine i_231_42 ?_
  refine i_231_46 (Nat.le_of_ble_eq_true rfl) (p_170_1) ?_
  refine i_231_49 (x := a4) rfl ?_
  exact j_231_51 (Nat.le_of_ble_eq_true rfl) (p_178_0 e12) (xDone.t xgl rfl rfl ⟨rfl, rfl⟩)
theorem p_230_8 {d : Nat} {w : xW} {a0 : Int32} {a1 : Int32} {a2 : Int32} {a3 : Int32} {a4 : Int32} {a5 : Int32} {a6 : Int32} (hw0 : w[128]? = some (Sum.inr (12, [Value.ref 129, Value.ref 131, Value.ref 133, Value.ref 135, Value.ref 137, Value.ref 139, Value.ref 141, Value.ref 143, Value.ref 145, Value.ref 147, Value.ref 149, Value.ref 151, Value.ref 153, Value.ref 154, Value.ref 155, Value.ref 156, Value.ref 157, Value.int (-16384), Value.int 16384, Value.int 0, Value.int 0, Value.int 0, Value.ref 158, Value.ref 159, Value.int 0, Value.int 0, Value.int 0, Value.int 0, Value.int 0, Value.int 0, Value.int 0, Value.int 0]))) (e1 : 0 ≤ a0.toInt) (e2 : a0.toInt ≤ 15) (e3 : 0 ≤ a1.toInt) (e4 : a1.toInt ≤ 15) (e5 : 0 ≤ a2.toInt) (e6 : a2.toInt ≤ 15) (e7 : 1 ≤ a3.toInt) (e8 : a3.toInt ≤ 16) (hg9 : (a1 + a3) = a5) (e10 : a5.toInt ≤ 16) (hg11 : (a2 + a3) = a6) (e12 : a6.toInt ≤ 16) (e13 : a4.toInt < 0) : xRun (d + 9) 230 [Value.ref 128, Value.int a0, Value.int a1, Value.int a2, Value.int a3, Value.int a4] w (.inl (some (Value.int 0))) (((w.set 128 (Sum.inr (12, [Value.ref 129, Value.ref 131, Value.ref 133, Value.ref 135, Value.ref 137, Value.ref 139, Value.ref 141, Value.ref 143, Value.ref 145, Value.ref 147, Value.ref 149, Value.ref 151, Value.ref 153, Value.ref 154, Value.ref 155, Value.ref 156, Value.ref 157, Value.int (-16384), Value.int 16384, Value.int 0, Value.int 0, Value.int 0, Value.ref 158, Value.ref 159, Value.int 0, Value.int 0, Value.int 0, Value.int 0, Value.int 0, Value.int 0, Value.int 0, Value.int 0]))) ++ [Sum.inr (14, [])]).set 128 (Sum.inr (12, [Value.ref 129, Value.ref 131, Value.ref 133, Value.ref 135, Value.ref 137, Value.ref 139, Value.ref 141, Value.ref 143, Value.ref 145, Value.ref 147, Value.ref 149, Value.ref 151, Value.ref 153, Value.ref 154, Value.ref 155, Value.ref 156, Value.ref 157, Value.int (-16384), Value.int 16384, Value.int 0, Value.int 0, Value.int 0, Value.ref 158, Value.ref 159, Value.int 0, Value.int 0, Value.int 0, Value.int 0, Value.int 0, Value.int 0, Value.int 0, Value.int 1]))) := by
  refine xRun.of ?_
  refine i_230_0 (x := 128) rfl ?_
  refine i_230_1 ?_
  refine i_230_2 (fs2 := [Value.ref 129, Value.ref 131, Value.ref 133, Value.ref 135, Value.ref 137, Value.ref 139, Value.ref 141, Value.ref 143, Value.ref 145, Value.ref 147, Value.ref 149, Value.ref 151, Value.ref 153, Value.ref 154, Value.ref 155, Value.ref 156, Value.ref 157, Value.int (-16384), Value.int 16384, Value.int 0, Value.int 0, Value.int 0, Value.ref 158, Value.ref 159, Value.int 0, Value.int 0, Value.int 0, Value.int 0, Value.int 0, Value.int 0, Value.int 0, Value.int 0]) hw0 (Nat.le_of_ble_eq_true rfl) rfl (by decide) ?_
  refine i_230_5 (x := 128) rfl ?_
  refine i_230_6 (x := a0) rfl ?_
  refine i_230_7 (x := a1) rfl ?_
  refine i_230_8 (x := a2) rfl ?_
  refine i_230_9 (x := a3) rfl ?_
  refine i_230_11 (x := a4) rfl ?_
  refine j_230_13 (xgs hw0) (Nat.le_of_ble_eq_true rfl) (p_231_8 e1 e2 e3 e4 e5 e6 e7 e8 hg9 e10 hg11 e12 e13) (xDone.c xgl rfl rfl ?_)
  refine i_230_17 (lv2 := [(6, Value.ref ((w.set 128 (Sum.inr (12, [Value.ref 129, Value.ref 131, Value.ref 133, Value.ref 135, Value.ref 137, Value.ref 139, Value.ref 141, Value.ref 143, Value.ref 145, Value.ref 147, Value.ref 149, Value.ref 151, Value.ref 153, Value.ref 154, Value.ref 155, Value.ref 156, Value.ref 157, Value.int (-16384), Value.int 16384, Value.int 0, Value.int 0, Value.int 0, Value.ref 158, Value.ref 159, Value.int 0, Value.int 0, Value.int 0, Value.int 0, Value.int 0, Value.int 0, Value.int 0, Value.int 0]))).length)), (0, Value.ref 128), (1, Value.int a0), (2, Value.int a1), (3, Value.int a2), (4, Value.int a3), (5, Value.int a4)]) rfl ?_
  refine i_230_19 (x := 128) rfl ?_
  refine i_230_20 ?_
  refine i_230_21 (fs2 := [Value.ref 129, Value.ref 131, Value.ref 133, Value.ref 135, Value.ref 137, Value.ref 139, Value.ref 141, Value.ref 143, Value.ref 145, Value.ref 147, Value.ref 149, Value.ref 151, Value.ref 153, Value.ref 154, Value.ref 155, Value.ref 156, Value.ref 157, Value.int (-16384), Value.int 16384, Value.int 0, Value.int 0, Value.int 0, Value.ref 158, Value.ref 159, Value.int 0, Value.int 0, Value.int 0, Value.int 0, Value.int 0, Value.int 0, Value.int 0, Value.int 1]) (xga (xgs hw0)) (Nat.le_of_ble_eq_true rfl) rfl (by decide) ?_
  refine i_230_24 ?_
  exact i_230_25 ⟨rfl, rfl⟩
theorem o_11_13 {d : Nat} {xs : Nat → Int32} {N6 N10 : Int32} (h0 : ((xs 0) &&& (31 : Int32)).toInt = 11) (c0 : 0 ≤ (xs 1).toInt) (c1 : (xs 1).toInt < 16) (c2 : 0 ≤ (xs 2).toInt) (c3 : (xs 2).toInt < 16) (c4 : 1 ≤ (xs 4).toInt) (c5 : (xs 4).toInt ≤ 16) (eN6 : ((xs 2) + (xs 4)) = N6) (nN6 : N6.toInt = (xs 2).toInt + (xs 4).toInt) (c7 : N6.toInt ≤ 16) (c8 : 0 ≤ (xs 3).toInt) (c9 : (xs 3).toInt < 16) (eN10 : ((xs 3) + (xs 4)) = N10) (nN10 : N10.toInt = (xs 3).toInt + (xs 4).toInt) (c11 : N10.toInt ≤ 16) (c12 : (xs 5).toInt < 0) : ∃ w1, xEv (d + 20) 287 23 [(4, Value.int 0), (3, Value.ref 194), (2, Value.ref 128), (1, Value.ref 7), (0, Value.ref 0)] [] (W0 6 xs) (fun o' w' => o' = .inl (some (Value.int 1)) ∧ w' = w1) ∧ w1.length ≤ 220 ∧ xsz w1 ≤ 200000 := by
  refine ⟨(((((W0 6 xs) ++ [Sum.inr (14, [])]).set 128 (Sum.inr (12, [Value.ref 129, Value.ref 131, Value.ref 133, Value.ref 135, Value.ref 137, Value.ref 139, Value.ref 141, Value.ref 143, Value.ref 145, Value.ref 147, Value.ref 149, Value.ref 151, Value.ref 153, Value.ref 154, Value.ref 155, Value.ref 156, Value.ref 157, Value.int (-16384), Value.int 16384, Value.int 0, Value.int 0, Value.int 0, Value.ref 158, Value.ref 159, Value.int 0, Value.int 0, Value.int 0, Value.int 0, Value.int 0, Value.int 0, Value.int 0, Value.int 0]))) ++ [Sum.inr (14, [])]).set 128 (Sum.inr (12, [Value.ref 129, Value.ref 131, Value.ref 133, Value.ref 135, Value.ref 137, Value.ref 139, Value.ref 141, Value.ref 143, Value.ref 145, Value.ref 147, Value.ref 149, Value.ref 151, Value.ref 153, Value.ref 154, Value.ref 155, Value.ref 156, Value.ref 157, Value.int (-16384), Value.int 16384, Value.int 0, Value.int 0, Value.int 0, Value.ref 158, Value.ref 159, Value.int 0, Value.int 0, Value.int 0, Value.int 0, Value.int 0, Value.int 0, Value.int 0, Value.int 1]))), ?_, (show xLs _ 220 200000 from ?_)⟩
  · refine i_287_23 (x := 0) rfl ?_
    refine i_287_25 (x := 0) rfl ?_
    refine i_287_26 (c := 6) W0_0 (by decide) ?_
    refine i_287_27 ?_
    refine i_287_29 (c := 0) (by decide) ?_
    refine i_287_30 (fun h => absurd h (by decide)) (fun _ => ?_)
    refine i_287_33 (x := 0) rfl ?_
    refine i_287_34 (x := 0) rfl ?_
    refine i_287_36 (v := Value.int (xs 0)) W0_0 (by decide) (by decide) rfl ?_
    refine i_287_37 ?_
    refine i_287_39 (c := 11) (show ((xs 0) &&& (31 : Int32)) = 11 from (xge_c (n := 11) (by omega) rfl)) ?_
    refine i_287_40_11 rfl ?_
    refine i_287_1149 (x := 7) rfl ?_
    refine i_287_1150 (x := 0) rfl ?_
    refine i_287_1151 (x := 0) rfl ?_
    refine i_287_1153 ?_
    refine i_287_1154 (c := 1) (by decide) ?_
    refine i_287_1155 (v := Value.int (xs 1)) W0_0 (by decide) (by decide) rfl ?_
    refine i_287_1156 (x := 0) rfl ?_
    refine i_287_1157 (x := 0) rfl ?_
    refine i_287_1159 ?_
    refine i_287_1160 (c := 2) (by decide) ?_
    refine i_287_1161 (v := Value.int (xs 2)) W0_0 (by decide) (by decide) rfl ?_
    refine i_287_1162 (x := 0) rfl ?_
    refine i_287_1163 (x := 0) rfl ?_
    refine i_287_1165 ?_
    refine i_287_1166 (c := 3) (by decide) ?_
    refine i_287_1167 (v := Value.int (xs 3)) W0_0 (by decide) (by decide) rfl ?_
    refine i_287_1168 (x := 0) rfl ?_
    refine i_287_1169 (x := 0) rfl ?_
    refine i_287_1171 ?_
    refine i_287_1172 (c := 4) (by decide) ?_
    refine i_287_1173 (v := Value.int (xs 4)) W0_0 (by decide) (by decide) rfl ?_
    refine i_287_1174 (x := 0) rfl ?_
    refine i_287_1175 (x := 0) rfl ?_
    refine i_287_1177 ?_
    refine i_287_1178 (c := 5) (by decide) ?_
    refine i_287_1179 (v := Value.int (xs 5)) W0_0 (by decide) (by decide) rfl ?_
    refine i_287_1180 (x := 194) rfl ?_
    refine i_287_1181 (Nat.le_of_ble_eq_true rfl) (p_114_7 W0_7 (by omega) (by omega) (by omega) (by omega) (by omega) (by omega) (show ((xs 2) + (xs 4)) = N6 from eN6) (by omega) (by omega) (by omega) (show ((xs 3) + (xs 4)) = N10 from eN10) (by omega) (by omega)) ?_
    refine i_287_1184 (lv2 := [(5, Value.int 1), (4, Value.int 0), (3, Value.ref 194), (2, Value.ref 128), (1, Value.ref 7), (0, Value.ref 0)]) rfl ?_
    refine i_287_1186 (x := 128) rfl ?_
    refine i_287_1187 (x := 0) rfl ?_
    refine i_287_1188 (x := 0) rfl ?_
    refine i_287_1190 ?_
    refine i_287_1191 (c := 1) (by decide) ?_
    refine i_287_1192 (v := Value.int (xs 1)) (xga W0_0) (by decide) (by decide) rfl ?_
    refine i_287_1193 (x := 0) rfl ?_
    refine i_287_1194 (x := 0) rfl ?_
    refine i_287_1196 ?_
    refine i_287_1197 (c := 2) (by decide) ?_
    refine i_287_1198 (v := Value.int (xs 2)) (xga W0_0) (by decide) (by decide) rfl ?_
    refine i_287_1199 (x := 0) rfl ?_
    refine i_287_1200 (x := 0) rfl ?_
    refine i_287_1202 ?_
    refine i_287_1203 (c := 3) (by decide) ?_
    refine i_287_1204 (v := Value.int (xs 3)) (xga W0_0) (by decide) (by decide) rfl ?_
    refine i_287_1205 (x := 0) rfl ?_
    refine i_287_1206 (x := 0) rfl ?_
    refine i_287_1208 ?_
    refine i_287_1209 (c := 4) (by decide) ?_
    refine i_287_1210 (v := Value.int (xs 4)) (xga W0_0) (by decide) (by decide) rfl ?_
    refine i_287_1211 (x := 0) rfl ?_
    refine i_287_1212 (x := 0) rfl ?_
    refine i_287_1214 ?_
    refine i_287_1215 (c := 5) (by decide) ?_
    refine i_287_1216 (v := Value.int (xs 5)) (xga W0_0) (by decide) (by decide) rfl ?_
    refine i_287_1217 (xga W0_128) (Nat.le_of_ble_eq_true rfl) (p_230_8 (xga W0_128) (by omega) (by omega) (by omega) (by omega) (by omega) (by omega) (by omega) (by omega) (show ((xs 2) + (xs 4)) = N6 from eN6) (by omega) (show ((xs 3) + (xs 4)) = N10 from eN10) (by omega) (by omega)) ?_
    refine i_287_1220 (lv2 := [(6, Value.int 0), (5, Value.int 1), (4, Value.int 0), (3, Value.ref 194), (2, Value.ref 128), (1, Value.ref 7), (0, Value.ref 0)]) rfl ?_
    refine i_287_1222 (x := 128) rfl ?_
    refine i_287_1223 (xgs (xga (xgs (xga W0_128)))) (Nat.le_of_ble_eq_true rfl) (p_165_0 (xgs (xga (xgs (xga W0_128))))) ?_
    refine i_287_1226 (x := 1) rfl ?_
    refine i_287_1228 (fun _ => ?_) (fun h => absurd h (by decide))
    refine i_287_1233 (x := 1) rfl ?_
    refine i_287_1235 (fun _ => ?_) (fun h => absurd h (by decide))
    refine i_287_1250 ?_
    refine i_287_2154 (x := 0) (c := 6) (lv2 := [(4, Value.int 6), (6, Value.int 0), (5, Value.int 1), (3, Value.ref 194), (2, Value.ref 128), (1, Value.ref 7), (0, Value.ref 0)]) rfl (by decide) rfl ?_
    refine i_287_2157 ?_
    refine i_287_23 (x := 6) rfl ?_
    refine i_287_25 (x := 0) rfl ?_
    refine i_287_26 (c := 6) (xgn (by decide) (xga (xgn (by decide) (xga W0_0)))) (by decide) ?_
    refine i_287_27 ?_
    refine i_287_29 (c := 0) (by decide) ?_
    refine i_287_30 (fun _ => ?_) (fun h => absurd h (by decide))
    refine i_287_2160 ?_
    exact i_287_2161 rfl ⟨rfl, rfl⟩
  · refine xLs.set ?_ (xga (xgs (xga W0_128))) xcs_o
    refine xLs.app (n := 219) (z := 199994) (m := 6) ?_ rfl
    refine xLs.set ?_ (xga W0_128) xcs_o
    refine xLs.app (n := 218) (z := 199988) (m := 6) ?_ rfl
    exact ⟨Nat.le_trans (Nat.le_of_eq W0_len) (by decide), Nat.le_trans (Nat.le_of_eq W0_sz) (by decide)⟩
theorem p_115_8 {d : Nat} {w : xW} {a0 : Int32} {a1 : Int32} {a2 : Int32} {a3 : Int32} {a4 : Int32} {a5 : Int32} {a6 : Int32} (e0 : 0 ≤ a0.toInt) (e1 : a0.toInt < 16) (e2 : 0 ≤ a1.toInt) (e3 : a1.toInt < 16) (e4 : 1 ≤ a3.toInt) (e5 : a3.toInt ≤ 16) (hg6 : (a1 + a3) = a5) (e7 : a5.toInt ≤ 16) (e8 : 0 ≤ a2.toInt) (e9 : a2.toInt < 16) (hg10 : (a2 + a3) = a6) (e11 : a6.toInt ≤ 16) (e12 : 0 ≤ a4.toInt) (e13 : 4 < a4.toInt) : xRun (d + 6) 115 [Value.ref 7, Value.int a0, Value.int a1, Value.int a2, Value.int a3, Value.int a4] w (.inr w.length) (w ++ [Sum.inr (14, [])]) := by
  refine xRun.of ?_
  refine i_115_0 (x := a0) rfl ?_
  refine i_115_1 (Nat.le_of_ble_eq_true rfl) (p_15_1 e0 e1) ?_
  refine i_115_4 (fun h => absurd h (by decide)) (fun _ => ?_)
  refine i_115_7 (x := a1) rfl ?_
  refine i_115_8 (x := a3) rfl ?_
  refine i_115_10 (Nat.le_of_ble_eq_true rfl) (p_113_4 e2 e3 e4 e5 hg6 e7) ?_
  refine i_115_13 (fun h => absurd h (by decide)) (fun _ => ?_)
  refine i_115_16 (x := a2) rfl ?_
  refine i_115_17 (x := a3) rfl ?_
  refine i_115_19 (Nat.le_of_ble_eq_true rfl) (p_113_4 e8 e9 e4 e5 hg10 e11) ?_
  refine i_115_22 (fun h => absurd h (by decide)) (fun _ => ?_)
  refine i_115_25 (x := a4) rfl ?_
  refine i_115_27 (Nat.le_of_ble_eq_true rfl) (p_22_1 e12 e13) ?_
  refine i_115_30 (fun h => absurd h (by decide)) (fun _ => ?_)
  exact i_115_33 (by omega) (Nat.le_of_ble_eq_true rfl) ⟨rfl, rfl⟩
theorem p_114_8 {d : Nat} {w : xW} {a0 : Int32} {a1 : Int32} {a2 : Int32} {a3 : Int32} {a4 : Int32} {a5 : Int32} {a6 : Int32} (hw0 : w[7]? = some (Sum.inr (0, [Value.ref 8, Value.ref 78, Value.ref 9, Value.ref 10, Value.ref 13, Value.ref 16, Value.ref 19, Value.ref 93, Value.ref 108, Value.ref 113, Value.ref 29, Value.int 0]))) (e1 : 0 ≤ a0.toInt) (e2 : a0.toInt < 16) (e3 : 0 ≤ a1.toInt) (e4 : a1.toInt < 16) (e5 : 1 ≤ a3.toInt) (e6 : a3.toInt ≤ 16) (hg7 : (a1 + a3) = a5) (e8 : a5.toInt ≤ 16) (e9 : 0 ≤ a2.toInt) (e10 : a2.toInt < 16) (hg11 : (a2 + a3) = a6) (e12 : a6.toInt ≤ 16) (e13 : 0 ≤ a4.toInt) (e14 : 4 < a4.toInt) : xRun (d + 7) 114 [Value.ref 7, Value.int a0, Value.int a1, Value.int a2, Value.int a3, Value.int a4, Value.ref 194] w (.inl (some (Value.int 1))) (w ++ [Sum.inr (14, [])]) := by
  refine xRun.of ?_
  refine i_114_0 (x := 194) rfl ?_
  refine i_114_2 ?_
  refine i_114_3 (x := 7) rfl ?_
  refine i_114_4 (x := a0) rfl ?_
  refine i_114_5 (x := a1) rfl ?_
  refine i_114_6 (x := a2) rfl ?_
  refine i_114_7 (x := a3) rfl ?_
  refine i_114_9 (x := a4) rfl ?_
  refine j_114_11 hw0 (Nat.le_of_ble_eq_true rfl) (p_115_8 e1 e2 e3 e4 e5 e6 hg7 e8 e9 e10 hg11 e12 e13 e14) (xDone.c xgl rfl rfl ?_)
  refine i_114_19 (lv2 := [(7, Value.ref w.length), (0, Value.ref 7), (1, Value.int a0), (2, Value.int a1), (3, Value.int a2), (4, Value.int a3), (5, Value.int a4), (6, Value.ref 194)]) rfl ?_
  refine i_114_21 ?_
  exact i_114_22 ⟨rfl, rfl⟩
theorem p_231_9 {d : Nat} {w : xW} {a0 : Int32} {a1 : Int32} {a2 : Int32} {a3 : Int32} {a4 : Int32} {a5 : Int32} {a6 : Int32} (e0 : 0 ≤ a0.toInt) (e1 : a0.toInt ≤ 15) (e2 : 0 ≤ a1.toInt) (e3 : a1.toInt ≤ 15) (e4 : 0 ≤ a2.toInt) (e5 : a2.toInt ≤ 15) (e6 : 1 ≤ a3.toInt) (e7 : a3.toInt ≤ 16) (hg8 : (a1 + a3) = a5) (e9 : a5.toInt ≤ 16) (hg10 : (a2 + a3) = a6) (e11 : a6.toInt ≤ 16) (e12 : 0 ≤ a4.toInt) (e13 : 4 < a4.toInt) : xRun (d + 8) 231 [Value.ref 128, Value.int a0, Value.int a1, Value.int a2, Value.int a3, Value.int a4] w (.inr w.length) (w ++ [Sum.inr (14, [])]) := by
  refine xRun.of ?_
  refine i_231_0 (x := a0) rfl ?_
  refine i_231_1 (Nat.le_of_ble_eq_true rfl) (p_168_1 e0 e1) ?_
  refine i_231_4 (x := a1) rfl ?_
  refine i_231_5 (Nat.le_of_ble_eq_true rfl) (p_168_1 e2 e3) ?_
  refine i_231_8 (x := a2) rfl ?_
  refine i_231_9 (Nat.le_of_ble_eq_true rfl) (p_168_1 e4 e5) ?_
  refine i_231_12 (x := a3) rfl ?_
  refine i_231_14 ?_
  refine i_231_15 ?_
  refine i_231_17 (Nat.le_of_ble_eq_true rfl) (p_169_44 e6 e7) ?_
  refine i_231_20 (fun h => absurd h (by decide)) (fun _ => ?_)
  refine i_231_23 (x := a1) rfl ?_
  refine i_231_24 (x := a3) rfl ?_
  refine i_231_26 (c := a5) hg8 ?_
  refine i_231_27 ?_
  refine i_231_29 (fun h => absurd e9 (Int.not_le.mpr h)) (fun _ => ?_)
  refine i_231_32 (x := a2) rfl ?_
  refine i_231_33 (x := a3) rfl ?_
  refine i_231_35 (c := a6) hg10 ?_
  refine i_231_36 ?_
  refine i_231_38 (fun h => absurd e11 (Int.not_le.mpr h)) (fun _ => ?_)
  refine i_231_41 ?_
  refine i_231_42 ?_
  refine i_231_46 (Nat.le_of_ble_eq_true rfl) (p_170_1) ?_
  refine i_231_49 (x := a4) rfl ?_
  exact j_231_51 (Nat.le_of_ble_eq_true rfl) (p_178_1 e12 e13) (xDone.t xgl rfl rfl ⟨rfl, rfl⟩)
theorem p_230_9 {d : Nat} {w : xW} {a0 : Int32} {a1 : Int32} {a2 : Int32} {a3 : Int32} {a4 : Int32} {a5 : Int32} {a6 : Int32} (hw0 : w[128]? = some (Sum.inr (12, [Value.ref 129, Value.ref 131, Value.ref 133, Value.ref 135, Value.ref 137, Value.ref 139, Value.ref 141, Value.ref 143, Value.ref 145, Value.ref 147, Value.ref 149, Value.ref 151, Value.ref 153, Value.ref 154, Value.ref 155, Value.ref 156, Value.ref 157, Value.int (-16384), Value.int 16384, Value.int 0, Value.int 0, Value.int 0, Value.ref 158, Value.ref 159, Value.int 0, Value.int 0, Value.int 0, Value.int 0, Value.int 0, Value.int 0, Value.int 0, Value.int 0]))) (e1 : 0 ≤ a0.toInt) (e2 : a0.toInt ≤ 15) (e3 : 0 ≤ a1.toInt) (e4 : a1.toInt ≤ 15) (e5 : 0 ≤ a2.toInt) (e6 : a2.toInt ≤ 15) (e7 : 1 ≤ a3.toInt) (e8 : a3.toInt ≤ 16) (hg9 : (a1 + a3) = a5) (e10 : a5.toInt ≤ 16) (hg11 : (a2 + a3) = a6) (e12 : a6.toInt ≤ 16) (e13 : 0 ≤ a4.toInt) (e14 : 4 < a4.toInt) : xRun (d + 9) 230 [Value.ref 128, Value.int a0, Value.int a1, Value.int a2, Value.int a3, Value.int a4] w (.inl (some (Value.int 0))) (((w.set 128 (Sum.inr (12, [Value.ref 129, Value.ref 131, Value.ref 133, Value.ref 135, Value.ref 137, Value.ref 139, Value.ref 141, Value.ref 143, Value.ref 145, Value.ref 147, Value.ref 149, Value.ref 151, Value.ref 153, Value.ref 154, Value.ref 155, Value.ref 156, Value.ref 157, Value.int (-16384), Value.int 16384, Value.int 0, Value.int 0, Value.int 0, Value.ref 158, Value.ref 159, Value.int 0, Value.int 0, Value.int 0, Value.int 0, Value.int 0, Value.int 0, Value.int 0, Value.int 0]))) ++ [Sum.inr (14, [])]).set 128 (Sum.inr (12, [Value.ref 129, Value.ref 131, Value.ref 133, Value.ref 135, Value.ref 137, Value.ref 139, Value.ref 141, Value.ref 143, Value.ref 145, Value.ref 147, Value.ref 149, Value.ref 151, Value.ref 153, Value.ref 154, Value.ref 155, Value.ref 156, Value.ref 157, Value.int (-16384), Value.int 16384, Value.int 0, Value.int 0, Value.int 0, Value.ref 158, Value.ref 159, Value.int 0, Value.int 0, Value.int 0, Value.int 0, Value.int 0, Value.int 0, Value.int 0, Value.int 1]))) := by
  refine xRun.of ?_
  refine i_230_0 (x := 128) rfl ?_
  refine i_230_1 ?_
  refine i_230_2 (fs2 := [Value.ref 129, Value.ref 131, Value.ref 133, Value.ref 135, Value.ref 137, Value.ref 139, Value.ref 141, Value.ref 143, Value.ref 145, Value.ref 147, Value.ref 149, Value.ref 151, Value.ref 153, Value.ref 154, Value.ref 155, Value.ref 156, Value.ref 157, Value.int (-16384), Value.int 16384, Value.int 0, Value.int 0, Value.int 0, Value.ref 158, Value.ref 159, Value.int 0, Value.int 0, Value.int 0, Value.int 0, Value.int 0, Value.int 0, Value.int 0, Value.int 0]) hw0 (Nat.le_of_ble_eq_true rfl) rfl (by decide) ?_
  refine i_230_5 (x := 128) rfl ?_
  refine i_230_6 (x := a0) rfl ?_
  refine i_230_7 (x := a1) rfl ?_
  refine i_230_8 (x := a2) rfl ?_
  refine i_230_9 (x := a3) rfl ?_
  refine i_230_11 (x := a4) rfl ?_
  refine j_230_13 (xgs hw0) (Nat.le_of_ble_eq_true rfl) (p_231_9 e1 e2 e3 e4 e5 e6 e7 e8 hg9 e10 hg11 e12 e13 e14) (xDone.c xgl rfl rfl ?_)
  refine i_230_17 (lv2 := [(6, Value.ref ((w.set 128 (Sum.inr (12, [Value.ref 129, Value.ref 131, Value.ref 133, Value.ref 135, Value.ref 137, Value.ref 139, Value.ref 141, Value.ref 143, Value.ref 145, Value.ref 147, Value.ref 149, Value.ref 151, Value.ref 153, Value.ref 154, Value.ref 155, Value.ref 156, Value.ref 157, Value.int (-16384), Value.int 16384, Value.int 0, Value.int 0, Value.int 0, Value.ref 158, Value.ref 159, Value.int 0, Value.int 0, Value.int 0, Value.int 0, Value.int 0, Value.int 0, Value.int 0, Value.int 0]))).length)), (0, Value.ref 128), (1, Value.int a0), (2, Value.int a1), (3, Value.int a2), (4, Value.int a3), (5, Value.int a4)]) rfl ?_
  refine i_230_19 (x := 128) rfl ?_
  refine i_230_20 ?_
  refine i_230_21 (fs2 := [Value.ref 129, Value.ref 131, Value.ref 133, Value.ref 135, Value.ref 137, Value.ref 139, Value.ref 141, Value.ref 143, Value.ref 145, Value.ref 147, Value.ref 149, Value.ref 151, Value.ref 153, Value.ref 154, Value.ref 155, Value.ref 156, Value.ref 157, Value.int (-16384), Value.int 16384, Value.int 0, Value.int 0, Value.int 0, Value.ref 158, Value.ref 159, Value.int 0, Value.int 0, Value.int 0, Value.int 0, Value.int 0, Value.int 0, Value.int 0, Value.int 1]) (xga (xgs hw0)) (Nat.le_of_ble_eq_true rfl) rfl (by decide) ?_
  refine i_230_24 ?_
  exact i_230_25 ⟨rfl, rfl⟩
theorem o_11_14 {d : Nat} {xs : Nat → Int32} {N6 N10 : Int32} (h0 : ((xs 0) &&& (31 : Int32)).toInt = 11) (c0 : 0 ≤ (xs 1).toInt) (c1 : (xs 1).toInt < 16) (c2 : 0 ≤ (xs 2).toInt) (c3 : (xs 2).toInt < 16) (c4 : 1 ≤ (xs 4).toInt) (c5 : (xs 4).toInt ≤ 16) (eN6 : ((xs 2) + (xs 4)) = N6) (nN6 : N6.toInt = (xs 2).toInt + (xs 4).toInt) (c7 : N6.toInt ≤ 16) (c8 : 0 ≤ (xs 3).toInt) (c9 : (xs 3).toInt < 16) (eN10 : ((xs 3) + (xs 4)) = N10) (nN10 : N10.toInt = (xs 3).toInt + (xs 4).toInt) (c11 : N10.toInt ≤ 16) (c12 : 0 ≤ (xs 5).toInt) (c13 : 4 < (xs 5).toInt) : ∃ w1, xEv (d + 20) 287 23 [(4, Value.int 0), (3, Value.ref 194), (2, Value.ref 128), (1, Value.ref 7), (0, Value.ref 0)] [] (W0 6 xs) (fun o' w' => o' = .inl (some (Value.int 1)) ∧ w' = w1) ∧ w1.length ≤ 220 ∧ xsz w1 ≤ 200000 := by
  refine ⟨(((((W0 6 xs) ++ [Sum.inr (14, [])]).set 128 (Sum.inr (12, [Value.ref 129, Value.ref 131, Value.ref 133, Value.ref 135, Value.ref 137, Value.ref 139, Value.ref 141, Value.ref 143, Value.ref 145, Value.ref 147, Value.ref 149, Value.ref 151, Value.ref 153, Value.ref 154, Value.ref 155, Value.ref 156, Value.ref 157, Value.int (-16384), Value.int 16384, Value.int 0, Value.int 0, Value.int 0, Value.ref 158, Value.ref 159, Value.int 0, Value.int 0, Value.int 0, Value.int 0, Value.int 0, Value.int 0, Value.int 0, Value.int 0]))) ++ [Sum.inr (14, [])]).set 128 (Sum.inr (12, [Value.ref 129, Value.ref 131, Value.ref 133, Value.ref 135, Value.ref 137, Value.ref 139, Value.ref 141, Value.ref 143, Value.ref 145, Value.ref 147, Value.ref 149, Value.ref 151, Value.ref 153, Value.ref 154, Value.ref 155, Value.ref 156, Value.ref 157, Value.int (-16384), Value.int 16384, Value.int 0, Value.int 0, Value.int 0, Value.ref 158, Value.ref 159, Value.int 0, Value.int 0, Value.int 0, Value.int 0, Value.int 0, Value.int 0, Value.int 0, Value.int 1]))), ?_, (show xLs _ 220 200000 from ?_)⟩
  · refine i_287_23 (x := 0) rfl ?_
    refine i_287_25 (x := 0) rfl ?_
    refine i_287_26 (c := 6) W0_0 (by decide) ?_
    refine i_287_27 ?_
    refine i_287_29 (c := 0) (by decide) ?_
    refine i_287_30 (fun h => absurd h (by decide)) (fun _ => ?_)
    refine i_287_33 (x := 0) rfl ?_
    refine i_287_34 (x := 0) rfl ?_
    refine i_287_36 (v := Value.int (xs 0)) W0_0 (by decide) (by decide) rfl ?_
    refine i_287_37 ?_
    refine i_287_39 (c := 11) (show ((xs 0) &&& (31 : Int32)) = 11 from (xge_c (n := 11) (by omega) rfl)) ?_
    refine i_287_40_11 rfl ?_
    refine i_287_1149 (x := 7) rfl ?_
    refine i_287_1150 (x := 0) rfl ?_
    refine i_287_1151 (x := 0) rfl ?_
    refine i_287_1153 ?_
    refine i_287_1154 (c := 1) (by decide) ?_
    refine i_287_1155 (v := Value.int (xs 1)) W0_0 (by decide) (by decide) rfl ?_
    refine i_287_1156 (x := 0) rfl ?_
    refine i_287_1157 (x := 0) rfl ?_
    refine i_287_1159 ?_
    refine i_287_1160 (c := 2) (by decide) ?_
    refine i_287_1161 (v := Value.int (xs 2)) W0_0 (by decide) (by decide) rfl ?_
    refine i_287_1162 (x := 0) rfl ?_
    refine i_287_1163 (x := 0) rfl ?_
    refine i_287_1165 ?_
    refine i_287_1166 (c := 3) (by decide) ?_
    refine i_287_1167 (v := Value.int (xs 3)) W0_0 (by decide) (by decide) rfl ?_
    refine i_287_1168 (x := 0) rfl ?_
    refine i_287_1169 (x := 0) rfl ?_
    refine i_287_1171 ?_
    refine i_287_1172 (c := 4) (by decide) ?_
    refine i_287_1173 (v := Value.int (xs 4)) W0_0 (by decide) (by decide) rfl ?_
    refine i_287_1174 (x := 0) rfl ?_
    refine i_287_1175 (x := 0) rfl ?_
    refine i_287_1177 ?_
    refine i_287_1178 (c := 5) (by decide) ?_
    refine i_287_1179 (v := Value.int (xs 5)) W0_0 (by decide) (by decide) rfl ?_
    refine i_287_1180 (x := 194) rfl ?_
    refine i_287_1181 (Nat.le_of_ble_eq_true rfl) (p_114_8 W0_7 (by omega) (by omega) (by omega) (by omega) (by omega) (by omega) (show ((xs 2) + (xs 4)) = N6 from eN6) (by omega) (by omega) (by omega) (show ((xs 3) + (xs 4)) = N10 from eN10) (by omega) (by omega) (by omega)) ?_
    refine i_287_1184 (lv2 := [(5, Value.int 1), (4, Value.int 0), (3, Value.ref 194), (2, Value.ref 128), (1, Value.ref 7), (0, Value.ref 0)]) rfl ?_
    refine i_287_1186 (x := 128) rfl ?_
    refine i_287_1187 (x := 0) rfl ?_
    refine i_287_1188 (x := 0) rfl ?_
    refine i_287_1190 ?_
    refine i_287_1191 (c := 1) (by decide) ?_
    refine i_287_1192 (v := Value.int (xs 1)) (xga W0_0) (by decide) (by decide) rfl ?_
    refine i_287_1193 (x := 0) rfl ?_
    refine i_287_1194 (x := 0) rfl ?_
    refine i_287_1196 ?_
    refine i_287_1197 (c := 2) (by decide) ?_
    refine i_287_1198 (v := Value.int (xs 2)) (xga W0_0) (by decide) (by decide) rfl ?_
    refine i_287_1199 (x := 0) rfl ?_
    refine i_287_1200 (x := 0) rfl ?_
    refine i_287_1202 ?_
    refine i_287_1203 (c := 3) (by decide) ?_
    refine i_287_1204 (v := Value.int (xs 3)) (xga W0_0) (by decide) (by decide) rfl ?_
    refine i_287_1205 (x := 0) rfl ?_
    refine i_287_1206 (x := 0) rfl ?_
    refine i_287_1208 ?_
    refine i_287_1209 (c := 4) (by decide) ?_
    refine i_287_1210 (v := Value.int (xs 4)) (xga W0_0) (by decide) (by decide) rfl ?_
    refine i_287_1211 (x := 0) rfl ?_
    refine i_287_1212 (x := 0) rfl ?_
    refine i_287_1214 ?_
    refine i_287_1215 (c := 5) (by decide) ?_
    refine i_287_1216 (v := Value.int (xs 5)) (xga W0_0) (by decide) (by decide) rfl ?_
    refine i_287_1217 (xga W0_128) (Nat.le_of_ble_eq_true rfl) (p_230_9 (xga W0_128) (by omega) (by omega) (by omega) (by omega) (by omega) (by omega) (by omega) (by omega) (show ((xs 2) + (xs 4)) = N6 from eN6) (by omega) (show ((xs 3) + (xs 4)) = N10 from eN10) (by omega) (by omega) (by omega)) ?_
    refine i_287_1220 (lv2 := [(6, Value.int 0), (5, Value.int 1), (4, Value.int 0), (3, Value.ref 194), (2, Value.ref 128), (1, Value.ref 7), (0, Value.ref 0)]) rfl ?_
    refine i_287_1222 (x := 128) rfl ?_
    refine i_287_1223 (xgs (xga (xgs (xga W0_128)))) (Nat.le_of_ble_eq_true rfl) (p_165_0 (xgs (xga (xgs (xga W0_128))))) ?_
    refine i_287_1226 (x := 1) rfl ?_
    refine i_287_1228 (fun _ => ?_) (fun h => absurd h (by decide))
    refine i_287_1233 (x := 1) rfl ?_
    refine i_287_1235 (fun _ => ?_) (fun h => absurd h (by decide))
    refine i_287_1250 ?_
    refine i_287_2154 (x := 0) (c := 6) (lv2 := [(4, Value.int 6), (6, Value.int 0), (5, Value.int 1), (3, Value.ref 194), (2, Value.ref 128), (1, Value.ref 7), (0, Value.ref 0)]) rfl (by decide) rfl ?_
    refine i_287_2157 ?_
    refine i_287_23 (x := 6) rfl ?_
    refine i_287_25 (x := 0) rfl ?_
    refine i_287_26 (c := 6) (xgn (by decide) (xga (xgn (by decide) (xga W0_0)))) (by decide) ?_
    refine i_287_27 ?_
    refine i_287_29 (c := 0) (by decide) ?_
    refine i_287_30 (fun _ => ?_) (fun h => absurd h (by decide))
    refine i_287_2160 ?_
    exact i_287_2161 rfl ⟨rfl, rfl⟩
  · refine xLs.set ?_ (xga (xgs (xga W0_128))) xcs_o
    refine xLs.app (n := 219) (z := 199994) (m := 6) ?_ rfl
    refine xLs.set ?_ (xga W0_128) xcs_o
    refine xLs.app (n := 218) (z := 199988) (m := 6) ?_ rfl
    exact ⟨Nat.le_trans (Nat.le_of_eq W0_len) (by decide), Nat.le_trans (Nat.le_of_eq W0_sz) (by decide)⟩
theorem p_96_1 {d : Nat} {w : xW} (hw0 : w[30]? = some (Sum.inr (2, [Value.int 64, Value.int 0, Value.int 0, Value.int 0, Value.ref 31]))) (hw1 : w[19]? = some (Sum.inr (5, [Value.ref 20, Value.ref 22, Value.ref 24, Value.ref 26, Value.int 0, Value.int 0, Value.int 0, Value.int 0, Value.int 0, Value.int 0, Value.int 0, Value.int 0]))) : xRun d 96 [Value.ref 19, Value.ref 30, Value.ref 30] w (.inl none) (w.set 19 (Sum.inr (5, [Value.ref 20, Value.ref 22, Value.ref 24, Value.ref 26, Value.int 0, Value.int 1, Value.int 0, Value.int 0, Value.int 0, Value.int 0, Value.int 0, Value.int 0]))) := by
  refine xRun.of ?_
  refine i_96_0 (x := 30) rfl ?_
  refine i_96_1 (v := Value.int 0) hw0 rfl ?_
  refine i_96_4 (x := 30) rfl ?_
  refine i_96_5 (v := Value.int 0) hw0 rfl ?_
  refine i_96_8 (fun _ => ?_) (fun h => absurd h (by decide))
  refine i_96_15 ?_
  refine i_96_16 (lv2 := [(3, Value.int 0), (0, Value.ref 19), (1, Value.ref 30), (2, Value.ref 30)]) rfl ?_
  refine i_96_17 (x := 30) rfl ?_
  refine i_96_18 (v := Value.int 0) hw0 rfl ?_
  refine i_96_21 ?_
  refine i_96_22 (fun _ => ?_) (fun h => absurd h (by decide))
  refine i_96_79 (x := 30) rfl ?_
  refine i_96_80 (v := Value.int 0) hw0 rfl ?_
  refine i_96_83 (fun _ => ?_) (fun h => absurd h (by decide))
  refine i_96_93 (x := 19) rfl ?_
  refine i_96_94 ?_
  refine i_96_95 (fs2 := [Value.ref 20, Value.ref 22, Value.ref 24, Value.ref 26, Value.int 0, Value.int 1, Value.int 0, Value.int 0, Value.int 0, Value.int 0, Value.int 0, Value.int 0]) hw1 rfl (Nat.le_of_ble_eq_true rfl) rfl (by decide) ?_
  refine i_96_98 ?_
  exact i_96_156 ⟨rfl, rfl⟩
theorem p_96_2 {d : Nat} {w : xW} {h0 : Nat} {h1 : Nat} {h2 : Nat} {h3 : Nat} (hw0 : w[h0]? = some (Sum.inr (2, [Value.int 64, Value.int 0, Value.int 0, Value.int 0, Value.ref h2]))) (hw1 : w[h1]? = some (Sum.inr (2, [Value.int 64, Value.int 0, Value.int 0, Value.int 0, Value.ref h3]))) (hw2 : w[19]? = some (Sum.inr (5, [Value.ref 20, Value.ref 22, Value.ref 24, Value.ref 26, Value.int 0, Value.int 1, Value.int 0, Value.int 0, Value.int 0, Value.int 0, Value.int 0, Value.int 0]))) : xRun d 96 [Value.ref 19, Value.ref h0, Value.ref h1] w (.inl none) (w.set 19 (Sum.inr (5, [Value.ref 20, Value.ref 22, Value.ref 24, Value.ref 26, Value.int 0, Value.int 1, Value.int 0, Value.int 0, Value.int 0, Value.int 0, Value.int 0, Value.int 0]))) := by
  refine xRun.of ?_
  refine i_96_0 (x := h0) rfl ?_
  refine i_96_1 (v := Value.int 0) hw0 rfl ?_
  refine i_96_4 (x := h1) rfl ?_
  refine i_96_5 (v := Value.int 0) hw1 rfl ?_
  refine i_96_8 (fun _ => ?_) (fun h => absurd h (by decide))
  refine i_96_15 ?_
  refine i_96_16 (lv2 := [(3, Value.int 0), (0, Value.ref 19), (1, Value.ref h0), (2, Value.ref h1)]) rfl ?_
  refine i_96_17 (x := h0) rfl ?_
  refine i_96_18 (v := Value.int 0) hw0 rfl ?_
  refine i_96_21 ?_
  refine i_96_22 (fun _ => ?_) (fun h => absurd h (by decide))
  refine i_96_79 (x := h0) rfl ?_
  refine i_96_80 (v := Value.int 0) hw0 rfl ?_
  refine i_96_83 (fun _ => ?_) (fun h => absurd h (by decide))
  refine i_96_93 (x := 19) rfl ?_
  refine i_96_94 ?_
  refine i_96_95 (fs2 := [Value.ref 20, Value.ref 22, Value.ref 24, Value.ref 26, Value.int 0, Value.int 1, Value.int 0, Value.int 0, Value.int 0, Value.int 0, Value.int 0, Value.int 0]) hw2 rfl (Nat.le_of_ble_eq_true rfl) rfl (by decide) ?_
  refine i_96_98 ?_
  exact i_96_156 ⟨rfl, rfl⟩
theorem p_96_3 {d : Nat} {w : xW} (hw0 : w[75]? = some (Sum.inr (2, [Value.int 64, Value.int 0, Value.int 0, Value.int 0, Value.ref 76]))) (hw1 : w[19]? = some (Sum.inr (5, [Value.ref 20, Value.ref 22, Value.ref 24, Value.ref 26, Value.int 0, Value.int 1, Value.int 0, Value.int 0, Value.int 0, Value.int 0, Value.int 0, Value.int 0]))) : xRun d 96 [Value.ref 19, Value.ref 75, Value.ref 75] w (.inl none) (w.set 19 (Sum.inr (5, [Value.ref 20, Value.ref 22, Value.ref 24, Value.ref 26, Value.int 0, Value.int 1, Value.int 0, Value.int 0, Value.int 0, Value.int 0, Value.int 0, Value.int 0]))) := by
  refine xRun.of ?_
  refine i_96_0 (x := 75) rfl ?_
  refine i_96_1 (v := Value.int 0) hw0 rfl ?_
  refine i_96_4 (x := 75) rfl ?_
  refine i_96_5 (v := Value.int 0) hw0 rfl ?_
  refine i_96_8 (fun _ => ?_) (fun h => absurd h (by decide))
  refine i_96_15 ?_
  refine i_96_16 (lv2 := [(3, Value.int 0), (0, Value.ref 19), (1, Value.ref 75), (2, Value.ref 75)]) rfl ?_
  refine i_96_17 (x := 75) rfl ?_
  refine i_96_18 (v := Value.int 0) hw0 rfl ?_
  refine i_96_21 ?_
  refine i_96_22 (fun _ => ?_) (fun h => absurd h (by decide))
  refine i_96_79 (x := 75) rfl ?_
  refine i_96_80 (v := Value.int 0) hw0 rfl ?_
  refine i_96_83 (fun _ => ?_) (fun h => absurd h (by decide))
  refine i_96_93 (x := 19) rfl ?_
  refine i_96_94 ?_
  refine i_96_95 (fs2 := [Value.ref 20, Value.ref 22, Value.ref 24, Value.ref 26, Value.int 0, Value.int 1, Value.int 0, Value.int 0, Value.int 0, Value.int 0, Value.int 0, Value.int 0]) hw1 rfl (Nat.le_of_ble_eq_true rfl) rfl (by decide) ?_
  refine i_96_98 ?_
  exact i_96_156 ⟨rfl, rfl⟩
theorem p_115_9 {d : Nat} {w : xW} {a0 : Int32} {a1 : Int32} {a2 : Int32} {a3 : Int32} {a4 : Int32} {a5 : Int32} {a6 : Int32} {g0 : Nat → Value} {a7 : Int32} {h0 : Nat} {a8 : Int32} {h1 : Nat} {h2 : Nat} {h3 : Nat} {a9 : Int32} {h4 : Nat} {a10 : Int32} {h5 : Nat} {h6 : Nat} {h7 : Nat} {a11 : Int32} {h8 : Nat} {a12 : Int32} {h9 : Nat} {h10 : Nat} {h11 : Nat} {a13 : Int32} {h12 : Nat} {a14 : Int32} {h13 : Nat} {h14 : Nat} {h15 : Nat} {a15 : Int32} {h16 : Nat} {a16 : Int32} {h17 : Nat} {h18 : Nat} {h19 : Nat} {a17 : Int32} {h20 : Nat} {a18 : Int32} {h21 : Nat} {h22 : Nat} {h23 : Nat} {a19 : Int32} {h24 : Nat} {a20 : Int32} {h25 : Nat} {h26 : Nat} {h27 : Nat} {a21 : Int32} {h28 : Nat} {a22 : Int32} {h29 : Nat} {h30 : Nat} {h31 : Nat} {a23 : Int32} {h32 : Nat} {a24 : Int32} {h33 : Nat} {h34 : Nat} {h35 : Nat} {a25 : Int32} {h36 : Nat} {a26 : Int32} {h37 : Nat} {h38 : Nat} {h39 : Nat} {a27 : Int32} {h40 : Nat} {a28 : Int32} {h41 : Nat} {h42 : Nat} {h43 : Nat} {a29 : Int32} {h44 : Nat} {a30 : Int32} {h45 : Nat} {h46 : Nat} {h47 : Nat} {a31 : Int32} {h48 : Nat} {a32 : Int32} {h49 : Nat} {h50 : Nat} {h51 : Nat} {a33 : Int32} {h52 : Nat} {a34 : Int32} {h53 : Nat} {h54 : Nat} {h55 : Nat} {h56 : Nat} {h57 : Nat} (e0 : 0 ≤ a0.toInt) (e1 : a0.toInt < 16) (e2 : 0 ≤ a1.toInt) (e3 : a1.toInt < 16) (e4 : 1 ≤ a3.toInt) (e5 : a3.toInt ≤ 16) (hg6 : (a1 + a3) = a5) (e7 : a5.toInt ≤ 16) (e8 : 0 ≤ a2.toInt) (e9 : a2.toInt < 16) (hg10 : (a2 + a3) = a6) (e11 : a6.toInt ≤ 16) (e12 : 0 ≤ a4.toInt) (e13 : a4.toInt ≤ 4) (hw14 : w[7]? = some (Sum.inr (0, [Value.ref 8, Value.ref 78, Value.ref 9, Value.ref 10, Value.ref 13, Value.ref 16, Value.ref 19, Value.ref 93, Value.ref 108, Value.ref 113, Value.ref 29, Value.int 0]))) (hw15 : w[19]? = some (Sum.inr (5, [Value.ref 20, Value.ref 22, Value.ref 24, Value.ref 26, Value.int 0, Value.int 0, Value.int 0, Value.int 0, Value.int 0, Value.int 0, Value.int 0, Value.int 0]))) (hw16 : w[20]? = some (Sum.inr (3, [Value.ref 21, Value.int 0]))) (hw17 : w[22]? = some (Sum.inr (3, [Value.ref 23, Value.int 0]))) (e18 : 0 < a3.toInt) (hg19 : (a1 + (0 : Int32)) = 0) (hw20 : w[8]? = some (Sum.inl (4, 16, g0))) (hg21 : g0 (0 : Int32).toInt.toNat = Value.ref 30) (hg22 : (a2 + (0 : Int32)) = 0) (hw23 : w[30]? = some (Sum.inr (2, [Value.int 64, Value.int 0, Value.int 0, Value.int 0, Value.ref 31]))) (e24 : 1 < a3.toInt) (hg25 : (a1 + (1 : Int32)) = a7) (e26 : 0 ≤ a7.toInt) (e27 : a7.toInt < 16) (hg28 : g0 a7.toInt.toNat = Value.ref h0) (hg29 : (a2 + (1 : Int32)) = a8) (e30 : 0 ≤ a8.toInt) (e31 : a8.toInt < 16) (hg32 : g0 a8.toInt.toNat = Value.ref h1) (e33 : 19 ≠ h0) (e34 : 22 ≠ h0) (e35 : 20 ≠ h0) (hw36 : w[h0]? = some (Sum.inr (2, [Value.int 64, Value.int 0, Value.int 0, Value.int 0, Value.ref h2]))) (e37 : 19 ≠ h1) (e38 : 22 ≠ h1) (e39 : 20 ≠ h1) (hw40 : w[h1]? = some (Sum.inr (2, [Value.int 64, Value.int 0, Value.int 0, Value.int 0, Value.ref h3]))) (e41 : 2 < a3.toInt) (hg42 : (a1 + (2 : Int32)) = a9) (e43 : 0 ≤ a9.toInt) (e44 : a9.toInt < 16) (hg45 : g0 a9.toInt.toNat = Value.ref h4) (hg46 : (a2 + (2 : Int32)) = a10) (e47 : 0 ≤ a10.toInt) (e48 : a10.toInt < 16) (hg49 : g0 a10.toInt.toNat = Value.ref h5) (e50 : 19 ≠ h4) (e51 : 22 ≠ h4) (e52 : 20 ≠ h4) (hw53 : w[h4]? = some (Sum.inr (2, [Value.int 64, Value.int 0, Value.int 0, Value.int 0, Value.ref h6]))) (e54 : 19 ≠ h5) (e55 : 22 ≠ h5) (e56 : 20 ≠ h5) (hw57 : w[h5]? = some (Sum.inr (2, [Value.int 64, Value.int 0, Value.int 0, Value.int 0, Value.ref h7]))) (e58 : 3 < a3.toInt) (hg59 : (a1 + (3 : Int32)) = a11) (e60 : 0 ≤ a11.toInt) (e61 : a11.toInt < 16) (hg62 : g0 a11.toInt.toNat = Value.ref h8) (hg63 : (a2 + (3 : Int32)) = a12) (e64 : 0 ≤ a12.toInt) (e65 : a12.toInt < 16) (hg66 : g0 a12.toInt.toNat = Value.ref h9) (e67 : 19 ≠ h8) (e68 : 22 ≠ h8) (e69 : 20 ≠ h8) (hw70 : w[h8]? = some (Sum.inr (2, [Value.int 64, Value.int 0, Value.int 0, Value.int 0, Value.ref h10]))) (e71 : 19 ≠ h9) (e72 : 22 ≠ h9) (e73 : 20 ≠ h9) (hw74 : w[h9]? = some (Sum.inr (2, [Value.int 64, Value.int 0, Value.int 0, Value.int 0, Value.ref h11]))) (e75 : 4 < a3.toInt) (hg76 : (a1 + (4 : Int32)) = a13) (e77 : 0 ≤ a13.toInt) (e78 : a13.toInt < 16) (hg79 : g0 a13.toInt.toNat = Value.ref h12) (hg80 : (a2 + (4 : Int32)) = a14) (e81 : 0 ≤ a14.toInt) (e82 : a14.toInt < 16) (hg83 : g0 a14.toInt.toNat = Value.ref h13) (e84 : 19 ≠ h12) (e85 : 22 ≠ h12) (e86 : 20 ≠ h12) (hw87 : w[h12]? = some (Sum.inr (2, [Value.int 64, Value.int 0, Value.int 0, Value.int 0, Value.ref h14]))) (e88 : 19 ≠ h13) (e89 : 22 ≠ h13) (e90 : 20 ≠ h13) (hw91 : w[h13]? = some (Sum.inr (2, [Value.int 64, Value.int 0, Value.int 0, Value.int 0, Value.ref h15]))) (e92 : 5 < a3.toInt) (hg93 : (a1 + (5 : Int32)) = a15) (e94 : 0 ≤ a15.toInt) (e95 : a15.toInt < 16) (hg96 : g0 a15.toInt.toNat = Value.ref h16) (hg97 : (a2 + (5 : Int32)) = a16) (e98 : 0 ≤ a16.toInt) (e99 : a16.toInt < 16) (hg100 : g0 a16.toInt.toNat = Value.ref h17) (e101 : 19 ≠ h16) (e102 : 22 ≠ h16) (e103 : 20 ≠ h16) (hw104 : w[h16]? = some (Sum.inr (2, [Value.int 64, Value.int 0, Value.int 0, Value.int 0, Value.ref h18]))) (e105 : 19 ≠ h17) (e106 : 22 ≠ h17) (e107 : 20 ≠ h17) (hw108 : w[h17]? = some (Sum.inr (2, [Value.int 64, Value.int 0, Value.int 0, Value.int 0, Value.ref h19]))) (e109 : 6 < a3.toInt) (hg110 : (a1 + (6 : Int32)) = a17) (e111 : 0 ≤ a17.toInt) (e112 : a17.toInt < 16) (hg113 : g0 a17.toInt.toNat = Value.ref h20) (hg114 : (a2 + (6 : Int32)) = a18) (e115 : 0 ≤ a18.toInt) (e116 : a18.toInt < 16) (hg117 : g0 a18.toInt.toNat = Value.ref h21) (e118 : 19 ≠ h20) (e119 : 22 ≠ h20) (e120 : 20 ≠ h20) (hw121 : w[h20]? = some (Sum.inr (2, [Value.int 64, Value.int 0, Value.int 0, Value.int 0, Value.ref h22]))) (e122 : 19 ≠ h21) (e123 : 22 ≠ h21) (e124 : 20 ≠ h21) (hw125 : w[h21]? = some (Sum.inr (2, [Value.int 64, Value.int 0, Value.int 0, Value.int 0, Value.ref h23]))) (e126 : 7 < a3.toInt) (hg127 : (a1 + (7 : Int32)) = a19) (e128 : 0 ≤ a19.toInt) (e129 : a19.toInt < 16) (hg130 : g0 a19.toInt.toNat = Value.ref h24) (hg131 : (a2 + (7 : Int32)) = a20) (e132 : 0 ≤ a20.toInt) (e133 : a20.toInt < 16) (hg134 : g0 a20.toInt.toNat = Value.ref h25) (e135 : 19 ≠ h24) (e136 : 22 ≠ h24) (e137 : 20 ≠ h24) (hw138 : w[h24]? = some (Sum.inr (2, [Value.int 64, Value.int 0, Value.int 0, Value.int 0, Value.ref h26]))) (e139 : 19 ≠ h25) (e140 : 22 ≠ h25) (e141 : 20 ≠ h25) (hw142 : w[h25]? = some (Sum.inr (2, [Value.int 64, Value.int 0, Value.int 0, Value.int 0, Value.ref h27]))) (e143 : 8 < a3.toInt) (hg144 : (a1 + (8 : Int32)) = a21) (e145 : 0 ≤ a21.toInt) (e146 : a21.toInt < 16) (hg147 : g0 a21.toInt.toNat = Value.ref h28) (hg148 : (a2 + (8 : Int32)) = a22) (e149 : 0 ≤ a22.toInt) (e150 : a22.toInt < 16) (hg151 : g0 a22.toInt.toNat = Value.ref h29) (e152 : 19 ≠ h28) (e153 : 22 ≠ h28) (e154 : 20 ≠ h28) (hw155 : w[h28]? = some (Sum.inr (2, [Value.int 64, Value.int 0, Value.int 0, Value.int 0, Value.ref h30]))) (e156 : 19 ≠ h29) (e157 : 22 ≠ h29) (e158 : 20 ≠ h29) (hw159 : w[h29]? = some (Sum.inr (2, [Value.int 64, Value.int 0, Value.int 0, Value.int 0, Value.ref h31]))) (e160 : 9 < a3.toInt) (hg161 : (a1 + (9 : Int32)) = a23) (e162 : 0 ≤ a23.toInt) (e163 : a23.toInt < 16) (hg164 : g0 a23.toInt.toNat = Value.ref h32) (hg165 : (a2 + (9 : Int32)) = a24) (e166 : 0 ≤ a24.toInt) (e167 : a24.toInt < 16) (hg168 : g0 a24.toInt.toNat = Value.ref h33) (e169 : 19 ≠ h32) (e170 : 22 ≠ h32) (e171 : 20 ≠ h32) (hw172 : w[h32]? = some (Sum.inr (2, [Value.int 64, Value.int 0, Value.int 0, Value.int 0, Value.ref h34]))) (e173 : 19 ≠ h33) (e174 : 22 ≠ h33) (e175 : 20 ≠ h33) (hw176 : w[h33]? = some (Sum.inr (2, [Value.int 64, Value.int 0, Value.int 0, Value.int 0, Value.ref h35]))) (e177 : 10 < a3.toInt) (hg178 : (a1 + (10 : Int32)) = a25) (e179 : 0 ≤ a25.toInt) (e180 : a25.toInt < 16) (hg181 : g0 a25.toInt.toNat = Value.ref h36) (hg182 : (a2 + (10 : Int32)) = a26) (e183 : 0 ≤ a26.toInt) (e184 : a26.toInt < 16) (hg185 : g0 a26.toInt.toNat = Value.ref h37) (e186 : 19 ≠ h36) (e187 : 22 ≠ h36) (e188 : 20 ≠ h36) (hw189 : w[h36]? = some (Sum.inr (2, [Value.int 64, Value.int 0, Value.int 0, Value.int 0, Value.ref h38]))) (e190 : 19 ≠ h37) (e191 : 22 ≠ h37) (e192 : 20 ≠ h37) (hw193 : w[h37]? = some (Sum.inr (2, [Value.int 64, Value.int 0, Value.int 0, Value.int 0, Value.ref h39]))) (e194 : 11 < a3.toInt) (hg195 : (a1 + (11 : Int32)) = a27) (e196 : 0 ≤ a27.toInt) (e197 : a27.toInt < 16) (hg198 : g0 a27.toInt.toNat = Value.ref h40) (hg199 : (a2 + (11 : Int32)) = a28) (e200 : 0 ≤ a28.toInt) (e201 : a28.toInt < 16) (hg202 : g0 a28.toInt.toNat = Value.ref h41) (e203 : 19 ≠ h40) (e204 : 22 ≠ h40) (e205 : 20 ≠ h40) (hw206 : w[h40]? = some (Sum.inr (2, [Value.int 64, Value.int 0, Value.int 0, Value.int 0, Value.ref h42]))) (e207 : 19 ≠ h41) (e208 : 22 ≠ h41) (e209 : 20 ≠ h41) (hw210 : w[h41]? = some (Sum.inr (2, [Value.int 64, Value.int 0, Value.int 0, Value.int 0, Value.ref h43]))) (e211 : 12 < a3.toInt) (hg212 : (a1 + (12 : Int32)) = a29) (e213 : 0 ≤ a29.toInt) (e214 : a29.toInt < 16) (hg215 : g0 a29.toInt.toNat = Value.ref h44) (hg216 : (a2 + (12 : Int32)) = a30) (e217 : 0 ≤ a30.toInt) (e218 : a30.toInt < 16) (hg219 : g0 a30.toInt.toNat = Value.ref h45) (e220 : 19 ≠ h44) (e221 : 22 ≠ h44) (e222 : 20 ≠ h44) (hw223 : w[h44]? = some (Sum.inr (2, [Value.int 64, Value.int 0, Value.int 0, Value.int 0, Value.ref h46]))) (e224 : 19 ≠ h45) (e225 : 22 ≠ h45) (e226 : 20 ≠ h45) (hw227 : w[h45]? = some (Sum.inr (2, [Value.int 64, Value.int 0, Value.int 0, Value.int 0, Value.ref h47]))) (e228 : 13 < a3.toInt) (hg229 : (a1 + (13 : Int32)) = a31) (e230 : 0 ≤ a31.toInt) (e231 : a31.toInt < 16) (hg232 : g0 a31.toInt.toNat = Value.ref h48) (hg233 : (a2 + (13 : Int32)) = a32) (e234 : 0 ≤ a32.toInt) (e235 : a32.toInt < 16) (hg236 : g0 a32.toInt.toNat = Value.ref h49) (e237 : 19 ≠ h48) (e238 : 22 ≠ h48) (e239 : 20 ≠ h48) (hw240 : w[h48]? = some (Sum.inr (2, [Value.int 64, Value.int 0, Value.int 0, Value.int 0, Value.ref h50]))) (e241 : 19 ≠ h49) (e242 : 22 ≠ h49) (e243 : 20 ≠ h49) (hw244 : w[h49]? = some (Sum.inr (2, [Value.int 64, Value.int 0, Value.int 0, Value.int 0, Value.ref h51]))) (e245 : 14 < a3.toInt) (hg246 : (a1 + (14 : Int32)) = a33) (e247 : 0 ≤ a33.toInt) (e248 : a33.toInt < 16) (hg249 : g0 a33.toInt.toNat = Value.ref h52) (hg250 : (a2 + (14 : Int32)) = a34) (e251 : 0 ≤ a34.toInt) (e252 : a34.toInt < 16) (hg253 : g0 a34.toInt.toNat = Value.ref h53) (e254 : 19 ≠ h52) (e255 : 22 ≠ h52) (e256 : 20 ≠ h52) (hw257 : w[h52]? = some (Sum.inr (2, [Value.int 64, Value.int 0, Value.int 0, Value.int 0, Value.ref h54]))) (e258 : 19 ≠ h53) (e259 : 22 ≠ h53) (e260 : 20 ≠ h53) (hw261 : w[h53]? = some (Sum.inr (2, [Value.int 64, Value.int 0, Value.int 0, Value.int 0, Value.ref h55]))) (e262 : 15 < a3.toInt) (hg263 : (a1 + (15 : Int32)) = 15) (hg264 : g0 (15 : Int32).toInt.toNat = Value.ref 75) (hg265 : (a2 + (15 : Int32)) = 15) (hw266 : w[75]? = some (Sum.inr (2, [Value.int 64, Value.int 0, Value.int 0, Value.int 0, Value.ref 76]))) (hg267 : g0 a0.toInt.toNat = Value.ref h56) (e268 : 19 ≠ h56) (e269 : 22 ≠ h56) (e270 : 20 ≠ h56) (hw271 : w[h56]? = some (Sum.inr (2, [Value.int 64, Value.int 0, Value.int 0, Value.int 0, Value.ref h57]))) (e272 : 7 ≤ h56) : xRun (d + 3) 115 [Value.ref 7, Value.int a0, Value.int a1, Value.int a2, Value.int a3, Value.int a4] w (.inl (some (Value.int 0))) ((((((((((((((((((((w.set 20 (Sum.inr (3, [Value.ref 21, Value.int 0]))).set 22 (Sum.inr (3, [Value.ref 23, Value.int 0]))).set 19 (Sum.inr (5, [Value.ref 20, Value.ref 22, Value.ref 24, Value.ref 26, Value.int 0, Value.int 0, Value.int 0, Value.int 0, Value.int 0, Value.int 0, Value.int 0, Value.int 0]))).set 19 (Sum.inr (5, [Value.ref 20, Value.ref 22, Value.ref 24, Value.ref 26, Value.int 0, Value.int 1, Value.int 0, Value.int 0, Value.int 0, Value.int 0, Value.int 0, Value.int 0]))).set 19 (Sum.inr (5, [Value.ref 20, Value.ref 22, Value.ref 24, Value.ref 26, Value.int 0, Value.int 1, Value.int 0, Value.int 0, Value.int 0, Value.int 0, Value.int 0, Value.int 0]))).set 19 (Sum.inr (5, [Value.ref 20, Value.ref 22, Value.ref 24, Value.ref 26, Value.int 0, Value.int 1, Value.int 0, Value.int 0, Value.int 0, Value.int 0, Value.int 0, Value.int 0]))).set 19 (Sum.inr (5, [Value.ref 20, Value.ref 22, Value.ref 24, Value.ref 26, Value.int 0, Value.int 1, Value.int 0, Value.int 0, Value.int 0, Value.int 0, Value.int 0, Value.int 0]))).set 19 (Sum.inr (5, [Value.ref 20, Value.ref 22, Value.ref 24, Value.ref 26, Value.int 0, Value.int 1, Value.int 0, Value.int 0, Value.int 0, Value.int 0, Value.int 0, Value.int 0]))).set 19 (Sum.inr (5, [Value.ref 20, Value.ref 22, Value.ref 24, Value.ref 26, Value.int 0, Value.int 1, Value.int 0, Value.int 0, Value.int 0, Value.int 0, Value.int 0, Value.int 0]))).set 19 (Sum.inr (5, [Value.ref 20, Value.ref 22, Value.ref 24, Value.ref 26, Value.int 0, Value.int 1, Value.int 0, Value.int 0, Value.int 0, Value.int 0, Value.int 0, Value.int 0]))).set 19 (Sum.inr (5, [Value.ref 20, Value.ref 22, Value.ref 24, Value.ref 26, Value.int 0, Value.int 1, Value.int 0, Value.int 0, Value.int 0, Value.int 0, Value.int 0, Value.int 0]))).set 19 (Sum.inr (5, [Value.ref 20, Value.ref 22, Value.ref 24, Value.ref 26, Value.int 0, Value.int 1, Value.int 0, Value.int 0, Value.int 0, Value.int 0, Value.int 0, Value.int 0]))).set 19 (Sum.inr (5, [Value.ref 20, Value.ref 22, Value.ref 24, Value.ref 26, Value.int 0, Value.int 1, Value.int 0, Value.int 0, Value.int 0, Value.int 0, Value.int 0, Value.int 0]))).set 19 (Sum.inr (5, [Value.ref 20, Value.ref 22, Value.ref 24, Value.ref 26, Value.int 0, Value.int 1, Value.int 0, Value.int 0, Value.int 0, Value.int 0, Value.int 0, Value.int 0]))).set 19 (Sum.inr (5, [Value.ref 20, Value.ref 22, Value.ref 24, Value.ref 26, Value.int 0, Value.int 1, Value.int 0, Value.int 0, Value.int 0, Value.int 0, Value.int 0, Value.int 0]))).set 19 (Sum.inr (5, [Value.ref 20, Value.ref 22, Value.ref 24, Value.ref 26, Value.int 0, Value.int 1, Value.int 0, Value.int 0, Value.int 0, Value.int 0, Value.int 0, Value.int 0]))).set 19 (Sum.inr (5, [Value.ref 20, Value.ref 22, Value.ref 24, Value.ref 26, Value.int 0, Value.int 1, Value.int 0, Value.int 0, Value.int 0, Value.int 0, Value.int 0, Value.int 0]))).set 19 (Sum.inr (5, [Value.ref 20, Value.ref 22, Value.ref 24, Value.ref 26, Value.int 0, Value.int 1, Value.int 0, Value.int 0, Value.int 0, Value.int 0, Value.int 0, Value.int 0]))).set 19 (Sum.inr (5, [Value.ref 20, Value.ref 22, Value.ref 24, Value.ref 26, Value.int 0, Value.int 1, Value.int 0, Value.int 0, Value.int 0, Value.int 0, Value.int 0, Value.int 0]))).set h56 (Sum.inr (2, [Value.int 64, Value.int 0, Value.int 0, Value.int 0, Value.ref h57]))) := by
  refine xRun.of ?_
  refine i_115_0 (x := a0) rfl ?_
  refine i_115_1 (Nat.le_of_ble_eq_true rfl) (p_15_1 e0 e1) ?_
  refine i_115_4 (fun h => absurd h (by decide)) (fun _ => ?_)
  refine i_115_7 (x := a1) rfl ?_
  refine i_115_8 (x := a3) rfl ?_
  refine i_115_10 (Nat.le_of_ble_eq_true rfl) (p_113_4 e2 e3 e4 e5 hg6 e7) ?_
  refine i_115_13 (fun h => absurd h (by decide)) (fun _ => ?_)
  refine i_115_16 (x := a2) rfl ?_
  refine i_115_17 (x := a3) rfl ?_
  refine i_115_19 (Nat.le_of_ble_eq_true rfl) (p_113_4 e8 e9 e4 e5 hg10 e11) ?_
  refine i_115_22 (fun h => absurd h (by decide)) (fun _ => ?_)
  refine i_115_25 (x := a4) rfl ?_
  refine i_115_27 (Nat.le_of_ble_eq_true rfl) (p_22_2 e12 e13) ?_
  refine i_115_30 (fun _ => ?_) (fun h => absurd h (by decide))
  refine i_115_41 (x := 7) rfl ?_
  refine i_115_42 (v := Value.ref 19) hw14 rfl ?_
  refine i_115_45 hw15 (Nat.le_of_ble_eq_true rfl) (p_59_0 hw15 hw16 hw17) ?_
  refine i_115_48 ?_
  refine i_115_49 (lv2 := [(6, Value.int 0), (0, Value.ref 7), (1, Value.int a0), (2, Value.int a1), (3, Value.int a2), (4, Value.int a3), (5, Value.int a4)]) rfl ?_
  refine i_115_51 (x := 0) rfl ?_
  refine i_115_53 (x := a3) rfl ?_
  refine i_115_55 (fun h => absurd e18 (Int.not_lt.mpr h)) (fun _ => ?_)
  refine i_115_58 (x := 7) rfl ?_
  refine i_115_59 (v := Value.ref 19) (xgn (by decide) (xgn (by decide) (xgn (by decide) hw14))) rfl ?_
  refine i_115_62 (x := 7) rfl ?_
  refine i_115_63 (v := Value.ref 8) (xgn (by decide) (xgn (by decide) (xgn (by decide) hw14))) rfl ?_
  refine i_115_66 (x := a1) rfl ?_
  refine i_115_67 (x := 0) rfl ?_
  refine i_115_69 (c := 0) hg19 ?_
  refine i_115_70 (v := Value.ref 30) (xgn (by decide) (xgn (by decide) (xgn (by decide) hw20))) (by decide) (by decide) hg21 ?_
  refine i_115_71 (x := 7) rfl ?_
  refine i_115_72 (v := Value.ref 8) (xgn (by decide) (xgn (by decide) (xgn (by decide) hw14))) rfl ?_
  refine i_115_75 (x := a2) rfl ?_
  refine i_115_76 (x := 0) rfl ?_
  refine i_115_78 (c := 0) hg22 ?_
  refine i_115_79 (v := Value.ref 30) (xgn (by decide) (xgn (by decide) (xgn (by decide) hw20))) (by decide) (by decide) hg21 ?_
  refine i_115_80 (xgs (xgn (by decide) (xgn (by decide) hw15))) (Nat.le_of_ble_eq_true rfl) (p_96_1 (xgn (by decide) (xgn (by decide) (xgn (by decide) hw23))) (xgs (xgn (by decide) (xgn (by decide) hw15)))) ?_
  refine i_115_83 (x := 0) (c := 1) (lv2 := [(6, Value.int 1), (0, Value.ref 7), (1, Value.int a0), (2, Value.int a1), (3, Value.int a2), (4, Value.int a3), (5, Value.int a4)]) rfl (by decide) rfl ?_
  refine i_115_86 ?_
  refine i_115_51 (x := 1) rfl ?_
  refine i_115_53 (x := a3) rfl ?_
  refine i_115_55 (fun h => absurd e24 (Int.not_lt.mpr h)) (fun _ => ?_)
  refine i_115_58 (x := 7) rfl ?_
  refine i_115_59 (v := Value.ref 19) (xgn (by decide) (xgn (by decide) (xgn (by decide) (xgn (by decide) hw14)))) rfl ?_
  refine i_115_62 (x := 7) rfl ?_
  refine i_115_63 (v := Value.ref 8) (xgn (by decide) (xgn (by decide) (xgn (by decide) (xgn (by decide) hw14)))) rfl ?_
  refine i_115_66 (x := a1) rfl ?_
  refine i_115_67 (x := 1) rfl ?_
  refine i_115_69 (c := a7) hg25 ?_
  refine i_115_70 (v := Value.ref h0) (xgn (by decide) (xgn (by decide) (xgn (by decide) (xgn (by decide) hw20)))) e26 e27 hg28 ?_
  refine i_115_71 (x := 7) rfl ?_
  refine i_115_72 (v := Value.ref 8) (xgn (by decide) (xgn (by decide) (xgn (by decide) (xgn (by decide) hw14)))) rfl ?_
  refine i_115_75 (x := a2) rfl ?_
  refine i_115_76 (x := 1) rfl ?_
  refine i_115_78 (c := a8) hg29 ?_
  refine i_115_79 (v := Value.ref h1) (xgn (by decide) (xgn (by decide) (xgn (by decide) (xgn (by decide) hw20)))) e30 e31 hg32 ?_
  refine i_115_80 (xgs (xgs (xgn (by decide) (xgn (by decide) hw15)))) (Nat.le_of_ble_eq_true rfl) (p_96_2 (xgn e33 (xgn e33 (xgn e34 (xgn e35 hw36)))) (xgn e37 (xgn e37 (xgn e38 (xgn e39 hw40)))) (xgs (xgs (xgn (by decide) (xgn (by decide) hw15))))) ?_
  refine i_115_83 (x := 1) (c := 2) (lv2 := [(6, Value.int 2), (0, Value.ref 7), (1, Value.int a0), (2, Value.int a1), (3, Value.int a2), (4, Value.int a3), (5, Value.int a4)]) rfl (by decide) rfl ?_
  refine i_115_86 ?_
  refine i_115_51 (x := 2) rfl ?_
  refine i_115_53 (x := a3) rfl ?_
  refine i_115_55 (fun h => absurd e41 (Int.not_lt.mpr h)) (fun _ => ?_)
  refine i_115_58 (x := 7) rfl ?_
  refine i_115_59 (v := Value.ref 19) (xgn (by decide) (xgn (by decide) (xgn (by decide) (xgn (by decide) (xgn (by decide) hw14))))) rfl ?_
  refine i_115_62 (x := 7) rfl ?_
  refine i_115_63 (v := Value.ref 8) (xgn (by decide) (xgn (by decide) (xgn (by decide) (xgn (by decide) (xgn (by decide) hw14))))) rfl ?_
  refine i_115_66 (x := a1) rfl ?_
  refine i_115_67 (x := 2) rfl ?_
  refine i_115_69 (c := a9) hg42 ?_
  refine i_115_70 (v := Value.ref h4) (xgn (by decide) (xgn (by decide) (xgn (by decide) (xgn (by decide) (xgn (by decide) hw20))))) e43 e44 hg45 ?_
  refine i_115_71 (x := 7) rfl ?_
  refine i_115_72 (v := Value.ref 8) (xgn (by decide) (xgn (by decide) (xgn (by decide) (xgn (by decide) (xgn (by decide) hw14))))) rfl ?_
  refine i_115_75 (x := a2) rfl ?_
  refine i_115_76 (x := 2) rfl ?_
  refine i_115_78 (c := a10) hg46 ?_
  refine i_115_79 (v := Value.ref h5) (xgn (by decide) (xgn (by decide) (xgn (by decide) (xgn (by decide) (xgn (by decide) hw20))))) e47 e48 hg49 ?_
  refine i_115_80 (xgs (xgs (xgs (xgn (by decide) (xgn (by decide) hw15))))) (Nat.le_of_ble_eq_true rfl) (p_96_2 (xgn e50 (xgn e50 (xgn e50 (xgn e51 (xgn e52 hw53))))) (xgn e54 (xgn e54 (xgn e54 (xgn e55 (xgn e56 hw57))))) (xgs (xgs (xgs (xgn (by decide) (xgn (by decide) hw15)))))) ?_
  refine i_115_83 (x := 2) (c := 3) (lv2 := [(6, Value.int 3), (0, Value.ref 7), (1, Value.int a0), (2, Value.int a1), (3, Value.int a2), (4, Value.int a3), (5, Value.int a4)]) rfl (by decide) rfl ?_
  refine i_115_86 ?_
  refine i_115_51 (x := 3) rfl ?_
  refine i_115_53 (x := a3) rfl ?_
  refine i_115_55 (fun h => absurd e58 (Int.not_lt.mpr h)) (fun _ => ?_)
  refine i_115_58 (x := 7) rfl ?_
  refine i_115_59 (v := Value.ref 19) (xgn (by decide) (xgn (by decide) (xgn (by decide) (xgn (by decide) (xgn (by decide) (xgn (by decide) hw14)))))) rfl ?_
  refine i_115_62 (x := 7) rfl ?_
  refine i_115_63 (v := Value.ref 8) (xgn (by decide) (xgn (by decide) (xgn (by decide) (xgn (by decide) (xgn (by decide) (xgn (by decide) hw14)))))) rfl ?_
  refine i_115_66 (x := a1) rfl ?_
  refine i_115_67 (x := 3) rfl ?_
  refine i_115_69 (c := a11) hg59 ?_
  refine i_115_70 (v := Value.ref h8) (xgn (by decide) (xgn (by decide) (xgn (by decide) (xgn (by decide) (xgn (by decide) (xgn (by decide) hw20)))))) e60 e61 hg62 ?_
  refine i_115_71 (x := 7) rfl ?_
  refine i_115_72 (v := Value.ref 8) (xgn (by decide) (xgn (by decide) (xgn (by decide) (xgn (by decide) (xgn (by decide) (xgn (by decide) hw14)))))) rfl ?_
  refine i_115_75 (x := a2) rfl ?_
  refine i_115_76 (x := 3) rfl ?_
  refine i_115_78 (c := a12) hg63 ?_
  refine i_115_79 (v := Value.ref h9) (xgn (by decide) (xgn (by decide) (xgn (by decide) (xgn (by decide) (xgn (by decide) (xgn (by decide) hw20)))))) e64 e65 hg66 ?_
  refine i_115_80 (xgs (xgs (xgs (xgs (xgn (by decide) (xgn (by decide) hw15)))))) (Nat.le_of_ble_eq_true rfl) (p_96_2 (xgn e67 (xgn e67 (xgn e67 (xgn e67 (xgn e68 (xgn e69 hw70)))))) (xgn e71 (xgn e71 (xgn e71 (xgn e71 (xgn e72 (xgn e73 hw74)))))) (xgs (xgs (xgs (xgs (xgn (by decide) (xgn (by decide) hw15))))))) ?_
  refine i_115_83 (x := 3) (c := 4) (lv2 := [(6, Value.int 4), (0, Value.ref 7), (1, Value.int a0), (2, Value.int a1), (3, Value.int a2), (4, Value.int a3), (5, Value.int a4)]) rfl (by decide) rfl ?_
  refine i_115_86 ?_
  refine i_115_51 (x := 4) rfl ?_
  refine i_115_53 (x := a3) rfl ?_
  refine i_115_55 (fun h => absurd e75 (Int.not_lt.mpr h)) (fun _ => ?_)
  refine i_115_58 (x := 7) rfl ?_
  refine i_115_59 (v := Value.ref 19) (xgn (by decide) (xgn (by decide) (xgn (by decide) (xgn (by decide) (xgn (by decide) (xgn (by decide) (xgn (by decide) hw14))))))) rfl ?_
  refine i_115_62 (x := 7) rfl ?_
  refine i_115_63 (v := Value.ref 8) (xgn (by decide) (xgn (by decide) (xgn (by decide) (xgn (by decide) (xgn (by decide) (xgn (by decide) (xgn (by decide) hw14))))))) rfl ?_
  refine i_115_66 (x := a1) rfl ?_
  refine i_115_67 (x := 4) rfl ?_
  refine i_115_69 (c := a13) hg76 ?_
  refine i_115_70 (v := Value.ref h12) (xgn (by decide) (xgn (by decide) (xgn (by decide) (xgn (by decide) (xgn (by decide) (xgn (by decide) (xgn (by decide) hw20))))))) e77 e78 hg79 ?_
  refine i_115_71 (x := 7) rfl ?_
  refine i_115_72 (v := Value.ref 8) (xgn (by decide) (xgn (by decide) (xgn (by decide) (xgn (by decide) (xgn (by decide) (xgn (by decide) (xgn (by decide) hw14))))))) rfl ?_
  refine i_115_75 (x := a2) rfl ?_
  refine i_115_76 (x := 4) rfl ?_
  refine i_115_78 (c := a14) hg80 ?_
  refine i_115_79 (v := Value.ref h13) (xgn (by decide) (xgn (by decide) (xgn (by decide) (xgn (by decide) (xgn (by decide) (xgn (by decide) (xgn (by decide) hw20))))))) e81 e82 hg83 ?_
  refine i_115_80 (xgs (xgs (xgs (xgs (xgs (xgn (by decide) (xgn (by decide) hw15))))))) (Nat.le_of_ble_eq_true rfl) (p_96_2 (xgn e84 (xgn e84 (xgn e84 (xgn e84 (xgn e84 (xgn e85 (xgn e86 hw87))))))) (xgn e88 (xgn e88 (xgn e88 (xgn e88 (xgn e88 (xgn e89 (xgn e90 hw91))))))) (xgs (xgs (xgs (xgs (xgs (xgn (by decide) (xgn (by decide) hw15)))))))) ?_
  refine i_115_83 (x := 4) (c := 5) (lv2 := [(6, Value.int 5), (0, Value.ref 7), (1, Value.int a0), (2, Value.int a1), (3, Value.int a2), (4, Value.int a3), (5, Value.int a4)]) rfl (by decide) rfl ?_
  refine i_115_86 ?_
  refine i_115_51 (x := 5) rfl ?_
  refine i_115_53 (x := a3) rfl ?_
  refine i_115_55 (fun h => absurd e92 (Int.not_lt.mpr h)) (fun _ => ?_)
  refine i_115_58 (x := 7) rfl ?_
  refine i_115_59 (v := Value.ref 19) (xgn (by decide) (xgn (by decide) (xgn (by decide) (xgn (by decide) (xgn (by decide) (xgn (by decide) (xgn (by decide) (xgn (by decide) hw14)))))))) rfl ?_
  refine i_115_62 (x := 7) rfl ?_
  refine i_115_63 (v := Value.ref 8) (xgn (by decide) (xgn (by decide) (xgn (by decide) (xgn (by decide) (xgn (by decide) (xgn (by decide) (xgn (by decide) (xgn (by decide) hw14)))))))) rfl ?_
  refine i_115_66 (x := a1) rfl ?_
  refine i_115_67 (x := 5) rfl ?_
  refine i_115_69 (c := a15) hg93 ?_
  refine i_115_70 (v := Value.ref h16) (xgn (by decide) (xgn (by decide) (xgn (by decide) (xgn (by decide) (xgn (by decide) (xgn (by decide) (xgn (by decide) (xgn (by decide) hw20)))))))) e94 e95 hg96 ?_
  refine i_115_71 (x := 7) rfl ?_
  refine i_115_72 (v := Value.ref 8) (xgn (by decide) (xgn (by decide) (xgn (by decide) (xgn (by decide) (xgn (by decide) (xgn (by decide) (xgn (by decide) (xgn (by decide) hw14)))))))) rfl ?_
  refine i_115_75 (x := a2) rfl ?_
  refine i_115_76 (x := 5) rfl ?_
  refine i_115_78 (c := a16) hg97 ?_
  refine i_115_79 (v := Value.ref h17) (xgn (by decide) (xgn (by decide) (xgn (by decide) (xgn (by decide) (xgn (by decide) (xgn (by decide) (xgn (by decide) (xgn (by decide) hw20)))))))) e98 e99 hg100 ?_
  refine i_115_80 (xgs (xgs (xgs (xgs (xgs (xgs (xgn (by decide) (xgn (by decide) hw15)))))))) (Nat.le_of_ble_eq_true rfl) (p_96_2 (xgn e101 (xgn e101 (xgn e101 (xgn e101 (xgn e101 (xgn e101 (xgn e102 (xgn e103 hw104)))))))) (xgn e105 (xgn e105 (xgn e105 (xgn e105 (xgn e105 (xgn e105 (xgn e106 (xgn e107 hw108)))))))) (xgs (xgs (xgs (xgs (xgs (xgs (xgn (by decide) (xgn (by decide) hw15))))))))) ?_
  refine i_115_83 (x := 5) (c := 6) (lv2 := [(6, Value.int 6), (0, Value.ref 7), (1, Value.int a0), (2, Value.int a1), (3, Value.int a2), (4, Value.int a3), (5, Value.int a4)]) rfl (by decide) rfl ?_
  refine i_115_86 ?_
  refine i_115_51 (x := 6) rfl ?_
  refine i_115_53 (x := a3) rfl ?_
  refine i_115_55 (fun h => absurd e109 (Int.not_lt.mpr h)) (fun _ => ?_)
  refine i_115_58 (x := 7) rfl ?_
  refine i_115_59 (v := Value.ref 19) (xgn (by decide) (xgn (by decide) (xgn (by decide) (xgn (by decide) (xgn (by decide) (xgn (by decide) (xgn (by decide) (xgn (by decide) (xgn (by decide) hw14))))))))) rfl ?_
  refine i_115_62 (x := 7) rfl ?_
  refine i_115_63 (v := Value.ref 8) (xgn (by decide) (xgn (by decide) (xgn (by decide) (xgn (by decide) (xgn (by decide) (xgn (by decide) (xgn (by decide) (xgn (by decide) (xgn (by decide) hw14))))))))) rfl ?_
  refine i_115_66 (x := a1) rfl ?_
  refine i_115_67 (x := 6) rfl ?_
  refine i_115_69 (c := a17) hg110 ?_
  refine i_115_70 (v := Value.ref h20) (xgn (by decide) (xgn (by decide) (xgn (by decide) (xgn (by decide) (xgn (by decide) (xgn (by decide) (xgn (by decide) (xgn (by decide) (xgn (by decide) hw20))))))))) e111 e112 hg113 ?_
  refine i_115_71 (x := 7) rfl ?_
  refine i_115_72 (v := Value.ref 8) (xgn (by decide) (xgn (by decide) (xgn (by decide) (xgn (by decide) (xgn (by decide) (xgn (by decide) (xgn (by decide) (xgn (by decide) (xgn (by decide) hw14))))))))) rfl ?_
  refine i_115_75 (x := a2) rfl ?_
  refine i_115_76 (x := 6) rfl ?_
  refine i_115_78 (c := a18) hg114 ?_
  refine i_115_79 (v := Value.ref h21) (xgn (by decide) (xgn (by decide) (xgn (by decide) (xgn (by decide) (xgn (by decide) (xgn (by decide) (xgn (by decide) (xgn (by decide) (xgn (by decide) hw20))))))))) e115 e116 hg117 ?_
  refine i_115_80 (xgs (xgs (xgs (xgs (xgs (xgs (xgs (xgn (by decide) (xgn (by decide) hw15))))))))) (Nat.le_of_ble_eq_true rfl) (p_96_2 (xgn e118 (xgn e118 (xgn e118 (xgn e118 (xgn e118 (xgn e118 (xgn e118 (xgn e119 (xgn e120 hw121))))))))) (xgn e122 (xgn e122 (xgn e122 (xgn e122 (xgn e122 (xgn e122 (xgn e122 (xgn e123 (xgn e124 hw125))))))))) (xgs (xgs (xgs (xgs (xgs (xgs (xgs (xgn (by decide) (xgn (by decide) hw15)))))))))) ?_
  refine i_115_83 (x := 6) (c := 7) (lv2 := [(6, Value.int 7), (0, Value.ref 7), (1, Value.int a0), (2, Value.int a1), (3, Value.int a2), (4, Value.int a3), (5, Value.int a4)]) rfl (by decide) rfl ?_
  refine i_115_86 ?_
  refine i_115_51 (x := 7) rfl ?_
  refine i_115_53 (x := a3) rfl ?_
  refine i_115_55 (fun h => absurd e126 (Int.not_lt.mpr h)) (fun _ => ?_)
  refine i_115_58 (x := 7) rfl ?_
  refine i_115_59 (v := Value.ref 19) (xgn (by decide) (xgn (by decide) (xgn (by decide) (xgn (by decide) (xgn (by decide) (xgn (by decide) (xgn (by decide) (xgn (by decide) (xgn (by decide) (xgn (by decide) hw14)))))))))) rfl ?_
  refine i_115_62 (x := 7) rfl ?_
  refine i_115_63 (v := Value.ref 8) (xgn (by decide) (xgn (by decide) (xgn (by decide) (xgn (by decide) (xgn (by decide) (xgn (by decide) (xgn (by decide) (xgn (by decide) (xgn (by decide) (xgn (by decide) hw14)))))))))) rfl ?_
  refine i_115_66 (x := a1) rfl ?_
  refine i_115_67 (x := 7) rfl ?_
  refine i_115_69 (c := a19) hg127 ?_
  refine i_115_70 (v := Value.ref h24) (xgn (by decide) (xgn (by decide) (xgn (by decide) (xgn (by decide) (xgn (by decide) (xgn (by decide) (xgn (by decide) (xgn (by decide) (xgn (by decide) (xgn (by decide) hw20)))))))))) e128 e129 hg130 ?_
  refine i_115_71 (x := 7) rfl ?_
  refine i_115_72 (v := Value.ref 8) (xgn (by decide) (xgn (by decide) (xgn (by decide) (xgn (by decide) (xgn (by decide) (xgn (by decide) (xgn (by decide) (xgn (by decide) (xgn (by decide) (xgn (by decide) hw14)))))))))) rfl ?_
  refine i_115_75 (x := a2) rfl ?_
  refine i_115_76 (x := 7) rfl ?_
  refine i_115_78 (c := a20) hg131 ?_
  refine i_115_79 (v := Value.ref h25) (xgn (by decide) (xgn (by decide) (xgn (by decide) (xgn (by decide) (xgn (by decide) (xgn (by decide) (xgn (by decide) (xgn (by decide) (xgn (by decide) (xgn (by decide) hw20)))))))))) e132 e133 hg134 ?_
  refine i_115_80 (xgs (xgs (xgs (xgs (xgs (xgs (xgs (xgs (xgn (by decide) (xgn (by decide) hw15)))))))))) (Nat.le_of_ble_eq_true rfl) (p_96_2 (xgn e135 (xgn e135 (xgn e135 (xgn e135 (xgn e135 (xgn e135 (xgn e135 (xgn e135 (xgn e136 (xgn e137 hw138)))))))))) (xgn e139 (xgn e139 (xgn e139 (xgn e139 (xgn e139 (xgn e139 (xgn e139 (xgn e139 (xgn e140 (xgn e141 hw142)))))))))) (xgs (xgs (xgs (xgs (xgs (xgs (xgs (xgs (xgn (by decide) (xgn (by decide) hw15))))))))))) ?_
  refine i_115_83 (x := 7) (c := 8) (lv2 := [(6, Value.int 8), (0, Value.ref 7), (1, Value.int a0), (2, Value.int a1), (3, Value.int a2), (4, Value.int a3), (5, Value.int a4)]) rfl (by decide) rfl ?_
  refine i_115_86 ?_
  refine i_115_51 (x := 8) rfl ?_
  refine i_115_53 (x := a3) rfl ?_
  refine i_115_55 (fun h => absurd e143 (Int.not_lt.mpr h)) (fun _ => ?_)
  refine i_115_58 (x := 7) rfl ?_
  refine i_115_59 (v := Value.ref 19) (xgn (by decide) (xgn (by decide) (xgn (by decide) (xgn (by decide) (xgn (by decide) (xgn (by decide) (xgn (by decide) (xgn (by decide) (xgn (by decide) (xgn (by decide) (xgn (by decide) hw14))))))))))) rfl ?_
  refine i_115_62 (x := 7) rfl ?_
  refine i_115_63 (v := Value.ref 8) (xgn (by decide) (xgn (by decide) (xgn (by decide) (xgn (by decide) (xgn (by decide) (xgn (by decide) (xgn (by decide) (xgn (by decide) (xgn (by decide) (xgn (by decide) (xgn (by decide) hw14))))))))))) rfl ?_
  refine i_115_66 (x := a1) rfl ?_
  refine i_115_67 (x := 8) rfl ?_
  refine i_115_69 (c := a21) hg144 ?_
  refine i_115_70 (v := Value.ref h28) (xgn (by decide) (xgn (by decide) (xgn (by decide) (xgn (by decide) (xgn (by decide) (xgn (by decide) (xgn (by decide) (xgn (by decide) (xgn (by decide) (xgn (by decide) (xgn (by decide) hw20))))))))))) e145 e146 hg147 ?_
  refine i_115_71 (x := 7) rfl ?_
  refine i_115_72 (v := Value.ref 8) (xgn (by decide) (xgn (by decide) (xgn (by decide) (xgn (by decide) (xgn (by decide) (xgn (by decide) (xgn (by decide) (xgn (by decide) (xgn (by decide) (xgn (by decide) (xgn (by decide) hw14))))))))))) rfl ?_
  refine i_115_75 (x := a2) rfl ?_
  refine i_115_76 (x := 8) rfl ?_
  refine i_115_78 (c := a22) hg148 ?_
  refine i_115_79 (v := Value.ref h29) (xgn (by decide) (xgn (by decide) (xgn (by decide) (xgn (by decide) (xgn (by decide) (xgn (by decide) (xgn (by decide) (xgn (by decide) (xgn (by decide) (xgn (by decide) (xgn (by decide) hw20))))))))))) e149 e150 hg151 ?_
  refine i_115_80 (xgs (xgs (xgs (xgs (xgs (xgs (xgs (xgs (xgs (xgn (by decide) (xgn (by decide) hw15))))))))))) (Nat.le_of_ble_eq_true rfl) (p_96_2 (xgn e152 (xgn e152 (xgn e152 (xgn e152 (xgn e152 (xgn e152 (xgn e152 (xgn e152 (xgn e152 (xgn e153 (xgn e154 hw155))))))))))) (xgn e156 (xgn e156 (xgn e156 (xgn e156 (xgn e156 (xgn e156 (xgn e156 (xgn e156 (xgn e156 (xgn e157 (xgn e158 hw159))))))))))) (xgs (xgs (xgs (xgs (xgs (xgs (xgs (xgs (xgs (xgn (by decide) (xgn (by decide) hw15)))))))))))) ?_
  refine i_115_83 (x := 8) (c := 9) (lv2 := [(6, Value.int 9), (0, Value.ref 7), (1, Value.int a0), (2, Value.int a1), (3, Value.int a2), (4, Value.int a3), (5, Value.int a4)]) rfl (by decide) rfl ?_
  refine i_115_86 ?_
  refine i_115_51 (x := 9) rfl ?_
  refine i_115_53 (x := a3) rfl ?_
  refine i_115_55 (fun h => absurd e160 (Int.not_lt.mpr h)) (fun _ => ?_)
  refine i_115_58 (x := 7) rfl ?_
  refine i_115_59 (v := Value.ref 19) (xgn (by decide) (xgn (by decide) (xgn (by decide) (xgn (by decide) (xgn (by decide) (xgn (by decide) (xgn (by decide) (xgn (by decide) (xgn (by decide) (xgn (by decide) (xgn (by decide) (xgn (by decide) hw14)))))))))))) rfl ?_
  refine i_115_62 (x := 7) rfl ?_
  refine i_115_63 (v := Value.ref 8) (xgn (by decide) (xgn (by decide) (xgn (by decide) (xgn (by decide) (xgn (by decide) (xgn (by decide) (xgn (by decide) (xgn (by decide) (xgn (by decide) (xgn (by decide) (xgn (by decide) (xgn (by decide) hw14)))))))))))) rfl ?_
  refine i_115_66 (x := a1) rfl ?_
  refine i_115_67 (x := 9) rfl ?_
  refine i_115_69 (c := a23) hg161 ?_
  refine i_115_70 (v := Value.ref h32) (xgn (by decide) (xgn (by decide) (xgn (by decide) (xgn (by decide) (xgn (by decide) (xgn (by decide) (xgn (by decide) (xgn (by decide) (xgn (by decide) (xgn (by decide) (xgn (by decide) (xgn (by decide) hw20)))))))))))) e162 e163 hg164 ?_
  refine i_115_71 (x := 7) rfl ?_
  refine i_115_72 (v := Value.ref 8) (xgn (by decide) (xgn (by decide) (xgn (by decide) (xgn (by decide) (xgn (by decide) (xgn (by decide) (xgn (by decide) (xgn (by decide) (xgn (by decide) (xgn (by decide) (xgn (by decide) (xgn (by decide) hw14)))))))))))) rfl ?_
  refine i_115_75 (x := a2) rfl ?_
  refine i_115_76 (x := 9) rfl ?_
  refine i_115_78 (c := a24) hg165 ?_
  refine i_115_79 (v := Value.ref h33) (xgn (by decide) (xgn (by decide) (xgn (by decide) (xgn (by decide) (xgn (by decide) (xgn (by decide) (xgn (by decide) (xgn (by decide) (xgn (by decide) (xgn (by decide) (xgn (by decide) (xgn (by decide) hw20)))))))))))) e166 e167 hg168 ?_
  refine i_115_80 (xgs (xgs (xgs (xgs (xgs (xgs (xgs (xgs (xgs (xgs (xgn (by decide) (xgn (by decide) hw15)))))))))))) (Nat.le_of_ble_eq_true rfl) (p_96_2 (xgn e169 (xgn e169 (xgn e169 (xgn e169 (xgn e169 (xgn e169 (xgn e169 (xgn e169 (xgn e169 (xgn e169 (xgn e170 (xgn e171 hw172)))))))))))) (xgn e173 (xgn e173 (xgn e173 (xgn e173 (xgn e173 (xgn e173 (xgn e173 (xgn e173 (xgn e173 (xgn e173 (xgn e174 (xgn e175 hw176)))))))))))) (xgs (xgs (xgs (xgs (xgs (xgs (xgs (xgs (xgs (xgs (xgn (by decide) (xgn (by decide) hw15))))))))))))) ?_
  refine i_115_83 (x := 9) (c := 10) (lv2 := [(6, Value.int 10), (0, Value.ref 7), (1, Value.int a0), (2, Value.int a1), (3, Value.int a2), (4, Value.int a3), (5, Value.int a4)]) rfl (by decide) rfl ?_
  refine i_115_86 ?_
  refine i_115_51 (x := 10) rfl ?_
  refine i_115_53 (x := a3) rfl ?_
  refine i_115_55 (fun h => absurd e177 (Int.not_lt.mpr h)) (fun _ => ?_)
  refine i_115_58 (x := 7) rfl ?_
  refine i_115_59 (v := Value.ref 19) (xgn (by decide) (xgn (by decide) (xgn (by decide) (xgn (by decide) (xgn (by decide) (xgn (by decide) (xgn (by decide) (xgn (by decide) (xgn (by decide) (xgn (by decide) (xgn (by decide) (xgn (by decide) (xgn (by decide) hw14))))))))))))) rfl ?_
  refine i_115_62 (x := 7) rfl ?_
  refine i_115_63 (v := Value.ref 8) (xgn (by decide) (xgn (by decide) (xgn (by decide) (xgn (by decide) (xgn (by decide) (xgn (by decide) (xgn (by decide) (xgn (by decide) (xgn (by decide) (xgn (by decide) (xgn (by decide) (xgn (by decide) (xgn (by decide) hw14))))))))))))) rfl ?_
  refine i_115_66 (x := a1) rfl ?_
  refine i_115_67 (x := 10) rfl ?_
  refine i_115_69 (c := a25) hg178 ?_
  refine i_115_70 (v := Value.ref h36) (xgn (by decide) (xgn (by decide) (xgn (by decide) (xgn (by decide) (xgn (by decide) (xgn (by decide) (xgn (by decide) (xgn (by decide) (xgn (by decide) (xgn (by decide) (xgn (by decide) (xgn (by decide) (xgn (by decide) hw20))))))))))))) e179 e180 hg181 ?_
  refine i_115_71 (x := 7) rfl ?_
  refine i_115_72 (v := Value.ref 8) (xgn (by decide) (xgn (by decide) (xgn (by decide) (xgn (by decide) (xgn (by decide) (xgn (by decide) (xgn (by decide) (xgn (by decide) (xgn (by decide) (xgn (by decide) (xgn (by decide) (xgn (by decide) (xgn (by decide) hw14))))))))))))) rfl ?_
  refine i_115_75 (x := a2) rfl ?_
  refine i_115_76 (x := 10) rfl ?_
  refine i_115_78 (c := a26) hg182 ?_
  refine i_115_79 (v := Value.ref h37) (xgn (by decide) (xgn (by decide) (xgn (by decide) (xgn (by decide) (xgn (by decide) (xgn (by decide) (xgn (by decide) (xgn (by decide) (xgn (by decide) (xgn (by decide) (xgn (by decide) (xgn (by decide) (xgn (by decide) hw20))))))))))))) e183 e184 hg185 ?_
  refine i_115_80 (xgs (xgs (xgs (xgs (xgs (xgs (xgs (xgs (xgs (xgs (xgs (xgn (by decide) (xgn (by decide) hw15))))))))))))) (Nat.le_of_ble_eq_true rfl) (p_96_2 (xgn e186 (xgn e186 (xgn e186 (xgn e186 (xgn e186 (xgn e186 (xgn e186 (xgn e186 (xgn e186 (xgn e186 (xgn e186 (xgn e187 (xgn e188 hw189))))))))))))) (xgn e190 (xgn e190 (xgn e190 (xgn e190 (xgn e190 (xgn e190 (xgn e190 (xgn e190 (xgn e190 (xgn e190 (xgn e190 (xgn e191 (xgn e192 hw193))))))))))))) (xgs (xgs (xgs (xgs (xgs (xgs (xgs (xgs (xgs (xgs (xgs (xgn (by decide) (xgn (by decide) hw15)))))))))))))) ?_
  refine i_115_83 (x := 10) (c := 11) (lv2 := [(6, Value.int 11), (0, Value.ref 7), (1, Value.int a0), (2, Value.int a1), (3, Value.int a2), (4, Value.int a3), (5, Value.int a4)]) rfl (by decide) rfl ?_
  refine i_115_86 ?_
  refine i_115_51 (x := 11) rfl ?_
  refine i_115_53 (x := a3) rfl ?_
  refine i_115_55 (fun h => absurd e194 (Int.not_lt.mpr h)) (fun _ => ?_)
  refine i_115_58 (x := 7) rfl ?_
  refine i_115_59 (v := Value.ref 19) (xgn (by decide) (xgn (by decide) (xgn (by decide) (xgn (by decide) (xgn (by decide) (xgn (by decide) (xgn (by decide) (xgn (by decide) (xgn (by decide) (xgn (by decide) (xgn (by decide) (xgn (by decide) (xgn (by decide) (xgn (by decide) hw14)))))))))))))) rfl ?_
  refine i_115_62 (x := 7) rfl ?_
  refine i_115_63 (v := Value.ref 8) (xgn (by decide) (xgn (by decide) (xgn (by decide) (xgn (by decide) (xgn (by decide) (xgn (by decide) (xgn (by decide) (xgn (by decide) (xgn (by decide) (xgn (by decide) (xgn (by decide) (xgn (by decide) (xgn (by decide) (xgn (by decide) hw14)))))))))))))) rfl ?_
  refine i_115_66 (x := a1) rfl ?_
  refine i_115_67 (x := 11) rfl ?_
  refine i_115_69 (c := a27) hg195 ?_
  refine i_115_70 (v := Value.ref h40) (xgn (by decide) (xgn (by decide) (xgn (by decide) (xgn (by decide) (xgn (by decide) (xgn (by decide) (xgn (by decide) (xgn (by decide) (xgn (by decide) (xgn (by decide) (xgn (by decide) (xgn (by decide) (xgn (by decide) (xgn (by decide) hw20)))))))))))))) e196 e197 hg198 ?_
  refine i_115_71 (x := 7) rfl ?_
  refine i_115_72 (v := Value.ref 8) (xgn (by decide) (xgn (by decide) (xgn (by decide) (xgn (by decide) (xgn (by decide) (xgn (by decide) (xgn (by decide) (xgn (by decide) (xgn (by decide) (xgn (by decide) (xgn (by decide) (xgn (by decide) (xgn (by decide) (xgn (by decide) hw14)))))))))))))) rfl ?_
  refine i_115_75 (x := a2) rfl ?_
  refine i_115_76 (x := 11) rfl ?_
  refine i_115_78 (c := a28) hg199 ?_
  refine i_115_79 (v := Value.ref h41) (xgn (by decide) (xgn (by decide) (xgn (by decide) (xgn (by decide) (xgn (by decide) (xgn (by decide) (xgn (by decide) (xgn (by decide) (xgn (by decide) (xgn (by decide) (xgn (by decide) (xgn (by decide) (xgn (by decide) (xgn (by decide) hw20)))))))))))))) e200 e201 hg202 ?_
  refine i_115_80 (xgs (xgs (xgs (xgs (xgs (xgs (xgs (xgs (xgs (xgs (xgs (xgs (xgn (by decide) (xgn (by decide) hw15)))))))))))))) (Nat.le_of_ble_eq_true rfl) (p_96_2 (xgn e203 (xgn e203 (xgn e203 (xgn e203 (xgn e203 (xgn e203 (xgn e203 (xgn e203 (xgn e203 (xgn e203 (xgn e203 (xgn e203 (xgn e204 (xgn e205 hw206)))))))))))))) (xgn e207 (xgn e207 (xgn e207 (xgn e207 (xgn e207 (xgn e207 (xgn e207 (xgn e207 (xgn e207 (xgn e207 (xgn e207 (xgn e207 (xgn e208 (xgn e209 hw210)))))))))))))) (xgs (xgs (xgs (xgs (xgs (xgs (xgs (xgs (xgs (xgs (xgs (xgs (xgn (by decide) (xgn (by decide) hw15))))))))))))))) ?_
  refine i_115_83 (x := 11) (c := 12) (lv2 := [(6, Value.int 12), (0, Value.ref 7), (1, Value.int a0), (2, Value.int a1), (3, Value.int a2), (4, Value.int a3), (5, Value.int a4)]) rfl (by decide) rfl ?_
  refine i_115_86 ?_
  refine i_115_51 (x := 12) rfl ?_
  refine i_115_53 (x := a3) rfl ?_
  refine i_115_55 (fun h => absurd e211 (Int.not_lt.mpr h)) (fun _ => ?_)
  refine i_115_58 (x := 7) rfl ?_
  refine i_115_59 (v := Value.ref 19) (xgn (by decide) (xgn (by decide) (xgn (by decide) (xgn (by decide) (xgn (by decide) (xgn (by decide) (xgn (by decide) (xgn (by decide) (xgn (by decide) (xgn (by decide) (xgn (by decide) (xgn (by decide) (xgn (by decide) (xgn (by decide) (xgn (by decide) hw14))))))))))))))) rfl ?_
  refine i_115_62 (x := 7) rfl ?_
  refine i_115_63 (v := Value.ref 8) (xgn (by decide) (xgn (by decide) (xgn (by decide) (xgn (by decide) (xgn (by decide) (xgn (by decide) (xgn (by decide) (xgn (by decide) (xgn (by decide) (xgn (by decide) (xgn (by decide) (xgn (by decide) (xgn (by decide) (xgn (by decide) (xgn (by decide) hw14))))))))))))))) rfl ?_
  refine i_115_66 (x := a1) rfl ?_
  refine i_115_67 (x := 12) rfl ?_
  refine i_115_69 (c := a29) hg212 ?_
  refine i_115_70 (v := Value.ref h44) (xgn (by decide) (xgn (by decide) (xgn (by decide) (xgn (by decide) (xgn (by decide) (xgn (by decide) (xgn (by decide) (xgn (by decide) (xgn (by decide) (xgn (by decide) (xgn (by decide) (xgn (by decide) (xgn (by decide) (xgn (by decide) (xgn (by decide) hw20))))))))))))))) e213 e214 hg215 ?_
  refine i_115_71 (x := 7) rfl ?_
  refine i_115_72 (v := Value.ref 8) (xgn (by decide) (xgn (by decide) (xgn (by decide) (xgn (by decide) (xgn (by decide) (xgn (by decide) (xgn (by decide) (xgn (by decide) (xgn (by decide) (xgn (by decide) (xgn (by decide) (xgn (by decide) (xgn (by decide) (xgn (by decide) (xgn (by decide) hw14))))))))))))))) rfl ?_
  refine i_115_75 (x := a2) rfl ?_
  refine i_115_76 (x := 12) rfl ?_
  refine i_115_78 (c := a30) hg216 ?_
  refine i_115_79 (v := Value.ref h45) (xgn (by decide) (xgn (by decide) (xgn (by decide) (xgn (by decide) (xgn (by decide) (xgn (by decide) (xgn (by decide) (xgn (by decide) (xgn (by decide) (xgn (by decide) (xgn (by decide) (xgn (by decide) (xgn (by decide) (xgn (by decide) (xgn (by decide) hw20))))))))))))))) e217 e218 hg219 ?_
  refine i_115_80 (xgs (xgs (xgs (xgs (xgs (xgs (xgs (xgs (xgs (xgs (xgs (xgs (xgs (xgn (by decide) (xgn (by decide) hw15))))))))))))))) (Nat.le_of_ble_eq_true rfl) (p_96_2 (xgn e220 (xgn e220 (xgn e220 (xgn e220 (xgn e220 (xgn e220 (xgn e220 (xgn e220 (xgn e220 (xgn e220 (xgn e220 (xgn e220 (xgn e220 (xgn e221 (xgn e222 hw223))))))))))))))) (xgn e224 (xgn e224 (xgn e224 (xgn e224 (xgn e224 (xgn e224 (xgn e224 (xgn e224 (xgn e224 (xgn e224 (xgn e224 (xgn e224 (xgn e224 (xgn e225 (xgn e226 hw227))))))))))))))) (xgs (xgs (xgs (xgs (xgs (xgs (xgs (xgs (xgs (xgs (xgs (xgs (xgs (xgn (by decide) (xgn (by decide) hw15)))))))))))))))) ?_
  refine i_115_83 (x := 12) (c := 13) (lv2 := [(6, Value.int 13), (0, Value.ref 7), (1, Value.int a0), (2, Value.int a1), (3, Value.int a2), (4, Value.int a3), (5, Value.int a4)]) rfl (by decide) rfl ?_
  refine i_115_86 ?_
  refine i_115_51 (x := 13) rfl ?_
  refine i_115_53 (x := a3) rfl ?_
  refine i_115_55 (fun h => absurd e228 (Int.not_lt.mpr h)) (fun _ => ?_)
  refine i_115_58 (x := 7) rfl ?_
  refine i_115_59 (v := Value.ref 19) (xgn (by decide) (xgn (by decide) (xgn (by decide) (xgn (by decide) (xgn (by decide) (xgn (by decide) (xgn (by decide) (xgn (by decide) (xgn (by decide) (xgn (by decide) (xgn (by decide) (xgn (by decide) (xgn (by decide) (xgn (by decide) (xgn (by decide) (xgn (by decide) hw14)))))))))))))))) rfl ?_
  refine i_115_62 (x := 7) rfl ?_
  refine i_115_63 (v := Value.ref 8) (xgn (by decide) (xgn (by decide) (xgn (by decide) (xgn (by decide) (xgn (by decide) (xgn (by decide) (xgn (by decide) (xgn (by decide) (xgn (by decide) (xgn (by decide) (xgn (by decide) (xgn (by decide) (xgn (by decide) (xgn (by decide) (xgn (by decide) (xgn (by decide) hw14)))))))))))))))) rfl ?_
  refine i_115_66 (x := a1) rfl ?_
  refine i_115_67 (x := 13) rfl ?_
  refine i_115_69 (c := a31) hg229 ?_
  refine i_115_70 (v := Value.ref h48) (xgn (by decide) (xgn (by decide) (xgn (by decide) (xgn (by decide) (xgn (by decide) (xgn (by decide) (xgn (by decide) (xgn (by decide) (xgn (by decide) (xgn (by decide) (xgn (by decide) (xgn (by decide) (xgn (by decide) (xgn (by decide) (xgn (by decide) (xgn (by decide) hw20)))))))))))))))) e230 e231 hg232 ?_
  refine i_115_71 (x := 7) rfl ?_
  refine i_115_72 (v := Value.ref 8) (xgn (by decide) (xgn (by decide) (xgn (by decide) (xgn (by decide) (xgn (by decide) (xgn (by decide) (xgn (by decide) (xgn (by decide) (xgn (by decide) (xgn (by decide) (xgn (by decide) (xgn (by decide) (xgn (by decide) (xgn (by decide) (xgn (by decide) (xgn (by decide) hw14)))))))))))))))) rfl ?_
  refine i_115_75 (x := a2) rfl ?_
  refine i_115_76 (x := 13) rfl ?_
  refine i_115_78 (c := a32) hg233 ?_
  refine i_115_79 (v := Value.ref h49) (xgn (by decide) (xgn (by decide) (xgn (by decide) (xgn (by decide) (xgn (by decide) (xgn (by decide) (xgn (by decide) (xgn (by decide) (xgn (by decide) (xgn (by decide) (xgn (by decide) (xgn (by decide) (xgn (by decide) (xgn (by decide) (xgn (by decide) (xgn (by decide) hw20)))))))))))))))) e234 e235 hg236 ?_
  refine i_115_80 (xgs (xgs (xgs (xgs (xgs (xgs (xgs (xgs (xgs (xgs (xgs (xgs (xgs (xgs (xgn (by decide) (xgn (by decide) hw15)))))))))))))))) (Nat.le_of_ble_eq_true rfl) (p_96_2 (xgn e237 (xgn e237 (xgn e237 (xgn e237 (xgn e237 (xgn e237 (xgn e237 (xgn e237 (xgn e237 (xgn e237 (xgn e237 (xgn e237 (xgn e237 (xgn e237 (xgn e238 (xgn e239 hw240)))))))))))))))) (xgn e241 (xgn e241 (xgn e241 (xgn e241 (xgn e241 (xgn e241 (xgn e241 (xgn e241 (xgn e241 (xgn e241 (xgn e241 (xgn e241 (xgn e241 (xgn e241 (xgn e242 (xgn e243 hw244)))))))))))))))) (xgs (xgs (xgs (xgs (xgs (xgs (xgs (xgs (xgs (xgs (xgs (xgs (xgs (xgs (xgn (by decide) (xgn (by decide) hw15))))))))))))))))) ?_
  refine i_115_83 (x := 13) (c := 14) (lv2 := [(6, Value.int 14), (0, Value.ref 7), (1, Value.int a0), (2, Value.int a1), (3, Value.int a2), (4, Value.int a3), (5, Value.int a4)]) rfl (by decide) rfl ?_
  refine i_115_86 ?_
  refine i_115_51 (x := 14) rfl ?_
  refine i_115_53 (x := a3) rfl ?_
  refine i_115_55 (fun h => absurd e245 (Int.not_lt.mpr h)) (fun _ => ?_)
  refine i_115_58 (x := 7) rfl ?_
  refine i_115_59 (v := Value.ref 19) (xgn (by decide) (xgn (by decide) (xgn (by decide) (xgn (by decide) (xgn (by decide) (xgn (by decide) (xgn (by decide) (xgn (by decide) (xgn (by decide) (xgn (by decide) (xgn (by decide) (xgn (by decide) (xgn (by decide) (xgn (by decide) (xgn (by decide) (xgn (by decide) (xgn (by decide) hw14))))))))))))))))) rfl ?_
  refine i_115_62 (x := 7) rfl ?_
  refine i_115_63 (v := Value.ref 8) (xgn (by decide) (xgn (by decide) (xgn (by decide) (xgn (by decide) (xgn (by decide) (xgn (by decide) (xgn (by decide) (xgn (by decide) (xgn (by decide) (xgn (by decide) (xgn (by decide) (xgn (by decide) (xgn (by decide) (xgn (by decide) (xgn (by decide) (xgn (by decide) (xgn (by decide) hw14))))))))))))))))) rfl ?_
  refine i_115_66 (x := a1) rfl ?_
  refine i_115_67 (x := 14) rfl ?_
  refine i_115_69 (c := a33) hg246 ?_
  refine i_115_70 (v := Value.ref h52) (xgn (by decide) (xgn (by decide) (xgn (by decide) (xgn (by decide) (xgn (by decide) (xgn (by decide) (xgn (by decide) (xgn (by decide) (xgn (by decide) (xgn (by decide) (xgn (by decide) (xgn (by decide) (xgn (by decide) (xgn (by decide) (xgn (by decide) (xgn (by decide) (xgn (by decide) hw20))))))))))))))))) e247 e248 hg249 ?_
  refine i_115_71 (x := 7) rfl ?_
  refine i_115_72 (v := Value.ref 8) (xgn (by decide) (xgn (by decide) (xgn (by decide) (xgn (by decide) (xgn (by decide) (xgn (by decide) (xgn (by decide) (xgn (by decide) (xgn (by decide) (xgn (by decide) (xgn (by decide) (xgn (by decide) (xgn (by decide) (xgn (by decide) (xgn (by decide) (xgn (by decide) (xgn (by decide) hw14))))))))))))))))) rfl ?_
  refine i_115_75 (x := a2) rfl ?_
  refine i_115_76 (x := 14) rfl ?_
  refine i_115_78 (c := a34) hg250 ?_
  refine i_115_79 (v := Value.ref h53) (xgn (by decide) (xgn (by decide) (xgn (by decide) (xgn (by decide) (xgn (by decide) (xgn (by decide) (xgn (by decide) (xgn (by decide) (xgn (by decide) (xgn (by decide) (xgn (by decide) (xgn (by decide) (xgn (by decide) (xgn (by decide) (xgn (by decide) (xgn (by decide) (xgn (by decide) hw20))))))))))))))))) e251 e252 hg253 ?_
  refine i_115_80 (xgs (xgs (xgs (xgs (xgs (xgs (xgs (xgs (xgs (xgs (xgs (xgs (xgs (xgs (xgs (xgn (by decide) (xgn (by decide) hw15))))))))))))))))) (Nat.le_of_ble_eq_true rfl) (p_96_2 (xgn e254 (xgn e254 (xgn e254 (xgn e254 (xgn e254 (xgn e254 (xgn e254 (xgn e254 (xgn e254 (xgn e254 (xgn e254 (xgn e254 (xgn e254 (xgn e254 (xgn e254 (xgn e255 (xgn e256 hw257))))))))))))))))) (xgn e258 (xgn e258 (xgn e258 (xgn e258 (xgn e258 (xgn e258 (xgn e258 (xgn e258 (xgn e258 (xgn e258 (xgn e258 (xgn e258 (xgn e258 (xgn e258 (xgn e258 (xgn e259 (xgn e260 hw261))))))))))))))))) (xgs (xgs (xgs (xgs (xgs (xgs (xgs (xgs (xgs (xgs (xgs (xgs (xgs (xgs (xgs (xgn (by decide) (xgn (by decide) hw15)))))))))))))))))) ?_
  refine i_115_83 (x := 14) (c := 15) (lv2 := [(6, Value.int 15), (0, Value.ref 7), (1, Value.int a0), (2, Value.int a1), (3, Value.int a2), (4, Value.int a3), (5, Value.int a4)]) rfl (by decide) rfl ?_
  refine i_115_86 ?_
  refine i_115_51 (x := 15) rfl ?_
  refine i_115_53 (x := a3) rfl ?_
  refine i_115_55 (fun h => absurd e262 (Int.not_lt.mpr h)) (fun _ => ?_)
  refine i_115_58 (x := 7) rfl ?_
  refine i_115_59 (v := Value.ref 19) (xgn (by decide) (xgn (by decide) (xgn (by decide) (xgn (by decide) (xgn (by decide) (xgn (by decide) (xgn (by decide) (xgn (by decide) (xgn (by decide) (xgn (by decide) (xgn (by decide) (xgn (by decide) (xgn (by decide) (xgn (by decide) (xgn (by decide) (xgn (by decide) (xgn (by decide) (xgn (by decide) hw14)))))))))))))))))) rfl ?_
  refine i_115_62 (x := 7) rfl ?_
  refine i_115_63 (v := Value.ref 8) (xgn (by decide) (xgn (by decide) (xgn (by decide) (xgn (by decide) (xgn (by decide) (xgn (by decide) (xgn (by decide) (xgn (by decide) (xgn (by decide) (xgn (by decide) (xgn (by decide) (xgn (by decide) (xgn (by decide) (xgn (by decide) (xgn (by decide) (xgn (by decide) (xgn (by decide) (xgn (by decide) hw14)))))))))))))))))) rfl ?_
  refine i_115_66 (x := a1) rfl ?_
  refine i_115_67 (x := 15) rfl ?_
  refine i_115_69 (c := 15) hg263 ?_
  refine i_115_70 (v := Value.ref 75) (xgn (by decide) (xgn (by decide) (xgn (by decide) (xgn (by decide) (xgn (by decide) (xgn (by decide) (xgn (by decide) (xgn (by decide) (xgn (by decide) (xgn (by decide) (xgn (by decide) (xgn (by decide) (xgn (by decide) (xgn (by decide) (xgn (by decide) (xgn (by decide) (xgn (by decide) (xgn (by decide) hw20)))))))))))))))))) (by decide) (by decide) hg264 ?_
  refine i_115_71 (x := 7) rfl ?_
  refine i_115_72 (v := Value.ref 8) (xgn (by decide) (xgn (by decide) (xgn (by decide) (xgn (by decide) (xgn (by decide) (xgn (by decide) (xgn (by decide) (xgn (by decide) (xgn (by decide) (xgn (by decide) (xgn (by decide) (xgn (by decide) (xgn (by decide) (xgn (by decide) (xgn (by decide) (xgn (by decide) (xgn (by decide) (xgn (by decide) hw14)))))))))))))))))) rfl ?_
  refine i_115_75 (x := a2) rfl ?_
  refine i_115_76 (x := 15) rfl ?_
  refine i_115_78 (c := 15) hg265 ?_
  refine i_115_79 (v := Value.ref 75) (xgn (by decide) (xgn (by decide) (xgn (by decide) (xgn (by decide) (xgn (by decide) (xgn (by decide) (xgn (by decide) (xgn (by decide) (xgn (by decide) (xgn (by decide) (xgn (by decide) (xgn (by decide) (xgn (by decide) (xgn (by decide) (xgn (by decide) (xgn (by decide) (xgn (by decide) (xgn (by decide) hw20)))))))))))))))))) (by decide) (by decide) hg264 ?_
  refine i_115_80 (xgs (xgs (xgs (xgs (xgs (xgs (xgs (xgs (xgs (xgs (xgs (xgs (xgs (xgs (xgs (xgs (xgn (by decide) (xgn (by decide) hw15)))))))))))))))))) (Nat.le_of_ble_eq_true rfl) (p_96_3 (xgn (by decide) (xgn (by decide) (xgn (by decide) (xgn (by decide) (xgn (by decide) (xgn (by decide) (xgn (by decide) (xgn (by decide) (xgn (by decide) (xgn (by decide) (xgn (by decide) (xgn (by decide) (xgn (by decide) (xgn (by decide) (xgn (by decide) (xgn (by decide) (xgn (by decide) (xgn (by decide) hw266)))))))))))))))))) (xgs (xgs (xgs (xgs (xgs (xgs (xgs (xgs (xgs (xgs (xgs (xgs (xgs (xgs (xgs (xgs (xgn (by decide) (xgn (by decide) hw15))))))))))))))))))) ?_
  refine i_115_83 (x := 15) (c := 16) (lv2 := [(6, Value.int 16), (0, Value.ref 7), (1, Value.int a0), (2, Value.int a1), (3, Value.int a2), (4, Value.int a3), (5, Value.int a4)]) rfl (by decide) rfl ?_
  refine i_115_86 ?_
  refine i_115_51 (x := 16) rfl ?_
  refine i_115_53 (x := a3) rfl ?_
  refine i_115_55 (fun _ => ?_) (fun h => absurd e5 (Int.not_le.mpr h))
  refine i_115_89 (x := 7) rfl ?_
  refine i_115_90 (v := Value.ref 19) (xgn (by decide) (xgn (by decide) (xgn (by decide) (xgn (by decide) (xgn (by decide) (xgn (by decide) (xgn (by decide) (xgn (by decide) (xgn (by decide) (xgn (by decide) (xgn (by decide) (xgn (by decide) (xgn (by decide) (xgn (by decide) (xgn (by decide) (xgn (by decide) (xgn (by decide) (xgn (by decide) (xgn (by decide) hw14))))))))))))))))))) rfl ?_
  refine i_115_93 (x := 7) rfl ?_
  refine i_115_94 (v := Value.ref 78) (xgn (by decide) (xgn (by decide) (xgn (by decide) (xgn (by decide) (xgn (by decide) (xgn (by decide) (xgn (by decide) (xgn (by decide) (xgn (by decide) (xgn (by decide) (xgn (by decide) (xgn (by decide) (xgn (by decide) (xgn (by decide) (xgn (by decide) (xgn (by decide) (xgn (by decide) (xgn (by decide) (xgn (by decide) hw14))))))))))))))))))) rfl ?_
  refine i_115_97 (x := 7) rfl ?_
  refine i_115_98 (v := Value.ref 8) (xgn (by decide) (xgn (by decide) (xgn (by decide) (xgn (by decide) (xgn (by decide) (xgn (by decide) (xgn (by decide) (xgn (by decide) (xgn (by decide) (xgn (by decide) (xgn (by decide) (xgn (by decide) (xgn (by decide) (xgn (by decide) (xgn (by decide) (xgn (by decide) (xgn (by decide) (xgn (by decide) (xgn (by decide) hw14))))))))))))))))))) rfl ?_
  refine i_115_101 (x := a0) rfl ?_
  refine i_115_102 (v := Value.ref h56) (xgn (by decide) (xgn (by decide) (xgn (by decide) (xgn (by decide) (xgn (by decide) (xgn (by decide) (xgn (by decide) (xgn (by decide) (xgn (by decide) (xgn (by decide) (xgn (by decide) (xgn (by decide) (xgn (by decide) (xgn (by decide) (xgn (by decide) (xgn (by decide) (xgn (by decide) (xgn (by decide) (xgn (by decide) hw20))))))))))))))))))) e0 e1 hg267 ?_
  refine i_115_103 (x := a4) rfl ?_
  refine i_115_105 (xgs (xgs (xgs (xgs (xgs (xgs (xgs (xgs (xgs (xgs (xgs (xgs (xgs (xgs (xgs (xgs (xgs (xgn (by decide) (xgn (by decide) hw15))))))))))))))))))) (Nat.le_of_ble_eq_true rfl) (p_64_0 (xgs (xgs (xgs (xgs (xgs (xgs (xgs (xgs (xgs (xgs (xgs (xgs (xgs (xgs (xgs (xgs (xgs (xgn (by decide) (xgn (by decide) hw15))))))))))))))))))) (xgn e268 (xgn e268 (xgn e268 (xgn e268 (xgn e268 (xgn e268 (xgn e268 (xgn e268 (xgn e268 (xgn e268 (xgn e268 (xgn e268 (xgn e268 (xgn e268 (xgn e268 (xgn e268 (xgn e268 (xgn e269 (xgn e270 hw271))))))))))))))))))) e272) ?_
  exact i_115_108 ⟨rfl, rfl⟩
theorem p_114_9 {d : Nat} {w : xW} {a0 : Int32} {a1 : Int32} {a2 : Int32} {a3 : Int32} {a4 : Int32} {a5 : Int32} {a6 : Int32} {g0 : Nat → Value} {a7 : Int32} {h0 : Nat} {a8 : Int32} {h1 : Nat} {h2 : Nat} {h3 : Nat} {a9 : Int32} {h4 : Nat} {a10 : Int32} {h5 : Nat} {h6 : Nat} {h7 : Nat} {a11 : Int32} {h8 : Nat} {a12 : Int32} {h9 : Nat} {h10 : Nat} {h11 : Nat} {a13 : Int32} {h12 : Nat} {a14 : Int32} {h13 : Nat} {h14 : Nat} {h15 : Nat} {a15 : Int32} {h16 : Nat} {a16 : Int32} {h17 : Nat} {h18 : Nat} {h19 : Nat} {a17 : Int32} {h20 : Nat} {a18 : Int32} {h21 : Nat} {h22 : Nat} {h23 : Nat} {a19 : Int32} {h24 : Nat} {a20 : Int32} {h25 : Nat} {h26 : Nat} {h27 : Nat} {a21 : Int32} {h28 : Nat} {a22 : Int32} {h29 : Nat} {h30 : Nat} {h31 : Nat} {a23 : Int32} {h32 : Nat} {a24 : Int32} {h33 : Nat} {h34 : Nat} {h35 : Nat} {a25 : Int32} {h36 : Nat} {a26 : Int32} {h37 : Nat} {h38 : Nat} {h39 : Nat} {a27 : Int32} {h40 : Nat} {a28 : Int32} {h41 : Nat} {h42 : Nat} {h43 : Nat} {a29 : Int32} {h44 : Nat} {a30 : Int32} {h45 : Nat} {h46 : Nat} {h47 : Nat} {a31 : Int32} {h48 : Nat} {a32 : Int32} {h49 : Nat} {h50 : Nat} {h51 : Nat} {a33 : Int32} {h52 : Nat} {a34 : Int32} {h53 : Nat} {h54 : Nat} {h55 : Nat} {h56 : Nat} {h57 : Nat} (hw0 : w[7]? = some (Sum.inr (0, [Value.ref 8, Value.ref 78, Value.ref 9, Value.ref 10, Value.ref 13, Value.ref 16, Value.ref 19, Value.ref 93, Value.ref 108, Value.ref 113, Value.ref 29, Value.int 0]))) (e1 : 0 ≤ a0.toInt) (e2 : a0.toInt < 16) (e3 : 0 ≤ a1.toInt) (e4 : a1.toInt < 16) (e5 : 1 ≤ a3.toInt) (e6 : a3.toInt ≤ 16) (hg7 : (a1 + a3) = a5) (e8 : a5.toInt ≤ 16) (e9 : 0 ≤ a2.toInt) (e10 : a2.toInt < 16) (hg11 : (a2 + a3) = a6) (e12 : a6.toInt ≤ 16) (e13 : 0 ≤ a4.toInt) (e14 : a4.toInt ≤ 4) (hw15 : w[19]? = some (Sum.inr (5, [Value.ref 20, Value.ref 22, Value.ref 24, Value.ref 26, Value.int 0, Value.int 0, Value.int 0, Value.int 0, Value.int 0, Value.int 0, Value.int 0, Value.int 0]))) (hw16 : w[20]? = some (Sum.inr (3, [Value.ref 21, Value.int 0]))) (hw17 : w[22]? = some (Sum.inr (3, [Value.ref 23, Value.int 0]))) (e18 : 0 < a3.toInt) (hg19 : (a1 + (0 : Int32)) = 0) (hw20 : w[8]? = some (Sum.inl (4, 16, g0))) (hg21 : g0 (0 : Int32).toInt.toNat = Value.ref 30) (hg22 : (a2 + (0 : Int32)) = 0) (hw23 : w[30]? = some (Sum.inr (2, [Value.int 64, Value.int 0, Value.int 0, Value.int 0, Value.ref 31]))) (e24 : 1 < a3.toInt) (hg25 : (a1 + (1 : Int32)) = a7) (e26 : 0 ≤ a7.toInt) (e27 : a7.toInt < 16) (hg28 : g0 a7.toInt.toNat = Value.ref h0) (hg29 : (a2 + (1 : Int32)) = a8) (e30 : 0 ≤ a8.toInt) (e31 : a8.toInt < 16) (hg32 : g0 a8.toInt.toNat = Value.ref h1) (e33 : 19 ≠ h0) (e34 : 22 ≠ h0) (e35 : 20 ≠ h0) (hw36 : w[h0]? = some (Sum.inr (2, [Value.int 64, Value.int 0, Value.int 0, Value.int 0, Value.ref h2]))) (e37 : 19 ≠ h1) (e38 : 22 ≠ h1) (e39 : 20 ≠ h1) (hw40 : w[h1]? = some (Sum.inr (2, [Value.int 64, Value.int 0, Value.int 0, Value.int 0, Value.ref h3]))) (e41 : 2 < a3.toInt) (hg42 : (a1 + (2 : Int32)) = a9) (e43 : 0 ≤ a9.toInt) (e44 : a9.toInt < 16) (hg45 : g0 a9.toInt.toNat = Value.ref h4) (hg46 : (a2 + (2 : Int32)) = a10) (e47 : 0 ≤ a10.toInt) (e48 : a10.toInt < 16) (hg49 : g0 a10.toInt.toNat = Value.ref h5) (e50 : 19 ≠ h4) (e51 : 22 ≠ h4) (e52 : 20 ≠ h4) (hw53 : w[h4]? = some (Sum.inr (2, [Value.int 64, Value.int 0, Value.int 0, Value.int 0, Value.ref h6]))) (e54 : 19 ≠ h5) (e55 : 22 ≠ h5) (e56 : 20 ≠ h5) (hw57 : w[h5]? = some (Sum.inr (2, [Value.int 64, Value.int 0, Value.int 0, Value.int 0, Value.ref h7]))) (e58 : 3 < a3.toInt) (hg59 : (a1 + (3 : Int32)) = a11) (e60 : 0 ≤ a11.toInt) (e61 : a11.toInt < 16) (hg62 : g0 a11.toInt.toNat = Value.ref h8) (hg63 : (a2 + (3 : Int32)) = a12) (e64 : 0 ≤ a12.toInt) (e65 : a12.toInt < 16) (hg66 : g0 a12.toInt.toNat = Value.ref h9) (e67 : 19 ≠ h8) (e68 : 22 ≠ h8) (e69 : 20 ≠ h8) (hw70 : w[h8]? = some (Sum.inr (2, [Value.int 64, Value.int 0, Value.int 0, Value.int 0, Value.ref h10]))) (e71 : 19 ≠ h9) (e72 : 22 ≠ h9) (e73 : 20 ≠ h9) (hw74 : w[h9]? = some (Sum.inr (2, [Value.int 64, Value.int 0, Value.int 0, Value.int 0, Value.ref h11]))) (e75 : 4 < a3.toInt) (hg76 : (a1 + (4 : Int32)) = a13) (e77 : 0 ≤ a13.toInt) (e78 : a13.toInt < 16) (hg79 : g0 a13.toInt.toNat = Value.ref h12) (hg80 : (a2 + (4 : Int32)) = a14) (e81 : 0 ≤ a14.toInt) (e82 : a14.toInt < 16) (hg83 : g0 a14.toInt.toNat = Value.ref h13) (e84 : 19 ≠ h12) (e85 : 22 ≠ h12) (e86 : 20 ≠ h12) (hw87 : w[h12]? = some (Sum.inr (2, [Value.int 64, Value.int 0, Value.int 0, Value.int 0, Value.ref h14]))) (e88 : 19 ≠ h13) (e89 : 22 ≠ h13) (e90 : 20 ≠ h13) (hw91 : w[h13]? = some (Sum.inr (2, [Value.int 64, Value.int 0, Value.int 0, Value.int 0, Value.ref h15]))) (e92 : 5 < a3.toInt) (hg93 : (a1 + (5 : Int32)) = a15) (e94 : 0 ≤ a15.toInt) (e95 : a15.toInt < 16) (hg96 : g0 a15.toInt.toNat = Value.ref h16) (hg97 : (a2 + (5 : Int32)) = a16) (e98 : 0 ≤ a16.toInt) (e99 : a16.toInt < 16) (hg100 : g0 a16.toInt.toNat = Value.ref h17) (e101 : 19 ≠ h16) (e102 : 22 ≠ h16) (e103 : 20 ≠ h16) (hw104 : w[h16]? = some (Sum.inr (2, [Value.int 64, Value.int 0, Value.int 0, Value.int 0, Value.ref h18]))) (e105 : 19 ≠ h17) (e106 : 22 ≠ h17) (e107 : 20 ≠ h17) (hw108 : w[h17]? = some (Sum.inr (2, [Value.int 64, Value.int 0, Value.int 0, Value.int 0, Value.ref h19]))) (e109 : 6 < a3.toInt) (hg110 : (a1 + (6 : Int32)) = a17) (e111 : 0 ≤ a17.toInt) (e112 : a17.toInt < 16) (hg113 : g0 a17.toInt.toNat = Value.ref h20) (hg114 : (a2 + (6 : Int32)) = a18) (e115 : 0 ≤ a18.toInt) (e116 : a18.toInt < 16) (hg117 : g0 a18.toInt.toNat = Value.ref h21) (e118 : 19 ≠ h20) (e119 : 22 ≠ h20) (e120 : 20 ≠ h20) (hw121 : w[h20]? = some (Sum.inr (2, [Value.int 64, Value.int 0, Value.int 0, Value.int 0, Value.ref h22]))) (e122 : 19 ≠ h21) (e123 : 22 ≠ h21) (e124 : 20 ≠ h21) (hw125 : w[h21]? = some (Sum.inr (2, [Value.int 64, Value.int 0, Value.int 0, Value.int 0, Value.ref h23]))) (e126 : 7 < a3.toInt) (hg127 : (a1 + (7 : Int32)) = a19) (e128 : 0 ≤ a19.toInt) (e129 : a19.toInt < 16) (hg130 : g0 a19.toInt.toNat = Value.ref h24) (hg131 : (a2 + (7 : Int32)) = a20) (e132 : 0 ≤ a20.toInt) (e133 : a20.toInt < 16) (hg134 : g0 a20.toInt.toNat = Value.ref h25) (e135 : 19 ≠ h24) (e136 : 22 ≠ h24) (e137 : 20 ≠ h24) (hw138 : w[h24]? = some (Sum.inr (2, [Value.int 64, Value.int 0, Value.int 0, Value.int 0, Value.ref h26]))) (e139 : 19 ≠ h25) (e140 : 22 ≠ h25) (e141 : 20 ≠ h25) (hw142 : w[h25]? = some (Sum.inr (2, [Value.int 64, Value.int 0, Value.int 0, Value.int 0, Value.ref h27]))) (e143 : 8 < a3.toInt) (hg144 : (a1 + (8 : Int32)) = a21) (e145 : 0 ≤ a21.toInt) (e146 : a21.toInt < 16) (hg147 : g0 a21.toInt.toNat = Value.ref h28) (hg148 : (a2 + (8 : Int32)) = a22) (e149 : 0 ≤ a22.toInt) (e150 : a22.toInt < 16) (hg151 : g0 a22.toInt.toNat = Value.ref h29) (e152 : 19 ≠ h28) (e153 : 22 ≠ h28) (e154 : 20 ≠ h28) (hw155 : w[h28]? = some (Sum.inr (2, [Value.int 64, Value.int 0, Value.int 0, Value.int 0, Value.ref h30]))) (e156 : 19 ≠ h29) (e157 : 22 ≠ h29) (e158 : 20 ≠ h29) (hw159 : w[h29]? = some (Sum.inr (2, [Value.int 64, Value.int 0, Value.int 0, Value.int 0, Value.ref h31]))) (e160 : 9 < a3.toInt) (hg161 : (a1 + (9 : Int32)) = a23) (e162 : 0 ≤ a23.toInt) (e163 : a23.toInt < 16) (hg164 : g0 a23.toInt.toNat = Value.ref h32) (hg165 : (a2 + (9 : Int32)) = a24) (e166 : 0 ≤ a24.toInt) (e167 : a24.toInt < 16) (hg168 : g0 a24.toInt.toNat = Value.ref h33) (e169 : 19 ≠ h32) (e170 : 22 ≠ h32) (e171 : 20 ≠ h32) (hw172 : w[h32]? = some (Sum.inr (2, [Value.int 64, Value.int 0, Value.int 0, Value.int 0, Value.ref h34]))) (e173 : 19 ≠ h33) (e174 : 22 ≠ h33) (e175 : 20 ≠ h33) (hw176 : w[h33]? = some (Sum.inr (2, [Value.int 64, Value.int 0, Value.int 0, Value.int 0, Value.ref h35]))) (e177 : 10 < a3.toInt) (hg178 : (a1 + (10 : Int32)) = a25) (e179 : 0 ≤ a25.toInt) (e180 : a25.toInt < 16) (hg181 : g0 a25.toInt.toNat = Value.ref h36) (hg182 : (a2 + (10 : Int32)) = a26) (e183 : 0 ≤ a26.toInt) (e184 : a26.toInt < 16) (hg185 : g0 a26.toInt.toNat = Value.ref h37) (e186 : 19 ≠ h36) (e187 : 22 ≠ h36) (e188 : 20 ≠ h36) (hw189 : w[h36]? = some (Sum.inr (2, [Value.int 64, Value.int 0, Value.int 0, Value.int 0, Value.ref h38]))) (e190 : 19 ≠ h37) (e191 : 22 ≠ h37) (e192 : 20 ≠ h37) (hw193 : w[h37]? = some (Sum.inr (2, [Value.int 64, Value.int 0, Value.int 0, Value.int 0, Value.ref h39]))) (e194 : 11 < a3.toInt) (hg195 : (a1 + (11 : Int32)) = a27) (e196 : 0 ≤ a27.toInt) (e197 : a27.toInt < 16) (hg198 : g0 a27.toInt.toNat = Value.ref h40) (hg199 : (a2 + (11 : Int32)) = a28) (e200 : 0 ≤ a28.toInt) (e201 : a28.toInt < 16) (hg202 : g0 a28.toInt.toNat = Value.ref h41) (e203 : 19 ≠ h40) (e204 : 22 ≠ h40) (e205 : 20 ≠ h40) (hw206 : w[h40]? = some (Sum.inr (2, [Value.int 64, Value.int 0, Value.int 0, Value.int 0, Value.ref h42]))) (e207 : 19 ≠ h41) (e208 : 22 ≠ h41) (e209 : 20 ≠ h41) (hw210 : w[h41]? = some (Sum.inr (2, [Value.int 64, Value.int 0, Value.int 0, Value.int 0, Value.ref h43]))) (e211 : 12 < a3.toInt) (hg212 : (a1 + (12 : Int32)) = a29) (e213 : 0 ≤ a29.toInt) (e214 : a29.toInt < 16) (hg215 : g0 a29.toInt.toNat = Value.ref h44) (hg216 : (a2 + (12 : Int32)) = a30) (e217 : 0 ≤ a30.toInt) (e218 : a30.toInt < 16) (hg219 : g0 a30.toInt.toNat = Value.ref h45) (e220 : 19 ≠ h44) (e221 : 22 ≠ h44) (e222 : 20 ≠ h44) (hw223 : w[h44]? = some (Sum.inr (2, [Value.int 64, Value.int 0, Value.int 0, Value.int 0, Value.ref h46]))) (e224 : 19 ≠ h45) (e225 : 22 ≠ h45) (e226 : 20 ≠ h45) (hw227 : w[h45]? = some (Sum.inr (2, [Value.int 64, Value.int 0, Value.int 0, Value.int 0, Value.ref h47]))) (e228 : 13 < a3.toInt) (hg229 : (a1 + (13 : Int32)) = a31) (e230 : 0 ≤ a31.toInt) (e231 : a31.toInt < 16) (hg232 : g0 a31.toInt.toNat = Value.ref h48) (hg233 : (a2 + (13 : Int32)) = a32) (e234 : 0 ≤ a32.toInt) (e235 : a32.toInt < 16) (hg236 : g0 a32.toInt.toNat = Value.ref h49) (e237 : 19 ≠ h48) (e238 : 22 ≠ h48) (e239 : 20 ≠ h48) (hw240 : w[h48]? = some (Sum.inr (2, [Value.int 64, Value.int 0, Value.int 0, Value.int 0, Value.ref h50]))) (e241 : 19 ≠ h49) (e242 : 22 ≠ h49) (e243 : 20 ≠ h49) (hw244 : w[h49]? = some (Sum.inr (2, [Value.int 64, Value.int 0, Value.int 0, Value.int 0, Value.ref h51]))) (e245 : 14 < a3.toInt) (hg246 : (a1 + (14 : Int32)) = a33) (e247 : 0 ≤ a33.toInt) (e248 : a33.toInt < 16) (hg249 : g0 a33.toInt.toNat = Value.ref h52) (hg250 : (a2 + (14 : Int32)) = a34) (e251 : 0 ≤ a34.toInt) (e252 : a34.toInt < 16) (hg253 : g0 a34.toInt.toNat = Value.ref h53) (e254 : 19 ≠ h52) (e255 : 22 ≠ h52) (e256 : 20 ≠ h52) (hw257 : w[h52]? = some (Sum.inr (2, [Value.int 64, Value.int 0, Value.int 0, Value.int 0, Value.ref h54]))) (e258 : 19 ≠ h53) (e259 : 22 ≠ h53) (e260 : 20 ≠ h53) (hw261 : w[h53]? = some (Sum.inr (2, [Value.int 64, Value.int 0, Value.int 0, Value.int 0, Value.ref h55]))) (e262 : 15 < a3.toInt) (hg263 : (a1 + (15 : Int32)) = 15) (hg264 : g0 (15 : Int32).toInt.toNat = Value.ref 75) (hg265 : (a2 + (15 : Int32)) = 15) (hw266 : w[75]? = some (Sum.inr (2, [Value.int 64, Value.int 0, Value.int 0, Value.int 0, Value.ref 76]))) (hg267 : g0 a0.toInt.toNat = Value.ref h56) (e268 : 19 ≠ h56) (e269 : 22 ≠ h56) (e270 : 20 ≠ h56) (hw271 : w[h56]? = some (Sum.inr (2, [Value.int 64, Value.int 0, Value.int 0, Value.int 0, Value.ref h57]))) (e272 : 7 ≤ h56) (e273 : h56 ≠ 194) (hw274 : w[194]? = some (Sum.inl (3, 1, fun _ => Value.long 0))) : xRun (d + 4) 114 [Value.ref 7, Value.int a0, Value.int a1, Value.int a2, Value.int a3, Value.int a4, Value.ref 194] w (.inl (some (Value.int 0))) (((((((((((((((((((((w.set 20 (Sum.inr (3, [Value.ref 21, Value.int 0]))).set 22 (Sum.inr (3, [Value.ref 23, Value.int 0]))).set 19 (Sum.inr (5, [Value.ref 20, Value.ref 22, Value.ref 24, Value.ref 26, Value.int 0, Value.int 0, Value.int 0, Value.int 0, Value.int 0, Value.int 0, Value.int 0, Value.int 0]))).set 19 (Sum.inr (5, [Value.ref 20, Value.ref 22, Value.ref 24, Value.ref 26, Value.int 0, Value.int 1, Value.int 0, Value.int 0, Value.int 0, Value.int 0, Value.int 0, Value.int 0]))).set 19 (Sum.inr (5, [Value.ref 20, Value.ref 22, Value.ref 24, Value.ref 26, Value.int 0, Value.int 1, Value.int 0, Value.int 0, Value.int 0, Value.int 0, Value.int 0, Value.int 0]))).set 19 (Sum.inr (5, [Value.ref 20, Value.ref 22, Value.ref 24, Value.ref 26, Value.int 0, Value.int 1, Value.int 0, Value.int 0, Value.int 0, Value.int 0, Value.int 0, Value.int 0]))).set 19 (Sum.inr (5, [Value.ref 20, Value.ref 22, Value.ref 24, Value.ref 26, Value.int 0, Value.int 1, Value.int 0, Value.int 0, Value.int 0, Value.int 0, Value.int 0, Value.int 0]))).set 19 (Sum.inr (5, [Value.ref 20, Value.ref 22, Value.ref 24, Value.ref 26, Value.int 0, Value.int 1, Value.int 0, Value.int 0, Value.int 0, Value.int 0, Value.int 0, Value.int 0]))).set 19 (Sum.inr (5, [Value.ref 20, Value.ref 22, Value.ref 24, Value.ref 26, Value.int 0, Value.int 1, Value.int 0, Value.int 0, Value.int 0, Value.int 0, Value.int 0, Value.int 0]))).set 19 (Sum.inr (5, [Value.ref 20, Value.ref 22, Value.ref 24, Value.ref 26, Value.int 0, Value.int 1, Value.int 0, Value.int 0, Value.int 0, Value.int 0, Value.int 0, Value.int 0]))).set 19 (Sum.inr (5, [Value.ref 20, Value.ref 22, Value.ref 24, Value.ref 26, Value.int 0, Value.int 1, Value.int 0, Value.int 0, Value.int 0, Value.int 0, Value.int 0, Value.int 0]))).set 19 (Sum.inr (5, [Value.ref 20, Value.ref 22, Value.ref 24, Value.ref 26, Value.int 0, Value.int 1, Value.int 0, Value.int 0, Value.int 0, Value.int 0, Value.int 0, Value.int 0]))).set 19 (Sum.inr (5, [Value.ref 20, Value.ref 22, Value.ref 24, Value.ref 26, Value.int 0, Value.int 1, Value.int 0, Value.int 0, Value.int 0, Value.int 0, Value.int 0, Value.int 0]))).set 19 (Sum.inr (5, [Value.ref 20, Value.ref 22, Value.ref 24, Value.ref 26, Value.int 0, Value.int 1, Value.int 0, Value.int 0, Value.int 0, Value.int 0, Value.int 0, Value.int 0]))).set 19 (Sum.inr (5, [Value.ref 20, Value.ref 22, Value.ref 24, Value.ref 26, Value.int 0, Value.int 1, Value.int 0, Value.int 0, Value.int 0, Value.int 0, Value.int 0, Value.int 0]))).set 19 (Sum.inr (5, [Value.ref 20, Value.ref 22, Value.ref 24, Value.ref 26, Value.int 0, Value.int 1, Value.int 0, Value.int 0, Value.int 0, Value.int 0, Value.int 0, Value.int 0]))).set 19 (Sum.inr (5, [Value.ref 20, Value.ref 22, Value.ref 24, Value.ref 26, Value.int 0, Value.int 1, Value.int 0, Value.int 0, Value.int 0, Value.int 0, Value.int 0, Value.int 0]))).set 19 (Sum.inr (5, [Value.ref 20, Value.ref 22, Value.ref 24, Value.ref 26, Value.int 0, Value.int 1, Value.int 0, Value.int 0, Value.int 0, Value.int 0, Value.int 0, Value.int 0]))).set 19 (Sum.inr (5, [Value.ref 20, Value.ref 22, Value.ref 24, Value.ref 26, Value.int 0, Value.int 1, Value.int 0, Value.int 0, Value.int 0, Value.int 0, Value.int 0, Value.int 0]))).set h56 (Sum.inr (2, [Value.int 64, Value.int 0, Value.int 0, Value.int 0, Value.ref h57]))).set 194 (Sum.inl (3, 1, xup (fun _ => Value.long 0) (0 : Int32).toInt.toNat (Value.long 0)))) := by
  refine xRun.of ?_
  refine i_114_0 (x := 194) rfl ?_
  refine i_114_2 ?_
  refine i_114_3 (x := 7) rfl ?_
  refine i_114_4 (x := a0) rfl ?_
  refine i_114_5 (x := a1) rfl ?_
  refine i_114_6 (x := a2) rfl ?_
  refine i_114_7 (x := a3) rfl ?_
  refine i_114_9 (x := a4) rfl ?_
  refine i_114_11 hw0 (Nat.le_of_ble_eq_true rfl) (p_115_9 e1 e2 e3 e4 e5 e6 hg7 e8 e9 e10 hg11 e12 e13 e14 hw0 hw15 hw16 hw17 e18 hg19 hw20 hg21 hg22 hw23 e24 hg25 e26 e27 hg28 hg29 e30 e31 hg32 e33 e34 e35 hw36 e37 e38 e39 hw40 e41 hg42 e43 e44 hg45 hg46 e47 e48 hg49 e50 e51 e52 hw53 e54 e55 e56 hw57 e58 hg59 e60 e61 hg62 hg63 e64 e65 hg66 e67 e68 e69 hw70 e71 e72 e73 hw74 e75 hg76 e77 e78 hg79 hg80 e81 e82 hg83 e84 e85 e86 hw87 e88 e89 e90 hw91 e92 hg93 e94 e95 hg96 hg97 e98 e99 hg100 e101 e102 e103 hw104 e105 e106 e107 hw108 e109 hg110 e111 e112 hg113 hg114 e115 e116 hg117 e118 e119 e120 hw121 e122 e123 e124 hw125 e126 hg127 e128 e129 hg130 hg131 e132 e133 hg134 e135 e136 e137 hw138 e139 e140 e141 hw142 e143 hg144 e145 e146 hg147 hg148 e149 e150 hg151 e152 e153 e154 hw155 e156 e157 e158 hw159 e160 hg161 e162 e163 hg164 hg165 e166 e167 hg168 e169 e170 e171 hw172 e173 e174 e175 hw176 e177 hg178 e179 e180 hg181 hg182 e183 e184 hg185 e186 e187 e188 hw189 e190 e191 e192 hw193 e194 hg195 e196 e197 hg198 hg199 e200 e201 hg202 e203 e204 e205 hw206 e207 e208 e209 hw210 e211 hg212 e213 e214 hg215 hg216 e217 e218 hg219 e220 e221 e222 hw223 e224 e225 e226 hw227 e228 hg229 e230 e231 hg232 hg233 e234 e235 hg236 e237 e238 e239 hw240 e241 e242 e243 hw244 e245 hg246 e247 e248 hg249 hg250 e251 e252 hg253 e254 e255 e256 hw257 e258 e259 e260 hw261 e262 hg263 hg264 hg265 hw266 hg267 e268 e269 e270 hw271 e272) ?_
  refine i_114_14 (c := 0) (by decide) ?_
  refine i_114_15 (v := Value.long 0) (xgn e273 (xgn (by decide) (xgn (by decide) (xgn (by decide) (xgn (by decide) (xgn (by decide) (xgn (by decide) (xgn (by decide) (xgn (by decide) (xgn (by decide) (xgn (by decide) (xgn (by decide) (xgn (by decide) (xgn (by decide) (xgn (by decide) (xgn (by decide) (xgn (by decide) (xgn (by decide) (xgn (by decide) (xgn (by decide) hw274)))))))))))))))))))) (by decide) (by decide) (by decide) rfl ?_
  refine i_114_16 ?_
  refine i_114_23 ?_
  exact i_114_24 ⟨rfl, rfl⟩
theorem p_196_0 {d : Nat} {w : xW} {g0 : Nat → Value} (hw0 : w[128]? = some (Sum.inr (12, [Value.ref 129, Value.ref 131, Value.ref 133, Value.ref 135, Value.ref 137, Value.ref 139, Value.ref 141, Value.ref 143, Value.ref 145, Value.ref 147, Value.ref 149, Value.ref 151, Value.ref 153, Value.ref 154, Value.ref 155, Value.ref 156, Value.ref 157, Value.int (-16384), Value.int 16384, Value.int 0, Value.int 0, Value.int 0, Value.ref 158, Value.ref 159, Value.int 0, Value.int 0, Value.int 0, Value.int 0, Value.int 0, Value.int 0, Value.int 0, Value.int 0]))) (hw1 : w[155]? = some (Sum.inl (0, 17, fun _ => Value.int 0))) (hw2 : w[153]? = some (Sum.inl (0, 17, g0))) (hg3 : g0 (0 : Int32).toInt.toNat = Value.int 64) : xRun d 196 [Value.ref 128, Value.int 0] w (.inl (some (Value.int (-64)))) w := by
  refine xRun.of ?_
  refine i_196_0 (x := 128) rfl ?_
  refine i_196_1 (v := Value.ref 155) hw0 rfl ?_
  refine i_196_4 (x := 0) rfl ?_
  refine i_196_5 (v := Value.int 0) hw1 (by decide) (by decide) rfl ?_
  refine i_196_6 (x := 128) rfl ?_
  refine i_196_7 (v := Value.ref 153) hw0 rfl ?_
  refine i_196_10 (x := 0) rfl ?_
  refine i_196_11 (v := Value.int 64) hw2 (by decide) (by decide) hg3 ?_
  refine i_196_12 (c := (-64)) (by decide) ?_
  exact i_196_13 ⟨rfl, rfl⟩
theorem p_272_0 {d : Nat} {w : xW} : xRun d 272 [Value.int 2147483647, Value.int (-128)] w (.inl (some (Value.int (-128)))) w := by
  refine xRun.of ?_
  refine i_272_0 (x := 2147483647) rfl ?_
  refine i_272_1 (x := (-128)) rfl ?_
  refine i_272_2 (fun _ => ?_) (fun h => absurd h (by decide))
  refine i_272_9 (x := (-128)) rfl ?_
  exact i_272_10 ⟨rfl, rfl⟩
theorem p_196_1 {d : Nat} {w : xW} {a0 : Int32} {g0 : Nat → Value} (hw0 : w[128]? = some (Sum.inr (12, [Value.ref 129, Value.ref 131, Value.ref 133, Value.ref 135, Value.ref 137, Value.ref 139, Value.ref 141, Value.ref 143, Value.ref 145, Value.ref 147, Value.ref 149, Value.ref 151, Value.ref 153, Value.ref 154, Value.ref 155, Value.ref 156, Value.ref 157, Value.int (-16384), Value.int 16384, Value.int 0, Value.int 0, Value.int 0, Value.ref 158, Value.ref 159, Value.int 0, Value.int 0, Value.int 0, Value.int 0, Value.int 0, Value.int 0, Value.int 0, Value.int 0]))) (hw1 : w[155]? = some (Sum.inl (0, 17, fun _ => Value.int 0))) (e2 : 0 ≤ a0.toInt) (e3 : a0.toInt < 17) (hw4 : w[153]? = some (Sum.inl (0, 17, g0))) (hg5 : g0 a0.toInt.toNat = Value.int 64) : xRun d 196 [Value.ref 128, Value.int a0] w (.inl (some (Value.int (-64)))) w := by
  refine xRun.of ?_
  refine i_196_0 (x := 128) rfl ?_
  refine i_196_1 (v := Value.ref 155) hw0 rfl ?_
  refine i_196_4 (x := a0) rfl ?_
  refine i_196_5 (v := Value.int 0) hw1 e2 e3 rfl ?_
  refine i_196_6 (x := 128) rfl ?_
  refine i_196_7 (v := Value.ref 153) hw0 rfl ?_
  refine i_196_10 (x := a0) rfl ?_
  refine i_196_11 (v := Value.int 64) hw4 e2 e3 hg5 ?_
  refine i_196_12 (c := (-64)) (by decide) ?_
  exact i_196_13 ⟨rfl, rfl⟩
theorem p_272_1 {d : Nat} {w : xW} : xRun d 272 [Value.int (-128), Value.int (-128)] w (.inl (some (Value.int (-128)))) w := by
  refine xRun.of ?_
  refine i_272_0 (x := (-128)) rfl ?_
  refine i_272_1 (x := (-128)) rfl ?_
  refine i_272_2 (fun h => absurd h (by decide)) (fun _ => ?_)
  refine i_272_5 (x := (-128)) rfl ?_
  refine i_272_6 ?_
  exact i_272_10 ⟨rfl, rfl⟩
theorem p_196_2 {d : Nat} {w : xW} {g0 : Nat → Value} (hw0 : w[128]? = some (Sum.inr (12, [Value.ref 129, Value.ref 131, Value.ref 133, Value.ref 135, Value.ref 137, Value.ref 139, Value.ref 141, Value.ref 143, Value.ref 145, Value.ref 147, Value.ref 149, Value.ref 151, Value.ref 153, Value.ref 154, Value.ref 155, Value.ref 156, Value.ref 157, Value.int (-16384), Value.int 16384, Value.int 0, Value.int 0, Value.int 0, Value.ref 158, Value.ref 159, Value.int 0, Value.int 0, Value.int 0, Value.int 0, Value.int 0, Value.int 0, Value.int 0, Value.int 0]))) (hw1 : w[155]? = some (Sum.inl (0, 17, fun _ => Value.int 0))) (hw2 : w[153]? = some (Sum.inl (0, 17, g0))) (hg3 : g0 (15 : Int32).toInt.toNat = Value.int 64) : xRun d 196 [Value.ref 128, Value.int 15] w (.inl (some (Value.int (-64)))) w := by
  refine xRun.of ?_
  refine i_196_0 (x := 128) rfl ?_
  refine i_196_1 (v := Value.ref 155) hw0 rfl ?_
  refine i_196_4 (x := 15) rfl ?_
  refine i_196_5 (v := Value.int 0) hw1 (by decide) (by decide) rfl ?_
  refine i_196_6 (x := 128) rfl ?_
  refine i_196_7 (v := Value.ref 153) hw0 rfl ?_
  refine i_196_10 (x := 15) rfl ?_
  refine i_196_11 (v := Value.int 64) hw2 (by decide) (by decide) hg3 ?_
  refine i_196_12 (c := (-64)) (by decide) ?_
  exact i_196_13 ⟨rfl, rfl⟩
