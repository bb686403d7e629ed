theorem p_115_0 {d : Nat} {w : xW} {a0 : Int32} {a1 : Int32} {a2 : Int32} {a3 : Int32} {a4 : Int32} (e0 : a0.toInt < 0) : xRun (d + 6) 115 [Value.ref 7, Value.int a0, Value.int a1, Value.int a2, Value.int a3, Value.int a4] w (.inr w.length) (w ++ [Sum.inr (14, [])]) := by
  refine xRun.of ?_
  refine i_115_0 (x := a0) rfl ?_
  refine i_115_1 (Nat.le_of_ble_eq_true rfl) (p_15_0 e0) ?_
  refine i_115_4 (fun _ => ?_) (fun h => absurd h (by decide))
  exact i_115_33 (by omega) (Nat.le_of_ble_eq_true rfl) ⟨rfl, rfl⟩
theorem p_114_0 {d : Nat} {w : xW} {a0 : Int32} {a1 : Int32} {a2 : Int32} {a3 : Int32} {a4 : Int32} (hw0 : w[7]? = some (Sum.inr (0, [Value.ref 8, Value.ref 78, Value.ref 9, Value.ref 10, Value.ref 13, Value.ref 16, Value.ref 19, Value.ref 93, Value.ref 108, Value.ref 113, Value.ref 29, Value.int 0]))) (e1 : a0.toInt < 0) : xRun (d + 7) 114 [Value.ref 7, Value.int a0, Value.int a1, Value.int a2, Value.int a3, Value.int a4, Value.ref 194] w (.inl (some (Value.int 1))) (w ++ [Sum.inr (14, [])]) := by
  refine xRun.of ?_
  refine i_114_0 (x := 194) rfl ?_
  refine i_114_2 ?_
  refine i_114_3 (x := 7) rfl ?_
  refine i_114_4 (x := a0) rfl ?_
  refine i_114_5 (x := a1) rfl ?_
  refine i_114_6 (x := a2) rfl ?_
  refine i_114_7 (x := a3) rfl ?_
  refine i_114_9 (x := a4) rfl ?_
  refine j_114_11 hw0 (Nat.le_of_ble_eq_true rfl) (p_115_0 e1) (xDone.c xgl rfl rfl ?_)
  refine i_114_19 (lv2 := [(7, Value.ref w.length), (0, Value.ref 7), (1, Value.int a0), (2, Value.int a1), (3, Value.int a2), (4, Value.int a3), (5, Value.int a4), (6, Value.ref 194)]) rfl ?_
  refine i_114_21 ?_
  exact i_114_22 ⟨rfl, rfl⟩
theorem p_231_0 {d : Nat} {w : xW} {a0 : Int32} {a1 : Int32} {a2 : Int32} {a3 : Int32} {a4 : Int32} (e0 : a0.toInt < 0) : xRun (d + 8) 231 [Value.ref 128, Value.int a0, Value.int a1, Value.int a2, Value.int a3, Value.int a4] w (.inr w.length) (w ++ [Sum.inr (14, [])]) := by
  refine xRun.of ?_
  refine i_231_0 (x := a0) rfl ?_
  exact j_231_1 (Nat.le_of_ble_eq_true rfl) (p_168_0 e0) (xDone.t xgl rfl rfl ⟨rfl, rfl⟩)
theorem p_230_0 {d : Nat} {w : xW} {a0 : Int32} {a1 : Int32} {a2 : Int32} {a3 : Int32} {a4 : Int32} (hw0 : w[128]? = some (Sum.inr (12, [Value.ref 129, Value.ref 131, Value.ref 133, Value.ref 135, Value.ref 137, Value.ref 139, Value.ref 141, Value.ref 143, Value.ref 145, Value.ref 147, Value.ref 149, Value.ref 151, Value.ref 153, Value.ref 154, Value.ref 155, Value.ref 156, Value.ref 157, Value.int (-16384), Value.int 16384, Value.int 0, Value.int 0, Value.int 0, Value.ref 158, Value.ref 159, Value.int 0, Value.int 0, Value.int 0, Value.int 0, Value.int 0, Value.int 0, Value.int 0, Value.int 0]))) (e1 : a0.toInt < 0) : xRun (d + 9) 230 [Value.ref 128, Value.int a0, Value.int a1, Value.int a2, Value.int a3, Value.int a4] w (.inl (some (Value.int 0))) (((w.set 128 (Sum.inr (12, [Value.ref 129, Value.ref 131, Value.ref 133, Value.ref 135, Value.ref 137, Value.ref 139, Value.ref 141, Value.ref 143, Value.ref 145, Value.ref 147, Value.ref 149, Value.ref 151, Value.ref 153, Value.ref 154, Value.ref 155, Value.ref 156, Value.ref 157, Value.int (-16384), Value.int 16384, Value.int 0, Value.int 0, Value.int 0, Value.ref 158, Value.ref 159, Value.int 0, Value.int 0, Value.int 0, Value.int 0, Value.int 0, Value.int 0, Value.int 0, Value.int 0]))) ++ [Sum.inr (14, [])]).set 128 (Sum.inr (12, [Value.ref 129, Value.ref 131, Value.ref 133, Value.ref 135, Value.ref 137, Value.ref 139, Value.ref 141, Value.ref 143, Value.ref 145, Value.ref 147, Value.ref 149, Value.ref 151, Value.ref 153, Value.ref 154, Value.ref 155, Value.ref 156, Value.ref 157, Value.int (-16384), Value.int 16384, Value.int 0, Value.int 0, Value.int 0, Value.ref 158, Value.ref 159, Value.int 0, Value.int 0, Value.int 0, Value.int 0, Value.int 0, Value.int 0, Value.int 0, Value.int 1]))) := by
  refine xRun.of ?_
  refine i_230_0 (x := 128) rfl ?_
  refine i_230_1 ?_
  refine i_230_2 (fs2 := [Value.ref 129, Value.ref 131, Value.ref 133, Value.ref 135, Value.ref 137, Value.ref 139, Value.ref 141, Value.ref 143, Value.ref 145, Value.ref 147, Value.ref 149, Value.ref 151, Value.ref 153, Value.ref 154, Value.ref 155, Value.ref 156, Value.ref 157, Value.int (-16384), Value.int 16384, Value.int 0, Value.int 0, Value.int 0, Value.ref 158, Value.ref 159, Value.int 0, Value.int 0, Value.int 0, Value.int 0, Value.int 0, Value.int 0, Value.int 0, Value.int 0]) hw0 (Nat.le_of_ble_eq_true rfl) rfl (by decide) ?_
  refine i_230_5 (x := 128) rfl ?_
  refine i_230_6 (x := a0) rfl ?_
  refine i_230_7 (x := a1) rfl ?_
  refine i_230_8 (x := a2) rfl ?_
  refine i_230_9 (x := a3) rfl ?_
  refine i_230_11 (x := a4) rfl ?_
  refine j_230_13 (xgs hw0) (Nat.le_of_ble_eq_true rfl) (p_231_0 e1) (xDone.c xgl rfl rfl ?_)
  refine i_230_17 (lv2 := [(6, Value.ref ((w.set 128 (Sum.inr (12, [Value.ref 129, Value.ref 131, Value.ref 133, Value.ref 135, Value.ref 137, Value.ref 139, Value.ref 141, Value.ref 143, Value.ref 145, Value.ref 147, Value.ref 149, Value.ref 151, Value.ref 153, Value.ref 154, Value.ref 155, Value.ref 156, Value.ref 157, Value.int (-16384), Value.int 16384, Value.int 0, Value.int 0, Value.int 0, Value.ref 158, Value.ref 159, Value.int 0, Value.int 0, Value.int 0, Value.int 0, Value.int 0, Value.int 0, Value.int 0, Value.int 0]))).length)), (0, Value.ref 128), (1, Value.int a0), (2, Value.int a1), (3, Value.int a2), (4, Value.int a3), (5, Value.int a4)]) rfl ?_
  refine i_230_19 (x := 128) rfl ?_
  refine i_230_20 ?_
  refine i_230_21 (fs2 := [Value.ref 129, Value.ref 131, Value.ref 133, Value.ref 135, Value.ref 137, Value.ref 139, Value.ref 141, Value.ref 143, Value.ref 145, Value.ref 147, Value.ref 149, Value.ref 151, Value.ref 153, Value.ref 154, Value.ref 155, Value.ref 156, Value.ref 157, Value.int (-16384), Value.int 16384, Value.int 0, Value.int 0, Value.int 0, Value.ref 158, Value.ref 159, Value.int 0, Value.int 0, Value.int 0, Value.int 0, Value.int 0, Value.int 0, Value.int 0, Value.int 1]) (xga (xgs hw0)) (Nat.le_of_ble_eq_true rfl) rfl (by decide) ?_
  refine i_230_24 ?_
  exact i_230_25 ⟨rfl, rfl⟩
theorem g_11_0 {z0 z1 : Int} (h0 : z0 = 11) (c0 : z1 < 0) : (z1 < 0) := by
  exact by omega
theorem o_11_0 {d : Nat} {xs : Nat → Int32} (h0 : ((xs 0) &&& (31 : Int32)).toInt = 11) (c0 : (xs 1).toInt < 0) : ∃ w1, xEv (d + 20) 287 23 [(4, Value.int 0), (3, Value.ref 194), (2, Value.ref 128), (1, Value.ref 7), (0, Value.ref 0)] [] (W0 6 xs) (fun o' w' => o' = .inl (some (Value.int 1)) ∧ w' = w1) ∧ w1.length ≤ 220 ∧ xsz w1 ≤ 200000 := by
  have G : id ((xs 1).toInt < 0) := g_11_0 h0 c0
  refine ⟨(((((W0 6 xs) ++ [Sum.inr (14, [])]).set 128 (Sum.inr (12, [Value.ref 129, Value.ref 131, Value.ref 133, Value.ref 135, Value.ref 137, Value.ref 139, Value.ref 141, Value.ref 143, Value.ref 145, Value.ref 147, Value.ref 149, Value.ref 151, Value.ref 153, Value.ref 154, Value.ref 155, Value.ref 156, Value.ref 157, Value.int (-16384), Value.int 16384, Value.int 0, Value.int 0, Value.int 0, Value.ref 158, Value.ref 159, Value.int 0, Value.int 0, Value.int 0, Value.int 0, Value.int 0, Value.int 0, Value.int 0, Value.int 0]))) ++ [Sum.inr (14, [])]).set 128 (Sum.inr (12, [Value.ref 129, Value.ref 131, Value.ref 133, Value.ref 135, Value.ref 137, Value.ref 139, Value.ref 141, Value.ref 143, Value.ref 145, Value.ref 147, Value.ref 149, Value.ref 151, Value.ref 153, Value.ref 154, Value.ref 155, Value.ref 156, Value.ref 157, Value.int (-16384), Value.int 16384, Value.int 0, Value.int 0, Value.int 0, Value.ref 158, Value.ref 159, Value.int 0, Value.int 0, Value.int 0, Value.int 0, Value.int 0, Value.int 0, Value.int 0, Value.int 1]))), ?_, (show xLs _ 220 200000 from ?_)⟩
  · refine i_287_23 (x := 0) rfl ?_
    refine i_287_25 (x := 0) rfl ?_
    refine i_287_26 (c := 6) W0_0 (by decide) ?_
    refine i_287_27 ?_
    refine i_287_29 (c := 0) (by decide) ?_
    refine i_287_30 (fun h => absurd h (by decide)) (fun _ => ?_)
    refine i_287_33 (x := 0) rfl ?_
    refine i_287_34 (x := 0) rfl ?_
    refine i_287_36 (v := Value.int (xs 0)) W0_0 (by decide) (by decide) rfl ?_
    refine i_287_37 ?_
    refine i_287_39 (c := 11) (show ((xs 0) &&& (31 : Int32)) = 11 from (xge_c (n := 11) h0 rfl)) ?_
    refine i_287_40_11 rfl ?_
    refine i_287_1149 (x := 7) rfl ?_
    refine i_287_1150 (x := 0) rfl ?_
    refine i_287_1151 (x := 0) rfl ?_
    refine i_287_1153 ?_
    refine i_287_1154 (c := 1) (by decide) ?_
    refine i_287_1155 (v := Value.int (xs 1)) W0_0 (by decide) (by decide) rfl ?_
    refine i_287_1156 (x := 0) rfl ?_
    refine i_287_1157 (x := 0) rfl ?_
    refine i_287_1159 ?_
    refine i_287_1160 (c := 2) (by decide) ?_
    refine i_287_1161 (v := Value.int (xs 2)) W0_0 (by decide) (by decide) rfl ?_
    refine i_287_1162 (x := 0) rfl ?_
    refine i_287_1163 (x := 0) rfl ?_
    refine i_287_1165 ?_
    refine i_287_1166 (c := 3) (by decide) ?_
    refine i_287_1167 (v := Value.int (xs 3)) W0_0 (by decide) (by decide) rfl ?_
    refine i_287_1168 (x := 0) rfl ?_
    refine i_287_1169 (x := 0) rfl ?_
    refine i_287_1171 ?_
    refine i_287_1172 (c := 4) (by decide) ?_
    refine i_287_1173 (v := Value.int (xs 4)) W0_0 (by decide) (by decide) rfl ?_
    refine i_287_1174 (x := 0) rfl ?_
    refine i_287_1175 (x := 0) rfl ?_
    refine i_287_1177 ?_
    refine i_287_1178 (c := 5) (by decide) ?_
    refine i_287_1179 (v := Value.int (xs 5)) W0_0 (by decide) (by decide) rfl ?_
    refine i_287_1180 (x := 194) rfl ?_
    refine i_287_1181 (Nat.le_of_ble_eq_true rfl) (p_114_0 W0_7 (G)) ?_
    refine i_287_1184 (lv2 := [(5, Value.int 1), (4, Value.int 0), (3, Value.ref 194), (2, Value.ref 128), (1, Value.ref 7), (0, Value.ref 0)]) rfl ?_
    refine i_287_1186 (x := 128) rfl ?_
    refine i_287_1187 (x := 0) rfl ?_
    refine i_287_1188 (x := 0) rfl ?_
    refine i_287_1190 ?_
    refine i_287_1191 (c := 1) (by decide) ?_
    refine i_287_1192 (v := Value.int (xs 1)) (xga W0_0) (by decide) (by decide) rfl ?_
    refine i_287_1193 (x := 0) rfl ?_
    refine i_287_1194 (x := 0) rfl ?_
    refine i_287_1196 ?_
    refine i_287_1197 (c := 2) (by decide) ?_
    refine i_287_1198 (v := Value.int (xs 2)) (xga W0_0) (by decide) (by decide) rfl ?_
    refine i_287_1199 (x := 0) rfl ?_
    refine i_287_1200 (x := 0) rfl ?_
    refine i_287_1202 ?_
    refine i_287_1203 (c := 3) (by decide) ?_
    refine i_287_1204 (v := Value.int (xs 3)) (xga W0_0) (by decide) (by decide) rfl ?_
    refine i_287_1205 (x := 0) rfl ?_
    refine i_287_1206 (x := 0) rfl ?_
    refine i_287_1208 ?_
    refine i_287_1209 (c := 4) (by decide) ?_
    refine i_287_1210 (v := Value.int (xs 4)) (xga W0_0) (by decide) (by decide) rfl ?_
    refine i_287_1211 (x := 0) rfl ?_
    refine i_287_1212 (x := 0) rfl ?_
    refine i_287_1214 ?_
    refine i_287_1215 (c := 5) (by decide) ?_
    refine i_287_1216 (v := Value.int (xs 5)) (xga W0_0) (by decide) (by decide) rfl ?_
    refine i_287_1217 (xga W0_128) (Nat.le_of_ble_eq_true rfl) (p_230_0 (xga W0_128) (G)) ?_
    refine i_287_1220 (lv2 := [(6, Value.int 0), (5, Value.int 1), (4, Value.int 0), (3, Value.ref 194), (2, Value.ref 128), (1, Value.ref 7), (0, Value.ref 0)]) rfl ?_
    refine i_287_1222 (x := 128) rfl ?_
    refine i_287_1223 (xgs (xga (xgs (xga W0_128)))) (Nat.le_of_ble_eq_true rfl) (p_165_0 (xgs (xga (xgs (xga W0_128))))) ?_
    refine i_287_1226 (x := 1) rfl ?_
    refine i_287_1228 (fun _ => ?_) (fun h => absurd h (by decide))
    refine i_287_1233 (x := 1) rfl ?_
    refine i_287_1235 (fun _ => ?_) (fun h => absurd h (by decide))
    refine i_287_1250 ?_
    refine i_287_2154 (x := 0) (c := 6) (lv2 := [(4, Value.int 6), (6, Value.int 0), (5, Value.int 1), (3, Value.ref 194), (2, Value.ref 128), (1, Value.ref 7), (0, Value.ref 0)]) rfl (by decide) rfl ?_
    refine i_287_2157 ?_
    refine i_287_23 (x := 6) rfl ?_
    refine i_287_25 (x := 0) rfl ?_
    refine i_287_26 (c := 6) (xgn (by decide) (xga (xgn (by decide) (xga W0_0)))) (by decide) ?_
    refine i_287_27 ?_
    refine i_287_29 (c := 0) (by decide) ?_
    refine i_287_30 (fun _ => ?_) (fun h => absurd h (by decide))
    refine i_287_2160 ?_
    exact i_287_2161 rfl ⟨rfl, rfl⟩
  · refine xLs.set ?_ (xga (xgs (xga W0_128))) xcs_o
    refine xLs.app (n := 219) (z := 199994) (m := 6) ?_ rfl
    refine xLs.set ?_ (xga W0_128) xcs_o
    refine xLs.app (n := 218) (z := 199988) (m := 6) ?_ rfl
    exact ⟨Nat.le_trans (Nat.le_of_eq W0_len) (by decide), Nat.le_trans (Nat.le_of_eq W0_sz) (by decide)⟩
theorem p_115_1 {d : Nat} {w : xW} {a0 : Int32} {a1 : Int32} {a2 : Int32} {a3 : Int32} {a4 : Int32} (e0 : 0 ≤ a0.toInt) (e1 : a0.toInt < 16) (e2 : a1.toInt < 0) : xRun (d + 6) 115 [Value.ref 7, Value.int a0, Value.int a1, Value.int a2, Value.int a3, Value.int a4] w (.inr w.length) (w ++ [Sum.inr (14, [])]) := by
  refine xRun.of ?_
  refine i_115_0 (x := a0) rfl ?_
  refine i_115_1 (Nat.le_of_ble_eq_true rfl) (p_15_1 e0 e1) ?_
  refine i_115_4 (fun h => absurd h (by decide)) (fun _ => ?_)
  refine i_115_7 (x := a1) rfl ?_
  refine i_115_8 (x := a3) rfl ?_
  refine i_115_10 (Nat.le_of_ble_eq_true rfl) (p_113_0 e2) ?_
  refine i_115_13 (fun _ => ?_) (fun h => absurd h (by decide))
  exact i_115_33 (by omega) (Nat.le_of_ble_eq_true rfl) ⟨rfl, rfl⟩
theorem p_114_1 {d : Nat} {w : xW} {a0 : Int32} {a1 : Int32} {a2 : Int32} {a3 : Int32} {a4 : Int32} (hw0 : w[7]? = some (Sum.inr (0, [Value.ref 8, Value.ref 78, Value.ref 9, Value.ref 10, Value.ref 13, Value.ref 16, Value.ref 19, Value.ref 93, Value.ref 108, Value.ref 113, Value.ref 29, Value.int 0]))) (e1 : 0 ≤ a0.toInt) (e2 : a0.toInt < 16) (e3 : a1.toInt < 0) : xRun (d + 7) 114 [Value.ref 7, Value.int a0, Value.int a1, Value.int a2, Value.int a3, Value.int a4, Value.ref 194] w (.inl (some (Value.int 1))) (w ++ [Sum.inr (14, [])]) := by
  refine xRun.of ?_
  refine i_114_0 (x := 194) rfl ?_
  refine i_114_2 ?_
  refine i_114_3 (x := 7) rfl ?_
  refine i_114_4 (x := a0) rfl ?_
  refine i_114_5 (x := a1) rfl ?_
  refine i_114_6 (x := a2) rfl ?_
  refine i_114_7 (x := a3) rfl ?_
  refine i_114_9 (x := a4) rfl ?_
  refine j_114_11 hw0 (Nat.le_of_ble_eq_true rfl) (p_115_1 e1 e2 e3) (xDone.c xgl rfl rfl ?_)
  refine i_114_19 (lv2 := [(7, Value.ref w.length), (0, Value.ref 7), (1, Value.int a0), (2, Value.int a1), (3, Value.int a2), (4, Value.int a3), (5, Value.int a4), (6, Value.ref 194)]) rfl ?_
  refine i_114_21 ?_
  exact i_114_22 ⟨rfl, rfl⟩
theorem p_231_1 {d : Nat} {w : xW} {a0 : Int32} {a1 : Int32} {a2 : Int32} {a3 : Int32} {a4 : Int32} (e0 : 0 ≤ a0.toInt) (e1 : a0.toInt ≤ 15) (e2 : a1.toInt < 0) : xRun (d + 8) 231 [Value.ref 128, Value.int a0, Value.int a1, Value.int a2, Value.int a3, Value.int a4] w (.inr w.length) (w ++ [Sum.inr (14, [])]) := by
  refine xRun.of ?_
  refine i_231_0 (x := a0) rfl ?_
  refine i_231_1 (Nat.le_of_ble_eq_true rfl) (p_168_1 e0 e1) ?_
  refine i_231_4 (x := a1) rfl ?_
  exact j_231_5 (Nat.le_of_ble_eq_true rfl) (p_168_0 e2) (xDone.t xgl rfl rfl ⟨rfl, rfl⟩)
theorem p_230_1 {d : Nat} {w : xW} {a0 : Int32} {a1 : Int32} {a2 : Int32} {a3 : Int32} {a4 : Int32} (hw0 : w[128]? = some (Sum.inr (12, [Value.ref 129, Value.ref 131, Value.ref 133, Value.ref 135, Value.ref 137, Value.ref 139, Value.ref 141, Value.ref 143, Value.ref 145, Value.ref 147, Value.ref 149, Value.ref 151, Value.ref 153, Value.ref 154, Value.ref 155, Value.ref 156, Value.ref 157, Value.int (-16384), Value.int 16384, Value.int 0, Value.int 0, Value.int 0, Value.ref 158, Value.ref 159, Value.int 0, Value.int 0, Value.int 0, Value.int 0, Value.int 0, Value.int 0, Value.int 0, Value.int 0]))) (e1 : 0 ≤ a0.toInt) (e2 : a0.toInt ≤ 15) (e3 : a1.toInt < 0) : xRun (d + 9) 230 [Value.ref 128, Value.int a0, Value.int a1, Value.int a2, Value.int a3, Value.int a4] w (.inl (some (Value.int 0))) (((w.set 128 (Sum.inr (12, [Value.ref 129, Value.ref 131, Value.ref 133, Value.ref 135, Value.ref 137, Value.ref 139, Value.ref 141, Value.ref 143, Value.ref 145, Value.ref 147, Value.ref 149, Value.ref 151, Value.ref 153, Value.ref 154, Value.ref 155, Value.ref 156, Value.ref 157, Value.int (-16384), Value.int 16384, Value.int 0, Value.int 0, Value.int 0, Value.ref 158, Value.ref 159, Value.int 0, Value.int 0, Value.int 0, Value.int 0, Value.int 0, Value.int 0, Value.int 0, Value.int 0]))) ++ [Sum.inr (14, [])]).set 128 (Sum.inr (12, [Value.ref 129, Value.ref 131, Value.ref 133, Value.ref 135, Value.ref 137, Value.ref 139, Value.ref 141, Value.ref 143, Value.ref 145, Value.ref 147, Value.ref 149, Value.ref 151, Value.ref 153, Value.ref 154, Value.ref 155, Value.ref 156, Value.ref 157, Value.int (-16384), Value.int 16384, Value.int 0, Value.int 0, Value.int 0, Value.ref 158, Value.ref 159, Value.int 0, Value.int 0, Value.int 0, Value.int 0, Value.int 0, Value.int 0, Value.int 0, Value.int 1]))) := by
  refine xRun.of ?_
  refine i_230_0 (x := 128) rfl ?_
  refine i_230_1 ?_
  refine i_230_2 (fs2 := [Value.ref 129, Value.ref 131, Value.ref 133, Value.ref 135, Value.ref 137, Value.ref 139, Value.ref 141, Value.ref 143, Value.ref 145, Value.ref 147, Value.ref 149, Value.ref 151, Value.ref 153, Value.ref 154, Value.ref 155, Value.ref 156, Value.ref 157, Value.int (-16384), Value.int 16384, Value.int 0, Value.int 0, Value.int 0, Value.ref 158, Value.ref 159, Value.int 0, Value.int 0, Value.int 0, Value.int 0, Value.int 0, Value.int 0, Value.int 0, Value.int 0]) hw0 (Nat.le_of_ble_eq_true rfl) rfl (by decide) ?_
  refine i_230_5 (x := 128) rfl ?_
  refine i_230_6 (x := a0) rfl ?_
  refine i_230_7 (x := a1) rfl ?_
  refine i_230_8 (x := a2) rfl ?_
  refine i_230_9 (x := a3) rfl ?_
  refine i_230_11 (x := a4) rfl ?_
  refine j_230_13 (xgs hw0) (Nat.le_of_ble_eq_true rfl) (p_231_1 e1 e2 e3) (xDone.c xgl rfl rfl ?_)
  refine i_230_17 (lv2 := [(6, Value.ref ((w.set 128 (Sum.inr (12, [Value.ref 129, Value.ref 131, Value.ref 133, Value.ref 135, Value.ref 137, Value.ref 139, Value.ref 141, Value.ref 143, Value.ref 145, Value.ref 147, Value.ref 149, Value.ref 151, Value.ref 153, Value.ref 154, Value.ref 155, Value.ref 156, Value.ref 157, Value.int (-16384), Value.int 16384, Value.int 0, Value.int 0, Value.int 0, Value.ref 158, Value.ref 159, Value.int 0, Value.int 0, Value.int 0, Value.int 0, Value.int 0, Value.int 0, Value.int 0, Value.int 0]))).length)), (0, Value.ref 128), (1, Value.int a0), (2, Value.int a1), (3, Value.int a2), (4, Value.int a3), (5, Value.int a4)]) rfl ?_
  refine i_230_19 (x := 128) rfl ?_
  refine i_230_20 ?_
  refine i_230_21 (fs2 := [Value.ref 129, Value.ref 131, Value.ref 133, Value.ref 135, Value.ref 137, Value.ref 139, Value.ref 141, Value.ref 143, Value.ref 145, Value.ref 147, Value.ref 149, Value.ref 151, Value.ref 153, Value.ref 154, Value.ref 155, Value.ref 156, Value.ref 157, Value.int (-16384), Value.int 16384, Value.int 0, Value.int 0, Value.int 0, Value.ref 158, Value.ref 159, Value.int 0, Value.int 0, Value.int 0, Value.int 0, Value.int 0, Value.int 0, Value.int 0, Value.int 1]) (xga (xgs hw0)) (Nat.le_of_ble_eq_true rfl) rfl (by decide) ?_
  refine i_230_24 ?_
  exact i_230_25 ⟨rfl, rfl⟩
theorem g_11_1 {z0 z1 z2 : Int} (h0 : z0 = 11) (c0 : 0 ≤ z1) (c1 : z1 < 16) (c2 : z2 < 0) : (((0 ≤ z1) ∧ (z1 < 16)) ∧ ((z2 < 0) ∧ (z1 ≤ 15))) := by
  exact ⟨⟨by omega, by omega⟩, ⟨by omega, by omega⟩⟩
theorem o_11_1 {d : Nat} {xs : Nat → Int32} (h0 : ((xs 0) &&& (31 : Int32)).toInt = 11) (c0 : 0 ≤ (xs 1).toInt) (c1 : (xs 1).toInt < 16) (c2 : (xs 2).toInt < 0) : ∃ w1, xEv (d + 20) 287 23 [(4, Value.int 0), (3, Value.ref 194), (2, Value.ref 128), (1, Value.ref 7), (0, Value.ref 0)] [] (W0 6 xs) (fun o' w' => o' = .inl (some (Value.int 1)) ∧ w' = w1) ∧ w1.length ≤ 220 ∧ xsz w1 ≤ 200000 := by
  have G : id (((0 ≤ (xs 1).toInt) ∧ ((xs 1).toInt < 16)) ∧ (((xs 2).toInt < 0) ∧ ((xs 1).toInt ≤ 15))) := g_11_1 h0 c0 c1 c2
  refine ⟨(((((W0 6 xs) ++ [Sum.inr (14, [])]).set 128 (Sum.inr (12, [Value.ref 129, Value.ref 131, Value.ref 133, Value.ref 135, Value.ref 137, Value.ref 139, Value.ref 141, Value.ref 143, Value.ref 145, Value.ref 147, Value.ref 149, Value.ref 151, Value.ref 153, Value.ref 154, Value.ref 155, Value.ref 156, Value.ref 157, Value.int (-16384), Value.int 16384, Value.int 0, Value.int 0, Value.int 0, Value.ref 158, Value.ref 159, Value.int 0, Value.int 0, Value.int 0, Value.int 0, Value.int 0, Value.int 0, Value.int 0, Value.int 0]))) ++ [Sum.inr (14, [])]).set 128 (Sum.inr (12, [Value.ref 129, Value.ref 131, Value.ref 133, Value.ref 135, Value.ref 137, Value.ref 139, Value.ref 141, Value.ref 143, Value.ref 145, Value.ref 147, Value.ref 149, Value.ref 151, Value.ref 153, Value.ref 154, Value.ref 155, Value.ref 156, Value.ref 157, Value.int (-16384), Value.int 16384, Value.int 0, Value.int 0, Value.int 0, Value.ref 158, Value.ref 159, Value.int 0, Value.int 0, Value.int 0, Value.int 0, Value.int 0, Value.int 0, Value.int 0, Value.int 1]))), ?_, (show xLs _ 220 200000 from ?_)⟩
  · refine i_287_23 (x := 0) rfl ?_
    refine i_287_25 (x := 0) rfl ?_
    refine i_287_26 (c := 6) W0_0 (by decide) ?_
    refine i_287_27 ?_
    refine i_287_29 (c := 0) (by decide) ?_
    refine i_287_30 (fun h => absurd h (by decide)) (fun _ => ?_)
    refine i_287_33 (x := 0) rfl ?_
    refine i_287_34 (x := 0) rfl ?_
    refine i_287_36 (v := Value.int (xs 0)) W0_0 (by decide) (by decide) rfl ?_
    refine i_287_37 ?_
    refine i_287_39 (c := 11) (show ((xs 0) &&& (31 : Int32)) = 11 from (xge_c (n := 11) h0 rfl)) ?_
    refine i_287_40_11 rfl ?_
    refine i_287_1149 (x := 7) rfl ?_
    refine i_287_1150 (x := 0) rfl ?_
    refine i_287_1151 (x := 0) rfl ?_
    refine i_287_1153 ?_
    refine i_287_1154 (c := 1) (by decide) ?_
    refine i_287_1155 (v := Value.int (xs 1)) W0_0 (by decide) (by decide) rfl ?_
    refine i_287_1156 (x := 0) rfl ?_
    refine i_287_1157 (x := 0) rfl ?_
    refine i_287_1159 ?_
    refine i_287_1160 (c := 2) (by decide) ?_
    refine i_287_1161 (v := Value.int (xs 2)) W0_0 (by decide) (by decide) rfl ?_
    refine i_287_1162 (x := 0) rfl ?_
    refine i_287_1163 (x := 0) rfl ?_
    refine i_287_1165 ?_
    refine i_287_1166 (c := 3) (by decide) ?_
    refine i_287_1167 (v := Value.int (xs 3)) W0_0 (by decide) (by decide) rfl ?_
    refine i_287_1168 (x := 0) rfl ?_
    refine i_287_1169 (x := 0) rfl ?_
    refine i_287_1171 ?_
    refine i_287_1172 (c := 4) (by decide) ?_
    refine i_287_1173 (v := Value.int (xs 4)) W0_0 (by decide) (by decide) rfl ?_
    refine i_287_1174 (x := 0) rfl ?_
    refine i_287_1175 (x := 0) rfl ?_
    refine i_287_1177 ?_
    refine i_287_1178 (c := 5) (by decide) ?_
    refine i_287_1179 (v := Value.int (xs 5)) W0_0 (by decide) (by decide) rfl ?_
    refine i_287_1180 (x := 194) rfl ?_
    refine i_287_1181 (Nat.le_of_ble_eq_true rfl) (p_114_1 W0_7 (G.1.1) (G.1.2) (G.2.1)) ?_
    refine i_287_1184 (lv2 := [(5, Value.int 1), (4, Value.int 0), (3, Value.ref 194), (2, Value.ref 128), (1, Value.ref 7), (0, Value.ref 0)]) rfl ?_
    refine i_287_1186 (x := 128) rfl ?_
    refine i_287_1187 (x := 0) rfl ?_
    refine i_287_1188 (x := 0) rfl ?_
    refine i_287_1190 ?_
    refine i_287_1191 (c := 1) (by decide) ?_
    refine i_287_1192 (v := Value.int (xs 1)) (xga W0_0) (by decide) (by decide) rfl ?_
    refine i_287_1193 (x := 0) rfl ?_
    refine i_287_1194 (x := 0) rfl ?_
    refine i_287_1196 ?_
    refine i_287_1197 (c := 2) (by decide) ?_
    refine i_287_1198 (v := Value.int (xs 2)) (xga W0_0) (by decide) (by decide) rfl ?_
    refine i_287_1199 (x := 0) rfl ?_
    refine i_287_1200 (x := 0) rfl ?_
    refine i_287_1202 ?_
    refine i_287_1203 (c := 3) (by decide) ?_
    refine i_287_1204 (v := Value.int (xs 3)) (xga W0_0) (by decide) (by decide) rfl ?_
    refine i_287_1205 (x := 0) rfl ?_
    refine i_287_1206 (x := 0) rfl ?_
    refine i_287_1208 ?_
    refine i_287_1209 (c := 4) (by decide) ?_
    refine i_287_1210 (v := Value.int (xs 4)) (xga W0_0) (by decide) (by decide) rfl ?_
    refine i_287_1211 (x := 0) rfl ?_
    refine i_287_1212 (x := 0) rfl ?_
    refine i_287_1214 ?_
    refine i_287_1215 (c := 5) (by decide) ?_
    refine i_287_1216 (v := Value.int (xs 5)) (xga W0_0) (by decide) (by decide) rfl ?_
    refine i_287_1217 (xga W0_128) (Nat.le_of_ble_eq_true rfl) (p_230_1 (xga W0_128) (G.1.1) (G.2.2) (G.2.1)) ?_
    refine i_287_1220 (lv2 := [(6, Value.int 0), (5, Value.int 1), (4, Value.int 0), (3, Value.ref 194), (2, Value.ref 128), (1, Value.ref 7), (0, Value.ref 0)]) rfl ?_
    refine i_287_1222 (x := 128) rfl ?_
    refine i_287_1223 (xgs (xga (xgs (xga W0_128)))) (Nat.le_of_ble_eq_true rfl) (p_165_0 (xgs (xga (xgs (xga W0_128))))) ?_
    refine i_287_1226 (x := 1) rfl ?_
    refine i_287_1228 (fun _ => ?_) (fun h => absurd h (by decide))
    refine i_287_1233 (x := 1) rfl ?_
    refine i_287_1235 (fun _ => ?_) (fun h => absurd h (by decide))
    refine i_287_1250 ?_
    refine i_287_2154 (x := 0) (c := 6) (lv2 := [(4, Value.int 6), (6, Value.int 0), (5, Value.int 1), (3, Value.ref 194), (2, Value.ref 128), (1, Value.ref 7), (0, Value.ref 0)]) rfl (by decide) rfl ?_
    refine i_287_2157 ?_
    refine i_287_23 (x := 6) rfl ?_
    refine i_287_25 (x := 0) rfl ?_
    refine i_287_26 (c := 6) (xgn (by decide) (xga (xgn (by decide) (xga W0_0)))) (by decide) ?_
    refine i_287_27 ?_
    refine i_287_29 (c := 0) (by decide) ?_
    refine i_287_30 (fun _ => ?_) (fun h => absurd h (by decide))
    refine i_287_2160 ?_
    exact i_287_2161 rfl ⟨rfl, rfl⟩
  · refine xLs.set ?_ (xga (xgs (xga W0_128))) xcs_o
    refine xLs.app (n := 219) (z := 199994) (m := 6) ?_ rfl
    refine xLs.set ?_ (xga W0_128) xcs_o
    refine xLs.app (n := 218) (z := 199988) (m := 6) ?_ rfl
    exact ⟨Nat.le_trans (Nat.le_of_eq W0_len) (by decide), Nat.le_trans (Nat.le_of_eq W0_sz) (by decide)⟩
theorem p_115_2 {d : Nat} {w : xW} {a0 : Int32} {a1 : Int32} {a2 : Int32} {a3 : Int32} {a4 : Int32} (e0 : 0 ≤ a0.toInt) (e1 : a0.toInt < 16) (e2 : 0 ≤ a1.toInt) (e3 : a1.toInt < 16) (e4 : a3.toInt < 1) : xRun (d + 6) 115 [Value.ref 7, Value.int a0, Value.int a1, Value.int a2, Value.int a3, Value.int a4] w (.inr w.length) (w ++ [Sum.inr (14, [])]) := by
  refine xRun.of ?_
  refine i_115_0 (x := a0) rfl ?_
  refine i_115_1 (Nat.le_of_ble_eq_true rfl) (p_15_1 e0 e1) ?_
  refine i_115_4 (fun h => absurd h (by decide)) (fun _ => ?_)
  refine i_115_7 (x := a1) rfl ?_
  refine i_115_8 (x := a3) rfl ?_
  refine i_115_10 (Nat.le_of_ble_eq_true rfl) (p_113_1 e2 e3 e4) ?_
  refine i_115_13 (fun _ => ?_) (fun h => absurd h (by decide))
  exact i_115_33 (by omega) (Nat.le_of_ble_eq_true rfl) ⟨rfl, rfl⟩
theorem p_114_2 {d : Nat} {w : xW} {a0 : Int32} {a1 : Int32} {a2 : Int32} {a3 : Int32} {a4 : Int32} (hw0 : w[7]? = some (Sum.inr (0, [Value.ref 8, Value.ref 78, Value.ref 9, Value.ref 10, Value.ref 13, Value.ref 16, Value.ref 19, Value.ref 93, Value.ref 108, Value.ref 113, Value.ref 29, Value.int 0]))) (e1 : 0 ≤ a0.toInt) (e2 : a0.toInt < 16) (e3 : 0 ≤ a1.toInt) (e4 : a1.toInt < 16) (e5 : a3.toInt < 1) : xRun (d + 7) 114 [Value.ref 7, Value.int a0, Value.int a1, Value.int a2, Value.int a3, Value.int a4, Value.ref 194] w (.inl (some (Value.int 1))) (w ++ [Sum.inr (14, [])]) := by
  refine xRun.of ?_
  refine i_114_0 (x := 194) rfl ?_
  refine i_114_2 ?_
  refine i_114_3 (x := 7) rfl ?_
  refine i_114_4 (x := a0) rfl ?_
  refine i_114_5 (x := a1) rfl ?_
  refine i_114_6 (x := a2) rfl ?_
  refine i_114_7 (x := a3) rfl ?_
  refine i_114_9 (x := a4) rfl ?_
  refine j_114_11 hw0 (Nat.le_of_ble_eq_true rfl) (p_115_2 e1 e2 e3 e4 e5) (xDone.c xgl rfl rfl ?_)
  refine i_114_19 (lv2 := [(7, Value.ref w.length), (0, Value.ref 7), (1, Value.int a0), (2, Value.int a1), (3, Value.int a2), (4, Value.int a3), (5, Value.int a4), (6, Value.ref 194)]) rfl ?_
  refine i_114_21 ?_
  exact i_114_22 ⟨rfl, rfl⟩
theorem p_231_2 {d : Nat} {w : xW} {a0 : Int32} {a1 : Int32} {a2 : Int32} {a3 : Int32} {a4 : Int32} (e0 : 0 ≤ a0.toInt) (e1 : a0.toInt ≤ 15) (e2 : 0 ≤ a1.toInt) (e3 : a1.toInt ≤ 15) (e4 : a2.toInt < 0) : xRun (d + 8) 231 [Value.ref 128, Value.int a0, Value.int a1, Value.int a2, Value.int a3, Value.int a4] w (.inr w.length) (w ++ [Sum.inr (14, [])]) := by
  refine xRun.of ?_
  refine i_231_0 (x := a0) rfl ?_
  refine i_231_1 (Nat.le_of_ble_eq_true rfl) (p_168_1 e0 e1) ?_
  refine i_231_4 (x := a1) rfl ?_
  refine i_231_5 (Nat.le_of_ble_eq_true rfl) (p_168_1 e2 e3) ?_
  refine i_231_8 (x := a2) rfl ?_
  exact j_231_9 (Nat.le_of_ble_eq_true rfl) (p_168_0 e4) (xDone.t xgl rfl rfl ⟨rfl, rfl⟩)
theorem p_230_2 {d : Nat} {w : xW} {a0 : Int32} {a1 : Int32} {a2 : Int32} {a3 : Int32} {a4 : Int32} (hw0 : w[128]? = some (Sum.inr (12, [Value.ref 129, Value.ref 131, Value.ref 133, Value.ref 135, Value.ref 137, Value.ref 139, Value.ref 141, Value.ref 143, Value.ref 145, Value.ref 147, Value.ref 149, Value.ref 151, Value.ref 153, Value.ref 154, Value.ref 155, Value.ref 156, Value.ref 157, Value.int (-16384), Value.int 16384, Value.int 0, Value.int 0, Value.int 0, Value.ref 158, Value.ref 159, Value.int 0, Value.int 0, Value.int 0, Value.int 0, Value.int 0, Value.int 0, Value.int 0, Value.int 0]))) (e1 : 0 ≤ a0.toInt) (e2 : a0.toInt ≤ 15) (e3 : 0 ≤ a1.toInt) (e4 : a1.toInt ≤ 15) (e5 : a2.toInt < 0) : xRun (d + 9) 230 [Value.ref 128, Value.int a0, Value.int a1, Value.int a2, Value.int a3, Value.int a4] w (.inl (some (Value.int 0))) (((w.set 128 (Sum.inr (12, [Value.ref 129, Value.ref 131, Value.ref 133, Value.ref 135, Value.ref 137, Value.ref 139, Value.ref 141, Value.ref 143, Value.ref 145, Value.ref 147, Value.ref 149, Value.ref 151, Value.ref 153, Value.ref 154, Value.ref 155, Value.ref 156, Value.ref 157, Value.int (-16384), Value.int 16384, Value.int 0, Value.int 0, Value.int 0, Value.ref 158, Value.ref 159, Value.int 0, Value.int 0, Value.int 0, Value.int 0, Value.int 0, Value.int 0, Value.int 0, Value.int 0]))) ++ [Sum.inr (14, [])]).set 128 (Sum.inr (12, [Value.ref 129, Value.ref 131, Value.ref 133, Value.ref 135, Value.ref 137, Value.ref 139, Value.ref 141, Value.ref 143, Value.ref 145, Value.ref 147, Value.ref 149, Value.ref 151, Value.ref 153, Value.ref 154, Value.ref 155, Value.ref 156, Value.ref 157, Value.int (-16384), Value.int 16384, Value.int 0, Value.int 0, Value.int 0, Value.ref 158, Value.ref 159, Value.int 0, Value.int 0, Value.int 0, Value.int 0, Value.int 0, Value.int 0, Value.int 0, Value.int 1]))) := by
  refine xRun.of ?_
  refine i_230_0 (x := 128) rfl ?_
  refine i_230_1 ?_
  refine i_230_2 (fs2 := [Value.ref 129, Value.ref 131, Value.ref 133, Value.ref 135, Value.ref 137, Value.ref 139, Value.ref 141, Value.ref 143, Value.ref 145, Value.ref 147, Value.ref 149, Value.ref 151, Value.ref 153, Value.ref 154, Value.ref 155, Value.ref 156, Value.ref 157, Value.int (-16384), Value.int 16384, Value.int 0, Value.int 0, Value.int 0, Value.ref 158, Value.ref 159, Value.int 0, Value.int 0, Value.int 0, Value.int 0, Value.int 0, Value.int 0, Value.int 0, Value.int 0]) hw0 (Nat.le_of_ble_eq_true rfl) rfl (by decide) ?_
  refine i_230_5 (x := 128) rfl ?_
  refine i_230_6 (x := a0) rfl ?_
  refine i_230_7 (x := a1) rfl ?_
  refine i_230_8 (x := a2) rfl ?_
  refine i_230_9 (x := a3) rfl ?_
  refine i_230_11 (x := a4) rfl ?_
  refine j_230_13 (xgs hw0) (Nat.le_of_ble_eq_true rfl) (p_231_2 e1 e2 e3 e4 e5) (xDone.c xgl rfl rfl ?_)
  refine i_230_17 (lv2 := [(6, Value.ref ((w.set 128 (Sum.inr (12, [Value.ref 129, Value.ref 131, Value.ref 133, Value.ref 135, Value.ref 137, Value.ref 139, Value.ref 141, Value.ref 143, Value.ref 145, Value.ref 147, Value.ref 149, Value.ref 151, Value.ref 153, Value.ref 154, Value.ref 155, Value.ref 156, Value.ref 157, Value.int (-16384), Value.int 16384, Value.int 0, Value.int 0, Value.int 0, Value.ref 158, Value.ref 159, Value.int 0, Value.int 0, Value.int 0, Value.int 0, Value.int 0, Value.int 0, Value.int 0, Value.int 0]))).length)), (0, Value.ref 128), (1, Value.int a0), (2, Value.int a1), (3, Value.int a2), (4, Value.int a3), (5, Value.int a4)]) rfl ?_
  refine i_230_19 (x := 128) rfl ?_
  refine i_230_20 ?_
  refine i_230_21 (fs2 := [Value.ref 129, Value.ref 131, Value.ref 133, Value.ref 135, Value.ref 137, Value.ref 139, Value.ref 141, Value.ref 143, Value.ref 145, Value.ref 147, Value.ref 149, Value.ref 151, Value.ref 153, Value.ref 154, Value.ref 155, Value.ref 156, Value.ref 157, Value.int (-16384), Value.int 16384, Value.int 0, Value.int 0, Value.int 0, Value.ref 158, Value.ref 159, Value.int 0, Value.int 0, Value.int 0, Value.int 0, Value.int 0, Value.int 0, Value.int 0, Value.int 1]) (xga (xgs hw0)) (Nat.le_of_ble_eq_true rfl) rfl (by decide) ?_
  refine i_230_24 ?_
  exact i_230_25 ⟨rfl, rfl⟩
theorem g_11_2 {z0 z1 z2 z3 z4 : Int} (h0 : z0 = 11) (c0 : 0 ≤ z1) (c1 : z1 < 16) (c2 : 0 ≤ z2) (c3 : z2 < 16) (c4 : z3 < 1) (c5 : z4 < 0) : ((((0 ≤ z1) ∧ (z1 < 16)) ∧ ((0 ≤ z2) ∧ (z2 < 16))) ∧ (((z3 < 1) ∧ (z1 ≤ 15)) ∧ ((z2 ≤ 15) ∧ (z4 < 0)))) := by
  exact ⟨⟨⟨by omega, by omega⟩, ⟨by omega, by omega⟩⟩, ⟨⟨by omega, by omega⟩, ⟨by omega, by omega⟩⟩⟩
theorem o_11_2 {d : Nat} {xs : Nat → Int32} (h0 : ((xs 0) &&& (31 : Int32)).toInt = 11) (c0 : 0 ≤ (xs 1).toInt) (c1 : (xs 1).toInt < 16) (c2 : 0 ≤ (xs 2).toInt) (c3 : (xs 2).toInt < 16) (c4 : (xs 4).toInt < 1) (c5 : (xs 3).toInt < 0) : ∃ w1, xEv (d + 20) 287 23 [(4, Value.int 0), (3, Value.ref 194), (2, Value.ref 128), (1, Value.ref 7), (0, Value.ref 0)] [] (W0 6 xs) (fun o' w' => o' = .inl (some (Value.int 1)) ∧ w' = w1) ∧ w1.length ≤ 220 ∧ xsz w1 ≤ 200000 := by
  have G : id ((((0 ≤ (xs 1).toInt) ∧ ((xs 1).toInt < 16)) ∧ ((0 ≤ (xs 2).toInt) ∧ ((xs 2).toInt < 16))) ∧ ((((xs 4).toInt < 1) ∧ ((xs 1).toInt ≤ 15)) ∧ (((xs 2).toInt ≤ 15) ∧ ((xs 3).toInt < 0)))) := g_11_2 h0 c0 c1 c2 c3 c4 c5
  refine ⟨(((((W0 6 xs) ++ [Sum.inr (14, [])]).set 128 (Sum.inr (12, [Value.ref 129, Value.ref 131, Value.ref 133, Value.ref 135, Value.ref 137, Value.ref 139, Value.ref 141, Value.ref 143, Value.ref 145, Value.ref 147, Value.ref 149, Value.ref 151, Value.ref 153, Value.ref 154, Value.ref 155, Value.ref 156, Value.ref 157, Value.int (-16384), Value.int 16384, Value.int 0, Value.int 0, Value.int 0, Value.ref 158, Value.ref 159, Value.int 0, Value.int 0, Value.int 0, Value.int 0, Value.int 0, Value.int 0, Value.int 0, Value.int 0]))) ++ [Sum.inr (14, [])]).set 128 (Sum.inr (12, [Value.ref 129, Value.ref 131, Value.ref 133, Value.ref 135, Value.ref 137, Value.ref 139, Value.ref 141, Value.ref 143, Value.ref 145, Value.ref 147, Value.ref 149, Value.ref 151, Value.ref 153, Value.ref 154, Value.ref 155, Value.ref 156, Value.ref 157, Value.int (-16384), Value.int 16384, Value.int 0, Value.int 0, Value.int 0, Value.ref 158, Value.ref 159, Value.int 0, Value.int 0, Value.int 0, Value.int 0, Value.int 0, Value.int 0, Value.int 0, Value.int 1]))), ?_, (show xLs _ 220 200000 from ?_)⟩
  · refine i_287_23 (x := 0) rfl ?_
    refine i_287_25 (x := 0) rfl ?_
    refine i_287_26 (c := 6) W0_0 (by decide) ?_
    refine i_287_27 ?_
    refine i_287_29 (c := 0) (by decide) ?_
    refine i_287_30 (fun h => absurd h (by decide)) (fun _ => ?_)
    refine i_287_33 (x := 0) rfl ?_
    refine i_287_34 (x := 0) rfl ?_
    refine i_287_36 (v := Value.int (xs 0)) W0_0 (by decide) (by decide) rfl ?_
    refine i_287_37 ?_
    refine i_287_39 (c := 11) (show ((xs 0) &&& (31 : Int32)) = 11 from (xge_c (n := 11) h0 rfl)) ?_
    refine i_287_40_11 rfl ?_
    refine i_287_1149 (x := 7) rfl ?_
    refine i_287_1150 (x := 0) rfl ?_
    refine i_287_1151 (x := 0) rfl ?_
    refine i_287_1153 ?_
    refine i_287_1154 (c := 1) (by decide) ?_
    refine i_287_1155 (v := Value.int (xs 1)) W0_0 (by decide) (by decide) rfl ?_
    refine i_287_1156 (x := 0) rfl ?_
    refine i_287_1157 (x := 0) rfl ?_
    refine i_287_1159 ?_
    refine i_287_1160 (c := 2) (by decide) ?_
    refine i_287_1161 (v := Value.int (xs 2)) W0_0 (by decide) (by decide) rfl ?_
    refine i_287_1162 (x := 0) rfl ?_
    refine i_287_1163 (x := 0) rfl ?_
    refine i_287_1165 ?_
    refine i_287_1166 (c := 3) (by decide) ?_
    refine i_287_1167 (v := Value.int (xs 3)) W0_0 (by decide) (by decide) rfl ?_
    refine i_287_1168 (x := 0) rfl ?_
    refine i_287_1169 (x := 0) rfl ?_
    refine i_287_1171 ?_
    refine i_287_1172 (c := 4) (by decide) ?_
    refine i_287_1173 (v := Value.int (xs 4)) W0_0 (by decide) (by decide) rfl ?_
    refine i_287_1174 (x := 0) rfl ?_
    refine i_287_1175 (x := 0) rfl ?_
    refine i_287_1177 ?_
    refine i_287_1178 (c := 5) (by decide) ?_
    refine i_287_1179 (v := Value.int (xs 5)) W0_0 (by decide) (by decide) rfl ?_
    refine i_287_1180 (x := 194) rfl ?_
    refine i_287_1181 (Nat.le_of_ble_eq_true rfl) (p_114_2 W0_7 (G.1.1.1) (G.1.1.2) (G.1.2.1) (G.1.2.2) (G.2.1.1)) ?_
    refine i_287_1184 (lv2 := [(5, Value.int 1), (4, Value.int 0), (3, Value.ref 194), (2, Value.ref 128), (1, Value.ref 7), (0, Value.ref 0)]) rfl ?_
    refine i_287_1186 (x := 128) rfl ?_
    refine i_287_1187 (x := 0) rfl ?_
    refine i_287_1188 (x := 0) rfl ?_
    refine i_287_1190 ?_
    refine i_287_1191 (c := 1) (by decide) ?_
    refine i_287_1192 (v := Value.int (xs 1)) (xga W0_0) (by decide) (by decide) rfl ?_
    refine i_287_1193 (x := 0) rfl ?_
    refine i_287_1194 (x := 0) rfl ?_
    refine i_287_1196 ?_
    refine i_287_1197 (c := 2) (by decide) ?_
    refine i_287_1198 (v := Value.int (xs 2)) (xga W0_0) (by decide) (by decide) rfl ?_
    refine i_287_1199 (x := 0) rfl ?_
    refine i_287_1200 (x := 0) rfl ?_
    refine i_287_1202 ?_
    refine i_287_1203 (c := 3) (by decide) ?_
    refine i_287_1204 (v := Value.int (xs 3)) (xga W0_0) (by decide) (by decide) rfl ?_
    refine i_287_1205 (x := 0) rfl ?_
    refine i_287_1206 (x := 0) rfl ?_
    refine i_287_1208 ?_
    refine i_287_1209 (c := 4) (by decide) ?_
    refine i_287_1210 (v := Value.int (xs 4)) (xga W0_0) (by decide) (by decide) rfl ?_
    refine i_287_1211 (x := 0) rfl ?_
    refine i_287_1212 (x := 0) rfl ?_
    refine i_287_1214 ?_
    refine i_287_1215 (c := 5) (by decide) ?_
    refine i_287_1216 (v := Value.int (xs 5)) (xga W0_0) (by decide) (by decide) rfl ?_
    refine i_287_1217 (xga W0_128) (Nat.le_of_ble_eq_true rfl) (p_230_2 (xga W0_128) (G.1.1.1) (G.2.1.2) (G.1.2.1) (G.2.2.1) (G.2.2.2)) ?_
    refine i_287_1220 (lv2 := [(6, Value.int 0), (5, Value.int 1), (4, Value.int 0), (3, Value.ref 194), (2, Value.ref 128), (1, Value.ref 7), (0, Value.ref 0)]) rfl ?_
    refine i_287_1222 (x := 128) rfl ?_
    refine i_287_1223 (xgs (xga (xgs (xga W0_128)))) (Nat.le_of_ble_eq_true rfl) (p_165_0 (xgs (xga (xgs (xga W0_128))))) ?_
    refine i_287_1226 (x := 1) rfl ?_
    refine i_287_1228 (fun _ => ?_) (fun h => absurd h (by decide))
    refine i_287_1233 (x := 1) rfl ?_
    refine i_287_1235 (fun _ => ?_) (fun h => absurd h (by decide))
    refine i_287_1250 ?_
    refine i_287_2154 (x := 0) (c := 6) (lv2 := [(4, Value.int 6), (6, Value.int 0), (5, Value.int 1), (3, Value.ref 194), (2, Value.ref 128), (1, Value.ref 7), (0, Value.ref 0)]) rfl (by decide) rfl ?_
    refine i_287_2157 ?_
    refine i_287_23 (x := 6) rfl ?_
    refine i_287_25 (x := 0) rfl ?_
    refine i_287_26 (c := 6) (xgn (by decide) (xga (xgn (by decide) (xga W0_0)))) (by decide) ?_
    refine i_287_27 ?_
    refine i_287_29 (c := 0) (by decide) ?_
    refine i_287_30 (fun _ => ?_) (fun h => absurd h (by decide))
    refine i_287_2160 ?_
    exact i_287_2161 rfl ⟨rfl, rfl⟩
  · refine xLs.set ?_ (xga (xgs (xga W0_128))) xcs_o
    refine xLs.app (n := 219) (z := 199994) (m := 6) ?_ rfl
    refine xLs.set ?_ (xga W0_128) xcs_o
    refine xLs.app (n := 218) (z := 199988) (m := 6) ?_ rfl
    exact ⟨Nat.le_trans (Nat.le_of_eq W0_len) (by decide), Nat.le_trans (Nat.le_of_eq W0_sz) (by decide)⟩
theorem p_231_3 {d : Nat} {w : xW} {a0 : Int32} {a1 : Int32} {a2 : Int32} {a3 : Int32} {a4 : Int32} (e0 : 0 ≤ a0.toInt) (e1 : a0.toInt ≤ 15) (e2 : 0 ≤ a1.toInt) (e3 : a1.toInt ≤ 15) (e4 : 0 ≤ a2.toInt) (e5 : 15 < a2.toInt) : xRun (d + 8) 231 [Value.ref 128, Value.int a0, Value.int a1, Value.int a2, Value.int a3, Value.int a4] w (.inr w.length) (w ++ [Sum.inr (14, [])]) := by
  refine xRun.of ?_
  refine i_231_0 (x := a0) rfl ?_
  refine i_231_1 (Nat.le_of_ble_eq_true rfl) (p_168_1 e0 e1) ?_
  refine i_231_4 (x := a1) rfl ?_
  refine i_231_5 (Nat.le_of_ble_eq_true rfl) (p_168_1 e2 e3) ?_
  refine i_231_8 (x := a2) rfl ?_
  exact j_231_9 (Nat.le_of_ble_eq_true rfl) (p_168_2 e4 e5) (xDone.t xgl rfl rfl ⟨rfl, rfl⟩)
theorem p_230_3 {d : Nat} {w : xW} {a0 : Int32} {a1 : Int32} {a2 : Int32} {a3 : Int32} {a4 : Int32} (hw0 : w[128]? = some (Sum.inr (12, [Value.ref 129, Value.ref 131, Value.ref 133, Value.ref 135, Value.ref 137, Value.ref 139, Value.ref 141, Value.ref 143, Value.ref 145, Value.ref 147, Value.ref 149, Value.ref 151, Value.ref 153, Value.ref 154, Value.ref 155, Value.ref 156, Value.ref 157, Value.int (-16384), Value.int 16384, Value.int 0, Value.int 0, Value.int 0, Value.ref 158, Value.ref 159, Value.int 0, Value.int 0, Value.int 0, Value.int 0, Value.int 0, Value.int 0, Value.int 0, Value.int 0]))) (e1 : 0 ≤ a0.toInt) (e2 : a0.toInt ≤ 15) (e3 : 0 ≤ a1.toInt) (e4 : a1.toInt ≤ 15) (e5 : 0 ≤ a2.toInt) (e6 : 15 < a2.toInt) : xRun (d + 9) 230 [Value.ref 128, Value.int a0, Value.int a1, Value.int a2, Value.int a3, Value.int a4] w (.inl (some (Value.int 0))) (((w.set 128 (Sum.inr (12, [Value.ref 129, Value.ref 131, Value.ref 133, Value.ref 135, Value.ref 137, Value.ref 139, Value.ref 141, Value.ref 143, Value.ref 145, Value.ref 147, Value.ref 149, Value.ref 151, Value.ref 153, Value.ref 154, Value.ref 155, Value.ref 156, Value.ref 157, Value.int (-16384), Value.int 16384, Value.int 0, Value.int 0, Value.int 0, Value.ref 158, Value.ref 159, Value.int 0, Value.int 0, Value.int 0, Value.int 0, Value.int 0, Value.int 0, Value.int 0, Value.int 0]))) ++ [Sum.inr (14, [])]).set 128 (Sum.inr (12, [Value.ref 129, Value.ref 131, Value.ref 133, Value.ref 135, Value.ref 137, Value.ref 139, Value.ref 141, Value.ref 143, Value.ref 145, Value.ref 147, Value.ref 149, Value.ref 151, Value.ref 153, Value.ref 154, Value.ref 155, Value.ref 156, Value.ref 157, Value.int (-16384), Value.int 16384, Value.int 0, Value.int 0, Value.int 0, Value.ref 158, Value.ref 159, Value.int 0, Value.int 0, Value.int 0, Value.int 0, Value.int 0, Value.int 0, Value.int 0, Value.int 1]))) := by
  refine xRun.of ?_
  refine i_230_0 (x := 128) rfl ?_
  refine i_230_1 ?_
  refine i_230_2 (fs2 := [Value.ref 129, Value.ref 131, Value.ref 133, Value.ref 135, Value.ref 137, Value.ref 139, Value.ref 141, Value.ref 143, Value.ref 145, Value.ref 147, Value.ref 149, Value.ref 151, Value.ref 153, Value.ref 154, Value.ref 155, Value.ref 156, Value.ref 157, Value.int (-16384), Value.int 16384, Value.int 0, Value.int 0, Value.int 0, Value.ref 158, Value.ref 159, Value.int 0, Value.int 0, Value.int 0, Value.int 0, Value.int 0, Value.int 0, Value.int 0, Value.int 0]) hw0 (Nat.le_of_ble_eq_true rfl) rfl (by decide) ?_
  refine i_230_5 (x := 128) rfl ?_
  refine i_230_6 (x := a0) rfl ?_
  refine i_230_7 (x := a1) rfl ?_
  refine i_230_8 (x := a2) rfl ?_
  refine i_230_9 (x := a3) rfl ?_
  refine i_230_11 (x := a4) rfl ?_
  refine j_230_13 (xgs hw0) (Nat.le_of_ble_eq_true rfl) (p_231_3 e1 e2 e3 e4 e5 e6) (xDone.c xgl rfl rfl ?_)
  refine i_230_17 (lv2 := [(6, Value.ref ((w.set 128 (Sum.inr (12, [Value.ref 129, Value.ref 131, Value.ref 133, Value.ref 135, Value.ref 137, Value.ref 139, Value.ref 141, Value.ref 143, Value.ref 145, Value.ref 147, Value.ref 149, Value.ref 151, Value.ref 153, Value.ref 154, Value.ref 155, Value.ref 156, Value.ref 157, Value.int (-16384), Value.int 16384, Value.int 0, Value.int 0, Value.int 0, Value.ref 158, Value.ref 159, Value.int 0, Value.int 0, Value.int 0, Value.int 0, Value.int 0, Value.int 0, Value.int 0, Value.int 0]))).length)), (0, Value.ref 128), (1, Value.int a0), (2, Value.int a1), (3, Value.int a2), (4, Value.int a3), (5, Value.int a4)]) rfl ?_
  refine i_230_19 (x := 128) rfl ?_
  refine i_230_20 ?_
  refine i_230_21 (fs2 := [Value.ref 129, Value.ref 131, Value.ref 133, Value.ref 135, Value.ref 137, Value.ref 139, Value.ref 141, Value.ref 143, Value.ref 145, Value.ref 147, Value.ref 149, Value.ref 151, Value.ref 153, Value.ref 154, Value.ref 155, Value.ref 156, Value.ref 157, Value.int (-16384), Value.int 16384, Value.int 0, Value.int 0, Value.int 0, Value.ref 158, Value.ref 159, Value.int 0, Value.int 0, Value.int 0, Value.int 0, Value.int 0, Value.int 0, Value.int 0, Value.int 1]) (xga (xgs hw0)) (Nat.le_of_ble_eq_true rfl) rfl (by decide) ?_
  refine i_230_24 ?_
  exact i_230_25 ⟨rfl, rfl⟩
theorem g_11_3 {z0 z1 z2 z3 z4 : Int} (h0 : z0 = 11) (c0 : 0 ≤ z1) (c1 : z1 < 16) (c2 : 0 ≤ z2) (c3 : z2 < 16) (c4 : z3 < 1) (c5 : 0 ≤ z4) (c6 : 15 < z4) : ((((0 ≤ z1) ∧ (z1 < 16)) ∧ ((0 ≤ z2) ∧ (z2 < 16))) ∧ (((z3 < 1) ∧ (z1 ≤ 15)) ∧ ((z2 ≤ 15) ∧ ((0 ≤ z4) ∧ (15 < z4))))) := by
  exact ⟨⟨⟨by omega, by omega⟩, ⟨by omega, by omega⟩⟩, ⟨⟨by omega, by omega⟩, ⟨by omega, ⟨by omega, by omega⟩⟩⟩⟩
theorem o_11_3 {d : Nat} {xs : Nat → Int32} (h0 : ((xs 0) &&& (31 : Int32)).toInt = 11) (c0 : 0 ≤ (xs 1).toInt) (c1 : (xs 1).toInt < 16) (c2 : 0 ≤ (xs 2).toInt) (c3 : (xs 2).toInt < 16) (c4 : (xs 4).toInt < 1) (c5 : 0 ≤ (xs 3).toInt) (c6 : 15 < (xs 3).toInt) : ∃ w1, xEv (d + 20) 287 23 [(4, Value.int 0), (3, Value.ref 194), (2, Value.ref 128), (1, Value.ref 7), (0, Value.ref 0)] [] (W0 6 xs) (fun o' w' => o' = .inl (some (Value.int 1)) ∧ w' = w1) ∧ w1.length ≤ 220 ∧ xsz w1 ≤ 200000 := by
  have G : id ((((0 ≤ (xs 1).toInt) ∧ ((xs 1).toInt < 16)) ∧ ((0 ≤ (xs 2).toInt) ∧ ((xs 2).toInt < 16))) ∧ ((((xs 4).toInt < 1) ∧ ((xs 1).toInt ≤ 15)) ∧ (((xs 2).toInt ≤ 15) ∧ ((0 ≤ (xs 3).toInt) ∧ (15 < (xs 3).toInt))))) := g_11_3 h0 c0 c1 c2 c3 c4 c5 c6
  refine ⟨(((((W0 6 xs) ++ [Sum.inr (14, [])]).set 128 (Sum.inr (12, [Value.ref 129, Value.ref 131, Value.ref 133, Value.ref 135, Value.ref 137, Value.ref 139, Value.ref 141, Value.ref 143, Value.ref 145, Value.ref 147, Value.ref 149, Value.ref 151, Value.ref 153, Value.ref 154, Value.ref 155, Value.ref 156, Value.ref 157, Value.int (-16384), Value.int 16384, Value.int 0, Value.int 0, Value.int 0, Value.ref 158, Value.ref 159, Value.int 0, Value.int 0, Value.int 0, Value.int 0, Value.int 0, Value.int 0, Value.int 0, Value.int 0]))) ++ [Sum.inr (14, [])]).set 128 (Sum.inr (12, [Value.ref 129, Value.ref 131, Value.ref 133, Value.ref 135, Value.ref 137, Value.ref 139, Value.ref 141, Value.ref 143, Value.ref 145, Value.ref 147, Value.ref 149, Value.ref 151, Value.ref 153, Value.ref 154, Value.ref 155, Value.ref 156, Value.ref 157, Value.int (-16384), Value.int 16384, Value.int 0, Value.int 0, Value.int 0, Value.ref 158, Value.ref 159, Value.int 0, Value.int 0, Value.int 0, Value.int 0, Value.int 0, Value.int 0, Value.int 0, Value.int 1]))), ?_, (show xLs _ 220 200000 from ?_)⟩
  · refine i_287_23 (x := 0) rfl ?_
    refine i_287_25 (x := 0) rfl ?_
    refine i_287_26 (c := 6) W0_0 (by decide) ?_
    refine i_287_27 ?_
    refine i_287_29 (c := 0) (by decide) ?_
    refine i_287_30 (fun h => absurd h (by decide)) (fun _ => ?_)
    refine i_287_33 (x := 0) rfl ?_
    refine i_287_34 (x := 0) rfl ?_
    refine i_287_36 (v := Value.int (xs 0)) W0_0 (by decide) (by decide) rfl ?_
    refine i_287_37 ?_
    refine i_287_39 (c := 11) (show ((xs 0) &&& (31 : Int32)) = 11 from (xge_c (n := 11) h0 rfl)) ?_
    refine i_287_40_11 rfl ?_
    refine i_287_1149 (x := 7) rfl ?_
    refine i_287_1150 (x := 0) rfl ?_
    refine i_287_1151 (x := 0) rfl ?_
    refine i_287_1153 ?_
    refine i_287_1154 (c := 1) (by decide) ?_
    refine i_287_1155 (v := Value.int (xs 1)) W0_0 (by decide) (by decide) rfl ?_
    refine i_287_1156 (x := 0) rfl ?_
    refine i_287_1157 (x := 0) rfl ?_
    refine i_287_1159 ?_
    refine i_287_1160 (c := 2) (by decide) ?_
    refine i_287_1161 (v := Value.int (xs 2)) W0_0 (by decide) (by decide) rfl ?_
    refine i_287_1162 (x := 0) rfl ?_
    refine i_287_1163 (x := 0) rfl ?_
    refine i_287_1165 ?_
    refine i_287_1166 (c := 3) (by decide) ?_
    refine i_287_1167 (v := Value.int (xs 3)) W0_0 (by decide) (by decide) rfl ?_
    refine i_287_1168 (x := 0) rfl ?_
    refine i_287_1169 (x := 0) rfl ?_
    refine i_287_1171 ?_
    refine i_287_1172 (c := 4) (by decide) ?_
    refine i_287_1173 (v := Value.int (xs 4)) W0_0 (by decide) (by decide) rfl ?_
    refine i_287_1174 (x := 0) rfl ?_
    refine i_287_1175 (x := 0) rfl ?_
    refine i_287_1177 ?_
    refine i_287_1178 (c := 5) (by decide) ?_
    refine i_287_1179 (v := Value.int (xs 5)) W0_0 (by decide) (by decide) rfl ?_
    refine i_287_1180 (x := 194) rfl ?_
    refine i_287_1181 (Nat.le_of_ble_eq_true rfl) (p_114_2 W0_7 (G.1.1.1) (G.1.1.2) (G.1.2.1) (G.1.2.2) (G.2.1.1)) ?_
    refine i_287_1184 (lv2 := [(5, Value.int 1), (4, Value.int 0), (3, Value.ref 194), (2, Value.ref 128), (1, Value.ref 7), (0, Value.ref 0)]) rfl ?_
    refine i_287_1186 (x := 128) rfl ?_
    refine i_287_1187 (x := 0) rfl ?_
    refine i_287_1188 (x := 0) rfl ?_
    refine i_287_1190 ?_
    refine i_287_1191 (c := 1) (by decide) ?_
    refine i_287_1192 (v := Value.int (xs 1)) (xga W0_0) (by decide) (by decide) rfl ?_
    refine i_287_1193 (x := 0) rfl ?_
    refine i_287_1194 (x := 0) rfl ?_
    refine i_287_1196 ?_
    refine i_287_1197 (c := 2) (by decide) ?_
    refine i_287_1198 (v := Value.int (xs 2)) (xga W0_0) (by decide) (by decide) rfl ?_
    refine i_287_1199 (x := 0) rfl ?_
    refine i_287_1200 (x := 0) rfl ?_
    refine i_287_1202 ?_
    refine i_287_1203 (c := 3) (by decide) ?_
    refine i_287_1204 (v := Value.int (xs 3)) (xga W0_0) (by decide) (by decide) rfl ?_
    refine i_287_1205 (x := 0) rfl ?_
    refine i_287_1206 (x := 0) rfl ?_
    refine i_287_1208 ?_
    refine i_287_1209 (c := 4) (by decide) ?_
    refine i_287_1210 (v := Value.int (xs 4)) (xga W0_0) (by decide) (by decide) rfl ?_
    refine i_287_1211 (x := 0) rfl ?_
    refine i_287_1212 (x := 0) rfl ?_
    refine i_287_1214 ?_
    refine i_287_1215 (c := 5) (by decide) ?_
    refine i_287_1216 (v := Value.int (xs 5)) (xga W0_0) (by decide) (by decide) rfl ?_
    refine i_287_1217 (xga W0_128) (Nat.le_of_ble_eq_true rfl) (p_230_3 (xga W0_128) (G.1.1.1) (G.2.1.2) (G.1.2.1) (G.2.2.1) (G.2.2.2.1) (G.2.2.2.2)) ?_
    refine i_287_1220 (lv2 := [(6, Value.int 0), (5, Value.int 1), (4, Value.int 0), (3, Value.ref 194), (2, Value.ref 128), (1, Value.ref 7), (0, Value.ref 0)]) rfl ?_
    refine i_287_1222 (x := 128) rfl ?_
    refine i_287_1223 (xgs (xga (xgs (xga W0_128)))) (Nat.le_of_ble_eq_true rfl) (p_165_0 (xgs (xga (xgs (xga W0_128))))) ?_
    refine i_287_1226 (x := 1) rfl ?_
    refine i_287_1228 (fun _ => ?_) (fun h => absurd h (by decide))
    refine i_287_1233 (x := 1) rfl ?_
    refine i_287_1235 (fun _ => ?_) (fun h => absurd h (by decide))
    refine i_287_1250 ?_
    refine i_287_2154 (x := 0) (c := 6) (lv2 := [(4, Value.int 6), (6, Value.int 0), (5, Value.int 1), (3, Value.ref 194), (2, Value.ref 128), (1, Value.ref 7), (0, Value.ref 0)]) rfl (by decide) rfl ?_
    refine i_287_2157 ?_
    refine i_287_23 (x := 6) rfl ?_
    refine i_287_25 (x := 0) rfl ?_
    refine i_287_26 (c := 6) (xgn (by decide) (xga (xgn (by decide) (xga W0_0)))) (by decide) ?_
    refine i_287_27 ?_
    refine i_287_29 (c := 0) (by decide) ?_
    refine i_287_30 (fun _ => ?_) (fun h => absurd h (by decide))
    refine i_287_2160 ?_
    exact i_287_2161 rfl ⟨rfl, rfl⟩
  · refine xLs.set ?_ (xga (xgs (xga W0_128))) xcs_o
    refine xLs.app (n := 219) (z := 199994) (m := 6) ?_ rfl
    refine xLs.set ?_ (xga W0_128) xcs_o
    refine xLs.app (n := 218) (z := 199988) (m := 6) ?_ rfl
    exact ⟨Nat.le_trans (Nat.le_of_eq W0_len) (by decide), Nat.le_trans (Nat.le_of_eq W0_sz) (by decide)⟩
theorem p_231_4 {d : Nat} {w : xW} {a0 : Int32} {a1 : Int32} {a2 : Int32} {a3 : Int32} {a4 : Int32} (e0 : 0 ≤ a0.toInt) (e1 : a0.toInt ≤ 15) (e2 : 0 ≤ a1.toInt) (e3 : a1.toInt ≤ 15) (e4 : 0 ≤ a2.toInt) (e5 : a2.toInt ≤ 15) (e6 : a3.toInt < 1) : xRun (d + 7) 231 [Value.ref 128, Value.int a0, Value.int a1, Value.int a2, Value.int a3, Value.int a4] w (.inr w.length) (w ++ [Sum.inr (14, [])]) := by
  refine xRun.of ?_
  refine i_231_0 (x := a0) rfl ?_
  refine i_231_1 (Nat.le_of_ble_eq_true rfl) (p_168_1 e0 e1) ?_
  refine i_231_4 (x := a1) rfl ?_
  refine i_231_5 (Nat.le_of_ble_eq_true rfl) (p_168_1 e2 e3) ?_
  refine i_231_8 (x := a2) rfl ?_
  refine i_231_9 (Nat.le_of_ble_eq_true rfl) (p_168_1 e4 e5) ?_
  refine i_231_12 (x := a3) rfl ?_
  refine i_231_14 ?_
  refine i_231_15 ?_
  refine i_231_17 (Nat.le_of_ble_eq_true rfl) (p_169_42 e6) ?_
  refine i_231_20 (fun _ => ?_) (fun h => absurd h (by decide))
  refine i_231_45 ?_
  exact j_231_46 (Nat.le_of_ble_eq_true rfl) (p_170_0) (xDone.t xgl rfl rfl ⟨rfl, rfl⟩)
theorem p_230_4 {d : Nat} {w : xW} {a0 : Int32} {a1 : Int32} {a2 : Int32} {a3 : Int32} {a4 : Int32} (hw0 : w[128]? = some (Sum.inr (12, [Value.ref 129, Value.ref 131, Value.ref 133, Value.ref 135, Value.ref 137, Value.ref 139, Value.ref 141, Value.ref 143, Value.ref 145, Value.ref 147, Value.ref 149, Value.ref 151, Value.ref 153, Value.ref 154, Value.ref 155, Value.ref 156, Value.ref 157, Value.int (-16384), Value.int 16384, Value.int 0, Value.int 0, Value.int 0, Value.ref 158, Value.ref 159, Value.int 0, Value.int 0, Value.int 0, Value.int 0, Value.int 0, Value.int 0, Value.int 0, Value.int 0]))) (e1 : 0 ≤ a0.toInt) (e2 : a0.toInt ≤ 15) (e3 : 0 ≤ a1.toInt) (e4 : a1.toInt ≤ 15) (e5 : 0 ≤ a2.toInt) (e6 : a2.toInt ≤ 15) (e7 : a3.toInt < 1) : xRun (d + 8) 230 [Value.ref 128, Value.int a0, Value.int a1, Value.int a2, Value.int a3, Value.int a4] w (.inl (some (Value.int 0))) (((w.set 128 (Sum.inr (12, [Value.ref 129, Value.ref 131, Value.ref 133, Value.ref 135, Value.ref 137, Value.ref 139, Value.ref 141, Value.ref 143, Value.ref 145, Value.ref 147, Value.ref 149, Value.ref 151, Value.ref 153, Value.ref 154, Value.ref 155, Value.ref 156, Value.ref 157, Value.int (-16384), Value.int 16384, Value.int 0, Value.int 0, Value.int 0, Value.ref 158, Value.ref 159, Value.int 0, Value.int 0, Value.int 0, Value.int 0, Value.int 0, Value.int 0, Value.int 0, Value.int 0]))) ++ [Sum.inr (14, [])]).set 128 (Sum.inr (12, [Value.ref 129, Value.ref 131, Value.ref 133, Value.ref 135, Value.ref 137, Value.ref 139, Value.ref 141, Value.ref 143, Value.ref 145, Value.ref 147, Value.ref 149, Value.ref 151, Value.ref 153, Value.ref 154, Value.ref 155, Value.ref 156, Value.ref 157, Value.int (-16384), Value.int 16384, Value.int 0, Value.int 0, Value.int 0, Value.ref 158, Value.ref 159, Value.int 0, Value.int 0, Value.int 0, Value.int 0, Value.int 0, Value.int 0, Value.int 0, Value.int 1]))) := by
  refine xRun.of ?_
  refine i_230_0 (x := 128) rfl ?_
  refine i_230_1 ?_
  refine i_230_2 (fs2 := [Value.ref 129, Value.ref 131, Value.ref 133, Value.ref 135, Value.ref 137, Value.ref 139, Value.ref 141, Value.ref 143, Value.ref 145, Value.ref 147, Value.ref 149, Value.ref 151, Value.ref 153, Value.ref 154, Value.ref 155, Value.ref 156, Value.ref 157, Value.int (-16384), Value.int 16384, Value.int 0, Value.int 0, Value.int 0, Value.ref 158, Value.ref 159, Value.int 0, Value.int 0, Value.int 0, Value.int 0, Value.int 0, Value.int 0, Value.int 0, Value.int 0]) hw0 (Nat.le_of_ble_eq_true rfl) rfl (by decide) ?_
  refine i_230_5 (x := 128) rfl ?_
  refine i_230_6 (x := a0) rfl ?_
  refine i_230_7 (x := a1) rfl ?_
  refine i_230_8 (x := a2) rfl ?_
  refine i_230_9 (x := a3) rfl ?_
  refine i_230_11 (x := a4) rfl ?_
  refine j_230_13 (xgs hw0) (Nat.le_of_ble_eq_true rfl) (p_231_4 e1 e2 e3 e4 e5 e6 e7) (xDone.c xgl rfl rfl ?_)
  refine i_230_17 (lv2 := [(6, Value.ref ((w.set 128 (Sum.inr (12, [Value.ref 129, Value.ref 131, Value.ref 133, Value.ref 135, Value.ref 137, Value.ref 139, Value.ref 141, Value.ref 143, Value.ref 145, Value.ref 147, Value.ref 149, Value.ref 151, Value.ref 153, Value.ref 154, Value.ref 155, Value.ref 156, Value.ref 157, Value.int (-16384), Value.int 16384, Value.int 0, Value.int 0, Value.int 0, Value.ref 158, Value.ref 159, Value.int 0, Value.int 0, Value.int 0, Value.int 0, Value.int 0, Value.int 0, Value.int 0, Value.int 0]))).length)), (0, Value.ref 128), (1, Value.int a0), (2, Value.int a1), (3, Value.int a2), (4, Value.int a3), (5, Value.int a4)]) rfl ?_
  refine i_230_19 (x := 128) rfl ?_
  refine i_230_20 ?_
  refine i_230_21 (fs2 := [Value.ref 129, Value.ref 131, Value.ref 133, Value.ref 135, Value.ref 137, Value.ref 139, Value.ref 141, Value.ref 143, Value.ref 145, Value.ref 147, Value.ref 149, Value.ref 151, Value.ref 153, Value.ref 154, Value.ref 155, Value.ref 156, Value.ref 157, Value.int (-16384), Value.int 16384, Value.int 0, Value.int 0, Value.int 0, Value.ref 158, Value.ref 159, Value.int 0, Value.int 0, Value.int 0, Value.int 0, Value.int 0, Value.int 0, Value.int 0, Value.int 1]) (xga (xgs hw0)) (Nat.le_of_ble_eq_true rfl) rfl (by decide) ?_
  refine i_230_24 ?_
  exact i_230_25 ⟨rfl, rfl⟩
theorem g_11_4 {z0 z1 z2 z3 z4 : Int} (h0 : z0 = 11) (c0 : 0 ≤ z1) (c1 : z1 < 16) (c2 : 0 ≤ z2) (c3 : z2 < 16) (c4 : z3 < 1) (c5 : 0 ≤ z4) (c6 : z4 ≤ 15) : ((((0 ≤ z1) ∧ (z1 < 16)) ∧ ((0 ≤ z2) ∧ (z2 < 16))) ∧ (((z3 < 1) ∧ (z1 ≤ 15)) ∧ ((z2 ≤ 15) ∧ ((0 ≤ z4) ∧ (z4 ≤ 15))))) := by
  exact ⟨⟨⟨by omega, by omega⟩, ⟨by omega, by omega⟩⟩, ⟨⟨by omega, by omega⟩, ⟨by omega, ⟨by omega, by omega⟩⟩⟩⟩
theorem o_11_4 {d : Nat} {xs : Nat → Int32} (h0 : ((xs 0) &&& (31 : Int32)).toInt = 11) (c0 : 0 ≤ (xs 1).toInt) (c1 : (xs 1).toInt < 16) (c2 : 0 ≤ (xs 2).toInt) (c3 : (xs 2).toInt < 16) (c4 : (xs 4).toInt < 1) (c5 : 0 ≤ (xs 3).toInt) (c6 : (xs 3).toInt ≤ 15) : ∃ w1, xEv (d + 20) 287 23 [(4, Value.int 0), (3, Value.ref 194), (2, Value.ref 128), (1, Value.ref 7), (0, Value.ref 0)] [] (W0 6 xs) (fun o' w' => o' = .inl (some (Value.int 1)) ∧ w' = w1) ∧ w1.length ≤ 220 ∧ xsz w1 ≤ 200000 := by
  have G : id ((((0 ≤ (xs 1).toInt) ∧ ((xs 1).toInt < 16)) ∧ ((0 ≤ (xs 2).toInt) ∧ ((xs 2).toInt < 16))) ∧ ((((xs 4).toInt < 1) ∧ ((xs 1).toInt ≤ 15)) ∧ (((xs 2).toInt ≤ 15) ∧ ((0 ≤ (xs 3).toInt) ∧ ((xs 3).toInt ≤ 15))))) := g_11_4 h0 c0 c1 c2 c3 c4 c5 c6
  refine ⟨(((((W0 6 xs) ++ [Sum.inr (14, [])]).set 128 (Sum.inr (12, [Value.ref 129, Value.ref 131, Value.ref 133, Value.ref 135, Value.ref 137, Value.ref 139, Value.ref 141, Value.ref 143, Value.ref 145, Value.ref 147, Value.ref 149, Value.ref 151, Value.ref 153, Value.ref 154, Value.ref 155, Value.ref 156, Value.ref 157, Value.int (-16384), Value.int 16384, Value.int 0, Value.int 0, Value.int 0, Value.ref 158, Value.ref 159, Value.int 0, Value.int 0, Value.int 0, Value.int 0, Value.int 0, Value.int 0, Value.int 0, Value.int 0]))) ++ [Sum.inr (14, [])]).set 128 (Sum.inr (12, [Value.ref 129, Value.ref 131, Value.ref 133, Value.ref 135, Value.ref 137, Value.ref 139, Value.ref 141, Value.ref 143, Value.ref 145, Value.ref 147, Value.ref 149, Value.ref 151, Value.ref 153, Value.ref 154, Value.ref 155, Value.ref 156, Value.ref 157, Value.int (-16384), Value.int 16384, Value.int 0, Value.int 0, Value.int 0, Value.ref 158, Value.ref 159, Value.int 0, Value.int 0, Value.int 0, Value.int 0, Value.int 0, Value.int 0, Value.int 0, Value.int 1]))), ?_, (show xLs _ 220 200000 from ?_)⟩
  · refine i_287_23 (x := 0) rfl ?_
    refine i_287_25 (x := 0) rfl ?_
    refine i_287_26 (c := 6) W0_0 (by decide) ?_
    refine i_287_27 ?_
    refine i_287_29 (c := 0) (by decide) ?_
    refine i_287_30 (fun h => absurd h (by decide)) (fun _ => ?_)
    refine i_287_33 (x := 0) rfl ?_
    refine i_287_34 (x := 0) rfl ?_
    refine i_287_36 (v := Value.int (xs 0)) W0_0 (by decide) (by decide) rfl ?_
    refine i_287_37 ?_
    refine i_287_39 (c := 11) (show ((xs 0) &&& (31 : Int32)) = 11 from (xge_c (n := 11) h0 rfl)) ?_
    refine i_287_40_11 rfl ?_
    refine i_287_1149 (x := 7) rfl ?_
    refine i_287_1150 (x := 0) rfl ?_
    refine i_287_1151 (x := 0) rfl ?_
    refine i_287_1153 ?_
    refine i_287_1154 (c := 1) (by decide) ?_
    refine i_287_1155 (v := Value.int (xs 1)) W0_0 (by decide) (by decide) rfl ?_
    refine i_287_1156 (x := 0) rfl ?_
    refine i_287_1157 (x := 0) rfl ?_
    refine i_287_1159 ?_
    refine i_287_1160 (c := 2) (by decide) ?_
    refine i_287_1161 (v := Value.int (xs 2)) W0_0 (by decide) (by decide) rfl ?_
    refine i_287_1162 (x := 0) rfl ?_
    refine i_287_1163 (x := 0) rfl ?_
    refine i_287_1165 ?_
    refine i_287_1166 (c := 3) (by decide) ?_
    refine i_287_1167 (v := Value.int (xs 3)) W0_0 (by decide) (by decide) rfl ?_
    refine i_287_1168 (x := 0) rfl ?_
    refine i_287_1169 (x := 0) rfl ?_
    refine i_287_1171 ?_
    refine i_287_1172 (c := 4) (by decide) ?_
    refine i_287_1173 (v := Value.int (xs 4)) W0_0 (by decide) (by decide) rfl ?_
    refine i_287_1174 (x := 0) rfl ?_
    refine i_287_1175 (x := 0) rfl ?_
    refine i_287_1177 ?_
    refine i_287_1178 (c := 5) (by decide) ?_
    refine i_287_1179 (v := Value.int (xs 5)) W0_0 (by decide) (by decide) rfl ?_
    refine i_287_1180 (x := 194) rfl ?_
    refine i_287_1181 (Nat.le_of_ble_eq_true rfl) (p_114_2 W0_7 (G.1.1.1) (G.1.1.2) (G.1.2.1) (G.1.2.2) (G.2.1.1)) ?_
    refine i_287_1184 (lv2 := [(5, Value.int 1), (4, Value.int 0), (3, Value.ref 194), (2, Value.ref 128), (1, Value.ref 7), (0, Value.ref 0)]) rfl ?_
    refine i_287_1186 (x := 128) rfl ?_
    refine i_287_1187 (x := 0) rfl ?_
    refine i_287_1188 (x := 0) rfl ?_
    refine i_287_1190 ?_
    refine i_287_1191 (c := 1) (by decide) ?_
    refine i_287_1192 (v := Value.int (xs 1)) (xga W0_0) (by decide) (by decide) rfl ?_
    refine i_287_1193 (x := 0) rfl ?_
    refine i_287_1194 (x := 0) rfl ?_
    refine i_287_1196 ?_
    refine i_287_1197 (c := 2) (by decide) ?_
    refine i_287_1198 (v := Value.int (xs 2)) (xga W0_0) (by decide) (by decide) rfl ?_
    refine i_287_1199 (x := 0) rfl ?_
    refine i_287_1200 (x := 0) rfl ?_
    refine i_287_1202 ?_
    refine i_287_1203 (c := 3) (by decide) ?_
    refine i_287_1204 (v := Value.int (xs 3)) (xga W0_0) (by decide) (by decide) rfl ?_
    refine i_287_1205 (x := 0) rfl ?_
    refine i_287_1206 (x := 0) rfl ?_
    refine i_287_1208 ?_
    refine i_287_1209 (c := 4) (by decide) ?_
    refine i_287_1210 (v := Value.int (xs 4)) (xga W0_0) (by decide) (by decide) rfl ?_
    refine i_287_1211 (x := 0) rfl ?_
    refine i_287_1212 (x := 0) rfl ?_
    refine i_287_1214 ?_
    refine i_287_1215 (c := 5) (by decide) ?_
    refine i_287_1216 (v := Value.int (xs 5)) (xga W0_0) (by decide) (by decide) rfl ?_
    refine i_287_1217 (xga W0_128) (Nat.le_of_ble_eq_true rfl) (p_230_4 (xga W0_128) (G.1.1.1) (G.2.1.2) (G.1.2.1) (G.2.2.1) (G.2.2.2.1) (G.2.2.2.2) (G.2.1.1)) ?_
    refine i_287_1220 (lv2 := [(6, Value.int 0), (5, Value.int 1), (4, Value.int 0), (3, Value.ref 194), (2, Value.ref 128), (1, Value.ref 7), (0, Value.ref 0)]) rfl ?_
    refine i_287_1222 (x := 128) rfl ?_
    refine i_287_1223 (xgs (xga (xgs (xga W0_128)))) (Nat.le_of_ble_eq_true rfl) (p_165_0 (xgs (xga (xgs (xga W0_128))))) ?_
    refine i_287_1226 (x := 1) rfl ?_
    refine i_287_1228 (fun _ => ?_) (fun h => absurd h (by decide))
    refine i_287_1233 (x := 1) rfl ?_
    refine i_287_1235 (fun _ => ?_) (fun h => absurd h (by decide))
    refine i_287_1250 ?_
    refine i_287_2154 (x := 0) (c := 6) (lv2 := [(4, Value.int 6), (6, Value.int 0), (5, Value.int 1), (3, Value.ref 194), (2, Value.ref 128), (1, Value.ref 7), (0, Value.ref 0)]) rfl (by decide) rfl ?_
    refine i_287_2157 ?_
    refine i_287_23 (x := 6) rfl ?_
    refine i_287_25 (x := 0) rfl ?_
    refine i_287_26 (c := 6) (xgn (by decide) (xga (xgn (by decide) (xga W0_0)))) (by decide) ?_
    refine i_287_27 ?_
    refine i_287_29 (c := 0) (by decide) ?_
    refine i_287_30 (fun _ => ?_) (fun h => absurd h (by decide))
    refine i_287_2160 ?_
    exact i_287_2161 rfl ⟨rfl, rfl⟩
  · refine xLs.set ?_ (xga (xgs (xga W0_128))) xcs_o
    refine xLs.app (n := 219) (z := 199994) (m := 6) ?_ rfl
    refine xLs.set ?_ (xga W0_128) xcs_o
    refine xLs.app (n := 218) (z := 199988) (m := 6) ?_ rfl
    exact ⟨Nat.le_trans (Nat.le_of_eq W0_len) (by decide), Nat.le_trans (Nat.le_of_eq W0_sz) (by decide)⟩
theorem p_115_3 {d : Nat} {w : xW} {a0 : Int32} {a1 : Int32} {a2 : Int32} {a3 : Int32} {a4 : Int32} (e0 : 0 ≤ a0.toInt) (e1 : a0.toInt < 16) (e2 : 0 ≤ a1.toInt) (e3 : a1.toInt < 16) (e4 : 1 ≤ a3.toInt) (e5 : 16 < a3.toInt) : xRun (d + 6) 115 [Value.ref 7, Value.int a0, Value.int a1, Value.int a2, Value.int a3, Value.int a4] w (.inr w.length) (w ++ [Sum.inr (14, [])]) := by
  refine xRun.of ?_
  refine i_115_0 (x := a0) rfl ?_
  refine i_115_1 (Nat.le_of_ble_eq_true rfl) (p_15_1 e0 e1) ?_
  refine i_115_4 (fun h => absurd h (by decide)) (fun _ => ?_)
  refine i_115_7 (x := a1) rfl ?_
  refine i_115_8 (x := a3) rfl ?_
  refine i_115_10 (Nat.le_of_ble_eq_true rfl) (p_113_2 e2 e3 e4 e5) ?_
  refine i_115_13 (fun _ => ?_) (fun h => absurd h (by decide))
  exact i_115_33 (by omega) (Nat.le_of_ble_eq_true rfl) ⟨rfl, rfl⟩
theorem p_114_3 {d : Nat} {w : xW} {a0 : Int32} {a1 : Int32} {a2 : Int32} {a3 : Int32} {a4 : Int32} (hw0 : w[7]? = some (Sum.inr (0, [Value.ref 8, Value.ref 78, Value.ref 9, Value.ref 10, Value.ref 13, Value.ref 16, Value.ref 19, Value.ref 93, Value.ref 108, Value.ref 113, Value.ref 29, Value.int 0]))) (e1 : 0 ≤ a0.toInt) (e2 : a0.toInt < 16) (e3 : 0 ≤ a1.toInt) (e4 : a1.toInt < 16) (e5 : 1 ≤ a3.toInt) (e6 : 16 < a3.toInt) : xRun (d + 7) 114 [Value.ref 7, Value.int a0, Value.int a1, Value.int a2, Value.int a3, Value.int a4, Value.ref 194] w (.inl (some (Value.int 1))) (w ++ [Sum.inr (14, [])]) := by
  refine xRun.of ?_
  refine i_114_0 (x := 194) rfl ?_
  refine i_114_2 ?_
  refine i_114_3 (x := 7) rfl ?_
  refine i_114_4 (x := a0) rfl ?_
  refine i_114_5 (x := a1) rfl ?_
  refine i_114_6 (x := a2) rfl ?_
  refine i_114_7 (x := a3) rfl ?_
  refine i_114_9 (x := a4) rfl ?_
  refine j_114_11 hw0 (Nat.le_of_ble_eq_true rfl) (p_115_3 e1 e2 e3 e4 e5 e6) (xDone.c xgl rfl rfl ?_)
  refine i_114_19 (lv2 := [(7, Value.ref w.length), (0, Value.ref 7), (1, Value.int a0), (2, Value.int a1), (3, Value.int a2), (4, Value.int a3), (5, Value.int a4), (6, Value.ref 194)]) rfl ?_
  refine i_114_21 ?_
  exact i_114_22 ⟨rfl, rfl⟩
theorem g_11_5 {z0 z1 z2 z3 z4 : Int} (h0 : z0 = 11) (c0 : 0 ≤ z1) (c1 : z1 < 16) (c2 : 0 ≤ z2) (c3 : z2 < 16) (c4 : 1 ≤ z3) (c5 : 16 < z3) (c6 : z4 < 0) : ((((0 ≤ z1) ∧ (z1 < 16)) ∧ ((0 ≤ z2) ∧ (z2 < 16))) ∧ (((1 ≤ z3) ∧ (16 < z3)) ∧ ((z1 ≤ 15) ∧ ((z2 ≤ 15) ∧ (z4 < 0))))) := by
  exact ⟨⟨⟨by omega, by omega⟩, ⟨by omega, by omega⟩⟩, ⟨⟨by omega, by omega⟩, ⟨by omega, ⟨by omega, by omega⟩⟩⟩⟩
theorem o_11_5 {d : Nat} {xs : Nat → Int32} (h0 : ((xs 0) &&& (31 : Int32)).toInt = 11) (c0 : 0 ≤ (xs 1).toInt) (c1 : (xs 1).toInt < 16) (c2 : 0 ≤ (xs 2).toInt) (c3 : (xs 2).toInt < 16) (c4 : 1 ≤ (xs 4).toInt) (c5 : 16 < (xs 4).toInt) (c6 : (xs 3).toInt < 0) : ∃ w1, xEv (d + 20) 287 23 [(4, Value.int 0), (3, Value.ref 194), (2, Value.ref 128), (1, Value.ref 7), (0, Value.ref 0)] [] (W0 6 xs) (fun o' w' => o' = .inl (some (Value.int 1)) ∧ w' = w1) ∧ w1.length ≤ 220 ∧ xsz w1 ≤ 200000 := by
  have G : id ((((0 ≤ (xs 1).toInt) ∧ ((xs 1).toInt < 16)) ∧ ((0 ≤ (xs 2).toInt) ∧ ((xs 2).toInt < 16))) ∧ (((1 ≤ (xs 4).toInt) ∧ (16 < (xs 4).toInt)) ∧ (((xs 1).toInt ≤ 15) ∧ (((xs 2).toInt ≤ 15) ∧ ((xs 3).toInt < 0))))) := g_11_5 h0 c0 c1 c2 c3 c4 c5 c6
  refine ⟨(((((W0 6 xs) ++ [Sum.inr (14, [])]).set 128 (Sum.inr (12, [Value.ref 129, Value.ref 131, Value.ref 133, Value.ref 135, Value.ref 137, Value.ref 139, Value.ref 141, Value.ref 143, Value.ref 145, Value.ref 147, Value.ref 149, Value.ref 151, Value.ref 153, Value.ref 154, Value.ref 155, Value.ref 156, Value.ref 157, Value.int (-16384), Value.int 16384, Value.int 0, Value.int 0, Value.int 0, Value.ref 158, Value.ref 159, Value.int 0, Value.int 0, Value.int 0, Value.int 0, Value.int 0, Value.int 0, Value.int 0, Value.int 0]))) ++ [Sum.inr (14, [])]).set 128 (Sum.inr (12, [Value.ref 129, Value.ref 131, Value.ref 133, Value.ref 135, Value.ref 137, Value.ref 139, Value.ref 141, Value.ref 143, Value.ref 145, Value.ref 147, Value.ref 149, Value.ref 151, Value.ref 153, Value.ref 154, Value.ref 155, Value.ref 156, Value.ref 157, Value.int (-16384), Value.int 16384, Value.int 0, Value.int 0, Value.int 0, Value.ref 158, Value.ref 159, Value.int 0, Value.int 0, Value.int 0, Value.int 0, Value.int 0, Value.int 0, Value.int 0, Value.int 1]))), ?_, (show xLs _ 220 200000 from ?_)⟩
  · refine i_287_23 (x := 0) rfl ?_
    refine i_287_25 (x := 0) rfl ?_
    refine i_287_26 (c := 6) W0_0 (by decide) ?_
    refine i_287_27 ?_
    refine i_287_29 (c := 0) (by decide) ?_
    refine i_287_30 (fun h => absurd h (by decide)) (fun _ => ?_)
    refine i_287_33 (x := 0) rfl ?_
    refine i_287_34 (x := 0) rfl ?_
    refine i_287_36 (v := Value.int (xs 0)) W0_0 (by decide) (by decide) rfl ?_
    refine i_287_37 ?_
    refine i_287_39 (c := 11) (show ((xs 0) &&& (31 : Int32)) = 11 from (xge_c (n := 11) h0 rfl)) ?_
    refine i_287_40_11 rfl ?_
    refine i_287_1149 (x := 7) rfl ?_
    refine i_287_1150 (x := 0) rfl ?_
    refine i_287_1151 (x := 0) rfl ?_
    refine i_287_1153 ?_
    refine i_287_1154 (c := 1) (by decide) ?_
    refine i_287_1155 (v := Value.int (xs 1)) W0_0 (by decide) (by decide) rfl ?_
    refine i_287_1156 (x := 0) rfl ?_
    refine i_287_1157 (x := 0) rfl ?_
    refine i_287_1159 ?_
    refine i_287_1160 (c := 2) (by decide) ?_
    refine i_287_1161 (v := Value.int (xs 2)) W0_0 (by decide) (by decide) rfl ?_
    refine i_287_1162 (x := 0) rfl ?_
    refine i_287_1163 (x := 0) rfl ?_
    refine i_287_1165 ?_
    refine i_287_1166 (c := 3) (by decide) ?_
    refine i_287_1167 (v := Value.int (xs 3)) W0_0 (by decide) (by decide) rfl ?_
    refine i_287_1168 (x := 0) rfl ?_
    refine i_287_1169 (x := 0) rfl ?_
    refine i_287_1171 ?_
    refine i_287_1172 (c := 4) (by decide) ?_
    refine i_287_1173 (v := Value.int (xs 4)) W0_0 (by decide) (by decide) rfl ?_
    refine i_287_1174 (x := 0) rfl ?_
    refine i_287_1175 (x := 0) rfl ?_
    refine i_287_1177 ?_
    refine i_287_1178 (c := 5) (by decide) ?_
    refine i_287_1179 (v := Value.int (xs 5)) W0_0 (by decide) (by decide) rfl ?_
    refine i_287_1180 (x := 194) rfl ?_
    refine i_287_1181 (Nat.le_of_ble_eq_true rfl) (p_114_3 W0_7 (G.1.1.1) (G.1.1.2) (G.1.2.1) (G.1.2.2) (G.2.1.1) (G.2.1.2)) ?_
    refine i_287_1184 (lv2 := [(5, Value.int 1), (4, Value.int 0), (3, Value.ref 194), (2, Value.ref 128), (1, Value.ref 7), (0, Value.ref 0)]) rfl ?_
    refine i_287_1186 (x := 128) rfl ?_
    refine i_287_1187 (x := 0) rfl ?_
    refine i_287_1188 (x := 0) rfl ?_
    refine i_287_1190 ?_
    refine i_287_1191 (c := 1) (by decide) ?_
    refine i_287_1192 (v := Value.int (xs 1)) (xga W0_0) (by decide) (by decide) rfl ?_
    refine i_287_1193 (x := 0) rfl ?_
    refine i_287_1194 (x := 0) rfl ?_
    refine i_287_1196 ?_
    refine i_287_1197 (c := 2) (by decide) ?_
    refine i_287_1198 (v := Value.int (xs 2)) (xga W0_0) (by decide) (by decide) rfl ?_
    refine i_287_1199 (x := 0) rfl ?_
    refine i_287_1200 (x := 0) rfl ?_
    refine i_287_1202 ?_
    refine i_287_1203 (c := 3) (by decide) ?_
    refine i_287_1204 (v := Value.int (xs 3)) (xga W0_0) (by decide) (by decide) rfl ?_
    refine i_287_1205 (x := 0) rfl ?_
    refine i_287_1206 (x := 0) rfl ?_
    refine i_287_1208 ?_
    refine i_287_1209 (c := 4) (by decide) ?_
    refine i_287_1210 (v := Value.int (xs 4)) (xga W0_0) (by decide) (by decide) rfl ?_
    refine i_287_1211 (x := 0) rfl ?_
    refine i_287_1212 (x := 0) rfl ?_
    refine i_287_1214 ?_
    refine i_287_1215 (c := 5) (by decide) ?_
    refine i_287_1216 (v := Value.int (xs 5)) (xga W0_0) (by decide) (by decide) rfl ?_
    refine i_287_1217 (xga W0_128) (Nat.le_of_ble_eq_true rfl) (p_230_2 (xga W0_128) (G.1.1.1) (G.2.2.1) (G.1.2.1) (G.2.2.2.1) (G.2.2.2.2)) ?_
    refine i_287_1220 (lv2 := [(6, Value.int 0), (5, Value.int 1), (4, Value.int 0), (3, Value.ref 194), (2, Value.ref 128), (1, Value.ref 7), (0, Value.ref 0)]) rfl ?_
    refine i_287_1222 (x := 128) rfl ?_
    refine i_287_1223 (xgs (xga (xgs (xga W0_128)))) (Nat.le_of_ble_eq_true rfl) (p_165_0 (xgs (xga (xgs (xga W0_128))))) ?_
    refine i_287_1226 (x := 1) rfl ?_
    refine i_287_1228 (fun _ => ?_) (fun h => absurd h (by decide))
    refine i_287_1233 (x := 1) rfl ?_
    refine i_287_1235 (fun _ => ?_) (fun h => absurd h (by decide))
    refine i_287_1250 ?_
    refine i_287_2154 (x := 0) (c := 6) (lv2 := [(4, Value.int 6), (6, Value.int 0), (5, Value.int 1), (3, Value.ref 194), (2, Value.ref 128), (1, Value.ref 7), (0, Value.ref 0)]) rfl (by decide) rfl ?_
    refine i_287_2157 ?_
    refine i_287_23 (x := 6) rfl ?_
    refine i_287_25 (x := 0) rfl ?_
    refine i_287_26 (c := 6) (xgn (by decide) (xga (xgn (by decide) (xga W0_0)))) (by decide) ?_
    refine i_287_27 ?_
    refine i_287_29 (c := 0) (by decide) ?_
    refine i_287_30 (fun _ => ?_) (fun h => absurd h (by decide))
    refine i_287_2160 ?_
    exact i_287_2161 rfl ⟨rfl, rfl⟩
  · refine xLs.set ?_ (xga (xgs (xga W0_128))) xcs_o
    refine xLs.app (n := 219) (z := 199994) (m := 6) ?_ rfl
    refine xLs.set ?_ (xga W0_128) xcs_o
    refine xLs.app (n := 218) (z := 199988) (m := 6) ?_ rfl
    exact ⟨Nat.le_trans (Nat.le_of_eq W0_len) (by decide), Nat.le_trans (Nat.le_of_eq W0_sz) (by decide)⟩
theorem g_11_6 {z0 z1 z2 z3 z4 : Int} (h0 : z0 = 11) (c0 : 0 ≤ z1) (c1 : z1 < 16) (c2 : 0 ≤ z2) (c3 : z2 < 16) (c4 : 1 ≤ z3) (c5 : 16 < z3) (c6 : 0 ≤ z4) (c7 : 15 < z4) : ((((0 ≤ z1) ∧ (z1 < 16)) ∧ ((0 ≤ z2) ∧ ((z2 < 16) ∧ (1 ≤ z3)))) ∧ (((16 < z3) ∧ (z1 ≤ 15)) ∧ ((z2 ≤ 15) ∧ ((0 ≤ z4) ∧ (15 < z4))))) := by
  exact ⟨⟨⟨by omega, by omega⟩, ⟨by omega, ⟨by omega, by omega⟩⟩⟩, ⟨⟨by omega, by omega⟩, ⟨by omega, ⟨by omega, by omega⟩⟩⟩⟩
theorem o_11_6 {d : Nat} {xs : Nat → Int32} (h0 : ((xs 0) &&& (31 : Int32)).toInt = 11) (c0 : 0 ≤ (xs 1).toInt) (c1 : (xs 1).toInt < 16) (c2 : 0 ≤ (xs 2).toInt) (c3 : (xs 2).toInt < 16) (c4 : 1 ≤ (xs 4).toInt) (c5 : 16 < (xs 4).toInt) (c6 : 0 ≤ (xs 3).toInt) (c7 : 15 < (xs 3).toInt) : ∃ w1, xEv (d + 20) 287 23 [(4, Value.int 0), (3, Value.ref 194), (2, Value.ref 128), (1, Value.ref 7), (0, Value.ref 0)] [] (W0 6 xs) (fun o' w' => o' = .inl (some (Value.int 1)) ∧ w' = w1) ∧ w1.length ≤ 220 ∧ xsz w1 ≤ 200000 := by
  have G : id ((((0 ≤ (xs 1).toInt) ∧ ((xs 1).toInt < 16)) ∧ ((0 ≤ (xs 2).toInt) ∧ (((xs 2).toInt < 16) ∧ (1 ≤ (xs 4).toInt)))) ∧ (((16 < (xs 4).toInt) ∧ ((xs 1).toInt ≤ 15)) ∧ (((xs 2).toInt ≤ 15) ∧ ((0 ≤ (xs 3).toInt) ∧ (15 < (xs 3).toInt))))) := g_11_6 h0 c0 c1 c2 c3 c4 c5 c6 c7
  refine ⟨(((((W0 6 xs) ++ [Sum.inr (14, [])]).set 128 (Sum.inr (12, [Value.ref 129, Value.ref 131, Value.ref 133, Value.ref 135, Value.ref 137, Value.ref 139, Value.ref 141, Value.ref 143, Value.ref 145, Value.ref 147, Value.ref 149, Value.ref 151, Value.ref 153, Value.ref 154, Value.ref 155, Value.ref 156, Value.ref 157, Value.int (-16384), Value.int 16384, Value.int 0, Value.int 0, Value.int 0, Value.ref 158, Value.ref 159, Value.int 0, Value.int 0, Value.int 0, Value.int 0, Value.int 0, Value.int 0, Value.int 0, Value.int 0]))) ++ [Sum.inr (14, [])]).set 128 (Sum.inr (12, [Value.ref 129, Value.ref 131, Value.ref 133, Value.ref 135, Value.ref 137, Value.ref 139, Value.ref 141, Value.ref 143, Value.ref 145, Value.ref 147, Value.ref 149, Value.ref 151, Value.ref 153, Value.ref 154, Value.ref 155, Value.ref 156, Value.ref 157, Value.int (-16384), Value.int 16384, Value.int 0, Value.int 0, Value.int 0, Value.ref 158, Value.ref 159, Value.int 0, Value.int 0, Value.int 0, Value.int 0, Value.int 0, Value.int 0, Value.int 0, Value.int 1]))), ?_, (show xLs _ 220 200000 from ?_)⟩
  · refine i_287_23 (x := 0) rfl ?_
    refine i_287_25 (x := 0) rfl ?_
    refine i_287_26 (c := 6) W0_0 (by decide) ?_
    refine i_287_27 ?_
    refine i_287_29 (c := 0) (by decide) ?_
    refine i_287_30 (fun h => absurd h (by decide)) (fun _ => ?_)
    refine i_287_33 (x := 0) rfl ?_
    refine i_287_34 (x := 0) rfl ?_
    refine i_287_36 (v := Value.int (xs 0)) W0_0 (by decide) (by decide) rfl ?_
    refine i_287_37 ?_
    refine i_287_39 (c := 11) (show ((xs 0) &&& (31 : Int32)) = 11 from (xge_c (n := 11) h0 rfl)) ?_
    refine i_287_40_11 rfl ?_
    refine i_287_1149 (x := 7) rfl ?_
    refine i_287_1150 (x := 0) rfl ?_
    refine i_287_1151 (x := 0) rfl ?_
    refine i_287_1153 ?_
    refine i_287_1154 (c := 1) (by decide) ?_
    refine i_287_1155 (v := Value.int (xs 1)) W0_0 (by decide) (by decide) rfl ?_
    refine i_287_1156 (x := 0) rfl ?_
    refine i_287_1157 (x := 0) rfl ?_
    refine i_287_1159 ?_
    refine i_287_1160 (c := 2) (by decide) ?_
    refine i_287_1161 (v := Value.int (xs 2)) W0_0 (by decide) (by decide) rfl ?_
    refine i_287_1162 (x := 0) rfl ?_
    refine i_287_1163 (x := 0) rfl ?_
    refine i_287_1165 ?_
    refine i_287_1166 (c := 3) (by decide) ?_
    refine i_287_1167 (v := Value.int (xs 3)) W0_0 (by decide) (by decide) rfl ?_
    refine i_287_1168 (x := 0) rfl ?_
    refine i_287_1169 (x := 0) rfl ?_
    refine i_287_1171 ?_
    refine i_287_1172 (c := 4) (by decide) ?_
    refine i_287_1173 (v := Value.int (xs 4)) W0_0 (by decide) (by decide) rfl ?_
    refine i_287_1174 (x := 0) rfl ?_
    refine i_287_1175 (x := 0) rfl ?_
    refine i_287_1177 ?_
    refine i_287_1178 (c := 5) (by decide) ?_
    refine i_287_1179 (v := Value.int (xs 5)) W0_0 (by decide) (by decide) rfl ?_
    refine i_287_1180 (x := 194) rfl ?_
    refine i_287_1181 (Nat.le_of_ble_eq_true rfl) (p_114_3 W0_7 (G.1.1.1) (G.1.1.2) (G.1.2.1) (G.1.2.2.1) (G.1.2.2.2) (G.2.1.1)) ?_
    refine i_287_1184 (lv2 := [(5, Value.int 1), (4, Value.int 0), (3, Value.ref 194), (2, Value.ref 128), (1, Value.ref 7), (0, Value.ref 0)]) rfl ?_
    refine i_287_1186 (x := 128) rfl ?_
    refine i_287_1187 (x := 0) rfl ?_
    refine i_287_1188 (x := 0) rfl ?_
    refine i_287_1190 ?_
    refine i_287_1191 (c := 1) (by decide) ?_
    refine i_287_1192 (v := Value.int (xs 1)) (xga W0_0) (by decide) (by decide) rfl ?_
    refine i_287_1193 (x := 0) rfl ?_
    refine i_287_1194 (x := 0) rfl ?_
    refine i_287_1196 ?_
    refine i_287_1197 (c := 2) (by decide) ?_
    refine i_287_1198 (v := Value.int (xs 2)) (xga W0_0) (by decide) (by decide) rfl ?_
    refine i_287_1199 (x := 0) rfl ?_
    refine i_287_1200 (x := 0) rfl ?_
    refine i_287_1202 ?_
    refine i_287_1203 (c := 3) (by decide) ?_
    refine i_287_1204 (v := Value.int (xs 3)) (xga W0_0) (by decide) (by decide) rfl ?_
    refine i_287_1205 (x := 0) rfl ?_
    refine i_287_1206 (x := 0) rfl ?_
    refine i_287_1208 ?_
    refine i_287_1209 (c := 4) (by decide) ?_
    refine i_287_1210 (v := Value.int (xs 4)) (xga W0_0) (by decide) (by decide) rfl ?_
    refine i_287_1211 (x := 0) rfl ?_
    refine i_287_1212 (x := 0) rfl ?_
    refine i_287_1214 ?_
    refine i_287_1215 (c := 5) (by decide) ?_
    refine i_287_1216 (v := Value.int (xs 5)) (xga W0_0) (by decide) (by decide) rfl ?_
    refine i_287_1217 (xga W0_128) (Nat.le_of_ble_eq_true rfl) (p_230_3 (xga W0_128) (G.1.1.1) (G.2.1.2) (G.1.2.1) (G.2.2.1) (G.2.2.2.1) (G.2.2.2.2)) ?_
    refine i_287_1220 (lv2 := [(6, Value.int 0), (5, Value.int 1), (4, Value.int 0), (3, Value.ref 194), (2, Value.ref 128), (1, Value.ref 7), (0, Value.ref 0)]) rfl ?_
    refine i_287_1222 (x := 128) rfl ?_
    refine i_287_1223 (xgs (xga (xgs (xga W0_128)))) (Nat.le_of_ble_eq_true rfl) (p_165_0 (xgs (xga (xgs (xga W0_128))))) ?_
    refine i_287_1226 (x := 1) rfl ?_
    refine i_287_1228 (fun _ => ?_) (fun h => absurd h (by decide))
    refine i_287_1233 (x := 1) rfl ?_
    refine i_287_1235 (fun _ => ?_) (fun h => absurd h (by decide))
    refine i_287_1250 ?_
    refine i_287_2154 (x := 0) (c := 6) (lv2 := [(4, Value.int 6), (6, Value.int 0), (5, Value.int 1), (3, Value.ref 194), (2, Value.ref 128), (1, Value.ref 7), (0, Value.ref 0)]) rfl (by decide) rfl ?_
    refine i_287_2157 ?_
    refine i_287_23 (x := 6) rfl ?_
    refine i_287_25 (x := 0) rfl ?_
    refine i_287_26 (c := 6) (xgn (by decide) (xga (xgn (by decide) (xga W0_0)))) (by decide) ?_
    refine i_287_27 ?_
    refine i_287_29 (c := 0) (by decide) ?_
    refine i_287_30 (fun _ => ?_) (fun h => absurd h (by decide))
    refine i_287_2160 ?_
    exact i_287_2161 rfl ⟨rfl, rfl⟩
  · refine xLs.set ?_ (xga (xgs (xga W0_128))) xcs_o
    refine xLs.app (n := 219) (z := 199994) (m := 6) ?_ rfl
    refine xLs.set ?_ (xga W0_128) xcs_o
    refine xLs.app (n := 218) (z := 199988) (m := 6) ?_ rfl
    exact ⟨Nat.le_trans (Nat.le_of_eq W0_len) (by decide), Nat.le_trans (Nat.le_of_eq W0_sz) (by decide)⟩
theorem p_231_5 {d : Nat} {w : xW} {a0 : Int32} {a1 : Int32} {a2 : Int32} {a3 : Int32} {a4 : Int32} (e0 : 0 ≤ a0.toInt) (e1 : a0.toInt ≤ 15) (e2 : 0 ≤ a1.toInt) (e3 : a1.toInt ≤ 15) (e4 : 0 ≤ a2.toInt) (e5 : a2.toInt ≤ 15) (e6 : 1 ≤ a3.toInt) (e7 : 16 < a3.toInt) : xRun (d + 7) 231 [Value.ref 128, Value.int a0, Value.int a1, Value.int a2, Value.int a3, Value.int a4] w (.inr w.length) (w ++ [Sum.inr (14, [])]) := by
  refine xRun.of ?_
  refine i_231_0 (x := a0) rfl ?_
  refine i_231_1 (Nat.le_of_ble_eq_true rfl) (p_168_1 e0 e1) ?_
  refine i_231_4 (x := a1) rfl ?_
  refine i_231_5 (Nat.le_of_ble_eq_true rfl) (p_168_1 e2 e3) ?_
  refine i_231_8 (x := a2) rfl ?_
  refine i_231_9 (Nat.le_of_ble_eq_true rfl) (p_168_1 e4 e5) ?_
  refine i_231_12 (x := a3) rfl ?_
  refine i_231_14 ?_
  refine i_231_15 ?_
  refine i_231_17 (Nat.le_of_ble_eq_true rfl) (p_169_43 e6 e7) ?_
  refine i_231_20 (fun _ => ?_) (fun h => absurd h (by decide))
  refine i_231_45 ?_
  exact j_231_46 (Nat.le_of_ble_eq_true rfl) (p_170_0) (xDone.t xgl rfl rfl ⟨rfl, rfl⟩)
theorem p_230_5 {d : Nat} {w : xW} {a0 : Int32} {a1 : Int32} {a2 : Int32} {a3 : Int32} {a4 : Int32} (hw0 : w[128]? = some (Sum.inr (12, [Value.ref 129, Value.ref 131, Value.ref 133, Value.ref 135, Value.ref 137, Value.ref 139, Value.ref 141, Value.ref 143, Value.ref 145, Value.ref 147, Value.ref 149, Value.ref 151, Value.ref 153, Value.ref 154, Value.ref 155, Value.ref 156, Value.ref 157, Value.int (-16384), Value.int 16384, Value.int 0, Value.int 0, Value.int 0, Value.ref 158, Value.ref 159, Value.int 0, Value.int 0, Value.int 0, Value.int 0, Value.int 0, Value.int 0, Value.int 0, Value.int 0]))) (e1 : 0 ≤ a0.toInt) (e2 : a0.toInt ≤ 15) (e3 : 0 ≤ a1.toInt) (e4 : a1.toInt ≤ 15) (e5 : 0 ≤ a2.toInt) (e6 : a2.toInt ≤ 15) (e7 : 1 ≤ a3.toInt) (e8 : 16 < a3.toInt) : xRun (d + 8) 230 [Value.ref 128, Value.int a0, Value.int a1, Value.int a2, Value.int a3, Value.int a4] w (.inl (some (Value.int 0))) (((w.set 128 (Sum.inr (12, [Value.ref 129, Value.ref 131, Value.ref 133, Value.ref 135, Value.ref 137, Value.ref 139, Value.ref 141, Value.ref 143, Value.ref 145, Value.ref 147, Value.ref 149, Value.ref 151, Value.ref 153, Value.ref 154, Value.ref 155, Value.ref 156, Value.ref 157, Value.int (-16384), Value.int 16384, Value.int 0, Value.int 0, Value.int 0, Value.ref 158, Value.ref 159, Value.int 0, Value.int 0, Value.int 0, Value.int 0, Value.int 0, Value.int 0, Value.int 0, Value.int 0]))) ++ [Sum.inr (14, [])]).set 128 (Sum.inr (12, [Value.ref 129, Value.ref 131, Value.ref 133, Value.ref 135, Value.ref 137, Value.ref 139, Value.ref 141, Value.ref 143, Value.ref 145, Value.ref 147, Value.ref 149, Value.ref 151, Value.ref 153, Value.ref 154, Value.ref 155, Value.ref 156, Value.ref 157, Value.int (-16384), Value.int 16384, Value.int 0, Value.int 0, Value.int 0, Value.ref 158, Value.ref 159, Value.int 0, Value.int 0, Value.int 0, Value.int 0, Value.int 0, Value.int 0, Value.int 0, Value.int 1]))) := by
  refine xRun.of ?_
  refine i_230_0 (x := 128) rfl ?_
  refine i_230_1 ?_
  refine i_230_2 (fs2 := [Value.ref 129, Value.ref 131, Value.ref 133, Value.ref 135, Value.ref 137, Value.ref 139, Value.ref 141, Value.ref 143, Value.ref 145, Value.ref 147, Value.ref 149, Value.ref 151, Value.ref 153, Value.ref 154, Value.ref 155, Value.ref 156, Value.ref 157, Value.int (-16384), Value.int 16384, Value.int 0, Value.int 0, Value.int 0, Value.ref 158, Value.ref 159, Value.int 0, Value.int 0, Value.int 0, Value.int 0, Value.int 0, Value.int 0, Value.int 0, Value.int 0]) hw0 (Nat.le_of_ble_eq_true rfl) rfl (by decide) ?_
  refine i_230_5 (x := 128) rfl ?_
  refine i_230_6 (x := a0) rfl ?_
  refine i_230_7 (x := a1) rfl ?_
  refine i_230_8 (x := a2) rfl ?_
  refine i_230_9 (x := a3) rfl ?_
  refine i_230_11 (x := a4) rfl ?_
  refine j_230_13 (xgs hw0) (Nat.le_of_ble_eq_true rfl) (p_231_5 e1 e2 e3 e4 e5 e6 e7 e8) (xDone.c xgl rfl rfl ?_)
  refine i_230_17 (lv2 := [(6, Value.ref ((w.set 128 (Sum.inr (12, [Value.ref 129, Value.ref 131, Value.ref 133, Value.ref 135, Value.ref 137, Value.ref 139, Value.ref 141, Value.ref 143, Value.ref 145, Value.ref 147, Value.ref 149, Value.ref 151, Value.ref 153, Value.ref 154, Value.ref 155, Value.ref 156, Value.ref 157, Value.int (-16384), Value.int 16384, Value.int 0, Value.int 0, Value.int 0, Value.ref 158, Value.ref 159, Value.int 0, Value.int 0, Value.int 0, Value.int 0, Value.int 0, Value.int 0, Value.int 0, Value.int 0]))).length)), (0, Value.ref 128), (1, Value.int a0), (2, Value.int a1), (3, Value.int a2), (4, Value.int a3), (5, Value.int a4)]) rfl ?_
  refine i_230_19 (x := 128) rfl ?_
  refine i_230_20 ?_
  refine i_230_21 (fs2 := [Value.ref 129, Value.ref 131, Value.ref 133, Value.ref 135, Value.ref 137, Value.ref 139, Value.ref 141, Value.ref 143, Value.ref 145, Value.ref 147, Value.ref 149, Value.ref 151, Value.ref 153, Value.ref 154, Value.ref 155, Value.ref 156, Value.ref 157, Value.int (-16384), Value.int 16384, Value.int 0, Value.int 0, Value.int 0, Value.ref 158, Value.ref 159, Value.int 0, Value.int 0, Value.int 0, Value.int 0, Value.int 0, Value.int 0, Value.int 0, Value.int 1]) (xga (xgs hw0)) (Nat.le_of_ble_eq_true rfl) rfl (by decide) ?_
  refine i_230_24 ?_
  exact i_230_25 ⟨rfl, rfl⟩
theorem g_11_7 {z0 z1 z2 z3 z4 : Int} (h0 : z0 = 11) (c0 : 0 ≤ z1) (c1 : z1 < 16) (c2 : 0 ≤ z2) (c3 : z2 < 16) (c4 : 1 ≤ z3) (c5 : 16 < z3) (c6 : 0 ≤ z4) (c7 : z4 ≤ 15) : ((((0 ≤ z1) ∧ (z1 < 16)) ∧ ((0 ≤ z2) ∧ ((z2 < 16) ∧ (1 ≤ z3)))) ∧ (((16 < z3) ∧ (z1 ≤ 15)) ∧ ((z2 ≤ 15) ∧ ((0 ≤ z4) ∧ (z4 ≤ 15))))) := by
  exact ⟨⟨⟨by omega, by omega⟩, ⟨by omega, ⟨by omega, by omega⟩⟩⟩, ⟨⟨by omega, by omega⟩, ⟨by omega, ⟨by omega, by omega⟩⟩⟩⟩
theorem o_11_7 {d : Nat} {xs : Nat → Int32} (h0 : ((xs 0) &&& (31 : Int32)).toInt = 11) (c0 : 0 ≤ (xs 1).toInt) (c1 : (xs 1).toInt < 16) (c2 : 0 ≤ (xs 2).toInt) (c3 : (xs 2).toInt < 16) (c4 : 1 ≤ (xs 4).toInt) (c5 : 16 < (xs 4).toInt) (c6 : 0 ≤ (xs 3).toInt) (c7 : (xs 3).toInt ≤ 15) : ∃ w1, xEv (d + 20) 287 23 [(4, Value.int 0), (3, Value.ref 194), (2, Value.ref 128), (1, Value.ref 7), (0, Value.ref 0)] [] (W0 6 xs) (fun o' w' => o' = .inl (some (Value.int 1)) ∧ w' = w1) ∧ w1.length ≤ 220 ∧ xsz w1 ≤ 200000 := by
  have G : id ((((0 ≤ (xs 1).toInt) ∧ ((xs 1).toInt < 16)) ∧ ((0 ≤ (xs 2).toInt) ∧ (((xs 2).toInt < 16) ∧ (1 ≤ (xs 4).toInt)))) ∧ (((16 < (xs 4).toInt) ∧ ((xs 1).toInt ≤ 15)) ∧ (((xs 2).toInt ≤ 15) ∧ ((0 ≤ (xs 3).toInt) ∧ ((xs 3).toInt ≤ 15))))) := g_11_7 h0 c0 c1 c2 c3 c4 c5 c6 c7
  refine ⟨(((((W0 6 xs) ++ [Sum.inr (14, [])]).set 128 (Sum.inr (12, [Value.ref 129, Value.ref 131, Value.ref 133, Value.ref 135, Value.ref 137, Value.ref 139, Value.ref 141, Value.ref 143, Value.ref 145, Value.ref 147, Value.ref 149, Value.ref 151, Value.ref 153, Value.ref 154, Value.ref 155, Value.ref 156, Value.ref 157, Value.int (-16384), Value.int 16384, Value.int 0, Value.int 0, Value.int 0, Value.ref 158, Value.ref 159, Value.int 0, Value.int 0, Value.int 0, Value.int 0, Value.int 0, Value.int 0, Value.int 0, Value.int 0]))) ++ [Sum.inr (14, [])]).set 128 (Sum.inr (12, [Value.ref 129, Value.ref 131, Value.ref 133, Value.ref 135, Value.ref 137, Value.ref 139, Value.ref 141, Value.ref 143, Value.ref 145, Value.ref 147, Value.ref 149, Value.ref 151, Value.ref 153, Value.ref 154, Value.ref 155, Value.ref 156, Value.ref 157, Value.int (-16384), Value.int 16384, Value.int 0, Value.int 0, Value.int 0, Value.ref 158, Value.ref 159, Value.int 0, Value.int 0, Value.int 0, Value.int 0, Value.int 0, Value.int 0, Value.int 0, Value.int 1]))), ?_, (show xLs _ 220 200000 from ?_)⟩
  · refine i_287_23 (x := 0) rfl ?_
    refine i_287_25 (x := 0) rfl ?_
    refine i_287_26 (c := 6) W0_0 (by decide) ?_
    refine i_287_27 ?_
    refine i_287_29 (c := 0) (by decide) ?_
    refine i_287_30 (fun h => absurd h (by decide)) (fun _ => ?_)
    refine i_287_33 (x := 0) rfl ?_
    refine i_287_34 (x := 0) rfl ?_
    refine i_287_36 (v := Value.int (xs 0)) W0_0 (by decide) (by decide) rfl ?_
    refine i_287_37 ?_
    refine i_287_39 (c := 11) (show ((xs 0) &&& (31 : Int32)) = 11 from (xge_c (n := 11) h0 rfl)) ?_
    refine i_287_40_11 rfl ?_
    refine i_287_1149 (x := 7) rfl ?_
    refine i_287_1150 (x := 0) rfl ?_
    refine i_287_1151 (x := 0) rfl ?_
    refine i_287_1153 ?_
    refine i_287_1154 (c := 1) (by decide) ?_
    refine i_287_1155 (v := Value.int (xs 1)) W0_0 (by decide) (by decide) rfl ?_
    refine i_287_1156 (x := 0) rfl ?_
    refine i_287_1157 (x := 0) rfl ?_
    refine i_287_1159 ?_
    refine i_287_1160 (c := 2) (by decide) ?_
    refine i_287_1161 (v := Value.int (xs 2)) W0_0 (by decide) (by decide) rfl ?_
    refine i_287_1162 (x := 0) rfl ?_
    refine i_287_1163 (x := 0) rfl ?_
    refine i_287_1165 ?_
    refine i_287_1166 (c := 3) (by decide) ?_
    refine i_287_1167 (v := Value.int (xs 3)) W0_0 (by decide) (by decide) rfl ?_
    refine i_287_1168 (x := 0) rfl ?_
    refine i_287_1169 (x := 0) rfl ?_
    refine i_287_1171 ?_
    refine i_287_1172 (c := 4) (by decide) ?_
    refine i_287_1173 (v := Value.int (xs 4)) W0_0 (by decide) (by decide) rfl ?_
    refine i_287_1174 (x := 0) rfl ?_
    refine i_287_1175 (x := 0) rfl ?_
    refine i_287_1177 ?_
    refine i_287_1178 (c := 5) (by decide) ?_
    refine i_287_1179 (v := Value.int (xs 5)) W0_0 (by decide) (by decide) rfl ?_
    refine i_287_1180 (x := 194) rfl ?_
    refine i_287_1181 (Nat.le_of_ble_eq_true rfl) (p_114_3 W0_7 (G.1.1.1) (G.1.1.2) (G.1.2.1) (G.1.2.2.1) (G.1.2.2.2) (G.2.1.1)) ?_
    refine i_287_1184 (lv2 := [(5, Value.int 1), (4, Value.int 0), (3, Value.ref 194), (2, Value.ref 128), (1, Value.ref 7), (0, Value.ref 0)]) rfl ?_
    refine i_287_1186 (x := 128) rfl ?_
    refine i_287_1187 (x := 0) rfl ?_
    refine i_287_1188 (x := 0) rfl ?_
    refine i_287_1190 ?_
    refine i_287_1191 (c := 1) (by decide) ?_
    refine i_287_1192 (v := Value.int (xs 1)) (xga W0_0) (by decide) (by decide) rfl ?_
    refine i_287_1193 (x := 0) rfl ?_
    refine i_287_1194 (x := 0) rfl ?_
    refine i_287_1196 ?_
    refine i_287_1197 (c := 2) (by decide) ?_
    refine i_287_1198 (v := Value.int (xs 2)) (xga W0_0) (by decide) (by decide) rfl ?_
    refine i_287_1199 (x := 0) rfl ?_
    refine i_287_1200 (x := 0) rfl ?_
    refine i_287_1202 ?_
    refine i_287_1203 (c := 3) (by decide) ?_
    refine i_287_1204 (v := Value.int (xs 3)) (xga W0_0) (by decide) (by decide) rfl ?_
    refine i_287_1205 (x := 0) rfl ?_
    refine i_287_1206 (x := 0) rfl ?_
    refine i_287_1208 ?_
    refine i_287_1209 (c := 4) (by decide) ?_
    refine i_287_1210 (v := Value.int (xs 4)) (xga W0_0) (by decide) (by decide) rfl ?_
    refine i_287_1211 (x := 0) rfl ?_
    refine i_287_1212 (x := 0) rfl ?_
    refine i_287_1214 ?_
    refine i_287_1215 (c := 5) (by decide) ?_
    refine i_287_1216 (v := Value.int (xs 5)) (xga W0_0) (by decide) (by decide) rfl ?_
    refine i_287_1217 (xga W0_128) (Nat.le_of_ble_eq_true rfl) (p_230_5 (xga W0_128) (G.1.1.1) (G.2.1.2) (G.1.2.1) (G.2.2.1) (G.2.2.2.1) (G.2.2.2.2) (G.1.2.2.2) (G.2.1.1)) ?_
    refine i_287_1220 (lv2 := [(6, Value.int 0), (5, Value.int 1), (4, Value.int 0), (3, Value.ref 194), (2, Value.ref 128), (1, Value.ref 7), (0, Value.ref 0)]) rfl ?_
    refine i_287_1222 (x := 128) rfl ?_
    refine i_287_1223 (xgs (xga (xgs (xga W0_128)))) (Nat.le_of_ble_eq_true rfl) (p_165_0 (xgs (xga (xgs (xga W0_128))))) ?_
    refine i_287_1226 (x := 1) rfl ?_
    refine i_287_1228 (fun _ => ?_) (fun h => absurd h (by decide))
    refine i_287_1233 (x := 1) rfl ?_
    refine i_287_1235 (fun _ => ?_) (fun h => absurd h (by decide))
    refine i_287_1250 ?_
    refine i_287_2154 (x := 0) (c := 6) (lv2 := [(4, Value.int 6), (6, Value.int 0), (5, Value.int 1), (3, Value.ref 194), (2, Value.ref 128), (1, Value.ref 7), (0, Value.ref 0)]) rfl (by decide) rfl ?_
    refine i_287_2157 ?_
    refine i_287_23 (x := 6) rfl ?_
    refine i_287_25 (x := 0) rfl ?_
    refine i_287_26 (c := 6) (xgn (by decide) (xga (xgn (by decide) (xga W0_0)))) (by decide) ?_
    refine i_287_27 ?_
    refine i_287_29 (c := 0) (by decide) ?_
    refine i_287_30 (fun _ => ?_) (fun h => absurd h (by decide))
    refine i_287_2160 ?_
    exact i_287_2161 rfl ⟨rfl, rfl⟩
  · refine xLs.set ?_ (xga (xgs (xga W0_128))) xcs_o
    refine xLs.app (n := 219) (z := 199994) (m := 6) ?_ rfl
    refine xLs.set ?_ (xga W0_128) xcs_o
    refine xLs.app (n := 218) (z := 199988) (m := 6) ?_ rfl
    exact ⟨Nat.le_trans (Nat.le_of_eq W0_len) (by decide), Nat.le_trans (Nat.le_of_eq W0_sz) (by decide)⟩
theorem p_115_4 {d : Nat} {w : xW} {a0 : Int32} {a1 : Int32} {a2 : Int32} {a3 : Int32} {a4 : Int32} {a5 : Int32} (e0 : 0 ≤ a0.toInt) (e1 : a0.toInt < 16) (e2 : 0 ≤ a1.toInt) (e3 : a1.toInt < 16) (e4 : 1 ≤ a3.toInt) (e5 : a3.toInt ≤ 16) (hg6 : (a1 + a3) = a5) (e7 : 16 < a5.toInt) : xRun (d + 6) 115 [Value.ref 7, Value.int a0, Value.int a1, Value.int a2, Value.int a3, Value.int a4] w (.inr w.length) (w ++ [Sum.inr (14, [])]) := by
  refine xRun.of ?_
  refine i_115_0 (x := a0) rfl ?_
  refine i_115_1 (Nat.le_of_ble_eq_true rfl) (p_15_1 e0 e1) ?_
  refine i_115_4 (fun h => absurd h (by decide)) (fun _ => ?_)
  refine i_115_7 (x := a1) rfl ?_
  refine i_115_8 (x := a3) rfl ?_
  refine i_115_10 (Nat.le_of_ble_eq_true rfl) (p_113_3 e2 e3 e4 e5 hg6 e7) ?_
  refine i_115_13 (fun _ => ?_) (fun h => absurd h (by decide))
  exact i_115_33 (by omega) (Nat.le_of_ble_eq_true rfl) ⟨rfl, rfl⟩
theorem p_114_4 {d : Nat} {w : xW} {a0 : Int32} {a1 : Int32} {a2 : Int32} {a3 : Int32} {a4 : Int32} {a5 : Int32} (hw0 : w[7]? = some (Sum.inr (0, [Value.ref 8, Value.ref 78, Value.ref 9, Value.ref 10, Value.ref 13, Value.ref 16, Value.ref 19, Value.ref 93, Value.ref 108, Value.ref 113, Value.ref 29, Value.int 0]))) (e1 : 0 ≤ a0.toInt) (e2 : a0.toInt < 16) (e3 : 0 ≤ a1.toInt) (e4 : a1.toInt < 16) (e5 : 1 ≤ a3.toInt) (e6 : a3.toInt ≤ 16) (hg7 : (a1 + a3) = a5) (e8 : 16 < a5.toInt) : xRun (d + 7) 114 [Value.ref 7, Value.int a0, Value.int a1, Value.int a2, Value.int a3, Value.int a4, Value.ref 194] w (.inl (some (Value.int 1))) (w ++ [Sum.inr (14, [])]) := by
  refine xRun.of ?_
  refine i_114_0 (x := 194) rfl ?_
  refine i_114_2 ?_
  refine i_114_3 (x := 7) rfl ?_
  refine i_114_4 (x := a0) rfl ?_
  refine i_114_5 (x := a1) rfl ?_
  refine i_114_6 (x := a2) rfl ?_
  refine i_114_7 (x := a3) rfl ?_
  refine i_114_9 (x := a4) rfl ?_
  refine j_114_11 hw0 (Nat.le_of_ble_eq_true rfl) (p_115_4 e1 e2 e3 e4 e5 e6 hg7 e8) (xDone.c xgl rfl rfl ?_)
  refine i_114_19 (lv2 := [(7, Value.ref w.length), (0, Value.ref 7), (1, Value.int a0), (2, Value.int a1), (3, Value.int a2), (4, Value.int a3), (5, Value.int a4), (6, Value.ref 194)]) rfl ?_
  refine i_114_21 ?_
  exact i_114_22 ⟨rfl, rfl⟩
theorem g_11_8 {z0 z1 z2 z3 z4 z5 : Int} (h0 : z0 = 11) (c0 : 0 ≤ z1) (c1 : z1 < 16) (c2 : 0 ≤ z2) (c3 : z2 < 16) (c4 : 1 ≤ z3) (c5 : z3 ≤ 16) (nN6 : z4 = z2 + z3) (c7 : 16 < z4) (c8 : z5 < 0) : ((((0 ≤ z1) ∧ (z1 < 16)) ∧ ((0 ≤ z2) ∧ ((z2 < 16) ∧ (1 ≤ z3)))) ∧ (((z3 ≤ 16) ∧ (16 < z4)) ∧ ((z1 ≤ 15) ∧ ((z2 ≤ 15) ∧ (z5 < 0))))) := by
  subst nN6; exact ⟨⟨⟨by omega, by omega⟩, ⟨by omega, ⟨by omega, by omega⟩⟩⟩, ⟨⟨by omega, by omega⟩, ⟨by omega, ⟨by omega, by omega⟩⟩⟩⟩
theorem o_11_8 {d : Nat} {xs : Nat → Int32} {N6 : Int32} (h0 : ((xs 0) &&& (31 : Int32)).toInt = 11) (c0 : 0 ≤ (xs 1).toInt) (c1 : (xs 1).toInt < 16) (c2 : 0 ≤ (xs 2).toInt) (c3 : (xs 2).toInt < 16) (c4 : 1 ≤ (xs 4).toInt) (c5 : (xs 4).toInt ≤ 16) (eN6 : ((xs 2) + (xs 4)) = N6) (nN6 : N6.toInt = (xs 2).toInt + (xs 4).toInt) (c7 : 16 < N6.toInt) (c8 : (xs 3).toInt < 0) : ∃ w1, xEv (d + 20) 287 23 [(4, Value.int 0), (3, Value.ref 194), (2, Value.ref 128), (1, Value.ref 7), (0, Value.ref 0)] [] (W0 6 xs) (fun o' w' => o' = .inl (some (Value.int 1)) ∧ w' = w1) ∧ w1.length ≤ 220 ∧ xsz w1 ≤ 200000 := by
  have G : id ((((0 ≤ (xs 1).toInt) ∧ ((xs 1).toInt < 16)) ∧ ((0 ≤ (xs 2).toInt) ∧ (((xs 2).toInt < 16) ∧ (1 ≤ (xs 4).toInt)))) ∧ ((((xs 4).toInt ≤ 16) ∧ (16 < N6.toInt)) ∧ (((xs 1).toInt ≤ 15) ∧ (((xs 2).toInt ≤ 15) ∧ ((xs 3).toInt < 0))))) := g_11_8 h0 c0 c1 c2 c3 c4 c5 nN6 c7 c8
  refine ⟨(((((W0 6 xs) ++ [Sum.inr (14, [])]).set 128 (Sum.inr (12, [Value.ref 129, Value.ref 131, Value.ref 133, Value.ref 135, Value.ref 137, Value.ref 139, Value.ref 141, Value.ref 143, Value.ref 145, Value.ref 147, Value.ref 149, Value.ref 151, Value.ref 153, Value.ref 154, Value.ref 155, Value.ref 156, Value.ref 157, Value.int (-16384), Value.int 16384, Value.int 0, Value.int 0, Value.int 0, Value.ref 158, Value.ref 159, Value.int 0, Value.int 0, Value.int 0, Value.int 0, Value.int 0, Value.int 0, Value.int 0, Value.int 0]))) ++ [Sum.inr (14, [])]).set 128 (Sum.inr (12, [Value.ref 129, Value.ref 131, Value.ref 133, Value.ref 135, Value.ref 137, Value.ref 139, Value.ref 141, Value.ref 143, Value.ref 145, Value.ref 147, Value.ref 149, Value.ref 151, Value.ref 153, Value.ref 154, Value.ref 155, Value.ref 156, Value.ref 157, Value.int (-16384), Value.int 16384, Value.int 0, Value.int 0, Value.int 0, Value.ref 158, Value.ref 159, Value.int 0, Value.int 0, Value.int 0, Value.int 0, Value.int 0, Value.int 0, Value.int 0, Value.int 1]))), ?_, (show xLs _ 220 200000 from ?_)⟩
  · refine i_287_23 (x := 0) rfl ?_
    refine i_287_25 (x := 0) rfl ?_
    refine i_287_26 (c := 6) W0_0 (by decide) ?_
    refine i_287_27 ?_
    refine i_287_29 (c := 0) (by decide) ?_
    refine i_287_30 (fun h => absurd h (by decide)) (fun _ => ?_)
    refine i_287_33 (x := 0) rfl ?_
    refine i_287_34 (x := 0) rfl ?_
    refine i_287_36 (v := Value.int (xs 0)) W0_0 (by decide) (by decide) rfl ?_
    refine i_287_37 ?_
    refine i_287_39 (c := 11) (show ((xs 0) &&& (31 : Int32)) = 11 from (xge_c (n := 11) h0 rfl)) ?_
    refine i_287_40_11 rfl ?_
    refine i_287_1149 (x := 7) rfl ?_
    refine i_287_1150 (x := 0) rfl ?_
    refine i_287_1151 (x := 0) rfl ?_
    refine i_287_1153 ?_
    refine i_287_1154 (c := 1) (by decide) ?_
    refine i_287_1155 (v := Value.int (xs 1)) W0_0 (by decide) (by decide) rfl ?_
    refine i_287_1156 (x := 0) rfl ?_
    refine i_287_1157 (x := 0) rfl ?_
    refine i_287_1159 ?_
    refine i_287_1160 (c := 2) (by decide) ?_
    refine i_287_1161 (v := Value.int (xs 2)) W0_0 (by decide) (by decide) rfl ?_
    refine i_287_1162 (x := 0) rfl ?_
    refine i_287_1163 (x := 0) rfl ?_
    refine i_287_1165 ?_
    refine i_287_1166 (c := 3) (by decide) ?_
    refine i_287_1167 (v := Value.int (xs 3)) W0_0 (by decide) (by decide) rfl ?_
    refine i_287_1168 (x := 0) rfl ?_
    refine i_287_1169 (x := 0) rfl ?_
    refine i_287_1171 ?_
    refine i_287_1172 (c := 4) (by decide) ?_
    refine i_287_1173 (v := Value.int (xs 4)) W0_0 (by decide) (by decide) rfl ?_
    refine i_287_1174 (x := 0) rfl ?_
    refine i_287_1175 (x := 0) rfl ?_
    refine i_287_1177 ?_
    refine i_287_1178 (c := 5) (by decide) ?_
    refine i_287_1179 (v := Value.int (xs 5)) W0_0 (by decide) (by decide) rfl ?_
    refine i_287_1180 (x := 194) rfl ?_
    refine i_287_1181 (Nat.le_of_ble_eq_true rfl) (p_114_4 W0_7 (G.1.1.1) (G.1.1.2) (G.1.2.1) (G.1.2.2.1) (G.1.2.2.2) (G.2.1.1) (show ((xs 2) + (xs 4)) = N6 from eN6) (G.2.1.2)) ?_
    refine i_287_1184 (lv2 := [(5, Value.int 1), (4, Value.int 0), (3, Value.ref 194), (2, Value.ref 128), (1, Value.ref 7), (0, Value.ref 0)]) rfl ?_
    refine i_287_1186 (x := 128) rfl ?_
    refine i_287_1187 (x := 0) rfl ?_
    refine i_287_1188 (x := 0) rfl ?_
    refine i_287_1190 ?_
    refine i_287_1191 (c := 1) (by decide) ?_
    refine i_287_1192 (v := Value.int (xs 1)) (xga W0_0) (by decide) (by decide) rfl ?_
    refine i_287_1193 (x := 0) rfl ?_
    refine i_287_1194 (x := 0) rfl ?_
    refine i_287_1196 ?_
    refine i_287_1197 (c := 2) (by decide) ?_
    refine i_287_1198 (v := Value.int (xs 2)) (xga W0_0) (by decide) (by decide) rfl ?_
    refine i_287_1199 (x := 0) rfl ?_
    refine i_287_1200 (x := 0) rfl ?_
    refine i_287_1202 ?_
    refine i_287_1203 (c := 3) (by decide) ?_
    refine i_287_1204 (v := Value.int (xs 3)) (xga W0_0) (by decide) (by decide) rfl ?_
    refine i_287_1205 (x := 0) rfl ?_
    refine i_287_1206 (x := 0) rfl ?_
    refine i_287_1208 ?_
    refine i_287_1209 (c := 4) (by decide) ?_
    refine i_287_1210 (v := Value.int (xs 4)) (xga W0_0) (by decide) (by decide) rfl ?_
    refine i_287_1211 (x := 0) rfl ?_
    refine i_287_1212 (x := 0) rfl ?_
    refine i_287_1214 ?_
    refine i_287_1215 (c := 5) (by decide) ?_
    refine i_287_1216 (v := Value.int (xs 5)) (xga W0_0) (by decide) (by decide) rfl ?_
    refine i_287_1217 (xga W0_128) (Nat.le_of_ble_eq_true rfl) (p_230_2 (xga W0_128) (G.1.1.1) (G.2.2.1) (G.1.2.1) (G.2.2.2.1) (G.2.2.2.2)) ?_
    refine i_287_1220 (lv2 := [(6, Value.int 0), (5, Value.int 1), (4, Value.int 0), (3, Value.ref 194), (2, Value.ref 128), (1, Value.ref 7), (0, Value.ref 0)]) rfl ?_
    refine i_287_1222 (x := 128) rfl ?_
    refine i_287_1223 (xgs (xga (xgs (xga W0_128)))) (Nat.le_of_ble_eq_true rfl) (p_165_0 (xgs (xga (xgs (xga W0_128))))) ?_
    refine i_287_1226 (x := 1) rfl ?_
    refine i_287_1228 (fun _ => ?_) (fun h => absurd h (by decide))
    refine i_287_1233 (x := 1) rfl ?_
    refine i_287_1235 (fun _ => ?_) (fun h => absurd h (by decide))
    refine i_287_1250 ?_
    refine i_287_2154 (x := 0) (c := 6) (lv2 := [(4, Value.int 6), (6, Value.int 0), (5, Value.int 1), (3, Value.ref 194), (2, Value.ref 128), (1, Value.ref 7), (0, Value.ref 0)]) rfl (by decide) rfl ?_
    refine i_287_2157 ?_
    refine i_287_23 (x := 6) rfl ?_
    refine i_287_25 (x := 0) rfl ?_
    refine i_287_26 (c := 6) (xgn (by decide) (xga (xgn (by decide) (xga W0_0)))) (by decide) ?_
    refine i_287_27 ?_
    refine i_287_29 (c := 0) (by decide) ?_
    refine i_287_30 (fun _ => ?_) (fun h => absurd h (by decide))
    refine i_287_2160 ?_
    exact i_287_2161 rfl ⟨rfl, rfl⟩
  · refine xLs.set ?_ (xga (xgs (xga W0_128))) xcs_o
    refine xLs.app (n := 219) (z := 199994) (m := 6) ?_ rfl
    refine xLs.set ?_ (xga W0_128) xcs_o
    refine xLs.app (n := 218) (z := 199988) (m := 6) ?_ rfl
    exact ⟨Nat.le_trans (Nat.le_of_eq W0_len) (by decide), Nat.le_trans (Nat.le_of_eq W0_sz) (by decide)⟩
theorem g_11_9 {z0 z1 z2 z3 z4 z5 : Int} (h0 : z0 = 11) (c0 : 0 ≤ z1) (c1 : z1 < 16) (c2 : 0 ≤ z2) (c3 : z2 < 16) (c4 : 1 ≤ z3) (c5 : z3 ≤ 16) (nN6 : z4 = z2 + z3) (c7 : 16 < z4) (c8 : 0 ≤ z5) (c9 : 15 < z5) : ((((0 ≤ z1) ∧ (z1 < 16)) ∧ ((0 ≤ z2) ∧ ((z2 < 16) ∧ (1 ≤ z3)))) ∧ (((z3 ≤ 16) ∧ ((16 < z4) ∧ (z1 ≤ 15))) ∧ ((z2 ≤ 15) ∧ ((0 ≤ z5) ∧ (15 < z5))))) := by
  subst nN6; exact ⟨⟨⟨by omega, by omega⟩, ⟨by omega, ⟨by omega, by omega⟩⟩⟩, ⟨⟨by omega, ⟨by omega, by omega⟩⟩, ⟨by omega, ⟨by omega, by omega⟩⟩⟩⟩
theorem o_11_9 {d : Nat} {xs : Nat → Int32} {N6 : Int32} (h0 : ((xs 0) &&& (31 : Int32)).toInt = 11) (c0 : 0 ≤ (xs 1).toInt) (c1 : (xs 1).toInt < 16) (c2 : 0 ≤ (xs 2).toInt) (c3 : (xs 2).toInt < 16) (c4 : 1 ≤ (xs 4).toInt) (c5 : (xs 4).toInt ≤ 16) (eN6 : ((xs 2) + (xs 4)) = N6) (nN6 : N6.toInt = (xs 2).toInt + (xs 4).toInt) (c7 : 16 < N6.toInt) (c8 : 0 ≤ (xs 3).toInt) (c9 : 15 < (xs 3).toInt) : ∃ w1, xEv (d + 20) 287 23 [(4, Value.int 0), (3, Value.ref 194), (2, Value.ref 128), (1, Value.ref 7), (0, Value.ref 0)] [] (W0 6 xs) (fun o' w' => o' = .inl (some (Value.int 1)) ∧ w' = w1) ∧ w1.length ≤ 220 ∧ xsz w1 ≤ 200000 := by
  have G : id ((((0 ≤ (xs 1).toInt) ∧ ((xs 1).toInt < 16)) ∧ ((0 ≤ (xs 2).toInt) ∧ (((xs 2).toInt < 16) ∧ (1 ≤ (xs 4).toInt)))) ∧ ((((xs 4).toInt ≤ 16) ∧ ((16 < N6.toInt) ∧ ((xs 1).toInt ≤ 15))) ∧ (((xs 2).toInt ≤ 15) ∧ ((0 ≤ (xs 3).toInt) ∧ (15 < (xs 3).toInt))))) := g_11_9 h0 c0 c1 c2 c3 c4 c5 nN6 c7 c8 c9
  refine ⟨(((((W0 6 xs) ++ [Sum.inr (14, [])]).set 128 (Sum.inr (12, [Value.ref 129, Value.ref 131, Value.ref 133, Value.ref 135, Value.ref 137, Value.ref 139, Value.ref 141, Value.ref 143, Value.ref 145, Value.ref 147, Value.ref 149, Value.ref 151, Value.ref 153, Value.ref 154, Value.ref 155, Value.ref 156, Value.ref 157, Value.int (-16384), Value.int 16384, Value.int 0, Value.int 0, Value.int 0, Value.ref 158, Value.ref 159, Value.int 0, Value.int 0, Value.int 0, Value.int 0, Value.int 0, Value.int 0, Value.int 0, Value.int 0]))) ++ [Sum.inr (14, [])]).set 128 (Sum.inr (12, [Value.ref 129, Value.ref 131, Value.ref 133, Value.ref 135, Value.ref 137, Value.ref 139, Value.ref 141, Value.ref 143, Value.ref 145, Value.ref 147, Value.ref 149, Value.ref 151, Value.ref 153, Value.ref 154, Value.ref 155, Value.ref 156, Value.ref 157, Value.int (-16384), Value.int 16384, Value.int 0, Value.int 0, Value.int 0, Value.ref 158, Value.ref 159, Value.int 0, Value.int 0, Value.int 0, Value.int 0, Value.int 0, Value.int 0, Value.int 0, Value.int 1]))), ?_, (show xLs _ 220 200000 from ?_)⟩
  · refine i_287_23 (x := 0) rfl ?_
    refine i_287_25 (x := 0) rfl ?_
    refine i_287_26 (c := 6) W0_0 (by decide) ?_
    refine i_287_27 ?_
    refine i_287_29 (c := 0) (by decide) ?_
    refine i_287_30 (fun h => absurd h (by decide)) (fun _ => ?_)
    refine i_287_33 (x := 0) rfl ?_
    refine i_287_34 (x := 0) rfl ?_
    refine i_287_36 (v := Value.int (xs 0)) W0_0 (by decide) (by decide) rfl ?_
    refine i_287_37 ?_
    refine i_287_39 (c := 11) (show ((xs 0) &&& (31 : Int32)) = 11 from (xge_c (n := 11) h0 rfl)) ?_
    refine i_287_40_11 rfl ?_
    refine i_287_1149 (x := 7) rfl ?_
    refine i_287_1150 (x := 0) rfl ?_
    refine i_287_1151 (x := 0) rfl ?_
    refine i_287_1153 ?_
    refine i_287_1154 (c := 1) (by decide) ?_
    refine i_287_1155 (v := Value.int (xs 1)) W0_0 (by decide) (by decide) rfl ?_
    refine i_287_1156 (x := 0) rfl ?_
    refine i_287_1157 (x := 0) rfl ?_
    refine i_287_1159 ?_
    refine i_287_1160 (c := 2) (by decide) ?_
    refine i_287_1161 (v := Value.int (xs 2)) W0_0 (by decide) (by decide) rfl ?_
    refine i_287_1162 (x := 0) rfl ?_
    refine i_287_1163 (x := 0) rfl ?_
    refine i_287_1165 ?_
    refine i_287_1166 (c := 3) (by decide) ?_
    refine i_287_1167 (v := Value.int (xs 3)) W0_0 (by decide) (by decide) rfl ?_
    refine i_287_1168 (x := 0) rfl ?_
    refine i_287_1169 (x := 0) rfl ?_
    refine i_287_1171 ?_
    refine i_287_1172 (c := 4) (by decide) ?_
    refine i_287_1173 (v := Value.int (xs 4)) W0_0 (by decide) (by decide) rfl ?_
    refine i_287_1174 (x := 0) rfl ?_
    refine i_287_1175 (x := 0) rfl ?_
    refine i_287_1177 ?_
    refine i_287_1178 (c := 5) (by decide) ?_
    refine i_287_1179 (v := Value.int (xs 5)) W0_0 (by decide) (by decide) rfl ?_
    refine i_287_1180 (x := 194) rfl ?_
    refine i_287_1181 (Nat.le_of_ble_eq_true rfl) (p_114_4 W0_7 (G.1.1.1) (G.1.1.2) (G.1.2.1) (G.1.2.2.1) (G.1.2.2.2) (G.2.1.1) (show ((xs 2) + (xs 4)) = N6 from eN6) (G.2.1.2.1)) ?_
    refine i_287_1184 (lv2 := [(5, Value.int 1), (4, Value.int 0), (3, Value.ref 194), (2, Value.ref 128), (1, Value.ref 7), (0, Value.ref 0)]) rfl ?_
    refine i_287_1186 (x := 128) rfl ?_
    refine i_287_1187 (x := 0) rfl ?_
    refine i_287_1188 (x := 0) rfl ?_
    refine i_287_1190 ?_
    refine i_287_1191 (c := 1) (by decide) ?_
    refine i_287_1192 (v := Value.int (xs 1)) (xga W0_0) (by decide) (by decide) rfl ?_
    refine i_287_1193 (x := 0) rfl ?_
    refine i_287_1194 (x := 0) rfl ?_
    refine i_287_1196 ?_
    refine i_287_1197 (c := 2) (by decide) ?_
    refine i_287_1198 (v := Value.int (xs 2)) (xga W0_0) (by decide) (by decide) rfl ?_
    refine i_287_1199 (x := 0) rfl ?_
    refine i_287_1200 (x := 0) rfl ?_
    refine i_287_1202 ?_
    refine i_287_1203 (c := 3) (by decide) ?_
    refine i_287_1204 (v := Value.int (xs 3)) (xga W0_0) (by decide) (by decide) rfl ?_
    refine i_287_1205 (x := 0) rfl ?_
    refine i_287_1206 (x := 0) rfl ?_
    refine i_287_1208 ?_
    refine i_287_1209 (c := 4) (by decide) ?_
    refine i_287_1210 (v := Value.int (xs 4)) (xga W0_0) (by decide) (by decide) rfl ?_
    refine i_287_1211 (x := 0) rfl ?_
    refine i_287_1212 (x := 0) rfl ?_
    refine i_287_1214 ?_
    refine i_287_1215 (c := 5) (by decide) ?_
    refine i_287_1216 (v := Value.int (xs 5)) (xga W0_0) (by decide) (by decide) rfl ?_
    refine i_287_1217 (xga W0_128) (Nat.le_of_ble_eq_true rfl) (p_230_3 (xga W0_128) (G.1.1.1) (G.2.1.2.2) (G.1.2.1) (G.2.2.1) (G.2.2.2.1) (G.2.2.2.2)) ?_
    refine i_287_1220 (lv2 := [(6, Value.int 0), (5, Value.int 1), (4, Value.int 0), (3, Value.ref 194), (2, Value.ref 128), (1, Value.ref 7), (0, Value.ref 0)]) rfl ?_
    refine i_287_1222 (x := 128) rfl ?_
    refine i_287_1223 (xgs (xga (xgs (xga W0_128)))) (Nat.le_of_ble_eq_true rfl) (p_165_0 (xgs (xga (xgs (xga W0_128))))) ?_
    refine i_287_1226 (x := 1) rfl ?_
    refine i_287_1228 (fun _ => ?_) (fun h => absurd h (by decide))
    refine i_287_1233 (x := 1) rfl ?_
    refine i_287_1235 (fun _ => ?_) (fun h => absurd h (by decide))
    refine i_287_1250 ?_
    refine i_287_2154 (x := 0) (c := 6) (lv2 := [(4, Value.int 6), (6, Value.int 0), (5, Value.int 1), (3, Value.ref 194), (2, Value.ref 128), (1, Value.ref 7), (0, Value.ref 0)]) rfl (by decide) rfl ?_
    refine i_287_2157 ?_
    refine i_287_23 (x := 6) rfl ?_
    refine i_287_25 (x := 0) rfl ?_
    refine i_287_26 (c := 6) (xgn (by decide) (xga (xgn (by decide) (xga W0_0)))) (by decide) ?_
    refine i_287_27 ?_
    refine i_287_29 (c := 0) (by decide) ?_
    refine i_287_30 (fun _ => ?_) (fun h => absurd h (by decide))
    refine i_287_2160 ?_
    exact i_287_2161 rfl ⟨rfl, rfl⟩
  · refine xLs.set ?_ (xga (xgs (xga W0_128))) xcs_o
    refine xLs.app (n := 219) (z := 199994) (m := 6) ?_ rfl
    refine xLs.set ?_ (xga W0_128) xcs_o
    refine xLs.app (n := 218) (z := 199988) (m := 6) ?_ rfl
    exact ⟨Nat.le_trans (Nat.le_of_eq W0_len) (by decide), Nat.le_trans (Nat.le_of_eq W0_sz) (by decide)⟩
theorem p_231_6 {d : Nat} {w : xW} {a0 : Int32} {a1 : Int32} {a2 : Int32} {a3 : Int32} {a4 : Int32} {a5 : Int32} (e0 : 0 ≤ a0.toInt) (e1 : a0.toInt ≤ 15) (e2 : 0 ≤ a1.toInt) (e3 : a1.toInt ≤ 15) (e4 : 0 ≤ a2.toInt) (e5 : a2.toInt ≤ 15) (e6 : 1 ≤ a3.toInt) (e7 : a3.toInt ≤ 16) (hg8 : (a1 + a3) = a5) (e9 : 16 < a5.toInt) : xRun (d + 7) 231 [Value.ref 128, Value.int a0, Value.int a1, Value.int a2, Value.int a3, Value.int a4] w (.inr w.length) (w ++ [Sum.inr (14, [])]) := by
  refine xRun.of ?_
  refine i_231_0 (x := a0) rfl ?_
  refine i_231_1 (Nat.le_of_ble_eq_true rfl) (p_168_1 e0 e1) ?_
  refine i_231_4 (x := a1) rfl ?_
  refine i_231_5 (Nat.le_of_ble_eq_true rfl) (p_168_1 e2 e3) ?_
  refine i_231_8 (x := a2) rfl ?_
  refine i_231_9 (Nat.le_of_ble_eq_true rfl) (p_168_1 e4 e5) ?_
  refine i_231_12 (x := a3) rfl ?_
  refine i_231_14 ?_
  refine i_231_15 ?_
  refine i_231_17 (Nat.le_of_ble_eq_true rfl) (p_169_44 e6 e7) ?_
  refine i_231_20 (fun h => absurd h (by decide)) (fun _ => ?_)
  refine i_231_23 (x := a1) rfl ?_
  refine i_231_24 (x := a3) rfl ?_
  refine i_231_26 (c := a5) hg8 ?_
  refine i_231_27 ?_
  refine i_231_29 (fun _ => ?_) (fun h => absurd e9 (Int.not_lt.mpr h))
  refine i_231_45 ?_
  exact j_231_46 (Nat.le_of_ble_eq_true rfl) (p_170_0) (xDone.t xgl rfl rfl ⟨rfl, rfl⟩)
theorem p_230_6 {d : Nat} {w : xW} {a0 : Int32} {a1 : Int32} {a2 : Int32} {a3 : Int32} {a4 : Int32} {a5 : Int32} (hw0 : w[128]? = some (Sum.inr (12, [Value.ref 129, Value.ref 131, Value.ref 133, Value.ref 135, Value.ref 137, Value.ref 139, Value.ref 141, Value.ref 143, Value.ref 145, Value.ref 147, Value.ref 149, Value.ref 151, Value.ref 153, Value.ref 154, Value.ref 155, Value.ref 156, Value.ref 157, Value.int (-16384), Value.int 16384, Value.int 0, Value.int 0, Value.int 0, Value.ref 158, Value.ref 159, Value.int 0, Value.int 0, Value.int 0, Value.int 0, Value.int 0, Value.int 0, Value.int 0, Value.int 0]))) (e1 : 0 ≤ a0.toInt) (e2 : a0.toInt ≤ 15) (e3 : 0 ≤ a1.toInt) (e4 : a1.toInt ≤ 15) (e5 : 0 ≤ a2.toInt) (e6 : a2.toInt ≤ 15) (e7 : 1 ≤ a3.toInt) (e8 : a3.toInt ≤ 16) (hg9 : (a1 + a3) = a5) (e10 : 16 < a5.toInt) : xRun (d + 8) 230 [Value.ref 128, Value.int a0, Value.int a1, Value.int a2, Value.int a3, Value.int a4] w (.inl (some (Value.int 0))) (((w.set 128 (Sum.inr (12, [Value.ref 129, Value.ref 131, Value.ref 133, Value.ref 135, Value.ref 137, Value.ref 139, Value.ref 141, Value.ref 143, Value.ref 145, Value.ref 147, Value.ref 149, Value.ref 151, Value.ref 153, Value.ref 154, Value.ref 155, Value.ref 156, Value.ref 157, Value.int (-16384), Value.int 16384, Value.int 0, Value.int 0, Value.int 0, Value.ref 158, Value.ref 159, Value.int 0, Value.int 0, Value.int 0, Value.int 0, Value.int 0, Value.int 0, Value.int 0, Value.int 0]))) ++ [Sum.inr (14, [])]).set 128 (Sum.inr (12, [Value.ref 129, Value.ref 131, Value.ref 133, Value.ref 135, Value.ref 137, Value.ref 139, Value.ref 141, Value.ref 143, Value.ref 145, Value.ref 147, Value.ref 149, Value.ref 151, Value.ref 153, Value.ref 154, Value.ref 155, Value.ref 156, Value.ref 157, Value.int (-16384), Value.int 16384, Value.int 0, Value.int 0, Value.int 0, Value.ref 158, Value.ref 159, Value.int 0, Value.int 0, Value.int 0, Value.int 0, Value.int 0, Value.int 0, Value.int 0, Value.int 1]))) := by
  refine xRun.of ?_
  refine i_230_0 (x := 128) rfl ?_
  refine i_230_1 ?_
  refine i_230_2 (fs2 := [Value.ref 129, Value.ref 131, Value.ref 133, Value.ref 135, Value.ref 137, Value.ref 139, Value.ref 141, Value.ref 143, Value.ref 145, Value.ref 147, Value.ref 149, Value.ref 151, Value.ref 153, Value.ref 154, Value.ref 155, Value.ref 156, Value.ref 157, Value.int (-16384), Value.int 16384, Value.int 0, Value.int 0, Value.int 0, Value.ref 158, Value.ref 159, Value.int 0, Value.int 0, Value.int 0, Value.int 0, Value.int 0, Value.int 0, Value.int 0, Value.int 0]) hw0 (Nat.le_of_ble_eq_true rfl) rfl (by decide) ?_
  refine i_230_5 (x := 128) rfl ?_
  refine i_230_6 (x := a0) rfl ?_
  refine i_230_7 (x := a1) rfl ?_
  refine i_230_8 (x := a2) rfl ?_
  refine i_230_9 (x := a3) rfl ?_
  refine i_230_11 (x := a4) rfl ?_
  refine j_230_13 (xgs hw0) (Nat.le_of_ble_eq_true rfl) (p_231_6 e1 e2 e3 e4 e5 e6 e7 e8 hg9 e10) (xDone.c xgl rfl rfl ?_)
  refine i_230_17 (lv2 := [(6, Value.ref ((w.set 128 (Sum.inr (12, [Value.ref 129, Value.ref 131, Value.ref 133, Value.ref 135, Value.ref 137, Value.ref 139, Value.ref 141, Value.ref 143, Value.ref 145, Value.ref 147, Value.ref 149, Value.ref 151, Value.ref 153, Value.ref 154, Value.ref 155, Value.ref 156, Value.ref 157, Value.int (-16384), Value.int 16384, Value.int 0, Value.int 0, Value.int 0, Value.ref 158, Value.ref 159, Value.int 0, Value.int 0, Value.int 0, Value.int 0, Value.int 0, Value.int 0, Value.int 0, Value.int 0]))).length)), (0, Value.ref 128), (1, Value.int a0), (2, Value.int a1), (3, Value.int a2), (4, Value.int a3), (5, Value.int a4)]) rfl ?_
  refine i_230_19 (x := 128) rfl ?_
  refine i_230_20 ?_
  refine i_230_21 (fs2 := [Value.ref 129, Value.ref 131, Value.ref 133, Value.ref 135, Value.ref 137, Value.ref 139, Value.ref 141, Value.ref 143, Value.ref 145, Value.ref 147, Value.ref 149, Value.ref 151, Value.ref 153, Value.ref 154, Value.ref 155, Value.ref 156, Value.ref 157, Value.int (-16384), Value.int 16384, Value.int 0, Value.int 0, Value.int 0, Value.ref 158, Value.ref 159, Value.int 0, Value.int 0, Value.int 0, Value.int 0, Value.int 0, Value.int 0, Value.int 0, Value.int 1]) (xga (xgs hw0)) (Nat.le_of_ble_eq_true rfl) rfl (by decide) ?_
  refine i_230_24 ?_
  exact i_230_25 ⟨rfl, rfl⟩
theorem g_11_10 {z0 z1 z2 z3 z4 z5 : Int} (h0 : z0 = 11) (c0 : 0 ≤ z1) (c1 : z1 < 16) (c2 : 0 ≤ z2) (c3 : z2 < 16) (c4 : 1 ≤ z3) (c5 : z3 ≤ 16) (nN6 : z4 = z2 + z3) (c7 : 16 < z4) (c8 : 0 ≤ z5) (c9 : z5 ≤ 15) : ((((0 ≤ z1) ∧ (z1 < 16)) ∧ ((0 ≤ z2) ∧ ((z2 < 16) ∧ (1 ≤ z3)))) ∧ (((z3 ≤ 16) ∧ ((16 < z4) ∧ (z1 ≤ 15))) ∧ ((z2 ≤ 15) ∧ ((0 ≤ z5) ∧ (z5 ≤ 15))))) := by
  subst nN6; exact ⟨⟨⟨by omega, by omega⟩, ⟨by omega, ⟨by omega, by omega⟩⟩⟩, ⟨⟨by omega, ⟨by omega, by omega⟩⟩, ⟨by omega, ⟨by omega, by omega⟩⟩⟩⟩
theorem o_11_10 {d : Nat} {xs : Nat → Int32} {N6 : Int32} (h0 : ((xs 0) &&& (31 : Int32)).toInt = 11) (c0 : 0 ≤ (xs 1).toInt) (c1 : (xs 1).toInt < 16) (c2 : 0 ≤ (xs 2).toInt) (c3 : (xs 2).toInt < 16) (c4 : 1 ≤ (xs 4).toInt) (c5 : (xs 4).toInt ≤ 16) (eN6 : ((xs 2) + (xs 4)) = N6) (nN6 : N6.toInt = (xs 2).toInt + (xs 4).toInt) (c7 : 16 < N6.toInt) (c8 : 0 ≤ (xs 3).toInt) (c9 : (xs 3).toInt ≤ 15) : ∃ w1, xEv (d + 20) 287 23 [(4, Value.int 0), (3, Value.ref 194), (2, Value.ref 128), (1, Value.ref 7), (0, Value.ref 0)] [] (W0 6 xs) (fun o' w' => o' = .inl (some (Value.int 1)) ∧ w' = w1) ∧ w1.length ≤ 220 ∧ xsz w1 ≤ 200000 := by
  have G : id ((((0 ≤ (xs 1).toInt) ∧ ((xs 1).toInt < 16)) ∧ ((0 ≤ (xs 2).toInt) ∧ (((xs 2).toInt < 16) ∧ (1 ≤ (xs 4).toInt)))) ∧ ((((xs 4).toInt ≤ 16) ∧ ((16 < N6.toInt) ∧ ((xs 1).toInt ≤ 15))) ∧ (((xs 2).toInt ≤ 15) ∧ ((0 ≤ (xs 3).toInt) ∧ ((xs 3).toInt ≤ 15))))) := g_11_10 h0 c0 c1 c2 c3 c4 c5 nN6 c7 c8 c9
  refine ⟨(((((W0 6 xs) ++ [Sum.inr (14, [])]).set 128 (Sum.inr (12, [Value.ref 129, Value.ref 131, Value.ref 133, Value.ref 135, Value.ref 137, Value.ref 139, Value.ref 141, Value.ref 143, Value.ref 145, Value.ref 147, Value.ref 149, Value.ref 151, Value.ref 153, Value.ref 154, Value.ref 155, Value.ref 156, Value.ref 157, Value.int (-16384), Value.int 16384, Value.int 0, Value.int 0, Value.int 0, Value.ref 158, Value.ref 159, Value.int 0, Value.int 0, Value.int 0, Value.int 0, Value.int 0, Value.int 0, Value.int 0, Value.int 0]))) ++ [Sum.inr (14, [])]).set 128 (Sum.inr (12, [Value.ref 129, Value.ref 131, Value.ref 133, Value.ref 135, Value.ref 137, Value.ref 139, Value.ref 141, Value.ref 143, Value.ref 145, Value.ref 147, Value.ref 149, Value.ref 151, Value.ref 153, Value.ref 154, Value.ref 155, Value.ref 156, Value.ref 157, Value.int (-16384), Value.int 16384, Value.int 0, Value.int 0, Value.int 0, Value.ref 158, Value.ref 159, Value.int 0, Value.int 0, Value.int 0, Value.int 0, Value.int 0, Value.int 0, Value.int 0, Value.int 1]))), ?_, (show xLs _ 220 200000 from ?_)⟩
  · refine i_287_23 (x := 0) rfl ?_
    refine i_287_25 (x := 0) rfl ?_
    refine i_287_26 (c := 6) W0_0 (by decide) ?_
    refine i_287_27 ?_
    refine i_287_29 (c := 0) (by decide) ?_
    refine i_287_30 (fun h => absurd h (by decide)) (fun _ => ?_)
    refine i_287_33 (x := 0) rfl ?_
    refine i_287_34 (x := 0) rfl ?_
    refine i_287_36 (v := Value.int (xs 0)) W0_0 (by decide) (by decide) rfl ?_
    refine i_287_37 ?_
    refine i_287_39 (c := 11) (show ((xs 0) &&& (31 : Int32)) = 11 from (xge_c (n := 11) h0 rfl)) ?_
    refine i_287_40_11 rfl ?_
    refine i_287_1149 (x := 7) rfl ?_
    refine i_287_1150 (x := 0) rfl ?_
    refine i_287_1151 (x := 0) rfl ?_
    refine i_287_1153 ?_
    refine i_287_1154 (c := 1) (by decide) ?_
    refine i_287_1155 (v := Value.int (xs 1)) W0_0 (by decide) (by decide) rfl ?_
    refine i_287_1156 (x := 0) rfl ?_
    refine i_287_1157 (x := 0) rfl ?_
    refine i_287_1159 ?_
    refine i_287_1160 (c := 2) (by decide) ?_
    refine i_287_1161 (v := Value.int (xs 2)) W0_0 (by decide) (by decide) rfl ?_
    refine i_287_1162 (x := 0) rfl ?_
    refine i_287_1163 (x := 0) rfl ?_
    refine i_287_1165 ?_
    refine i_287_1166 (c := 3) (by decide) ?_
    refine i_287_1167 (v := Value.int (xs 3)) W0_0 (by decide) (by decide) rfl ?_
    refine i_287_1168 (x := 0) rfl ?_
    refine i_287_1169 (x := 0) rfl ?_
    refine i_287_1171 ?_
    refine i_287_1172 (c := 4) (by decide) ?_
    refine i_287_1173 (v := Value.int (xs 4)) W0_0 (by decide) (by decide) rfl ?_
    refine i_287_1174 (x := 0) rfl ?_
    refine i_287_1175 (x := 0) rfl ?_
    refine i_287_1177 ?_
    refine i_287_1178 (c := 5) (by decide) ?_
    refine i_287_1179 (v := Value.int (xs 5)) W0_0 (by decide) (by decide) rfl ?_
    refine i_287_1180 (x := 194) rfl ?_
    refine i_287_1181 (Nat.le_of_ble_eq_true rfl) (p_114_4 W0_7 (G.1.1.1) (G.1.1.2) (G.1.2.1) (G.1.2.2.1) (G.1.2.2.2) (G.2.1.1) (show ((xs 2) + (xs 4)) = N6 from eN6) (G.2.1.2.1)) ?_
    refine i_287_1184 (lv2 := [(5, Value.int 1), (4, Value.int 0), (3, Value.ref 194), (2, Value.ref 128), (1, Value.ref 7), (0, Value.ref 0)]) rfl ?_
    refine i_287_1186 (x := 128) rfl ?_
    refine i_287_1187 (x := 0) rfl ?_
    refine i_287_1188 (x := 0) rfl ?_
    refine i_287_1190 ?_
    refine i_287_1191 (c := 1) (by decide) ?_
    refine i_287_1192 (v := Value.int (xs 1)) (xga W0_0) (by decide) (by decide) rfl ?_
    refine i_287_1193 (x := 0) rfl ?_
    refine i_287_1194 (x := 0) rfl ?_
    refine i_287_1196 ?_
    refine i_287_1197 (c := 2) (by decide) ?_
    refine i_287_1198 (v := Value.int (xs 2)) (xga W0_0) (by decide) (by decide) rfl ?_
    refine i_287_1199 (x := 0) rfl ?_
    refine i_287_1200 (x := 0) rfl ?_
    refine i_287_1202 ?_
    refine i_287_1203 (c := 3) (by decide) ?_
    refine i_287_1204 (v := Value.int (xs 3)) (xga W0_0) (by decide) (by decide) rfl ?_
    refine i_287_1205 (x := 0) rfl ?_
    refine i_287_1206 (x := 0) rfl ?_
    refine i_287_1208 ?_
    refine i_287_1209 (c := 4) (by decide) ?_
    refine i_287_1210 (v := Value.int (xs 4)) (xga W0_0) (by decide) (by decide) rfl ?_
    refine i_287_1211 (x := 0) rfl ?_
    refine i_287_1212 (x := 0) rfl ?_
    refine i_287_1214 ?_
    refine i_287_1215 (c := 5) (by decide) ?_
    refine i_287_1216 (v := Value.int (xs 5)) (xga W0_0) (by decide) (by decide) rfl ?_
    refine i_287_1217 (xga W0_128) (Nat.le_of_ble_eq_true rfl) (p_230_6 (xga W0_128) (G.1.1.1) (G.2.1.2.2) (G.1.2.1) (G.2.2.1) (G.2.2.2.1) (G.2.2.2.2) (G.1.2.2.2) (G.2.1.1) (show ((xs 2) + (xs 4)) = N6 from eN6) (G.2.1.2.1)) ?_
    refine i_287_1220 (lv2 := [(6, Value.int 0), (5, Value.int 1), (4, Value.int 0), (3, Value.ref 194), (2, Value.ref 128), (1, Value.ref 7), (0, Value.ref 0)]) rfl ?_
    refine i_287_1222 (x := 128) rfl ?_
    refine i_287_1223 (xgs (xga (xgs (xga W0_128)))) (Nat.le_of_ble_eq_true rfl) (p_165_0 (xgs (xga (xgs (xga W0_128))))) ?_
    refine i_287_1226 (x := 1) rfl ?_
    refine i_287_1228 (fun _ => ?_) (fun h => absurd h (by decide))
    refine i_287_1233 (x := 1) rfl ?_
    refine i_287_1235 (fun _ => ?_) (fun h => absurd h (by decide))
    refine i_287_1250 ?_
    refine i_287_2154 (x := 0) (c := 6) (lv2 := [(4, Value.int 6), (6, Value.int 0), (5, Value.int 1), (3, Value.ref 194), (2, Value.ref 128), (1, Value.ref 7), (0, Value.ref 0)]) rfl (by decide) rfl ?_
    refine i_287_2157 ?_
    refine i_287_23 (x := 6) rfl ?_
    refine i_287_25 (x := 0) rfl ?_
    refine i_287_26 (c := 6) (xgn (by decide) (xga (xgn (by decide) (xga W0_0)))) (by decide) ?_
    refine i_287_27 ?_
    refine i_287_29 (c := 0) (by decide) ?_
    refine i_287_30 (fun _ => ?_) (fun h => absurd h (by decide))
    refine i_287_2160 ?_
    exact i_287_2161 rfl ⟨rfl, rfl⟩
  · refine xLs.set ?_ (xga (xgs (xga W0_128))) xcs_o
    refine xLs.app (n := 219) (z := 199994) (m := 6) ?_ rfl
    refine xLs.set ?_ (xga W0_128) xcs_o
    refine xLs.app (n := 218) (z := 199988) (m := 6) ?_ rfl
    exact ⟨Nat.le_trans (Nat.le_of_eq W0_len) (by decide), Nat.le_trans (Nat.le_of_eq W0_sz) (by decide)⟩
theorem p_115_5 {d : Nat} {w : xW} {a0 : Int32} {a1 : Int32} {a2 : Int32} {a3 : Int32} {a4 : Int32} {a5 : Int32} (e0 : 0 ≤ a0.toInt) (e1 : a0.toInt < 16) (e2 : 0 ≤ a1.toInt) (e3 : a1.toInt < 16) (e4 : 1 ≤ a3.toInt) (e5 : a3.toInt ≤ 16) (hg6 : (a1 + a3) = a5) (e7 : a5.toInt ≤ 16) (e8 : a2.toInt < 0) : xRun (d + 6) 115 [Value.ref 7, Value.int a0, Value.int a1, Value.int a2, Value.int a3, Value.int a4] w (.inr w.length) (w ++ [Sum.inr (14, [])]) := by
  refine xRun.of ?_
  refine i_115_0 (x := a0) rfl ?_
  refine i_115_1 (Nat.le_of_ble_eq_true rfl) (p_15_1 e0 e1) ?_
  refine i_115_4 (fun h => absurd h (by decide)) (fun _ => ?_)
  refine i_115_7 (x := a1) rfl ?_
  refine i_115_8 (x := a3) rfl ?_
  refine i_115_10 (Nat.le_of_ble_eq_true rfl) (p_113_4 e2 e3 e4 e5 hg6 e7) ?_
  refine i_115_13 (fun h => absurd h (by decide)) (fun _ => ?_)
  refine i_115_16 (x := a2) rfl ?_
  refine i_115_17 (x := a3) rfl ?_
  refine i_115_19 (Nat.le_of_ble_eq_true rfl) (p_113_0 e8) ?_
  refine i_115_22 (fun _ => ?_) (fun h => absurd h (by decide))
  exact i_115_33 (by omega) (Nat.le_of_ble_eq_true rfl) ⟨rfl, rfl⟩
theorem p_114_5 {d : Nat} {w : xW} {a0 : Int32} {a1 : Int32} {a2 : Int32} {a3 : Int32} {a4 : Int32} {a5 : Int32} (hw0 : w[7]? = some (Sum.inr (0, [Value.ref 8, Value.ref 78, Value.ref 9, Value.ref 10, Value.ref 13, Value.ref 16, Value.ref 19, Value.ref 93, Value.ref 108, Value.ref 113, Value.ref 29, Value.int 0]))) (e1 : 0 ≤ a0.toInt) (e2 : a0.toInt < 16) (e3 : 0 ≤ a1.toInt) (e4 : a1.toInt < 16) (e5 : 1 ≤ a3.toInt) (e6 : a3.toInt ≤ 16) (hg7 : (a1 + a3) = a5) (e8 : a5.toInt ≤ 16) (e9 : a2.toInt < 0) : xRun (d + 7) 114 [Value.ref 7, Value.int a0, Value.int a1, Value.int a2, Value.int a3, Value.int a4, Value.ref 194] w (.inl (some (Value.int 1))) (w ++ [Sum.inr (14, [])]) := by
  refine xRun.of ?_
  refine i_114_0 (x := 194) rfl ?_
  refine i_114_2 ?_
  refine i_114_3 (x := 7) rfl ?_
  refine i_114_4 (x := a0) rfl ?_
  refine i_114_5 (x := a1) rfl ?_
  refine i_114_6 (x := a2) rfl ?_
  refine i_114_7 (x := a3) rfl ?_
  refine i_114_9 (x := a4) rfl ?_
  refine j_114_11 hw0 (Nat.le_of_ble_eq_true rfl) (p_115_5 e1 e2 e3 e4 e5 e6 hg7 e8 e9) (xDone.c xgl rfl rfl ?_)
  refine i_114_19 (lv2 := [(7, Value.ref w.length), (0, Value.ref 7), (1, Value.int a0), (2, Value.int a1), (3, Value.int a2), (4, Value.int a3), (5, Value.int a4), (6, Value.ref 194)]) rfl ?_
  refine i_114_21 ?_
  exact i_114_22 ⟨rfl, rfl⟩
theorem g_11_11 {z0 z1 z2 z3 z4 z5 : Int} (h0 : z0 = 11) (c0 : 0 ≤ z1) (c1 : z1 < 16) (c2 : 0 ≤ z2) (c3 : z2 < 16) (c4 : 1 ≤ z3) (c5 : z3 ≤ 16) (nN6 : z4 = z2 + z3) (c7 : z4 ≤ 16) (c8 : z5 < 0) : ((((0 ≤ z1) ∧ (z1 < 16)) ∧ ((0 ≤ z2) ∧ ((z2 < 16) ∧ (1 ≤ z3)))) ∧ (((z3 ≤ 16) ∧ (z4 ≤ 16)) ∧ ((z5 < 0) ∧ ((z1 ≤ 15) ∧ (z2 ≤ 15))))) := by
  subst nN6; exact ⟨⟨⟨by omega, by omega⟩, ⟨by omega, ⟨by omega, by omega⟩⟩⟩, ⟨⟨by omega, by omega⟩, ⟨by omega, ⟨by omega, by omega⟩⟩⟩⟩
theorem o_11_11 {d : Nat} {xs : Nat → Int32} {N6 : Int32} (h0 : ((xs 0) &&& (31 : Int32)).toInt = 11) (c0 : 0 ≤ (xs 1).toInt) (c1 : (xs 1).toInt < 16) (c2 : 0 ≤ (xs 2).toInt) (c3 : (xs 2).toInt < 16) (c4 : 1 ≤ (xs 4).toInt) (c5 : (xs 4).toInt ≤ 16) (eN6 : ((xs 2) + (xs 4)) = N6) (nN6 : N6.toInt = (xs 2).toInt + (xs 4).toInt) (c7 : N6.toInt ≤ 16) (c8 : (xs 3).toInt < 0) : ∃ w1, xEv (d + 20) 287 23 [(4, Value.int 0), (3, Value.ref 194), (2, Value.ref 128), (1, Value.ref 7), (0, Value.ref 0)] [] (W0 6 xs) (fun o' w' => o' = .inl (some (Value.int 1)) ∧ w' = w1) ∧ w1.length ≤ 220 ∧ xsz w1 ≤ 200000 := by
  have G : id ((((0 ≤ (xs 1).toInt) ∧ ((xs 1).toInt < 16)) ∧ ((0 ≤ (xs 2).toInt) ∧ (((xs 2).toInt < 16) ∧ (1 ≤ (xs 4).toInt)))) ∧ ((((xs 4).toInt ≤ 16) ∧ (N6.toInt ≤ 16)) ∧ (((xs 3).toInt < 0) ∧ (((xs 1).toInt ≤ 15) ∧ ((xs 2).toInt ≤ 15))))) := g_11_11 h0 c0 c1 c2 c3 c4 c5 nN6 c7 c8
  refine ⟨(((((W0 6 xs) ++ [Sum.inr (14, [])]).set 128 (Sum.inr (12, [Value.ref 129, Value.ref 131, Value.ref 133, Value.ref 135, Value.ref 137, Value.ref 139, Value.ref 141, Value.ref 143, Value.ref 145, Value.ref 147, Value.ref 149, Value.ref 151, Value.ref 153, Value.ref 154, Value.ref 155, Value.ref 156, Value.ref 157, Value.int (-16384), Value.int 16384, Value.int 0, Value.int 0, Value.int 0, Value.ref 158, Value.ref 159, Value.int 0, Value.int 0, Value.int 0, Value.int 0, Value.int 0, Value.int 0, Value.int 0, Value.int 0]))) ++ [Sum.inr (14, [])]).set 128 (Sum.inr (12, [Value.ref 129, Value.ref 131, Value.ref 133, Value.ref 135, Value.ref 137, Value.ref 139, Value.ref 141, Value.ref 143, Value.ref 145, Value.ref 147, Value.ref 149, Value.ref 151, Value.ref 153, Value.ref 154, Value.ref 155, Value.ref 156, Value.ref 157, Value.int (-16384), Value.int 16384, Value.int 0, Value.int 0, Value.int 0, Value.ref 158, Value.ref 159, Value.int 0, Value.int 0, Value.int 0, Value.int 0, Value.int 0, Value.int 0, Value.int 0, Value.int 1]))), ?_, (show xLs _ 220 200000 from ?_)⟩
  · refine i_287_23 (x := 0) rfl ?_
    refine i_287_25 (x := 0) rfl ?_
    refine i_287_26 (c := 6) W0_0 (by decide) ?_
    refine i_287_27 ?_
    refine i_287_29 (c := 0) (by decide) ?_
    refine i_287_30 (fun h => absurd h (by decide)) (fun _ => ?_)
    refine i_287_33 (x := 0) rfl ?_
    refine i_287_34 (x := 0) rfl ?_
    refine i_287_36 (v := Value.int (xs 0)) W0_0 (by decide) (by decide) rfl ?_
    refine i_287_37 ?_
    refine i_287_39 (c := 11) (show ((xs 0) &&& (31 : Int32)) = 11 from (xge_c (n := 11) h0 rfl)) ?_
    refine i_287_40_11 rfl ?_
    refine i_287_1149 (x := 7) rfl ?_
    refine i_287_1150 (x := 0) rfl ?_
    refine i_287_1151 (x := 0) rfl ?_
    refine i_287_1153 ?_
    refine i_287_1154 (c := 1) (by decide) ?_
    refine i_287_1155 (v := Value.int (xs 1)) W0_0 (by decide) (by decide) rfl ?_
    refine i_287_1156 (x := 0) rfl ?_
    refine i_287_1157 (x := 0) rfl ?_
    refine i_287_1159 ?_
    refine i_287_1160 (c := 2) (by decide) ?_
    refine i_287_1161 (v := Value.int (xs 2)) W0_0 (by decide) (by decide) rfl ?_
    refine i_287_1162 (x := 0) rfl ?_
    refine i_287_1163 (x := 0) rfl ?_
    refine i_287_1165 ?_
    refine i_287_1166 (c := 3) (by decide) ?_
    refine i_287_1167 (v := Value.int (xs 3)) W0_0 (by decide) (by decide) rfl ?_
    refine i_287_1168 (x := 0) rfl ?_
    refine i_287_1169 (x := 0) rfl ?_
    refine i_287_1171 ?_
    refine i_287_1172 (c := 4) (by decide) ?_
    refine i_287_1173 (v := Value.int (xs 4)) W0_0 (by decide) (by decide) rfl ?_
    refine i_287_1174 (x := 0) rfl ?_
    refine i_287_1175 (x := 0) rfl ?_
    refine i_287_1177 ?_
    refine i_287_1178 (c := 5) (by decide) ?_
    refine i_287_1179 (v := Value.int (xs 5)) W0_0 (by decide) (by decide) rfl ?_
    refine i_287_1180 (x := 194) rfl ?_
    refine i_287_1181 (Nat.le_of_ble_eq_true rfl) (p_114_5 W0_7 (G.1.1.1) (G.1.1.2) (G.1.2.1) (G.1.2.2.1) (G.1.2.2.2) (G.2.1.1) (show ((xs 2) + (xs 4)) = N6 from eN6) (G.2.1.2) (G.2.2.1)) ?_
    refine i_287_1184 (lv2 := [(5, Value.int 1), (4, Value.int 0), (3, Value.ref 194), (2, Value.ref 128), (1, Value.ref 7), (0, Value.ref 0)]) rfl ?_
    refine i_287_1186 (x := 128) rfl ?_
    refine i_287_1187 (x := 0) rfl ?_
    refine i_287_1188 (x := 0) rfl ?_
    refine i_287_1190 ?_
    refine i_287_1191 (c := 1) (by decide) ?_
    refine i_287_1192 (v := Value.int (xs 1)) (xga W0_0) (by decide) (by decide) rfl ?_
    refine i_287_1193 (x := 0) rfl ?_
    refine i_287_1194 (x := 0) rfl ?_
    refine i_287_1196 ?_
    refine i_287_1197 (c := 2) (by decide) ?_
    refine i_287_1198 (v := Value.int (xs 2)) (xga W0_0) (by decide) (by decide) rfl ?_
    refine i_287_1199 (x := 0) rfl ?_
    refine i_287_1200 (x := 0) rfl ?_
    refine i_287_1202 ?_
    refine i_287_1203 (c := 3) (by decide) ?_
    refine i_287_1204 (v := Value.int (xs 3)) (xga W0_0) (by decide) (by decide) rfl ?_
    refine i_287_1205 (x := 0) rfl ?_
    refine i_287_1206 (x := 0) rfl ?_
    refine i_287_1208 ?_
    refine i_287_1209 (c := 4) (by decide) ?_
    refine i_287_1210 (v := Value.int (xs 4)) (xga W0_0) (by decide) (by decide) rfl ?_
    refine i_287_1211 (x := 0) rfl ?_
    refine i_287_1212 (x := 0) rfl ?_
    refine i_287_1214 ?_
    refine i_287_1215 (c := 5) (by decide) ?_
    refine i_287_1216 (v := Value.int (xs 5)) (xga W0_0) (by decide) (by decide) rfl ?_
    refine i_287_1217 (xga W0_128) (Nat.le_of_ble_eq_true rfl) (p_230_2 (xga W0_128) (G.1.1.1) (G.2.2.2.1) (G.1.2.1) (G.2.2.2.2) (G.2.2.1)) ?_
    refine i_287_1220 (lv2 := [(6, Value.int 0), (5, Value.int 1), (4, Value.int 0), (3, Value.ref 194), (2, Value.ref 128), (1, Value.ref 7), (0, Value.ref 0)]) rfl ?_
    refine i_287_1222 (x := 128) rfl ?_
    refine i_287_1223 (xgs (xga (xgs (xga W0_128)))) (Nat.le_of_ble_eq_true rfl) (p_165_0 (xgs (xga (xgs (xga W0_128))))) ?_
    refine i_287_1226 (x := 1) rfl ?_
    refine i_287_1228 (fun _ => ?_) (fun h => absurd h (by decide))
    refine i_287_1233 (x := 1) rfl ?_
    refine i_287_1235 (fun _ => ?_) (fun h => absurd h (by decide))
    refine i_287_1250 ?_
    refine i_287_2154 (x := 0) (c := 6) (lv2 := [(4, Value.int 6), (6, Value.int 0), (5, Value.int 1), (3, Value.ref 194), (2, Value.ref 128), (1, Value.ref 7), (0, Value.ref 0)]) rfl (by decide) rfl ?_
    refine i_287_2157 ?_
    refine i_287_23 (x := 6) rfl ?_
    refine i_287_25 (x := 0) rfl ?_
    refine i_287_26 (c := 6) (xgn (by decide) (xga (xgn (by decide) (xga W0_0)))) (by decide) ?_
    refine i_287_27 ?_
    refine i_287_29 (c := 0) (by decide) ?_
    refine i_287_30 (fun _ => ?_) (fun h => absurd h (by decide))
    refine i_287_2160 ?_
    exact i_287_2161 rfl ⟨rfl, rfl⟩
  · refine xLs.set ?_ (xga (xgs (xga W0_128))) xcs_o
    refine xLs.app (n := 219) (z := 199994) (m := 6) ?_ rfl
    refine xLs.set ?_ (xga W0_128) xcs_o
    refine xLs.app (n := 218) (z := 199988) (m := 6) ?_ rfl
    exact ⟨Nat.le_trans (Nat.le_of_eq W0_len) (by decide), Nat.le_trans (Nat.le_of_eq W0_sz) (by decide)⟩
theorem p_115_6 {d : Nat} {w : xW} {a0 : Int32} {a1 : Int32} {a2 : Int32} {a3 : Int32} {a4 : Int32} {a5 : Int32} {a6 : Int32} (e0 : 0 ≤ a0.toInt) (e1 : a0.toInt < 16) (e2 : 0 ≤ a1.toInt) (e3 : a1.toInt < 16) (e4 : 1 ≤ a3.toInt) (e5 : a3.toInt ≤ 16) (hg6 : (a1 + a3) = a5) (e7 : a5.toInt ≤ 16) (e8 : 0 ≤ a2.toInt) (e9 : a2.toInt < 16) (hg10 : (a2 + a3) = a6) (e11 : 16 < a6.toInt) : xRun (d + 6) 115 [Value.ref 7, Value.int a0, Value.int a1, Value.int a2, Value.int a3, Value.int a4] w (.inr w.length) (w ++ [Sum.inr (14, [])]) := by
  refine xRun.of ?_
  refine i_115_0 (x := a0) rfl ?_
  refine i_115_1 (Nat.le_of_ble_eq_true rfl) (p_15_1 e0 e1) ?_
  refine i_115_4 (fun h => absurd h (by decide)) (fun _ => ?_)
  refine i_115_7 (x := a1) rfl ?_
  refine i_115_8 (x := a3) rfl ?_
  refine i_115_10 (Nat.le_of_ble_eq_true rfl) (p_113_4 e2 e3 e4 e5 hg6 e7) ?_
  refine i_115_13 (fun h => absurd h (by decide)) (fun _ => ?_)
  refine i_115_16 (x := a2) rfl ?_
  refine i_115_17 (x := a3) rfl ?_
  refine i_115_19 (Nat.le_of_ble_eq_true rfl) (p_113_3 e8 e9 e4 e5 hg10 e11) ?_
  refine i_115_22 (fun _ => ?_) (fun h => absurd h (by decide))
  exact i_115_33 (by omega) (Nat.le_of_ble_eq_true rfl) ⟨rfl, rfl⟩
theorem p_114_6 {d : Nat} {w : xW} {a0 : Int32} {a1 : Int32} {a2 : Int32} {a3 : Int32} {a4 : Int32} {a5 : Int32} {a6 : Int32} (hw0 : w[7]? = some (Sum.inr (0, [Value.ref 8, Value.ref 78, Value.ref 9, Value.ref 10, Value.ref 13, Value.ref 16, Value.ref 19, Value.ref 93, Value.ref 108, Value.ref 113, Value.ref 29, Value.int 0]))) (e1 : 0 ≤ a0.toInt) (e2 : a0.toInt < 16) (e3 : 0 ≤ a1.toInt) (e4 : a1.toInt < 16) (e5 : 1 ≤ a3.toInt) (e6 : a3.toInt ≤ 16) (hg7 : (a1 + a3) = a5) (e8 : a5.toInt ≤ 16) (e9 : 0 ≤ a2.toInt) (e10 : a2.toInt < 16) (hg11 : (a2 + a3) = a6) (e12 : 16 < a6.toInt) : xRun (d + 7) 114 [Value.ref 7, Value.int a0, Value.int a1, Value.int a2, Value.int a3, Value.int a4, Value.ref 194] w (.inl (some (Value.int 1))) (w ++ [Sum.inr (14, [])]) := by
  refine xRun.of ?_
  refine i_114_0 (x := 194) rfl ?_
  refine i_114_2 ?_
  refine i_114_3 (x := 7) rfl ?_
  refine i_114_4 (x := a0) rfl ?_
  refine i_114_5 (x := a1) rfl ?_
  refine i_114_6 (x := a2) rfl ?_
  refine i_114_7 (x := a3) rfl ?_
  refine i_114_9 (x := a4) rfl ?_
  refine j_114_11 hw0 (Nat.le_of_ble_eq_true rfl) (p_115_6 e1 e2 e3 e4 e5 e6 hg7 e8 e9 e10 hg11 e12) (xDone.c xgl rfl rfl ?_)
  refine i_114_19 (lv2 := [(7, Value.ref w.length), (0, Value.ref 7), (1, Value.int a0), (2, Value.int a1), (3, Value.int a2), (4, Value.int a3), (5, Value.int a4), (6, Value.ref 194)]) rfl ?_
  refine i_114_21 ?_
  exact i_114_22 ⟨rfl, rfl⟩
theorem p_231_7 {d : Nat} {w : xW} {a0 : Int32} {a1 : Int32} {a2 : Int32} {a3 : Int32} {a4 : Int32} {a5 : Int32} {a6 : Int32} (e0 : 0 ≤ a0.toInt) (e1 : a0.toInt ≤ 15) (e2 : 0 ≤ a1.toInt) (e3 : a1.toInt ≤ 15) (e4 : 0 ≤ a2.toInt) (e5 : a2.toInt ≤ 15) (e6 : 1 ≤ a3.toInt) (e7 : a3.toInt ≤ 16) (hg8 : (a1 + a3) = a5) (e9 : a5.toInt ≤ 16) (hg10 : (a2 + a3) = a6) (e11 : 16 < a6.toInt) : xRun (d + 7) 231 [Value.ref 128, Value.int a0, Value.int a1, Value.int a2, Value.int a3, Value.int a4] w (.inr w.length) (w ++ [Sum.inr (14, [])]) := by
  refine xRun.of ?_
  refine i_231_0 (x := a0) rfl ?_
  refine i_231_1 (Nat.le_of_ble_eq_true rfl) (p_168_1 e0 e1) ?_
  refine i_231_4 (x := a1) rfl ?_
  refine i_231_5 (Nat.le_of_ble_eq_true rfl) (p_168_1 e2 e3) ?_
  refine i_231_8 (x := a2) rfl ?_
  refine i_231_9 (Nat.le_of_ble_eq_true rfl) (p_168_1 e4 e5) ?_
  refine i_231_12 (x := a3) rfl ?_
  refine i_231_14 ?_
  refine i_231_15 ?_
  refine i_231_17 (Nat.le_of_ble_eq_true rfl) (p_169_44 e6 e7) ?_
  refine i_231_20 (fun h => absurd h (by decide)) (fun _ => ?_)
  refine i_231_23 (x := a1) rfl ?_
  refine i_231_24 (x := a3) rfl ?_
  refine i_231_26 (c := a5) hg8 ?_
  refine i_231_27 ?_
  refine i_231_29 (fun h => absurd e9 (Int.not_le.mpr h)) (fun _ => ?_)
  refine i_231_32 (x := a2) rfl ?_
  refine i_231_33 (x := a3) rfl ?_
  refine i_231_35 (c := a6) hg10 ?_
  refine i_231_36 ?_
  refine i_231_38 (fun _ => ?_) (fun h => absurd e11 (Int.not_lt.mpr h))
  refine i_231_45 ?_
  exact j_231_46 (Nat.le_of_ble_eq_true rfl) (p_170_0) (xDone.t xgl rfl rfl ⟨rfl, rfl⟩)
theorem p_230_7 {d : Nat} {w : xW} {a0 : Int32} {a1 : Int32} {a2 : Int32} {a3 : Int32} {a4 : Int32} {a5 : Int32} {a6 : Int32} (hw0 : w[128]? = some (Sum.inr (12, [Value.ref 129, Value.ref 131, Value.ref 133, Value.ref 135, Value.ref 137, Value.ref 139, Value.ref 141, Value.ref 143, Value.ref 145, Value.ref 147, Value.ref 149, Value.ref 151, Value.ref 153, Value.ref 154, Value.ref 155, Value.ref 156, Value.ref 157, Value.int (-16384), Value.int 16384, Value.int 0, Value.int 0, Value.int 0, Value.ref 158, Value.ref 159, Value.int 0, Value.int 0, Value.int 0, Value.int 0, Value.int 0, Value.int 0, Value.int 0, Value.int 0]))) (e1 : 0 ≤ a0.toInt) (e2 : a0.toInt ≤ 15) (e3 : 0 ≤ a1.toInt) (e4 : a1.toInt ≤ 15) (e5 : 0 ≤ a2.toInt) (e6 : a2.toInt ≤ 15) (e7 : 1 ≤ a3.toInt) (e8 : a3.toInt ≤ 16) (hg9 : (a1 + a3) = a5) (e10 : a5.toInt ≤ 16) (hg11 : (a2 + a3) = a6) (e12 : 16 < a6.toInt) : xRun (d + 8) 230 [Value.ref 128, Value.int a0, Value.int a1, Value.int a2, Value.int a3, Value.int a4] w (.inl (some (Value.int 0))) (((w.set 128 (Sum.inr (12, [Value.ref 129, Value.ref 131, Value.ref 133, Value.ref 135, Value.ref 137, Value.ref 139, Value.ref 141, Value.ref 143, Value.ref 145, Value.ref 147, Value.ref 149, Value.ref 151, Value.ref 153, Value.ref 154, Value.ref 155, Value.ref 156, Value.ref 157, Value.int (-16384), Value.int 16384, Value.int 0, Value.int 0, Value.int 0, Value.ref 158, Value.ref 159, Value.int 0, Value.int 0, Value.int 0, Value.int 0, Value.int 0, Value.int 0, Value.int 0, Value.int 0]))) ++ [Sum.inr (14, [])]).set 128 (Sum.inr (12, [Value.ref 129, Value.ref 131, Value.ref 133, Value.ref 135, Value.ref 137, Value.ref 139, Value.ref 141, Value.ref 143, Value.ref 145, Value.ref 147, Value.ref 149, Value.ref 151, Value.ref 153, Value.ref 154, Value.ref 155, Value.ref 156, Value.ref 157, Value.int (-16384), Value.int 16384, Value.int 0, Value.int 0, Value.int 0, Value.ref 158, Value.ref 159, Value.int 0, Value.int 0, Value.int 0, Value.int 0, Value.int 0, Value.int 0, Value.int 0, Value.int 1]))) := by
  refine xRun.of ?_
  refine i_230_0 (x := 128) rfl ?_
  refine i_230_1 ?_
  refine i_230_2 (fs2 := [Value.ref 129, Value.ref 131, Value.ref 133, Value.ref 135, Value.ref 137, Value.ref 139, Value.ref 141, Value.ref 143, Value.ref 145, Value.ref 147, Value.ref 149, Value.ref 151, Value.ref 153, Value.ref 154, Value.ref 155, Value.ref 156, Value.ref 157, Value.int (-16384), Value.int 16384, Value.int 0, Value.int 0, Value.int 0, Value.ref 158, Value.ref 159, Value.int 0, Value.int 0, Value.int 0, Value.int 0, Value.int 0, Value.int 0, Value.int 0, Value.int 0]) hw0 (Nat.le_of_ble_eq_true rfl) rfl (by decide) ?_
  refine i_230_5 (x := 128) rfl ?_
  refine i_230_6 (x := a0) rfl ?_
  refine i_230_7 (x := a1) rfl ?_
  refine i_230_8 (x := a2) rfl ?_
  refine i_230_9 (x := a3) rfl ?_
  refine i_230_11 (x := a4) rfl ?_
  refine j_230_13 (xgs hw0) (Nat.le_of_ble_eq_true rfl) (p_231_7 e1 e2 e3 e4 e5 e6 e7 e8 hg9 e10 hg11 e12) (xDone.c xgl rfl rfl ?_)
  refine i_230_17 (lv2 := [(6, Value.ref ((w.set 128 (Sum.inr (12, [Value.ref 129, Value.ref 131, Value.ref 133, Value.ref 135, Value.ref 137, Value.ref 139, Value.ref 141, Value.ref 143, Value.ref 145, Value.ref 147, Value.ref 149, Value.ref 151, Value.ref 153, Value.ref 154, Value.ref 155, Value.ref 156, Value.ref 157, Value.int (-16384), Value.int 16384, Value.int 0, Value.int 0, Value.int 0, Value.ref 158, Value.ref 159, Value.int 0, Value.int 0, Value.int 0, Value.int 0, Value.int 0, Value.int 0, Value.int 0, Value.int 0]))).length)), (0, Value.ref 128), (1, Value.int a0), (2, Value.int a1), (3, Value.int a2), (4, Value.int a3), (5, Value.int a4)]) rfl ?_
  refine i_230_19 (x := 128) rfl ?_
  refine i_230_20 ?_
  refine i_230_21 (fs2 := [Value.ref 129, Value.ref 131, Value.ref 133, Value.ref 135, Value.ref 137, Value.ref 139, Value.ref 141, Value.ref 143, Value.ref 145, Value.ref 147, Value.ref 149, Value.ref 151, Value.ref 153, Value.ref 154, Value.ref 155, Value.ref 156, Value.ref 157, Value.int (-16384), Value.int 16384, Value.int 0, Value.int 0, Value.int 0, Value.ref 158, Value.ref 159, Value.int 0, Value.int 0, Value.int 0, Value.int 0, Value.int 0, Value.int 0, Value.int 0, Value.int 1]) (xga (xgs hw0)) (Nat.le_of_ble_eq_true rfl) rfl (by decide) ?_
  refine i_230_24 ?_
  exact i_230_25 ⟨rfl, rfl⟩
theorem g_11_12 {z0 z1 z2 z3 z4 z5 z6 : Int} (h0 : z0 = 11) (c0 : 0 ≤ z1) (c1 : z1 < 16) (c2 : 0 ≤ z2) (c3 : z2 < 16) (c4 : 1 ≤ z3) (c5 : z3 ≤ 16) (nN6 : z4 = z2 + z3) (c7 : z4 ≤ 16) (c8 : 0 ≤ z5) (c9 : z5 < 16) (nN10 : z6 = z5 + z3) (c11 : 16 < z6) : ((((0 ≤ z1) ∧ ((z1 < 16) ∧ (0 ≤ z2))) ∧ ((z2 < 16) ∧ ((1 ≤ z3) ∧ (z3 ≤ 16)))) ∧ (((z4 ≤ 16) ∧ ((0 ≤ z5) ∧ (z5 < 16))) ∧ (((16 < z6) ∧ (z1 ≤ 15)) ∧ ((z2 ≤ 15) ∧ (z5 ≤ 15))))) := by
  subst nN10; subst nN6; exact ⟨⟨⟨by omega, ⟨by omega, by omega⟩⟩, ⟨by omega, ⟨by omega, by omega⟩⟩⟩, ⟨⟨by omega, ⟨by omega, by omega⟩⟩, ⟨⟨by omega, by omega⟩, ⟨by omega, by omega⟩⟩⟩⟩
theorem o_11_12 {d : Nat} {xs : Nat → Int32} {N6 N10 : Int32} (h0 : ((xs 0) &&& (31 : Int32)).toInt = 11) (c0 : 0 ≤ (xs 1).toInt) (c1 : (xs 1).toInt < 16) (c2 : 0 ≤ (xs 2).toInt) (c3 : (xs 2).toInt < 16) (c4 : 1 ≤ (xs 4).toInt) (c5 : (xs 4).toInt ≤ 16) (eN6 : ((xs 2) + (xs 4)) = N6) (nN6 : N6.toInt = (xs 2).toInt + (xs 4).toInt) (c7 : N6.toInt ≤ 16) (c8 : 0 ≤ (xs 3).toInt) (c9 : (xs 3).toInt < 16) (eN10 : ((xs 3) + (xs 4)) = N10) (nN10 : N10.toInt = (xs 3).toInt + (xs 4).toInt) (c11 : 16 < N10.toInt) : ∃ w1, xEv (d + 20) 287 23 [(4, Value.int 0), (3, Value.ref 194), (2, Value.ref 128), (1, Value.ref 7), (0, Value.ref 0)] [] (W0 6 xs) (fun o' w' => o' = .inl (some (Value.int 1)) ∧ w' = w1) ∧ w1.length ≤ 220 ∧ xsz w1 ≤ 200000 := by
  have G : id ((((0 ≤ (xs 1).toInt) ∧ (((xs 1).toInt < 16) ∧ (0 ≤ (xs 2).toInt))) ∧ (((xs 2).toInt < 16) ∧ ((1 ≤ (xs 4).toInt) ∧ ((xs 4).toInt ≤ 16)))) ∧ (((N6.toInt ≤ 16) ∧ ((0 ≤ (xs 3).toInt) ∧ ((xs 3).toInt < 16))) ∧ (((16 < N10.toInt) ∧ ((xs 1).toInt ≤ 15)) ∧ (((xs 2).toInt ≤ 15) ∧ ((xs 3).toInt ≤ 15))))) := g_11_12 h0 c0 c1 c2 c3 c4 c5 nN6 c7 c8 c9 nN10 c11
  refine ⟨(((((W0 6 xs) ++ [Sum.inr (14, [])]).set 128 (Sum.inr (12, [Value.ref 129, Value.ref 131, Value.ref 133, Value.ref 135, Value.ref 137, Value.ref 139, Value.ref 141, Value.ref 143, Value.ref 145, Value.ref 147, Value.ref 149, Value.ref 151, Value.ref 153, Value.ref 154, Value.ref 155, Value.ref 156, Value.ref 157, Value.int (-16384), Value.int 16384, Value.int 0, Value.int 0, Value.int 0, Value.ref 158, Value.ref 159, Value.int 0, Value.int 0, Value.int 0, Value.int 0, Value.int 0, Value.int 0, Value.int 0, Value.int 0]))) ++ [Sum.inr (14, [])]).set 128 (Sum.inr (12, [Value.ref 129, Value.ref 131, Value.ref 133, Value.ref 135, Value.ref 137, Value.ref 139, Value.ref 141, Value.ref 143, Value.ref 145, Value.ref 147, Value.ref 149, Value.ref 151, Value.ref 153, Value.ref 154, Value.ref 155, Value.ref 156, Value.ref 157, Value.int (-16384), Value.int 16384, Value.int 0, Value.int 0, Value.int 0, Value.ref 158, Value.ref 159, Value.int 0, Value.int 0, Value.int 0, Value.int 0, Value.int 0, Value.int 0, Value.int 0, Value.int 1]))), ?_, (show xLs _ 220 200000 from ?_)⟩
  · refine i_287_23 (x := 0) rfl ?_
    refine i_287_25 (x := 0) rfl ?_
    refine i_287_26 (c := 6) W0_0 (by decide) ?_
    refine i_287_27 ?_
    refine i_287_29 (c := 0) (by decide) ?_
    refine i_287_30 (fun h => absurd h (by decide)) (fun _ => ?_)
    refine i_287_33 (x := 0) rfl ?_
    refine i_287_34 (x := 0) rfl ?_
    refine i_287_36 (v := Value.int (xs 0)) W0_0 (by decide) (by decide) rfl ?_
    refine i_287_37 ?_
    refine i_287_39 (c := 11) (show ((xs 0) &&& (31 : Int32)) = 11 from (xge_c (n := 11) h0 rfl)) ?_
    refine i_287_40_11 rfl ?_
    refine i_287_1149 (x := 7) rfl ?_
    refine i_287_1150 (x := 0) rfl ?_
    refine i_287_1151 (x := 0) rfl ?_
    refine i_287_1153 ?_
    refine i_287_1154 (c := 1) (by decide) ?_
    refine i_287_1155 (v := Value.int (xs 1)) W0_0 (by decide) (by decide) rfl ?_
    refine i_287_1156 (x := 0) rfl ?_
    refine i_287_1157 (x := 0) rfl ?_
    refine i_287_1159 ?_
    refine i_287_1160 (c := 2) (by decide) ?_
    refine i_287_1161 (v := Value.int (xs 2)) W0_0 (by decide) (by decide) rfl ?_
    refine i_287_1162 (x := 0) rfl ?_
    refine i_287_1163 (x := 0) rfl ?_
    refine i_287_1165 ?_
    refine i_287_1166 (c := 3) (by decide) ?_
    refine i_287_1167 (v := Value.int (xs 3)) W0_0 (by decide) (by decide) rfl ?_
    refine i_287_1168 (x := 0) rfl ?_
    refine i_287_1169 (x := 0) rfl ?_
    refine i_287_1171 ?_
    refine i_287_1172 (c := 4) (by decide) ?_
    refine i_287_1173 (v := Value.int (xs 4)) W0_0 (by decide) (by decide) rfl ?_
    refine i_287_1174 (x := 0) rfl ?_
    refine i_287_1175 (x := 0) rfl ?_
    refine i_287_1177 ?_
    refine i_287_1178 (c := 5) (by decide) ?_
    refine i_287_1179 (v := Value.int (xs 5)) W0_0 (by decide) (by decide) rfl ?_
    refine i_287_1180 (x := 194) rfl ?_
    refine i_287_1181 (Nat.le_of_ble_eq_true rfl) (p_114_6 W0_7 (G.1.1.1) (G.1.1.2.1) (G.1.1.2.2) (G.1.2.1) (G.1.2.2.1) (G.1.2.2.2) (show ((xs 2) + (xs 4)) = N6 from eN6) (G.2.1.1) (G.2.1.2.1) (G.2.1.2.2) (show ((xs 3) + (xs 4)) = N10 from eN10) (G.2.2.1.1)) ?_
    refine i_287_1184 (lv2 := [(5, Value.int 1), (4, Value.int 0), (3, Value.ref 194), (2, Value.ref 128), (1, Value.ref 7), (0, Value.ref 0)]) rfl ?_
    refine i_287_1186 (x := 128) rfl ?_
    refine i_287_1187 (x := 0) rfl ?_
    refine i_287_1188 (x := 0) rfl ?_
    refine i_287_1190 ?_
    refine i_287_1191 (c := 1) (by decide) ?_
    refine i_287_1192 (v := Value.int (xs 1)) (xga W0_0) (by decide) (by decide) rfl ?_
    refine i_287_1193 (x := 0) rfl ?_
    refine i_287_1194 (x := 0) rfl ?_
    refine i_287_1196 ?_
    refine i_287_1197 (c := 2) (by decide) ?_
    refine i_287_1198 (v := Value.int (xs 2)) (xga W0_0) (by decide) (by decide) rfl ?_
    refine i_287_1199 (x := 0) rfl ?_
    refine i_287_1200 (x := 0) rfl ?_
    refine i_287_1202 ?_
    refine i_287_1203 (c := 3) (by decide) ?_
    refine i_287_1204 (v := Value.int (xs 3)) (xga W0_0) (by decide) (by decide) rfl ?_
    refine i_287_1205 (x := 0) rfl ?_
    refine i_287_1206 (x := 0) rfl ?_
    refine i_287_1208 ?_
    refine i_287_1209 (c := 4) (by decide) ?_
    refine i_287_1210 (v := Value.int (xs 4)) (xga W0_0) (by decide) (by decide) rfl ?_
    refine i_287_1211 (x := 0) rfl ?_
    refine i_287_1212 (x := 0) rfl ?_
    refine i_287_1214 ?_
    refine i_287_1215 (c := 5) (by decide) ?_
    refine i_287_1216 (v := Value.int (xs 5)) (xga W0_0) (by decide) (by decide) rfl ?_
    refine i_287_1217 (xga W0_128) (Nat.le_of_ble_eq_true rfl) (p_230_7 (xga W0_128) (G.1.1.1) (G.2.2.1.2) (G.1.1.2.2) (G.2.2.2.1) (G.2.1.2.1) (G.2.2.2.2) (G.1.2.2.1) (G.1.2.2.2) (show ((xs 2) + (xs 4)) = N6 from eN6) (G.2.1.1) (show ((xs 3) + (xs 4)) = N10 from eN10) (G.2.2.1.1)) ?_
    refine i_287_1220 (lv2 := [(6, Value.int 0), (5, Value.int 1), (4, Value.int 0), (3, Value.ref 194), (2, Value.ref 128), (1, Value.ref 7), (0, Value.ref 0)]) rfl ?_
    refine i_287_1222 (x := 128) rfl ?_
    refine i_287_1223 (xgs (xga (xgs (xga W0_128)))) (Nat.le_of_ble_eq_true rfl) (p_165_0 (xgs (xga (xgs (xga W0_128))))) ?_
    refine i_287_1226 (x := 1) rfl ?_
    refine i_287_1228 (fun _ => ?_) (fun h => absurd h (by decide))
    refine i_287_1233 (x := 1) rfl ?_
    refine i_287_1235 (fun _ => ?_) (fun h => absurd h (by decide))
    refine i_287_1250 ?_
    refine i_287_2154 (x := 0) (c := 6) (lv2 := [(4, Value.int 6), (6, Value.int 0), (5, Value.int 1), (3, Value.ref 194), (2, Value.ref 128), (1, Value.ref 7), (0, Value.ref 0)]) rfl (by decide) rfl ?_
    refine i_287_2157 ?_
    refine i_287_23 (x := 6) rfl ?_
    refine i_287_25 (x := 0) rfl ?_
    refine i_287_26 (c := 6) (xgn (by decide) (xga (xgn (by decide) (xga W0_0)))) (by decide) ?_
    refine i_287_27 ?_
    refine i_287_29 (c := 0) (by decide) ?_
    refine i_287_30 (fun _ => ?_) (fun h => absurd h (by decide))
    refine i_287_2160 ?_
    exact i_287_2161 rfl ⟨rfl, rfl⟩
  · refine xLs.set ?_ (xga (xgs (xga W0_128))) xcs_o
    refine xLs.app (n := 219) (z := 199994) (m := 6) ?_ rfl
    refine xLs.set ?_ (xga W0_128) xcs_o
    refine xLs.app (n := 218) (z := 199988) (m := 6) ?_ rfl
    exact ⟨Nat.le_trans (Nat.le_of_eq W0_len) (by decide), Nat.le_trans (Nat.le_of_eq W0_sz) (by decide)⟩
theorem p_115_7 {d : Nat} {w : xW} {a0 : Int32} {a1 : Int32} {a2 : Int32} {a3 : Int32} {a4 : Int32} {a5 : Int32} {a6 : Int32} (e0 : 0 ≤ a0.toInt) (e1 : a0.toInt < 16) (e2 : 0 ≤ a1.toInt) (e3 : a1.toInt < 16) (e4 : 1 ≤ a3.toInt) (e5 : a3.toInt ≤ 16) (hg6 : (a1 + a3) = a5) (e7 : a5.toInt ≤ 16) (e8 : 0 ≤ a2.toInt) (e9 : a2.toInt < 16) (hg10 : (a2 + a3) = a6) (e11 : a6.toInt ≤ 16) (e12 : a4.toInt < 0) : xRun (d + 6) 115 [Value.ref 7, Value.int a0, Value.int a1, Value.int a2, Value.int a3, Value.int a4] w (.inr w.length) (w ++ [Sum.inr (14, [])]) := by
  refine xRun.of ?_
  refine i_115_0 (x := a0) rfl ?_
  refine i_115_1 (Nat.le_of_ble_eq_true rfl) (p_15_1 e0 e1) ?_
  refine i_115_4 (fun h => absurd h (by decide)) (fun _ => ?_)
  refine i_115_7 (x := a1) rfl ?_
  refine i_115_8 (x := a3) rfl ?_
  refine i_115_10 (Nat.le_of_ble_eq_true rfl) (p_113_4 e2 e3 e4 e5 hg6 e7) ?_
  refine i_115_13 (fun h => absurd h (by decide)) (fun _ => ?_)
  refine i_115_16 (x := a2) rfl ?_
  refine i_115_17 (x := a3) rfl ?_
  refine i_115_19 (Nat.le_of_ble_eq_true rfl) (p_113_4 e8 e9 e4 e5 hg10 e11) ?_
  refine i_115_22 (fun h => absurd h (by decide)) (fun _ => ?_)
  refine i_115_25 (x := a4) rfl ?_
  refine i_115_27 (Nat.le_of_ble_eq_true rfl) (p_22_0 e12) ?_
  refine i_115_30 (fun h => absurd h (by decide)) (fun _ => ?_)
  exact i_115_33 (by omega) (Nat.le_of_ble_eq_true rfl) ⟨rfl, rfl⟩
theorem p_114_7 {d : Nat} {w : xW} {a0 : Int32} {a1 : Int32} {a2 : Int32} {a3 : Int32} {a4 : Int32} {a5 : Int32} {a6 : Int32} (hw0 : w[7]? = some (Sum.inr (0, [Value.ref 8, Value.ref 78, Value.ref 9, Value.ref 10, Value.ref 13, Value.ref 16, Value.ref 19, Value.ref 93, Value.ref 108, Value.ref 113, Value.ref 29, Value.int 0]))) (e1 : 0 ≤ a0.toInt) (e2 : a0.toInt < 16) (e3 : 0 ≤ a1.toInt) (e4 : a1.toInt < 16) (e5 : 1 ≤ a3.toInt) (e6 : a3.toInt ≤ 16) (hg7 : (a1 + a3) = a5) (e8 : a5.toInt ≤ 16) (e9 : 0 ≤ a2.toInt) (e10 : a2.toInt < 16) (hg11 : (a2 + a3) = a6) (e12 : a6.toInt ≤ 16) (e13 : a4.toInt < 0) : xRun (d + 7) 114 [Value.ref 7, Value.int a0, Value.int a1, Value.int a2, Value.int a3, Value.int a4, Value.ref 194] w (.inl (some (Value.int 1))) (w ++ [Sum.inr (14, [])]) := by
  refine xRun.of ?_
  refine i_114_0 (x := 194) rfl ?_
  refine i_114_2 ?_
  refine i_114_3 (x := 7) rfl ?_
  refine i_114_4 (x := a0) rfl ?_
  refine i_114_5 (x := a1) rfl ?_
  refine i_114_6 (x := a2) rfl ?_
  refine i_114_7 (x := a3) rfl ?_
  refine i_114_9 (x := a4) rfl ?_
  refine j_114_11 hw0 (Nat.le_of_ble_eq_true rfl) (p_115_7 e1 e2 e3 e4 e5 e6 hg7 e8 e9 e10 hg11 e12 e13) (xDone.c xgl rfl rfl ?_)
  refine i_114_19 (lv2 := [(7, Value.ref w.length), (0, Value.ref 7), (1, Value.int a0), (2, Value.int a1), (3, Value.int a2), (4, Value.int a3), (5, Value.int a4), (6, Value.ref 194)]) rfl ?_
  refine i_114_21 ?_
  exact i_114_22 ⟨rfl, rfl⟩
theorem p_231_8 {d : Nat} {w : xW} {a0 : Int32} {a1 : Int32} {a2 : Int32} {a3 : Int32} {a4 : Int32} {a5 : Int32} {a6 : Int32} (e0 : 0 ≤ a0.toInt) (e1 : a0.toInt ≤ 15) (e2 : 0 ≤ a1.toInt) (e3 : a1.toInt ≤ 15) (e4 : 0 ≤ a2.toInt) (e5 : a2.toInt ≤ 15) (e6 : 1 ≤ a3.toInt) (e7 : a3.toInt ≤ 16) (hg8 : (a1 + a3) = a5) (e9 : a5.toInt ≤ 16) (hg10 : (a2 + a3) = a6) (e11 : a6.toInt ≤ 16) (e12 : a4.toInt < 0) : xRun (d + 8) 231 [Value.ref 128, Value.int a0, Value.int a1, Value.int a2, Value.int a3, Value.int a4] w (.inr w.length) (w ++ [Sum.inr (14, [])]) := by
  refine xRun.of ?_
  refine i_231_0 (x := a0) rfl ?_
  refine i_231_1 (Nat.le_of_ble_eq_true rfl) (p_168_1 e0 e1) ?_
  refine i_231_4 (x := a1) rfl ?_
  refine i_231_5 (Nat.le_of_ble_eq_true rfl) (p_168_1 e2 e3) ?_
  refine i_231_8 (x := a2) rfl ?_
  refine i_231_9 (Nat.le_of_ble_eq_true rfl) (p_168_1 e4 e5) ?_
  refine i_231_12 (x := a3) rfl ?_
  refine i_231_14 ?_
  refine i_231_15 ?_
  refine i_231_17 (Nat.le_of_ble_eq_true rfl) (p_169_44 e6 e7) ?_
  refine i_231_20 (fun h => absurd h (by decide)) (fun _ => ?_)
  refine i_231_23 (x := a1) rfl ?_
  refine i_231_24 (x := a3) rfl ?_
  refine i_231_26 (c := a5) hg8 ?_
  refine i_231_27 ?_
  refine i_231_29 (fun h => absurd e9 (Int.not_le.mpr h)) (fun _ => ?_)
  refine i_231_32 (x := a2) rfl ?_
  refine i_231_33 (x := a3) rfl ?_
  refine i_231_35 (c := a6) hg10 ?_
  refine i_231_36 ?_
  refine i_231_38 (fun h => absurd e11 (Int.not_le.mpr h)) (fun _ => ?_)
  refine i_231_41 ?_
  refine i_231_42 ?_
  refine i_231_46 (Nat.le_of_ble_eq_true rfl) (p_170_1) ?_
  refine i_231_49 (x := a4) rfl ?_
  exact j_231_51 (Nat.le_of_ble_eq_true rfl) (p_178_0 e12) (xDone.t xgl rfl rfl ⟨rfl, rfl⟩)
theorem p_230_8 {d : Nat} {w : xW} {a0 : Int32} {a1 : Int32} {a2 : Int32} {a3 : Int32} {a4 : Int32} {a5 : Int32} {a6 : Int32} (hw0 : w[128]? = some (Sum.inr (12, [Value.ref 129, Value.ref 131, Value.ref 133, Value.ref 135, Value.ref 137, Value.ref 139, Value.ref 141, Value.ref 143, Value.ref 145, Value.ref 147, Value.ref 149, Value.ref 151, Value.ref 153, Value.ref 154, Value.ref 155, Value.ref 156, Value.ref 157, Value.int (-16384), Value.int 16384, Value.int 0, Value.int 0, Value.int 0, Value.ref 158, Value.ref 159, Value.int 0, Value.int 0, Value.int 0, Value.int 0, Value.int 0, Value.int 0, Value.int 0, Value.int 0]))) (e1 : 0 ≤ a0.toInt) (e2 : a0.toInt ≤ 15) (e3 : 0 ≤ a1.toInt) (e4 : a1.toInt ≤ 15) (e5 : 0 ≤ a2.toInt) (e6 : a2.toInt ≤ 15) (e7 : 1 ≤ a3.toInt) (e8 : a3.toInt ≤ 16) (hg9 : (a1 + a3) = a5) (e10 : a5.toInt ≤ 16) (hg11 : (a2 + a3) = a6) (e12 : a6.toInt ≤ 16) (e13 : a4.toInt < 0) : xRun (d + 9) 230 [Value.ref 128, Value.int a0, Value.int a1, Value.int a2, Value.int a3, Value.int a4] w (.inl (some (Value.int 0))) (((w.set 128 (Sum.inr (12, [Value.ref 129, Value.ref 131, Value.ref 133, Value.ref 135, Value.ref 137, Value.ref 139, Value.ref 141, Value.ref 143, Value.ref 145, Value.ref 147, Value.ref 149, Value.ref 151, Value.ref 153, Value.ref 154, Value.ref 155, Value.ref 156, Value.ref 157, Value.int (-16384), Value.int 16384, Value.int 0, Value.int 0, Value.int 0, Value.ref 158, Value.ref 159, Value.int 0, Value.int 0, Value.int 0, Value.int 0, Value.int 0, Value.int 0, Value.int 0, Value.int 0]))) ++ [Sum.inr (14, [])]).set 128 (Sum.inr (12, [Value.ref 129, Value.ref 131, Value.ref 133, Value.ref 135, Value.ref 137, Value.ref 139, Value.ref 141, Value.ref 143, Value.ref 145, Value.ref 147, Value.ref 149, Value.ref 151, Value.ref 153, Value.ref 154, Value.ref 155, Value.ref 156, Value.ref 157, Value.int (-16384), Value.int 16384, Value.int 0, Value.int 0, Value.int 0, Value.ref 158, Value.ref 159, Value.int 0, Value.int 0, Value.int 0, Value.int 0, Value.int 0, Value.int 0, Value.int 0, Value.int 1]))) := by
  refine xRun.of ?_
  refine i_230_0 (x := 128) rfl ?_
  refine i_230_1 ?_
  refine i_230_2 (fs2 := [Value.ref 129, Value.ref 131, Value.ref 133, Value.ref 135, Value.ref 137, Value.ref 139, Value.ref 141, Value.ref 143, Value.ref 145, Value.ref 147, Value.ref 149, Value.ref 151, Value.ref 153, Value.ref 154, Value.ref 155, Value.ref 156, Value.ref 157, Value.int (-16384), Value.int 16384, Value.int 0, Value.int 0, Value.int 0, Value.ref 158, Value.ref 159, Value.int 0, Value.int 0, Value.int 0, Value.int 0, Value.int 0, Value.int 0, Value.int 0, Value.int 0]) hw0 (Nat.le_of_ble_eq_true rfl) rfl (by decide) ?_
  refine i_230_5 (x := 128) rfl ?_
  refine i_230_6 (x := a0) rfl ?_
  refine i_230_7 (x := a1) rfl ?_
  refine i_230_8 (x := a2) rfl ?_
  refine i_230_9 (x := a3) rfl ?_
  refine i_230_11 (x := a4) rfl ?_
  refine j_230_13 (xgs hw0) (Nat.le_of_ble_eq_true rfl) (p_231_8 e1 e2 e3 e4 e5 e6 e7 e8 hg9 e10 hg11 e12 e13) (xDone.c xgl rfl rfl ?_)
  refine i_230_17 (lv2 := [(6, Value.ref ((w.set 128 (Sum.inr (12, [Value.ref 129, Value.ref 131, Value.ref 133, Value.ref 135, Value.ref 137, Value.ref 139, Value.ref 141, Value.ref 143, Value.ref 145, Value.ref 147, Value.ref 149, Value.ref 151, Value.ref 153, Value.ref 154, Value.ref 155, Value.ref 156, Value.ref 157, Value.int (-16384), Value.int 16384, Value.int 0, Value.int 0, Value.int 0, Value.ref 158, Value.ref 159, Value.int 0, Value.int 0, Value.int 0, Value.int 0, Value.int 0, Value.int 0, Value.int 0, Value.int 0]))).length)), (0, Value.ref 128), (1, Value.int a0), (2, Value.int a1), (3, Value.int a2), (4, Value.int a3), (5, Value.int a4)]) rfl ?_
  refine i_230_19 (x := 128) rfl ?_
  refine i_230_20 ?_
  refine i_230_21 (fs2 := [Value.ref 129, Value.ref 131, Value.ref 133, Value.ref 135, Value.ref 137, Value.ref 139, Value.ref 141, Value.ref 143, Value.ref 145, Value.ref 147, Value.ref 149, Value.ref 151, Value.ref 153, Value.ref 154, Value.ref 155, Value.ref 156, Value.ref 157, Value.int (-16384), Value.int 16384, Value.int 0, Value.int 0, Value.int 0, Value.ref 158, Value.ref 159, Value.int 0, Value.int 0, Value.int 0, Value.int 0, Value.int 0, Value.int 0, Value.int 0, Value.int 1]) (xga (xgs hw0)) (Nat.le_of_ble_eq_true rfl) rfl (by decide) ?_
  refine i_230_24 ?_
  exact i_230_25 ⟨rfl, rfl⟩
theorem g_11_13 {z0 z1 z2 z3 z4 z5 z6 z7 : Int} (h0 : z0 = 11) (c0 : 0 ≤ z1) (c1 : z1 < 16) (c2 : 0 ≤ z2) (c3 : z2 < 16) (c4 : 1 ≤ z3) (c5 : z3 ≤ 16) (nN6 : z4 = z2 + z3) (c7 : z4 ≤ 16) (c8 : 0 ≤ z5) (c9 : z5 < 16) (nN10 : z6 = z5 + z3) (c11 : z6 ≤ 16) (c12 : z7 < 0) : ((((0 ≤ z1) ∧ ((z1 < 16) ∧ (0 ≤ z2))) ∧ (((z2 < 16) ∧ (1 ≤ z3)) ∧ ((z3 ≤ 16) ∧ (z4 ≤ 16)))) ∧ (((0 ≤ z5) ∧ ((z5 < 16) ∧ (z6 ≤ 16))) ∧ (((z7 < 0) ∧ (z1 ≤ 15)) ∧ ((z2 ≤ 15) ∧ (z5 ≤ 15))))) := by
  subst nN10; subst nN6; exact ⟨⟨⟨by omega, ⟨by omega, by omega⟩⟩, ⟨⟨by omega, by omega⟩, ⟨by omega, by omega⟩⟩⟩, ⟨⟨by omega, ⟨by omega, by omega⟩⟩, ⟨⟨by omega, by omega⟩, ⟨by omega, by omega⟩⟩⟩⟩
theorem o_11_13 {d : Nat} {xs : Nat → Int32} {N6 N10 : Int32} (h0 : ((xs 0) &&& (31 : Int32)).toInt = 11) (c0 : 0 ≤ (xs 1).toInt) (c1 : (xs 1).toInt < 16) (c2 : 0 ≤ (xs 2).toInt) (c3 : (xs 2).toInt < 16) (c4 : 1 ≤ (xs 4).toInt) (c5 : (xs 4).toInt ≤ 16) (eN6 : ((xs 2) + (xs 4)) = N6) (nN6 : N6.toInt = (xs 2).toInt + (xs 4).toInt) (c7 : N6.toInt ≤ 16) (c8 : 0 ≤ (xs 3).toInt) (c9 : (xs 3).toInt < 16) (eN10 : ((xs 3) + (xs 4)) = N10) (nN10 : N10.toInt = (xs 3).toInt + (xs 4).toInt) (c11 : N10.toInt ≤ 16) (c12 : (xs 5).toInt < 0) : ∃ w1, xEv (d + 20) 287 23 [(4, Value.int 0), (3, Value.ref 194), (2, Value.ref 128), (1, Value.ref 7), (0, Value.ref 0)] [] (W0 6 xs) (fun o' w' => o' = .inl (some (Value.int 1)) ∧ w' = w1) ∧ w1.length ≤ 220 ∧ xsz w1 ≤ 200000 := by
  have G : id ((((0 ≤ (xs 1).toInt) ∧ (((xs 1).toInt < 16) ∧ (0 ≤ (xs 2).toInt))) ∧ ((((xs 2).toInt < 16) ∧ (1 ≤ (xs 4).toInt)) ∧ (((xs 4).toInt ≤ 16) ∧ (N6.toInt ≤ 16)))) ∧ (((0 ≤ (xs 3).toInt) ∧ (((xs 3).toInt < 16) ∧ (N10.toInt ≤ 16))) ∧ ((((xs 5).toInt < 0) ∧ ((xs 1).toInt ≤ 15)) ∧ (((xs 2).toInt ≤ 15) ∧ ((xs 3).toInt ≤ 15))))) := g_11_13 h0 c0 c1 c2 c3 c4 c5 nN6 c7 c8 c9 nN10 c11 c12
  refine ⟨(((((W0 6 xs) ++ [Sum.inr (14, [])]).set 128 (Sum.inr (12, [Value.ref 129, Value.ref 131, Value.ref 133, Value.ref 135, Value.ref 137, Value.ref 139, Value.ref 141, Value.ref 143, Value.ref 145, Value.ref 147, Value.ref 149, Value.ref 151, Value.ref 153, Value.ref 154, Value.ref 155, Value.ref 156, Value.ref 157, Value.int (-16384), Value.int 16384, Value.int 0, Value.int 0, Value.int 0, Value.ref 158, Value.ref 159, Value.int 0, Value.int 0, Value.int 0, Value.int 0, Value.int 0, Value.int 0, Value.int 0, Value.int 0]))) ++ [Sum.inr (14, [])]).set 128 (Sum.inr (12, [Value.ref 129, Value.ref 131, Value.ref 133, Value.ref 135, Value.ref 137, Value.ref 139, Value.ref 141, Value.ref 143, Value.ref 145, Value.ref 147, Value.ref 149, Value.ref 151, Value.ref 153, Value.ref 154, Value.ref 155, Value.ref 156, Value.ref 157, Value.int (-16384), Value.int 16384, Value.int 0, Value.int 0, Value.int 0, Value.ref 158, Value.ref 159, Value.int 0, Value.int 0, Value.int 0, Value.int 0, Value.int 0, Value.int 0, Value.int 0, Value.int 1]))), ?_, (show xLs _ 220 200000 from ?_)⟩
  · refine i_287_23 (x := 0) rfl ?_
    refine i_287_25 (x := 0) rfl ?_
    refine i_287_26 (c := 6) W0_0 (by decide) ?_
    refine i_287_27 ?_
    refine i_287_29 (c := 0) (by decide) ?_
    refine i_287_30 (fun h => absurd h (by decide)) (fun _ => ?_)
    refine i_287_33 (x := 0) rfl ?_
    refine i_287_34 (x := 0) rfl ?_
    refine i_287_36 (v := Value.int (xs 0)) W0_0 (by decide) (by decide) rfl ?_
    refine i_287_37 ?_
    refine i_287_39 (c := 11) (show ((xs 0) &&& (31 : Int32)) = 11 from (xge_c (n := 11) h0 rfl)) ?_
    refine i_287_40_11 rfl ?_
    refine i_287_1149 (x := 7) rfl ?_
    refine i_287_1150 (x := 0) rfl ?_
    refine i_287_1151 (x := 0) rfl ?_
    refine i_287_1153 ?_
    refine i_287_1154 (c := 1) (by decide) ?_
    refine i_287_1155 (v := Value.int (xs 1)) W0_0 (by decide) (by decide) rfl ?_
    refine i_287_1156 (x := 0) rfl ?_
    refine i_287_1157 (x := 0) rfl ?_
    refine i_287_1159 ?_
    refine i_287_1160 (c := 2) (by decide) ?_
    refine i_287_1161 (v := Value.int (xs 2)) W0_0 (by decide) (by decide) rfl ?_
    refine i_287_1162 (x := 0) rfl ?_
    refine i_287_1163 (x := 0) rfl ?_
    refine i_287_1165 ?_
    refine i_287_1166 (c := 3) (by decide) ?_
    refine i_287_1167 (v := Value.int (xs 3)) W0_0 (by decide) (by decide) rfl ?_
    refine i_287_1168 (x := 0) rfl ?_
    refine i_287_1169 (x := 0) rfl ?_
    refine i_287_1171 ?_
    refine i_287_1172 (c := 4) (by decide) ?_
    refine i_287_1173 (v := Value.int (xs 4)) W0_0 (by decide) (by decide) rfl ?_
    refine i_287_1174 (x := 0) rfl ?_
    refine i_287_1175 (x := 0) rfl ?_
    refine i_287_1177 ?_
    refine i_287_1178 (c := 5) (by decide) ?_
    refine i_287_1179 (v := Value.int (xs 5)) W0_0 (by decide) (by decide) rfl ?_
    refine i_287_1180 (x := 194) rfl ?_
    refine i_287_1181 (Nat.le_of_ble_eq_true rfl) (p_114_7 W0_7 (G.1.1.1) (G.1.1.2.1) (G.1.1.2.2) (G.1.2.1.1) (G.1.2.1.2) (G.1.2.2.1) (show ((xs 2) + (xs 4)) = N6 from eN6) (G.1.2.2.2) (G.2.1.1) (G.2.1.2.1) (show ((xs 3) + (xs 4)) = N10 from eN10) (G.2.1.2.2) (G.2.2.1.1)) ?_
    refine i_287_1184 (lv2 := [(5, Value.int 1), (4, Value.int 0), (3, Value.ref 194), (2, Value.ref 128), (1, Value.ref 7), (0, Value.ref 0)]) rfl ?_
    refine i_287_1186 (x := 128) rfl ?_
    refine i_287_1187 (x := 0) rfl ?_
    refine i_287_1188 (x := 0) rfl ?_
    refine i_287_1190 ?_
    refine i_287_1191 (c := 1) (by decide) ?_
    refine i_287_1192 (v := Value.int (xs 1)) (xga W0_0) (by decide) (by decide) rfl ?_
    refine i_287_1193 (x := 0) rfl ?_
    refine i_287_1194 (x := 0) rfl ?_
    refine i_287_1196 ?_
    refine i_287_1197 (c := 2) (by decide) ?_
    refine i_287_1198 (v := Value.int (xs 2)) (xga W0_0) (by decide) (by decide) rfl ?_
    refine i_287_1199 (x := 0) rfl ?_
    refine i_287_1200 (x := 0) rfl ?_
    refine i_287_1202 ?_
    refine i_287_1203 (c := 3) (by decide) ?_
    refine i_287_1204 (v := Value.int (xs 3)) (xga W0_0) (by decide) (by decide) rfl ?_
    refine i_287_1205 (x := 0) rfl ?_
    refine i_287_1206 (x := 0) rfl ?_
    refine i_287_1208 ?_
    refine i_287_1209 (c := 4) (by decide) ?_
    refine i_287_1210 (v := Value.int (xs 4)) (xga W0_0) (by decide) (by decide) rfl ?_
    refine i_287_1211 (x := 0) rfl ?_
    refine i_287_1212 (x := 0) rfl ?_
    refine i_287_1214 ?_
    refine i_287_1215 (c := 5) (by decide) ?_
    refine i_287_1216 (v := Value.int (xs 5)) (xga W0_0) (by decide) (by decide) rfl ?_
    refine i_287_1217 (xga W0_128) (Nat.le_of_ble_eq_true rfl) (p_230_8 (xga W0_128) (G.1.1.1) (G.2.2.1.2) (G.1.1.2.2) (G.2.2.2.1) (G.2.1.1) (G.2.2.2.2) (G.1.2.1.2) (G.1.2.2.1) (show ((xs 2) + (xs 4)) = N6 from eN6) (G.1.2.2.2) (show ((xs 3) + (xs 4)) = N10 from eN10) (G.2.1.2.2) (G.2.2.1.1)) ?_
    refine i_287_1220 (lv2 := [(6, Value.int 0), (5, Value.int 1), (4, Value.int 0), (3, Value.ref 194), (2, Value.ref 128), (1, Value.ref 7), (0, Value.ref 0)]) rfl ?_
    refine i_287_1222 (x := 128) rfl ?_
    refine i_287_1223 (xgs (xga (xgs (xga W0_128)))) (Nat.le_of_ble_eq_true rfl) (p_165_0 (xgs (xga (xgs (xga W0_128))))) ?_
    refine i_287_1226 (x := 1) rfl ?_
    refine i_287_1228 (fun _ => ?_) (fun h => absurd h (by decide))
    refine i_287_1233 (x := 1) rfl ?_
    refine i_287_1235 (fun _ => ?_) (fun h => absurd h (by decide))
    refine i_287_1250 ?_
    refine i_287_2154 (x := 0) (c := 6) (lv2 := [(4, Value.int 6), (6, Value.int 0), (5, Value.int 1), (3, Value.ref 194), (2, Value.ref 128), (1, Value.ref 7), (0, Value.ref 0)]) rfl (by decide) rfl ?_
    refine i_287_2157 ?_
    refine i_287_23 (x := 6) rfl ?_
    refine i_287_25 (x := 0) rfl ?_
    refine i_287_26 (c := 6) (xgn (by decide) (xga (xgn (by decide) (xga W0_0)))) (by decide) ?_
    refine i_287_27 ?_
    refine i_287_29 (c := 0) (by decide) ?_
    refine i_287_30 (fun _ => ?_) (fun h => absurd h (by decide))
    refine i_287_2160 ?_
    exact i_287_2161 rfl ⟨rfl, rfl⟩
  · refine xLs.set ?_ (xga (xgs (xga W0_128))) xcs_o
    refine xLs.app (n := 219) (z := 199994) (m := 6) ?_ rfl
    refine xLs.set ?_ (xga W0_128) xcs_o
    refine xLs.app (n := 218) (z := 199988) (m := 6) ?_ rfl
    exact ⟨Nat.le_trans (Nat.le_of_eq W0_len) (by decide), Nat.le_trans (Nat.le_of_eq W0_sz) (by decide)⟩
theorem p_115_8 {d : Nat} {w : xW} {a0 : Int32} {a1 : Int32} {a2 : Int32} {a3 : Int32} {a4 : Int32} {a5 : Int32} {a6 : Int32} (e0 : 0 ≤ a0.toInt) (e1 : a0.toInt < 16) (e2 : 0 ≤ a1.toInt) (e3 : a1.toInt < 16) (e4 : 1 ≤ a3.toInt) (e5 : a3.toInt ≤ 16) (hg6 : (a1 + a3) = a5) (e7 : a5.toInt ≤ 16) (e8 : 0 ≤ a2.toInt) (e9 : a2.toInt < 16) (hg10 : (a2 + a3) = a6) (e11 : a6.toInt ≤ 16) (e12 : 0 ≤ a4.toInt) (e13 : 4 < a4.toInt) : xRun (d + 6) 115 [Value.ref 7, Value.int a0, Value.int a1, Value.int a2, Value.int a3, Value.int a4] w (.inr w.length) (w ++ [Sum.inr (14, [])]) := by
  refine xRun.of ?_
  refine i_115_0 (x := a0) rfl ?_
  refine i_115_1 (Nat.le_of_ble_eq_true rfl) (p_15_1 e0 e1) ?_
  refine i_115_4 (fun h => absurd h (by decide)) (fun _ => ?_)
  refine i_115_7 (x := a1) rfl ?_
  refine i_115_8 (x := a3) rfl ?_
  refine i_115_10 (Nat.le_of_ble_eq_true rfl) (p_113_4 e2 e3 e4 e5 hg6 e7) ?_
  refine i_115_13 (fun h => absurd h (by decide)) (fun _ => ?_)
  refine i_115_16 (x := a2) rfl ?_
  refine i_115_17 (x := a3) rfl ?_
  refine i_115_19 (Nat.le_of_ble_eq_true rfl) (p_113_4 e8 e9 e4 e5 hg10 e11) ?_
  refine i_115_22 (fun h => absurd h (by decide)) (fun _ => ?_)
  refine i_115_25 (x := a4) rfl ?_
  refine i_115_27 (Nat.le_of_ble_eq_true rfl) (p_22_1 e12 e13) ?_
  refine i_115_30 (fun h => absurd h (by decide)) (fun _ => ?_)
  exact i_115_33 (by omega) (Nat.le_of_ble_eq_true rfl) ⟨rfl, rfl⟩
theorem p_114_8 {d : Nat} {w : xW} {a0 : Int32} {a1 : Int32} {a2 : Int32} {a3 : Int32} {a4 : Int32} {a5 : Int32} {a6 : Int32} (hw0 : w[7]? = some (Sum.inr (0, [Value.ref 8, Value.ref 78, Value.ref 9, Value.ref 10, Value.ref 13, Value.ref 16, Value.ref 19, Value.ref 93, Value.ref 108, Value.ref 113, Value.ref 29, Value.int 0]))) (e1 : 0 ≤ a0.toInt) (e2 : a0.toInt < 16) (e3 : 0 ≤ a1.toInt) (e4 : a1.toInt < 16) (e5 : 1 ≤ a3.toInt) (e6 : a3.toInt ≤ 16) (hg7 : (a1 + a3) = a5) (e8 : a5.toInt ≤ 16) (e9 : 0 ≤ a2.toInt) (e10 : a2.toInt < 16) (hg11 : (a2 + a3) = a6) (e12 : a6.toInt ≤ 16) (e13 : 0 ≤ a4.toInt) (e14 : 4 < a4.toInt) : xRun (d + 7) 114 [Value.ref 7, Value.int a0, Value.int a1, Value.int a2, Value.int a3, Value.int a4, Value.ref 194] w (.inl (some (Value.int 1))) (w ++ [Sum.inr (14, [])]) := by
  refine xRun.of ?_
  refine i_114_0 (x := 194) rfl ?_
  refine i_114_2 ?_
  refine i_114_3 (x := 7) rfl ?_
  refine i_114_4 (x := a0) rfl ?_
  refine i_114_5 (x := a1) rfl ?_
  refine i_114_6 (x := a2) rfl ?_
  refine i_114_7 (x := a3) rfl ?_
  refine i_114_9 (x := a4) rfl ?_
  refine j_114_11 hw0 (Nat.le_of_ble_eq_true rfl) (p_115_8 e1 e2 e3 e4 e5 e6 hg7 e8 e9 e10 hg11 e12 e13 e14) (xDone.c xgl rfl rfl ?_)
  refine i_114_19 (lv2 := [(7, Value.ref w.length), (0, Value.ref 7), (1, Value.int a0), (2, Value.int a1), (3, Value.int a2), (4, Value.int a3), (5, Value.int a4), (6, Value.ref 194)]) rfl ?_
  refine i_114_21 ?_
  exact i_114_22 ⟨rfl, rfl⟩
theorem p_231_9 {d : Nat} {w : xW} {a0 : Int32} {a1 : Int32} {a2 : Int32} {a3 : Int32} {a4 : Int32} {a5 : Int32} {a6 : Int32} (e0 : 0 ≤ a0.toInt) (e1 : a0.toInt ≤ 15) (e2 : 0 ≤ a1.toInt) (e3 : a1.toInt ≤ 15) (e4 : 0 ≤ a2.toInt) (e5 : a2.toInt ≤ 15) (e6 : 1 ≤ a3.toInt) (e7 : a3.toInt ≤ 16) (hg8 : (a1 + a3) = a5) (e9 : a5.toInt ≤ 16) (hg10 : (a2 + a3) = a6) (e11 : a6.toInt ≤ 16) (e12 : 0 ≤ a4.toInt) (e13 : 4 < a4.toInt) : xRun (d + 8) 231 [Value.ref 128, Value.int a0, Value.int a1, Value.int a2, Value.int a3, Value.int a4] w (.inr w.length) (w ++ [Sum.inr (14, [])]) := by
  refine xRun.of ?_
  refine i_231_0 (x := a0) rfl ?_
  refine i_231_1 (Nat.le_of_ble_eq_true rfl) (p_168_1 e0 e1) ?_
  refine i_231_4 (x := a1) rfl ?_
  refine i_231_5 (Nat.le_of_ble_eq_true rfl) (p_168_1 e2 e3) ?_
  refine i_231_8 (x := a2) rfl ?_
  refine i_231_9 (Nat.le_of_ble_eq_true rfl) (p_168_1 e4 e5) ?_
  refine i_231_12 (x := a3) rfl ?_
  refine i_231_14 ?_
  refine i_231_15 ?_
  refine i_231_17 (Nat.le_of_ble_eq_true rfl) (p_169_44 e6 e7) ?_
  refine i_231_20 (fun h => absurd h (by decide)) (fun _ => ?_)
  refine i_231_23 (x := a1) rfl ?_
  refine i_231_24 (x := a3) rfl ?_
  refine i_231_26 (c := a5) hg8 ?_
  refine i_231_27 ?_
  refine i_231_29 (fun h => absurd e9 (Int.not_le.mpr h)) (fun _ => ?_)
  refine i_231_32 (x := a2) rfl ?_
  refine i_231_33 (x := a3) rfl ?_
  refine i_231_35 (c := a6) hg10 ?_
  refine i_231_36 ?_
  refine i_231_38 (fun h => absurd e11 (Int.not_le.mpr h)) (fun _ => ?_)
  refine i_231_41 ?_
  refine i_231_42 ?_
  refine i_231_46 (Nat.le_of_ble_eq_true rfl) (p_170_1) ?_
  refine i_231_49 (x := a4) rfl ?_
  exact j_231_51 (Nat.le_of_ble_eq_true rfl) (p_178_1 e12 e13) (xDone.t xgl rfl rfl ⟨rfl, rfl⟩)
theorem p_230_9 {d : Nat} {w : xW} {a0 : Int32} {a1 : Int32} {a2 : Int32} {a3 : Int32} {a4 : Int32} {a5 : Int32} {a6 : Int32} (hw0 : w[128]? = some (Sum.inr (12, [Value.ref 129, Value.ref 131, Value.ref 133, Value.ref 135, Value.ref 137, Value.ref 139, Value.ref 141, Value.ref 143, Value.ref 145, Value.ref 147, Value.ref 149, Value.ref 151, Value.ref 153, Value.ref 154, Value.ref 155, Value.ref 156, Value.ref 157, Value.int (-16384), Value.int 16384, Value.int 0, Value.int 0, Value.int 0, Value.ref 158, Value.ref 159, Value.int 0, Value.int 0, Value.int 0, Value.int 0, Value.int 0, Value.int 0, Value.int 0, Value.int 0]))) (e1 : 0 ≤ a0.toInt) (e2 : a0.toInt ≤ 15) (e3 : 0 ≤ a1.toInt) (e4 : a1.toInt ≤ 15) (e5 : 0 ≤ a2.toInt) (e6 : a2.toInt ≤ 15) (e7 : 1 ≤ a3.toInt) (e8 : a3.toInt ≤ 16) (hg9 : (a1 + a3) = a5) (e10 : a5.toInt ≤ 16) (hg11 : (a2 + a3) = a6) (e12 : a6.toInt ≤ 16) (e13 : 0 ≤ a4.toInt) (e14 : 4 < a4.toInt) : xRun (d + 9) 230 [Value.ref 128, Value.int a0, Value.int a1, Value.int a2, Value.int a3, Value.int a4] w (.inl (some (Value.int 0))) (((w.set 128 (Sum.inr (12, [Value.ref 129, Value.ref 131, Value.ref 133, Value.ref 135, Value.ref 137, Value.ref 139, Value.ref 141, Value.ref 143, Value.ref 145, Value.ref 147, Value.ref 149, Value.ref 151, Value.ref 153, Value.ref 154, Value.ref 155, Value.ref 156, Value.ref 157, Value.int (-16384), Value.int 16384, Value.int 0, Value.int 0, Value.int 0, Value.ref 158, Value.ref 159, Value.int 0, Value.int 0, Value.int 0, Value.int 0, Value.int 0, Value.int 0, Value.int 0, Value.int 0]))) ++ [Sum.inr (14, [])]).set 128 (Sum.inr (12, [Value.ref 129, Value.ref 131, Value.ref 133, Value.ref 135, Value.ref 137, Value.ref 139, Value.ref 141, Value.ref 143, Value.ref 145, Value.ref 147, Value.ref 149, Value.ref 151, Value.ref 153, Value.ref 154, Value.ref 155, Value.ref 156, Value.ref 157, Value.int (-16384), Value.int 16384, Value.int 0, Value.int 0, Value.int 0, Value.ref 158, Value.ref 159, Value.int 0, Value.int 0, Value.int 0, Value.int 0, Value.int 0, Value.int 0, Value.int 0, Value.int 1]))) := by
  refine xRun.of ?_
  refine i_230_0 (x := 128) rfl ?_
  refine i_230_1 ?_
  refine i_230_2 (fs2 := [Value.ref 129, Value.ref 131, Value.ref 133, Value.ref 135, Value.ref 137, Value.ref 139, Value.ref 141, Value.ref 143, Value.ref 145, Value.ref 147, Value.ref 149, Value.ref 151, Value.ref 153, Value.ref 154, Value.ref 155, Value.ref 156, Value.ref 157, Value.int (-16384), Value.int 16384, Value.int 0, Value.int 0, Value.int 0, Value.ref 158, Value.ref 159, Value.int 0, Value.int 0, Value.int 0, Value.int 0, Value.int 0, Value.int 0, Value.int 0, Value.int 0]) hw0 (Nat.le_of_ble_eq_true rfl) rfl (by decide) ?_
  refine i_230_5 (x := 128) rfl ?_
  refine i_230_6 (x := a0) rfl ?_
  refine i_230_7 (x := a1) rfl ?_
  refine i_230_8 (x := a2) rfl ?_
  refine i_230_9 (x := a3) rfl ?_
  refine i_230_11 (x := a4) rfl ?_
  refine j_230_13 (xgs hw0) (Nat.le_of_ble_eq_true rfl) (p_231_9 e1 e2 e3 e4 e5 e6 e7 e8 hg9 e10 hg11 e12 e13 e14) (xDone.c xgl rfl rfl ?_)
  refine i_230_17 (lv2 := [(6, Value.ref ((w.set 128 (Sum.inr (12, [Value.ref 129, Value.ref 131, Value.ref 133, Value.ref 135, Value.ref 137, Value.ref 139, Value.ref 141, Value.ref 143, Value.ref 145, Value.ref 147, Value.ref 149, Value.ref 151, Value.ref 153, Value.ref 154, Value.ref 155, Value.ref 156, Value.ref 157, Value.int (-16384), Value.int 16384, Value.int 0, Value.int 0, Value.int 0, Value.ref 158, Value.ref 159, Value.int 0, Value.int 0, Value.int 0, Value.int 0, Value.int 0, Value.int 0, Value.int 0, Value.int 0]))).length)), (0, Value.ref 128), (1, Value.int a0), (2, Value.int a1), (3, Value.int a2), (4, Value.int a3), (5, Value.int a4)]) rfl ?_
  refine i_230_19 (x := 128) rfl ?_
  refine i_230_20 ?_
  refine i_230_21 (fs2 := [Value.ref 129, Value.ref 131, Value.ref 133, Value.ref 135, Value.ref 137, Value.ref 139, Value.ref 141, Value.ref 143, Value.ref 145, Value.ref 147, Value.ref 149, Value.ref 151, Value.ref 153, Value.ref 154, Value.ref 155, Value.ref 156, Value.ref 157, Value.int (-16384), Value.int 16384, Value.int 0, Value.int 0, Value.int 0, Value.ref 158, Value.ref 159, Value.int 0, Value.int 0, Value.int 0, Value.int 0, Value.int 0, Value.int 0, Value.int 0, Value.int 1]) (xga (xgs hw0)) (Nat.le_of_ble_eq_true rfl) rfl (by decide) ?_
  refine i_230_24 ?_
  exact i_230_25 ⟨rfl, rfl⟩
theorem g_11_14 {z0 z1 z2 z3 z4 z5 z6 z7 : Int} (h0 : z0 = 11) (c0 : 0 ≤ z1) (c1 : z1 < 16) (c2 : 0 ≤ z2) (c3 : z2 < 16) (c4 : 1 ≤ z3) (c5 : z3 ≤ 16) (nN6 : z4 = z2 + z3) (c7 : z4 ≤ 16) (c8 : 0 ≤ z5) (c9 : z5 < 16) (nN10 : z6 = z5 + z3) (c11 : z6 ≤ 16) (c12 : 0 ≤ z7) (c13 : 4 < z7) : ((((0 ≤ z1) ∧ ((z1 < 16) ∧ (0 ≤ z2))) ∧ (((z2 < 16) ∧ (1 ≤ z3)) ∧ ((z3 ≤ 16) ∧ (z4 ≤ 16)))) ∧ ((((0 ≤ z5) ∧ (z5 < 16)) ∧ ((z6 ≤ 16) ∧ (0 ≤ z7))) ∧ (((4 < z7) ∧ (z1 ≤ 15)) ∧ ((z2 ≤ 15) ∧ (z5 ≤ 15))))) := by
  subst nN10; subst nN6; exact ⟨⟨⟨by omega, ⟨by omega, by omega⟩⟩, ⟨⟨by omega, by omega⟩, ⟨by omega, by omega⟩⟩⟩, ⟨⟨⟨by omega, by omega⟩, ⟨by omega, by omega⟩⟩, ⟨⟨by omega, by omega⟩, ⟨by omega, by omega⟩⟩⟩⟩
theorem o_11_14 {d : Nat} {xs : Nat → Int32} {N6 N10 : Int32} (h0 : ((xs 0) &&& (31 : Int32)).toInt = 11) (c0 : 0 ≤ (xs 1).toInt) (c1 : (xs 1).toInt < 16) (c2 : 0 ≤ (xs 2).toInt) (c3 : (xs 2).toInt < 16) (c4 : 1 ≤ (xs 4).toInt) (c5 : (xs 4).toInt ≤ 16) (eN6 : ((xs 2) + (xs 4)) = N6) (nN6 : N6.toInt = (xs 2).toInt + (xs 4).toInt) (c7 : N6.toInt ≤ 16) (c8 : 0 ≤ (xs 3).toInt) (c9 : (xs 3).toInt < 16) (eN10 : ((xs 3) + (xs 4)) = N10) (nN10 : N10.toInt = (xs 3).toInt + (xs 4).toInt) (c11 : N10.toInt ≤ 16) (c12 : 0 ≤ (xs 5).toInt) (c13 : 4 < (xs 5).toInt) : ∃ w1, xEv (d + 20) 287 23 [(4, Value.int 0), (3, Value.ref 194), (2, Value.ref 128), (1, Value.ref 7), (0, Value.ref 0)] [] (W0 6 xs) (fun o' w' => o' = .inl (some (Value.int 1)) ∧ w' = w1) ∧ w1.length ≤ 220 ∧ xsz w1 ≤ 200000 := by
  have G : id ((((0 ≤ (xs 1).toInt) ∧ (((xs 1).toInt < 16) ∧ (0 ≤ (xs 2).toInt))) ∧ ((((xs 2).toInt < 16) ∧ (1 ≤ (xs 4).toInt)) ∧ (((xs 4).toInt ≤ 16) ∧ (N6.toInt ≤ 16)))) ∧ ((((0 ≤ (xs 3).toInt) ∧ ((xs 3).toInt < 16)) ∧ ((N10.toInt ≤ 16) ∧ (0 ≤ (xs 5).toInt))) ∧ (((4 < (xs 5).toInt) ∧ ((xs 1).toInt ≤ 15)) ∧ (((xs 2).toInt ≤ 15) ∧ ((xs 3).toInt ≤ 15))))) := g_11_14 h0 c0 c1 c2 c3 c4 c5 nN6 c7 c8 c9 nN10 c11 c12 c13
  refine ⟨(((((W0 6 xs) ++ [Sum.inr (14, [])]).set 128 (Sum.inr (12, [Value.ref 129, Value.ref 131, Value.ref 133, Value.ref 135, Value.ref 137, Value.ref 139, Value.ref 141, Value.ref 143, Value.ref 145, Value.ref 147, Value.ref 149, Value.ref 151, Value.ref 153, Value.ref 154, Value.ref 155, Value.ref 156, Value.ref 157, Value.int (-16384), Value.int 16384, Value.int 0, Value.int 0, Value.int 0, Value.ref 158, Value.ref 159, Value.int 0, Value.int 0, Value.int 0, Value.int 0, Value.int 0, Value.int 0, Value.int 0, Value.int 0]))) ++ [Sum.inr (14, [])]).set 128 (Sum.inr (12, [Value.ref 129, Value.ref 131, Value.ref 133, Value.ref 135, Value.ref 137, Value.ref 139, Value.ref 141, Value.ref 143, Value.ref 145, Value.ref 147, Value.ref 149, Value.ref 151, Value.ref 153, Value.ref 154, Value.ref 155, Value.ref 156, Value.ref 157, Value.int (-16384), Value.int 16384, Value.int 0, Value.int 0, Value.int 0, Value.ref 158, Value.ref 159, Value.int 0, Value.int 0, Value.int 0, Value.int 0, Value.int 0, Value.int 0, Value.int 0, Value.int 1]))), ?_, (show xLs _ 220 200000 from ?_)⟩
  · refine i_287_23 (x := 0) rfl ?_
    refine i_287_25 (x := 0) rfl ?_
    refine i_287_26 (c := 6) W0_0 (by decide) ?_
    refine i_287_27 ?_
    refine i_287_29 (c := 0) (by decide) ?_
    refine i_287_30 (fun h => absurd h (by decide)) (fun _ => ?_)
    refine i_287_33 (x := 0) rfl ?_
    refine i_287_34 (x := 0) rfl ?_
    refine i_287_36 (v := Value.int (xs 0)) W0_0 (by decide) (by decide) rfl ?_
    refine i_287_37 ?_
    refine i_287_39 (c := 11) (show ((xs 0) &&& (31 : Int32)) = 11 from (xge_c (n := 11) h0 rfl)) ?_
    refine i_287_40_11 rfl ?_
    refine i_287_1149 (x := 7) rfl ?_
    refine i_287_1150 (x := 0) rfl ?_
    refine i_287_1151 (x := 0) rfl ?_
    refine i_287_1153 ?_
    refine i_287_1154 (c := 1) (by decide) ?_
    refine i_287_1155 (v := Value.int (xs 1)) W0_0 (by decide) (by decide) rfl ?_
    refine i_287_1156 (x := 0) rfl ?_
    refine i_287_1157 (x := 0) rfl ?_
    refine i_287_1159 ?_
    refine i_287_1160 (c := 2) (by decide) ?_
    refine i_287_1161 (v := Value.int (xs 2)) W0_0 (by decide) (by decide) rfl ?_
    refine i_287_1162 (x := 0) rfl ?_
    refine i_287_1163 (x := 0) rfl ?_
    refine i_287_1165 ?_
    refine i_287_1166 (c := 3) (by decide) ?_
    refine i_287_1167 (v := Value.int (xs 3)) W0_0 (by decide) (by decide) rfl ?_
    refine i_287_1168 (x := 0) rfl ?_
    refine i_287_1169 (x := 0) rfl ?_
    refine i_287_1171 ?_
    refine i_287_1172 (c := 4) (by decide) ?_
    refine i_287_1173 (v := Value.int (xs 4)) W0_0 (by decide) (by decide) rfl ?_
    refine i_287_1174 (x := 0) rfl ?_
    refine i_287_1175 (x := 0) rfl ?_
    refine i_287_1177 ?_
    refine i_287_1178 (c := 5) (by decide) ?_
    refine i_287_1179 (v := Value.int (xs 5)) W0_0 (by decide) (by decide) rfl ?_
    refine i_287_1180 (x := 194) rfl ?_
    refine i_287_1181 (Nat.le_of_ble_eq_true rfl) (p_114_8 W0_7 (G.1.1.1) (G.1.1.2.1) (G.1.1.2.2) (G.1.2.1.1) (G.1.2.1.2) (G.1.2.2.1) (show ((xs 2) + (xs 4)) = N6 from eN6) (G.1.2.2.2) (G.2.1.1.1) (G.2.1.1.2) (show ((xs 3) + (xs 4)) = N10 from eN10) (G.2.1.2.1) (G.2.1.2.2) (G.2.2.1.1)) ?_
    refine i_287_1184 (lv2 := [(5, Value.int 1), (4, Value.int 0), (3, Value.ref 194), (2, Value.ref 128), (1, Value.ref 7), (0, Value.ref 0)]) rfl ?_
    refine i_287_1186 (x := 128) rfl ?_
    refine i_287_1187 (x := 0) rfl ?_
    refine i_287_1188 (x := 0) rfl ?_
    refine i_287_1190 ?_
    refine i_287_1191 (c := 1) (by decide) ?_
    refine i_287_1192 (v := Value.int (xs 1)) (xga W0_0) (by decide) (by decide) rfl ?_
    refine i_287_1193 (x := 0) rfl ?_
    refine i_287_1194 (x := 0) rfl ?_
    refine i_287_1196 ?_
    refine i_287_1197 (c := 2) (by decide) ?_
    refine i_287_1198 (v := Value.int (xs 2)) (xga W0_0) (by decide) (by decide) rfl ?_
    refine i_287_1199 (x := 0) rfl ?_
    refine i_287_1200 (x := 0) rfl ?_
    refine i_287_1202 ?_
    refine i_287_1203 (c := 3) (by decide) ?_
    refine i_287_1204 (v := Value.int (xs 3)) (xga W0_0) (by decide) (by decide) rfl ?_
    refine i_287_1205 (x := 0) rfl ?_
    refine i_287_1206 (x := 0) rfl ?_
    refine i_287_1208 ?_
    refine i_287_1209 (c := 4) (by decide) ?_
    refine i_287_1210 (v := Value.int (xs 4)) (xga W0_0) (by decide) (by decide) rfl ?_
    refine i_287_1211 (x := 0) rfl ?_
    refine i_287_1212 (x := 0) rfl ?_
    refine i_287_1214 ?_
    refine i_287_1215 (c := 5) (by decide) ?_
    refine i_287_1216 (v := Value.int (xs 5)) (xga W0_0) (by decide) (by decide) rfl ?_
    refine i_287_1217 (xga W0_128) (Nat.le_of_ble_eq_true rfl) (p_230_9 (xga W0_128) (G.1.1.1) (G.2.2.1.2) (G.1.1.2.2) (G.2.2.2.1) (G.2.1.1.1) (G.2.2.2.2) (G.1.2.1.2) (G.1.2.2.1) (show ((xs 2) + (xs 4)) = N6 from eN6) (G.1.2.2.2) (show ((xs 3) + (xs 4)) = N10 from eN10) (G.2.1.2.1) (G.2.1.2.2) (G.2.2.1.1)) ?_
    refine i_287_1220 (lv2 := [(6, Value.int 0), (5, Value.int 1), (4, Value.int 0), (3, Value.ref 194), (2, Value.ref 128), (1, Value.ref 7), (0, Value.ref 0)]) rfl ?_
    refine i_287_1222 (x := 128) rfl ?_
    refine i_287_1223 (xgs (xga (xgs (xga W0_128)))) (Nat.le_of_ble_eq_true rfl) (p_165_0 (xgs (xga (xgs (xga W0_128))))) ?_
    refine i_287_1226 (x := 1) rfl ?_
    refine i_287_1228 (fun _ => ?_) (fun h => absurd h (by decide))
    refine i_287_1233 (x := 1) rfl ?_
    refine i_287_1235 (fun _ => ?_) (fun h => absurd h (by decide))
    refine i_287_1250 ?_
    refine i_287_2154 (x := 0) (c := 6) (lv2 := [(4, Value.int 6), (6, Value.int 0), (5, Value.int 1), (3, Value.ref 194), (2, Value.ref 128), (1, Value.ref 7), (0, Value.ref 0)]) rfl (by decide) rfl ?_
    refine i_287_2157 ?_
    refine i_287_23 (x := 6) rfl ?_
    refine i_287_25 (x := 0) rfl ?_
    refine i_287_26 (c := 6) (xgn (by decide) (xga (xgn (by decide) (xga W0_0)))) (by decide) ?_
    refine i_287_27 ?_
    refine i_287_29 (c := 0) (by decide) ?_
    refine i_287_30 (fun _ => ?_) (fun h => absurd h (by decide))
    refine i_287_2160 ?_
    exact i_287_2161 rfl ⟨rfl, rfl⟩
  · refine xLs.set ?_ (xga (xgs (xga W0_128))) xcs_o
    refine xLs.app (n := 219) (z := 199994) (m := 6) ?_ rfl
    refine xLs.set ?_ (xga W0_128) xcs_o
    refine xLs.app (n := 218) (z := 199988) (m := 6) ?_ rfl
    exact ⟨Nat.le_trans (Nat.le_of_eq W0_len) (by decide), Nat.le_trans (Nat.le_of_eq W0_sz) (by decide)⟩
theorem p_96_1 {d : Nat} {w : xW} {h0 : Nat} {h1 : Nat} {h2 : Nat} {h3 : Nat} (hw0 : w[h0]? = some (Sum.inr (2, [Value.int 64, Value.int 0, Value.int 0, Value.int 0, Value.ref h2]))) (hw1 : w[h1]? = some (Sum.inr (2, [Value.int 64, Value.int 0, Value.int 0, Value.int 0, Value.ref h3]))) (hw2 : w[19]? = some (Sum.inr (5, [Value.ref 20, Value.ref 22, Value.ref 24, Value.ref 26, Value.int 0, Value.int 1, Value.int 0, Value.int 0, Value.int 0, Value.int 0, Value.int 0, Value.int 0]))) : xRun d 96 [Value.ref 19, Value.ref h0, Value.ref h1] w (.inl none) (w.set 19 (Sum.inr (5, [Value.ref 20, Value.ref 22, Value.ref 24, Value.ref 26, Value.int 0, Value.int 1, Value.int 0, Value.int 0, Value.int 0, Value.int 0, Value.int 0, Value.int 0]))) := by
  refine xRun.of ?_
  refine i_96_0 (x := h0) rfl ?_
  refine i_96_1 (v := Value.int 0) hw0 rfl ?_
  refine i_96_4 (x := h1) rfl ?_
  refine i_96_5 (v := Value.int 0) hw1 rfl ?_
  refine i_96_8 (fun _ => ?_) (fun h => absurd h (by decide))
  refine i_96_15 ?_
  refine i_96_16 (lv2 := [(3, Value.int 0), (0, Value.ref 19), (1, Value.ref h0), (2, Value.ref h1)]) rfl ?_
  refine i_96_17 (x := h0) rfl ?_
  refine i_96_18 (v := Value.int 0) hw0 rfl ?_
  refine i_96_21 ?_
  refine i_96_22 (fun _ => ?_) (fun h => absurd h (by decide))
  refine i_96_79 (x := h0) rfl ?_
  refine i_96_80 (v := Value.int 0) hw0 rfl ?_
  refine i_96_83 (fun _ => ?_) (fun h => absurd h (by decide))
  refine i_96_93 (x := 19) rfl ?_
  refine i_96_94 ?_
  refine i_96_95 (fs2 := [Value.ref 20, Value.ref 22, Value.ref 24, Value.ref 26, Value.int 0, Value.int 1, Value.int 0, Value.int 0, Value.int 0, Value.int 0, Value.int 0, Value.int 0]) hw2 rfl (Nat.le_of_ble_eq_true rfl) rfl (by decide) ?_
  refine i_96_98 ?_
  exact i_96_156 ⟨rfl, rfl⟩
theorem p_115_9 {d : Nat} {w : xW} {a0 : Int32} {a1 : Int32} {a2 : Int32} {a3 : Int32} {a4 : Int32} {a5 : Int32} {a6 : Int32} {g0 : Nat → Value} {h0 : Nat} {h1 : Nat} {h2 : Nat} {h3 : Nat} {a7 : Int32} {h4 : Nat} {a8 : Int32} {h5 : Nat} {h6 : Nat} {h7 : Nat} {a9 : Int32} {h8 : Nat} {a10 : Int32} {h9 : Nat} {h10 : Nat} {h11 : Nat} {a11 : Int32} {h12 : Nat} {a12 : Int32} {h13 : Nat} {h14 : Nat} {h15 : Nat} {a13 : Int32} {h16 : Nat} {a14 : Int32} {h17 : Nat} {h18 : Nat} {h19 : Nat} {a15 : Int32} {h20 : Nat} {a16 : Int32} {h21 : Nat} {h22 : Nat} {h23 : Nat} {a17 : Int32} {h24 : Nat} {a18 : Int32} {h25 : Nat} {h26 : Nat} {h27 : Nat} {a19 : Int32} {h28 : Nat} {a20 : Int32} {h29 : Nat} {h30 : Nat} {h31 : Nat} {a21 : Int32} {h32 : Nat} {a22 : Int32} {h33 : Nat} {h34 : Nat} {h35 : Nat} {a23 : Int32} {h36 : Nat} {a24 : Int32} {h37 : Nat} {h38 : Nat} {h39 : Nat} {a25 : Int32} {h40 : Nat} {a26 : Int32} {h41 : Nat} {h42 : Nat} {h43 : Nat} {a27 : Int32} {h44 : Nat} {a28 : Int32} {h45 : Nat} {h46 : Nat} {h47 : Nat} {a29 : Int32} {h48 : Nat} {a30 : Int32} {h49 : Nat} {h50 : Nat} {h51 : Nat} {a31 : Int32} {h52 : Nat} {a32 : Int32} {h53 : Nat} {h54 : Nat} {h55 : Nat} {a33 : Int32} {h56 : Nat} {a34 : Int32} {h57 : Nat} {h58 : Nat} {h59 : Nat} {a35 : Int32} {h60 : Nat} {a36 : Int32} {h61 : Nat} {h62 : Nat} {h63 : Nat} {h64 : Nat} {h65 : Nat} (e0 : 0 ≤ a0.toInt) (e1 : a0.toInt < 16) (e2 : 0 ≤ a1.toInt) (e3 : a1.toInt < 16) (e4 : 1 ≤ a3.toInt) (e5 : a3.toInt ≤ 16) (hg6 : (a1 + a3) = a5) (e7 : a5.toInt ≤ 16) (e8 : 0 ≤ a2.toInt) (e9 : a2.toInt < 16) (hg10 : (a2 + a3) = a6) (e11 : a6.toInt ≤ 16) (e12 : 0 ≤ a4.toInt) (e13 : a4.toInt ≤ 4) (hw14 : w[7]? = some (Sum.inr (0, [Value.ref 8, Value.ref 78, Value.ref 9, Value.ref 10, Value.ref 13, Value.ref 16, Value.ref 19, Value.ref 93, Value.ref 108, Value.ref 113, Value.ref 29, Value.int 0]))) (hw15 : w[19]? = some (Sum.inr (5, [Value.ref 20, Value.ref 22, Value.ref 24, Value.ref 26, Value.int 0, Value.int 0, Value.int 0, Value.int 0, Value.int 0, Value.int 0, Value.int 0, Value.int 0]))) (hw16 : w[20]? = some (Sum.inr (3, [Value.ref 21, Value.int 0]))) (hw17 : w[22]? = some (Sum.inr (3, [Value.ref 23, Value.int 0]))) (e18 : 0 < a3.toInt) (hg19 : (a1 + (0 : Int32)) = a1) (hw20 : w[8]? = some (Sum.inl (4, 16, g0))) (hg21 : g0 a1.toInt.toNat = Value.ref h0) (hg22 : (a2 + (0 : Int32)) = a2) (hg23 : g0 a2.toInt.toNat = Value.ref h1) (e24 : 19 ≠ h0) (e25 : 22 ≠ h0) (e26 : 20 ≠ h0) (hw27 : w[h0]? = some (Sum.inr (2, [Value.int 64, Value.int 0, Value.int 0, Value.int 0, Value.ref h2]))) (e28 : 19 ≠ h1) (e29 : 22 ≠ h1) (e30 : 20 ≠ h1) (hw31 : w[h1]? = some (Sum.inr (2, [Value.int 64, Value.int 0, Value.int 0, Value.int 0, Value.ref h3]))) (e32 : 1 < a3.toInt) (hg33 : (a1 + (1 : Int32)) = a7) (e34 : 0 ≤ a7.toInt) (e35 : a7.toInt < 16) (hg36 : g0 a7.toInt.toNat = Value.ref h4) (hg37 : (a2 + (1 : Int32)) = a8) (e38 : 0 ≤ a8.toInt) (e39 : a8.toInt < 16) (hg40 : g0 a8.toInt.toNat = Value.ref h5) (e41 : 19 ≠ h4) (e42 : 22 ≠ h4) (e43 : 20 ≠ h4) (hw44 : w[h4]? = some (Sum.inr (2, [Value.int 64, Value.int 0, Value.int 0, Value.int 0, Value.ref h6]))) (e45 : 19 ≠ h5) (e46 : 22 ≠ h5) (e47 : 20 ≠ h5) (hw48 : w[h5]? = some (Sum.inr (2, [Value.int 64, Value.int 0, Value.int 0, Value.int 0, Value.ref h7]))) (e49 : 2 < a3.toInt) (hg50 : (a1 + (2 : Int32)) = a9) (e51 : 0 ≤ a9.toInt) (e52 : a9.toInt < 16) (hg53 : g0 a9.toInt.toNat = Value.ref h8) (hg54 : (a2 + (2 : Int32)) = a10) (e55 : 0 ≤ a10.toInt) (e56 : a10.toInt < 16) (hg57 : g0 a10.toInt.toNat = Value.ref h9) (e58 : 19 ≠ h8) (e59 : 22 ≠ h8) (e60 : 20 ≠ h8) (hw61 : w[h8]? = some (Sum.inr (2, [Value.int 64, Value.int 0, Value.int 0, Value.int 0, Value.ref h10]))) (e62 : 19 ≠ h9) (e63 : 22 ≠ h9) (e64 : 20 ≠ h9) (hw65 : w[h9]? = some (Sum.inr (2, [Value.int 64, Value.int 0, Value.int 0, Value.int 0, Value.ref h11]))) (e66 : 3 < a3.toInt) (hg67 : (a1 + (3 : Int32)) = a11) (e68 : 0 ≤ a11.toInt) (e69 : a11.toInt < 16) (hg70 : g0 a11.toInt.toNat = Value.ref h12) (hg71 : (a2 + (3 : Int32)) = a12) (e72 : 0 ≤ a12.toInt) (e73 : a12.toInt < 16) (hg74 : g0 a12.toInt.toNat = Value.ref h13) (e75 : 19 ≠ h12) (e76 : 22 ≠ h12) (e77 : 20 ≠ h12) (hw78 : w[h12]? = some (Sum.inr (2, [Value.int 64, Value.int 0, Value.int 0, Value.int 0, Value.ref h14]))) (e79 : 19 ≠ h13) (e80 : 22 ≠ h13) (e81 : 20 ≠ h13) (hw82 : w[h13]? = some (Sum.inr (2, [Value.int 64, Value.int 0, Value.int 0, Value.int 0, Value.ref h15]))) (e83 : 4 < a3.toInt) (hg84 : (a1 + (4 : Int32)) = a13) (e85 : 0 ≤ a13.toInt) (e86 : a13.toInt < 16) (hg87 : g0 a13.toInt.toNat = Value.ref h16) (hg88 : (a2 + (4 : Int32)) = a14) (e89 : 0 ≤ a14.toInt) (e90 : a14.toInt < 16) (hg91 : g0 a14.toInt.toNat = Value.ref h17) (e92 : 19 ≠ h16) (e93 : 22 ≠ h16) (e94 : 20 ≠ h16) (hw95 : w[h16]? = some (Sum.inr (2, [Value.int 64, Value.int 0, Value.int 0, Value.int 0, Value.ref h18]))) (e96 : 19 ≠ h17) (e97 : 22 ≠ h17) (e98 : 20 ≠ h17) (hw99 : w[h17]? = some (Sum.inr (2, [Value.int 64, Value.int 0, Value.int 0, Value.int 0, Value.ref h19]))) (e100 : 5 < a3.toInt) (hg101 : (a1 + (5 : Int32)) = a15) (e102 : 0 ≤ a15.toInt) (e103 : a15.toInt < 16) (hg104 : g0 a15.toInt.toNat = Value.ref h20) (hg105 : (a2 + (5 : Int32)) = a16) (e106 : 0 ≤ a16.toInt) (e107 : a16.toInt < 16) (hg108 : g0 a16.toInt.toNat = Value.ref h21) (e109 : 19 ≠ h20) (e110 : 22 ≠ h20) (e111 : 20 ≠ h20) (hw112 : w[h20]? = some (Sum.inr (2, [Value.int 64, Value.int 0, Value.int 0, Value.int 0, Value.ref h22]))) (e113 : 19 ≠ h21) (e114 : 22 ≠ h21) (e115 : 20 ≠ h21) (hw116 : w[h21]? = some (Sum.inr (2, [Value.int 64, Value.int 0, Value.int 0, Value.int 0, Value.ref h23]))) (e117 : 6 < a3.toInt) (hg118 : (a1 + (6 : Int32)) = a17) (e119 : 0 ≤ a17.toInt) (e120 : a17.toInt < 16) (hg121 : g0 a17.toInt.toNat = Value.ref h24) (hg122 : (a2 + (6 : Int32)) = a18) (e123 : 0 ≤ a18.toInt) (e124 : a18.toInt < 16) (hg125 : g0 a18.toInt.toNat = Value.ref h25) (e126 : 19 ≠ h24) (e127 : 22 ≠ h24) (e128 : 20 ≠ h24) (hw129 : w[h24]? = some (Sum.inr (2, [Value.int 64, Value.int 0, Value.int 0, Value.int 0, Value.ref h26]))) (e130 : 19 ≠ h25) (e131 : 22 ≠ h25) (e132 : 20 ≠ h25) (hw133 : w[h25]? = some (Sum.inr (2, [Value.int 64, Value.int 0, Value.int 0, Value.int 0, Value.ref h27]))) (e134 : 7 < a3.toInt) (hg135 : (a1 + (7 : Int32)) = a19) (e136 : 0 ≤ a19.toInt) (e137 : a19.toInt < 16) (hg138 : g0 a19.toInt.toNat = Value.ref h28) (hg139 : (a2 + (7 : Int32)) = a20) (e140 : 0 ≤ a20.toInt) (e141 : a20.toInt < 16) (hg142 : g0 a20.toInt.toNat = Value.ref h29) (e143 : 19 ≠ h28) (e144 : 22 ≠ h28) (e145 : 20 ≠ h28) (hw146 : w[h28]? = some (Sum.inr (2, [Value.int 64, Value.int 0, Value.int 0, Value.int 0, Value.ref h30]))) (e147 : 19 ≠ h29) (e148 : 22 ≠ h29) (e149 : 20 ≠ h29) (hw150 : w[h29]? = some (Sum.inr (2, [Value.int 64, Value.int 0, Value.int 0, Value.int 0, Value.ref h31]))) (e151 : 8 < a3.toInt) (hg152 : (a1 + (8 : Int32)) = a21) (e153 : 0 ≤ a21.toInt) (e154 : a21.toInt < 16) (hg155 : g0 a21.toInt.toNat = Value.ref h32) (hg156 : (a2 + (8 : Int32)) = a22) (e157 : 0 ≤ a22.toInt) (e158 : a22.toInt < 16) (hg159 : g0 a22.toInt.toNat = Value.ref h33) (e160 : 19 ≠ h32) (e161 : 22 ≠ h32) (e162 : 20 ≠ h32) (hw163 : w[h32]? = some (Sum.inr (2, [Value.int 64, Value.int 0, Value.int 0, Value.int 0, Value.ref h34]))) (e164 : 19 ≠ h33) (e165 : 22 ≠ h33) (e166 : 20 ≠ h33) (hw167 : w[h33]? = some (Sum.inr (2, [Value.int 64, Value.int 0, Value.int 0, Value.int 0, Value.ref h35]))) (e168 : 9 < a3.toInt) (hg169 : (a1 + (9 : Int32)) = a23) (e170 : 0 ≤ a23.toInt) (e171 : a23.toInt < 16) (hg172 : g0 a23.toInt.toNat = Value.ref h36) (hg173 : (a2 + (9 : Int32)) = a24) (e174 : 0 ≤ a24.toInt) (e175 : a24.toInt < 16) (hg176 : g0 a24.toInt.toNat = Value.ref h37) (e177 : 19 ≠ h36) (e178 : 22 ≠ h36) (e179 : 20 ≠ h36) (hw180 : w[h36]? = some (Sum.inr (2, [Value.int 64, Value.int 0, Value.int 0, Value.int 0, Value.ref h38]))) (e181 : 19 ≠ h37) (e182 : 22 ≠ h37) (e183 : 20 ≠ h37) (hw184 : w[h37]? = some (Sum.inr (2, [Value.int 64, Value.int 0, Value.int 0, Value.int 0, Value.ref h39]))) (e185 : 10 < a3.toInt) (hg186 : (a1 + (10 : Int32)) = a25) (e187 : 0 ≤ a25.toInt) (e188 : a25.toInt < 16) (hg189 : g0 a25.toInt.toNat = Value.ref h40) (hg190 : (a2 + (10 : Int32)) = a26) (e191 : 0 ≤ a26.toInt) (e192 : a26.toInt < 16) (hg193 : g0 a26.toInt.toNat = Value.ref h41) (e194 : 19 ≠ h40) (e195 : 22 ≠ h40) (e196 : 20 ≠ h40) (hw197 : w[h40]? = some (Sum.inr (2, [Value.int 64, Value.int 0, Value.int 0, Value.int 0, Value.ref h42]))) (e198 : 19 ≠ h41) (e199 : 22 ≠ h41) (e200 : 20 ≠ h41) (hw201 : w[h41]? = some (Sum.inr (2, [Value.int 64, Value.int 0, Value.int 0, Value.int 0, Value.ref h43]))) (e202 : 11 < a3.toInt) (hg203 : (a1 + (11 : Int32)) = a27) (e204 : 0 ≤ a27.toInt) (e205 : a27.toInt < 16) (hg206 : g0 a27.toInt.toNat = Value.ref h44) (hg207 : (a2 + (11 : Int32)) = a28) (e208 : 0 ≤ a28.toInt) (e209 : a28.toInt < 16) (hg210 : g0 a28.toInt.toNat = Value.ref h45) (e211 : 19 ≠ h44) (e212 : 22 ≠ h44) (e213 : 20 ≠ h44) (hw214 : w[h44]? = some (Sum.inr (2, [Value.int 64, Value.int 0, Value.int 0, Value.int 0, Value.ref h46]))) (e215 : 19 ≠ h45) (e216 : 22 ≠ h45) (e217 : 20 ≠ h45) (hw218 : w[h45]? = some (Sum.inr (2, [Value.int 64, Value.int 0, Value.int 0, Value.int 0, Value.ref h47]))) (e219 : 12 < a3.toInt) (hg220 : (a1 + (12 : Int32)) = a29) (e221 : 0 ≤ a29.toInt) (e222 : a29.toInt < 16) (hg223 : g0 a29.toInt.toNat = Value.ref h48) (hg224 : (a2 + (12 : Int32)) = a30) (e225 : 0 ≤ a30.toInt) (e226 : a30.toInt < 16) (hg227 : g0 a30.toInt.toNat = Value.ref h49) (e228 : 19 ≠ h48) (e229 : 22 ≠ h48) (e230 : 20 ≠ h48) (hw231 : w[h48]? = some (Sum.inr (2, [Value.int 64, Value.int 0, Value.int 0, Value.int 0, Value.ref h50]))) (e232 : 19 ≠ h49) (e233 : 22 ≠ h49) (e234 : 20 ≠ h49) (hw235 : w[h49]? = some (Sum.inr (2, [Value.int 64, Value.int 0, Value.int 0, Value.int 0, Value.ref h51]))) (e236 : 13 < a3.toInt) (hg237 : (a1 + (13 : Int32)) = a31) (e238 : 0 ≤ a31.toInt) (e239 : a31.toInt < 16) (hg240 : g0 a31.toInt.toNat = Value.ref h52) (hg241 : (a2 + (13 : Int32)) = a32) (e242 : 0 ≤ a32.toInt) (e243 : a32.toInt < 16) (hg244 : g0 a32.toInt.toNat = Value.ref h53) (e245 : 19 ≠ h52) (e246 : 22 ≠ h52) (e247 : 20 ≠ h52) (hw248 : w[h52]? = some (Sum.inr (2, [Value.int 64, Value.int 0, Value.int 0, Value.int 0, Value.ref h54]))) (e249 : 19 ≠ h53) (e250 : 22 ≠ h53) (e251 : 20 ≠ h53) (hw252 : w[h53]? = some (Sum.inr (2, [Value.int 64, Value.int 0, Value.int 0, Value.int 0, Value.ref h55]))) (e253 : 14 < a3.toInt) (hg254 : (a1 + (14 : Int32)) = a33) (e255 : 0 ≤ a33.toInt) (e256 : a33.toInt < 16) (hg257 : g0 a33.toInt.toNat = Value.ref h56) (hg258 : (a2 + (14 : Int32)) = a34) (e259 : 0 ≤ a34.toInt) (e260 : a34.toInt < 16) (hg261 : g0 a34.toInt.toNat = Value.ref h57) (e262 : 19 ≠ h56) (e263 : 22 ≠ h56) (e264 : 20 ≠ h56) (hw265 : w[h56]? = some (Sum.inr (2, [Value.int 64, Value.int 0, Value.int 0, Value.int 0, Value.ref h58]))) (e266 : 19 ≠ h57) (e267 : 22 ≠ h57) (e268 : 20 ≠ h57) (hw269 : w[h57]? = some (Sum.inr (2, [Value.int 64, Value.int 0, Value.int 0, Value.int 0, Value.ref h59]))) (e270 : 15 < a3.toInt) (hg271 : (a1 + (15 : Int32)) = a35) (e272 : 0 ≤ a35.toInt) (e273 : a35.toInt < 16) (hg274 : g0 a35.toInt.toNat = Value.ref h60) (hg275 : (a2 + (15 : Int32)) = a36) (e276 : 0 ≤ a36.toInt) (e277 : a36.toInt < 16) (hg278 : g0 a36.toInt.toNat = Value.ref h61) (e279 : 19 ≠ h60) (e280 : 22 ≠ h60) (e281 : 20 ≠ h60) (hw282 : w[h60]? = some (Sum.inr (2, [Value.int 64, Value.int 0, Value.int 0, Value.int 0, Value.ref h62]))) (e283 : 19 ≠ h61) (e284 : 22 ≠ h61) (e285 : 20 ≠ h61) (hw286 : w[h61]? = some (Sum.inr (2, [Value.int 64, Value.int 0, Value.int 0, Value.int 0, Value.ref h63]))) (hg287 : g0 a0.toInt.toNat = Value.ref h64) (e288 : 19 ≠ h64) (e289 : 22 ≠ h64) (e290 : 20 ≠ h64) (hw291 : w[h64]? = some (Sum.inr (2, [Value.int 64, Value.int 0, Value.int 0, Value.int 0, Value.ref h65]))) (e292 : 7 ≤ h64) : xRun (d + 3) 115 [Value.ref 7, Value.int a0, Value.int a1, Value.int a2, Value.int a3, Value.int a4] w (.inl (some (Value.int 0))) ((((((((((((((((((((w.set 20 (Sum.inr (3, [Value.ref 21, Value.int 0]))).set 22 (Sum.inr (3, [Value.ref 23, Value.int 0]))).set 19 (Sum.inr (5, [Value.ref 20, Value.ref 22, Value.ref 24, Value.ref 26, Value.int 0, Value.int 0, Value.int 0, Value.int 0, Value.int 0, Value.int 0, Value.int 0, Value.int 0]))).set 19 (Sum.inr (5, [Value.ref 20, Value.ref 22, Value.ref 24, Value.ref 26, Value.int 0, Value.int 1, Value.int 0, Value.int 0, Value.int 0, Value.int 0, Value.int 0, Value.int 0]))).set 19 (Sum.inr (5, [Value.ref 20, Value.ref 22, Value.ref 24, Value.ref 26, Value.int 0, Value.int 1, Value.int 0, Value.int 0, Value.int 0, Value.int 0, Value.int 0, Value.int 0]))).set 19 (Sum.inr (5, [Value.ref 20, Value.ref 22, Value.ref 24, Value.ref 26, Value.int 0, Value.int 1, Value.int 0, Value.int 0, Value.int 0, Value.int 0, Value.int 0, Value.int 0]))).set 19 (Sum.inr (5, [Value.ref 20, Value.ref 22, Value.ref 24, Value.ref 26, Value.int 0, Value.int 1, Value.int 0, Value.int 0, Value.int 0, Value.int 0, Value.int 0, Value.int 0]))).set 19 (Sum.inr (5, [Value.ref 20, Value.ref 22, Value.ref 24, Value.ref 26, Value.int 0, Value.int 1, Value.int 0, Value.int 0, Value.int 0, Value.int 0, Value.int 0, Value.int 0]))).set 19 (Sum.inr (5, [Value.ref 20, Value.ref 22, Value.ref 24, Value.ref 26, Value.int 0, Value.int 1, Value.int 0, Value.int 0, Value.int 0, Value.int 0, Value.int 0, Value.int 0]))).set 19 (Sum.inr (5, [Value.ref 20, Value.ref 22, Value.ref 24, Value.ref 26, Value.int 0, Value.int 1, Value.int 0, Value.int 0, Value.int 0, Value.int 0, Value.int 0, Value.int 0]))).set 19 (Sum.inr (5, [Value.ref 20, Value.ref 22, Value.ref 24, Value.ref 26, Value.int 0, Value.int 1, Value.int 0, Value.int 0, Value.int 0, Value.int 0, Value.int 0, Value.int 0]))).set 19 (Sum.inr (5, [Value.ref 20, Value.ref 22, Value.ref 24, Value.ref 26, Value.int 0, Value.int 1, Value.int 0, Value.int 0, Value.int 0, Value.int 0, Value.int 0, Value.int 0]))).set 19 (Sum.inr (5, [Value.ref 20, Value.ref 22, Value.ref 24, Value.ref 26, Value.int 0, Value.int 1, Value.int 0, Value.int 0, Value.int 0, Value.int 0, Value.int 0, Value.int 0]))).set 19 (Sum.inr (5, [Value.ref 20, Value.ref 22, Value.ref 24, Value.ref 26, Value.int 0, Value.int 1, Value.int 0, Value.int 0, Value.int 0, Value.int 0, Value.int 0, Value.int 0]))).set 19 (Sum.inr (5, [Value.ref 20, Value.ref 22, Value.ref 24, Value.ref 26, Value.int 0, Value.int 1, Value.int 0, Value.int 0, Value.int 0, Value.int 0, Value.int 0, Value.int 0]))).set 19 (Sum.inr (5, [Value.ref 20, Value.ref 22, Value.ref 24, Value.ref 26, Value.int 0, Value.int 1, Value.int 0, Value.int 0, Value.int 0, Value.int 0, Value.int 0, Value.int 0]))).set 19 (Sum.inr (5, [Value.ref 20, Value.ref 22, Value.ref 24, Value.ref 26, Value.int 0, Value.int 1, Value.int 0, Value.int 0, Value.int 0, Value.int 0, Value.int 0, Value.int 0]))).set 19 (Sum.inr (5, [Value.ref 20, Value.ref 22, Value.ref 24, Value.ref 26, Value.int 0, Value.int 1, Value.int 0, Value.int 0, Value.int 0, Value.int 0, Value.int 0, Value.int 0]))).set 19 (Sum.inr (5, [Value.ref 20, Value.ref 22, Value.ref 24, Value.ref 26, Value.int 0, Value.int 1, Value.int 0, Value.int 0, Value.int 0, Value.int 0, Value.int 0, Value.int 0]))).set h64 (Sum.inr (2, [Value.int 64, Value.int 0, Value.int 0, Value.int 0, Value.ref h65]))) := by
  refine xRun.of ?_
  refine i_115_0 (x := a0) rfl ?_
  refine i_115_1 (Nat.le_of_ble_eq_true rfl) (p_15_1 e0 e1) ?_
  refine i_115_4 (fun h => absurd h (by decide)) (fun _ => ?_)
  refine i_115_7 (x := a1) rfl ?_
  refine i_115_8 (x := a3) rfl ?_
  refine i_115_10 (Nat.le_of_ble_eq_true rfl) (p_113_4 e2 e3 e4 e5 hg6 e7) ?_
  refine i_115_13 (fun h => absurd h (by decide)) (fun _ => ?_)
  refine i_115_16 (x := a2) rfl ?_
  refine i_115_17 (x := a3) rfl ?_
  refine i_115_19 (Nat.le_of_ble_eq_true rfl) (p_113_4 e8 e9 e4 e5 hg10 e11) ?_
  refine i_115_22 (fun h => absurd h (by decide)) (fun _ => ?_)
  refine i_115_25 (x := a4) rfl ?_
  refine i_115_27 (Nat.le_of_ble_eq_true rfl) (p_22_2 e12 e13) ?_
  refine i_115_30 (fun _ => ?_) (fun h => absurd h (by decide))
  refine i_115_41 (x := 7) rfl ?_
  refine i_115_42 (v := Value.ref 19) hw14 rfl ?_
  refine i_115_45 hw15 (Nat.le_of_ble_eq_true rfl) (p_59_0 hw15 hw16 hw17) ?_
  refine i_115_48 ?_
  refine i_115_49 (lv2 := [(6, Value.int 0), (0, Value.ref 7), (1, Value.int a0), (2, Value.int a1), (3, Value.int a2), (4, Value.int a3), (5, Value.int a4)]) rfl ?_
  refine i_115_51 (x := 0) rfl ?_
  refine i_115_53 (x := a3) rfl ?_
  refine i_115_55 (fun h => absurd e18 (Int.not_lt.mpr h)) (fun _ => ?_)
  refine i_115_58 (x := 7) rfl ?_
  refine i_115_59 (v := Value.ref 19) (xgn (by decide) (xgn (by decide) (xgn (by decide) hw14))) rfl ?_
  refine i_115_62 (x := 7) rfl ?_
  refine i_115_63 (v := Value.ref 8) (xgn (by decide) (xgn (by decide) (xgn (by decide) hw14))) rfl ?_
  refine i_115_66 (x := a1) rfl ?_
  refine i_115_67 (x := 0) rfl ?_
  refine i_115_69 (c := a1) hg19 ?_
  refine i_115_70 (v := Value.ref h0) (xgn (by decide) (xgn (by decide) (xgn (by decide) hw20))) e2 e3 hg21 ?_
  refine i_115_71 (x := 7) rfl ?_
  refine i_115_72 (v := Value.ref 8) (xgn (by decide) (xgn (by decide) (xgn (by decide) hw14))) rfl ?_
  refine i_115_75 (x := a2) rfl ?_
  refine i_115_76 (x := 0) rfl ?_
  refine i_115_78 (c := a2) hg22 ?_
  refine i_115_79 (v := Value.ref h1) (xgn (by decide) (xgn (by decide) (xgn (by decide) hw20))) e8 e9 hg23 ?_
  refine i_115_80 (xgs (xgn (by decide) (xgn (by decide) hw15))) (Nat.le_of_ble_eq_true rfl) (p_96_0 (xgn e24 (xgn e25 (xgn e26 hw27))) (xgn e28 (xgn e29 (xgn e30 hw31))) (xgs (xgn (by decide) (xgn (by decide) hw15)))) ?_
  refine i_115_83 (x := 0) (c := 1) (lv2 := [(6, Value.int 1), (0, Value.ref 7), (1, Value.int a0), (2, Value.int a1), (3, Value.int a2), (4, Value.int a3), (5, Value.int a4)]) rfl (by decide) rfl ?_
  refine i_115_86 ?_
  refine i_115_51 (x := 1) rfl ?_
  refine i_115_53 (x := a3) rfl ?_
  refine i_115_55 (fun h => absurd e32 (Int.not_lt.mpr h)) (fun _ => ?_)
  refine i_115_58 (x := 7) rfl ?_
  refine i_115_59 (v := Value.ref 19) (xgn (by decide) (xgn (by decide) (xgn (by decide) (xgn (by decide) hw14)))) rfl ?_
  refine i_115_62 (x := 7) rfl ?_
  refine i_115_63 (v := Value.ref 8) (xgn (by decide) (xgn (by decide) (xgn (by decide) (xgn (by decide) hw14)))) rfl ?_
  refine i_115_66 (x := a1) rfl ?_
  refine i_115_67 (x := 1) rfl ?_
  refine i_115_69 (c := a7) hg33 ?_
  refine i_115_70 (v := Value.ref h4) (xgn (by decide) (xgn (by decide) (xgn (by decide) (xgn (by decide) hw20)))) e34 e35 hg36 ?_
  refine i_115_71 (x := 7) rfl ?_
  refine i_115_72 (v := Value.ref 8) (xgn (by decide) (xgn (by decide) (xgn (by decide) (xgn (by decide) hw14)))) rfl ?_
  refine i_115_75 (x := a2) rfl ?_
  refine i_115_76 (x := 1) rfl ?_
  refine i_115_78 (c := a8) hg37 ?_
  refine i_115_79 (v := Value.ref h5) (xgn (by decide) (xgn (by decide) (xgn (by decide) (xgn (by decide) hw20)))) e38 e39 hg40 ?_
  refine i_115_80 (xgs (xgs (xgn (by decide) (xgn (by decide) hw15)))) (Nat.le_of_ble_eq_true rfl) (p_96_1 (xgn e41 (xgn e41 (xgn e42 (xgn e43 hw44)))) (xgn e45 (xgn e45 (xgn e46 (xgn e47 hw48)))) (xgs (xgs (xgn (by decide) (xgn (by decide) hw15))))) ?_
  refine i_115_83 (x := 1) (c := 2) (lv2 := [(6, Value.int 2), (0, Value.ref 7), (1, Value.int a0), (2, Value.int a1), (3, Value.int a2), (4, Value.int a3), (5, Value.int a4)]) rfl (by decide) rfl ?_
  refine i_115_86 ?_
  refine i_115_51 (x := 2) rfl ?_
  refine i_115_53 (x := a3) rfl ?_
  refine i_115_55 (fun h => absurd e49 (Int.not_lt.mpr h)) (fun _ => ?_)
  refine i_115_58 (x := 7) rfl ?_
  refine i_115_59 (v := Value.ref 19) (xgn (by decide) (xgn (by decide) (xgn (by decide) (xgn (by decide) (xgn (by decide) hw14))))) rfl ?_
  refine i_115_62 (x := 7) rfl ?_
  refine i_115_63 (v := Value.ref 8) (xgn (by decide) (xgn (by decide) (xgn (by decide) (xgn (by decide) (xgn (by decide) hw14))))) rfl ?_
  refine i_115_66 (x := a1) rfl ?_
  refine i_115_67 (x := 2) rfl ?_
  refine i_115_69 (c := a9) hg50 ?_
  refine i_115_70 (v := Value.ref h8) (xgn (by decide) (xgn (by decide) (xgn (by decide) (xgn (by decide) (xgn (by decide) hw20))))) e51 e52 hg53 ?_
  refine i_115_71 (x := 7) rfl ?_
  refine i_115_72 (v := Value.ref 8) (xgn (by decide) (xgn (by decide) (xgn (by decide) (xgn (by decide) (xgn (by decide) hw14))))) rfl ?_
  refine i_115_75 (x := a2) rfl ?_
  refine i_115_76 (x := 2) rfl ?_
  refine i_115_78 (c := a10) hg54 ?_
  refine i_115_79 (v := Value.ref h9) (xgn (by decide) (xgn (by decide) (xgn (by decide) (xgn (by decide) (xgn (by decide) hw20))))) e55 e56 hg57 ?_
  refine i_115_80 (xgs (xgs (xgs (xgn (by decide) (xgn (by decide) hw15))))) (Nat.le_of_ble_eq_true rfl) (p_96_1 (xgn e58 (xgn e58 (xgn e58 (xgn e59 (xgn e60 hw61))))) (xgn e62 (xgn e62 (xgn e62 (xgn e63 (xgn e64 hw65))))) (xgs (xgs (xgs (xgn (by decide) (xgn (by decide) hw15)))))) ?_
  refine i_115_83 (x := 2) (c := 3) (lv2 := [(6, Value.int 3), (0, Value.ref 7), (1, Value.int a0), (2, Value.int a1), (3, Value.int a2), (4, Value.int a3), (5, Value.int a4)]) rfl (by decide) rfl ?_
  refine i_115_86 ?_
  refine i_115_51 (x := 3) rfl ?_
  refine i_115_53 (x := a3) rfl ?_
  refine i_115_55 (fun h => absurd e66 (Int.not_lt.mpr h)) (fun _ => ?_)
  refine i_115_58 (x := 7) rfl ?_
  refine i_115_59 (v := Value.ref 19) (xgn (by decide) (xgn (by decide) (xgn (by decide) (xgn (by decide) (xgn (by decide) (xgn (by decide) hw14)))))) rfl ?_
  refine i_115_62 (x := 7) rfl ?_
  refine i_115_63 (v := Value.ref 8) (xgn (by decide) (xgn (by decide) (xgn (by decide) (xgn (by decide) (xgn (by decide) (xgn (by decide) hw14)))))) rfl ?_
  refine i_115_66 (x := a1) rfl ?_
  refine i_115_67 (x := 3) rfl ?_
  refine i_115_69 (c := a11) hg67 ?_
  refine i_115_70 (v := Value.ref h12) (xgn (by decide) (xgn (by decide) (xgn (by decide) (xgn (by decide) (xgn (by decide) (xgn (by decide) hw20)))))) e68 e69 hg70 ?_
  refine i_115_71 (x := 7) rfl ?_
  refine i_115_72 (v := Value.ref 8) (xgn (by decide) (xgn (by decide) (xgn (by decide) (xgn (by decide) (xgn (by decide) (xgn (by decide) hw14)))))) rfl ?_
  refine i_115_75 (x := a2) rfl ?_
  refine i_115_76 (x := 3) rfl ?_
  refine i_115_78 (c := a12) hg71 ?_
  refine i_115_79 (v := Value.ref h13) (xgn (by decide) (xgn (by decide) (xgn (by decide) (xgn (by decide) (xgn (by decide) (xgn (by decide) hw20)))))) e72 e73 hg74 ?_
  refine i_115_80 (xgs (xgs (xgs (xgs (xgn (by decide) (xgn (by decide) hw15)))))) (Nat.le_of_ble_eq_true rfl) (p_96_1 (xgn e75 (xgn e75 (xgn e75 (xgn e75 (xgn e76 (xgn e77 hw78)))))) (xgn e79 (xgn e79 (xgn e79 (xgn e79 (xgn e80 (xgn e81 hw82)))))) (xgs (xgs (xgs (xgs (xgn (by decide) (xgn (by decide) hw15))))))) ?_
  refine i_115_83 (x := 3) (c := 4) (lv2 := [(6, Value.int 4), (0, Value.ref 7), (1, Value.int a0), (2, Value.int a1), (3, Value.int a2), (4, Value.int a3), (5, Value.int a4)]) rfl (by decide) rfl ?_
  refine i_115_86 ?_
  refine i_115_51 (x := 4) rfl ?_
  refine i_115_53 (x := a3) rfl ?_
  refine i_115_55 (fun h => absurd e83 (Int.not_lt.mpr h)) (fun _ => ?_)
  refine i_115_58 (x := 7) rfl ?_
  refine i_115_59 (v := Value.ref 19) (xgn (by decide) (xgn (by decide) (xgn (by decide) (xgn (by decide) (xgn (by decide) (xgn (by decide) (xgn (by decide) hw14))))))) rfl ?_
  refine i_115_62 (x := 7) rfl ?_
  refine i_115_63 (v := Value.ref 8) (xgn (by decide) (xgn (by decide) (xgn (by decide) (xgn (by decide) (xgn (by decide) (xgn (by decide) (xgn (by decide) hw14))))))) rfl ?_
  refine i_115_66 (x := a1) rfl ?_
  refine i_115_67 (x := 4) rfl ?_
  refine i_115_69 (c := a13) hg84 ?_
  refine i_115_70 (v := Value.ref h16) (xgn (by decide) (xgn (by decide) (xgn (by decide) (xgn (by decide) (xgn (by decide) (xgn (by decide) (xgn (by decide) hw20))))))) e85 e86 hg87 ?_
  refine i_115_71 (x := 7) rfl ?_
  refine i_115_72 (v := Value.ref 8) (xgn (by decide) (xgn (by decide) (xgn (by decide) (xgn (by decide) (xgn (by decide) (xgn (by decide) (xgn (by decide) hw14))))))) rfl ?_
  refine i_115_75 (x := a2) rfl ?_
  refine i_115_76 (x := 4) rfl ?_
  refine i_115_78 (c := a14) hg88 ?_
  refine i_115_79 (v := Value.ref h17) (xgn (by decide) (xgn (by decide) (xgn (by decide) (xgn (by decide) (xgn (by decide) (xgn (by decide) (xgn (by decide) hw20))))))) e89 e90 hg91 ?_
  refine i_115_80 (xgs (xgs (xgs (xgs (xgs (xgn (by decide) (xgn (by decide) hw15))))))) (Nat.le_of_ble_eq_true rfl) (p_96_1 (xgn e92 (xgn e92 (xgn e92 (xgn e92 (xgn e92 (xgn e93 (xgn e94 hw95))))))) (xgn e96 (xgn e96 (xgn e96 (xgn e96 (xgn e96 (xgn e97 (xgn e98 hw99))))))) (xgs (xgs (xgs (xgs (xgs (xgn (by decide) (xgn (by decide) hw15)))))))) ?_
  refine i_115_83 (x := 4) (c := 5) (lv2 := [(6, Value.int 5), (0, Value.ref 7), (1, Value.int a0), (2, Value.int a1), (3, Value.int a2), (4, Value.int a3), (5, Value.int a4)]) rfl (by decide) rfl ?_
  refine i_115_86 ?_
  refine i_115_51 (x := 5) rfl ?_
  refine i_115_53 (x := a3) rfl ?_
  refine i_115_55 (fun h => absurd e100 (Int.not_lt.mpr h)) (fun _ => ?_)
  refine i_115_58 (x := 7) rfl ?_
  refine i_115_59 (v := Value.ref 19) (xgn (by decide) (xgn (by decide) (xgn (by decide) (xgn (by decide) (xgn (by decide) (xgn (by decide) (xgn (by decide) (xgn (by decide) hw14)))))))) rfl ?_
  refine i_115_62 (x := 7) rfl ?_
  refine i_115_63 (v := Value.ref 8) (xgn (by decide) (xgn (by decide) (xgn (by decide) (xgn (by decide) (xgn (by decide) (xgn (by decide) (xgn (by decide) (xgn (by decide) hw14)))))))) rfl ?_
  refine i_115_66 (x := a1) rfl ?_
  refine i_115_67 (x := 5) rfl ?_
  refine i_115_69 (c := a15) hg101 ?_
  refine i_115_70 (v := Value.ref h20) (xgn (by decide) (xgn (by decide) (xgn (by decide) (xgn (by decide) (xgn (by decide) (xgn (by decide) (xgn (by decide) (xgn (by decide) hw20)))))))) e102 e103 hg104 ?_
  refine i_115_71 (x := 7) rfl ?_
  refine i_115_72 (v := Value.ref 8) (xgn (by decide) (xgn (by decide) (xgn (by decide) (xgn (by decide) (xgn (by decide) (xgn (by decide) (xgn (by decide) (xgn (by decide) hw14)))))))) rfl ?_
  refine i_115_75 (x := a2) rfl ?_
  refine i_115_76 (x := 5) rfl ?_
  refine i_115_78 (c := a16) hg105 ?_
  refine i_115_79 (v := Value.ref h21) (xgn (by decide) (xgn (by decide) (xgn (by decide) (xgn (by decide) (xgn (by decide) (xgn (by decide) (xgn (by decide) (xgn (by decide) hw20)))))))) e106 e107 hg108 ?_
  refine i_115_80 (xgs (xgs (xgs (xgs (xgs (xgs (xgn (by decide) (xgn (by decide) hw15)))))))) (Nat.le_of_ble_eq_true rfl) (p_96_1 (xgn e109 (xgn e109 (xgn e109 (xgn e109 (xgn e109 (xgn e109 (xgn e110 (xgn e111 hw112)))))))) (xgn e113 (xgn e113 (xgn e113 (xgn e113 (xgn e113 (xgn e113 (xgn e114 (xgn e115 hw116)))))))) (xgs (xgs (xgs (xgs (xgs (xgs (xgn (by decide) (xgn (by decide) hw15))))))))) ?_
  refine i_115_83 (x := 5) (c := 6) (lv2 := [(6, Value.int 6), (0, Value.ref 7), (1, Value.int a0), (2, Value.int a1), (3, Value.int a2), (4, Value.int a3), (5, Value.int a4)]) rfl (by decide) rfl ?_
  refine i_115_86 ?_
  refine i_115_51 (x := 6) rfl ?_
  refine i_115_53 (x := a3) rfl ?_
  refine i_115_55 (fun h => absurd e117 (Int.not_lt.mpr h)) (fun _ => ?_)
  refine i_115_58 (x := 7) rfl ?_
  refine i_115_59 (v := Value.ref 19) (xgn (by decide) (xgn (by decide) (xgn (by decide) (xgn (by decide) (xgn (by decide) (xgn (by decide) (xgn (by decide) (xgn (by decide) (xgn (by decide) hw14))))))))) rfl ?_
  refine i_115_62 (x := 7) rfl ?_
  refine i_115_63 (v := Value.ref 8) (xgn (by decide) (xgn (by decide) (xgn (by decide) (xgn (by decide) (xgn (by decide) (xgn (by decide) (xgn (by decide) (xgn (by decide) (xgn (by decide) hw14))))))))) rfl ?_
  refine i_115_66 (x := a1) rfl ?_
  refine i_115_67 (x := 6) rfl ?_
  refine i_115_69 (c := a17) hg118 ?_
  refine i_115_70 (v := Value.ref h24) (xgn (by decide) (xgn (by decide) (xgn (by decide) (xgn (by decide) (xgn (by decide) (xgn (by decide) (xgn (by decide) (xgn (by decide) (xgn (by decide) hw20))))))))) e119 e120 hg121 ?_
  refine i_115_71 (x := 7) rfl ?_
  refine i_115_72 (v := Value.ref 8) (xgn (by decide) (xgn (by decide) (xgn (by decide) (xgn (by decide) (xgn (by decide) (xgn (by decide) (xgn (by decide) (xgn (by decide) (xgn (by decide) hw14))))))))) rfl ?_
  refine i_115_75 (x := a2) rfl ?_
  refine i_115_76 (x := 6) rfl ?_
  refine i_115_78 (c := a18) hg122 ?_
  refine i_115_79 (v := Value.ref h25) (xgn (by decide) (xgn (by decide) (xgn (by decide) (xgn (by decide) (xgn (by decide) (xgn (by decide) (xgn (by decide) (xgn (by decide) (xgn (by decide) hw20))))))))) e123 e124 hg125 ?_
  refine i_115_80 (xgs (xgs (xgs (xgs (xgs (xgs (xgs (xgn (by decide) (xgn (by decide) hw15))))))))) (Nat.le_of_ble_eq_true rfl) (p_96_1 (xgn e126 (xgn e126 (xgn e126 (xgn e126 (xgn e126 (xgn e126 (xgn e126 (xgn e127 (xgn e128 hw129))))))))) (xgn e130 (xgn e130 (xgn e130 (xgn e130 (xgn e130 (xgn e130 (xgn e130 (xgn e131 (xgn e132 hw133))))))))) (xgs (xgs (xgs (xgs (xgs (xgs (xgs (xgn (by decide) (xgn (by decide) hw15)))))))))) ?_
  refine i_115_83 (x := 6) (c := 7) (lv2 := [(6, Value.int 7), (0, Value.ref 7), (1, Value.int a0), (2, Value.int a1), (3, Value.int a2), (4, Value.int a3), (5, Value.int a4)]) rfl (by decide) rfl ?_
  refine i_115_86 ?_
  refine i_115_51 (x := 7) rfl ?_
  refine i_115_53 (x := a3) rfl ?_
  refine i_115_55 (fun h => absurd e134 (Int.not_lt.mpr h)) (fun _ => ?_)
  refine i_115_58 (x := 7) rfl ?_
  refine i_115_59 (v := Value.ref 19) (xgn (by decide) (xgn (by decide) (xgn (by decide) (xgn (by decide) (xgn (by decide) (xgn (by decide) (xgn (by decide) (xgn (by decide) (xgn (by decide) (xgn (by decide) hw14)))))))))) rfl ?_
  refine i_115_62 (x := 7) rfl ?_
  refine i_115_63 (v := Value.ref 8) (xgn (by decide) (xgn (by decide) (xgn (by decide) (xgn (by decide) (xgn (by decide) (xgn (by decide) (xgn (by decide) (xgn (by decide) (xgn (by decide) (xgn (by decide) hw14)))))))))) rfl ?_
  refine i_115_66 (x := a1) rfl ?_
  refine i_115_67 (x := 7) rfl ?_
  refine i_115_69 (c := a19) hg135 ?_
  refine i_115_70 (v := Value.ref h28) (xgn (by decide) (xgn (by decide) (xgn (by decide) (xgn (by decide) (xgn (by decide) (xgn (by decide) (xgn (by decide) (xgn (by decide) (xgn (by decide) (xgn (by decide) hw20)))))))))) e136 e137 hg138 ?_
  refine i_115_71 (x := 7) rfl ?_
  refine i_115_72 (v := Value.ref 8) (xgn (by decide) (xgn (by decide) (xgn (by decide) (xgn (by decide) (xgn (by decide) (xgn (by decide) (xgn (by decide) (xgn (by decide) (xgn (by decide) (xgn (by decide) hw14)))))))))) rfl ?_
  refine i_115_75 (x := a2) rfl ?_
  refine i_115_76 (x := 7) rfl ?_
  refine i_115_78 (c := a20) hg139 ?_
  refine i_115_79 (v := Value.ref h29) (xgn (by decide) (xgn (by decide) (xgn (by decide) (xgn (by decide) (xgn (by decide) (xgn (by decide) (xgn (by decide) (xgn (by decide) (xgn (by decide) (xgn (by decide) hw20)))))))))) e140 e141 hg142 ?_
  refine i_115_80 (xgs (xgs (xgs (xgs (xgs (xgs (xgs (xgs (xgn (by decide) (xgn (by decide) hw15)))))))))) (Nat.le_of_ble_eq_true rfl) (p_96_1 (xgn e143 (xgn e143 (xgn e143 (xgn e143 (xgn e143 (xgn e143 (xgn e143 (xgn e143 (xgn e144 (xgn e145 hw146)))))))))) (xgn e147 (xgn e147 (xgn e147 (xgn e147 (xgn e147 (xgn e147 (xgn e147 (xgn e147 (xgn e148 (xgn e149 hw150)))))))))) (xgs (xgs (xgs (xgs (xgs (xgs (xgs (xgs (xgn (by decide) (xgn (by decide) hw15))))))))))) ?_
  refine i_115_83 (x := 7) (c := 8) (lv2 := [(6, Value.int 8), (0, Value.ref 7), (1, Value.int a0), (2, Value.int a1), (3, Value.int a2), (4, Value.int a3), (5, Value.int a4)]) rfl (by decide) rfl ?_
  refine i_115_86 ?_
  refine i_115_51 (x := 8) rfl ?_
  refine i_115_53 (x := a3) rfl ?_
  refine i_115_55 (fun h => absurd e151 (Int.not_lt.mpr h)) (fun _ => ?_)
  refine i_115_58 (x := 7) rfl ?_
  refine i_115_59 (v := Value.ref 19) (xgn (by decide) (xgn (by decide) (xgn (by decide) (xgn (by decide) (xgn (by decide) (xgn (by decide) (xgn (by decide) (xgn (by decide) (xgn (by decide) (xgn (by decide) (xgn (by decide) hw14))))))))))) rfl ?_
  refine i_115_62 (x := 7) rfl ?_
  refine i_115_63 (v := Value.ref 8) (xgn (by decide) (xgn (by decide) (xgn (by decide) (xgn (by decide) (xgn (by decide) (xgn (by decide) (xgn (by decide) (xgn (by decide) (xgn (by decide) (xgn (by decide) (xgn (by decide) hw14))))))))))) rfl ?_
  refine i_115_66 (x := a1) rfl ?_
  refine i_115_67 (x := 8) rfl ?_
  refine i_115_69 (c := a21) hg152 ?_
  refine i_115_70 (v := Value.ref h32) (xgn (by decide) (xgn (by decide) (xgn (by decide) (xgn (by decide) (xgn (by decide) (xgn (by decide) (xgn (by decide) (xgn (by decide) (xgn (by decide) (xgn (by decide) (xgn (by decide) hw20))))))))))) e153 e154 hg155 ?_
  refine i_115_71 (x := 7) rfl ?_
  refine i_115_72 (v := Value.ref 8) (xgn (by decide) (xgn (by decide) (xgn (by decide) (xgn (by decide) (xgn (by decide) (xgn (by decide) (xgn (by decide) (xgn (by decide) (xgn (by decide) (xgn (by decide) (xgn (by decide) hw14))))))))))) rfl ?_
  refine i_115_75 (x := a2) rfl ?_
  refine i_115_76 (x := 8) rfl ?_
  refine i_115_78 (c := a22) hg156 ?_
  refine i_115_79 (v := Value.ref h33) (xgn (by decide) (xgn (by decide) (xgn (by decide) (xgn (by decide) (xgn (by decide) (xgn (by decide) (xgn (by decide) (xgn (by decide) (xgn (by decide) (xgn (by decide) (xgn (by decide) hw20))))))))))) e157 e158 hg159 ?_
  refine i_115_80 (xgs (xgs (xgs (xgs (xgs (xgs (xgs (xgs (xgs (xgn (by decide) (xgn (by decide) hw15))))))))))) (Nat.le_of_ble_eq_true rfl) (p_96_1 (xgn e160 (xgn e160 (xgn e160 (xgn e160 (xgn e160 (xgn e160 (xgn e160 (xgn e160 (xgn e160 (xgn e161 (xgn e162 hw163))))))))))) (xgn e164 (xgn e164 (xgn e164 (xgn e164 (xgn e164 (xgn e164 (xgn e164 (xgn e164 (xgn e164 (xgn e165 (xgn e166 hw167))))))))))) (xgs (xgs (xgs (xgs (xgs (xgs (xgs (xgs (xgs (xgn (by decide) (xgn (by decide) hw15)))))))))))) ?_
  refine i_115_83 (x := 8) (c := 9) (lv2 := [(6, Value.int 9), (0, Value.ref 7), (1, Value.int a0), (2, Value.int a1), (3, Value.int a2), (4, Value.int a3), (5, Value.int a4)]) rfl (by decide) rfl ?_
  refine i_115_86 ?_
  refine i_115_51 (x := 9) rfl ?_
  refine i_115_53 (x := a3) rfl ?_
  refine i_115_55 (fun h => absurd e168 (Int.not_lt.mpr h)) (fun _ => ?_)
  refine i_115_58 (x := 7) rfl ?_
  refine i_115_59 (v := Value.ref 19) (xgn (by decide) (xgn (by decide) (xgn (by decide) (xgn (by decide) (xgn (by decide) (xgn (by decide) (xgn (by decide) (xgn (by decide) (xgn (by decide) (xgn (by decide) (xgn (by decide) (xgn (by decide) hw14)))))))))))) rfl ?_
  refine i_115_62 (x := 7) rfl ?_
  refine i_115_63 (v := Value.ref 8) (xgn (by decide) (xgn (by decide) (xgn (by decide) (xgn (by decide) (xgn (by decide) (xgn (by decide) (xgn (by decide) (xgn (by decide) (xgn (by decide) (xgn (by decide) (xgn (by decide) (xgn (by decide) hw14)))))))))))) rfl ?_
  refine i_115_66 (x := a1) rfl ?_
  refine i_115_67 (x := 9) rfl ?_
  refine i_115_69 (c := a23) hg169 ?_
  refine i_115_70 (v := Value.ref h36) (xgn (by decide) (xgn (by decide) (xgn (by decide) (xgn (by decide) (xgn (by decide) (xgn (by decide) (xgn (by decide) (xgn (by decide) (xgn (by decide) (xgn (by decide) (xgn (by decide) (xgn (by decide) hw20)))))))))))) e170 e171 hg172 ?_
  refine i_115_71 (x := 7) rfl ?_
  refine i_115_72 (v := Value.ref 8) (xgn (by decide) (xgn (by decide) (xgn (by decide) (xgn (by decide) (xgn (by decide) (xgn (by decide) (xgn (by decide) (xgn (by decide) (xgn (by decide) (xgn (by decide) (xgn (by decide) (xgn (by decide) hw14)))))))))))) rfl ?_
  refine i_115_75 (x := a2) rfl ?_
  refine i_115_76 (x := 9) rfl ?_
  refine i_115_78 (c := a24) hg173 ?_
  refine i_115_79 (v := Value.ref h37) (xgn (by decide) (xgn (by decide) (xgn (by decide) (xgn (by decide) (xgn (by decide) (xgn (by decide) (xgn (by decide) (xgn (by decide) (xgn (by decide) (xgn (by decide) (xgn (by decide) (xgn (by decide) hw20)))))))))))) e174 e175 hg176 ?_
  refine i_115_80 (xgs (xgs (xgs (xgs (xgs (xgs (xgs (xgs (xgs (xgs (xgn (by decide) (xgn (by decide) hw15)))))))))))) (Nat.le_of_ble_eq_true rfl) (p_96_1 (xgn e177 (xgn e177 (xgn e177 (xgn e177 (xgn e177 (xgn e177 (xgn e177 (xgn e177 (xgn e177 (xgn e177 (xgn e178 (xgn e179 hw180)))))))))))) (xgn e181 (xgn e181 (xgn e181 (xgn e181 (xgn e181 (xgn e181 (xgn e181 (xgn e181 (xgn e181 (xgn e181 (xgn e182 (xgn e183 hw184)))))))))))) (xgs (xgs (xgs (xgs (xgs (xgs (xgs (xgs (xgs (xgs (xgn (by decide) (xgn (by decide) hw15))))))))))))) ?_
  refine i_115_83 (x := 9) (c := 10) (lv2 := [(6, Value.int 10), (0, Value.ref 7), (1, Value.int a0), (2, Value.int a1), (3, Value.int a2), (4, Value.int a3), (5, Value.int a4)]) rfl (by decide) rfl ?_
  refine i_115_86 ?_
  refine i_115_51 (x := 10) rfl ?_
  refine i_115_53 (x := a3) rfl ?_
  refine i_115_55 (fun h => absurd e185 (Int.not_lt.mpr h)) (fun _ => ?_)
  refine i_115_58 (x := 7) rfl ?_
  refine i_115_59 (v := Value.ref 19) (xgn (by decide) (xgn (by decide) (xgn (by decide) (xgn (by decide) (xgn (by decide) (xgn (by decide) (xgn (by decide) (xgn (by decide) (xgn (by decide) (xgn (by decide) (xgn (by decide) (xgn (by decide) (xgn (by decide) hw14))))))))))))) rfl ?_
  refine i_115_62 (x := 7) rfl ?_
  refine i_115_63 (v := Value.ref 8) (xgn (by decide) (xgn (by decide) (xgn (by decide) (xgn (by decide) (xgn (by decide) (xgn (by decide) (xgn (by decide) (xgn (by decide) (xgn (by decide) (xgn (by decide) (xgn (by decide) (xgn (by decide) (xgn (by decide) hw14))))))))))))) rfl ?_
  refine i_115_66 (x := a1) rfl ?_
  refine i_115_67 (x := 10) rfl ?_
  refine i_115_69 (c := a25) hg186 ?_
  refine i_115_70 (v := Value.ref h40) (xgn (by decide) (xgn (by decide) (xgn (by decide) (xgn (by decide) (xgn (by decide) (xgn (by decide) (xgn (by decide) (xgn (by decide) (xgn (by decide) (xgn (by decide) (xgn (by decide) (xgn (by decide) (xgn (by decide) hw20))))))))))))) e187 e188 hg189 ?_
  refine i_115_71 (x := 7) rfl ?_
  refine i_115_72 (v := Value.ref 8) (xgn (by decide) (xgn (by decide) (xgn (by decide) (xgn (by decide) (xgn (by decide) (xgn (by decide) (xgn (by decide) (xgn (by decide) (xgn (by decide) (xgn (by decide) (xgn (by decide) (xgn (by decide) (xgn (by decide) hw14))))))))))))) rfl ?_
  refine i_115_75 (x := a2) rfl ?_
  refine i_115_76 (x := 10) rfl ?_
  refine i_115_78 (c := a26) hg190 ?_
  refine i_115_79 (v := Value.ref h41) (xgn (by decide) (xgn (by decide) (xgn (by decide) (xgn (by decide) (xgn (by decide) (xgn (by decide) (xgn (by decide) (xgn (by decide) (xgn (by decide) (xgn (by decide) (xgn (by decide) (xgn (by decide) (xgn (by decide) hw20))))))))))))) e191 e192 hg193 ?_
  refine i_115_80 (xgs (xgs (xgs (xgs (xgs (xgs (xgs (xgs (xgs (xgs (xgs (xgn (by decide) (xgn (by decide) hw15))))))))))))) (Nat.le_of_ble_eq_true rfl) (p_96_1 (xgn e194 (xgn e194 (xgn e194 (xgn e194 (xgn e194 (xgn e194 (xgn e194 (xgn e194 (xgn e194 (xgn e194 (xgn e194 (xgn e195 (xgn e196 hw197))))))))))))) (xgn e198 (xgn e198 (xgn e198 (xgn e198 (xgn e198 (xgn e198 (xgn e198 (xgn e198 (xgn e198 (xgn e198 (xgn e198 (xgn e199 (xgn e200 hw201))))))))))))) (xgs (xgs (xgs (xgs (xgs (xgs (xgs (xgs (xgs (xgs (xgs (xgn (by decide) (xgn (by decide) hw15)))))))))))))) ?_
  refine i_115_83 (x := 10) (c := 11) (lv2 := [(6, Value.int 11), (0, Value.ref 7), (1, Value.int a0), (2, Value.int a1), (3, Value.int a2), (4, Value.int a3), (5, Value.int a4)]) rfl (by decide) rfl ?_
  refine i_115_86 ?_
  refine i_115_51 (x := 11) rfl ?_
  refine i_115_53 (x := a3) rfl ?_
  refine i_115_55 (fun h => absurd e202 (Int.not_lt.mpr h)) (fun _ => ?_)
  refine i_115_58 (x := 7) rfl ?_
  refine i_115_59 (v := Value.ref 19) (xgn (by decide) (xgn (by decide) (xgn (by decide) (xgn (by decide) (xgn (by decide) (xgn (by decide) (xgn (by decide) (xgn (by decide) (xgn (by decide) (xgn (by decide) (xgn (by decide) (xgn (by decide) (xgn (by decide) (xgn (by decide) hw14)))))))))))))) rfl ?_
  refine i_115_62 (x := 7) rfl ?_
  refine i_115_63 (v := Value.ref 8) (xgn (by decide) (xgn (by decide) (xgn (by decide) (xgn (by decide) (xgn (by decide) (xgn (by decide) (xgn (by decide) (xgn (by decide) (xgn (by decide) (xgn (by decide) (xgn (by decide) (xgn (by decide) (xgn (by decide) (xgn (by decide) hw14)))))))))))))) rfl ?_
  refine i_115_66 (x := a1) rfl ?_
  refine i_115_67 (x := 11) rfl ?_
  refine i_115_69 (c := a27) hg203 ?_
  refine i_115_70 (v := Value.ref h44) (xgn (by decide) (xgn (by decide) (xgn (by decide) (xgn (by decide) (xgn (by decide) (xgn (by decide) (xgn (by decide) (xgn (by decide) (xgn (by decide) (xgn (by decide) (xgn (by decide) (xgn (by decide) (xgn (by decide) (xgn (by decide) hw20)))))))))))))) e204 e205 hg206 ?_
  refine i_115_71 (x := 7) rfl ?_
  refine i_115_72 (v := Value.ref 8) (xgn (by decide) (xgn (by decide) (xgn (by decide) (xgn (by decide) (xgn (by decide) (xgn (by decide) (xgn (by decide) (xgn (by decide) (xgn (by decide) (xgn (by decide) (xgn (by decide) (xgn (by decide) (xgn (by decide) (xgn (by decide) hw14)))))))))))))) rfl ?_
  refine i_115_75 (x := a2) rfl ?_
  refine i_115_76 (x := 11) rfl ?_
  refine i_115_78 (c := a28) hg207 ?_
  refine i_115_79 (v := Value.ref h45) (xgn (by decide) (xgn (by decide) (xgn (by decide) (xgn (by decide) (xgn (by decide) (xgn (by decide) (xgn (by decide) (xgn (by decide) (xgn (by decide) (xgn (by decide) (xgn (by decide) (xgn (by decide) (xgn (by decide) (xgn (by decide) hw20)))))))))))))) e208 e209 hg210 ?_
  refine i_115_80 (xgs (xgs (xgs (xgs (xgs (xgs (xgs (xgs (xgs (xgs (xgs (xgs (xgn (by decide) (xgn (by decide) hw15)))))))))))))) (Nat.le_of_ble_eq_true rfl) (p_96_1 (xgn e211 (xgn e211 (xgn e211 (xgn e211 (xgn e211 (xgn e211 (xgn e211 (xgn e211 (xgn e211 (xgn e211 (xgn e211 (xgn e211 (xgn e212 (xgn e213 hw214)))))))))))))) (xgn e215 (xgn e215 (xgn e215 (xgn e215 (xgn e215 (xgn e215 (xgn e215 (xgn e215 (xgn e215 (xgn e215 (xgn e215 (xgn e215 (xgn e216 (xgn e217 hw218)))))))))))))) (xgs (xgs (xgs (xgs (xgs (xgs (xgs (xgs (xgs (xgs (xgs (xgs (xgn (by decide) (xgn (by decide) hw15))))))))))))))) ?_
  refine i_115_83 (x := 11) (c := 12) (lv2 := [(6, Value.int 12), (0, Value.ref 7), (1, Value.int a0), (2, Value.int a1), (3, Value.int a2), (4, Value.int a3), (5, Value.int a4)]) rfl (by decide) rfl ?_
  refine i_115_86 ?_
  refine i_115_51 (x := 12) rfl ?_
  refine i_115_53 (x := a3) rfl ?_
  refine i_115_55 (fun h => absurd e219 (Int.not_lt.mpr h)) (fun _ => ?_)
  refine i_115_58 (x := 7) rfl ?_
  refine i_115_59 (v := Value.ref 19) (xgn (by decide) (xgn (by decide) (xgn (by decide) (xgn (by decide) (xgn (by decide) (xgn (by decide) (xgn (by decide) (xgn (by decide) (xgn (by decide) (xgn (by decide) (xgn (by decide) (xgn (by decide) (xgn (by decide) (xgn (by decide) (xgn (by decide) hw14))))))))))))))) rfl ?_
  refine i_115_62 (x := 7) rfl ?_
  refine i_115_63 (v := Value.ref 8) (xgn (by decide) (xgn (by decide) (xgn (by decide) (xgn (by decide) (xgn (by decide) (xgn (by decide) (xgn (by decide) (xgn (by decide) (xgn (by decide) (xgn (by decide) (xgn (by decide) (xgn (by decide) (xgn (by decide) (xgn (by decide) (xgn (by decide) hw14))))))))))))))) rfl ?_
  refine i_115_66 (x := a1) rfl ?_
  refine i_115_67 (x := 12) rfl ?_
  refine i_115_69 (c := a29) hg220 ?_
  refine i_115_70 (v := Value.ref h48) (xgn (by decide) (xgn (by decide) (xgn (by decide) (xgn (by decide) (xgn (by decide) (xgn (by decide) (xgn (by decide) (xgn (by decide) (xgn (by decide) (xgn (by decide) (xgn (by decide) (xgn (by decide) (xgn (by decide) (xgn (by decide) (xgn (by decide) hw20))))))))))))))) e221 e222 hg223 ?_
  refine i_115_71 (x := 7) rfl ?_
  refine i_115_72 (v := Value.ref 8) (xgn (by decide) (xgn (by decide) (xgn (by decide) (xgn (by decide) (xgn (by decide) (xgn (by decide) (xgn (by decide) (xgn (by decide) (xgn (by decide) (xgn (by decide) (xgn (by decide) (xgn (by decide) (xgn (by decide) (xgn (by decide) (xgn (by decide) hw14))))))))))))))) rfl ?_
  refine i_115_75 (x := a2) rfl ?_
  refine i_115_76 (x := 12) rfl ?_
  refine i_115_78 (c := a30) hg224 ?_
  refine i_115_79 (v := Value.ref h49) (xgn (by decide) (xgn (by decide) (xgn (by decide) (xgn (by decide) (xgn (by decide) (xgn (by decide) (xgn (by decide) (xgn (by decide) (xgn (by decide) (xgn (by decide) (xgn (by decide) (xgn (by decide) (xgn (by decide) (xgn (by decide) (xgn (by decide) hw20))))))))))))))) e225 e226 hg227 ?_
  refine i_115_80 (xgs (xgs (xgs (xgs (xgs (xgs (xgs (xgs (xgs (xgs (xgs (xgs (xgs (xgn (by decide) (xgn (by decide) hw15))))))))))))))) (Nat.le_of_ble_eq_true rfl) (p_96_1 (xgn e228 (xgn e228 (xgn e228 (xgn e228 (xgn e228 (xgn e228 (xgn e228 (xgn e228 (xgn e228 (xgn e228 (xgn e228 (xgn e228 (xgn e228 (xgn e229 (xgn e230 hw231))))))))))))))) (xgn e232 (xgn e232 (xgn e232 (xgn e232 (xgn e232 (xgn e232 (xgn e232 (xgn e232 (xgn e232 (xgn e232 (xgn e232 (xgn e232 (xgn e232 (xgn e233 (xgn e234 hw235))))))))))))))) (xgs (xgs (xgs (xgs (xgs (xgs (xgs (xgs (xgs (xgs (xgs (xgs (xgs (xgn (by decide) (xgn (by decide) hw15)))))))))))))))) ?_
  refine i_115_83 (x := 12) (c := 13) (lv2 := [(6, Value.int 13), (0, Value.ref 7), (1, Value.int a0), (2, Value.int a1), (3, Value.int a2), (4, Value.int a3), (5, Value.int a4)]) rfl (by decide) rfl ?_
  refine i_115_86 ?_
  refine i_115_51 (x := 13) rfl ?_
  refine i_115_53 (x := a3) rfl ?_
  refine i_115_55 (fun h => absurd e236 (Int.not_lt.mpr h)) (fun _ => ?_)
  refine i_115_58 (x := 7) rfl ?_
  refine i_115_59 (v := Value.ref 19) (xgn (by decide) (xgn (by decide) (xgn (by decide) (xgn (by decide) (xgn (by decide) (xgn (by decide) (xgn (by decide) (xgn (by decide) (xgn (by decide) (xgn (by decide) (xgn (by decide) (xgn (by decide) (xgn (by decide) (xgn (by decide) (xgn (by decide) (xgn (by decide) hw14)))))))))))))))) rfl ?_
  refine i_115_62 (x := 7) rfl ?_
  refine i_115_63 (v := Value.ref 8) (xgn (by decide) (xgn (by decide) (xgn (by decide) (xgn (by decide) (xgn (by decide) (xgn (by decide) (xgn (by decide) (xgn (by decide) (xgn (by decide) (xgn (by decide) (xgn (by decide) (xgn (by decide) (xgn (by decide) (xgn (by decide) (xgn (by decide) (xgn (by decide) hw14)))))))))))))))) rfl ?_
  refine i_115_66 (x := a1) rfl ?_
  refine i_115_67 (x := 13) rfl ?_
  refine i_115_69 (c := a31) hg237 ?_
  refine i_115_70 (v := Value.ref h52) (xgn (by decide) (xgn (by decide) (xgn (by decide) (xgn (by decide) (xgn (by decide) (xgn (by decide) (xgn (by decide) (xgn (by decide) (xgn (by decide) (xgn (by decide) (xgn (by decide) (xgn (by decide) (xgn (by decide) (xgn (by decide) (xgn (by decide) (xgn (by decide) hw20)))))))))))))))) e238 e239 hg240 ?_
  refine i_115_71 (x := 7) rfl ?_
  refine i_115_72 (v := Value.ref 8) (xgn (by decide) (xgn (by decide) (xgn (by decide) (xgn (by decide) (xgn (by decide) (xgn (by decide) (xgn (by decide) (xgn (by decide) (xgn (by decide) (xgn (by decide) (xgn (by decide) (xgn (by decide) (xgn (by decide) (xgn (by decide) (xgn (by decide) (xgn (by decide) hw14)))))))))))))))) rfl ?_
  refine i_115_75 (x := a2) rfl ?_
  refine i_115_76 (x := 13) rfl ?_
  refine i_115_78 (c := a32) hg241 ?_
  refine i_115_79 (v := Value.ref h53) (xgn (by decide) (xgn (by decide) (xgn (by decide) (xgn (by decide) (xgn (by decide) (xgn (by decide) (xgn (by decide) (xgn (by decide) (xgn (by decide) (xgn (by decide) (xgn (by decide) (xgn (by decide) (xgn (by decide) (xgn (by decide) (xgn (by decide) (xgn (by decide) hw20)))))))))))))))) e242 e243 hg244 ?_
  refine i_115_80 (xgs (xgs (xgs (xgs (xgs (xgs (xgs (xgs (xgs (xgs (xgs (xgs (xgs (xgs (xgn (by decide) (xgn (by decide) hw15)))))))))))))))) (Nat.le_of_ble_eq_true rfl) (p_96_1 (xgn e245 (xgn e245 (xgn e245 (xgn e245 (xgn e245 (xgn e245 (xgn e245 (xgn e245 (xgn e245 (xgn e245 (xgn e245 (xgn e245 (xgn e245 (xgn e245 (xgn e246 (xgn e247 hw248)))))))))))))))) (xgn e249 (xgn e249 (xgn e249 (xgn e249 (xgn e249 (xgn e249 (xgn e249 (xgn e249 (xgn e249 (xgn e249 (xgn e249 (xgn e249 (xgn e249 (xgn e249 (xgn e250 (xgn e251 hw252)))))))))))))))) (xgs (xgs (xgs (xgs (xgs (xgs (xgs (xgs (xgs (xgs (xgs (xgs (xgs (xgs (xgn (by decide) (xgn (by decide) hw15))))))))))))))))) ?_
  refine i_115_83 (x := 13) (c := 14) (lv2 := [(6, Value.int 14), (0, Value.ref 7), (1, Value.int a0), (2, Value.int a1), (3, Value.int a2), (4, Value.int a3), (5, Value.int a4)]) rfl (by decide) rfl ?_
  refine i_115_86 ?_
  refine i_115_51 (x := 14) rfl ?_
  refine i_115_53 (x := a3) rfl ?_
  refine i_115_55 (fun h => absurd e253 (Int.not_lt.mpr h)) (fun _ => ?_)
  refine i_115_58 (x := 7) rfl ?_
  refine i_115_59 (v := Value.ref 19) (xgn (by decide) (xgn (by decide) (xgn (by decide) (xgn (by decide) (xgn (by decide) (xgn (by decide) (xgn (by decide) (xgn (by decide) (xgn (by decide) (xgn (by decide) (xgn (by decide) (xgn (by decide) (xgn (by decide) (xgn (by decide) (xgn (by decide) (xgn (by decide) (xgn (by decide) hw14))))))))))))))))) rfl ?_
  refine i_115_62 (x := 7) rfl ?_
  refine i_115_63 (v := Value.ref 8) (xgn (by decide) (xgn (by decide) (xgn (by decide) (xgn (by decide) (xgn (by decide) (xgn (by decide) (xgn (by decide) (xgn (by decide) (xgn (by decide) (xgn (by decide) (xgn (by decide) (xgn (by decide) (xgn (by decide) (xgn (by decide) (xgn (by decide) (xgn (by decide) (xgn (by decide) hw14))))))))))))))))) rfl ?_
  refine i_115_66 (x := a1) rfl ?_
  refine i_115_67 (x := 14) rfl ?_
  refine i_115_69 (c := a33) hg254 ?_
  refine i_115_70 (v := Value.ref h56) (xgn (by decide) (xgn (by decide) (xgn (by decide) (xgn (by decide) (xgn (by decide) (xgn (by decide) (xgn (by decide) (xgn (by decide) (xgn (by decide) (xgn (by decide) (xgn (by decide) (xgn (by decide) (xgn (by decide) (xgn (by decide) (xgn (by decide) (xgn (by decide) (xgn (by decide) hw20))))))))))))))))) e255 e256 hg257 ?_
  refine i_115_71 (x := 7) rfl ?_
  refine i_115_72 (v := Value.ref 8) (xgn (by decide) (xgn (by decide) (xgn (by decide) (xgn (by decide) (xgn (by decide) (xgn (by decide) (xgn (by decide) (xgn (by decide) (xgn (by decide) (xgn (by decide) (xgn (by decide) (xgn (by decide) (xgn (by decide) (xgn (by decide) (xgn (by decide) (xgn (by decide) (xgn (by decide) hw14))))))))))))))))) rfl ?_
  refine i_115_75 (x := a2) rfl ?_
  refine i_115_76 (x := 14) rfl ?_
  refine i_115_78 (c := a34) hg258 ?_
  refine i_115_79 (v := Value.ref h57) (xgn (by decide) (xgn (by decide) (xgn (by decide) (xgn (by decide) (xgn (by decide) (xgn (by decide) (xgn (by decide) (xgn (by decide) (xgn (by decide) (xgn (by decide) (xgn (by decide) (xgn (by decide) (xgn (by decide) (xgn (by decide) (xgn (by decide) (xgn (by decide) (xgn (by decide) hw20))))))))))))))))) e259 e260 hg261 ?_
  refine i_115_80 (xgs (xgs (xgs (xgs (xgs (xgs (xgs (xgs (xgs (xgs (xgs (xgs (xgs (xgs (xgs (xgn (by decide) (xgn (by decide) hw15))))))))))))))))) (Nat.le_of_ble_eq_true rfl) (p_96_1 (xgn e262 (xgn e262 (xgn e262 (xgn e262 (xgn e262 (xgn e262 (xgn e262 (xgn e262 (xgn e262 (xgn e262 (xgn e262 (xgn e262 (xgn e262 (xgn e262 (xgn e262 (xgn e263 (xgn e264 hw265))))))))))))))))) (xgn e266 (xgn e266 (xgn e266 (xgn e266 (xgn e266 (xgn e266 (xgn e266 (xgn e266 (xgn e266 (xgn e266 (xgn e266 (xgn e266 (xgn e266 (xgn e266 (xgn e266 (xgn e267 (xgn e268 hw269))))))))))))))))) (xgs (xgs (xgs (xgs (xgs (xgs (xgs (xgs (xgs (xgs (xgs (xgs (xgs (xgs (xgs (xgn (by decide) (xgn (by decide) hw15)))))))))))))))))) ?_
  refine i_115_83 (x := 14) (c := 15) (lv2 := [(6, Value.int 15), (0, Value.ref 7), (1, Value.int a0), (2, Value.int a1), (3, Value.int a2), (4, Value.int a3), (5, Value.int a4)]) rfl (by decide) rfl ?_
  refine i_115_86 ?_
  refine i_115_51 (x := 15) rfl ?_
  refine i_115_53 (x := a3) rfl ?_
  refine i_115_55 (fun h => absurd e270 (Int.not_lt.mpr h)) (fun _ => ?_)
  refine i_115_58 (x := 7) rfl ?_
  refine i_115_59 (v := Value.ref 19) (xgn (by decide) (xgn (by decide) (xgn (by decide) (xgn (by decide) (xgn (by decide) (xgn (by decide) (xgn (by decide) (xgn (by decide) (xgn (by decide) (xgn (by decide) (xgn (by decide) (xgn (by decide) (xgn (by decide) (xgn (by decide) (xgn (by decide) (xgn (by decide) (xgn (by decide) (xgn (by decide) hw14)))))))))))))))))) rfl ?_
  refine i_115_62 (x := 7) rfl ?_
  refine i_115_63 (v := Value.ref 8) (xgn (by decide) (xgn (by decide) (xgn (by decide) (xgn (by decide) (xgn (by decide) (xgn (by decide) (xgn (by decide) (xgn (by decide) (xgn (by decide) (xgn (by decide) (xgn (by decide) (xgn (by decide) (xgn (by decide) (xgn (by decide) (xgn (by decide) (xgn (by decide) (xgn (by decide) (xgn (by decide) hw14)))))))))))))))))) rfl ?_
  refine i_115_66 (x := a1) rfl ?_
  refine i_115_67 (x := 15) rfl ?_
  refine i_115_69 (c := a35) hg271 ?_
  refine i_115_70 (v := Value.ref h60) (xgn (by decide) (xgn (by decide) (xgn (by decide) (xgn (by decide) (xgn (by decide) (xgn (by decide) (xgn (by decide) (xgn (by decide) (xgn (by decide) (xgn (by decide) (xgn (by decide) (xgn (by decide) (xgn (by decide) (xgn (by decide) (xgn (by decide) (xgn (by decide) (xgn (by decide) (xgn (by decide) hw20)))))))))))))))))) e272 e273 hg274 ?_
  refine i_115_71 (x := 7) rfl ?_
  refine i_115_72 (v := Value.ref 8) (xgn (by decide) (xgn (by decide) (xgn (by decide) (xgn (by decide) (xgn (by decide) (xgn (by decide) (xgn (by decide) (xgn (by decide) (xgn (by decide) (xgn (by decide) (xgn (by decide) (xgn (by decide) (xgn (by decide) (xgn (by decide) (xgn (by decide) (xgn (by decide) (xgn (by decide) (xgn (by decide) hw14)))))))))))))))))) rfl ?_
  refine i_115_75 (x := a2) rfl ?_
  refine i_115_76 (x := 15) rfl ?_
  refine i_115_78 (c := a36) hg275 ?_
  refine i_115_79 (v := Value.ref h61) (xgn (by decide) (xgn (by decide) (xgn (by decide) (xgn (by decide) (xgn (by decide) (xgn (by decide) (xgn (by decide) (xgn (by decide) (xgn (by decide) (xgn (by decide) (xgn (by decide) (xgn (by decide) (xgn (by decide) (xgn (by decide) (xgn (by decide) (xgn (by decide) (xgn (by decide) (xgn (by decide) hw20)))))))))))))))))) e276 e277 hg278 ?_
  refine i_115_80 (xgs (xgs (xgs (xgs (xgs (xgs (xgs (xgs (xgs (xgs (xgs (xgs (xgs (xgs (xgs (xgs (xgn (by decide) (xgn (by decide) hw15)))))))))))))))))) (Nat.le_of_ble_eq_true rfl) (p_96_1 (xgn e279 (xgn e279 (xgn e279 (xgn e279 (xgn e279 (xgn e279 (xgn e279 (xgn e279 (xgn e279 (xgn e279 (xgn e279 (xgn e279 (xgn e279 (xgn e279 (xgn e279 (xgn e279 (xgn e280 (xgn e281 hw282)))))))))))))))))) (xgn e283 (xgn e283 (xgn e283 (xgn e283 (xgn e283 (xgn e283 (xgn e283 (xgn e283 (xgn e283 (xgn e283 (xgn e283 (xgn e283 (xgn e283 (xgn e283 (xgn e283 (xgn e283 (xgn e284 (xgn e285 hw286)))))))))))))))))) (xgs (xgs (xgs (xgs (xgs (xgs (xgs (xgs (xgs (xgs (xgs (xgs (xgs (xgs (xgs (xgs (xgn (by decide) (xgn (by decide) hw15))))))))))))))))))) ?_
  refine i_115_83 (x := 15) (c := 16) (lv2 := [(6, Value.int 16), (0, Value.ref 7), (1, Value.int a0), (2, Value.int a1), (3, Value.int a2), (4, Value.int a3), (5, Value.int a4)]) rfl (by decide) rfl ?_
  refine i_115_86 ?_
  refine i_115_51 (x := 16) rfl ?_
  refine i_115_53 (x := a3) rfl ?_
  refine i_115_55 (fun _ => ?_) (fun h => absurd e5 (Int.not_le.mpr h))
  refine i_115_89 (x := 7) rfl ?_
  refine i_115_90 (v := Value.ref 19) (xgn (by decide) (xgn (by decide) (xgn (by decide) (xgn (by decide) (xgn (by decide) (xgn (by decide) (xgn (by decide) (xgn (by decide) (xgn (by decide) (xgn (by decide) (xgn (by decide) (xgn (by decide) (xgn (by decide) (xgn (by decide) (xgn (by decide) (xgn (by decide) (xgn (by decide) (xgn (by decide) (xgn (by decide) hw14))))))))))))))))))) rfl ?_
  refine i_115_93 (x := 7) rfl ?_
  refine i_115_94 (v := Value.ref 78) (xgn (by decide) (xgn (by decide) (xgn (by decide) (xgn (by decide) (xgn (by decide) (xgn (by decide) (xgn (by decide) (xgn (by decide) (xgn (by decide) (xgn (by decide) (xgn (by decide) (xgn (by decide) (xgn (by decide) (xgn (by decide) (xgn (by decide) (xgn (by decide) (xgn (by decide) (xgn (by decide) (xgn (by decide) hw14))))))))))))))))))) rfl ?_
  refine i_115_97 (x := 7) rfl ?_
  refine i_115_98 (v := Value.ref 8) (xgn (by decide) (xgn (by decide) (xgn (by decide) (xgn (by decide) (xgn (by decide) (xgn (by decide) (xgn (by decide) (xgn (by decide) (xgn (by decide) (xgn (by decide) (xgn (by decide) (xgn (by decide) (xgn (by decide) (xgn (by decide) (xgn (by decide) (xgn (by decide) (xgn (by decide) (xgn (by decide) (xgn (by decide) hw14))))))))))))))))))) rfl ?_
  refine i_115_101 (x := a0) rfl ?_
  refine i_115_102 (v := Value.ref h64) (xgn (by decide) (xgn (by decide) (xgn (by decide) (xgn (by decide) (xgn (by decide) (xgn (by decide) (xgn (by decide) (xgn (by decide) (xgn (by decide) (xgn (by decide) (xgn (by decide) (xgn (by decide) (xgn (by decide) (xgn (by decide) (xgn (by decide) (xgn (by decide) (xgn (by decide) (xgn (by decide) (xgn (by decide) hw20))))))))))))))))))) e0 e1 hg287 ?_
  refine i_115_103 (x := a4) rfl ?_
  refine i_115_105 (xgs (xgs (xgs (xgs (xgs (xgs (xgs (xgs (xgs (xgs (xgs (xgs (xgs (xgs (xgs (xgs (xgs (xgn (by decide) (xgn (by decide) hw15))))))))))))))))))) (Nat.le_of_ble_eq_true rfl) (p_64_0 (xgs (xgs (xgs (xgs (xgs (xgs (xgs (xgs (xgs (xgs (xgs (xgs (xgs (xgs (xgs (xgs (xgs (xgn (by decide) (xgn (by decide) hw15))))))))))))))))))) (xgn e288 (xgn e288 (xgn e288 (xgn e288 (xgn e288 (xgn e288 (xgn e288 (xgn e288 (xgn e288 (xgn e288 (xgn e288 (xgn e288 (xgn e288 (xgn e288 (xgn e288 (xgn e288 (xgn e288 (xgn e289 (xgn e290 hw291))))))))))))))))))) e292) ?_
  exact i_115_108 ⟨rfl, rfl⟩
theorem p_114_9 {d : Nat} {w : xW} {a0 : Int32} {a1 : Int32} {a2 : Int32} {a3 : Int32} {a4 : Int32} {a5 : Int32} {a6 : Int32} {g0 : Nat → Value} {h0 : Nat} {h1 : Nat} {h2 : Nat} {h3 : Nat} {a7 : Int32} {h4 : Nat} {a8 : Int32} {h5 : Nat} {h6 : Nat} {h7 : Nat} {a9 : Int32} {h8 : Nat} {a10 : Int32} {h9 : Nat} {h10 : Nat} {h11 : Nat} {a11 : Int32} {h12 : Nat} {a12 : Int32} {h13 : Nat} {h14 : Nat} {h15 : Nat} {a13 : Int32} {h16 : Nat} {a14 : Int32} {h17 : Nat} {h18 : Nat} {h19 : Nat} {a15 : Int32} {h20 : Nat} {a16 : Int32} {h21 : Nat} {h22 : Nat} {h23 : Nat} {a17 : Int32} {h24 : Nat} {a18 : Int32} {h25 : Nat} {h26 : Nat} {h27 : Nat} {a19 : Int32} {h28 : Nat} {a20 : Int32} {h29 : Nat} {h30 : Nat} {h31 : Nat} {a21 : Int32} {h32 : Nat} {a22 : Int32} {h33 : Nat} {h34 : Nat} {h35 : Nat} {a23 : Int32} {h36 : Nat} {a24 : Int32} {h37 : Nat} {h38 : Nat} {h39 : Nat} {a25 : Int32} {h40 : Nat} {a26 : Int32} {h41 : Nat} {h42 : Nat} {h43 : Nat} {a27 : Int32} {h44 : Nat} {a28 : Int32} {h45 : Nat} {h46 : Nat} {h47 : Nat} {a29 : Int32} {h48 : Nat} {a30 : Int32} {h49 : Nat} {h50 : Nat} {h51 : Nat} {a31 : Int32} {h52 : Nat} {a32 : Int32} {h53 : Nat} {h54 : Nat} {h55 : Nat} {a33 : Int32} {h56 : Nat} {a34 : Int32} {h57 : Nat} {h58 : Nat} {h59 : Nat} {a35 : Int32} {h60 : Nat} {a36 : Int32} {h61 : Nat} {h62 : Nat} {h63 : Nat} {h64 : Nat} {h65 : Nat} (hw0 : w[7]? = some (Sum.inr (0, [Value.ref 8, Value.ref 78, Value.ref 9, Value.ref 10, Value.ref 13, Value.ref 16, Value.ref 19, Value.ref 93, Value.ref 108, Value.ref 113, Value.ref 29, Value.int 0]))) (e1 : 0 ≤ a0.toInt) (e2 : a0.toInt < 16) (e3 : 0 ≤ a1.toInt) (e4 : a1.toInt < 16) (e5 : 1 ≤ a3.toInt) (e6 : a3.toInt ≤ 16) (hg7 : (a1 + a3) = a5) (e8 : a5.toInt ≤ 16) (e9 : 0 ≤ a2.toInt) (e10 : a2.toInt < 16) (hg11 : (a2 + a3) = a6) (e12 : a6.toInt ≤ 16) (e13 : 0 ≤ a4.toInt) (e14 : a4.toInt ≤ 4) (hw15 : w[19]? = some (Sum.inr (5, [Value.ref 20, Value.ref 22, Value.ref 24, Value.ref 26, Value.int 0, Value.int 0, Value.int 0, Value.int 0, Value.int 0, Value.int 0, Value.int 0, Value.int 0]))) (hw16 : w[20]? = some (Sum.inr (3, [Value.ref 21, Value.int 0]))) (hw17 : w[22]? = some (Sum.inr (3, [Value.ref 23, Value.int 0]))) (e18 : 0 < a3.toInt) (hg19 : (a1 + (0 : Int32)) = a1) (hw20 : w[8]? = some (Sum.inl (4, 16, g0))) (hg21 : g0 a1.toInt.toNat = Value.ref h0) (hg22 : (a2 + (0 : Int32)) = a2) (hg23 : g0 a2.toInt.toNat = Value.ref h1) (e24 : 19 ≠ h0) (e25 : 22 ≠ h0) (e26 : 20 ≠ h0) (hw27 : w[h0]? = some (Sum.inr (2, [Value.int 64, Value.int 0, Value.int 0, Value.int 0, Value.ref h2]))) (e28 : 19 ≠ h1) (e29 : 22 ≠ h1) (e30 : 20 ≠ h1) (hw31 : w[h1]? = some (Sum.inr (2, [Value.int 64, Value.int 0, Value.int 0, Value.int 0, Value.ref h3]))) (e32 : 1 < a3.toInt) (hg33 : (a1 + (1 : Int32)) = a7) (e34 : 0 ≤ a7.toInt) (e35 : a7.toInt < 16) (hg36 : g0 a7.toInt.toNat = Value.ref h4) (hg37 : (a2 + (1 : Int32)) = a8) (e38 : 0 ≤ a8.toInt) (e39 : a8.toInt < 16) (hg40 : g0 a8.toInt.toNat = Value.ref h5) (e41 : 19 ≠ h4) (e42 : 22 ≠ h4) (e43 : 20 ≠ h4) (hw44 : w[h4]? = some (Sum.inr (2, [Value.int 64, Value.int 0, Value.int 0, Value.int 0, Value.ref h6]))) (e45 : 19 ≠ h5) (e46 : 22 ≠ h5) (e47 : 20 ≠ h5) (hw48 : w[h5]? = some (Sum.inr (2, [Value.int 64, Value.int 0, Value.int 0, Value.int 0, Value.ref h7]))) (e49 : 2 < a3.toInt) (hg50 : (a1 + (2 : Int32)) = a9) (e51 : 0 ≤ a9.toInt) (e52 : a9.toInt < 16) (hg53 : g0 a9.toInt.toNat = Value.ref h8) (hg54 : (a2 + (2 : Int32)) = a10) (e55 : 0 ≤ a10.toInt) (e56 : a10.toInt < 16) (hg57 : g0 a10.toInt.toNat = Value.ref h9) (e58 : 19 ≠ h8) (e59 : 22 ≠ h8) (e60 : 20 ≠ h8) (hw61 : w[h8]? = some (Sum.inr (2, [Value.int 64, Value.int 0, Value.int 0, Value.int 0, Value.ref h10]))) (e62 : 19 ≠ h9) (e63 : 22 ≠ h9) (e64 : 20 ≠ h9) (hw65 : w[h9]? = some (Sum.inr (2, [Value.int 64, Value.int 0, Value.int 0, Value.int 0, Value.ref h11]))) (e66 : 3 < a3.toInt) (hg67 : (a1 + (3 : Int32)) = a11) (e68 : 0 ≤ a11.toInt) (e69 : a11.toInt < 16) (hg70 : g0 a11.toInt.toNat = Value.ref h12) (hg71 : (a2 + (3 : Int32)) = a12) (e72 : 0 ≤ a12.toInt) (e73 : a12.toInt < 16) (hg74 : g0 a12.toInt.toNat = Value.ref h13) (e75 : 19 ≠ h12) (e76 : 22 ≠ h12) (e77 : 20 ≠ h12) (hw78 : w[h12]? = some (Sum.inr (2, [Value.int 64, Value.int 0, Value.int 0, Value.int 0, Value.ref h14]))) (e79 : 19 ≠ h13) (e80 : 22 ≠ h13) (e81 : 20 ≠ h13) (hw82 : w[h13]? = some (Sum.inr (2, [Value.int 64, Value.int 0, Value.int 0, Value.int 0, Value.ref h15]))) (e83 : 4 < a3.toInt) (hg84 : (a1 + (4 : Int32)) = a13) (e85 : 0 ≤ a13.toInt) (e86 : a13.toInt < 16) (hg87 : g0 a13.toInt.toNat = Value.ref h16) (hg88 : (a2 + (4 : Int32)) = a14) (e89 : 0 ≤ a14.toInt) (e90 : a14.toInt < 16) (hg91 : g0 a14.toInt.toNat = Value.ref h17) (e92 : 19 ≠ h16) (e93 : 22 ≠ h16) (e94 : 20 ≠ h16) (hw95 : w[h16]? = some (Sum.inr (2, [Value.int 64, Value.int 0, Value.int 0, Value.int 0, Value.ref h18]))) (e96 : 19 ≠ h17) (e97 : 22 ≠ h17) (e98 : 20 ≠ h17) (hw99 : w[h17]? = some (Sum.inr (2, [Value.int 64, Value.int 0, Value.int 0, Value.int 0, Value.ref h19]))) (e100 : 5 < a3.toInt) (hg101 : (a1 + (5 : Int32)) = a15) (e102 : 0 ≤ a15.toInt) (e103 : a15.toInt < 16) (hg104 : g0 a15.toInt.toNat = Value.ref h20) (hg105 : (a2 + (5 : Int32)) = a16) (e106 : 0 ≤ a16.toInt) (e107 : a16.toInt < 16) (hg108 : g0 a16.toInt.toNat = Value.ref h21) (e109 : 19 ≠ h20) (e110 : 22 ≠ h20) (e111 : 20 ≠ h20) (hw112 : w[h20]? = some (Sum.inr (2, [Value.int 64, Value.int 0, Value.int 0, Value.int 0, Value.ref h22]))) (e113 : 19 ≠ h21) (e114 : 22 ≠ h21) (e115 : 20 ≠ h21) (hw116 : w[h21]? = some (Sum.inr (2, [Value.int 64, Value.int 0, Value.int 0, Value.int 0, Value.ref h23]))) (e117 : 6 < a3.toInt) (hg118 : (a1 + (6 : Int32)) = a17) (e119 : 0 ≤ a17.toInt) (e120 : a17.toInt < 16) (hg121 : g0 a17.toInt.toNat = Value.ref h24) (hg122 : (a2 + (6 : Int32)) = a18) (e123 : 0 ≤ a18.toInt) (e124 : a18.toInt < 16) (hg125 : g0 a18.toInt.toNat = Value.ref h25) (e126 : 19 ≠ h24) (e127 : 22 ≠ h24) (e128 : 20 ≠ h24) (hw129 : w[h24]? = some (Sum.inr (2, [Value.int 64, Value.int 0, Value.int 0, Value.int 0, Value.ref h26]))) (e130 : 19 ≠ h25) (e131 : 22 ≠ h25) (e132 : 20 ≠ h25) (hw133 : w[h25]? = some (Sum.inr (2, [Value.int 64, Value.int 0, Value.int 0, Value.int 0, Value.ref h27]))) (e134 : 7 < a3.toInt) (hg135 : (a1 + (7 : Int32)) = a19) (e136 : 0 ≤ a19.toInt) (e137 : a19.toInt < 16) (hg138 : g0 a19.toInt.toNat = Value.ref h28) (hg139 : (a2 + (7 : Int32)) = a20) (e140 : 0 ≤ a20.toInt) (e141 : a20.toInt < 16) (hg142 : g0 a20.toInt.toNat = Value.ref h29) (e143 : 19 ≠ h28) (e144 : 22 ≠ h28) (e145 : 20 ≠ h28) (hw146 : w[h28]? = some (Sum.inr (2, [Value.int 64, Value.int 0, Value.int 0, Value.int 0, Value.ref h30]))) (e147 : 19 ≠ h29) (e148 : 22 ≠ h29) (e149 : 20 ≠ h29) (hw150 : w[h29]? = some (Sum.inr (2, [Value.int 64, Value.int 0, Value.int 0, Value.int 0, Value.ref h31]))) (e151 : 8 < a3.toInt) (hg152 : (a1 + (8 : Int32)) = a21) (e153 : 0 ≤ a21.toInt) (e154 : a21.toInt < 16) (hg155 : g0 a21.toInt.toNat = Value.ref h32) (hg156 : (a2 + (8 : Int32)) = a22) (e157 : 0 ≤ a22.toInt) (e158 : a22.toInt < 16) (hg159 : g0 a22.toInt.toNat = Value.ref h33) (e160 : 19 ≠ h32) (e161 : 22 ≠ h32) (e162 : 20 ≠ h32) (hw163 : w[h32]? = some (Sum.inr (2, [Value.int 64, Value.int 0, Value.int 0, Value.int 0, Value.ref h34]))) (e164 : 19 ≠ h33) (e165 : 22 ≠ h33) (e166 : 20 ≠ h33) (hw167 : w[h33]? = some (Sum.inr (2, [Value.int 64, Value.int 0, Value.int 0, Value.int 0, Value.ref h35]))) (e168 : 9 < a3.toInt) (hg169 : (a1 + (9 : Int32)) = a23) (e170 : 0 ≤ a23.toInt) (e171 : a23.toInt < 16) (hg172 : g0 a23.toInt.toNat = Value.ref h36) (hg173 : (a2 + (9 : Int32)) = a24) (e174 : 0 ≤ a24.toInt) (e175 : a24.toInt < 16) (hg176 : g0 a24.toInt.toNat = Value.ref h37) (e177 : 19 ≠ h36) (e178 : 22 ≠ h36) (e179 : 20 ≠ h36) (hw180 : w[h36]? = some (Sum.inr (2, [Value.int 64, Value.int 0, Value.int 0, Value.int 0, Value.ref h38]))) (e181 : 19 ≠ h37) (e182 : 22 ≠ h37) (e183 : 20 ≠ h37) (hw184 : w[h37]? = some (Sum.inr (2, [Value.int 64, Value.int 0, Value.int 0, Value.int 0, Value.ref h39]))) (e185 : 10 < a3.toInt) (hg186 : (a1 + (10 : Int32)) = a25) (e187 : 0 ≤ a25.toInt) (e188 : a25.toInt < 16) (hg189 : g0 a25.toInt.toNat = Value.ref h40) (hg190 : (a2 + (10 : Int32)) = a26) (e191 : 0 ≤ a26.toInt) (e192 : a26.toInt < 16) (hg193 : g0 a26.toInt.toNat = Value.ref h41) (e194 : 19 ≠ h40) (e195 : 22 ≠ h40) (e196 : 20 ≠ h40) (hw197 : w[h40]? = some (Sum.inr (2, [Value.int 64, Value.int 0, Value.int 0, Value.int 0, Value.ref h42]))) (e198 : 19 ≠ h41) (e199 : 22 ≠ h41) (e200 : 20 ≠ h41) (hw201 : w[h41]? = some (Sum.inr (2, [Value.int 64, Value.int 0, Value.int 0, Value.int 0, Value.ref h43]))) (e202 : 11 < a3.toInt) (hg203 : (a1 + (11 : Int32)) = a27) (e204 : 0 ≤ a27.toInt) (e205 : a27.toInt < 16) (hg206 : g0 a27.toInt.toNat = Value.ref h44) (hg207 : (a2 + (11 : Int32)) = a28) (e208 : 0 ≤ a28.toInt) (e209 : a28.toInt < 16) (hg210 : g0 a28.toInt.toNat = Value.ref h45) (e211 : 19 ≠ h44) (e212 : 22 ≠ h44) (e213 : 20 ≠ h44) (hw214 : w[h44]? = some (Sum.inr (2, [Value.int 64, Value.int 0, Value.int 0, Value.int 0, Value.ref h46]))) (e215 : 19 ≠ h45) (e216 : 22 ≠ h45) (e217 : 20 ≠ h45) (hw218 : w[h45]? = some (Sum.inr (2, [Value.int 64, Value.int 0, Value.int 0, Value.int 0, Value.ref h47]))) (e219 : 12 < a3.toInt) (hg220 : (a1 + (12 : Int32)) = a29) (e221 : 0 ≤ a29.toInt) (e222 : a29.toInt < 16) (hg223 : g0 a29.toInt.toNat = Value.ref h48) (hg224 : (a2 + (12 : Int32)) = a30) (e225 : 0 ≤ a30.toInt) (e226 : a30.toInt < 16) (hg227 : g0 a30.toInt.toNat = Value.ref h49) (e228 : 19 ≠ h48) (e229 : 22 ≠ h48) (e230 : 20 ≠ h48) (hw231 : w[h48]? = some (Sum.inr (2, [Value.int 64, Value.int 0, Value.int 0, Value.int 0, Value.ref h50]))) (e232 : 19 ≠ h49) (e233 : 22 ≠ h49) (e234 : 20 ≠ h49) (hw235 : w[h49]? = some (Sum.inr (2, [Value.int 64, Value.int 0, Value.int 0, Value.int 0, Value.ref h51]))) (e236 : 13 < a3.toInt) (hg237 : (a1 + (13 : Int32)) = a31) (e238 : 0 ≤ a31.toInt) (e239 : a31.toInt < 16) (hg240 : g0 a31.toInt.toNat = Value.ref h52) (hg241 : (a2 + (13 : Int32)) = a32) (e242 : 0 ≤ a32.toInt) (e243 : a32.toInt < 16) (hg244 : g0 a32.toInt.toNat = Value.ref h53) (e245 : 19 ≠ h52) (e246 : 22 ≠ h52) (e247 : 20 ≠ h52) (hw248 : w[h52]? = some (Sum.inr (2, [Value.int 64, Value.int 0, Value.int 0, Value.int 0, Value.ref h54]))) (e249 : 19 ≠ h53) (e250 : 22 ≠ h53) (e251 : 20 ≠ h53) (hw252 : w[h53]? = some (Sum.inr (2, [Value.int 64, Value.int 0, Value.int 0, Value.int 0, Value.ref h55]))) (e253 : 14 < a3.toInt) (hg254 : (a1 + (14 : Int32)) = a33) (e255 : 0 ≤ a33.toInt) (e256 : a33.toInt < 16) (hg257 : g0 a33.toInt.toNat = Value.ref h56) (hg258 : (a2 + (14 : Int32)) = a34) (e259 : 0 ≤ a34.toInt) (e260 : a34.toInt < 16) (hg261 : g0 a34.toInt.toNat = Value.ref h57) (e262 : 19 ≠ h56) (e263 : 22 ≠ h56) (e264 : 20 ≠ h56) (hw265 : w[h56]? = some (Sum.inr (2, [Value.int 64, Value.int 0, Value.int 0, Value.int 0, Value.ref h58]))) (e266 : 19 ≠ h57) (e267 : 22 ≠ h57) (e268 : 20 ≠ h57) (hw269 : w[h57]? = some (Sum.inr (2, [Value.int 64, Value.int 0, Value.int 0, Value.int 0, Value.ref h59]))) (e270 : 15 < a3.toInt) (hg271 : (a1 + (15 : Int32)) = a35) (e272 : 0 ≤ a35.toInt) (e273 : a35.toInt < 16) (hg274 : g0 a35.toInt.toNat = Value.ref h60) (hg275 : (a2 + (15 : Int32)) = a36) (e276 : 0 ≤ a36.toInt) (e277 : a36.toInt < 16) (hg278 : g0 a36.toInt.toNat = Value.ref h61) (e279 : 19 ≠ h60) (e280 : 22 ≠ h60) (e281 : 20 ≠ h60) (hw282 : w[h60]? = some (Sum.inr (2, [Value.int 64, Value.int 0, Value.int 0, Value.int 0, Value.ref h62]))) (e283 : 19 ≠ h61) (e284 : 22 ≠ h61) (e285 : 20 ≠ h61) (hw286 : w[h61]? = some (Sum.inr (2, [Value.int 64, Value.int 0, Value.int 0, Value.int 0, Value.ref h63]))) (hg287 : g0 a0.toInt.toNat = Value.ref h64) (e288 : 19 ≠ h64) (e289 : 22 ≠ h64) (e290 : 20 ≠ h64) (hw291 : w[h64]? = some (Sum.inr (2, [Value.int 64, Value.int 0, Value.int 0, Value.int 0, Value.ref h65]))) (e292 : 7 ≤ h64) (e293 : h64 ≠ 194) (hw294 : w[194]? = some (Sum.inl (3, 1, fun _ => Value.long 0))) : xRun (d + 4) 114 [Value.ref 7, Value.int a0, Value.int a1, Value.int a2, Value.int a3, Value.int a4, Value.ref 194] w (.inl (some (Value.int 0))) (((((((((((((((((((((w.set 20 (Sum.inr (3, [Value.ref 21, Value.int 0]))).set 22 (Sum.inr (3, [Value.ref 23, Value.int 0]))).set 19 (Sum.inr (5, [Value.ref 20, Value.ref 22, Value.ref 24, Value.ref 26, Value.int 0, Value.int 0, Value.int 0, Value.int 0, Value.int 0, Value.int 0, Value.int 0, Value.int 0]))).set 19 (Sum.inr (5, [Value.ref 20, Value.ref 22, Value.ref 24, Value.ref 26, Value.int 0, Value.int 1, Value.int 0, Value.int 0, Value.int 0, Value.int 0, Value.int 0, Value.int 0]))).set 19 (Sum.inr (5, [Value.ref 20, Value.ref 22, Value.ref 24, Value.ref 26, Value.int 0, Value.int 1, Value.int 0, Value.int 0, Value.int 0, Value.int 0, Value.int 0, Value.int 0]))).set 19 (Sum.inr (5, [Value.ref 20, Value.ref 22, Value.ref 24, Value.ref 26, Value.int 0, Value.int 1, Value.int 0, Value.int 0, Value.int 0, Value.int 0, Value.int 0, Value.int 0]))).set 19 (Sum.inr (5, [Value.ref 20, Value.ref 22, Value.ref 24, Value.ref 26, Value.int 0, Value.int 1, Value.int 0, Value.int 0, Value.int 0, Value.int 0, Value.int 0, Value.int 0]))).set 19 (Sum.inr (5, [Value.ref 20, Value.ref 22, Value.ref 24, Value.ref 26, Value.int 0, Value.int 1, Value.int 0, Value.int 0, Value.int 0, Value.int 0, Value.int 0, Value.int 0]))).set 19 (Sum.inr (5, [Value.ref 20, Value.ref 22, Value.ref 24, Value.ref 26, Value.int 0, Value.int 1, Value.int 0, Value.int 0, Value.int 0, Value.int 0, Value.int 0, Value.int 0]))).set 19 (Sum.inr (5, [Value.ref 20, Value.ref 22, Value.ref 24, Value.ref 26, Value.int 0, Value.int 1, Value.int 0, Value.int 0, Value.int 0, Value.int 0, Value.int 0, Value.int 0]))).set 19 (Sum.inr (5, [Value.ref 20, Value.ref 22, Value.ref 24, Value.ref 26, Value.int 0, Value.int 1, Value.int 0, Value.int 0, Value.int 0, Value.int 0, Value.int 0, Value.int 0]))).set 19 (Sum.inr (5, [Value.ref 20, Value.ref 22, Value.ref 24, Value.ref 26, Value.int 0, Value.int 1, Value.int 0, Value.int 0, Value.int 0, Value.int 0, Value.int 0, Value.int 0]))).set 19 (Sum.inr (5, [Value.ref 20, Value.ref 22, Value.ref 24, Value.ref 26, Value.int 0, Value.int 1, Value.int 0, Value.int 0, Value.int 0, Value.int 0, Value.int 0, Value.int 0]))).set 19 (Sum.inr (5, [Value.ref 20, Value.ref 22, Value.ref 24, Value.ref 26, Value.int 0, Value.int 1, Value.int 0, Value.int 0, Value.int 0, Value.int 0, Value.int 0, Value.int 0]))).set 19 (Sum.inr (5, [Value.ref 20, Value.ref 22, Value.ref 24, Value.ref 26, Value.int 0, Value.int 1, Value.int 0, Value.int 0, Value.int 0, Value.int 0, Value.int 0, Value.int 0]))).set 19 (Sum.inr (5, [Value.ref 20, Value.ref 22, Value.ref 24, Value.ref 26, Value.int 0, Value.int 1, Value.int 0, Value.int 0, Value.int 0, Value.int 0, Value.int 0, Value.int 0]))).set 19 (Sum.inr (5, [Value.ref 20, Value.ref 22, Value.ref 24, Value.ref 26, Value.int 0, Value.int 1, Value.int 0, Value.int 0, Value.int 0, Value.int 0, Value.int 0, Value.int 0]))).set 19 (Sum.inr (5, [Value.ref 20, Value.ref 22, Value.ref 24, Value.ref 26, Value.int 0, Value.int 1, Value.int 0, Value.int 0, Value.int 0, Value.int 0, Value.int 0, Value.int 0]))).set 19 (Sum.inr (5, [Value.ref 20, Value.ref 22, Value.ref 24, Value.ref 26, Value.int 0, Value.int 1, Value.int 0, Value.int 0, Value.int 0, Value.int 0, Value.int 0, Value.int 0]))).set h64 (Sum.inr (2, [Value.int 64, Value.int 0, Value.int 0, Value.int 0, Value.ref h65]))).set 194 (Sum.inl (3, 1, xup (fun _ => Value.long 0) (0 : Int32).toInt.toNat (Value.long 0)))) := by
  refine xRun.of ?_
  refine i_114_0 (x := 194) rfl ?_
  refine i_114_2 ?_
  refine i_114_3 (x := 7) rfl ?_
  refine i_114_4 (x := a0) rfl ?_
  refine i_114_5 (x := a1) rfl ?_
  refine i_114_6 (x := a2) rfl ?_
  refine i_114_7 (x := a3) rfl ?_
  refine i_114_9 (x := a4) rfl ?_
  refine i_114_11 hw0 (Nat.le_of_ble_eq_true rfl) (p_115_9 e1 e2 e3 e4 e5 e6 hg7 e8 e9 e10 hg11 e12 e13 e14 hw0 hw15 hw16 hw17 e18 hg19 hw20 hg21 hg22 hg23 e24 e25 e26 hw27 e28 e29 e30 hw31 e32 hg33 e34 e35 hg36 hg37 e38 e39 hg40 e41 e42 e43 hw44 e45 e46 e47 hw48 e49 hg50 e51 e52 hg53 hg54 e55 e56 hg57 e58 e59 e60 hw61 e62 e63 e64 hw65 e66 hg67 e68 e69 hg70 hg71 e72 e73 hg74 e75 e76 e77 hw78 e79 e80 e81 hw82 e83 hg84 e85 e86 hg87 hg88 e89 e90 hg91 e92 e93 e94 hw95 e96 e97 e98 hw99 e100 hg101 e102 e103 hg104 hg105 e106 e107 hg108 e109 e110 e111 hw112 e113 e114 e115 hw116 e117 hg118 e119 e120 hg121 hg122 e123 e124 hg125 e126 e127 e128 hw129 e130 e131 e132 hw133 e134 hg135 e136 e137 hg138 hg139 e140 e141 hg142 e143 e144 e145 hw146 e147 e148 e149 hw150 e151 hg152 e153 e154 hg155 hg156 e157 e158 hg159 e160 e161 e162 hw163 e164 e165 e166 hw167 e168 hg169 e170 e171 hg172 hg173 e174 e175 hg176 e177 e178 e179 hw180 e181 e182 e183 hw184 e185 hg186 e187 e188 hg189 hg190 e191 e192 hg193 e194 e195 e196 hw197 e198 e199 e200 hw201 e202 hg203 e204 e205 hg206 hg207 e208 e209 hg210 e211 e212 e213 hw214 e215 e216 e217 hw218 e219 hg220 e221 e222 hg223 hg224 e225 e226 hg227 e228 e229 e230 hw231 e232 e233 e234 hw235 e236 hg237 e238 e239 hg240 hg241 e242 e243 hg244 e245 e246 e247 hw248 e249 e250 e251 hw252 e253 hg254 e255 e256 hg257 hg258 e259 e260 hg261 e262 e263 e264 hw265 e266 e267 e268 hw269 e270 hg271 e272 e273 hg274 hg275 e276 e277 hg278 e279 e280 e281 hw282 e283 e284 e285 hw286 hg287 e288 e289 e290 hw291 e292) ?_
  refine i_114_14 (c := 0) (by decide) ?_
  refine i_114_15 (v := Value.long 0) (xgn e293 (xgn (by decide) (xgn (by decide) (xgn (by decide) (xgn (by decide) (xgn (by decide) (xgn (by decide) (xgn (by decide) (xgn (by decide) (xgn (by decide) (xgn (by decide) (xgn (by decide) (xgn (by decide) (xgn (by decide) (xgn (by decide) (xgn (by decide) (xgn (by decide) (xgn (by decide) (xgn (by decide) (xgn (by decide) hw294)))))))))))))))))))) (by decide) (by decide) (by decide) rfl ?_
  refine i_114_16 ?_
  refine i_114_23 ?_
  exact i_114_24 ⟨rfl, rfl⟩
theorem p_196_0 {d : Nat} {w : xW} {a0 : Int32} {g0 : Nat → Value} (hw0 : w[128]? = some (Sum.inr (12, [Value.ref 129, Value.ref 131, Value.ref 133, Value.ref 135, Value.ref 137, Value.ref 139, Value.ref 141, Value.ref 143, Value.ref 145, Value.ref 147, Value.ref 149, Value.ref 151, Value.ref 153, Value.ref 154, Value.ref 155, Value.ref 156, Value.ref 157, Value.int (-16384), Value.int 16384, Value.int 0, Value.int 0, Value.int 0, Value.ref 158, Value.ref 159, Value.int 0, Value.int 0, Value.int 0, Value.int 0, Value.int 0, Value.int 0, Value.int 0, Value.int 0]))) (hw1 : w[155]? = some (Sum.inl (0, 17, fun _ => Value.int 0))) (e2 : 0 ≤ a0.toInt) (e3 : a0.toInt < 17) (hw4 : w[153]? = some (Sum.inl (0, 17, g0))) (hg5 : g0 a0.toInt.toNat = Value.int 64) : xRun d 196 [Value.ref 128, Value.int a0] w (.inl (some (Value.int (-64)))) w := by
  refine xRun.of ?_
  refine i_196_0 (x := 128) rfl ?_
  refine i_196_1 (v := Value.ref 155) hw0 rfl ?_
  refine i_196_4 (x := a0) rfl ?_
  refine i_196_5 (v := Value.int 0) hw1 e2 e3 rfl ?_
  refine i_196_6 (x := 128) rfl ?_
  refine i_196_7 (v := Value.ref 153) hw0 rfl ?_
  refine i_196_10 (x := a0) rfl ?_
  refine i_196_11 (v := Value.int 64) hw4 e2 e3 hg5 ?_
  refine i_196_12 (c := (-64)) (by decide) ?_
  exact i_196_13 ⟨rfl, rfl⟩
theorem p_272_0 {d : Nat} {w : xW} : xRun d 272 [Value.int 2147483647, Value.int (-128)] w (.inl (some (Value.int (-128)))) w := by
  refine xRun.of ?_
  refine i_272_0 (x := 2147483647) rfl ?_
  refine i_272_1 (x := (-128)) rfl ?_
  refine i_272_2 (fun _ => ?_) (fun h => absurd h (by decide))
  refine i_272_9 (x := (-128)) rfl ?_
  exact i_272_10 ⟨rfl, rfl⟩
theorem p_272_1 {d : Nat} {w : xW} : xRun d 272 [Value.int (-128), Value.int (-128)] w (.inl (some (Value.int (-128)))) w := by
  refine xRun.of ?_
  refine i_272_0 (x := (-128)) rfl ?_
  refine i_272_1 (x := (-128)) rfl ?_
  refine i_272_2 (fun h => absurd h (by decide)) (fun _ => ?_)
  refine i_272_5 (x := (-128)) rfl ?_
  refine i_272_6 ?_
  exact i_272_10 ⟨rfl, rfl⟩
