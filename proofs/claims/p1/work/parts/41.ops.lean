theorem p_117_0 {d : Nat} {w : xW} {a0 : Int32} (e0 : a0.toInt < 0) : xRun (d + 6) 117 [Value.ref 7, Value.int a0, Value.int 0] w (.inr w.length) (w ++ [Sum.inr (14, [])]) := by
  refine xRun.of ?_
  refine i_117_0 (x := a0) rfl ?_
  refine i_117_1 (Nat.le_of_ble_eq_true rfl) (p_15_0 e0) ?_
  refine i_117_4 (fun h => absurd h (by decide)) (fun _ => ?_)
  exact i_117_7 (by omega) (Nat.le_of_ble_eq_true rfl) ⟨rfl, rfl⟩
theorem p_116_0 {d : Nat} {w : xW} {a0 : Int32} (hw0 : w[7]? = some (Sum.inr (0, [Value.ref 8, Value.ref 78, Value.ref 9, Value.ref 10, Value.ref 13, Value.ref 16, Value.ref 19, Value.ref 93, Value.ref 108, Value.ref 113, Value.ref 29, Value.int 0]))) (e1 : a0.toInt < 0) : xRun (d + 7) 116 [Value.ref 7, Value.int a0, Value.int 0, Value.ref 194] w (.inl (some (Value.int 1))) (w ++ [Sum.inr (14, [])]) := by
  refine xRun.of ?_
  refine i_116_0 (x := 194) rfl ?_
  refine i_116_1 ?_
  refine i_116_2 (x := 7) rfl ?_
  refine i_116_3 (x := a0) rfl ?_
  refine i_116_4 (x := 0) rfl ?_
  refine j_116_5 hw0 (Nat.le_of_ble_eq_true rfl) (p_117_0 e1) (xDone.c xgl rfl rfl ?_)
  refine i_116_13 (lv2 := [(4, Value.ref w.length), (0, Value.ref 7), (1, Value.int a0), (2, Value.int 0), (3, Value.ref 194)]) rfl ?_
  refine i_116_15 ?_
  exact i_116_16 ⟨rfl, rfl⟩
theorem p_233_0 {d : Nat} {w : xW} {a0 : Int32} (e0 : a0.toInt < 0) : xRun (d + 8) 233 [Value.ref 128, Value.int a0, Value.int 0] w (.inr w.length) (w ++ [Sum.inr (14, [])]) := by
  refine xRun.of ?_
  refine i_233_0 (x := a0) rfl ?_
  exact j_233_1 (Nat.le_of_ble_eq_true rfl) (p_168_0 e0) (xDone.t xgl rfl rfl ⟨rfl, rfl⟩)
theorem p_232_0 {d : Nat} {w : xW} {a0 : Int32} (hw0 : w[128]? = some (Sum.inr (12, [Value.ref 129, Value.ref 131, Value.ref 133, Value.ref 135, Value.ref 137, Value.ref 139, Value.ref 141, Value.ref 143, Value.ref 145, Value.ref 147, Value.ref 149, Value.ref 151, Value.ref 153, Value.ref 154, Value.ref 155, Value.ref 156, Value.ref 157, Value.int (-16384), Value.int 16384, Value.int 0, Value.int 0, Value.int 0, Value.ref 158, Value.ref 159, Value.int 0, Value.int 0, Value.int 0, Value.int 0, Value.int 0, Value.int 0, Value.int 0, Value.int 0]))) (e1 : a0.toInt < 0) : xRun (d + 9) 232 [Value.ref 128, Value.int a0, Value.int 0] w (.inl (some (Value.int 0))) (((w.set 128 (Sum.inr (12, [Value.ref 129, Value.ref 131, Value.ref 133, Value.ref 135, Value.ref 137, Value.ref 139, Value.ref 141, Value.ref 143, Value.ref 145, Value.ref 147, Value.ref 149, Value.ref 151, Value.ref 153, Value.ref 154, Value.ref 155, Value.ref 156, Value.ref 157, Value.int (-16384), Value.int 16384, Value.int 0, Value.int 0, Value.int 0, Value.ref 158, Value.ref 159, Value.int 0, Value.int 0, Value.int 0, Value.int 0, Value.int 0, Value.int 0, Value.int 0, Value.int 0]))) ++ [Sum.inr (14, [])]).set 128 (Sum.inr (12, [Value.ref 129, Value.ref 131, Value.ref 133, Value.ref 135, Value.ref 137, Value.ref 139, Value.ref 141, Value.ref 143, Value.ref 145, Value.ref 147, Value.ref 149, Value.ref 151, Value.ref 153, Value.ref 154, Value.ref 155, Value.ref 156, Value.ref 157, Value.int (-16384), Value.int 16384, Value.int 0, Value.int 0, Value.int 0, Value.ref 158, Value.ref 159, Value.int 0, Value.int 0, Value.int 0, Value.int 0, Value.int 0, Value.int 0, Value.int 0, Value.int 1]))) := by
  refine xRun.of ?_
  refine i_232_0 (x := 128) rfl ?_
  refine i_232_1 ?_
  refine i_232_2 (fs2 := [Value.ref 129, Value.ref 131, Value.ref 133, Value.ref 135, Value.ref 137, Value.ref 139, Value.ref 141, Value.ref 143, Value.ref 145, Value.ref 147, Value.ref 149, Value.ref 151, Value.ref 153, Value.ref 154, Value.ref 155, Value.ref 156, Value.ref 157, Value.int (-16384), Value.int 16384, Value.int 0, Value.int 0, Value.int 0, Value.ref 158, Value.ref 159, Value.int 0, Value.int 0, Value.int 0, Value.int 0, Value.int 0, Value.int 0, Value.int 0, Value.int 0]) hw0 (Nat.le_of_ble_eq_true rfl) rfl (by decide) ?_
  refine i_232_5 (x := 128) rfl ?_
  refine i_232_6 (x := a0) rfl ?_
  refine i_232_7 (x := 0) rfl ?_
  refine j_232_8 (xgs hw0) (Nat.le_of_ble_eq_true rfl) (p_233_0 e1) (xDone.c xgl rfl rfl ?_)
  refine i_232_12 (lv2 := [(3, Value.ref ((w.set 128 (Sum.inr (12, [Value.ref 129, Value.ref 131, Value.ref 133, Value.ref 135, Value.ref 137, Value.ref 139, Value.ref 141, Value.ref 143, Value.ref 145, Value.ref 147, Value.ref 149, Value.ref 151, Value.ref 153, Value.ref 154, Value.ref 155, Value.ref 156, Value.ref 157, Value.int (-16384), Value.int 16384, Value.int 0, Value.int 0, Value.int 0, Value.ref 158, Value.ref 159, Value.int 0, Value.int 0, Value.int 0, Value.int 0, Value.int 0, Value.int 0, Value.int 0, Value.int 0]))).length)), (0, Value.ref 128), (1, Value.int a0), (2, Value.int 0)]) rfl ?_
  refine i_232_13 (x := 128) rfl ?_
  refine i_232_14 ?_
  refine i_232_15 (fs2 := [Value.ref 129, Value.ref 131, Value.ref 133, Value.ref 135, Value.ref 137, Value.ref 139, Value.ref 141, Value.ref 143, Value.ref 145, Value.ref 147, Value.ref 149, Value.ref 151, Value.ref 153, Value.ref 154, Value.ref 155, Value.ref 156, Value.ref 157, Value.int (-16384), Value.int 16384, Value.int 0, Value.int 0, Value.int 0, Value.ref 158, Value.ref 159, Value.int 0, Value.int 0, Value.int 0, Value.int 0, Value.int 0, Value.int 0, Value.int 0, Value.int 1]) (xga (xgs hw0)) (Nat.le_of_ble_eq_true rfl) rfl (by decide) ?_
  refine i_232_18 ?_
  exact i_232_19 ⟨rfl, rfl⟩
theorem o_12_0 {d : Nat} {xs : Nat → Int32} (h0 : ((xs 0) &&& (31 : Int32)).toInt = 12) (c0 : (xs 2).toInt = 0) (c1 : (xs 1).toInt < 0) : ∃ w1, xEv (d + 20) 287 23 [(4, Value.int 0), (3, Value.ref 194), (2, Value.ref 128), (1, Value.ref 7), (0, Value.ref 0)] [] (W0 6 xs) (fun o' w' => o' = .inl (some (Value.int 1)) ∧ w' = w1) ∧ w1.length ≤ 220 ∧ xsz w1 ≤ 200000 := by
  refine ⟨(((((W0 6 xs) ++ [Sum.inr (14, [])]).set 128 (Sum.inr (12, [Value.ref 129, Value.ref 131, Value.ref 133, Value.ref 135, Value.ref 137, Value.ref 139, Value.ref 141, Value.ref 143, Value.ref 145, Value.ref 147, Value.ref 149, Value.ref 151, Value.ref 153, Value.ref 154, Value.ref 155, Value.ref 156, Value.ref 157, Value.int (-16384), Value.int 16384, Value.int 0, Value.int 0, Value.int 0, Value.ref 158, Value.ref 159, Value.int 0, Value.int 0, Value.int 0, Value.int 0, Value.int 0, Value.int 0, Value.int 0, Value.int 0]))) ++ [Sum.inr (14, [])]).set 128 (Sum.inr (12, [Value.ref 129, Value.ref 131, Value.ref 133, Value.ref 135, Value.ref 137, Value.ref 139, Value.ref 141, Value.ref 143, Value.ref 145, Value.ref 147, Value.ref 149, Value.ref 151, Value.ref 153, Value.ref 154, Value.ref 155, Value.ref 156, Value.ref 157, Value.int (-16384), Value.int 16384, Value.int 0, Value.int 0, Value.int 0, Value.ref 158, Value.ref 159, Value.int 0, Value.int 0, Value.int 0, Value.int 0, Value.int 0, Value.int 0, Value.int 0, Value.int 1]))), ?_, (show xLs _ 220 200000 from ?_)⟩
  · refine i_287_23 (x := 0) rfl ?_
    refine i_287_25 (x := 0) rfl ?_
    refine i_287_26 (c := 6) W0_0 (by decide) ?_
    refine i_287_27 ?_
    refine i_287_29 (c := 0) (by decide) ?_
    refine i_287_30 (fun h => absurd h (by decide)) (fun _ => ?_)
    refine i_287_33 (x := 0) rfl ?_
    refine i_287_34 (x := 0) rfl ?_
    refine i_287_36 (v := Value.int (xs 0)) W0_0 (by decide) (by decide) rfl ?_
    refine i_287_37 ?_
    refine i_287_39 (c := ((xs 0) &&& (31 : Int32))) rfl ?_
    refine i_287_40_12 (by omega) ?_
    refine i_287_1253 (x := 7) rfl ?_
    refine i_287_1254 (x := 0) rfl ?_
    refine i_287_1255 (x := 0) rfl ?_
    refine i_287_1257 ?_
    refine i_287_1258 (c := 1) (by decide) ?_
    refine i_287_1259 (v := Value.int (xs 1)) W0_0 (by decide) (by decide) rfl ?_
    refine i_287_1260 (x := 0) rfl ?_
    refine i_287_1261 (x := 0) rfl ?_
    refine i_287_1263 ?_
    refine i_287_1264 (c := 2) (by decide) ?_
    refine i_287_1265 (v := Value.int (xs 2)) W0_0 (by decide) (by decide) rfl ?_
    refine i_287_1266 (fun _ => ?_) (fun h => absurd (show (xs 2).toInt = 0 by omega) h)
    refine i_287_1273 ?_
    refine i_287_1274 (x := 194) rfl ?_
    refine i_287_1275 (Nat.le_of_ble_eq_true rfl) (p_116_0 W0_7 (by omega)) ?_
    refine i_287_1278 (lv2 := [(5, Value.int 1), (4, Value.int 0), (3, Value.ref 194), (2, Value.ref 128), (1, Value.ref 7), (0, Value.ref 0)]) rfl ?_
    refine i_287_1280 (x := 128) rfl ?_
    refine i_287_1281 (x := 0) rfl ?_
    refine i_287_1282 (x := 0) rfl ?_
    refine i_287_1284 ?_
    refine i_287_1285 (c := 1) (by decide) ?_
    refine i_287_1286 (v := Value.int (xs 1)) (xga W0_0) (by decide) (by decide) rfl ?_
    refine i_287_1287 (x := 0) rfl ?_
    refine i_287_1288 (x := 0) rfl ?_
    refine i_287_1290 ?_
    refine i_287_1291 (c := 2) (by decide) ?_
    refine i_287_1292 (v := Value.int (xs 2)) (xga W0_0) (by decide) (by decide) rfl ?_
    refine i_287_1293 (fun _ => ?_) (fun h => absurd (show (xs 2).toInt = 0 by omega) h)
    refine i_287_1300 ?_
    refine i_287_1301 (xga W0_128) (Nat.le_of_ble_eq_true rfl) (p_232_0 (xga W0_128) (by omega)) ?_
    refine i_287_1304 (lv2 := [(6, Value.int 0), (5, Value.int 1), (4, Value.int 0), (3, Value.ref 194), (2, Value.ref 128), (1, Value.ref 7), (0, Value.ref 0)]) rfl ?_
    refine i_287_1306 (x := 128) rfl ?_
    refine i_287_1307 (xgs (xga (xgs (xga W0_128)))) (Nat.le_of_ble_eq_true rfl) (p_165_0 (xgs (xga (xgs (xga W0_128))))) ?_
    refine i_287_1310 (x := 1) rfl ?_
    refine i_287_1312 (fun _ => ?_) (fun h => absurd h (by decide))
    refine i_287_1317 (x := 1) rfl ?_
    refine i_287_1319 (fun _ => ?_) (fun h => absurd h (by decide))
    refine i_287_1334 ?_
    refine i_287_2154 (x := 0) (c := 6) (lv2 := [(4, Value.int 6), (6, Value.int 0), (5, Value.int 1), (3, Value.ref 194), (2, Value.ref 128), (1, Value.ref 7), (0, Value.ref 0)]) rfl (by decide) rfl ?_
    refine i_287_2157 ?_
    refine i_287_23 (x := 6) rfl ?_
    refine i_287_25 (x := 0) rfl ?_
    refine i_287_26 (c := 6) (xgn (by decide) (xga (xgn (by decide) (xga W0_0)))) (by decide) ?_
    refine i_287_27 ?_
    refine i_287_29 (c := 0) (by decide) ?_
    refine i_287_30 (fun _ => ?_) (fun h => absurd h (by decide))
    refine i_287_2160 ?_
    exact i_287_2161 rfl ⟨rfl, rfl⟩
  · refine xLs.set ?_ (xga (xgs (xga W0_128))) xcs_o
    refine xLs.app (n := 219) (z := 199994) (m := 6) ?_ rfl
    refine xLs.set ?_ (xga W0_128) xcs_o
    refine xLs.app (n := 218) (z := 199988) (m := 6) ?_ rfl
    exact ⟨Nat.le_trans (Nat.le_of_eq W0_len) (by decide), Nat.le_trans (Nat.le_of_eq W0_sz) (by decide)⟩
theorem p_117_1 {d : Nat} {w : xW} {a0 : Int32} {g0 : Nat → Value} {h0 : Nat} {h1 : Nat} (e0 : 0 ≤ a0.toInt) (e1 : a0.toInt < 16) (hw2 : w[7]? = some (Sum.inr (0, [Value.ref 8, Value.ref 78, Value.ref 9, Value.ref 10, Value.ref 13, Value.ref 16, Value.ref 19, Value.ref 93, Value.ref 108, Value.ref 113, Value.ref 29, Value.int 0]))) (hw3 : w[8]? = some (Sum.inl (4, 16, g0))) (hg4 : g0 a0.toInt.toNat = Value.ref h0) (hw5 : w[h0]? = some (Sum.inr (2, [Value.int 64, Value.int 0, Value.int 0, Value.int 0, Value.ref h1]))) : xRun (d + 1) 117 [Value.ref 7, Value.int a0, Value.int 0] w (.inl (some (Value.int 0))) w := by
  refine xRun.of ?_
  refine i_117_0 (x := a0) rfl ?_
  refine i_117_1 (Nat.le_of_ble_eq_true rfl) (p_15_1 e0 e1) ?_
  refine i_117_4 (fun _ => ?_) (fun h => absurd h (by decide))
  refine i_117_15 (x := 7) rfl ?_
  refine i_117_16 (v := Value.ref 8) hw2 rfl ?_
  refine i_117_19 (x := a0) rfl ?_
  refine i_117_20 (v := Value.ref h0) hw3 e0 e1 hg4 ?_
  refine i_117_21 (lv2 := [(3, Value.ref h0), (0, Value.ref 7), (1, Value.int a0), (2, Value.int 0)]) rfl ?_
  refine i_117_22 (x := h0) rfl ?_
  refine i_117_23 (v := Value.int 0) hw5 rfl ?_
  refine i_117_26 (x := 0) rfl ?_
  refine i_117_27 (fun _ => ?_) (fun h => absurd h (by decide))
  refine i_117_34 ?_
  refine i_117_35 (lv2 := [(4, Value.int 0), (3, Value.ref h0), (0, Value.ref 7), (1, Value.int a0), (2, Value.int 0)]) rfl ?_
  refine i_117_37 (x := h0) rfl ?_
  refine i_117_38 (v := Value.int 0) hw5 rfl ?_
  refine i_117_41 ?_
  refine i_117_42 (fun _ => ?_) (fun h => absurd h (by decide))
  refine i_117_65 (x := h0) rfl ?_
  refine i_117_66 (v := Value.int 0) hw5 rfl ?_
  refine i_117_69 ?_
  refine i_117_70 (fun _ => ?_) (fun h => absurd h (by decide))
  refine i_117_96 (x := h0) rfl ?_
  refine i_117_97 (v := Value.int 0) hw5 rfl ?_
  refine i_117_100 ?_
  refine i_117_101 (fun _ => ?_) (fun h => absurd h (by decide))
  refine i_117_124 (x := h0) rfl ?_
  refine i_117_125 (v := Value.int 0) hw5 rfl ?_
  refine i_117_128 ?_
  refine i_117_129 (fun _ => ?_) (fun h => absurd h (by decide))
  refine i_117_144 (x := h0) rfl ?_
  refine i_117_145 (v := Value.int 0) hw5 rfl ?_
  exact i_117_148 ⟨rfl, rfl⟩
theorem p_116_1 {d : Nat} {w : xW} {a0 : Int32} {g0 : Nat → Value} {h0 : Nat} {h1 : Nat} (hw0 : w[7]? = some (Sum.inr (0, [Value.ref 8, Value.ref 78, Value.ref 9, Value.ref 10, Value.ref 13, Value.ref 16, Value.ref 19, Value.ref 93, Value.ref 108, Value.ref 113, Value.ref 29, Value.int 0]))) (e1 : 0 ≤ a0.toInt) (e2 : a0.toInt < 16) (hw3 : w[8]? = some (Sum.inl (4, 16, g0))) (hg4 : g0 a0.toInt.toNat = Value.ref h0) (hw5 : w[h0]? = some (Sum.inr (2, [Value.int 64, Value.int 0, Value.int 0, Value.int 0, Value.ref h1]))) (hw6 : w[194]? = some (Sum.inl (3, 1, fun _ => Value.long 0))) : xRun (d + 2) 116 [Value.ref 7, Value.int a0, Value.int 0, Value.ref 194] w (.inl (some (Value.int 0))) (w.set 194 (Sum.inl (3, 1, xup (fun _ => Value.long 0) (0 : Int32).toInt.toNat (Value.long 0)))) := by
  refine xRun.of ?_
  refine i_116_0 (x := 194) rfl ?_
  refine i_116_1 ?_
  refine i_116_2 (x := 7) rfl ?_
  refine i_116_3 (x := a0) rfl ?_
  refine i_116_4 (x := 0) rfl ?_
  refine i_116_5 hw0 (Nat.le_of_ble_eq_true rfl) (p_117_1 e1 e2 hw0 hw3 hg4 hw5) ?_
  refine i_116_8 (c := 0) (by decide) ?_
  refine i_116_9 (v := Value.long 0) hw6 (by decide) (by decide) (by decide) rfl ?_
  refine i_116_10 ?_
  refine i_116_17 ?_
  exact i_116_18 ⟨rfl, rfl⟩
theorem p_233_1 {d : Nat} {w : xW} {a0 : Int32} (e0 : 0 ≤ a0.toInt) (e1 : a0.toInt ≤ 15) (hw2 : w[128]? = some (Sum.inr (12, [Value.ref 129, Value.ref 131, Value.ref 133, Value.ref 135, Value.ref 137, Value.ref 139, Value.ref 141, Value.ref 143, Value.ref 145, Value.ref 147, Value.ref 149, Value.ref 151, Value.ref 153, Value.ref 154, Value.ref 155, Value.ref 156, Value.ref 157, Value.int (-16384), Value.int 16384, Value.int 0, Value.int 0, Value.int 0, Value.ref 158, Value.ref 159, Value.int 0, Value.int 0, Value.int 0, Value.int 0, Value.int 0, Value.int 0, Value.int 0, Value.int 0]))) (hw3 : w[154]? = some (Sum.inl (0, 17, fun _ => Value.int 0))) (e4 : a0.toInt < 17) : xRun (d + 2) 233 [Value.ref 128, Value.int a0, Value.int 0] w (.inl (some (Value.int 0))) w := by
  refine xRun.of ?_
  refine i_233_0 (x := a0) rfl ?_
  refine i_233_1 (Nat.le_of_ble_eq_true rfl) (p_168_1 e0 e1) ?_
  refine i_233_4 (x := 128) rfl ?_
  refine i_233_5 (v := Value.ref 154) hw2 rfl ?_
  refine i_233_8 (x := a0) rfl ?_
  refine i_233_9 (v := Value.int 0) hw3 e0 e4 rfl ?_
  refine i_233_10 (fun h => absurd h (by decide)) (fun _ => ?_)
  refine i_233_13 ?_
  exact i_233_14 ⟨rfl, rfl⟩
theorem p_232_1 {d : Nat} {w : xW} {a0 : Int32} (hw0 : w[128]? = some (Sum.inr (12, [Value.ref 129, Value.ref 131, Value.ref 133, Value.ref 135, Value.ref 137, Value.ref 139, Value.ref 141, Value.ref 143, Value.ref 145, Value.ref 147, Value.ref 149, Value.ref 151, Value.ref 153, Value.ref 154, Value.ref 155, Value.ref 156, Value.ref 157, Value.int (-16384), Value.int 16384, Value.int 0, Value.int 0, Value.int 0, Value.ref 158, Value.ref 159, Value.int 0, Value.int 0, Value.int 0, Value.int 0, Value.int 0, Value.int 0, Value.int 0, Value.int 0]))) (e1 : 0 ≤ a0.toInt) (e2 : a0.toInt ≤ 15) (hw3 : w[154]? = some (Sum.inl (0, 17, fun _ => Value.int 0))) (e4 : a0.toInt < 17) : xRun (d + 3) 232 [Value.ref 128, Value.int a0, Value.int 0] w (.inl (some (Value.int 0))) (w.set 128 (Sum.inr (12, [Value.ref 129, Value.ref 131, Value.ref 133, Value.ref 135, Value.ref 137, Value.ref 139, Value.ref 141, Value.ref 143, Value.ref 145, Value.ref 147, Value.ref 149, Value.ref 151, Value.ref 153, Value.ref 154, Value.ref 155, Value.ref 156, Value.ref 157, Value.int (-16384), Value.int 16384, Value.int 0, Value.int 0, Value.int 0, Value.ref 158, Value.ref 159, Value.int 0, Value.int 0, Value.int 0, Value.int 0, Value.int 0, Value.int 0, Value.int 0, Value.int 0]))) := by
  refine xRun.of ?_
  refine i_232_0 (x := 128) rfl ?_
  refine i_232_1 ?_
  refine i_232_2 (fs2 := [Value.ref 129, Value.ref 131, Value.ref 133, Value.ref 135, Value.ref 137, Value.ref 139, Value.ref 141, Value.ref 143, Value.ref 145, Value.ref 147, Value.ref 149, Value.ref 151, Value.ref 153, Value.ref 154, Value.ref 155, Value.ref 156, Value.ref 157, Value.int (-16384), Value.int 16384, Value.int 0, Value.int 0, Value.int 0, Value.ref 158, Value.ref 159, Value.int 0, Value.int 0, Value.int 0, Value.int 0, Value.int 0, Value.int 0, Value.int 0, Value.int 0]) hw0 (Nat.le_of_ble_eq_true rfl) rfl (by decide) ?_
  refine i_232_5 (x := 128) rfl ?_
  refine i_232_6 (x := a0) rfl ?_
  refine i_232_7 (x := 0) rfl ?_
  refine i_232_8 (xgs hw0) (Nat.le_of_ble_eq_true rfl) (p_233_1 e1 e2 (xgs hw0) (xgn (by decide) hw3) e4) ?_
  exact i_232_11 ⟨rfl, rfl⟩
theorem o_12_1 {d : Nat} {xs : Nat → Int32} (h0 : ((xs 0) &&& (31 : Int32)).toInt = 12) (c0 : (xs 2).toInt = 0) (c1 : 0 ≤ (xs 1).toInt) (c2 : (xs 1).toInt < 16) : ∃ w1, xEv (d + 20) 287 23 [(4, Value.int 0), (3, Value.ref 194), (2, Value.ref 128), (1, Value.ref 7), (0, Value.ref 0)] [] (W0 6 xs) (fun o' w' => o' = .inl (some (Value.int 1)) ∧ w' = w1) ∧ w1.length ≤ 220 ∧ xsz w1 ≤ 200000 := by
  refine ⟨(((W0 6 xs).set 194 (Sum.inl (3, 1, xup (fun _ => Value.long 0) (0 : Int32).toInt.toNat (Value.long 0)))).set 128 (Sum.inr (12, [Value.ref 129, Value.ref 131, Value.ref 133, Value.ref 135, Value.ref 137, Value.ref 139, Value.ref 141, Value.ref 143, Value.ref 145, Value.ref 147, Value.ref 149, Value.ref 151, Value.ref 153, Value.ref 154, Value.ref 155, Value.ref 156, Value.ref 157, Value.int (-16384), Value.int 16384, Value.int 0, Value.int 0, Value.int 0, Value.ref 158, Value.ref 159, Value.int 0, Value.int 0, Value.int 0, Value.int 0, Value.int 0, Value.int 0, Value.int 0, Value.int 0]))), ?_, (show xLs _ 220 200000 from ?_)⟩
  · refine i_287_23 (x := 0) rfl ?_
    refine i_287_25 (x := 0) rfl ?_
    refine i_287_26 (c := 6) W0_0 (by decide) ?_
    refine i_287_27 ?_
    refine i_287_29 (c := 0) (by decide) ?_
    refine i_287_30 (fun h => absurd h (by decide)) (fun _ => ?_)
    refine i_287_33 (x := 0) rfl ?_
    refine i_287_34 (x := 0) rfl ?_
    refine i_287_36 (v := Value.int (xs 0)) W0_0 (by decide) (by decide) rfl ?_
    refine i_287_37 ?_
    refine i_287_39 (c := ((xs 0) &&& (31 : Int32))) rfl ?_
    refine i_287_40_12 (by omega) ?_
    refine i_287_1253 (x := 7) rfl ?_
    refine i_287_1254 (x := 0) rfl ?_
    refine i_287_1255 (x := 0) rfl ?_
    refine i_287_1257 ?_
    refine i_287_1258 (c := 1) (by decide) ?_
    refine i_287_1259 (v := Value.int (xs 1)) W0_0 (by decide) (by decide) rfl ?_
    refine i_287_1260 (x := 0) rfl ?_
    refine i_287_1261 (x := 0) rfl ?_
    refine i_287_1263 ?_
    refine i_287_1264 (c := 2) (by decide) ?_
    refine i_287_1265 (v := Value.int (xs 2)) W0_0 (by decide) (by decide) rfl ?_
    refine i_287_1266 (fun _ => ?_) (fun h => absurd (show (xs 2).toInt = 0 by omega) h)
    refine i_287_1273 ?_
    refine i_287_1274 (x := 194) rfl ?_
    refine i_287_1275 (Nat.le_of_ble_eq_true rfl) (p_116_1 W0_7 (by omega) (by omega) W0_8 (greg_at (by omega)) (W0_reg (by omega)) W0_194) ?_
    refine i_287_1278 (lv2 := [(5, Value.int 0), (4, Value.int 0), (3, Value.ref 194), (2, Value.ref 128), (1, Value.ref 7), (0, Value.ref 0)]) rfl ?_
    refine i_287_1280 (x := 128) rfl ?_
    refine i_287_1281 (x := 0) rfl ?_
    refine i_287_1282 (x := 0) rfl ?_
    refine i_287_1284 ?_
    refine i_287_1285 (c := 1) (by decide) ?_
    refine i_287_1286 (v := Value.int (xs 1)) (xgn (by decide) W0_0) (by decide) (by decide) rfl ?_
    refine i_287_1287 (x := 0) rfl ?_
    refine i_287_1288 (x := 0) rfl ?_
    refine i_287_1290 ?_
    refine i_287_1291 (c := 2) (by decide) ?_
    refine i_287_1292 (v := Value.int (xs 2)) (xgn (by decide) W0_0) (by decide) (by decide) rfl ?_
    refine i_287_1293 (fun _ => ?_) (fun h => absurd (show (xs 2).toInt = 0 by omega) h)
    refine i_287_1300 ?_
    refine i_287_1301 (xgn (by decide) W0_128) (Nat.le_of_ble_eq_true rfl) (p_232_1 (xgn (by decide) W0_128) (by omega) (by omega) (xgn (by decide) W0_154) (by omega)) ?_
    refine i_287_1304 (lv2 := [(6, Value.int 0), (5, Value.int 0), (4, Value.int 0), (3, Value.ref 194), (2, Value.ref 128), (1, Value.ref 7), (0, Value.ref 0)]) rfl ?_
    refine i_287_1306 (x := 128) rfl ?_
    refine i_287_1307 (xgs (xgn (by decide) W0_128)) (Nat.le_of_ble_eq_true rfl) (p_165_1 (xgs (xgn (by decide) W0_128))) ?_
    refine i_287_1310 (x := 0) rfl ?_
    refine i_287_1312 (fun _ => ?_) (fun h => absurd h (by decide))
    refine i_287_1317 (x := 0) rfl ?_
    refine i_287_1319 (fun h => absurd h (by decide)) (fun _ => ?_)
    refine i_287_1322 (x := 194) rfl ?_
    refine i_287_1323 ?_
    refine i_287_1324 (v := Value.long 0) (xgn (by decide) (xgs W0_194)) (by decide) (by decide) xup_s ?_
    refine i_287_1325 (x := 0) rfl ?_
    refine i_287_1327 (c := 0) (by decide) ?_
    refine i_287_1328 (c := 0) (by decide) ?_
    refine i_287_1329 (fun _ => ?_) (fun h => absurd h (by decide))
    refine i_287_1334 ?_
    refine i_287_2154 (x := 0) (c := 6) (lv2 := [(4, Value.int 6), (6, Value.int 0), (5, Value.int 0), (3, Value.ref 194), (2, Value.ref 128), (1, Value.ref 7), (0, Value.ref 0)]) rfl (by decide) rfl ?_
    refine i_287_2157 ?_
    refine i_287_23 (x := 6) rfl ?_
    refine i_287_25 (x := 0) rfl ?_
    refine i_287_26 (c := 6) (xgn (by decide) (xgn (by decide) W0_0)) (by decide) ?_
    refine i_287_27 ?_
    refine i_287_29 (c := 0) (by decide) ?_
    refine i_287_30 (fun _ => ?_) (fun h => absurd h (by decide))
    refine i_287_2160 ?_
    exact i_287_2161 rfl ⟨rfl, rfl⟩
  · refine xLs.set ?_ (xgn (by decide) W0_128) xcs_o
    refine xLs.set ?_ (W0_194) xcs_a
    exact ⟨Nat.le_trans (Nat.le_of_eq W0_len) (by decide), Nat.le_trans (Nat.le_of_eq W0_sz) (by decide)⟩
theorem p_117_2 {d : Nat} {w : xW} {a0 : Int32} (e0 : 0 ≤ a0.toInt) (e1 : 16 ≤ a0.toInt) : xRun (d + 6) 117 [Value.ref 7, Value.int a0, Value.int 0] w (.inr w.length) (w ++ [Sum.inr (14, [])]) := by
  refine xRun.of ?_
  refine i_117_0 (x := a0) rfl ?_
  refine i_117_1 (Nat.le_of_ble_eq_true rfl) (p_15_2 e0 e1) ?_
  refine i_117_4 (fun h => absurd h (by decide)) (fun _ => ?_)
  exact i_117_7 (by omega) (Nat.le_of_ble_eq_true rfl) ⟨rfl, rfl⟩
theorem p_116_2 {d : Nat} {w : xW} {a0 : Int32} (hw0 : w[7]? = some (Sum.inr (0, [Value.ref 8, Value.ref 78, Value.ref 9, Value.ref 10, Value.ref 13, Value.ref 16, Value.ref 19, Value.ref 93, Value.ref 108, Value.ref 113, Value.ref 29, Value.int 0]))) (e1 : 0 ≤ a0.toInt) (e2 : 16 ≤ a0.toInt) : xRun (d + 7) 116 [Value.ref 7, Value.int a0, Value.int 0, Value.ref 194] w (.inl (some (Value.int 1))) (w ++ [Sum.inr (14, [])]) := by
  refine xRun.of ?_
  refine i_116_0 (x := 194) rfl ?_
  refine i_116_1 ?_
  refine i_116_2 (x := 7) rfl ?_
  refine i_116_3 (x := a0) rfl ?_
  refine i_116_4 (x := 0) rfl ?_
  refine j_116_5 hw0 (Nat.le_of_ble_eq_true rfl) (p_117_2 e1 e2) (xDone.c xgl rfl rfl ?_)
  refine i_116_13 (lv2 := [(4, Value.ref w.length), (0, Value.ref 7), (1, Value.int a0), (2, Value.int 0), (3, Value.ref 194)]) rfl ?_
  refine i_116_15 ?_
  exact i_116_16 ⟨rfl, rfl⟩
theorem p_233_2 {d : Nat} {w : xW} {a0 : Int32} (e0 : 0 ≤ a0.toInt) (e1 : 15 < a0.toInt) : xRun (d + 8) 233 [Value.ref 128, Value.int a0, Value.int 0] w (.inr w.length) (w ++ [Sum.inr (14, [])]) := by
  refine xRun.of ?_
  refine i_233_0 (x := a0) rfl ?_
  exact j_233_1 (Nat.le_of_ble_eq_true rfl) (p_168_2 e0 e1) (xDone.t xgl rfl rfl ⟨rfl, rfl⟩)
theorem p_232_2 {d : Nat} {w : xW} {a0 : Int32} (hw0 : w[128]? = some (Sum.inr (12, [Value.ref 129, Value.ref 131, Value.ref 133, Value.ref 135, Value.ref 137, Value.ref 139, Value.ref 141, Value.ref 143, Value.ref 145, Value.ref 147, Value.ref 149, Value.ref 151, Value.ref 153, Value.ref 154, Value.ref 155, Value.ref 156, Value.ref 157, Value.int (-16384), Value.int 16384, Value.int 0, Value.int 0, Value.int 0, Value.ref 158, Value.ref 159, Value.int 0, Value.int 0, Value.int 0, Value.int 0, Value.int 0, Value.int 0, Value.int 0, Value.int 0]))) (e1 : 0 ≤ a0.toInt) (e2 : 15 < a0.toInt) : xRun (d + 9) 232 [Value.ref 128, Value.int a0, Value.int 0] w (.inl (some (Value.int 0))) (((w.set 128 (Sum.inr (12, [Value.ref 129, Value.ref 131, Value.ref 133, Value.ref 135, Value.ref 137, Value.ref 139, Value.ref 141, Value.ref 143, Value.ref 145, Value.ref 147, Value.ref 149, Value.ref 151, Value.ref 153, Value.ref 154, Value.ref 155, Value.ref 156, Value.ref 157, Value.int (-16384), Value.int 16384, Value.int 0, Value.int 0, Value.int 0, Value.ref 158, Value.ref 159, Value.int 0, Value.int 0, Value.int 0, Value.int 0, Value.int 0, Value.int 0, Value.int 0, Value.int 0]))) ++ [Sum.inr (14, [])]).set 128 (Sum.inr (12, [Value.ref 129, Value.ref 131, Value.ref 133, Value.ref 135, Value.ref 137, Value.ref 139, Value.ref 141, Value.ref 143, Value.ref 145, Value.ref 147, Value.ref 149, Value.ref 151, Value.ref 153, Value.ref 154, Value.ref 155, Value.ref 156, Value.ref 157, Value.int (-16384), Value.int 16384, Value.int 0, Value.int 0, Value.int 0, Value.ref 158, Value.ref 159, Value.int 0, Value.int 0, Value.int 0, Value.int 0, Value.int 0, Value.int 0, Value.int 0, Value.int 1]))) := by
  refine xRun.of ?_
  refine i_232_0 (x := 128) rfl ?_
  refine i_232_1 ?_
  refine i_232_2 (fs2 := [Value.ref 129, Value.ref 131, Value.ref 133, Value.ref 135, Value.ref 137, Value.ref 139, Value.ref 141, Value.ref 143, Value.ref 145, Value.ref 147, Value.ref 149, Value.ref 151, Value.ref 153, Value.ref 154, Value.ref 155, Value.ref 156, Value.ref 157, Value.int (-16384), Value.int 16384, Value.int 0, Value.int 0, Value.int 0, Value.ref 158, Value.ref 159, Value.int 0, Value.int 0, Value.int 0, Value.int 0, Value.int 0, Value.int 0, Value.int 0, Value.int 0]) hw0 (Nat.le_of_ble_eq_true rfl) rfl (by decide) ?_
  refine i_232_5 (x := 128) rfl ?_
  refine i_232_6 (x := a0) rfl ?_
  refine i_232_7 (x := 0) rfl ?_
  refine j_232_8 (xgs hw0) (Nat.le_of_ble_eq_true rfl) (p_233_2 e1 e2) (xDone.c xgl rfl rfl ?_)
  refine i_232_12 (lv2 := [(3, Value.ref ((w.set 128 (Sum.inr (12, [Value.ref 129, Value.ref 131, Value.ref 133, Value.ref 135, Value.ref 137, Value.ref 139, Value.ref 141, Value.ref 143, Value.ref 145, Value.ref 147, Value.ref 149, Value.ref 151, Value.ref 153, Value.ref 154, Value.ref 155, Value.ref 156, Value.ref 157, Value.int (-16384), Value.int 16384, Value.int 0, Value.int 0, Value.int 0, Value.ref 158, Value.ref 159, Value.int 0, Value.int 0, Value.int 0, Value.int 0, Value.int 0, Value.int 0, Value.int 0, Value.int 0]))).length)), (0, Value.ref 128), (1, Value.int a0), (2, Value.int 0)]) rfl ?_
  refine i_232_13 (x := 128) rfl ?_
  refine i_232_14 ?_
  refine i_232_15 (fs2 := [Value.ref 129, Value.ref 131, Value.ref 133, Value.ref 135, Value.ref 137, Value.ref 139, Value.ref 141, Value.ref 143, Value.ref 145, Value.ref 147, Value.ref 149, Value.ref 151, Value.ref 153, Value.ref 154, Value.ref 155, Value.ref 156, Value.ref 157, Value.int (-16384), Value.int 16384, Value.int 0, Value.int 0, Value.int 0, Value.ref 158, Value.ref 159, Value.int 0, Value.int 0, Value.int 0, Value.int 0, Value.int 0, Value.int 0, Value.int 0, Value.int 1]) (xga (xgs hw0)) (Nat.le_of_ble_eq_true rfl) rfl (by decide) ?_
  refine i_232_18 ?_
  exact i_232_19 ⟨rfl, rfl⟩
theorem o_12_2 {d : Nat} {xs : Nat → Int32} (h0 : ((xs 0) &&& (31 : Int32)).toInt = 12) (c0 : (xs 2).toInt = 0) (c1 : 0 ≤ (xs 1).toInt) (c2 : 16 ≤ (xs 1).toInt) : ∃ w1, xEv (d + 20) 287 23 [(4, Value.int 0), (3, Value.ref 194), (2, Value.ref 128), (1, Value.ref 7), (0, Value.ref 0)] [] (W0 6 xs) (fun o' w' => o' = .inl (some (Value.int 1)) ∧ w' = w1) ∧ w1.length ≤ 220 ∧ xsz w1 ≤ 200000 := by
  refine ⟨(((((W0 6 xs) ++ [Sum.inr (14, [])]).set 128 (Sum.inr (12, [Value.ref 129, Value.ref 131, Value.ref 133, Value.ref 135, Value.ref 137, Value.ref 139, Value.ref 141, Value.ref 143, Value.ref 145, Value.ref 147, Value.ref 149, Value.ref 151, Value.ref 153, Value.ref 154, Value.ref 155, Value.ref 156, Value.ref 157, Value.int (-16384), Value.int 16384, Value.int 0, Value.int 0, Value.int 0, Value.ref 158, Value.ref 159, Value.int 0, Value.int 0, Value.int 0, Value.int 0, Value.int 0, Value.int 0, Value.int 0, Value.int 0]))) ++ [Sum.inr (14, [])]).set 128 (Sum.inr (12, [Value.ref 129, Value.ref 131, Value.ref 133, Value.ref 135, Value.ref 137, Value.ref 139, Value.ref 141, Value.ref 143, Value.ref 145, Value.ref 147, Value.ref 149, Value.ref 151, Value.ref 153, Value.ref 154, Value.ref 155, Value.ref 156, Value.ref 157, Value.int (-16384), Value.int 16384, Value.int 0, Value.int 0, Value.int 0, Value.ref 158, Value.ref 159, Value.int 0, Value.int 0, Value.int 0, Value.int 0, Value.int 0, Value.int 0, Value.int 0, Value.int 1]))), ?_, (show xLs _ 220 200000 from ?_)⟩
  · refine i_287_23 (x := 0) rfl ?_
    refine i_287_25 (x := 0) rfl ?_
    refine i_287_26 (c := 6) W0_0 (by decide) ?_
    refine i_287_27 ?_
    refine i_287_29 (c := 0) (by decide) ?_
    refine i_287_30 (fun h => absurd h (by decide)) (fun _ => ?_)
    refine i_287_33 (x := 0) rfl ?_
    refine i_287_34 (x := 0) rfl ?_
    refine i_287_36 (v := Value.int (xs 0)) W0_0 (by decide) (by decide) rfl ?_
    refine i_287_37 ?_
    refine i_287_39 (c := ((xs 0) &&& (31 : Int32))) rfl ?_
    refine i_287_40_12 (by omega) ?_
    refine i_287_1253 (x := 7) rfl ?_
    refine i_287_1254 (x := 0) rfl ?_
    refine i_287_1255 (x := 0) rfl ?_
    refine i_287_1257 ?_
    refine i_287_1258 (c := 1) (by decide) ?_
    refine i_287_1259 (v := Value.int (xs 1)) W0_0 (by decide) (by decide) rfl ?_
    refine i_287_1260 (x := 0) rfl ?_
    refine i_287_1261 (x := 0) rfl ?_
    refine i_287_1263 ?_
    refine i_287_1264 (c := 2) (by decide) ?_
    refine i_287_1265 (v := Value.int (xs 2)) W0_0 (by decide) (by decide) rfl ?_
    refine i_287_1266 (fun _ => ?_) (fun h => absurd (show (xs 2).toInt = 0 by omega) h)
    refine i_287_1273 ?_
    refine i_287_1274 (x := 194) rfl ?_
    refine i_287_1275 (Nat.le_of_ble_eq_true rfl) (p_116_2 W0_7 (by omega) (by omega)) ?_
    refine i_287_1278 (lv2 := [(5, Value.int 1), (4, Value.int 0), (3, Value.ref 194), (2, Value.ref 128), (1, Value.ref 7), (0, Value.ref 0)]) rfl ?_
    refine i_287_1280 (x := 128) rfl ?_
    refine i_287_1281 (x := 0) rfl ?_
    refine i_287_1282 (x := 0) rfl ?_
    refine i_287_1284 ?_
    refine i_287_1285 (c := 1) (by decide) ?_
    refine i_287_1286 (v := Value.int (xs 1)) (xga W0_0) (by decide) (by decide) rfl ?_
    refine i_287_1287 (x := 0) rfl ?_
    refine i_287_1288 (x := 0) rfl ?_
    refine i_287_1290 ?_
    refine i_287_1291 (c := 2) (by decide) ?_
    refine i_287_1292 (v := Value.int (xs 2)) (xga W0_0) (by decide) (by decide) rfl ?_
    refine i_287_1293 (fun _ => ?_) (fun h => absurd (show (xs 2).toInt = 0 by omega) h)
    refine i_287_1300 ?_
    refine i_287_1301 (xga W0_128) (Nat.le_of_ble_eq_true rfl) (p_232_2 (xga W0_128) (by omega) (by omega)) ?_
    refine i_287_1304 (lv2 := [(6, Value.int 0), (5, Value.int 1), (4, Value.int 0), (3, Value.ref 194), (2, Value.ref 128), (1, Value.ref 7), (0, Value.ref 0)]) rfl ?_
    refine i_287_1306 (x := 128) rfl ?_
    refine i_287_1307 (xgs (xga (xgs (xga W0_128)))) (Nat.le_of_ble_eq_true rfl) (p_165_0 (xgs (xga (xgs (xga W0_128))))) ?_
    refine i_287_1310 (x := 1) rfl ?_
    refine i_287_1312 (fun _ => ?_) (fun h => absurd h (by decide))
    refine i_287_1317 (x := 1) rfl ?_
    refine i_287_1319 (fun _ => ?_) (fun h => absurd h (by decide))
    refine i_287_1334 ?_
    refine i_287_2154 (x := 0) (c := 6) (lv2 := [(4, Value.int 6), (6, Value.int 0), (5, Value.int 1), (3, Value.ref 194), (2, Value.ref 128), (1, Value.ref 7), (0, Value.ref 0)]) rfl (by decide) rfl ?_
    refine i_287_2157 ?_
    refine i_287_23 (x := 6) rfl ?_
    refine i_287_25 (x := 0) rfl ?_
    refine i_287_26 (c := 6) (xgn (by decide) (xga (xgn (by decide) (xga W0_0)))) (by decide) ?_
    refine i_287_27 ?_
    refine i_287_29 (c := 0) (by decide) ?_
    refine i_287_30 (fun _ => ?_) (fun h => absurd h (by decide))
    refine i_287_2160 ?_
    exact i_287_2161 rfl ⟨rfl, rfl⟩
  · refine xLs.set ?_ (xga (xgs (xga W0_128))) xcs_o
    refine xLs.app (n := 219) (z := 199994) (m := 6) ?_ rfl
    refine xLs.set ?_ (xga W0_128) xcs_o
    refine xLs.app (n := 218) (z := 199988) (m := 6) ?_ rfl
    exact ⟨Nat.le_trans (Nat.le_of_eq W0_len) (by decide), Nat.le_trans (Nat.le_of_eq W0_sz) (by decide)⟩
theorem p_117_3 {d : Nat} {w : xW} {a0 : Int32} (e0 : a0.toInt < 0) : xRun (d + 6) 117 [Value.ref 7, Value.int a0, Value.int 1] w (.inr w.length) (w ++ [Sum.inr (14, [])]) := by
  refine xRun.of ?_
  refine i_117_0 (x := a0) rfl ?_
  refine i_117_1 (Nat.le_of_ble_eq_true rfl) (p_15_0 e0) ?_
  refine i_117_4 (fun h => absurd h (by decide)) (fun _ => ?_)
  exact i_117_7 (by omega) (Nat.le_of_ble_eq_true rfl) ⟨rfl, rfl⟩
theorem p_116_3 {d : Nat} {w : xW} {a0 : Int32} (hw0 : w[7]? = some (Sum.inr (0, [Value.ref 8, Value.ref 78, Value.ref 9, Value.ref 10, Value.ref 13, Value.ref 16, Value.ref 19, Value.ref 93, Value.ref 108, Value.ref 113, Value.ref 29, Value.int 0]))) (e1 : a0.toInt < 0) : xRun (d + 7) 116 [Value.ref 7, Value.int a0, Value.int 1, Value.ref 194] w (.inl (some (Value.int 1))) (w ++ [Sum.inr (14, [])]) := by
  refine xRun.of ?_
  refine i_116_0 (x := 194) rfl ?_
  refine i_116_1 ?_
  refine i_116_2 (x := 7) rfl ?_
  refine i_116_3 (x := a0) rfl ?_
  refine i_116_4 (x := 1) rfl ?_
  refine j_116_5 hw0 (Nat.le_of_ble_eq_true rfl) (p_117_3 e1) (xDone.c xgl rfl rfl ?_)
  refine i_116_13 (lv2 := [(4, Value.ref w.length), (0, Value.ref 7), (1, Value.int a0), (2, Value.int 1), (3, Value.ref 194)]) rfl ?_
  refine i_116_15 ?_
  exact i_116_16 ⟨rfl, rfl⟩
theorem p_233_3 {d : Nat} {w : xW} {a0 : Int32} (e0 : a0.toInt < 0) : xRun (d + 8) 233 [Value.ref 128, Value.int a0, Value.int 1] w (.inr w.length) (w ++ [Sum.inr (14, [])]) := by
  refine xRun.of ?_
  refine i_233_0 (x := a0) rfl ?_
  exact j_233_1 (Nat.le_of_ble_eq_true rfl) (p_168_0 e0) (xDone.t xgl rfl rfl ⟨rfl, rfl⟩)
theorem p_232_3 {d : Nat} {w : xW} {a0 : Int32} (hw0 : w[128]? = some (Sum.inr (12, [Value.ref 129, Value.ref 131, Value.ref 133, Value.ref 135, Value.ref 137, Value.ref 139, Value.ref 141, Value.ref 143, Value.ref 145, Value.ref 147, Value.ref 149, Value.ref 151, Value.ref 153, Value.ref 154, Value.ref 155, Value.ref 156, Value.ref 157, Value.int (-16384), Value.int 16384, Value.int 0, Value.int 0, Value.int 0, Value.ref 158, Value.ref 159, Value.int 0, Value.int 0, Value.int 0, Value.int 0, Value.int 0, Value.int 0, Value.int 0, Value.int 0]))) (e1 : a0.toInt < 0) : xRun (d + 9) 232 [Value.ref 128, Value.int a0, Value.int 1] w (.inl (some (Value.int 0))) (((w.set 128 (Sum.inr (12, [Value.ref 129, Value.ref 131, Value.ref 133, Value.ref 135, Value.ref 137, Value.ref 139, Value.ref 141, Value.ref 143, Value.ref 145, Value.ref 147, Value.ref 149, Value.ref 151, Value.ref 153, Value.ref 154, Value.ref 155, Value.ref 156, Value.ref 157, Value.int (-16384), Value.int 16384, Value.int 0, Value.int 0, Value.int 0, Value.ref 158, Value.ref 159, Value.int 0, Value.int 0, Value.int 0, Value.int 0, Value.int 0, Value.int 0, Value.int 0, Value.int 0]))) ++ [Sum.inr (14, [])]).set 128 (Sum.inr (12, [Value.ref 129, Value.ref 131, Value.ref 133, Value.ref 135, Value.ref 137, Value.ref 139, Value.ref 141, Value.ref 143, Value.ref 145, Value.ref 147, Value.ref 149, Value.ref 151, Value.ref 153, Value.ref 154, Value.ref 155, Value.ref 156, Value.ref 157, Value.int (-16384), Value.int 16384, Value.int 0, Value.int 0, Value.int 0, Value.ref 158, Value.ref 159, Value.int 0, Value.int 0, Value.int 0, Value.int 0, Value.int 0, Value.int 0, Value.int 0, Value.int 1]))) := by
  refine xRun.of ?_
  refine i_232_0 (x := 128) rfl ?_
  refine i_232_1 ?_
  refine i_232_2 (fs2 := [Value.ref 129, Value.ref 131, Value.ref 133, Value.ref 135, Value.ref 137, Value.ref 139, Value.ref 141, Value.ref 143, Value.ref 145, Value.ref 147, Value.ref 149, Value.ref 151, Value.ref 153, Value.ref 154, Value.ref 155, Value.ref 156, Value.ref 157, Value.int (-16384), Value.int 16384, Value.int 0, Value.int 0, Value.int 0, Value.ref 158, Value.ref 159, Value.int 0, Value.int 0, Value.int 0, Value.int 0, Value.int 0, Value.int 0, Value.int 0, Value.int 0]) hw0 (Nat.le_of_ble_eq_true rfl) rfl (by decide) ?_
  refine i_232_5 (x := 128) rfl ?_
  refine i_232_6 (x := a0) rfl ?_
  refine i_232_7 (x := 1) rfl ?_
  refine j_232_8 (xgs hw0) (Nat.le_of_ble_eq_true rfl) (p_233_3 e1) (xDone.c xgl rfl rfl ?_)
  refine i_232_12 (lv2 := [(3, Value.ref ((w.set 128 (Sum.inr (12, [Value.ref 129, Value.ref 131, Value.ref 133, Value.ref 135, Value.ref 137, Value.ref 139, Value.ref 141, Value.ref 143, Value.ref 145, Value.ref 147, Value.ref 149, Value.ref 151, Value.ref 153, Value.ref 154, Value.ref 155, Value.ref 156, Value.ref 157, Value.int (-16384), Value.int 16384, Value.int 0, Value.int 0, Value.int 0, Value.ref 158, Value.ref 159, Value.int 0, Value.int 0, Value.int 0, Value.int 0, Value.int 0, Value.int 0, Value.int 0, Value.int 0]))).length)), (0, Value.ref 128), (1, Value.int a0), (2, Value.int 1)]) rfl ?_
  refine i_232_13 (x := 128) rfl ?_
  refine i_232_14 ?_
  refine i_232_15 (fs2 := [Value.ref 129, Value.ref 131, Value.ref 133, Value.ref 135, Value.ref 137, Value.ref 139, Value.ref 141, Value.ref 143, Value.ref 145, Value.ref 147, Value.ref 149, Value.ref 151, Value.ref 153, Value.ref 154, Value.ref 155, Value.ref 156, Value.ref 157, Value.int (-16384), Value.int 16384, Value.int 0, Value.int 0, Value.int 0, Value.ref 158, Value.ref 159, Value.int 0, Value.int 0, Value.int 0, Value.int 0, Value.int 0, Value.int 0, Value.int 0, Value.int 1]) (xga (xgs hw0)) (Nat.le_of_ble_eq_true rfl) rfl (by decide) ?_
  refine i_232_18 ?_
  exact i_232_19 ⟨rfl, rfl⟩
theorem o_12_3 {d : Nat} {xs : Nat → Int32} (h0 : ((xs 0) &&& (31 : Int32)).toInt = 12) (c0 : (xs 2).toInt ≠ 0) (c1 : (xs 1).toInt < 0) : ∃ w1, xEv (d + 20) 287 23 [(4, Value.int 0), (3, Value.ref 194), (2, Value.ref 128), (1, Value.ref 7), (0, Value.ref 0)] [] (W0 6 xs) (fun o' w' => o' = .inl (some (Value.int 1)) ∧ w' = w1) ∧ w1.length ≤ 220 ∧ xsz w1 ≤ 200000 := by
  refine ⟨(((((W0 6 xs) ++ [Sum.inr (14, [])]).set 128 (Sum.inr (12, [Value.ref 129, Value.ref 131, Value.ref 133, Value.ref 135, Value.ref 137, Value.ref 139, Value.ref 141, Value.ref 143, Value.ref 145, Value.ref 147, Value.ref 149, Value.ref 151, Value.ref 153, Value.ref 154, Value.ref 155, Value.ref 156, Value.ref 157, Value.int (-16384), Value.int 16384, Value.int 0, Value.int 0, Value.int 0, Value.ref 158, Value.ref 159, Value.int 0, Value.int 0, Value.int 0, Value.int 0, Value.int 0, Value.int 0, Value.int 0, Value.int 0]))) ++ [Sum.inr (14, [])]).set 128 (Sum.inr (12, [Value.ref 129, Value.ref 131, Value.ref 133, Value.ref 135, Value.ref 137, Value.ref 139, Value.ref 141, Value.ref 143, Value.ref 145, Value.ref 147, Value.ref 149, Value.ref 151, Value.ref 153, Value.ref 154, Value.ref 155, Value.ref 156, Value.ref 157, Value.int (-16384), Value.int 16384, Value.int 0, Value.int 0, Value.int 0, Value.ref 158, Value.ref 159, Value.int 0, Value.int 0, Value.int 0, Value.int 0, Value.int 0, Value.int 0, Value.int 0, Value.int 1]))), ?_, (show xLs _ 220 200000 from ?_)⟩
  · refine i_287_23 (x := 0) rfl ?_
    refine i_287_25 (x := 0) rfl ?_
    refine i_287_26 (c := 6) W0_0 (by decide) ?_
    refine i_287_27 ?_
    refine i_287_29 (c := 0) (by decide) ?_
    refine i_287_30 (fun h => absurd h (by decide)) (fun _ => ?_)
    refine i_287_33 (x := 0) rfl ?_
    refine i_287_34 (x := 0) rfl ?_
    refine i_287_36 (v := Value.int (xs 0)) W0_0 (by decide) (by decide) rfl ?_
    refine i_287_37 ?_
    refine i_287_39 (c := ((xs 0) &&& (31 : Int32))) rfl ?_
    refine i_287_40_12 (by omega) ?_
    refine i_287_1253 (x := 7) rfl ?_
    refine i_287_1254 (x := 0) rfl ?_
    refine i_287_1255 (x := 0) rfl ?_
    refine i_287_1257 ?_
    refine i_287_1258 (c := 1) (by decide) ?_
    refine i_287_1259 (v := Value.int (xs 1)) W0_0 (by decide) (by decide) rfl ?_
    refine i_287_1260 (x := 0) rfl ?_
    refine i_287_1261 (x := 0) rfl ?_
    refine i_287_1263 ?_
    refine i_287_1264 (c := 2) (by decide) ?_
    refine i_287_1265 (v := Value.int (xs 2)) W0_0 (by decide) (by decide) rfl ?_
    refine i_287_1266 (fun h => absurd (show (xs 2).toInt ≠ 0 by omega) (fun g => g h)) (fun _ => ?_)
    refine i_287_1269 ?_
    refine i_287_1270 ?_
    refine i_287_1274 (x := 194) rfl ?_
    refine i_287_1275 (Nat.le_of_ble_eq_true rfl) (p_116_3 W0_7 (by omega)) ?_
    refine i_287_1278 (lv2 := [(5, Value.int 1), (4, Value.int 0), (3, Value.ref 194), (2, Value.ref 128), (1, Value.ref 7), (0, Value.ref 0)]) rfl ?_
    refine i_287_1280 (x := 128) rfl ?_
    refine i_287_1281 (x := 0) rfl ?_
    refine i_287_1282 (x := 0) rfl ?_
    refine i_287_1284 ?_
    refine i_287_1285 (c := 1) (by decide) ?_
    refine i_287_1286 (v := Value.int (xs 1)) (xga W0_0) (by decide) (by decide) rfl ?_
    refine i_287_1287 (x := 0) rfl ?_
    refine i_287_1288 (x := 0) rfl ?_
    refine i_287_1290 ?_
    refine i_287_1291 (c := 2) (by decide) ?_
    refine i_287_1292 (v := Value.int (xs 2)) (xga W0_0) (by decide) (by decide) rfl ?_
    refine i_287_1293 (fun h => absurd (show (xs 2).toInt ≠ 0 by omega) (fun g => g h)) (fun _ => ?_)
    refine i_287_1296 ?_
    refine i_287_1297 ?_
    refine i_287_1301 (xga W0_128) (Nat.le_of_ble_eq_true rfl) (p_232_3 (xga W0_128) (by omega)) ?_
    refine i_287_1304 (lv2 := [(6, Value.int 0), (5, Value.int 1), (4, Value.int 0), (3, Value.ref 194), (2, Value.ref 128), (1, Value.ref 7), (0, Value.ref 0)]) rfl ?_
    refine i_287_1306 (x := 128) rfl ?_
    refine i_287_1307 (xgs (xga (xgs (xga W0_128)))) (Nat.le_of_ble_eq_true rfl) (p_165_0 (xgs (xga (xgs (xga W0_128))))) ?_
    refine i_287_1310 (x := 1) rfl ?_
    refine i_287_1312 (fun _ => ?_) (fun h => absurd h (by decide))
    refine i_287_1317 (x := 1) rfl ?_
    refine i_287_1319 (fun _ => ?_) (fun h => absurd h (by decide))
    refine i_287_1334 ?_
    refine i_287_2154 (x := 0) (c := 6) (lv2 := [(4, Value.int 6), (6, Value.int 0), (5, Value.int 1), (3, Value.ref 194), (2, Value.ref 128), (1, Value.ref 7), (0, Value.ref 0)]) rfl (by decide) rfl ?_
    refine i_287_2157 ?_
    refine i_287_23 (x := 6) rfl ?_
    refine i_287_25 (x := 0) rfl ?_
    refine i_287_26 (c := 6) (xgn (by decide) (xga (xgn (by decide) (xga W0_0)))) (by decide) ?_
    refine i_287_27 ?_
    refine i_287_29 (c := 0) (by decide) ?_
    refine i_287_30 (fun _ => ?_) (fun h => absurd h (by decide))
    refine i_287_2160 ?_
    exact i_287_2161 rfl ⟨rfl, rfl⟩
  · refine xLs.set ?_ (xga (xgs (xga W0_128))) xcs_o
    refine xLs.app (n := 219) (z := 199994) (m := 6) ?_ rfl
    refine xLs.set ?_ (xga W0_128) xcs_o
    refine xLs.app (n := 218) (z := 199988) (m := 6) ?_ rfl
    exact ⟨Nat.le_trans (Nat.le_of_eq W0_len) (by decide), Nat.le_trans (Nat.le_of_eq W0_sz) (by decide)⟩
theorem p_117_4 {d : Nat} {w : xW} {a0 : Int32} {g0 : Nat → Value} {h0 : Nat} {h1 : Nat} (e0 : 0 ≤ a0.toInt) (e1 : a0.toInt < 16) (hw2 : w[7]? = some (Sum.inr (0, [Value.ref 8, Value.ref 78, Value.ref 9, Value.ref 10, Value.ref 13, Value.ref 16, Value.ref 19, Value.ref 93, Value.ref 108, Value.ref 113, Value.ref 29, Value.int 0]))) (hw3 : w[8]? = some (Sum.inl (4, 16, g0))) (hg4 : g0 a0.toInt.toNat = Value.ref h0) (hw5 : w[h0]? = some (Sum.inr (2, [Value.int 64, Value.int 0, Value.int 0, Value.int 0, Value.ref h1]))) : xRun (d + 1) 117 [Value.ref 7, Value.int a0, Value.int 1] w (.inl (some (Value.int 0))) w := by
  refine xRun.of ?_
  refine i_117_0 (x := a0) rfl ?_
  refine i_117_1 (Nat.le_of_ble_eq_true rfl) (p_15_1 e0 e1) ?_
  refine i_117_4 (fun _ => ?_) (fun h => absurd h (by decide))
  refine i_117_15 (x := 7) rfl ?_
  refine i_117_16 (v := Value.ref 8) hw2 rfl ?_
  refine i_117_19 (x := a0) rfl ?_
  refine i_117_20 (v := Value.ref h0) hw3 e0 e1 hg4 ?_
  refine i_117_21 (lv2 := [(3, Value.ref h0), (0, Value.ref 7), (1, Value.int a0), (2, Value.int 1)]) rfl ?_
  refine i_117_22 (x := h0) rfl ?_
  refine i_117_23 (v := Value.int 0) hw5 rfl ?_
  refine i_117_26 (x := 1) rfl ?_
  refine i_117_27 (fun h => absurd h (by decide)) (fun _ => ?_)
  refine i_117_30 ?_
  refine i_117_31 ?_
  refine i_117_35 (lv2 := [(4, Value.int 1), (3, Value.ref h0), (0, Value.ref 7), (1, Value.int a0), (2, Value.int 1)]) rfl ?_
  refine i_117_37 (x := h0) rfl ?_
  refine i_117_38 (v := Value.int 0) hw5 rfl ?_
  refine i_117_41 ?_
  refine i_117_42 (fun _ => ?_) (fun h => absurd h (by decide))
  refine i_117_65 (x := h0) rfl ?_
  refine i_117_66 (v := Value.int 0) hw5 rfl ?_
  refine i_117_69 ?_
  refine i_117_70 (fun _ => ?_) (fun h => absurd h (by decide))
  refine i_117_96 (x := h0) rfl ?_
  refine i_117_97 (v := Value.int 0) hw5 rfl ?_
  refine i_117_100 ?_
  refine i_117_101 (fun _ => ?_) (fun h => absurd h (by decide))
  refine i_117_124 (x := h0) rfl ?_
  refine i_117_125 (v := Value.int 0) hw5 rfl ?_
  refine i_117_128 ?_
  refine i_117_129 (fun _ => ?_) (fun h => absurd h (by decide))
  refine i_117_144 (x := h0) rfl ?_
  refine i_117_145 (v := Value.int 0) hw5 rfl ?_
  exact i_117_148 ⟨rfl, rfl⟩
theorem p_116_4 {d : Nat} {w : xW} {a0 : Int32} {g0 : Nat → Value} {h0 : Nat} {h1 : Nat} (hw0 : w[7]? = some (Sum.inr (0, [Value.ref 8, Value.ref 78, Value.ref 9, Value.ref 10, Value.ref 13, Value.ref 16, Value.ref 19, Value.ref 93, Value.ref 108, Value.ref 113, Value.ref 29, Value.int 0]))) (e1 : 0 ≤ a0.toInt) (e2 : a0.toInt < 16) (hw3 : w[8]? = some (Sum.inl (4, 16, g0))) (hg4 : g0 a0.toInt.toNat = Value.ref h0) (hw5 : w[h0]? = some (Sum.inr (2, [Value.int 64, Value.int 0, Value.int 0, Value.int 0, Value.ref h1]))) (hw6 : w[194]? = some (Sum.inl (3, 1, fun _ => Value.long 0))) : xRun (d + 2) 116 [Value.ref 7, Value.int a0, Value.int 1, Value.ref 194] w (.inl (some (Value.int 0))) (w.set 194 (Sum.inl (3, 1, xup (fun _ => Value.long 0) (0 : Int32).toInt.toNat (Value.long 0)))) := by
  refine xRun.of ?_
  refine i_116_0 (x := 194) rfl ?_
  refine i_116_1 ?_
  refine i_116_2 (x := 7) rfl ?_
  refine i_116_3 (x := a0) rfl ?_
  refine i_116_4 (x := 1) rfl ?_
  refine i_116_5 hw0 (Nat.le_of_ble_eq_true rfl) (p_117_4 e1 e2 hw0 hw3 hg4 hw5) ?_
  refine i_116_8 (c := 0) (by decide) ?_
  refine i_116_9 (v := Value.long 0) hw6 (by decide) (by decide) (by decide) rfl ?_
  refine i_116_10 ?_
  refine i_116_17 ?_
  exact i_116_18 ⟨rfl, rfl⟩
theorem p_233_4 {d : Nat} {w : xW} {a0 : Int32} (e0 : 0 ≤ a0.toInt) (e1 : a0.toInt ≤ 15) (hw2 : w[128]? = some (Sum.inr (12, [Value.ref 129, Value.ref 131, Value.ref 133, Value.ref 135, Value.ref 137, Value.ref 139, Value.ref 141, Value.ref 143, Value.ref 145, Value.ref 147, Value.ref 149, Value.ref 151, Value.ref 153, Value.ref 154, Value.ref 155, Value.ref 156, Value.ref 157, Value.int (-16384), Value.int 16384, Value.int 0, Value.int 0, Value.int 0, Value.ref 158, Value.ref 159, Value.int 0, Value.int 0, Value.int 0, Value.int 0, Value.int 0, Value.int 0, Value.int 0, Value.int 0]))) (hw3 : w[154]? = some (Sum.inl (0, 17, fun _ => Value.int 0))) (e4 : a0.toInt < 17) : xRun (d + 2) 233 [Value.ref 128, Value.int a0, Value.int 1] w (.inl (some (Value.int 0))) w := by
  refine xRun.of ?_
  refine i_233_0 (x := a0) rfl ?_
  refine i_233_1 (Nat.le_of_ble_eq_true rfl) (p_168_1 e0 e1) ?_
  refine i_233_4 (x := 128) rfl ?_
  refine i_233_5 (v := Value.ref 154) hw2 rfl ?_
  refine i_233_8 (x := a0) rfl ?_
  refine i_233_9 (v := Value.int 0) hw3 e0 e4 rfl ?_
  refine i_233_10 (fun h => absurd h (by decide)) (fun _ => ?_)
  refine i_233_13 ?_
  exact i_233_14 ⟨rfl, rfl⟩
theorem p_232_4 {d : Nat} {w : xW} {a0 : Int32} (hw0 : w[128]? = some (Sum.inr (12, [Value.ref 129, Value.ref 131, Value.ref 133, Value.ref 135, Value.ref 137, Value.ref 139, Value.ref 141, Value.ref 143, Value.ref 145, Value.ref 147, Value.ref 149, Value.ref 151, Value.ref 153, Value.ref 154, Value.ref 155, Value.ref 156, Value.ref 157, Value.int (-16384), Value.int 16384, Value.int 0, Value.int 0, Value.int 0, Value.ref 158, Value.ref 159, Value.int 0, Value.int 0, Value.int 0, Value.int 0, Value.int 0, Value.int 0, Value.int 0, Value.int 0]))) (e1 : 0 ≤ a0.toInt) (e2 : a0.toInt ≤ 15) (hw3 : w[154]? = some (Sum.inl (0, 17, fun _ => Value.int 0))) (e4 : a0.toInt < 17) : xRun (d + 3) 232 [Value.ref 128, Value.int a0, Value.int 1] w (.inl (some (Value.int 0))) (w.set 128 (Sum.inr (12, [Value.ref 129, Value.ref 131, Value.ref 133, Value.ref 135, Value.ref 137, Value.ref 139, Value.ref 141, Value.ref 143, Value.ref 145, Value.ref 147, Value.ref 149, Value.ref 151, Value.ref 153, Value.ref 154, Value.ref 155, Value.ref 156, Value.ref 157, Value.int (-16384), Value.int 16384, Value.int 0, Value.int 0, Value.int 0, Value.ref 158, Value.ref 159, Value.int 0, Value.int 0, Value.int 0, Value.int 0, Value.int 0, Value.int 0, Value.int 0, Value.int 0]))) := by
  refine xRun.of ?_
  refine i_232_0 (x := 128) rfl ?_
  refine i_232_1 ?_
  refine i_232_2 (fs2 := [Value.ref 129, Value.ref 131, Value.ref 133, Value.ref 135, Value.ref 137, Value.ref 139, Value.ref 141, Value.ref 143, Value.ref 145, Value.ref 147, Value.ref 149, Value.ref 151, Value.ref 153, Value.ref 154, Value.ref 155, Value.ref 156, Value.ref 157, Value.int (-16384), Value.int 16384, Value.int 0, Value.int 0, Value.int 0, Value.ref 158, Value.ref 159, Value.int 0, Value.int 0, Value.int 0, Value.int 0, Value.int 0, Value.int 0, Value.int 0, Value.int 0]) hw0 (Nat.le_of_ble_eq_true rfl) rfl (by decide) ?_
  refine i_232_5 (x := 128) rfl ?_
  refine i_232_6 (x := a0) rfl ?_
  refine i_232_7 (x := 1) rfl ?_
  refine i_232_8 (xgs hw0) (Nat.le_of_ble_eq_true rfl) (p_233_4 e1 e2 (xgs hw0) (xgn (by decide) hw3) e4) ?_
  exact i_232_11 ⟨rfl, rfl⟩
theorem o_12_4 {d : Nat} {xs : Nat → Int32} (h0 : ((xs 0) &&& (31 : Int32)).toInt = 12) (c0 : (xs 2).toInt ≠ 0) (c1 : 0 ≤ (xs 1).toInt) (c2 : (xs 1).toInt < 16) : ∃ w1, xEv (d + 20) 287 23 [(4, Value.int 0), (3, Value.ref 194), (2, Value.ref 128), (1, Value.ref 7), (0, Value.ref 0)] [] (W0 6 xs) (fun o' w' => o' = .inl (some (Value.int 1)) ∧ w' = w1) ∧ w1.length ≤ 220 ∧ xsz w1 ≤ 200000 := by
  refine ⟨(((W0 6 xs).set 194 (Sum.inl (3, 1, xup (fun _ => Value.long 0) (0 : Int32).toInt.toNat (Value.long 0)))).set 128 (Sum.inr (12, [Value.ref 129, Value.ref 131, Value.ref 133, Value.ref 135, Value.ref 137, Value.ref 139, Value.ref 141, Value.ref 143, Value.ref 145, Value.ref 147, Value.ref 149, Value.ref 151, Value.ref 153, Value.ref 154, Value.ref 155, Value.ref 156, Value.ref 157, Value.int (-16384), Value.int 16384, Value.int 0, Value.int 0, Value.int 0, Value.ref 158, Value.ref 159, Value.int 0, Value.int 0, Value.int 0, Value.int 0, Value.int 0, Value.int 0, Value.int 0, Value.int 0]))), ?_, (show xLs _ 220 200000 from ?_)⟩
  · refine i_287_23 (x := 0) rfl ?_
    refine i_287_25 (x := 0) rfl ?_
    refine i_287_26 (c := 6) W0_0 (by decide) ?_
    refine i_287_27 ?_
    refine i_287_29 (c := 0) (by decide) ?_
    refine i_287_30 (fun h => absurd h (by decide)) (fun _ => ?_)
    refine i_287_33 (x := 0) rfl ?_
    refine i_287_34 (x := 0) rfl ?_
    refine i_287_36 (v := Value.int (xs 0)) W0_0 (by decide) (by decide) rfl ?_
    refine i_287_37 ?_
    refine i_287_39 (c := ((xs 0) &&& (31 : Int32))) rfl ?_
    refine i_287_40_12 (by omega) ?_
    refine i_287_1253 (x := 7) rfl ?_
    refine i_287_1254 (x := 0) rfl ?_
    refine i_287_1255 (x := 0) rfl ?_
    refine i_287_1257 ?_
    refine i_287_1258 (c := 1) (by decide) ?_
    refine i_287_1259 (v := Value.int (xs 1)) W0_0 (by decide) (by decide) rfl ?_
    refine i_287_1260 (x := 0) rfl ?_
    refine i_287_1261 (x := 0) rfl ?_
    refine i_287_1263 ?_
    refine i_287_1264 (c := 2) (by decide) ?_
    refine i_287_1265 (v := Value.int (xs 2)) W0_0 (by decide) (by decide) rfl ?_
    refine i_287_1266 (fun h => absurd (show (xs 2).toInt ≠ 0 by omega) (fun g => g h)) (fun _ => ?_)
    refine i_287_1269 ?_
    refine i_287_1270 ?_
    refine i_287_1274 (x := 194) rfl ?_
    refine i_287_1275 (Nat.le_of_ble_eq_true rfl) (p_116_4 W0_7 (by omega) (by omega) W0_8 (greg_at (by omega)) (W0_reg (by omega)) W0_194) ?_
    refine i_287_1278 (lv2 := [(5, Value.int 0), (4, Value.int 0), (3, Value.ref 194), (2, Value.ref 128), (1, Value.ref 7), (0, Value.ref 0)]) rfl ?_
    refine i_287_1280 (x := 128) rfl ?_
    refine i_287_1281 (x := 0) rfl ?_
    refine i_287_1282 (x := 0) rfl ?_
    refine i_287_1284 ?_
    refine i_287_1285 (c := 1) (by decide) ?_
    refine i_287_1286 (v := Value.int (xs 1)) (xgn (by decide) W0_0) (by decide) (by decide) rfl ?_
    refine i_287_1287 (x := 0) rfl ?_
    refine i_287_1288 (x := 0) rfl ?_
    refine i_287_1290 ?_
    refine i_287_1291 (c := 2) (by decide) ?_
    refine i_287_1292 (v := Value.int (xs 2)) (xgn (by decide) W0_0) (by decide) (by decide) rfl ?_
    refine i_287_1293 (fun h => absurd (show (xs 2).toInt ≠ 0 by omega) (fun g => g h)) (fun _ => ?_)
    refine i_287_1296 ?_
    refine i_287_1297 ?_
    refine i_287_1301 (xgn (by decide) W0_128) (Nat.le_of_ble_eq_true rfl) (p_232_4 (xgn (by decide) W0_128) (by omega) (by omega) (xgn (by decide) W0_154) (by omega)) ?_
    refine i_287_1304 (lv2 := [(6, Value.int 0), (5, Value.int 0), (4, Value.int 0), (3, Value.ref 194), (2, Value.ref 128), (1, Value.ref 7), (0, Value.ref 0)]) rfl ?_
    refine i_287_1306 (x := 128) rfl ?_
    refine i_287_1307 (xgs (xgn (by decide) W0_128)) (Nat.le_of_ble_eq_true rfl) (p_165_1 (xgs (xgn (by decide) W0_128))) ?_
    refine i_287_1310 (x := 0) rfl ?_
    refine i_287_1312 (fun _ => ?_) (fun h => absurd h (by decide))
    refine i_287_1317 (x := 0) rfl ?_
    refine i_287_1319 (fun h => absurd h (by decide)) (fun _ => ?_)
    refine i_287_1322 (x := 194) rfl ?_
    refine i_287_1323 ?_
    refine i_287_1324 (v := Value.long 0) (xgn (by decide) (xgs W0_194)) (by decide) (by decide) xup_s ?_
    refine i_287_1325 (x := 0) rfl ?_
    refine i_287_1327 (c := 0) (by decide) ?_
    refine i_287_1328 (c := 0) (by decide) ?_
    refine i_287_1329 (fun _ => ?_) (fun h => absurd h (by decide))
    refine i_287_1334 ?_
    refine i_287_2154 (x := 0) (c := 6) (lv2 := [(4, Value.int 6), (6, Value.int 0), (5, Value.int 0), (3, Value.ref 194), (2, Value.ref 128), (1, Value.ref 7), (0, Value.ref 0)]) rfl (by decide) rfl ?_
    refine i_287_2157 ?_
    refine i_287_23 (x := 6) rfl ?_
    refine i_287_25 (x := 0) rfl ?_
    refine i_287_26 (c := 6) (xgn (by decide) (xgn (by decide) W0_0)) (by decide) ?_
    refine i_287_27 ?_
    refine i_287_29 (c := 0) (by decide) ?_
    refine i_287_30 (fun _ => ?_) (fun h => absurd h (by decide))
    refine i_287_2160 ?_
    exact i_287_2161 rfl ⟨rfl, rfl⟩
  · refine xLs.set ?_ (xgn (by decide) W0_128) xcs_o
    refine xLs.set ?_ (W0_194) xcs_a
    exact ⟨Nat.le_trans (Nat.le_of_eq W0_len) (by decide), Nat.le_trans (Nat.le_of_eq W0_sz) (by decide)⟩
theorem p_117_5 {d : Nat} {w : xW} {a0 : Int32} (e0 : 0 ≤ a0.toInt) (e1 : 16 ≤ a0.toInt) : xRun (d + 6) 117 [Value.ref 7, Value.int a0, Value.int 1] w (.inr w.length) (w ++ [Sum.inr (14, [])]) := by
  refine xRun.of ?_
  refine i_117_0 (x := a0) rfl ?_
  refine i_117_1 (Nat.le_of_ble_eq_true rfl) (p_15_2 e0 e1) ?_
  refine i_117_4 (fun h => absurd h (by decide)) (fun _ => ?_)
  exact i_117_7 (by omega) (Nat.le_of_ble_eq_true rfl) ⟨rfl, rfl⟩
theorem p_116_5 {d : Nat} {w : xW} {a0 : Int32} (hw0 : w[7]? = some (Sum.inr (0, [Value.ref 8, Value.ref 78, Value.ref 9, Value.ref 10, Value.ref 13, Value.ref 16, Value.ref 19, Value.ref 93, Value.ref 108, Value.ref 113, Value.ref 29, Value.int 0]))) (e1 : 0 ≤ a0.toInt) (e2 : 16 ≤ a0.toInt) : xRun (d + 7) 116 [Value.ref 7, Value.int a0, Value.int 1, Value.ref 194] w (.inl (some (Value.int 1))) (w ++ [Sum.inr (14, [])]) := by
  refine xRun.of ?_
  refine i_116_0 (x := 194) rfl ?_
  refine i_116_1 ?_
  refine i_116_2 (x := 7) rfl ?_
  refine i_116_3 (x := a0) rfl ?_
  refine i_116_4 (x := 1) rfl ?_
  refine j_116_5 hw0 (Nat.le_of_ble_eq_true rfl) (p_117_5 e1 e2) (xDone.c xgl rfl rfl ?_)
  refine i_116_13 (lv2 := [(4, Value.ref w.length), (0, Value.ref 7), (1, Value.int a0), (2, Value.int 1), (3, Value.ref 194)]) rfl ?_
  refine i_116_15 ?_
  exact i_116_16 ⟨rfl, rfl⟩
theorem p_233_5 {d : Nat} {w : xW} {a0 : Int32} (e0 : 0 ≤ a0.toInt) (e1 : 15 < a0.toInt) : xRun (d + 8) 233 [Value.ref 128, Value.int a0, Value.int 1] w (.inr w.length) (w ++ [Sum.inr (14, [])]) := by
  refine xRun.of ?_
  refine i_233_0 (x := a0) rfl ?_
  exact j_233_1 (Nat.le_of_ble_eq_true rfl) (p_168_2 e0 e1) (xDone.t xgl rfl rfl ⟨rfl, rfl⟩)
theorem p_232_5 {d : Nat} {w : xW} {a0 : Int32} (hw0 : w[128]? = some (Sum.inr (12, [Value.ref 129, Value.ref 131, Value.ref 133, Value.ref 135, Value.ref 137, Value.ref 139, Value.ref 141, Value.ref 143, Value.ref 145, Value.ref 147, Value.ref 149, Value.ref 151, Value.ref 153, Value.ref 154, Value.ref 155, Value.ref 156, Value.ref 157, Value.int (-16384), Value.int 16384, Value.int 0, Value.int 0, Value.int 0, Value.ref 158, Value.ref 159, Value.int 0, Value.int 0, Value.int 0, Value.int 0, Value.int 0, Value.int 0, Value.int 0, Value.int 0]))) (e1 : 0 ≤ a0.toInt) (e2 : 15 < a0.toInt) : xRun (d + 9) 232 [Value.ref 128, Value.int a0, Value.int 1] w (.inl (some (Value.int 0))) (((w.set 128 (Sum.inr (12, [Value.ref 129, Value.ref 131, Value.ref 133, Value.ref 135, Value.ref 137, Value.ref 139, Value.ref 141, Value.ref 143, Value.ref 145, Value.ref 147, Value.ref 149, Value.ref 151, Value.ref 153, Value.ref 154, Value.ref 155, Value.ref 156, Value.ref 157, Value.int (-16384), Value.int 16384, Value.int 0, Value.int 0, Value.int 0, Value.ref 158, Value.ref 159, Value.int 0, Value.int 0, Value.int 0, Value.int 0, Value.int 0, Value.int 0, Value.int 0, Value.int 0]))) ++ [Sum.inr (14, [])]).set 128 (Sum.inr (12, [Value.ref 129, Value.ref 131, Value.ref 133, Value.ref 135, Value.ref 137, Value.ref 139, Value.ref 141, Value.ref 143, Value.ref 145, Value.ref 147, Value.ref 149, Value.ref 151, Value.ref 153, Value.ref 154, Value.ref 155, Value.ref 156, Value.ref 157, Value.int (-16384), Value.int 16384, Value.int 0, Value.int 0, Value.int 0, Value.ref 158, Value.ref 159, Value.int 0, Value.int 0, Value.int 0, Value.int 0, Value.int 0, Value.int 0, Value.int 0, Value.int 1]))) := by
  refine xRun.of ?_
  refine i_232_0 (x := 128) rfl ?_
  refine i_232_1 ?_
  refine i_232_2 (fs2 := [Value.ref 129, Value.ref 131, Value.ref 133, Value.ref 135, Value.ref 137, Value.ref 139, Value.ref 141, Value.ref 143, Value.ref 145, Value.ref 147, Value.ref 149, Value.ref 151, Value.ref 153, Value.ref 154, Value.ref 155, Value.ref 156, Value.ref 157, Value.int (-16384), Value.int 16384, Value.int 0, Value.int 0, Value.int 0, Value.ref 158, Value.ref 159, Value.int 0, Value.int 0, Value.int 0, Value.int 0, Value.int 0, Value.int 0, Value.int 0, Value.int 0]) hw0 (Nat.le_of_ble_eq_true rfl) rfl (by decide) ?_
  refine i_232_5 (x := 128) rfl ?_
  refine i_232_6 (x := a0) rfl ?_
  refine i_232_7 (x := 1) rfl ?_
  refine j_232_8 (xgs hw0) (Nat.le_of_ble_eq_true rfl) (p_233_5 e1 e2) (xDone.c xgl rfl rfl ?_)
  refine i_232_12 (lv2 := [(3, Value.ref ((w.set 128 (Sum.inr (12, [Value.ref 129, Value.ref 131, Value.ref 133, Value.ref 135, Value.ref 137, Value.ref 139, Value.ref 141, Value.ref 143, Value.ref 145, Value.ref 147, Value.ref 149, Value.ref 151, Value.ref 153, Value.ref 154, Value.ref 155, Value.ref 156, Value.ref 157, Value.int (-16384), Value.int 16384, Value.int 0, Value.int 0, Value.int 0, Value.ref 158, Value.ref 159, Value.int 0, Value.int 0, Value.int 0, Value.int 0, Value.int 0, Value.int 0, Value.int 0, Value.int 0]))).length)), (0, Value.ref 128), (1, Value.int a0), (2, Value.int 1)]) rfl ?_
  refine i_232_13 (x := 128) rfl ?_
  refine i_232_14 ?_
  refine i_232_15 (fs2 := [Value.ref 129, Value.ref 131, Value.ref 133, Value.ref 135, Value.ref 137, Value.ref 139, Value.ref 141, Value.ref 143, Value.ref 145, Value.ref 147, Value.ref 149, Value.ref 151, Value.ref 153, Value.ref 154, Value.ref 155, Value.ref 156, Value.ref 157, Value.int (-16384), Value.int 16384, Value.int 0, Value.int 0, Value.int 0, Value.ref 158, Value.ref 159, Value.int 0, Value.int 0, Value.int 0, Value.int 0, Value.int 0, Value.int 0, Value.int 0, Value.int 1]) (xga (xgs hw0)) (Nat.le_of_ble_eq_true rfl) rfl (by decide) ?_
  refine i_232_18 ?_
  exact i_232_19 ⟨rfl, rfl⟩
theorem o_12_5 {d : Nat} {xs : Nat → Int32} (h0 : ((xs 0) &&& (31 : Int32)).toInt = 12) (c0 : (xs 2).toInt ≠ 0) (c1 : 0 ≤ (xs 1).toInt) (c2 : 16 ≤ (xs 1).toInt) : ∃ w1, xEv (d + 20) 287 23 [(4, Value.int 0), (3, Value.ref 194), (2, Value.ref 128), (1, Value.ref 7), (0, Value.ref 0)] [] (W0 6 xs) (fun o' w' => o' = .inl (some (Value.int 1)) ∧ w' = w1) ∧ w1.length ≤ 220 ∧ xsz w1 ≤ 200000 := by
  refine ⟨(((((W0 6 xs) ++ [Sum.inr (14, [])]).set 128 (Sum.inr (12, [Value.ref 129, Value.ref 131, Value.ref 133, Value.ref 135, Value.ref 137, Value.ref 139, Value.ref 141, Value.ref 143, Value.ref 145, Value.ref 147, Value.ref 149, Value.ref 151, Value.ref 153, Value.ref 154, Value.ref 155, Value.ref 156, Value.ref 157, Value.int (-16384), Value.int 16384, Value.int 0, Value.int 0, Value.int 0, Value.ref 158, Value.ref 159, Value.int 0, Value.int 0, Value.int 0, Value.int 0, Value.int 0, Value.int 0, Value.int 0, Value.int 0]))) ++ [Sum.inr (14, [])]).set 128 (Sum.inr (12, [Value.ref 129, Value.ref 131, Value.ref 133, Value.ref 135, Value.ref 137, Value.ref 139, Value.ref 141, Value.ref 143, Value.ref 145, Value.ref 147, Value.ref 149, Value.ref 151, Value.ref 153, Value.ref 154, Value.ref 155, Value.ref 156, Value.ref 157, Value.int (-16384), Value.int 16384, Value.int 0, Value.int 0, Value.int 0, Value.ref 158, Value.ref 159, Value.int 0, Value.int 0, Value.int 0, Value.int 0, Value.int 0, Value.int 0, Value.int 0, Value.int 1]))), ?_, (show xLs _ 220 200000 from ?_)⟩
  · refine i_287_23 (x := 0) rfl ?_
    refine i_287_25 (x := 0) rfl ?_
    refine i_287_26 (c := 6) W0_0 (by decide) ?_
    refine i_287_27 ?_
    refine i_287_29 (c := 0) (by decide) ?_
    refine i_287_30 (fun h => absurd h (by decide)) (fun _ => ?_)
    refine i_287_33 (x := 0) rfl ?_
    refine i_287_34 (x := 0) rfl ?_
    refine i_287_36 (v := Value.int (xs 0)) W0_0 (by decide) (by decide) rfl ?_
    refine i_287_37 ?_
    refine i_287_39 (c := ((xs 0) &&& (31 : Int32))) rfl ?_
    refine i_287_40_12 (by omega) ?_
    refine i_287_1253 (x := 7) rfl ?_
    refine i_287_1254 (x := 0) rfl ?_
    refine i_287_1255 (x := 0) rfl ?_
    refine i_287_1257 ?_
    refine i_287_1258 (c := 1) (by decide) ?_
    refine i_287_1259 (v := Value.int (xs 1)) W0_0 (by decide) (by decide) rfl ?_
    refine i_287_1260 (x := 0) rfl ?_
    refine i_287_1261 (x := 0) rfl ?_
    refine i_287_1263 ?_
    refine i_287_1264 (c := 2) (by decide) ?_
    refine i_287_1265 (v := Value.int (xs 2)) W0_0 (by decide) (by decide) rfl ?_
    refine i_287_1266 (fun h => absurd (show (xs 2).toInt ≠ 0 by omega) (fun g => g h)) (fun _ => ?_)
    refine i_287_1269 ?_
    refine i_287_1270 ?_
    refine i_287_1274 (x := 194) rfl ?_
    refine i_287_1275 (Nat.le_of_ble_eq_true rfl) (p_116_5 W0_7 (by omega) (by omega)) ?_
    refine i_287_1278 (lv2 := [(5, Value.int 1), (4, Value.int 0), (3, Value.ref 194), (2, Value.ref 128), (1, Value.ref 7), (0, Value.ref 0)]) rfl ?_
    refine i_287_1280 (x := 128) rfl ?_
    refine i_287_1281 (x := 0) rfl ?_
    refine i_287_1282 (x := 0) rfl ?_
    refine i_287_1284 ?_
    refine i_287_1285 (c := 1) (by decide) ?_
    refine i_287_1286 (v := Value.int (xs 1)) (xga W0_0) (by decide) (by decide) rfl ?_
    refine i_287_1287 (x := 0) rfl ?_
    refine i_287_1288 (x := 0) rfl ?_
    refine i_287_1290 ?_
    refine i_287_1291 (c := 2) (by decide) ?_
    refine i_287_1292 (v := Value.int (xs 2)) (xga W0_0) (by decide) (by decide) rfl ?_
    refine i_287_1293 (fun h => absurd (show (xs 2).toInt ≠ 0 by omega) (fun g => g h)) (fun _ => ?_)
    refine i_287_1296 ?_
    refine i_287_1297 ?_
    refine i_287_1301 (xga W0_128) (Nat.le_of_ble_eq_true rfl) (p_232_5 (xga W0_128) (by omega) (by omega)) ?_
    refine i_287_1304 (lv2 := [(6, Value.int 0), (5, Value.int 1), (4, Value.int 0), (3, Value.ref 194), (2, Value.ref 128), (1, Value.ref 7), (0, Value.ref 0)]) rfl ?_
    refine i_287_1306 (x := 128) rfl ?_
    refine i_287_1307 (xgs (xga (xgs (xga W0_128)))) (Nat.le_of_ble_eq_true rfl) (p_165_0 (xgs (xga (xgs (xga W0_128))))) ?_
    refine i_287_1310 (x := 1) rfl ?_
    refine i_287_1312 (fun _ => ?_) (fun h => absurd h (by decide))
    refine i_287_1317 (x := 1) rfl ?_
    refine i_287_1319 (fun _ => ?_) (fun h => absurd h (by decide))
    refine i_287_1334 ?_
    refine i_287_2154 (x := 0) (c := 6) (lv2 := [(4, Value.int 6), (6, Value.int 0), (5, Value.int 1), (3, Value.ref 194), (2, Value.ref 128), (1, Value.ref 7), (0, Value.ref 0)]) rfl (by decide) rfl ?_
    refine i_287_2157 ?_
    refine i_287_23 (x := 6) rfl ?_
    refine i_287_25 (x := 0) rfl ?_
    refine i_287_26 (c := 6) (xgn (by decide) (xga (xgn (by decide) (xga W0_0)))) (by decide) ?_
    refine i_287_27 ?_
    refine i_287_29 (c := 0) (by decide) ?_
    refine i_287_30 (fun _ => ?_) (fun h => absurd h (by decide))
    refine i_287_2160 ?_
    exact i_287_2161 rfl ⟨rfl, rfl⟩
  · refine xLs.set ?_ (xga (xgs (xga W0_128))) xcs_o
    refine xLs.app (n := 219) (z := 199994) (m := 6) ?_ rfl
    refine xLs.set ?_ (xga W0_128) xcs_o
    refine xLs.app (n := 218) (z := 199988) (m := 6) ?_ rfl
    exact ⟨Nat.le_trans (Nat.le_of_eq W0_len) (by decide), Nat.le_trans (Nat.le_of_eq W0_sz) (by decide)⟩
theorem op_12 {d : Nat} {xs : Nat → Int32} (h0 : ((xs 0) &&& (31 : Int32)).toInt = 12) : ∃ w1, xEv (d + 20) 287 23 [(4, Value.int 0), (3, Value.ref 194), (2, Value.ref 128), (1, Value.ref 7), (0, Value.ref 0)] [] (W0 6 xs) (fun o' w' => o' = .inl (some (Value.int 1)) ∧ w' = w1) ∧ w1.length ≤ 220 ∧ xsz w1 ≤ 200000 := by
  by_cases c0 : (xs 2).toInt = 0
  · rcases Int.lt_or_le (xs 1).toInt (0) with c1 | c1
    · exact o_12_0 h0 c0 c1
    · rcases Int.lt_or_le (xs 1).toInt (16) with c2 | c2
      · exact o_12_1 h0 c0 c1 c2
      · exact o_12_2 h0 c0 c1 c2
  · rcases Int.lt_or_le (xs 1).toInt (0) with c1 | c1
    · exact o_12_3 h0 c0 c1
    · rcases Int.lt_or_le (xs 1).toInt (16) with c2 | c2
      · exact o_12_4 h0 c0 c1 c2
      · exact o_12_5 h0 c0 c1 c2
theorem p_122_0 {d : Nat} {w : xW} {a0 : Int32} {a1 : Int32} (e0 : a0.toInt < 0) : xRun (d + 6) 122 [Value.ref 7, Value.int a0, Value.int a1] w (.inr w.length) (w ++ [Sum.inr (14, [])]) := by
  refine xRun.of ?_
  refine i_122_0 (x := a0) rfl ?_
  refine i_122_1 (Nat.le_of_ble_eq_true rfl) (p_15_0 e0) ?_
  refine i_122_4 (fun _ => ?_) (fun h => absurd h (by decide))
  exact i_122_14 (by omega) (Nat.le_of_ble_eq_true rfl) ⟨rfl, rfl⟩
theorem p_121_0 {d : Nat} {w : xW} {a0 : Int32} {a1 : Int32} (hw0 : w[7]? = some (Sum.inr (0, [Value.ref 8, Value.ref 78, Value.ref 9, Value.ref 10, Value.ref 13, Value.ref 16, Value.ref 19, Value.ref 93, Value.ref 108, Value.ref 113, Value.ref 29, Value.int 0]))) (e1 : a0.toInt < 0) : xRun (d + 7) 121 [Value.ref 7, Value.int a0, Value.int a1, Value.ref 194] w (.inl (some (Value.int 1))) (w ++ [Sum.inr (14, [])]) := by
  refine xRun.of ?_
  refine i_121_0 (x := 194) rfl ?_
  refine i_121_1 ?_
  refine i_121_2 (x := 7) rfl ?_
  refine i_121_3 (x := a0) rfl ?_
  refine i_121_4 (x := a1) rfl ?_
  refine j_121_5 hw0 (Nat.le_of_ble_eq_true rfl) (p_122_0 e1) (xDone.c xgl rfl rfl ?_)
  refine i_121_13 (lv2 := [(4, Value.ref w.length), (0, Value.ref 7), (1, Value.int a0), (2, Value.int a1), (3, Value.ref 194)]) rfl ?_
  refine i_121_15 ?_
  exact i_121_16 ⟨rfl, rfl⟩
theorem p_238_0 {d : Nat} {w : xW} {a0 : Int32} {a1 : Int32} (e0 : a0.toInt < 0) : xRun (d + 8) 238 [Value.ref 128, Value.int a0, Value.int a1] w (.inr w.length) (w ++ [Sum.inr (14, [])]) := by
  refine xRun.of ?_
  refine i_238_0 (x := a0) rfl ?_
  exact j_238_1 (Nat.le_of_ble_eq_true rfl) (p_168_0 e0) (xDone.t xgl rfl rfl ⟨rfl, rfl⟩)
theorem p_237_0 {d : Nat} {w : xW} {a0 : Int32} {a1 : Int32} (hw0 : w[128]? = some (Sum.inr (12, [Value.ref 129, Value.ref 131, Value.ref 133, Value.ref 135, Value.ref 137, Value.ref 139, Value.ref 141, Value.ref 143, Value.ref 145, Value.ref 147, Value.ref 149, Value.ref 151, Value.ref 153, Value.ref 154, Value.ref 155, Value.ref 156, Value.ref 157, Value.int (-16384), Value.int 16384, Value.int 0, Value.int 0, Value.int 0, Value.ref 158, Value.ref 159, Value.int 0, Value.int 0, Value.int 0, Value.int 0, Value.int 0, Value.int 0, Value.int 0, Value.int 0]))) (e1 : a0.toInt < 0) : xRun (d + 9) 237 [Value.ref 128, Value.int a0, Value.int a1] w (.inl (some (Value.int 0))) (((w.set 128 (Sum.inr (12, [Value.ref 129, Value.ref 131, Value.ref 133, Value.ref 135, Value.ref 137, Value.ref 139, Value.ref 141, Value.ref 143, Value.ref 145, Value.ref 147, Value.ref 149, Value.ref 151, Value.ref 153, Value.ref 154, Value.ref 155, Value.ref 156, Value.ref 157, Value.int (-16384), Value.int 16384, Value.int 0, Value.int 0, Value.int 0, Value.ref 158, Value.ref 159, Value.int 0, Value.int 0, Value.int 0, Value.int 0, Value.int 0, Value.int 0, Value.int 0, Value.int 0]))) ++ [Sum.inr (14, [])]).set 128 (Sum.inr (12, [Value.ref 129, Value.ref 131, Value.ref 133, Value.ref 135, Value.ref 137, Value.ref 139, Value.ref 141, Value.ref 143, Value.ref 145, Value.ref 147, Value.ref 149, Value.ref 151, Value.ref 153, Value.ref 154, Value.ref 155, Value.ref 156, Value.ref 157, Value.int (-16384), Value.int 16384, Value.int 0, Value.int 0, Value.int 0, Value.ref 158, Value.ref 159, Value.int 0, Value.int 0, Value.int 0, Value.int 0, Value.int 0, Value.int 0, Value.int 0, Value.int 1]))) := by
  refine xRun.of ?_
  refine i_237_0 (x := 128) rfl ?_
  refine i_237_1 ?_
  refine i_237_2 (fs2 := [Value.ref 129, Value.ref 131, Value.ref 133, Value.ref 135, Value.ref 137, Value.ref 139, Value.ref 141, Value.ref 143, Value.ref 145, Value.ref 147, Value.ref 149, Value.ref 151, Value.ref 153, Value.ref 154, Value.ref 155, Value.ref 156, Value.ref 157, Value.int (-16384), Value.int 16384, Value.int 0, Value.int 0, Value.int 0, Value.ref 158, Value.ref 159, Value.int 0, Value.int 0, Value.int 0, Value.int 0, Value.int 0, Value.int 0, Value.int 0, Value.int 0]) hw0 (Nat.le_of_ble_eq_true rfl) rfl (by decide) ?_
  refine i_237_5 (x := 128) rfl ?_
  refine i_237_6 (x := a0) rfl ?_
  refine i_237_7 (x := a1) rfl ?_
  refine j_237_8 (xgs hw0) (Nat.le_of_ble_eq_true rfl) (p_238_0 e1) (xDone.c xgl rfl rfl ?_)
  refine i_237_12 (lv2 := [(3, Value.ref ((w.set 128 (Sum.inr (12, [Value.ref 129, Value.ref 131, Value.ref 133, Value.ref 135, Value.ref 137, Value.ref 139, Value.ref 141, Value.ref 143, Value.ref 145, Value.ref 147, Value.ref 149, Value.ref 151, Value.ref 153, Value.ref 154, Value.ref 155, Value.ref 156, Value.ref 157, Value.int (-16384), Value.int 16384, Value.int 0, Value.int 0, Value.int 0, Value.ref 158, Value.ref 159, Value.int 0, Value.int 0, Value.int 0, Value.int 0, Value.int 0, Value.int 0, Value.int 0, Value.int 0]))).length)), (0, Value.ref 128), (1, Value.int a0), (2, Value.int a1)]) rfl ?_
  refine i_237_13 (x := 128) rfl ?_
  refine i_237_14 ?_
  refine i_237_15 (fs2 := [Value.ref 129, Value.ref 131, Value.ref 133, Value.ref 135, Value.ref 137, Value.ref 139, Value.ref 141, Value.ref 143, Value.ref 145, Value.ref 147, Value.ref 149, Value.ref 151, Value.ref 153, Value.ref 154, Value.ref 155, Value.ref 156, Value.ref 157, Value.int (-16384), Value.int 16384, Value.int 0, Value.int 0, Value.int 0, Value.ref 158, Value.ref 159, Value.int 0, Value.int 0, Value.int 0, Value.int 0, Value.int 0, Value.int 0, Value.int 0, Value.int 1]) (xga (xgs hw0)) (Nat.le_of_ble_eq_true rfl) rfl (by decide) ?_
  refine i_237_18 ?_
  refine i_237_27 ?_
  exact i_237_28 ⟨rfl, rfl⟩
theorem o_13_0 {d : Nat} {xs : Nat → Int32} (h0 : ((xs 0) &&& (31 : Int32)).toInt = 13) (c0 : (xs 1).toInt < 0) : ∃ w1, xEv (d + 20) 287 23 [(4, Value.int 0), (3, Value.ref 194), (2, Value.ref 128), (1, Value.ref 7), (0, Value.ref 0)] [] (W0 6 xs) (fun o' w' => o' = .inl (some (Value.int 1)) ∧ w' = w1) ∧ w1.length ≤ 220 ∧ xsz w1 ≤ 200000 := by
  refine ⟨(((((W0 6 xs) ++ [Sum.inr (14, [])]).set 128 (Sum.inr (12, [Value.ref 129, Value.ref 131, Value.ref 133, Value.ref 135, Value.ref 137, Value.ref 139, Value.ref 141, Value.ref 143, Value.ref 145, Value.ref 147, Value.ref 149, Value.ref 151, Value.ref 153, Value.ref 154, Value.ref 155, Value.ref 156, Value.ref 157, Value.int (-16384), Value.int 16384, Value.int 0, Value.int 0, Value.int 0, Value.ref 158, Value.ref 159, Value.int 0, Value.int 0, Value.int 0, Value.int 0, Value.int 0, Value.int 0, Value.int 0, Value.int 0]))) ++ [Sum.inr (14, [])]).set 128 (Sum.inr (12, [Value.ref 129, Value.ref 131, Value.ref 133, Value.ref 135, Value.ref 137, Value.ref 139, Value.ref 141, Value.ref 143, Value.ref 145, Value.ref 147, Value.ref 149, Value.ref 151, Value.ref 153, Value.ref 154, Value.ref 155, Value.ref 156, Value.ref 157, Value.int (-16384), Value.int 16384, Value.int 0, Value.int 0, Value.int 0, Value.ref 158, Value.ref 159, Value.int 0, Value.int 0, Value.int 0, Value.int 0, Value.int 0, Value.int 0, Value.int 0, Value.int 1]))), ?_, (show xLs _ 220 200000 from ?_)⟩
  · refine i_287_23 (x := 0) rfl ?_
    refine i_287_25 (x := 0) rfl ?_
    refine i_287_26 (c := 6) W0_0 (by decide) ?_
    refine i_287_27 ?_
    refine i_287_29 (c := 0) (by decide) ?_
    refine i_287_30 (fun h => absurd h (by decide)) (fun _ => ?_)
    refine i_287_33 (x := 0) rfl ?_
    refine i_287_34 (x := 0) rfl ?_
    refine i_287_36 (v := Value.int (xs 0)) W0_0 (by decide) (by decide) rfl ?_
    refine i_287_37 ?_
    refine i_287_39 (c := ((xs 0) &&& (31 : Int32))) rfl ?_
    refine i_287_40_13 (by omega) ?_
    refine i_287_1337 (x := 7) rfl ?_
    refine i_287_1338 (x := 0) rfl ?_
    refine i_287_1339 (x := 0) rfl ?_
    refine i_287_1341 ?_
    refine i_287_1342 (c := 1) (by decide) ?_
    refine i_287_1343 (v := Value.int (xs 1)) W0_0 (by decide) (by decide) rfl ?_
    refine i_287_1344 (x := 0) rfl ?_
    refine i_287_1345 (x := 0) rfl ?_
    refine i_287_1347 ?_
    refine i_287_1348 (c := 2) (by decide) ?_
    refine i_287_1349 (v := Value.int (xs 2)) W0_0 (by decide) (by decide) rfl ?_
    refine i_287_1350 (x := 194) rfl ?_
    refine i_287_1351 (Nat.le_of_ble_eq_true rfl) (p_121_0 W0_7 (by omega)) ?_
    refine i_287_1354 (lv2 := [(5, Value.int 1), (4, Value.int 0), (3, Value.ref 194), (2, Value.ref 128), (1, Value.ref 7), (0, Value.ref 0)]) rfl ?_
    refine i_287_1356 (x := 128) rfl ?_
    refine i_287_1357 (x := 0) rfl ?_
    refine i_287_1358 (x := 0) rfl ?_
    refine i_287_1360 ?_
    refine i_287_1361 (c := 1) (by decide) ?_
    refine i_287_1362 (v := Value.int (xs 1)) (xga W0_0) (by decide) (by decide) rfl ?_
    refine i_287_1363 (x := 0) rfl ?_
    refine i_287_1364 (x := 0) rfl ?_
    refine i_287_1366 ?_
    refine i_287_1367 (c := 2) (by decide) ?_
    refine i_287_1368 (v := Value.int (xs 2)) (xga W0_0) (by decide) (by decide) rfl ?_
    refine i_287_1369 (xga W0_128) (Nat.le_of_ble_eq_true rfl) (p_237_0 (xga W0_128) (by omega)) ?_
    refine i_287_1372 (lv2 := [(6, Value.int 0), (5, Value.int 1), (4, Value.int 0), (3, Value.ref 194), (2, Value.ref 128), (1, Value.ref 7), (0, Value.ref 0)]) rfl ?_
    refine i_287_1374 (x := 128) rfl ?_
    refine i_287_1375 (xgs (xga (xgs (xga W0_128)))) (Nat.le_of_ble_eq_true rfl) (p_165_0 (xgs (xga (xgs (xga W0_128))))) ?_
    refine i_287_1378 (x := 1) rfl ?_
    refine i_287_1380 (fun _ => ?_) (fun h => absurd h (by decide))
    refine i_287_1385 (x := 1) rfl ?_
    refine i_287_1387 (fun _ => ?_) (fun h => absurd h (by decide))
    refine i_287_1402 ?_
    refine i_287_2154 (x := 0) (c := 6) (lv2 := [(4, Value.int 6), (6, Value.int 0), (5, Value.int 1), (3, Value.ref 194), (2, Value.ref 128), (1, Value.ref 7), (0, Value.ref 0)]) rfl (by decide) rfl ?_
    refine i_287_2157 ?_
    refine i_287_23 (x := 6) rfl ?_
    refine i_287_25 (x := 0) rfl ?_
    refine i_287_26 (c := 6) (xgn (by decide) (xga (xgn (by decide) (xga W0_0)))) (by decide) ?_
    refine i_287_27 ?_
    refine i_287_29 (c := 0) (by decide) ?_
    refine i_287_30 (fun _ => ?_) (fun h => absurd h (by decide))
    refine i_287_2160 ?_
    exact i_287_2161 rfl ⟨rfl, rfl⟩
  · refine xLs.set ?_ (xga (xgs (xga W0_128))) xcs_o
    refine xLs.app (n := 219) (z := 199994) (m := 6) ?_ rfl
    refine xLs.set ?_ (xga W0_128) xcs_o
    refine xLs.app (n := 218) (z := 199988) (m := 6) ?_ rfl
    exact ⟨Nat.le_trans (Nat.le_of_eq W0_len) (by decide), Nat.le_trans (Nat.le_of_eq W0_sz) (by decide)⟩
theorem p_122_1 {d : Nat} {w : xW} {a0 : Int32} {a1 : Int32} (e0 : 0 ≤ a0.toInt) (e1 : a0.toInt < 16) (e2 : a1.toInt < 0) : xRun (d + 6) 122 [Value.ref 7, Value.int a0, Value.int a1] w (.inr w.length) (w ++ [Sum.inr (14, [])]) := by
  refine xRun.of ?_
  refine i_122_0 (x := a0) rfl ?_
  refine i_122_1 (Nat.le_of_ble_eq_true rfl) (p_15_1 e0 e1) ?_
  refine i_122_4 (fun h => absurd h (by decide)) (fun _ => ?_)
  refine i_122_7 (x := a1) rfl ?_
  refine i_122_8 (Nat.le_of_ble_eq_true rfl) (p_15_0 e2) ?_
  refine i_122_11 (fun h => absurd h (by decide)) (fun _ => ?_)
  exact i_122_14 (by omega) (Nat.le_of_ble_eq_true rfl) ⟨rfl, rfl⟩
theorem p_121_1 {d : Nat} {w : xW} {a0 : Int32} {a1 : Int32} (hw0 : w[7]? = some (Sum.inr (0, [Value.ref 8, Value.ref 78, Value.ref 9, Value.ref 10, Value.ref 13, Value.ref 16, Value.ref 19, Value.ref 93, Value.ref 108, Value.ref 113, Value.ref 29, Value.int 0]))) (e1 : 0 ≤ a0.toInt) (e2 : a0.toInt < 16) (e3 : a1.toInt < 0) : xRun (d + 7) 121 [Value.ref 7, Value.int a0, Value.int a1, Value.ref 194] w (.inl (some (Value.int 1))) (w ++ [Sum.inr (14, [])]) := by
  refine xRun.of ?_
  refine i_121_0 (x := 194) rfl ?_
  refine i_121_1 ?_
  refine i_121_2 (x := 7) rfl ?_
  refine i_121_3 (x := a0) rfl ?_
  refine i_121_4 (x := a1) rfl ?_
  refine j_121_5 hw0 (Nat.le_of_ble_eq_true rfl) (p_122_1 e1 e2 e3) (xDone.c xgl rfl rfl ?_)
  refine i_121_13 (lv2 := [(4, Value.ref w.length), (0, Value.ref 7), (1, Value.int a0), (2, Value.int a1), (3, Value.ref 194)]) rfl ?_
  refine i_121_15 ?_
  exact i_121_16 ⟨rfl, rfl⟩
theorem p_238_1 {d : Nat} {w : xW} {a0 : Int32} {a1 : Int32} (e0 : 0 ≤ a0.toInt) (e1 : a0.toInt ≤ 15) (e2 : a1.toInt < 0) : xRun (d + 8) 238 [Value.ref 128, Value.int a0, Value.int a1] w (.inr w.length) (w ++ [Sum.inr (14, [])]) := by
  refine xRun.of ?_
  refine i_238_0 (x := a0) rfl ?_
  refine i_238_1 (Nat.le_of_ble_eq_true rfl) (p_168_1 e0 e1) ?_
  refine i_238_4 (x := a1) rfl ?_
  exact j_238_5 (Nat.le_of_ble_eq_true rfl) (p_168_0 e2) (xDone.t xgl rfl rfl ⟨rfl, rfl⟩)
theorem p_237_1 {d : Nat} {w : xW} {a0 : Int32} {a1 : Int32} (hw0 : w[128]? = some (Sum.inr (12, [Value.ref 129, Value.ref 131, Value.ref 133, Value.ref 135, Value.ref 137, Value.ref 139, Value.ref 141, Value.ref 143, Value.ref 145, Value.ref 147, Value.ref 149, Value.ref 151, Value.ref 153, Value.ref 154, Value.ref 155, Value.ref 156, Value.ref 157, Value.int (-16384), Value.int 16384, Value.int 0, Value.int 0, Value.int 0, Value.ref 158, Value.ref 159, Value.int 0, Value.int 0, Value.int 0, Value.int 0, Value.int 0, Value.int 0, Value.int 0, Value.int 0]))) (e1 : 0 ≤ a0.toInt) (e2 : a0.toInt ≤ 15) (e3 : a1.toInt < 0) : xRun (d + 9) 237 [Value.ref 128, Value.int a0, Value.int a1] w (.inl (some (Value.int 0))) (((w.set 128 (Sum.inr (12, [Value.ref 129, Value.ref 131, Value.ref 133, Value.ref 135, Value.ref 137, Value.ref 139, Value.ref 141, Value.ref 143, Value.ref 145, Value.ref 147, Value.ref 149, Value.ref 151, Value.ref 153, Value.ref 154, Value.ref 155, Value.ref 156, Value.ref 157, Value.int (-16384), Value.int 16384, Value.int 0, Value.int 0, Value.int 0, Value.ref 158, Value.ref 159, Value.int 0, Value.int 0, Value.int 0, Value.int 0, Value.int 0, Value.int 0, Value.int 0, Value.int 0]))) ++ [Sum.inr (14, [])]).set 128 (Sum.inr (12, [Value.ref 129, Value.ref 131, Value.ref 133, Value.ref 135, Value.ref 137, Value.ref 139, Value.ref 141, Value.ref 143, Value.ref 145, Value.ref 147, Value.ref 149, Value.ref 151, Value.ref 153, Value.ref 154, Value.ref 155, Value.ref 156, Value.ref 157, Value.int (-16384), Value.int 16384, Value.int 0, Value.int 0, Value.int 0, Value.ref 158, Value.ref 159, Value.int 0, Value.int 0, Value.int 0, Value.int 0, Value.int 0, Value.int 0, Value.int 0, Value.int 1]))) := by
  refine xRun.of ?_
  refine i_237_0 (x := 128) rfl ?_
  refine i_237_1 ?_
  refine i_237_2 (fs2 := [Value.ref 129, Value.ref 131, Value.ref 133, Value.ref 135, Value.ref 137, Value.ref 139, Value.ref 141, Value.ref 143, Value.ref 145, Value.ref 147, Value.ref 149, Value.ref 151, Value.ref 153, Value.ref 154, Value.ref 155, Value.ref 156, Value.ref 157, Value.int (-16384), Value.int 16384, Value.int 0, Value.int 0, Value.int 0, Value.ref 158, Value.ref 159, Value.int 0, Value.int 0, Value.int 0, Value.int 0, Value.int 0, Value.int 0, Value.int 0, Value.int 0]) hw0 (Nat.le_of_ble_eq_true rfl) rfl (by decide) ?_
  refine i_237_5 (x := 128) rfl ?_
  refine i_237_6 (x := a0) rfl ?_
  refine i_237_7 (x := a1) rfl ?_
  refine j_237_8 (xgs hw0) (Nat.le_of_ble_eq_true rfl) (p_238_1 e1 e2 e3) (xDone.c xgl rfl rfl ?_)
  refine i_237_12 (lv2 := [(3, Value.ref ((w.set 128 (Sum.inr (12, [Value.ref 129, Value.ref 131, Value.ref 133, Value.ref 135, Value.ref 137, Value.ref 139, Value.ref 141, Value.ref 143, Value.ref 145, Value.ref 147, Value.ref 149, Value.ref 151, Value.ref 153, Value.ref 154, Value.ref 155, Value.ref 156, Value.ref 157, Value.int (-16384), Value.int 16384, Value.int 0, Value.int 0, Value.int 0, Value.ref 158, Value.ref 159, Value.int 0, Value.int 0, Value.int 0, Value.int 0, Value.int 0, Value.int 0, Value.int 0, Value.int 0]))).length)), (0, Value.ref 128), (1, Value.int a0), (2, Value.int a1)]) rfl ?_
  refine i_237_13 (x := 128) rfl ?_
  refine i_237_14 ?_
  refine i_237_15 (fs2 := [Value.ref 129, Value.ref 131, Value.ref 133, Value.ref 135, Value.ref 137, Value.ref 139, Value.ref 141, Value.ref 143, Value.ref 145, Value.ref 147, Value.ref 149, Value.ref 151, Value.ref 153, Value.ref 154, Value.ref 155, Value.ref 156, Value.ref 157, Value.int (-16384), Value.int 16384, Value.int 0, Value.int 0, Value.int 0, Value.ref 158, Value.ref 159, Value.int 0, Value.int 0, Value.int 0, Value.int 0, Value.int 0, Value.int 0, Value.int 0, Value.int 1]) (xga (xgs hw0)) (Nat.le_of_ble_eq_true rfl) rfl (by decide) ?_
  refine i_237_18 ?_
  refine i_237_27 ?_
  exact i_237_28 ⟨rfl, rfl⟩
theorem o_13_1 {d : Nat} {xs : Nat → Int32} (h0 : ((xs 0) &&& (31 : Int32)).toInt = 13) (c0 : 0 ≤ (xs 1).toInt) (c1 : (xs 1).toInt < 16) (c2 : (xs 2).toInt < 0) : ∃ w1, xEv (d + 20) 287 23 [(4, Value.int 0), (3, Value.ref 194), (2, Value.ref 128), (1, Value.ref 7), (0, Value.ref 0)] [] (W0 6 xs) (fun o' w' => o' = .inl (some (Value.int 1)) ∧ w' = w1) ∧ w1.length ≤ 220 ∧ xsz w1 ≤ 200000 := by
  refine ⟨(((((W0 6 xs) ++ [Sum.inr (14, [])]).set 128 (Sum.inr (12, [Value.ref 129, Value.ref 131, Value.ref 133, Value.ref 135, Value.ref 137, Value.ref 139, Value.ref 141, Value.ref 143, Value.ref 145, Value.ref 147, Value.ref 149, Value.ref 151, Value.ref 153, Value.ref 154, Value.ref 155, Value.ref 156, Value.ref 157, Value.int (-16384), Value.int 16384, Value.int 0, Value.int 0, Value.int 0, Value.ref 158, Value.ref 159, Value.int 0, Value.int 0, Value.int 0, Value.int 0, Value.int 0, Value.int 0, Value.int 0, Value.int 0]))) ++ [Sum.inr (14, [])]).set 128 (Sum.inr (12, [Value.ref 129, Value.ref 131, Value.ref 133, Value.ref 135, Value.ref 137, Value.ref 139, Value.ref 141, Value.ref 143, Value.ref 145, Value.ref 147, Value.ref 149, Value.ref 151, Value.ref 153, Value.ref 154, Value.ref 155, Value.ref 156, Value.ref 157, Value.int (-16384), Value.int 16384, Value.int 0, Value.int 0, Value.int 0, Value.ref 158, Value.ref 159, Value.int 0, Value.int 0, Value.int 0, Value.int 0, Value.int 0, Value.int 0, Value.int 0, Value.int 1]))), ?_, (show xLs _ 220 200000 from ?_)⟩
  · refine i_287_23 (x := 0) rfl ?_
    refine i_287_25 (x := 0) rfl ?_
    refine i_287_26 (c := 6) W0_0 (by decide) ?_
    refine i_287_27 ?_
    refine i_287_29 (c := 0) (by decide) ?_
    refine i_287_30 (fun h => absurd h (by decide)) (fun _ => ?_)
    refine i_287_33 (x := 0) rfl ?_
    refine i_287_34 (x := 0) rfl ?_
    refine i_287_36 (v := Value.int (xs 0)) W0_0 (by decide) (by decide) rfl ?_
    refine i_287_37 ?_
    refine i_287_39 (c := ((xs 0) &&& (31 : Int32))) rfl ?_
    refine i_287_40_13 (by omega) ?_
    refine i_287_1337 (x := 7) rfl ?_
    refine i_287_1338 (x := 0) rfl ?_
    refine i_287_1339 (x := 0) rfl ?_
    refine i_287_1341 ?_
    refine i_287_1342 (c := 1) (by decide) ?_
    refine i_287_1343 (v := Value.int (xs 1)) W0_0 (by decide) (by decide) rfl ?_
    refine i_287_1344 (x := 0) rfl ?_
    refine i_287_1345 (x := 0) rfl ?_
    refine i_287_1347 ?_
    refine i_287_1348 (c := 2) (by decide) ?_
    refine i_287_1349 (v := Value.int (xs 2)) W0_0 (by decide) (by decide) rfl ?_
    refine i_287_1350 (x := 194) rfl ?_
    refine i_287_1351 (Nat.le_of_ble_eq_true rfl) (p_121_1 W0_7 (by omega) (by omega) (by omega)) ?_
    refine i_287_1354 (lv2 := [(5, Value.int 1), (4, Value.int 0), (3, Value.ref 194), (2, Value.ref 128), (1, Value.ref 7), (0, Value.ref 0)]) rfl ?_
    refine i_287_1356 (x := 128) rfl ?_
    refine i_287_1357 (x := 0) rfl ?_
    refine i_287_1358 (x := 0) rfl ?_
    refine i_287_1360 ?_
    refine i_287_1361 (c := 1) (by decide) ?_
    refine i_287_1362 (v := Value.int (xs 1)) (xga W0_0) (by decide) (by decide) rfl ?_
    refine i_287_1363 (x := 0) rfl ?_
    refine i_287_1364 (x := 0) rfl ?_
    refine i_287_1366 ?_
    refine i_287_1367 (c := 2) (by decide) ?_
    refine i_287_1368 (v := Value.int (xs 2)) (xga W0_0) (by decide) (by decide) rfl ?_
    refine i_287_1369 (xga W0_128) (Nat.le_of_ble_eq_true rfl) (p_237_1 (xga W0_128) (by omega) (by omega) (by omega)) ?_
    refine i_287_1372 (lv2 := [(6, Value.int 0), (5, Value.int 1), (4, Value.int 0), (3, Value.ref 194), (2, Value.ref 128), (1, Value.ref 7), (0, Value.ref 0)]) rfl ?_
    refine i_287_1374 (x := 128) rfl ?_
    refine i_287_1375 (xgs (xga (xgs (xga W0_128)))) (Nat.le_of_ble_eq_true rfl) (p_165_0 (xgs (xga (xgs (xga W0_128))))) ?_
    refine i_287_1378 (x := 1) rfl ?_
    refine i_287_1380 (fun _ => ?_) (fun h => absurd h (by decide))
    refine i_287_1385 (x := 1) rfl ?_
    refine i_287_1387 (fun _ => ?_) (fun h => absurd h (by decide))
    refine i_287_1402 ?_
    refine i_287_2154 (x := 0) (c := 6) (lv2 := [(4, Value.int 6), (6, Value.int 0), (5, Value.int 1), (3, Value.ref 194), (2, Value.ref 128), (1, Value.ref 7), (0, Value.ref 0)]) rfl (by decide) rfl ?_
    refine i_287_2157 ?_
    refine i_287_23 (x := 6) rfl ?_
    refine i_287_25 (x := 0) rfl ?_
    refine i_287_26 (c := 6) (xgn (by decide) (xga (xgn (by decide) (xga W0_0)))) (by decide) ?_
    refine i_287_27 ?_
    refine i_287_29 (c := 0) (by decide) ?_
    refine i_287_30 (fun _ => ?_) (fun h => absurd h (by decide))
    refine i_287_2160 ?_
    exact i_287_2161 rfl ⟨rfl, rfl⟩
  · refine xLs.set ?_ (xga (xgs (xga W0_128))) xcs_o
    refine xLs.app (n := 219) (z := 199994) (m := 6) ?_ rfl
    refine xLs.set ?_ (xga W0_128) xcs_o
    refine xLs.app (n := 218) (z := 199988) (m := 6) ?_ rfl
    exact ⟨Nat.le_trans (Nat.le_of_eq W0_len) (by decide), Nat.le_trans (Nat.le_of_eq W0_sz) (by decide)⟩
theorem p_122_2 {d : Nat} {w : xW} {a0 : Int32} {a1 : Int32} {g0 : Nat → Value} {h0 : Nat} {h1 : Nat} (e0 : 0 ≤ a0.toInt) (e1 : a0.toInt < 16) (e2 : 0 ≤ a1.toInt) (e3 : a1.toInt < 16) (hw4 : w[7]? = some (Sum.inr (0, [Value.ref 8, Value.ref 78, Value.ref 9, Value.ref 10, Value.ref 13, Value.ref 16, Value.ref 19, Value.ref 93, Value.ref 108, Value.ref 113, Value.ref 29, Value.int 0]))) (hw5 : w[8]? = some (Sum.inl (4, 16, g0))) (hg6 : g0 a0.toInt.toNat = Value.ref h0) (hw7 : w[h0]? = some (Sum.inr (2, [Value.int 64, Value.int 0, Value.int 0, Value.int 0, Value.ref h1]))) (hw8 : w[78]? = some (Sum.inr (1, [Value.int (-16384), Value.int 16384, Value.int 0, Value.int 0]))) : xRun (d + 6) 122 [Value.ref 7, Value.int a0, Value.int a1] w (.inr ((w.set 78 (Sum.inr (1, [Value.int (-16384), Value.int 16384, Value.int 0, Value.int 32]))).length)) ((w.set 78 (Sum.inr (1, [Value.int (-16384), Value.int 16384, Value.int 0, Value.int 32]))) ++ [Sum.inr (15, [])]) := by
  refine xRun.of ?_
  refine i_122_0 (x := a0) rfl ?_
  refine i_122_1 (Nat.le_of_ble_eq_true rfl) (p_15_1 e0 e1) ?_
  refine i_122_4 (fun h => absurd h (by decide)) (fun _ => ?_)
  refine i_122_7 (x := a1) rfl ?_
  refine i_122_8 (Nat.le_of_ble_eq_true rfl) (p_15_1 e2 e3) ?_
  refine i_122_11 (fun _ => ?_) (fun h => absurd h (by decide))
  refine i_122_22 (x := 7) rfl ?_
  refine i_122_23 (v := Value.ref 8) hw4 rfl ?_
  refine i_122_26 (x := a0) rfl ?_
  refine i_122_27 (v := Value.ref h0) hw5 e0 e1 hg6 ?_
  refine i_122_28 (v := Value.int 0) hw7 rfl ?_
  refine i_122_31 (fun _ => ?_) (fun h => absurd h (by decide))
  refine i_122_46 (x := 7) rfl ?_
  refine i_122_47 (v := Value.ref 78) hw4 rfl ?_
  refine i_122_50 rfl ?_
  refine i_122_51 (v := Value.int 0) hw8 rfl ?_
  refine i_122_54 ?_
  refine i_122_56 (c := 32) (by decide) ?_
  refine i_122_57 (fs2 := [Value.int (-16384), Value.int 16384, Value.int 0, Value.int 32]) hw8 (Nat.le_of_ble_eq_true rfl) rfl (by decide) ?_
  exact i_122_60 (by omega) (Nat.le_of_ble_eq_true rfl) ⟨rfl, rfl⟩
theorem p_121_2 {d : Nat} {w : xW} {a0 : Int32} {a1 : Int32} {g0 : Nat → Value} {h0 : Nat} {h1 : Nat} (hw0 : w[7]? = some (Sum.inr (0, [Value.ref 8, Value.ref 78, Value.ref 9, Value.ref 10, Value.ref 13, Value.ref 16, Value.ref 19, Value.ref 93, Value.ref 108, Value.ref 113, Value.ref 29, Value.int 0]))) (e1 : 0 ≤ a0.toInt) (e2 : a0.toInt < 16) (e3 : 0 ≤ a1.toInt) (e4 : a1.toInt < 16) (hw5 : w[8]? = some (Sum.inl (4, 16, g0))) (hg6 : g0 a0.toInt.toNat = Value.ref h0) (hw7 : w[h0]? = some (Sum.inr (2, [Value.int 64, Value.int 0, Value.int 0, Value.int 0, Value.ref h1]))) (hw8 : w[78]? = some (Sum.inr (1, [Value.int (-16384), Value.int 16384, Value.int 0, Value.int 0]))) : xRun (d + 7) 121 [Value.ref 7, Value.int a0, Value.int a1, Value.ref 194] w (.inl (some (Value.int 2))) ((w.set 78 (Sum.inr (1, [Value.int (-16384), Value.int 16384, Value.int 0, Value.int 32]))) ++ [Sum.inr (15, [])]) := by
  refine xRun.of ?_
  refine i_121_0 (x := 194) rfl ?_
  refine i_121_1 ?_
  refine i_121_2 (x := 7) rfl ?_
  refine i_121_3 (x := a0) rfl ?_
  refine i_121_4 (x := a1) rfl ?_
  refine j_121_5 hw0 (Nat.le_of_ble_eq_true rfl) (p_122_2 e1 e2 e3 e4 hw0 hw5 hg6 hw7 hw8) (xDone.c xgl rfl rfl ?_)
  refine i_121_17 (lv2 := [(4, Value.ref ((w.set 78 (Sum.inr (1, [Value.int (-16384), Value.int 16384, Value.int 0, Value.int 32]))).length)), (0, Value.ref 7), (1, Value.int a0), (2, Value.int a1), (3, Value.ref 194)]) rfl ?_
  refine i_121_19 ?_
  exact i_121_20 ⟨rfl, rfl⟩
theorem p_239_0 {d : Nat} {w : xW} (hw0 : w[128]? = some (Sum.inr (12, [Value.ref 129, Value.ref 131, Value.ref 133, Value.ref 135, Value.ref 137, Value.ref 139, Value.ref 141, Value.ref 143, Value.ref 145, Value.ref 147, Value.ref 149, Value.ref 151, Value.ref 153, Value.ref 154, Value.ref 155, Value.ref 156, Value.ref 157, Value.int (-16384), Value.int 16384, Value.int 0, Value.int 0, Value.int 0, Value.ref 158, Value.ref 159, Value.int 0, Value.int 0, Value.int 0, Value.int 0, Value.int 0, Value.int 0, Value.int 0, Value.int 0]))) : xRun (d + 6) 239 [Value.ref 128, Value.int 1] w (.inr ((w.set 128 (Sum.inr (12, [Value.ref 129, Value.ref 131, Value.ref 133, Value.ref 135, Value.ref 137, Value.ref 139, Value.ref 141, Value.ref 143, Value.ref 145, Value.ref 147, Value.ref 149, Value.ref 151, Value.ref 153, Value.ref 154, Value.ref 155, Value.ref 156, Value.ref 157, Value.int (-16384), Value.int 16384, Value.int 32, Value.int 0, Value.int 0, Value.ref 158, Value.ref 159, Value.int 0, Value.int 0, Value.int 0, Value.int 0, Value.int 0, Value.int 0, Value.int 0, Value.int 0]))).length)) ((w.set 128 (Sum.inr (12, [Value.ref 129, Value.ref 131, Value.ref 133, Value.ref 135, Value.ref 137, Value.ref 139, Value.ref 141, Value.ref 143, Value.ref 145, Value.ref 147, Value.ref 149, Value.ref 151, Value.ref 153, Value.ref 154, Value.ref 155, Value.ref 156, Value.ref 157, Value.int (-16384), Value.int 16384, Value.int 32, Value.int 0, Value.int 0, Value.ref 158, Value.ref 159, Value.int 0, Value.int 0, Value.int 0, Value.int 0, Value.int 0, Value.int 0, Value.int 0, Value.int 0]))) ++ [Sum.inr (15, [])]) := by
  refine xRun.of ?_
  refine i_239_0 (x := 1) rfl ?_
  refine i_239_1 (fun _ => ?_) (fun h => absurd h (by decide))
  refine i_239_5 (x := 128) rfl ?_
  refine i_239_6 rfl ?_
  refine i_239_7 (v := Value.int 0) hw0 rfl ?_
  refine i_239_10 ?_
  refine i_239_12 (c := 32) (by decide) ?_
  refine i_239_13 (fs2 := [Value.ref 129, Value.ref 131, Value.ref 133, Value.ref 135, Value.ref 137, Value.ref 139, Value.ref 141, Value.ref 143, Value.ref 145, Value.ref 147, Value.ref 149, Value.ref 151, Value.ref 153, Value.ref 154, Value.ref 155, Value.ref 156, Value.ref 157, Value.int (-16384), Value.int 16384, Value.int 32, Value.int 0, Value.int 0, Value.ref 158, Value.ref 159, Value.int 0, Value.int 0, Value.int 0, Value.int 0, Value.int 0, Value.int 0, Value.int 0, Value.int 0]) hw0 (Nat.le_of_ble_eq_true rfl) rfl (by decide) ?_
  exact i_239_16 (by omega) (Nat.le_of_ble_eq_true rfl) ⟨rfl, rfl⟩
theorem p_238_2 {d : Nat} {w : xW} {a0 : Int32} {a1 : Int32} (e0 : 0 ≤ a0.toInt) (e1 : a0.toInt ≤ 15) (e2 : 0 ≤ a1.toInt) (e3 : a1.toInt ≤ 15) (hw4 : w[128]? = some (Sum.inr (12, [Value.ref 129, Value.ref 131, Value.ref 133, Value.ref 135, Value.ref 137, Value.ref 139, Value.ref 141, Value.ref 143, Value.ref 145, Value.ref 147, Value.ref 149, Value.ref 151, Value.ref 153, Value.ref 154, Value.ref 155, Value.ref 156, Value.ref 157, Value.int (-16384), Value.int 16384, Value.int 0, Value.int 0, Value.int 0, Value.ref 158, Value.ref 159, Value.int 0, Value.int 0, Value.int 0, Value.int 0, Value.int 0, Value.int 0, Value.int 0, Value.int 0]))) (hw5 : w[154]? = some (Sum.inl (0, 17, fun _ => Value.int 0))) (e6 : a0.toInt < 17) : xRun (d + 7) 238 [Value.ref 128, Value.int a0, Value.int a1] w (.inr ((w.set 128 (Sum.inr (12, [Value.ref 129, Value.ref 131, Value.ref 133, Value.ref 135, Value.ref 137, Value.ref 139, Value.ref 141, Value.ref 143, Value.ref 145, Value.ref 147, Value.ref 149, Value.ref 151, Value.ref 153, Value.ref 154, Value.ref 155, Value.ref 156, Value.ref 157, Value.int (-16384), Value.int 16384, Value.int 32, Value.int 0, Value.int 0, Value.ref 158, Value.ref 159, Value.int 0, Value.int 0, Value.int 0, Value.int 0, Value.int 0, Value.int 0, Value.int 0, Value.int 0]))).length)) ((w.set 128 (Sum.inr (12, [Value.ref 129, Value.ref 131, Value.ref 133, Value.ref 135, Value.ref 137, Value.ref 139, Value.ref 141, Value.ref 143, Value.ref 145, Value.ref 147, Value.ref 149, Value.ref 151, Value.ref 153, Value.ref 154, Value.ref 155, Value.ref 156, Value.ref 157, Value.int (-16384), Value.int 16384, Value.int 32, Value.int 0, Value.int 0, Value.ref 158, Value.ref 159, Value.int 0, Value.int 0, Value.int 0, Value.int 0, Value.int 0, Value.int 0, Value.int 0, Value.int 0]))) ++ [Sum.inr (15, [])]) := by
  refine xRun.of ?_
  refine i_238_0 (x := a0) rfl ?_
  refine i_238_1 (Nat.le_of_ble_eq_true rfl) (p_168_1 e0 e1) ?_
  refine i_238_4 (x := a1) rfl ?_
  refine i_238_5 (Nat.le_of_ble_eq_true rfl) (p_168_1 e2 e3) ?_
  refine i_238_8 (x := 128) rfl ?_
  refine i_238_9 (x := 128) rfl ?_
  refine i_238_10 (v := Value.ref 154) hw4 rfl ?_
  refine i_238_13 (x := a0) rfl ?_
  refine i_238_14 (v := Value.int 0) hw5 e0 e6 rfl ?_
  refine i_238_15 (fun _ => ?_) (fun h => absurd h (by decide))
  refine i_238_27 ?_
  refine i_238_28 ?_
  exact j_238_32 hw4 (Nat.le_of_ble_eq_true rfl) (p_239_0 hw4) (xDone.t xgl rfl rfl ⟨rfl, rfl⟩)
theorem p_237_2 {d : Nat} {w : xW} {a0 : Int32} {a1 : Int32} (hw0 : w[128]? = some (Sum.inr (12, [Value.ref 129, Value.ref 131, Value.ref 133, Value.ref 135, Value.ref 137, Value.ref 139, Value.ref 141, Value.ref 143, Value.ref 145, Value.ref 147, Value.ref 149, Value.ref 151, Value.ref 153, Value.ref 154, Value.ref 155, Value.ref 156, Value.ref 157, Value.int (-16384), Value.int 16384, Value.int 0, Value.int 0, Value.int 0, Value.ref 158, Value.ref 159, Value.int 0, Value.int 0, Value.int 0, Value.int 0, Value.int 0, Value.int 0, Value.int 0, Value.int 0]))) (e1 : 0 ≤ a0.toInt) (e2 : a0.toInt ≤ 15) (e3 : 0 ≤ a1.toInt) (e4 : a1.toInt ≤ 15) (hw5 : w[154]? = some (Sum.inl (0, 17, fun _ => Value.int 0))) (e6 : a0.toInt < 17) : xRun (d + 8) 237 [Value.ref 128, Value.int a0, Value.int a1] w (.inl (some (Value.int 0))) ((((w.set 128 (Sum.inr (12, [Value.ref 129, Value.ref 131, Value.ref 133, Value.ref 135, Value.ref 137, Value.ref 139, Value.ref 141, Value.ref 143, Value.ref 145, Value.ref 147, Value.ref 149, Value.ref 151, Value.ref 153, Value.ref 154, Value.ref 155, Value.ref 156, Value.ref 157, Value.int (-16384), Value.int 16384, Value.int 0, Value.int 0, Value.int 0, Value.ref 158, Value.ref 159, Value.int 0, Value.int 0, Value.int 0, Value.int 0, Value.int 0, Value.int 0, Value.int 0, Value.int 0]))).set 128 (Sum.inr (12, [Value.ref 129, Value.ref 131, Value.ref 133, Value.ref 135, Value.ref 137, Value.ref 139, Value.ref 141, Value.ref 143, Value.ref 145, Value.ref 147, Value.ref 149, Value.ref 151, Value.ref 153, Value.ref 154, Value.ref 155, Value.ref 156, Value.ref 157, Value.int (-16384), Value.int 16384, Value.int 32, Value.int 0, Value.int 0, Value.ref 158, Value.ref 159, Value.int 0, Value.int 0, Value.int 0, Value.int 0, Value.int 0, Value.int 0, Value.int 0, Value.int 0]))) ++ [Sum.inr (15, [])]).set 128 (Sum.inr (12, [Value.ref 129, Value.ref 131, Value.ref 133, Value.ref 135, Value.ref 137, Value.ref 139, Value.ref 141, Value.ref 143, Value.ref 145, Value.ref 147, Value.ref 149, Value.ref 151, Value.ref 153, Value.ref 154, Value.ref 155, Value.ref 156, Value.ref 157, Value.int (-16384), Value.int 16384, Value.int 32, Value.int 0, Value.int 0, Value.ref 158, Value.ref 159, Value.int 0, Value.int 0, Value.int 0, Value.int 0, Value.int 0, Value.int 0, Value.int 0, Value.int 2]))) := by
  refine xRun.of ?_
  refine i_237_0 (x := 128) rfl ?_
  refine i_237_1 ?_
  refine i_237_2 (fs2 := [Value.ref 129, Value.ref 131, Value.ref 133, Value.ref 135, Value.ref 137, Value.ref 139, Value.ref 141, Value.ref 143, Value.ref 145, Value.ref 147, Value.ref 149, Value.ref 151, Value.ref 153, Value.ref 154, Value.ref 155, Value.ref 156, Value.ref 157, Value.int (-16384), Value.int 16384, Value.int 0, Value.int 0, Value.int 0, Value.ref 158, Value.ref 159, Value.int 0, Value.int 0, Value.int 0, Value.int 0, Value.int 0, Value.int 0, Value.int 0, Value.int 0]) hw0 (Nat.le_of_ble_eq_true rfl) rfl (by decide) ?_
  refine i_237_5 (x := 128) rfl ?_
  refine i_237_6 (x := a0) rfl ?_
  refine i_237_7 (x := a1) rfl ?_
  refine j_237_8 (xgs hw0) (Nat.le_of_ble_eq_true rfl) (p_238_2 e1 e2 e3 e4 (xgs hw0) (xgn (by decide) hw5) e6) (xDone.c xgl rfl rfl ?_)
  refine i_237_21 (lv2 := [(3, Value.ref (((w.set 128 (Sum.inr (12, [Value.ref 129, Value.ref 131, Value.ref 133, Value.ref 135, Value.ref 137, Value.ref 139, Value.ref 141, Value.ref 143, Value.ref 145, Value.ref 147, Value.ref 149, Value.ref 151, Value.ref 153, Value.ref 154, Value.ref 155, Value.ref 156, Value.ref 157, Value.int (-16384), Value.int 16384, Value.int 0, Value.int 0, Value.int 0, Value.ref 158, Value.ref 159, Value.int 0, Value.int 0, Value.int 0, Value.int 0, Value.int 0, Value.int 0, Value.int 0, Value.int 0]))).set 128 (Sum.inr (12, [Value.ref 129, Value.ref 131, Value.ref 133, Value.ref 135, Value.ref 137, Value.ref 139, Value.ref 141, Value.ref 143, Value.ref 145, Value.ref 147, Value.ref 149, Value.ref 151, Value.ref 153, Value.ref 154, Value.ref 155, Value.ref 156, Value.ref 157, Value.int (-16384), Value.int 16384, Value.int 32, Value.int 0, Value.int 0, Value.ref 158, Value.ref 159, Value.int 0, Value.int 0, Value.int 0, Value.int 0, Value.int 0, Value.int 0, Value.int 0, Value.int 0]))).length)), (0, Value.ref 128), (1, Value.int a0), (2, Value.int a1)]) rfl ?_
  refine i_237_22 (x := 128) rfl ?_
  refine i_237_23 ?_
  refine i_237_24 (fs2 := [Value.ref 129, Value.ref 131, Value.ref 133, Value.ref 135, Value.ref 137, Value.ref 139, Value.ref 141, Value.ref 143, Value.ref 145, Value.ref 147, Value.ref 149, Value.ref 151, Value.ref 153, Value.ref 154, Value.ref 155, Value.ref 156, Value.ref 157, Value.int (-16384), Value.int 16384, Value.int 32, Value.int 0, Value.int 0, Value.ref 158, Value.ref 159, Value.int 0, Value.int 0, Value.int 0, Value.int 0, Value.int 0, Value.int 0, Value.int 0, Value.int 2]) (xga (xgs (xgs hw0))) (Nat.le_of_ble_eq_true rfl) rfl (by decide) ?_
  refine i_237_27 ?_
  exact i_237_28 ⟨rfl, rfl⟩
theorem p_165_4 {d : Nat} {w : xW} (hw0 : w[128]? = some (Sum.inr (12, [Value.ref 129, Value.ref 131, Value.ref 133, Value.ref 135, Value.ref 137, Value.ref 139, Value.ref 141, Value.ref 143, Value.ref 145, Value.ref 147, Value.ref 149, Value.ref 151, Value.ref 153, Value.ref 154, Value.ref 155, Value.ref 156, Value.ref 157, Value.int (-16384), Value.int 16384, Value.int 32, Value.int 0, Value.int 0, Value.ref 158, Value.ref 159, Value.int 0, Value.int 0, Value.int 0, Value.int 0, Value.int 0, Value.int 0, Value.int 0, Value.int 2]))) : xRun d 165 [Value.ref 128] w (.inl (some (Value.int 2))) w := by
  refine xRun.of ?_
  refine i_165_0 (x := 128) rfl ?_
  refine i_165_1 (v := Value.int 2) hw0 rfl ?_
  exact i_165_4 ⟨rfl, rfl⟩
theorem o_13_2 {d : Nat} {xs : Nat → Int32} (h0 : ((xs 0) &&& (31 : Int32)).toInt = 13) (c0 : 0 ≤ (xs 1).toInt) (c1 : (xs 1).toInt < 16) (c2 : 0 ≤ (xs 2).toInt) (c3 : (xs 2).toInt < 16) : ∃ w1, xEv (d + 20) 287 23 [(4, Value.int 0), (3, Value.ref 194), (2, Value.ref 128), (1, Value.ref 7), (0, Value.ref 0)] [] (W0 6 xs) (fun o' w' => o' = .inl (some (Value.int 1)) ∧ w' = w1) ∧ w1.length ≤ 220 ∧ xsz w1 ≤ 200000 := by
  refine ⟨(((((((W0 6 xs).set 78 (Sum.inr (1, [Value.int (-16384), Value.int 16384, Value.int 0, Value.int 32]))) ++ [Sum.inr (15, [])]).set 128 (Sum.inr (12, [Value.ref 129, Value.ref 131, Value.ref 133, Value.ref 135, Value.ref 137, Value.ref 139, Value.ref 141, Value.ref 143, Value.ref 145, Value.ref 147, Value.ref 149, Value.ref 151, Value.ref 153, Value.ref 154, Value.ref 155, Value.ref 156, Value.ref 157, Value.int (-16384), Value.int 16384, Value.int 0, Value.int 0, Value.int 0, Value.ref 158, Value.ref 159, Value.int 0, Value.int 0, Value.int 0, Value.int 0, Value.int 0, Value.int 0, Value.int 0, Value.int 0]))).set 128 (Sum.inr (12, [Value.ref 129, Value.ref 131, Value.ref 133, Value.ref 135, Value.ref 137, Value.ref 139, Value.ref 141, Value.ref 143, Value.ref 145, Value.ref 147, Value.ref 149, Value.ref 151, Value.ref 153, Value.ref 154, Value.ref 155, Value.ref 156, Value.ref 157, Value.int (-16384), Value.int 16384, Value.int 32, Value.int 0, Value.int 0, Value.ref 158, Value.ref 159, Value.int 0, Value.int 0, Value.int 0, Value.int 0, Value.int 0, Value.int 0, Value.int 0, Value.int 0]))) ++ [Sum.inr (15, [])]).set 128 (Sum.inr (12, [Value.ref 129, Value.ref 131, Value.ref 133, Value.ref 135, Value.ref 137, Value.ref 139, Value.ref 141, Value.ref 143, Value.ref 145, Value.ref 147, Value.ref 149, Value.ref 151, Value.ref 153, Value.ref 154, Value.ref 155, Value.ref 156, Value.ref 157, Value.int (-16384), Value.int 16384, Value.int 32, Value.int 0, Value.int 0, Value.ref 158, Value.ref 159, Value.int 0, Value.int 0, Value.int 0, Value.int 0, Value.int 0, Value.int 0, Value.int 0, Value.int 2]))), ?_, (show xLs _ 220 200000 from ?_)⟩
  · refine i_287_23 (x := 0) rfl ?_
    refine i_287_25 (x := 0) rfl ?_
    refine i_287_26 (c := 6) W0_0 (by decide) ?_
    refine i_287_27 ?_
    refine i_287_29 (c := 0) (by decide) ?_
    refine i_287_30 (fun h => absurd h (by decide)) (fun _ => ?_)
    refine i_287_33 (x := 0) rfl ?_
    refine i_287_34 (x := 0) rfl ?_
    refine i_287_36 (v := Value.int (xs 0)) W0_0 (by decide) (by decide) rfl ?_
    refine i_287_37 ?_
    refine i_287_39 (c := ((xs 0) &&& (31 : Int32))) rfl ?_
    refine i_287_40_13 (by omega) ?_
    refine i_287_1337 (x := 7) rfl ?_
    refine i_287_1338 (x := 0) rfl ?_
    refine i_287_1339 (x := 0) rfl ?_
    refine i_287_1341 ?_
    refine i_287_1342 (c := 1) (by decide) ?_
    refine i_287_1343 (v := Value.int (xs 1)) W0_0 (by decide) (by decide) rfl ?_
    refine i_287_1344 (x := 0) rfl ?_
    refine i_287_1345 (x := 0) rfl ?_
    refine i_287_1347 ?_
    refine i_287_1348 (c := 2) (by decide) ?_
    refine i_287_1349 (v := Value.int (xs 2)) W0_0 (by decide) (by decide) rfl ?_
    refine i_287_1350 (x := 194) rfl ?_
    refine i_287_1351 (Nat.le_of_ble_eq_true rfl) (p_121_2 W0_7 (by omega) (by omega) (by omega) (by omega) W0_8 (greg_at (by omega)) (W0_reg (by omega)) W0_78) ?_
    refine i_287_1354 (lv2 := [(5, Value.int 2), (4, Value.int 0), (3, Value.ref 194), (2, Value.ref 128), (1, Value.ref 7), (0, Value.ref 0)]) rfl ?_
    refine i_287_1356 (x := 128) rfl ?_
    refine i_287_1357 (x := 0) rfl ?_
    refine i_287_1358 (x := 0) rfl ?_
    refine i_287_1360 ?_
    refine i_287_1361 (c := 1) (by decide) ?_
    refine i_287_1362 (v := Value.int (xs 1)) (xga (xgn (by decide) W0_0)) (by decide) (by decide) rfl ?_
    refine i_287_1363 (x := 0) rfl ?_
    refine i_287_1364 (x := 0) rfl ?_
    refine i_287_1366 ?_
    refine i_287_1367 (c := 2) (by decide) ?_
    refine i_287_1368 (v := Value.int (xs 2)) (xga (xgn (by decide) W0_0)) (by decide) (by decide) rfl ?_
    refine i_287_1369 (xga (xgn (by decide) W0_128)) (Nat.le_of_ble_eq_true rfl) (p_237_2 (xga (xgn (by decide) W0_128)) (by omega) (by omega) (by omega) (by omega) (xga (xgn (by decide) W0_154)) (by omega)) ?_
    refine i_287_1372 (lv2 := [(6, Value.int 0), (5, Value.int 2), (4, Value.int 0), (3, Value.ref 194), (2, Value.ref 128), (1, Value.ref 7), (0, Value.ref 0)]) rfl ?_
    refine i_287_1374 (x := 128) rfl ?_
    refine i_287_1375 (xgs (xga (xgs (xgs (xga (xgn (by decide) W0_128)))))) (Nat.le_of_ble_eq_true rfl) (p_165_4 (xgs (xga (xgs (xgs (xga (xgn (by decide) W0_128))))))) ?_
    refine i_287_1378 (x := 2) rfl ?_
    refine i_287_1380 (fun _ => ?_) (fun h => absurd h (by decide))
    refine i_287_1385 (x := 2) rfl ?_
    refine i_287_1387 (fun _ => ?_) (fun h => absurd h (by decide))
    refine i_287_1402 ?_
    refine i_287_2154 (x := 0) (c := 6) (lv2 := [(4, Value.int 6), (6, Value.int 0), (5, Value.int 2), (3, Value.ref 194), (2, Value.ref 128), (1, Value.ref 7), (0, Value.ref 0)]) rfl (by decide) rfl ?_
    refine i_287_2157 ?_
    refine i_287_23 (x := 6) rfl ?_
    refine i_287_25 (x := 0) rfl ?_
    refine i_287_26 (c := 6) (xgn (by decide) (xga (xgn (by decide) (xgn (by decide) (xga (xgn (by decide) W0_0)))))) (by decide) ?_
    refine i_287_27 ?_
    refine i_287_29 (c := 0) (by decide) ?_
    refine i_287_30 (fun _ => ?_) (fun h => absurd h (by decide))
    refine i_287_2160 ?_
    exact i_287_2161 rfl ⟨rfl, rfl⟩
  · refine xLs.set ?_ (xga (xgs (xgs (xga (xgn (by decide) W0_128))))) xcs_o
    refine xLs.app (n := 219) (z := 199994) (m := 6) ?_ rfl
    refine xLs.set ?_ (xgs (xga (xgn (by decide) W0_128))) xcs_o
    refine xLs.set ?_ (xga (xgn (by decide) W0_128)) xcs_o
    refine xLs.app (n := 218) (z := 199988) (m := 6) ?_ rfl
    refine xLs.set ?_ (W0_78) xcs_o
    exact ⟨Nat.le_trans (Nat.le_of_eq W0_len) (by decide), Nat.le_trans (Nat.le_of_eq W0_sz) (by decide)⟩
theorem p_122_3 {d : Nat} {w : xW} {a0 : Int32} {a1 : Int32} (e0 : 0 ≤ a0.toInt) (e1 : a0.toInt < 16) (e2 : 0 ≤ a1.toInt) (e3 : 16 ≤ a1.toInt) : xRun (d + 6) 122 [Value.ref 7, Value.int a0, Value.int a1] w (.inr w.length) (w ++ [Sum.inr (14, [])]) := by
  refine xRun.of ?_
  refine i_122_0 (x := a0) rfl ?_
  refine i_122_1 (Nat.le_of_ble_eq_true rfl) (p_15_1 e0 e1) ?_
  refine i_122_4 (fun h => absurd h (by decide)) (fun _ => ?_)
  refine i_122_7 (x := a1) rfl ?_
  refine i_122_8 (Nat.le_of_ble_eq_true rfl) (p_15_2 e2 e3) ?_
  refine i_122_11 (fun h => absurd h (by decide)) (fun _ => ?_)
  exact i_122_14 (by omega) (Nat.le_of_ble_eq_true rfl) ⟨rfl, rfl⟩
theorem p_121_3 {d : Nat} {w : xW} {a0 : Int32} {a1 : Int32} (hw0 : w[7]? = some (Sum.inr (0, [Value.ref 8, Value.ref 78, Value.ref 9, Value.ref 10, Value.ref 13, Value.ref 16, Value.ref 19, Value.ref 93, Value.ref 108, Value.ref 113, Value.ref 29, Value.int 0]))) (e1 : 0 ≤ a0.toInt) (e2 : a0.toInt < 16) (e3 : 0 ≤ a1.toInt) (e4 : 16 ≤ a1.toInt) : xRun (d + 7) 121 [Value.ref 7, Value.int a0, Value.int a1, Value.ref 194] w (.inl (some (Value.int 1))) (w ++ [Sum.inr (14, [])]) := by
  refine xRun.of ?_
  refine i_121_0 (x := 194) rfl ?_
  refine i_121_1 ?_
  refine i_121_2 (x := 7) rfl ?_
  refine i_121_3 (x := a0) rfl ?_
  refine i_121_4 (x := a1) rfl ?_
  refine j_121_5 hw0 (Nat.le_of_ble_eq_true rfl) (p_122_3 e1 e2 e3 e4) (xDone.c xgl rfl rfl ?_)
  refine i_121_13 (lv2 := [(4, Value.ref w.length), (0, Value.ref 7), (1, Value.int a0), (2, Value.int a1), (3, Value.ref 194)]) rfl ?_
  refine i_121_15 ?_
  exact i_121_16 ⟨rfl, rfl⟩
theorem p_238_3 {d : Nat} {w : xW} {a0 : Int32} {a1 : Int32} (e0 : 0 ≤ a0.toInt) (e1 : a0.toInt ≤ 15) (e2 : 0 ≤ a1.toInt) (e3 : 15 < a1.toInt) : xRun (d + 8) 238 [Value.ref 128, Value.int a0, Value.int a1] w (.inr w.length) (w ++ [Sum.inr (14, [])]) := by
  refine xRun.of ?_
  refine i_238_0 (x := a0) rfl ?_
  refine i_238_1 (Nat.le_of_ble_eq_true rfl) (p_168_1 e0 e1) ?_
  refine i_238_4 (x := a1) rfl ?_
  exact j_238_5 (Nat.le_of_ble_eq_true rfl) (p_168_2 e2 e3) (xDone.t xgl rfl rfl ⟨rfl, rfl⟩)
theorem p_237_3 {d : Nat} {w : xW} {a0 : Int32} {a1 : Int32} (hw0 : w[128]? = some (Sum.inr (12, [Value.ref 129, Value.ref 131, Value.ref 133, Value.ref 135, Value.ref 137, Value.ref 139, Value.ref 141, Value.ref 143, Value.ref 145, Value.ref 147, Value.ref 149, Value.ref 151, Value.ref 153, Value.ref 154, Value.ref 155, Value.ref 156, Value.ref 157, Value.int (-16384), Value.int 16384, Value.int 0, Value.int 0, Value.int 0, Value.ref 158, Value.ref 159, Value.int 0, Value.int 0, Value.int 0, Value.int 0, Value.int 0, Value.int 0, Value.int 0, Value.int 0]))) (e1 : 0 ≤ a0.toInt) (e2 : a0.toInt ≤ 15) (e3 : 0 ≤ a1.toInt) (e4 : 15 < a1.toInt) : xRun (d + 9) 237 [Value.ref 128, Value.int a0, Value.int a1] w (.inl (some (Value.int 0))) (((w.set 128 (Sum.inr (12, [Value.ref 129, Value.ref 131, Value.ref 133, Value.ref 135, Value.ref 137, Value.ref 139, Value.ref 141, Value.ref 143, Value.ref 145, Value.ref 147, Value.ref 149, Value.ref 151, Value.ref 153, Value.ref 154, Value.ref 155, Value.ref 156, Value.ref 157, Value.int (-16384), Value.int 16384, Value.int 0, Value.int 0, Value.int 0, Value.ref 158, Value.ref 159, Value.int 0, Value.int 0, Value.int 0, Value.int 0, Value.int 0, Value.int 0, Value.int 0, Value.int 0]))) ++ [Sum.inr (14, [])]).set 128 (Sum.inr (12, [Value.ref 129, Value.ref 131, Value.ref 133, Value.ref 135, Value.ref 137, Value.ref 139, Value.ref 141, Value.ref 143, Value.ref 145, Value.ref 147, Value.ref 149, Value.ref 151, Value.ref 153, Value.ref 154, Value.ref 155, Value.ref 156, Value.ref 157, Value.int (-16384), Value.int 16384, Value.int 0, Value.int 0, Value.int 0, Value.ref 158, Value.ref 159, Value.int 0, Value.int 0, Value.int 0, Value.int 0, Value.int 0, Value.int 0, Value.int 0, Value.int 1]))) := by
  refine xRun.of ?_
  refine i_237_0 (x := 128) rfl ?_
  refine i_237_1 ?_
  refine i_237_2 (fs2 := [Value.ref 129, Value.ref 131, Value.ref 133, Value.ref 135, Value.ref 137, Value.ref 139, Value.ref 141, Value.ref 143, Value.ref 145, Value.ref 147, Value.ref 149, Value.ref 151, Value.ref 153, Value.ref 154, Value.ref 155, Value.ref 156, Value.ref 157, Value.int (-16384), Value.int 16384, Value.int 0, Value.int 0, Value.int 0, Value.ref 158, Value.ref 159, Value.int 0, Value.int 0, Value.int 0, Value.int 0, Value.int 0, Value.int 0, Value.int 0, Value.int 0]) hw0 (Nat.le_of_ble_eq_true rfl) rfl (by decide) ?_
  refine i_237_5 (x := 128) rfl ?_
  refine i_237_6 (x := a0) rfl ?_
  refine i_237_7 (x := a1) rfl ?_
  refine j_237_8 (xgs hw0) (Nat.le_of_ble_eq_true rfl) (p_238_3 e1 e2 e3 e4) (xDone.c xgl rfl rfl ?_)
  refine i_237_12 (lv2 := [(3, Value.ref ((w.set 128 (Sum.inr (12, [Value.ref 129, Value.ref 131, Value.ref 133, Value.ref 135, Value.ref 137, Value.ref 139, Value.ref 141, Value.ref 143, Value.ref 145, Value.ref 147, Value.ref 149, Value.ref 151, Value.ref 153, Value.ref 154, Value.ref 155, Value.ref 156, Value.ref 157, Value.int (-16384), Value.int 16384, Value.int 0, Value.int 0, Value.int 0, Value.ref 158, Value.ref 159, Value.int 0, Value.int 0, Value.int 0, Value.int 0, Value.int 0, Value.int 0, Value.int 0, Value.int 0]))).length)), (0, Value.ref 128), (1, Value.int a0), (2, Value.int a1)]) rfl ?_
  refine i_237_13 (x := 128) rfl ?_
  refine i_237_14 ?_
  refine i_237_15 (fs2 := [Value.ref 129, Value.ref 131, Value.ref 133, Value.ref 135, Value.ref 137, Value.ref 139, Value.ref 141, Value.ref 143, Value.ref 145, Value.ref 147, Value.ref 149, Value.ref 151, Value.ref 153, Value.ref 154, Value.ref 155, Value.ref 156, Value.ref 157, Value.int (-16384), Value.int 16384, Value.int 0, Value.int 0, Value.int 0, Value.ref 158, Value.ref 159, Value.int 0, Value.int 0, Value.int 0, Value.int 0, Value.int 0, Value.int 0, Value.int 0, Value.int 1]) (xga (xgs hw0)) (Nat.le_of_ble_eq_true rfl) rfl (by decide) ?_
  refine i_237_18 ?_
  refine i_237_27 ?_
  exact i_237_28 ⟨rfl, rfl⟩
theorem o_13_3 {d : Nat} {xs : Nat → Int32} (h0 : ((xs 0) &&& (31 : Int32)).toInt = 13) (c0 : 0 ≤ (xs 1).toInt) (c1 : (xs 1).toInt < 16) (c2 : 0 ≤ (xs 2).toInt) (c3 : 16 ≤ (xs 2).toInt) : ∃ w1, xEv (d + 20) 287 23 [(4, Value.int 0), (3, Value.ref 194), (2, Value.ref 128), (1, Value.ref 7), (0, Value.ref 0)] [] (W0 6 xs) (fun o' w' => o' = .inl (some (Value.int 1)) ∧ w' = w1) ∧ w1.length ≤ 220 ∧ xsz w1 ≤ 200000 := by
  refine ⟨(((((W0 6 xs) ++ [Sum.inr (14, [])]).set 128 (Sum.inr (12, [Value.ref 129, Value.ref 131, Value.ref 133, Value.ref 135, Value.ref 137, Value.ref 139, Value.ref 141, Value.ref 143, Value.ref 145, Value.ref 147, Value.ref 149, Value.ref 151, Value.ref 153, Value.ref 154, Value.ref 155, Value.ref 156, Value.ref 157, Value.int (-16384), Value.int 16384, Value.int 0, Value.int 0, Value.int 0, Value.ref 158, Value.ref 159, Value.int 0, Value.int 0, Value.int 0, Value.int 0, Value.int 0, Value.int 0, Value.int 0, Value.int 0]))) ++ [Sum.inr (14, [])]).set 128 (Sum.inr (12, [Value.ref 129, Value.ref 131, Value.ref 133, Value.ref 135, Value.ref 137, Value.ref 139, Value.ref 141, Value.ref 143, Value.ref 145, Value.ref 147, Value.ref 149, Value.ref 151, Value.ref 153, Value.ref 154, Value.ref 155, Value.ref 156, Value.ref 157, Value.int (-16384), Value.int 16384, Value.int 0, Value.int 0, Value.int 0, Value.ref 158, Value.ref 159, Value.int 0, Value.int 0, Value.int 0, Value.int 0, Value.int 0, Value.int 0, Value.int 0, Value.int 1]))), ?_, (show xLs _ 220 200000 from ?_)⟩
  · refine i_287_23 (x := 0) rfl ?_
    refine i_287_25 (x := 0) rfl ?_
    refine i_287_26 (c := 6) W0_0 (by decide) ?_
    refine i_287_27 ?_
    refine i_287_29 (c := 0) (by decide) ?_
    refine i_287_30 (fun h => absurd h (by decide)) (fun _ => ?_)
    refine i_287_33 (x := 0) rfl ?_
    refine i_287_34 (x := 0) rfl ?_
    refine i_287_36 (v := Value.int (xs 0)) W0_0 (by decide) (by decide) rfl ?_
    refine i_287_37 ?_
    refine i_287_39 (c := ((xs 0) &&& (31 : Int32))) rfl ?_
    refine i_287_40_13 (by omega) ?_
    refine i_287_1337 (x := 7) rfl ?_
    refine i_287_1338 (x := 0) rfl ?_
    refine i_287_1339 (x := 0) rfl ?_
    refine i_287_1341 ?_
    refine i_287_1342 (c := 1) (by decide) ?_
    refine i_287_1343 (v := Value.int (xs 1)) W0_0 (by decide) (by decide) rfl ?_
    refine i_287_1344 (x := 0) rfl ?_
    refine i_287_1345 (x := 0) rfl ?_
    refine i_287_1347 ?_
    refine i_287_1348 (c := 2) (by decide) ?_
    refine i_287_1349 (v := Value.int (xs 2)) W0_0 (by decide) (by decide) rfl ?_
    refine i_287_1350 (x := 194) rfl ?_
    refine i_287_1351 (Nat.le_of_ble_eq_true rfl) (p_121_3 W0_7 (by omega) (by omega) (by omega) (by omega)) ?_
    refine i_287_1354 (lv2 := [(5, Value.int 1), (4, Value.int 0), (3, Value.ref 194), (2, Value.ref 128), (1, Value.ref 7), (0, Value.ref 0)]) rfl ?_
    refine i_287_1356 (x := 128) rfl ?_
    refine i_287_1357 (x := 0) rfl ?_
    refine i_287_1358 (x := 0) rfl ?_
    refine i_287_1360 ?_
    refine i_287_1361 (c := 1) (by decide) ?_
    refine i_287_1362 (v := Value.int (xs 1)) (xga W0_0) (by decide) (by decide) rfl ?_
    refine i_287_1363 (x := 0) rfl ?_
    refine i_287_1364 (x := 0) rfl ?_
    refine i_287_1366 ?_
    refine i_287_1367 (c := 2) (by decide) ?_
    refine i_287_1368 (v := Value.int (xs 2)) (xga W0_0) (by decide) (by decide) rfl ?_
    refine i_287_1369 (xga W0_128) (Nat.le_of_ble_eq_true rfl) (p_237_3 (xga W0_128) (by omega) (by omega) (by omega) (by omega)) ?_
    refine i_287_1372 (lv2 := [(6, Value.int 0), (5, Value.int 1), (4, Value.int 0), (3, Value.ref 194), (2, Value.ref 128), (1, Value.ref 7), (0, Value.ref 0)]) rfl ?_
    refine i_287_1374 (x := 128) rfl ?_
    refine i_287_1375 (xgs (xga (xgs (xga W0_128)))) (Nat.le_of_ble_eq_true rfl) (p_165_0 (xgs (xga (xgs (xga W0_128))))) ?_
    refine i_287_1378 (x := 1) rfl ?_
    refine i_287_1380 (fun _ => ?_) (fun h => absurd h (by decide))
    refine i_287_1385 (x := 1) rfl ?_
    refine i_287_1387 (fun _ => ?_) (fun h => absurd h (by decide))
    refine i_287_1402 ?_
    refine i_287_2154 (x := 0) (c := 6) (lv2 := [(4, Value.int 6), (6, Value.int 0), (5, Value.int 1), (3, Value.ref 194), (2, Value.ref 128), (1, Value.ref 7), (0, Value.ref 0)]) rfl (by decide) rfl ?_
    refine i_287_2157 ?_
    refine i_287_23 (x := 6) rfl ?_
    refine i_287_25 (x := 0) rfl ?_
    refine i_287_26 (c := 6) (xgn (by decide) (xga (xgn (by decide) (xga W0_0)))) (by decide) ?_
    refine i_287_27 ?_
    refine i_287_29 (c := 0) (by decide) ?_
    refine i_287_30 (fun _ => ?_) (fun h => absurd h (by decide))
    refine i_287_2160 ?_
    exact i_287_2161 rfl ⟨rfl, rfl⟩
  · refine xLs.set ?_ (xga (xgs (xga W0_128))) xcs_o
    refine xLs.app (n := 219) (z := 199994) (m := 6) ?_ rfl
    refine xLs.set ?_ (xga W0_128) xcs_o
    refine xLs.app (n := 218) (z := 199988) (m := 6) ?_ rfl
    exact ⟨Nat.le_trans (Nat.le_of_eq W0_len) (by decide), Nat.le_trans (Nat.le_of_eq W0_sz) (by decide)⟩
theorem p_122_4 {d : Nat} {w : xW} {a0 : Int32} {a1 : Int32} (e0 : 0 ≤ a0.toInt) (e1 : 16 ≤ a0.toInt) : xRun (d + 6) 122 [Value.ref 7, Value.int a0, Value.int a1] w (.inr w.length) (w ++ [Sum.inr (14, [])]) := by
  refine xRun.of ?_
  refine i_122_0 (x := a0) rfl ?_
  refine i_122_1 (Nat.le_of_ble_eq_true rfl) (p_15_2 e0 e1) ?_
  refine i_122_4 (fun _ => ?_) (fun h => absurd h (by decide))
  exact i_122_14 (by omega) (Nat.le_of_ble_eq_true rfl) ⟨rfl, rfl⟩
theorem p_121_4 {d : Nat} {w : xW} {a0 : Int32} {a1 : Int32} (hw0 : w[7]? = some (Sum.inr (0, [Value.ref 8, Value.ref 78, Value.ref 9, Value.ref 10, Value.ref 13, Value.ref 16, Value.ref 19, Value.ref 93, Value.ref 108, Value.ref 113, Value.ref 29, Value.int 0]))) (e1 : 0 ≤ a0.toInt) (e2 : 16 ≤ a0.toInt) : xRun (d + 7) 121 [Value.ref 7, Value.int a0, Value.int a1, Value.ref 194] w (.inl (some (Value.int 1))) (w ++ [Sum.inr (14, [])]) := by
  refine xRun.of ?_
  refine i_121_0 (x := 194) rfl ?_
  refine i_121_1 ?_
  refine i_121_2 (x := 7) rfl ?_
  refine i_121_3 (x := a0) rfl ?_
  refine i_121_4 (x := a1) rfl ?_
  refine j_121_5 hw0 (Nat.le_of_ble_eq_true rfl) (p_122_4 e1 e2) (xDone.c xgl rfl rfl ?_)
  refine i_121_13 (lv2 := [(4, Value.ref w.length), (0, Value.ref 7), (1, Value.int a0), (2, Value.int a1), (3, Value.ref 194)]) rfl ?_
  refine i_121_15 ?_
  exact i_121_16 ⟨rfl, rfl⟩
theorem p_238_4 {d : Nat} {w : xW} {a0 : Int32} {a1 : Int32} (e0 : 0 ≤ a0.toInt) (e1 : 15 < a0.toInt) : xRun (d + 8) 238 [Value.ref 128, Value.int a0, Value.int a1] w (.inr w.length) (w ++ [Sum.inr (14, [])]) := by
  refine xRun.of ?_
  refine i_238_0 (x := a0) rfl ?_
  exact j_238_1 (Nat.le_of_ble_eq_true rfl) (p_168_2 e0 e1) (xDone.t xgl rfl rfl ⟨rfl, rfl⟩)
theorem p_237_4 {d : Nat} {w : xW} {a0 : Int32} {a1 : Int32} (hw0 : w[128]? = some (Sum.inr (12, [Value.ref 129, Value.ref 131, Value.ref 133, Value.ref 135, Value.ref 137, Value.ref 139, Value.ref 141, Value.ref 143, Value.ref 145, Value.ref 147, Value.ref 149, Value.ref 151, Value.ref 153, Value.ref 154, Value.ref 155, Value.ref 156, Value.ref 157, Value.int (-16384), Value.int 16384, Value.int 0, Value.int 0, Value.int 0, Value.ref 158, Value.ref 159, Value.int 0, Value.int 0, Value.int 0, Value.int 0, Value.int 0, Value.int 0, Value.int 0, Value.int 0]))) (e1 : 0 ≤ a0.toInt) (e2 : 15 < a0.toInt) : xRun (d + 9) 237 [Value.ref 128, Value.int a0, Value.int a1] w (.inl (some (Value.int 0))) (((w.set 128 (Sum.inr (12, [Value.ref 129, Value.ref 131, Value.ref 133, Value.ref 135, Value.ref 137, Value.ref 139, Value.ref 141, Value.ref 143, Value.ref 145, Value.ref 147, Value.ref 149, Value.ref 151, Value.ref 153, Value.ref 154, Value.ref 155, Value.ref 156, Value.ref 157, Value.int (-16384), Value.int 16384, Value.int 0, Value.int 0, Value.int 0, Value.ref 158, Value.ref 159, Value.int 0, Value.int 0, Value.int 0, Value.int 0, Value.int 0, Value.int 0, Value.int 0, Value.int 0]))) ++ [Sum.inr (14, [])]).set 128 (Sum.inr (12, [Value.ref 129, Value.ref 131, Value.ref 133, Value.ref 135, Value.ref 137, Value.ref 139, Value.ref 141, Value.ref 143, Value.ref 145, Value.ref 147, Value.ref 149, Value.ref 151, Value.ref 153, Value.ref 154, Value.ref 155, Value.ref 156, Value.ref 157, Value.int (-16384), Value.int 16384, Value.int 0, Value.int 0, Value.int 0, Value.ref 158, Value.ref 159, Value.int 0, Value.int 0, Value.int 0, Value.int 0, Value.int 0, Value.int 0, Value.int 0, Value.int 1]))) := by
  refine xRun.of ?_
  refine i_237_0 (x := 128) rfl ?_
  refine i_237_1 ?_
  refine i_237_2 (fs2 := [Value.ref 129, Value.ref 131, Value.ref 133, Value.ref 135, Value.ref 137, Value.ref 139, Value.ref 141, Value.ref 143, Value.ref 145, Value.ref 147, Value.ref 149, Value.ref 151, Value.ref 153, Value.ref 154, Value.ref 155, Value.ref 156, Value.ref 157, Value.int (-16384), Value.int 16384, Value.int 0, Value.int 0, Value.int 0, Value.ref 158, Value.ref 159, Value.int 0, Value.int 0, Value.int 0, Value.int 0, Value.int 0, Value.int 0, Value.int 0, Value.int 0]) hw0 (Nat.le_of_ble_eq_true rfl) rfl (by decide) ?_
  refine i_237_5 (x := 128) rfl ?_
  refine i_237_6 (x := a0) rfl ?_
  refine i_237_7 (x := a1) rfl ?_
  refine j_237_8 (xgs hw0) (Nat.le_of_ble_eq_true rfl) (p_238_4 e1 e2) (xDone.c xgl rfl rfl ?_)
  refine i_237_12 (lv2 := [(3, Value.ref ((w.set 128 (Sum.inr (12, [Value.ref 129, Value.ref 131, Value.ref 133, Value.ref 135, Value.ref 137, Value.ref 139, Value.ref 141, Value.ref 143, Value.ref 145, Value.ref 147, Value.ref 149, Value.ref 151, Value.ref 153, Value.ref 154, Value.ref 155, Value.ref 156, Value.ref 157, Value.int (-16384), Value.int 16384, Value.int 0, Value.int 0, Value.int 0, Value.ref 158, Value.ref 159, Value.int 0, Value.int 0, Value.int 0, Value.int 0, Value.int 0, Value.int 0, Value.int 0, Value.int 0]))).length)), (0, Value.ref 128), (1, Value.int a0), (2, Value.int a1)]) rfl ?_
  refine i_237_13 (x := 128) rfl ?_
  refine i_237_14 ?_
  refine i_237_15 (fs2 := [Value.ref 129, Value.ref 131, Value.ref 133, Value.ref 135, Value.ref 137, Value.ref 139, Value.ref 141, Value.ref 143, Value.ref 145, Value.ref 147, Value.ref 149, Value.ref 151, Value.ref 153, Value.ref 154, Value.ref 155, Value.ref 156, Value.ref 157, Value.int (-16384), Value.int 16384, Value.int 0, Value.int 0, Value.int 0, Value.ref 158, Value.ref 159, Value.int 0, Value.int 0, Value.int 0, Value.int 0, Value.int 0, Value.int 0, Value.int 0, Value.int 1]) (xga (xgs hw0)) (Nat.le_of_ble_eq_true rfl) rfl (by decide) ?_
  refine i_237_18 ?_
  refine i_237_27 ?_
  exact i_237_28 ⟨rfl, rfl⟩
theorem o_13_4 {d : Nat} {xs : Nat → Int32} (h0 : ((xs 0) &&& (31 : Int32)).toInt = 13) (c0 : 0 ≤ (xs 1).toInt) (c1 : 16 ≤ (xs 1).toInt) : ∃ w1, xEv (d + 20) 287 23 [(4, Value.int 0), (3, Value.ref 194), (2, Value.ref 128), (1, Value.ref 7), (0, Value.ref 0)] [] (W0 6 xs) (fun o' w' => o' = .inl (some (Value.int 1)) ∧ w' = w1) ∧ w1.length ≤ 220 ∧ xsz w1 ≤ 200000 := by
  refine ⟨(((((W0 6 xs) ++ [Sum.inr (14, [])]).set 128 (Sum.inr (12, [Value.ref 129, Value.ref 131, Value.ref 133, Value.ref 135, Value.ref 137, Value.ref 139, Value.ref 141, Value.ref 143, Value.ref 145, Value.ref 147, Value.ref 149, Value.ref 151, Value.ref 153, Value.ref 154, Value.ref 155, Value.ref 156, Value.ref 157, Value.int (-16384), Value.int 16384, Value.int 0, Value.int 0, Value.int 0, Value.ref 158, Value.ref 159, Value.int 0, Value.int 0, Value.int 0, Value.int 0, Value.int 0, Value.int 0, Value.int 0, Value.int 0]))) ++ [Sum.inr (14, [])]).set 128 (Sum.inr (12, [Value.ref 129, Value.ref 131, Value.ref 133, Value.ref 135, Value.ref 137, Value.ref 139, Value.ref 141, Value.ref 143, Value.ref 145, Value.ref 147, Value.ref 149, Value.ref 151, Value.ref 153, Value.ref 154, Value.ref 155, Value.ref 156, Value.ref 157, Value.int (-16384), Value.int 16384, Value.int 0, Value.int 0, Value.int 0, Value.ref 158, Value.ref 159, Value.int 0, Value.int 0, Value.int 0, Value.int 0, Value.int 0, Value.int 0, Value.int 0, Value.int 1]))), ?_, (show xLs _ 220 200000 from ?_)⟩
  · refine i_287_23 (x := 0) rfl ?_
    refine i_287_25 (x := 0) rfl ?_
    refine i_287_26 (c := 6) W0_0 (by decide) ?_
    refine i_287_27 ?_
    refine i_287_29 (c := 0) (by decide) ?_
    refine i_287_30 (fun h => absurd h (by decide)) (fun _ => ?_)
    refine i_287_33 (x := 0) rfl ?_
    refine i_287_34 (x := 0) rfl ?_
    refine i_287_36 (v := Value.int (xs 0)) W0_0 (by decide) (by decide) rfl ?_
    refine i_287_37 ?_
    refine i_287_39 (c := ((xs 0) &&& (31 : Int32))) rfl ?_
    refine i_287_40_13 (by omega) ?_
    refine i_287_1337 (x := 7) rfl ?_
    refine i_287_1338 (x := 0) rfl ?_
    refine i_287_1339 (x := 0) rfl ?_
    refine i_287_1341 ?_
    refine i_287_1342 (c := 1) (by decide) ?_
    refine i_287_1343 (v := Value.int (xs 1)) W0_0 (by decide) (by decide) rfl ?_
    refine i_287_1344 (x := 0) rfl ?_
    refine i_287_1345 (x := 0) rfl ?_
    refine i_287_1347 ?_
    refine i_287_1348 (c := 2) (by decide) ?_
    refine i_287_1349 (v := Value.int (xs 2)) W0_0 (by decide) (by decide) rfl ?_
    refine i_287_1350 (x := 194) rfl ?_
    refine i_287_1351 (Nat.le_of_ble_eq_true rfl) (p_121_4 W0_7 (by omega) (by omega)) ?_
    refine i_287_1354 (lv2 := [(5, Value.int 1), (4, Value.int 0), (3, Value.ref 194), (2, Value.ref 128), (1, Value.ref 7), (0, Value.ref 0)]) rfl ?_
    refine i_287_1356 (x := 128) rfl ?_
    refine i_287_1357 (x := 0) rfl ?_
    refine i_287_1358 (x := 0) rfl ?_
    refine i_287_1360 ?_
    refine i_287_1361 (c := 1) (by decide) ?_
    refine i_287_1362 (v := Value.int (xs 1)) (xga W0_0) (by decide) (by decide) rfl ?_
    refine i_287_1363 (x := 0) rfl ?_
    refine i_287_1364 (x := 0) rfl ?_
    refine i_287_1366 ?_
    refine i_287_1367 (c := 2) (by decide) ?_
    refine i_287_1368 (v := Value.int (xs 2)) (xga W0_0) (by decide) (by decide) rfl ?_
    refine i_287_1369 (xga W0_128) (Nat.le_of_ble_eq_true rfl) (p_237_4 (xga W0_128) (by omega) (by omega)) ?_
    refine i_287_1372 (lv2 := [(6, Value.int 0), (5, Value.int 1), (4, Value.int 0), (3, Value.ref 194), (2, Value.ref 128), (1, Value.ref 7), (0, Value.ref 0)]) rfl ?_
    refine i_287_1374 (x := 128) rfl ?_
    refine i_287_1375 (xgs (xga (xgs (xga W0_128)))) (Nat.le_of_ble_eq_true rfl) (p_165_0 (xgs (xga (xgs (xga W0_128))))) ?_
    refine i_287_1378 (x := 1) rfl ?_
    refine i_287_1380 (fun _ => ?_) (fun h => absurd h (by decide))
    refine i_287_1385 (x := 1) rfl ?_
    refine i_287_1387 (fun _ => ?_) (fun h => absurd h (by decide))
    refine i_287_1402 ?_
    refine i_287_2154 (x := 0) (c := 6) (lv2 := [(4, Value.int 6), (6, Value.int 0), (5, Value.int 1), (3, Value.ref 194), (2, Value.ref 128), (1, Value.ref 7), (0, Value.ref 0)]) rfl (by decide) rfl ?_
    refine i_287_2157 ?_
    refine i_287_23 (x := 6) rfl ?_
    refine i_287_25 (x := 0) rfl ?_
    refine i_287_26 (c := 6) (xgn (by decide) (xga (xgn (by decide) (xga W0_0)))) (by decide) ?_
    refine i_287_27 ?_
    refine i_287_29 (c := 0) (by decide) ?_
    refine i_287_30 (fun _ => ?_) (fun h => absurd h (by decide))
    refine i_287_2160 ?_
    exact i_287_2161 rfl ⟨rfl, rfl⟩
  · refine xLs.set ?_ (xga (xgs (xga W0_128))) xcs_o
    refine xLs.app (n := 219) (z := 199994) (m := 6) ?_ rfl
    refine xLs.set ?_ (xga W0_128) xcs_o
    refine xLs.app (n := 218) (z := 199988) (m := 6) ?_ rfl
    exact ⟨Nat.le_trans (Nat.le_of_eq W0_len) (by decide), Nat.le_trans (Nat.le_of_eq W0_sz) (by decide)⟩
theorem op_13 {d : Nat} {xs : Nat → Int32} (h0 : ((xs 0) &&& (31 : Int32)).toInt = 13) : ∃ w1, xEv (d + 20) 287 23 [(4, Value.int 0), (3, Value.ref 194), (2, Value.ref 128), (1, Value.ref 7), (0, Value.ref 0)] [] (W0 6 xs) (fun o' w' => o' = .inl (some (Value.int 1)) ∧ w' = w1) ∧ w1.length ≤ 220 ∧ xsz w1 ≤ 200000 := by
  rcases Int.lt_or_le (xs 1).toInt (0) with c0 | c0
  · exact o_13_0 h0 c0
  · rcases Int.lt_or_le (xs 1).toInt (16) with c1 | c1
    · rcases Int.lt_or_le (xs 2).toInt (0) with c2 | c2
      · exact o_13_1 h0 c0 c1 c2
      · rcases Int.lt_or_le (xs 2).toInt (16) with c3 | c3
        · exact o_13_2 h0 c0 c1 c2 c3
        · exact o_13_3 h0 c0 c1 c2 c3
    · exact o_13_4 h0 c0 c1
theorem p_124_0 {d : Nat} {w : xW} {a0 : Int32} {a1 : Int32} (e0 : a0.toInt < 0) : xRun (d + 6) 124 [Value.ref 7, Value.int a0, Value.int a1] w (.inr w.length) (w ++ [Sum.inr (14, [])]) := by
  refine xRun.of ?_
  refine i_124_0 (x := a0) rfl ?_
  refine i_124_1 (Nat.le_of_ble_eq_true rfl) (p_15_0 e0) ?_
  refine i_124_4 (fun _ => ?_) (fun h => absurd h (by decide))
  exact i_124_16 (by omega) (Nat.le_of_ble_eq_true rfl) ⟨rfl, rfl⟩
theorem p_123_0 {d : Nat} {w : xW} {a0 : Int32} {a1 : Int32} (hw0 : w[7]? = some (Sum.inr (0, [Value.ref 8, Value.ref 78, Value.ref 9, Value.ref 10, Value.ref 13, Value.ref 16, Value.ref 19, Value.ref 93, Value.ref 108, Value.ref 113, Value.ref 29, Value.int 0]))) (e1 : a0.toInt < 0) : xRun (d + 7) 123 [Value.ref 7, Value.int a0, Value.int a1, Value.ref 194] w (.inl (some (Value.int 1))) (w ++ [Sum.inr (14, [])]) := by
  refine xRun.of ?_
  refine i_123_0 (x := 194) rfl ?_
  refine i_123_1 ?_
  refine i_123_2 (x := 7) rfl ?_
  refine i_123_3 (x := a0) rfl ?_
  refine i_123_4 (x := a1) rfl ?_
  refine j_123_5 hw0 (Nat.le_of_ble_eq_true rfl) (p_124_0 e1) (xDone.c xgl rfl rfl ?_)
  refine i_123_13 (lv2 := [(4, Value.ref w.length), (0, Value.ref 7), (1, Value.int a0), (2, Value.int a1), (3, Value.ref 194)]) rfl ?_
  refine i_123_15 ?_
  exact i_123_16 ⟨rfl, rfl⟩
theorem p_243_0 {d : Nat} {w : xW} {a0 : Int32} {a1 : Int32} (e0 : a0.toInt < 0) : xRun (d + 8) 243 [Value.ref 128, Value.int a0, Value.int a1] w (.inr w.length) (w ++ [Sum.inr (14, [])]) := by
  refine xRun.of ?_
  refine i_243_0 (x := a0) rfl ?_
  exact j_243_1 (Nat.le_of_ble_eq_true rfl) (p_168_0 e0) (xDone.t xgl rfl rfl ⟨rfl, rfl⟩)
theorem p_242_0 {d : Nat} {w : xW} {a0 : Int32} {a1 : Int32} (hw0 : w[128]? = some (Sum.inr (12, [Value.ref 129, Value.ref 131, Value.ref 133, Value.ref 135, Value.ref 137, Value.ref 139, Value.ref 141, Value.ref 143, Value.ref 145, Value.ref 147, Value.ref 149, Value.ref 151, Value.ref 153, Value.ref 154, Value.ref 155, Value.ref 156, Value.ref 157, Value.int (-16384), Value.int 16384, Value.int 0, Value.int 0, Value.int 0, Value.ref 158, Value.ref 159, Value.int 0, Value.int 0, Value.int 0, Value.int 0, Value.int 0, Value.int 0, Value.int 0, Value.int 0]))) (e1 : a0.toInt < 0) : xRun (d + 9) 242 [Value.ref 128, Value.int a0, Value.int a1] w (.inl (some (Value.int 0))) (((w.set 128 (Sum.inr (12, [Value.ref 129, Value.ref 131, Value.ref 133, Value.ref 135, Value.ref 137, Value.ref 139, Value.ref 141, Value.ref 143, Value.ref 145, Value.ref 147, Value.ref 149, Value.ref 151, Value.ref 153, Value.ref 154, Value.ref 155, Value.ref 156, Value.ref 157, Value.int (-16384), Value.int 16384, Value.int 0, Value.int 0, Value.int 0, Value.ref 158, Value.ref 159, Value.int 0, Value.int 0, Value.int 0, Value.int 0, Value.int 0, Value.int 0, Value.int 0, Value.int 0]))) ++ [Sum.inr (14, [])]).set 128 (Sum.inr (12, [Value.ref 129, Value.ref 131, Value.ref 133, Value.ref 135, Value.ref 137, Value.ref 139, Value.ref 141, Value.ref 143, Value.ref 145, Value.ref 147, Value.ref 149, Value.ref 151, Value.ref 153, Value.ref 154, Value.ref 155, Value.ref 156, Value.ref 157, Value.int (-16384), Value.int 16384, Value.int 0, Value.int 0, Value.int 0, Value.ref 158, Value.ref 159, Value.int 0, Value.int 0, Value.int 0, Value.int 0, Value.int 0, Value.int 0, Value.int 0, Value.int 1]))) := by
  refine xRun.of ?_
  refine i_242_0 (x := 128) rfl ?_
  refine i_242_1 ?_
  refine i_242_2 (fs2 := [Value.ref 129, Value.ref 131, Value.ref 133, Value.ref 135, Value.ref 137, Value.ref 139, Value.ref 141, Value.ref 143, Value.ref 145, Value.ref 147, Value.ref 149, Value.ref 151, Value.ref 153, Value.ref 154, Value.ref 155, Value.ref 156, Value.ref 157, Value.int (-16384), Value.int 16384, Value.int 0, Value.int 0, Value.int 0, Value.ref 158, Value.ref 159, Value.int 0, Value.int 0, Value.int 0, Value.int 0, Value.int 0, Value.int 0, Value.int 0, Value.int 0]) hw0 (Nat.le_of_ble_eq_true rfl) rfl (by decide) ?_
  refine i_242_5 (x := 128) rfl ?_
  refine i_242_6 (x := a0) rfl ?_
  refine i_242_7 (x := a1) rfl ?_
  refine j_242_8 (xgs hw0) (Nat.le_of_ble_eq_true rfl) (p_243_0 e1) (xDone.c xgl rfl rfl ?_)
  refine i_242_12 (lv2 := [(3, Value.ref ((w.set 128 (Sum.inr (12, [Value.ref 129, Value.ref 131, Value.ref 133, Value.ref 135, Value.ref 137, Value.ref 139, Value.ref 141, Value.ref 143, Value.ref 145, Value.ref 147, Value.ref 149, Value.ref 151, Value.ref 153, Value.ref 154, Value.ref 155, Value.ref 156, Value.ref 157, Value.int (-16384), Value.int 16384, Value.int 0, Value.int 0, Value.int 0, Value.ref 158, Value.ref 159, Value.int 0, Value.int 0, Value.int 0, Value.int 0, Value.int 0, Value.int 0, Value.int 0, Value.int 0]))).length)), (0, Value.ref 128), (1, Value.int a0), (2, Value.int a1)]) rfl ?_
  refine i_242_13 (x := 128) rfl ?_
  refine i_242_14 ?_
  refine i_242_15 (fs2 := [Value.ref 129, Value.ref 131, Value.ref 133, Value.ref 135, Value.ref 137, Value.ref 139, Value.ref 141, Value.ref 143, Value.ref 145, Value.ref 147, Value.ref 149, Value.ref 151, Value.ref 153, Value.ref 154, Value.ref 155, Value.ref 156, Value.ref 157, Value.int (-16384), Value.int 16384, Value.int 0, Value.int 0, Value.int 0, Value.ref 158, Value.ref 159, Value.int 0, Value.int 0, Value.int 0, Value.int 0, Value.int 0, Value.int 0, Value.int 0, Value.int 1]) (xga (xgs hw0)) (Nat.le_of_ble_eq_true rfl) rfl (by decide) ?_
  refine i_242_18 ?_
  refine i_242_27 ?_
  exact i_242_28 ⟨rfl, rfl⟩
theorem o_14_0 {d : Nat} {xs : Nat → Int32} (h0 : ((xs 0) &&& (31 : Int32)).toInt = 14) (c0 : (xs 1).toInt < 0) : ∃ w1, xEv (d + 20) 287 23 [(4, Value.int 0), (3, Value.ref 194), (2, Value.ref 128), (1, Value.ref 7), (0, Value.ref 0)] [] (W0 6 xs) (fun o' w' => o' = .inl (some (Value.int 1)) ∧ w' = w1) ∧ w1.length ≤ 220 ∧ xsz w1 ≤ 200000 := by
  refine ⟨(((((W0 6 xs) ++ [Sum.inr (14, [])]).set 128 (Sum.inr (12, [Value.ref 129, Value.ref 131, Value.ref 133, Value.ref 135, Value.ref 137, Value.ref 139, Value.ref 141, Value.ref 143, Value.ref 145, Value.ref 147, Value.ref 149, Value.ref 151, Value.ref 153, Value.ref 154, Value.ref 155, Value.ref 156, Value.ref 157, Value.int (-16384), Value.int 16384, Value.int 0, Value.int 0, Value.int 0, Value.ref 158, Value.ref 159, Value.int 0, Value.int 0, Value.int 0, Value.int 0, Value.int 0, Value.int 0, Value.int 0, Value.int 0]))) ++ [Sum.inr (14, [])]).set 128 (Sum.inr (12, [Value.ref 129, Value.ref 131, Value.ref 133, Value.ref 135, Value.ref 137, Value.ref 139, Value.ref 141, Value.ref 143, Value.ref 145, Value.ref 147, Value.ref 149, Value.ref 151, Value.ref 153, Value.ref 154, Value.ref 155, Value.ref 156, Value.ref 157, Value.int (-16384), Value.int 16384, Value.int 0, Value.int 0, Value.int 0, Value.ref 158, Value.ref 159, Value.int 0, Value.int 0, Value.int 0, Value.int 0, Value.int 0, Value.int 0, Value.int 0, Value.int 1]))), ?_, (show xLs _ 220 200000 from ?_)⟩
  · refine i_287_23 (x := 0) rfl ?_
    refine i_287_25 (x := 0) rfl ?_
    refine i_287_26 (c := 6) W0_0 (by decide) ?_
    refine i_287_27 ?_
    refine i_287_29 (c := 0) (by decide) ?_
    refine i_287_30 (fun h => absurd h (by decide)) (fun _ => ?_)
    refine i_287_33 (x := 0) rfl ?_
    refine i_287_34 (x := 0) rfl ?_
    refine i_287_36 (v := Value.int (xs 0)) W0_0 (by decide) (by decide) rfl ?_
    refine i_287_37 ?_
    refine i_287_39 (c := ((xs 0) &&& (31 : Int32))) rfl ?_
    refine i_287_40_14 (by omega) ?_
    refine i_287_1405 (x := 7) rfl ?_
    refine i_287_1406 (x := 0) rfl ?_
    refine i_287_1407 (x := 0) rfl ?_
    refine i_287_1409 ?_
    refine i_287_1410 (c := 1) (by decide) ?_
    refine i_287_1411 (v := Value.int (xs 1)) W0_0 (by decide) (by decide) rfl ?_
    refine i_287_1412 (x := 0) rfl ?_
    refine i_287_1413 (x := 0) rfl ?_
    refine i_287_1415 ?_
    refine i_287_1416 (c := 2) (by decide) ?_
    refine i_287_1417 (v := Value.int (xs 2)) W0_0 (by decide) (by decide) rfl ?_
    refine i_287_1418 (x := 194) rfl ?_
    refine i_287_1419 (Nat.le_of_ble_eq_true rfl) (p_123_0 W0_7 (by omega)) ?_
    refine i_287_1422 (lv2 := [(5, Value.int 1), (4, Value.int 0), (3, Value.ref 194), (2, Value.ref 128), (1, Value.ref 7), (0, Value.ref 0)]) rfl ?_
    refine i_287_1424 (x := 128) rfl ?_
    refine i_287_1425 (x := 0) rfl ?_
    refine i_287_1426 (x := 0) rfl ?_
    refine i_287_1428 ?_
    refine i_287_1429 (c := 1) (by decide) ?_
    refine i_287_1430 (v := Value.int (xs 1)) (xga W0_0) (by decide) (by decide) rfl ?_
    refine i_287_1431 (x := 0) rfl ?_
    refine i_287_1432 (x := 0) rfl ?_
    refine i_287_1434 ?_
    refine i_287_1435 (c := 2) (by decide) ?_
    refine i_287_1436 (v := Value.int (xs 2)) (xga W0_0) (by decide) (by decide) rfl ?_
    refine i_287_1437 (xga W0_128) (Nat.le_of_ble_eq_true rfl) (p_242_0 (xga W0_128) (by omega)) ?_
    refine i_287_1440 (lv2 := [(6, Value.int 0), (5, Value.int 1), (4, Value.int 0), (3, Value.ref 194), (2, Value.ref 128), (1, Value.ref 7), (0, Value.ref 0)]) rfl ?_
    refine i_287_1442 (x := 128) rfl ?_
    refine i_287_1443 (xgs (xga (xgs (xga W0_128)))) (Nat.le_of_ble_eq_true rfl) (p_165_0 (xgs (xga (xgs (xga W0_128))))) ?_
    refine i_287_1446 (x := 1) rfl ?_
    refine i_287_1448 (fun _ => ?_) (fun h => absurd h (by decide))
    refine i_287_1453 (x := 1) rfl ?_
    refine i_287_1455 (fun _ => ?_) (fun h => absurd h (by decide))
    refine i_287_1470 ?_
    refine i_287_2154 (x := 0) (c := 6) (lv2 := [(4, Value.int 6), (6, Value.int 0), (5, Value.int 1), (3, Value.ref 194), (2, Value.ref 128), (1, Value.ref 7), (0, Value.ref 0)]) rfl (by decide) rfl ?_
    refine i_287_2157 ?_
    refine i_287_23 (x := 6) rfl ?_
    refine i_287_25 (x := 0) rfl ?_
    refine i_287_26 (c := 6) (xgn (by decide) (xga (xgn (by decide) (xga W0_0)))) (by decide) ?_
    refine i_287_27 ?_
    refine i_287_29 (c := 0) (by decide) ?_
    refine i_287_30 (fun _ => ?_) (fun h => absurd h (by decide))
    refine i_287_2160 ?_
    exact i_287_2161 rfl ⟨rfl, rfl⟩
  · refine xLs.set ?_ (xga (xgs (xga W0_128))) xcs_o
    refine xLs.app (n := 219) (z := 199994) (m := 6) ?_ rfl
    refine xLs.set ?_ (xga W0_128) xcs_o
    refine xLs.app (n := 218) (z := 199988) (m := 6) ?_ rfl
    exact ⟨Nat.le_trans (Nat.le_of_eq W0_len) (by decide), Nat.le_trans (Nat.le_of_eq W0_sz) (by decide)⟩
theorem p_124_1 {d : Nat} {w : xW} {a0 : Int32} {a1 : Int32} (e0 : 0 ≤ a0.toInt) (e1 : a0.toInt < 16) (e2 : a1.toInt < 0) : xRun (d + 6) 124 [Value.ref 7, Value.int a0, Value.int a1] w (.inr w.length) (w ++ [Sum.inr (14, [])]) := by
  refine xRun.of ?_
  refine i_124_0 (x := a0) rfl ?_
  refine i_124_1 (Nat.le_of_ble_eq_true rfl) (p_15_1 e0 e1) ?_
  refine i_124_4 (fun h => absurd h (by decide)) (fun _ => ?_)
  refine i_124_7 (x := a1) rfl ?_
  refine i_124_8 (fun _ => ?_) (fun h => absurd e2 (Int.not_lt.mpr h))
  exact i_124_16 (by omega) (Nat.le_of_ble_eq_true rfl) ⟨rfl, rfl⟩
theorem p_123_1 {d : Nat} {w : xW} {a0 : Int32} {a1 : Int32} (hw0 : w[7]? = some (Sum.inr (0, [Value.ref 8, Value.ref 78, Value.ref 9, Value.ref 10, Value.ref 13, Value.ref 16, Value.ref 19, Value.ref 93, Value.ref 108, Value.ref 113, Value.ref 29, Value.int 0]))) (e1 : 0 ≤ a0.toInt) (e2 : a0.toInt < 16) (e3 : a1.toInt < 0) : xRun (d + 7) 123 [Value.ref 7, Value.int a0, Value.int a1, Value.ref 194] w (.inl (some (Value.int 1))) (w ++ [Sum.inr (14, [])]) := by
  refine xRun.of ?_
  refine i_123_0 (x := 194) rfl ?_
  refine i_123_1 ?_
  refine i_123_2 (x := 7) rfl ?_
  refine i_123_3 (x := a0) rfl ?_
  refine i_123_4 (x := a1) rfl ?_
  refine j_123_5 hw0 (Nat.le_of_ble_eq_true rfl) (p_124_1 e1 e2 e3) (xDone.c xgl rfl rfl ?_)
  refine i_123_13 (lv2 := [(4, Value.ref w.length), (0, Value.ref 7), (1, Value.int a0), (2, Value.int a1), (3, Value.ref 194)]) rfl ?_
  refine i_123_15 ?_
  exact i_123_16 ⟨rfl, rfl⟩
theorem p_169_24 {d : Nat} {w : xW} {a0 : Int32} (e0 : a0.toInt < 0) : xRun d 169 [Value.int a0, Value.int 0, Value.int 3] w (.inl (some (Value.int 0))) w := by
  refine xRun.of ?_
  refine i_169_0 (x := a0) rfl ?_
  refine i_169_1 (x := 0) rfl ?_
  refine i_169_2 (fun _ => ?_) (fun h => absurd e0 (Int.not_lt.mpr h))
  refine i_169_14 ?_
  exact i_169_15 rfl ⟨rfl, rfl⟩
theorem p_243_1 {d : Nat} {w : xW} {a0 : Int32} {a1 : Int32} (e0 : 0 ≤ a0.toInt) (e1 : a0.toInt ≤ 15) (e2 : a1.toInt < 0) : xRun (d + 7) 243 [Value.ref 128, Value.int a0, Value.int a1] w (.inr w.length) (w ++ [Sum.inr (14, [])]) := by
  refine xRun.of ?_
  refine i_243_0 (x := a0) rfl ?_
  refine i_243_1 (Nat.le_of_ble_eq_true rfl) (p_168_1 e0 e1) ?_
  refine i_243_4 (x := a1) rfl ?_
  refine i_243_5 ?_
  refine i_243_6 ?_
  refine i_243_7 (Nat.le_of_ble_eq_true rfl) (p_169_24 e2) ?_
  exact j_243_10 (Nat.le_of_ble_eq_true rfl) (p_170_0) (xDone.t xgl rfl rfl ⟨rfl, rfl⟩)
theorem p_242_1 {d : Nat} {w : xW} {a0 : Int32} {a1 : Int32} (hw0 : w[128]? = some (Sum.inr (12, [Value.ref 129, Value.ref 131, Value.ref 133, Value.ref 135, Value.ref 137, Value.ref 139, Value.ref 141, Value.ref 143, Value.ref 145, Value.ref 147, Value.ref 149, Value.ref 151, Value.ref 153, Value.ref 154, Value.ref 155, Value.ref 156, Value.ref 157, Value.int (-16384), Value.int 16384, Value.int 0, Value.int 0, Value.int 0, Value.ref 158, Value.ref 159, Value.int 0, Value.int 0, Value.int 0, Value.int 0, Value.int 0, Value.int 0, Value.int 0, Value.int 0]))) (e1 : 0 ≤ a0.toInt) (e2 : a0.toInt ≤ 15) (e3 : a1.toInt < 0) : xRun (d + 8) 242 [Value.ref 128, Value.int a0, Value.int a1] w (.inl (some (Value.int 0))) (((w.set 128 (Sum.inr (12, [Value.ref 129, Value.ref 131, Value.ref 133, Value.ref 135, Value.ref 137, Value.ref 139, Value.ref 141, Value.ref 143, Value.ref 145, Value.ref 147, Value.ref 149, Value.ref 151, Value.ref 153, Value.ref 154, Value.ref 155, Value.ref 156, Value.ref 157, Value.int (-16384), Value.int 16384, Value.int 0, Value.int 0, Value.int 0, Value.ref 158, Value.ref 159, Value.int 0, Value.int 0, Value.int 0, Value.int 0, Value.int 0, Value.int 0, Value.int 0, Value.int 0]))) ++ [Sum.inr (14, [])]).set 128 (Sum.inr (12, [Value.ref 129, Value.ref 131, Value.ref 133, Value.ref 135, Value.ref 137, Value.ref 139, Value.ref 141, Value.ref 143, Value.ref 145, Value.ref 147, Value.ref 149, Value.ref 151, Value.ref 153, Value.ref 154, Value.ref 155, Value.ref 156, Value.ref 157, Value.int (-16384), Value.int 16384, Value.int 0, Value.int 0, Value.int 0, Value.ref 158, Value.ref 159, Value.int 0, Value.int 0, Value.int 0, Value.int 0, Value.int 0, Value.int 0, Value.int 0, Value.int 1]))) := by
  refine xRun.of ?_
  refine i_242_0 (x := 128) rfl ?_
  refine i_242_1 ?_
  refine i_242_2 (fs2 := [Value.ref 129, Value.ref 131, Value.ref 133, Value.ref 135, Value.ref 137, Value.ref 139, Value.ref 141, Value.ref 143, Value.ref 145, Value.ref 147, Value.ref 149, Value.ref 151, Value.ref 153, Value.ref 154, Value.ref 155, Value.ref 156, Value.ref 157, Value.int (-16384), Value.int 16384, Value.int 0, Value.int 0, Value.int 0, Value.ref 158, Value.ref 159, Value.int 0, Value.int 0, Value.int 0, Value.int 0, Value.int 0, Value.int 0, Value.int 0, Value.int 0]) hw0 (Nat.le_of_ble_eq_true rfl) rfl (by decide) ?_
  refine i_242_5 (x := 128) rfl ?_
  refine i_242_6 (x := a0) rfl ?_
  refine i_242_7 (x := a1) rfl ?_
  refine j_242_8 (xgs hw0) (Nat.le_of_ble_eq_true rfl) (p_243_1 e1 e2 e3) (xDone.c xgl rfl rfl ?_)
  refine i_242_12 (lv2 := [(3, Value.ref ((w.set 128 (Sum.inr (12, [Value.ref 129, Value.ref 131, Value.ref 133, Value.ref 135, Value.ref 137, Value.ref 139, Value.ref 141, Value.ref 143, Value.ref 145, Value.ref 147, Value.ref 149, Value.ref 151, Value.ref 153, Value.ref 154, Value.ref 155, Value.ref 156, Value.ref 157, Value.int (-16384), Value.int 16384, Value.int 0, Value.int 0, Value.int 0, Value.ref 158, Value.ref 159, Value.int 0, Value.int 0, Value.int 0, Value.int 0, Value.int 0, Value.int 0, Value.int 0, Value.int 0]))).length)), (0, Value.ref 128), (1, Value.int a0), (2, Value.int a1)]) rfl ?_
  refine i_242_13 (x := 128) rfl ?_
  refine i_242_14 ?_
  refine i_242_15 (fs2 := [Value.ref 129, Value.ref 131, Value.ref 133, Value.ref 135, Value.ref 137, Value.ref 139, Value.ref 141, Value.ref 143, Value.ref 145, Value.ref 147, Value.ref 149, Value.ref 151, Value.ref 153, Value.ref 154, Value.ref 155, Value.ref 156, Value.ref 157, Value.int (-16384), Value.int 16384, Value.int 0, Value.int 0, Value.int 0, Value.ref 158, Value.ref 159, Value.int 0, Value.int 0, Value.int 0, Value.int 0, Value.int 0, Value.int 0, Value.int 0, Value.int 1]) (xga (xgs hw0)) (Nat.le_of_ble_eq_true rfl) rfl (by decide) ?_
  refine i_242_18 ?_
  refine i_242_27 ?_
  exact i_242_28 ⟨rfl, rfl⟩
theorem o_14_1 {d : Nat} {xs : Nat → Int32} (h0 : ((xs 0) &&& (31 : Int32)).toInt = 14) (c0 : 0 ≤ (xs 1).toInt) (c1 : (xs 1).toInt < 16) (c2 : (xs 2).toInt < 0) : ∃ w1, xEv (d + 20) 287 23 [(4, Value.int 0), (3, Value.ref 194), (2, Value.ref 128), (1, Value.ref 7), (0, Value.ref 0)] [] (W0 6 xs) (fun o' w' => o' = .inl (some (Value.int 1)) ∧ w' = w1) ∧ w1.length ≤ 220 ∧ xsz w1 ≤ 200000 := by
  refine ⟨(((((W0 6 xs) ++ [Sum.inr (14, [])]).set 128 (Sum.inr (12, [Value.ref 129, Value.ref 131, Value.ref 133, Value.ref 135, Value.ref 137, Value.ref 139, Value.ref 141, Value.ref 143, Value.ref 145, Value.ref 147, Value.ref 149, Value.ref 151, Value.ref 153, Value.ref 154, Value.ref 155, Value.ref 156, Value.ref 157, Value.int (-16384), Value.int 16384, Value.int 0, Value.int 0, Value.int 0, Value.ref 158, Value.ref 159, Value.int 0, Value.int 0, Value.int 0, Value.int 0, Value.int 0, Value.int 0, Value.int 0, Value.int 0]))) ++ [Sum.inr (14, [])]).set 128 (Sum.inr (12, [Value.ref 129, Value.ref 131, Value.ref 133, Value.ref 135, Value.ref 137, Value.ref 139, Value.ref 141, Value.ref 143, Value.ref 145, Value.ref 147, Value.ref 149, Value.ref 151, Value.ref 153, Value.ref 154, Value.ref 155, Value.ref 156, Value.ref 157, Value.int (-16384), Value.int 16384, Value.int 0, Value.int 0, Value.int 0, Value.ref 158, Value.ref 159, Value.int 0, Value.int 0, Value.int 0, Value.int 0, Value.int 0, Value.int 0, Value.int 0, Value.int 1]))), ?_, (show xLs _ 220 200000 from ?_)⟩
  · refine i_287_23 (x := 0) rfl ?_
    refine i_287_25 (x := 0) rfl ?_
    refine i_287_26 (c := 6) W0_0 (by decide) ?_
    refine i_287_27 ?_
    refine i_287_29 (c := 0) (by decide) ?_
    refine i_287_30 (fun h => absurd h (by decide)) (fun _ => ?_)
    refine i_287_33 (x := 0) rfl ?_
    refine i_287_34 (x := 0) rfl ?_
    refine i_287_36 (v := Value.int (xs 0)) W0_0 (by decide) (by decide) rfl ?_
    refine i_287_37 ?_
    refine i_287_39 (c := ((xs 0) &&& (31 : Int32))) rfl ?_
    refine i_287_40_14 (by omega) ?_
    refine i_287_1405 (x := 7) rfl ?_
    refine i_287_1406 (x := 0) rfl ?_
    refine i_287_1407 (x := 0) rfl ?_
    refine i_287_1409 ?_
    refine i_287_1410 (c := 1) (by decide) ?_
    refine i_287_1411 (v := Value.int (xs 1)) W0_0 (by decide) (by decide) rfl ?_
    refine i_287_1412 (x := 0) rfl ?_
    refine i_287_1413 (x := 0) rfl ?_
    refine i_287_1415 ?_
    refine i_287_1416 (c := 2) (by decide) ?_
    refine i_287_1417 (v := Value.int (xs 2)) W0_0 (by decide) (by decide) rfl ?_
    refine i_287_1418 (x := 194) rfl ?_
    refine i_287_1419 (Nat.le_of_ble_eq_true rfl) (p_123_1 W0_7 (by omega) (by omega) (by omega)) ?_
    refine i_287_1422 (lv2 := [(5, Value.int 1), (4, Value.int 0), (3, Value.ref 194), (2, Value.ref 128), (1, Value.ref 7), (0, Value.ref 0)]) rfl ?_
    refine i_287_1424 (x := 128) rfl ?_
    refine i_287_1425 (x := 0) rfl ?_
    refine i_287_1426 (x := 0) rfl ?_
    refine i_287_1428 ?_
    refine i_287_1429 (c := 1) (by decide) ?_
    refine i_287_1430 (v := Value.int (xs 1)) (xga W0_0) (by decide) (by decide) rfl ?_
    refine i_287_1431 (x := 0) rfl ?_
    refine i_287_1432 (x := 0) rfl ?_
    refine i_287_1434 ?_
    refine i_287_1435 (c := 2) (by decide) ?_
    refine i_287_1436 (v := Value.int (xs 2)) (xga W0_0) (by decide) (by decide) rfl ?_
    refine i_287_1437 (xga W0_128) (Nat.le_of_ble_eq_true rfl) (p_242_1 (xga W0_128) (by omega) (by omega) (by omega)) ?_
    refine i_287_1440 (lv2 := [(6, Value.int 0), (5, Value.int 1), (4, Value.int 0), (3, Value.ref 194), (2, Value.ref 128), (1, Value.ref 7), (0, Value.ref 0)]) rfl ?_
    refine i_287_1442 (x := 128) rfl ?_
    refine i_287_1443 (xgs (xga (xgs (xga W0_128)))) (Nat.le_of_ble_eq_true rfl) (p_165_0 (xgs (xga (xgs (xga W0_128))))) ?_
    refine i_287_1446 (x := 1) rfl ?_
    refine i_287_1448 (fun _ => ?_) (fun h => absurd h (by decide))
    refine i_287_1453 (x := 1) rfl ?_
    refine i_287_1455 (fun _ => ?_) (fun h => absurd h (by decide))
    refine i_287_1470 ?_
    refine i_287_2154 (x := 0) (c := 6) (lv2 := [(4, Value.int 6), (6, Value.int 0), (5, Value.int 1), (3, Value.ref 194), (2, Value.ref 128), (1, Value.ref 7), (0, Value.ref 0)]) rfl (by decide) rfl ?_
    refine i_287_2157 ?_
    refine i_287_23 (x := 6) rfl ?_
    refine i_287_25 (x := 0) rfl ?_
    refine i_287_26 (c := 6) (xgn (by decide) (xga (xgn (by decide) (xga W0_0)))) (by decide) ?_
    refine i_287_27 ?_
    refine i_287_29 (c := 0) (by decide) ?_
    refine i_287_30 (fun _ => ?_) (fun h => absurd h (by decide))
    refine i_287_2160 ?_
    exact i_287_2161 rfl ⟨rfl, rfl⟩
  · refine xLs.set ?_ (xga (xgs (xga W0_128))) xcs_o
    refine xLs.app (n := 219) (z := 199994) (m := 6) ?_ rfl
    refine xLs.set ?_ (xga W0_128) xcs_o
    refine xLs.app (n := 218) (z := 199988) (m := 6) ?_ rfl
    exact ⟨Nat.le_trans (Nat.le_of_eq W0_len) (by decide), Nat.le_trans (Nat.le_of_eq W0_sz) (by decide)⟩
theorem p_124_2 {d : Nat} {w : xW} {a0 : Int32} {a1 : Int32} (e0 : 0 ≤ a0.toInt) (e1 : a0.toInt < 16) (e2 : 0 ≤ a1.toInt) (e3 : 3 < a1.toInt) : xRun (d + 6) 124 [Value.ref 7, Value.int a0, Value.int a1] w (.inr w.length) (w ++ [Sum.inr (14, [])]) := by
  refine xRun.of ?_
  refine i_124_0 (x := a0) rfl ?_
  refine i_124_1 (Nat.le_of_ble_eq_true rfl) (p_15_1 e0 e1) ?_
  refine i_124_4 (fun h => absurd h (by decide)) (fun _ => ?_)
  refine i_124_7 (x := a1) rfl ?_
  refine i_124_8 (fun h => absurd e2 (Int.not_le.mpr h)) (fun _ => ?_)
  refine i_124_11 (x := a1) rfl ?_
  refine i_124_12 ?_
  refine i_124_13 (fun h => absurd e3 (Int.not_lt.mpr h)) (fun _ => ?_)
  exact i_124_16 (by omega) (Nat.le_of_ble_eq_true rfl) ⟨rfl, rfl⟩
theorem p_123_2 {d : Nat} {w : xW} {a0 : Int32} {a1 : Int32} (hw0 : w[7]? = some (Sum.inr (0, [Value.ref 8, Value.ref 78, Value.ref 9, Value.ref 10, Value.ref 13, Value.ref 16, Value.ref 19, Value.ref 93, Value.ref 108, Value.ref 113, Value.ref 29, Value.int 0]))) (e1 : 0 ≤ a0.toInt) (e2 : a0.toInt < 16) (e3 : 0 ≤ a1.toInt) (e4 : 3 < a1.toInt) : xRun (d + 7) 123 [Value.ref 7, Value.int a0, Value.int a1, Value.ref 194] w (.inl (some (Value.int 1))) (w ++ [Sum.inr (14, [])]) := by
  refine xRun.of ?_
  refine i_123_0 (x := 194) rfl ?_
  refine i_123_1 ?_
  refine i_123_2 (x := 7) rfl ?_
  refine i_123_3 (x := a0) rfl ?_
  refine i_123_4 (x := a1) rfl ?_
  refine j_123_5 hw0 (Nat.le_of_ble_eq_true rfl) (p_124_2 e1 e2 e3 e4) (xDone.c xgl rfl rfl ?_)
  refine i_123_13 (lv2 := [(4, Value.ref w.length), (0, Value.ref 7), (1, Value.int a0), (2, Value.int a1), (3, Value.ref 194)]) rfl ?_
  refine i_123_15 ?_
  exact i_123_16 ⟨rfl, rfl⟩
theorem p_169_25 {d : Nat} {w : xW} {a0 : Int32} (e0 : 0 ≤ a0.toInt) (e1 : 3 < a0.toInt) : xRun d 169 [Value.int a0, Value.int 0, Value.int 3] w (.inl (some (Value.int 0))) w := by
  refine xRun.of ?_
  refine i_169_0 (x := a0) rfl ?_
  refine i_169_1 (x := 0) rfl ?_
  refine i_169_2 (fun h => absurd e0 (Int.not_le.mpr h)) (fun _ => ?_)
  refine i_169_5 (x := a0) rfl ?_
  refine i_169_6 (x := 3) rfl ?_
  refine i_169_7 (fun _ => ?_) (fun h => absurd e1 (Int.not_lt.mpr h))
  refine i_169_14 ?_
  exact i_169_15 rfl ⟨rfl, rfl⟩
theorem p_243_2 {d : Nat} {w : xW} {a0 : Int32} {a1 : Int32} (e0 : 0 ≤ a0.toInt) (e1 : a0.toInt ≤ 15) (e2 : 0 ≤ a1.toInt) (e3 : 3 < a1.toInt) : xRun (d + 7) 243 [Value.ref 128, Value.int a0, Value.int a1] w (.inr w.length) (w ++ [Sum.inr (14, [])]) := by
  refine xRun.of ?_
  refine i_243_0 (x := a0) rfl ?_
  refine i_243_1 (Nat.le_of_ble_eq_true rfl) (p_168_1 e0 e1) ?_
  refine i_243_4 (x := a1) rfl ?_
  refine i_243_5 ?_
  refine i_243_6 ?_
  refine i_243_7 (Nat.le_of_ble_eq_true rfl) (p_169_25 e2 e3) ?_
  exact j_243_10 (Nat.le_of_ble_eq_true rfl) (p_170_0) (xDone.t xgl rfl rfl ⟨rfl, rfl⟩)
theorem p_242_2 {d : Nat} {w : xW} {a0 : Int32} {a1 : Int32} (hw0 : w[128]? = some (Sum.inr (12, [Value.ref 129, Value.ref 131, Value.ref 133, Value.ref 135, Value.ref 137, Value.ref 139, Value.ref 141, Value.ref 143, Value.ref 145, Value.ref 147, Value.ref 149, Value.ref 151, Value.ref 153, Value.ref 154, Value.ref 155, Value.ref 156, Value.ref 157, Value.int (-16384), Value.int 16384, Value.int 0, Value.int 0, Value.int 0, Value.ref 158, Value.ref 159, Value.int 0, Value.int 0, Value.int 0, Value.int 0, Value.int 0, Value.int 0, Value.int 0, Value.int 0]))) (e1 : 0 ≤ a0.toInt) (e2 : a0.toInt ≤ 15) (e3 : 0 ≤ a1.toInt) (e4 : 3 < a1.toInt) : xRun (d + 8) 242 [Value.ref 128, Value.int a0, Value.int a1] w (.inl (some (Value.int 0))) (((w.set 128 (Sum.inr (12, [Value.ref 129, Value.ref 131, Value.ref 133, Value.ref 135, Value.ref 137, Value.ref 139, Value.ref 141, Value.ref 143, Value.ref 145, Value.ref 147, Value.ref 149, Value.ref 151, Value.ref 153, Value.ref 154, Value.ref 155, Value.ref 156, Value.ref 157, Value.int (-16384), Value.int 16384, Value.int 0, Value.int 0, Value.int 0, Value.ref 158, Value.ref 159, Value.int 0, Value.int 0, Value.int 0, Value.int 0, Value.int 0, Value.int 0, Value.int 0, Value.int 0]))) ++ [Sum.inr (14, [])]).set 128 (Sum.inr (12, [Value.ref 129, Value.ref 131, Value.ref 133, Value.ref 135, Value.ref 137, Value.ref 139, Value.ref 141, Value.ref 143, Value.ref 145, Value.ref 147, Value.ref 149, Value.ref 151, Value.ref 153, Value.ref 154, Value.ref 155, Value.ref 156, Value.ref 157, Value.int (-16384), Value.int 16384, Value.int 0, Value.int 0, Value.int 0, Value.ref 158, Value.ref 159, Value.int 0, Value.int 0, Value.int 0, Value.int 0, Value.int 0, Value.int 0, Value.int 0, Value.int 1]))) := by
  refine xRun.of ?_
  refine i_242_0 (x := 128) rfl ?_
  refine i_242_1 ?_
  refine i_242_2 (fs2 := [Value.ref 129, Value.ref 131, Value.ref 133, Value.ref 135, Value.ref 137, Value.ref 139, Value.ref 141, Value.ref 143, Value.ref 145, Value.ref 147, Value.ref 149, Value.ref 151, Value.ref 153, Value.ref 154, Value.ref 155, Value.ref 156, Value.ref 157, Value.int (-16384), Value.int 16384, Value.int 0, Value.int 0, Value.int 0, Value.ref 158, Value.ref 159, Value.int 0, Value.int 0, Value.int 0, Value.int 0, Value.int 0, Value.int 0, Value.int 0, Value.int 0]) hw0 (Nat.le_of_ble_eq_true rfl) rfl (by decide) ?_
  refine i_242_5 (x := 128) rfl ?_
  refine i_242_6 (x := a0) rfl ?_
  refine i_242_7 (x := a1) rfl ?_
  refine j_242_8 (xgs hw0) (Nat.le_of_ble_eq_true rfl) (p_243_2 e1 e2 e3 e4) (xDone.c xgl rfl rfl ?_)
  refine i_242_12 (lv2 := [(3, Value.ref ((w.set 128 (Sum.inr (12, [Value.ref 129, Value.ref 131, Value.ref 133, Value.ref 135, Value.ref 137, Value.ref 139, Value.ref 141, Value.ref 143, Value.ref 145, Value.ref 147, Value.ref 149, Value.ref 151, Value.ref 153, Value.ref 154, Value.ref 155, Value.ref 156, Value.ref 157, Value.int (-16384), Value.int 16384, Value.int 0, Value.int 0, Value.int 0, Value.ref 158, Value.ref 159, Value.int 0, Value.int 0, Value.int 0, Value.int 0, Value.int 0, Value.int 0, Value.int 0, Value.int 0]))).length)), (0, Value.ref 128), (1, Value.int a0), (2, Value.int a1)]) rfl ?_
  refine i_242_13 (x := 128) rfl ?_
  refine i_242_14 ?_
  refine i_242_15 (fs2 := [Value.ref 129, Value.ref 131, Value.ref 133, Value.ref 135, Value.ref 137, Value.ref 139, Value.ref 141, Value.ref 143, Value.ref 145, Value.ref 147, Value.ref 149, Value.ref 151, Value.ref 153, Value.ref 154, Value.ref 155, Value.ref 156, Value.ref 157, Value.int (-16384), Value.int 16384, Value.int 0, Value.int 0, Value.int 0, Value.ref 158, Value.ref 159, Value.int 0, Value.int 0, Value.int 0, Value.int 0, Value.int 0, Value.int 0, Value.int 0, Value.int 1]) (xga (xgs hw0)) (Nat.le_of_ble_eq_true rfl) rfl (by decide) ?_
  refine i_242_18 ?_
  refine i_242_27 ?_
  exact i_242_28 ⟨rfl, rfl⟩
theorem o_14_2 {d : Nat} {xs : Nat → Int32} (h0 : ((xs 0) &&& (31 : Int32)).toInt = 14) (c0 : 0 ≤ (xs 1).toInt) (c1 : (xs 1).toInt < 16) (c2 : 0 ≤ (xs 2).toInt) (c3 : 3 < (xs 2).toInt) : ∃ w1, xEv (d + 20) 287 23 [(4, Value.int 0), (3, Value.ref 194), (2, Value.ref 128), (1, Value.ref 7), (0, Value.ref 0)] [] (W0 6 xs) (fun o' w' => o' = .inl (some (Value.int 1)) ∧ w' = w1) ∧ w1.length ≤ 220 ∧ xsz w1 ≤ 200000 := by
  refine ⟨(((((W0 6 xs) ++ [Sum.inr (14, [])]).set 128 (Sum.inr (12, [Value.ref 129, Value.ref 131, Value.ref 133, Value.ref 135, Value.ref 137, Value.ref 139, Value.ref 141, Value.ref 143, Value.ref 145, Value.ref 147, Value.ref 149, Value.ref 151, Value.ref 153, Value.ref 154, Value.ref 155, Value.ref 156, Value.ref 157, Value.int (-16384), Value.int 16384, Value.int 0, Value.int 0, Value.int 0, Value.ref 158, Value.ref 159, Value.int 0, Value.int 0, Value.int 0, Value.int 0, Value.int 0, Value.int 0, Value.int 0, Value.int 0]))) ++ [Sum.inr (14, [])]).set 128 (Sum.inr (12, [Value.ref 129, Value.ref 131, Value.ref 133, Value.ref 135, Value.ref 137, Value.ref 139, Value.ref 141, Value.ref 143, Value.ref 145, Value.ref 147, Value.ref 149, Value.ref 151, Value.ref 153, Value.ref 154, Value.ref 155, Value.ref 156, Value.ref 157, Value.int (-16384), Value.int 16384, Value.int 0, Value.int 0, Value.int 0, Value.ref 158, Value.ref 159, Value.int 0, Value.int 0, Value.int 0, Value.int 0, Value.int 0, Value.int 0, Value.int 0, Value.int 1]))), ?_, (show xLs _ 220 200000 from ?_)⟩
  · refine i_287_23 (x := 0) rfl ?_
    refine i_287_25 (x := 0) rfl ?_
    refine i_287_26 (c := 6) W0_0 (by decide) ?_
    refine i_287_27 ?_
    refine i_287_29 (c := 0) (by decide) ?_
    refine i_287_30 (fun h => absurd h (by decide)) (fun _ => ?_)
    refine i_287_33 (x := 0) rfl ?_
    refine i_287_34 (x := 0) rfl ?_
    refine i_287_36 (v := Value.int (xs 0)) W0_0 (by decide) (by decide) rfl ?_
    refine i_287_37 ?_
    refine i_287_39 (c := ((xs 0) &&& (31 : Int32))) rfl ?_
    refine i_287_40_14 (by omega) ?_
    refine i_287_1405 (x := 7) rfl ?_
    refine i_287_1406 (x := 0) rfl ?_
    refine i_287_1407 (x := 0) rfl ?_
    refine i_287_1409 ?_
    refine i_287_1410 (c := 1) (by decide) ?_
    refine i_287_1411 (v := Value.int (xs 1)) W0_0 (by decide) (by decide) rfl ?_
    refine i_287_1412 (x := 0) rfl ?_
    refine i_287_1413 (x := 0) rfl ?_
    refine i_287_1415 ?_
    refine i_287_1416 (c := 2) (by decide) ?_
    refine i_287_1417 (v := Value.int (xs 2)) W0_0 (by decide) (by decide) rfl ?_
    refine i_287_1418 (x := 194) rfl ?_
    refine i_287_1419 (Nat.le_of_ble_eq_true rfl) (p_123_2 W0_7 (by omega) (by omega) (by omega) (by omega)) ?_
    refine i_287_1422 (lv2 := [(5, Value.int 1), (4, Value.int 0), (3, Value.ref 194), (2, Value.ref 128), (1, Value.ref 7), (0, Value.ref 0)]) rfl ?_
    refine i_287_1424 (x := 128) rfl ?_
    refine i_287_1425 (x := 0) rfl ?_
    refine i_287_1426 (x := 0) rfl ?_
    refine i_287_1428 ?_
    refine i_287_1429 (c := 1) (by decide) ?_
    refine i_287_1430 (v := Value.int (xs 1)) (xga W0_0) (by decide) (by decide) rfl ?_
    refine i_287_1431 (x := 0) rfl ?_
    refine i_287_1432 (x := 0) rfl ?_
    refine i_287_1434 ?_
    refine i_287_1435 (c := 2) (by decide) ?_
    refine i_287_1436 (v := Value.int (xs 2)) (xga W0_0) (by decide) (by decide) rfl ?_
    refine i_287_1437 (xga W0_128) (Nat.le_of_ble_eq_true rfl) (p_242_2 (xga W0_128) (by omega) (by omega) (by omega) (by omega)) ?_
    refine i_287_1440 (lv2 := [(6, Value.int 0), (5, Value.int 1), (4, Value.int 0), (3, Value.ref 194), (2, Value.ref 128), (1, Value.ref 7), (0, Value.ref 0)]) rfl ?_
    refine i_287_1442 (x := 128) rfl ?_
    refine i_287_1443 (xgs (xga (xgs (xga W0_128)))) (Nat.le_of_ble_eq_true rfl) (p_165_0 (xgs (xga (xgs (xga W0_128))))) ?_
    refine i_287_1446 (x := 1) rfl ?_
    refine i_287_1448 (fun _ => ?_) (fun h => absurd h (by decide))
    refine i_287_1453 (x := 1) rfl ?_
    refine i_287_1455 (fun _ => ?_) (fun h => absurd h (by decide))
    refine i_287_1470 ?_
    refine i_287_2154 (x := 0) (c := 6) (lv2 := [(4, Value.int 6), (6, Value.int 0), (5, Value.int 1), (3, Value.ref 194), (2, Value.ref 128), (1, Value.ref 7), (0, Value.ref 0)]) rfl (by decide) rfl ?_
    refine i_287_2157 ?_
    refine i_287_23 (x := 6) rfl ?_
    refine i_287_25 (x := 0) rfl ?_
    refine i_287_26 (c := 6) (xgn (by decide) (xga (xgn (by decide) (xga W0_0)))) (by decide) ?_
    refine i_287_27 ?_
    refine i_287_29 (c := 0) (by decide) ?_
    refine i_287_30 (fun _ => ?_) (fun h => absurd h (by decide))
    refine i_287_2160 ?_
    exact i_287_2161 rfl ⟨rfl, rfl⟩
  · refine xLs.set ?_ (xga (xgs (xga W0_128))) xcs_o
    refine xLs.app (n := 219) (z := 199994) (m := 6) ?_ rfl
    refine xLs.set ?_ (xga W0_128) xcs_o
    refine xLs.app (n := 218) (z := 199988) (m := 6) ?_ rfl
    exact ⟨Nat.le_trans (Nat.le_of_eq W0_len) (by decide), Nat.le_trans (Nat.le_of_eq W0_sz) (by decide)⟩
theorem p_124_3 {d : Nat} {w : xW} {a0 : Int32} {a1 : Int32} {g0 : Nat → Value} {h0 : Nat} {h1 : Nat} (e0 : 0 ≤ a0.toInt) (e1 : a0.toInt < 16) (e2 : 0 ≤ a1.toInt) (e3 : a1.toInt ≤ 3) (hw4 : w[7]? = some (Sum.inr (0, [Value.ref 8, Value.ref 78, Value.ref 9, Value.ref 10, Value.ref 13, Value.ref 16, Value.ref 19, Value.ref 93, Value.ref 108, Value.ref 113, Value.ref 29, Value.int 0]))) (hw5 : w[8]? = some (Sum.inl (4, 16, g0))) (hg6 : g0 a0.toInt.toNat = Value.ref h0) (e7 : a1.toInt = 0) (hw8 : w[h0]? = some (Sum.inr (2, [Value.int 64, Value.int 0, Value.int 0, Value.int 0, Value.ref h1]))) : xRun (d + 1) 124 [Value.ref 7, Value.int a0, Value.int a1] w (.inl (some (Value.int 64))) w := by
  refine xRun.of ?_
  refine i_124_0 (x := a0) rfl ?_
  refine i_124_1 (Nat.le_of_ble_eq_true rfl) (p_15_1 e0 e1) ?_
  refine i_124_4 (fun h => absurd h (by decide)) (fun _ => ?_)
  refine i_124_7 (x := a1) rfl ?_
  refine i_124_8 (fun h => absurd e2 (Int.not_le.mpr h)) (fun _ => ?_)
  refine i_124_11 (x := a1) rfl ?_
  refine i_124_12 ?_
  refine i_124_13 (fun _ => ?_) (fun h => absurd e3 (Int.not_le.mpr h))
  refine i_124_24 (x := 7) rfl ?_
  refine i_124_25 (v := Value.ref 8) hw4 rfl ?_
  refine i_124_28 (x := a0) rfl ?_
  refine i_124_29 (v := Value.ref h0) hw5 e0 e1 hg6 ?_
  refine i_124_30 (lv2 := [(3, Value.ref h0), (0, Value.ref 7), (1, Value.int a0), (2, Value.int a1)]) rfl ?_
  refine i_124_31 (x := a1) rfl ?_
  refine i_124_32 (fun h => absurd e7 h) (fun _ => ?_)
  refine i_124_35 (x := h0) rfl ?_
  refine i_124_36 (v := Value.int 64) hw8 rfl ?_
  exact i_124_39 ⟨rfl, rfl⟩
theorem p_123_3 {d : Nat} {w : xW} {a0 : Int32} {a1 : Int32} {g0 : Nat → Value} {h0 : Nat} {h1 : Nat} (hw0 : w[7]? = some (Sum.inr (0, [Value.ref 8, Value.ref 78, Value.ref 9, Value.ref 10, Value.ref 13, Value.ref 16, Value.ref 19, Value.ref 93, Value.ref 108, Value.ref 113, Value.ref 29, Value.int 0]))) (e1 : 0 ≤ a0.toInt) (e2 : a0.toInt < 16) (e3 : 0 ≤ a1.toInt) (e4 : a1.toInt ≤ 3) (hw5 : w[8]? = some (Sum.inl (4, 16, g0))) (hg6 : g0 a0.toInt.toNat = Value.ref h0) (e7 : a1.toInt = 0) (hw8 : w[h0]? = some (Sum.inr (2, [Value.int 64, Value.int 0, Value.int 0, Value.int 0, Value.ref h1]))) (hw9 : w[194]? = some (Sum.inl (3, 1, fun _ => Value.long 0))) : xRun (d + 2) 123 [Value.ref 7, Value.int a0, Value.int a1, Value.ref 194] w (.inl (some (Value.int 0))) (w.set 194 (Sum.inl (3, 1, xup (fun _ => Value.long 0) (0 : Int32).toInt.toNat (Value.long 64)))) := by
  refine xRun.of ?_
  refine i_123_0 (x := 194) rfl ?_
  refine i_123_1 ?_
  refine i_123_2 (x := 7) rfl ?_
  refine i_123_3 (x := a0) rfl ?_
  refine i_123_4 (x := a1) rfl ?_
  refine i_123_5 hw0 (Nat.le_of_ble_eq_true rfl) (p_124_3 e1 e2 e3 e4 hw0 hw5 hg6 e7 hw8) ?_
  refine i_123_8 (c := 64) (by decide) ?_
  refine i_123_9 (v := Value.long 64) hw9 (by decide) (by decide) (by decide) rfl ?_
  refine i_123_10 ?_
  refine i_123_21 ?_
  exact i_123_22 ⟨rfl, rfl⟩
theorem p_169_26 {d : Nat} {w : xW} {a0 : Int32} (e0 : 0 ≤ a0.toInt) (e1 : a0.toInt ≤ 3) : xRun d 169 [Value.int a0, Value.int 0, Value.int 3] w (.inl (some (Value.int 1))) w := by
  refine xRun.of ?_
  refine i_169_0 (x := a0) rfl ?_
  refine i_169_1 (x := 0) rfl ?_
  refine i_169_2 (fun h => absurd e0 (Int.not_le.mpr h)) (fun _ => ?_)
  refine i_169_5 (x := a0) rfl ?_
  refine i_169_6 (x := 3) rfl ?_
  refine i_169_7 (fun h => absurd e1 (Int.not_le.mpr h)) (fun _ => ?_)
  refine i_169_10 ?_
  refine i_169_11 ?_
  exact i_169_15 rfl ⟨rfl, rfl⟩
theorem p_243_3 {d : Nat} {w : xW} {a0 : Int32} {a1 : Int32} {g0 : Nat → Value} (e0 : 0 ≤ a0.toInt) (e1 : a0.toInt ≤ 15) (e2 : 0 ≤ a1.toInt) (e3 : a1.toInt ≤ 3) (e4 : a1.toInt = 0) (hw5 : w[128]? = some (Sum.inr (12, [Value.ref 129, Value.ref 131, Value.ref 133, Value.ref 135, Value.ref 137, Value.ref 139, Value.ref 141, Value.ref 143, Value.ref 145, Value.ref 147, Value.ref 149, Value.ref 151, Value.ref 153, Value.ref 154, Value.ref 155, Value.ref 156, Value.ref 157, Value.int (-16384), Value.int 16384, Value.int 0, Value.int 0, Value.int 0, Value.ref 158, Value.ref 159, Value.int 0, Value.int 0, Value.int 0, Value.int 0, Value.int 0, Value.int 0, Value.int 0, Value.int 0]))) (hw6 : w[153]? = some (Sum.inl (0, 17, g0))) (e7 : a0.toInt < 17) (hg8 : g0 a0.toInt.toNat = Value.int 64) : xRun (d + 2) 243 [Value.ref 128, Value.int a0, Value.int a1] w (.inl (some (Value.int 64))) w := by
  refine xRun.of ?_
  refine i_243_0 (x := a0) rfl ?_
  refine i_243_1 (Nat.le_of_ble_eq_true rfl) (p_168_1 e0 e1) ?_
  refine i_243_4 (x := a1) rfl ?_
  refine i_243_5 ?_
  refine i_243_6 ?_
  refine i_243_7 (Nat.le_of_ble_eq_true rfl) (p_169_26 e2 e3) ?_
  refine i_243_10 (Nat.le_of_ble_eq_true rfl) (p_170_1) ?_
  refine i_243_13 (x := a1) rfl ?_
  refine i_243_14 (fun h => absurd e4 h) (fun _ => ?_)
  refine i_243_17 (x := 128) rfl ?_
  refine i_243_18 (v := Value.ref 153) hw5 rfl ?_
  refine i_243_21 (x := a0) rfl ?_
  refine i_243_22 (v := Value.int 64) hw6 e0 e7 hg8 ?_
  exact i_243_23 ⟨rfl, rfl⟩
theorem p_242_3 {d : Nat} {w : xW} {a0 : Int32} {a1 : Int32} {g0 : Nat → Value} (hw0 : w[128]? = some (Sum.inr (12, [Value.ref 129, Value.ref 131, Value.ref 133, Value.ref 135, Value.ref 137, Value.ref 139, Value.ref 141, Value.ref 143, Value.ref 145, Value.ref 147, Value.ref 149, Value.ref 151, Value.ref 153, Value.ref 154, Value.ref 155, Value.ref 156, Value.ref 157, Value.int (-16384), Value.int 16384, Value.int 0, Value.int 0, Value.int 0, Value.ref 158, Value.ref 159, Value.int 0, Value.int 0, Value.int 0, Value.int 0, Value.int 0, Value.int 0, Value.int 0, Value.int 0]))) (e1 : 0 ≤ a0.toInt) (e2 : a0.toInt ≤ 15) (e3 : 0 ≤ a1.toInt) (e4 : a1.toInt ≤ 3) (e5 : a1.toInt = 0) (hw6 : w[153]? = some (Sum.inl (0, 17, g0))) (e7 : a0.toInt < 17) (hg8 : g0 a0.toInt.toNat = Value.int 64) : xRun (d + 3) 242 [Value.ref 128, Value.int a0, Value.int a1] w (.inl (some (Value.int 64))) (w.set 128 (Sum.inr (12, [Value.ref 129, Value.ref 131, Value.ref 133, Value.ref 135, Value.ref 137, Value.ref 139, Value.ref 141, Value.ref 143, Value.ref 145, Value.ref 147, Value.ref 149, Value.ref 151, Value.ref 153, Value.ref 154, Value.ref 155, Value.ref 156, Value.ref 157, Value.int (-16384), Value.int 16384, Value.int 0, Value.int 0, Value.int 0, Value.ref 158, Value.ref 159, Value.int 0, Value.int 0, Value.int 0, Value.int 0, Value.int 0, Value.int 0, Value.int 0, Value.int 0]))) := by
  refine xRun.of ?_
  refine i_242_0 (x := 128) rfl ?_
  refine i_242_1 ?_
  refine i_242_2 (fs2 := [Value.ref 129, Value.ref 131, Value.ref 133, Value.ref 135, Value.ref 137, Value.ref 139, Value.ref 141, Value.ref 143, Value.ref 145, Value.ref 147, Value.ref 149, Value.ref 151, Value.ref 153, Value.ref 154, Value.ref 155, Value.ref 156, Value.ref 157, Value.int (-16384), Value.int 16384, Value.int 0, Value.int 0, Value.int 0, Value.ref 158, Value.ref 159, Value.int 0, Value.int 0, Value.int 0, Value.int 0, Value.int 0, Value.int 0, Value.int 0, Value.int 0]) hw0 (Nat.le_of_ble_eq_true rfl) rfl (by decide) ?_
  refine i_242_5 (x := 128) rfl ?_
  refine i_242_6 (x := a0) rfl ?_
  refine i_242_7 (x := a1) rfl ?_
  refine i_242_8 (xgs hw0) (Nat.le_of_ble_eq_true rfl) (p_243_3 e1 e2 e3 e4 e5 (xgs hw0) (xgn (by decide) hw6) e7 hg8) ?_
  exact i_242_11 ⟨rfl, rfl⟩
theorem o_14_3 {d : Nat} {xs : Nat → Int32} (h0 : ((xs 0) &&& (31 : Int32)).toInt = 14) (c0 : 0 ≤ (xs 1).toInt) (c1 : (xs 1).toInt < 16) (c2 : 0 ≤ (xs 2).toInt) (c3 : (xs 2).toInt ≤ 3) (c4 : (xs 2).toInt = 0) : ∃ w1, xEv (d + 20) 287 23 [(4, Value.int 0), (3, Value.ref 194), (2, Value.ref 128), (1, Value.ref 7), (0, Value.ref 0)] [] (W0 6 xs) (fun o' w' => o' = .inl (some (Value.int 1)) ∧ w' = w1) ∧ w1.length ≤ 220 ∧ xsz w1 ≤ 200000 := by
  refine ⟨(((W0 6 xs).set 194 (Sum.inl (3, 1, xup (fun _ => Value.long 0) (0 : Int32).toInt.toNat (Value.long 64)))).set 128 (Sum.inr (12, [Value.ref 129, Value.ref 131, Value.ref 133, Value.ref 135, Value.ref 137, Value.ref 139, Value.ref 141, Value.ref 143, Value.ref 145, Value.ref 147, Value.ref 149, Value.ref 151, Value.ref 153, Value.ref 154, Value.ref 155, Value.ref 156, Value.ref 157, Value.int (-16384), Value.int 16384, Value.int 0, Value.int 0, Value.int 0, Value.ref 158, Value.ref 159, Value.int 0, Value.int 0, Value.int 0, Value.int 0, Value.int 0, Value.int 0, Value.int 0, Value.int 0]))), ?_, (show xLs _ 220 200000 from ?_)⟩
  · refine i_287_23 (x := 0) rfl ?_
    refine i_287_25 (x := 0) rfl ?_
    refine i_287_26 (c := 6) W0_0 (by decide) ?_
    refine i_287_27 ?_
    refine i_287_29 (c := 0) (by decide) ?_
    refine i_287_30 (fun h => absurd h (by decide)) (fun _ => ?_)
    refine i_287_33 (x := 0) rfl ?_
    refine i_287_34 (x := 0) rfl ?_
    refine i_287_36 (v := Value.int (xs 0)) W0_0 (by decide) (by decide) rfl ?_
    refine i_287_37 ?_
    refine i_287_39 (c := ((xs 0) &&& (31 : Int32))) rfl ?_
    refine i_287_40_14 (by omega) ?_
    refine i_287_1405 (x := 7) rfl ?_
    refine i_287_1406 (x := 0) rfl ?_
    refine i_287_1407 (x := 0) rfl ?_
    refine i_287_1409 ?_
    refine i_287_1410 (c := 1) (by decide) ?_
    refine i_287_1411 (v := Value.int (xs 1)) W0_0 (by decide) (by decide) rfl ?_
    refine i_287_1412 (x := 0) rfl ?_
    refine i_287_1413 (x := 0) rfl ?_
    refine i_287_1415 ?_
    refine i_287_1416 (c := 2) (by decide) ?_
    refine i_287_1417 (v := Value.int (xs 2)) W0_0 (by decide) (by decide) rfl ?_
    refine i_287_1418 (x := 194) rfl ?_
    refine i_287_1419 (Nat.le_of_ble_eq_true rfl) (p_123_3 W0_7 (by omega) (by omega) (by omega) (by omega) W0_8 (greg_at (by omega)) (by omega) (W0_reg (by omega)) W0_194) ?_
    refine i_287_1422 (lv2 := [(5, Value.int 0), (4, Value.int 0), (3, Value.ref 194), (2, Value.ref 128), (1, Value.ref 7), (0, Value.ref 0)]) rfl ?_
    refine i_287_1424 (x := 128) rfl ?_
    refine i_287_1425 (x := 0) rfl ?_
    refine i_287_1426 (x := 0) rfl ?_
    refine i_287_1428 ?_
    refine i_287_1429 (c := 1) (by decide) ?_
    refine i_287_1430 (v := Value.int (xs 1)) (xgn (by decide) W0_0) (by decide) (by decide) rfl ?_
    refine i_287_1431 (x := 0) rfl ?_
    refine i_287_1432 (x := 0) rfl ?_
    refine i_287_1434 ?_
    refine i_287_1435 (c := 2) (by decide) ?_
    refine i_287_1436 (v := Value.int (xs 2)) (xgn (by decide) W0_0) (by decide) (by decide) rfl ?_
    refine i_287_1437 (xgn (by decide) W0_128) (Nat.le_of_ble_eq_true rfl) (p_242_3 (xgn (by decide) W0_128) (by omega) (by omega) (by omega) (by omega) (by omega) (xgn (by decide) W0_153) (by omega) (gprec_at (by omega))) ?_
    refine i_287_1440 (lv2 := [(6, Value.int 64), (5, Value.int 0), (4, Value.int 0), (3, Value.ref 194), (2, Value.ref 128), (1, Value.ref 7), (0, Value.ref 0)]) rfl ?_
    refine i_287_1442 (x := 128) rfl ?_
    refine i_287_1443 (xgs (xgn (by decide) W0_128)) (Nat.le_of_ble_eq_true rfl) (p_165_1 (xgs (xgn (by decide) W0_128))) ?_
    refine i_287_1446 (x := 0) rfl ?_
    refine i_287_1448 (fun _ => ?_) (fun h => absurd h (by decide))
    refine i_287_1453 (x := 0) rfl ?_
    refine i_287_1455 (fun h => absurd h (by decide)) (fun _ => ?_)
    refine i_287_1458 (x := 194) rfl ?_
    refine i_287_1459 ?_
    refine i_287_1460 (v := Value.long 64) (xgn (by decide) (xgs W0_194)) (by decide) (by decide) xup_s ?_
    refine i_287_1461 (x := 64) rfl ?_
    refine i_287_1463 (c := 64) (by decide) ?_
    refine i_287_1464 (c := 0) (by decide) ?_
    refine i_287_1465 (fun _ => ?_) (fun h => absurd h (by decide))
    refine i_287_1470 ?_
    refine i_287_2154 (x := 0) (c := 6) (lv2 := [(4, Value.int 6), (6, Value.int 64), (5, Value.int 0), (3, Value.ref 194), (2, Value.ref 128), (1, Value.ref 7), (0, Value.ref 0)]) rfl (by decide) rfl ?_
    refine i_287_2157 ?_
    refine i_287_23 (x := 6) rfl ?_
    refine i_287_25 (x := 0) rfl ?_
    refine i_287_26 (c := 6) (xgn (by decide) (xgn (by decide) W0_0)) (by decide) ?_
    refine i_287_27 ?_
    refine i_287_29 (c := 0) (by decide) ?_
    refine i_287_30 (fun _ => ?_) (fun h => absurd h (by decide))
    refine i_287_2160 ?_
    exact i_287_2161 rfl ⟨rfl, rfl⟩
  · refine xLs.set ?_ (xgn (by decide) W0_128) xcs_o
    refine xLs.set ?_ (W0_194) xcs_a
    exact ⟨Nat.le_trans (Nat.le_of_eq W0_len) (by decide), Nat.le_trans (Nat.le_of_eq W0_sz) (by decide)⟩
theorem p_124_4 {d : Nat} {w : xW} {a0 : Int32} {a1 : Int32} {g0 : Nat → Value} {h0 : Nat} {h1 : Nat} (e0 : 0 ≤ a0.toInt) (e1 : a0.toInt < 16) (e2 : 0 ≤ a1.toInt) (e3 : a1.toInt ≤ 3) (hw4 : w[7]? = some (Sum.inr (0, [Value.ref 8, Value.ref 78, Value.ref 9, Value.ref 10, Value.ref 13, Value.ref 16, Value.ref 19, Value.ref 93, Value.ref 108, Value.ref 113, Value.ref 29, Value.int 0]))) (hw5 : w[8]? = some (Sum.inl (4, 16, g0))) (hg6 : g0 a0.toInt.toNat = Value.ref h0) (e7 : a1.toInt ≠ 0) (e8 : a1.toInt = 1) (hw9 : w[h0]? = some (Sum.inr (2, [Value.int 64, Value.int 0, Value.int 0, Value.int 0, Value.ref h1]))) : xRun (d + 1) 124 [Value.ref 7, Value.int a0, Value.int a1] w (.inl (some (Value.int 0))) w := by
  refine xRun.of ?_
  refine i_124_0 (x := a0) rfl ?_
  refine i_124_1 (Nat.le_of_ble_eq_true rfl) (p_15_1 e0 e1) ?_
  refine i_124_4 (fun h => absurd h (by decide)) (fun _ => ?_)
  refine i_124_7 (x := a1) rfl ?_
  refine i_124_8 (fun h => absurd e2 (Int.not_le.mpr h)) (fun _ => ?_)
  refine i_124_11 (x := a1) rfl ?_
  refine i_124_12 ?_
  refine i_124_13 (fun _ => ?_) (fun h => absurd e3 (Int.not_le.mpr h))
  refine i_124_24 (x := 7) rfl ?_
  refine i_124_25 (v := Value.ref 8) hw4 rfl ?_
  refine i_124_28 (x := a0) rfl ?_
  refine i_124_29 (v := Value.ref h0) hw5 e0 e1 hg6 ?_
  refine i_124_30 (lv2 := [(3, Value.ref h0), (0, Value.ref 7), (1, Value.int a0), (2, Value.int a1)]) rfl ?_
  refine i_124_31 (x := a1) rfl ?_
  refine i_124_32 (fun _ => ?_) (fun h => absurd e7 (fun g => g h))
  refine i_124_40 (x := a1) rfl ?_
  refine i_124_41 ?_
  refine i_124_42 (fun h => absurd e8 h) (fun _ => ?_)
  refine i_124_45 (x := h0) rfl ?_
  refine i_124_46 (v := Value.int 0) hw9 rfl ?_
  exact i_124_49 ⟨rfl, rfl⟩
theorem p_123_4 {d : Nat} {w : xW} {a0 : Int32} {a1 : Int32} {g0 : Nat → Value} {h0 : Nat} {h1 : Nat} (hw0 : w[7]? = some (Sum.inr (0, [Value.ref 8, Value.ref 78, Value.ref 9, Value.ref 10, Value.ref 13, Value.ref 16, Value.ref 19, Value.ref 93, Value.ref 108, Value.ref 113, Value.ref 29, Value.int 0]))) (e1 : 0 ≤ a0.toInt) (e2 : a0.toInt < 16) (e3 : 0 ≤ a1.toInt) (e4 : a1.toInt ≤ 3) (hw5 : w[8]? = some (Sum.inl (4, 16, g0))) (hg6 : g0 a0.toInt.toNat = Value.ref h0) (e7 : a1.toInt ≠ 0) (e8 : a1.toInt = 1) (hw9 : w[h0]? = some (Sum.inr (2, [Value.int 64, Value.int 0, Value.int 0, Value.int 0, Value.ref h1]))) (hw10 : w[194]? = some (Sum.inl (3, 1, fun _ => Value.long 0))) : xRun (d + 2) 123 [Value.ref 7, Value.int a0, Value.int a1, Value.ref 194] w (.inl (some (Value.int 0))) (w.set 194 (Sum.inl (3, 1, xup (fun _ => Value.long 0) (0 : Int32).toInt.toNat (Value.long 0)))) := by
  refine xRun.of ?_
  refine i_123_0 (x := 194) rfl ?_
  refine i_123_1 ?_
  refine i_123_2 (x := 7) rfl ?_
  refine i_123_3 (x := a0) rfl ?_
  refine i_123_4 (x := a1) rfl ?_
  refine i_123_5 hw0 (Nat.le_of_ble_eq_true rfl) (p_124_4 e1 e2 e3 e4 hw0 hw5 hg6 e7 e8 hw9) ?_
  refine i_123_8 (c := 0) (by decide) ?_
  refine i_123_9 (v := Value.long 0) hw10 (by decide) (by decide) (by decide) rfl ?_
  refine i_123_10 ?_
  refine i_123_21 ?_
  exact i_123_22 ⟨rfl, rfl⟩
theorem p_243_4 {d : Nat} {w : xW} {a0 : Int32} {a1 : Int32} (e0 : 0 ≤ a0.toInt) (e1 : a0.toInt ≤ 15) (e2 : 0 ≤ a1.toInt) (e3 : a1.toInt ≤ 3) (e4 : a1.toInt ≠ 0) (e5 : a1.toInt = 1) (hw6 : w[128]? = some (Sum.inr (12, [Value.ref 129, Value.ref 131, Value.ref 133, Value.ref 135, Value.ref 137, Value.ref 139, Value.ref 141, Value.ref 143, Value.ref 145, Value.ref 147, Value.ref 149, Value.ref 151, Value.ref 153, Value.ref 154, Value.ref 155, Value.ref 156, Value.ref 157, Value.int (-16384), Value.int 16384, Value.int 0, Value.int 0, Value.int 0, Value.ref 158, Value.ref 159, Value.int 0, Value.int 0, Value.int 0, Value.int 0, Value.int 0, Value.int 0, Value.int 0, Value.int 0]))) (hw7 : w[154]? = some (Sum.inl (0, 17, fun _ => Value.int 0))) (e8 : a0.toInt < 17) : xRun (d + 2) 243 [Value.ref 128, Value.int a0, Value.int a1] w (.inl (some (Value.int 0))) w := by
  refine xRun.of ?_
  refine i_243_0 (x := a0) rfl ?_
  refine i_243_1 (Nat.le_of_ble_eq_true rfl) (p_168_1 e0 e1) ?_
  refine i_243_4 (x := a1) rfl ?_
  refine i_243_5 ?_
  refine i_243_6 ?_
  refine i_243_7 (Nat.le_of_ble_eq_true rfl) (p_169_26 e2 e3) ?_
  refine i_243_10 (Nat.le_of_ble_eq_true rfl) (p_170_1) ?_
  refine i_243_13 (x := a1) rfl ?_
  refine i_243_14 (fun _ => ?_) (fun h => absurd e4 (fun g => g h))
  refine i_243_24 (x := a1) rfl ?_
  refine i_243_25 ?_
  refine i_243_26 (fun h => absurd e5 h) (fun _ => ?_)
  refine i_243_29 (x := 128) rfl ?_
  refine i_243_30 (v := Value.ref 154) hw6 rfl ?_
  refine i_243_33 (x := a0) rfl ?_
  refine i_243_34 (v := Value.int 0) hw7 e0 e8 rfl ?_
  exact i_243_35 ⟨rfl, rfl⟩
theorem p_242_4 {d : Nat} {w : xW} {a0 : Int32} {a1 : Int32} (hw0 : w[128]? = some (Sum.inr (12, [Value.ref 129, Value.ref 131, Value.ref 133, Value.ref 135, Value.ref 137, Value.ref 139, Value.ref 141, Value.ref 143, Value.ref 145, Value.ref 147, Value.ref 149, Value.ref 151, Value.ref 153, Value.ref 154, Value.ref 155, Value.ref 156, Value.ref 157, Value.int (-16384), Value.int 16384, Value.int 0, Value.int 0, Value.int 0, Value.ref 158, Value.ref 159, Value.int 0, Value.int 0, Value.int 0, Value.int 0, Value.int 0, Value.int 0, Value.int 0, Value.int 0]))) (e1 : 0 ≤ a0.toInt) (e2 : a0.toInt ≤ 15) (e3 : 0 ≤ a1.toInt) (e4 : a1.toInt ≤ 3) (e5 : a1.toInt ≠ 0) (e6 : a1.toInt = 1) (hw7 : w[154]? = some (Sum.inl (0, 17, fun _ => Value.int 0))) (e8 : a0.toInt < 17) : xRun (d + 3) 242 [Value.ref 128, Value.int a0, Value.int a1] w (.inl (some (Value.int 0))) (w.set 128 (Sum.inr (12, [Value.ref 129, Value.ref 131, Value.ref 133, Value.ref 135, Value.ref 137, Value.ref 139, Value.ref 141, Value.ref 143, Value.ref 145, Value.ref 147, Value.ref 149, Value.ref 151, Value.ref 153, Value.ref 154, Value.ref 155, Value.ref 156, Value.ref 157, Value.int (-16384), Value.int 16384, Value.int 0, Value.int 0, Value.int 0, Value.ref 158, Value.ref 159, Value.int 0, Value.int 0, Value.int 0, Value.int 0, Value.int 0, Value.int 0, Value.int 0, Value.int 0]))) := by
  refine xRun.of ?_
  refine i_242_0 (x := 128) rfl ?_
  refine i_242_1 ?_
  refine i_242_2 (fs2 := [Value.ref 129, Value.ref 131, Value.ref 133, Value.ref 135, Value.ref 137, Value.ref 139, Value.ref 141, Value.ref 143, Value.ref 145, Value.ref 147, Value.ref 149, Value.ref 151, Value.ref 153, Value.ref 154, Value.ref 155, Value.ref 156, Value.ref 157, Value.int (-16384), Value.int 16384, Value.int 0, Value.int 0, Value.int 0, Value.ref 158, Value.ref 159, Value.int 0, Value.int 0, Value.int 0, Value.int 0, Value.int 0, Value.int 0, Value.int 0, Value.int 0]) hw0 (Nat.le_of_ble_eq_true rfl) rfl (by decide) ?_
  refine i_242_5 (x := 128) rfl ?_
  refine i_242_6 (x := a0) rfl ?_
  refine i_242_7 (x := a1) rfl ?_
  refine i_242_8 (xgs hw0) (Nat.le_of_ble_eq_true rfl) (p_243_4 e1 e2 e3 e4 e5 e6 (xgs hw0) (xgn (by decide) hw7) e8) ?_
  exact i_242_11 ⟨rfl, rfl⟩
theorem o_14_4 {d : Nat} {xs : Nat → Int32} (h0 : ((xs 0) &&& (31 : Int32)).toInt = 14) (c0 : 0 ≤ (xs 1).toInt) (c1 : (xs 1).toInt < 16) (c2 : 0 ≤ (xs 2).toInt) (c3 : (xs 2).toInt ≤ 3) (c4 : (xs 2).toInt ≠ 0) (c5 : (xs 2).toInt = 1) : ∃ w1, xEv (d + 20) 287 23 [(4, Value.int 0), (3, Value.ref 194), (2, Value.ref 128), (1, Value.ref 7), (0, Value.ref 0)] [] (W0 6 xs) (fun o' w' => o' = .inl (some (Value.int 1)) ∧ w' = w1) ∧ w1.length ≤ 220 ∧ xsz w1 ≤ 200000 := by
  refine ⟨(((W0 6 xs).set 194 (Sum.inl (3, 1, xup (fun _ => Value.long 0) (0 : Int32).toInt.toNat (Value.long 0)))).set 128 (Sum.inr (12, [Value.ref 129, Value.ref 131, Value.ref 133, Value.ref 135, Value.ref 137, Value.ref 139, Value.ref 141, Value.ref 143, Value.ref 145, Value.ref 147, Value.ref 149, Value.ref 151, Value.ref 153, Value.ref 154, Value.ref 155, Value.ref 156, Value.ref 157, Value.int (-16384), Value.int 16384, Value.int 0, Value.int 0, Value.int 0, Value.ref 158, Value.ref 159, Value.int 0, Value.int 0, Value.int 0, Value.int 0, Value.int 0, Value.int 0, Value.int 0, Value.int 0]))), ?_, (show xLs _ 220 200000 from ?_)⟩
  · refine i_287_23 (x := 0) rfl ?_
    refine i_287_25 (x := 0) rfl ?_
    refine i_287_26 (c := 6) W0_0 (by decide) ?_
    refine i_287_27 ?_
    refine i_287_29 (c := 0) (by decide) ?_
    refine i_287_30 (fun h => absurd h (by decide)) (fun _ => ?_)
    refine i_287_33 (x := 0) rfl ?_
    refine i_287_34 (x := 0) rfl ?_
    refine i_287_36 (v := Value.int (xs 0)) W0_0 (by decide) (by decide) rfl ?_
    refine i_287_37 ?_
    refine i_287_39 (c := ((xs 0) &&& (31 : Int32))) rfl ?_
    refine i_287_40_14 (by omega) ?_
    refine i_287_1405 (x := 7) rfl ?_
    refine i_287_1406 (x := 0) rfl ?_
    refine i_287_1407 (x := 0) rfl ?_
    refine i_287_1409 ?_
    refine i_287_1410 (c := 1) (by decide) ?_
    refine i_287_1411 (v := Value.int (xs 1)) W0_0 (by decide) (by decide) rfl ?_
    refine i_287_1412 (x := 0) rfl ?_
    refine i_287_1413 (x := 0) rfl ?_
    refine i_287_1415 ?_
    refine i_287_1416 (c := 2) (by decide) ?_
    refine i_287_1417 (v := Value.int (xs 2)) W0_0 (by decide) (by decide) rfl ?_
    refine i_287_1418 (x := 194) rfl ?_
    refine i_287_1419 (Nat.le_of_ble_eq_true rfl) (p_123_4 W0_7 (by omega) (by omega) (by omega) (by omega) W0_8 (greg_at (by omega)) (by omega) (by omega) (W0_reg (by omega)) W0_194) ?_
    refine i_287_1422 (lv2 := [(5, Value.int 0), (4, Value.int 0), (3, Value.ref 194), (2, Value.ref 128), (1, Value.ref 7), (0, Value.ref 0)]) rfl ?_
    refine i_287_1424 (x := 128) rfl ?_
    refine i_287_1425 (x := 0) rfl ?_
    refine i_287_1426 (x := 0) rfl ?_
    refine i_287_1428 ?_
    refine i_287_1429 (c := 1) (by decide) ?_
    refine i_287_1430 (v := Value.int (xs 1)) (xgn (by decide) W0_0) (by decide) (by decide) rfl ?_
    refine i_287_1431 (x := 0) rfl ?_
    refine i_287_1432 (x := 0) rfl ?_
    refine i_287_1434 ?_
    refine i_287_1435 (c := 2) (by decide) ?_
    refine i_287_1436 (v := Value.int (xs 2)) (xgn (by decide) W0_0) (by decide) (by decide) rfl ?_
    refine i_287_1437 (xgn (by decide) W0_128) (Nat.le_of_ble_eq_true rfl) (p_242_4 (xgn (by decide) W0_128) (by omega) (by omega) (by omega) (by omega) (by omega) (by omega) (xgn (by decide) W0_154) (by omega)) ?_
    refine i_287_1440 (lv2 := [(6, Value.int 0), (5, Value.int 0), (4, Value.int 0), (3, Value.ref 194), (2, Value.ref 128), (1, Value.ref 7), (0, Value.ref 0)]) rfl ?_
    refine i_287_1442 (x := 128) rfl ?_
    refine i_287_1443 (xgs (xgn (by decide) W0_128)) (Nat.le_of_ble_eq_true rfl) (p_165_1 (xgs (xgn (by decide) W0_128))) ?_
    refine i_287_1446 (x := 0) rfl ?_
    refine i_287_1448 (fun _ => ?_) (fun h => absurd h (by decide))
    refine i_287_1453 (x := 0) rfl ?_
    refine i_287_1455 (fun h => absurd h (by decide)) (fun _ => ?_)
    refine i_287_1458 (x := 194) rfl ?_
    refine i_287_1459 ?_
    refine i_287_1460 (v := Value.long 0) (xgn (by decide) (xgs W0_194)) (by decide) (by decide) xup_s ?_
    refine i_287_1461 (x := 0) rfl ?_
    refine i_287_1463 (c := 0) (by decide) ?_
    refine i_287_1464 (c := 0) (by decide) ?_
    refine i_287_1465 (fun _ => ?_) (fun h => absurd h (by decide))
    refine i_287_1470 ?_
    refine i_287_2154 (x := 0) (c := 6) (lv2 := [(4, Value.int 6), (6, Value.int 0), (5, Value.int 0), (3, Value.ref 194), (2, Value.ref 128), (1, Value.ref 7), (0, Value.ref 0)]) rfl (by decide) rfl ?_
    refine i_287_2157 ?_
    refine i_287_23 (x := 6) rfl ?_
    refine i_287_25 (x := 0) rfl ?_
    refine i_287_26 (c := 6) (xgn (by decide) (xgn (by decide) W0_0)) (by decide) ?_
    refine i_287_27 ?_
    refine i_287_29 (c := 0) (by decide) ?_
    refine i_287_30 (fun _ => ?_) (fun h => absurd h (by decide))
    refine i_287_2160 ?_
    exact i_287_2161 rfl ⟨rfl, rfl⟩
  · refine xLs.set ?_ (xgn (by decide) W0_128) xcs_o
    refine xLs.set ?_ (W0_194) xcs_a
    exact ⟨Nat.le_trans (Nat.le_of_eq W0_len) (by decide), Nat.le_trans (Nat.le_of_eq W0_sz) (by decide)⟩
theorem p_124_5 {d : Nat} {w : xW} {a0 : Int32} {a1 : Int32} {g0 : Nat → Value} {h0 : Nat} {h1 : Nat} (e0 : 0 ≤ a0.toInt) (e1 : a0.toInt < 16) (e2 : 0 ≤ a1.toInt) (e3 : a1.toInt ≤ 3) (hw4 : w[7]? = some (Sum.inr (0, [Value.ref 8, Value.ref 78, Value.ref 9, Value.ref 10, Value.ref 13, Value.ref 16, Value.ref 19, Value.ref 93, Value.ref 108, Value.ref 113, Value.ref 29, Value.int 0]))) (hw5 : w[8]? = some (Sum.inl (4, 16, g0))) (hg6 : g0 a0.toInt.toNat = Value.ref h0) (e7 : a1.toInt ≠ 0) (e8 : a1.toInt ≠ 1) (e9 : a1.toInt = 2) (hw10 : w[h0]? = some (Sum.inr (2, [Value.int 64, Value.int 0, Value.int 0, Value.int 0, Value.ref h1]))) : xRun (d + 6) 124 [Value.ref 7, Value.int a0, Value.int a1] w (.inr w.length) (w ++ [Sum.inr (16, [])]) := by
  refine xRun.of ?_
  refine i_124_0 (x := a0) rfl ?_
  refine i_124_1 (Nat.le_of_ble_eq_true rfl) (p_15_1 e0 e1) ?_
  refine i_124_4 (fun h => absurd h (by decide)) (fun _ => ?_)
  refine i_124_7 (x := a1) rfl ?_
  refine i_124_8 (fun h => absurd e2 (Int.not_le.mpr h)) (fun _ => ?_)
  refine i_124_11 (x := a1) rfl ?_
  refine i_124_12 ?_
  refine i_124_13 (fun _ => ?_) (fun h => absurd e3 (Int.not_le.mpr h))
  refine i_124_24 (x := 7) rfl ?_
  refine i_124_25 (v := Value.ref 8) hw4 rfl ?_
  refine i_124_28 (x := a0) rfl ?_
  refine i_124_29 (v := Value.ref h0) hw5 e0 e1 hg6 ?_
  refine i_124_30 (lv2 := [(3, Value.ref h0), (0, Value.ref 7), (1, Value.int a0), (2, Value.int a1)]) rfl ?_
  refine i_124_31 (x := a1) rfl ?_
  refine i_124_32 (fun _ => ?_) (fun h => absurd e7 (fun g => g h))
  refine i_124_40 (x := a1) rfl ?_
  refine i_124_41 ?_
  refine i_124_42 (fun _ => ?_) (fun h => absurd e8 (fun g => g h))
  refine i_124_50 (x := a1) rfl ?_
  refine i_124_51 ?_
  refine i_124_52 (fun h => absurd e9 h) (fun _ => ?_)
  refine i_124_55 (x := h0) rfl ?_
  refine i_124_56 (v := Value.int 0) hw10 rfl ?_
  refine i_124_59 (fun h => absurd h (by decide)) (fun _ => ?_)
  refine i_124_62 ?_
  exact i_124_73 (by omega) (Nat.le_of_ble_eq_true rfl) ⟨rfl, rfl⟩
theorem p_123_5 {d : Nat} {w : xW} {a0 : Int32} {a1 : Int32} {g0 : Nat → Value} {h0 : Nat} {h1 : Nat} (hw0 : w[7]? = some (Sum.inr (0, [Value.ref 8, Value.ref 78, Value.ref 9, Value.ref 10, Value.ref 13, Value.ref 16, Value.ref 19, Value.ref 93, Value.ref 108, Value.ref 113, Value.ref 29, Value.int 0]))) (e1 : 0 ≤ a0.toInt) (e2 : a0.toInt < 16) (e3 : 0 ≤ a1.toInt) (e4 : a1.toInt ≤ 3) (hw5 : w[8]? = some (Sum.inl (4, 16, g0))) (hg6 : g0 a0.toInt.toNat = Value.ref h0) (e7 : a1.toInt ≠ 0) (e8 : a1.toInt ≠ 1) (e9 : a1.toInt = 2) (hw10 : w[h0]? = some (Sum.inr (2, [Value.int 64, Value.int 0, Value.int 0, Value.int 0, Value.ref h1]))) : xRun (d + 7) 123 [Value.ref 7, Value.int a0, Value.int a1, Value.ref 194] w (.inl (some (Value.int 2))) (w ++ [Sum.inr (16, [])]) := by
  refine xRun.of ?_
  refine i_123_0 (x := 194) rfl ?_
  refine i_123_1 ?_
  refine i_123_2 (x := 7) rfl ?_
  refine i_123_3 (x := a0) rfl ?_
  refine i_123_4 (x := a1) rfl ?_
  refine j_123_5 hw0 (Nat.le_of_ble_eq_true rfl) (p_124_5 e1 e2 e3 e4 hw0 hw5 hg6 e7 e8 e9 hw10) (xDone.c xgl rfl rfl ?_)
  refine i_123_17 (lv2 := [(4, Value.ref w.length), (0, Value.ref 7), (1, Value.int a0), (2, Value.int a1), (3, Value.ref 194)]) rfl ?_
  refine i_123_19 ?_
  exact i_123_20 ⟨rfl, rfl⟩
theorem p_244_0 {d : Nat} {w : xW} : xRun (d + 6) 244 [Value.int 0] w (.inr w.length) (w ++ [Sum.inr (16, [])]) := by
  refine xRun.of ?_
  refine i_244_0 (x := 0) rfl ?_
  refine i_244_1 (fun h => absurd h (by decide)) (fun _ => ?_)
  exact i_244_4 (by omega) (Nat.le_of_ble_eq_true rfl) ⟨rfl, rfl⟩
theorem p_243_5 {d : Nat} {w : xW} {a0 : Int32} {a1 : Int32} (e0 : 0 ≤ a0.toInt) (e1 : a0.toInt ≤ 15) (e2 : 0 ≤ a1.toInt) (e3 : a1.toInt ≤ 3) (e4 : a1.toInt ≠ 0) (e5 : a1.toInt ≠ 1) (e6 : a1.toInt = 2) (hw7 : w[128]? = some (Sum.inr (12, [Value.ref 129, Value.ref 131, Value.ref 133, Value.ref 135, Value.ref 137, Value.ref 139, Value.ref 141, Value.ref 143, Value.ref 145, Value.ref 147, Value.ref 149, Value.ref 151, Value.ref 153, Value.ref 154, Value.ref 155, Value.ref 156, Value.ref 157, Value.int (-16384), Value.int 16384, Value.int 0, Value.int 0, Value.int 0, Value.ref 158, Value.ref 159, Value.int 0, Value.int 0, Value.int 0, Value.int 0, Value.int 0, Value.int 0, Value.int 0, Value.int 0]))) (hw8 : w[154]? = some (Sum.inl (0, 17, fun _ => Value.int 0))) (e9 : a0.toInt < 17) : xRun (d + 7) 243 [Value.ref 128, Value.int a0, Value.int a1] w (.inr w.length) (w ++ [Sum.inr (16, [])]) := by
  refine xRun.of ?_
  refine i_243_0 (x := a0) rfl ?_
  refine i_243_1 (Nat.le_of_ble_eq_true rfl) (p_168_1 e0 e1) ?_
  refine i_243_4 (x := a1) rfl ?_
  refine i_243_5 ?_
  refine i_243_6 ?_
  refine i_243_7 (Nat.le_of_ble_eq_true rfl) (p_169_26 e2 e3) ?_
  refine i_243_10 (Nat.le_of_ble_eq_true rfl) (p_170_1) ?_
  refine i_243_13 (x := a1) rfl ?_
  refine i_243_14 (fun _ => ?_) (fun h => absurd e4 (fun g => g h))
  refine i_243_24 (x := a1) rfl ?_
  refine i_243_25 ?_
  refine i_243_26 (fun _ => ?_) (fun h => absurd e5 (fun g => g h))
  refine i_243_36 (x := a1) rfl ?_
  refine i_243_37 ?_
  refine i_243_38 (fun h => absurd e6 h) (fun _ => ?_)
  refine i_243_41 (x := 128) rfl ?_
  refine i_243_42 (v := Value.ref 154) hw7 rfl ?_
  refine i_243_45 (x := a0) rfl ?_
  refine i_243_46 (v := Value.int 0) hw8 e0 e9 rfl ?_
  refine i_243_47 (fun _ => ?_) (fun h => absurd h (by decide))
  refine i_243_54 ?_
  refine i_243_55 ?_
  exact j_243_73 (Nat.le_of_ble_eq_true rfl) (p_244_0) (xDone.t xgl rfl rfl ⟨rfl, rfl⟩)
theorem p_242_5 {d : Nat} {w : xW} {a0 : Int32} {a1 : Int32} (hw0 : w[128]? = some (Sum.inr (12, [Value.ref 129, Value.ref 131, Value.ref 133, Value.ref 135, Value.ref 137, Value.ref 139, Value.ref 141, Value.ref 143, Value.ref 145, Value.ref 147, Value.ref 149, Value.ref 151, Value.ref 153, Value.ref 154, Value.ref 155, Value.ref 156, Value.ref 157, Value.int (-16384), Value.int 16384, Value.int 0, Value.int 0, Value.int 0, Value.ref 158, Value.ref 159, Value.int 0, Value.int 0, Value.int 0, Value.int 0, Value.int 0, Value.int 0, Value.int 0, Value.int 0]))) (e1 : 0 ≤ a0.toInt) (e2 : a0.toInt ≤ 15) (e3 : 0 ≤ a1.toInt) (e4 : a1.toInt ≤ 3) (e5 : a1.toInt ≠ 0) (e6 : a1.toInt ≠ 1) (e7 : a1.toInt = 2) (hw8 : w[154]? = some (Sum.inl (0, 17, fun _ => Value.int 0))) (e9 : a0.toInt < 17) : xRun (d + 8) 242 [Value.ref 128, Value.int a0, Value.int a1] w (.inl (some (Value.int 0))) (((w.set 128 (Sum.inr (12, [Value.ref 129, Value.ref 131, Value.ref 133, Value.ref 135, Value.ref 137, Value.ref 139, Value.ref 141, Value.ref 143, Value.ref 145, Value.ref 147, Value.ref 149, Value.ref 151, Value.ref 153, Value.ref 154, Value.ref 155, Value.ref 156, Value.ref 157, Value.int (-16384), Value.int 16384, Value.int 0, Value.int 0, Value.int 0, Value.ref 158, Value.ref 159, Value.int 0, Value.int 0, Value.int 0, Value.int 0, Value.int 0, Value.int 0, Value.int 0, Value.int 0]))) ++ [Sum.inr (16, [])]).set 128 (Sum.inr (12, [Value.ref 129, Value.ref 131, Value.ref 133, Value.ref 135, Value.ref 137, Value.ref 139, Value.ref 141, Value.ref 143, Value.ref 145, Value.ref 147, Value.ref 149, Value.ref 151, Value.ref 153, Value.ref 154, Value.ref 155, Value.ref 156, Value.ref 157, Value.int (-16384), Value.int 16384, Value.int 0, Value.int 0, Value.int 0, Value.ref 158, Value.ref 159, Value.int 0, Value.int 0, Value.int 0, Value.int 0, Value.int 0, Value.int 0, Value.int 0, Value.int 2]))) := by
  refine xRun.of ?_
  refine i_242_0 (x := 128) rfl ?_
  refine i_242_1 ?_
  refine i_242_2 (fs2 := [Value.ref 129, Value.ref 131, Value.ref 133, Value.ref 135, Value.ref 137, Value.ref 139, Value.ref 141, Value.ref 143, Value.ref 145, Value.ref 147, Value.ref 149, Value.ref 151, Value.ref 153, Value.ref 154, Value.ref 155, Value.ref 156, Value.ref 157, Value.int (-16384), Value.int 16384, Value.int 0, Value.int 0, Value.int 0, Value.ref 158, Value.ref 159, Value.int 0, Value.int 0, Value.int 0, Value.int 0, Value.int 0, Value.int 0, Value.int 0, Value.int 0]) hw0 (Nat.le_of_ble_eq_true rfl) rfl (by decide) ?_
  refine i_242_5 (x := 128) rfl ?_
  refine i_242_6 (x := a0) rfl ?_
  refine i_242_7 (x := a1) rfl ?_
  refine j_242_8 (xgs hw0) (Nat.le_of_ble_eq_true rfl) (p_243_5 e1 e2 e3 e4 e5 e6 e7 (xgs hw0) (xgn (by decide) hw8) e9) (xDone.c xgl rfl rfl ?_)
  refine i_242_21 (lv2 := [(3, Value.ref ((w.set 128 (Sum.inr (12, [Value.ref 129, Value.ref 131, Value.ref 133, Value.ref 135, Value.ref 137, Value.ref 139, Value.ref 141, Value.ref 143, Value.ref 145, Value.ref 147, Value.ref 149, Value.ref 151, Value.ref 153, Value.ref 154, Value.ref 155, Value.ref 156, Value.ref 157, Value.int (-16384), Value.int 16384, Value.int 0, Value.int 0, Value.int 0, Value.ref 158, Value.ref 159, Value.int 0, Value.int 0, Value.int 0, Value.int 0, Value.int 0, Value.int 0, Value.int 0, Value.int 0]))).length)), (0, Value.ref 128), (1, Value.int a0), (2, Value.int a1)]) rfl ?_
  refine i_242_22 (x := 128) rfl ?_
  refine i_242_23 ?_
  refine i_242_24 (fs2 := [Value.ref 129, Value.ref 131, Value.ref 133, Value.ref 135, Value.ref 137, Value.ref 139, Value.ref 141, Value.ref 143, Value.ref 145, Value.ref 147, Value.ref 149, Value.ref 151, Value.ref 153, Value.ref 154, Value.ref 155, Value.ref 156, Value.ref 157, Value.int (-16384), Value.int 16384, Value.int 0, Value.int 0, Value.int 0, Value.ref 158, Value.ref 159, Value.int 0, Value.int 0, Value.int 0, Value.int 0, Value.int 0, Value.int 0, Value.int 0, Value.int 2]) (xga (xgs hw0)) (Nat.le_of_ble_eq_true rfl) rfl (by decide) ?_
  refine i_242_27 ?_
  exact i_242_28 ⟨rfl, rfl⟩
theorem p_165_5 {d : Nat} {w : xW} (hw0 : w[128]? = some (Sum.inr (12, [Value.ref 129, Value.ref 131, Value.ref 133, Value.ref 135, Value.ref 137, Value.ref 139, Value.ref 141, Value.ref 143, Value.ref 145, Value.ref 147, Value.ref 149, Value.ref 151, Value.ref 153, Value.ref 154, Value.ref 155, Value.ref 156, Value.ref 157, Value.int (-16384), Value.int 16384, Value.int 0, Value.int 0, Value.int 0, Value.ref 158, Value.ref 159, Value.int 0, Value.int 0, Value.int 0, Value.int 0, Value.int 0, Value.int 0, Value.int 0, Value.int 2]))) : xRun d 165 [Value.ref 128] w (.inl (some (Value.int 2))) w := by
  refine xRun.of ?_
  refine i_165_0 (x := 128) rfl ?_
  refine i_165_1 (v := Value.int 2) hw0 rfl ?_
  exact i_165_4 ⟨rfl, rfl⟩
theorem o_14_5 {d : Nat} {xs : Nat → Int32} (h0 : ((xs 0) &&& (31 : Int32)).toInt = 14) (c0 : 0 ≤ (xs 1).toInt) (c1 : (xs 1).toInt < 16) (c2 : 0 ≤ (xs 2).toInt) (c3 : (xs 2).toInt ≤ 3) (c4 : (xs 2).toInt ≠ 0) (c5 : (xs 2).toInt ≠ 1) (c6 : (xs 2).toInt = 2) : ∃ w1, xEv (d + 20) 287 23 [(4, Value.int 0), (3, Value.ref 194), (2, Value.ref 128), (1, Value.ref 7), (0, Value.ref 0)] [] (W0 6 xs) (fun o' w' => o' = .inl (some (Value.int 1)) ∧ w' = w1) ∧ w1.length ≤ 220 ∧ xsz w1 ≤ 200000 := by
  refine ⟨(((((W0 6 xs) ++ [Sum.inr (16, [])]).set 128 (Sum.inr (12, [Value.ref 129, Value.ref 131, Value.ref 133, Value.ref 135, Value.ref 137, Value.ref 139, Value.ref 141, Value.ref 143, Value.ref 145, Value.ref 147, Value.ref 149, Value.ref 151, Value.ref 153, Value.ref 154, Value.ref 155, Value.ref 156, Value.ref 157, Value.int (-16384), Value.int 16384, Value.int 0, Value.int 0, Value.int 0, Value.ref 158, Value.ref 159, Value.int 0, Value.int 0, Value.int 0, Value.int 0, Value.int 0, Value.int 0, Value.int 0, Value.int 0]))) ++ [Sum.inr (16, [])]).set 128 (Sum.inr (12, [Value.ref 129, Value.ref 131, Value.ref 133, Value.ref 135, Value.ref 137, Value.ref 139, Value.ref 141, Value.ref 143, Value.ref 145, Value.ref 147, Value.ref 149, Value.ref 151, Value.ref 153, Value.ref 154, Value.ref 155, Value.ref 156, Value.ref 157, Value.int (-16384), Value.int 16384, Value.int 0, Value.int 0, Value.int 0, Value.ref 158, Value.ref 159, Value.int 0, Value.int 0, Value.int 0, Value.int 0, Value.int 0, Value.int 0, Value.int 0, Value.int 2]))), ?_, (show xLs _ 220 200000 from ?_)⟩
  · refine i_287_23 (x := 0) rfl ?_
    refine i_287_25 (x := 0) rfl ?_
    refine i_287_26 (c := 6) W0_0 (by decide) ?_
    refine i_287_27 ?_
    refine i_287_29 (c := 0) (by decide) ?_
    refine i_287_30 (fun h => absurd h (by decide)) (fun _ => ?_)
    refine i_287_33 (x := 0) rfl ?_
    refine i_287_34 (x := 0) rfl ?_
    refine i_287_36 (v := Value.int (xs 0)) W0_0 (by decide) (by decide) rfl ?_
    refine i_287_37 ?_
    refine i_287_39 (c := ((xs 0) &&& (31 : Int32))) rfl ?_
    refine i_287_40_14 (by omega) ?_
    refine i_287_1405 (x := 7) rfl ?_
    refine i_287_1406 (x := 0) rfl ?_
    refine i_287_1407 (x := 0) rfl ?_
    refine i_287_1409 ?_
    refine i_287_1410 (c := 1) (by decide) ?_
    refine i_287_1411 (v := Value.int (xs 1)) W0_0 (by decide) (by decide) rfl ?_
    refine i_287_1412 (x := 0) rfl ?_
    refine i_287_1413 (x := 0) rfl ?_
    refine i_287_1415 ?_
    refine i_287_1416 (c := 2) (by decide) ?_
    refine i_287_1417 (v := Value.int (xs 2)) W0_0 (by decide) (by decide) rfl ?_
    refine i_287_1418 (x := 194) rfl ?_
    refine i_287_1419 (Nat.le_of_ble_eq_true rfl) (p_123_5 W0_7 (by omega) (by omega) (by omega) (by omega) W0_8 (greg_at (by omega)) (by omega) (by omega) (by omega) (W0_reg (by omega))) ?_
    refine i_287_1422 (lv2 := [(5, Value.int 2), (4, Value.int 0), (3, Value.ref 194), (2, Value.ref 128), (1, Value.ref 7), (0, Value.ref 0)]) rfl ?_
    refine i_287_1424 (x := 128) rfl ?_
    refine i_287_1425 (x := 0) rfl ?_
    refine i_287_1426 (x := 0) rfl ?_
    refine i_287_1428 ?_
    refine i_287_1429 (c := 1) (by decide) ?_
    refine i_287_1430 (v := Value.int (xs 1)) (xga W0_0) (by decide) (by decide) rfl ?_
    refine i_287_1431 (x := 0) rfl ?_
    refine i_287_1432 (x := 0) rfl ?_
    refine i_287_1434 ?_
    refine i_287_1435 (c := 2) (by decide) ?_
    refine i_287_1436 (v := Value.int (xs 2)) (xga W0_0) (by decide) (by decide) rfl ?_
    refine i_287_1437 (xga W0_128) (Nat.le_of_ble_eq_true rfl) (p_242_5 (xga W0_128) (by omega) (by omega) (by omega) (by omega) (by omega) (by omega) (by omega) (xga W0_154) (by omega)) ?_
    refine i_287_1440 (lv2 := [(6, Value.int 0), (5, Value.int 2), (4, Value.int 0), (3, Value.ref 194), (2, Value.ref 128), (1, Value.ref 7), (0, Value.ref 0)]) rfl ?_
    refine i_287_1442 (x := 128) rfl ?_
    refine i_287_1443 (xgs (xga (xgs (xga W0_128)))) (Nat.le_of_ble_eq_true rfl) (p_165_5 (xgs (xga (xgs (xga W0_128))))) ?_
    refine i_287_1446 (x := 2) rfl ?_
    refine i_287_1448 (fun _ => ?_) (fun h => absurd h (by decide))
    refine i_287_1453 (x := 2) rfl ?_
    refine i_287_1455 (fun _ => ?_) (fun h => absurd h (by decide))
    refine i_287_1470 ?_
    refine i_287_2154 (x := 0) (c := 6) (lv2 := [(4, Value.int 6), (6, Value.int 0), (5, Value.int 2), (3, Value.ref 194), (2, Value.ref 128), (1, Value.ref 7), (0, Value.ref 0)]) rfl (by decide) rfl ?_
    refine i_287_2157 ?_
    refine i_287_23 (x := 6) rfl ?_
    refine i_287_25 (x := 0) rfl ?_
    refine i_287_26 (c := 6) (xgn (by decide) (xga (xgn (by decide) (xga W0_0)))) (by decide) ?_
    refine i_287_27 ?_
    refine i_287_29 (c := 0) (by decide) ?_
    refine i_287_30 (fun _ => ?_) (fun h => absurd h (by decide))
    refine i_287_2160 ?_
    exact i_287_2161 rfl ⟨rfl, rfl⟩
  · refine xLs.set ?_ (xga (xgs (xga W0_128))) xcs_o
    refine xLs.app (n := 219) (z := 199994) (m := 6) ?_ rfl
    refine xLs.set ?_ (xga W0_128) xcs_o
    refine xLs.app (n := 218) (z := 199988) (m := 6) ?_ rfl
    exact ⟨Nat.le_trans (Nat.le_of_eq W0_len) (by decide), Nat.le_trans (Nat.le_of_eq W0_sz) (by decide)⟩
theorem p_124_6 {d : Nat} {w : xW} {a0 : Int32} {a1 : Int32} {g0 : Nat → Value} {h0 : Nat} {h1 : Nat} (e0 : 0 ≤ a0.toInt) (e1 : a0.toInt < 16) (e2 : 0 ≤ a1.toInt) (e3 : a1.toInt ≤ 3) (hw4 : w[7]? = some (Sum.inr (0, [Value.ref 8, Value.ref 78, Value.ref 9, Value.ref 10, Value.ref 13, Value.ref 16, Value.ref 19, Value.ref 93, Value.ref 108, Value.ref 113, Value.ref 29, Value.int 0]))) (hw5 : w[8]? = some (Sum.inl (4, 16, g0))) (hg6 : g0 a0.toInt.toNat = Value.ref h0) (e7 : a1.toInt ≠ 0) (e8 : a1.toInt ≠ 1) (e9 : a1.toInt ≠ 2) (hw10 : w[h0]? = some (Sum.inr (2, [Value.int 64, Value.int 0, Value.int 0, Value.int 0, Value.ref h1]))) : xRun (d + 6) 124 [Value.ref 7, Value.int a0, Value.int a1] w (.inr w.length) (w ++ [Sum.inr (16, [])]) := by
  refine xRun.of ?_
  refine i_124_0 (x := a0) rfl ?_
  refine i_124_1 (Nat.le_of_ble_eq_true rfl) (p_15_1 e0 e1) ?_
  refine i_124_4 (fun h => absurd h (by decide)) (fun _ => ?_)
  refine i_124_7 (x := a1) rfl ?_
  refine i_124_8 (fun h => absurd e2 (Int.not_le.mpr h)) (fun _ => ?_)
  refine i_124_11 (x := a1) rfl ?_
  refine i_124_12 ?_
  refine i_124_13 (fun _ => ?_) (fun h => absurd e3 (Int.not_le.mpr h))
  refine i_124_24 (x := 7) rfl ?_
  refine i_124_25 (v := Value.ref 8) hw4 rfl ?_
  refine i_124_28 (x := a0) rfl ?_
  refine i_124_29 (v := Value.ref h0) hw5 e0 e1 hg6 ?_
  refine i_124_30 (lv2 := [(3, Value.ref h0), (0, Value.ref 7), (1, Value.int a0), (2, Value.int a1)]) rfl ?_
  refine i_124_31 (x := a1) rfl ?_
  refine i_124_32 (fun _ => ?_) (fun h => absurd e7 (fun g => g h))
  refine i_124_40 (x := a1) rfl ?_
  refine i_124_41 ?_
  refine i_124_42 (fun _ => ?_) (fun h => absurd e8 (fun g => g h))
  refine i_124_50 (x := a1) rfl ?_
  refine i_124_51 ?_
  refine i_124_52 (fun _ => ?_) (fun h => absurd e9 (fun g => g h))
  refine i_124_65 (x := h0) rfl ?_
  refine i_124_66 (v := Value.int 0) hw10 rfl ?_
  refine i_124_69 ?_
  refine i_124_70 (fun h => absurd h (by decide)) (fun _ => ?_)
  exact i_124_73 (by omega) (Nat.le_of_ble_eq_true rfl) ⟨rfl, rfl⟩
theorem p_123_6 {d : Nat} {w : xW} {a0 : Int32} {a1 : Int32} {g0 : Nat → Value} {h0 : Nat} {h1 : Nat} (hw0 : w[7]? = some (Sum.inr (0, [Value.ref 8, Value.ref 78, Value.ref 9, Value.ref 10, Value.ref 13, Value.ref 16, Value.ref 19, Value.ref 93, Value.ref 108, Value.ref 113, Value.ref 29, Value.int 0]))) (e1 : 0 ≤ a0.toInt) (e2 : a0.toInt < 16) (e3 : 0 ≤ a1.toInt) (e4 : a1.toInt ≤ 3) (hw5 : w[8]? = some (Sum.inl (4, 16, g0))) (hg6 : g0 a0.toInt.toNat = Value.ref h0) (e7 : a1.toInt ≠ 0) (e8 : a1.toInt ≠ 1) (e9 : a1.toInt ≠ 2) (hw10 : w[h0]? = some (Sum.inr (2, [Value.int 64, Value.int 0, Value.int 0, Value.int 0, Value.ref h1]))) : xRun (d + 7) 123 [Value.ref 7, Value.int a0, Value.int a1, Value.ref 194] w (.inl (some (Value.int 2))) (w ++ [Sum.inr (16, [])]) := by
  refine xRun.of ?_
  refine i_123_0 (x := 194) rfl ?_
  refine i_123_1 ?_
  refine i_123_2 (x := 7) rfl ?_
  refine i_123_3 (x := a0) rfl ?_
  refine i_123_4 (x := a1) rfl ?_
  refine j_123_5 hw0 (Nat.le_of_ble_eq_true rfl) (p_124_6 e1 e2 e3 e4 hw0 hw5 hg6 e7 e8 e9 hw10) (xDone.c xgl rfl rfl ?_)
  refine i_123_17 (lv2 := [(4, Value.ref w.length), (0, Value.ref 7), (1, Value.int a0), (2, Value.int a1), (3, Value.ref 194)]) rfl ?_
  refine i_123_19 ?_
  exact i_123_20 ⟨rfl, rfl⟩
theorem p_243_6 {d : Nat} {w : xW} {a0 : Int32} {a1 : Int32} (e0 : 0 ≤ a0.toInt) (e1 : a0.toInt ≤ 15) (e2 : 0 ≤ a1.toInt) (e3 : a1.toInt ≤ 3) (e4 : a1.toInt ≠ 0) (e5 : a1.toInt ≠ 1) (e6 : a1.toInt ≠ 2) (hw7 : w[128]? = some (Sum.inr (12, [Value.ref 129, Value.ref 131, Value.ref 133, Value.ref 135, Value.ref 137, Value.ref 139, Value.ref 141, Value.ref 143, Value.ref 145, Value.ref 147, Value.ref 149, Value.ref 151, Value.ref 153, Value.ref 154, Value.ref 155, Value.ref 156, Value.ref 157, Value.int (-16384), Value.int 16384, Value.int 0, Value.int 0, Value.int 0, Value.ref 158, Value.ref 159, Value.int 0, Value.int 0, Value.int 0, Value.int 0, Value.int 0, Value.int 0, Value.int 0, Value.int 0]))) (hw8 : w[154]? = some (Sum.inl (0, 17, fun _ => Value.int 0))) (e9 : a0.toInt < 17) : xRun (d + 7) 243 [Value.ref 128, Value.int a0, Value.int a1] w (.inr w.length) (w ++ [Sum.inr (16, [])]) := by
  refine xRun.of ?_
  refine i_243_0 (x := a0) rfl ?_
  refine i_243_1 (Nat.le_of_ble_eq_true rfl) (p_168_1 e0 e1) ?_
  refine i_243_4 (x := a1) rfl ?_
  refine i_243_5 ?_
  refine i_243_6 ?_
  refine i_243_7 (Nat.le_of_ble_eq_true rfl) (p_169_26 e2 e3) ?_
  refine i_243_10 (Nat.le_of_ble_eq_true rfl) (p_170_1) ?_
  refine i_243_13 (x := a1) rfl ?_
  refine i_243_14 (fun _ => ?_) (fun h => absurd e4 (fun g => g h))
  refine i_243_24 (x := a1) rfl ?_
  refine i_243_25 ?_
  refine i_243_26 (fun _ => ?_) (fun h => absurd e5 (fun g => g h))
  refine i_243_36 (x := a1) rfl ?_
  refine i_243_37 ?_
  refine i_243_38 (fun _ => ?_) (fun h => absurd e6 (fun g => g h))
  refine i_243_58 (x := 128) rfl ?_
  refine i_243_59 (v := Value.ref 154) hw7 rfl ?_
  refine i_243_62 (x := a0) rfl ?_
  refine i_243_63 (v := Value.int 0) hw8 e0 e9 rfl ?_
  refine i_243_64 ?_
  refine i_243_65 (fun _ => ?_) (fun h => absurd h (by decide))
  refine i_243_72 ?_
  exact j_243_73 (Nat.le_of_ble_eq_true rfl) (p_244_0) (xDone.t xgl rfl rfl ⟨rfl, rfl⟩)
theorem p_242_6 {d : Nat} {w : xW} {a0 : Int32} {a1 : Int32} (hw0 : w[128]? = some (Sum.inr (12, [Value.ref 129, Value.ref 131, Value.ref 133, Value.ref 135, Value.ref 137, Value.ref 139, Value.ref 141, Value.ref 143, Value.ref 145, Value.ref 147, Value.ref 149, Value.ref 151, Value.ref 153, Value.ref 154, Value.ref 155, Value.ref 156, Value.ref 157, Value.int (-16384), Value.int 16384, Value.int 0, Value.int 0, Value.int 0, Value.ref 158, Value.ref 159, Value.int 0, Value.int 0, Value.int 0, Value.int 0, Value.int 0, Value.int 0, Value.int 0, Value.int 0]))) (e1 : 0 ≤ a0.toInt) (e2 : a0.toInt ≤ 15) (e3 : 0 ≤ a1.toInt) (e4 : a1.toInt ≤ 3) (e5 : a1.toInt ≠ 0) (e6 : a1.toInt ≠ 1) (e7 : a1.toInt ≠ 2) (hw8 : w[154]? = some (Sum.inl (0, 17, fun _ => Value.int 0))) (e9 : a0.toInt < 17) : xRun (d + 8) 242 [Value.ref 128, Value.int a0, Value.int a1] w (.inl (some (Value.int 0))) (((w.set 128 (Sum.inr (12, [Value.ref 129, Value.ref 131, Value.ref 133, Value.ref 135, Value.ref 137, Value.ref 139, Value.ref 141, Value.ref 143, Value.ref 145, Value.ref 147, Value.ref 149, Value.ref 151, Value.ref 153, Value.ref 154, Value.ref 155, Value.ref 156, Value.ref 157, Value.int (-16384), Value.int 16384, Value.int 0, Value.int 0, Value.int 0, Value.ref 158, Value.ref 159, Value.int 0, Value.int 0, Value.int 0, Value.int 0, Value.int 0, Value.int 0, Value.int 0, Value.int 0]))) ++ [Sum.inr (16, [])]).set 128 (Sum.inr (12, [Value.ref 129, Value.ref 131, Value.ref 133, Value.ref 135, Value.ref 137, Value.ref 139, Value.ref 141, Value.ref 143, Value.ref 145, Value.ref 147, Value.ref 149, Value.ref 151, Value.ref 153, Value.ref 154, Value.ref 155, Value.ref 156, Value.ref 157, Value.int (-16384), Value.int 16384, Value.int 0, Value.int 0, Value.int 0, Value.ref 158, Value.ref 159, Value.int 0, Value.int 0, Value.int 0, Value.int 0, Value.int 0, Value.int 0, Value.int 0, Value.int 2]))) := by
  refine xRun.of ?_
  refine i_242_0 (x := 128) rfl ?_
  refine i_242_1 ?_
  refine i_242_2 (fs2 := [Value.ref 129, Value.ref 131, Value.ref 133, Value.ref 135, Value.ref 137, Value.ref 139, Value.ref 141, Value.ref 143, Value.ref 145, Value.ref 147, Value.ref 149, Value.ref 151, Value.ref 153, Value.ref 154, Value.ref 155, Value.ref 156, Value.ref 157, Value.int (-16384), Value.int 16384, Value.int 0, Value.int 0, Value.int 0, Value.ref 158, Value.ref 159, Value.int 0, Value.int 0, Value.int 0, Value.int 0, Value.int 0, Value.int 0, Value.int 0, Value.int 0]) hw0 (Nat.le_of_ble_eq_true rfl) rfl (by decide) ?_
  refine i_242_5 (x := 128) rfl ?_
  refine i_242_6 (x := a0) rfl ?_
  refine i_242_7 (x := a1) rfl ?_
  refine j_242_8 (xgs hw0) (Nat.le_of_ble_eq_true rfl) (p_243_6 e1 e2 e3 e4 e5 e6 e7 (xgs hw0) (xgn (by decide) hw8) e9) (xDone.c xgl rfl rfl ?_)
  refine i_242_21 (lv2 := [(3, Value.ref ((w.set 128 (Sum.inr (12, [Value.ref 129, Value.ref 131, Value.ref 133, Value.ref 135, Value.ref 137, Value.ref 139, Value.ref 141, Value.ref 143, Value.ref 145, Value.ref 147, Value.ref 149, Value.ref 151, Value.ref 153, Value.ref 154, Value.ref 155, Value.ref 156, Value.ref 157, Value.int (-16384), Value.int 16384, Value.int 0, Value.int 0, Value.int 0, Value.ref 158, Value.ref 159, Value.int 0, Value.int 0, Value.int 0, Value.int 0, Value.int 0, Value.int 0, Value.int 0, Value.int 0]))).length)), (0, Value.ref 128), (1, Value.int a0), (2, Value.int a1)]) rfl ?_
  refine i_242_22 (x := 128) rfl ?_
  refine i_242_23 ?_
  refine i_242_24 (fs2 := [Value.ref 129, Value.ref 131, Value.ref 133, Value.ref 135, Value.ref 137, Value.ref 139, Value.ref 141, Value.ref 143, Value.ref 145, Value.ref 147, Value.ref 149, Value.ref 151, Value.ref 153, Value.ref 154, Value.ref 155, Value.ref 156, Value.ref 157, Value.int (-16384), Value.int 16384, Value.int 0, Value.int 0, Value.int 0, Value.ref 158, Value.ref 159, Value.int 0, Value.int 0, Value.int 0, Value.int 0, Value.int 0, Value.int 0, Value.int 0, Value.int 2]) (xga (xgs hw0)) (Nat.le_of_ble_eq_true rfl) rfl (by decide) ?_
  refine i_242_27 ?_
  exact i_242_28 ⟨rfl, rfl⟩
theorem o_14_6 {d : Nat} {xs : Nat → Int32} (h0 : ((xs 0) &&& (31 : Int32)).toInt = 14) (c0 : 0 ≤ (xs 1).toInt) (c1 : (xs 1).toInt < 16) (c2 : 0 ≤ (xs 2).toInt) (c3 : (xs 2).toInt ≤ 3) (c4 : (xs 2).toInt ≠ 0) (c5 : (xs 2).toInt ≠ 1) (c6 : (xs 2).toInt ≠ 2) : ∃ w1, xEv (d + 20) 287 23 [(4, Value.int 0), (3, Value.ref 194), (2, Value.ref 128), (1, Value.ref 7), (0, Value.ref 0)] [] (W0 6 xs) (fun o' w' => o' = .inl (some (Value.int 1)) ∧ w' = w1) ∧ w1.length ≤ 220 ∧ xsz w1 ≤ 200000 := by
  refine ⟨(((((W0 6 xs) ++ [Sum.inr (16, [])]).set 128 (Sum.inr (12, [Value.ref 129, Value.ref 131, Value.ref 133, Value.ref 135, Value.ref 137, Value.ref 139, Value.ref 141, Value.ref 143, Value.ref 145, Value.ref 147, Value.ref 149, Value.ref 151, Value.ref 153, Value.ref 154, Value.ref 155, Value.ref 156, Value.ref 157, Value.int (-16384), Value.int 16384, Value.int 0, Value.int 0, Value.int 0, Value.ref 158, Value.ref 159, Value.int 0, Value.int 0, Value.int 0, Value.int 0, Value.int 0, Value.int 0, Value.int 0, Value.int 0]))) ++ [Sum.inr (16, [])]).set 128 (Sum.inr (12, [Value.ref 129, Value.ref 131, Value.ref 133, Value.ref 135, Value.ref 137, Value.ref 139, Value.ref 141, Value.ref 143, Value.ref 145, Value.ref 147, Value.ref 149, Value.ref 151, Value.ref 153, Value.ref 154, Value.ref 155, Value.ref 156, Value.ref 157, Value.int (-16384), Value.int 16384, Value.int 0, Value.int 0, Value.int 0, Value.ref 158, Value.ref 159, Value.int 0, Value.int 0, Value.int 0, Value.int 0, Value.int 0, Value.int 0, Value.int 0, Value.int 2]))), ?_, (show xLs _ 220 200000 from ?_)⟩
  · refine i_287_23 (x := 0) rfl ?_
    refine i_287_25 (x := 0) rfl ?_
    refine i_287_26 (c := 6) W0_0 (by decide) ?_
    refine i_287_27 ?_
    refine i_287_29 (c := 0) (by decide) ?_
    refine i_287_30 (fun h => absurd h (by decide)) (fun _ => ?_)
    refine i_287_33 (x := 0) rfl ?_
    refine i_287_34 (x := 0) rfl ?_
    refine i_287_36 (v := Value.int (xs 0)) W0_0 (by decide) (by decide) rfl ?_
    refine i_287_37 ?_
    refine i_287_39 (c := ((xs 0) &&& (31 : Int32))) rfl ?_
    refine i_287_40_14 (by omega) ?_
    refine i_287_1405 (x := 7) rfl ?_
    refine i_287_1406 (x := 0) rfl ?_
    refine i_287_1407 (x := 0) rfl ?_
    refine i_287_1409 ?_
    refine i_287_1410 (c := 1) (by decide) ?_
    refine i_287_1411 (v := Value.int (xs 1)) W0_0 (by decide) (by decide) rfl ?_
    refine i_287_1412 (x := 0) rfl ?_
    refine i_287_1413 (x := 0) rfl ?_
    refine i_287_1415 ?_
    refine i_287_1416 (c := 2) (by decide) ?_
    refine i_287_1417 (v := Value.int (xs 2)) W0_0 (by decide) (by decide) rfl ?_
    refine i_287_1418 (x := 194) rfl ?_
    refine i_287_1419 (Nat.le_of_ble_eq_true rfl) (p_123_6 W0_7 (by omega) (by omega) (by omega) (by omega) W0_8 (greg_at (by omega)) (by omega) (by omega) (by omega) (W0_reg (by omega))) ?_
    refine i_287_1422 (lv2 := [(5, Value.int 2), (4, Value.int 0), (3, Value.ref 194), (2, Value.ref 128), (1, Value.ref 7), (0, Value.ref 0)]) rfl ?_
    refine i_287_1424 (x := 128) rfl ?_
    refine i_287_1425 (x := 0) rfl ?_
    refine i_287_1426 (x := 0) rfl ?_
    refine i_287_1428 ?_
    refine i_287_1429 (c := 1) (by decide) ?_
    refine i_287_1430 (v := Value.int (xs 1)) (xga W0_0) (by decide) (by decide) rfl ?_
    refine i_287_1431 (x := 0) rfl ?_
    refine i_287_1432 (x := 0) rfl ?_
    refine i_287_1434 ?_
    refine i_287_1435 (c := 2) (by decide) ?_
    refine i_287_1436 (v := Value.int (xs 2)) (xga W0_0) (by decide) (by decide) rfl ?_
    refine i_287_1437 (xga W0_128) (Nat.le_of_ble_eq_true rfl) (p_242_6 (xga W0_128) (by omega) (by omega) (by omega) (by omega) (by omega) (by omega) (by omega) (xga W0_154) (by omega)) ?_
    refine i_287_1440 (lv2 := [(6, Value.int 0), (5, Value.int 2), (4, Value.int 0), (3, Value.ref 194), (2, Value.ref 128), (1, Value.ref 7), (0, Value.ref 0)]) rfl ?_
    refine i_287_1442 (x := 128) rfl ?_
    refine i_287_1443 (xgs (xga (xgs (xga W0_128)))) (Nat.le_of_ble_eq_true rfl) (p_165_5 (xgs (xga (xgs (xga W0_128))))) ?_
    refine i_287_1446 (x := 2) rfl ?_
    refine i_287_1448 (fun _ => ?_) (fun h => absurd h (by decide))
    refine i_287_1453 (x := 2) rfl ?_
    refine i_287_1455 (fun _ => ?_) (fun h => absurd h (by decide))
    refine i_287_1470 ?_
    refine i_287_2154 (x := 0) (c := 6) (lv2 := [(4, Value.int 6), (6, Value.int 0), (5, Value.int 2), (3, Value.ref 194), (2, Value.ref 128), (1, Value.ref 7), (0, Value.ref 0)]) rfl (by decide) rfl ?_
    refine i_287_2157 ?_
    refine i_287_23 (x := 6) rfl ?_
    refine i_287_25 (x := 0) rfl ?_
    refine i_287_26 (c := 6) (xgn (by decide) (xga (xgn (by decide) (xga W0_0)))) (by decide) ?_
    refine i_287_27 ?_
    refine i_287_29 (c := 0) (by decide) ?_
    refine i_287_30 (fun _ => ?_) (fun h => absurd h (by decide))
    refine i_287_2160 ?_
    exact i_287_2161 rfl ⟨rfl, rfl⟩
  · refine xLs.set ?_ (xga (xgs (xga W0_128))) xcs_o
    refine xLs.app (n := 219) (z := 199994) (m := 6) ?_ rfl
    refine xLs.set ?_ (xga W0_128) xcs_o
    refine xLs.app (n := 218) (z := 199988) (m := 6) ?_ rfl
    exact ⟨Nat.le_trans (Nat.le_of_eq W0_len) (by decide), Nat.le_trans (Nat.le_of_eq W0_sz) (by decide)⟩
theorem p_124_7 {d : Nat} {w : xW} {a0 : Int32} {a1 : Int32} (e0 : 0 ≤ a0.toInt) (e1 : 16 ≤ a0.toInt) : xRun (d + 6) 124 [Value.ref 7, Value.int a0, Value.int a1] w (.inr w.length) (w ++ [Sum.inr (14, [])]) := by
  refine xRun.of ?_
  refine i_124_0 (x := a0) rfl ?_
  refine i_124_1 (Nat.le_of_ble_eq_true rfl) (p_15_2 e0 e1) ?_
  refine i_124_4 (fun _ => ?_) (fun h => absurd h (by decide))
  exact i_124_16 (by omega) (Nat.le_of_ble_eq_true rfl) ⟨rfl, rfl⟩
theorem p_123_7 {d : Nat} {w : xW} {a0 : Int32} {a1 : Int32} (hw0 : w[7]? = some (Sum.inr (0, [Value.ref 8, Value.ref 78, Value.ref 9, Value.ref 10, Value.ref 13, Value.ref 16, Value.ref 19, Value.ref 93, Value.ref 108, Value.ref 113, Value.ref 29, Value.int 0]))) (e1 : 0 ≤ a0.toInt) (e2 : 16 ≤ a0.toInt) : xRun (d + 7) 123 [Value.ref 7, Value.int a0, Value.int a1, Value.ref 194] w (.inl (some (Value.int 1))) (w ++ [Sum.inr (14, [])]) := by
  refine xRun.of ?_
  refine i_123_0 (x := 194) rfl ?_
  refine i_123_1 ?_
  refine i_123_2 (x := 7) rfl ?_
  refine i_123_3 (x := a0) rfl ?_
  refine i_123_4 (x := a1) rfl ?_
  refine j_123_5 hw0 (Nat.le_of_ble_eq_true rfl) (p_124_7 e1 e2) (xDone.c xgl rfl rfl ?_)
  refine i_123_13 (lv2 := [(4, Value.ref w.length), (0, Value.ref 7), (1, Value.int a0), (2, Value.int a1), (3, Value.ref 194)]) rfl ?_
  refine i_123_15 ?_
  exact i_123_16 ⟨rfl, rfl⟩
theorem p_243_7 {d : Nat} {w : xW} {a0 : Int32} {a1 : Int32} (e0 : 0 ≤ a0.toInt) (e1 : 15 < a0.toInt) : xRun (d + 8) 243 [Value.ref 128, Value.int a0, Value.int a1] w (.inr w.length) (w ++ [Sum.inr (14, [])]) := by
  refine xRun.of ?_
  refine i_243_0 (x := a0) rfl ?_
  exact j_243_1 (Nat.le_of_ble_eq_true rfl) (p_168_2 e0 e1) (xDone.t xgl rfl rfl ⟨rfl, rfl⟩)
theorem p_242_7 {d : Nat} {w : xW} {a0 : Int32} {a1 : Int32} (hw0 : w[128]? = some (Sum.inr (12, [Value.ref 129, Value.ref 131, Value.ref 133, Value.ref 135, Value.ref 137, Value.ref 139, Value.ref 141, Value.ref 143, Value.ref 145, Value.ref 147, Value.ref 149, Value.ref 151, Value.ref 153, Value.ref 154, Value.ref 155, Value.ref 156, Value.ref 157, Value.int (-16384), Value.int 16384, Value.int 0, Value.int 0, Value.int 0, Value.ref 158, Value.ref 159, Value.int 0, Value.int 0, Value.int 0, Value.int 0, Value.int 0, Value.int 0, Value.int 0, Value.int 0]))) (e1 : 0 ≤ a0.toInt) (e2 : 15 < a0.toInt) : xRun (d + 9) 242 [Value.ref 128, Value.int a0, Value.int a1] w (.inl (some (Value.int 0))) (((w.set 128 (Sum.inr (12, [Value.ref 129, Value.ref 131, Value.ref 133, Value.ref 135, Value.ref 137, Value.ref 139, Value.ref 141, Value.ref 143, Value.ref 145, Value.ref 147, Value.ref 149, Value.ref 151, Value.ref 153, Value.ref 154, Value.ref 155, Value.ref 156, Value.ref 157, Value.int (-16384), Value.int 16384, Value.int 0, Value.int 0, Value.int 0, Value.ref 158, Value.ref 159, Value.int 0, Value.int 0, Value.int 0, Value.int 0, Value.int 0, Value.int 0, Value.int 0, Value.int 0]))) ++ [Sum.inr (14, [])]).set 128 (Sum.inr (12, [Value.ref 129, Value.ref 131, Value.ref 133, Value.ref 135, Value.ref 137, Value.ref 139, Value.ref 141, Value.ref 143, Value.ref 145, Value.ref 147, Value.ref 149, Value.ref 151, Value.ref 153, Value.ref 154, Value.ref 155, Value.ref 156, Value.ref 157, Value.int (-16384), Value.int 16384, Value.int 0, Value.int 0, Value.int 0, Value.ref 158, Value.ref 159, Value.int 0, Value.int 0, Value.int 0, Value.int 0, Value.int 0, Value.int 0, Value.int 0, Value.int 1]))) := by
  refine xRun.of ?_
  refine i_242_0 (x := 128) rfl ?_
  refine i_242_1 ?_
  refine i_242_2 (fs2 := [Value.ref 129, Value.ref 131, Value.ref 133, Value.ref 135, Value.ref 137, Value.ref 139, Value.ref 141, Value.ref 143, Value.ref 145, Value.ref 147, Value.ref 149, Value.ref 151, Value.ref 153, Value.ref 154, Value.ref 155, Value.ref 156, Value.ref 157, Value.int (-16384), Value.int 16384, Value.int 0, Value.int 0, Value.int 0, Value.ref 158, Value.ref 159, Value.int 0, Value.int 0, Value.int 0, Value.int 0, Value.int 0, Value.int 0, Value.int 0, Value.int 0]) hw0 (Nat.le_of_ble_eq_true rfl) rfl (by decide) ?_
  refine i_242_5 (x := 128) rfl ?_
  refine i_242_6 (x := a0) rfl ?_
  refine i_242_7 (x := a1) rfl ?_
  refine j_242_8 (xgs hw0) (Nat.le_of_ble_eq_true rfl) (p_243_7 e1 e2) (xDone.c xgl rfl rfl ?_)
  refine i_242_12 (lv2 := [(3, Value.ref ((w.set 128 (Sum.inr (12, [Value.ref 129, Value.ref 131, Value.ref 133, Value.ref 135, Value.ref 137, Value.ref 139, Value.ref 141, Value.ref 143, Value.ref 145, Value.ref 147, Value.ref 149, Value.ref 151, Value.ref 153, Value.ref 154, Value.ref 155, Value.ref 156, Value.ref 157, Value.int (-16384), Value.int 16384, Value.int 0, Value.int 0, Value.int 0, Value.ref 158, Value.ref 159, Value.int 0, Value.int 0, Value.int 0, Value.int 0, Value.int 0, Value.int 0, Value.int 0, Value.int 0]))).length)), (0, Value.ref 128), (1, Value.int a0), (2, Value.int a1)]) rfl ?_
  refine i_242_13 (x := 128) rfl ?_
  refine i_242_14 ?_
  refine i_242_15 (fs2 := [Value.ref 129, Value.ref 131, Value.ref 133, Value.ref 135, Value.ref 137, Value.ref 139, Value.ref 141, Value.ref 143, Value.ref 145, Value.ref 147, Value.ref 149, Value.ref 151, Value.ref 153, Value.ref 154, Value.ref 155, Value.ref 156, Value.ref 157, Value.int (-16384), Value.int 16384, Value.int 0, Value.int 0, Value.int 0, Value.ref 158, Value.ref 159, Value.int 0, Value.int 0, Value.int 0, Value.int 0, Value.int 0, Value.int 0, Value.int 0, Value.int 1]) (xga (xgs hw0)) (Nat.le_of_ble_eq_true rfl) rfl (by decide) ?_
  refine i_242_18 ?_
  refine i_242_27 ?_
  exact i_242_28 ⟨rfl, rfl⟩
theorem o_14_7 {d : Nat} {xs : Nat → Int32} (h0 : ((xs 0) &&& (31 : Int32)).toInt = 14) (c0 : 0 ≤ (xs 1).toInt) (c1 : 16 ≤ (xs 1).toInt) : ∃ w1, xEv (d + 20) 287 23 [(4, Value.int 0), (3, Value.ref 194), (2, Value.ref 128), (1, Value.ref 7), (0, Value.ref 0)] [] (W0 6 xs) (fun o' w' => o' = .inl (some (Value.int 1)) ∧ w' = w1) ∧ w1.length ≤ 220 ∧ xsz w1 ≤ 200000 := by
  refine ⟨(((((W0 6 xs) ++ [Sum.inr (14, [])]).set 128 (Sum.inr (12, [Value.ref 129, Value.ref 131, Value.ref 133, Value.ref 135, Value.ref 137, Value.ref 139, Value.ref 141, Value.ref 143, Value.ref 145, Value.ref 147, Value.ref 149, Value.ref 151, Value.ref 153, Value.ref 154, Value.ref 155, Value.ref 156, Value.ref 157, Value.int (-16384), Value.int 16384, Value.int 0, Value.int 0, Value.int 0, Value.ref 158, Value.ref 159, Value.int 0, Value.int 0, Value.int 0, Value.int 0, Value.int 0, Value.int 0, Value.int 0, Value.int 0]))) ++ [Sum.inr (14, [])]).set 128 (Sum.inr (12, [Value.ref 129, Value.ref 131, Value.ref 133, Value.ref 135, Value.ref 137, Value.ref 139, Value.ref 141, Value.ref 143, Value.ref 145, Value.ref 147, Value.ref 149, Value.ref 151, Value.ref 153, Value.ref 154, Value.ref 155, Value.ref 156, Value.ref 157, Value.int (-16384), Value.int 16384, Value.int 0, Value.int 0, Value.int 0, Value.ref 158, Value.ref 159, Value.int 0, Value.int 0, Value.int 0, Value.int 0, Value.int 0, Value.int 0, Value.int 0, Value.int 1]))), ?_, (show xLs _ 220 200000 from ?_)⟩
  · refine i_287_23 (x := 0) rfl ?_
    refine i_287_25 (x := 0) rfl ?_
    refine i_287_26 (c := 6) W0_0 (by decide) ?_
    refine i_287_27 ?_
    refine i_287_29 (c := 0) (by decide) ?_
    refine i_287_30 (fun h => absurd h (by decide)) (fun _ => ?_)
    refine i_287_33 (x := 0) rfl ?_
    refine i_287_34 (x := 0) rfl ?_
    refine i_287_36 (v := Value.int (xs 0)) W0_0 (by decide) (by decide) rfl ?_
    refine i_287_37 ?_
    refine i_287_39 (c := ((xs 0) &&& (31 : Int32))) rfl ?_
    refine i_287_40_14 (by omega) ?_
    refine i_287_1405 (x := 7) rfl ?_
    refine i_287_1406 (x := 0) rfl ?_
    refine i_287_1407 (x := 0) rfl ?_
    refine i_287_1409 ?_
    refine i_287_1410 (c := 1) (by decide) ?_
    refine i_287_1411 (v := Value.int (xs 1)) W0_0 (by decide) (by decide) rfl ?_
    refine i_287_1412 (x := 0) rfl ?_
    refine i_287_1413 (x := 0) rfl ?_
    refine i_287_1415 ?_
    refine i_287_1416 (c := 2) (by decide) ?_
    refine i_287_1417 (v := Value.int (xs 2)) W0_0 (by decide) (by decide) rfl ?_
    refine i_287_1418 (x := 194) rfl ?_
    refine i_287_1419 (Nat.le_of_ble_eq_true rfl) (p_123_7 W0_7 (by omega) (by omega)) ?_
    refine i_287_1422 (lv2 := [(5, Value.int 1), (4, Value.int 0), (3, Value.ref 194), (2, Value.ref 128), (1, Value.ref 7), (0, Value.ref 0)]) rfl ?_
    refine i_287_1424 (x := 128) rfl ?_
    refine i_287_1425 (x := 0) rfl ?_
    refine i_287_1426 (x := 0) rfl ?_
    refine i_287_1428 ?_
    refine i_287_1429 (c := 1) (by decide) ?_
    refine i_287_1430 (v := Value.int (xs 1)) (xga W0_0) (by decide) (by decide) rfl ?_
    refine i_287_1431 (x := 0) rfl ?_
    refine i_287_1432 (x := 0) rfl ?_
    refine i_287_1434 ?_
    refine i_287_1435 (c := 2) (by decide) ?_
    refine i_287_1436 (v := Value.int (xs 2)) (xga W0_0) (by decide) (by decide) rfl ?_
    refine i_287_1437 (xga W0_128) (Nat.le_of_ble_eq_true rfl) (p_242_7 (xga W0_128) (by omega) (by omega)) ?_
    refine i_287_1440 (lv2 := [(6, Value.int 0), (5, Value.int 1), (4, Value.int 0), (3, Value.ref 194), (2, Value.ref 128), (1, Value.ref 7), (0, Value.ref 0)]) rfl ?_
    refine i_287_1442 (x := 128) rfl ?_
    refine i_287_1443 (xgs (xga (xgs (xga W0_128)))) (Nat.le_of_ble_eq_true rfl) (p_165_0 (xgs (xga (xgs (xga W0_128))))) ?_
    refine i_287_1446 (x := 1) rfl ?_
    refine i_287_1448 (fun _ => ?_) (fun h => absurd h (by decide))
    refine i_287_1453 (x := 1) rfl ?_
    refine i_287_1455 (fun _ => ?_) (fun h => absurd h (by decide))
    refine i_287_1470 ?_
    refine i_287_2154 (x := 0) (c := 6) (lv2 := [(4, Value.int 6), (6, Value.int 0), (5, Value.int 1), (3, Value.ref 194), (2, Value.ref 128), (1, Value.ref 7), (0, Value.ref 0)]) rfl (by decide) rfl ?_
    refine i_287_2157 ?_
    refine i_287_23 (x := 6) rfl ?_
    refine i_287_25 (x := 0) rfl ?_
    refine i_287_26 (c := 6) (xgn (by decide) (xga (xgn (by decide) (xga W0_0)))) (by decide) ?_
    refine i_287_27 ?_
    refine i_287_29 (c := 0) (by decide) ?_
    refine i_287_30 (fun _ => ?_) (fun h => absurd h (by decide))
    refine i_287_2160 ?_
    exact i_287_2161 rfl ⟨rfl, rfl⟩
  · refine xLs.set ?_ (xga (xgs (xga W0_128))) xcs_o
    refine xLs.app (n := 219) (z := 199994) (m := 6) ?_ rfl
    refine xLs.set ?_ (xga W0_128) xcs_o
    refine xLs.app (n := 218) (z := 199988) (m := 6) ?_ rfl
    exact ⟨Nat.le_trans (Nat.le_of_eq W0_len) (by decide), Nat.le_trans (Nat.le_of_eq W0_sz) (by decide)⟩
theorem op_14 {d : Nat} {xs : Nat → Int32} (h0 : ((xs 0) &&& (31 : Int32)).toInt = 14) : ∃ w1, xEv (d + 20) 287 23 [(4, Value.int 0), (3, Value.ref 194), (2, Value.ref 128), (1, Value.ref 7), (0, Value.ref 0)] [] (W0 6 xs) (fun o' w' => o' = .inl (some (Value.int 1)) ∧ w' = w1) ∧ w1.length ≤ 220 ∧ xsz w1 ≤ 200000 := by
  rcases Int.lt_or_le (xs 1).toInt (0) with c0 | c0
  · exact o_14_0 h0 c0
  · rcases Int.lt_or_le (xs 1).toInt (16) with c1 | c1
    · rcases Int.lt_or_le (xs 2).toInt (0) with c2 | c2
      · exact o_14_1 h0 c0 c1 c2
      · rcases Int.lt_or_le (3) (xs 2).toInt with c3 | c3
        · exact o_14_2 h0 c0 c1 c2 c3
        · by_cases c4 : (xs 2).toInt = 0
          · exact o_14_3 h0 c0 c1 c2 c3 c4
          · by_cases c5 : (xs 2).toInt = 1
            · exact o_14_4 h0 c0 c1 c2 c3 c4 c5
            · by_cases c6 : (xs 2).toInt = 2
              · exact o_14_5 h0 c0 c1 c2 c3 c4 c5 c6
              · exact o_14_6 h0 c0 c1 c2 c3 c4 c5 c6
    · exact o_14_7 h0 c0 c1
theorem p_126_0 {d : Nat} {w : xW} {a0 : Int32} {a1 : Int32} (e0 : a0.toInt < 0) : xRun (d + 6) 126 [Value.ref 7, Value.int a0, Value.int a1] w (.inr w.length) (w ++ [Sum.inr (14, [])]) := by
  refine xRun.of ?_
  refine i_126_0 (x := a0) rfl ?_
  refine i_126_1 (Nat.le_of_ble_eq_true rfl) (p_15_0 e0) ?_
  refine i_126_4 (fun _ => ?_) (fun h => absurd h (by decide))
  exact i_126_17 (by omega) (Nat.le_of_ble_eq_true rfl) ⟨rfl, rfl⟩
theorem p_125_0 {d : Nat} {w : xW} {a0 : Int32} {a1 : Int32} (hw0 : w[7]? = some (Sum.inr (0, [Value.ref 8, Value.ref 78, Value.ref 9, Value.ref 10, Value.ref 13, Value.ref 16, Value.ref 19, Value.ref 93, Value.ref 108, Value.ref 113, Value.ref 29, Value.int 0]))) (e1 : a0.toInt < 0) : xRun (d + 7) 125 [Value.ref 7, Value.int a0, Value.int a1, Value.ref 194] w (.inl (some (Value.int 1))) (w ++ [Sum.inr (14, [])]) := by
  refine xRun.of ?_
  refine i_125_0 (x := 194) rfl ?_
  refine i_125_1 ?_
  refine i_125_2 (x := 7) rfl ?_
  refine i_125_3 (x := a0) rfl ?_
  refine i_125_4 (x := a1) rfl ?_
  refine j_125_5 hw0 (Nat.le_of_ble_eq_true rfl) (p_126_0 e1) (xDone.c xgl rfl rfl ?_)
  refine i_125_12 (lv2 := [(4, Value.ref w.length), (0, Value.ref 7), (1, Value.int a0), (2, Value.int a1), (3, Value.ref 194)]) rfl ?_
  refine i_125_14 ?_
  exact i_125_15 ⟨rfl, rfl⟩
theorem p_246_0 {d : Nat} {w : xW} {a0 : Int32} {a1 : Int32} (e0 : a0.toInt < 0) : xRun (d + 8) 246 [Value.ref 128, Value.int a0, Value.int a1] w (.inr w.length) (w ++ [Sum.inr (14, [])]) := by
  refine xRun.of ?_
  refine i_246_0 (x := a0) rfl ?_
  exact j_246_1 (Nat.le_of_ble_eq_true rfl) (p_168_0 e0) (xDone.t xgl rfl rfl ⟨rfl, rfl⟩)
theorem p_245_0 {d : Nat} {w : xW} {a0 : Int32} {a1 : Int32} (hw0 : w[128]? = some (Sum.inr (12, [Value.ref 129, Value.ref 131, Value.ref 133, Value.ref 135, Value.ref 137, Value.ref 139, Value.ref 141, Value.ref 143, Value.ref 145, Value.ref 147, Value.ref 149, Value.ref 151, Value.ref 153, Value.ref 154, Value.ref 155, Value.ref 156, Value.ref 157, Value.int (-16384), Value.int 16384, Value.int 0, Value.int 0, Value.int 0, Value.ref 158, Value.ref 159, Value.int 0, Value.int 0, Value.int 0, Value.int 0, Value.int 0, Value.int 0, Value.int 0, Value.int 0]))) (e1 : a0.toInt < 0) : xRun (d + 9) 245 [Value.ref 128, Value.int a0, Value.int a1] w (.inl (some (Value.long 0))) (((w.set 128 (Sum.inr (12, [Value.ref 129, Value.ref 131, Value.ref 133, Value.ref 135, Value.ref 137, Value.ref 139, Value.ref 141, Value.ref 143, Value.ref 145, Value.ref 147, Value.ref 149, Value.ref 151, Value.ref 153, Value.ref 154, Value.ref 155, Value.ref 156, Value.ref 157, Value.int (-16384), Value.int 16384, Value.int 0, Value.int 0, Value.int 0, Value.ref 158, Value.ref 159, Value.int 0, Value.int 0, Value.int 0, Value.int 0, Value.int 0, Value.int 0, Value.int 0, Value.int 0]))) ++ [Sum.inr (14, [])]).set 128 (Sum.inr (12, [Value.ref 129, Value.ref 131, Value.ref 133, Value.ref 135, Value.ref 137, Value.ref 139, Value.ref 141, Value.ref 143, Value.ref 145, Value.ref 147, Value.ref 149, Value.ref 151, Value.ref 153, Value.ref 154, Value.ref 155, Value.ref 156, Value.ref 157, Value.int (-16384), Value.int 16384, Value.int 0, Value.int 0, Value.int 0, Value.ref 158, Value.ref 159, Value.int 0, Value.int 0, Value.int 0, Value.int 0, Value.int 0, Value.int 0, Value.int 0, Value.int 1]))) := by
  refine xRun.of ?_
  refine i_245_0 (x := 128) rfl ?_
  refine i_245_1 ?_
  refine i_245_2 (fs2 := [Value.ref 129, Value.ref 131, Value.ref 133, Value.ref 135, Value.ref 137, Value.ref 139, Value.ref 141, Value.ref 143, Value.ref 145, Value.ref 147, Value.ref 149, Value.ref 151, Value.ref 153, Value.ref 154, Value.ref 155, Value.ref 156, Value.ref 157, Value.int (-16384), Value.int 16384, Value.int 0, Value.int 0, Value.int 0, Value.ref 158, Value.ref 159, Value.int 0, Value.int 0, Value.int 0, Value.int 0, Value.int 0, Value.int 0, Value.int 0, Value.int 0]) hw0 (Nat.le_of_ble_eq_true rfl) rfl (by decide) ?_
  refine i_245_5 (x := 128) rfl ?_
  refine i_245_6 (x := a0) rfl ?_
  refine i_245_7 (x := a1) rfl ?_
  refine j_245_8 (xgs hw0) (Nat.le_of_ble_eq_true rfl) (p_246_0 e1) (xDone.c xgl rfl rfl ?_)
  refine i_245_12 (lv2 := [(3, Value.ref ((w.set 128 (Sum.inr (12, [Value.ref 129, Value.ref 131, Value.ref 133, Value.ref 135, Value.ref 137, Value.ref 139, Value.ref 141, Value.ref 143, Value.ref 145, Value.ref 147, Value.ref 149, Value.ref 151, Value.ref 153, Value.ref 154, Value.ref 155, Value.ref 156, Value.ref 157, Value.int (-16384), Value.int 16384, Value.int 0, Value.int 0, Value.int 0, Value.ref 158, Value.ref 159, Value.int 0, Value.int 0, Value.int 0, Value.int 0, Value.int 0, Value.int 0, Value.int 0, Value.int 0]))).length)), (0, Value.ref 128), (1, Value.int a0), (2, Value.int a1)]) rfl ?_
  refine i_245_13 (x := 128) rfl ?_
  refine i_245_14 ?_
  refine i_245_15 (fs2 := [Value.ref 129, Value.ref 131, Value.ref 133, Value.ref 135, Value.ref 137, Value.ref 139, Value.ref 141, Value.ref 143, Value.ref 145, Value.ref 147, Value.ref 149, Value.ref 151, Value.ref 153, Value.ref 154, Value.ref 155, Value.ref 156, Value.ref 157, Value.int (-16384), Value.int 16384, Value.int 0, Value.int 0, Value.int 0, Value.ref 158, Value.ref 159, Value.int 0, Value.int 0, Value.int 0, Value.int 0, Value.int 0, Value.int 0, Value.int 0, Value.int 1]) (xga (xgs hw0)) (Nat.le_of_ble_eq_true rfl) rfl (by decide) ?_
  refine i_245_18 ?_
  refine i_245_27 ?_
  exact i_245_28 ⟨rfl, rfl⟩
theorem o_15_0 {d : Nat} {xs : Nat → Int32} (h0 : ((xs 0) &&& (31 : Int32)).toInt = 15) (c0 : (xs 1).toInt < 0) : ∃ w1, xEv (d + 20) 287 23 [(4, Value.int 0), (3, Value.ref 194), (2, Value.ref 128), (1, Value.ref 7), (0, Value.ref 0)] [] (W0 6 xs) (fun o' w' => o' = .inl (some (Value.int 1)) ∧ w' = w1) ∧ w1.length ≤ 220 ∧ xsz w1 ≤ 200000 := by
  refine ⟨(((((W0 6 xs) ++ [Sum.inr (14, [])]).set 128 (Sum.inr (12, [Value.ref 129, Value.ref 131, Value.ref 133, Value.ref 135, Value.ref 137, Value.ref 139, Value.ref 141, Value.ref 143, Value.ref 145, Value.ref 147, Value.ref 149, Value.ref 151, Value.ref 153, Value.ref 154, Value.ref 155, Value.ref 156, Value.ref 157, Value.int (-16384), Value.int 16384, Value.int 0, Value.int 0, Value.int 0, Value.ref 158, Value.ref 159, Value.int 0, Value.int 0, Value.int 0, Value.int 0, Value.int 0, Value.int 0, Value.int 0, Value.int 0]))) ++ [Sum.inr (14, [])]).set 128 (Sum.inr (12, [Value.ref 129, Value.ref 131, Value.ref 133, Value.ref 135, Value.ref 137, Value.ref 139, Value.ref 141, Value.ref 143, Value.ref 145, Value.ref 147, Value.ref 149, Value.ref 151, Value.ref 153, Value.ref 154, Value.ref 155, Value.ref 156, Value.ref 157, Value.int (-16384), Value.int 16384, Value.int 0, Value.int 0, Value.int 0, Value.ref 158, Value.ref 159, Value.int 0, Value.int 0, Value.int 0, Value.int 0, Value.int 0, Value.int 0, Value.int 0, Value.int 1]))), ?_, (show xLs _ 220 200000 from ?_)⟩
  · refine i_287_23 (x := 0) rfl ?_
    refine i_287_25 (x := 0) rfl ?_
    refine i_287_26 (c := 6) W0_0 (by decide) ?_
    refine i_287_27 ?_
    refine i_287_29 (c := 0) (by decide) ?_
    refine i_287_30 (fun h => absurd h (by decide)) (fun _ => ?_)
    refine i_287_33 (x := 0) rfl ?_
    refine i_287_34 (x := 0) rfl ?_
    refine i_287_36 (v := Value.int (xs 0)) W0_0 (by decide) (by decide) rfl ?_
    refine i_287_37 ?_
    refine i_287_39 (c := ((xs 0) &&& (31 : Int32))) rfl ?_
    refine i_287_40_15 (by omega) ?_
    refine i_287_1473 (x := 7) rfl ?_
    refine i_287_1474 (x := 0) rfl ?_
    refine i_287_1475 (x := 0) rfl ?_
    refine i_287_1477 ?_
    refine i_287_1478 (c := 1) (by decide) ?_
    refine i_287_1479 (v := Value.int (xs 1)) W0_0 (by decide) (by decide) rfl ?_
    refine i_287_1480 (x := 0) rfl ?_
    refine i_287_1481 (x := 0) rfl ?_
    refine i_287_1483 ?_
    refine i_287_1484 (c := 2) (by decide) ?_
    refine i_287_1485 (v := Value.int (xs 2)) W0_0 (by decide) (by decide) rfl ?_
    refine i_287_1486 (x := 194) rfl ?_
    refine i_287_1487 (Nat.le_of_ble_eq_true rfl) (p_125_0 W0_7 (by omega)) ?_
    refine i_287_1490 (lv2 := [(5, Value.int 1), (4, Value.int 0), (3, Value.ref 194), (2, Value.ref 128), (1, Value.ref 7), (0, Value.ref 0)]) rfl ?_
    refine i_287_1492 (x := 128) rfl ?_
    refine i_287_1493 (x := 0) rfl ?_
    refine i_287_1494 (x := 0) rfl ?_
    refine i_287_1496 ?_
    refine i_287_1497 (c := 1) (by decide) ?_
    refine i_287_1498 (v := Value.int (xs 1)) (xga W0_0) (by decide) (by decide) rfl ?_
    refine i_287_1499 (x := 0) rfl ?_
    refine i_287_1500 (x := 0) rfl ?_
    refine i_287_1502 ?_
    refine i_287_1503 (c := 2) (by decide) ?_
    refine i_287_1504 (v := Value.int (xs 2)) (xga W0_0) (by decide) (by decide) rfl ?_
    refine i_287_1505 (xga W0_128) (Nat.le_of_ble_eq_true rfl) (p_245_0 (xga W0_128) (by omega)) ?_
    refine i_287_1508 (lv2 := [(6, Value.long 0), (5, Value.int 1), (4, Value.int 0), (3, Value.ref 194), (2, Value.ref 128), (1, Value.ref 7), (0, Value.ref 0)]) rfl ?_
    refine i_287_1510 (x := 128) rfl ?_
    refine i_287_1511 (xgs (xga (xgs (xga W0_128)))) (Nat.le_of_ble_eq_true rfl) (p_165_0 (xgs (xga (xgs (xga W0_128))))) ?_
    refine i_287_1514 (x := 1) rfl ?_
    refine i_287_1516 (fun _ => ?_) (fun h => absurd h (by decide))
    refine i_287_1521 (x := 1) rfl ?_
    refine i_287_1523 (fun _ => ?_) (fun h => absurd h (by decide))
    refine i_287_1537 ?_
    refine i_287_2154 (x := 0) (c := 6) (lv2 := [(4, Value.int 6), (6, Value.long 0), (5, Value.int 1), (3, Value.ref 194), (2, Value.ref 128), (1, Value.ref 7), (0, Value.ref 0)]) rfl (by decide) rfl ?_
    refine i_287_2157 ?_
    refine i_287_23 (x := 6) rfl ?_
    refine i_287_25 (x := 0) rfl ?_
    refine i_287_26 (c := 6) (xgn (by decide) (xga (xgn (by decide) (xga W0_0)))) (by decide) ?_
    refine i_287_27 ?_
    refine i_287_29 (c := 0) (by decide) ?_
    refine i_287_30 (fun _ => ?_) (fun h => absurd h (by decide))
    refine i_287_2160 ?_
    exact i_287_2161 rfl ⟨rfl, rfl⟩
  · refine xLs.set ?_ (xga (xgs (xga W0_128))) xcs_o
    refine xLs.app (n := 219) (z := 199994) (m := 6) ?_ rfl
    refine xLs.set ?_ (xga W0_128) xcs_o
    refine xLs.app (n := 218) (z := 199988) (m := 6) ?_ rfl
    exact ⟨Nat.le_trans (Nat.le_of_eq W0_len) (by decide), Nat.le_trans (Nat.le_of_eq W0_sz) (by decide)⟩
theorem p_126_1 {d : Nat} {w : xW} {a0 : Int32} {a1 : Int32} (e0 : 0 ≤ a0.toInt) (e1 : a0.toInt < 16) (e2 : a1.toInt < 0) : xRun (d + 6) 126 [Value.ref 7, Value.int a0, Value.int a1] w (.inr w.length) (w ++ [Sum.inr (14, [])]) := by
  refine xRun.of ?_
  refine i_126_0 (x := a0) rfl ?_
  refine i_126_1 (Nat.le_of_ble_eq_true rfl) (p_15_1 e0 e1) ?_
  refine i_126_4 (fun h => absurd h (by decide)) (fun _ => ?_)
  refine i_126_7 (x := a1) rfl ?_
  refine i_126_8 (fun _ => ?_) (fun h => absurd e2 (Int.not_lt.mpr h))
  exact i_126_17 (by omega) (Nat.le_of_ble_eq_true rfl) ⟨rfl, rfl⟩
theorem p_125_1 {d : Nat} {w : xW} {a0 : Int32} {a1 : Int32} (hw0 : w[7]? = some (Sum.inr (0, [Value.ref 8, Value.ref 78, Value.ref 9, Value.ref 10, Value.ref 13, Value.ref 16, Value.ref 19, Value.ref 93, Value.ref 108, Value.ref 113, Value.ref 29, Value.int 0]))) (e1 : 0 ≤ a0.toInt) (e2 : a0.toInt < 16) (e3 : a1.toInt < 0) : xRun (d + 7) 125 [Value.ref 7, Value.int a0, Value.int a1, Value.ref 194] w (.inl (some (Value.int 1))) (w ++ [Sum.inr (14, [])]) := by
  refine xRun.of ?_
  refine i_125_0 (x := 194) rfl ?_
  refine i_125_1 ?_
  refine i_125_2 (x := 7) rfl ?_
  refine i_125_3 (x := a0) rfl ?_
  refine i_125_4 (x := a1) rfl ?_
  refine j_125_5 hw0 (Nat.le_of_ble_eq_true rfl) (p_126_1 e1 e2 e3) (xDone.c xgl rfl rfl ?_)
  refine i_125_12 (lv2 := [(4, Value.ref w.length), (0, Value.ref 7), (1, Value.int a0), (2, Value.int a1), (3, Value.ref 194)]) rfl ?_
  refine i_125_14 ?_
  exact i_125_15 ⟨rfl, rfl⟩
theorem p_169_27 {d : Nat} {w : xW} {a0 : Int32} (e0 : a0.toInt < 0) : xRun d 169 [Value.int a0, Value.int 0, Value.int 127] w (.inl (some (Value.int 0))) w := by
  refine xRun.of ?_
  refine i_169_0 (x := a0) rfl ?_
  refine i_169_1 (x := 0) rfl ?_
  refine i_169_2 (fun _ => ?_) (fun h => absurd e0 (Int.not_lt.mpr h))
  refine i_169_14 ?_
  exact i_169_15 rfl ⟨rfl, rfl⟩
theorem p_246_1 {d : Nat} {w : xW} {a0 : Int32} {a1 : Int32} (e0 : 0 ≤ a0.toInt) (e1 : a0.toInt ≤ 15) (e2 : a1.toInt < 0) : xRun (d + 7) 246 [Value.ref 128, Value.int a0, Value.int a1] w (.inr w.length) (w ++ [Sum.inr (14, [])]) := by
  refine xRun.of ?_
  refine i_246_0 (x := a0) rfl ?_
  refine i_246_1 (Nat.le_of_ble_eq_true rfl) (p_168_1 e0 e1) ?_
  refine i_246_4 (x := a1) rfl ?_
  refine i_246_5 ?_
  refine i_246_6 ?_
  refine i_246_8 (Nat.le_of_ble_eq_true rfl) (p_169_27 e2) ?_
  exact j_246_11 (Nat.le_of_ble_eq_true rfl) (p_170_0) (xDone.t xgl rfl rfl ⟨rfl, rfl⟩)
theorem p_245_1 {d : Nat} {w : xW} {a0 : Int32} {a1 : Int32} (hw0 : w[128]? = some (Sum.inr (12, [Value.ref 129, Value.ref 131, Value.ref 133, Value.ref 135, Value.ref 137, Value.ref 139, Value.ref 141, Value.ref 143, Value.ref 145, Value.ref 147, Value.ref 149, Value.ref 151, Value.ref 153, Value.ref 154, Value.ref 155, Value.ref 156, Value.ref 157, Value.int (-16384), Value.int 16384, Value.int 0, Value.int 0, Value.int 0, Value.ref 158, Value.ref 159, Value.int 0, Value.int 0, Value.int 0, Value.int 0, Value.int 0, Value.int 0, Value.int 0, Value.int 0]))) (e1 : 0 ≤ a0.toInt) (e2 : a0.toInt ≤ 15) (e3 : a1.toInt < 0) : xRun (d + 8) 245 [Value.ref 128, Value.int a0, Value.int a1] w (.inl (some (Value.long 0))) (((w.set 128 (Sum.inr (12, [Value.ref 129, Value.ref 131, Value.ref 133, Value.ref 135, Value.ref 137, Value.ref 139, Value.ref 141, Value.ref 143, Value.ref 145, Value.ref 147, Value.ref 149, Value.ref 151, Value.ref 153, Value.ref 154, Value.ref 155, Value.ref 156, Value.ref 157, Value.int (-16384), Value.int 16384, Value.int 0, Value.int 0, Value.int 0, Value.ref 158, Value.ref 159, Value.int 0, Value.int 0, Value.int 0, Value.int 0, Value.int 0, Value.int 0, Value.int 0, Value.int 0]))) ++ [Sum.inr (14, [])]).set 128 (Sum.inr (12, [Value.ref 129, Value.ref 131, Value.ref 133, Value.ref 135, Value.ref 137, Value.ref 139, Value.ref 141, Value.ref 143, Value.ref 145, Value.ref 147, Value.ref 149, Value.ref 151, Value.ref 153, Value.ref 154, Value.ref 155, Value.ref 156, Value.ref 157, Value.int (-16384), Value.int 16384, Value.int 0, Value.int 0, Value.int 0, Value.ref 158, Value.ref 159, Value.int 0, Value.int 0, Value.int 0, Value.int 0, Value.int 0, Value.int 0, Value.int 0, Value.int 1]))) := by
  refine xRun.of ?_
  refine i_245_0 (x := 128) rfl ?_
  refine i_245_1 ?_
  refine i_245_2 (fs2 := [Value.ref 129, Value.ref 131, Value.ref 133, Value.ref 135, Value.ref 137, Value.ref 139, Value.ref 141, Value.ref 143, Value.ref 145, Value.ref 147, Value.ref 149, Value.ref 151, Value.ref 153, Value.ref 154, Value.ref 155, Value.ref 156, Value.ref 157, Value.int (-16384), Value.int 16384, Value.int 0, Value.int 0, Value.int 0, Value.ref 158, Value.ref 159, Value.int 0, Value.int 0, Value.int 0, Value.int 0, Value.int 0, Value.int 0, Value.int 0, Value.int 0]) hw0 (Nat.le_of_ble_eq_true rfl) rfl (by decide) ?_
  refine i_245_5 (x := 128) rfl ?_
  refine i_245_6 (x := a0) rfl ?_
  refine i_245_7 (x := a1) rfl ?_
  refine j_245_8 (xgs hw0) (Nat.le_of_ble_eq_true rfl) (p_246_1 e1 e2 e3) (xDone.c xgl rfl rfl ?_)
  refine i_245_12 (lv2 := [(3, Value.ref ((w.set 128 (Sum.inr (12, [Value.ref 129, Value.ref 131, Value.ref 133, Value.ref 135, Value.ref 137, Value.ref 139, Value.ref 141, Value.ref 143, Value.ref 145, Value.ref 147, Value.ref 149, Value.ref 151, Value.ref 153, Value.ref 154, Value.ref 155, Value.ref 156, Value.ref 157, Value.int (-16384), Value.int 16384, Value.int 0, Value.int 0, Value.int 0, Value.ref 158, Value.ref 159, Value.int 0, Value.int 0, Value.int 0, Value.int 0, Value.int 0, Value.int 0, Value.int 0, Value.int 0]))).length)), (0, Value.ref 128), (1, Value.int a0), (2, Value.int a1)]) rfl ?_
  refine i_245_13 (x := 128) rfl ?_
  refine i_245_14 ?_
  refine i_245_15 (fs2 := [Value.ref 129, Value.ref 131, Value.ref 133, Value.ref 135, Value.ref 137, Value.ref 139, Value.ref 141, Value.ref 143, Value.ref 145, Value.ref 147, Value.ref 149, Value.ref 151, Value.ref 153, Value.ref 154, Value.ref 155, Value.ref 156, Value.ref 157, Value.int (-16384), Value.int 16384, Value.int 0, Value.int 0, Value.int 0, Value.ref 158, Value.ref 159, Value.int 0, Value.int 0, Value.int 0, Value.int 0, Value.int 0, Value.int 0, Value.int 0, Value.int 1]) (xga (xgs hw0)) (Nat.le_of_ble_eq_true rfl) rfl (by decide) ?_
  refine i_245_18 ?_
  refine i_245_27 ?_
  exact i_245_28 ⟨rfl, rfl⟩
theorem o_15_1 {d : Nat} {xs : Nat → Int32} (h0 : ((xs 0) &&& (31 : Int32)).toInt = 15) (c0 : 0 ≤ (xs 1).toInt) (c1 : (xs 1).toInt < 16) (c2 : (xs 2).toInt < 0) : ∃ w1, xEv (d + 20) 287 23 [(4, Value.int 0), (3, Value.ref 194), (2, Value.ref 128), (1, Value.ref 7), (0, Value.ref 0)] [] (W0 6 xs) (fun o' w' => o' = .inl (some (Value.int 1)) ∧ w' = w1) ∧ w1.length ≤ 220 ∧ xsz w1 ≤ 200000 := by
  refine ⟨(((((W0 6 xs) ++ [Sum.inr (14, [])]).set 128 (Sum.inr (12, [Value.ref 129, Value.ref 131, Value.ref 133, Value.ref 135, Value.ref 137, Value.ref 139, Value.ref 141, Value.ref 143, Value.ref 145, Value.ref 147, Value.ref 149, Value.ref 151, Value.ref 153, Value.ref 154, Value.ref 155, Value.ref 156, Value.ref 157, Value.int (-16384), Value.int 16384, Value.int 0, Value.int 0, Value.int 0, Value.ref 158, Value.ref 159, Value.int 0, Value.int 0, Value.int 0, Value.int 0, Value.int 0, Value.int 0, Value.int 0, Value.int 0]))) ++ [Sum.inr (14, [])]).set 128 (Sum.inr (12, [Value.ref 129, Value.ref 131, Value.ref 133, Value.ref 135, Value.ref 137, Value.ref 139, Value.ref 141, Value.ref 143, Value.ref 145, Value.ref 147, Value.ref 149, Value.ref 151, Value.ref 153, Value.ref 154, Value.ref 155, Value.ref 156, Value.ref 157, Value.int (-16384), Value.int 16384, Value.int 0, Value.int 0, Value.int 0, Value.ref 158, Value.ref 159, Value.int 0, Value.int 0, Value.int 0, Value.int 0, Value.int 0, Value.int 0, Value.int 0, Value.int 1]))), ?_, (show xLs _ 220 200000 from ?_)⟩
  · refine i_287_23 (x := 0) rfl ?_
    refine i_287_25 (x := 0) rfl ?_
    refine i_287_26 (c := 6) W0_0 (by decide) ?_
    refine i_287_27 ?_
    refine i_287_29 (c := 0) (by decide) ?_
    refine i_287_30 (fun h => absurd h (by decide)) (fun _ => ?_)
    refine i_287_33 (x := 0) rfl ?_
    refine i_287_34 (x := 0) rfl ?_
    refine i_287_36 (v := Value.int (xs 0)) W0_0 (by decide) (by decide) rfl ?_
    refine i_287_37 ?_
    refine i_287_39 (c := ((xs 0) &&& (31 : Int32))) rfl ?_
    refine i_287_40_15 (by omega) ?_
    refine i_287_1473 (x := 7) rfl ?_
    refine i_287_1474 (x := 0) rfl ?_
    refine i_287_1475 (x := 0) rfl ?_
    refine i_287_1477 ?_
    refine i_287_1478 (c := 1) (by decide) ?_
    refine i_287_1479 (v := Value.int (xs 1)) W0_0 (by decide) (by decide) rfl ?_
    refine i_287_1480 (x := 0) rfl ?_
    refine i_287_1481 (x := 0) rfl ?_
    refine i_287_1483 ?_
    refine i_287_1484 (c := 2) (by decide) ?_
    refine i_287_1485 (v := Value.int (xs 2)) W0_0 (by decide) (by decide) rfl ?_
    refine i_287_1486 (x := 194) rfl ?_
    refine i_287_1487 (Nat.le_of_ble_eq_true rfl) (p_125_1 W0_7 (by omega) (by omega) (by omega)) ?_
    refine i_287_1490 (lv2 := [(5, Value.int 1), (4, Value.int 0), (3, Value.ref 194), (2, Value.ref 128), (1, Value.ref 7), (0, Value.ref 0)]) rfl ?_
    refine i_287_1492 (x := 128) rfl ?_
    refine i_287_1493 (x := 0) rfl ?_
    refine i_287_1494 (x := 0) rfl ?_
    refine i_287_1496 ?_
    refine i_287_1497 (c := 1) (by decide) ?_
    refine i_287_1498 (v := Value.int (xs 1)) (xga W0_0) (by decide) (by decide) rfl ?_
    refine i_287_1499 (x := 0) rfl ?_
    refine i_287_1500 (x := 0) rfl ?_
    refine i_287_1502 ?_
    refine i_287_1503 (c := 2) (by decide) ?_
    refine i_287_1504 (v := Value.int (xs 2)) (xga W0_0) (by decide) (by decide) rfl ?_
    refine i_287_1505 (xga W0_128) (Nat.le_of_ble_eq_true rfl) (p_245_1 (xga W0_128) (by omega) (by omega) (by omega)) ?_
    refine i_287_1508 (lv2 := [(6, Value.long 0), (5, Value.int 1), (4, Value.int 0), (3, Value.ref 194), (2, Value.ref 128), (1, Value.ref 7), (0, Value.ref 0)]) rfl ?_
    refine i_287_1510 (x := 128) rfl ?_
    refine i_287_1511 (xgs (xga (xgs (xga W0_128)))) (Nat.le_of_ble_eq_true rfl) (p_165_0 (xgs (xga (xgs (xga W0_128))))) ?_
    refine i_287_1514 (x := 1) rfl ?_
    refine i_287_1516 (fun _ => ?_) (fun h => absurd h (by decide))
    refine i_287_1521 (x := 1) rfl ?_
    refine i_287_1523 (fun _ => ?_) (fun h => absurd h (by decide))
    refine i_287_1537 ?_
    refine i_287_2154 (x := 0) (c := 6) (lv2 := [(4, Value.int 6), (6, Value.long 0), (5, Value.int 1), (3, Value.ref 194), (2, Value.ref 128), (1, Value.ref 7), (0, Value.ref 0)]) rfl (by decide) rfl ?_
    refine i_287_2157 ?_
    refine i_287_23 (x := 6) rfl ?_
    refine i_287_25 (x := 0) rfl ?_
    refine i_287_26 (c := 6) (xgn (by decide) (xga (xgn (by decide) (xga W0_0)))) (by decide) ?_
    refine i_287_27 ?_
    refine i_287_29 (c := 0) (by decide) ?_
    refine i_287_30 (fun _ => ?_) (fun h => absurd h (by decide))
    refine i_287_2160 ?_
    exact i_287_2161 rfl ⟨rfl, rfl⟩
  · refine xLs.set ?_ (xga (xgs (xga W0_128))) xcs_o
    refine xLs.app (n := 219) (z := 199994) (m := 6) ?_ rfl
    refine xLs.set ?_ (xga W0_128) xcs_o
    refine xLs.app (n := 218) (z := 199988) (m := 6) ?_ rfl
    exact ⟨Nat.le_trans (Nat.le_of_eq W0_len) (by decide), Nat.le_trans (Nat.le_of_eq W0_sz) (by decide)⟩
theorem p_126_2 {d : Nat} {w : xW} {a0 : Int32} {a1 : Int32} (e0 : 0 ≤ a0.toInt) (e1 : a0.toInt < 16) (e2 : 0 ≤ a1.toInt) (e3 : 127 < a1.toInt) : xRun (d + 6) 126 [Value.ref 7, Value.int a0, Value.int a1] w (.inr w.length) (w ++ [Sum.inr (14, [])]) := by
  refine xRun.of ?_
  refine i_126_0 (x := a0) rfl ?_
  refine i_126_1 (Nat.le_of_ble_eq_true rfl) (p_15_1 e0 e1) ?_
  refine i_126_4 (fun h => absurd h (by decide)) (fun _ => ?_)
  refine i_126_7 (x := a1) rfl ?_
  refine i_126_8 (fun h => absurd e2 (Int.not_le.mpr h)) (fun _ => ?_)
  refine i_126_11 (x := a1) rfl ?_
  refine i_126_12 ?_
  refine i_126_14 (fun h => absurd e3 (Int.not_lt.mpr h)) (fun _ => ?_)
  exact i_126_17 (by omega) (Nat.le_of_ble_eq_true rfl) ⟨rfl, rfl⟩
theorem p_125_2 {d : Nat} {w : xW} {a0 : Int32} {a1 : Int32} (hw0 : w[7]? = some (Sum.inr (0, [Value.ref 8, Value.ref 78, Value.ref 9, Value.ref 10, Value.ref 13, Value.ref 16, Value.ref 19, Value.ref 93, Value.ref 108, Value.ref 113, Value.ref 29, Value.int 0]))) (e1 : 0 ≤ a0.toInt) (e2 : a0.toInt < 16) (e3 : 0 ≤ a1.toInt) (e4 : 127 < a1.toInt) : xRun (d + 7) 125 [Value.ref 7, Value.int a0, Value.int a1, Value.ref 194] w (.inl (some (Value.int 1))) (w ++ [Sum.inr (14, [])]) := by
  refine xRun.of ?_
  refine i_125_0 (x := 194) rfl ?_
  refine i_125_1 ?_
  refine i_125_2 (x := 7) rfl ?_
  refine i_125_3 (x := a0) rfl ?_
  refine i_125_4 (x := a1) rfl ?_
  refine j_125_5 hw0 (Nat.le_of_ble_eq_true rfl) (p_126_2 e1 e2 e3 e4) (xDone.c xgl rfl rfl ?_)
  refine i_125_12 (lv2 := [(4, Value.ref w.length), (0, Value.ref 7), (1, Value.int a0), (2, Value.int a1), (3, Value.ref 194)]) rfl ?_
  refine i_125_14 ?_
  exact i_125_15 ⟨rfl, rfl⟩
theorem p_169_28 {d : Nat} {w : xW} {a0 : Int32} (e0 : 0 ≤ a0.toInt) (e1 : 127 < a0.toInt) : xRun d 169 [Value.int a0, Value.int 0, Value.int 127] w (.inl (some (Value.int 0))) w := by
  refine xRun.of ?_
  refine i_169_0 (x := a0) rfl ?_
  refine i_169_1 (x := 0) rfl ?_
  refine i_169_2 (fun h => absurd e0 (Int.not_le.mpr h)) (fun _ => ?_)
  refine i_169_5 (x := a0) rfl ?_
  refine i_169_6 (x := 127) rfl ?_
  refine i_169_7 (fun _ => ?_) (fun h => absurd e1 (Int.not_lt.mpr h))
  refine i_169_14 ?_
  exact i_169_15 rfl ⟨rfl, rfl⟩
theorem p_246_2 {d : Nat} {w : xW} {a0 : Int32} {a1 : Int32} (e0 : 0 ≤ a0.toInt) (e1 : a0.toInt ≤ 15) (e2 : 0 ≤ a1.toInt) (e3 : 127 < a1.toInt) : xRun (d + 7) 246 [Value.ref 128, Value.int a0, Value.int a1] w (.inr w.length) (w ++ [Sum.inr (14, [])]) := by
  refine xRun.of ?_
  refine i_246_0 (x := a0) rfl ?_
  refine i_246_1 (Nat.le_of_ble_eq_true rfl) (p_168_1 e0 e1) ?_
  refine i_246_4 (x := a1) rfl ?_
  refine i_246_5 ?_
  refine i_246_6 ?_
  refine i_246_8 (Nat.le_of_ble_eq_true rfl) (p_169_28 e2 e3) ?_
  exact j_246_11 (Nat.le_of_ble_eq_true rfl) (p_170_0) (xDone.t xgl rfl rfl ⟨rfl, rfl⟩)
theorem p_245_2 {d : Nat} {w : xW} {a0 : Int32} {a1 : Int32} (hw0 : w[128]? = some (Sum.inr (12, [Value.ref 129, Value.ref 131, Value.ref 133, Value.ref 135, Value.ref 137, Value.ref 139, Value.ref 141, Value.ref 143, Value.ref 145, Value.ref 147, Value.ref 149, Value.ref 151, Value.ref 153, Value.ref 154, Value.ref 155, Value.ref 156, Value.ref 157, Value.int (-16384), Value.int 16384, Value.int 0, Value.int 0, Value.int 0, Value.ref 158, Value.ref 159, Value.int 0, Value.int 0, Value.int 0, Value.int 0, Value.int 0, Value.int 0, Value.int 0, Value.int 0]))) (e1 : 0 ≤ a0.toInt) (e2 : a0.toInt ≤ 15) (e3 : 0 ≤ a1.toInt) (e4 : 127 < a1.toInt) : xRun (d + 8) 245 [Value.ref 128, Value.int a0, Value.int a1] w (.inl (some (Value.long 0))) (((w.set 128 (Sum.inr (12, [Value.ref 129, Value.ref 131, Value.ref 133, Value.ref 135, Value.ref 137, Value.ref 139, Value.ref 141, Value.ref 143, Value.ref 145, Value.ref 147, Value.ref 149, Value.ref 151, Value.ref 153, Value.ref 154, Value.ref 155, Value.ref 156, Value.ref 157, Value.int (-16384), Value.int 16384, Value.int 0, Value.int 0, Value.int 0, Value.ref 158, Value.ref 159, Value.int 0, Value.int 0, Value.int 0, Value.int 0, Value.int 0, Value.int 0, Value.int 0, Value.int 0]))) ++ [Sum.inr (14, [])]).set 128 (Sum.inr (12, [Value.ref 129, Value.ref 131, Value.ref 133, Value.ref 135, Value.ref 137, Value.ref 139, Value.ref 141, Value.ref 143, Value.ref 145, Value.ref 147, Value.ref 149, Value.ref 151, Value.ref 153, Value.ref 154, Value.ref 155, Value.ref 156, Value.ref 157, Value.int (-16384), Value.int 16384, Value.int 0, Value.int 0, Value.int 0, Value.ref 158, Value.ref 159, Value.int 0, Value.int 0, Value.int 0, Value.int 0, Value.int 0, Value.int 0, Value.int 0, Value.int 1]))) := by
  refine xRun.of ?_
  refine i_245_0 (x := 128) rfl ?_
  refine i_245_1 ?_
  refine i_245_2 (fs2 := [Value.ref 129, Value.ref 131, Value.ref 133, Value.ref 135, Value.ref 137, Value.ref 139, Value.ref 141, Value.ref 143, Value.ref 145, Value.ref 147, Value.ref 149, Value.ref 151, Value.ref 153, Value.ref 154, Value.ref 155, Value.ref 156, Value.ref 157, Value.int (-16384), Value.int 16384, Value.int 0, Value.int 0, Value.int 0, Value.ref 158, Value.ref 159, Value.int 0, Value.int 0, Value.int 0, Value.int 0, Value.int 0, Value.int 0, Value.int 0, Value.int 0]) hw0 (Nat.le_of_ble_eq_true rfl) rfl (by decide) ?_
  refine i_245_5 (x := 128) rfl ?_
  refine i_245_6 (x := a0) rfl ?_
  refine i_245_7 (x := a1) rfl ?_
  refine j_245_8 (xgs hw0) (Nat.le_of_ble_eq_true rfl) (p_246_2 e1 e2 e3 e4) (xDone.c xgl rfl rfl ?_)
  refine i_245_12 (lv2 := [(3, Value.ref ((w.set 128 (Sum.inr (12, [Value.ref 129, Value.ref 131, Value.ref 133, Value.ref 135, Value.ref 137, Value.ref 139, Value.ref 141, Value.ref 143, Value.ref 145, Value.ref 147, Value.ref 149, Value.ref 151, Value.ref 153, Value.ref 154, Value.ref 155, Value.ref 156, Value.ref 157, Value.int (-16384), Value.int 16384, Value.int 0, Value.int 0, Value.int 0, Value.ref 158, Value.ref 159, Value.int 0, Value.int 0, Value.int 0, Value.int 0, Value.int 0, Value.int 0, Value.int 0, Value.int 0]))).length)), (0, Value.ref 128), (1, Value.int a0), (2, Value.int a1)]) rfl ?_
  refine i_245_13 (x := 128) rfl ?_
  refine i_245_14 ?_
  refine i_245_15 (fs2 := [Value.ref 129, Value.ref 131, Value.ref 133, Value.ref 135, Value.ref 137, Value.ref 139, Value.ref 141, Value.ref 143, Value.ref 145, Value.ref 147, Value.ref 149, Value.ref 151, Value.ref 153, Value.ref 154, Value.ref 155, Value.ref 156, Value.ref 157, Value.int (-16384), Value.int 16384, Value.int 0, Value.int 0, Value.int 0, Value.ref 158, Value.ref 159, Value.int 0, Value.int 0, Value.int 0, Value.int 0, Value.int 0, Value.int 0, Value.int 0, Value.int 1]) (xga (xgs hw0)) (Nat.le_of_ble_eq_true rfl) rfl (by decide) ?_
  refine i_245_18 ?_
  refine i_245_27 ?_
  exact i_245_28 ⟨rfl, rfl⟩
theorem o_15_2 {d : Nat} {xs : Nat → Int32} (h0 : ((xs 0) &&& (31 : Int32)).toInt = 15) (c0 : 0 ≤ (xs 1).toInt) (c1 : (xs 1).toInt < 16) (c2 : 0 ≤ (xs 2).toInt) (c3 : 127 < (xs 2).toInt) : ∃ w1, xEv (d + 20) 287 23 [(4, Value.int 0), (3, Value.ref 194), (2, Value.ref 128), (1, Value.ref 7), (0, Value.ref 0)] [] (W0 6 xs) (fun o' w' => o' = .inl (some (Value.int 1)) ∧ w' = w1) ∧ w1.length ≤ 220 ∧ xsz w1 ≤ 200000 := by
  refine ⟨(((((W0 6 xs) ++ [Sum.inr (14, [])]).set 128 (Sum.inr (12, [Value.ref 129, Value.ref 131, Value.ref 133, Value.ref 135, Value.ref 137, Value.ref 139, Value.ref 141, Value.ref 143, Value.ref 145, Value.ref 147, Value.ref 149, Value.ref 151, Value.ref 153, Value.ref 154, Value.ref 155, Value.ref 156, Value.ref 157, Value.int (-16384), Value.int 16384, Value.int 0, Value.int 0, Value.int 0, Value.ref 158, Value.ref 159, Value.int 0, Value.int 0, Value.int 0, Value.int 0, Value.int 0, Value.int 0, Value.int 0, Value.int 0]))) ++ [Sum.inr (14, [])]).set 128 (Sum.inr (12, [Value.ref 129, Value.ref 131, Value.ref 133, Value.ref 135, Value.ref 137, Value.ref 139, Value.ref 141, Value.ref 143, Value.ref 145, Value.ref 147, Value.ref 149, Value.ref 151, Value.ref 153, Value.ref 154, Value.ref 155, Value.ref 156, Value.ref 157, Value.int (-16384), Value.int 16384, Value.int 0, Value.int 0, Value.int 0, Value.ref 158, Value.ref 159, Value.int 0, Value.int 0, Value.int 0, Value.int 0, Value.int 0, Value.int 0, Value.int 0, Value.int 1]))), ?_, (show xLs _ 220 200000 from ?_)⟩
  · refine i_287_23 (x := 0) rfl ?_
    refine i_287_25 (x := 0) rfl ?_
    refine i_287_26 (c := 6) W0_0 (by decide) ?_
    refine i_287_27 ?_
    refine i_287_29 (c := 0) (by decide) ?_
    refine i_287_30 (fun h => absurd h (by decide)) (fun _ => ?_)
    refine i_287_33 (x := 0) rfl ?_
    refine i_287_34 (x := 0) rfl ?_
    refine i_287_36 (v := Value.int (xs 0)) W0_0 (by decide) (by decide) rfl ?_
    refine i_287_37 ?_
    refine i_287_39 (c := ((xs 0) &&& (31 : Int32))) rfl ?_
    refine i_287_40_15 (by omega) ?_
    refine i_287_1473 (x := 7) rfl ?_
    refine i_287_1474 (x := 0) rfl ?_
    refine i_287_1475 (x := 0) rfl ?_
    refine i_287_1477 ?_
    refine i_287_1478 (c := 1) (by decide) ?_
    refine i_287_1479 (v := Value.int (xs 1)) W0_0 (by decide) (by decide) rfl ?_
    refine i_287_1480 (x := 0) rfl ?_
    refine i_287_1481 (x := 0) rfl ?_
    refine i_287_1483 ?_
    refine i_287_1484 (c := 2) (by decide) ?_
    refine i_287_1485 (v := Value.int (xs 2)) W0_0 (by decide) (by decide) rfl ?_
    refine i_287_1486 (x := 194) rfl ?_
    refine i_287_1487 (Nat.le_of_ble_eq_true rfl) (p_125_2 W0_7 (by omega) (by omega) (by omega) (by omega)) ?_
    refine i_287_1490 (lv2 := [(5, Value.int 1), (4, Value.int 0), (3, Value.ref 194), (2, Value.ref 128), (1, Value.ref 7), (0, Value.ref 0)]) rfl ?_
    refine i_287_1492 (x := 128) rfl ?_
    refine i_287_1493 (x := 0) rfl ?_
    refine i_287_1494 (x := 0) rfl ?_
    refine i_287_1496 ?_
    refine i_287_1497 (c := 1) (by decide) ?_
    refine i_287_1498 (v := Value.int (xs 1)) (xga W0_0) (by decide) (by decide) rfl ?_
    refine i_287_1499 (x := 0) rfl ?_
    refine i_287_1500 (x := 0) rfl ?_
    refine i_287_1502 ?_
    refine i_287_1503 (c := 2) (by decide) ?_
    refine i_287_1504 (v := Value.int (xs 2)) (xga W0_0) (by decide) (by decide) rfl ?_
    refine i_287_1505 (xga W0_128) (Nat.le_of_ble_eq_true rfl) (p_245_2 (xga W0_128) (by omega) (by omega) (by omega) (by omega)) ?_
    refine i_287_1508 (lv2 := [(6, Value.long 0), (5, Value.int 1), (4, Value.int 0), (3, Value.ref 194), (2, Value.ref 128), (1, Value.ref 7), (0, Value.ref 0)]) rfl ?_
    refine i_287_1510 (x := 128) rfl ?_
    refine i_287_1511 (xgs (xga (xgs (xga W0_128)))) (Nat.le_of_ble_eq_true rfl) (p_165_0 (xgs (xga (xgs (xga W0_128))))) ?_
    refine i_287_1514 (x := 1) rfl ?_
    refine i_287_1516 (fun _ => ?_) (fun h => absurd h (by decide))
    refine i_287_1521 (x := 1) rfl ?_
    refine i_287_1523 (fun _ => ?_) (fun h => absurd h (by decide))
    refine i_287_1537 ?_
    refine i_287_2154 (x := 0) (c := 6) (lv2 := [(4, Value.int 6), (6, Value.long 0), (5, Value.int 1), (3, Value.ref 194), (2, Value.ref 128), (1, Value.ref 7), (0, Value.ref 0)]) rfl (by decide) rfl ?_
    refine i_287_2157 ?_
    refine i_287_23 (x := 6) rfl ?_
    refine i_287_25 (x := 0) rfl ?_
    refine i_287_26 (c := 6) (xgn (by decide) (xga (xgn (by decide) (xga W0_0)))) (by decide) ?_
    refine i_287_27 ?_
    refine i_287_29 (c := 0) (by decide) ?_
    refine i_287_30 (fun _ => ?_) (fun h => absurd h (by decide))
    refine i_287_2160 ?_
    exact i_287_2161 rfl ⟨rfl, rfl⟩
  · refine xLs.set ?_ (xga (xgs (xga W0_128))) xcs_o
    refine xLs.app (n := 219) (z := 199994) (m := 6) ?_ rfl
    refine xLs.set ?_ (xga W0_128) xcs_o
    refine xLs.app (n := 218) (z := 199988) (m := 6) ?_ rfl
    exact ⟨Nat.le_trans (Nat.le_of_eq W0_len) (by decide), Nat.le_trans (Nat.le_of_eq W0_sz) (by decide)⟩
theorem p_126_3 {d : Nat} {w : xW} {a0 : Int32} {a1 : Int32} {g0 : Nat → Value} {h0 : Nat} {h1 : Nat} (e0 : 0 ≤ a0.toInt) (e1 : a0.toInt < 16) (e2 : 0 ≤ a1.toInt) (e3 : a1.toInt ≤ 127) (hw4 : w[7]? = some (Sum.inr (0, [Value.ref 8, Value.ref 78, Value.ref 9, Value.ref 10, Value.ref 13, Value.ref 16, Value.ref 19, Value.ref 93, Value.ref 108, Value.ref 113, Value.ref 29, Value.int 0]))) (hw5 : w[8]? = some (Sum.inl (4, 16, g0))) (hg6 : g0 a0.toInt.toNat = Value.ref h0) (hw7 : w[h0]? = some (Sum.inr (2, [Value.int 64, Value.int 0, Value.int 0, Value.int 0, Value.ref h1]))) : xRun (d + 6) 126 [Value.ref 7, Value.int a0, Value.int a1] w (.inr w.length) (w ++ [Sum.inr (16, [])]) := by
  refine xRun.of ?_
  refine i_126_0 (x := a0) rfl ?_
  refine i_126_1 (Nat.le_of_ble_eq_true rfl) (p_15_1 e0 e1) ?_
  refine i_126_4 (fun h => absurd h (by decide)) (fun _ => ?_)
  refine i_126_7 (x := a1) rfl ?_
  refine i_126_8 (fun h => absurd e2 (Int.not_le.mpr h)) (fun _ => ?_)
  refine i_126_11 (x := a1) rfl ?_
  refine i_126_12 ?_
  refine i_126_14 (fun _ => ?_) (fun h => absurd e3 (Int.not_le.mpr h))
  refine i_126_25 (x := 7) rfl ?_
  refine i_126_26 (v := Value.ref 8) hw4 rfl ?_
  refine i_126_29 (x := a0) rfl ?_
  refine i_126_30 (v := Value.ref h0) hw5 e0 e1 hg6 ?_
  refine i_126_31 (v := Value.int 0) hw7 rfl ?_
  refine i_126_34 ?_
  refine i_126_35 (fun h => absurd h (by decide)) (fun _ => ?_)
  exact i_126_38 (by omega) (Nat.le_of_ble_eq_true rfl) ⟨rfl, rfl⟩
theorem p_125_3 {d : Nat} {w : xW} {a0 : Int32} {a1 : Int32} {g0 : Nat → Value} {h0 : Nat} {h1 : Nat} (hw0 : w[7]? = some (Sum.inr (0, [Value.ref 8, Value.ref 78, Value.ref 9, Value.ref 10, Value.ref 13, Value.ref 16, Value.ref 19, Value.ref 93, Value.ref 108, Value.ref 113, Value.ref 29, Value.int 0]))) (e1 : 0 ≤ a0.toInt) (e2 : a0.toInt < 16) (e3 : 0 ≤ a1.toInt) (e4 : a1.toInt ≤ 127) (hw5 : w[8]? = some (Sum.inl (4, 16, g0))) (hg6 : g0 a0.toInt.toNat = Value.ref h0) (hw7 : w[h0]? = some (Sum.inr (2, [Value.int 64, Value.int 0, Value.int 0, Value.int 0, Value.ref h1]))) : xRun (d + 7) 125 [Value.ref 7, Value.int a0, Value.int a1, Value.ref 194] w (.inl (some (Value.int 2))) (w ++ [Sum.inr (16, [])]) := by
  refine xRun.of ?_
  refine i_125_0 (x := 194) rfl ?_
  refine i_125_1 ?_
  refine i_125_2 (x := 7) rfl ?_
  refine i_125_3 (x := a0) rfl ?_
  refine i_125_4 (x := a1) rfl ?_
  refine j_125_5 hw0 (Nat.le_of_ble_eq_true rfl) (p_126_3 e1 e2 e3 e4 hw0 hw5 hg6 hw7) (xDone.c xgl rfl rfl ?_)
  refine i_125_16 (lv2 := [(4, Value.ref w.length), (0, Value.ref 7), (1, Value.int a0), (2, Value.int a1), (3, Value.ref 194)]) rfl ?_
  refine i_125_18 ?_
  exact i_125_19 ⟨rfl, rfl⟩
theorem p_169_29 {d : Nat} {w : xW} {a0 : Int32} (e0 : 0 ≤ a0.toInt) (e1 : a0.toInt ≤ 127) : xRun d 169 [Value.int a0, Value.int 0, Value.int 127] w (.inl (some (Value.int 1))) w := by
  refine xRun.of ?_
  refine i_169_0 (x := a0) rfl ?_
  refine i_169_1 (x := 0) rfl ?_
  refine i_169_2 (fun h => absurd e0 (Int.not_le.mpr h)) (fun _ => ?_)
  refine i_169_5 (x := a0) rfl ?_
  refine i_169_6 (x := 127) rfl ?_
  refine i_169_7 (fun h => absurd e1 (Int.not_le.mpr h)) (fun _ => ?_)
  refine i_169_10 ?_
  refine i_169_11 ?_
  exact i_169_15 rfl ⟨rfl, rfl⟩
theorem p_246_3 {d : Nat} {w : xW} {a0 : Int32} {a1 : Int32} (e0 : 0 ≤ a0.toInt) (e1 : a0.toInt ≤ 15) (e2 : 0 ≤ a1.toInt) (e3 : a1.toInt ≤ 127) (hw4 : w[128]? = some (Sum.inr (12, [Value.ref 129, Value.ref 131, Value.ref 133, Value.ref 135, Value.ref 137, Value.ref 139, Value.ref 141, Value.ref 143, Value.ref 145, Value.ref 147, Value.ref 149, Value.ref 151, Value.ref 153, Value.ref 154, Value.ref 155, Value.ref 156, Value.ref 157, Value.int (-16384), Value.int 16384, Value.int 0, Value.int 0, Value.int 0, Value.ref 158, Value.ref 159, Value.int 0, Value.int 0, Value.int 0, Value.int 0, Value.int 0, Value.int 0, Value.int 0, Value.int 0]))) (hw5 : w[154]? = some (Sum.inl (0, 17, fun _ => Value.int 0))) (e6 : a0.toInt < 17) : xRun (d + 7) 246 [Value.ref 128, Value.int a0, Value.int a1] w (.inr w.length) (w ++ [Sum.inr (16, [])]) := by
  refine xRun.of ?_
  refine i_246_0 (x := a0) rfl ?_
  refine i_246_1 (Nat.le_of_ble_eq_true rfl) (p_168_1 e0 e1) ?_
  refine i_246_4 (x := a1) rfl ?_
  refine i_246_5 ?_
  refine i_246_6 ?_
  refine i_246_8 (Nat.le_of_ble_eq_true rfl) (p_169_29 e2 e3) ?_
  refine i_246_11 (Nat.le_of_ble_eq_true rfl) (p_170_1) ?_
  refine i_246_14 (x := 128) rfl ?_
  refine i_246_15 (v := Value.ref 154) hw4 rfl ?_
  refine i_246_18 (x := a0) rfl ?_
  refine i_246_19 (v := Value.int 0) hw5 e0 e6 rfl ?_
  refine i_246_20 ?_
  refine i_246_21 (fun _ => ?_) (fun h => absurd h (by decide))
  refine i_246_28 ?_
  exact j_246_29 (Nat.le_of_ble_eq_true rfl) (p_244_0) (xDone.t xgl rfl rfl ⟨rfl, rfl⟩)
theorem p_245_3 {d : Nat} {w : xW} {a0 : Int32} {a1 : Int32} (hw0 : w[128]? = some (Sum.inr (12, [Value.ref 129, Value.ref 131, Value.ref 133, Value.ref 135, Value.ref 137, Value.ref 139, Value.ref 141, Value.ref 143, Value.ref 145, Value.ref 147, Value.ref 149, Value.ref 151, Value.ref 153, Value.ref 154, Value.ref 155, Value.ref 156, Value.ref 157, Value.int (-16384), Value.int 16384, Value.int 0, Value.int 0, Value.int 0, Value.ref 158, Value.ref 159, Value.int 0, Value.int 0, Value.int 0, Value.int 0, Value.int 0, Value.int 0, Value.int 0, Value.int 0]))) (e1 : 0 ≤ a0.toInt) (e2 : a0.toInt ≤ 15) (e3 : 0 ≤ a1.toInt) (e4 : a1.toInt ≤ 127) (hw5 : w[154]? = some (Sum.inl (0, 17, fun _ => Value.int 0))) (e6 : a0.toInt < 17) : xRun (d + 8) 245 [Value.ref 128, Value.int a0, Value.int a1] w (.inl (some (Value.long 0))) (((w.set 128 (Sum.inr (12, [Value.ref 129, Value.ref 131, Value.ref 133, Value.ref 135, Value.ref 137, Value.ref 139, Value.ref 141, Value.ref 143, Value.ref 145, Value.ref 147, Value.ref 149, Value.ref 151, Value.ref 153, Value.ref 154, Value.ref 155, Value.ref 156, Value.ref 157, Value.int (-16384), Value.int 16384, Value.int 0, Value.int 0, Value.int 0, Value.ref 158, Value.ref 159, Value.int 0, Value.int 0, Value.int 0, Value.int 0, Value.int 0, Value.int 0, Value.int 0, Value.int 0]))) ++ [Sum.inr (16, [])]).set 128 (Sum.inr (12, [Value.ref 129, Value.ref 131, Value.ref 133, Value.ref 135, Value.ref 137, Value.ref 139, Value.ref 141, Value.ref 143, Value.ref 145, Value.ref 147, Value.ref 149, Value.ref 151, Value.ref 153, Value.ref 154, Value.ref 155, Value.ref 156, Value.ref 157, Value.int (-16384), Value.int 16384, Value.int 0, Value.int 0, Value.int 0, Value.ref 158, Value.ref 159, Value.int 0, Value.int 0, Value.int 0, Value.int 0, Value.int 0, Value.int 0, Value.int 0, Value.int 2]))) := by
  refine xRun.of ?_
  refine i_245_0 (x := 128) rfl ?_
  refine i_245_1 ?_
  refine i_245_2 (fs2 := [Value.ref 129, Value.ref 131, Value.ref 133, Value.ref 135, Value.ref 137, Value.ref 139, Value.ref 141, Value.ref 143, Value.ref 145, Value.ref 147, Value.ref 149, Value.ref 151, Value.ref 153, Value.ref 154, Value.ref 155, Value.ref 156, Value.ref 157, Value.int (-16384), Value.int 16384, Value.int 0, Value.int 0, Value.int 0, Value.ref 158, Value.ref 159, Value.int 0, Value.int 0, Value.int 0, Value.int 0, Value.int 0, Value.int 0, Value.int 0, Value.int 0]) hw0 (Nat.le_of_ble_eq_true rfl) rfl (by decide) ?_
  refine i_245_5 (x := 128) rfl ?_
  refine i_245_6 (x := a0) rfl ?_
  refine i_245_7 (x := a1) rfl ?_
  refine j_245_8 (xgs hw0) (Nat.le_of_ble_eq_true rfl) (p_246_3 e1 e2 e3 e4 (xgs hw0) (xgn (by decide) hw5) e6) (xDone.c xgl rfl rfl ?_)
  refine i_245_21 (lv2 := [(3, Value.ref ((w.set 128 (Sum.inr (12, [Value.ref 129, Value.ref 131, Value.ref 133, Value.ref 135, Value.ref 137, Value.ref 139, Value.ref 141, Value.ref 143, Value.ref 145, Value.ref 147, Value.ref 149, Value.ref 151, Value.ref 153, Value.ref 154, Value.ref 155, Value.ref 156, Value.ref 157, Value.int (-16384), Value.int 16384, Value.int 0, Value.int 0, Value.int 0, Value.ref 158, Value.ref 159, Value.int 0, Value.int 0, Value.int 0, Value.int 0, Value.int 0, Value.int 0, Value.int 0, Value.int 0]))).length)), (0, Value.ref 128), (1, Value.int a0), (2, Value.int a1)]) rfl ?_
  refine i_245_22 (x := 128) rfl ?_
  refine i_245_23 ?_
  refine i_245_24 (fs2 := [Value.ref 129, Value.ref 131, Value.ref 133, Value.ref 135, Value.ref 137, Value.ref 139, Value.ref 141, Value.ref 143, Value.ref 145, Value.ref 147, Value.ref 149, Value.ref 151, Value.ref 153, Value.ref 154, Value.ref 155, Value.ref 156, Value.ref 157, Value.int (-16384), Value.int 16384, Value.int 0, Value.int 0, Value.int 0, Value.ref 158, Value.ref 159, Value.int 0, Value.int 0, Value.int 0, Value.int 0, Value.int 0, Value.int 0, Value.int 0, Value.int 2]) (xga (xgs hw0)) (Nat.le_of_ble_eq_true rfl) rfl (by decide) ?_
  refine i_245_27 ?_
  exact i_245_28 ⟨rfl, rfl⟩
theorem o_15_3 {d : Nat} {xs : Nat → Int32} (h0 : ((xs 0) &&& (31 : Int32)).toInt = 15) (c0 : 0 ≤ (xs 1).toInt) (c1 : (xs 1).toInt < 16) (c2 : 0 ≤ (xs 2).toInt) (c3 : (xs 2).toInt ≤ 127) : ∃ w1, xEv (d + 20) 287 23 [(4, Value.int 0), (3, Value.ref 194), (2, Value.ref 128), (1, Value.ref 7), (0, Value.ref 0)] [] (W0 6 xs) (fun o' w' => o' = .inl (some (Value.int 1)) ∧ w' = w1) ∧ w1.length ≤ 220 ∧ xsz w1 ≤ 200000 := by
  refine ⟨(((((W0 6 xs) ++ [Sum.inr (16, [])]).set 128 (Sum.inr (12, [Value.ref 129, Value.ref 131, Value.ref 133, Value.ref 135, Value.ref 137, Value.ref 139, Value.ref 141, Value.ref 143, Value.ref 145, Value.ref 147, Value.ref 149, Value.ref 151, Value.ref 153, Value.ref 154, Value.ref 155, Value.ref 156, Value.ref 157, Value.int (-16384), Value.int 16384, Value.int 0, Value.int 0, Value.int 0, Value.ref 158, Value.ref 159, Value.int 0, Value.int 0, Value.int 0, Value.int 0, Value.int 0, Value.int 0, Value.int 0, Value.int 0]))) ++ [Sum.inr (16, [])]).set 128 (Sum.inr (12, [Value.ref 129, Value.ref 131, Value.ref 133, Value.ref 135, Value.ref 137, Value.ref 139, Value.ref 141, Value.ref 143, Value.ref 145, Value.ref 147, Value.ref 149, Value.ref 151, Value.ref 153, Value.ref 154, Value.ref 155, Value.ref 156, Value.ref 157, Value.int (-16384), Value.int 16384, Value.int 0, Value.int 0, Value.int 0, Value.ref 158, Value.ref 159, Value.int 0, Value.int 0, Value.int 0, Value.int 0, Value.int 0, Value.int 0, Value.int 0, Value.int 2]))), ?_, (show xLs _ 220 200000 from ?_)⟩
  · refine i_287_23 (x := 0) rfl ?_
    refine i_287_25 (x := 0) rfl ?_
    refine i_287_26 (c := 6) W0_0 (by decide) ?_
    refine i_287_27 ?_
    refine i_287_29 (c := 0) (by decide) ?_
    refine i_287_30 (fun h => absurd h (by decide)) (fun _ => ?_)
    refine i_287_33 (x := 0) rfl ?_
    refine i_287_34 (x := 0) rfl ?_
    refine i_287_36 (v := Value.int (xs 0)) W0_0 (by decide) (by decide) rfl ?_
    refine i_287_37 ?_
    refine i_287_39 (c := ((xs 0) &&& (31 : Int32))) rfl ?_
    refine i_287_40_15 (by omega) ?_
    refine i_287_1473 (x := 7) rfl ?_
    refine i_287_1474 (x := 0) rfl ?_
    refine i_287_1475 (x := 0) rfl ?_
    refine i_287_1477 ?_
    refine i_287_1478 (c := 1) (by decide) ?_
    refine i_287_1479 (v := Value.int (xs 1)) W0_0 (by decide) (by decide) rfl ?_
    refine i_287_1480 (x := 0) rfl ?_
    refine i_287_1481 (x := 0) rfl ?_
    refine i_287_1483 ?_
    refine i_287_1484 (c := 2) (by decide) ?_
    refine i_287_1485 (v := Value.int (xs 2)) W0_0 (by decide) (by decide) rfl ?_
    refine i_287_1486 (x := 194) rfl ?_
    refine i_287_1487 (Nat.le_of_ble_eq_true rfl) (p_125_3 W0_7 (by omega) (by omega) (by omega) (by omega) W0_8 (greg_at (by omega)) (W0_reg (by omega))) ?_
    refine i_287_1490 (lv2 := [(5, Value.int 2), (4, Value.int 0), (3, Value.ref 194), (2, Value.ref 128), (1, Value.ref 7), (0, Value.ref 0)]) rfl ?_
    refine i_287_1492 (x := 128) rfl ?_
    refine i_287_1493 (x := 0) rfl ?_
    refine i_287_1494 (x := 0) rfl ?_
    refine i_287_1496 ?_
    refine i_287_1497 (c := 1) (by decide) ?_
    refine i_287_1498 (v := Value.int (xs 1)) (xga W0_0) (by decide) (by decide) rfl ?_
    refine i_287_1499 (x := 0) rfl ?_
    refine i_287_1500 (x := 0) rfl ?_
    refine i_287_1502 ?_
    refine i_287_1503 (c := 2) (by decide) ?_
    refine i_287_1504 (v := Value.int (xs 2)) (xga W0_0) (by decide) (by decide) rfl ?_
    refine i_287_1505 (xga W0_128) (Nat.le_of_ble_eq_true rfl) (p_245_3 (xga W0_128) (by omega) (by omega) (by omega) (by omega) (xga W0_154) (by omega)) ?_
    refine i_287_1508 (lv2 := [(6, Value.long 0), (5, Value.int 2), (4, Value.int 0), (3, Value.ref 194), (2, Value.ref 128), (1, Value.ref 7), (0, Value.ref 0)]) rfl ?_
    refine i_287_1510 (x := 128) rfl ?_
    refine i_287_1511 (xgs (xga (xgs (xga W0_128)))) (Nat.le_of_ble_eq_true rfl) (p_165_5 (xgs (xga (xgs (xga W0_128))))) ?_
    refine i_287_1514 (x := 2) rfl ?_
    refine i_287_1516 (fun _ => ?_) (fun h => absurd h (by decide))
    refine i_287_1521 (x := 2) rfl ?_
    refine i_287_1523 (fun _ => ?_) (fun h => absurd h (by decide))
    refine i_287_1537 ?_
    refine i_287_2154 (x := 0) (c := 6) (lv2 := [(4, Value.int 6), (6, Value.long 0), (5, Value.int 2), (3, Value.ref 194), (2, Value.ref 128), (1, Value.ref 7), (0, Value.ref 0)]) rfl (by decide) rfl ?_
    refine i_287_2157 ?_
    refine i_287_23 (x := 6) rfl ?_
    refine i_287_25 (x := 0) rfl ?_
    refine i_287_26 (c := 6) (xgn (by decide) (xga (xgn (by decide) (xga W0_0)))) (by decide) ?_
    refine i_287_27 ?_
    refine i_287_29 (c := 0) (by decide) ?_
    refine i_287_30 (fun _ => ?_) (fun h => absurd h (by decide))
    refine i_287_2160 ?_
    exact i_287_2161 rfl ⟨rfl, rfl⟩
  · refine xLs.set ?_ (xga (xgs (xga W0_128))) xcs_o
    refine xLs.app (n := 219) (z := 199994) (m := 6) ?_ rfl
    refine xLs.set ?_ (xga W0_128) xcs_o
    refine xLs.app (n := 218) (z := 199988) (m := 6) ?_ rfl
    exact ⟨Nat.le_trans (Nat.le_of_eq W0_len) (by decide), Nat.le_trans (Nat.le_of_eq W0_sz) (by decide)⟩
theorem p_126_4 {d : Nat} {w : xW} {a0 : Int32} {a1 : Int32} (e0 : 0 ≤ a0.toInt) (e1 : 16 ≤ a0.toInt) : xRun (d + 6) 126 [Value.ref 7, Value.int a0, Value.int a1] w (.inr w.length) (w ++ [Sum.inr (14, [])]) := by
  refine xRun.of ?_
  refine i_126_0 (x := a0) rfl ?_
  refine i_126_1 (Nat.le_of_ble_eq_true rfl) (p_15_2 e0 e1) ?_
  refine i_126_4 (fun _ => ?_) (fun h => absurd h (by decide))
  exact i_126_17 (by omega) (Nat.le_of_ble_eq_true rfl) ⟨rfl, rfl⟩
theorem p_125_4 {d : Nat} {w : xW} {a0 : Int32} {a1 : Int32} (hw0 : w[7]? = some (Sum.inr (0, [Value.ref 8, Value.ref 78, Value.ref 9, Value.ref 10, Value.ref 13, Value.ref 16, Value.ref 19, Value.ref 93, Value.ref 108, Value.ref 113, Value.ref 29, Value.int 0]))) (e1 : 0 ≤ a0.toInt) (e2 : 16 ≤ a0.toInt) : xRun (d + 7) 125 [Value.ref 7, Value.int a0, Value.int a1, Value.ref 194] w (.inl (some (Value.int 1))) (w ++ [Sum.inr (14, [])]) := by
  refine xRun.of ?_
  refine i_125_0 (x := 194) rfl ?_
  refine i_125_1 ?_
  refine i_125_2 (x := 7) rfl ?_
  refine i_125_3 (x := a0) rfl ?_
  refine i_125_4 (x := a1) rfl ?_
  refine j_125_5 hw0 (Nat.le_of_ble_eq_true rfl) (p_126_4 e1 e2) (xDone.c xgl rfl rfl ?_)
  refine i_125_12 (lv2 := [(4, Value.ref w.length), (0, Value.ref 7), (1, Value.int a0), (2, Value.int a1), (3, Value.ref 194)]) rfl ?_
  refine i_125_14 ?_
  exact i_125_15 ⟨rfl, rfl⟩
theorem p_246_4 {d : Nat} {w : xW} {a0 : Int32} {a1 : Int32} (e0 : 0 ≤ a0.toInt) (e1 : 15 < a0.toInt) : xRun (d + 8) 246 [Value.ref 128, Value.int a0, Value.int a1] w (.inr w.length) (w ++ [Sum.inr (14, [])]) := by
  refine xRun.of ?_
  refine i_246_0 (x := a0) rfl ?_
  exact j_246_1 (Nat.le_of_ble_eq_true rfl) (p_168_2 e0 e1) (xDone.t xgl rfl rfl ⟨rfl, rfl⟩)
theorem p_245_4 {d : Nat} {w : xW} {a0 : Int32} {a1 : Int32} (hw0 : w[128]? = some (Sum.inr (12, [Value.ref 129, Value.ref 131, Value.ref 133, Value.ref 135, Value.ref 137, Value.ref 139, Value.ref 141, Value.ref 143, Value.ref 145, Value.ref 147, Value.ref 149, Value.ref 151, Value.ref 153, Value.ref 154, Value.ref 155, Value.ref 156, Value.ref 157, Value.int (-16384), Value.int 16384, Value.int 0, Value.int 0, Value.int 0, Value.ref 158, Value.ref 159, Value.int 0, Value.int 0, Value.int 0, Value.int 0, Value.int 0, Value.int 0, Value.int 0, Value.int 0]))) (e1 : 0 ≤ a0.toInt) (e2 : 15 < a0.toInt) : xRun (d + 9) 245 [Value.ref 128, Value.int a0, Value.int a1] w (.inl (some (Value.long 0))) (((w.set 128 (Sum.inr (12, [Value.ref 129, Value.ref 131, Value.ref 133, Value.ref 135, Value.ref 137, Value.ref 139, Value.ref 141, Value.ref 143, Value.ref 145, Value.ref 147, Value.ref 149, Value.ref 151, Value.ref 153, Value.ref 154, Value.ref 155, Value.ref 156, Value.ref 157, Value.int (-16384), Value.int 16384, Value.int 0, Value.int 0, Value.int 0, Value.ref 158, Value.ref 159, Value.int 0, Value.int 0, Value.int 0, Value.int 0, Value.int 0, Value.int 0, Value.int 0, Value.int 0]))) ++ [Sum.inr (14, [])]).set 128 (Sum.inr (12, [Value.ref 129, Value.ref 131, Value.ref 133, Value.ref 135, Value.ref 137, Value.ref 139, Value.ref 141, Value.ref 143, Value.ref 145, Value.ref 147, Value.ref 149, Value.ref 151, Value.ref 153, Value.ref 154, Value.ref 155, Value.ref 156, Value.ref 157, Value.int (-16384), Value.int 16384, Value.int 0, Value.int 0, Value.int 0, Value.ref 158, Value.ref 159, Value.int 0, Value.int 0, Value.int 0, Value.int 0, Value.int 0, Value.int 0, Value.int 0, Value.int 1]))) := by
  refine xRun.of ?_
  refine i_245_0 (x := 128) rfl ?_
  refine i_245_1 ?_
  refine i_245_2 (fs2 := [Value.ref 129, Value.ref 131, Value.ref 133, Value.ref 135, Value.ref 137, Value.ref 139, Value.ref 141, Value.ref 143, Value.ref 145, Value.ref 147, Value.ref 149, Value.ref 151, Value.ref 153, Value.ref 154, Value.ref 155, Value.ref 156, Value.ref 157, Value.int (-16384), Value.int 16384, Value.int 0, Value.int 0, Value.int 0, Value.ref 158, Value.ref 159, Value.int 0, Value.int 0, Value.int 0, Value.int 0, Value.int 0, Value.int 0, Value.int 0, Value.int 0]) hw0 (Nat.le_of_ble_eq_true rfl) rfl (by decide) ?_
  refine i_245_5 (x := 128) rfl ?_
  refine i_245_6 (x := a0) rfl ?_
  refine i_245_7 (x := a1) rfl ?_
  refine j_245_8 (xgs hw0) (Nat.le_of_ble_eq_true rfl) (p_246_4 e1 e2) (xDone.c xgl rfl rfl ?_)
  refine i_245_12 (lv2 := [(3, Value.ref ((w.set 128 (Sum.inr (12, [Value.ref 129, Value.ref 131, Value.ref 133, Value.ref 135, Value.ref 137, Value.ref 139, Value.ref 141, Value.ref 143, Value.ref 145, Value.ref 147, Value.ref 149, Value.ref 151, Value.ref 153, Value.ref 154, Value.ref 155, Value.ref 156, Value.ref 157, Value.int (-16384), Value.int 16384, Value.int 0, Value.int 0, Value.int 0, Value.ref 158, Value.ref 159, Value.int 0, Value.int 0, Value.int 0, Value.int 0, Value.int 0, Value.int 0, Value.int 0, Value.int 0]))).length)), (0, Value.ref 128), (1, Value.int a0), (2, Value.int a1)]) rfl ?_
  refine i_245_13 (x := 128) rfl ?_
  refine i_245_14 ?_
  refine i_245_15 (fs2 := [Value.ref 129, Value.ref 131, Value.ref 133, Value.ref 135, Value.ref 137, Value.ref 139, Value.ref 141, Value.ref 143, Value.ref 145, Value.ref 147, Value.ref 149, Value.ref 151, Value.ref 153, Value.ref 154, Value.ref 155, Value.ref 156, Value.ref 157, Value.int (-16384), Value.int 16384, Value.int 0, Value.int 0, Value.int 0, Value.ref 158, Value.ref 159, Value.int 0, Value.int 0, Value.int 0, Value.int 0, Value.int 0, Value.int 0, Value.int 0, Value.int 1]) (xga (xgs hw0)) (Nat.le_of_ble_eq_true rfl) rfl (by decide) ?_
  refine i_245_18 ?_
  refine i_245_27 ?_
  exact i_245_28 ⟨rfl, rfl⟩
theorem o_15_4 {d : Nat} {xs : Nat → Int32} (h0 : ((xs 0) &&& (31 : Int32)).toInt = 15) (c0 : 0 ≤ (xs 1).toInt) (c1 : 16 ≤ (xs 1).toInt) : ∃ w1, xEv (d + 20) 287 23 [(4, Value.int 0), (3, Value.ref 194), (2, Value.ref 128), (1, Value.ref 7), (0, Value.ref 0)] [] (W0 6 xs) (fun o' w' => o' = .inl (some (Value.int 1)) ∧ w' = w1) ∧ w1.length ≤ 220 ∧ xsz w1 ≤ 200000 := by
  refine ⟨(((((W0 6 xs) ++ [Sum.inr (14, [])]).set 128 (Sum.inr (12, [Value.ref 129, Value.ref 131, Value.ref 133, Value.ref 135, Value.ref 137, Value.ref 139, Value.ref 141, Value.ref 143, Value.ref 145, Value.ref 147, Value.ref 149, Value.ref 151, Value.ref 153, Value.ref 154, Value.ref 155, Value.ref 156, Value.ref 157, Value.int (-16384), Value.int 16384, Value.int 0, Value.int 0, Value.int 0, Value.ref 158, Value.ref 159, Value.int 0, Value.int 0, Value.int 0, Value.int 0, Value.int 0, Value.int 0, Value.int 0, Value.int 0]))) ++ [Sum.inr (14, [])]).set 128 (Sum.inr (12, [Value.ref 129, Value.ref 131, Value.ref 133, Value.ref 135, Value.ref 137, Value.ref 139, Value.ref 141, Value.ref 143, Value.ref 145, Value.ref 147, Value.ref 149, Value.ref 151, Value.ref 153, Value.ref 154, Value.ref 155, Value.ref 156, Value.ref 157, Value.int (-16384), Value.int 16384, Value.int 0, Value.int 0, Value.int 0, Value.ref 158, Value.ref 159, Value.int 0, Value.int 0, Value.int 0, Value.int 0, Value.int 0, Value.int 0, Value.int 0, Value.int 1]))), ?_, (show xLs _ 220 200000 from ?_)⟩
  · refine i_287_23 (x := 0) rfl ?_
    refine i_287_25 (x := 0) rfl ?_
    refine i_287_26 (c := 6) W0_0 (by decide) ?_
    refine i_287_27 ?_
    refine i_287_29 (c := 0) (by decide) ?_
    refine i_287_30 (fun h => absurd h (by decide)) (fun _ => ?_)
    refine i_287_33 (x := 0) rfl ?_
    refine i_287_34 (x := 0) rfl ?_
    refine i_287_36 (v := Value.int (xs 0)) W0_0 (by decide) (by decide) rfl ?_
    refine i_287_37 ?_
    refine i_287_39 (c := ((xs 0) &&& (31 : Int32))) rfl ?_
    refine i_287_40_15 (by omega) ?_
    refine i_287_1473 (x := 7) rfl ?_
    refine i_287_1474 (x := 0) rfl ?_
    refine i_287_1475 (x := 0) rfl ?_
    refine i_287_1477 ?_
    refine i_287_1478 (c := 1) (by decide) ?_
    refine i_287_1479 (v := Value.int (xs 1)) W0_0 (by decide) (by decide) rfl ?_
    refine i_287_1480 (x := 0) rfl ?_
    refine i_287_1481 (x := 0) rfl ?_
    refine i_287_1483 ?_
    refine i_287_1484 (c := 2) (by decide) ?_
    refine i_287_1485 (v := Value.int (xs 2)) W0_0 (by decide) (by decide) rfl ?_
    refine i_287_1486 (x := 194) rfl ?_
    refine i_287_1487 (Nat.le_of_ble_eq_true rfl) (p_125_4 W0_7 (by omega) (by omega)) ?_
    refine i_287_1490 (lv2 := [(5, Value.int 1), (4, Value.int 0), (3, Value.ref 194), (2, Value.ref 128), (1, Value.ref 7), (0, Value.ref 0)]) rfl ?_
    refine i_287_1492 (x := 128) rfl ?_
    refine i_287_1493 (x := 0) rfl ?_
    refine i_287_1494 (x := 0) rfl ?_
    refine i_287_1496 ?_
    refine i_287_1497 (c := 1) (by decide) ?_
    refine i_287_1498 (v := Value.int (xs 1)) (xga W0_0) (by decide) (by decide) rfl ?_
    refine i_287_1499 (x := 0) rfl ?_
    refine i_287_1500 (x := 0) rfl ?_
    refine i_287_1502 ?_
    refine i_287_1503 (c := 2) (by decide) ?_
    refine i_287_1504 (v := Value.int (xs 2)) (xga W0_0) (by decide) (by decide) rfl ?_
    refine i_287_1505 (xga W0_128) (Nat.le_of_ble_eq_true rfl) (p_245_4 (xga W0_128) (by omega) (by omega)) ?_
    refine i_287_1508 (lv2 := [(6, Value.long 0), (5, Value.int 1), (4, Value.int 0), (3, Value.ref 194), (2, Value.ref 128), (1, Value.ref 7), (0, Value.ref 0)]) rfl ?_
    refine i_287_1510 (x := 128) rfl ?_
    refine i_287_1511 (xgs (xga (xgs (xga W0_128)))) (Nat.le_of_ble_eq_true rfl) (p_165_0 (xgs (xga (xgs (xga W0_128))))) ?_
    refine i_287_1514 (x := 1) rfl ?_
    refine i_287_1516 (fun _ => ?_) (fun h => absurd h (by decide))
    refine i_287_1521 (x := 1) rfl ?_
    refine i_287_1523 (fun _ => ?_) (fun h => absurd h (by decide))
    refine i_287_1537 ?_
    refine i_287_2154 (x := 0) (c := 6) (lv2 := [(4, Value.int 6), (6, Value.long 0), (5, Value.int 1), (3, Value.ref 194), (2, Value.ref 128), (1, Value.ref 7), (0, Value.ref 0)]) rfl (by decide) rfl ?_
    refine i_287_2157 ?_
    refine i_287_23 (x := 6) rfl ?_
    refine i_287_25 (x := 0) rfl ?_
    refine i_287_26 (c := 6) (xgn (by decide) (xga (xgn (by decide) (xga W0_0)))) (by decide) ?_
    refine i_287_27 ?_
    refine i_287_29 (c := 0) (by decide) ?_
    refine i_287_30 (fun _ => ?_) (fun h => absurd h (by decide))
    refine i_287_2160 ?_
    exact i_287_2161 rfl ⟨rfl, rfl⟩
  · refine xLs.set ?_ (xga (xgs (xga W0_128))) xcs_o
    refine xLs.app (n := 219) (z := 199994) (m := 6) ?_ rfl
    refine xLs.set ?_ (xga W0_128) xcs_o
    refine xLs.app (n := 218) (z := 199988) (m := 6) ?_ rfl
    exact ⟨Nat.le_trans (Nat.le_of_eq W0_len) (by decide), Nat.le_trans (Nat.le_of_eq W0_sz) (by decide)⟩
theorem op_15 {d : Nat} {xs : Nat → Int32} (h0 : ((xs 0) &&& (31 : Int32)).toInt = 15) : ∃ w1, xEv (d + 20) 287 23 [(4, Value.int 0), (3, Value.ref 194), (2, Value.ref 128), (1, Value.ref 7), (0, Value.ref 0)] [] (W0 6 xs) (fun o' w' => o' = .inl (some (Value.int 1)) ∧ w' = w1) ∧ w1.length ≤ 220 ∧ xsz w1 ≤ 200000 := by
  rcases Int.lt_or_le (xs 1).toInt (0) with c0 | c0
  · exact o_15_0 h0 c0
  · rcases Int.lt_or_le (xs 1).toInt (16) with c1 | c1
    · rcases Int.lt_or_le (xs 2).toInt (0) with c2 | c2
      · exact o_15_1 h0 c0 c1 c2
      · rcases Int.lt_or_le (127) (xs 2).toInt with c3 | c3
        · exact o_15_2 h0 c0 c1 c2 c3
        · exact o_15_3 h0 c0 c1 c2 c3
    · exact o_15_4 h0 c0 c1
theorem p_130_0 {d : Nat} {w : xW} {a0 : Int32} {a1 : Int32} (e0 : a0.toInt < 0) : xRun (d + 6) 130 [Value.ref 7, Value.int a0, Value.int a1] w (.inr w.length) (w ++ [Sum.inr (14, [])]) := by
  refine xRun.of ?_
  refine i_130_0 (x := a0) rfl ?_
  refine i_130_1 (Nat.le_of_ble_eq_true rfl) (p_15_0 e0) ?_
  refine i_130_4 (fun _ => ?_) (fun h => absurd h (by decide))
  exact i_130_14 (by omega) (Nat.le_of_ble_eq_true rfl) ⟨rfl, rfl⟩
theorem p_129_0 {d : Nat} {w : xW} {a0 : Int32} {a1 : Int32} (hw0 : w[7]? = some (Sum.inr (0, [Value.ref 8, Value.ref 78, Value.ref 9, Value.ref 10, Value.ref 13, Value.ref 16, Value.ref 19, Value.ref 93, Value.ref 108, Value.ref 113, Value.ref 29, Value.int 0]))) (e1 : a0.toInt < 0) : xRun (d + 7) 129 [Value.ref 7, Value.int a0, Value.int a1, Value.ref 194] w (.inl (some (Value.int 1))) (w ++ [Sum.inr (14, [])]) := by
  refine xRun.of ?_
  refine i_129_0 (x := 194) rfl ?_
  refine i_129_1 ?_
  refine i_129_2 (x := 7) rfl ?_
  refine i_129_3 (x := a0) rfl ?_
  refine i_129_4 (x := a1) rfl ?_
  refine j_129_5 hw0 (Nat.le_of_ble_eq_true rfl) (p_130_0 e1) (xDone.c xgl rfl rfl ?_)
  refine i_129_12 (lv2 := [(4, Value.ref w.length), (0, Value.ref 7), (1, Value.int a0), (2, Value.int a1), (3, Value.ref 194)]) rfl ?_
  refine i_129_14 ?_
  exact i_129_15 ⟨rfl, rfl⟩
theorem p_250_0 {d : Nat} {w : xW} {a0 : Int32} {a1 : Int32} (e0 : a0.toInt < 0) : xRun (d + 8) 250 [Value.ref 128, Value.int a0, Value.int a1] w (.inr w.length) (w ++ [Sum.inr (14, [])]) := by
  refine xRun.of ?_
  refine i_250_0 (x := a0) rfl ?_
  exact j_250_1 (Nat.le_of_ble_eq_true rfl) (p_168_0 e0) (xDone.t xgl rfl rfl ⟨rfl, rfl⟩)
theorem p_249_0 {d : Nat} {w : xW} {a0 : Int32} {a1 : Int32} (hw0 : w[128]? = some (Sum.inr (12, [Value.ref 129, Value.ref 131, Value.ref 133, Value.ref 135, Value.ref 137, Value.ref 139, Value.ref 141, Value.ref 143, Value.ref 145, Value.ref 147, Value.ref 149, Value.ref 151, Value.ref 153, Value.ref 154, Value.ref 155, Value.ref 156, Value.ref 157, Value.int (-16384), Value.int 16384, Value.int 0, Value.int 0, Value.int 0, Value.ref 158, Value.ref 159, Value.int 0, Value.int 0, Value.int 0, Value.int 0, Value.int 0, Value.int 0, Value.int 0, Value.int 0]))) (e1 : a0.toInt < 0) : xRun (d + 9) 249 [Value.ref 128, Value.int a0, Value.int a1] w (.inl (some (Value.long 0))) (((w.set 128 (Sum.inr (12, [Value.ref 129, Value.ref 131, Value.ref 133, Value.ref 135, Value.ref 137, Value.ref 139, Value.ref 141, Value.ref 143, Value.ref 145, Value.ref 147, Value.ref 149, Value.ref 151, Value.ref 153, Value.ref 154, Value.ref 155, Value.ref 156, Value.ref 157, Value.int (-16384), Value.int 16384, Value.int 0, Value.int 0, Value.int 0, Value.ref 158, Value.ref 159, Value.int 0, Value.int 0, Value.int 0, Value.int 0, Value.int 0, Value.int 0, Value.int 0, Value.int 0]))) ++ [Sum.inr (14, [])]).set 128 (Sum.inr (12, [Value.ref 129, Value.ref 131, Value.ref 133, Value.ref 135, Value.ref 137, Value.ref 139, Value.ref 141, Value.ref 143, Value.ref 145, Value.ref 147, Value.ref 149, Value.ref 151, Value.ref 153, Value.ref 154, Value.ref 155, Value.ref 156, Value.ref 157, Value.int (-16384), Value.int 16384, Value.int 0, Value.int 0, Value.int 0, Value.ref 158, Value.ref 159, Value.int 0, Value.int 0, Value.int 0, Value.int 0, Value.int 0, Value.int 0, Value.int 0, Value.int 1]))) := by
  refine xRun.of ?_
  refine i_249_0 (x := 128) rfl ?_
  refine i_249_1 ?_
  refine i_249_2 (fs2 := [Value.ref 129, Value.ref 131, Value.ref 133, Value.ref 135, Value.ref 137, Value.ref 139, Value.ref 141, Value.ref 143, Value.ref 145, Value.ref 147, Value.ref 149, Value.ref 151, Value.ref 153, Value.ref 154, Value.ref 155, Value.ref 156, Value.ref 157, Value.int (-16384), Value.int 16384, Value.int 0, Value.int 0, Value.int 0, Value.ref 158, Value.ref 159, Value.int 0, Value.int 0, Value.int 0, Value.int 0, Value.int 0, Value.int 0, Value.int 0, Value.int 0]) hw0 (Nat.le_of_ble_eq_true rfl) rfl (by decide) ?_
  refine i_249_5 (x := 128) rfl ?_
  refine i_249_6 (x := a0) rfl ?_
  refine i_249_7 (x := a1) rfl ?_
  refine j_249_8 (xgs hw0) (Nat.le_of_ble_eq_true rfl) (p_250_0 e1) (xDone.c xgl rfl rfl ?_)
  refine i_249_12 (lv2 := [(3, Value.ref ((w.set 128 (Sum.inr (12, [Value.ref 129, Value.ref 131, Value.ref 133, Value.ref 135, Value.ref 137, Value.ref 139, Value.ref 141, Value.ref 143, Value.ref 145, Value.ref 147, Value.ref 149, Value.ref 151, Value.ref 153, Value.ref 154, Value.ref 155, Value.ref 156, Value.ref 157, Value.int (-16384), Value.int 16384, Value.int 0, Value.int 0, Value.int 0, Value.ref 158, Value.ref 159, Value.int 0, Value.int 0, Value.int 0, Value.int 0, Value.int 0, Value.int 0, Value.int 0, Value.int 0]))).length)), (0, Value.ref 128), (1, Value.int a0), (2, Value.int a1)]) rfl ?_
  refine i_249_13 (x := 128) rfl ?_
  refine i_249_14 ?_
  refine i_249_15 (fs2 := [Value.ref 129, Value.ref 131, Value.ref 133, Value.ref 135, Value.ref 137, Value.ref 139, Value.ref 141, Value.ref 143, Value.ref 145, Value.ref 147, Value.ref 149, Value.ref 151, Value.ref 153, Value.ref 154, Value.ref 155, Value.ref 156, Value.ref 157, Value.int (-16384), Value.int 16384, Value.int 0, Value.int 0, Value.int 0, Value.ref 158, Value.ref 159, Value.int 0, Value.int 0, Value.int 0, Value.int 0, Value.int 0, Value.int 0, Value.int 0, Value.int 1]) (xga (xgs hw0)) (Nat.le_of_ble_eq_true rfl) rfl (by decide) ?_
  refine i_249_18 ?_
  exact i_249_19 ⟨rfl, rfl⟩
theorem o_17_0 {d : Nat} {xs : Nat → Int32} (h0 : ((xs 0) &&& (31 : Int32)).toInt = 17) (c0 : (xs 1).toInt < 0) : ∃ w1, xEv (d + 20) 287 23 [(4, Value.int 0), (3, Value.ref 194), (2, Value.ref 128), (1, Value.ref 7), (0, Value.ref 0)] [] (W0 6 xs) (fun o' w' => o' = .inl (some (Value.int 1)) ∧ w' = w1) ∧ w1.length ≤ 220 ∧ xsz w1 ≤ 200000 := by
  refine ⟨(((((W0 6 xs) ++ [Sum.inr (14, [])]).set 128 (Sum.inr (12, [Value.ref 129, Value.ref 131, Value.ref 133, Value.ref 135, Value.ref 137, Value.ref 139, Value.ref 141, Value.ref 143, Value.ref 145, Value.ref 147, Value.ref 149, Value.ref 151, Value.ref 153, Value.ref 154, Value.ref 155, Value.ref 156, Value.ref 157, Value.int (-16384), Value.int 16384, Value.int 0, Value.int 0, Value.int 0, Value.ref 158, Value.ref 159, Value.int 0, Value.int 0, Value.int 0, Value.int 0, Value.int 0, Value.int 0, Value.int 0, Value.int 0]))) ++ [Sum.inr (14, [])]).set 128 (Sum.inr (12, [Value.ref 129, Value.ref 131, Value.ref 133, Value.ref 135, Value.ref 137, Value.ref 139, Value.ref 141, Value.ref 143, Value.ref 145, Value.ref 147, Value.ref 149, Value.ref 151, Value.ref 153, Value.ref 154, Value.ref 155, Value.ref 156, Value.ref 157, Value.int (-16384), Value.int 16384, Value.int 0, Value.int 0, Value.int 0, Value.ref 158, Value.ref 159, Value.int 0, Value.int 0, Value.int 0, Value.int 0, Value.int 0, Value.int 0, Value.int 0, Value.int 1]))), ?_, (show xLs _ 220 200000 from ?_)⟩
  · refine i_287_23 (x := 0) rfl ?_
    refine i_287_25 (x := 0) rfl ?_
    refine i_287_26 (c := 6) W0_0 (by decide) ?_
    refine i_287_27 ?_
    refine i_287_29 (c := 0) (by decide) ?_
    refine i_287_30 (fun h => absurd h (by decide)) (fun _ => ?_)
    refine i_287_33 (x := 0) rfl ?_
    refine i_287_34 (x := 0) rfl ?_
    refine i_287_36 (v := Value.int (xs 0)) W0_0 (by decide) (by decide) rfl ?_
    refine i_287_37 ?_
    refine i_287_39 (c := ((xs 0) &&& (31 : Int32))) rfl ?_
    refine i_287_40_17 (by omega) ?_
    refine i_287_1652 (x := 7) rfl ?_
    refine i_287_1653 (x := 0) rfl ?_
    refine i_287_1654 (x := 0) rfl ?_
    refine i_287_1656 ?_
    refine i_287_1657 (c := 1) (by decide) ?_
    refine i_287_1658 (v := Value.int (xs 1)) W0_0 (by decide) (by decide) rfl ?_
    refine i_287_1659 (x := 0) rfl ?_
    refine i_287_1660 (x := 0) rfl ?_
    refine i_287_1662 ?_
    refine i_287_1663 (c := 2) (by decide) ?_
    refine i_287_1664 (v := Value.int (xs 2)) W0_0 (by decide) (by decide) rfl ?_
    refine i_287_1665 (x := 194) rfl ?_
    refine i_287_1666 (Nat.le_of_ble_eq_true rfl) (p_129_0 W0_7 (by omega)) ?_
    refine i_287_1669 (lv2 := [(5, Value.int 1), (4, Value.int 0), (3, Value.ref 194), (2, Value.ref 128), (1, Value.ref 7), (0, Value.ref 0)]) rfl ?_
    refine i_287_1671 (x := 128) rfl ?_
    refine i_287_1672 (x := 0) rfl ?_
    refine i_287_1673 (x := 0) rfl ?_
    refine i_287_1675 ?_
    refine i_287_1676 (c := 1) (by decide) ?_
    refine i_287_1677 (v := Value.int (xs 1)) (xga W0_0) (by decide) (by decide) rfl ?_
    refine i_287_1678 (x := 0) rfl ?_
    refine i_287_1679 (x := 0) rfl ?_
    refine i_287_1681 ?_
    refine i_287_1682 (c := 2) (by decide) ?_
    refine i_287_1683 (v := Value.int (xs 2)) (xga W0_0) (by decide) (by decide) rfl ?_
    refine i_287_1684 (xga W0_128) (Nat.le_of_ble_eq_true rfl) (p_249_0 (xga W0_128) (by omega)) ?_
    refine i_287_1687 (lv2 := [(6, Value.long 0), (5, Value.int 1), (4, Value.int 0), (3, Value.ref 194), (2, Value.ref 128), (1, Value.ref 7), (0, Value.ref 0)]) rfl ?_
    refine i_287_1689 (x := 128) rfl ?_
    refine i_287_1690 (xgs (xga (xgs (xga W0_128)))) (Nat.le_of_ble_eq_true rfl) (p_165_0 (xgs (xga (xgs (xga W0_128))))) ?_
    refine i_287_1693 (x := 1) rfl ?_
    refine i_287_1695 (fun _ => ?_) (fun h => absurd h (by decide))
    refine i_287_1700 (x := 1) rfl ?_
    refine i_287_1702 (fun _ => ?_) (fun h => absurd h (by decide))
    refine i_287_1716 ?_
    refine i_287_2154 (x := 0) (c := 6) (lv2 := [(4, Value.int 6), (6, Value.long 0), (5, Value.int 1), (3, Value.ref 194), (2, Value.ref 128), (1, Value.ref 7), (0, Value.ref 0)]) rfl (by decide) rfl ?_
    refine i_287_2157 ?_
    refine i_287_23 (x := 6) rfl ?_
    refine i_287_25 (x := 0) rfl ?_
    refine i_287_26 (c := 6) (xgn (by decide) (xga (xgn (by decide) (xga W0_0)))) (by decide) ?_
    refine i_287_27 ?_
    refine i_287_29 (c := 0) (by decide) ?_
    refine i_287_30 (fun _ => ?_) (fun h => absurd h (by decide))
    refine i_287_2160 ?_
    exact i_287_2161 rfl ⟨rfl, rfl⟩
  · refine xLs.set ?_ (xga (xgs (xga W0_128))) xcs_o
    refine xLs.app (n := 219) (z := 199994) (m := 6) ?_ rfl
    refine xLs.set ?_ (xga W0_128) xcs_o
    refine xLs.app (n := 218) (z := 199988) (m := 6) ?_ rfl
    exact ⟨Nat.le_trans (Nat.le_of_eq W0_len) (by decide), Nat.le_trans (Nat.le_of_eq W0_sz) (by decide)⟩
theorem p_130_1 {d : Nat} {w : xW} {a0 : Int32} {a1 : Int32} (e0 : 0 ≤ a0.toInt) (e1 : a0.toInt < 16) (e2 : a1.toInt < 0) : xRun (d + 6) 130 [Value.ref 7, Value.int a0, Value.int a1] w (.inr w.length) (w ++ [Sum.inr (14, [])]) := by
  refine xRun.of ?_
  refine i_130_0 (x := a0) rfl ?_
  refine i_130_1 (Nat.le_of_ble_eq_true rfl) (p_15_1 e0 e1) ?_
  refine i_130_4 (fun h => absurd h (by decide)) (fun _ => ?_)
  refine i_130_7 (x := a1) rfl ?_
  refine i_130_8 (Nat.le_of_ble_eq_true rfl) (p_22_0 e2) ?_
  refine i_130_11 (fun h => absurd h (by decide)) (fun _ => ?_)
  exact i_130_14 (by omega) (Nat.le_of_ble_eq_true rfl) ⟨rfl, rfl⟩
theorem p_129_1 {d : Nat} {w : xW} {a0 : Int32} {a1 : Int32} (hw0 : w[7]? = some (Sum.inr (0, [Value.ref 8, Value.ref 78, Value.ref 9, Value.ref 10, Value.ref 13, Value.ref 16, Value.ref 19, Value.ref 93, Value.ref 108, Value.ref 113, Value.ref 29, Value.int 0]))) (e1 : 0 ≤ a0.toInt) (e2 : a0.toInt < 16) (e3 : a1.toInt < 0) : xRun (d + 7) 129 [Value.ref 7, Value.int a0, Value.int a1, Value.ref 194] w (.inl (some (Value.int 1))) (w ++ [Sum.inr (14, [])]) := by
  refine xRun.of ?_
  refine i_129_0 (x := 194) rfl ?_
  refine i_129_1 ?_
  refine i_129_2 (x := 7) rfl ?_
  refine i_129_3 (x := a0) rfl ?_
  refine i_129_4 (x := a1) rfl ?_
  refine j_129_5 hw0 (Nat.le_of_ble_eq_true rfl) (p_130_1 e1 e2 e3) (xDone.c xgl rfl rfl ?_)
  refine i_129_12 (lv2 := [(4, Value.ref w.length), (0, Value.ref 7), (1, Value.int a0), (2, Value.int a1), (3, Value.ref 194)]) rfl ?_
  refine i_129_14 ?_
  exact i_129_15 ⟨rfl, rfl⟩
theorem p_250_1 {d : Nat} {w : xW} {a0 : Int32} {a1 : Int32} (e0 : 0 ≤ a0.toInt) (e1 : a0.toInt ≤ 15) (e2 : a1.toInt < 0) : xRun (d + 8) 250 [Value.ref 128, Value.int a0, Value.int a1] w (.inr w.length) (w ++ [Sum.inr (14, [])]) := by
  refine xRun.of ?_
  refine i_250_0 (x := a0) rfl ?_
  refine i_250_1 (Nat.le_of_ble_eq_true rfl) (p_168_1 e0 e1) ?_
  refine i_250_4 (x := a1) rfl ?_
  exact j_250_5 (Nat.le_of_ble_eq_true rfl) (p_178_0 e2) (xDone.t xgl rfl rfl ⟨rfl, rfl⟩)
theorem p_249_1 {d : Nat} {w : xW} {a0 : Int32} {a1 : Int32} (hw0 : w[128]? = some (Sum.inr (12, [Value.ref 129, Value.ref 131, Value.ref 133, Value.ref 135, Value.ref 137, Value.ref 139, Value.ref 141, Value.ref 143, Value.ref 145, Value.ref 147, Value.ref 149, Value.ref 151, Value.ref 153, Value.ref 154, Value.ref 155, Value.ref 156, Value.ref 157, Value.int (-16384), Value.int 16384, Value.int 0, Value.int 0, Value.int 0, Value.ref 158, Value.ref 159, Value.int 0, Value.int 0, Value.int 0, Value.int 0, Value.int 0, Value.int 0, Value.int 0, Value.int 0]))) (e1 : 0 ≤ a0.toInt) (e2 : a0.toInt ≤ 15) (e3 : a1.toInt < 0) : xRun (d + 9) 249 [Value.ref 128, Value.int a0, Value.int a1] w (.inl (some (Value.long 0))) (((w.set 128 (Sum.inr (12, [Value.ref 129, Value.ref 131, Value.ref 133, Value.ref 135, Value.ref 137, Value.ref 139, Value.ref 141, Value.ref 143, Value.ref 145, Value.ref 147, Value.ref 149, Value.ref 151, Value.ref 153, Value.ref 154, Value.ref 155, Value.ref 156, Value.ref 157, Value.int (-16384), Value.int 16384, Value.int 0, Value.int 0, Value.int 0, Value.ref 158, Value.ref 159, Value.int 0, Value.int 0, Value.int 0, Value.int 0, Value.int 0, Value.int 0, Value.int 0, Value.int 0]))) ++ [Sum.inr (14, [])]).set 128 (Sum.inr (12, [Value.ref 129, Value.ref 131, Value.ref 133, Value.ref 135, Value.ref 137, Value.ref 139, Value.ref 141, Value.ref 143, Value.ref 145, Value.ref 147, Value.ref 149, Value.ref 151, Value.ref 153, Value.ref 154, Value.ref 155, Value.ref 156, Value.ref 157, Value.int (-16384), Value.int 16384, Value.int 0, Value.int 0, Value.int 0, Value.ref 158, Value.ref 159, Value.int 0, Value.int 0, Value.int 0, Value.int 0, Value.int 0, Value.int 0, Value.int 0, Value.int 1]))) := by
  refine xRun.of ?_
  refine i_249_0 (x := 128) rfl ?_
  refine i_249_1 ?_
  refine i_249_2 (fs2 := [Value.ref 129, Value.ref 131, Value.ref 133, Value.ref 135, Value.ref 137, Value.ref 139, Value.ref 141, Value.ref 143, Value.ref 145, Value.ref 147, Value.ref 149, Value.ref 151, Value.ref 153, Value.ref 154, Value.ref 155, Value.ref 156, Value.ref 157, Value.int (-16384), Value.int 16384, Value.int 0, Value.int 0, Value.int 0, Value.ref 158, Value.ref 159, Value.int 0, Value.int 0, Value.int 0, Value.int 0, Value.int 0, Value.int 0, Value.int 0, Value.int 0]) hw0 (Nat.le_of_ble_eq_true rfl) rfl (by decide) ?_
  refine i_249_5 (x := 128) rfl ?_
  refine i_249_6 (x := a0) rfl ?_
  refine i_249_7 (x := a1) rfl ?_
  refine j_249_8 (xgs hw0) (Nat.le_of_ble_eq_true rfl) (p_250_1 e1 e2 e3) (xDone.c xgl rfl rfl ?_)
  refine i_249_12 (lv2 := [(3, Value.ref ((w.set 128 (Sum.inr (12, [Value.ref 129, Value.ref 131, Value.ref 133, Value.ref 135, Value.ref 137, Value.ref 139, Value.ref 141, Value.ref 143, Value.ref 145, Value.ref 147, Value.ref 149, Value.ref 151, Value.ref 153, Value.ref 154, Value.ref 155, Value.ref 156, Value.ref 157, Value.int (-16384), Value.int 16384, Value.int 0, Value.int 0, Value.int 0, Value.ref 158, Value.ref 159, Value.int 0, Value.int 0, Value.int 0, Value.int 0, Value.int 0, Value.int 0, Value.int 0, Value.int 0]))).length)), (0, Value.ref 128), (1, Value.int a0), (2, Value.int a1)]) rfl ?_
  refine i_249_13 (x := 128) rfl ?_
  refine i_249_14 ?_
  refine i_249_15 (fs2 := [Value.ref 129, Value.ref 131, Value.ref 133, Value.ref 135, Value.ref 137, Value.ref 139, Value.ref 141, Value.ref 143, Value.ref 145, Value.ref 147, Value.ref 149, Value.ref 151, Value.ref 153, Value.ref 154, Value.ref 155, Value.ref 156, Value.ref 157, Value.int (-16384), Value.int 16384, Value.int 0, Value.int 0, Value.int 0, Value.ref 158, Value.ref 159, Value.int 0, Value.int 0, Value.int 0, Value.int 0, Value.int 0, Value.int 0, Value.int 0, Value.int 1]) (xga (xgs hw0)) (Nat.le_of_ble_eq_true rfl) rfl (by decide) ?_
  refine i_249_18 ?_
  exact i_249_19 ⟨rfl, rfl⟩
theorem o_17_1 {d : Nat} {xs : Nat → Int32} (h0 : ((xs 0) &&& (31 : Int32)).toInt = 17) (c0 : 0 ≤ (xs 1).toInt) (c1 : (xs 1).toInt < 16) (c2 : (xs 2).toInt < 0) : ∃ w1, xEv (d + 20) 287 23 [(4, Value.int 0), (3, Value.ref 194), (2, Value.ref 128), (1, Value.ref 7), (0, Value.ref 0)] [] (W0 6 xs) (fun o' w' => o' = .inl (some (Value.int 1)) ∧ w' = w1) ∧ w1.length ≤ 220 ∧ xsz w1 ≤ 200000 := by
  refine ⟨(((((W0 6 xs) ++ [Sum.inr (14, [])]).set 128 (Sum.inr (12, [Value.ref 129, Value.ref 131, Value.ref 133, Value.ref 135, Value.ref 137, Value.ref 139, Value.ref 141, Value.ref 143, Value.ref 145, Value.ref 147, Value.ref 149, Value.ref 151, Value.ref 153, Value.ref 154, Value.ref 155, Value.ref 156, Value.ref 157, Value.int (-16384), Value.int 16384, Value.int 0, Value.int 0, Value.int 0, Value.ref 158, Value.ref 159, Value.int 0, Value.int 0, Value.int 0, Value.int 0, Value.int 0, Value.int 0, Value.int 0, Value.int 0]))) ++ [Sum.inr (14, [])]).set 128 (Sum.inr (12, [Value.ref 129, Value.ref 131, Value.ref 133, Value.ref 135, Value.ref 137, Value.ref 139, Value.ref 141, Value.ref 143, Value.ref 145, Value.ref 147, Value.ref 149, Value.ref 151, Value.ref 153, Value.ref 154, Value.ref 155, Value.ref 156, Value.ref 157, Value.int (-16384), Value.int 16384, Value.int 0, Value.int 0, Value.int 0, Value.ref 158, Value.ref 159, Value.int 0, Value.int 0, Value.int 0, Value.int 0, Value.int 0, Value.int 0, Value.int 0, Value.int 1]))), ?_, (show xLs _ 220 200000 from ?_)⟩
  · refine i_287_23 (x := 0) rfl ?_
    refine i_287_25 (x := 0) rfl ?_
    refine i_287_26 (c := 6) W0_0 (by decide) ?_
    refine i_287_27 ?_
    refine i_287_29 (c := 0) (by decide) ?_
    refine i_287_30 (fun h => absurd h (by decide)) (fun _ => ?_)
    refine i_287_33 (x := 0) rfl ?_
    refine i_287_34 (x := 0) rfl ?_
    refine i_287_36 (v := Value.int (xs 0)) W0_0 (by decide) (by decide) rfl ?_
    refine i_287_37 ?_
    refine i_287_39 (c := ((xs 0) &&& (31 : Int32))) rfl ?_
    refine i_287_40_17 (by omega) ?_
    refine i_287_1652 (x := 7) rfl ?_
    refine i_287_1653 (x := 0) rfl ?_
    refine i_287_1654 (x := 0) rfl ?_
    refine i_287_1656 ?_
    refine i_287_1657 (c := 1) (by decide) ?_
    refine i_287_1658 (v := Value.int (xs 1)) W0_0 (by decide) (by decide) rfl ?_
    refine i_287_1659 (x := 0) rfl ?_
    refine i_287_1660 (x := 0) rfl ?_
    refine i_287_1662 ?_
    refine i_287_1663 (c := 2) (by decide) ?_
    refine i_287_1664 (v := Value.int (xs 2)) W0_0 (by decide) (by decide) rfl ?_
    refine i_287_1665 (x := 194) rfl ?_
    refine i_287_1666 (Nat.le_of_ble_eq_true rfl) (p_129_1 W0_7 (by omega) (by omega) (by omega)) ?_
    refine i_287_1669 (lv2 := [(5, Value.int 1), (4, Value.int 0), (3, Value.ref 194), (2, Value.ref 128), (1, Value.ref 7), (0, Value.ref 0)]) rfl ?_
    refine i_287_1671 (x := 128) rfl ?_
    refine i_287_1672 (x := 0) rfl ?_
    refine i_287_1673 (x := 0) rfl ?_
    refine i_287_1675 ?_
    refine i_287_1676 (c := 1) (by decide) ?_
    refine i_287_1677 (v := Value.int (xs 1)) (xga W0_0) (by decide) (by decide) rfl ?_
    refine i_287_1678 (x := 0) rfl ?_
    refine i_287_1679 (x := 0) rfl ?_
    refine i_287_1681 ?_
    refine i_287_1682 (c := 2) (by decide) ?_
    refine i_287_1683 (v := Value.int (xs 2)) (xga W0_0) (by decide) (by decide) rfl ?_
    refine i_287_1684 (xga W0_128) (Nat.le_of_ble_eq_true rfl) (p_249_1 (xga W0_128) (by omega) (by omega) (by omega)) ?_
    refine i_287_1687 (lv2 := [(6, Value.long 0), (5, Value.int 1), (4, Value.int 0), (3, Value.ref 194), (2, Value.ref 128), (1, Value.ref 7), (0, Value.ref 0)]) rfl ?_
    refine i_287_1689 (x := 128) rfl ?_
    refine i_287_1690 (xgs (xga (xgs (xga W0_128)))) (Nat.le_of_ble_eq_true rfl) (p_165_0 (xgs (xga (xgs (xga W0_128))))) ?_
    refine i_287_1693 (x := 1) rfl ?_
    refine i_287_1695 (fun _ => ?_) (fun h => absurd h (by decide))
    refine i_287_1700 (x := 1) rfl ?_
    refine i_287_1702 (fun _ => ?_) (fun h => absurd h (by decide))
    refine i_287_1716 ?_
    refine i_287_2154 (x := 0) (c := 6) (lv2 := [(4, Value.int 6), (6, Value.long 0), (5, Value.int 1), (3, Value.ref 194), (2, Value.ref 128), (1, Value.ref 7), (0, Value.ref 0)]) rfl (by decide) rfl ?_
    refine i_287_2157 ?_
    refine i_287_23 (x := 6) rfl ?_
    refine i_287_25 (x := 0) rfl ?_
    refine i_287_26 (c := 6) (xgn (by decide) (xga (xgn (by decide) (xga W0_0)))) (by decide) ?_
    refine i_287_27 ?_
    refine i_287_29 (c := 0) (by decide) ?_
    refine i_287_30 (fun _ => ?_) (fun h => absurd h (by decide))
    refine i_287_2160 ?_
    exact i_287_2161 rfl ⟨rfl, rfl⟩
  · refine xLs.set ?_ (xga (xgs (xga W0_128))) xcs_o
    refine xLs.app (n := 219) (z := 199994) (m := 6) ?_ rfl
    refine xLs.set ?_ (xga W0_128) xcs_o
    refine xLs.app (n := 218) (z := 199988) (m := 6) ?_ rfl
    exact ⟨Nat.le_trans (Nat.le_of_eq W0_len) (by decide), Nat.le_trans (Nat.le_of_eq W0_sz) (by decide)⟩
theorem p_130_2 {d : Nat} {w : xW} {a0 : Int32} {a1 : Int32} (e0 : 0 ≤ a0.toInt) (e1 : a0.toInt < 16) (e2 : 0 ≤ a1.toInt) (e3 : 4 < a1.toInt) : xRun (d + 6) 130 [Value.ref 7, Value.int a0, Value.int a1] w (.inr w.length) (w ++ [Sum.inr (14, [])]) := by
  refine xRun.of ?_
  refine i_130_0 (x := a0) rfl ?_
  refine i_130_1 (Nat.le_of_ble_eq_true rfl) (p_15_1 e0 e1) ?_
  refine i_130_4 (fun h => absurd h (by decide)) (fun _ => ?_)
  refine i_130_7 (x := a1) rfl ?_
  refine i_130_8 (Nat.le_of_ble_eq_true rfl) (p_22_1 e2 e3) ?_
  refine i_130_11 (fun h => absurd h (by decide)) (fun _ => ?_)
  exact i_130_14 (by omega) (Nat.le_of_ble_eq_true rfl) ⟨rfl, rfl⟩
theorem p_129_2 {d : Nat} {w : xW} {a0 : Int32} {a1 : Int32} (hw0 : w[7]? = some (Sum.inr (0, [Value.ref 8, Value.ref 78, Value.ref 9, Value.ref 10, Value.ref 13, Value.ref 16, Value.ref 19, Value.ref 93, Value.ref 108, Value.ref 113, Value.ref 29, Value.int 0]))) (e1 : 0 ≤ a0.toInt) (e2 : a0.toInt < 16) (e3 : 0 ≤ a1.toInt) (e4 : 4 < a1.toInt) : xRun (d + 7) 129 [Value.ref 7, Value.int a0, Value.int a1, Value.ref 194] w (.inl (some (Value.int 1))) (w ++ [Sum.inr (14, [])]) := by
  refine xRun.of ?_
  refine i_129_0 (x := 194) rfl ?_
  refine i_129_1 ?_
  refine i_129_2 (x := 7) rfl ?_
  refine i_129_3 (x := a0) rfl ?_
  refine i_129_4 (x := a1) rfl ?_
  refine j_129_5 hw0 (Nat.le_of_ble_eq_true rfl) (p_130_2 e1 e2 e3 e4) (xDone.c xgl rfl rfl ?_)
  refine i_129_12 (lv2 := [(4, Value.ref w.length), (0, Value.ref 7), (1, Value.int a0), (2, Value.int a1), (3, Value.ref 194)]) rfl ?_
  refine i_129_14 ?_
  exact i_129_15 ⟨rfl, rfl⟩
theorem p_250_2 {d : Nat} {w : xW} {a0 : Int32} {a1 : Int32} (e0 : 0 ≤ a0.toInt) (e1 : a0.toInt ≤ 15) (e2 : 0 ≤ a1.toInt) (e3 : 4 < a1.toInt) : xRun (d + 8) 250 [Value.ref 128, Value.int a0, Value.int a1] w (.inr w.length) (w ++ [Sum.inr (14, [])]) := by
  refine xRun.of ?_
  refine i_250_0 (x := a0) rfl ?_
  refine i_250_1 (Nat.le_of_ble_eq_true rfl) (p_168_1 e0 e1) ?_
  refine i_250_4 (x := a1) rfl ?_
  exact j_250_5 (Nat.le_of_ble_eq_true rfl) (p_178_1 e2 e3) (xDone.t xgl rfl rfl ⟨rfl, rfl⟩)
theorem p_249_2 {d : Nat} {w : xW} {a0 : Int32} {a1 : Int32} (hw0 : w[128]? = some (Sum.inr (12, [Value.ref 129, Value.ref 131, Value.ref 133, Value.ref 135, Value.ref 137, Value.ref 139, Value.ref 141, Value.ref 143, Value.ref 145, Value.ref 147, Value.ref 149, Value.ref 151, Value.ref 153, Value.ref 154, Value.ref 155, Value.ref 156, Value.ref 157, Value.int (-16384), Value.int 16384, Value.int 0, Value.int 0, Value.int 0, Value.ref 158, Value.ref 159, Value.int 0, Value.int 0, Value.int 0, Value.int 0, Value.int 0, Value.int 0, Value.int 0, Value.int 0]))) (e1 : 0 ≤ a0.toInt) (e2 : a0.toInt ≤ 15) (e3 : 0 ≤ a1.toInt) (e4 : 4 < a1.toInt) : xRun (d + 9) 249 [Value.ref 128, Value.int a0, Value.int a1] w (.inl (some (Value.long 0))) (((w.set 128 (Sum.inr (12, [Value.ref 129, Value.ref 131, Value.ref 133, Value.ref 135, Value.ref 137, Value.ref 139, Value.ref 141, Value.ref 143, Value.ref 145, Value.ref 147, Value.ref 149, Value.ref 151, Value.ref 153, Value.ref 154, Value.ref 155, Value.ref 156, Value.ref 157, Value.int (-16384), Value.int 16384, Value.int 0, Value.int 0, Value.int 0, Value.ref 158, Value.ref 159, Value.int 0, Value.int 0, Value.int 0, Value.int 0, Value.int 0, Value.int 0, Value.int 0, Value.int 0]))) ++ [Sum.inr (14, [])]).set 128 (Sum.inr (12, [Value.ref 129, Value.ref 131, Value.ref 133, Value.ref 135, Value.ref 137, Value.ref 139, Value.ref 141, Value.ref 143, Value.ref 145, Value.ref 147, Value.ref 149, Value.ref 151, Value.ref 153, Value.ref 154, Value.ref 155, Value.ref 156, Value.ref 157, Value.int (-16384), Value.int 16384, Value.int 0, Value.int 0, Value.int 0, Value.ref 158, Value.ref 159, Value.int 0, Value.int 0, Value.int 0, Value.int 0, Value.int 0, Value.int 0, Value.int 0, Value.int 1]))) := by
  refine xRun.of ?_
  refine i_249_0 (x := 128) rfl ?_
  refine i_249_1 ?_
  refine i_249_2 (fs2 := [Value.ref 129, Value.ref 131, Value.ref 133, Value.ref 135, Value.ref 137, Value.ref 139, Value.ref 141, Value.ref 143, Value.ref 145, Value.ref 147, Value.ref 149, Value.ref 151, Value.ref 153, Value.ref 154, Value.ref 155, Value.ref 156, Value.ref 157, Value.int (-16384), Value.int 16384, Value.int 0, Value.int 0, Value.int 0, Value.ref 158, Value.ref 159, Value.int 0, Value.int 0, Value.int 0, Value.int 0, Value.int 0, Value.int 0, Value.int 0, Value.int 0]) hw0 (Nat.le_of_ble_eq_true rfl) rfl (by decide) ?_
  refine i_249_5 (x := 128) rfl ?_
  refine i_249_6 (x := a0) rfl ?_
  refine i_249_7 (x := a1) rfl ?_
  refine j_249_8 (xgs hw0) (Nat.le_of_ble_eq_true rfl) (p_250_2 e1 e2 e3 e4) (xDone.c xgl rfl rfl ?_)
  refine i_249_12 (lv2 := [(3, Value.ref ((w.set 128 (Sum.inr (12, [Value.ref 129, Value.ref 131, Value.ref 133, Value.ref 135, Value.ref 137, Value.ref 139, Value.ref 141, Value.ref 143, Value.ref 145, Value.ref 147, Value.ref 149, Value.ref 151, Value.ref 153, Value.ref 154, Value.ref 155, Value.ref 156, Value.ref 157, Value.int (-16384), Value.int 16384, Value.int 0, Value.int 0, Value.int 0, Value.ref 158, Value.ref 159, Value.int 0, Value.int 0, Value.int 0, Value.int 0, Value.int 0, Value.int 0, Value.int 0, Value.int 0]))).length)), (0, Value.ref 128), (1, Value.int a0), (2, Value.int a1)]) rfl ?_
  refine i_249_13 (x := 128) rfl ?_
  refine i_249_14 ?_
  refine i_249_15 (fs2 := [Value.ref 129, Value.ref 131, Value.ref 133, Value.ref 135, Value.ref 137, Value.ref 139, Value.ref 141, Value.ref 143, Value.ref 145, Value.ref 147, Value.ref 149, Value.ref 151, Value.ref 153, Value.ref 154, Value.ref 155, Value.ref 156, Value.ref 157, Value.int (-16384), Value.int 16384, Value.int 0, Value.int 0, Value.int 0, Value.ref 158, Value.ref 159, Value.int 0, Value.int 0, Value.int 0, Value.int 0, Value.int 0, Value.int 0, Value.int 0, Value.int 1]) (xga (xgs hw0)) (Nat.le_of_ble_eq_true rfl) rfl (by decide) ?_
  refine i_249_18 ?_
  exact i_249_19 ⟨rfl, rfl⟩
theorem o_17_2 {d : Nat} {xs : Nat → Int32} (h0 : ((xs 0) &&& (31 : Int32)).toInt = 17) (c0 : 0 ≤ (xs 1).toInt) (c1 : (xs 1).toInt < 16) (c2 : 0 ≤ (xs 2).toInt) (c3 : 4 < (xs 2).toInt) : ∃ w1, xEv (d + 20) 287 23 [(4, Value.int 0), (3, Value.ref 194), (2, Value.ref 128), (1, Value.ref 7), (0, Value.ref 0)] [] (W0 6 xs) (fun o' w' => o' = .inl (some (Value.int 1)) ∧ w' = w1) ∧ w1.length ≤ 220 ∧ xsz w1 ≤ 200000 := by
  refine ⟨(((((W0 6 xs) ++ [Sum.inr (14, [])]).set 128 (Sum.inr (12, [Value.ref 129, Value.ref 131, Value.ref 133, Value.ref 135, Value.ref 137, Value.ref 139, Value.ref 141, Value.ref 143, Value.ref 145, Value.ref 147, Value.ref 149, Value.ref 151, Value.ref 153, Value.ref 154, Value.ref 155, Value.ref 156, Value.ref 157, Value.int (-16384), Value.int 16384, Value.int 0, Value.int 0, Value.int 0, Value.ref 158, Value.ref 159, Value.int 0, Value.int 0, Value.int 0, Value.int 0, Value.int 0, Value.int 0, Value.int 0, Value.int 0]))) ++ [Sum.inr (14, [])]).set 128 (Sum.inr (12, [Value.ref 129, Value.ref 131, Value.ref 133, Value.ref 135, Value.ref 137, Value.ref 139, Value.ref 141, Value.ref 143, Value.ref 145, Value.ref 147, Value.ref 149, Value.ref 151, Value.ref 153, Value.ref 154, Value.ref 155, Value.ref 156, Value.ref 157, Value.int (-16384), Value.int 16384, Value.int 0, Value.int 0, Value.int 0, Value.ref 158, Value.ref 159, Value.int 0, Value.int 0, Value.int 0, Value.int 0, Value.int 0, Value.int 0, Value.int 0, Value.int 1]))), ?_, (show xLs _ 220 200000 from ?_)⟩
  · refine i_287_23 (x := 0) rfl ?_
    refine i_287_25 (x := 0) rfl ?_
    refine i_287_26 (c := 6) W0_0 (by decide) ?_
    refine i_287_27 ?_
    refine i_287_29 (c := 0) (by decide) ?_
    refine i_287_30 (fun h => absurd h (by decide)) (fun _ => ?_)
    refine i_287_33 (x := 0) rfl ?_
    refine i_287_34 (x := 0) rfl ?_
    refine i_287_36 (v := Value.int (xs 0)) W0_0 (by decide) (by decide) rfl ?_
    refine i_287_37 ?_
    refine i_287_39 (c := ((xs 0) &&& (31 : Int32))) rfl ?_
    refine i_287_40_17 (by omega) ?_
    refine i_287_1652 (x := 7) rfl ?_
    refine i_287_1653 (x := 0) rfl ?_
    refine i_287_1654 (x := 0) rfl ?_
    refine i_287_1656 ?_
    refine i_287_1657 (c := 1) (by decide) ?_
    refine i_287_1658 (v := Value.int (xs 1)) W0_0 (by decide) (by decide) rfl ?_
    refine i_287_1659 (x := 0) rfl ?_
    refine i_287_1660 (x := 0) rfl ?_
    refine i_287_1662 ?_
    refine i_287_1663 (c := 2) (by decide) ?_
    refine i_287_1664 (v := Value.int (xs 2)) W0_0 (by decide) (by decide) rfl ?_
    refine i_287_1665 (x := 194) rfl ?_
    refine i_287_1666 (Nat.le_of_ble_eq_true rfl) (p_129_2 W0_7 (by omega) (by omega) (by omega) (by omega)) ?_
    refine i_287_1669 (lv2 := [(5, Value.int 1), (4, Value.int 0), (3, Value.ref 194), (2, Value.ref 128), (1, Value.ref 7), (0, Value.ref 0)]) rfl ?_
    refine i_287_1671 (x := 128) rfl ?_
    refine i_287_1672 (x := 0) rfl ?_
    refine i_287_1673 (x := 0) rfl ?_
    refine i_287_1675 ?_
    refine i_287_1676 (c := 1) (by decide) ?_
    refine i_287_1677 (v := Value.int (xs 1)) (xga W0_0) (by decide) (by decide) rfl ?_
    refine i_287_1678 (x := 0) rfl ?_
    refine i_287_1679 (x := 0) rfl ?_
    refine i_287_1681 ?_
    refine i_287_1682 (c := 2) (by decide) ?_
    refine i_287_1683 (v := Value.int (xs 2)) (xga W0_0) (by decide) (by decide) rfl ?_
    refine i_287_1684 (xga W0_128) (Nat.le_of_ble_eq_true rfl) (p_249_2 (xga W0_128) (by omega) (by omega) (by omega) (by omega)) ?_
    refine i_287_1687 (lv2 := [(6, Value.long 0), (5, Value.int 1), (4, Value.int 0), (3, Value.ref 194), (2, Value.ref 128), (1, Value.ref 7), (0, Value.ref 0)]) rfl ?_
    refine i_287_1689 (x := 128) rfl ?_
    refine i_287_1690 (xgs (xga (xgs (xga W0_128)))) (Nat.le_of_ble_eq_true rfl) (p_165_0 (xgs (xga (xgs (xga W0_128))))) ?_
    refine i_287_1693 (x := 1) rfl ?_
    refine i_287_1695 (fun _ => ?_) (fun h => absurd h (by decide))
    refine i_287_1700 (x := 1) rfl ?_
    refine i_287_1702 (fun _ => ?_) (fun h => absurd h (by decide))
    refine i_287_1716 ?_
    refine i_287_2154 (x := 0) (c := 6) (lv2 := [(4, Value.int 6), (6, Value.long 0), (5, Value.int 1), (3, Value.ref 194), (2, Value.ref 128), (1, Value.ref 7), (0, Value.ref 0)]) rfl (by decide) rfl ?_
    refine i_287_2157 ?_
    refine i_287_23 (x := 6) rfl ?_
    refine i_287_25 (x := 0) rfl ?_
    refine i_287_26 (c := 6) (xgn (by decide) (xga (xgn (by decide) (xga W0_0)))) (by decide) ?_
    refine i_287_27 ?_
    refine i_287_29 (c := 0) (by decide) ?_
    refine i_287_30 (fun _ => ?_) (fun h => absurd h (by decide))
    refine i_287_2160 ?_
    exact i_287_2161 rfl ⟨rfl, rfl⟩
  · refine xLs.set ?_ (xga (xgs (xga W0_128))) xcs_o
    refine xLs.app (n := 219) (z := 199994) (m := 6) ?_ rfl
    refine xLs.set ?_ (xga W0_128) xcs_o
    refine xLs.app (n := 218) (z := 199988) (m := 6) ?_ rfl
    exact ⟨Nat.le_trans (Nat.le_of_eq W0_len) (by decide), Nat.le_trans (Nat.le_of_eq W0_sz) (by decide)⟩
theorem p_17_3 {d : Nat} {w : xW} (hw0 : w[10]? = some (Sum.inr (2, [Value.int 53, Value.int 0, Value.int 0, Value.int 0, Value.ref 11]))) : xRun d 17 [Value.ref 10, Value.int 0, Value.int 0] w (.inl (some (Value.int 0))) (w.set 10 (Sum.inr (2, [Value.int 53, Value.int 0, Value.int 0, Value.int 0, Value.ref 11]))) := by
  refine xRun.of ?_
  refine i_17_0 (x := 10) rfl ?_
  refine i_17_1 (x := 0) rfl ?_
  refine i_17_2 (fs2 := [Value.int 53, Value.int 0, Value.int 0, Value.int 0, Value.ref 11]) hw0 (Nat.le_of_ble_eq_true rfl) rfl (by decide) ?_
  refine i_17_5 (x := 10) rfl ?_
  refine i_17_6 (x := 0) rfl ?_
  refine i_17_7 (fs2 := [Value.int 53, Value.int 0, Value.int 0, Value.int 0, Value.ref 11]) (xgs hw0) rfl (Nat.le_of_ble_eq_true rfl) rfl (by decide) ?_
  refine xEv.world (List.set_set _) ?_
  refine i_17_10 ?_
  exact i_17_11 ⟨rfl, rfl⟩
theorem p_131_0 {d : Nat} {w : xW} (hw0 : w[10]? = some (Sum.inr (2, [Value.int 53, Value.int 0, Value.int 0, Value.int 0, Value.ref 11]))) : xRun d 131 [Value.ref 10] w (.inl (some (Value.long 9221120237041090560))) w := by
  refine xRun.of ?_
  refine i_131_0 (x := 10) rfl ?_
  refine i_131_1 (v := Value.int 0) hw0 rfl ?_
  refine i_131_4 (fun h => absurd h (by decide)) (fun _ => ?_)
  refine i_131_7 ?_
  exact i_131_10 ⟨rfl, rfl⟩
theorem p_130_3 {d : Nat} {w : xW} {a0 : Int32} {a1 : Int32} {g0 : Nat → Value} {h0 : Nat} {h1 : Nat} (e0 : 0 ≤ a0.toInt) (e1 : a0.toInt < 16) (e2 : 0 ≤ a1.toInt) (e3 : a1.toInt ≤ 4) (hw4 : w[7]? = some (Sum.inr (0, [Value.ref 8, Value.ref 78, Value.ref 9, Value.ref 10, Value.ref 13, Value.ref 16, Value.ref 19, Value.ref 93, Value.ref 108, Value.ref 113, Value.ref 29, Value.int 0]))) (hw5 : w[8]? = some (Sum.inl (4, 16, g0))) (hg6 : g0 a0.toInt.toNat = Value.ref h0) (hw7 : w[h0]? = some (Sum.inr (2, [Value.int 64, Value.int 0, Value.int 0, Value.int 0, Value.ref h1]))) (hw8 : w[10]? = some (Sum.inr (2, [Value.int 53, Value.int 0, Value.int 0, Value.int 0, Value.ref 11]))) : xRun (d + 1) 130 [Value.ref 7, Value.int a0, Value.int a1] w (.inl (some (Value.long 9221120237041090560))) (w.set 10 (Sum.inr (2, [Value.int 53, Value.int 0, Value.int 0, Value.int 0, Value.ref 11]))) := by
  refine xRun.of ?_
  refine i_130_0 (x := a0) rfl ?_
  refine i_130_1 (Nat.le_of_ble_eq_true rfl) (p_15_1 e0 e1) ?_
  refine i_130_4 (fun h => absurd h (by decide)) (fun _ => ?_)
  refine i_130_7 (x := a1) rfl ?_
  refine i_130_8 (Nat.le_of_ble_eq_true rfl) (p_22_2 e2 e3) ?_
  refine i_130_11 (fun _ => ?_) (fun h => absurd h (by decide))
  refine i_130_22 (x := 7) rfl ?_
  refine i_130_23 (v := Value.ref 8) hw4 rfl ?_
  refine i_130_26 (x := a0) rfl ?_
  refine i_130_27 (v := Value.ref h0) hw5 e0 e1 hg6 ?_
  refine i_130_28 (lv2 := [(3, Value.ref h0), (0, Value.ref 7), (1, Value.int a0), (2, Value.int a1)]) rfl ?_
  refine i_130_29 (x := h0) rfl ?_
  refine i_130_30 (v := Value.int 0) hw7 rfl ?_
  refine i_130_33 ?_
  refine i_130_34 (fun _ => ?_) (fun h => absurd h (by decide))
  refine i_130_65 (x := 7) rfl ?_
  refine i_130_66 (v := Value.ref 10) hw4 rfl ?_
  refine i_130_69 (x := h0) rfl ?_
  refine i_130_70 (v := Value.int 0) hw7 rfl ?_
  refine i_130_73 (x := h0) rfl ?_
  refine i_130_74 (v := Value.int 0) hw7 rfl ?_
  refine i_130_77 hw8 (Nat.le_of_ble_eq_true rfl) (p_17_3 hw8) ?_
  refine i_130_80 rfl ?_
  refine i_130_81 (x := 7) rfl ?_
  refine i_130_82 (v := Value.ref 10) (xgn (by decide) hw4) rfl ?_
  refine i_130_85 (xgs hw8) (Nat.le_of_ble_eq_true rfl) (p_131_0 (xgs hw8)) ?_
  exact i_130_88 ⟨rfl, rfl⟩
theorem p_129_3 {d : Nat} {w : xW} {a0 : Int32} {a1 : Int32} {g0 : Nat → Value} {h0 : Nat} {h1 : Nat} (hw0 : w[7]? = some (Sum.inr (0, [Value.ref 8, Value.ref 78, Value.ref 9, Value.ref 10, Value.ref 13, Value.ref 16, Value.ref 19, Value.ref 93, Value.ref 108, Value.ref 113, Value.ref 29, Value.int 0]))) (e1 : 0 ≤ a0.toInt) (e2 : a0.toInt < 16) (e3 : 0 ≤ a1.toInt) (e4 : a1.toInt ≤ 4) (hw5 : w[8]? = some (Sum.inl (4, 16, g0))) (hg6 : g0 a0.toInt.toNat = Value.ref h0) (hw7 : w[h0]? = some (Sum.inr (2, [Value.int 64, Value.int 0, Value.int 0, Value.int 0, Value.ref h1]))) (hw8 : w[10]? = some (Sum.inr (2, [Value.int 53, Value.int 0, Value.int 0, Value.int 0, Value.ref 11]))) (hw9 : w[194]? = some (Sum.inl (3, 1, fun _ => Value.long 0))) : xRun (d + 2) 129 [Value.ref 7, Value.int a0, Value.int a1, Value.ref 194] w (.inl (some (Value.int 0))) ((w.set 10 (Sum.inr (2, [Value.int 53, Value.int 0, Value.int 0, Value.int 0, Value.ref 11]))).set 194 (Sum.inl (3, 1, xup (fun _ => Value.long 0) (0 : Int32).toInt.toNat (Value.long 9221120237041090560)))) := by
  refine xRun.of ?_
  refine i_129_0 (x := 194) rfl ?_
  refine i_129_1 ?_
  refine i_129_2 (x := 7) rfl ?_
  refine i_129_3 (x := a0) rfl ?_
  refine i_129_4 (x := a1) rfl ?_
  refine i_129_5 hw0 (Nat.le_of_ble_eq_true rfl) (p_130_3 e1 e2 e3 e4 hw0 hw5 hg6 hw7 hw8) ?_
  refine i_129_8 (v := Value.long 9221120237041090560) (xgn (by decide) hw9) (by decide) (by decide) (by decide) rfl ?_
  refine i_129_9 ?_
  refine i_129_16 ?_
  exact i_129_17 ⟨rfl, rfl⟩
theorem p_250_3 {d : Nat} {w : xW} {a0 : Int32} {a1 : Int32} (e0 : 0 ≤ a0.toInt) (e1 : a0.toInt ≤ 15) (e2 : 0 ≤ a1.toInt) (e3 : a1.toInt ≤ 4) (hw4 : w[128]? = some (Sum.inr (12, [Value.ref 129, Value.ref 131, Value.ref 133, Value.ref 135, Value.ref 137, Value.ref 139, Value.ref 141, Value.ref 143, Value.ref 145, Value.ref 147, Value.ref 149, Value.ref 151, Value.ref 153, Value.ref 154, Value.ref 155, Value.ref 156, Value.ref 157, Value.int (-16384), Value.int 16384, Value.int 0, Value.int 0, Value.int 0, Value.ref 158, Value.ref 159, Value.int 0, Value.int 0, Value.int 0, Value.int 0, Value.int 0, Value.int 0, Value.int 0, Value.int 0]))) (hw5 : w[156]? = some (Sum.inl (2, 17, fun _ => Value.int 0))) (e6 : a0.toInt < 17) (hw7 : w[154]? = some (Sum.inl (0, 17, fun _ => Value.int 0))) : xRun (d + 2) 250 [Value.ref 128, Value.int a0, Value.int a1] w (.inl (some (Value.long 9221120237041090560))) w := by
  refine xRun.of ?_
  refine i_250_0 (x := a0) rfl ?_
  refine i_250_1 (Nat.le_of_ble_eq_true rfl) (p_168_1 e0 e1) ?_
  refine i_250_4 (x := a1) rfl ?_
  refine i_250_5 (Nat.le_of_ble_eq_true rfl) (p_178_2 e2 e3) ?_
  refine i_250_8 (x := 128) rfl ?_
  refine i_250_9 (v := Value.ref 156) hw4 rfl ?_
  refine i_250_12 (x := a0) rfl ?_
  refine i_250_13z (v := Value.int 0) hw5 e0 e6 rfl ?_
  refine i_250_14 (fun _ => ?_) (fun h => absurd h (by decide))
  refine i_250_23 ?_
  refine i_250_24 (lv2 := [(3, Value.long 0), (0, Value.ref 128), (1, Value.int a0), (2, Value.int a1)]) rfl ?_
  refine i_250_25 (x := 128) rfl ?_
  refine i_250_26 (v := Value.ref 154) hw4 rfl ?_
  refine i_250_29 (x := a0) rfl ?_
  refine i_250_30 (v := Value.int 0) hw7 e0 e6 rfl ?_
  refine i_250_31 (fun h => absurd h (by decide)) (fun _ => ?_)
  refine i_250_34 ?_
  exact i_250_37 ⟨rfl, rfl⟩
theorem p_249_3 {d : Nat} {w : xW} {a0 : Int32} {a1 : Int32} (hw0 : w[128]? = some (Sum.inr (12, [Value.ref 129, Value.ref 131, Value.ref 133, Value.ref 135, Value.ref 137, Value.ref 139, Value.ref 141, Value.ref 143, Value.ref 145, Value.ref 147, Value.ref 149, Value.ref 151, Value.ref 153, Value.ref 154, Value.ref 155, Value.ref 156, Value.ref 157, Value.int (-16384), Value.int 16384, Value.int 0, Value.int 0, Value.int 0, Value.ref 158, Value.ref 159, Value.int 0, Value.int 0, Value.int 0, Value.int 0, Value.int 0, Value.int 0, Value.int 0, Value.int 0]))) (e1 : 0 ≤ a0.toInt) (e2 : a0.toInt ≤ 15) (e3 : 0 ≤ a1.toInt) (e4 : a1.toInt ≤ 4) (hw5 : w[156]? = some (Sum.inl (2, 17, fun _ => Value.int 0))) (e6 : a0.toInt < 17) (hw7 : w[154]? = some (Sum.inl (0, 17, fun _ => Value.int 0))) : xRun (d + 3) 249 [Value.ref 128, Value.int a0, Value.int a1] w (.inl (some (Value.long 9221120237041090560))) (w.set 128 (Sum.inr (12, [Value.ref 129, Value.ref 131, Value.ref 133, Value.ref 135, Value.ref 137, Value.ref 139, Value.ref 141, Value.ref 143, Value.ref 145, Value.ref 147, Value.ref 149, Value.ref 151, Value.ref 153, Value.ref 154, Value.ref 155, Value.ref 156, Value.ref 157, Value.int (-16384), Value.int 16384, Value.int 0, Value.int 0, Value.int 0, Value.ref 158, Value.ref 159, Value.int 0, Value.int 0, Value.int 0, Value.int 0, Value.int 0, Value.int 0, Value.int 0, Value.int 0]))) := by
  refine xRun.of ?_
  refine i_249_0 (x := 128) rfl ?_
  refine i_249_1 ?_
  refine i_249_2 (fs2 := [Value.ref 129, Value.ref 131, Value.ref 133, Value.ref 135, Value.ref 137, Value.ref 139, Value.ref 141, Value.ref 143, Value.ref 145, Value.ref 147, Value.ref 149, Value.ref 151, Value.ref 153, Value.ref 154, Value.ref 155, Value.ref 156, Value.ref 157, Value.int (-16384), Value.int 16384, Value.int 0, Value.int 0, Value.int 0, Value.ref 158, Value.ref 159, Value.int 0, Value.int 0, Value.int 0, Value.int 0, Value.int 0, Value.int 0, Value.int 0, Value.int 0]) hw0 (Nat.le_of_ble_eq_true rfl) rfl (by decide) ?_
  refine i_249_5 (x := 128) rfl ?_
  refine i_249_6 (x := a0) rfl ?_
  refine i_249_7 (x := a1) rfl ?_
  refine i_249_8 (xgs hw0) (Nat.le_of_ble_eq_true rfl) (p_250_3 e1 e2 e3 e4 (xgs hw0) (xgn (by decide) hw5) e6 (xgn (by decide) hw7)) ?_
  exact i_249_11 ⟨rfl, rfl⟩
theorem o_17_3 {d : Nat} {xs : Nat → Int32} (h0 : ((xs 0) &&& (31 : Int32)).toInt = 17) (c0 : 0 ≤ (xs 1).toInt) (c1 : (xs 1).toInt < 16) (c2 : 0 ≤ (xs 2).toInt) (c3 : (xs 2).toInt ≤ 4) : ∃ w1, xEv (d + 20) 287 23 [(4, Value.int 0), (3, Value.ref 194), (2, Value.ref 128), (1, Value.ref 7), (0, Value.ref 0)] [] (W0 6 xs) (fun o' w' => o' = .inl (some (Value.int 1)) ∧ w' = w1) ∧ w1.length ≤ 220 ∧ xsz w1 ≤ 200000 := by
  refine ⟨((((W0 6 xs).set 10 (Sum.inr (2, [Value.int 53, Value.int 0, Value.int 0, Value.int 0, Value.ref 11]))).set 194 (Sum.inl (3, 1, xup (fun _ => Value.long 0) (0 : Int32).toInt.toNat (Value.long 9221120237041090560)))).set 128 (Sum.inr (12, [Value.ref 129, Value.ref 131, Value.ref 133, Value.ref 135, Value.ref 137, Value.ref 139, Value.ref 141, Value.ref 143, Value.ref 145, Value.ref 147, Value.ref 149, Value.ref 151, Value.ref 153, Value.ref 154, Value.ref 155, Value.ref 156, Value.ref 157, Value.int (-16384), Value.int 16384, Value.int 0, Value.int 0, Value.int 0, Value.ref 158, Value.ref 159, Value.int 0, Value.int 0, Value.int 0, Value.int 0, Value.int 0, Value.int 0, Value.int 0, Value.int 0]))), ?_, (show xLs _ 220 200000 from ?_)⟩
  · refine i_287_23 (x := 0) rfl ?_
    refine i_287_25 (x := 0) rfl ?_
    refine i_287_26 (c := 6) W0_0 (by decide) ?_
    refine i_287_27 ?_
    refine i_287_29 (c := 0) (by decide) ?_
    refine i_287_30 (fun h => absurd h (by decide)) (fun _ => ?_)
    refine i_287_33 (x := 0) rfl ?_
    refine i_287_34 (x := 0) rfl ?_
    refine i_287_36 (v := Value.int (xs 0)) W0_0 (by decide) (by decide) rfl ?_
    refine i_287_37 ?_
    refine i_287_39 (c := ((xs 0) &&& (31 : Int32))) rfl ?_
    refine i_287_40_17 (by omega) ?_
    refine i_287_1652 (x := 7) rfl ?_
    refine i_287_1653 (x := 0) rfl ?_
    refine i_287_1654 (x := 0) rfl ?_
    refine i_287_1656 ?_
    refine i_287_1657 (c := 1) (by decide) ?_
    refine i_287_1658 (v := Value.int (xs 1)) W0_0 (by decide) (by decide) rfl ?_
    refine i_287_1659 (x := 0) rfl ?_
    refine i_287_1660 (x := 0) rfl ?_
    refine i_287_1662 ?_
    refine i_287_1663 (c := 2) (by decide) ?_
    refine i_287_1664 (v := Value.int (xs 2)) W0_0 (by decide) (by decide) rfl ?_
    refine i_287_1665 (x := 194) rfl ?_
    refine i_287_1666 (Nat.le_of_ble_eq_true rfl) (p_129_3 W0_7 (by omega) (by omega) (by omega) (by omega) W0_8 (greg_at (by omega)) (W0_reg (by omega)) W0_10 W0_194) ?_
    refine i_287_1669 (lv2 := [(5, Value.int 0), (4, Value.int 0), (3, Value.ref 194), (2, Value.ref 128), (1, Value.ref 7), (0, Value.ref 0)]) rfl ?_
    refine i_287_1671 (x := 128) rfl ?_
    refine i_287_1672 (x := 0) rfl ?_
    refine i_287_1673 (x := 0) rfl ?_
    refine i_287_1675 ?_
    refine i_287_1676 (c := 1) (by decide) ?_
    refine i_287_1677 (v := Value.int (xs 1)) (xgn (by decide) (xgn (by decide) W0_0)) (by decide) (by decide) rfl ?_
    refine i_287_1678 (x := 0) rfl ?_
    refine i_287_1679 (x := 0) rfl ?_
    refine i_287_1681 ?_
    refine i_287_1682 (c := 2) (by decide) ?_
    refine i_287_1683 (v := Value.int (xs 2)) (xgn (by decide) (xgn (by decide) W0_0)) (by decide) (by decide) rfl ?_
    refine i_287_1684 (xgn (by decide) (xgn (by decide) W0_128)) (Nat.le_of_ble_eq_true rfl) (p_249_3 (xgn (by decide) (xgn (by decide) W0_128)) (by omega) (by omega) (by omega) (by omega) (xgn (by decide) (xgn (by decide) W0_156)) (by omega) (xgn (by decide) (xgn (by decide) W0_154))) ?_
    refine i_287_1687 (lv2 := [(6, Value.long 9221120237041090560), (5, Value.int 0), (4, Value.int 0), (3, Value.ref 194), (2, Value.ref 128), (1, Value.ref 7), (0, Value.ref 0)]) rfl ?_
    refine i_287_1689 (x := 128) rfl ?_
    refine i_287_1690 (xgs (xgn (by decide) (xgn (by decide) W0_128))) (Nat.le_of_ble_eq_true rfl) (p_165_1 (xgs (xgn (by decide) (xgn (by decide) W0_128)))) ?_
    refine i_287_1693 (x := 0) rfl ?_
    refine i_287_1695 (fun _ => ?_) (fun h => absurd h (by decide))
    refine i_287_1700 (x := 0) rfl ?_
    refine i_287_1702 (fun h => absurd h (by decide)) (fun _ => ?_)
    refine i_287_1705 (x := 194) rfl ?_
    refine i_287_1706 ?_
    refine i_287_1707 (v := Value.long 9221120237041090560) (xgn (by decide) (xgs (xgn (by decide) W0_194))) (by decide) (by decide) xup_s ?_
    refine i_287_1708 (x := 9221120237041090560) rfl ?_
    refine i_287_1710 (c := 0) (by decide) ?_
    refine i_287_1711 (fun _ => ?_) (fun h => absurd h (by decide))
    refine i_287_1716 ?_
    refine i_287_2154 (x := 0) (c := 6) (lv2 := [(4, Value.int 6), (6, Value.long 9221120237041090560), (5, Value.int 0), (3, Value.ref 194), (2, Value.ref 128), (1, Value.ref 7), (0, Value.ref 0)]) rfl (by decide) rfl ?_
    refine i_287_2157 ?_
    refine i_287_23 (x := 6) rfl ?_
    refine i_287_25 (x := 0) rfl ?_
    refine i_287_26 (c := 6) (xgn (by decide) (xgn (by decide) (xgn (by decide) W0_0))) (by decide) ?_
    refine i_287_27 ?_
    refine i_287_29 (c := 0) (by decide) ?_
    refine i_287_30 (fun _ => ?_) (fun h => absurd h (by decide))
    refine i_287_2160 ?_
    exact i_287_2161 rfl ⟨rfl, rfl⟩
  · refine xLs.set ?_ (xgn (by decide) (xgn (by decide) W0_128)) xcs_o
    refine xLs.set ?_ (xgn (by decide) W0_194) xcs_a
    refine xLs.set ?_ (W0_10) xcs_o
    exact ⟨Nat.le_trans (Nat.le_of_eq W0_len) (by decide), Nat.le_trans (Nat.le_of_eq W0_sz) (by decide)⟩
theorem p_130_4 {d : Nat} {w : xW} {a0 : Int32} {a1 : Int32} (e0 : 0 ≤ a0.toInt) (e1 : 16 ≤ a0.toInt) : xRun (d + 6) 130 [Value.ref 7, Value.int a0, Value.int a1] w (.inr w.length) (w ++ [Sum.inr (14, [])]) := by
  refine xRun.of ?_
  refine i_130_0 (x := a0) rfl ?_
  refine i_130_1 (Nat.le_of_ble_eq_true rfl) (p_15_2 e0 e1) ?_
  refine i_130_4 (fun _ => ?_) (fun h => absurd h (by decide))
  exact i_130_14 (by omega) (Nat.le_of_ble_eq_true rfl) ⟨rfl, rfl⟩
theorem p_129_4 {d : Nat} {w : xW} {a0 : Int32} {a1 : Int32} (hw0 : w[7]? = some (Sum.inr (0, [Value.ref 8, Value.ref 78, Value.ref 9, Value.ref 10, Value.ref 13, Value.ref 16, Value.ref 19, Value.ref 93, Value.ref 108, Value.ref 113, Value.ref 29, Value.int 0]))) (e1 : 0 ≤ a0.toInt) (e2 : 16 ≤ a0.toInt) : xRun (d + 7) 129 [Value.ref 7, Value.int a0, Value.int a1, Value.ref 194] w (.inl (some (Value.int 1))) (w ++ [Sum.inr (14, [])]) := by
  refine xRun.of ?_
  refine i_129_0 (x := 194) rfl ?_
  refine i_129_1 ?_
  refine i_129_2 (x := 7) rfl ?_
  refine i_129_3 (x := a0) rfl ?_
  refine i_129_4 (x := a1) rfl ?_
  refine j_129_5 hw0 (Nat.le_of_ble_eq_true rfl) (p_130_4 e1 e2) (xDone.c xgl rfl rfl ?_)
  refine i_129_12 (lv2 := [(4, Value.ref w.length), (0, Value.ref 7), (1, Value.int a0), (2, Value.int a1), (3, Value.ref 194)]) rfl ?_
  refine i_129_14 ?_
  exact i_129_15 ⟨rfl, rfl⟩
theorem p_250_4 {d : Nat} {w : xW} {a0 : Int32} {a1 : Int32} (e0 : 0 ≤ a0.toInt) (e1 : 15 < a0.toInt) : xRun (d + 8) 250 [Value.ref 128, Value.int a0, Value.int a1] w (.inr w.length) (w ++ [Sum.inr (14, [])]) := by
  refine xRun.of ?_
  refine i_250_0 (x := a0) rfl ?_
  exact j_250_1 (Nat.le_of_ble_eq_true rfl) (p_168_2 e0 e1) (xDone.t xgl rfl rfl ⟨rfl, rfl⟩)
theorem p_249_4 {d : Nat} {w : xW} {a0 : Int32} {a1 : Int32} (hw0 : w[128]? = some (Sum.inr (12, [Value.ref 129, Value.ref 131, Value.ref 133, Value.ref 135, Value.ref 137, Value.ref 139, Value.ref 141, Value.ref 143, Value.ref 145, Value.ref 147, Value.ref 149, Value.ref 151, Value.ref 153, Value.ref 154, Value.ref 155, Value.ref 156, Value.ref 157, Value.int (-16384), Value.int 16384, Value.int 0, Value.int 0, Value.int 0, Value.ref 158, Value.ref 159, Value.int 0, Value.int 0, Value.int 0, Value.int 0, Value.int 0, Value.int 0, Value.int 0, Value.int 0]))) (e1 : 0 ≤ a0.toInt) (e2 : 15 < a0.toInt) : xRun (d + 9) 249 [Value.ref 128, Value.int a0, Value.int a1] w (.inl (some (Value.long 0))) (((w.set 128 (Sum.inr (12, [Value.ref 129, Value.ref 131, Value.ref 133, Value.ref 135, Value.ref 137, Value.ref 139, Value.ref 141, Value.ref 143, Value.ref 145, Value.ref 147, Value.ref 149, Value.ref 151, Value.ref 153, Value.ref 154, Value.ref 155, Value.ref 156, Value.ref 157, Value.int (-16384), Value.int 16384, Value.int 0, Value.int 0, Value.int 0, Value.ref 158, Value.ref 159, Value.int 0, Value.int 0, Value.int 0, Value.int 0, Value.int 0, Value.int 0, Value.int 0, Value.int 0]))) ++ [Sum.inr (14, [])]).set 128 (Sum.inr (12, [Value.ref 129, Value.ref 131, Value.ref 133, Value.ref 135, Value.ref 137, Value.ref 139, Value.ref 141, Value.ref 143, Value.ref 145, Value.ref 147, Value.ref 149, Value.ref 151, Value.ref 153, Value.ref 154, Value.ref 155, Value.ref 156, Value.ref 157, Value.int (-16384), Value.int 16384, Value.int 0, Value.int 0, Value.int 0, Value.ref 158, Value.ref 159, Value.int 0, Value.int 0, Value.int 0, Value.int 0, Value.int 0, Value.int 0, Value.int 0, Value.int 1]))) := by
  refine xRun.of ?_
  refine i_249_0 (x := 128) rfl ?_
  refine i_249_1 ?_
  refine i_249_2 (fs2 := [Value.ref 129, Value.ref 131, Value.ref 133, Value.ref 135, Value.ref 137, Value.ref 139, Value.ref 141, Value.ref 143, Value.ref 145, Value.ref 147, Value.ref 149, Value.ref 151, Value.ref 153, Value.ref 154, Value.ref 155, Value.ref 156, Value.ref 157, Value.int (-16384), Value.int 16384, Value.int 0, Value.int 0, Value.int 0, Value.ref 158, Value.ref 159, Value.int 0, Value.int 0, Value.int 0, Value.int 0, Value.int 0, Value.int 0, Value.int 0, Value.int 0]) hw0 (Nat.le_of_ble_eq_true rfl) rfl (by decide) ?_
  refine i_249_5 (x := 128) rfl ?_
  refine i_249_6 (x := a0) rfl ?_
  refine i_249_7 (x := a1) rfl ?_
  refine j_249_8 (xgs hw0) (Nat.le_of_ble_eq_true rfl) (p_250_4 e1 e2) (xDone.c xgl rfl rfl ?_)
  refine i_249_12 (lv2 := [(3, Value.ref ((w.set 128 (Sum.inr (12, [Value.ref 129, Value.ref 131, Value.ref 133, Value.ref 135, Value.ref 137, Value.ref 139, Value.ref 141, Value.ref 143, Value.ref 145, Value.ref 147, Value.ref 149, Value.ref 151, Value.ref 153, Value.ref 154, Value.ref 155, Value.ref 156, Value.ref 157, Value.int (-16384), Value.int 16384, Value.int 0, Value.int 0, Value.int 0, Value.ref 158, Value.ref 159, Value.int 0, Value.int 0, Value.int 0, Value.int 0, Value.int 0, Value.int 0, Value.int 0, Value.int 0]))).length)), (0, Value.ref 128), (1, Value.int a0), (2, Value.int a1)]) rfl ?_
  refine i_249_13 (x := 128) rfl ?_
  refine i_249_14 ?_
  refine i_249_15 (fs2 := [Value.ref 129, Value.ref 131, Value.ref 133, Value.ref 135, Value.ref 137, Value.ref 139, Value.ref 141, Value.ref 143, Value.ref 145, Value.ref 147, Value.ref 149, Value.ref 151, Value.ref 153, Value.ref 154, Value.ref 155, Value.ref 156, Value.ref 157, Value.int (-16384), Value.int 16384, Value.int 0, Value.int 0, Value.int 0, Value.ref 158, Value.ref 159, Value.int 0, Value.int 0, Value.int 0, Value.int 0, Value.int 0, Value.int 0, Value.int 0, Value.int 1]) (xga (xgs hw0)) (Nat.le_of_ble_eq_true rfl) rfl (by decide) ?_
  refine i_249_18 ?_
  exact i_249_19 ⟨rfl, rfl⟩
theorem o_17_4 {d : Nat} {xs : Nat → Int32} (h0 : ((xs 0) &&& (31 : Int32)).toInt = 17) (c0 : 0 ≤ (xs 1).toInt) (c1 : 16 ≤ (xs 1).toInt) : ∃ w1, xEv (d + 20) 287 23 [(4, Value.int 0), (3, Value.ref 194), (2, Value.ref 128), (1, Value.ref 7), (0, Value.ref 0)] [] (W0 6 xs) (fun o' w' => o' = .inl (some (Value.int 1)) ∧ w' = w1) ∧ w1.length ≤ 220 ∧ xsz w1 ≤ 200000 := by
  refine ⟨(((((W0 6 xs) ++ [Sum.inr (14, [])]).set 128 (Sum.inr (12, [Value.ref 129, Value.ref 131, Value.ref 133, Value.ref 135, Value.ref 137, Value.ref 139, Value.ref 141, Value.ref 143, Value.ref 145, Value.ref 147, Value.ref 149, Value.ref 151, Value.ref 153, Value.ref 154, Value.ref 155, Value.ref 156, Value.ref 157, Value.int (-16384), Value.int 16384, Value.int 0, Value.int 0, Value.int 0, Value.ref 158, Value.ref 159, Value.int 0, Value.int 0, Value.int 0, Value.int 0, Value.int 0, Value.int 0, Value.int 0, Value.int 0]))) ++ [Sum.inr (14, [])]).set 128 (Sum.inr (12, [Value.ref 129, Value.ref 131, Value.ref 133, Value.ref 135, Value.ref 137, Value.ref 139, Value.ref 141, Value.ref 143, Value.ref 145, Value.ref 147, Value.ref 149, Value.ref 151, Value.ref 153, Value.ref 154, Value.ref 155, Value.ref 156, Value.ref 157, Value.int (-16384), Value.int 16384, Value.int 0, Value.int 0, Value.int 0, Value.ref 158, Value.ref 159, Value.int 0, Value.int 0, Value.int 0, Value.int 0, Value.int 0, Value.int 0, Value.int 0, Value.int 1]))), ?_, (show xLs _ 220 200000 from ?_)⟩
  · refine i_287_23 (x := 0) rfl ?_
    refine i_287_25 (x := 0) rfl ?_
    refine i_287_26 (c := 6) W0_0 (by decide) ?_
    refine i_287_27 ?_
    refine i_287_29 (c := 0) (by decide) ?_
    refine i_287_30 (fun h => absurd h (by decide)) (fun _ => ?_)
    refine i_287_33 (x := 0) rfl ?_
    refine i_287_34 (x := 0) rfl ?_
    refine i_287_36 (v := Value.int (xs 0)) W0_0 (by decide) (by decide) rfl ?_
    refine i_287_37 ?_
    refine i_287_39 (c := ((xs 0) &&& (31 : Int32))) rfl ?_
    refine i_287_40_17 (by omega) ?_
    refine i_287_1652 (x := 7) rfl ?_
    refine i_287_1653 (x := 0) rfl ?_
    refine i_287_1654 (x := 0) rfl ?_
    refine i_287_1656 ?_
    refine i_287_1657 (c := 1) (by decide) ?_
    refine i_287_1658 (v := Value.int (xs 1)) W0_0 (by decide) (by decide) rfl ?_
    refine i_287_1659 (x := 0) rfl ?_
    refine i_287_1660 (x := 0) rfl ?_
    refine i_287_1662 ?_
    refine i_287_1663 (c := 2) (by decide) ?_
    refine i_287_1664 (v := Value.int (xs 2)) W0_0 (by decide) (by decide) rfl ?_
    refine i_287_1665 (x := 194) rfl ?_
    refine i_287_1666 (Nat.le_of_ble_eq_true rfl) (p_129_4 W0_7 (by omega) (by omega)) ?_
    refine i_287_1669 (lv2 := [(5, Value.int 1), (4, Value.int 0), (3, Value.ref 194), (2, Value.ref 128), (1, Value.ref 7), (0, Value.ref 0)]) rfl ?_
    refine i_287_1671 (x := 128) rfl ?_
    refine i_287_1672 (x := 0) rfl ?_
    refine i_287_1673 (x := 0) rfl ?_
    refine i_287_1675 ?_
    refine i_287_1676 (c := 1) (by decide) ?_
    refine i_287_1677 (v := Value.int (xs 1)) (xga W0_0) (by decide) (by decide) rfl ?_
    refine i_287_1678 (x := 0) rfl ?_
    refine i_287_1679 (x := 0) rfl ?_
    refine i_287_1681 ?_
    refine i_287_1682 (c := 2) (by decide) ?_
    refine i_287_1683 (v := Value.int (xs 2)) (xga W0_0) (by decide) (by decide) rfl ?_
    refine i_287_1684 (xga W0_128) (Nat.le_of_ble_eq_true rfl) (p_249_4 (xga W0_128) (by omega) (by omega)) ?_
    refine i_287_1687 (lv2 := [(6, Value.long 0), (5, Value.int 1), (4, Value.int 0), (3, Value.ref 194), (2, Value.ref 128), (1, Value.ref 7), (0, Value.ref 0)]) rfl ?_
    refine i_287_1689 (x := 128) rfl ?_
    refine i_287_1690 (xgs (xga (xgs (xga W0_128)))) (Nat.le_of_ble_eq_true rfl) (p_165_0 (xgs (xga (xgs (xga W0_128))))) ?_
    refine i_287_1693 (x := 1) rfl ?_
    refine i_287_1695 (fun _ => ?_) (fun h => absurd h (by decide))
    refine i_287_1700 (x := 1) rfl ?_
    refine i_287_1702 (fun _ => ?_) (fun h => absurd h (by decide))
    refine i_287_1716 ?_
    refine i_287_2154 (x := 0) (c := 6) (lv2 := [(4, Value.int 6), (6, Value.long 0), (5, Value.int 1), (3, Value.ref 194), (2, Value.ref 128), (1, Value.ref 7), (0, Value.ref 0)]) rfl (by decide) rfl ?_
    refine i_287_2157 ?_
    refine i_287_23 (x := 6) rfl ?_
    refine i_287_25 (x := 0) rfl ?_
    refine i_287_26 (c := 6) (xgn (by decide) (xga (xgn (by decide) (xga W0_0)))) (by decide) ?_
    refine i_287_27 ?_
    refine i_287_29 (c := 0) (by decide) ?_
    refine i_287_30 (fun _ => ?_) (fun h => absurd h (by decide))
    refine i_287_2160 ?_
    exact i_287_2161 rfl ⟨rfl, rfl⟩
  · refine xLs.set ?_ (xga (xgs (xga W0_128))) xcs_o
    refine xLs.app (n := 219) (z := 199994) (m := 6) ?_ rfl
    refine xLs.set ?_ (xga W0_128) xcs_o
    refine xLs.app (n := 218) (z := 199988) (m := 6) ?_ rfl
    exact ⟨Nat.le_trans (Nat.le_of_eq W0_len) (by decide), Nat.le_trans (Nat.le_of_eq W0_sz) (by decide)⟩
theorem op_17 {d : Nat} {xs : Nat → Int32} (h0 : ((xs 0) &&& (31 : Int32)).toInt = 17) : ∃ w1, xEv (d + 20) 287 23 [(4, Value.int 0), (3, Value.ref 194), (2, Value.ref 128), (1, Value.ref 7), (0, Value.ref 0)] [] (W0 6 xs) (fun o' w' => o' = .inl (some (Value.int 1)) ∧ w' = w1) ∧ w1.length ≤ 220 ∧ xsz w1 ≤ 200000 := by
  rcases Int.lt_or_le (xs 1).toInt (0) with c0 | c0
  · exact o_17_0 h0 c0
  · rcases Int.lt_or_le (xs 1).toInt (16) with c1 | c1
    · rcases Int.lt_or_le (xs 2).toInt (0) with c2 | c2
      · exact o_17_1 h0 c0 c1 c2
      · rcases Int.lt_or_le (4) (xs 2).toInt with c3 | c3
        · exact o_17_2 h0 c0 c1 c2 c3
        · exact o_17_3 h0 c0 c1 c2 c3
    · exact o_17_4 h0 c0 c1
theorem p_133_0 {d : Nat} {w : xW} {a0 : Int32} {a1 : Int32} (e0 : a0.toInt < 0) : xRun (d + 6) 133 [Value.ref 7, Value.int a0, Value.int a1] w (.inr w.length) (w ++ [Sum.inr (14, [])]) := by
  refine xRun.of ?_
  refine i_133_0 (x := a0) rfl ?_
  refine i_133_1 (Nat.le_of_ble_eq_true rfl) (p_15_0 e0) ?_
  refine i_133_4 (fun _ => ?_) (fun h => absurd h (by decide))
  exact i_133_14 (by omega) (Nat.le_of_ble_eq_true rfl) ⟨rfl, rfl⟩
theorem p_132_0 {d : Nat} {w : xW} {a0 : Int32} {a1 : Int32} (hw0 : w[7]? = some (Sum.inr (0, [Value.ref 8, Value.ref 78, Value.ref 9, Value.ref 10, Value.ref 13, Value.ref 16, Value.ref 19, Value.ref 93, Value.ref 108, Value.ref 113, Value.ref 29, Value.int 0]))) (e1 : a0.toInt < 0) : xRun (d + 7) 132 [Value.ref 7, Value.int a0, Value.int a1, Value.ref 194] w (.inl (some (Value.int 1))) (w ++ [Sum.inr (14, [])]) := by
  refine xRun.of ?_
  refine i_132_0 (x := 194) rfl ?_
  refine i_132_1 ?_
  refine i_132_2 (x := 7) rfl ?_
  refine i_132_3 (x := a0) rfl ?_
  refine i_132_4 (x := a1) rfl ?_
  refine j_132_5 hw0 (Nat.le_of_ble_eq_true rfl) (p_133_0 e1) (xDone.c xgl rfl rfl ?_)
  refine i_132_12 (lv2 := [(4, Value.ref w.length), (0, Value.ref 7), (1, Value.int a0), (2, Value.int a1), (3, Value.ref 194)]) rfl ?_
  refine i_132_14 ?_
  exact i_132_15 ⟨rfl, rfl⟩
theorem p_252_0 {d : Nat} {w : xW} {a0 : Int32} {a1 : Int32} (e0 : a0.toInt < 0) : xRun (d + 8) 252 [Value.ref 128, Value.int a0, Value.int a1] w (.inr w.length) (w ++ [Sum.inr (14, [])]) := by
  refine xRun.of ?_
  refine i_252_0 (x := a0) rfl ?_
  exact j_252_1 (Nat.le_of_ble_eq_true rfl) (p_168_0 e0) (xDone.t xgl rfl rfl ⟨rfl, rfl⟩)
theorem p_251_0 {d : Nat} {w : xW} {a0 : Int32} {a1 : Int32} (hw0 : w[128]? = some (Sum.inr (12, [Value.ref 129, Value.ref 131, Value.ref 133, Value.ref 135, Value.ref 137, Value.ref 139, Value.ref 141, Value.ref 143, Value.ref 145, Value.ref 147, Value.ref 149, Value.ref 151, Value.ref 153, Value.ref 154, Value.ref 155, Value.ref 156, Value.ref 157, Value.int (-16384), Value.int 16384, Value.int 0, Value.int 0, Value.int 0, Value.ref 158, Value.ref 159, Value.int 0, Value.int 0, Value.int 0, Value.int 0, Value.int 0, Value.int 0, Value.int 0, Value.int 0]))) (e1 : a0.toInt < 0) : xRun (d + 9) 251 [Value.ref 128, Value.int a0, Value.int a1] w (.inl (some (Value.long 0))) (((w.set 128 (Sum.inr (12, [Value.ref 129, Value.ref 131, Value.ref 133, Value.ref 135, Value.ref 137, Value.ref 139, Value.ref 141, Value.ref 143, Value.ref 145, Value.ref 147, Value.ref 149, Value.ref 151, Value.ref 153, Value.ref 154, Value.ref 155, Value.ref 156, Value.ref 157, Value.int (-16384), Value.int 16384, Value.int 0, Value.int 0, Value.int 0, Value.ref 158, Value.ref 159, Value.int 0, Value.int 0, Value.int 0, Value.int 0, Value.int 0, Value.int 0, Value.int 0, Value.int 0]))) ++ [Sum.inr (14, [])]).set 128 (Sum.inr (12, [Value.ref 129, Value.ref 131, Value.ref 133, Value.ref 135, Value.ref 137, Value.ref 139, Value.ref 141, Value.ref 143, Value.ref 145, Value.ref 147, Value.ref 149, Value.ref 151, Value.ref 153, Value.ref 154, Value.ref 155, Value.ref 156, Value.ref 157, Value.int (-16384), Value.int 16384, Value.int 0, Value.int 0, Value.int 0, Value.ref 158, Value.ref 159, Value.int 0, Value.int 0, Value.int 0, Value.int 0, Value.int 0, Value.int 0, Value.int 0, Value.int 1]))) := by
  refine xRun.of ?_
  refine i_251_0 (x := 128) rfl ?_
  refine i_251_1 ?_
  refine i_251_2 (fs2 := [Value.ref 129, Value.ref 131, Value.ref 133, Value.ref 135, Value.ref 137, Value.ref 139, Value.ref 141, Value.ref 143, Value.ref 145, Value.ref 147, Value.ref 149, Value.ref 151, Value.ref 153, Value.ref 154, Value.ref 155, Value.ref 156, Value.ref 157, Value.int (-16384), Value.int 16384, Value.int 0, Value.int 0, Value.int 0, Value.ref 158, Value.ref 159, Value.int 0, Value.int 0, Value.int 0, Value.int 0, Value.int 0, Value.int 0, Value.int 0, Value.int 0]) hw0 (Nat.le_of_ble_eq_true rfl) rfl (by decide) ?_
  refine i_251_5 (x := 128) rfl ?_
  refine i_251_6 (x := a0) rfl ?_
  refine i_251_7 (x := a1) rfl ?_
  refine j_251_8 (xgs hw0) (Nat.le_of_ble_eq_true rfl) (p_252_0 e1) (xDone.c xgl rfl rfl ?_)
  refine i_251_12 (lv2 := [(3, Value.ref ((w.set 128 (Sum.inr (12, [Value.ref 129, Value.ref 131, Value.ref 133, Value.ref 135, Value.ref 137, Value.ref 139, Value.ref 141, Value.ref 143, Value.ref 145, Value.ref 147, Value.ref 149, Value.ref 151, Value.ref 153, Value.ref 154, Value.ref 155, Value.ref 156, Value.ref 157, Value.int (-16384), Value.int 16384, Value.int 0, Value.int 0, Value.int 0, Value.ref 158, Value.ref 159, Value.int 0, Value.int 0, Value.int 0, Value.int 0, Value.int 0, Value.int 0, Value.int 0, Value.int 0]))).length)), (0, Value.ref 128), (1, Value.int a0), (2, Value.int a1)]) rfl ?_
  refine i_251_13 (x := 128) rfl ?_
  refine i_251_14 ?_
  refine i_251_15 (fs2 := [Value.ref 129, Value.ref 131, Value.ref 133, Value.ref 135, Value.ref 137, Value.ref 139, Value.ref 141, Value.ref 143, Value.ref 145, Value.ref 147, Value.ref 149, Value.ref 151, Value.ref 153, Value.ref 154, Value.ref 155, Value.ref 156, Value.ref 157, Value.int (-16384), Value.int 16384, Value.int 0, Value.int 0, Value.int 0, Value.ref 158, Value.ref 159, Value.int 0, Value.int 0, Value.int 0, Value.int 0, Value.int 0, Value.int 0, Value.int 0, Value.int 1]) (xga (xgs hw0)) (Nat.le_of_ble_eq_true rfl) rfl (by decide) ?_
  refine i_251_18 ?_
  refine i_251_27 ?_
  exact i_251_28 ⟨rfl, rfl⟩
theorem o_18_0 {d : Nat} {xs : Nat → Int32} (h0 : ((xs 0) &&& (31 : Int32)).toInt = 18) (c0 : (xs 1).toInt < 0) : ∃ w1, xEv (d + 20) 287 23 [(4, Value.int 0), (3, Value.ref 194), (2, Value.ref 128), (1, Value.ref 7), (0, Value.ref 0)] [] (W0 6 xs) (fun o' w' => o' = .inl (some (Value.int 1)) ∧ w' = w1) ∧ w1.length ≤ 220 ∧ xsz w1 ≤ 200000 := by
  refine ⟨(((((W0 6 xs) ++ [Sum.inr (14, [])]).set 128 (Sum.inr (12, [Value.ref 129, Value.ref 131, Value.ref 133, Value.ref 135, Value.ref 137, Value.ref 139, Value.ref 141, Value.ref 143, Value.ref 145, Value.ref 147, Value.ref 149, Value.ref 151, Value.ref 153, Value.ref 154, Value.ref 155, Value.ref 156, Value.ref 157, Value.int (-16384), Value.int 16384, Value.int 0, Value.int 0, Value.int 0, Value.ref 158, Value.ref 159, Value.int 0, Value.int 0, Value.int 0, Value.int 0, Value.int 0, Value.int 0, Value.int 0, Value.int 0]))) ++ [Sum.inr (14, [])]).set 128 (Sum.inr (12, [Value.ref 129, Value.ref 131, Value.ref 133, Value.ref 135, Value.ref 137, Value.ref 139, Value.ref 141, Value.ref 143, Value.ref 145, Value.ref 147, Value.ref 149, Value.ref 151, Value.ref 153, Value.ref 154, Value.ref 155, Value.ref 156, Value.ref 157, Value.int (-16384), Value.int 16384, Value.int 0, Value.int 0, Value.int 0, Value.ref 158, Value.ref 159, Value.int 0, Value.int 0, Value.int 0, Value.int 0, Value.int 0, Value.int 0, Value.int 0, Value.int 1]))), ?_, (show xLs _ 220 200000 from ?_)⟩
  · refine i_287_23 (x := 0) rfl ?_
    refine i_287_25 (x := 0) rfl ?_
    refine i_287_26 (c := 6) W0_0 (by decide) ?_
    refine i_287_27 ?_
    refine i_287_29 (c := 0) (by decide) ?_
    refine i_287_30 (fun h => absurd h (by decide)) (fun _ => ?_)
    refine i_287_33 (x := 0) rfl ?_
    refine i_287_34 (x := 0) rfl ?_
    refine i_287_36 (v := Value.int (xs 0)) W0_0 (by decide) (by decide) rfl ?_
    refine i_287_37 ?_
    refine i_287_39 (c := ((xs 0) &&& (31 : Int32))) rfl ?_
    refine i_287_40_18 (by omega) ?_
    refine i_287_1719 (x := 7) rfl ?_
    refine i_287_1720 (x := 0) rfl ?_
    refine i_287_1721 (x := 0) rfl ?_
    refine i_287_1723 ?_
    refine i_287_1724 (c := 1) (by decide) ?_
    refine i_287_1725 (v := Value.int (xs 1)) W0_0 (by decide) (by decide) rfl ?_
    refine i_287_1726 (x := 0) rfl ?_
    refine i_287_1727 (x := 0) rfl ?_
    refine i_287_1729 ?_
    refine i_287_1730 (c := 2) (by decide) ?_
    refine i_287_1731 (v := Value.int (xs 2)) W0_0 (by decide) (by decide) rfl ?_
    refine i_287_1732 (x := 194) rfl ?_
    refine i_287_1733 (Nat.le_of_ble_eq_true rfl) (p_132_0 W0_7 (by omega)) ?_
    refine i_287_1736 (lv2 := [(5, Value.int 1), (4, Value.int 0), (3, Value.ref 194), (2, Value.ref 128), (1, Value.ref 7), (0, Value.ref 0)]) rfl ?_
    refine i_287_1738 (x := 128) rfl ?_
    refine i_287_1739 (x := 0) rfl ?_
    refine i_287_1740 (x := 0) rfl ?_
    refine i_287_1742 ?_
    refine i_287_1743 (c := 1) (by decide) ?_
    refine i_287_1744 (v := Value.int (xs 1)) (xga W0_0) (by decide) (by decide) rfl ?_
    refine i_287_1745 (x := 0) rfl ?_
    refine i_287_1746 (x := 0) rfl ?_
    refine i_287_1748 ?_
    refine i_287_1749 (c := 2) (by decide) ?_
    refine i_287_1750 (v := Value.int (xs 2)) (xga W0_0) (by decide) (by decide) rfl ?_
    refine i_287_1751 (xga W0_128) (Nat.le_of_ble_eq_true rfl) (p_251_0 (xga W0_128) (by omega)) ?_
    refine i_287_1754 (lv2 := [(6, Value.long 0), (5, Value.int 1), (4, Value.int 0), (3, Value.ref 194), (2, Value.ref 128), (1, Value.ref 7), (0, Value.ref 0)]) rfl ?_
    refine i_287_1756 (x := 128) rfl ?_
    refine i_287_1757 (xgs (xga (xgs (xga W0_128)))) (Nat.le_of_ble_eq_true rfl) (p_165_0 (xgs (xga (xgs (xga W0_128))))) ?_
    refine i_287_1760 (x := 1) rfl ?_
    refine i_287_1762 (fun _ => ?_) (fun h => absurd h (by decide))
    refine i_287_1767 (x := 1) rfl ?_
    refine i_287_1769 (fun _ => ?_) (fun h => absurd h (by decide))
    refine i_287_1783 ?_
    refine i_287_2154 (x := 0) (c := 6) (lv2 := [(4, Value.int 6), (6, Value.long 0), (5, Value.int 1), (3, Value.ref 194), (2, Value.ref 128), (1, Value.ref 7), (0, Value.ref 0)]) rfl (by decide) rfl ?_
    refine i_287_2157 ?_
    refine i_287_23 (x := 6) rfl ?_
    refine i_287_25 (x := 0) rfl ?_
    refine i_287_26 (c := 6) (xgn (by decide) (xga (xgn (by decide) (xga W0_0)))) (by decide) ?_
    refine i_287_27 ?_
    refine i_287_29 (c := 0) (by decide) ?_
    refine i_287_30 (fun _ => ?_) (fun h => absurd h (by decide))
    refine i_287_2160 ?_
    exact i_287_2161 rfl ⟨rfl, rfl⟩
  · refine xLs.set ?_ (xga (xgs (xga W0_128))) xcs_o
    refine xLs.app (n := 219) (z := 199994) (m := 6) ?_ rfl
    refine xLs.set ?_ (xga W0_128) xcs_o
    refine xLs.app (n := 218) (z := 199988) (m := 6) ?_ rfl
    exact ⟨Nat.le_trans (Nat.le_of_eq W0_len) (by decide), Nat.le_trans (Nat.le_of_eq W0_sz) (by decide)⟩
theorem p_133_1 {d : Nat} {w : xW} {a0 : Int32} {a1 : Int32} (e0 : 0 ≤ a0.toInt) (e1 : a0.toInt < 16) (e2 : a1.toInt < 0) : xRun (d + 6) 133 [Value.ref 7, Value.int a0, Value.int a1] w (.inr w.length) (w ++ [Sum.inr (14, [])]) := by
  refine xRun.of ?_
  refine i_133_0 (x := a0) rfl ?_
  refine i_133_1 (Nat.le_of_ble_eq_true rfl) (p_15_1 e0 e1) ?_
  refine i_133_4 (fun h => absurd h (by decide)) (fun _ => ?_)
  refine i_133_7 (x := a1) rfl ?_
  refine i_133_8 (Nat.le_of_ble_eq_true rfl) (p_22_0 e2) ?_
  refine i_133_11 (fun h => absurd h (by decide)) (fun _ => ?_)
  exact i_133_14 (by omega) (Nat.le_of_ble_eq_true rfl) ⟨rfl, rfl⟩
theorem p_132_1 {d : Nat} {w : xW} {a0 : Int32} {a1 : Int32} (hw0 : w[7]? = some (Sum.inr (0, [Value.ref 8, Value.ref 78, Value.ref 9, Value.ref 10, Value.ref 13, Value.ref 16, Value.ref 19, Value.ref 93, Value.ref 108, Value.ref 113, Value.ref 29, Value.int 0]))) (e1 : 0 ≤ a0.toInt) (e2 : a0.toInt < 16) (e3 : a1.toInt < 0) : xRun (d + 7) 132 [Value.ref 7, Value.int a0, Value.int a1, Value.ref 194] w (.inl (some (Value.int 1))) (w ++ [Sum.inr (14, [])]) := by
  refine xRun.of ?_
  refine i_132_0 (x := 194) rfl ?_
  refine i_132_1 ?_
  refine i_132_2 (x := 7) rfl ?_
  refine i_132_3 (x := a0) rfl ?_
  refine i_132_4 (x := a1) rfl ?_
  refine j_132_5 hw0 (Nat.le_of_ble_eq_true rfl) (p_133_1 e1 e2 e3) (xDone.c xgl rfl rfl ?_)
  refine i_132_12 (lv2 := [(4, Value.ref w.length), (0, Value.ref 7), (1, Value.int a0), (2, Value.int a1), (3, Value.ref 194)]) rfl ?_
  refine i_132_14 ?_
  exact i_132_15 ⟨rfl, rfl⟩
theorem p_252_1 {d : Nat} {w : xW} {a0 : Int32} {a1 : Int32} (e0 : 0 ≤ a0.toInt) (e1 : a0.toInt ≤ 15) (e2 : a1.toInt < 0) : xRun (d + 8) 252 [Value.ref 128, Value.int a0, Value.int a1] w (.inr w.length) (w ++ [Sum.inr (14, [])]) := by
  refine xRun.of ?_
  refine i_252_0 (x := a0) rfl ?_
  refine i_252_1 (Nat.le_of_ble_eq_true rfl) (p_168_1 e0 e1) ?_
  refine i_252_4 (x := a1) rfl ?_
  exact j_252_5 (Nat.le_of_ble_eq_true rfl) (p_178_0 e2) (xDone.t xgl rfl rfl ⟨rfl, rfl⟩)
theorem p_251_1 {d : Nat} {w : xW} {a0 : Int32} {a1 : Int32} (hw0 : w[128]? = some (Sum.inr (12, [Value.ref 129, Value.ref 131, Value.ref 133, Value.ref 135, Value.ref 137, Value.ref 139, Value.ref 141, Value.ref 143, Value.ref 145, Value.ref 147, Value.ref 149, Value.ref 151, Value.ref 153, Value.ref 154, Value.ref 155, Value.ref 156, Value.ref 157, Value.int (-16384), Value.int 16384, Value.int 0, Value.int 0, Value.int 0, Value.ref 158, Value.ref 159, Value.int 0, Value.int 0, Value.int 0, Value.int 0, Value.int 0, Value.int 0, Value.int 0, Value.int 0]))) (e1 : 0 ≤ a0.toInt) (e2 : a0.toInt ≤ 15) (e3 : a1.toInt < 0) : xRun (d + 9) 251 [Value.ref 128, Value.int a0, Value.int a1] w (.inl (some (Value.long 0))) (((w.set 128 (Sum.inr (12, [Value.ref 129, Value.ref 131, Value.ref 133, Value.ref 135, Value.ref 137, Value.ref 139, Value.ref 141, Value.ref 143, Value.ref 145, Value.ref 147, Value.ref 149, Value.ref 151, Value.ref 153, Value.ref 154, Value.ref 155, Value.ref 156, Value.ref 157, Value.int (-16384), Value.int 16384, Value.int 0, Value.int 0, Value.int 0, Value.ref 158, Value.ref 159, Value.int 0, Value.int 0, Value.int 0, Value.int 0, Value.int 0, Value.int 0, Value.int 0, Value.int 0]))) ++ [Sum.inr (14, [])]).set 128 (Sum.inr (12, [Value.ref 129, Value.ref 131, Value.ref 133, Value.ref 135, Value.ref 137, Value.ref 139, Value.ref 141, Value.ref 143, Value.ref 145, Value.ref 147, Value.ref 149, Value.ref 151, Value.ref 153, Value.ref 154, Value.ref 155, Value.ref 156, Value.ref 157, Value.int (-16384), Value.int 16384, Value.int 0, Value.int 0, Value.int 0, Value.ref 158, Value.ref 159, Value.int 0, Value.int 0, Value.int 0, Value.int 0, Value.int 0, Value.int 0, Value.int 0, Value.int 1]))) := by
  refine xRun.of ?_
  refine i_251_0 (x := 128) rfl ?_
  refine i_251_1 ?_
  refine i_251_2 (fs2 := [Value.ref 129, Value.ref 131, Value.ref 133, Value.ref 135, Value.ref 137, Value.ref 139, Value.ref 141, Value.ref 143, Value.ref 145, Value.ref 147, Value.ref 149, Value.ref 151, Value.ref 153, Value.ref 154, Value.ref 155, Value.ref 156, Value.ref 157, Value.int (-16384), Value.int 16384, Value.int 0, Value.int 0, Value.int 0, Value.ref 158, Value.ref 159, Value.int 0, Value.int 0, Value.int 0, Value.int 0, Value.int 0, Value.int 0, Value.int 0, Value.int 0]) hw0 (Nat.le_of_ble_eq_true rfl) rfl (by decide) ?_
  refine i_251_5 (x := 128) rfl ?_
  refine i_251_6 (x := a0) rfl ?_
  refine i_251_7 (x := a1) rfl ?_
  refine j_251_8 (xgs hw0) (Nat.le_of_ble_eq_true rfl) (p_252_1 e1 e2 e3) (xDone.c xgl rfl rfl ?_)
  refine i_251_12 (lv2 := [(3, Value.ref ((w.set 128 (Sum.inr (12, [Value.ref 129, Value.ref 131, Value.ref 133, Value.ref 135, Value.ref 137, Value.ref 139, Value.ref 141, Value.ref 143, Value.ref 145, Value.ref 147, Value.ref 149, Value.ref 151, Value.ref 153, Value.ref 154, Value.ref 155, Value.ref 156, Value.ref 157, Value.int (-16384), Value.int 16384, Value.int 0, Value.int 0, Value.int 0, Value.ref 158, Value.ref 159, Value.int 0, Value.int 0, Value.int 0, Value.int 0, Value.int 0, Value.int 0, Value.int 0, Value.int 0]))).length)), (0, Value.ref 128), (1, Value.int a0), (2, Value.int a1)]) rfl ?_
  refine i_251_13 (x := 128) rfl ?_
  refine i_251_14 ?_
  refine i_251_15 (fs2 := [Value.ref 129, Value.ref 131, Value.ref 133, Value.ref 135, Value.ref 137, Value.ref 139, Value.ref 141, Value.ref 143, Value.ref 145, Value.ref 147, Value.ref 149, Value.ref 151, Value.ref 153, Value.ref 154, Value.ref 155, Value.ref 156, Value.ref 157, Value.int (-16384), Value.int 16384, Value.int 0, Value.int 0, Value.int 0, Value.ref 158, Value.ref 159, Value.int 0, Value.int 0, Value.int 0, Value.int 0, Value.int 0, Value.int 0, Value.int 0, Value.int 1]) (xga (xgs hw0)) (Nat.le_of_ble_eq_true rfl) rfl (by decide) ?_
  refine i_251_18 ?_
  refine i_251_27 ?_
  exact i_251_28 ⟨rfl, rfl⟩
theorem o_18_1 {d : Nat} {xs : Nat → Int32} (h0 : ((xs 0) &&& (31 : Int32)).toInt = 18) (c0 : 0 ≤ (xs 1).toInt) (c1 : (xs 1).toInt < 16) (c2 : (xs 2).toInt < 0) : ∃ w1, xEv (d + 20) 287 23 [(4, Value.int 0), (3, Value.ref 194), (2, Value.ref 128), (1, Value.ref 7), (0, Value.ref 0)] [] (W0 6 xs) (fun o' w' => o' = .inl (some (Value.int 1)) ∧ w' = w1) ∧ w1.length ≤ 220 ∧ xsz w1 ≤ 200000 := by
  refine ⟨(((((W0 6 xs) ++ [Sum.inr (14, [])]).set 128 (Sum.inr (12, [Value.ref 129, Value.ref 131, Value.ref 133, Value.ref 135, Value.ref 137, Value.ref 139, Value.ref 141, Value.ref 143, Value.ref 145, Value.ref 147, Value.ref 149, Value.ref 151, Value.ref 153, Value.ref 154, Value.ref 155, Value.ref 156, Value.ref 157, Value.int (-16384), Value.int 16384, Value.int 0, Value.int 0, Value.int 0, Value.ref 158, Value.ref 159, Value.int 0, Value.int 0, Value.int 0, Value.int 0, Value.int 0, Value.int 0, Value.int 0, Value.int 0]))) ++ [Sum.inr (14, [])]).set 128 (Sum.inr (12, [Value.ref 129, Value.ref 131, Value.ref 133, Value.ref 135, Value.ref 137, Value.ref 139, Value.ref 141, Value.ref 143, Value.ref 145, Value.ref 147, Value.ref 149, Value.ref 151, Value.ref 153, Value.ref 154, Value.ref 155, Value.ref 156, Value.ref 157, Value.int (-16384), Value.int 16384, Value.int 0, Value.int 0, Value.int 0, Value.ref 158, Value.ref 159, Value.int 0, Value.int 0, Value.int 0, Value.int 0, Value.int 0, Value.int 0, Value.int 0, Value.int 1]))), ?_, (show xLs _ 220 200000 from ?_)⟩
  · refine i_287_23 (x := 0) rfl ?_
    refine i_287_25 (x := 0) rfl ?_
    refine i_287_26 (c := 6) W0_0 (by decide) ?_
    refine i_287_27 ?_
    refine i_287_29 (c := 0) (by decide) ?_
    refine i_287_30 (fun h => absurd h (by decide)) (fun _ => ?_)
    refine i_287_33 (x := 0) rfl ?_
    refine i_287_34 (x := 0) rfl ?_
    refine i_287_36 (v := Value.int (xs 0)) W0_0 (by decide) (by decide) rfl ?_
    refine i_287_37 ?_
    refine i_287_39 (c := ((xs 0) &&& (31 : Int32))) rfl ?_
    refine i_287_40_18 (by omega) ?_
    refine i_287_1719 (x := 7) rfl ?_
    refine i_287_1720 (x := 0) rfl ?_
    refine i_287_1721 (x := 0) rfl ?_
    refine i_287_1723 ?_
    refine i_287_1724 (c := 1) (by decide) ?_
    refine i_287_1725 (v := Value.int (xs 1)) W0_0 (by decide) (by decide) rfl ?_
    refine i_287_1726 (x := 0) rfl ?_
    refine i_287_1727 (x := 0) rfl ?_
    refine i_287_1729 ?_
    refine i_287_1730 (c := 2) (by decide) ?_
    refine i_287_1731 (v := Value.int (xs 2)) W0_0 (by decide) (by decide) rfl ?_
    refine i_287_1732 (x := 194) rfl ?_
    refine i_287_1733 (Nat.le_of_ble_eq_true rfl) (p_132_1 W0_7 (by omega) (by omega) (by omega)) ?_
    refine i_287_1736 (lv2 := [(5, Value.int 1), (4, Value.int 0), (3, Value.ref 194), (2, Value.ref 128), (1, Value.ref 7), (0, Value.ref 0)]) rfl ?_
    refine i_287_1738 (x := 128) rfl ?_
    refine i_287_1739 (x := 0) rfl ?_
    refine i_287_1740 (x := 0) rfl ?_
    refine i_287_1742 ?_
    refine i_287_1743 (c := 1) (by decide) ?_
    refine i_287_1744 (v := Value.int (xs 1)) (xga W0_0) (by decide) (by decide) rfl ?_
    refine i_287_1745 (x := 0) rfl ?_
    refine i_287_1746 (x := 0) rfl ?_
    refine i_287_1748 ?_
    refine i_287_1749 (c := 2) (by decide) ?_
    refine i_287_1750 (v := Value.int (xs 2)) (xga W0_0) (by decide) (by decide) rfl ?_
    refine i_287_1751 (xga W0_128) (Nat.le_of_ble_eq_true rfl) (p_251_1 (xga W0_128) (by omega) (by omega) (by omega)) ?_
    refine i_287_1754 (lv2 := [(6, Value.long 0), (5, Value.int 1), (4, Value.int 0), (3, Value.ref 194), (2, Value.ref 128), (1, Value.ref 7), (0, Value.ref 0)]) rfl ?_
    refine i_287_1756 (x := 128) rfl ?_
    refine i_287_1757 (xgs (xga (xgs (xga W0_128)))) (Nat.le_of_ble_eq_true rfl) (p_165_0 (xgs (xga (xgs (xga W0_128))))) ?_
    refine i_287_1760 (x := 1) rfl ?_
    refine i_287_1762 (fun _ => ?_) (fun h => absurd h (by decide))
    refine i_287_1767 (x := 1) rfl ?_
    refine i_287_1769 (fun _ => ?_) (fun h => absurd h (by decide))
    refine i_287_1783 ?_
    refine i_287_2154 (x := 0) (c := 6) (lv2 := [(4, Value.int 6), (6, Value.long 0), (5, Value.int 1), (3, Value.ref 194), (2, Value.ref 128), (1, Value.ref 7), (0, Value.ref 0)]) rfl (by decide) rfl ?_
    refine i_287_2157 ?_
    refine i_287_23 (x := 6) rfl ?_
    refine i_287_25 (x := 0) rfl ?_
    refine i_287_26 (c := 6) (xgn (by decide) (xga (xgn (by decide) (xga W0_0)))) (by decide) ?_
    refine i_287_27 ?_
    refine i_287_29 (c := 0) (by decide) ?_
    refine i_287_30 (fun _ => ?_) (fun h => absurd h (by decide))
    refine i_287_2160 ?_
    exact i_287_2161 rfl ⟨rfl, rfl⟩
  · refine xLs.set ?_ (xga (xgs (xga W0_128))) xcs_o
    refine xLs.app (n := 219) (z := 199994) (m := 6) ?_ rfl
    refine xLs.set ?_ (xga W0_128) xcs_o
    refine xLs.app (n := 218) (z := 199988) (m := 6) ?_ rfl
    exact ⟨Nat.le_trans (Nat.le_of_eq W0_len) (by decide), Nat.le_trans (Nat.le_of_eq W0_sz) (by decide)⟩
theorem p_133_2 {d : Nat} {w : xW} {a0 : Int32} {a1 : Int32} (e0 : 0 ≤ a0.toInt) (e1 : a0.toInt < 16) (e2 : 0 ≤ a1.toInt) (e3 : 4 < a1.toInt) : xRun (d + 6) 133 [Value.ref 7, Value.int a0, Value.int a1] w (.inr w.length) (w ++ [Sum.inr (14, [])]) := by
  refine xRun.of ?_
  refine i_133_0 (x := a0) rfl ?_
  refine i_133_1 (Nat.le_of_ble_eq_true rfl) (p_15_1 e0 e1) ?_
  refine i_133_4 (fun h => absurd h (by decide)) (fun _ => ?_)
  refine i_133_7 (x := a1) rfl ?_
  refine i_133_8 (Nat.le_of_ble_eq_true rfl) (p_22_1 e2 e3) ?_
  refine i_133_11 (fun h => absurd h (by decide)) (fun _ => ?_)
  exact i_133_14 (by omega) (Nat.le_of_ble_eq_true rfl) ⟨rfl, rfl⟩
theorem p_132_2 {d : Nat} {w : xW} {a0 : Int32} {a1 : Int32} (hw0 : w[7]? = some (Sum.inr (0, [Value.ref 8, Value.ref 78, Value.ref 9, Value.ref 10, Value.ref 13, Value.ref 16, Value.ref 19, Value.ref 93, Value.ref 108, Value.ref 113, Value.ref 29, Value.int 0]))) (e1 : 0 ≤ a0.toInt) (e2 : a0.toInt < 16) (e3 : 0 ≤ a1.toInt) (e4 : 4 < a1.toInt) : xRun (d + 7) 132 [Value.ref 7, Value.int a0, Value.int a1, Value.ref 194] w (.inl (some (Value.int 1))) (w ++ [Sum.inr (14, [])]) := by
  refine xRun.of ?_
  refine i_132_0 (x := 194) rfl ?_
  refine i_132_1 ?_
  refine i_132_2 (x := 7) rfl ?_
  refine i_132_3 (x := a0) rfl ?_
  refine i_132_4 (x := a1) rfl ?_
  refine j_132_5 hw0 (Nat.le_of_ble_eq_true rfl) (p_133_2 e1 e2 e3 e4) (xDone.c xgl rfl rfl ?_)
  refine i_132_12 (lv2 := [(4, Value.ref w.length), (0, Value.ref 7), (1, Value.int a0), (2, Value.int a1), (3, Value.ref 194)]) rfl ?_
  refine i_132_14 ?_
  exact i_132_15 ⟨rfl, rfl⟩
theorem p_252_2 {d : Nat} {w : xW} {a0 : Int32} {a1 : Int32} (e0 : 0 ≤ a0.toInt) (e1 : a0.toInt ≤ 15) (e2 : 0 ≤ a1.toInt) (e3 : 4 < a1.toInt) : xRun (d + 8) 252 [Value.ref 128, Value.int a0, Value.int a1] w (.inr w.length) (w ++ [Sum.inr (14, [])]) := by
  refine xRun.of ?_
  refine i_252_0 (x := a0) rfl ?_
  refine i_252_1 (Nat.le_of_ble_eq_true rfl) (p_168_1 e0 e1) ?_
  refine i_252_4 (x := a1) rfl ?_
  exact j_252_5 (Nat.le_of_ble_eq_true rfl) (p_178_1 e2 e3) (xDone.t xgl rfl rfl ⟨rfl, rfl⟩)
theorem p_251_2 {d : Nat} {w : xW} {a0 : Int32} {a1 : Int32} (hw0 : w[128]? = some (Sum.inr (12, [Value.ref 129, Value.ref 131, Value.ref 133, Value.ref 135, Value.ref 137, Value.ref 139, Value.ref 141, Value.ref 143, Value.ref 145, Value.ref 147, Value.ref 149, Value.ref 151, Value.ref 153, Value.ref 154, Value.ref 155, Value.ref 156, Value.ref 157, Value.int (-16384), Value.int 16384, Value.int 0, Value.int 0, Value.int 0, Value.ref 158, Value.ref 159, Value.int 0, Value.int 0, Value.int 0, Value.int 0, Value.int 0, Value.int 0, Value.int 0, Value.int 0]))) (e1 : 0 ≤ a0.toInt) (e2 : a0.toInt ≤ 15) (e3 : 0 ≤ a1.toInt) (e4 : 4 < a1.toInt) : xRun (d + 9) 251 [Value.ref 128, Value.int a0, Value.int a1] w (.inl (some (Value.long 0))) (((w.set 128 (Sum.inr (12, [Value.ref 129, Value.ref 131, Value.ref 133, Value.ref 135, Value.ref 137, Value.ref 139, Value.ref 141, Value.ref 143, Value.ref 145, Value.ref 147, Value.ref 149, Value.ref 151, Value.ref 153, Value.ref 154, Value.ref 155, Value.ref 156, Value.ref 157, Value.int (-16384), Value.int 16384, Value.int 0, Value.int 0, Value.int 0, Value.ref 158, Value.ref 159, Value.int 0, Value.int 0, Value.int 0, Value.int 0, Value.int 0, Value.int 0, Value.int 0, Value.int 0]))) ++ [Sum.inr (14, [])]).set 128 (Sum.inr (12, [Value.ref 129, Value.ref 131, Value.ref 133, Value.ref 135, Value.ref 137, Value.ref 139, Value.ref 141, Value.ref 143, Value.ref 145, Value.ref 147, Value.ref 149, Value.ref 151, Value.ref 153, Value.ref 154, Value.ref 155, Value.ref 156, Value.ref 157, Value.int (-16384), Value.int 16384, Value.int 0, Value.int 0, Value.int 0, Value.ref 158, Value.ref 159, Value.int 0, Value.int 0, Value.int 0, Value.int 0, Value.int 0, Value.int 0, Value.int 0, Value.int 1]))) := by
  refine xRun.of ?_
  refine i_251_0 (x := 128) rfl ?_
  refine i_251_1 ?_
  refine i_251_2 (fs2 := [Value.ref 129, Value.ref 131, Value.ref 133, Value.ref 135, Value.ref 137, Value.ref 139, Value.ref 141, Value.ref 143, Value.ref 145, Value.ref 147, Value.ref 149, Value.ref 151, Value.ref 153, Value.ref 154, Value.ref 155, Value.ref 156, Value.ref 157, Value.int (-16384), Value.int 16384, Value.int 0, Value.int 0, Value.int 0, Value.ref 158, Value.ref 159, Value.int 0, Value.int 0, Value.int 0, Value.int 0, Value.int 0, Value.int 0, Value.int 0, Value.int 0]) hw0 (Nat.le_of_ble_eq_true rfl) rfl (by decide) ?_
  refine i_251_5 (x := 128) rfl ?_
  refine i_251_6 (x := a0) rfl ?_
  refine i_251_7 (x := a1) rfl ?_
  refine j_251_8 (xgs hw0) (Nat.le_of_ble_eq_true rfl) (p_252_2 e1 e2 e3 e4) (xDone.c xgl rfl rfl ?_)
  refine i_251_12 (lv2 := [(3, Value.ref ((w.set 128 (Sum.inr (12, [Value.ref 129, Value.ref 131, Value.ref 133, Value.ref 135, Value.ref 137, Value.ref 139, Value.ref 141, Value.ref 143, Value.ref 145, Value.ref 147, Value.ref 149, Value.ref 151, Value.ref 153, Value.ref 154, Value.ref 155, Value.ref 156, Value.ref 157, Value.int (-16384), Value.int 16384, Value.int 0, Value.int 0, Value.int 0, Value.ref 158, Value.ref 159, Value.int 0, Value.int 0, Value.int 0, Value.int 0, Value.int 0, Value.int 0, Value.int 0, Value.int 0]))).length)), (0, Value.ref 128), (1, Value.int a0), (2, Value.int a1)]) rfl ?_
  refine i_251_13 (x := 128) rfl ?_
  refine i_251_14 ?_
  refine i_251_15 (fs2 := [Value.ref 129, Value.ref 131, Value.ref 133, Value.ref 135, Value.ref 137, Value.ref 139, Value.ref 141, Value.ref 143, Value.ref 145, Value.ref 147, Value.ref 149, Value.ref 151, Value.ref 153, Value.ref 154, Value.ref 155, Value.ref 156, Value.ref 157, Value.int (-16384), Value.int 16384, Value.int 0, Value.int 0, Value.int 0, Value.ref 158, Value.ref 159, Value.int 0, Value.int 0, Value.int 0, Value.int 0, Value.int 0, Value.int 0, Value.int 0, Value.int 1]) (xga (xgs hw0)) (Nat.le_of_ble_eq_true rfl) rfl (by decide) ?_
  refine i_251_18 ?_
  refine i_251_27 ?_
  exact i_251_28 ⟨rfl, rfl⟩
theorem o_18_2 {d : Nat} {xs : Nat → Int32} (h0 : ((xs 0) &&& (31 : Int32)).toInt = 18) (c0 : 0 ≤ (xs 1).toInt) (c1 : (xs 1).toInt < 16) (c2 : 0 ≤ (xs 2).toInt) (c3 : 4 < (xs 2).toInt) : ∃ w1, xEv (d + 20) 287 23 [(4, Value.int 0), (3, Value.ref 194), (2, Value.ref 128), (1, Value.ref 7), (0, Value.ref 0)] [] (W0 6 xs) (fun o' w' => o' = .inl (some (Value.int 1)) ∧ w' = w1) ∧ w1.length ≤ 220 ∧ xsz w1 ≤ 200000 := by
  refine ⟨(((((W0 6 xs) ++ [Sum.inr (14, [])]).set 128 (Sum.inr (12, [Value.ref 129, Value.ref 131, Value.ref 133, Value.ref 135, Value.ref 137, Value.ref 139, Value.ref 141, Value.ref 143, Value.ref 145, Value.ref 147, Value.ref 149, Value.ref 151, Value.ref 153, Value.ref 154, Value.ref 155, Value.ref 156, Value.ref 157, Value.int (-16384), Value.int 16384, Value.int 0, Value.int 0, Value.int 0, Value.ref 158, Value.ref 159, Value.int 0, Value.int 0, Value.int 0, Value.int 0, Value.int 0, Value.int 0, Value.int 0, Value.int 0]))) ++ [Sum.inr (14, [])]).set 128 (Sum.inr (12, [Value.ref 129, Value.ref 131, Value.ref 133, Value.ref 135, Value.ref 137, Value.ref 139, Value.ref 141, Value.ref 143, Value.ref 145, Value.ref 147, Value.ref 149, Value.ref 151, Value.ref 153, Value.ref 154, Value.ref 155, Value.ref 156, Value.ref 157, Value.int (-16384), Value.int 16384, Value.int 0, Value.int 0, Value.int 0, Value.ref 158, Value.ref 159, Value.int 0, Value.int 0, Value.int 0, Value.int 0, Value.int 0, Value.int 0, Value.int 0, Value.int 1]))), ?_, (show xLs _ 220 200000 from ?_)⟩
  · refine i_287_23 (x := 0) rfl ?_
    refine i_287_25 (x := 0) rfl ?_
    refine i_287_26 (c := 6) W0_0 (by decide) ?_
    refine i_287_27 ?_
    refine i_287_29 (c := 0) (by decide) ?_
    refine i_287_30 (fun h => absurd h (by decide)) (fun _ => ?_)
    refine i_287_33 (x := 0) rfl ?_
    refine i_287_34 (x := 0) rfl ?_
    refine i_287_36 (v := Value.int (xs 0)) W0_0 (by decide) (by decide) rfl ?_
    refine i_287_37 ?_
    refine i_287_39 (c := ((xs 0) &&& (31 : Int32))) rfl ?_
    refine i_287_40_18 (by omega) ?_
    refine i_287_1719 (x := 7) rfl ?_
    refine i_287_1720 (x := 0) rfl ?_
    refine i_287_1721 (x := 0) rfl ?_
    refine i_287_1723 ?_
    refine i_287_1724 (c := 1) (by decide) ?_
    refine i_287_1725 (v := Value.int (xs 1)) W0_0 (by decide) (by decide) rfl ?_
    refine i_287_1726 (x := 0) rfl ?_
    refine i_287_1727 (x := 0) rfl ?_
    refine i_287_1729 ?_
    refine i_287_1730 (c := 2) (by decide) ?_
    refine i_287_1731 (v := Value.int (xs 2)) W0_0 (by decide) (by decide) rfl ?_
    refine i_287_1732 (x := 194) rfl ?_
    refine i_287_1733 (Nat.le_of_ble_eq_true rfl) (p_132_2 W0_7 (by omega) (by omega) (by omega) (by omega)) ?_
    refine i_287_1736 (lv2 := [(5, Value.int 1), (4, Value.int 0), (3, Value.ref 194), (2, Value.ref 128), (1, Value.ref 7), (0, Value.ref 0)]) rfl ?_
    refine i_287_1738 (x := 128) rfl ?_
    refine i_287_1739 (x := 0) rfl ?_
    refine i_287_1740 (x := 0) rfl ?_
    refine i_287_1742 ?_
    refine i_287_1743 (c := 1) (by decide) ?_
    refine i_287_1744 (v := Value.int (xs 1)) (xga W0_0) (by decide) (by decide) rfl ?_
    refine i_287_1745 (x := 0) rfl ?_
    refine i_287_1746 (x := 0) rfl ?_
    refine i_287_1748 ?_
    refine i_287_1749 (c := 2) (by decide) ?_
    refine i_287_1750 (v := Value.int (xs 2)) (xga W0_0) (by decide) (by decide) rfl ?_
    refine i_287_1751 (xga W0_128) (Nat.le_of_ble_eq_true rfl) (p_251_2 (xga W0_128) (by omega) (by omega) (by omega) (by omega)) ?_
    refine i_287_1754 (lv2 := [(6, Value.long 0), (5, Value.int 1), (4, Value.int 0), (3, Value.ref 194), (2, Value.ref 128), (1, Value.ref 7), (0, Value.ref 0)]) rfl ?_
    refine i_287_1756 (x := 128) rfl ?_
    refine i_287_1757 (xgs (xga (xgs (xga W0_128)))) (Nat.le_of_ble_eq_true rfl) (p_165_0 (xgs (xga (xgs (xga W0_128))))) ?_
    refine i_287_1760 (x := 1) rfl ?_
    refine i_287_1762 (fun _ => ?_) (fun h => absurd h (by decide))
    refine i_287_1767 (x := 1) rfl ?_
    refine i_287_1769 (fun _ => ?_) (fun h => absurd h (by decide))
    refine i_287_1783 ?_
    refine i_287_2154 (x := 0) (c := 6) (lv2 := [(4, Value.int 6), (6, Value.long 0), (5, Value.int 1), (3, Value.ref 194), (2, Value.ref 128), (1, Value.ref 7), (0, Value.ref 0)]) rfl (by decide) rfl ?_
    refine i_287_2157 ?_
    refine i_287_23 (x := 6) rfl ?_
    refine i_287_25 (x := 0) rfl ?_
    refine i_287_26 (c := 6) (xgn (by decide) (xga (xgn (by decide) (xga W0_0)))) (by decide) ?_
    refine i_287_27 ?_
    refine i_287_29 (c := 0) (by decide) ?_
    refine i_287_30 (fun _ => ?_) (fun h => absurd h (by decide))
    refine i_287_2160 ?_
    exact i_287_2161 rfl ⟨rfl, rfl⟩
  · refine xLs.set ?_ (xga (xgs (xga W0_128))) xcs_o
    refine xLs.app (n := 219) (z := 199994) (m := 6) ?_ rfl
    refine xLs.set ?_ (xga W0_128) xcs_o
    refine xLs.app (n := 218) (z := 199988) (m := 6) ?_ rfl
    exact ⟨Nat.le_trans (Nat.le_of_eq W0_len) (by decide), Nat.le_trans (Nat.le_of_eq W0_sz) (by decide)⟩
theorem p_133_3 {d : Nat} {w : xW} {a0 : Int32} {a1 : Int32} {g0 : Nat → Value} {h0 : Nat} {h1 : Nat} (e0 : 0 ≤ a0.toInt) (e1 : a0.toInt < 16) (e2 : 0 ≤ a1.toInt) (e3 : a1.toInt ≤ 4) (hw4 : w[7]? = some (Sum.inr (0, [Value.ref 8, Value.ref 78, Value.ref 9, Value.ref 10, Value.ref 13, Value.ref 16, Value.ref 19, Value.ref 93, Value.ref 108, Value.ref 113, Value.ref 29, Value.int 0]))) (hw5 : w[8]? = some (Sum.inl (4, 16, g0))) (hg6 : g0 a0.toInt.toNat = Value.ref h0) (hw7 : w[h0]? = some (Sum.inr (2, [Value.int 64, Value.int 0, Value.int 0, Value.int 0, Value.ref h1]))) (hw8 : w[78]? = some (Sum.inr (1, [Value.int (-16384), Value.int 16384, Value.int 0, Value.int 0]))) : xRun (d + 6) 133 [Value.ref 7, Value.int a0, Value.int a1] w (.inr ((w.set 78 (Sum.inr (1, [Value.int (-16384), Value.int 16384, Value.int 0, Value.int 32]))).length)) ((w.set 78 (Sum.inr (1, [Value.int (-16384), Value.int 16384, Value.int 0, Value.int 32]))) ++ [Sum.inr (15, [])]) := by
  refine xRun.of ?_
  refine i_133_0 (x := a0) rfl ?_
  refine i_133_1 (Nat.le_of_ble_eq_true rfl) (p_15_1 e0 e1) ?_
  refine i_133_4 (fun h => absurd h (by decide)) (fun _ => ?_)
  refine i_133_7 (x := a1) rfl ?_
  refine i_133_8 (Nat.le_of_ble_eq_true rfl) (p_22_2 e2 e3) ?_
  refine i_133_11 (fun _ => ?_) (fun h => absurd h (by decide))
  refine i_133_22 (x := 7) rfl ?_
  refine i_133_23 (v := Value.ref 8) hw4 rfl ?_
  refine i_133_26 (x := a0) rfl ?_
  refine i_133_27 (v := Value.ref h0) hw5 e0 e1 hg6 ?_
  refine i_133_28 (lv2 := [(3, Value.ref h0), (0, Value.ref 7), (1, Value.int a0), (2, Value.int a1)]) rfl ?_
  refine i_133_29 (x := h0) rfl ?_
  refine i_133_30 (v := Value.int 0) hw7 rfl ?_
  refine i_133_33 ?_
  refine i_133_34 (fun _ => ?_) (fun h => absurd h (by decide))
  refine i_133_39 ?_
  refine i_133_40 (lv2 := [(4, Value.int 0), (3, Value.ref h0), (0, Value.ref 7), (1, Value.int a0), (2, Value.int a1)]) rfl ?_
  refine i_133_42 (x := h0) rfl ?_
  refine i_133_43 (v := Value.int 0) hw7 rfl ?_
  refine i_133_46 ?_
  refine i_133_47 (fun _ => ?_) (fun h => absurd h (by decide))
  refine i_133_84 (x := 0) rfl ?_
  refine i_133_86 (fun h => absurd h (by decide)) (fun _ => ?_)
  refine i_133_89 (x := 7) rfl ?_
  refine i_133_90 (v := Value.ref 78) hw4 rfl ?_
  refine i_133_93 rfl ?_
  refine i_133_94 (v := Value.int 0) hw8 rfl ?_
  refine i_133_97 ?_
  refine i_133_99 (c := 32) (by decide) ?_
  refine i_133_100 (fs2 := [Value.int (-16384), Value.int 16384, Value.int 0, Value.int 32]) hw8 (Nat.le_of_ble_eq_true rfl) rfl (by decide) ?_
  exact i_133_103 (by omega) (Nat.le_of_ble_eq_true rfl) ⟨rfl, rfl⟩
theorem p_132_3 {d : Nat} {w : xW} {a0 : Int32} {a1 : Int32} {g0 : Nat → Value} {h0 : Nat} {h1 : Nat} (hw0 : w[7]? = some (Sum.inr (0, [Value.ref 8, Value.ref 78, Value.ref 9, Value.ref 10, Value.ref 13, Value.ref 16, Value.ref 19, Value.ref 93, Value.ref 108, Value.ref 113, Value.ref 29, Value.int 0]))) (e1 : 0 ≤ a0.toInt) (e2 : a0.toInt < 16) (e3 : 0 ≤ a1.toInt) (e4 : a1.toInt ≤ 4) (hw5 : w[8]? = some (Sum.inl (4, 16, g0))) (hg6 : g0 a0.toInt.toNat = Value.ref h0) (hw7 : w[h0]? = some (Sum.inr (2, [Value.int 64, Value.int 0, Value.int 0, Value.int 0, Value.ref h1]))) (hw8 : w[78]? = some (Sum.inr (1, [Value.int (-16384), Value.int 16384, Value.int 0, Value.int 0]))) : xRun (d + 7) 132 [Value.ref 7, Value.int a0, Value.int a1, Value.ref 194] w (.inl (some (Value.int 2))) ((w.set 78 (Sum.inr (1, [Value.int (-16384), Value.int 16384, Value.int 0, Value.int 32]))) ++ [Sum.inr (15, [])]) := by
  refine xRun.of ?_
  refine i_132_0 (x := 194) rfl ?_
  refine i_132_1 ?_
  refine i_132_2 (x := 7) rfl ?_
  refine i_132_3 (x := a0) rfl ?_
  refine i_132_4 (x := a1) rfl ?_
  refine j_132_5 hw0 (Nat.le_of_ble_eq_true rfl) (p_133_3 e1 e2 e3 e4 hw0 hw5 hg6 hw7 hw8) (xDone.c xgl rfl rfl ?_)
  refine i_132_16 (lv2 := [(4, Value.ref ((w.set 78 (Sum.inr (1, [Value.int (-16384), Value.int 16384, Value.int 0, Value.int 32]))).length)), (0, Value.ref 7), (1, Value.int a0), (2, Value.int a1), (3, Value.ref 194)]) rfl ?_
  refine i_132_18 ?_
  exact i_132_19 ⟨rfl, rfl⟩
theorem p_252_3 {d : Nat} {w : xW} {a0 : Int32} {a1 : Int32} (e0 : 0 ≤ a0.toInt) (e1 : a0.toInt ≤ 15) (e2 : 0 ≤ a1.toInt) (e3 : a1.toInt ≤ 4) (hw4 : w[128]? = some (Sum.inr (12, [Value.ref 129, Value.ref 131, Value.ref 133, Value.ref 135, Value.ref 137, Value.ref 139, Value.ref 141, Value.ref 143, Value.ref 145, Value.ref 147, Value.ref 149, Value.ref 151, Value.ref 153, Value.ref 154, Value.ref 155, Value.ref 156, Value.ref 157, Value.int (-16384), Value.int 16384, Value.int 0, Value.int 0, Value.int 0, Value.ref 158, Value.ref 159, Value.int 0, Value.int 0, Value.int 0, Value.int 0, Value.int 0, Value.int 0, Value.int 0, Value.int 0]))) (hw5 : w[154]? = some (Sum.inl (0, 17, fun _ => Value.int 0))) (e6 : a0.toInt < 17) : xRun (d + 7) 252 [Value.ref 128, Value.int a0, Value.int a1] w (.inr ((w.set 128 (Sum.inr (12, [Value.ref 129, Value.ref 131, Value.ref 133, Value.ref 135, Value.ref 137, Value.ref 139, Value.ref 141, Value.ref 143, Value.ref 145, Value.ref 147, Value.ref 149, Value.ref 151, Value.ref 153, Value.ref 154, Value.ref 155, Value.ref 156, Value.ref 157, Value.int (-16384), Value.int 16384, Value.int 32, Value.int 0, Value.int 0, Value.ref 158, Value.ref 159, Value.int 0, Value.int 0, Value.int 0, Value.int 0, Value.int 0, Value.int 0, Value.int 0, Value.int 0]))).length)) ((w.set 128 (Sum.inr (12, [Value.ref 129, Value.ref 131, Value.ref 133, Value.ref 135, Value.ref 137, Value.ref 139, Value.ref 141, Value.ref 143, Value.ref 145, Value.ref 147, Value.ref 149, Value.ref 151, Value.ref 153, Value.ref 154, Value.ref 155, Value.ref 156, Value.ref 157, Value.int (-16384), Value.int 16384, Value.int 32, Value.int 0, Value.int 0, Value.ref 158, Value.ref 159, Value.int 0, Value.int 0, Value.int 0, Value.int 0, Value.int 0, Value.int 0, Value.int 0, Value.int 0]))) ++ [Sum.inr (15, [])]) := by
  refine xRun.of ?_
  refine i_252_0 (x := a0) rfl ?_
  refine i_252_1 (Nat.le_of_ble_eq_true rfl) (p_168_1 e0 e1) ?_
  refine i_252_4 (x := a1) rfl ?_
  refine i_252_5 (Nat.le_of_ble_eq_true rfl) (p_178_2 e2 e3) ?_
  refine i_252_8 (x := 128) rfl ?_
  refine i_252_9 (x := 128) rfl ?_
  refine i_252_10 (v := Value.ref 154) hw4 rfl ?_
  refine i_252_13 (x := a0) rfl ?_
  refine i_252_14 (v := Value.int 0) hw5 e0 e6 rfl ?_
  refine i_252_15 (fun _ => ?_) (fun h => absurd h (by decide))
  refine i_252_28 ?_
  refine i_252_29 ?_
  exact j_252_33 hw4 (Nat.le_of_ble_eq_true rfl) (p_239_0 hw4) (xDone.t xgl rfl rfl ⟨rfl, rfl⟩)
theorem p_251_3 {d : Nat} {w : xW} {a0 : Int32} {a1 : Int32} (hw0 : w[128]? = some (Sum.inr (12, [Value.ref 129, Value.ref 131, Value.ref 133, Value.ref 135, Value.ref 137, Value.ref 139, Value.ref 141, Value.ref 143, Value.ref 145, Value.ref 147, Value.ref 149, Value.ref 151, Value.ref 153, Value.ref 154, Value.ref 155, Value.ref 156, Value.ref 157, Value.int (-16384), Value.int 16384, Value.int 0, Value.int 0, Value.int 0, Value.ref 158, Value.ref 159, Value.int 0, Value.int 0, Value.int 0, Value.int 0, Value.int 0, Value.int 0, Value.int 0, Value.int 0]))) (e1 : 0 ≤ a0.toInt) (e2 : a0.toInt ≤ 15) (e3 : 0 ≤ a1.toInt) (e4 : a1.toInt ≤ 4) (hw5 : w[154]? = some (Sum.inl (0, 17, fun _ => Value.int 0))) (e6 : a0.toInt < 17) : xRun (d + 8) 251 [Value.ref 128, Value.int a0, Value.int a1] w (.inl (some (Value.long 0))) ((((w.set 128 (Sum.inr (12, [Value.ref 129, Value.ref 131, Value.ref 133, Value.ref 135, Value.ref 137, Value.ref 139, Value.ref 141, Value.ref 143, Value.ref 145, Value.ref 147, Value.ref 149, Value.ref 151, Value.ref 153, Value.ref 154, Value.ref 155, Value.ref 156, Value.ref 157, Value.int (-16384), Value.int 16384, Value.int 0, Value.int 0, Value.int 0, Value.ref 158, Value.ref 159, Value.int 0, Value.int 0, Value.int 0, Value.int 0, Value.int 0, Value.int 0, Value.int 0, Value.int 0]))).set 128 (Sum.inr (12, [Value.ref 129, Value.ref 131, Value.ref 133, Value.ref 135, Value.ref 137, Value.ref 139, Value.ref 141, Value.ref 143, Value.ref 145, Value.ref 147, Value.ref 149, Value.ref 151, Value.ref 153, Value.ref 154, Value.ref 155, Value.ref 156, Value.ref 157, Value.int (-16384), Value.int 16384, Value.int 32, Value.int 0, Value.int 0, Value.ref 158, Value.ref 159, Value.int 0, Value.int 0, Value.int 0, Value.int 0, Value.int 0, Value.int 0, Value.int 0, Value.int 0]))) ++ [Sum.inr (15, [])]).set 128 (Sum.inr (12, [Value.ref 129, Value.ref 131, Value.ref 133, Value.ref 135, Value.ref 137, Value.ref 139, Value.ref 141, Value.ref 143, Value.ref 145, Value.ref 147, Value.ref 149, Value.ref 151, Value.ref 153, Value.ref 154, Value.ref 155, Value.ref 156, Value.ref 157, Value.int (-16384), Value.int 16384, Value.int 32, Value.int 0, Value.int 0, Value.ref 158, Value.ref 159, Value.int 0, Value.int 0, Value.int 0, Value.int 0, Value.int 0, Value.int 0, Value.int 0, Value.int 2]))) := by
  refine xRun.of ?_
  refine i_251_0 (x := 128) rfl ?_
  refine i_251_1 ?_
  refine i_251_2 (fs2 := [Value.ref 129, Value.ref 131, Value.ref 133, Value.ref 135, Value.ref 137, Value.ref 139, Value.ref 141, Value.ref 143, Value.ref 145, Value.ref 147, Value.ref 149, Value.ref 151, Value.ref 153, Value.ref 154, Value.ref 155, Value.ref 156, Value.ref 157, Value.int (-16384), Value.int 16384, Value.int 0, Value.int 0, Value.int 0, Value.ref 158, Value.ref 159, Value.int 0, Value.int 0, Value.int 0, Value.int 0, Value.int 0, Value.int 0, Value.int 0, Value.int 0]) hw0 (Nat.le_of_ble_eq_true rfl) rfl (by decide) ?_
  refine i_251_5 (x := 128) rfl ?_
  refine i_251_6 (x := a0) rfl ?_
  refine i_251_7 (x := a1) rfl ?_
  refine j_251_8 (xgs hw0) (Nat.le_of_ble_eq_true rfl) (p_252_3 e1 e2 e3 e4 (xgs hw0) (xgn (by decide) hw5) e6) (xDone.c xgl rfl rfl ?_)
  refine i_251_21 (lv2 := [(3, Value.ref (((w.set 128 (Sum.inr (12, [Value.ref 129, Value.ref 131, Value.ref 133, Value.ref 135, Value.ref 137, Value.ref 139, Value.ref 141, Value.ref 143, Value.ref 145, Value.ref 147, Value.ref 149, Value.ref 151, Value.ref 153, Value.ref 154, Value.ref 155, Value.ref 156, Value.ref 157, Value.int (-16384), Value.int 16384, Value.int 0, Value.int 0, Value.int 0, Value.ref 158, Value.ref 159, Value.int 0, Value.int 0, Value.int 0, Value.int 0, Value.int 0, Value.int 0, Value.int 0, Value.int 0]))).set 128 (Sum.inr (12, [Value.ref 129, Value.ref 131, Value.ref 133, Value.ref 135, Value.ref 137, Value.ref 139, Value.ref 141, Value.ref 143, Value.ref 145, Value.ref 147, Value.ref 149, Value.ref 151, Value.ref 153, Value.ref 154, Value.ref 155, Value.ref 156, Value.ref 157, Value.int (-16384), Value.int 16384, Value.int 32, Value.int 0, Value.int 0, Value.ref 158, Value.ref 159, Value.int 0, Value.int 0, Value.int 0, Value.int 0, Value.int 0, Value.int 0, Value.int 0, Value.int 0]))).length)), (0, Value.ref 128), (1, Value.int a0), (2, Value.int a1)]) rfl ?_
  refine i_251_22 (x := 128) rfl ?_
  refine i_251_23 ?_
  refine i_251_24 (fs2 := [Value.ref 129, Value.ref 131, Value.ref 133, Value.ref 135, Value.ref 137, Value.ref 139, Value.ref 141, Value.ref 143, Value.ref 145, Value.ref 147, Value.ref 149, Value.ref 151, Value.ref 153, Value.ref 154, Value.ref 155, Value.ref 156, Value.ref 157, Value.int (-16384), Value.int 16384, Value.int 32, Value.int 0, Value.int 0, Value.ref 158, Value.ref 159, Value.int 0, Value.int 0, Value.int 0, Value.int 0, Value.int 0, Value.int 0, Value.int 0, Value.int 2]) (xga (xgs (xgs hw0))) (Nat.le_of_ble_eq_true rfl) rfl (by decide) ?_
  refine i_251_27 ?_
  exact i_251_28 ⟨rfl, rfl⟩
theorem o_18_3 {d : Nat} {xs : Nat → Int32} (h0 : ((xs 0) &&& (31 : Int32)).toInt = 18) (c0 : 0 ≤ (xs 1).toInt) (c1 : (xs 1).toInt < 16) (c2 : 0 ≤ (xs 2).toInt) (c3 : (xs 2).toInt ≤ 4) : ∃ w1, xEv (d + 20) 287 23 [(4, Value.int 0), (3, Value.ref 194), (2, Value.ref 128), (1, Value.ref 7), (0, Value.ref 0)] [] (W0 6 xs) (fun o' w' => o' = .inl (some (Value.int 1)) ∧ w' = w1) ∧ w1.length ≤ 220 ∧ xsz w1 ≤ 200000 := by
  refine ⟨(((((((W0 6 xs).set 78 (Sum.inr (1, [Value.int (-16384), Value.int 16384, Value.int 0, Value.int 32]))) ++ [Sum.inr (15, [])]).set 128 (Sum.inr (12, [Value.ref 129, Value.ref 131, Value.ref 133, Value.ref 135, Value.ref 137, Value.ref 139, Value.ref 141, Value.ref 143, Value.ref 145, Value.ref 147, Value.ref 149, Value.ref 151, Value.ref 153, Value.ref 154, Value.ref 155, Value.ref 156, Value.ref 157, Value.int (-16384), Value.int 16384, Value.int 0, Value.int 0, Value.int 0, Value.ref 158, Value.ref 159, Value.int 0, Value.int 0, Value.int 0, Value.int 0, Value.int 0, Value.int 0, Value.int 0, Value.int 0]))).set 128 (Sum.inr (12, [Value.ref 129, Value.ref 131, Value.ref 133, Value.ref 135, Value.ref 137, Value.ref 139, Value.ref 141, Value.ref 143, Value.ref 145, Value.ref 147, Value.ref 149, Value.ref 151, Value.ref 153, Value.ref 154, Value.ref 155, Value.ref 156, Value.ref 157, Value.int (-16384), Value.int 16384, Value.int 32, Value.int 0, Value.int 0, Value.ref 158, Value.ref 159, Value.int 0, Value.int 0, Value.int 0, Value.int 0, Value.int 0, Value.int 0, Value.int 0, Value.int 0]))) ++ [Sum.inr (15, [])]).set 128 (Sum.inr (12, [Value.ref 129, Value.ref 131, Value.ref 133, Value.ref 135, Value.ref 137, Value.ref 139, Value.ref 141, Value.ref 143, Value.ref 145, Value.ref 147, Value.ref 149, Value.ref 151, Value.ref 153, Value.ref 154, Value.ref 155, Value.ref 156, Value.ref 157, Value.int (-16384), Value.int 16384, Value.int 32, Value.int 0, Value.int 0, Value.ref 158, Value.ref 159, Value.int 0, Value.int 0, Value.int 0, Value.int 0, Value.int 0, Value.int 0, Value.int 0, Value.int 2]))), ?_, (show xLs _ 220 200000 from ?_)⟩
  · refine i_287_23 (x := 0) rfl ?_
    refine i_287_25 (x := 0) rfl ?_
    refine i_287_26 (c := 6) W0_0 (by decide) ?_
    refine i_287_27 ?_
    refine i_287_29 (c := 0) (by decide) ?_
    refine i_287_30 (fun h => absurd h (by decide)) (fun _ => ?_)
    refine i_287_33 (x := 0) rfl ?_
    refine i_287_34 (x := 0) rfl ?_
    refine i_287_36 (v := Value.int (xs 0)) W0_0 (by decide) (by decide) rfl ?_
    refine i_287_37 ?_
    refine i_287_39 (c := ((xs 0) &&& (31 : Int32))) rfl ?_
    refine i_287_40_18 (by omega) ?_
    refine i_287_1719 (x := 7) rfl ?_
    refine i_287_1720 (x := 0) rfl ?_
    refine i_287_1721 (x := 0) rfl ?_
    refine i_287_1723 ?_
    refine i_287_1724 (c := 1) (by decide) ?_
    refine i_287_1725 (v := Value.int (xs 1)) W0_0 (by decide) (by decide) rfl ?_
    refine i_287_1726 (x := 0) rfl ?_
    refine i_287_1727 (x := 0) rfl ?_
    refine i_287_1729 ?_
    refine i_287_1730 (c := 2) (by decide) ?_
    refine i_287_1731 (v := Value.int (xs 2)) W0_0 (by decide) (by decide) rfl ?_
    refine i_287_1732 (x := 194) rfl ?_
    refine i_287_1733 (Nat.le_of_ble_eq_true rfl) (p_132_3 W0_7 (by omega) (by omega) (by omega) (by omega) W0_8 (greg_at (by omega)) (W0_reg (by omega)) W0_78) ?_
    refine i_287_1736 (lv2 := [(5, Value.int 2), (4, Value.int 0), (3, Value.ref 194), (2, Value.ref 128), (1, Value.ref 7), (0, Value.ref 0)]) rfl ?_
    refine i_287_1738 (x := 128) rfl ?_
    refine i_287_1739 (x := 0) rfl ?_
    refine i_287_1740 (x := 0) rfl ?_
    refine i_287_1742 ?_
    refine i_287_1743 (c := 1) (by decide) ?_
    refine i_287_1744 (v := Value.int (xs 1)) (xga (xgn (by decide) W0_0)) (by decide) (by decide) rfl ?_
    refine i_287_1745 (x := 0) rfl ?_
    refine i_287_1746 (x := 0) rfl ?_
    refine i_287_1748 ?_
    refine i_287_1749 (c := 2) (by decide) ?_
    refine i_287_1750 (v := Value.int (xs 2)) (xga (xgn (by decide) W0_0)) (by decide) (by decide) rfl ?_
    refine i_287_1751 (xga (xgn (by decide) W0_128)) (Nat.le_of_ble_eq_true rfl) (p_251_3 (xga (xgn (by decide) W0_128)) (by omega) (by omega) (by omega) (by omega) (xga (xgn (by decide) W0_154)) (by omega)) ?_
    refine i_287_1754 (lv2 := [(6, Value.long 0), (5, Value.int 2), (4, Value.int 0), (3, Value.ref 194), (2, Value.ref 128), (1, Value.ref 7), (0, Value.ref 0)]) rfl ?_
    refine i_287_1756 (x := 128) rfl ?_
    refine i_287_1757 (xgs (xga (xgs (xgs (xga (xgn (by decide) W0_128)))))) (Nat.le_of_ble_eq_true rfl) (p_165_4 (xgs (xga (xgs (xgs (xga (xgn (by decide) W0_128))))))) ?_
    refine i_287_1760 (x := 2) rfl ?_
    refine i_287_1762 (fun _ => ?_) (fun h => absurd h (by decide))
    refine i_287_1767 (x := 2) rfl ?_
    refine i_287_1769 (fun _ => ?_) (fun h => absurd h (by decide))
    refine i_287_1783 ?_
    refine i_287_2154 (x := 0) (c := 6) (lv2 := [(4, Value.int 6), (6, Value.long 0), (5, Value.int 2), (3, Value.ref 194), (2, Value.ref 128), (1, Value.ref 7), (0, Value.ref 0)]) rfl (by decide) rfl ?_
    refine i_287_2157 ?_
    refine i_287_23 (x := 6) rfl ?_
    refine i_287_25 (x := 0) rfl ?_
    refine i_287_26 (c := 6) (xgn (by decide) (xga (xgn (by decide) (xgn (by decide) (xga (xgn (by decide) W0_0)))))) (by decide) ?_
    refine i_287_27 ?_
    refine i_287_29 (c := 0) (by decide) ?_
    refine i_287_30 (fun _ => ?_) (fun h => absurd h (by decide))
    refine i_287_2160 ?_
    exact i_287_2161 rfl ⟨rfl, rfl⟩
  · refine xLs.set ?_ (xga (xgs (xgs (xga (xgn (by decide) W0_128))))) xcs_o
    refine xLs.app (n := 219) (z := 199994) (m := 6) ?_ rfl
    refine xLs.set ?_ (xgs (xga (xgn (by decide) W0_128))) xcs_o
    refine xLs.set ?_ (xga (xgn (by decide) W0_128)) xcs_o
    refine xLs.app (n := 218) (z := 199988) (m := 6) ?_ rfl
    refine xLs.set ?_ (W0_78) xcs_o
    exact ⟨Nat.le_trans (Nat.le_of_eq W0_len) (by decide), Nat.le_trans (Nat.le_of_eq W0_sz) (by decide)⟩
theorem p_133_4 {d : Nat} {w : xW} {a0 : Int32} {a1 : Int32} (e0 : 0 ≤ a0.toInt) (e1 : 16 ≤ a0.toInt) : xRun (d + 6) 133 [Value.ref 7, Value.int a0, Value.int a1] w (.inr w.length) (w ++ [Sum.inr (14, [])]) := by
  refine xRun.of ?_
  refine i_133_0 (x := a0) rfl ?_
  refine i_133_1 (Nat.le_of_ble_eq_true rfl) (p_15_2 e0 e1) ?_
  refine i_133_4 (fun _ => ?_) (fun h => absurd h (by decide))
  exact i_133_14 (by omega) (Nat.le_of_ble_eq_true rfl) ⟨rfl, rfl⟩
theorem p_132_4 {d : Nat} {w : xW} {a0 : Int32} {a1 : Int32} (hw0 : w[7]? = some (Sum.inr (0, [Value.ref 8, Value.ref 78, Value.ref 9, Value.ref 10, Value.ref 13, Value.ref 16, Value.ref 19, Value.ref 93, Value.ref 108, Value.ref 113, Value.ref 29, Value.int 0]))) (e1 : 0 ≤ a0.toInt) (e2 : 16 ≤ a0.toInt) : xRun (d + 7) 132 [Value.ref 7, Value.int a0, Value.int a1, Value.ref 194] w (.inl (some (Value.int 1))) (w ++ [Sum.inr (14, [])]) := by
  refine xRun.of ?_
  refine i_132_0 (x := 194) rfl ?_
  refine i_132_1 ?_
  refine i_132_2 (x := 7) rfl ?_
  refine i_132_3 (x := a0) rfl ?_
  refine i_132_4 (x := a1) rfl ?_
  refine j_132_5 hw0 (Nat.le_of_ble_eq_true rfl) (p_133_4 e1 e2) (xDone.c xgl rfl rfl ?_)
  refine i_132_12 (lv2 := [(4, Value.ref w.length), (0, Value.ref 7), (1, Value.int a0), (2, Value.int a1), (3, Value.ref 194)]) rfl ?_
  refine i_132_14 ?_
  exact i_132_15 ⟨rfl, rfl⟩
theorem p_252_4 {d : Nat} {w : xW} {a0 : Int32} {a1 : Int32} (e0 : 0 ≤ a0.toInt) (e1 : 15 < a0.toInt) : xRun (d + 8) 252 [Value.ref 128, Value.int a0, Value.int a1] w (.inr w.length) (w ++ [Sum.inr (14, [])]) := by
  refine xRun.of ?_
  refine i_252_0 (x := a0) rfl ?_
  exact j_252_1 (Nat.le_of_ble_eq_true rfl) (p_168_2 e0 e1) (xDone.t xgl rfl rfl ⟨rfl, rfl⟩)
theorem p_251_4 {d : Nat} {w : xW} {a0 : Int32} {a1 : Int32} (hw0 : w[128]? = some (Sum.inr (12, [Value.ref 129, Value.ref 131, Value.ref 133, Value.ref 135, Value.ref 137, Value.ref 139, Value.ref 141, Value.ref 143, Value.ref 145, Value.ref 147, Value.ref 149, Value.ref 151, Value.ref 153, Value.ref 154, Value.ref 155, Value.ref 156, Value.ref 157, Value.int (-16384), Value.int 16384, Value.int 0, Value.int 0, Value.int 0, Value.ref 158, Value.ref 159, Value.int 0, Value.int 0, Value.int 0, Value.int 0, Value.int 0, Value.int 0, Value.int 0, Value.int 0]))) (e1 : 0 ≤ a0.toInt) (e2 : 15 < a0.toInt) : xRun (d + 9) 251 [Value.ref 128, Value.int a0, Value.int a1] w (.inl (some (Value.long 0))) (((w.set 128 (Sum.inr (12, [Value.ref 129, Value.ref 131, Value.ref 133, Value.ref 135, Value.ref 137, Value.ref 139, Value.ref 141, Value.ref 143, Value.ref 145, Value.ref 147, Value.ref 149, Value.ref 151, Value.ref 153, Value.ref 154, Value.ref 155, Value.ref 156, Value.ref 157, Value.int (-16384), Value.int 16384, Value.int 0, Value.int 0, Value.int 0, Value.ref 158, Value.ref 159, Value.int 0, Value.int 0, Value.int 0, Value.int 0, Value.int 0, Value.int 0, Value.int 0, Value.int 0]))) ++ [Sum.inr (14, [])]).set 128 (Sum.inr (12, [Value.ref 129, Value.ref 131, Value.ref 133, Value.ref 135, Value.ref 137, Value.ref 139, Value.ref 141, Value.ref 143, Value.ref 145, Value.ref 147, Value.ref 149, Value.ref 151, Value.ref 153, Value.ref 154, Value.ref 155, Value.ref 156, Value.ref 157, Value.int (-16384), Value.int 16384, Value.int 0, Value.int 0, Value.int 0, Value.ref 158, Value.ref 159, Value.int 0, Value.int 0, Value.int 0, Value.int 0, Value.int 0, Value.int 0, Value.int 0, Value.int 1]))) := by
  refine xRun.of ?_
  refine i_251_0 (x := 128) rfl ?_
  refine i_251_1 ?_
  refine i_251_2 (fs2 := [Value.ref 129, Value.ref 131, Value.ref 133, Value.ref 135, Value.ref 137, Value.ref 139, Value.ref 141, Value.ref 143, Value.ref 145, Value.ref 147, Value.ref 149, Value.ref 151, Value.ref 153, Value.ref 154, Value.ref 155, Value.ref 156, Value.ref 157, Value.int (-16384), Value.int 16384, Value.int 0, Value.int 0, Value.int 0, Value.ref 158, Value.ref 159, Value.int 0, Value.int 0, Value.int 0, Value.int 0, Value.int 0, Value.int 0, Value.int 0, Value.int 0]) hw0 (Nat.le_of_ble_eq_true rfl) rfl (by decide) ?_
  refine i_251_5 (x := 128) rfl ?_
  refine i_251_6 (x := a0) rfl ?_
  refine i_251_7 (x := a1) rfl ?_
  refine j_251_8 (xgs hw0) (Nat.le_of_ble_eq_true rfl) (p_252_4 e1 e2) (xDone.c xgl rfl rfl ?_)
  refine i_251_12 (lv2 := [(3, Value.ref ((w.set 128 (Sum.inr (12, [Value.ref 129, Value.ref 131, Value.ref 133, Value.ref 135, Value.ref 137, Value.ref 139, Value.ref 141, Value.ref 143, Value.ref 145, Value.ref 147, Value.ref 149, Value.ref 151, Value.ref 153, Value.ref 154, Value.ref 155, Value.ref 156, Value.ref 157, Value.int (-16384), Value.int 16384, Value.int 0, Value.int 0, Value.int 0, Value.ref 158, Value.ref 159, Value.int 0, Value.int 0, Value.int 0, Value.int 0, Value.int 0, Value.int 0, Value.int 0, Value.int 0]))).length)), (0, Value.ref 128), (1, Value.int a0), (2, Value.int a1)]) rfl ?_
  refine i_251_13 (x := 128) rfl ?_
  refine i_251_14 ?_
  refine i_251_15 (fs2 := [Value.ref 129, Value.ref 131, Value.ref 133, Value.ref 135, Value.ref 137, Value.ref 139, Value.ref 141, Value.ref 143, Value.ref 145, Value.ref 147, Value.ref 149, Value.ref 151, Value.ref 153, Value.ref 154, Value.ref 155, Value.ref 156, Value.ref 157, Value.int (-16384), Value.int 16384, Value.int 0, Value.int 0, Value.int 0, Value.ref 158, Value.ref 159, Value.int 0, Value.int 0, Value.int 0, Value.int 0, Value.int 0, Value.int 0, Value.int 0, Value.int 1]) (xga (xgs hw0)) (Nat.le_of_ble_eq_true rfl) rfl (by decide) ?_
  refine i_251_18 ?_
  refine i_251_27 ?_
  exact i_251_28 ⟨rfl, rfl⟩
theorem o_18_4 {d : Nat} {xs : Nat → Int32} (h0 : ((xs 0) &&& (31 : Int32)).toInt = 18) (c0 : 0 ≤ (xs 1).toInt) (c1 : 16 ≤ (xs 1).toInt) : ∃ w1, xEv (d + 20) 287 23 [(4, Value.int 0), (3, Value.ref 194), (2, Value.ref 128), (1, Value.ref 7), (0, Value.ref 0)] [] (W0 6 xs) (fun o' w' => o' = .inl (some (Value.int 1)) ∧ w' = w1) ∧ w1.length ≤ 220 ∧ xsz w1 ≤ 200000 := by
  refine ⟨(((((W0 6 xs) ++ [Sum.inr (14, [])]).set 128 (Sum.inr (12, [Value.ref 129, Value.ref 131, Value.ref 133, Value.ref 135, Value.ref 137, Value.ref 139, Value.ref 141, Value.ref 143, Value.ref 145, Value.ref 147, Value.ref 149, Value.ref 151, Value.ref 153, Value.ref 154, Value.ref 155, Value.ref 156, Value.ref 157, Value.int (-16384), Value.int 16384, Value.int 0, Value.int 0, Value.int 0, Value.ref 158, Value.ref 159, Value.int 0, Value.int 0, Value.int 0, Value.int 0, Value.int 0, Value.int 0, Value.int 0, Value.int 0]))) ++ [Sum.inr (14, [])]).set 128 (Sum.inr (12, [Value.ref 129, Value.ref 131, Value.ref 133, Value.ref 135, Value.ref 137, Value.ref 139, Value.ref 141, Value.ref 143, Value.ref 145, Value.ref 147, Value.ref 149, Value.ref 151, Value.ref 153, Value.ref 154, Value.ref 155, Value.ref 156, Value.ref 157, Value.int (-16384), Value.int 16384, Value.int 0, Value.int 0, Value.int 0, Value.ref 158, Value.ref 159, Value.int 0, Value.int 0, Value.int 0, Value.int 0, Value.int 0, Value.int 0, Value.int 0, Value.int 1]))), ?_, (show xLs _ 220 200000 from ?_)⟩
  · refine i_287_23 (x := 0) rfl ?_
    refine i_287_25 (x := 0) rfl ?_
    refine i_287_26 (c := 6) W0_0 (by decide) ?_
    refine i_287_27 ?_
    refine i_287_29 (c := 0) (by decide) ?_
    refine i_287_30 (fun h => absurd h (by decide)) (fun _ => ?_)
    refine i_287_33 (x := 0) rfl ?_
    refine i_287_34 (x := 0) rfl ?_
    refine i_287_36 (v := Value.int (xs 0)) W0_0 (by decide) (by decide) rfl ?_
    refine i_287_37 ?_
    refine i_287_39 (c := ((xs 0) &&& (31 : Int32))) rfl ?_
    refine i_287_40_18 (by omega) ?_
    refine i_287_1719 (x := 7) rfl ?_
    refine i_287_1720 (x := 0) rfl ?_
    refine i_287_1721 (x := 0) rfl ?_
    refine i_287_1723 ?_
    refine i_287_1724 (c := 1) (by decide) ?_
    refine i_287_1725 (v := Value.int (xs 1)) W0_0 (by decide) (by decide) rfl ?_
    refine i_287_1726 (x := 0) rfl ?_
    refine i_287_1727 (x := 0) rfl ?_
    refine i_287_1729 ?_
    refine i_287_1730 (c := 2) (by decide) ?_
    refine i_287_1731 (v := Value.int (xs 2)) W0_0 (by decide) (by decide) rfl ?_
    refine i_287_1732 (x := 194) rfl ?_
    refine i_287_1733 (Nat.le_of_ble_eq_true rfl) (p_132_4 W0_7 (by omega) (by omega)) ?_
    refine i_287_1736 (lv2 := [(5, Value.int 1), (4, Value.int 0), (3, Value.ref 194), (2, Value.ref 128), (1, Value.ref 7), (0, Value.ref 0)]) rfl ?_
    refine i_287_1738 (x := 128) rfl ?_
    refine i_287_1739 (x := 0) rfl ?_
    refine i_287_1740 (x := 0) rfl ?_
    refine i_287_1742 ?_
    refine i_287_1743 (c := 1) (by decide) ?_
    refine i_287_1744 (v := Value.int (xs 1)) (xga W0_0) (by decide) (by decide) rfl ?_
    refine i_287_1745 (x := 0) rfl ?_
    refine i_287_1746 (x := 0) rfl ?_
    refine i_287_1748 ?_
    refine i_287_1749 (c := 2) (by decide) ?_
    refine i_287_1750 (v := Value.int (xs 2)) (xga W0_0) (by decide) (by decide) rfl ?_
    refine i_287_1751 (xga W0_128) (Nat.le_of_ble_eq_true rfl) (p_251_4 (xga W0_128) (by omega) (by omega)) ?_
    refine i_287_1754 (lv2 := [(6, Value.long 0), (5, Value.int 1), (4, Value.int 0), (3, Value.ref 194), (2, Value.ref 128), (1, Value.ref 7), (0, Value.ref 0)]) rfl ?_
    refine i_287_1756 (x := 128) rfl ?_
    refine i_287_1757 (xgs (xga (xgs (xga W0_128)))) (Nat.le_of_ble_eq_true rfl) (p_165_0 (xgs (xga (xgs (xga W0_128))))) ?_
    refine i_287_1760 (x := 1) rfl ?_
    refine i_287_1762 (fun _ => ?_) (fun h => absurd h (by decide))
    refine i_287_1767 (x := 1) rfl ?_
    refine i_287_1769 (fun _ => ?_) (fun h => absurd h (by decide))
    refine i_287_1783 ?_
    refine i_287_2154 (x := 0) (c := 6) (lv2 := [(4, Value.int 6), (6, Value.long 0), (5, Value.int 1), (3, Value.ref 194), (2, Value.ref 128), (1, Value.ref 7), (0, Value.ref 0)]) rfl (by decide) rfl ?_
    refine i_287_2157 ?_
    refine i_287_23 (x := 6) rfl ?_
    refine i_287_25 (x := 0) rfl ?_
    refine i_287_26 (c := 6) (xgn (by decide) (xga (xgn (by decide) (xga W0_0)))) (by decide) ?_
    refine i_287_27 ?_
    refine i_287_29 (c := 0) (by decide) ?_
    refine i_287_30 (fun _ => ?_) (fun h => absurd h (by decide))
    refine i_287_2160 ?_
    exact i_287_2161 rfl ⟨rfl, rfl⟩
  · refine xLs.set ?_ (xga (xgs (xga W0_128))) xcs_o
    refine xLs.app (n := 219) (z := 199994) (m := 6) ?_ rfl
    refine xLs.set ?_ (xga W0_128) xcs_o
    refine xLs.app (n := 218) (z := 199988) (m := 6) ?_ rfl
    exact ⟨Nat.le_trans (Nat.le_of_eq W0_len) (by decide), Nat.le_trans (Nat.le_of_eq W0_sz) (by decide)⟩
theorem op_18 {d : Nat} {xs : Nat → Int32} (h0 : ((xs 0) &&& (31 : Int32)).toInt = 18) : ∃ w1, xEv (d + 20) 287 23 [(4, Value.int 0), (3, Value.ref 194), (2, Value.ref 128), (1, Value.ref 7), (0, Value.ref 0)] [] (W0 6 xs) (fun o' w' => o' = .inl (some (Value.int 1)) ∧ w' = w1) ∧ w1.length ≤ 220 ∧ xsz w1 ≤ 200000 := by
  rcases Int.lt_or_le (xs 1).toInt (0) with c0 | c0
  · exact o_18_0 h0 c0
  · rcases Int.lt_or_le (xs 1).toInt (16) with c1 | c1
    · rcases Int.lt_or_le (xs 2).toInt (0) with c2 | c2
      · exact o_18_1 h0 c0 c1 c2
      · rcases Int.lt_or_le (4) (xs 2).toInt with c3 | c3
        · exact o_18_2 h0 c0 c1 c2 c3
        · exact o_18_3 h0 c0 c1 c2 c3
    · exact o_18_4 h0 c0 c1
theorem p_140_0 {d : Nat} {w : xW} {a0 : Int32} (e0 : a0.toInt < 0) : xRun (d + 6) 140 [Value.ref 7, Value.int a0] w (.inr w.length) (w ++ [Sum.inr (14, [])]) := by
  refine xRun.of ?_
  refine i_140_0 (x := a0) rfl ?_
  refine i_140_1 (fun _ => ?_) (fun h => absurd e0 (Int.not_lt.mpr h))
  exact i_140_12 (by omega) (Nat.le_of_ble_eq_true rfl) ⟨rfl, rfl⟩
theorem p_139_0 {d : Nat} {w : xW} {a0 : Int32} (hw0 : w[7]? = some (Sum.inr (0, [Value.ref 8, Value.ref 78, Value.ref 9, Value.ref 10, Value.ref 13, Value.ref 16, Value.ref 19, Value.ref 93, Value.ref 108, Value.ref 113, Value.ref 29, Value.int 0]))) (e1 : a0.toInt < 0) : xRun (d + 7) 139 [Value.ref 7, Value.int a0, Value.ref 194] w (.inl (some (Value.int 1))) (w ++ [Sum.inr (14, [])]) := by
  refine xRun.of ?_
  refine i_139_0 (x := 194) rfl ?_
  refine i_139_1 ?_
  refine i_139_2 (x := 7) rfl ?_
  refine i_139_3 (x := a0) rfl ?_
  refine j_139_4 hw0 (Nat.le_of_ble_eq_true rfl) (p_140_0 e1) (xDone.c xgl rfl rfl ?_)
  refine i_139_12 (lv2 := [(3, Value.ref w.length), (0, Value.ref 7), (1, Value.int a0), (2, Value.ref 194)]) rfl ?_
  refine i_139_13 ?_
  exact i_139_14 ⟨rfl, rfl⟩
theorem p_169_30 {d : Nat} {w : xW} {a0 : Int32} (e0 : a0.toInt < 0) : xRun d 169 [Value.int a0, Value.int 0, Value.int 0] w (.inl (some (Value.int 0))) w := by
  refine xRun.of ?_
  refine i_169_0 (x := a0) rfl ?_
  refine i_169_1 (x := 0) rfl ?_
  refine i_169_2 (fun _ => ?_) (fun h => absurd e0 (Int.not_lt.mpr h))
  refine i_169_14 ?_
  exact i_169_15 rfl ⟨rfl, rfl⟩
theorem p_256_0 {d : Nat} {w : xW} {a0 : Int32} (hw0 : w[128]? = some (Sum.inr (12, [Value.ref 129, Value.ref 131, Value.ref 133, Value.ref 135, Value.ref 137, Value.ref 139, Value.ref 141, Value.ref 143, Value.ref 145, Value.ref 147, Value.ref 149, Value.ref 151, Value.ref 153, Value.ref 154, Value.ref 155, Value.ref 156, Value.ref 157, Value.int (-16384), Value.int 16384, Value.int 0, Value.int 0, Value.int 0, Value.ref 158, Value.ref 159, Value.int 0, Value.int 0, Value.int 0, Value.int 0, Value.int 0, Value.int 0, Value.int 0, Value.int 0]))) (e1 : a0.toInt < 0) : xRun (d + 7) 256 [Value.ref 128, Value.int a0] w (.inr w.length) (w ++ [Sum.inr (14, [])]) := by
  refine xRun.of ?_
  refine i_256_0 (x := a0) rfl ?_
  refine i_256_1 ?_
  refine i_256_2 (x := 128) rfl ?_
  refine i_256_3 (v := Value.int 0) hw0 rfl ?_
  refine i_256_6 (Nat.le_of_ble_eq_true rfl) (p_169_30 e1) ?_
  exact j_256_9 (Nat.le_of_ble_eq_true rfl) (p_170_0) (xDone.t xgl rfl rfl ⟨rfl, rfl⟩)
theorem p_255_0 {d : Nat} {w : xW} {a0 : Int32} (hw0 : w[128]? = some (Sum.inr (12, [Value.ref 129, Value.ref 131, Value.ref 133, Value.ref 135, Value.ref 137, Value.ref 139, Value.ref 141, Value.ref 143, Value.ref 145, Value.ref 147, Value.ref 149, Value.ref 151, Value.ref 153, Value.ref 154, Value.ref 155, Value.ref 156, Value.ref 157, Value.int (-16384), Value.int 16384, Value.int 0, Value.int 0, Value.int 0, Value.ref 158, Value.ref 159, Value.int 0, Value.int 0, Value.int 0, Value.int 0, Value.int 0, Value.int 0, Value.int 0, Value.int 0]))) (e1 : a0.toInt < 0) : xRun (d + 8) 255 [Value.ref 128, Value.int a0] w (.inl (some (Value.int 0))) (((w.set 128 (Sum.inr (12, [Value.ref 129, Value.ref 131, Value.ref 133, Value.ref 135, Value.ref 137, Value.ref 139, Value.ref 141, Value.ref 143, Value.ref 145, Value.ref 147, Value.ref 149, Value.ref 151, Value.ref 153, Value.ref 154, Value.ref 155, Value.ref 156, Value.ref 157, Value.int (-16384), Value.int 16384, Value.int 0, Value.int 0, Value.int 0, Value.ref 158, Value.ref 159, Value.int 0, Value.int 0, Value.int 0, Value.int 0, Value.int 0, Value.int 0, Value.int 0, Value.int 0]))) ++ [Sum.inr (14, [])]).set 128 (Sum.inr (12, [Value.ref 129, Value.ref 131, Value.ref 133, Value.ref 135, Value.ref 137, Value.ref 139, Value.ref 141, Value.ref 143, Value.ref 145, Value.ref 147, Value.ref 149, Value.ref 151, Value.ref 153, Value.ref 154, Value.ref 155, Value.ref 156, Value.ref 157, Value.int (-16384), Value.int 16384, Value.int 0, Value.int 0, Value.int 0, Value.ref 158, Value.ref 159, Value.int 0, Value.int 0, Value.int 0, Value.int 0, Value.int 0, Value.int 0, Value.int 0, Value.int 1]))) := by
  refine xRun.of ?_
  refine i_255_0 (x := 128) rfl ?_
  refine i_255_1 ?_
  refine i_255_2 (fs2 := [Value.ref 129, Value.ref 131, Value.ref 133, Value.ref 135, Value.ref 137, Value.ref 139, Value.ref 141, Value.ref 143, Value.ref 145, Value.ref 147, Value.ref 149, Value.ref 151, Value.ref 153, Value.ref 154, Value.ref 155, Value.ref 156, Value.ref 157, Value.int (-16384), Value.int 16384, Value.int 0, Value.int 0, Value.int 0, Value.ref 158, Value.ref 159, Value.int 0, Value.int 0, Value.int 0, Value.int 0, Value.int 0, Value.int 0, Value.int 0, Value.int 0]) hw0 (Nat.le_of_ble_eq_true rfl) rfl (by decide) ?_
  refine i_255_5 (x := 128) rfl ?_
  refine i_255_6 (x := a0) rfl ?_
  refine j_255_7 (xgs hw0) (Nat.le_of_ble_eq_true rfl) (p_256_0 (xgs hw0) e1) (xDone.c xgl rfl rfl ?_)
  refine i_255_11 (lv2 := [(2, Value.ref ((w.set 128 (Sum.inr (12, [Value.ref 129, Value.ref 131, Value.ref 133, Value.ref 135, Value.ref 137, Value.ref 139, Value.ref 141, Value.ref 143, Value.ref 145, Value.ref 147, Value.ref 149, Value.ref 151, Value.ref 153, Value.ref 154, Value.ref 155, Value.ref 156, Value.ref 157, Value.int (-16384), Value.int 16384, Value.int 0, Value.int 0, Value.int 0, Value.ref 158, Value.ref 159, Value.int 0, Value.int 0, Value.int 0, Value.int 0, Value.int 0, Value.int 0, Value.int 0, Value.int 0]))).length)), (0, Value.ref 128), (1, Value.int a0)]) rfl ?_
  refine i_255_12 (x := 128) rfl ?_
  refine i_255_13 ?_
  refine i_255_14 (fs2 := [Value.ref 129, Value.ref 131, Value.ref 133, Value.ref 135, Value.ref 137, Value.ref 139, Value.ref 141, Value.ref 143, Value.ref 145, Value.ref 147, Value.ref 149, Value.ref 151, Value.ref 153, Value.ref 154, Value.ref 155, Value.ref 156, Value.ref 157, Value.int (-16384), Value.int 16384, Value.int 0, Value.int 0, Value.int 0, Value.ref 158, Value.ref 159, Value.int 0, Value.int 0, Value.int 0, Value.int 0, Value.int 0, Value.int 0, Value.int 0, Value.int 1]) (xga (xgs hw0)) (Nat.le_of_ble_eq_true rfl) rfl (by decide) ?_
  refine i_255_17 ?_
  exact i_255_18 ⟨rfl, rfl⟩
theorem o_20_0 {d : Nat} {xs : Nat → Int32} (h0 : ((xs 0) &&& (31 : Int32)).toInt = 20) (c0 : (xs 1).toInt < 0) : ∃ w1, xEv (d + 20) 287 23 [(4, Value.int 0), (3, Value.ref 194), (2, Value.ref 128), (1, Value.ref 7), (0, Value.ref 0)] [] (W0 6 xs) (fun o' w' => o' = .inl (some (Value.int 1)) ∧ w' = w1) ∧ w1.length ≤ 220 ∧ xsz w1 ≤ 200000 := by
  refine ⟨(((((W0 6 xs) ++ [Sum.inr (14, [])]).set 128 (Sum.inr (12, [Value.ref 129, Value.ref 131, Value.ref 133, Value.ref 135, Value.ref 137, Value.ref 139, Value.ref 141, Value.ref 143, Value.ref 145, Value.ref 147, Value.ref 149, Value.ref 151, Value.ref 153, Value.ref 154, Value.ref 155, Value.ref 156, Value.ref 157, Value.int (-16384), Value.int 16384, Value.int 0, Value.int 0, Value.int 0, Value.ref 158, Value.ref 159, Value.int 0, Value.int 0, Value.int 0, Value.int 0, Value.int 0, Value.int 0, Value.int 0, Value.int 0]))) ++ [Sum.inr (14, [])]).set 128 (Sum.inr (12, [Value.ref 129, Value.ref 131, Value.ref 133, Value.ref 135, Value.ref 137, Value.ref 139, Value.ref 141, Value.ref 143, Value.ref 145, Value.ref 147, Value.ref 149, Value.ref 151, Value.ref 153, Value.ref 154, Value.ref 155, Value.ref 156, Value.ref 157, Value.int (-16384), Value.int 16384, Value.int 0, Value.int 0, Value.int 0, Value.ref 158, Value.ref 159, Value.int 0, Value.int 0, Value.int 0, Value.int 0, Value.int 0, Value.int 0, Value.int 0, Value.int 1]))), ?_, (show xLs _ 220 200000 from ?_)⟩
  · refine i_287_23 (x := 0) rfl ?_
    refine i_287_25 (x := 0) rfl ?_
    refine i_287_26 (c := 6) W0_0 (by decide) ?_
    refine i_287_27 ?_
    refine i_287_29 (c := 0) (by decide) ?_
    refine i_287_30 (fun h => absurd h (by decide)) (fun _ => ?_)
    refine i_287_33 (x := 0) rfl ?_
    refine i_287_34 (x := 0) rfl ?_
    refine i_287_36 (v := Value.int (xs 0)) W0_0 (by decide) (by decide) rfl ?_
    refine i_287_37 ?_
    refine i_287_39 (c := ((xs 0) &&& (31 : Int32))) rfl ?_
    refine i_287_40_20 (by omega) ?_
    refine i_287_1870 (x := 7) rfl ?_
    refine i_287_1871 (x := 0) rfl ?_
    refine i_287_1872 (x := 0) rfl ?_
    refine i_287_1874 ?_
    refine i_287_1875 (c := 1) (by decide) ?_
    refine i_287_1876 (v := Value.int (xs 1)) W0_0 (by decide) (by decide) rfl ?_
    refine i_287_1877 (x := 194) rfl ?_
    refine i_287_1878 (Nat.le_of_ble_eq_true rfl) (p_139_0 W0_7 (by omega)) ?_
    refine i_287_1881 (lv2 := [(5, Value.int 1), (4, Value.int 0), (3, Value.ref 194), (2, Value.ref 128), (1, Value.ref 7), (0, Value.ref 0)]) rfl ?_
    refine i_287_1883 (x := 128) rfl ?_
    refine i_287_1884 (x := 0) rfl ?_
    refine i_287_1885 (x := 0) rfl ?_
    refine i_287_1887 ?_
    refine i_287_1888 (c := 1) (by decide) ?_
    refine i_287_1889 (v := Value.int (xs 1)) (xga W0_0) (by decide) (by decide) rfl ?_
    refine i_287_1890 (xga W0_128) (Nat.le_of_ble_eq_true rfl) (p_255_0 (xga W0_128) (by omega)) ?_
    refine i_287_1893 (lv2 := [(6, Value.int 0), (5, Value.int 1), (4, Value.int 0), (3, Value.ref 194), (2, Value.ref 128), (1, Value.ref 7), (0, Value.ref 0)]) rfl ?_
    refine i_287_1895 (x := 128) rfl ?_
    refine i_287_1896 (xgs (xga (xgs (xga W0_128)))) (Nat.le_of_ble_eq_true rfl) (p_165_0 (xgs (xga (xgs (xga W0_128))))) ?_
    refine i_287_1899 (x := 1) rfl ?_
    refine i_287_1901 (fun _ => ?_) (fun h => absurd h (by decide))
    refine i_287_1906 (x := 1) rfl ?_
    refine i_287_1908 (fun _ => ?_) (fun h => absurd h (by decide))
    refine i_287_1923 ?_
    refine i_287_2154 (x := 0) (c := 6) (lv2 := [(4, Value.int 6), (6, Value.int 0), (5, Value.int 1), (3, Value.ref 194), (2, Value.ref 128), (1, Value.ref 7), (0, Value.ref 0)]) rfl (by decide) rfl ?_
    refine i_287_2157 ?_
    refine i_287_23 (x := 6) rfl ?_
    refine i_287_25 (x := 0) rfl ?_
    refine i_287_26 (c := 6) (xgn (by decide) (xga (xgn (by decide) (xga W0_0)))) (by decide) ?_
    refine i_287_27 ?_
    refine i_287_29 (c := 0) (by decide) ?_
    refine i_287_30 (fun _ => ?_) (fun h => absurd h (by decide))
    refine i_287_2160 ?_
    exact i_287_2161 rfl ⟨rfl, rfl⟩
  · refine xLs.set ?_ (xga (xgs (xga W0_128))) xcs_o
    refine xLs.app (n := 219) (z := 199994) (m := 6) ?_ rfl
    refine xLs.set ?_ (xga W0_128) xcs_o
    refine xLs.app (n := 218) (z := 199988) (m := 6) ?_ rfl
    exact ⟨Nat.le_trans (Nat.le_of_eq W0_len) (by decide), Nat.le_trans (Nat.le_of_eq W0_sz) (by decide)⟩
theorem p_140_1 {d : Nat} {w : xW} {a0 : Int32} (e0 : 0 ≤ a0.toInt) (hw1 : w[7]? = some (Sum.inr (0, [Value.ref 8, Value.ref 78, Value.ref 9, Value.ref 10, Value.ref 13, Value.ref 16, Value.ref 19, Value.ref 93, Value.ref 108, Value.ref 113, Value.ref 29, Value.int 0]))) (e2 : 0 < a0.toInt) : xRun (d + 6) 140 [Value.ref 7, Value.int a0] w (.inr w.length) (w ++ [Sum.inr (14, [])]) := by
  refine xRun.of ?_
  refine i_140_0 (x := a0) rfl ?_
  refine i_140_1 (fun h => absurd e0 (Int.not_le.mpr h)) (fun _ => ?_)
  refine i_140_4 (x := a0) rfl ?_
  refine i_140_5 (x := 7) rfl ?_
  refine i_140_6 (v := Value.int 0) hw1 rfl ?_
  refine i_140_9 (fun h => absurd e2 (Int.not_lt.mpr h)) (fun _ => ?_)
  exact i_140_12 (by omega) (Nat.le_of_ble_eq_true rfl) ⟨rfl, rfl⟩
theorem p_139_1 {d : Nat} {w : xW} {a0 : Int32} (hw0 : w[7]? = some (Sum.inr (0, [Value.ref 8, Value.ref 78, Value.ref 9, Value.ref 10, Value.ref 13, Value.ref 16, Value.ref 19, Value.ref 93, Value.ref 108, Value.ref 113, Value.ref 29, Value.int 0]))) (e1 : 0 ≤ a0.toInt) (e2 : 0 < a0.toInt) : xRun (d + 7) 139 [Value.ref 7, Value.int a0, Value.ref 194] w (.inl (some (Value.int 1))) (w ++ [Sum.inr (14, [])]) := by
  refine xRun.of ?_
  refine i_139_0 (x := 194) rfl ?_
  refine i_139_1 ?_
  refine i_139_2 (x := 7) rfl ?_
  refine i_139_3 (x := a0) rfl ?_
  refine j_139_4 hw0 (Nat.le_of_ble_eq_true rfl) (p_140_1 e1 hw0 e2) (xDone.c xgl rfl rfl ?_)
  refine i_139_12 (lv2 := [(3, Value.ref w.length), (0, Value.ref 7), (1, Value.int a0), (2, Value.ref 194)]) rfl ?_
  refine i_139_13 ?_
  exact i_139_14 ⟨rfl, rfl⟩
theorem p_169_31 {d : Nat} {w : xW} {a0 : Int32} (e0 : 0 ≤ a0.toInt) (e1 : 0 < a0.toInt) : xRun d 169 [Value.int a0, Value.int 0, Value.int 0] w (.inl (some (Value.int 0))) w := by
  refine xRun.of ?_
  refine i_169_0 (x := a0) rfl ?_
  refine i_169_1 (x := 0) rfl ?_
  refine i_169_2 (fun h => absurd e0 (Int.not_le.mpr h)) (fun _ => ?_)
  refine i_169_5 (x := a0) rfl ?_
  refine i_169_6 (x := 0) rfl ?_
  refine i_169_7 (fun _ => ?_) (fun h => absurd e1 (Int.not_lt.mpr h))
  refine i_169_14 ?_
  exact i_169_15 rfl ⟨rfl, rfl⟩
theorem p_256_1 {d : Nat} {w : xW} {a0 : Int32} (hw0 : w[128]? = some (Sum.inr (12, [Value.ref 129, Value.ref 131, Value.ref 133, Value.ref 135, Value.ref 137, Value.ref 139, Value.ref 141, Value.ref 143, Value.ref 145, Value.ref 147, Value.ref 149, Value.ref 151, Value.ref 153, Value.ref 154, Value.ref 155, Value.ref 156, Value.ref 157, Value.int (-16384), Value.int 16384, Value.int 0, Value.int 0, Value.int 0, Value.ref 158, Value.ref 159, Value.int 0, Value.int 0, Value.int 0, Value.int 0, Value.int 0, Value.int 0, Value.int 0, Value.int 0]))) (e1 : 0 ≤ a0.toInt) (e2 : 0 < a0.toInt) : xRun (d + 7) 256 [Value.ref 128, Value.int a0] w (.inr w.length) (w ++ [Sum.inr (14, [])]) := by
  refine xRun.of ?_
  refine i_256_0 (x := a0) rfl ?_
  refine i_256_1 ?_
  refine i_256_2 (x := 128) rfl ?_
  refine i_256_3 (v := Value.int 0) hw0 rfl ?_
  refine i_256_6 (Nat.le_of_ble_eq_true rfl) (p_169_31 e1 e2) ?_
  exact j_256_9 (Nat.le_of_ble_eq_true rfl) (p_170_0) (xDone.t xgl rfl rfl ⟨rfl, rfl⟩)
theorem p_255_1 {d : Nat} {w : xW} {a0 : Int32} (hw0 : w[128]? = some (Sum.inr (12, [Value.ref 129, Value.ref 131, Value.ref 133, Value.ref 135, Value.ref 137, Value.ref 139, Value.ref 141, Value.ref 143, Value.ref 145, Value.ref 147, Value.ref 149, Value.ref 151, Value.ref 153, Value.ref 154, Value.ref 155, Value.ref 156, Value.ref 157, Value.int (-16384), Value.int 16384, Value.int 0, Value.int 0, Value.int 0, Value.ref 158, Value.ref 159, Value.int 0, Value.int 0, Value.int 0, Value.int 0, Value.int 0, Value.int 0, Value.int 0, Value.int 0]))) (e1 : 0 ≤ a0.toInt) (e2 : 0 < a0.toInt) : xRun (d + 8) 255 [Value.ref 128, Value.int a0] w (.inl (some (Value.int 0))) (((w.set 128 (Sum.inr (12, [Value.ref 129, Value.ref 131, Value.ref 133, Value.ref 135, Value.ref 137, Value.ref 139, Value.ref 141, Value.ref 143, Value.ref 145, Value.ref 147, Value.ref 149, Value.ref 151, Value.ref 153, Value.ref 154, Value.ref 155, Value.ref 156, Value.ref 157, Value.int (-16384), Value.int 16384, Value.int 0, Value.int 0, Value.int 0, Value.ref 158, Value.ref 159, Value.int 0, Value.int 0, Value.int 0, Value.int 0, Value.int 0, Value.int 0, Value.int 0, Value.int 0]))) ++ [Sum.inr (14, [])]).set 128 (Sum.inr (12, [Value.ref 129, Value.ref 131, Value.ref 133, Value.ref 135, Value.ref 137, Value.ref 139, Value.ref 141, Value.ref 143, Value.ref 145, Value.ref 147, Value.ref 149, Value.ref 151, Value.ref 153, Value.ref 154, Value.ref 155, Value.ref 156, Value.ref 157, Value.int (-16384), Value.int 16384, Value.int 0, Value.int 0, Value.int 0, Value.ref 158, Value.ref 159, Value.int 0, Value.int 0, Value.int 0, Value.int 0, Value.int 0, Value.int 0, Value.int 0, Value.int 1]))) := by
  refine xRun.of ?_
  refine i_255_0 (x := 128) rfl ?_
  refine i_255_1 ?_
  refine i_255_2 (fs2 := [Value.ref 129, Value.ref 131, Value.ref 133, Value.ref 135, Value.ref 137, Value.ref 139, Value.ref 141, Value.ref 143, Value.ref 145, Value.ref 147, Value.ref 149, Value.ref 151, Value.ref 153, Value.ref 154, Value.ref 155, Value.ref 156, Value.ref 157, Value.int (-16384), Value.int 16384, Value.int 0, Value.int 0, Value.int 0, Value.ref 158, Value.ref 159, Value.int 0, Value.int 0, Value.int 0, Value.int 0, Value.int 0, Value.int 0, Value.int 0, Value.int 0]) hw0 (Nat.le_of_ble_eq_true rfl) rfl (by decide) ?_
  refine i_255_5 (x := 128) rfl ?_
  refine i_255_6 (x := a0) rfl ?_
  refine j_255_7 (xgs hw0) (Nat.le_of_ble_eq_true rfl) (p_256_1 (xgs hw0) e1 e2) (xDone.c xgl rfl rfl ?_)
  refine i_255_11 (lv2 := [(2, Value.ref ((w.set 128 (Sum.inr (12, [Value.ref 129, Value.ref 131, Value.ref 133, Value.ref 135, Value.ref 137, Value.ref 139, Value.ref 141, Value.ref 143, Value.ref 145, Value.ref 147, Value.ref 149, Value.ref 151, Value.ref 153, Value.ref 154, Value.ref 155, Value.ref 156, Value.ref 157, Value.int (-16384), Value.int 16384, Value.int 0, Value.int 0, Value.int 0, Value.ref 158, Value.ref 159, Value.int 0, Value.int 0, Value.int 0, Value.int 0, Value.int 0, Value.int 0, Value.int 0, Value.int 0]))).length)), (0, Value.ref 128), (1, Value.int a0)]) rfl ?_
  refine i_255_12 (x := 128) rfl ?_
  refine i_255_13 ?_
  refine i_255_14 (fs2 := [Value.ref 129, Value.ref 131, Value.ref 133, Value.ref 135, Value.ref 137, Value.ref 139, Value.ref 141, Value.ref 143, Value.ref 145, Value.ref 147, Value.ref 149, Value.ref 151, Value.ref 153, Value.ref 154, Value.ref 155, Value.ref 156, Value.ref 157, Value.int (-16384), Value.int 16384, Value.int 0, Value.int 0, Value.int 0, Value.ref 158, Value.ref 159, Value.int 0, Value.int 0, Value.int 0, Value.int 0, Value.int 0, Value.int 0, Value.int 0, Value.int 1]) (xga (xgs hw0)) (Nat.le_of_ble_eq_true rfl) rfl (by decide) ?_
  refine i_255_17 ?_
  exact i_255_18 ⟨rfl, rfl⟩
theorem o_20_1 {d : Nat} {xs : Nat → Int32} (h0 : ((xs 0) &&& (31 : Int32)).toInt = 20) (c0 : 0 ≤ (xs 1).toInt) (c1 : 0 < (xs 1).toInt) : ∃ w1, xEv (d + 20) 287 23 [(4, Value.int 0), (3, Value.ref 194), (2, Value.ref 128), (1, Value.ref 7), (0, Value.ref 0)] [] (W0 6 xs) (fun o' w' => o' = .inl (some (Value.int 1)) ∧ w' = w1) ∧ w1.length ≤ 220 ∧ xsz w1 ≤ 200000 := by
  refine ⟨(((((W0 6 xs) ++ [Sum.inr (14, [])]).set 128 (Sum.inr (12, [Value.ref 129, Value.ref 131, Value.ref 133, Value.ref 135, Value.ref 137, Value.ref 139, Value.ref 141, Value.ref 143, Value.ref 145, Value.ref 147, Value.ref 149, Value.ref 151, Value.ref 153, Value.ref 154, Value.ref 155, Value.ref 156, Value.ref 157, Value.int (-16384), Value.int 16384, Value.int 0, Value.int 0, Value.int 0, Value.ref 158, Value.ref 159, Value.int 0, Value.int 0, Value.int 0, Value.int 0, Value.int 0, Value.int 0, Value.int 0, Value.int 0]))) ++ [Sum.inr (14, [])]).set 128 (Sum.inr (12, [Value.ref 129, Value.ref 131, Value.ref 133, Value.ref 135, Value.ref 137, Value.ref 139, Value.ref 141, Value.ref 143, Value.ref 145, Value.ref 147, Value.ref 149, Value.ref 151, Value.ref 153, Value.ref 154, Value.ref 155, Value.ref 156, Value.ref 157, Value.int (-16384), Value.int 16384, Value.int 0, Value.int 0, Value.int 0, Value.ref 158, Value.ref 159, Value.int 0, Value.int 0, Value.int 0, Value.int 0, Value.int 0, Value.int 0, Value.int 0, Value.int 1]))), ?_, (show xLs _ 220 200000 from ?_)⟩
  · refine i_287_23 (x := 0) rfl ?_
    refine i_287_25 (x := 0) rfl ?_
    refine i_287_26 (c := 6) W0_0 (by decide) ?_
    refine i_287_27 ?_
    refine i_287_29 (c := 0) (by decide) ?_
    refine i_287_30 (fun h => absurd h (by decide)) (fun _ => ?_)
    refine i_287_33 (x := 0) rfl ?_
    refine i_287_34 (x := 0) rfl ?_
    refine i_287_36 (v := Value.int (xs 0)) W0_0 (by decide) (by decide) rfl ?_
    refine i_287_37 ?_
    refine i_287_39 (c := ((xs 0) &&& (31 : Int32))) rfl ?_
    refine i_287_40_20 (by omega) ?_
    refine i_287_1870 (x := 7) rfl ?_
    refine i_287_1871 (x := 0) rfl ?_
    refine i_287_1872 (x := 0) rfl ?_
    refine i_287_1874 ?_
    refine i_287_1875 (c := 1) (by decide) ?_
    refine i_287_1876 (v := Value.int (xs 1)) W0_0 (by decide) (by decide) rfl ?_
    refine i_287_1877 (x := 194) rfl ?_
    refine i_287_1878 (Nat.le_of_ble_eq_true rfl) (p_139_1 W0_7 (by omega) (by omega)) ?_
    refine i_287_1881 (lv2 := [(5, Value.int 1), (4, Value.int 0), (3, Value.ref 194), (2, Value.ref 128), (1, Value.ref 7), (0, Value.ref 0)]) rfl ?_
    refine i_287_1883 (x := 128) rfl ?_
    refine i_287_1884 (x := 0) rfl ?_
    refine i_287_1885 (x := 0) rfl ?_
    refine i_287_1887 ?_
    refine i_287_1888 (c := 1) (by decide) ?_
    refine i_287_1889 (v := Value.int (xs 1)) (xga W0_0) (by decide) (by decide) rfl ?_
    refine i_287_1890 (xga W0_128) (Nat.le_of_ble_eq_true rfl) (p_255_1 (xga W0_128) (by omega) (by omega)) ?_
    refine i_287_1893 (lv2 := [(6, Value.int 0), (5, Value.int 1), (4, Value.int 0), (3, Value.ref 194), (2, Value.ref 128), (1, Value.ref 7), (0, Value.ref 0)]) rfl ?_
    refine i_287_1895 (x := 128) rfl ?_
    refine i_287_1896 (xgs (xga (xgs (xga W0_128)))) (Nat.le_of_ble_eq_true rfl) (p_165_0 (xgs (xga (xgs (xga W0_128))))) ?_
    refine i_287_1899 (x := 1) rfl ?_
    refine i_287_1901 (fun _ => ?_) (fun h => absurd h (by decide))
    refine i_287_1906 (x := 1) rfl ?_
    refine i_287_1908 (fun _ => ?_) (fun h => absurd h (by decide))
    refine i_287_1923 ?_
    refine i_287_2154 (x := 0) (c := 6) (lv2 := [(4, Value.int 6), (6, Value.int 0), (5, Value.int 1), (3, Value.ref 194), (2, Value.ref 128), (1, Value.ref 7), (0, Value.ref 0)]) rfl (by decide) rfl ?_
    refine i_287_2157 ?_
    refine i_287_23 (x := 6) rfl ?_
    refine i_287_25 (x := 0) rfl ?_
    refine i_287_26 (c := 6) (xgn (by decide) (xga (xgn (by decide) (xga W0_0)))) (by decide) ?_
    refine i_287_27 ?_
    refine i_287_29 (c := 0) (by decide) ?_
    refine i_287_30 (fun _ => ?_) (fun h => absurd h (by decide))
    refine i_287_2160 ?_
    exact i_287_2161 rfl ⟨rfl, rfl⟩
  · refine xLs.set ?_ (xga (xgs (xga W0_128))) xcs_o
    refine xLs.app (n := 219) (z := 199994) (m := 6) ?_ rfl
    refine xLs.set ?_ (xga W0_128) xcs_o
    refine xLs.app (n := 218) (z := 199988) (m := 6) ?_ rfl
    exact ⟨Nat.le_trans (Nat.le_of_eq W0_len) (by decide), Nat.le_trans (Nat.le_of_eq W0_sz) (by decide)⟩
theorem p_140_2 {d : Nat} {w : xW} {a0 : Int32} (e0 : 0 ≤ a0.toInt) (hw1 : w[7]? = some (Sum.inr (0, [Value.ref 8, Value.ref 78, Value.ref 9, Value.ref 10, Value.ref 13, Value.ref 16, Value.ref 19, Value.ref 93, Value.ref 108, Value.ref 113, Value.ref 29, Value.int 0]))) (e2 : a0.toInt ≤ 0) : xRun d 140 [Value.ref 7, Value.int a0] w (.inl (some (Value.int ((0 : Int32) - a0)))) (w.set 7 (Sum.inr (0, [Value.ref 8, Value.ref 78, Value.ref 9, Value.ref 10, Value.ref 13, Value.ref 16, Value.ref 19, Value.ref 93, Value.ref 108, Value.ref 113, Value.ref 29, Value.int a0]))) := by
  refine xRun.of ?_
  refine i_140_0 (x := a0) rfl ?_
  refine i_140_1 (fun h => absurd e0 (Int.not_le.mpr h)) (fun _ => ?_)
  refine i_140_4 (x := a0) rfl ?_
  refine i_140_5 (x := 7) rfl ?_
  refine i_140_6 (v := Value.int 0) hw1 rfl ?_
  refine i_140_9 (fun _ => ?_) (fun h => absurd e2 (Int.not_le.mpr h))
  refine i_140_20 (x := 7) rfl ?_
  refine i_140_21 (v := Value.int 0) hw1 rfl ?_
  refine i_140_24 (x := a0) rfl ?_
  refine i_140_25 (c := ((0 : Int32) - a0)) rfl ?_
  refine i_140_26 (lv2 := [(2, Value.int ((0 : Int32) - a0)), (0, Value.ref 7), (1, Value.int a0)]) rfl ?_
  refine i_140_27 (x := 7) rfl ?_
  refine i_140_28 (x := a0) rfl ?_
  refine i_140_29 (fs2 := [Value.ref 8, Value.ref 78, Value.ref 9, Value.ref 10, Value.ref 13, Value.ref 16, Value.ref 19, Value.ref 93, Value.ref 108, Value.ref 113, Value.ref 29, Value.int a0]) hw1 (Nat.le_of_ble_eq_true rfl) rfl (by decide) ?_
  refine i_140_32 (x := ((0 : Int32) - a0)) rfl ?_
  exact i_140_33 ⟨rfl, rfl⟩
theorem p_139_2 {d : Nat} {w : xW} {a0 : Int32} (hw0 : w[7]? = some (Sum.inr (0, [Value.ref 8, Value.ref 78, Value.ref 9, Value.ref 10, Value.ref 13, Value.ref 16, Value.ref 19, Value.ref 93, Value.ref 108, Value.ref 113, Value.ref 29, Value.int 0]))) (e1 : 0 ≤ a0.toInt) (e2 : a0.toInt ≤ 0) (hw3 : w[194]? = some (Sum.inl (3, 1, fun _ => Value.long 0))) : xRun (d + 1) 139 [Value.ref 7, Value.int a0, Value.ref 194] w (.inl (some (Value.int 0))) ((w.set 7 (Sum.inr (0, [Value.ref 8, Value.ref 78, Value.ref 9, Value.ref 10, Value.ref 13, Value.ref 16, Value.ref 19, Value.ref 93, Value.ref 108, Value.ref 113, Value.ref 29, Value.int a0]))).set 194 (Sum.inl (3, 1, xup (fun _ => Value.long 0) (0 : Int32).toInt.toNat (Value.long (((0 : Int32) - a0).toInt64))))) := by
  refine xRun.of ?_
  refine i_139_0 (x := 194) rfl ?_
  refine i_139_1 ?_
  refine i_139_2 (x := 7) rfl ?_
  refine i_139_3 (x := a0) rfl ?_
  refine i_139_4 hw0 (Nat.le_of_ble_eq_true rfl) (p_140_2 e1 hw0 e2) ?_
  refine i_139_7 (c := ((0 : Int32) - a0).toInt64) rfl ?_
  refine i_139_8 (v := Value.long (((0 : Int32) - a0).toInt64)) (xgn (by decide) hw3) (by decide) (by decide) (by decide) rfl ?_
  refine i_139_9 ?_
  refine i_139_15 ?_
  exact i_139_16 ⟨rfl, rfl⟩
theorem p_169_32 {d : Nat} {w : xW} {a0 : Int32} (e0 : 0 ≤ a0.toInt) (e1 : a0.toInt ≤ 0) : xRun d 169 [Value.int a0, Value.int 0, Value.int 0] w (.inl (some (Value.int 1))) w := by
  refine xRun.of ?_
  refine i_169_0 (x := a0) rfl ?_
  refine i_169_1 (x := 0) rfl ?_
  refine i_169_2 (fun h => absurd e0 (Int.not_le.mpr h)) (fun _ => ?_)
  refine i_169_5 (x := a0) rfl ?_
  refine i_169_6 (x := 0) rfl ?_
  refine i_169_7 (fun h => absurd e1 (Int.not_le.mpr h)) (fun _ => ?_)
  refine i_169_10 ?_
  refine i_169_11 ?_
  exact i_169_15 rfl ⟨rfl, rfl⟩
theorem p_256_2 {d : Nat} {w : xW} {a0 : Int32} (hw0 : w[128]? = some (Sum.inr (12, [Value.ref 129, Value.ref 131, Value.ref 133, Value.ref 135, Value.ref 137, Value.ref 139, Value.ref 141, Value.ref 143, Value.ref 145, Value.ref 147, Value.ref 149, Value.ref 151, Value.ref 153, Value.ref 154, Value.ref 155, Value.ref 156, Value.ref 157, Value.int (-16384), Value.int 16384, Value.int 0, Value.int 0, Value.int 0, Value.ref 158, Value.ref 159, Value.int 0, Value.int 0, Value.int 0, Value.int 0, Value.int 0, Value.int 0, Value.int 0, Value.int 0]))) (e1 : 0 ≤ a0.toInt) (e2 : a0.toInt ≤ 0) : xRun (d + 1) 256 [Value.ref 128, Value.int a0] w (.inl (some (Value.int ((0 : Int32) - a0)))) (w.set 128 (Sum.inr (12, [Value.ref 129, Value.ref 131, Value.ref 133, Value.ref 135, Value.ref 137, Value.ref 139, Value.ref 141, Value.ref 143, Value.ref 145, Value.ref 147, Value.ref 149, Value.ref 151, Value.ref 153, Value.ref 154, Value.ref 155, Value.ref 156, Value.ref 157, Value.int (-16384), Value.int 16384, Value.int 0, Value.int 0, Value.int 0, Value.ref 158, Value.ref 159, Value.int a0, Value.int 0, Value.int 0, Value.int 0, Value.int 0, Value.int 0, Value.int 0, Value.int 0]))) := by
  refine xRun.of ?_
  refine i_256_0 (x := a0) rfl ?_
  refine i_256_1 ?_
  refine i_256_2 (x := 128) rfl ?_
  refine i_256_3 (v := Value.int 0) hw0 rfl ?_
  refine i_256_6 (Nat.le_of_ble_eq_true rfl) (p_169_32 e1 e2) ?_
  refine i_256_9 (Nat.le_of_ble_eq_true rfl) (p_170_1) ?_
  refine i_256_12 (x := 128) rfl ?_
  refine i_256_13 (v := Value.int 0) hw0 rfl ?_
  refine i_256_16 (x := a0) rfl ?_
  refine i_256_17 (c := ((0 : Int32) - a0)) rfl ?_
  refine i_256_18 (lv2 := [(2, Value.int ((0 : Int32) - a0)), (0, Value.ref 128), (1, Value.int a0)]) rfl ?_
  refine i_256_19 (x := 128) rfl ?_
  refine i_256_20 (x := a0) rfl ?_
  refine i_256_21 (fs2 := [Value.ref 129, Value.ref 131, Value.ref 133, Value.ref 135, Value.ref 137, Value.ref 139, Value.ref 141, Value.ref 143, Value.ref 145, Value.ref 147, Value.ref 149, Value.ref 151, Value.ref 153, Value.ref 154, Value.ref 155, Value.ref 156, Value.ref 157, Value.int (-16384), Value.int 16384, Value.int 0, Value.int 0, Value.int 0, Value.ref 158, Value.ref 159, Value.int a0, Value.int 0, Value.int 0, Value.int 0, Value.int 0, Value.int 0, Value.int 0, Value.int 0]) hw0 (Nat.le_of_ble_eq_true rfl) rfl (by decide) ?_
  refine i_256_24 (x := ((0 : Int32) - a0)) rfl ?_
  exact i_256_25 ⟨rfl, rfl⟩
theorem p_255_2 {d : Nat} {w : xW} {a0 : Int32} (hw0 : w[128]? = some (Sum.inr (12, [Value.ref 129, Value.ref 131, Value.ref 133, Value.ref 135, Value.ref 137, Value.ref 139, Value.ref 141, Value.ref 143, Value.ref 145, Value.ref 147, Value.ref 149, Value.ref 151, Value.ref 153, Value.ref 154, Value.ref 155, Value.ref 156, Value.ref 157, Value.int (-16384), Value.int 16384, Value.int 0, Value.int 0, Value.int 0, Value.ref 158, Value.ref 159, Value.int 0, Value.int 0, Value.int 0, Value.int 0, Value.int 0, Value.int 0, Value.int 0, Value.int 0]))) (e1 : 0 ≤ a0.toInt) (e2 : a0.toInt ≤ 0) : xRun (d + 2) 255 [Value.ref 128, Value.int a0] w (.inl (some (Value.int ((0 : Int32) - a0)))) ((w.set 128 (Sum.inr (12, [Value.ref 129, Value.ref 131, Value.ref 133, Value.ref 135, Value.ref 137, Value.ref 139, Value.ref 141, Value.ref 143, Value.ref 145, Value.ref 147, Value.ref 149, Value.ref 151, Value.ref 153, Value.ref 154, Value.ref 155, Value.ref 156, Value.ref 157, Value.int (-16384), Value.int 16384, Value.int 0, Value.int 0, Value.int 0, Value.ref 158, Value.ref 159, Value.int 0, Value.int 0, Value.int 0, Value.int 0, Value.int 0, Value.int 0, Value.int 0, Value.int 0]))).set 128 (Sum.inr (12, [Value.ref 129, Value.ref 131, Value.ref 133, Value.ref 135, Value.ref 137, Value.ref 139, Value.ref 141, Value.ref 143, Value.ref 145, Value.ref 147, Value.ref 149, Value.ref 151, Value.ref 153, Value.ref 154, Value.ref 155, Value.ref 156, Value.ref 157, Value.int (-16384), Value.int 16384, Value.int 0, Value.int 0, Value.int 0, Value.ref 158, Value.ref 159, Value.int a0, Value.int 0, Value.int 0, Value.int 0, Value.int 0, Value.int 0, Value.int 0, Value.int 0]))) := by
  refine xRun.of ?_
  refine i_255_0 (x := 128) rfl ?_
  refine i_255_1 ?_
  refine i_255_2 (fs2 := [Value.ref 129, Value.ref 131, Value.ref 133, Value.ref 135, Value.ref 137, Value.ref 139, Value.ref 141, Value.ref 143, Value.ref 145, Value.ref 147, Value.ref 149, Value.ref 151, Value.ref 153, Value.ref 154, Value.ref 155, Value.ref 156, Value.ref 157, Value.int (-16384), Value.int 16384, Value.int 0, Value.int 0, Value.int 0, Value.ref 158, Value.ref 159, Value.int 0, Value.int 0, Value.int 0, Value.int 0, Value.int 0, Value.int 0, Value.int 0, Value.int 0]) hw0 (Nat.le_of_ble_eq_true rfl) rfl (by decide) ?_
  refine i_255_5 (x := 128) rfl ?_
  refine i_255_6 (x := a0) rfl ?_
  refine i_255_7 (xgs hw0) (Nat.le_of_ble_eq_true rfl) (p_256_2 (xgs hw0) e1 e2) ?_
  exact i_255_10 ⟨rfl, rfl⟩
theorem p_165_6 {d : Nat} {w : xW} {a0 : Int32} (hw0 : w[128]? = some (Sum.inr (12, [Value.ref 129, Value.ref 131, Value.ref 133, Value.ref 135, Value.ref 137, Value.ref 139, Value.ref 141, Value.ref 143, Value.ref 145, Value.ref 147, Value.ref 149, Value.ref 151, Value.ref 153, Value.ref 154, Value.ref 155, Value.ref 156, Value.ref 157, Value.int (-16384), Value.int 16384, Value.int 0, Value.int 0, Value.int 0, Value.ref 158, Value.ref 159, Value.int a0, Value.int 0, Value.int 0, Value.int 0, Value.int 0, Value.int 0, Value.int 0, Value.int 0]))) : xRun d 165 [Value.ref 128] w (.inl (some (Value.int 0))) w := by
  refine xRun.of ?_
  refine i_165_0 (x := 128) rfl ?_
  refine i_165_1 (v := Value.int 0) hw0 rfl ?_
  exact i_165_4 ⟨rfl, rfl⟩
theorem o_20_2 {d : Nat} {xs : Nat → Int32} (h0 : ((xs 0) &&& (31 : Int32)).toInt = 20) (c0 : 0 ≤ (xs 1).toInt) (c1 : (xs 1).toInt ≤ 0) : ∃ w1, xEv (d + 20) 287 23 [(4, Value.int 0), (3, Value.ref 194), (2, Value.ref 128), (1, Value.ref 7), (0, Value.ref 0)] [] (W0 6 xs) (fun o' w' => o' = .inl (some (Value.int 1)) ∧ w' = w1) ∧ w1.length ≤ 220 ∧ xsz w1 ≤ 200000 := by
  refine ⟨(((((W0 6 xs).set 7 (Sum.inr (0, [Value.ref 8, Value.ref 78, Value.ref 9, Value.ref 10, Value.ref 13, Value.ref 16, Value.ref 19, Value.ref 93, Value.ref 108, Value.ref 113, Value.ref 29, Value.int (xs 1)]))).set 194 (Sum.inl (3, 1, xup (fun _ => Value.long 0) (0 : Int32).toInt.toNat (Value.long (((0 : Int32) - (xs 1)).toInt64))))).set 128 (Sum.inr (12, [Value.ref 129, Value.ref 131, Value.ref 133, Value.ref 135, Value.ref 137, Value.ref 139, Value.ref 141, Value.ref 143, Value.ref 145, Value.ref 147, Value.ref 149, Value.ref 151, Value.ref 153, Value.ref 154, Value.ref 155, Value.ref 156, Value.ref 157, Value.int (-16384), Value.int 16384, Value.int 0, Value.int 0, Value.int 0, Value.ref 158, Value.ref 159, Value.int 0, Value.int 0, Value.int 0, Value.int 0, Value.int 0, Value.int 0, Value.int 0, Value.int 0]))).set 128 (Sum.inr (12, [Value.ref 129, Value.ref 131, Value.ref 133, Value.ref 135, Value.ref 137, Value.ref 139, Value.ref 141, Value.ref 143, Value.ref 145, Value.ref 147, Value.ref 149, Value.ref 151, Value.ref 153, Value.ref 154, Value.ref 155, Value.ref 156, Value.ref 157, Value.int (-16384), Value.int 16384, Value.int 0, Value.int 0, Value.int 0, Value.ref 158, Value.ref 159, Value.int (xs 1), Value.int 0, Value.int 0, Value.int 0, Value.int 0, Value.int 0, Value.int 0, Value.int 0]))), ?_, (show xLs _ 220 200000 from ?_)⟩
  · refine i_287_23 (x := 0) rfl ?_
    refine i_287_25 (x := 0) rfl ?_
    refine i_287_26 (c := 6) W0_0 (by decide) ?_
    refine i_287_27 ?_
    refine i_287_29 (c := 0) (by decide) ?_
    refine i_287_30 (fun h => absurd h (by decide)) (fun _ => ?_)
    refine i_287_33 (x := 0) rfl ?_
    refine i_287_34 (x := 0) rfl ?_
    refine i_287_36 (v := Value.int (xs 0)) W0_0 (by decide) (by decide) rfl ?_
    refine i_287_37 ?_
    refine i_287_39 (c := ((xs 0) &&& (31 : Int32))) rfl ?_
    refine i_287_40_20 (by omega) ?_
    refine i_287_1870 (x := 7) rfl ?_
    refine i_287_1871 (x := 0) rfl ?_
    refine i_287_1872 (x := 0) rfl ?_
    refine i_287_1874 ?_
    refine i_287_1875 (c := 1) (by decide) ?_
    refine i_287_1876 (v := Value.int (xs 1)) W0_0 (by decide) (by decide) rfl ?_
    refine i_287_1877 (x := 194) rfl ?_
    refine i_287_1878 (Nat.le_of_ble_eq_true rfl) (p_139_2 W0_7 (by omega) (by omega) W0_194) ?_
    refine i_287_1881 (lv2 := [(5, Value.int 0), (4, Value.int 0), (3, Value.ref 194), (2, Value.ref 128), (1, Value.ref 7), (0, Value.ref 0)]) rfl ?_
    refine i_287_1883 (x := 128) rfl ?_
    refine i_287_1884 (x := 0) rfl ?_
    refine i_287_1885 (x := 0) rfl ?_
    refine i_287_1887 ?_
    refine i_287_1888 (c := 1) (by decide) ?_
    refine i_287_1889 (v := Value.int (xs 1)) (xgn (by decide) (xgn (by decide) W0_0)) (by decide) (by decide) rfl ?_
    refine i_287_1890 (xgn (by decide) (xgn (by decide) W0_128)) (Nat.le_of_ble_eq_true rfl) (p_255_2 (xgn (by decide) (xgn (by decide) W0_128)) (by omega) (by omega)) ?_
    refine i_287_1893 (lv2 := [(6, Value.int ((0 : Int32) - (xs 1))), (5, Value.int 0), (4, Value.int 0), (3, Value.ref 194), (2, Value.ref 128), (1, Value.ref 7), (0, Value.ref 0)]) rfl ?_
    refine i_287_1895 (x := 128) rfl ?_
    refine i_287_1896 (xgs (xgs (xgn (by decide) (xgn (by decide) W0_128)))) (Nat.le_of_ble_eq_true rfl) (p_165_6 (xgs (xgs (xgn (by decide) (xgn (by decide) W0_128))))) ?_
    refine i_287_1899 (x := 0) rfl ?_
    refine i_287_1901 (fun _ => ?_) (fun h => absurd h (by decide))
    refine i_287_1906 (x := 0) rfl ?_
    refine i_287_1908 (fun h => absurd h (by decide)) (fun _ => ?_)
    refine i_287_1911 (x := 194) rfl ?_
    refine i_287_1912 ?_
    refine i_287_1913 (v := Value.long (((0 : Int32) - (xs 1)).toInt64)) (xgn (by decide) (xgn (by decide) (xgs (xgn (by decide) W0_194)))) (by decide) (by decide) xup_s ?_
    refine i_287_1914 (x := ((0 : Int32) - (xs 1))) rfl ?_
    refine i_287_1916 (c := ((0 : Int32) - (xs 1)).toInt64) rfl ?_
    refine i_287_1917 (c := 0) (lg_cmp_s _) ?_
    refine i_287_1918 (fun _ => ?_) (fun h => absurd h (by decide))
    refine i_287_1923 ?_
    refine i_287_2154 (x := 0) (c := 6) (lv2 := [(4, Value.int 6), (6, Value.int ((0 : Int32) - (xs 1))), (5, Value.int 0), (3, Value.ref 194), (2, Value.ref 128), (1, Value.ref 7), (0, Value.ref 0)]) rfl (by decide) rfl ?_
    refine i_287_2157 ?_
    refine i_287_23 (x := 6) rfl ?_
    refine i_287_25 (x := 0) rfl ?_
    refine i_287_26 (c := 6) (xgn (by decide) (xgn (by decide) (xgn (by decide) (xgn (by decide) W0_0)))) (by decide) ?_
    refine i_287_27 ?_
    refine i_287_29 (c := 0) (by decide) ?_
    refine i_287_30 (fun _ => ?_) (fun h => absurd h (by decide))
    refine i_287_2160 ?_
    exact i_287_2161 rfl ⟨rfl, rfl⟩
  · refine xLs.set ?_ (xgs (xgn (by decide) (xgn (by decide) W0_128))) xcs_o
    refine xLs.set ?_ (xgn (by decide) (xgn (by decide) W0_128)) xcs_o
    refine xLs.set ?_ (xgn (by decide) W0_194) xcs_a
    refine xLs.set ?_ (W0_7) xcs_o
    exact ⟨Nat.le_trans (Nat.le_of_eq W0_len) (by decide), Nat.le_trans (Nat.le_of_eq W0_sz) (by decide)⟩
theorem op_20 {d : Nat} {xs : Nat → Int32} (h0 : ((xs 0) &&& (31 : Int32)).toInt = 20) : ∃ w1, xEv (d + 20) 287 23 [(4, Value.int 0), (3, Value.ref 194), (2, Value.ref 128), (1, Value.ref 7), (0, Value.ref 0)] [] (W0 6 xs) (fun o' w' => o' = .inl (some (Value.int 1)) ∧ w' = w1) ∧ w1.length ≤ 220 ∧ xsz w1 ≤ 200000 := by
  rcases Int.lt_or_le (xs 1).toInt (0) with c0 | c0
  · exact o_20_0 h0 c0
  · rcases Int.lt_or_le (0) (xs 1).toInt with c1 | c1
    · exact o_20_1 h0 c0 c1
    · exact o_20_2 h0 c0 c1
theorem p_142_0 {d : Nat} {w : xW} {a0 : Int32} {a1 : Int32} {a2 : Int32} (e0 : a0.toInt < 0) : xRun (d + 6) 142 [Value.ref 7, Value.int a0, Value.int a1, Value.int a2] w (.inr w.length) (w ++ [Sum.inr (14, [])]) := by
  refine xRun.of ?_
  refine i_142_0 (x := a0) rfl ?_
  refine i_142_1 (Nat.le_of_ble_eq_true rfl) (p_15_0 e0) ?_
  refine i_142_4 (fun _ => ?_) (fun h => absurd h (by decide))
  exact i_142_25 (by omega) (Nat.le_of_ble_eq_true rfl) ⟨rfl, rfl⟩
theorem p_141_0 {d : Nat} {w : xW} {a0 : Int32} {a1 : Int32} {a2 : Int32} (hw0 : w[7]? = some (Sum.inr (0, [Value.ref 8, Value.ref 78, Value.ref 9, Value.ref 10, Value.ref 13, Value.ref 16, Value.ref 19, Value.ref 93, Value.ref 108, Value.ref 113, Value.ref 29, Value.int 0]))) (e1 : a0.toInt < 0) : xRun (d + 7) 141 [Value.ref 7, Value.int a0, Value.int a1, Value.int a2, Value.ref 194] w (.inl (some (Value.int 1))) (w ++ [Sum.inr (14, [])]) := by
  refine xRun.of ?_
  refine i_141_0 (x := 194) rfl ?_
  refine i_141_2 ?_
  refine i_141_3 (x := 7) rfl ?_
  refine i_141_4 (x := a0) rfl ?_
  refine i_141_5 (x := a1) rfl ?_
  refine i_141_6 (x := a2) rfl ?_
  refine j_141_7 hw0 (Nat.le_of_ble_eq_true rfl) (p_142_0 e1) (xDone.c xgl rfl rfl ?_)
  refine i_141_15 (lv2 := [(5, Value.ref w.length), (0, Value.ref 7), (1, Value.int a0), (2, Value.int a1), (3, Value.int a2), (4, Value.ref 194)]) rfl ?_
  refine i_141_17 ?_
  exact i_141_18 ⟨rfl, rfl⟩
theorem p_258_0 {d : Nat} {w : xW} {a0 : Int32} {a1 : Int32} {a2 : Int32} (e0 : a0.toInt < 0) : xRun (d + 8) 258 [Value.ref 128, Value.int a0, Value.int a1, Value.int a2] w (.inr w.length) (w ++ [Sum.inr (14, [])]) := by
  refine xRun.of ?_
  refine i_258_0 (x := a0) rfl ?_
  exact j_258_1 (Nat.le_of_ble_eq_true rfl) (p_168_0 e0) (xDone.t xgl rfl rfl ⟨rfl, rfl⟩)
theorem p_257_0 {d : Nat} {w : xW} {a0 : Int32} {a1 : Int32} {a2 : Int32} (hw0 : w[128]? = some (Sum.inr (12, [Value.ref 129, Value.ref 131, Value.ref 133, Value.ref 135, Value.ref 137, Value.ref 139, Value.ref 141, Value.ref 143, Value.ref 145, Value.ref 147, Value.ref 149, Value.ref 151, Value.ref 153, Value.ref 154, Value.ref 155, Value.ref 156, Value.ref 157, Value.int (-16384), Value.int 16384, Value.int 0, Value.int 0, Value.int 0, Value.ref 158, Value.ref 159, Value.int 0, Value.int 0, Value.int 0, Value.int 0, Value.int 0, Value.int 0, Value.int 0, Value.int 0]))) (e1 : a0.toInt < 0) : xRun (d + 9) 257 [Value.ref 128, Value.int a0, Value.int a1, Value.int a2] w (.inl (some (Value.int 0))) (((w.set 128 (Sum.inr (12, [Value.ref 129, Value.ref 131, Value.ref 133, Value.ref 135, Value.ref 137, Value.ref 139, Value.ref 141, Value.ref 143, Value.ref 145, Value.ref 147, Value.ref 149, Value.ref 151, Value.ref 153, Value.ref 154, Value.ref 155, Value.ref 156, Value.ref 157, Value.int (-16384), Value.int 16384, Value.int 0, Value.int 0, Value.int 0, Value.ref 158, Value.ref 159, Value.int 0, Value.int 0, Value.int 0, Value.int 0, Value.int 0, Value.int 0, Value.int 0, Value.int 0]))) ++ [Sum.inr (14, [])]).set 128 (Sum.inr (12, [Value.ref 129, Value.ref 131, Value.ref 133, Value.ref 135, Value.ref 137, Value.ref 139, Value.ref 141, Value.ref 143, Value.ref 145, Value.ref 147, Value.ref 149, Value.ref 151, Value.ref 153, Value.ref 154, Value.ref 155, Value.ref 156, Value.ref 157, Value.int (-16384), Value.int 16384, Value.int 0, Value.int 0, Value.int 0, Value.ref 158, Value.ref 159, Value.int 0, Value.int 0, Value.int 0, Value.int 0, Value.int 0, Value.int 0, Value.int 0, Value.int 1]))) := by
  refine xRun.of ?_
  refine i_257_0 (x := 128) rfl ?_
  refine i_257_1 ?_
  refine i_257_2 (fs2 := [Value.ref 129, Value.ref 131, Value.ref 133, Value.ref 135, Value.ref 137, Value.ref 139, Value.ref 141, Value.ref 143, Value.ref 145, Value.ref 147, Value.ref 149, Value.ref 151, Value.ref 153, Value.ref 154, Value.ref 155, Value.ref 156, Value.ref 157, Value.int (-16384), Value.int 16384, Value.int 0, Value.int 0, Value.int 0, Value.ref 158, Value.ref 159, Value.int 0, Value.int 0, Value.int 0, Value.int 0, Value.int 0, Value.int 0, Value.int 0, Value.int 0]) hw0 (Nat.le_of_ble_eq_true rfl) rfl (by decide) ?_
  refine i_257_5 (x := 128) rfl ?_
  refine i_257_6 (x := a0) rfl ?_
  refine i_257_7 (x := a1) rfl ?_
  refine i_257_8 (x := a2) rfl ?_
  refine j_257_9 (xgs hw0) (Nat.le_of_ble_eq_true rfl) (p_258_0 e1) (xDone.c xgl rfl rfl ?_)
  refine i_257_13 (lv2 := [(4, Value.ref ((w.set 128 (Sum.inr (12, [Value.ref 129, Value.ref 131, Value.ref 133, Value.ref 135, Value.ref 137, Value.ref 139, Value.ref 141, Value.ref 143, Value.ref 145, Value.ref 147, Value.ref 149, Value.ref 151, Value.ref 153, Value.ref 154, Value.ref 155, Value.ref 156, Value.ref 157, Value.int (-16384), Value.int 16384, Value.int 0, Value.int 0, Value.int 0, Value.ref 158, Value.ref 159, Value.int 0, Value.int 0, Value.int 0, Value.int 0, Value.int 0, Value.int 0, Value.int 0, Value.int 0]))).length)), (0, Value.ref 128), (1, Value.int a0), (2, Value.int a1), (3, Value.int a2)]) rfl ?_
  refine i_257_15 (x := 128) rfl ?_
  refine i_257_16 ?_
  refine i_257_17 (fs2 := [Value.ref 129, Value.ref 131, Value.ref 133, Value.ref 135, Value.ref 137, Value.ref 139, Value.ref 141, Value.ref 143, Value.ref 145, Value.ref 147, Value.ref 149, Value.ref 151, Value.ref 153, Value.ref 154, Value.ref 155, Value.ref 156, Value.ref 157, Value.int (-16384), Value.int 16384, Value.int 0, Value.int 0, Value.int 0, Value.ref 158, Value.ref 159, Value.int 0, Value.int 0, Value.int 0, Value.int 0, Value.int 0, Value.int 0, Value.int 0, Value.int 1]) (xga (xgs hw0)) (Nat.le_of_ble_eq_true rfl) rfl (by decide) ?_
  refine i_257_20 ?_
  refine i_257_30 ?_
  exact i_257_31 ⟨rfl, rfl⟩
theorem o_21_0 {d : Nat} {xs : Nat → Int32} (h0 : ((xs 0) &&& (31 : Int32)).toInt = 21) (c0 : (xs 1).toInt < 0) : ∃ w1, xEv (d + 20) 287 23 [(4, Value.int 0), (3, Value.ref 194), (2, Value.ref 128), (1, Value.ref 7), (0, Value.ref 0)] [] (W0 6 xs) (fun o' w' => o' = .inl (some (Value.int 1)) ∧ w' = w1) ∧ w1.length ≤ 220 ∧ xsz w1 ≤ 200000 := by
  refine ⟨(((((W0 6 xs) ++ [Sum.inr (14, [])]).set 128 (Sum.inr (12, [Value.ref 129, Value.ref 131, Value.ref 133, Value.ref 135, Value.ref 137, Value.ref 139, Value.ref 141, Value.ref 143, Value.ref 145, Value.ref 147, Value.ref 149, Value.ref 151, Value.ref 153, Value.ref 154, Value.ref 155, Value.ref 156, Value.ref 157, Value.int (-16384), Value.int 16384, Value.int 0, Value.int 0, Value.int 0, Value.ref 158, Value.ref 159, Value.int 0, Value.int 0, Value.int 0, Value.int 0, Value.int 0, Value.int 0, Value.int 0, Value.int 0]))) ++ [Sum.inr (14, [])]).set 128 (Sum.inr (12, [Value.ref 129, Value.ref 131, Value.ref 133, Value.ref 135, Value.ref 137, Value.ref 139, Value.ref 141, Value.ref 143, Value.ref 145, Value.ref 147, Value.ref 149, Value.ref 151, Value.ref 153, Value.ref 154, Value.ref 155, Value.ref 156, Value.ref 157, Value.int (-16384), Value.int 16384, Value.int 0, Value.int 0, Value.int 0, Value.ref 158, Value.ref 159, Value.int 0, Value.int 0, Value.int 0, Value.int 0, Value.int 0, Value.int 0, Value.int 0, Value.int 1]))), ?_, (show xLs _ 220 200000 from ?_)⟩
  · refine i_287_23 (x := 0) rfl ?_
    refine i_287_25 (x := 0) rfl ?_
    refine i_287_26 (c := 6) W0_0 (by decide) ?_
    refine i_287_27 ?_
    refine i_287_29 (c := 0) (by decide) ?_
    refine i_287_30 (fun h => absurd h (by decide)) (fun _ => ?_)
    refine i_287_33 (x := 0) rfl ?_
    refine i_287_34 (x := 0) rfl ?_
    refine i_287_36 (v := Value.int (xs 0)) W0_0 (by decide) (by decide) rfl ?_
    refine i_287_37 ?_
    refine i_287_39 (c := ((xs 0) &&& (31 : Int32))) rfl ?_
    refine i_287_40_21 (by omega) ?_
    refine i_287_1926 (x := 7) rfl ?_
    refine i_287_1927 (x := 0) rfl ?_
    refine i_287_1928 (x := 0) rfl ?_
    refine i_287_1930 ?_
    refine i_287_1931 (c := 1) (by decide) ?_
    refine i_287_1932 (v := Value.int (xs 1)) W0_0 (by decide) (by decide) rfl ?_
    refine i_287_1933 (x := 0) rfl ?_
    refine i_287_1934 (x := 0) rfl ?_
    refine i_287_1936 ?_
    refine i_287_1937 (c := 2) (by decide) ?_
    refine i_287_1938 (v := Value.int (xs 2)) W0_0 (by decide) (by decide) rfl ?_
    refine i_287_1939 (x := 0) rfl ?_
    refine i_287_1940 (x := 0) rfl ?_
    refine i_287_1942 ?_
    refine i_287_1943 (c := 3) (by decide) ?_
    refine i_287_1944 (v := Value.int (xs 3)) W0_0 (by decide) (by decide) rfl ?_
    refine i_287_1945 (x := 194) rfl ?_
    refine i_287_1946 (Nat.le_of_ble_eq_true rfl) (p_141_0 W0_7 (by omega)) ?_
    refine i_287_1949 (lv2 := [(5, Value.int 1), (4, Value.int 0), (3, Value.ref 194), (2, Value.ref 128), (1, Value.ref 7), (0, Value.ref 0)]) rfl ?_
    refine i_287_1951 (x := 128) rfl ?_
    refine i_287_1952 (x := 0) rfl ?_
    refine i_287_1953 (x := 0) rfl ?_
    refine i_287_1955 ?_
    refine i_287_1956 (c := 1) (by decide) ?_
    refine i_287_1957 (v := Value.int (xs 1)) (xga W0_0) (by decide) (by decide) rfl ?_
    refine i_287_1958 (x := 0) rfl ?_
    refine i_287_1959 (x := 0) rfl ?_
    refine i_287_1961 ?_
    refine i_287_1962 (c := 2) (by decide) ?_
    refine i_287_1963 (v := Value.int (xs 2)) (xga W0_0) (by decide) (by decide) rfl ?_
    refine i_287_1964 (x := 0) rfl ?_
    refine i_287_1965 (x := 0) rfl ?_
    refine i_287_1967 ?_
    refine i_287_1968 (c := 3) (by decide) ?_
    refine i_287_1969 (v := Value.int (xs 3)) (xga W0_0) (by decide) (by decide) rfl ?_
    refine i_287_1970 (xga W0_128) (Nat.le_of_ble_eq_true rfl) (p_257_0 (xga W0_128) (by omega)) ?_
    refine i_287_1973 (lv2 := [(6, Value.int 0), (5, Value.int 1), (4, Value.int 0), (3, Value.ref 194), (2, Value.ref 128), (1, Value.ref 7), (0, Value.ref 0)]) rfl ?_
    refine i_287_1975 (x := 128) rfl ?_
    refine i_287_1976 (xgs (xga (xgs (xga W0_128)))) (Nat.le_of_ble_eq_true rfl) (p_165_0 (xgs (xga (xgs (xga W0_128))))) ?_
    refine i_287_1979 (x := 1) rfl ?_
    refine i_287_1981 (fun _ => ?_) (fun h => absurd h (by decide))
    refine i_287_1986 (x := 1) rfl ?_
    refine i_287_1988 (fun _ => ?_) (fun h => absurd h (by decide))
    refine i_287_2003 ?_
    refine i_287_2154 (x := 0) (c := 6) (lv2 := [(4, Value.int 6), (6, Value.int 0), (5, Value.int 1), (3, Value.ref 194), (2, Value.ref 128), (1, Value.ref 7), (0, Value.ref 0)]) rfl (by decide) rfl ?_
    refine i_287_2157 ?_
    refine i_287_23 (x := 6) rfl ?_
    refine i_287_25 (x := 0) rfl ?_
    refine i_287_26 (c := 6) (xgn (by decide) (xga (xgn (by decide) (xga W0_0)))) (by decide) ?_
    refine i_287_27 ?_
    refine i_287_29 (c := 0) (by decide) ?_
    refine i_287_30 (fun _ => ?_) (fun h => absurd h (by decide))
    refine i_287_2160 ?_
    exact i_287_2161 rfl ⟨rfl, rfl⟩
  · refine xLs.set ?_ (xga (xgs (xga W0_128))) xcs_o
    refine xLs.app (n := 219) (z := 199994) (m := 6) ?_ rfl
    refine xLs.set ?_ (xga W0_128) xcs_o
    refine xLs.app (n := 218) (z := 199988) (m := 6) ?_ rfl
    exact ⟨Nat.le_trans (Nat.le_of_eq W0_len) (by decide), Nat.le_trans (Nat.le_of_eq W0_sz) (by decide)⟩
theorem p_142_1 {d : Nat} {w : xW} {a0 : Int32} {a1 : Int32} {a2 : Int32} (e0 : 0 ≤ a0.toInt) (e1 : a0.toInt < 16) (e2 : a1.toInt < 2) : xRun (d + 6) 142 [Value.ref 7, Value.int a0, Value.int a1, Value.int a2] w (.inr w.length) (w ++ [Sum.inr (14, [])]) := by
  refine xRun.of ?_
  refine i_142_0 (x := a0) rfl ?_
  refine i_142_1 (Nat.le_of_ble_eq_true rfl) (p_15_1 e0 e1) ?_
  refine i_142_4 (fun h => absurd h (by decide)) (fun _ => ?_)
  refine i_142_7 (x := a1) rfl ?_
  refine i_142_8 ?_
  refine i_142_9 (fun _ => ?_) (fun h => absurd e2 (Int.not_lt.mpr h))
  exact i_142_25 (by omega) (Nat.le_of_ble_eq_true rfl) ⟨rfl, rfl⟩
theorem p_141_1 {d : Nat} {w : xW} {a0 : Int32} {a1 : Int32} {a2 : Int32} (hw0 : w[7]? = some (Sum.inr (0, [Value.ref 8, Value.ref 78, Value.ref 9, Value.ref 10, Value.ref 13, Value.ref 16, Value.ref 19, Value.ref 93, Value.ref 108, Value.ref 113, Value.ref 29, Value.int 0]))) (e1 : 0 ≤ a0.toInt) (e2 : a0.toInt < 16) (e3 : a1.toInt < 2) : xRun (d + 7) 141 [Value.ref 7, Value.int a0, Value.int a1, Value.int a2, Value.ref 194] w (.inl (some (Value.int 1))) (w ++ [Sum.inr (14, [])]) := by
  refine xRun.of ?_
  refine i_141_0 (x := 194) rfl ?_
  refine i_141_2 ?_
  refine i_141_3 (x := 7) rfl ?_
  refine i_141_4 (x := a0) rfl ?_
  refine i_141_5 (x := a1) rfl ?_
  refine i_141_6 (x := a2) rfl ?_
  refine j_141_7 hw0 (Nat.le_of_ble_eq_true rfl) (p_142_1 e1 e2 e3) (xDone.c xgl rfl rfl ?_)
  refine i_141_15 (lv2 := [(5, Value.ref w.length), (0, Value.ref 7), (1, Value.int a0), (2, Value.int a1), (3, Value.int a2), (4, Value.ref 194)]) rfl ?_
  refine i_141_17 ?_
  exact i_141_18 ⟨rfl, rfl⟩
theorem p_169_33 {d : Nat} {w : xW} {a0 : Int32} (e0 : a0.toInt < 2) : xRun d 169 [Value.int a0, Value.int 2, Value.int 36] w (.inl (some (Value.int 0))) w := by
  refine xRun.of ?_
  refine i_169_0 (x := a0) rfl ?_
  refine i_169_1 (x := 2) rfl ?_
  refine i_169_2 (fun _ => ?_) (fun h => absurd e0 (Int.not_lt.mpr h))
  refine i_169_14 ?_
  exact i_169_15 rfl ⟨rfl, rfl⟩
theorem p_258_1 {d : Nat} {w : xW} {a0 : Int32} {a1 : Int32} {a2 : Int32} (e0 : 0 ≤ a0.toInt) (e1 : a0.toInt ≤ 15) (e2 : a1.toInt < 2) : xRun (d + 7) 258 [Value.ref 128, Value.int a0, Value.int a1, Value.int a2] w (.inr w.length) (w ++ [Sum.inr (14, [])]) := by
  refine xRun.of ?_
  refine i_258_0 (x := a0) rfl ?_
  refine i_258_1 (Nat.le_of_ble_eq_true rfl) (p_168_1 e0 e1) ?_
  refine i_258_4 (x := a1) rfl ?_
  refine i_258_5 ?_
  refine i_258_6 ?_
  refine i_258_8 (Nat.le_of_ble_eq_true rfl) (p_169_33 e2) ?_
  exact j_258_11 (Nat.le_of_ble_eq_true rfl) (p_170_0) (xDone.t xgl rfl rfl ⟨rfl, rfl⟩)
theorem p_257_1 {d : Nat} {w : xW} {a0 : Int32} {a1 : Int32} {a2 : Int32} (hw0 : w[128]? = some (Sum.inr (12, [Value.ref 129, Value.ref 131, Value.ref 133, Value.ref 135, Value.ref 137, Value.ref 139, Value.ref 141, Value.ref 143, Value.ref 145, Value.ref 147, Value.ref 149, Value.ref 151, Value.ref 153, Value.ref 154, Value.ref 155, Value.ref 156, Value.ref 157, Value.int (-16384), Value.int 16384, Value.int 0, Value.int 0, Value.int 0, Value.ref 158, Value.ref 159, Value.int 0, Value.int 0, Value.int 0, Value.int 0, Value.int 0, Value.int 0, Value.int 0, Value.int 0]))) (e1 : 0 ≤ a0.toInt) (e2 : a0.toInt ≤ 15) (e3 : a1.toInt < 2) : xRun (d + 8) 257 [Value.ref 128, Value.int a0, Value.int a1, Value.int a2] w (.inl (some (Value.int 0))) (((w.set 128 (Sum.inr (12, [Value.ref 129, Value.ref 131, Value.ref 133, Value.ref 135, Value.ref 137, Value.ref 139, Value.ref 141, Value.ref 143, Value.ref 145, Value.ref 147, Value.ref 149, Value.ref 151, Value.ref 153, Value.ref 154, Value.ref 155, Value.ref 156, Value.ref 157, Value.int (-16384), Value.int 16384, Value.int 0, Value.int 0, Value.int 0, Value.ref 158, Value.ref 159, Value.int 0, Value.int 0, Value.int 0, Value.int 0, Value.int 0, Value.int 0, Value.int 0, Value.int 0]))) ++ [Sum.inr (14, [])]).set 128 (Sum.inr (12, [Value.ref 129, Value.ref 131, Value.ref 133, Value.ref 135, Value.ref 137, Value.ref 139, Value.ref 141, Value.ref 143, Value.ref 145, Value.ref 147, Value.ref 149, Value.ref 151, Value.ref 153, Value.ref 154, Value.ref 155, Value.ref 156, Value.ref 157, Value.int (-16384), Value.int 16384, Value.int 0, Value.int 0, Value.int 0, Value.ref 158, Value.ref 159, Value.int 0, Value.int 0, Value.int 0, Value.int 0, Value.int 0, Value.int 0, Value.int 0, Value.int 1]))) := by
  refine xRun.of ?_
  refine i_257_0 (x := 128) rfl ?_
  refine i_257_1 ?_
  refine i_257_2 (fs2 := [Value.ref 129, Value.ref 131, Value.ref 133, Value.ref 135, Value.ref 137, Value.ref 139, Value.ref 141, Value.ref 143, Value.ref 145, Value.ref 147, Value.ref 149, Value.ref 151, Value.ref 153, Value.ref 154, Value.ref 155, Value.ref 156, Value.ref 157, Value.int (-16384), Value.int 16384, Value.int 0, Value.int 0, Value.int 0, Value.ref 158, Value.ref 159, Value.int 0, Value.int 0, Value.int 0, Value.int 0, Value.int 0, Value.int 0, Value.int 0, Value.int 0]) hw0 (Nat.le_of_ble_eq_true rfl) rfl (by decide) ?_
  refine i_257_5 (x := 128) rfl ?_
  refine i_257_6 (x := a0) rfl ?_
  refine i_257_7 (x := a1) rfl ?_
  refine i_257_8 (x := a2) rfl ?_
  refine j_257_9 (xgs hw0) (Nat.le_of_ble_eq_true rfl) (p_258_1 e1 e2 e3) (xDone.c xgl rfl rfl ?_)
  refine i_257_13 (lv2 := [(4, Value.ref ((w.set 128 (Sum.inr (12, [Value.ref 129, Value.ref 131, Value.ref 133, Value.ref 135, Value.ref 137, Value.ref 139, Value.ref 141, Value.ref 143, Value.ref 145, Value.ref 147, Value.ref 149, Value.ref 151, Value.ref 153, Value.ref 154, Value.ref 155, Value.ref 156, Value.ref 157, Value.int (-16384), Value.int 16384, Value.int 0, Value.int 0, Value.int 0, Value.ref 158, Value.ref 159, Value.int 0, Value.int 0, Value.int 0, Value.int 0, Value.int 0, Value.int 0, Value.int 0, Value.int 0]))).length)), (0, Value.ref 128), (1, Value.int a0), (2, Value.int a1), (3, Value.int a2)]) rfl ?_
  refine i_257_15 (x := 128) rfl ?_
  refine i_257_16 ?_
  refine i_257_17 (fs2 := [Value.ref 129, Value.ref 131, Value.ref 133, Value.ref 135, Value.ref 137, Value.ref 139, Value.ref 141, Value.ref 143, Value.ref 145, Value.ref 147, Value.ref 149, Value.ref 151, Value.ref 153, Value.ref 154, Value.ref 155, Value.ref 156, Value.ref 157, Value.int (-16384), Value.int 16384, Value.int 0, Value.int 0, Value.int 0, Value.ref 158, Value.ref 159, Value.int 0, Value.int 0, Value.int 0, Value.int 0, Value.int 0, Value.int 0, Value.int 0, Value.int 1]) (xga (xgs hw0)) (Nat.le_of_ble_eq_true rfl) rfl (by decide) ?_
  refine i_257_20 ?_
  refine i_257_30 ?_
  exact i_257_31 ⟨rfl, rfl⟩
theorem o_21_1 {d : Nat} {xs : Nat → Int32} (h0 : ((xs 0) &&& (31 : Int32)).toInt = 21) (c0 : 0 ≤ (xs 1).toInt) (c1 : (xs 1).toInt < 16) (c2 : (xs 2).toInt < 2) : ∃ w1, xEv (d + 20) 287 23 [(4, Value.int 0), (3, Value.ref 194), (2, Value.ref 128), (1, Value.ref 7), (0, Value.ref 0)] [] (W0 6 xs) (fun o' w' => o' = .inl (some (Value.int 1)) ∧ w' = w1) ∧ w1.length ≤ 220 ∧ xsz w1 ≤ 200000 := by
  refine ⟨(((((W0 6 xs) ++ [Sum.inr (14, [])]).set 128 (Sum.inr (12, [Value.ref 129, Value.ref 131, Value.ref 133, Value.ref 135, Value.ref 137, Value.ref 139, Value.ref 141, Value.ref 143, Value.ref 145, Value.ref 147, Value.ref 149, Value.ref 151, Value.ref 153, Value.ref 154, Value.ref 155, Value.ref 156, Value.ref 157, Value.int (-16384), Value.int 16384, Value.int 0, Value.int 0, Value.int 0, Value.ref 158, Value.ref 159, Value.int 0, Value.int 0, Value.int 0, Value.int 0, Value.int 0, Value.int 0, Value.int 0, Value.int 0]))) ++ [Sum.inr (14, [])]).set 128 (Sum.inr (12, [Value.ref 129, Value.ref 131, Value.ref 133, Value.ref 135, Value.ref 137, Value.ref 139, Value.ref 141, Value.ref 143, Value.ref 145, Value.ref 147, Value.ref 149, Value.ref 151, Value.ref 153, Value.ref 154, Value.ref 155, Value.ref 156, Value.ref 157, Value.int (-16384), Value.int 16384, Value.int 0, Value.int 0, Value.int 0, Value.ref 158, Value.ref 159, Value.int 0, Value.int 0, Value.int 0, Value.int 0, Value.int 0, Value.int 0, Value.int 0, Value.int 1]))), ?_, (show xLs _ 220 200000 from ?_)⟩
  · refine i_287_23 (x := 0) rfl ?_
    refine i_287_25 (x := 0) rfl ?_
    refine i_287_26 (c := 6) W0_0 (by decide) ?_
    refine i_287_27 ?_
    refine i_287_29 (c := 0) (by decide) ?_
    refine i_287_30 (fun h => absurd h (by decide)) (fun _ => ?_)
    refine i_287_33 (x := 0) rfl ?_
    refine i_287_34 (x := 0) rfl ?_
    refine i_287_36 (v := Value.int (xs 0)) W0_0 (by decide) (by decide) rfl ?_
    refine i_287_37 ?_
    refine i_287_39 (c := ((xs 0) &&& (31 : Int32))) rfl ?_
    refine i_287_40_21 (by omega) ?_
    refine i_287_1926 (x := 7) rfl ?_
    refine i_287_1927 (x := 0) rfl ?_
    refine i_287_1928 (x := 0) rfl ?_
    refine i_287_1930 ?_
    refine i_287_1931 (c := 1) (by decide) ?_
    refine i_287_1932 (v := Value.int (xs 1)) W0_0 (by decide) (by decide) rfl ?_
    refine i_287_1933 (x := 0) rfl ?_
    refine i_287_1934 (x := 0) rfl ?_
    refine i_287_1936 ?_
    refine i_287_1937 (c := 2) (by decide) ?_
    refine i_287_1938 (v := Value.int (xs 2)) W0_0 (by decide) (by decide) rfl ?_
    refine i_287_1939 (x := 0) rfl ?_
    refine i_287_1940 (x := 0) rfl ?_
    refine i_287_1942 ?_
    refine i_287_1943 (c := 3) (by decide) ?_
    refine i_287_1944 (v := Value.int (xs 3)) W0_0 (by decide) (by decide) rfl ?_
    refine i_287_1945 (x := 194) rfl ?_
    refine i_287_1946 (Nat.le_of_ble_eq_true rfl) (p_141_1 W0_7 (by omega) (by omega) (by omega)) ?_
    refine i_287_1949 (lv2 := [(5, Value.int 1), (4, Value.int 0), (3, Value.ref 194), (2, Value.ref 128), (1, Value.ref 7), (0, Value.ref 0)]) rfl ?_
    refine i_287_1951 (x := 128) rfl ?_
    refine i_287_1952 (x := 0) rfl ?_
    refine i_287_1953 (x := 0) rfl ?_
    refine i_287_1955 ?_
    refine i_287_1956 (c := 1) (by decide) ?_
    refine i_287_1957 (v := Value.int (xs 1)) (xga W0_0) (by decide) (by decide) rfl ?_
    refine i_287_1958 (x := 0) rfl ?_
    refine i_287_1959 (x := 0) rfl ?_
    refine i_287_1961 ?_
    refine i_287_1962 (c := 2) (by decide) ?_
    refine i_287_1963 (v := Value.int (xs 2)) (xga W0_0) (by decide) (by decide) rfl ?_
    refine i_287_1964 (x := 0) rfl ?_
    refine i_287_1965 (x := 0) rfl ?_
    refine i_287_1967 ?_
    refine i_287_1968 (c := 3) (by decide) ?_
    refine i_287_1969 (v := Value.int (xs 3)) (xga W0_0) (by decide) (by decide) rfl ?_
    refine i_287_1970 (xga W0_128) (Nat.le_of_ble_eq_true rfl) (p_257_1 (xga W0_128) (by omega) (by omega) (by omega)) ?_
    refine i_287_1973 (lv2 := [(6, Value.int 0), (5, Value.int 1), (4, Value.int 0), (3, Value.ref 194), (2, Value.ref 128), (1, Value.ref 7), (0, Value.ref 0)]) rfl ?_
    refine i_287_1975 (x := 128) rfl ?_
    refine i_287_1976 (xgs (xga (xgs (xga W0_128)))) (Nat.le_of_ble_eq_true rfl) (p_165_0 (xgs (xga (xgs (xga W0_128))))) ?_
    refine i_287_1979 (x := 1) rfl ?_
    refine i_287_1981 (fun _ => ?_) (fun h => absurd h (by decide))
    refine i_287_1986 (x := 1) rfl ?_
    refine i_287_1988 (fun _ => ?_) (fun h => absurd h (by decide))
    refine i_287_2003 ?_
    refine i_287_2154 (x := 0) (c := 6) (lv2 := [(4, Value.int 6), (6, Value.int 0), (5, Value.int 1), (3, Value.ref 194), (2, Value.ref 128), (1, Value.ref 7), (0, Value.ref 0)]) rfl (by decide) rfl ?_
    refine i_287_2157 ?_
    refine i_287_23 (x := 6) rfl ?_
    refine i_287_25 (x := 0) rfl ?_
    refine i_287_26 (c := 6) (xgn (by decide) (xga (xgn (by decide) (xga W0_0)))) (by decide) ?_
    refine i_287_27 ?_
    refine i_287_29 (c := 0) (by decide) ?_
    refine i_287_30 (fun _ => ?_) (fun h => absurd h (by decide))
    refine i_287_2160 ?_
    exact i_287_2161 rfl ⟨rfl, rfl⟩
  · refine xLs.set ?_ (xga (xgs (xga W0_128))) xcs_o
    refine xLs.app (n := 219) (z := 199994) (m := 6) ?_ rfl
    refine xLs.set ?_ (xga W0_128) xcs_o
    refine xLs.app (n := 218) (z := 199988) (m := 6) ?_ rfl
    exact ⟨Nat.le_trans (Nat.le_of_eq W0_len) (by decide), Nat.le_trans (Nat.le_of_eq W0_sz) (by decide)⟩
theorem p_142_2 {d : Nat} {w : xW} {a0 : Int32} {a1 : Int32} {a2 : Int32} (e0 : 0 ≤ a0.toInt) (e1 : a0.toInt < 16) (e2 : 2 ≤ a1.toInt) (e3 : 36 < a1.toInt) : xRun (d + 6) 142 [Value.ref 7, Value.int a0, Value.int a1, Value.int a2] w (.inr w.length) (w ++ [Sum.inr (14, [])]) := by
  refine xRun.of ?_
  refine i_142_0 (x := a0) rfl ?_
  refine i_142_1 (Nat.le_of_ble_eq_true rfl) (p_15_1 e0 e1) ?_
  refine i_142_4 (fun h => absurd h (by decide)) (fun _ => ?_)
  refine i_142_7 (x := a1) rfl ?_
  refine i_142_8 ?_
  refine i_142_9 (fun h => absurd e2 (Int.not_le.mpr h)) (fun _ => ?_)
  refine i_142_12 (x := a1) rfl ?_
  refine i_142_13 ?_
  refine i_142_15 (fun _ => ?_) (fun h => absurd e3 (Int.not_lt.mpr h))
  exact i_142_25 (by omega) (Nat.le_of_ble_eq_true rfl) ⟨rfl, rfl⟩
theorem p_141_2 {d : Nat} {w : xW} {a0 : Int32} {a1 : Int32} {a2 : Int32} (hw0 : w[7]? = some (Sum.inr (0, [Value.ref 8, Value.ref 78, Value.ref 9, Value.ref 10, Value.ref 13, Value.ref 16, Value.ref 19, Value.ref 93, Value.ref 108, Value.ref 113, Value.ref 29, Value.int 0]))) (e1 : 0 ≤ a0.toInt) (e2 : a0.toInt < 16) (e3 : 2 ≤ a1.toInt) (e4 : 36 < a1.toInt) : xRun (d + 7) 141 [Value.ref 7, Value.int a0, Value.int a1, Value.int a2, Value.ref 194] w (.inl (some (Value.int 1))) (w ++ [Sum.inr (14, [])]) := by
  refine xRun.of ?_
  refine i_141_0 (x := 194) rfl ?_
  refine i_141_2 ?_
  refine i_141_3 (x := 7) rfl ?_
  refine i_141_4 (x := a0) rfl ?_
  refine i_141_5 (x := a1) rfl ?_
  refine i_141_6 (x := a2) rfl ?_
  refine j_141_7 hw0 (Nat.le_of_ble_eq_true rfl) (p_142_2 e1 e2 e3 e4) (xDone.c xgl rfl rfl ?_)
  refine i_141_15 (lv2 := [(5, Value.ref w.length), (0, Value.ref 7), (1, Value.int a0), (2, Value.int a1), (3, Value.int a2), (4, Value.ref 194)]) rfl ?_
  refine i_141_17 ?_
  exact i_141_18 ⟨rfl, rfl⟩
theorem p_169_34 {d : Nat} {w : xW} {a0 : Int32} (e0 : 2 ≤ a0.toInt) (e1 : 36 < a0.toInt) : xRun d 169 [Value.int a0, Value.int 2, Value.int 36] w (.inl (some (Value.int 0))) w := by
  refine xRun.of ?_
  refine i_169_0 (x := a0) rfl ?_
  refine i_169_1 (x := 2) rfl ?_
  refine i_169_2 (fun h => absurd e0 (Int.not_le.mpr h)) (fun _ => ?_)
  refine i_169_5 (x := a0) rfl ?_
  refine i_169_6 (x := 36) rfl ?_
  refine i_169_7 (fun _ => ?_) (fun h => absurd e1 (Int.not_lt.mpr h))
  refine i_169_14 ?_
  exact i_169_15 rfl ⟨rfl, rfl⟩
theorem p_258_2 {d : Nat} {w : xW} {a0 : Int32} {a1 : Int32} {a2 : Int32} (e0 : 0 ≤ a0.toInt) (e1 : a0.toInt ≤ 15) (e2 : 2 ≤ a1.toInt) (e3 : 36 < a1.toInt) : xRun (d + 7) 258 [Value.ref 128, Value.int a0, Value.int a1, Value.int a2] w (.inr w.length) (w ++ [Sum.inr (14, [])]) := by
  refine xRun.of ?_
  refine i_258_0 (x := a0) rfl ?_
  refine i_258_1 (Nat.le_of_ble_eq_true rfl) (p_168_1 e0 e1) ?_
  refine i_258_4 (x := a1) rfl ?_
  refine i_258_5 ?_
  refine i_258_6 ?_
  refine i_258_8 (Nat.le_of_ble_eq_true rfl) (p_169_34 e2 e3) ?_
  exact j_258_11 (Nat.le_of_ble_eq_true rfl) (p_170_0) (xDone.t xgl rfl rfl ⟨rfl, rfl⟩)
theorem p_257_2 {d : Nat} {w : xW} {a0 : Int32} {a1 : Int32} {a2 : Int32} (hw0 : w[128]? = some (Sum.inr (12, [Value.ref 129, Value.ref 131, Value.ref 133, Value.ref 135, Value.ref 137, Value.ref 139, Value.ref 141, Value.ref 143, Value.ref 145, Value.ref 147, Value.ref 149, Value.ref 151, Value.ref 153, Value.ref 154, Value.ref 155, Value.ref 156, Value.ref 157, Value.int (-16384), Value.int 16384, Value.int 0, Value.int 0, Value.int 0, Value.ref 158, Value.ref 159, Value.int 0, Value.int 0, Value.int 0, Value.int 0, Value.int 0, Value.int 0, Value.int 0, Value.int 0]))) (e1 : 0 ≤ a0.toInt) (e2 : a0.toInt ≤ 15) (e3 : 2 ≤ a1.toInt) (e4 : 36 < a1.toInt) : xRun (d + 8) 257 [Value.ref 128, Value.int a0, Value.int a1, Value.int a2] w (.inl (some (Value.int 0))) (((w.set 128 (Sum.inr (12, [Value.ref 129, Value.ref 131, Value.ref 133, Value.ref 135, Value.ref 137, Value.ref 139, Value.ref 141, Value.ref 143, Value.ref 145, Value.ref 147, Value.ref 149, Value.ref 151, Value.ref 153, Value.ref 154, Value.ref 155, Value.ref 156, Value.ref 157, Value.int (-16384), Value.int 16384, Value.int 0, Value.int 0, Value.int 0, Value.ref 158, Value.ref 159, Value.int 0, Value.int 0, Value.int 0, Value.int 0, Value.int 0, Value.int 0, Value.int 0, Value.int 0]))) ++ [Sum.inr (14, [])]).set 128 (Sum.inr (12, [Value.ref 129, Value.ref 131, Value.ref 133, Value.ref 135, Value.ref 137, Value.ref 139, Value.ref 141, Value.ref 143, Value.ref 145, Value.ref 147, Value.ref 149, Value.ref 151, Value.ref 153, Value.ref 154, Value.ref 155, Value.ref 156, Value.ref 157, Value.int (-16384), Value.int 16384, Value.int 0, Value.int 0, Value.int 0, Value.ref 158, Value.ref 159, Value.int 0, Value.int 0, Value.int 0, Value.int 0, Value.int 0, Value.int 0, Value.int 0, Value.int 1]))) := by
  refine xRun.of ?_
  refine i_257_0 (x := 128) rfl ?_
  refine i_257_1 ?_
  refine i_257_2 (fs2 := [Value.ref 129, Value.ref 131, Value.ref 133, Value.ref 135, Value.ref 137, Value.ref 139, Value.ref 141, Value.ref 143, Value.ref 145, Value.ref 147, Value.ref 149, Value.ref 151, Value.ref 153, Value.ref 154, Value.ref 155, Value.ref 156, Value.ref 157, Value.int (-16384), Value.int 16384, Value.int 0, Value.int 0, Value.int 0, Value.ref 158, Value.ref 159, Value.int 0, Value.int 0, Value.int 0, Value.int 0, Value.int 0, Value.int 0, Value.int 0, Value.int 0]) hw0 (Nat.le_of_ble_eq_true rfl) rfl (by decide) ?_
  refine i_257_5 (x := 128) rfl ?_
  refine i_257_6 (x := a0) rfl ?_
  refine i_257_7 (x := a1) rfl ?_
  refine i_257_8 (x := a2) rfl ?_
  refine j_257_9 (xgs hw0) (Nat.le_of_ble_eq_true rfl) (p_258_2 e1 e2 e3 e4) (xDone.c xgl rfl rfl ?_)
  refine i_257_13 (lv2 := [(4, Value.ref ((w.set 128 (Sum.inr (12, [Value.ref 129, Value.ref 131, Value.ref 133, Value.ref 135, Value.ref 137, Value.ref 139, Value.ref 141, Value.ref 143, Value.ref 145, Value.ref 147, Value.ref 149, Value.ref 151, Value.ref 153, Value.ref 154, Value.ref 155, Value.ref 156, Value.ref 157, Value.int (-16384), Value.int 16384, Value.int 0, Value.int 0, Value.int 0, Value.ref 158, Value.ref 159, Value.int 0, Value.int 0, Value.int 0, Value.int 0, Value.int 0, Value.int 0, Value.int 0, Value.int 0]))).length)), (0, Value.ref 128), (1, Value.int a0), (2, Value.int a1), (3, Value.int a2)]) rfl ?_
  refine i_257_15 (x := 128) rfl ?_
  refine i_257_16 ?_
  refine i_257_17 (fs2 := [Value.ref 129, Value.ref 131, Value.ref 133, Value.ref 135, Value.ref 137, Value.ref 139, Value.ref 141, Value.ref 143, Value.ref 145, Value.ref 147, Value.ref 149, Value.ref 151, Value.ref 153, Value.ref 154, Value.ref 155, Value.ref 156, Value.ref 157, Value.int (-16384), Value.int 16384, Value.int 0, Value.int 0, Value.int 0, Value.ref 158, Value.ref 159, Value.int 0, Value.int 0, Value.int 0, Value.int 0, Value.int 0, Value.int 0, Value.int 0, Value.int 1]) (xga (xgs hw0)) (Nat.le_of_ble_eq_true rfl) rfl (by decide) ?_
  refine i_257_20 ?_
  refine i_257_30 ?_
  exact i_257_31 ⟨rfl, rfl⟩
theorem o_21_2 {d : Nat} {xs : Nat → Int32} (h0 : ((xs 0) &&& (31 : Int32)).toInt = 21) (c0 : 0 ≤ (xs 1).toInt) (c1 : (xs 1).toInt < 16) (c2 : 2 ≤ (xs 2).toInt) (c3 : 36 < (xs 2).toInt) : ∃ w1, xEv (d + 20) 287 23 [(4, Value.int 0), (3, Value.ref 194), (2, Value.ref 128), (1, Value.ref 7), (0, Value.ref 0)] [] (W0 6 xs) (fun o' w' => o' = .inl (some (Value.int 1)) ∧ w' = w1) ∧ w1.length ≤ 220 ∧ xsz w1 ≤ 200000 := by
  refine ⟨(((((W0 6 xs) ++ [Sum.inr (14, [])]).set 128 (Sum.inr (12, [Value.ref 129, Value.ref 131, Value.ref 133, Value.ref 135, Value.ref 137, Value.ref 139, Value.ref 141, Value.ref 143, Value.ref 145, Value.ref 147, Value.ref 149, Value.ref 151, Value.ref 153, Value.ref 154, Value.ref 155, Value.ref 156, Value.ref 157, Value.int (-16384), Value.int 16384, Value.int 0, Value.int 0, Value.int 0, Value.ref 158, Value.ref 159, Value.int 0, Value.int 0, Value.int 0, Value.int 0, Value.int 0, Value.int 0, Value.int 0, Value.int 0]))) ++ [Sum.inr (14, [])]).set 128 (Sum.inr (12, [Value.ref 129, Value.ref 131, Value.ref 133, Value.ref 135, Value.ref 137, Value.ref 139, Value.ref 141, Value.ref 143, Value.ref 145, Value.ref 147, Value.ref 149, Value.ref 151, Value.ref 153, Value.ref 154, Value.ref 155, Value.ref 156, Value.ref 157, Value.int (-16384), Value.int 16384, Value.int 0, Value.int 0, Value.int 0, Value.ref 158, Value.ref 159, Value.int 0, Value.int 0, Value.int 0, Value.int 0, Value.int 0, Value.int 0, Value.int 0, Value.int 1]))), ?_, (show xLs _ 220 200000 from ?_)⟩
  · refine i_287_23 (x := 0) rfl ?_
    refine i_287_25 (x := 0) rfl ?_
    refine i_287_26 (c := 6) W0_0 (by decide) ?_
    refine i_287_27 ?_
    refine i_287_29 (c := 0) (by decide) ?_
    refine i_287_30 (fun h => absurd h (by decide)) (fun _ => ?_)
    refine i_287_33 (x := 0) rfl ?_
    refine i_287_34 (x := 0) rfl ?_
    refine i_287_36 (v := Value.int (xs 0)) W0_0 (by decide) (by decide) rfl ?_
    refine i_287_37 ?_
    refine i_287_39 (c := ((xs 0) &&& (31 : Int32))) rfl ?_
    refine i_287_40_21 (by omega) ?_
    refine i_287_1926 (x := 7) rfl ?_
    refine i_287_1927 (x := 0) rfl ?_
    refine i_287_1928 (x := 0) rfl ?_
    refine i_287_1930 ?_
    refine i_287_1931 (c := 1) (by decide) ?_
    refine i_287_1932 (v := Value.int (xs 1)) W0_0 (by decide) (by decide) rfl ?_
    refine i_287_1933 (x := 0) rfl ?_
    refine i_287_1934 (x := 0) rfl ?_
    refine i_287_1936 ?_
    refine i_287_1937 (c := 2) (by decide) ?_
    refine i_287_1938 (v := Value.int (xs 2)) W0_0 (by decide) (by decide) rfl ?_
    refine i_287_1939 (x := 0) rfl ?_
    refine i_287_1940 (x := 0) rfl ?_
    refine i_287_1942 ?_
    refine i_287_1943 (c := 3) (by decide) ?_
    refine i_287_1944 (v := Value.int (xs 3)) W0_0 (by decide) (by decide) rfl ?_
    refine i_287_1945 (x := 194) rfl ?_
    refine i_287_1946 (Nat.le_of_ble_eq_true rfl) (p_141_2 W0_7 (by omega) (by omega) (by omega) (by omega)) ?_
    refine i_287_1949 (lv2 := [(5, Value.int 1), (4, Value.int 0), (3, Value.ref 194), (2, Value.ref 128), (1, Value.ref 7), (0, Value.ref 0)]) rfl ?_
    refine i_287_1951 (x := 128) rfl ?_
    refine i_287_1952 (x := 0) rfl ?_
    refine i_287_1953 (x := 0) rfl ?_
    refine i_287_1955 ?_
    refine i_287_1956 (c := 1) (by decide) ?_
    refine i_287_1957 (v := Value.int (xs 1)) (xga W0_0) (by decide) (by decide) rfl ?_
    refine i_287_1958 (x := 0) rfl ?_
    refine i_287_1959 (x := 0) rfl ?_
    refine i_287_1961 ?_
    refine i_287_1962 (c := 2) (by decide) ?_
    refine i_287_1963 (v := Value.int (xs 2)) (xga W0_0) (by decide) (by decide) rfl ?_
    refine i_287_1964 (x := 0) rfl ?_
    refine i_287_1965 (x := 0) rfl ?_
    refine i_287_1967 ?_
    refine i_287_1968 (c := 3) (by decide) ?_
    refine i_287_1969 (v := Value.int (xs 3)) (xga W0_0) (by decide) (by decide) rfl ?_
    refine i_287_1970 (xga W0_128) (Nat.le_of_ble_eq_true rfl) (p_257_2 (xga W0_128) (by omega) (by omega) (by omega) (by omega)) ?_
    refine i_287_1973 (lv2 := [(6, Value.int 0), (5, Value.int 1), (4, Value.int 0), (3, Value.ref 194), (2, Value.ref 128), (1, Value.ref 7), (0, Value.ref 0)]) rfl ?_
    refine i_287_1975 (x := 128) rfl ?_
    refine i_287_1976 (xgs (xga (xgs (xga W0_128)))) (Nat.le_of_ble_eq_true rfl) (p_165_0 (xgs (xga (xgs (xga W0_128))))) ?_
    refine i_287_1979 (x := 1) rfl ?_
    refine i_287_1981 (fun _ => ?_) (fun h => absurd h (by decide))
    refine i_287_1986 (x := 1) rfl ?_
    refine i_287_1988 (fun _ => ?_) (fun h => absurd h (by decide))
    refine i_287_2003 ?_
    refine i_287_2154 (x := 0) (c := 6) (lv2 := [(4, Value.int 6), (6, Value.int 0), (5, Value.int 1), (3, Value.ref 194), (2, Value.ref 128), (1, Value.ref 7), (0, Value.ref 0)]) rfl (by decide) rfl ?_
    refine i_287_2157 ?_
    refine i_287_23 (x := 6) rfl ?_
    refine i_287_25 (x := 0) rfl ?_
    refine i_287_26 (c := 6) (xgn (by decide) (xga (xgn (by decide) (xga W0_0)))) (by decide) ?_
    refine i_287_27 ?_
    refine i_287_29 (c := 0) (by decide) ?_
    refine i_287_30 (fun _ => ?_) (fun h => absurd h (by decide))
    refine i_287_2160 ?_
    exact i_287_2161 rfl ⟨rfl, rfl⟩
  · refine xLs.set ?_ (xga (xgs (xga W0_128))) xcs_o
    refine xLs.app (n := 219) (z := 199994) (m := 6) ?_ rfl
    refine xLs.set ?_ (xga W0_128) xcs_o
    refine xLs.app (n := 218) (z := 199988) (m := 6) ?_ rfl
    exact ⟨Nat.le_trans (Nat.le_of_eq W0_len) (by decide), Nat.le_trans (Nat.le_of_eq W0_sz) (by decide)⟩
theorem p_142_3 {d : Nat} {w : xW} {a0 : Int32} {a1 : Int32} {a2 : Int32} (e0 : 0 ≤ a0.toInt) (e1 : a0.toInt < 16) (e2 : 2 ≤ a1.toInt) (e3 : a1.toInt ≤ 36) (e4 : a2.toInt < 0) : xRun (d + 6) 142 [Value.ref 7, Value.int a0, Value.int a1, Value.int a2] w (.inr w.length) (w ++ [Sum.inr (14, [])]) := by
  refine xRun.of ?_
  refine i_142_0 (x := a0) rfl ?_
  refine i_142_1 (Nat.le_of_ble_eq_true rfl) (p_15_1 e0 e1) ?_
  refine i_142_4 (fun h => absurd h (by decide)) (fun _ => ?_)
  refine i_142_7 (x := a1) rfl ?_
  refine i_142_8 ?_
  refine i_142_9 (fun h => absurd e2 (Int.not_le.mpr h)) (fun _ => ?_)
  refine i_142_12 (x := a1) rfl ?_
  refine i_142_13 ?_
  refine i_142_15 (fun h => absurd e3 (Int.not_le.mpr h)) (fun _ => ?_)
  refine i_142_18 (x := a2) rfl ?_
  refine i_142_19 (Nat.le_of_ble_eq_true rfl) (p_22_0 e4) ?_
  refine i_142_22 (fun h => absurd h (by decide)) (fun _ => ?_)
  exact i_142_25 (by omega) (Nat.le_of_ble_eq_true rfl) ⟨rfl, rfl⟩
theorem p_141_3 {d : Nat} {w : xW} {a0 : Int32} {a1 : Int32} {a2 : Int32} (hw0 : w[7]? = some (Sum.inr (0, [Value.ref 8, Value.ref 78, Value.ref 9, Value.ref 10, Value.ref 13, Value.ref 16, Value.ref 19, Value.ref 93, Value.ref 108, Value.ref 113, Value.ref 29, Value.int 0]))) (e1 : 0 ≤ a0.toInt) (e2 : a0.toInt < 16) (e3 : 2 ≤ a1.toInt) (e4 : a1.toInt ≤ 36) (e5 : a2.toInt < 0) : xRun (d + 7) 141 [Value.ref 7, Value.int a0, Value.int a1, Value.int a2, Value.ref 194] w (.inl (some (Value.int 1))) (w ++ [Sum.inr (14, [])]) := by
  refine xRun.of ?_
  refine i_141_0 (x := 194) rfl ?_
  refine i_141_2 ?_
  refine i_141_3 (x := 7) rfl ?_
  refine i_141_4 (x := a0) rfl ?_
  refine i_141_5 (x := a1) rfl ?_
  refine i_141_6 (x := a2) rfl ?_
  refine j_141_7 hw0 (Nat.le_of_ble_eq_true rfl) (p_142_3 e1 e2 e3 e4 e5) (xDone.c xgl rfl rfl ?_)
  refine i_141_15 (lv2 := [(5, Value.ref w.length), (0, Value.ref 7), (1, Value.int a0), (2, Value.int a1), (3, Value.int a2), (4, Value.ref 194)]) rfl ?_
  refine i_141_17 ?_
  exact i_141_18 ⟨rfl, rfl⟩
theorem p_169_35 {d : Nat} {w : xW} {a0 : Int32} (e0 : 2 ≤ a0.toInt) (e1 : a0.toInt ≤ 36) : xRun d 169 [Value.int a0, Value.int 2, Value.int 36] w (.inl (some (Value.int 1))) w := by
  refine xRun.of ?_
  refine i_169_0 (x := a0) rfl ?_
  refine i_169_1 (x := 2) rfl ?_
  refine i_169_2 (fun h => absurd e0 (Int.not_le.mpr h)) (fun _ => ?_)
  refine i_169_5 (x := a0) rfl ?_
  refine i_169_6 (x := 36) rfl ?_
  refine i_169_7 (fun h => absurd e1 (Int.not_le.mpr h)) (fun _ => ?_)
  refine i_169_10 ?_
  refine i_169_11 ?_
  exact i_169_15 rfl ⟨rfl, rfl⟩
theorem p_258_3 {d : Nat} {w : xW} {a0 : Int32} {a1 : Int32} {a2 : Int32} (e0 : 0 ≤ a0.toInt) (e1 : a0.toInt ≤ 15) (e2 : 2 ≤ a1.toInt) (e3 : a1.toInt ≤ 36) (e4 : a2.toInt < 0) : xRun (d + 8) 258 [Value.ref 128, Value.int a0, Value.int a1, Value.int a2] w (.inr w.length) (w ++ [Sum.inr (14, [])]) := by
  refine xRun.of ?_
  refine i_258_0 (x := a0) rfl ?_
  refine i_258_1 (Nat.le_of_ble_eq_true rfl) (p_168_1 e0 e1) ?_
  refine i_258_4 (x := a1) rfl ?_
  refine i_258_5 ?_
  refine i_258_6 ?_
  refine i_258_8 (Nat.le_of_ble_eq_true rfl) (p_169_35 e2 e3) ?_
  refine i_258_11 (Nat.le_of_ble_eq_true rfl) (p_170_1) ?_
  refine i_258_14 (x := a2) rfl ?_
  exact j_258_15 (Nat.le_of_ble_eq_true rfl) (p_178_0 e4) (xDone.t xgl rfl rfl ⟨rfl, rfl⟩)
theorem p_257_3 {d : Nat} {w : xW} {a0 : Int32} {a1 : Int32} {a2 : Int32} (hw0 : w[128]? = some (Sum.inr (12, [Value.ref 129, Value.ref 131, Value.ref 133, Value.ref 135, Value.ref 137, Value.ref 139, Value.ref 141, Value.ref 143, Value.ref 145, Value.ref 147, Value.ref 149, Value.ref 151, Value.ref 153, Value.ref 154, Value.ref 155, Value.ref 156, Value.ref 157, Value.int (-16384), Value.int 16384, Value.int 0, Value.int 0, Value.int 0, Value.ref 158, Value.ref 159, Value.int 0, Value.int 0, Value.int 0, Value.int 0, Value.int 0, Value.int 0, Value.int 0, Value.int 0]))) (e1 : 0 ≤ a0.toInt) (e2 : a0.toInt ≤ 15) (e3 : 2 ≤ a1.toInt) (e4 : a1.toInt ≤ 36) (e5 : a2.toInt < 0) : xRun (d + 9) 257 [Value.ref 128, Value.int a0, Value.int a1, Value.int a2] w (.inl (some (Value.int 0))) (((w.set 128 (Sum.inr (12, [Value.ref 129, Value.ref 131, Value.ref 133, Value.ref 135, Value.ref 137, Value.ref 139, Value.ref 141, Value.ref 143, Value.ref 145, Value.ref 147, Value.ref 149, Value.ref 151, Value.ref 153, Value.ref 154, Value.ref 155, Value.ref 156, Value.ref 157, Value.int (-16384), Value.int 16384, Value.int 0, Value.int 0, Value.int 0, Value.ref 158, Value.ref 159, Value.int 0, Value.int 0, Value.int 0, Value.int 0, Value.int 0, Value.int 0, Value.int 0, Value.int 0]))) ++ [Sum.inr (14, [])]).set 128 (Sum.inr (12, [Value.ref 129, Value.ref 131, Value.ref 133, Value.ref 135, Value.ref 137, Value.ref 139, Value.ref 141, Value.ref 143, Value.ref 145, Value.ref 147, Value.ref 149, Value.ref 151, Value.ref 153, Value.ref 154, Value.ref 155, Value.ref 156, Value.ref 157, Value.int (-16384), Value.int 16384, Value.int 0, Value.int 0, Value.int 0, Value.ref 158, Value.ref 159, Value.int 0, Value.int 0, Value.int 0, Value.int 0, Value.int 0, Value.int 0, Value.int 0, Value.int 1]))) := by
  refine xRun.of ?_
  refine i_257_0 (x := 128) rfl ?_
  refine i_257_1 ?_
  refine i_257_2 (fs2 := [Value.ref 129, Value.ref 131, Value.ref 133, Value.ref 135, Value.ref 137, Value.ref 139, Value.ref 141, Value.ref 143, Value.ref 145, Value.ref 147, Value.ref 149, Value.ref 151, Value.ref 153, Value.ref 154, Value.ref 155, Value.ref 156, Value.ref 157, Value.int (-16384), Value.int 16384, Value.int 0, Value.int 0, Value.int 0, Value.ref 158, Value.ref 159, Value.int 0, Value.int 0, Value.int 0, Value.int 0, Value.int 0, Value.int 0, Value.int 0, Value.int 0]) hw0 (Nat.le_of_ble_eq_true rfl) rfl (by decide) ?_
  refine i_257_5 (x := 128) rfl ?_
  refine i_257_6 (x := a0) rfl ?_
  refine i_257_7 (x := a1) rfl ?_
  refine i_257_8 (x := a2) rfl ?_
  refine j_257_9 (xgs hw0) (Nat.le_of_ble_eq_true rfl) (p_258_3 e1 e2 e3 e4 e5) (xDone.c xgl rfl rfl ?_)
  refine i_257_13 (lv2 := [(4, Value.ref ((w.set 128 (Sum.inr (12, [Value.ref 129, Value.ref 131, Value.ref 133, Value.ref 135, Value.ref 137, Value.ref 139, Value.ref 141, Value.ref 143, Value.ref 145, Value.ref 147, Value.ref 149, Value.ref 151, Value.ref 153, Value.ref 154, Value.ref 155, Value.ref 156, Value.ref 157, Value.int (-16384), Value.int 16384, Value.int 0, Value.int 0, Value.int 0, Value.ref 158, Value.ref 159, Value.int 0, Value.int 0, Value.int 0, Value.int 0, Value.int 0, Value.int 0, Value.int 0, Value.int 0]))).length)), (0, Value.ref 128), (1, Value.int a0), (2, Value.int a1), (3, Value.int a2)]) rfl ?_
  refine i_257_15 (x := 128) rfl ?_
  refine i_257_16 ?_
  refine i_257_17 (fs2 := [Value.ref 129, Value.ref 131, Value.ref 133, Value.ref 135, Value.ref 137, Value.ref 139, Value.ref 141, Value.ref 143, Value.ref 145, Value.ref 147, Value.ref 149, Value.ref 151, Value.ref 153, Value.ref 154, Value.ref 155, Value.ref 156, Value.ref 157, Value.int (-16384), Value.int 16384, Value.int 0, Value.int 0, Value.int 0, Value.ref 158, Value.ref 159, Value.int 0, Value.int 0, Value.int 0, Value.int 0, Value.int 0, Value.int 0, Value.int 0, Value.int 1]) (xga (xgs hw0)) (Nat.le_of_ble_eq_true rfl) rfl (by decide) ?_
  refine i_257_20 ?_
  refine i_257_30 ?_
  exact i_257_31 ⟨rfl, rfl⟩
theorem o_21_3 {d : Nat} {xs : Nat → Int32} (h0 : ((xs 0) &&& (31 : Int32)).toInt = 21) (c0 : 0 ≤ (xs 1).toInt) (c1 : (xs 1).toInt < 16) (c2 : 2 ≤ (xs 2).toInt) (c3 : (xs 2).toInt ≤ 36) (c4 : (xs 3).toInt < 0) : ∃ w1, xEv (d + 20) 287 23 [(4, Value.int 0), (3, Value.ref 194), (2, Value.ref 128), (1, Value.ref 7), (0, Value.ref 0)] [] (W0 6 xs) (fun o' w' => o' = .inl (some (Value.int 1)) ∧ w' = w1) ∧ w1.length ≤ 220 ∧ xsz w1 ≤ 200000 := by
  refine ⟨(((((W0 6 xs) ++ [Sum.inr (14, [])]).set 128 (Sum.inr (12, [Value.ref 129, Value.ref 131, Value.ref 133, Value.ref 135, Value.ref 137, Value.ref 139, Value.ref 141, Value.ref 143, Value.ref 145, Value.ref 147, Value.ref 149, Value.ref 151, Value.ref 153, Value.ref 154, Value.ref 155, Value.ref 156, Value.ref 157, Value.int (-16384), Value.int 16384, Value.int 0, Value.int 0, Value.int 0, Value.ref 158, Value.ref 159, Value.int 0, Value.int 0, Value.int 0, Value.int 0, Value.int 0, Value.int 0, Value.int 0, Value.int 0]))) ++ [Sum.inr (14, [])]).set 128 (Sum.inr (12, [Value.ref 129, Value.ref 131, Value.ref 133, Value.ref 135, Value.ref 137, Value.ref 139, Value.ref 141, Value.ref 143, Value.ref 145, Value.ref 147, Value.ref 149, Value.ref 151, Value.ref 153, Value.ref 154, Value.ref 155, Value.ref 156, Value.ref 157, Value.int (-16384), Value.int 16384, Value.int 0, Value.int 0, Value.int 0, Value.ref 158, Value.ref 159, Value.int 0, Value.int 0, Value.int 0, Value.int 0, Value.int 0, Value.int 0, Value.int 0, Value.int 1]))), ?_, (show xLs _ 220 200000 from ?_)⟩
  · refine i_287_23 (x := 0) rfl ?_
    refine i_287_25 (x := 0) rfl ?_
    refine i_287_26 (c := 6) W0_0 (by decide) ?_
    refine i_287_27 ?_
    refine i_287_29 (c := 0) (by decide) ?_
    refine i_287_30 (fun h => absurd h (by decide)) (fun _ => ?_)
    refine i_287_33 (x := 0) rfl ?_
    refine i_287_34 (x := 0) rfl ?_
    refine i_287_36 (v := Value.int (xs 0)) W0_0 (by decide) (by decide) rfl ?_
    refine i_287_37 ?_
    refine i_287_39 (c := ((xs 0) &&& (31 : Int32))) rfl ?_
    refine i_287_40_21 (by omega) ?_
    refine i_287_1926 (x := 7) rfl ?_
    refine i_287_1927 (x := 0) rfl ?_
    refine i_287_1928 (x := 0) rfl ?_
    refine i_287_1930 ?_
    refine i_287_1931 (c := 1) (by decide) ?_
    refine i_287_1932 (v := Value.int (xs 1)) W0_0 (by decide) (by decide) rfl ?_
    refine i_287_1933 (x := 0) rfl ?_
    refine i_287_1934 (x := 0) rfl ?_
    refine i_287_1936 ?_
    refine i_287_1937 (c := 2) (by decide) ?_
    refine i_287_1938 (v := Value.int (xs 2)) W0_0 (by decide) (by decide) rfl ?_
    refine i_287_1939 (x := 0) rfl ?_
    refine i_287_1940 (x := 0) rfl ?_
    refine i_287_1942 ?_
    refine i_287_1943 (c := 3) (by decide) ?_
    refine i_287_1944 (v := Value.int (xs 3)) W0_0 (by decide) (by decide) rfl ?_
    refine i_287_1945 (x := 194) rfl ?_
    refine i_287_1946 (Nat.le_of_ble_eq_true rfl) (p_141_3 W0_7 (by omega) (by omega) (by omega) (by omega) (by omega)) ?_
    refine i_287_1949 (lv2 := [(5, Value.int 1), (4, Value.int 0), (3, Value.ref 194), (2, Value.ref 128), (1, Value.ref 7), (0, Value.ref 0)]) rfl ?_
    refine i_287_1951 (x := 128) rfl ?_
    refine i_287_1952 (x := 0) rfl ?_
    refine i_287_1953 (x := 0) rfl ?_
    refine i_287_1955 ?_
    refine i_287_1956 (c := 1) (by decide) ?_
    refine i_287_1957 (v := Value.int (xs 1)) (xga W0_0) (by decide) (by decide) rfl ?_
    refine i_287_1958 (x := 0) rfl ?_
    refine i_287_1959 (x := 0) rfl ?_
    refine i_287_1961 ?_
    refine i_287_1962 (c := 2) (by decide) ?_
    refine i_287_1963 (v := Value.int (xs 2)) (xga W0_0) (by decide) (by decide) rfl ?_
    refine i_287_1964 (x := 0) rfl ?_
    refine i_287_1965 (x := 0) rfl ?_
    refine i_287_1967 ?_
    refine i_287_1968 (c := 3) (by decide) ?_
    refine i_287_1969 (v := Value.int (xs 3)) (xga W0_0) (by decide) (by decide) rfl ?_
    refine i_287_1970 (xga W0_128) (Nat.le_of_ble_eq_true rfl) (p_257_3 (xga W0_128) (by omega) (by omega) (by omega) (by omega) (by omega)) ?_
    refine i_287_1973 (lv2 := [(6, Value.int 0), (5, Value.int 1), (4, Value.int 0), (3, Value.ref 194), (2, Value.ref 128), (1, Value.ref 7), (0, Value.ref 0)]) rfl ?_
    refine i_287_1975 (x := 128) rfl ?_
    refine i_287_1976 (xgs (xga (xgs (xga W0_128)))) (Nat.le_of_ble_eq_true rfl) (p_165_0 (xgs (xga (xgs (xga W0_128))))) ?_
    refine i_287_1979 (x := 1) rfl ?_
    refine i_287_1981 (fun _ => ?_) (fun h => absurd h (by decide))
    refine i_287_1986 (x := 1) rfl ?_
    refine i_287_1988 (fun _ => ?_) (fun h => absurd h (by decide))
    refine i_287_2003 ?_
    refine i_287_2154 (x := 0) (c := 6) (lv2 := [(4, Value.int 6), (6, Value.int 0), (5, Value.int 1), (3, Value.ref 194), (2, Value.ref 128), (1, Value.ref 7), (0, Value.ref 0)]) rfl (by decide) rfl ?_
    refine i_287_2157 ?_
    refine i_287_23 (x := 6) rfl ?_
    refine i_287_25 (x := 0) rfl ?_
    refine i_287_26 (c := 6) (xgn (by decide) (xga (xgn (by decide) (xga W0_0)))) (by decide) ?_
    refine i_287_27 ?_
    refine i_287_29 (c := 0) (by decide) ?_
    refine i_287_30 (fun _ => ?_) (fun h => absurd h (by decide))
    refine i_287_2160 ?_
    exact i_287_2161 rfl ⟨rfl, rfl⟩
  · refine xLs.set ?_ (xga (xgs (xga W0_128))) xcs_o
    refine xLs.app (n := 219) (z := 199994) (m := 6) ?_ rfl
    refine xLs.set ?_ (xga W0_128) xcs_o
    refine xLs.app (n := 218) (z := 199988) (m := 6) ?_ rfl
    exact ⟨Nat.le_trans (Nat.le_of_eq W0_len) (by decide), Nat.le_trans (Nat.le_of_eq W0_sz) (by decide)⟩
theorem p_142_4 {d : Nat} {w : xW} {a0 : Int32} {a1 : Int32} {a2 : Int32} (e0 : 0 ≤ a0.toInt) (e1 : a0.toInt < 16) (e2 : 2 ≤ a1.toInt) (e3 : a1.toInt ≤ 36) (e4 : 0 ≤ a2.toInt) (e5 : 4 < a2.toInt) : xRun (d + 6) 142 [Value.ref 7, Value.int a0, Value.int a1, Value.int a2] w (.inr w.length) (w ++ [Sum.inr (14, [])]) := by
  refine xRun.of ?_
  refine i_142_0 (x := a0) rfl ?_
  refine i_142_1 (Nat.le_of_ble_eq_true rfl) (p_15_1 e0 e1) ?_
  refine i_142_4 (fun h => absurd h (by decide)) (fun _ => ?_)
  refine i_142_7 (x := a1) rfl ?_
  refine i_142_8 ?_
  refine i_142_9 (fun h => absurd e2 (Int.not_le.mpr h)) (fun _ => ?_)
  refine i_142_12 (x := a1) rfl ?_
  refine i_142_13 ?_
  refine i_142_15 (fun h => absurd e3 (Int.not_le.mpr h)) (fun _ => ?_)
  refine i_142_18 (x := a2) rfl ?_
  refine i_142_19 (Nat.le_of_ble_eq_true rfl) (p_22_1 e4 e5) ?_
  refine i_142_22 (fun h => absurd h (by decide)) (fun _ => ?_)
  exact i_142_25 (by omega) (Nat.le_of_ble_eq_true rfl) ⟨rfl, rfl⟩
theorem p_141_4 {d : Nat} {w : xW} {a0 : Int32} {a1 : Int32} {a2 : Int32} (hw0 : w[7]? = some (Sum.inr (0, [Value.ref 8, Value.ref 78, Value.ref 9, Value.ref 10, Value.ref 13, Value.ref 16, Value.ref 19, Value.ref 93, Value.ref 108, Value.ref 113, Value.ref 29, Value.int 0]))) (e1 : 0 ≤ a0.toInt) (e2 : a0.toInt < 16) (e3 : 2 ≤ a1.toInt) (e4 : a1.toInt ≤ 36) (e5 : 0 ≤ a2.toInt) (e6 : 4 < a2.toInt) : xRun (d + 7) 141 [Value.ref 7, Value.int a0, Value.int a1, Value.int a2, Value.ref 194] w (.inl (some (Value.int 1))) (w ++ [Sum.inr (14, [])]) := by
  refine xRun.of ?_
  refine i_141_0 (x := 194) rfl ?_
  refine i_141_2 ?_
  refine i_141_3 (x := 7) rfl ?_
  refine i_141_4 (x := a0) rfl ?_
  refine i_141_5 (x := a1) rfl ?_
  refine i_141_6 (x := a2) rfl ?_
  refine j_141_7 hw0 (Nat.le_of_ble_eq_true rfl) (p_142_4 e1 e2 e3 e4 e5 e6) (xDone.c xgl rfl rfl ?_)
  refine i_141_15 (lv2 := [(5, Value.ref w.length), (0, Value.ref 7), (1, Value.int a0), (2, Value.int a1), (3, Value.int a2), (4, Value.ref 194)]) rfl ?_
  refine i_141_17 ?_
  exact i_141_18 ⟨rfl, rfl⟩
theorem p_258_4 {d : Nat} {w : xW} {a0 : Int32} {a1 : Int32} {a2 : Int32} (e0 : 0 ≤ a0.toInt) (e1 : a0.toInt ≤ 15) (e2 : 2 ≤ a1.toInt) (e3 : a1.toInt ≤ 36) (e4 : 0 ≤ a2.toInt) (e5 : 4 < a2.toInt) : xRun (d + 8) 258 [Value.ref 128, Value.int a0, Value.int a1, Value.int a2] w (.inr w.length) (w ++ [Sum.inr (14, [])]) := by
  refine xRun.of ?_
  refine i_258_0 (x := a0) rfl ?_
  refine i_258_1 (Nat.le_of_ble_eq_true rfl) (p_168_1 e0 e1) ?_
  refine i_258_4 (x := a1) rfl ?_
  refine i_258_5 ?_
  refine i_258_6 ?_
  refine i_258_8 (Nat.le_of_ble_eq_true rfl) (p_169_35 e2 e3) ?_
  refine i_258_11 (Nat.le_of_ble_eq_true rfl) (p_170_1) ?_
  refine i_258_14 (x := a2) rfl ?_
  exact j_258_15 (Nat.le_of_ble_eq_true rfl) (p_178_1 e4 e5) (xDone.t xgl rfl rfl ⟨rfl, rfl⟩)
theorem p_257_4 {d : Nat} {w : xW} {a0 : Int32} {a1 : Int32} {a2 : Int32} (hw0 : w[128]? = some (Sum.inr (12, [Value.ref 129, Value.ref 131, Value.ref 133, Value.ref 135, Value.ref 137, Value.ref 139, Value.ref 141, Value.ref 143, Value.ref 145, Value.ref 147, Value.ref 149, Value.ref 151, Value.ref 153, Value.ref 154, Value.ref 155, Value.ref 156, Value.ref 157, Value.int (-16384), Value.int 16384, Value.int 0, Value.int 0, Value.int 0, Value.ref 158, Value.ref 159, Value.int 0, Value.int 0, Value.int 0, Value.int 0, Value.int 0, Value.int 0, Value.int 0, Value.int 0]))) (e1 : 0 ≤ a0.toInt) (e2 : a0.toInt ≤ 15) (e3 : 2 ≤ a1.toInt) (e4 : a1.toInt ≤ 36) (e5 : 0 ≤ a2.toInt) (e6 : 4 < a2.toInt) : xRun (d + 9) 257 [Value.ref 128, Value.int a0, Value.int a1, Value.int a2] w (.inl (some (Value.int 0))) (((w.set 128 (Sum.inr (12, [Value.ref 129, Value.ref 131, Value.ref 133, Value.ref 135, Value.ref 137, Value.ref 139, Value.ref 141, Value.ref 143, Value.ref 145, Value.ref 147, Value.ref 149, Value.ref 151, Value.ref 153, Value.ref 154, Value.ref 155, Value.ref 156, Value.ref 157, Value.int (-16384), Value.int 16384, Value.int 0, Value.int 0, Value.int 0, Value.ref 158, Value.ref 159, Value.int 0, Value.int 0, Value.int 0, Value.int 0, Value.int 0, Value.int 0, Value.int 0, Value.int 0]))) ++ [Sum.inr (14, [])]).set 128 (Sum.inr (12, [Value.ref 129, Value.ref 131, Value.ref 133, Value.ref 135, Value.ref 137, Value.ref 139, Value.ref 141, Value.ref 143, Value.ref 145, Value.ref 147, Value.ref 149, Value.ref 151, Value.ref 153, Value.ref 154, Value.ref 155, Value.ref 156, Value.ref 157, Value.int (-16384), Value.int 16384, Value.int 0, Value.int 0, Value.int 0, Value.ref 158, Value.ref 159, Value.int 0, Value.int 0, Value.int 0, Value.int 0, Value.int 0, Value.int 0, Value.int 0, Value.int 1]))) := by
  refine xRun.of ?_
  refine i_257_0 (x := 128) rfl ?_
  refine i_257_1 ?_
  refine i_257_2 (fs2 := [Value.ref 129, Value.ref 131, Value.ref 133, Value.ref 135, Value.ref 137, Value.ref 139, Value.ref 141, Value.ref 143, Value.ref 145, Value.ref 147, Value.ref 149, Value.ref 151, Value.ref 153, Value.ref 154, Value.ref 155, Value.ref 156, Value.ref 157, Value.int (-16384), Value.int 16384, Value.int 0, Value.int 0, Value.int 0, Value.ref 158, Value.ref 159, Value.int 0, Value.int 0, Value.int 0, Value.int 0, Value.int 0, Value.int 0, Value.int 0, Value.int 0]) hw0 (Nat.le_of_ble_eq_true rfl) rfl (by decide) ?_
  refine i_257_5 (x := 128) rfl ?_
  refine i_257_6 (x := a0) rfl ?_
  refine i_257_7 (x := a1) rfl ?_
  refine i_257_8 (x := a2) rfl ?_
  refine j_257_9 (xgs hw0) (Nat.le_of_ble_eq_true rfl) (p_258_4 e1 e2 e3 e4 e5 e6) (xDone.c xgl rfl rfl ?_)
  refine i_257_13 (lv2 := [(4, Value.ref ((w.set 128 (Sum.inr (12, [Value.ref 129, Value.ref 131, Value.ref 133, Value.ref 135, Value.ref 137, Value.ref 139, Value.ref 141, Value.ref 143, Value.ref 145, Value.ref 147, Value.ref 149, Value.ref 151, Value.ref 153, Value.ref 154, Value.ref 155, Value.ref 156, Value.ref 157, Value.int (-16384), Value.int 16384, Value.int 0, Value.int 0, Value.int 0, Value.ref 158, Value.ref 159, Value.int 0, Value.int 0, Value.int 0, Value.int 0, Value.int 0, Value.int 0, Value.int 0, Value.int 0]))).length)), (0, Value.ref 128), (1, Value.int a0), (2, Value.int a1), (3, Value.int a2)]) rfl ?_
  refine i_257_15 (x := 128) rfl ?_
  refine i_257_16 ?_
  refine i_257_17 (fs2 := [Value.ref 129, Value.ref 131, Value.ref 133, Value.ref 135, Value.ref 137, Value.ref 139, Value.ref 141, Value.ref 143, Value.ref 145, Value.ref 147, Value.ref 149, Value.ref 151, Value.ref 153, Value.ref 154, Value.ref 155, Value.ref 156, Value.ref 157, Value.int (-16384), Value.int 16384, Value.int 0, Value.int 0, Value.int 0, Value.ref 158, Value.ref 159, Value.int 0, Value.int 0, Value.int 0, Value.int 0, Value.int 0, Value.int 0, Value.int 0, Value.int 1]) (xga (xgs hw0)) (Nat.le_of_ble_eq_true rfl) rfl (by decide) ?_
  refine i_257_20 ?_
  refine i_257_30 ?_
  exact i_257_31 ⟨rfl, rfl⟩
theorem o_21_4 {d : Nat} {xs : Nat → Int32} (h0 : ((xs 0) &&& (31 : Int32)).toInt = 21) (c0 : 0 ≤ (xs 1).toInt) (c1 : (xs 1).toInt < 16) (c2 : 2 ≤ (xs 2).toInt) (c3 : (xs 2).toInt ≤ 36) (c4 : 0 ≤ (xs 3).toInt) (c5 : 4 < (xs 3).toInt) : ∃ w1, xEv (d + 20) 287 23 [(4, Value.int 0), (3, Value.ref 194), (2, Value.ref 128), (1, Value.ref 7), (0, Value.ref 0)] [] (W0 6 xs) (fun o' w' => o' = .inl (some (Value.int 1)) ∧ w' = w1) ∧ w1.length ≤ 220 ∧ xsz w1 ≤ 200000 := by
  refine ⟨(((((W0 6 xs) ++ [Sum.inr (14, [])]).set 128 (Sum.inr (12, [Value.ref 129, Value.ref 131, Value.ref 133, Value.ref 135, Value.ref 137, Value.ref 139, Value.ref 141, Value.ref 143, Value.ref 145, Value.ref 147, Value.ref 149, Value.ref 151, Value.ref 153, Value.ref 154, Value.ref 155, Value.ref 156, Value.ref 157, Value.int (-16384), Value.int 16384, Value.int 0, Value.int 0, Value.int 0, Value.ref 158, Value.ref 159, Value.int 0, Value.int 0, Value.int 0, Value.int 0, Value.int 0, Value.int 0, Value.int 0, Value.int 0]))) ++ [Sum.inr (14, [])]).set 128 (Sum.inr (12, [Value.ref 129, Value.ref 131, Value.ref 133, Value.ref 135, Value.ref 137, Value.ref 139, Value.ref 141, Value.ref 143, Value.ref 145, Value.ref 147, Value.ref 149, Value.ref 151, Value.ref 153, Value.ref 154, Value.ref 155, Value.ref 156, Value.ref 157, Value.int (-16384), Value.int 16384, Value.int 0, Value.int 0, Value.int 0, Value.ref 158, Value.ref 159, Value.int 0, Value.int 0, Value.int 0, Value.int 0, Value.int 0, Value.int 0, Value.int 0, Value.int 1]))), ?_, (show xLs _ 220 200000 from ?_)⟩
  · refine i_287_23 (x := 0) rfl ?_
    refine i_287_25 (x := 0) rfl ?_
    refine i_287_26 (c := 6) W0_0 (by decide) ?_
    refine i_287_27 ?_
    refine i_287_29 (c := 0) (by decide) ?_
    refine i_287_30 (fun h => absurd h (by decide)) (fun _ => ?_)
    refine i_287_33 (x := 0) rfl ?_
    refine i_287_34 (x := 0) rfl ?_
    refine i_287_36 (v := Value.int (xs 0)) W0_0 (by decide) (by decide) rfl ?_
    refine i_287_37 ?_
    refine i_287_39 (c := ((xs 0) &&& (31 : Int32))) rfl ?_
    refine i_287_40_21 (by omega) ?_
    refine i_287_1926 (x := 7) rfl ?_
    refine i_287_1927 (x := 0) rfl ?_
    refine i_287_1928 (x := 0) rfl ?_
    refine i_287_1930 ?_
    refine i_287_1931 (c := 1) (by decide) ?_
    refine i_287_1932 (v := Value.int (xs 1)) W0_0 (by decide) (by decide) rfl ?_
    refine i_287_1933 (x := 0) rfl ?_
    refine i_287_1934 (x := 0) rfl ?_
    refine i_287_1936 ?_
    refine i_287_1937 (c := 2) (by decide) ?_
    refine i_287_1938 (v := Value.int (xs 2)) W0_0 (by decide) (by decide) rfl ?_
    refine i_287_1939 (x := 0) rfl ?_
    refine i_287_1940 (x := 0) rfl ?_
    refine i_287_1942 ?_
    refine i_287_1943 (c := 3) (by decide) ?_
    refine i_287_1944 (v := Value.int (xs 3)) W0_0 (by decide) (by decide) rfl ?_
    refine i_287_1945 (x := 194) rfl ?_
    refine i_287_1946 (Nat.le_of_ble_eq_true rfl) (p_141_4 W0_7 (by omega) (by omega) (by omega) (by omega) (by omega) (by omega)) ?_
    refine i_287_1949 (lv2 := [(5, Value.int 1), (4, Value.int 0), (3, Value.ref 194), (2, Value.ref 128), (1, Value.ref 7), (0, Value.ref 0)]) rfl ?_
    refine i_287_1951 (x := 128) rfl ?_
    refine i_287_1952 (x := 0) rfl ?_
    refine i_287_1953 (x := 0) rfl ?_
    refine i_287_1955 ?_
    refine i_287_1956 (c := 1) (by decide) ?_
    refine i_287_1957 (v := Value.int (xs 1)) (xga W0_0) (by decide) (by decide) rfl ?_
    refine i_287_1958 (x := 0) rfl ?_
    refine i_287_1959 (x := 0) rfl ?_
    refine i_287_1961 ?_
    refine i_287_1962 (c := 2) (by decide) ?_
    refine i_287_1963 (v := Value.int (xs 2)) (xga W0_0) (by decide) (by decide) rfl ?_
    refine i_287_1964 (x := 0) rfl ?_
    refine i_287_1965 (x := 0) rfl ?_
    refine i_287_1967 ?_
    refine i_287_1968 (c := 3) (by decide) ?_
    refine i_287_1969 (v := Value.int (xs 3)) (xga W0_0) (by decide) (by decide) rfl ?_
    refine i_287_1970 (xga W0_128) (Nat.le_of_ble_eq_true rfl) (p_257_4 (xga W0_128) (by omega) (by omega) (by omega) (by omega) (by omega) (by omega)) ?_
    refine i_287_1973 (lv2 := [(6, Value.int 0), (5, Value.int 1), (4, Value.int 0), (3, Value.ref 194), (2, Value.ref 128), (1, Value.ref 7), (0, Value.ref 0)]) rfl ?_
    refine i_287_1975 (x := 128) rfl ?_
    refine i_287_1976 (xgs (xga (xgs (xga W0_128)))) (Nat.le_of_ble_eq_true rfl) (p_165_0 (xgs (xga (xgs (xga W0_128))))) ?_
    refine i_287_1979 (x := 1) rfl ?_
    refine i_287_1981 (fun _ => ?_) (fun h => absurd h (by decide))
    refine i_287_1986 (x := 1) rfl ?_
    refine i_287_1988 (fun _ => ?_) (fun h => absurd h (by decide))
    refine i_287_2003 ?_
    refine i_287_2154 (x := 0) (c := 6) (lv2 := [(4, Value.int 6), (6, Value.int 0), (5, Value.int 1), (3, Value.ref 194), (2, Value.ref 128), (1, Value.ref 7), (0, Value.ref 0)]) rfl (by decide) rfl ?_
    refine i_287_2157 ?_
    refine i_287_23 (x := 6) rfl ?_
    refine i_287_25 (x := 0) rfl ?_
    refine i_287_26 (c := 6) (xgn (by decide) (xga (xgn (by decide) (xga W0_0)))) (by decide) ?_
    refine i_287_27 ?_
    refine i_287_29 (c := 0) (by decide) ?_
    refine i_287_30 (fun _ => ?_) (fun h => absurd h (by decide))
    refine i_287_2160 ?_
    exact i_287_2161 rfl ⟨rfl, rfl⟩
  · refine xLs.set ?_ (xga (xgs (xga W0_128))) xcs_o
    refine xLs.app (n := 219) (z := 199994) (m := 6) ?_ rfl
    refine xLs.set ?_ (xga W0_128) xcs_o
    refine xLs.app (n := 218) (z := 199988) (m := 6) ?_ rfl
    exact ⟨Nat.le_trans (Nat.le_of_eq W0_len) (by decide), Nat.le_trans (Nat.le_of_eq W0_sz) (by decide)⟩
theorem p_283_0 {d : Nat} {w : xW} (hw0 : w[1]? = some (Sum.inr (18, [Value.ref 2, Value.int 0]))) : xRun d 283 [Value.ref 1] w (.inl (some (Value.int 0))) w := by
  refine xRun.of ?_
  refine i_283_0 ?_
  refine i_283_3 (fun h => absurd h (by decide)) (fun _ => ?_)
  refine i_283_6 (x := 1) rfl ?_
  refine i_283_7 (v := Value.int 0) hw0 rfl ?_
  refine i_283_10 ?_
  exact i_283_14 rfl ⟨rfl, rfl⟩
theorem p_282_0 {d : Nat} {w : xW} {g0 : Nat → Value} (hw0 : w[1]? = some (Sum.inr (18, [Value.ref 2, Value.int 0]))) (hw1 : w[2]? = some (Sum.inl (1, 3, g0))) : xRun (d + 1) 282 [Value.ref 1] w (.inl (some (Value.int 3))) w := by
  refine xRun.of ?_
  refine i_282_0 (x := 1) rfl ?_
  refine i_282_1 (v := Value.ref 2) hw0 rfl ?_
  refine i_282_4 (c := 3) hw1 (by decide) ?_
  refine i_282_5 (x := 1) rfl ?_
  refine i_282_6 hw0 (Nat.le_of_ble_eq_true rfl) (p_283_0 hw0) ?_
  refine i_282_9 (c := 3) (by decide) ?_
  exact i_282_10 ⟨rfl, rfl⟩
theorem p_144_0 {d : Nat} {w : xW} {g0 : Nat → Value} (hw0 : w[1]? = some (Sum.inr (18, [Value.ref 2, Value.int 0]))) (hw1 : w[2]? = some (Sum.inl (1, 3, g0))) : xRun (d + 2) 144 [Value.ref 29, Value.int 0, Value.int 0, Value.ref 1] w (.inl (some (Value.int 0))) w := by
  refine xRun.of ?_
  refine i_144_0 (x := 0) rfl ?_
  refine i_144_1 (x := 0) rfl ?_
  refine i_144_2 (c := 0) (by decide) ?_
  refine i_144_3 (x := 1) rfl ?_
  refine i_144_4 hw0 (Nat.le_of_ble_eq_true rfl) (p_282_0 hw0 hw1) ?_
  refine i_144_7 (fun h => absurd h (by decide)) (fun _ => ?_)
  refine i_144_10 ?_
  exact i_144_11 rfl ⟨rfl, rfl⟩
theorem p_283_1 {d : Nat} {w : xW} (hw0 : w[3]? = some (Sum.inr (18, [Value.ref 4, Value.int 0]))) : xRun d 283 [Value.ref 3] w (.inl (some (Value.int 0))) w := by
  refine xRun.of ?_
  refine i_283_0 ?_
  refine i_283_3 (fun h => absurd h (by decide)) (fun _ => ?_)
  refine i_283_6 (x := 3) rfl ?_
  refine i_283_7 (v := Value.int 0) hw0 rfl ?_
  refine i_283_10 ?_
  exact i_283_14 rfl ⟨rfl, rfl⟩
theorem p_282_1 {d : Nat} {w : xW} {g0 : Nat → Value} (hw0 : w[3]? = some (Sum.inr (18, [Value.ref 4, Value.int 0]))) (hw1 : w[4]? = some (Sum.inl (1, 3, g0))) : xRun (d + 1) 282 [Value.ref 3] w (.inl (some (Value.int 3))) w := by
  refine xRun.of ?_
  refine i_282_0 (x := 3) rfl ?_
  refine i_282_1 (v := Value.ref 4) hw0 rfl ?_
  refine i_282_4 (c := 3) hw1 (by decide) ?_
  refine i_282_5 (x := 3) rfl ?_
  refine i_282_6 hw0 (Nat.le_of_ble_eq_true rfl) (p_283_1 hw0) ?_
  refine i_282_9 (c := 3) (by decide) ?_
  exact i_282_10 ⟨rfl, rfl⟩
theorem p_144_1 {d : Nat} {w : xW} {g0 : Nat → Value} (hw0 : w[3]? = some (Sum.inr (18, [Value.ref 4, Value.int 0]))) (hw1 : w[4]? = some (Sum.inl (1, 3, g0))) : xRun (d + 2) 144 [Value.ref 29, Value.int 0, Value.int 0, Value.ref 3] w (.inl (some (Value.int 0))) w := by
  refine xRun.of ?_
  refine i_144_0 (x := 0) rfl ?_
  refine i_144_1 (x := 0) rfl ?_
  refine i_144_2 (c := 0) (by decide) ?_
  refine i_144_3 (x := 3) rfl ?_
  refine i_144_4 hw0 (Nat.le_of_ble_eq_true rfl) (p_282_1 hw0 hw1) ?_
  refine i_144_7 (fun h => absurd h (by decide)) (fun _ => ?_)
  refine i_144_10 ?_
  exact i_144_11 rfl ⟨rfl, rfl⟩
theorem p_87_0 {d : Nat} {w : xW} (hw0 : w[109]? = some (Sum.inr (3, [Value.ref 110, Value.int 0]))) : xRun d 87 [Value.ref 109, Value.int 1, Value.int 0] w (.inl none) w := by
  refine xRun.of ?_
  refine i_87_0 (x := 0) rfl ?_
  refine i_87_1 (c := 0) (by decide) ?_
  refine i_87_2 (lv2 := [(3, Value.long 0), (0, Value.ref 109), (1, Value.int 1), (2, Value.int 0)]) rfl ?_
  refine i_87_3 ?_
  refine i_87_4 (lv2 := [(5, Value.int 0), (3, Value.long 0), (0, Value.ref 109), (1, Value.int 1), (2, Value.int 0)]) rfl ?_
  refine i_87_6 (x := 0) rfl ?_
  refine i_87_8 (x := 109) rfl ?_
  refine i_87_9 (v := Value.int 0) hw0 rfl ?_
  refine i_87_12 (fun _ => ?_) (fun h => absurd h (by decide))
  refine i_87_53 (x := 0) rfl ?_
  refine i_87_54 ?_
  refine i_87_55 (c := 0) (by decide) ?_
  refine i_87_56 (fun _ => ?_) (fun h => absurd h (by decide))
  exact i_87_90 ⟨rfl, rfl⟩
theorem p_146_0 {d : Nat} {w : xW} {a0 : Int32} (hw0 : w[108]? = some (Sum.inr (10, [Value.ref 79, Value.ref 86, Value.ref 109, Value.ref 111, Value.int a0, Value.int 0, Value.int 0, Value.int 0, Value.int 0]))) (hw1 : w[109]? = some (Sum.inr (3, [Value.ref 110, Value.int 0]))) : xRun (d + 1) 146 [Value.ref 108, Value.ref 29, Value.int 0, Value.int 0] w (.inl (some (Value.int (-1)))) ((w.set 109 (Sum.inr (3, [Value.ref 110, Value.int 0]))).set 108 (Sum.inr (10, [Value.ref 79, Value.ref 86, Value.ref 109, Value.ref 111, Value.int a0, Value.int 0, Value.int 0, Value.int 0, Value.int 0]))) := by
  refine xRun.of ?_
  refine i_146_0 ?_
  refine i_146_1 (lv2 := [(4, Value.int 0), (0, Value.ref 108), (1, Value.ref 29), (2, Value.int 0), (3, Value.int 0)]) rfl ?_
  refine i_146_3 ?_
  refine i_146_4 (lv2 := [(5, Value.int 0), (4, Value.int 0), (0, Value.ref 108), (1, Value.ref 29), (2, Value.int 0), (3, Value.int 0)]) rfl ?_
  refine i_146_6 ?_
  refine i_146_7 (lv2 := [(6, Value.int 0), (5, Value.int 0), (4, Value.int 0), (0, Value.ref 108), (1, Value.ref 29), (2, Value.int 0), (3, Value.int 0)]) rfl ?_
  refine i_146_9 ?_
  refine i_146_10 (lv2 := [(7, Value.int 1), (6, Value.int 0), (5, Value.int 0), (4, Value.int 0), (0, Value.ref 108), (1, Value.ref 29), (2, Value.int 0), (3, Value.int 0)]) rfl ?_
  refine i_146_12 (x := 0) rfl ?_
  refine i_146_13 (lv2 := [(8, Value.int 0), (7, Value.int 1), (6, Value.int 0), (5, Value.int 0), (4, Value.int 0), (0, Value.ref 108), (1, Value.ref 29), (2, Value.int 0), (3, Value.int 0)]) rfl ?_
  refine i_146_15 (x := 108) rfl ?_
  refine i_146_16 (v := Value.ref 109) hw0 rfl ?_
  refine i_146_19 ?_
  refine i_146_20 (fs2 := [Value.ref 110, Value.int 0]) hw1 (Nat.le_of_ble_eq_true rfl) rfl (by decide) ?_
  refine i_146_23 (x := 108) rfl ?_
  refine i_146_24 ?_
  refine i_146_25 (fs2 := [Value.ref 79, Value.ref 86, Value.ref 109, Value.ref 111, Value.int a0, Value.int 0, Value.int 0, Value.int 0, Value.int 0]) (xgn (by decide) hw0) (Nat.le_of_ble_eq_true rfl) rfl (by decide) ?_
  refine i_146_28 (x := 108) rfl ?_
  refine i_146_29 ?_
  refine i_146_30 (fs2 := [Value.ref 79, Value.ref 86, Value.ref 109, Value.ref 111, Value.int a0, Value.int 0, Value.int 0, Value.int 0, Value.int 0]) (xgs (xgn (by decide) hw0)) (Nat.le_of_ble_eq_true rfl) rfl (by decide) ?_
  refine xEv.world (List.set_set _) ?_
  refine i_146_33 (x := 0) rfl ?_
  refine i_146_35 (x := 0) rfl ?_
  refine i_146_36 (fun _ => ?_) (fun h => absurd h (by decide))
  refine i_146_184 (x := 108) rfl ?_
  refine i_146_185 (v := Value.ref 109) (xgs (xgn (by decide) hw0)) rfl ?_
  refine i_146_188 (x := 1) rfl ?_
  refine i_146_190 (x := 0) rfl ?_
  refine i_146_192 (xgn (by decide) (xgs hw1)) (Nat.le_of_ble_eq_true rfl) (p_87_0 (xgn (by decide) (xgs hw1))) ?_
  refine i_146_195 (x := 0) rfl ?_
  refine i_146_197 (fun _ => ?_) (fun h => absurd h (by decide))
  refine i_146_205 ?_
  exact i_146_206 ⟨rfl, rfl⟩
theorem p_143_0 {d : Nat} {w : xW} {a0 : Int32} {g0 : Nat → Value} {g1 : Nat → Value} (hw0 : w[108]? = some (Sum.inr (10, [Value.ref 79, Value.ref 86, Value.ref 109, Value.ref 111, Value.int 0, Value.int 0, Value.int 0, Value.int 0, Value.int 0]))) (hw1 : w[1]? = some (Sum.inr (18, [Value.ref 2, Value.int 0]))) (hw2 : w[2]? = some (Sum.inl (1, 3, g0))) (hw3 : w[3]? = some (Sum.inr (18, [Value.ref 4, Value.int 0]))) (hw4 : w[4]? = some (Sum.inl (1, 3, g1))) (hw5 : w[109]? = some (Sum.inr (3, [Value.ref 110, Value.int 0]))) : xRun (d + 3) 143 [Value.ref 108, Value.ref 29, Value.int 0, Value.int a0] w (.inl (some (Value.int 0))) (((w.set 108 (Sum.inr (10, [Value.ref 79, Value.ref 86, Value.ref 109, Value.ref 111, Value.int a0, Value.int 0, Value.int 0, Value.int 0, Value.int 0]))).set 109 (Sum.inr (3, [Value.ref 110, Value.int 0]))).set 108 (Sum.inr (10, [Value.ref 79, Value.ref 86, Value.ref 109, Value.ref 111, Value.int a0, Value.int 0, Value.int 0, Value.int 0, Value.int 0]))) := by
  refine xRun.of ?_
  refine i_143_0 (x := 108) rfl ?_
  refine i_143_1 (x := a0) rfl ?_
  refine i_143_2 (fs2 := [Value.ref 79, Value.ref 86, Value.ref 109, Value.ref 111, Value.int a0, Value.int 0, Value.int 0, Value.int 0, Value.int 0]) hw0 (Nat.le_of_ble_eq_true rfl) rfl (by decide) ?_
  refine i_143_5 (x := 108) rfl ?_
  refine i_143_6 ?_
  refine i_143_7 (fs2 := [Value.ref 79, Value.ref 86, Value.ref 109, Value.ref 111, Value.int a0, Value.int 0, Value.int 0, Value.int 0, Value.int 0]) (xgs hw0) rfl (Nat.le_of_ble_eq_true rfl) rfl (by decide) ?_
  refine xEv.world (List.set_set _) ?_
  refine i_143_10 (x := 29) rfl ?_
  refine i_143_11 ?_
  refine i_143_12 (x := 0) rfl ?_
  refine i_143_13 ?_
  refine i_143_15 (Nat.le_of_ble_eq_true rfl) (p_144_0 (xgn (by decide) hw1) (xgn (by decide) hw2)) ?_
  refine i_143_18 (fun _ => ?_) (fun h => absurd h (by decide))
  refine i_143_28 ?_
  refine i_143_29 (lv2 := [(4, Value.int 0), (0, Value.ref 108), (1, Value.ref 29), (2, Value.int 0), (3, Value.int a0)]) rfl ?_
  refine i_143_31 (x := 0) rfl ?_
  refine i_143_32 (fun _ => ?_) (fun h => absurd h (by decide))
  refine i_143_64 (x := 29) rfl ?_
  refine i_143_65 (x := 0) rfl ?_
  refine i_143_67 (x := 0) rfl ?_
  refine i_143_68 ?_
  refine i_143_70 (Nat.le_of_ble_eq_true rfl) (p_144_1 (xgn (by decide) hw3) (xgn (by decide) hw4)) ?_
  refine i_143_73 (fun _ => ?_) (fun h => absurd h (by decide))
  refine i_143_83 (x := 108) rfl ?_
  refine i_143_84 (x := 29) rfl ?_
  refine i_143_85 (x := 0) rfl ?_
  refine i_143_87 (x := 0) rfl ?_
  refine i_143_88 (xgs hw0) (Nat.le_of_ble_eq_true rfl) (p_146_0 (xgs hw0) (xgn (by decide) hw5)) ?_
  refine i_143_91 (lv2 := [(4, Value.int (-1)), (0, Value.ref 108), (1, Value.ref 29), (2, Value.int 0), (3, Value.int a0)]) rfl ?_
  refine i_143_93 (x := (-1)) rfl ?_
  refine i_143_95 (fun _ => ?_) (fun h => absurd h (by decide))
  refine i_143_115 ?_
  exact i_143_116 rfl ⟨rfl, rfl⟩
theorem p_142_5 {d : Nat} {w : xW} {a0 : Int32} {a1 : Int32} {a2 : Int32} {g0 : Nat → Value} {g1 : Nat → Value} (e0 : 0 ≤ a0.toInt) (e1 : a0.toInt < 16) (e2 : 2 ≤ a1.toInt) (e3 : a1.toInt ≤ 36) (e4 : 0 ≤ a2.toInt) (e5 : a2.toInt ≤ 4) (hw6 : w[7]? = some (Sum.inr (0, [Value.ref 8, Value.ref 78, Value.ref 9, Value.ref 10, Value.ref 13, Value.ref 16, Value.ref 19, Value.ref 93, Value.ref 108, Value.ref 113, Value.ref 29, Value.int 0]))) (hw7 : w[108]? = some (Sum.inr (10, [Value.ref 79, Value.ref 86, Value.ref 109, Value.ref 111, Value.int 0, Value.int 0, Value.int 0, Value.int 0, Value.int 0]))) (hw8 : w[1]? = some (Sum.inr (18, [Value.ref 2, Value.int 0]))) (hw9 : w[2]? = some (Sum.inl (1, 3, g0))) (hw10 : w[3]? = some (Sum.inr (18, [Value.ref 4, Value.int 0]))) (hw11 : w[4]? = some (Sum.inl (1, 3, g1))) (hw12 : w[109]? = some (Sum.inr (3, [Value.ref 110, Value.int 0]))) : xRun (d + 6) 142 [Value.ref 7, Value.int a0, Value.int a1, Value.int a2] w (.inr (((((w.set 7 (Sum.inr (0, [Value.ref 8, Value.ref 78, Value.ref 9, Value.ref 10, Value.ref 13, Value.ref 16, Value.ref 19, Value.ref 93, Value.ref 108, Value.ref 113, Value.ref 29, Value.int 0]))).set 108 (Sum.inr (10, [Value.ref 79, Value.ref 86, Value.ref 109, Value.ref 111, Value.int a1, Value.int 0, Value.int 0, Value.int 0, Value.int 0]))).set 109 (Sum.inr (3, [Value.ref 110, Value.int 0]))).set 108 (Sum.inr (10, [Value.ref 79, Value.ref 86, Value.ref 109, Value.ref 111, Value.int a1, Value.int 0, Value.int 0, Value.int 0, Value.int 0]))).length)) (((((w.set 7 (Sum.inr (0, [Value.ref 8, Value.ref 78, Value.ref 9, Value.ref 10, Value.ref 13, Value.ref 16, Value.ref 19, Value.ref 93, Value.ref 108, Value.ref 113, Value.ref 29, Value.int 0]))).set 108 (Sum.inr (10, [Value.ref 79, Value.ref 86, Value.ref 109, Value.ref 111, Value.int a1, Value.int 0, Value.int 0, Value.int 0, Value.int 0]))).set 109 (Sum.inr (3, [Value.ref 110, Value.int 0]))).set 108 (Sum.inr (10, [Value.ref 79, Value.ref 86, Value.ref 109, Value.ref 111, Value.int a1, Value.int 0, Value.int 0, Value.int 0, Value.int 0]))) ++ [Sum.inr (15, [])]) := by
  refine xRun.of ?_
  refine i_142_0 (x := a0) rfl ?_
  refine i_142_1 (Nat.le_of_ble_eq_true rfl) (p_15_1 e0 e1) ?_
  refine i_142_4 (fun h => absurd h (by decide)) (fun _ => ?_)
  refine i_142_7 (x := a1) rfl ?_
  refine i_142_8 ?_
  refine i_142_9 (fun h => absurd e2 (Int.not_le.mpr h)) (fun _ => ?_)
  refine i_142_12 (x := a1) rfl ?_
  refine i_142_13 ?_
  refine i_142_15 (fun h => absurd e3 (Int.not_le.mpr h)) (fun _ => ?_)
  refine i_142_18 (x := a2) rfl ?_
  refine i_142_19 (Nat.le_of_ble_eq_true rfl) (p_22_2 e4 e5) ?_
  refine i_142_22 (fun _ => ?_) (fun h => absurd h (by decide))
  refine i_142_33 (x := 7) rfl ?_
  refine i_142_34 (v := Value.int 0) hw6 rfl ?_
  refine i_142_37 (lv2 := [(4, Value.int 0), (0, Value.ref 7), (1, Value.int a0), (2, Value.int a1), (3, Value.int a2)]) rfl ?_
  refine i_142_39 (x := 7) rfl ?_
  refine i_142_40 ?_
  refine i_142_41 (fs2 := [Value.ref 8, Value.ref 78, Value.ref 9, Value.ref 10, Value.ref 13, Value.ref 16, Value.ref 19, Value.ref 93, Value.ref 108, Value.ref 113, Value.ref 29, Value.int 0]) hw6 (Nat.le_of_ble_eq_true rfl) rfl (by decide) ?_
  refine i_142_44 (x := 7) rfl ?_
  refine i_142_45 (v := Value.ref 108) (xgs hw6) rfl ?_
  refine i_142_48 (x := 7) rfl ?_
  refine i_142_49 (v := Value.ref 29) (xgs hw6) rfl ?_
  refine i_142_52 (x := 0) rfl ?_
  refine i_142_54 (x := a1) rfl ?_
  refine i_142_55 (xgn (by decide) hw7) (Nat.le_of_ble_eq_true rfl) (p_143_0 (xgn (by decide) hw7) (xgn (by decide) hw8) (xgn (by decide) hw9) (xgn (by decide) hw10) (xgn (by decide) hw11) (xgn (by decide) hw12)) ?_
  refine i_142_58 (fun h => absurd h (by decide)) (fun _ => ?_)
  exact i_142_61 (by omega) (Nat.le_of_ble_eq_true rfl) ⟨rfl, rfl⟩
theorem p_141_5 {d : Nat} {w : xW} {a0 : Int32} {a1 : Int32} {a2 : Int32} {g0 : Nat → Value} {g1 : Nat → Value} (hw0 : w[7]? = some (Sum.inr (0, [Value.ref 8, Value.ref 78, Value.ref 9, Value.ref 10, Value.ref 13, Value.ref 16, Value.ref 19, Value.ref 93, Value.ref 108, Value.ref 113, Value.ref 29, Value.int 0]))) (e1 : 0 ≤ a0.toInt) (e2 : a0.toInt < 16) (e3 : 2 ≤ a1.toInt) (e4 : a1.toInt ≤ 36) (e5 : 0 ≤ a2.toInt) (e6 : a2.toInt ≤ 4) (hw7 : w[108]? = some (Sum.inr (10, [Value.ref 79, Value.ref 86, Value.ref 109, Value.ref 111, Value.int 0, Value.int 0, Value.int 0, Value.int 0, Value.int 0]))) (hw8 : w[1]? = some (Sum.inr (18, [Value.ref 2, Value.int 0]))) (hw9 : w[2]? = some (Sum.inl (1, 3, g0))) (hw10 : w[3]? = some (Sum.inr (18, [Value.ref 4, Value.int 0]))) (hw11 : w[4]? = some (Sum.inl (1, 3, g1))) (hw12 : w[109]? = some (Sum.inr (3, [Value.ref 110, Value.int 0]))) : xRun (d + 7) 141 [Value.ref 7, Value.int a0, Value.int a1, Value.int a2, Value.ref 194] w (.inl (some (Value.int 2))) (((((w.set 7 (Sum.inr (0, [Value.ref 8, Value.ref 78, Value.ref 9, Value.ref 10, Value.ref 13, Value.ref 16, Value.ref 19, Value.ref 93, Value.ref 108, Value.ref 113, Value.ref 29, Value.int 0]))).set 108 (Sum.inr (10, [Value.ref 79, Value.ref 86, Value.ref 109, Value.ref 111, Value.int a1, Value.int 0, Value.int 0, Value.int 0, Value.int 0]))).set 109 (Sum.inr (3, [Value.ref 110, Value.int 0]))).set 108 (Sum.inr (10, [Value.ref 79, Value.ref 86, Value.ref 109, Value.ref 111, Value.int a1, Value.int 0, Value.int 0, Value.int 0, Value.int 0]))) ++ [Sum.inr (15, [])]) := by
  refine xRun.of ?_
  refine i_141_0 (x := 194) rfl ?_
  refine i_141_2 ?_
  refine i_141_3 (x := 7) rfl ?_
  refine i_141_4 (x := a0) rfl ?_
  refine i_141_5 (x := a1) rfl ?_
  refine i_141_6 (x := a2) rfl ?_
  refine j_141_7 hw0 (Nat.le_of_ble_eq_true rfl) (p_142_5 e1 e2 e3 e4 e5 e6 hw0 hw7 hw8 hw9 hw10 hw11 hw12) (xDone.c xgl rfl rfl ?_)
  refine i_141_19 (lv2 := [(5, Value.ref (((((w.set 7 (Sum.inr (0, [Value.ref 8, Value.ref 78, Value.ref 9, Value.ref 10, Value.ref 13, Value.ref 16, Value.ref 19, Value.ref 93, Value.ref 108, Value.ref 113, Value.ref 29, Value.int 0]))).set 108 (Sum.inr (10, [Value.ref 79, Value.ref 86, Value.ref 109, Value.ref 111, Value.int a1, Value.int 0, Value.int 0, Value.int 0, Value.int 0]))).set 109 (Sum.inr (3, [Value.ref 110, Value.int 0]))).set 108 (Sum.inr (10, [Value.ref 79, Value.ref 86, Value.ref 109, Value.ref 111, Value.int a1, Value.int 0, Value.int 0, Value.int 0, Value.int 0]))).length)), (0, Value.ref 7), (1, Value.int a0), (2, Value.int a1), (3, Value.int a2), (4, Value.ref 194)]) rfl ?_
  refine i_141_21 ?_
  exact i_141_22 ⟨rfl, rfl⟩
theorem p_259_0 {d : Nat} {w : xW} : xRun d 259 [Value.ref 128, Value.int 0, Value.int 0, Value.int 110, Value.int 97, Value.int 110] w (.inl (some (Value.int 0))) w := by
  refine xRun.of ?_
  refine i_259_0 (x := 0) rfl ?_
  refine i_259_1 (x := 0) rfl ?_
  refine i_259_2 (c := 0) (by decide) ?_
  refine i_259_3 ?_
  refine i_259_4 (fun _ => ?_) (fun h => absurd h (by decide))
  refine i_259_47 ?_
  exact i_259_48 rfl ⟨rfl, rfl⟩
theorem p_259_1 {d : Nat} {w : xW} : xRun d 259 [Value.ref 128, Value.int 0, Value.int 0, Value.int 105, Value.int 110, Value.int 102] w (.inl (some (Value.int 0))) w := by
  refine xRun.of ?_
  refine i_259_0 (x := 0) rfl ?_
  refine i_259_1 (x := 0) rfl ?_
  refine i_259_2 (c := 0) (by decide) ?_
  refine i_259_3 ?_
  refine i_259_4 (fun _ => ?_) (fun h => absurd h (by decide))
  refine i_259_47 ?_
  exact i_259_48 rfl ⟨rfl, rfl⟩
theorem p_179_0 {d : Nat} {w : xW} (hw0 : w[129]? = some (Sum.inr (13, [Value.ref 130, Value.int 0]))) : xRun d 179 [Value.ref 129, Value.long 0] w (.inl none) (w.set 129 (Sum.inr (13, [Value.ref 130, Value.int 0]))) := by
  refine xRun.of ?_
  refine i_179_0 (x := 129) rfl ?_
  refine i_179_1 ?_
  refine i_179_2 (fs2 := [Value.ref 130, Value.int 0]) hw0 (Nat.le_of_ble_eq_true rfl) rfl (by decide) ?_
  refine i_179_5 (x := 0) rfl ?_
  refine i_179_6 (lv2 := [(3, Value.long 0), (0, Value.ref 129), (1, Value.long 0)]) rfl ?_
  refine i_179_7 (x := 0) rfl ?_
  refine i_179_8 ?_
  refine i_179_9 (c := 0) (by decide) ?_
  refine i_179_10 (fun _ => ?_) (fun h => absurd h (by decide))
  exact i_179_45 ⟨rfl, rfl⟩
theorem p_261_0 {d : Nat} {w : xW} : xRun (d + 6) 261 [Value.int 0] w (.inr w.length) (w ++ [Sum.inr (15, [])]) := by
  refine xRun.of ?_
  refine i_261_0 (x := 0) rfl ?_
  refine i_261_1 (fun h => absurd h (by decide)) (fun _ => ?_)
  exact i_261_4 (by omega) (Nat.le_of_ble_eq_true rfl) ⟨rfl, rfl⟩
theorem p_258_5 {d : Nat} {w : xW} {a0 : Int32} {a1 : Int32} {a2 : Int32} (e0 : 0 ≤ a0.toInt) (e1 : a0.toInt ≤ 15) (e2 : 2 ≤ a1.toInt) (e3 : a1.toInt ≤ 36) (e4 : 0 ≤ a2.toInt) (e5 : a2.toInt ≤ 4) (hw6 : w[128]? = some (Sum.inr (12, [Value.ref 129, Value.ref 131, Value.ref 133, Value.ref 135, Value.ref 137, Value.ref 139, Value.ref 141, Value.ref 143, Value.ref 145, Value.ref 147, Value.ref 149, Value.ref 151, Value.ref 153, Value.ref 154, Value.ref 155, Value.ref 156, Value.ref 157, Value.int (-16384), Value.int 16384, Value.int 0, Value.int 0, Value.int 0, Value.ref 158, Value.ref 159, Value.int 0, Value.int 0, Value.int 0, Value.int 0, Value.int 0, Value.int 0, Value.int 0, Value.int 0]))) (hw7 : w[129]? = some (Sum.inr (13, [Value.ref 130, Value.int 0]))) : xRun (d + 7) 258 [Value.ref 128, Value.int a0, Value.int a1, Value.int a2] w (.inr (((w.set 128 (Sum.inr (12, [Value.ref 129, Value.ref 131, Value.ref 133, Value.ref 135, Value.ref 137, Value.ref 139, Value.ref 141, Value.ref 143, Value.ref 145, Value.ref 147, Value.ref 149, Value.ref 151, Value.ref 153, Value.ref 154, Value.ref 155, Value.ref 156, Value.ref 157, Value.int (-16384), Value.int 16384, Value.int 0, Value.int 0, Value.int 0, Value.ref 158, Value.ref 159, Value.int 0, Value.int 0, Value.int 0, Value.int 0, Value.int 0, Value.int 0, Value.int 0, Value.int 0]))).set 129 (Sum.inr (13, [Value.ref 130, Value.int 0]))).length)) (((w.set 128 (Sum.inr (12, [Value.ref 129, Value.ref 131, Value.ref 133, Value.ref 135, Value.ref 137, Value.ref 139, Value.ref 141, Value.ref 143, Value.ref 145, Value.ref 147, Value.ref 149, Value.ref 151, Value.ref 153, Value.ref 154, Value.ref 155, Value.ref 156, Value.ref 157, Value.int (-16384), Value.int 16384, Value.int 0, Value.int 0, Value.int 0, Value.ref 158, Value.ref 159, Value.int 0, Value.int 0, Value.int 0, Value.int 0, Value.int 0, Value.int 0, Value.int 0, Value.int 0]))).set 129 (Sum.inr (13, [Value.ref 130, Value.int 0]))) ++ [Sum.inr (15, [])]) := by
  refine xRun.of ?_
  refine i_258_0 (x := a0) rfl ?_
  refine i_258_1 (Nat.le_of_ble_eq_true rfl) (p_168_1 e0 e1) ?_
  refine i_258_4 (x := a1) rfl ?_
  refine i_258_5 ?_
  refine i_258_6 ?_
  refine i_258_8 (Nat.le_of_ble_eq_true rfl) (p_169_35 e2 e3) ?_
  refine i_258_11 (Nat.le_of_ble_eq_true rfl) (p_170_1) ?_
  refine i_258_14 (x := a2) rfl ?_
  refine i_258_15 (Nat.le_of_ble_eq_true rfl) (p_178_2 e4 e5) ?_
  refine i_258_18 (x := 128) rfl ?_
  refine i_258_19 (v := Value.int 0) hw6 rfl ?_
  refine i_258_22 (lv2 := [(4, Value.int 0), (0, Value.ref 128), (1, Value.int a0), (2, Value.int a1), (3, Value.int a2)]) rfl ?_
  refine i_258_24 ?_
  refine i_258_25 (lv2 := [(5, Value.int 0), (4, Value.int 0), (0, Value.ref 128), (1, Value.int a0), (2, Value.int a1), (3, Value.int a2)]) rfl ?_
  refine i_258_27 (x := 128) rfl ?_
  refine i_258_28 ?_
  refine i_258_29 (fs2 := [Value.ref 129, Value.ref 131, Value.ref 133, Value.ref 135, Value.ref 137, Value.ref 139, Value.ref 141, Value.ref 143, Value.ref 145, Value.ref 147, Value.ref 149, Value.ref 151, Value.ref 153, Value.ref 154, Value.ref 155, Value.ref 156, Value.ref 157, Value.int (-16384), Value.int 16384, Value.int 0, Value.int 0, Value.int 0, Value.ref 158, Value.ref 159, Value.int 0, Value.int 0, Value.int 0, Value.int 0, Value.int 0, Value.int 0, Value.int 0, Value.int 0]) hw6 (Nat.le_of_ble_eq_true rfl) rfl (by decide) ?_
  refine i_258_32 (x := 128) rfl ?_
  refine i_258_33 ?_
  refine i_258_34 (x := 0) rfl ?_
  refine i_258_36 ?_
  refine i_258_38 ?_
  refine i_258_40 ?_
  refine i_258_42 (xgs hw6) (Nat.le_of_ble_eq_true rfl) (p_259_0) ?_
  refine i_258_45 (fun _ => ?_) (fun h => absurd h (by decide))
  refine i_258_56 (x := 0) rfl ?_
  refine i_258_58 (fun _ => ?_) (fun h => absurd h (by decide))
  refine i_258_76 ?_
  refine i_258_77 (lv2 := [(6, Value.int 0), (5, Value.int 0), (4, Value.int 0), (0, Value.ref 128), (1, Value.int a0), (2, Value.int a1), (3, Value.int a2)]) rfl ?_
  refine i_258_79 (x := 0) rfl ?_
  refine i_258_81 (fun _ => ?_) (fun h => absurd h (by decide))
  refine i_258_109 (x := 128) rfl ?_
  refine i_258_110 (x := 0) rfl ?_
  refine i_258_112 (x := 0) rfl ?_
  refine i_258_114 ?_
  refine i_258_116 ?_
  refine i_258_118 ?_
  refine i_258_120 (xgs hw6) (Nat.le_of_ble_eq_true rfl) (p_259_1) ?_
  refine i_258_123 (fun _ => ?_) (fun h => absurd h (by decide))
  refine i_258_135 ?_
  refine i_258_136 (lv2 := [(7, Value.int 0), (6, Value.int 0), (5, Value.int 0), (4, Value.int 0), (0, Value.ref 128), (1, Value.int a0), (2, Value.int a1), (3, Value.int a2)]) rfl ?_
  refine i_258_138 ?_
  refine i_258_139 (lv2 := [(8, Value.int 0), (7, Value.int 0), (6, Value.int 0), (5, Value.int 0), (4, Value.int 0), (0, Value.ref 128), (1, Value.int a0), (2, Value.int a1), (3, Value.int a2)]) rfl ?_
  refine i_258_141 ?_
  refine i_258_142 (lv2 := [(9, Value.int 0), (8, Value.int 0), (7, Value.int 0), (6, Value.int 0), (5, Value.int 0), (4, Value.int 0), (0, Value.ref 128), (1, Value.int a0), (2, Value.int a1), (3, Value.int a2)]) rfl ?_
  refine i_258_144 ?_
  refine i_258_145 (lv2 := [(10, Value.int 1), (9, Value.int 0), (8, Value.int 0), (7, Value.int 0), (6, Value.int 0), (5, Value.int 0), (4, Value.int 0), (0, Value.ref 128), (1, Value.int a0), (2, Value.int a1), (3, Value.int a2)]) rfl ?_
  refine i_258_147 (x := 128) rfl ?_
  refine i_258_148 (v := Value.ref 129) (xgs hw6) rfl ?_
  refine i_258_151 ?_
  refine i_258_152 (xgn (by decide) hw7) (Nat.le_of_ble_eq_true rfl) (p_179_0 (xgn (by decide) hw7)) ?_
  refine i_258_155 (x := 0) rfl ?_
  refine i_258_157 (x := 0) rfl ?_
  refine i_258_159 (fun _ => ?_) (fun h => absurd h (by decide))
  refine i_258_251 (x := 0) rfl ?_
  refine i_258_253 (fun _ => ?_) (fun h => absurd h (by decide))
  refine i_258_260 ?_
  exact j_258_261 (Nat.le_of_ble_eq_true rfl) (p_261_0) (xDone.t xgl rfl rfl ⟨rfl, rfl⟩)
theorem p_257_5 {d : Nat} {w : xW} {a0 : Int32} {a1 : Int32} {a2 : Int32} (hw0 : w[128]? = some (Sum.inr (12, [Value.ref 129, Value.ref 131, Value.ref 133, Value.ref 135, Value.ref 137, Value.ref 139, Value.ref 141, Value.ref 143, Value.ref 145, Value.ref 147, Value.ref 149, Value.ref 151, Value.ref 153, Value.ref 154, Value.ref 155, Value.ref 156, Value.ref 157, Value.int (-16384), Value.int 16384, Value.int 0, Value.int 0, Value.int 0, Value.ref 158, Value.ref 159, Value.int 0, Value.int 0, Value.int 0, Value.int 0, Value.int 0, Value.int 0, Value.int 0, Value.int 0]))) (e1 : 0 ≤ a0.toInt) (e2 : a0.toInt ≤ 15) (e3 : 2 ≤ a1.toInt) (e4 : a1.toInt ≤ 36) (e5 : 0 ≤ a2.toInt) (e6 : a2.toInt ≤ 4) (hw7 : w[129]? = some (Sum.inr (13, [Value.ref 130, Value.int 0]))) : xRun (d + 8) 257 [Value.ref 128, Value.int a0, Value.int a1, Value.int a2] w (.inl (some (Value.int 0))) (((((w.set 128 (Sum.inr (12, [Value.ref 129, Value.ref 131, Value.ref 133, Value.ref 135, Value.ref 137, Value.ref 139, Value.ref 141, Value.ref 143, Value.ref 145, Value.ref 147, Value.ref 149, Value.ref 151, Value.ref 153, Value.ref 154, Value.ref 155, Value.ref 156, Value.ref 157, Value.int (-16384), Value.int 16384, Value.int 0, Value.int 0, Value.int 0, Value.ref 158, Value.ref 159, Value.int 0, Value.int 0, Value.int 0, Value.int 0, Value.int 0, Value.int 0, Value.int 0, Value.int 0]))).set 128 (Sum.inr (12, [Value.ref 129, Value.ref 131, Value.ref 133, Value.ref 135, Value.ref 137, Value.ref 139, Value.ref 141, Value.ref 143, Value.ref 145, Value.ref 147, Value.ref 149, Value.ref 151, Value.ref 153, Value.ref 154, Value.ref 155, Value.ref 156, Value.ref 157, Value.int (-16384), Value.int 16384, Value.int 0, Value.int 0, Value.int 0, Value.ref 158, Value.ref 159, Value.int 0, Value.int 0, Value.int 0, Value.int 0, Value.int 0, Value.int 0, Value.int 0, Value.int 0]))).set 129 (Sum.inr (13, [Value.ref 130, Value.int 0]))) ++ [Sum.inr (15, [])]).set 128 (Sum.inr (12, [Value.ref 129, Value.ref 131, Value.ref 133, Value.ref 135, Value.ref 137, Value.ref 139, Value.ref 141, Value.ref 143, Value.ref 145, Value.ref 147, Value.ref 149, Value.ref 151, Value.ref 153, Value.ref 154, Value.ref 155, Value.ref 156, Value.ref 157, Value.int (-16384), Value.int 16384, Value.int 0, Value.int 0, Value.int 0, Value.ref 158, Value.ref 159, Value.int 0, Value.int 0, Value.int 0, Value.int 0, Value.int 0, Value.int 0, Value.int 0, Value.int 2]))) := by
  refine xRun.of ?_
  refine i_257_0 (x := 128) rfl ?_
  refine i_257_1 ?_
  refine i_257_2 (fs2 := [Value.ref 129, Value.ref 131, Value.ref 133, Value.ref 135, Value.ref 137, Value.ref 139, Value.ref 141, Value.ref 143, Value.ref 145, Value.ref 147, Value.ref 149, Value.ref 151, Value.ref 153, Value.ref 154, Value.ref 155, Value.ref 156, Value.ref 157, Value.int (-16384), Value.int 16384, Value.int 0, Value.int 0, Value.int 0, Value.ref 158, Value.ref 159, Value.int 0, Value.int 0, Value.int 0, Value.int 0, Value.int 0, Value.int 0, Value.int 0, Value.int 0]) hw0 (Nat.le_of_ble_eq_true rfl) rfl (by decide) ?_
  refine i_257_5 (x := 128) rfl ?_
  refine i_257_6 (x := a0) rfl ?_
  refine i_257_7 (x := a1) rfl ?_
  refine i_257_8 (x := a2) rfl ?_
  refine j_257_9 (xgs hw0) (Nat.le_of_ble_eq_true rfl) (p_258_5 e1 e2 e3 e4 e5 e6 (xgs hw0) (xgn (by decide) hw7)) (xDone.c xgl rfl rfl ?_)
  refine i_257_23 (lv2 := [(4, Value.ref ((((w.set 128 (Sum.inr (12, [Value.ref 129, Value.ref 131, Value.ref 133, Value.ref 135, Value.ref 137, Value.ref 139, Value.ref 141, Value.ref 143, Value.ref 145, Value.ref 147, Value.ref 149, Value.ref 151, Value.ref 153, Value.ref 154, Value.ref 155, Value.ref 156, Value.ref 157, Value.int (-16384), Value.int 16384, Value.int 0, Value.int 0, Value.int 0, Value.ref 158, Value.ref 159, Value.int 0, Value.int 0, Value.int 0, Value.int 0, Value.int 0, Value.int 0, Value.int 0, Value.int 0]))).set 128 (Sum.inr (12, [Value.ref 129, Value.ref 131, Value.ref 133, Value.ref 135, Value.ref 137, Value.ref 139, Value.ref 141, Value.ref 143, Value.ref 145, Value.ref 147, Value.ref 149, Value.ref 151, Value.ref 153, Value.ref 154, Value.ref 155, Value.ref 156, Value.ref 157, Value.int (-16384), Value.int 16384, Value.int 0, Value.int 0, Value.int 0, Value.ref 158, Value.ref 159, Value.int 0, Value.int 0, Value.int 0, Value.int 0, Value.int 0, Value.int 0, Value.int 0, Value.int 0]))).set 129 (Sum.inr (13, [Value.ref 130, Value.int 0]))).length)), (0, Value.ref 128), (1, Value.int a0), (2, Value.int a1), (3, Value.int a2)]) rfl ?_
  refine i_257_25 (x := 128) rfl ?_
  refine i_257_26 ?_
  refine i_257_27 (fs2 := [Value.ref 129, Value.ref 131, Value.ref 133, Value.ref 135, Value.ref 137, Value.ref 139, Value.ref 141, Value.ref 143, Value.ref 145, Value.ref 147, Value.ref 149, Value.ref 151, Value.ref 153, Value.ref 154, Value.ref 155, Value.ref 156, Value.ref 157, Value.int (-16384), Value.int 16384, Value.int 0, Value.int 0, Value.int 0, Value.ref 158, Value.ref 159, Value.int 0, Value.int 0, Value.int 0, Value.int 0, Value.int 0, Value.int 0, Value.int 0, Value.int 2]) (xga (xgn (by decide) (xgs (xgs hw0)))) (Nat.le_of_ble_eq_true rfl) rfl (by decide) ?_
  refine i_257_30 ?_
  exact i_257_31 ⟨rfl, rfl⟩
theorem o_21_5 {d : Nat} {xs : Nat → Int32} (h0 : ((xs 0) &&& (31 : Int32)).toInt = 21) (c0 : 0 ≤ (xs 1).toInt) (c1 : (xs 1).toInt < 16) (c2 : 2 ≤ (xs 2).toInt) (c3 : (xs 2).toInt ≤ 36) (c4 : 0 ≤ (xs 3).toInt) (c5 : (xs 3).toInt ≤ 4) : ∃ w1, xEv (d + 20) 287 23 [(4, Value.int 0), (3, Value.ref 194), (2, Value.ref 128), (1, Value.ref 7), (0, Value.ref 0)] [] (W0 6 xs) (fun o' w' => o' = .inl (some (Value.int 1)) ∧ w' = w1) ∧ w1.length ≤ 220 ∧ xsz w1 ≤ 200000 := by
  refine ⟨(((((((((((W0 6 xs).set 7 (Sum.inr (0, [Value.ref 8, Value.ref 78, Value.ref 9, Value.ref 10, Value.ref 13, Value.ref 16, Value.ref 19, Value.ref 93, Value.ref 108, Value.ref 113, Value.ref 29, Value.int 0]))).set 108 (Sum.inr (10, [Value.ref 79, Value.ref 86, Value.ref 109, Value.ref 111, Value.int (xs 2), Value.int 0, Value.int 0, Value.int 0, Value.int 0]))).set 109 (Sum.inr (3, [Value.ref 110, Value.int 0]))).set 108 (Sum.inr (10, [Value.ref 79, Value.ref 86, Value.ref 109, Value.ref 111, Value.int (xs 2), Value.int 0, Value.int 0, Value.int 0, Value.int 0]))) ++ [Sum.inr (15, [])]).set 128 (Sum.inr (12, [Value.ref 129, Value.ref 131, Value.ref 133, Value.ref 135, Value.ref 137, Value.ref 139, Value.ref 141, Value.ref 143, Value.ref 145, Value.ref 147, Value.ref 149, Value.ref 151, Value.ref 153, Value.ref 154, Value.ref 155, Value.ref 156, Value.ref 157, Value.int (-16384), Value.int 16384, Value.int 0, Value.int 0, Value.int 0, Value.ref 158, Value.ref 159, Value.int 0, Value.int 0, Value.int 0, Value.int 0, Value.int 0, Value.int 0, Value.int 0, Value.int 0]))).set 128 (Sum.inr (12, [Value.ref 129, Value.ref 131, Value.ref 133, Value.ref 135, Value.ref 137, Value.ref 139, Value.ref 141, Value.ref 143, Value.ref 145, Value.ref 147, Value.ref 149, Value.ref 151, Value.ref 153, Value.ref 154, Value.ref 155, Value.ref 156, Value.ref 157, Value.int (-16384), Value.int 16384, Value.int 0, Value.int 0, Value.int 0, Value.ref 158, Value.ref 159, Value.int 0, Value.int 0, Value.int 0, Value.int 0, Value.int 0, Value.int 0, Value.int 0, Value.int 0]))).set 129 (Sum.inr (13, [Value.ref 130, Value.int 0]))) ++ [Sum.inr (15, [])]).set 128 (Sum.inr (12, [Value.ref 129, Value.ref 131, Value.ref 133, Value.ref 135, Value.ref 137, Value.ref 139, Value.ref 141, Value.ref 143, Value.ref 145, Value.ref 147, Value.ref 149, Value.ref 151, Value.ref 153, Value.ref 154, Value.ref 155, Value.ref 156, Value.ref 157, Value.int (-16384), Value.int 16384, Value.int 0, Value.int 0, Value.int 0, Value.ref 158, Value.ref 159, Value.int 0, Value.int 0, Value.int 0, Value.int 0, Value.int 0, Value.int 0, Value.int 0, Value.int 2]))), ?_, (show xLs _ 220 200000 from ?_)⟩
  · refine i_287_23 (x := 0) rfl ?_
    refine i_287_25 (x := 0) rfl ?_
    refine i_287_26 (c := 6) W0_0 (by decide) ?_
    refine i_287_27 ?_
    refine i_287_29 (c := 0) (by decide) ?_
    refine i_287_30 (fun h => absurd h (by decide)) (fun _ => ?_)
    refine i_287_33 (x := 0) rfl ?_
    refine i_287_34 (x := 0) rfl ?_
    refine i_287_36 (v := Value.int (xs 0)) W0_0 (by decide) (by decide) rfl ?_
    refine i_287_37 ?_
    refine i_287_39 (c := ((xs 0) &&& (31 : Int32))) rfl ?_
    refine i_287_40_21 (by omega) ?_
    refine i_287_1926 (x := 7) rfl ?_
    refine i_287_1927 (x := 0) rfl ?_
    refine i_287_1928 (x := 0) rfl ?_
    refine i_287_1930 ?_
    refine i_287_1931 (c := 1) (by decide) ?_
    refine i_287_1932 (v := Value.int (xs 1)) W0_0 (by decide) (by decide) rfl ?_
    refine i_287_1933 (x := 0) rfl ?_
    refine i_287_1934 (x := 0) rfl ?_
    refine i_287_1936 ?_
    refine i_287_1937 (c := 2) (by decide) ?_
    refine i_287_1938 (v := Value.int (xs 2)) W0_0 (by decide) (by decide) rfl ?_
    refine i_287_1939 (x := 0) rfl ?_
    refine i_287_1940 (x := 0) rfl ?_
    refine i_287_1942 ?_
    refine i_287_1943 (c := 3) (by decide) ?_
    refine i_287_1944 (v := Value.int (xs 3)) W0_0 (by decide) (by decide) rfl ?_
    refine i_287_1945 (x := 194) rfl ?_
    refine i_287_1946 (Nat.le_of_ble_eq_true rfl) (p_141_5 W0_7 (by omega) (by omega) (by omega) (by omega) (by omega) (by omega) W0_108 W0_1 W0_2 W0_3 W0_4 W0_109) ?_
    refine i_287_1949 (lv2 := [(5, Value.int 2), (4, Value.int 0), (3, Value.ref 194), (2, Value.ref 128), (1, Value.ref 7), (0, Value.ref 0)]) rfl ?_
    refine i_287_1951 (x := 128) rfl ?_
    refine i_287_1952 (x := 0) rfl ?_
    refine i_287_1953 (x := 0) rfl ?_
    refine i_287_1955 ?_
    refine i_287_1956 (c := 1) (by decide) ?_
    refine i_287_1957 (v := Value.int (xs 1)) (xga (xgn (by decide) (xgn (by decide) (xgn (by decide) (xgn (by decide) W0_0))))) (by decide) (by decide) rfl ?_
    refine i_287_1958 (x := 0) rfl ?_
    refine i_287_1959 (x := 0) rfl ?_
    refine i_287_1961 ?_
    refine i_287_1962 (c := 2) (by decide) ?_
    refine i_287_1963 (v := Value.int (xs 2)) (xga (xgn (by decide) (xgn (by decide) (xgn (by decide) (xgn (by decide) W0_0))))) (by decide) (by decide) rfl ?_
    refine i_287_1964 (x := 0) rfl ?_
    refine i_287_1965 (x := 0) rfl ?_
    refine i_287_1967 ?_
    refine i_287_1968 (c := 3) (by decide) ?_
    refine i_287_1969 (v := Value.int (xs 3)) (xga (xgn (by decide) (xgn (by decide) (xgn (by decide) (xgn (by decide) W0_0))))) (by decide) (by decide) rfl ?_
    refine i_287_1970 (xga (xgn (by decide) (xgn (by decide) (xgn (by decide) (xgn (by decide) W0_128))))) (Nat.le_of_ble_eq_true rfl) (p_257_5 (xga (xgn (by decide) (xgn (by decide) (xgn (by decide) (xgn (by decide) W0_128))))) (by omega) (by omega) (by omega) (by omega) (by omega) (by omega) (xga (xgn (by decide) (xgn (by decide) (xgn (by decide) (xgn (by decide) W0_129)))))) ?_
    refine i_287_1973 (lv2 := [(6, Value.int 0), (5, Value.int 2), (4, Value.int 0), (3, Value.ref 194), (2, Value.ref 128), (1, Value.ref 7), (0, Value.ref 0)]) rfl ?_
    refine i_287_1975 (x := 128) rfl ?_
    refine i_287_1976 (xgs (xga (xgn (by decide) (xgs (xgs (xga (xgn (by decide) (xgn (by decide) (xgn (by decide) (xgn (by decide) W0_128)))))))))) (Nat.le_of_ble_eq_true rfl) (p_165_5 (xgs (xga (xgn (by decide) (xgs (xgs (xga (xgn (by decide) (xgn (by decide) (xgn (by decide) (xgn (by decide) W0_128))))))))))) ?_
    refine i_287_1979 (x := 2) rfl ?_
    refine i_287_1981 (fun _ => ?_) (fun h => absurd h (by decide))
    refine i_287_1986 (x := 2) rfl ?_
    refine i_287_1988 (fun _ => ?_) (fun h => absurd h (by decide))
    refine i_287_2003 ?_
    refine i_287_2154 (x := 0) (c := 6) (lv2 := [(4, Value.int 6), (6, Value.int 0), (5, Value.int 2), (3, Value.ref 194), (2, Value.ref 128), (1, Value.ref 7), (0, Value.ref 0)]) rfl (by decide) rfl ?_
    refine i_287_2157 ?_
    refine i_287_23 (x := 6) rfl ?_
    refine i_287_25 (x := 0) rfl ?_
    refine i_287_26 (c := 6) (xgn (by decide) (xga (xgn (by decide) (xgn (by decide) (xgn (by decide) (xga (xgn (by decide) (xgn (by decide) (xgn (by decide) (xgn (by decide) W0_0)))))))))) (by decide) ?_
    refine i_287_27 ?_
    refine i_287_29 (c := 0) (by decide) ?_
    refine i_287_30 (fun _ => ?_) (fun h => absurd h (by decide))
    refine i_287_2160 ?_
    exact i_287_2161 rfl ⟨rfl, rfl⟩
  · refine xLs.set ?_ (xga (xgn (by decide) (xgs (xgs (xga (xgn (by decide) (xgn (by decide) (xgn (by decide) (xgn (by decide) W0_128))))))))) xcs_o
    refine xLs.app (n := 219) (z := 199994) (m := 6) ?_ rfl
    refine xLs.set ?_ (xgn (by decide) (xgn (by decide) (xga (xgn (by decide) (xgn (by decide) (xgn (by decide) (xgn (by decide) W0_129))))))) xcs_o
    refine xLs.set ?_ (xgs (xga (xgn (by decide) (xgn (by decide) (xgn (by decide) (xgn (by decide) W0_128)))))) xcs_o
    refine xLs.set ?_ (xga (xgn (by decide) (xgn (by decide) (xgn (by decide) (xgn (by decide) W0_128))))) xcs_o
    refine xLs.app (n := 218) (z := 199988) (m := 6) ?_ rfl
    refine xLs.set ?_ (xgn (by decide) (xgs (xgn (by decide) W0_108))) xcs_o
    refine xLs.set ?_ (xgn (by decide) (xgn (by decide) W0_109)) xcs_o
    refine xLs.set ?_ (xgn (by decide) W0_108) xcs_o
    refine xLs.set ?_ (W0_7) xcs_o
    exact ⟨Nat.le_trans (Nat.le_of_eq W0_len) (by decide), Nat.le_trans (Nat.le_of_eq W0_sz) (by decide)⟩
theorem p_142_6 {d : Nat} {w : xW} {a0 : Int32} {a1 : Int32} {a2 : Int32} (e0 : 0 ≤ a0.toInt) (e1 : 16 ≤ a0.toInt) : xRun (d + 6) 142 [Value.ref 7, Value.int a0, Value.int a1, Value.int a2] w (.inr w.length) (w ++ [Sum.inr (14, [])]) := by
  refine xRun.of ?_
  refine i_142_0 (x := a0) rfl ?_
  refine i_142_1 (Nat.le_of_ble_eq_true rfl) (p_15_2 e0 e1) ?_
  refine i_142_4 (fun _ => ?_) (fun h => absurd h (by decide))
  exact i_142_25 (by omega) (Nat.le_of_ble_eq_true rfl) ⟨rfl, rfl⟩
theorem p_141_6 {d : Nat} {w : xW} {a0 : Int32} {a1 : Int32} {a2 : Int32} (hw0 : w[7]? = some (Sum.inr (0, [Value.ref 8, Value.ref 78, Value.ref 9, Value.ref 10, Value.ref 13, Value.ref 16, Value.ref 19, Value.ref 93, Value.ref 108, Value.ref 113, Value.ref 29, Value.int 0]))) (e1 : 0 ≤ a0.toInt) (e2 : 16 ≤ a0.toInt) : xRun (d + 7) 141 [Value.ref 7, Value.int a0, Value.int a1, Value.int a2, Value.ref 194] w (.inl (some (Value.int 1))) (w ++ [Sum.inr (14, [])]) := by
  refine xRun.of ?_
  refine i_141_0 (x := 194) rfl ?_
  refine i_141_2 ?_
  refine i_141_3 (x := 7) rfl ?_
  refine i_141_4 (x := a0) rfl ?_
  refine i_141_5 (x := a1) rfl ?_
  refine i_141_6 (x := a2) rfl ?_
  refine j_141_7 hw0 (Nat.le_of_ble_eq_true rfl) (p_142_6 e1 e2) (xDone.c xgl rfl rfl ?_)
  refine i_141_15 (lv2 := [(5, Value.ref w.length), (0, Value.ref 7), (1, Value.int a0), (2, Value.int a1), (3, Value.int a2), (4, Value.ref 194)]) rfl ?_
  refine i_141_17 ?_
  exact i_141_18 ⟨rfl, rfl⟩
theorem p_258_6 {d : Nat} {w : xW} {a0 : Int32} {a1 : Int32} {a2 : Int32} (e0 : 0 ≤ a0.toInt) (e1 : 15 < a0.toInt) : xRun (d + 8) 258 [Value.ref 128, Value.int a0, Value.int a1, Value.int a2] w (.inr w.length) (w ++ [Sum.inr (14, [])]) := by
  refine xRun.of ?_
  refine i_258_0 (x := a0) rfl ?_
  exact j_258_1 (Nat.le_of_ble_eq_true rfl) (p_168_2 e0 e1) (xDone.t xgl rfl rfl ⟨rfl, rfl⟩)
theorem p_257_6 {d : Nat} {w : xW} {a0 : Int32} {a1 : Int32} {a2 : Int32} (hw0 : w[128]? = some (Sum.inr (12, [Value.ref 129, Value.ref 131, Value.ref 133, Value.ref 135, Value.ref 137, Value.ref 139, Value.ref 141, Value.ref 143, Value.ref 145, Value.ref 147, Value.ref 149, Value.ref 151, Value.ref 153, Value.ref 154, Value.ref 155, Value.ref 156, Value.ref 157, Value.int (-16384), Value.int 16384, Value.int 0, Value.int 0, Value.int 0, Value.ref 158, Value.ref 159, Value.int 0, Value.int 0, Value.int 0, Value.int 0, Value.int 0, Value.int 0, Value.int 0, Value.int 0]))) (e1 : 0 ≤ a0.toInt) (e2 : 15 < a0.toInt) : xRun (d + 9) 257 [Value.ref 128, Value.int a0, Value.int a1, Value.int a2] w (.inl (some (Value.int 0))) (((w.set 128 (Sum.inr (12, [Value.ref 129, Value.ref 131, Value.ref 133, Value.ref 135, Value.ref 137, Value.ref 139, Value.ref 141, Value.ref 143, Value.ref 145, Value.ref 147, Value.ref 149, Value.ref 151, Value.ref 153, Value.ref 154, Value.ref 155, Value.ref 156, Value.ref 157, Value.int (-16384), Value.int 16384, Value.int 0, Value.int 0, Value.int 0, Value.ref 158, Value.ref 159, Value.int 0, Value.int 0, Value.int 0, Value.int 0, Value.int 0, Value.int 0, Value.int 0, Value.int 0]))) ++ [Sum.inr (14, [])]).set 128 (Sum.inr (12, [Value.ref 129, Value.ref 131, Value.ref 133, Value.ref 135, Value.ref 137, Value.ref 139, Value.ref 141, Value.ref 143, Value.ref 145, Value.ref 147, Value.ref 149, Value.ref 151, Value.ref 153, Value.ref 154, Value.ref 155, Value.ref 156, Value.ref 157, Value.int (-16384), Value.int 16384, Value.int 0, Value.int 0, Value.int 0, Value.ref 158, Value.ref 159, Value.int 0, Value.int 0, Value.int 0, Value.int 0, Value.int 0, Value.int 0, Value.int 0, Value.int 1]))) := by
  refine xRun.of ?_
  refine i_257_0 (x := 128) rfl ?_
  refine i_257_1 ?_
  refine i_257_2 (fs2 := [Value.ref 129, Value.ref 131, Value.ref 133, Value.ref 135, Value.ref 137, Value.ref 139, Value.ref 141, Value.ref 143, Value.ref 145, Value.ref 147, Value.ref 149, Value.ref 151, Value.ref 153, Value.ref 154, Value.ref 155, Value.ref 156, Value.ref 157, Value.int (-16384), Value.int 16384, Value.int 0, Value.int 0, Value.int 0, Value.ref 158, Value.ref 159, Value.int 0, Value.int 0, Value.int 0, Value.int 0, Value.int 0, Value.int 0, Value.int 0, Value.int 0]) hw0 (Nat.le_of_ble_eq_true rfl) rfl (by decide) ?_
  refine i_257_5 (x := 128) rfl ?_
  refine i_257_6 (x := a0) rfl ?_
  refine i_257_7 (x := a1) rfl ?_
  refine i_257_8 (x := a2) rfl ?_
  refine j_257_9 (xgs hw0) (Nat.le_of_ble_eq_true rfl) (p_258_6 e1 e2) (xDone.c xgl rfl rfl ?_)
  refine i_257_13 (lv2 := [(4, Value.ref ((w.set 128 (Sum.inr (12, [Value.ref 129, Value.ref 131, Value.ref 133, Value.ref 135, Value.ref 137, Value.ref 139, Value.ref 141, Value.ref 143, Value.ref 145, Value.ref 147, Value.ref 149, Value.ref 151, Value.ref 153, Value.ref 154, Value.ref 155, Value.ref 156, Value.ref 157, Value.int (-16384), Value.int 16384, Value.int 0, Value.int 0, Value.int 0, Value.ref 158, Value.ref 159, Value.int 0, Value.int 0, Value.int 0, Value.int 0, Value.int 0, Value.int 0, Value.int 0, Value.int 0]))).length)), (0, Value.ref 128), (1, Value.int a0), (2, Value.int a1), (3, Value.int a2)]) rfl ?_
  refine i_257_15 (x := 128) rfl ?_
  refine i_257_16 ?_
  refine i_257_17 (fs2 := [Value.ref 129, Value.ref 131, Value.ref 133, Value.ref 135, Value.ref 137, Value.ref 139, Value.ref 141, Value.ref 143, Value.ref 145, Value.ref 147, Value.ref 149, Value.ref 151, Value.ref 153, Value.ref 154, Value.ref 155, Value.ref 156, Value.ref 157, Value.int (-16384), Value.int 16384, Value.int 0, Value.int 0, Value.int 0, Value.ref 158, Value.ref 159, Value.int 0, Value.int 0, Value.int 0, Value.int 0, Value.int 0, Value.int 0, Value.int 0, Value.int 1]) (xga (xgs hw0)) (Nat.le_of_ble_eq_true rfl) rfl (by decide) ?_
  refine i_257_20 ?_
  refine i_257_30 ?_
  exact i_257_31 ⟨rfl, rfl⟩
theorem o_21_6 {d : Nat} {xs : Nat → Int32} (h0 : ((xs 0) &&& (31 : Int32)).toInt = 21) (c0 : 0 ≤ (xs 1).toInt) (c1 : 16 ≤ (xs 1).toInt) : ∃ w1, xEv (d + 20) 287 23 [(4, Value.int 0), (3, Value.ref 194), (2, Value.ref 128), (1, Value.ref 7), (0, Value.ref 0)] [] (W0 6 xs) (fun o' w' => o' = .inl (some (Value.int 1)) ∧ w' = w1) ∧ w1.length ≤ 220 ∧ xsz w1 ≤ 200000 := by
  refine ⟨(((((W0 6 xs) ++ [Sum.inr (14, [])]).set 128 (Sum.inr (12, [Value.ref 129, Value.ref 131, Value.ref 133, Value.ref 135, Value.ref 137, Value.ref 139, Value.ref 141, Value.ref 143, Value.ref 145, Value.ref 147, Value.ref 149, Value.ref 151, Value.ref 153, Value.ref 154, Value.ref 155, Value.ref 156, Value.ref 157, Value.int (-16384), Value.int 16384, Value.int 0, Value.int 0, Value.int 0, Value.ref 158, Value.ref 159, Value.int 0, Value.int 0, Value.int 0, Value.int 0, Value.int 0, Value.int 0, Value.int 0, Value.int 0]))) ++ [Sum.inr (14, [])]).set 128 (Sum.inr (12, [Value.ref 129, Value.ref 131, Value.ref 133, Value.ref 135, Value.ref 137, Value.ref 139, Value.ref 141, Value.ref 143, Value.ref 145, Value.ref 147, Value.ref 149, Value.ref 151, Value.ref 153, Value.ref 154, Value.ref 155, Value.ref 156, Value.ref 157, Value.int (-16384), Value.int 16384, Value.int 0, Value.int 0, Value.int 0, Value.ref 158, Value.ref 159, Value.int 0, Value.int 0, Value.int 0, Value.int 0, Value.int 0, Value.int 0, Value.int 0, Value.int 1]))), ?_, (show xLs _ 220 200000 from ?_)⟩
  · refine i_287_23 (x := 0) rfl ?_
    refine i_287_25 (x := 0) rfl ?_
    refine i_287_26 (c := 6) W0_0 (by decide) ?_
    refine i_287_27 ?_
    refine i_287_29 (c := 0) (by decide) ?_
    refine i_287_30 (fun h => absurd h (by decide)) (fun _ => ?_)
    refine i_287_33 (x := 0) rfl ?_
    refine i_287_34 (x := 0) rfl ?_
    refine i_287_36 (v := Value.int (xs 0)) W0_0 (by decide) (by decide) rfl ?_
    refine i_287_37 ?_
    refine i_287_39 (c := ((xs 0) &&& (31 : Int32))) rfl ?_
    refine i_287_40_21 (by omega) ?_
    refine i_287_1926 (x := 7) rfl ?_
    refine i_287_1927 (x := 0) rfl ?_
    refine i_287_1928 (x := 0) rfl ?_
    refine i_287_1930 ?_
    refine i_287_1931 (c := 1) (by decide) ?_
    refine i_287_1932 (v := Value.int (xs 1)) W0_0 (by decide) (by decide) rfl ?_
    refine i_287_1933 (x := 0) rfl ?_
    refine i_287_1934 (x := 0) rfl ?_
    refine i_287_1936 ?_
    refine i_287_1937 (c := 2) (by decide) ?_
    refine i_287_1938 (v := Value.int (xs 2)) W0_0 (by decide) (by decide) rfl ?_
    refine i_287_1939 (x := 0) rfl ?_
    refine i_287_1940 (x := 0) rfl ?_
    refine i_287_1942 ?_
    refine i_287_1943 (c := 3) (by decide) ?_
    refine i_287_1944 (v := Value.int (xs 3)) W0_0 (by decide) (by decide) rfl ?_
    refine i_287_1945 (x := 194) rfl ?_
    refine i_287_1946 (Nat.le_of_ble_eq_true rfl) (p_141_6 W0_7 (by omega) (by omega)) ?_
    refine i_287_1949 (lv2 := [(5, Value.int 1), (4, Value.int 0), (3, Value.ref 194), (2, Value.ref 128), (1, Value.ref 7), (0, Value.ref 0)]) rfl ?_
    refine i_287_1951 (x := 128) rfl ?_
    refine i_287_1952 (x := 0) rfl ?_
    refine i_287_1953 (x := 0) rfl ?_
    refine i_287_1955 ?_
    refine i_287_1956 (c := 1) (by decide) ?_
    refine i_287_1957 (v := Value.int (xs 1)) (xga W0_0) (by decide) (by decide) rfl ?_
    refine i_287_1958 (x := 0) rfl ?_
    refine i_287_1959 (x := 0) rfl ?_
    refine i_287_1961 ?_
    refine i_287_1962 (c := 2) (by decide) ?_
    refine i_287_1963 (v := Value.int (xs 2)) (xga W0_0) (by decide) (by decide) rfl ?_
    refine i_287_1964 (x := 0) rfl ?_
    refine i_287_1965 (x := 0) rfl ?_
    refine i_287_1967 ?_
    refine i_287_1968 (c := 3) (by decide) ?_
    refine i_287_1969 (v := Value.int (xs 3)) (xga W0_0) (by decide) (by decide) rfl ?_
    refine i_287_1970 (xga W0_128) (Nat.le_of_ble_eq_true rfl) (p_257_6 (xga W0_128) (by omega) (by omega)) ?_
    refine i_287_1973 (lv2 := [(6, Value.int 0), (5, Value.int 1), (4, Value.int 0), (3, Value.ref 194), (2, Value.ref 128), (1, Value.ref 7), (0, Value.ref 0)]) rfl ?_
    refine i_287_1975 (x := 128) rfl ?_
    refine i_287_1976 (xgs (xga (xgs (xga W0_128)))) (Nat.le_of_ble_eq_true rfl) (p_165_0 (xgs (xga (xgs (xga W0_128))))) ?_
    refine i_287_1979 (x := 1) rfl ?_
    refine i_287_1981 (fun _ => ?_) (fun h => absurd h (by decide))
    refine i_287_1986 (x := 1) rfl ?_
    refine i_287_1988 (fun _ => ?_) (fun h => absurd h (by decide))
    refine i_287_2003 ?_
    refine i_287_2154 (x := 0) (c := 6) (lv2 := [(4, Value.int 6), (6, Value.int 0), (5, Value.int 1), (3, Value.ref 194), (2, Value.ref 128), (1, Value.ref 7), (0, Value.ref 0)]) rfl (by decide) rfl ?_
    refine i_287_2157 ?_
    refine i_287_23 (x := 6) rfl ?_
    refine i_287_25 (x := 0) rfl ?_
    refine i_287_26 (c := 6) (xgn (by decide) (xga (xgn (by decide) (xga W0_0)))) (by decide) ?_
    refine i_287_27 ?_
    refine i_287_29 (c := 0) (by decide) ?_
    refine i_287_30 (fun _ => ?_) (fun h => absurd h (by decide))
    refine i_287_2160 ?_
    exact i_287_2161 rfl ⟨rfl, rfl⟩
  · refine xLs.set ?_ (xga (xgs (xga W0_128))) xcs_o
    refine xLs.app (n := 219) (z := 199994) (m := 6) ?_ rfl
    refine xLs.set ?_ (xga W0_128) xcs_o
    refine xLs.app (n := 218) (z := 199988) (m := 6) ?_ rfl
    exact ⟨Nat.le_trans (Nat.le_of_eq W0_len) (by decide), Nat.le_trans (Nat.le_of_eq W0_sz) (by decide)⟩
theorem op_21 {d : Nat} {xs : Nat → Int32} (h0 : ((xs 0) &&& (31 : Int32)).toInt = 21) : ∃ w1, xEv (d + 20) 287 23 [(4, Value.int 0), (3, Value.ref 194), (2, Value.ref 128), (1, Value.ref 7), (0, Value.ref 0)] [] (W0 6 xs) (fun o' w' => o' = .inl (some (Value.int 1)) ∧ w' = w1) ∧ w1.length ≤ 220 ∧ xsz w1 ≤ 200000 := by
  rcases Int.lt_or_le (xs 1).toInt (0) with c0 | c0
  · exact o_21_0 h0 c0
  · rcases Int.lt_or_le (xs 1).toInt (16) with c1 | c1
    · rcases Int.lt_or_le (xs 2).toInt (2) with c2 | c2
      · exact o_21_1 h0 c0 c1 c2
      · rcases Int.lt_or_le (36) (xs 2).toInt with c3 | c3
        · exact o_21_2 h0 c0 c1 c2 c3
        · rcases Int.lt_or_le (xs 3).toInt (0) with c4 | c4
          · exact o_21_3 h0 c0 c1 c2 c3 c4
          · rcases Int.lt_or_le (4) (xs 3).toInt with c5 | c5
            · exact o_21_4 h0 c0 c1 c2 c3 c4 c5
            · exact o_21_5 h0 c0 c1 c2 c3 c4 c5
    · exact o_21_6 h0 c0 c1
theorem p_151_0 {d : Nat} {w : xW} {a0 : Int32} {a1 : Int32} {a2 : Int32} {a3 : Int32} (e0 : a0.toInt < 0) : xRun (d + 6) 151 [Value.ref 7, Value.int a0, Value.int a1, Value.int a2, Value.int a3] w (.inr w.length) (w ++ [Sum.inr (14, [])]) := by
  refine xRun.of ?_
  refine i_151_0 (x := a0) rfl ?_
  refine i_151_1 (Nat.le_of_ble_eq_true rfl) (p_15_0 e0) ?_
  refine i_151_4 (fun _ => ?_) (fun h => absurd h (by decide))
  exact i_151_37 (by omega) (Nat.le_of_ble_eq_true rfl) ⟨rfl, rfl⟩
theorem p_150_0 {d : Nat} {w : xW} {a0 : Int32} {a1 : Int32} {a2 : Int32} {a3 : Int32} (hw0 : w[7]? = some (Sum.inr (0, [Value.ref 8, Value.ref 78, Value.ref 9, Value.ref 10, Value.ref 13, Value.ref 16, Value.ref 19, Value.ref 93, Value.ref 108, Value.ref 113, Value.ref 29, Value.int 0]))) (e1 : a0.toInt < 0) : xRun (d + 7) 150 [Value.ref 7, Value.int a0, Value.int a1, Value.int a2, Value.int a3, Value.ref 194] w (.inl (some (Value.int 1))) (w ++ [Sum.inr (14, [])]) := by
  refine xRun.of ?_
  refine i_150_0 (x := 194) rfl ?_
  refine i_150_2 ?_
  refine i_150_3 (x := 7) rfl ?_
  refine i_150_4 (x := a0) rfl ?_
  refine i_150_5 (x := a1) rfl ?_
  refine i_150_6 (x := a2) rfl ?_
  refine i_150_7 (x := a3) rfl ?_
  refine j_150_9 hw0 (Nat.le_of_ble_eq_true rfl) (p_151_0 e1) (xDone.c xgl rfl rfl ?_)
  refine i_150_17 (lv2 := [(6, Value.ref w.length), (0, Value.ref 7), (1, Value.int a0), (2, Value.int a1), (3, Value.int a2), (4, Value.int a3), (5, Value.ref 194)]) rfl ?_
  refine i_150_19 ?_
  exact i_150_20 ⟨rfl, rfl⟩
theorem p_264_0 {d : Nat} {w : xW} {a0 : Int32} {a1 : Int32} {a2 : Int32} {a3 : Int32} (e0 : a0.toInt < 0) : xRun (d + 8) 264 [Value.ref 128, Value.int a0, Value.int a1, Value.int a2, Value.int a3] w (.inr w.length) (w ++ [Sum.inr (14, [])]) := by
  refine xRun.of ?_
  refine i_264_0 (x := a0) rfl ?_
  exact j_264_1 (Nat.le_of_ble_eq_true rfl) (p_168_0 e0) (xDone.t xgl rfl rfl ⟨rfl, rfl⟩)
theorem p_263_0 {d : Nat} {w : xW} {a0 : Int32} {a1 : Int32} {a2 : Int32} {a3 : Int32} (hw0 : w[128]? = some (Sum.inr (12, [Value.ref 129, Value.ref 131, Value.ref 133, Value.ref 135, Value.ref 137, Value.ref 139, Value.ref 141, Value.ref 143, Value.ref 145, Value.ref 147, Value.ref 149, Value.ref 151, Value.ref 153, Value.ref 154, Value.ref 155, Value.ref 156, Value.ref 157, Value.int (-16384), Value.int 16384, Value.int 0, Value.int 0, Value.int 0, Value.ref 158, Value.ref 159, Value.int 0, Value.int 0, Value.int 0, Value.int 0, Value.int 0, Value.int 0, Value.int 0, Value.int 0]))) (e1 : a0.toInt < 0) : xRun (d + 9) 263 [Value.ref 128, Value.int a0, Value.int a1, Value.int a2, Value.int a3] w (.inl (some (Value.int 0))) (((w.set 128 (Sum.inr (12, [Value.ref 129, Value.ref 131, Value.ref 133, Value.ref 135, Value.ref 137, Value.ref 139, Value.ref 141, Value.ref 143, Value.ref 145, Value.ref 147, Value.ref 149, Value.ref 151, Value.ref 153, Value.ref 154, Value.ref 155, Value.ref 156, Value.ref 157, Value.int (-16384), Value.int 16384, Value.int 0, Value.int 0, Value.int 0, Value.ref 158, Value.ref 159, Value.int 0, Value.int 0, Value.int 0, Value.int 0, Value.int 0, Value.int 0, Value.int 0, Value.int 0]))) ++ [Sum.inr (14, [])]).set 128 (Sum.inr (12, [Value.ref 129, Value.ref 131, Value.ref 133, Value.ref 135, Value.ref 137, Value.ref 139, Value.ref 141, Value.ref 143, Value.ref 145, Value.ref 147, Value.ref 149, Value.ref 151, Value.ref 153, Value.ref 154, Value.ref 155, Value.ref 156, Value.ref 157, Value.int (-16384), Value.int 16384, Value.int 0, Value.int 0, Value.int 0, Value.ref 158, Value.ref 159, Value.int 0, Value.int 0, Value.int 0, Value.int 0, Value.int 0, Value.int 0, Value.int 0, Value.int 1]))) := by
  refine xRun.of ?_
  refine i_263_0 (x := 128) rfl ?_
  refine i_263_1 ?_
  refine i_263_2 (fs2 := [Value.ref 129, Value.ref 131, Value.ref 133, Value.ref 135, Value.ref 137, Value.ref 139, Value.ref 141, Value.ref 143, Value.ref 145, Value.ref 147, Value.ref 149, Value.ref 151, Value.ref 153, Value.ref 154, Value.ref 155, Value.ref 156, Value.ref 157, Value.int (-16384), Value.int 16384, Value.int 0, Value.int 0, Value.int 0, Value.ref 158, Value.ref 159, Value.int 0, Value.int 0, Value.int 0, Value.int 0, Value.int 0, Value.int 0, Value.int 0, Value.int 0]) hw0 (Nat.le_of_ble_eq_true rfl) rfl (by decide) ?_
  refine i_263_5 (x := 128) rfl ?_
  refine i_263_6 (x := a0) rfl ?_
  refine i_263_7 (x := a1) rfl ?_
  refine i_263_8 (x := a2) rfl ?_
  refine i_263_9 (x := a3) rfl ?_
  refine j_263_11 (xgs hw0) (Nat.le_of_ble_eq_true rfl) (p_264_0 e1) (xDone.c xgl rfl rfl ?_)
  refine i_263_15 (lv2 := [(5, Value.ref ((w.set 128 (Sum.inr (12, [Value.ref 129, Value.ref 131, Value.ref 133, Value.ref 135, Value.ref 137, Value.ref 139, Value.ref 141, Value.ref 143, Value.ref 145, Value.ref 147, Value.ref 149, Value.ref 151, Value.ref 153, Value.ref 154, Value.ref 155, Value.ref 156, Value.ref 157, Value.int (-16384), Value.int 16384, Value.int 0, Value.int 0, Value.int 0, Value.ref 158, Value.ref 159, Value.int 0, Value.int 0, Value.int 0, Value.int 0, Value.int 0, Value.int 0, Value.int 0, Value.int 0]))).length)), (0, Value.ref 128), (1, Value.int a0), (2, Value.int a1), (3, Value.int a2), (4, Value.int a3)]) rfl ?_
  refine i_263_17 (x := 128) rfl ?_
  refine i_263_18 ?_
  refine i_263_19 (fs2 := [Value.ref 129, Value.ref 131, Value.ref 133, Value.ref 135, Value.ref 137, Value.ref 139, Value.ref 141, Value.ref 143, Value.ref 145, Value.ref 147, Value.ref 149, Value.ref 151, Value.ref 153, Value.ref 154, Value.ref 155, Value.ref 156, Value.ref 157, Value.int (-16384), Value.int 16384, Value.int 0, Value.int 0, Value.int 0, Value.ref 158, Value.ref 159, Value.int 0, Value.int 0, Value.int 0, Value.int 0, Value.int 0, Value.int 0, Value.int 0, Value.int 1]) (xga (xgs hw0)) (Nat.le_of_ble_eq_true rfl) rfl (by decide) ?_
  refine i_263_22 ?_
  refine i_263_32 ?_
  exact i_263_33 ⟨rfl, rfl⟩
theorem o_22_0 {d : Nat} {xs : Nat → Int32} (h0 : ((xs 0) &&& (31 : Int32)).toInt = 22) (c0 : (xs 1).toInt < 0) : ∃ w1, xEv (d + 20) 287 23 [(4, Value.int 0), (3, Value.ref 194), (2, Value.ref 128), (1, Value.ref 7), (0, Value.ref 0)] [] (W0 6 xs) (fun o' w' => o' = .inl (some (Value.int 1)) ∧ w' = w1) ∧ w1.length ≤ 220 ∧ xsz w1 ≤ 200000 := by
  refine ⟨(((((W0 6 xs) ++ [Sum.inr (14, [])]).set 128 (Sum.inr (12, [Value.ref 129, Value.ref 131, Value.ref 133, Value.ref 135, Value.ref 137, Value.ref 139, Value.ref 141, Value.ref 143, Value.ref 145, Value.ref 147, Value.ref 149, Value.ref 151, Value.ref 153, Value.ref 154, Value.ref 155, Value.ref 156, Value.ref 157, Value.int (-16384), Value.int 16384, Value.int 0, Value.int 0, Value.int 0, Value.ref 158, Value.ref 159, Value.int 0, Value.int 0, Value.int 0, Value.int 0, Value.int 0, Value.int 0, Value.int 0, Value.int 0]))) ++ [Sum.inr (14, [])]).set 128 (Sum.inr (12, [Value.ref 129, Value.ref 131, Value.ref 133, Value.ref 135, Value.ref 137, Value.ref 139, Value.ref 141, Value.ref 143, Value.ref 145, Value.ref 147, Value.ref 149, Value.ref 151, Value.ref 153, Value.ref 154, Value.ref 155, Value.ref 156, Value.ref 157, Value.int (-16384), Value.int 16384, Value.int 0, Value.int 0, Value.int 0, Value.ref 158, Value.ref 159, Value.int 0, Value.int 0, Value.int 0, Value.int 0, Value.int 0, Value.int 0, Value.int 0, Value.int 1]))), ?_, (show xLs _ 220 200000 from ?_)⟩
  · refine i_287_23 (x := 0) rfl ?_
    refine i_287_25 (x := 0) rfl ?_
    refine i_287_26 (c := 6) W0_0 (by decide) ?_
    refine i_287_27 ?_
    refine i_287_29 (c := 0) (by decide) ?_
    refine i_287_30 (fun h => absurd h (by decide)) (fun _ => ?_)
    refine i_287_33 (x := 0) rfl ?_
    refine i_287_34 (x := 0) rfl ?_
    refine i_287_36 (v := Value.int (xs 0)) W0_0 (by decide) (by decide) rfl ?_
    refine i_287_37 ?_
    refine i_287_39 (c := ((xs 0) &&& (31 : Int32))) rfl ?_
    refine i_287_40_22 (by omega) ?_
    refine i_287_2006 (x := 7) rfl ?_
    refine i_287_2007 (x := 0) rfl ?_
    refine i_287_2008 (x := 0) rfl ?_
    refine i_287_2010 ?_
    refine i_287_2011 (c := 1) (by decide) ?_
    refine i_287_2012 (v := Value.int (xs 1)) W0_0 (by decide) (by decide) rfl ?_
    refine i_287_2013 (x := 0) rfl ?_
    refine i_287_2014 (x := 0) rfl ?_
    refine i_287_2016 ?_
    refine i_287_2017 (c := 2) (by decide) ?_
    refine i_287_2018 (v := Value.int (xs 2)) W0_0 (by decide) (by decide) rfl ?_
    refine i_287_2019 (x := 0) rfl ?_
    refine i_287_2020 (x := 0) rfl ?_
    refine i_287_2022 ?_
    refine i_287_2023 (c := 3) (by decide) ?_
    refine i_287_2024 (v := Value.int (xs 3)) W0_0 (by decide) (by decide) rfl ?_
    refine i_287_2025 (x := 0) rfl ?_
    refine i_287_2026 (x := 0) rfl ?_
    refine i_287_2028 ?_
    refine i_287_2029 (c := 4) (by decide) ?_
    refine i_287_2030 (v := Value.int (xs 4)) W0_0 (by decide) (by decide) rfl ?_
    refine i_287_2031 (x := 194) rfl ?_
    refine i_287_2032 (Nat.le_of_ble_eq_true rfl) (p_150_0 W0_7 (by omega)) ?_
    refine i_287_2035 (lv2 := [(5, Value.int 1), (4, Value.int 0), (3, Value.ref 194), (2, Value.ref 128), (1, Value.ref 7), (0, Value.ref 0)]) rfl ?_
    refine i_287_2037 (x := 128) rfl ?_
    refine i_287_2038 (x := 0) rfl ?_
    refine i_287_2039 (x := 0) rfl ?_
    refine i_287_2041 ?_
    refine i_287_2042 (c := 1) (by decide) ?_
    refine i_287_2043 (v := Value.int (xs 1)) (xga W0_0) (by decide) (by decide) rfl ?_
    refine i_287_2044 (x := 0) rfl ?_
    refine i_287_2045 (x := 0) rfl ?_
    refine i_287_2047 ?_
    refine i_287_2048 (c := 2) (by decide) ?_
    refine i_287_2049 (v := Value.int (xs 2)) (xga W0_0) (by decide) (by decide) rfl ?_
    refine i_287_2050 (x := 0) rfl ?_
    refine i_287_2051 (x := 0) rfl ?_
    refine i_287_2053 ?_
    refine i_287_2054 (c := 3) (by decide) ?_
    refine i_287_2055 (v := Value.int (xs 3)) (xga W0_0) (by decide) (by decide) rfl ?_
    refine i_287_2056 (x := 0) rfl ?_
    refine i_287_2057 (x := 0) rfl ?_
    refine i_287_2059 ?_
    refine i_287_2060 (c := 4) (by decide) ?_
    refine i_287_2061 (v := Value.int (xs 4)) (xga W0_0) (by decide) (by decide) rfl ?_
    refine i_287_2062 (xga W0_128) (Nat.le_of_ble_eq_true rfl) (p_263_0 (xga W0_128) (by omega)) ?_
    refine i_287_2065 (lv2 := [(6, Value.int 0), (5, Value.int 1), (4, Value.int 0), (3, Value.ref 194), (2, Value.ref 128), (1, Value.ref 7), (0, Value.ref 0)]) rfl ?_
    refine i_287_2067 (x := 128) rfl ?_
    refine i_287_2068 (xgs (xga (xgs (xga W0_128)))) (Nat.le_of_ble_eq_true rfl) (p_165_0 (xgs (xga (xgs (xga W0_128))))) ?_
    refine i_287_2071 (x := 1) rfl ?_
    refine i_287_2073 (fun _ => ?_) (fun h => absurd h (by decide))
    refine i_287_2078 (x := 1) rfl ?_
    refine i_287_2080 (fun _ => ?_) (fun h => absurd h (by decide))
    refine i_287_2095 ?_
    refine i_287_2154 (x := 0) (c := 6) (lv2 := [(4, Value.int 6), (6, Value.int 0), (5, Value.int 1), (3, Value.ref 194), (2, Value.ref 128), (1, Value.ref 7), (0, Value.ref 0)]) rfl (by decide) rfl ?_
    refine i_287_2157 ?_
    refine i_287_23 (x := 6) rfl ?_
    refine i_287_25 (x := 0) rfl ?_
    refine i_287_26 (c := 6) (xgn (by decide) (xga (xgn (by decide) (xga W0_0)))) (by decide) ?_
    refine i_287_27 ?_
    refine i_287_29 (c := 0) (by decide) ?_
    refine i_287_30 (fun _ => ?_) (fun h => absurd h (by decide))
    refine i_287_2160 ?_
    exact i_287_2161 rfl ⟨rfl, rfl⟩
  · refine xLs.set ?_ (xga (xgs (xga W0_128))) xcs_o
    refine xLs.app (n := 219) (z := 199994) (m := 6) ?_ rfl
    refine xLs.set ?_ (xga W0_128) xcs_o
    refine xLs.app (n := 218) (z := 199988) (m := 6) ?_ rfl
    exact ⟨Nat.le_trans (Nat.le_of_eq W0_len) (by decide), Nat.le_trans (Nat.le_of_eq W0_sz) (by decide)⟩
theorem p_151_1 {d : Nat} {w : xW} {a0 : Int32} {a1 : Int32} {a2 : Int32} {a3 : Int32} (e0 : 0 ≤ a0.toInt) (e1 : a0.toInt < 16) (e2 : a1.toInt < 2) : xRun (d + 6) 151 [Value.ref 7, Value.int a0, Value.int a1, Value.int a2, Value.int a3] w (.inr w.length) (w ++ [Sum.inr (14, [])]) := by
  refine xRun.of ?_
  refine i_151_0 (x := a0) rfl ?_
  refine i_151_1 (Nat.le_of_ble_eq_true rfl) (p_15_1 e0 e1) ?_
  refine i_151_4 (fun h => absurd h (by decide)) (fun _ => ?_)
  refine i_151_7 (x := a1) rfl ?_
  refine i_151_8 ?_
  refine i_151_9 (fun _ => ?_) (fun h => absurd e2 (Int.not_lt.mpr h))
  exact i_151_37 (by omega) (Nat.le_of_ble_eq_true rfl) ⟨rfl, rfl⟩
theorem p_150_1 {d : Nat} {w : xW} {a0 : Int32} {a1 : Int32} {a2 : Int32} {a3 : Int32} (hw0 : w[7]? = some (Sum.inr (0, [Value.ref 8, Value.ref 78, Value.ref 9, Value.ref 10, Value.ref 13, Value.ref 16, Value.ref 19, Value.ref 93, Value.ref 108, Value.ref 113, Value.ref 29, Value.int 0]))) (e1 : 0 ≤ a0.toInt) (e2 : a0.toInt < 16) (e3 : a1.toInt < 2) : xRun (d + 7) 150 [Value.ref 7, Value.int a0, Value.int a1, Value.int a2, Value.int a3, Value.ref 194] w (.inl (some (Value.int 1))) (w ++ [Sum.inr (14, [])]) := by
  refine xRun.of ?_
  refine i_150_0 (x := 194) rfl ?_
  refine i_150_2 ?_
  refine i_150_3 (x := 7) rfl ?_
  refine i_150_4 (x := a0) rfl ?_
  refine i_150_5 (x := a1) rfl ?_
  refine i_150_6 (x := a2) rfl ?_
  refine i_150_7 (x := a3) rfl ?_
  refine j_150_9 hw0 (Nat.le_of_ble_eq_true rfl) (p_151_1 e1 e2 e3) (xDone.c xgl rfl rfl ?_)
  refine i_150_17 (lv2 := [(6, Value.ref w.length), (0, Value.ref 7), (1, Value.int a0), (2, Value.int a1), (3, Value.int a2), (4, Value.int a3), (5, Value.ref 194)]) rfl ?_
  refine i_150_19 ?_
  exact i_150_20 ⟨rfl, rfl⟩
theorem p_264_1 {d : Nat} {w : xW} {a0 : Int32} {a1 : Int32} {a2 : Int32} {a3 : Int32} (e0 : 0 ≤ a0.toInt) (e1 : a0.toInt ≤ 15) (e2 : a1.toInt < 2) : xRun (d + 7) 264 [Value.ref 128, Value.int a0, Value.int a1, Value.int a2, Value.int a3] w (.inr w.length) (w ++ [Sum.inr (14, [])]) := by
  refine xRun.of ?_
  refine i_264_0 (x := a0) rfl ?_
  refine i_264_1 (Nat.le_of_ble_eq_true rfl) (p_168_1 e0 e1) ?_
  refine i_264_4 (x := a1) rfl ?_
  refine i_264_5 ?_
  refine i_264_6 ?_
  refine i_264_8 (Nat.le_of_ble_eq_true rfl) (p_169_33 e2) ?_
  refine i_264_11 (fun _ => ?_) (fun h => absurd h (by decide))
  refine i_264_29 ?_
  exact j_264_30 (Nat.le_of_ble_eq_true rfl) (p_170_0) (xDone.t xgl rfl rfl ⟨rfl, rfl⟩)
theorem p_263_1 {d : Nat} {w : xW} {a0 : Int32} {a1 : Int32} {a2 : Int32} {a3 : Int32} (hw0 : w[128]? = some (Sum.inr (12, [Value.ref 129, Value.ref 131, Value.ref 133, Value.ref 135, Value.ref 137, Value.ref 139, Value.ref 141, Value.ref 143, Value.ref 145, Value.ref 147, Value.ref 149, Value.ref 151, Value.ref 153, Value.ref 154, Value.ref 155, Value.ref 156, Value.ref 157, Value.int (-16384), Value.int 16384, Value.int 0, Value.int 0, Value.int 0, Value.ref 158, Value.ref 159, Value.int 0, Value.int 0, Value.int 0, Value.int 0, Value.int 0, Value.int 0, Value.int 0, Value.int 0]))) (e1 : 0 ≤ a0.toInt) (e2 : a0.toInt ≤ 15) (e3 : a1.toInt < 2) : xRun (d + 8) 263 [Value.ref 128, Value.int a0, Value.int a1, Value.int a2, Value.int a3] w (.inl (some (Value.int 0))) (((w.set 128 (Sum.inr (12, [Value.ref 129, Value.ref 131, Value.ref 133, Value.ref 135, Value.ref 137, Value.ref 139, Value.ref 141, Value.ref 143, Value.ref 145, Value.ref 147, Value.ref 149, Value.ref 151, Value.ref 153, Value.ref 154, Value.ref 155, Value.ref 156, Value.ref 157, Value.int (-16384), Value.int 16384, Value.int 0, Value.int 0, Value.int 0, Value.ref 158, Value.ref 159, Value.int 0, Value.int 0, Value.int 0, Value.int 0, Value.int 0, Value.int 0, Value.int 0, Value.int 0]))) ++ [Sum.inr (14, [])]).set 128 (Sum.inr (12, [Value.ref 129, Value.ref 131, Value.ref 133, Value.ref 135, Value.ref 137, Value.ref 139, Value.ref 141, Value.ref 143, Value.ref 145, Value.ref 147, Value.ref 149, Value.ref 151, Value.ref 153, Value.ref 154, Value.ref 155, Value.ref 156, Value.ref 157, Value.int (-16384), Value.int 16384, Value.int 0, Value.int 0, Value.int 0, Value.ref 158, Value.ref 159, Value.int 0, Value.int 0, Value.int 0, Value.int 0, Value.int 0, Value.int 0, Value.int 0, Value.int 1]))) := by
  refine xRun.of ?_
  refine i_263_0 (x := 128) rfl ?_
  refine i_263_1 ?_
  refine i_263_2 (fs2 := [Value.ref 129, Value.ref 131, Value.ref 133, Value.ref 135, Value.ref 137, Value.ref 139, Value.ref 141, Value.ref 143, Value.ref 145, Value.ref 147, Value.ref 149, Value.ref 151, Value.ref 153, Value.ref 154, Value.ref 155, Value.ref 156, Value.ref 157, Value.int (-16384), Value.int 16384, Value.int 0, Value.int 0, Value.int 0, Value.ref 158, Value.ref 159, Value.int 0, Value.int 0, Value.int 0, Value.int 0, Value.int 0, Value.int 0, Value.int 0, Value.int 0]) hw0 (Nat.le_of_ble_eq_true rfl) rfl (by decide) ?_
  refine i_263_5 (x := 128) rfl ?_
  refine i_263_6 (x := a0) rfl ?_
  refine i_263_7 (x := a1) rfl ?_
  refine i_263_8 (x := a2) rfl ?_
  refine i_263_9 (x := a3) rfl ?_
  refine j_263_11 (xgs hw0) (Nat.le_of_ble_eq_true rfl) (p_264_1 e1 e2 e3) (xDone.c xgl rfl rfl ?_)
  refine i_263_15 (lv2 := [(5, Value.ref ((w.set 128 (Sum.inr (12, [Value.ref 129, Value.ref 131, Value.ref 133, Value.ref 135, Value.ref 137, Value.ref 139, Value.ref 141, Value.ref 143, Value.ref 145, Value.ref 147, Value.ref 149, Value.ref 151, Value.ref 153, Value.ref 154, Value.ref 155, Value.ref 156, Value.ref 157, Value.int (-16384), Value.int 16384, Value.int 0, Value.int 0, Value.int 0, Value.ref 158, Value.ref 159, Value.int 0, Value.int 0, Value.int 0, Value.int 0, Value.int 0, Value.int 0, Value.int 0, Value.int 0]))).length)), (0, Value.ref 128), (1, Value.int a0), (2, Value.int a1), (3, Value.int a2), (4, Value.int a3)]) rfl ?_
  refine i_263_17 (x := 128) rfl ?_
  refine i_263_18 ?_
  refine i_263_19 (fs2 := [Value.ref 129, Value.ref 131, Value.ref 133, Value.ref 135, Value.ref 137, Value.ref 139, Value.ref 141, Value.ref 143, Value.ref 145, Value.ref 147, Value.ref 149, Value.ref 151, Value.ref 153, Value.ref 154, Value.ref 155, Value.ref 156, Value.ref 157, Value.int (-16384), Value.int 16384, Value.int 0, Value.int 0, Value.int 0, Value.ref 158, Value.ref 159, Value.int 0, Value.int 0, Value.int 0, Value.int 0, Value.int 0, Value.int 0, Value.int 0, Value.int 1]) (xga (xgs hw0)) (Nat.le_of_ble_eq_true rfl) rfl (by decide) ?_
  refine i_263_22 ?_
  refine i_263_32 ?_
  exact i_263_33 ⟨rfl, rfl⟩
theorem o_22_1 {d : Nat} {xs : Nat → Int32} (h0 : ((xs 0) &&& (31 : Int32)).toInt = 22) (c0 : 0 ≤ (xs 1).toInt) (c1 : (xs 1).toInt < 16) (c2 : (xs 2).toInt < 2) : ∃ w1, xEv (d + 20) 287 23 [(4, Value.int 0), (3, Value.ref 194), (2, Value.ref 128), (1, Value.ref 7), (0, Value.ref 0)] [] (W0 6 xs) (fun o' w' => o' = .inl (some (Value.int 1)) ∧ w' = w1) ∧ w1.length ≤ 220 ∧ xsz w1 ≤ 200000 := by
  refine ⟨(((((W0 6 xs) ++ [Sum.inr (14, [])]).set 128 (Sum.inr (12, [Value.ref 129, Value.ref 131, Value.ref 133, Value.ref 135, Value.ref 137, Value.ref 139, Value.ref 141, Value.ref 143, Value.ref 145, Value.ref 147, Value.ref 149, Value.ref 151, Value.ref 153, Value.ref 154, Value.ref 155, Value.ref 156, Value.ref 157, Value.int (-16384), Value.int 16384, Value.int 0, Value.int 0, Value.int 0, Value.ref 158, Value.ref 159, Value.int 0, Value.int 0, Value.int 0, Value.int 0, Value.int 0, Value.int 0, Value.int 0, Value.int 0]))) ++ [Sum.inr (14, [])]).set 128 (Sum.inr (12, [Value.ref 129, Value.ref 131, Value.ref 133, Value.ref 135, Value.ref 137, Value.ref 139, Value.ref 141, Value.ref 143, Value.ref 145, Value.ref 147, Value.ref 149, Value.ref 151, Value.ref 153, Value.ref 154, Value.ref 155, Value.ref 156, Value.ref 157, Value.int (-16384), Value.int 16384, Value.int 0, Value.int 0, Value.int 0, Value.ref 158, Value.ref 159, Value.int 0, Value.int 0, Value.int 0, Value.int 0, Value.int 0, Value.int 0, Value.int 0, Value.int 1]))), ?_, (show xLs _ 220 200000 from ?_)⟩
  · refine i_287_23 (x := 0) rfl ?_
    refine i_287_25 (x := 0) rfl ?_
    refine i_287_26 (c := 6) W0_0 (by decide) ?_
    refine i_287_27 ?_
    refine i_287_29 (c := 0) (by decide) ?_
    refine i_287_30 (fun h => absurd h (by decide)) (fun _ => ?_)
    refine i_287_33 (x := 0) rfl ?_
    refine i_287_34 (x := 0) rfl ?_
    refine i_287_36 (v := Value.int (xs 0)) W0_0 (by decide) (by decide) rfl ?_
    refine i_287_37 ?_
    refine i_287_39 (c := ((xs 0) &&& (31 : Int32))) rfl ?_
    refine i_287_40_22 (by omega) ?_
    refine i_287_2006 (x := 7) rfl ?_
    refine i_287_2007 (x := 0) rfl ?_
    refine i_287_2008 (x := 0) rfl ?_
    refine i_287_2010 ?_
    refine i_287_2011 (c := 1) (by decide) ?_
    refine i_287_2012 (v := Value.int (xs 1)) W0_0 (by decide) (by decide) rfl ?_
    refine i_287_2013 (x := 0) rfl ?_
    refine i_287_2014 (x := 0) rfl ?_
    refine i_287_2016 ?_
    refine i_287_2017 (c := 2) (by decide) ?_
    refine i_287_2018 (v := Value.int (xs 2)) W0_0 (by decide) (by decide) rfl ?_
    refine i_287_2019 (x := 0) rfl ?_
    refine i_287_2020 (x := 0) rfl ?_
    refine i_287_2022 ?_
    refine i_287_2023 (c := 3) (by decide) ?_
    refine i_287_2024 (v := Value.int (xs 3)) W0_0 (by decide) (by decide) rfl ?_
    refine i_287_2025 (x := 0) rfl ?_
    refine i_287_2026 (x := 0) rfl ?_
    refine i_287_2028 ?_
    refine i_287_2029 (c := 4) (by decide) ?_
    refine i_287_2030 (v := Value.int (xs 4)) W0_0 (by decide) (by decide) rfl ?_
    refine i_287_2031 (x := 194) rfl ?_
    refine i_287_2032 (Nat.le_of_ble_eq_true rfl) (p_150_1 W0_7 (by omega) (by omega) (by omega)) ?_
    refine i_287_2035 (lv2 := [(5, Value.int 1), (4, Value.int 0), (3, Value.ref 194), (2, Value.ref 128), (1, Value.ref 7), (0, Value.ref 0)]) rfl ?_
    refine i_287_2037 (x := 128) rfl ?_
    refine i_287_2038 (x := 0) rfl ?_
    refine i_287_2039 (x := 0) rfl ?_
    refine i_287_2041 ?_
    refine i_287_2042 (c := 1) (by decide) ?_
    refine i_287_2043 (v := Value.int (xs 1)) (xga W0_0) (by decide) (by decide) rfl ?_
    refine i_287_2044 (x := 0) rfl ?_
    refine i_287_2045 (x := 0) rfl ?_
    refine i_287_2047 ?_
    refine i_287_2048 (c := 2) (by decide) ?_
    refine i_287_2049 (v := Value.int (xs 2)) (xga W0_0) (by decide) (by decide) rfl ?_
    refine i_287_2050 (x := 0) rfl ?_
    refine i_287_2051 (x := 0) rfl ?_
    refine i_287_2053 ?_
    refine i_287_2054 (c := 3) (by decide) ?_
    refine i_287_2055 (v := Value.int (xs 3)) (xga W0_0) (by decide) (by decide) rfl ?_
    refine i_287_2056 (x := 0) rfl ?_
    refine i_287_2057 (x := 0) rfl ?_
    refine i_287_2059 ?_
    refine i_287_2060 (c := 4) (by decide) ?_
    refine i_287_2061 (v := Value.int (xs 4)) (xga W0_0) (by decide) (by decide) rfl ?_
    refine i_287_2062 (xga W0_128) (Nat.le_of_ble_eq_true rfl) (p_263_1 (xga W0_128) (by omega) (by omega) (by omega)) ?_
    refine i_287_2065 (lv2 := [(6, Value.int 0), (5, Value.int 1), (4, Value.int 0), (3, Value.ref 194), (2, Value.ref 128), (1, Value.ref 7), (0, Value.ref 0)]) rfl ?_
    refine i_287_2067 (x := 128) rfl ?_
    refine i_287_2068 (xgs (xga (xgs (xga W0_128)))) (Nat.le_of_ble_eq_true rfl) (p_165_0 (xgs (xga (xgs (xga W0_128))))) ?_
    refine i_287_2071 (x := 1) rfl ?_
    refine i_287_2073 (fun _ => ?_) (fun h => absurd h (by decide))
    refine i_287_2078 (x := 1) rfl ?_
    refine i_287_2080 (fun _ => ?_) (fun h => absurd h (by decide))
    refine i_287_2095 ?_
    refine i_287_2154 (x := 0) (c := 6) (lv2 := [(4, Value.int 6), (6, Value.int 0), (5, Value.int 1), (3, Value.ref 194), (2, Value.ref 128), (1, Value.ref 7), (0, Value.ref 0)]) rfl (by decide) rfl ?_
    refine i_287_2157 ?_
    refine i_287_23 (x := 6) rfl ?_
    refine i_287_25 (x := 0) rfl ?_
    refine i_287_26 (c := 6) (xgn (by decide) (xga (xgn (by decide) (xga W0_0)))) (by decide) ?_
    refine i_287_27 ?_
    refine i_287_29 (c := 0) (by decide) ?_
    refine i_287_30 (fun _ => ?_) (fun h => absurd h (by decide))
    refine i_287_2160 ?_
    exact i_287_2161 rfl ⟨rfl, rfl⟩
  · refine xLs.set ?_ (xga (xgs (xga W0_128))) xcs_o
    refine xLs.app (n := 219) (z := 199994) (m := 6) ?_ rfl
    refine xLs.set ?_ (xga W0_128) xcs_o
    refine xLs.app (n := 218) (z := 199988) (m := 6) ?_ rfl
    exact ⟨Nat.le_trans (Nat.le_of_eq W0_len) (by decide), Nat.le_trans (Nat.le_of_eq W0_sz) (by decide)⟩
theorem p_151_2 {d : Nat} {w : xW} {a0 : Int32} {a1 : Int32} {a2 : Int32} {a3 : Int32} (e0 : 0 ≤ a0.toInt) (e1 : a0.toInt < 16) (e2 : 2 ≤ a1.toInt) (e3 : 36 < a1.toInt) : xRun (d + 6) 151 [Value.ref 7, Value.int a0, Value.int a1, Value.int a2, Value.int a3] w (.inr w.length) (w ++ [Sum.inr (14, [])]) := by
  refine xRun.of ?_
  refine i_151_0 (x := a0) rfl ?_
  refine i_151_1 (Nat.le_of_ble_eq_true rfl) (p_15_1 e0 e1) ?_
  refine i_151_4 (fun h => absurd h (by decide)) (fun _ => ?_)
  refine i_151_7 (x := a1) rfl ?_
  refine i_151_8 ?_
  refine i_151_9 (fun h => absurd e2 (Int.not_le.mpr h)) (fun _ => ?_)
  refine i_151_12 (x := a1) rfl ?_
  refine i_151_13 ?_
  refine i_151_15 (fun _ => ?_) (fun h => absurd e3 (Int.not_lt.mpr h))
  exact i_151_37 (by omega) (Nat.le_of_ble_eq_true rfl) ⟨rfl, rfl⟩
theorem p_150_2 {d : Nat} {w : xW} {a0 : Int32} {a1 : Int32} {a2 : Int32} {a3 : Int32} (hw0 : w[7]? = some (Sum.inr (0, [Value.ref 8, Value.ref 78, Value.ref 9, Value.ref 10, Value.ref 13, Value.ref 16, Value.ref 19, Value.ref 93, Value.ref 108, Value.ref 113, Value.ref 29, Value.int 0]))) (e1 : 0 ≤ a0.toInt) (e2 : a0.toInt < 16) (e3 : 2 ≤ a1.toInt) (e4 : 36 < a1.toInt) : xRun (d + 7) 150 [Value.ref 7, Value.int a0, Value.int a1, Value.int a2, Value.int a3, Value.ref 194] w (.inl (some (Value.int 1))) (w ++ [Sum.inr (14, [])]) := by
  refine xRun.of ?_
  refine i_150_0 (x := 194) rfl ?_
  refine i_150_2 ?_
  refine i_150_3 (x := 7) rfl ?_
  refine i_150_4 (x := a0) rfl ?_
  refine i_150_5 (x := a1) rfl ?_
  refine i_150_6 (x := a2) rfl ?_
  refine i_150_7 (x := a3) rfl ?_
  refine j_150_9 hw0 (Nat.le_of_ble_eq_true rfl) (p_151_2 e1 e2 e3 e4) (xDone.c xgl rfl rfl ?_)
  refine i_150_17 (lv2 := [(6, Value.ref w.length), (0, Value.ref 7), (1, Value.int a0), (2, Value.int a1), (3, Value.int a2), (4, Value.int a3), (5, Value.ref 194)]) rfl ?_
  refine i_150_19 ?_
  exact i_150_20 ⟨rfl, rfl⟩
theorem p_264_2 {d : Nat} {w : xW} {a0 : Int32} {a1 : Int32} {a2 : Int32} {a3 : Int32} (e0 : 0 ≤ a0.toInt) (e1 : a0.toInt ≤ 15) (e2 : 2 ≤ a1.toInt) (e3 : 36 < a1.toInt) : xRun (d + 7) 264 [Value.ref 128, Value.int a0, Value.int a1, Value.int a2, Value.int a3] w (.inr w.length) (w ++ [Sum.inr (14, [])]) := by
  refine xRun.of ?_
  refine i_264_0 (x := a0) rfl ?_
  refine i_264_1 (Nat.le_of_ble_eq_true rfl) (p_168_1 e0 e1) ?_
  refine i_264_4 (x := a1) rfl ?_
  refine i_264_5 ?_
  refine i_264_6 ?_
  refine i_264_8 (Nat.le_of_ble_eq_true rfl) (p_169_34 e2 e3) ?_
  refine i_264_11 (fun _ => ?_) (fun h => absurd h (by decide))
  refine i_264_29 ?_
  exact j_264_30 (Nat.le_of_ble_eq_true rfl) (p_170_0) (xDone.t xgl rfl rfl ⟨rfl, rfl⟩)
theorem p_263_2 {d : Nat} {w : xW} {a0 : Int32} {a1 : Int32} {a2 : Int32} {a3 : Int32} (hw0 : w[128]? = some (Sum.inr (12, [Value.ref 129, Value.ref 131, Value.ref 133, Value.ref 135, Value.ref 137, Value.ref 139, Value.ref 141, Value.ref 143, Value.ref 145, Value.ref 147, Value.ref 149, Value.ref 151, Value.ref 153, Value.ref 154, Value.ref 155, Value.ref 156, Value.ref 157, Value.int (-16384), Value.int 16384, Value.int 0, Value.int 0, Value.int 0, Value.ref 158, Value.ref 159, Value.int 0, Value.int 0, Value.int 0, Value.int 0, Value.int 0, Value.int 0, Value.int 0, Value.int 0]))) (e1 : 0 ≤ a0.toInt) (e2 : a0.toInt ≤ 15) (e3 : 2 ≤ a1.toInt) (e4 : 36 < a1.toInt) : xRun (d + 8) 263 [Value.ref 128, Value.int a0, Value.int a1, Value.int a2, Value.int a3] w (.inl (some (Value.int 0))) (((w.set 128 (Sum.inr (12, [Value.ref 129, Value.ref 131, Value.ref 133, Value.ref 135, Value.ref 137, Value.ref 139, Value.ref 141, Value.ref 143, Value.ref 145, Value.ref 147, Value.ref 149, Value.ref 151, Value.ref 153, Value.ref 154, Value.ref 155, Value.ref 156, Value.ref 157, Value.int (-16384), Value.int 16384, Value.int 0, Value.int 0, Value.int 0, Value.ref 158, Value.ref 159, Value.int 0, Value.int 0, Value.int 0, Value.int 0, Value.int 0, Value.int 0, Value.int 0, Value.int 0]))) ++ [Sum.inr (14, [])]).set 128 (Sum.inr (12, [Value.ref 129, Value.ref 131, Value.ref 133, Value.ref 135, Value.ref 137, Value.ref 139, Value.ref 141, Value.ref 143, Value.ref 145, Value.ref 147, Value.ref 149, Value.ref 151, Value.ref 153, Value.ref 154, Value.ref 155, Value.ref 156, Value.ref 157, Value.int (-16384), Value.int 16384, Value.int 0, Value.int 0, Value.int 0, Value.ref 158, Value.ref 159, Value.int 0, Value.int 0, Value.int 0, Value.int 0, Value.int 0, Value.int 0, Value.int 0, Value.int 1]))) := by
  refine xRun.of ?_
  refine i_263_0 (x := 128) rfl ?_
  refine i_263_1 ?_
  refine i_263_2 (fs2 := [Value.ref 129, Value.ref 131, Value.ref 133, Value.ref 135, Value.ref 137, Value.ref 139, Value.ref 141, Value.ref 143, Value.ref 145, Value.ref 147, Value.ref 149, Value.ref 151, Value.ref 153, Value.ref 154, Value.ref 155, Value.ref 156, Value.ref 157, Value.int (-16384), Value.int 16384, Value.int 0, Value.int 0, Value.int 0, Value.ref 158, Value.ref 159, Value.int 0, Value.int 0, Value.int 0, Value.int 0, Value.int 0, Value.int 0, Value.int 0, Value.int 0]) hw0 (Nat.le_of_ble_eq_true rfl) rfl (by decide) ?_
  refine i_263_5 (x := 128) rfl ?_
  refine i_263_6 (x := a0) rfl ?_
  refine i_263_7 (x := a1) rfl ?_
  refine i_263_8 (x := a2) rfl ?_
  refine i_263_9 (x := a3) rfl ?_
  refine j_263_11 (xgs hw0) (Nat.le_of_ble_eq_true rfl) (p_264_2 e1 e2 e3 e4) (xDone.c xgl rfl rfl ?_)
  refine i_263_15 (lv2 := [(5, Value.ref ((w.set 128 (Sum.inr (12, [Value.ref 129, Value.ref 131, Value.ref 133, Value.ref 135, Value.ref 137, Value.ref 139, Value.ref 141, Value.ref 143, Value.ref 145, Value.ref 147, Value.ref 149, Value.ref 151, Value.ref 153, Value.ref 154, Value.ref 155, Value.ref 156, Value.ref 157, Value.int (-16384), Value.int 16384, Value.int 0, Value.int 0, Value.int 0, Value.ref 158, Value.ref 159, Value.int 0, Value.int 0, Value.int 0, Value.int 0, Value.int 0, Value.int 0, Value.int 0, Value.int 0]))).length)), (0, Value.ref 128), (1, Value.int a0), (2, Value.int a1), (3, Value.int a2), (4, Value.int a3)]) rfl ?_
  refine i_263_17 (x := 128) rfl ?_
  refine i_263_18 ?_
  refine i_263_19 (fs2 := [Value.ref 129, Value.ref 131, Value.ref 133, Value.ref 135, Value.ref 137, Value.ref 139, Value.ref 141, Value.ref 143, Value.ref 145, Value.ref 147, Value.ref 149, Value.ref 151, Value.ref 153, Value.ref 154, Value.ref 155, Value.ref 156, Value.ref 157, Value.int (-16384), Value.int 16384, Value.int 0, Value.int 0, Value.int 0, Value.ref 158, Value.ref 159, Value.int 0, Value.int 0, Value.int 0, Value.int 0, Value.int 0, Value.int 0, Value.int 0, Value.int 1]) (xga (xgs hw0)) (Nat.le_of_ble_eq_true rfl) rfl (by decide) ?_
  refine i_263_22 ?_
  refine i_263_32 ?_
  exact i_263_33 ⟨rfl, rfl⟩
theorem o_22_2 {d : Nat} {xs : Nat → Int32} (h0 : ((xs 0) &&& (31 : Int32)).toInt = 22) (c0 : 0 ≤ (xs 1).toInt) (c1 : (xs 1).toInt < 16) (c2 : 2 ≤ (xs 2).toInt) (c3 : 36 < (xs 2).toInt) : ∃ w1, xEv (d + 20) 287 23 [(4, Value.int 0), (3, Value.ref 194), (2, Value.ref 128), (1, Value.ref 7), (0, Value.ref 0)] [] (W0 6 xs) (fun o' w' => o' = .inl (some (Value.int 1)) ∧ w' = w1) ∧ w1.length ≤ 220 ∧ xsz w1 ≤ 200000 := by
  refine ⟨(((((W0 6 xs) ++ [Sum.inr (14, [])]).set 128 (Sum.inr (12, [Value.ref 129, Value.ref 131, Value.ref 133, Value.ref 135, Value.ref 137, Value.ref 139, Value.ref 141, Value.ref 143, Value.ref 145, Value.ref 147, Value.ref 149, Value.ref 151, Value.ref 153, Value.ref 154, Value.ref 155, Value.ref 156, Value.ref 157, Value.int (-16384), Value.int 16384, Value.int 0, Value.int 0, Value.int 0, Value.ref 158, Value.ref 159, Value.int 0, Value.int 0, Value.int 0, Value.int 0, Value.int 0, Value.int 0, Value.int 0, Value.int 0]))) ++ [Sum.inr (14, [])]).set 128 (Sum.inr (12, [Value.ref 129, Value.ref 131, Value.ref 133, Value.ref 135, Value.ref 137, Value.ref 139, Value.ref 141, Value.ref 143, Value.ref 145, Value.ref 147, Value.ref 149, Value.ref 151, Value.ref 153, Value.ref 154, Value.ref 155, Value.ref 156, Value.ref 157, Value.int (-16384), Value.int 16384, Value.int 0, Value.int 0, Value.int 0, Value.ref 158, Value.ref 159, Value.int 0, Value.int 0, Value.int 0, Value.int 0, Value.int 0, Value.int 0, Value.int 0, Value.int 1]))), ?_, (show xLs _ 220 200000 from ?_)⟩
  · refine i_287_23 (x := 0) rfl ?_
    refine i_287_25 (x := 0) rfl ?_
    refine i_287_26 (c := 6) W0_0 (by decide) ?_
    refine i_287_27 ?_
    refine i_287_29 (c := 0) (by decide) ?_
    refine i_287_30 (fun h => absurd h (by decide)) (fun _ => ?_)
    refine i_287_33 (x := 0) rfl ?_
    refine i_287_34 (x := 0) rfl ?_
    refine i_287_36 (v := Value.int (xs 0)) W0_0 (by decide) (by decide) rfl ?_
    refine i_287_37 ?_
    refine i_287_39 (c := ((xs 0) &&& (31 : Int32))) rfl ?_
    refine i_287_40_22 (by omega) ?_
    refine i_287_2006 (x := 7) rfl ?_
    refine i_287_2007 (x := 0) rfl ?_
    refine i_287_2008 (x := 0) rfl ?_
    refine i_287_2010 ?_
    refine i_287_2011 (c := 1) (by decide) ?_
    refine i_287_2012 (v := Value.int (xs 1)) W0_0 (by decide) (by decide) rfl ?_
    refine i_287_2013 (x := 0) rfl ?_
    refine i_287_2014 (x := 0) rfl ?_
    refine i_287_2016 ?_
    refine i_287_2017 (c := 2) (by decide) ?_
    refine i_287_2018 (v := Value.int (xs 2)) W0_0 (by decide) (by decide) rfl ?_
    refine i_287_2019 (x := 0) rfl ?_
    refine i_287_2020 (x := 0) rfl ?_
    refine i_287_2022 ?_
    refine i_287_2023 (c := 3) (by decide) ?_
    refine i_287_2024 (v := Value.int (xs 3)) W0_0 (by decide) (by decide) rfl ?_
    refine i_287_2025 (x := 0) rfl ?_
    refine i_287_2026 (x := 0) rfl ?_
    refine i_287_2028 ?_
    refine i_287_2029 (c := 4) (by decide) ?_
    refine i_287_2030 (v := Value.int (xs 4)) W0_0 (by decide) (by decide) rfl ?_
    refine i_287_2031 (x := 194) rfl ?_
    refine i_287_2032 (Nat.le_of_ble_eq_true rfl) (p_150_2 W0_7 (by omega) (by omega) (by omega) (by omega)) ?_
    refine i_287_2035 (lv2 := [(5, Value.int 1), (4, Value.int 0), (3, Value.ref 194), (2, Value.ref 128), (1, Value.ref 7), (0, Value.ref 0)]) rfl ?_
    refine i_287_2037 (x := 128) rfl ?_
    refine i_287_2038 (x := 0) rfl ?_
    refine i_287_2039 (x := 0) rfl ?_
    refine i_287_2041 ?_
    refine i_287_2042 (c := 1) (by decide) ?_
    refine i_287_2043 (v := Value.int (xs 1)) (xga W0_0) (by decide) (by decide) rfl ?_
    refine i_287_2044 (x := 0) rfl ?_
    refine i_287_2045 (x := 0) rfl ?_
    refine i_287_2047 ?_
    refine i_287_2048 (c := 2) (by decide) ?_
    refine i_287_2049 (v := Value.int (xs 2)) (xga W0_0) (by decide) (by decide) rfl ?_
    refine i_287_2050 (x := 0) rfl ?_
    refine i_287_2051 (x := 0) rfl ?_
    refine i_287_2053 ?_
    refine i_287_2054 (c := 3) (by decide) ?_
    refine i_287_2055 (v := Value.int (xs 3)) (xga W0_0) (by decide) (by decide) rfl ?_
    refine i_287_2056 (x := 0) rfl ?_
    refine i_287_2057 (x := 0) rfl ?_
    refine i_287_2059 ?_
    refine i_287_2060 (c := 4) (by decide) ?_
    refine i_287_2061 (v := Value.int (xs 4)) (xga W0_0) (by decide) (by decide) rfl ?_
    refine i_287_2062 (xga W0_128) (Nat.le_of_ble_eq_true rfl) (p_263_2 (xga W0_128) (by omega) (by omega) (by omega) (by omega)) ?_
    refine i_287_2065 (lv2 := [(6, Value.int 0), (5, Value.int 1), (4, Value.int 0), (3, Value.ref 194), (2, Value.ref 128), (1, Value.ref 7), (0, Value.ref 0)]) rfl ?_
    refine i_287_2067 (x := 128) rfl ?_
    refine i_287_2068 (xgs (xga (xgs (xga W0_128)))) (Nat.le_of_ble_eq_true rfl) (p_165_0 (xgs (xga (xgs (xga W0_128))))) ?_
    refine i_287_2071 (x := 1) rfl ?_
    refine i_287_2073 (fun _ => ?_) (fun h => absurd h (by decide))
    refine i_287_2078 (x := 1) rfl ?_
    refine i_287_2080 (fun _ => ?_) (fun h => absurd h (by decide))
    refine i_287_2095 ?_
    refine i_287_2154 (x := 0) (c := 6) (lv2 := [(4, Value.int 6), (6, Value.int 0), (5, Value.int 1), (3, Value.ref 194), (2, Value.ref 128), (1, Value.ref 7), (0, Value.ref 0)]) rfl (by decide) rfl ?_
    refine i_287_2157 ?_
    refine i_287_23 (x := 6) rfl ?_
    refine i_287_25 (x := 0) rfl ?_
    refine i_287_26 (c := 6) (xgn (by decide) (xga (xgn (by decide) (xga W0_0)))) (by decide) ?_
    refine i_287_27 ?_
    refine i_287_29 (c := 0) (by decide) ?_
    refine i_287_30 (fun _ => ?_) (fun h => absurd h (by decide))
    refine i_287_2160 ?_
    exact i_287_2161 rfl ⟨rfl, rfl⟩
  · refine xLs.set ?_ (xga (xgs (xga W0_128))) xcs_o
    refine xLs.app (n := 219) (z := 199994) (m := 6) ?_ rfl
    refine xLs.set ?_ (xga W0_128) xcs_o
    refine xLs.app (n := 218) (z := 199988) (m := 6) ?_ rfl
    exact ⟨Nat.le_trans (Nat.le_of_eq W0_len) (by decide), Nat.le_trans (Nat.le_of_eq W0_sz) (by decide)⟩
theorem p_151_3 {d : Nat} {w : xW} {a0 : Int32} {a1 : Int32} {a2 : Int32} {a3 : Int32} (e0 : 0 ≤ a0.toInt) (e1 : a0.toInt < 16) (e2 : 2 ≤ a1.toInt) (e3 : a1.toInt ≤ 36) (e4 : a2.toInt < 0) : xRun (d + 6) 151 [Value.ref 7, Value.int a0, Value.int a1, Value.int a2, Value.int a3] w (.inr w.length) (w ++ [Sum.inr (14, [])]) := by
  refine xRun.of ?_
  refine i_151_0 (x := a0) rfl ?_
  refine i_151_1 (Nat.le_of_ble_eq_true rfl) (p_15_1 e0 e1) ?_
  refine i_151_4 (fun h => absurd h (by decide)) (fun _ => ?_)
  refine i_151_7 (x := a1) rfl ?_
  refine i_151_8 ?_
  refine i_151_9 (fun h => absurd e2 (Int.not_le.mpr h)) (fun _ => ?_)
  refine i_151_12 (x := a1) rfl ?_
  refine i_151_13 ?_
  refine i_151_15 (fun h => absurd e3 (Int.not_le.mpr h)) (fun _ => ?_)
  refine i_151_18 (x := a2) rfl ?_
  refine i_151_19 (fun _ => ?_) (fun h => absurd e4 (Int.not_lt.mpr h))
  exact i_151_37 (by omega) (Nat.le_of_ble_eq_true rfl) ⟨rfl, rfl⟩
theorem p_150_3 {d : Nat} {w : xW} {a0 : Int32} {a1 : Int32} {a2 : Int32} {a3 : Int32} (hw0 : w[7]? = some (Sum.inr (0, [Value.ref 8, Value.ref 78, Value.ref 9, Value.ref 10, Value.ref 13, Value.ref 16, Value.ref 19, Value.ref 93, Value.ref 108, Value.ref 113, Value.ref 29, Value.int 0]))) (e1 : 0 ≤ a0.toInt) (e2 : a0.toInt < 16) (e3 : 2 ≤ a1.toInt) (e4 : a1.toInt ≤ 36) (e5 : a2.toInt < 0) : xRun (d + 7) 150 [Value.ref 7, Value.int a0, Value.int a1, Value.int a2, Value.int a3, Value.ref 194] w (.inl (some (Value.int 1))) (w ++ [Sum.inr (14, [])]) := by
  refine xRun.of ?_
  refine i_150_0 (x := 194) rfl ?_
  refine i_150_2 ?_
  refine i_150_3 (x := 7) rfl ?_
  refine i_150_4 (x := a0) rfl ?_
  refine i_150_5 (x := a1) rfl ?_
  refine i_150_6 (x := a2) rfl ?_
  refine i_150_7 (x := a3) rfl ?_
  refine j_150_9 hw0 (Nat.le_of_ble_eq_true rfl) (p_151_3 e1 e2 e3 e4 e5) (xDone.c xgl rfl rfl ?_)
  refine i_150_17 (lv2 := [(6, Value.ref w.length), (0, Value.ref 7), (1, Value.int a0), (2, Value.int a1), (3, Value.int a2), (4, Value.int a3), (5, Value.ref 194)]) rfl ?_
  refine i_150_19 ?_
  exact i_150_20 ⟨rfl, rfl⟩
theorem p_169_36 {d : Nat} {w : xW} {a0 : Int32} (e0 : a0.toInt < 0) : xRun d 169 [Value.int a0, Value.int 0, Value.int 2000] w (.inl (some (Value.int 0))) w := by
  refine xRun.of ?_
  refine i_169_0 (x := a0) rfl ?_
  refine i_169_1 (x := 0) rfl ?_
  refine i_169_2 (fun _ => ?_) (fun h => absurd e0 (Int.not_lt.mpr h))
  refine i_169_14 ?_
  exact i_169_15 rfl ⟨rfl, rfl⟩
theorem p_264_3 {d : Nat} {w : xW} {a0 : Int32} {a1 : Int32} {a2 : Int32} {a3 : Int32} (e0 : 0 ≤ a0.toInt) (e1 : a0.toInt ≤ 15) (e2 : 2 ≤ a1.toInt) (e3 : a1.toInt ≤ 36) (e4 : a2.toInt < 0) : xRun (d + 7) 264 [Value.ref 128, Value.int a0, Value.int a1, Value.int a2, Value.int a3] w (.inr w.length) (w ++ [Sum.inr (14, [])]) := by
  refine xRun.of ?_
  refine i_264_0 (x := a0) rfl ?_
  refine i_264_1 (Nat.le_of_ble_eq_true rfl) (p_168_1 e0 e1) ?_
  refine i_264_4 (x := a1) rfl ?_
  refine i_264_5 ?_
  refine i_264_6 ?_
  refine i_264_8 (Nat.le_of_ble_eq_true rfl) (p_169_35 e2 e3) ?_
  refine i_264_11 (fun h => absurd h (by decide)) (fun _ => ?_)
  refine i_264_14 (x := a2) rfl ?_
  refine i_264_15 ?_
  refine i_264_16 ?_
  refine i_264_19 (Nat.le_of_ble_eq_true rfl) (p_169_36 e4) ?_
  refine i_264_22 (fun _ => ?_) (fun h => absurd h (by decide))
  refine i_264_29 ?_
  exact j_264_30 (Nat.le_of_ble_eq_true rfl) (p_170_0) (xDone.t xgl rfl rfl ⟨rfl, rfl⟩)
theorem p_263_3 {d : Nat} {w : xW} {a0 : Int32} {a1 : Int32} {a2 : Int32} {a3 : Int32} (hw0 : w[128]? = some (Sum.inr (12, [Value.ref 129, Value.ref 131, Value.ref 133, Value.ref 135, Value.ref 137, Value.ref 139, Value.ref 141, Value.ref 143, Value.ref 145, Value.ref 147, Value.ref 149, Value.ref 151, Value.ref 153, Value.ref 154, Value.ref 155, Value.ref 156, Value.ref 157, Value.int (-16384), Value.int 16384, Value.int 0, Value.int 0, Value.int 0, Value.ref 158, Value.ref 159, Value.int 0, Value.int 0, Value.int 0, Value.int 0, Value.int 0, Value.int 0, Value.int 0, Value.int 0]))) (e1 : 0 ≤ a0.toInt) (e2 : a0.toInt ≤ 15) (e3 : 2 ≤ a1.toInt) (e4 : a1.toInt ≤ 36) (e5 : a2.toInt < 0) : xRun (d + 8) 263 [Value.ref 128, Value.int a0, Value.int a1, Value.int a2, Value.int a3] w (.inl (some (Value.int 0))) (((w.set 128 (Sum.inr (12, [Value.ref 129, Value.ref 131, Value.ref 133, Value.ref 135, Value.ref 137, Value.ref 139, Value.ref 141, Value.ref 143, Value.ref 145, Value.ref 147, Value.ref 149, Value.ref 151, Value.ref 153, Value.ref 154, Value.ref 155, Value.ref 156, Value.ref 157, Value.int (-16384), Value.int 16384, Value.int 0, Value.int 0, Value.int 0, Value.ref 158, Value.ref 159, Value.int 0, Value.int 0, Value.int 0, Value.int 0, Value.int 0, Value.int 0, Value.int 0, Value.int 0]))) ++ [Sum.inr (14, [])]).set 128 (Sum.inr (12, [Value.ref 129, Value.ref 131, Value.ref 133, Value.ref 135, Value.ref 137, Value.ref 139, Value.ref 141, Value.ref 143, Value.ref 145, Value.ref 147, Value.ref 149, Value.ref 151, Value.ref 153, Value.ref 154, Value.ref 155, Value.ref 156, Value.ref 157, Value.int (-16384), Value.int 16384, Value.int 0, Value.int 0, Value.int 0, Value.ref 158, Value.ref 159, Value.int 0, Value.int 0, Value.int 0, Value.int 0, Value.int 0, Value.int 0, Value.int 0, Value.int 1]))) := by
  refine xRun.of ?_
  refine i_263_0 (x := 128) rfl ?_
  refine i_263_1 ?_
  refine i_263_2 (fs2 := [Value.ref 129, Value.ref 131, Value.ref 133, Value.ref 135, Value.ref 137, Value.ref 139, Value.ref 141, Value.ref 143, Value.ref 145, Value.ref 147, Value.ref 149, Value.ref 151, Value.ref 153, Value.ref 154, Value.ref 155, Value.ref 156, Value.ref 157, Value.int (-16384), Value.int 16384, Value.int 0, Value.int 0, Value.int 0, Value.ref 158, Value.ref 159, Value.int 0, Value.int 0, Value.int 0, Value.int 0, Value.int 0, Value.int 0, Value.int 0, Value.int 0]) hw0 (Nat.le_of_ble_eq_true rfl) rfl (by decide) ?_
  refine i_263_5 (x := 128) rfl ?_
  refine i_263_6 (x := a0) rfl ?_
  refine i_263_7 (x := a1) rfl ?_
  refine i_263_8 (x := a2) rfl ?_
  refine i_263_9 (x := a3) rfl ?_
  refine j_263_11 (xgs hw0) (Nat.le_of_ble_eq_true rfl) (p_264_3 e1 e2 e3 e4 e5) (xDone.c xgl rfl rfl ?_)
  refine i_263_15 (lv2 := [(5, Value.ref ((w.set 128 (Sum.inr (12, [Value.ref 129, Value.ref 131, Value.ref 133, Value.ref 135, Value.ref 137, Value.ref 139, Value.ref 141, Value.ref 143, Value.ref 145, Value.ref 147, Value.ref 149, Value.ref 151, Value.ref 153, Value.ref 154, Value.ref 155, Value.ref 156, Value.ref 157, Value.int (-16384), Value.int 16384, Value.int 0, Value.int 0, Value.int 0, Value.ref 158, Value.ref 159, Value.int 0, Value.int 0, Value.int 0, Value.int 0, Value.int 0, Value.int 0, Value.int 0, Value.int 0]))).length)), (0, Value.ref 128), (1, Value.int a0), (2, Value.int a1), (3, Value.int a2), (4, Value.int a3)]) rfl ?_
  refine i_263_17 (x := 128) rfl ?_
  refine i_263_18 ?_
  refine i_263_19 (fs2 := [Value.ref 129, Value.ref 131, Value.ref 133, Value.ref 135, Value.ref 137, Value.ref 139, Value.ref 141, Value.ref 143, Value.ref 145, Value.ref 147, Value.ref 149, Value.ref 151, Value.ref 153, Value.ref 154, Value.ref 155, Value.ref 156, Value.ref 157, Value.int (-16384), Value.int 16384, Value.int 0, Value.int 0, Value.int 0, Value.ref 158, Value.ref 159, Value.int 0, Value.int 0, Value.int 0, Value.int 0, Value.int 0, Value.int 0, Value.int 0, Value.int 1]) (xga (xgs hw0)) (Nat.le_of_ble_eq_true rfl) rfl (by decide) ?_
  refine i_263_22 ?_
  refine i_263_32 ?_
  exact i_263_33 ⟨rfl, rfl⟩
theorem o_22_3 {d : Nat} {xs : Nat → Int32} (h0 : ((xs 0) &&& (31 : Int32)).toInt = 22) (c0 : 0 ≤ (xs 1).toInt) (c1 : (xs 1).toInt < 16) (c2 : 2 ≤ (xs 2).toInt) (c3 : (xs 2).toInt ≤ 36) (c4 : (xs 3).toInt < 0) : ∃ w1, xEv (d + 20) 287 23 [(4, Value.int 0), (3, Value.ref 194), (2, Value.ref 128), (1, Value.ref 7), (0, Value.ref 0)] [] (W0 6 xs) (fun o' w' => o' = .inl (some (Value.int 1)) ∧ w' = w1) ∧ w1.length ≤ 220 ∧ xsz w1 ≤ 200000 := by
  refine ⟨(((((W0 6 xs) ++ [Sum.inr (14, [])]).set 128 (Sum.inr (12, [Value.ref 129, Value.ref 131, Value.ref 133, Value.ref 135, Value.ref 137, Value.ref 139, Value.ref 141, Value.ref 143, Value.ref 145, Value.ref 147, Value.ref 149, Value.ref 151, Value.ref 153, Value.ref 154, Value.ref 155, Value.ref 156, Value.ref 157, Value.int (-16384), Value.int 16384, Value.int 0, Value.int 0, Value.int 0, Value.ref 158, Value.ref 159, Value.int 0, Value.int 0, Value.int 0, Value.int 0, Value.int 0, Value.int 0, Value.int 0, Value.int 0]))) ++ [Sum.inr (14, [])]).set 128 (Sum.inr (12, [Value.ref 129, Value.ref 131, Value.ref 133, Value.ref 135, Value.ref 137, Value.ref 139, Value.ref 141, Value.ref 143, Value.ref 145, Value.ref 147, Value.ref 149, Value.ref 151, Value.ref 153, Value.ref 154, Value.ref 155, Value.ref 156, Value.ref 157, Value.int (-16384), Value.int 16384, Value.int 0, Value.int 0, Value.int 0, Value.ref 158, Value.ref 159, Value.int 0, Value.int 0, Value.int 0, Value.int 0, Value.int 0, Value.int 0, Value.int 0, Value.int 1]))), ?_, (show xLs _ 220 200000 from ?_)⟩
  · refine i_287_23 (x := 0) rfl ?_
    refine i_287_25 (x := 0) rfl ?_
    refine i_287_26 (c := 6) W0_0 (by decide) ?_
    refine i_287_27 ?_
    refine i_287_29 (c := 0) (by decide) ?_
    refine i_287_30 (fun h => absurd h (by decide)) (fun _ => ?_)
    refine i_287_33 (x := 0) rfl ?_
    refine i_287_34 (x := 0) rfl ?_
    refine i_287_36 (v := Value.int (xs 0)) W0_0 (by decide) (by decide) rfl ?_
    refine i_287_37 ?_
    refine i_287_39 (c := ((xs 0) &&& (31 : Int32))) rfl ?_
    refine i_287_40_22 (by omega) ?_
    refine i_287_2006 (x := 7) rfl ?_
    refine i_287_2007 (x := 0) rfl ?_
    refine i_287_2008 (x := 0) rfl ?_
    refine i_287_2010 ?_
    refine i_287_2011 (c := 1) (by decide) ?_
    refine i_287_2012 (v := Value.int (xs 1)) W0_0 (by decide) (by decide) rfl ?_
    refine i_287_2013 (x := 0) rfl ?_
    refine i_287_2014 (x := 0) rfl ?_
    refine i_287_2016 ?_
    refine i_287_2017 (c := 2) (by decide) ?_
    refine i_287_2018 (v := Value.int (xs 2)) W0_0 (by decide) (by decide) rfl ?_
    refine i_287_2019 (x := 0) rfl ?_
    refine i_287_2020 (x := 0) rfl ?_
    refine i_287_2022 ?_
    refine i_287_2023 (c := 3) (by decide) ?_
    refine i_287_2024 (v := Value.int (xs 3)) W0_0 (by decide) (by decide) rfl ?_
    refine i_287_2025 (x := 0) rfl ?_
    refine i_287_2026 (x := 0) rfl ?_
    refine i_287_2028 ?_
    refine i_287_2029 (c := 4) (by decide) ?_
    refine i_287_2030 (v := Value.int (xs 4)) W0_0 (by decide) (by decide) rfl ?_
    refine i_287_2031 (x := 194) rfl ?_
    refine i_287_2032 (Nat.le_of_ble_eq_true rfl) (p_150_3 W0_7 (by omega) (by omega) (by omega) (by omega) (by omega)) ?_
    refine i_287_2035 (lv2 := [(5, Value.int 1), (4, Value.int 0), (3, Value.ref 194), (2, Value.ref 128), (1, Value.ref 7), (0, Value.ref 0)]) rfl ?_
    refine i_287_2037 (x := 128) rfl ?_
    refine i_287_2038 (x := 0) rfl ?_
    refine i_287_2039 (x := 0) rfl ?_
    refine i_287_2041 ?_
    refine i_287_2042 (c := 1) (by decide) ?_
    refine i_287_2043 (v := Value.int (xs 1)) (xga W0_0) (by decide) (by decide) rfl ?_
    refine i_287_2044 (x := 0) rfl ?_
    refine i_287_2045 (x := 0) rfl ?_
    refine i_287_2047 ?_
    refine i_287_2048 (c := 2) (by decide) ?_
    refine i_287_2049 (v := Value.int (xs 2)) (xga W0_0) (by decide) (by decide) rfl ?_
    refine i_287_2050 (x := 0) rfl ?_
    refine i_287_2051 (x := 0) rfl ?_
    refine i_287_2053 ?_
    refine i_287_2054 (c := 3) (by decide) ?_
    refine i_287_2055 (v := Value.int (xs 3)) (xga W0_0) (by decide) (by decide) rfl ?_
    refine i_287_2056 (x := 0) rfl ?_
    refine i_287_2057 (x := 0) rfl ?_
    refine i_287_2059 ?_
    refine i_287_2060 (c := 4) (by decide) ?_
    refine i_287_2061 (v := Value.int (xs 4)) (xga W0_0) (by decide) (by decide) rfl ?_
    refine i_287_2062 (xga W0_128) (Nat.le_of_ble_eq_true rfl) (p_263_3 (xga W0_128) (by omega) (by omega) (by omega) (by omega) (by omega)) ?_
    refine i_287_2065 (lv2 := [(6, Value.int 0), (5, Value.int 1), (4, Value.int 0), (3, Value.ref 194), (2, Value.ref 128), (1, Value.ref 7), (0, Value.ref 0)]) rfl ?_
    refine i_287_2067 (x := 128) rfl ?_
    refine i_287_2068 (xgs (xga (xgs (xga W0_128)))) (Nat.le_of_ble_eq_true rfl) (p_165_0 (xgs (xga (xgs (xga W0_128))))) ?_
    refine i_287_2071 (x := 1) rfl ?_
    refine i_287_2073 (fun _ => ?_) (fun h => absurd h (by decide))
    refine i_287_2078 (x := 1) rfl ?_
    refine i_287_2080 (fun _ => ?_) (fun h => absurd h (by decide))
    refine i_287_2095 ?_
    refine i_287_2154 (x := 0) (c := 6) (lv2 := [(4, Value.int 6), (6, Value.int 0), (5, Value.int 1), (3, Value.ref 194), (2, Value.ref 128), (1, Value.ref 7), (0, Value.ref 0)]) rfl (by decide) rfl ?_
    refine i_287_2157 ?_
    refine i_287_23 (x := 6) rfl ?_
    refine i_287_25 (x := 0) rfl ?_
    refine i_287_26 (c := 6) (xgn (by decide) (xga (xgn (by decide) (xga W0_0)))) (by decide) ?_
    refine i_287_27 ?_
    refine i_287_29 (c := 0) (by decide) ?_
    refine i_287_30 (fun _ => ?_) (fun h => absurd h (by decide))
    refine i_287_2160 ?_
    exact i_287_2161 rfl ⟨rfl, rfl⟩
  · refine xLs.set ?_ (xga (xgs (xga W0_128))) xcs_o
    refine xLs.app (n := 219) (z := 199994) (m := 6) ?_ rfl
    refine xLs.set ?_ (xga W0_128) xcs_o
    refine xLs.app (n := 218) (z := 199988) (m := 6) ?_ rfl
    exact ⟨Nat.le_trans (Nat.le_of_eq W0_len) (by decide), Nat.le_trans (Nat.le_of_eq W0_sz) (by decide)⟩
theorem p_151_4 {d : Nat} {w : xW} {a0 : Int32} {a1 : Int32} {a2 : Int32} {a3 : Int32} (e0 : 0 ≤ a0.toInt) (e1 : a0.toInt < 16) (e2 : 2 ≤ a1.toInt) (e3 : a1.toInt ≤ 36) (e4 : 0 ≤ a2.toInt) (e5 : 2000 < a2.toInt) : xRun (d + 6) 151 [Value.ref 7, Value.int a0, Value.int a1, Value.int a2, Value.int a3] w (.inr w.length) (w ++ [Sum.inr (14, [])]) := by
  refine xRun.of ?_
  refine i_151_0 (x := a0) rfl ?_
  refine i_151_1 (Nat.le_of_ble_eq_true rfl) (p_15_1 e0 e1) ?_
  refine i_151_4 (fun h => absurd h (by decide)) (fun _ => ?_)
  refine i_151_7 (x := a1) rfl ?_
  refine i_151_8 ?_
  refine i_151_9 (fun h => absurd e2 (Int.not_le.mpr h)) (fun _ => ?_)
  refine i_151_12 (x := a1) rfl ?_
  refine i_151_13 ?_
  refine i_151_15 (fun h => absurd e3 (Int.not_le.mpr h)) (fun _ => ?_)
  refine i_151_18 (x := a2) rfl ?_
  refine i_151_19 (fun h => absurd e4 (Int.not_le.mpr h)) (fun _ => ?_)
  refine i_151_22 (x := a2) rfl ?_
  refine i_151_23 ?_
  refine i_151_26 (fun _ => ?_) (fun h => absurd e5 (Int.not_lt.mpr h))
  exact i_151_37 (by omega) (Nat.le_of_ble_eq_true rfl) ⟨rfl, rfl⟩
theorem p_150_4 {d : Nat} {w : xW} {a0 : Int32} {a1 : Int32} {a2 : Int32} {a3 : Int32} (hw0 : w[7]? = some (Sum.inr (0, [Value.ref 8, Value.ref 78, Value.ref 9, Value.ref 10, Value.ref 13, Value.ref 16, Value.ref 19, Value.ref 93, Value.ref 108, Value.ref 113, Value.ref 29, Value.int 0]))) (e1 : 0 ≤ a0.toInt) (e2 : a0.toInt < 16) (e3 : 2 ≤ a1.toInt) (e4 : a1.toInt ≤ 36) (e5 : 0 ≤ a2.toInt) (e6 : 2000 < a2.toInt) : xRun (d + 7) 150 [Value.ref 7, Value.int a0, Value.int a1, Value.int a2, Value.int a3, Value.ref 194] w (.inl (some (Value.int 1))) (w ++ [Sum.inr (14, [])]) := by
  refine xRun.of ?_
  refine i_150_0 (x := 194) rfl ?_
  refine i_150_2 ?_
  refine i_150_3 (x := 7) rfl ?_
  refine i_150_4 (x := a0) rfl ?_
  refine i_150_5 (x := a1) rfl ?_
  refine i_150_6 (x := a2) rfl ?_
  refine i_150_7 (x := a3) rfl ?_
  refine j_150_9 hw0 (Nat.le_of_ble_eq_true rfl) (p_151_4 e1 e2 e3 e4 e5 e6) (xDone.c xgl rfl rfl ?_)
  refine i_150_17 (lv2 := [(6, Value.ref w.length), (0, Value.ref 7), (1, Value.int a0), (2, Value.int a1), (3, Value.int a2), (4, Value.int a3), (5, Value.ref 194)]) rfl ?_
  refine i_150_19 ?_
  exact i_150_20 ⟨rfl, rfl⟩
theorem p_169_37 {d : Nat} {w : xW} {a0 : Int32} (e0 : 0 ≤ a0.toInt) (e1 : 2000 < a0.toInt) : xRun d 169 [Value.int a0, Value.int 0, Value.int 2000] w (.inl (some (Value.int 0))) w := by
  refine xRun.of ?_
  refine i_169_0 (x := a0) rfl ?_
  refine i_169_1 (x := 0) rfl ?_
  refine i_169_2 (fun h => absurd e0 (Int.not_le.mpr h)) (fun _ => ?_)
  refine i_169_5 (x := a0) rfl ?_
  refine i_169_6 (x := 2000) rfl ?_
  refine i_169_7 (fun _ => ?_) (fun h => absurd e1 (Int.not_lt.mpr h))
  refine i_169_14 ?_
  exact i_169_15 rfl ⟨rfl, rfl⟩
theorem p_264_4 {d : Nat} {w : xW} {a0 : Int32} {a1 : Int32} {a2 : Int32} {a3 : Int32} (e0 : 0 ≤ a0.toInt) (e1 : a0.toInt ≤ 15) (e2 : 2 ≤ a1.toInt) (e3 : a1.toInt ≤ 36) (e4 : 0 ≤ a2.toInt) (e5 : 2000 < a2.toInt) : xRun (d + 7) 264 [Value.ref 128, Value.int a0, Value.int a1, Value.int a2, Value.int a3] w (.inr w.length) (w ++ [Sum.inr (14, [])]) := by
  refine xRun.of ?_
  refine i_264_0 (x := a0) rfl ?_
  refine i_264_1 (Nat.le_of_ble_eq_true rfl) (p_168_1 e0 e1) ?_
  refine i_264_4 (x := a1) rfl ?_
  refine i_264_5 ?_
  refine i_264_6 ?_
  refine i_264_8 (Nat.le_of_ble_eq_true rfl) (p_169_35 e2 e3) ?_
  refine i_264_11 (fun h => absurd h (by decide)) (fun _ => ?_)
  refine i_264_14 (x := a2) rfl ?_
  refine i_264_15 ?_
  refine i_264_16 ?_
  refine i_264_19 (Nat.le_of_ble_eq_true rfl) (p_169_37 e4 e5) ?_
  refine i_264_22 (fun _ => ?_) (fun h => absurd h (by decide))
  refine i_264_29 ?_
  exact j_264_30 (Nat.le_of_ble_eq_true rfl) (p_170_0) (xDone.t xgl rfl rfl ⟨rfl, rfl⟩)
theorem p_263_4 {d : Nat} {w : xW} {a0 : Int32} {a1 : Int32} {a2 : Int32} {a3 : Int32} (hw0 : w[128]? = some (Sum.inr (12, [Value.ref 129, Value.ref 131, Value.ref 133, Value.ref 135, Value.ref 137, Value.ref 139, Value.ref 141, Value.ref 143, Value.ref 145, Value.ref 147, Value.ref 149, Value.ref 151, Value.ref 153, Value.ref 154, Value.ref 155, Value.ref 156, Value.ref 157, Value.int (-16384), Value.int 16384, Value.int 0, Value.int 0, Value.int 0, Value.ref 158, Value.ref 159, Value.int 0, Value.int 0, Value.int 0, Value.int 0, Value.int 0, Value.int 0, Value.int 0, Value.int 0]))) (e1 : 0 ≤ a0.toInt) (e2 : a0.toInt ≤ 15) (e3 : 2 ≤ a1.toInt) (e4 : a1.toInt ≤ 36) (e5 : 0 ≤ a2.toInt) (e6 : 2000 < a2.toInt) : xRun (d + 8) 263 [Value.ref 128, Value.int a0, Value.int a1, Value.int a2, Value.int a3] w (.inl (some (Value.int 0))) (((w.set 128 (Sum.inr (12, [Value.ref 129, Value.ref 131, Value.ref 133, Value.ref 135, Value.ref 137, Value.ref 139, Value.ref 141, Value.ref 143, Value.ref 145, Value.ref 147, Value.ref 149, Value.ref 151, Value.ref 153, Value.ref 154, Value.ref 155, Value.ref 156, Value.ref 157, Value.int (-16384), Value.int 16384, Value.int 0, Value.int 0, Value.int 0, Value.ref 158, Value.ref 159, Value.int 0, Value.int 0, Value.int 0, Value.int 0, Value.int 0, Value.int 0, Value.int 0, Value.int 0]))) ++ [Sum.inr (14, [])]).set 128 (Sum.inr (12, [Value.ref 129, Value.ref 131, Value.ref 133, Value.ref 135, Value.ref 137, Value.ref 139, Value.ref 141, Value.ref 143, Value.ref 145, Value.ref 147, Value.ref 149, Value.ref 151, Value.ref 153, Value.ref 154, Value.ref 155, Value.ref 156, Value.ref 157, Value.int (-16384), Value.int 16384, Value.int 0, Value.int 0, Value.int 0, Value.ref 158, Value.ref 159, Value.int 0, Value.int 0, Value.int 0, Value.int 0, Value.int 0, Value.int 0, Value.int 0, Value.int 1]))) := by
  refine xRun.of ?_
  refine i_263_0 (x := 128) rfl ?_
  refine i_263_1 ?_
  refine i_263_2 (fs2 := [Value.ref 129, Value.ref 131, Value.ref 133, Value.ref 135, Value.ref 137, Value.ref 139, Value.ref 141, Value.ref 143, Value.ref 145, Value.ref 147, Value.ref 149, Value.ref 151, Value.ref 153, Value.ref 154, Value.ref 155, Value.ref 156, Value.ref 157, Value.int (-16384), Value.int 16384, Value.int 0, Value.int 0, Value.int 0, Value.ref 158, Value.ref 159, Value.int 0, Value.int 0, Value.int 0, Value.int 0, Value.int 0, Value.int 0, Value.int 0, Value.int 0]) hw0 (Nat.le_of_ble_eq_true rfl) rfl (by decide) ?_
  refine i_263_5 (x := 128) rfl ?_
  refine i_263_6 (x := a0) rfl ?_
  refine i_263_7 (x := a1) rfl ?_
  refine i_263_8 (x := a2) rfl ?_
  refine i_263_9 (x := a3) rfl ?_
  refine j_263_11 (xgs hw0) (Nat.le_of_ble_eq_true rfl) (p_264_4 e1 e2 e3 e4 e5 e6) (xDone.c xgl rfl rfl ?_)
  refine i_263_15 (lv2 := [(5, Value.ref ((w.set 128 (Sum.inr (12, [Value.ref 129, Value.ref 131, Value.ref 133, Value.ref 135, Value.ref 137, Value.ref 139, Value.ref 141, Value.ref 143, Value.ref 145, Value.ref 147, Value.ref 149, Value.ref 151, Value.ref 153, Value.ref 154, Value.ref 155, Value.ref 156, Value.ref 157, Value.int (-16384), Value.int 16384, Value.int 0, Value.int 0, Value.int 0, Value.ref 158, Value.ref 159, Value.int 0, Value.int 0, Value.int 0, Value.int 0, Value.int 0, Value.int 0, Value.int 0, Value.int 0]))).length)), (0, Value.ref 128), (1, Value.int a0), (2, Value.int a1), (3, Value.int a2), (4, Value.int a3)]) rfl ?_
  refine i_263_17 (x := 128) rfl ?_
  refine i_263_18 ?_
  refine i_263_19 (fs2 := [Value.ref 129, Value.ref 131, Value.ref 133, Value.ref 135, Value.ref 137, Value.ref 139, Value.ref 141, Value.ref 143, Value.ref 145, Value.ref 147, Value.ref 149, Value.ref 151, Value.ref 153, Value.ref 154, Value.ref 155, Value.ref 156, Value.ref 157, Value.int (-16384), Value.int 16384, Value.int 0, Value.int 0, Value.int 0, Value.ref 158, Value.ref 159, Value.int 0, Value.int 0, Value.int 0, Value.int 0, Value.int 0, Value.int 0, Value.int 0, Value.int 1]) (xga (xgs hw0)) (Nat.le_of_ble_eq_true rfl) rfl (by decide) ?_
  refine i_263_22 ?_
  refine i_263_32 ?_
  exact i_263_33 ⟨rfl, rfl⟩
theorem o_22_4 {d : Nat} {xs : Nat → Int32} (h0 : ((xs 0) &&& (31 : Int32)).toInt = 22) (c0 : 0 ≤ (xs 1).toInt) (c1 : (xs 1).toInt < 16) (c2 : 2 ≤ (xs 2).toInt) (c3 : (xs 2).toInt ≤ 36) (c4 : 0 ≤ (xs 3).toInt) (c5 : 2000 < (xs 3).toInt) : ∃ w1, xEv (d + 20) 287 23 [(4, Value.int 0), (3, Value.ref 194), (2, Value.ref 128), (1, Value.ref 7), (0, Value.ref 0)] [] (W0 6 xs) (fun o' w' => o' = .inl (some (Value.int 1)) ∧ w' = w1) ∧ w1.length ≤ 220 ∧ xsz w1 ≤ 200000 := by
  refine ⟨(((((W0 6 xs) ++ [Sum.inr (14, [])]).set 128 (Sum.inr (12, [Value.ref 129, Value.ref 131, Value.ref 133, Value.ref 135, Value.ref 137, Value.ref 139, Value.ref 141, Value.ref 143, Value.ref 145, Value.ref 147, Value.ref 149, Value.ref 151, Value.ref 153, Value.ref 154, Value.ref 155, Value.ref 156, Value.ref 157, Value.int (-16384), Value.int 16384, Value.int 0, Value.int 0, Value.int 0, Value.ref 158, Value.ref 159, Value.int 0, Value.int 0, Value.int 0, Value.int 0, Value.int 0, Value.int 0, Value.int 0, Value.int 0]))) ++ [Sum.inr (14, [])]).set 128 (Sum.inr (12, [Value.ref 129, Value.ref 131, Value.ref 133, Value.ref 135, Value.ref 137, Value.ref 139, Value.ref 141, Value.ref 143, Value.ref 145, Value.ref 147, Value.ref 149, Value.ref 151, Value.ref 153, Value.ref 154, Value.ref 155, Value.ref 156, Value.ref 157, Value.int (-16384), Value.int 16384, Value.int 0, Value.int 0, Value.int 0, Value.ref 158, Value.ref 159, Value.int 0, Value.int 0, Value.int 0, Value.int 0, Value.int 0, Value.int 0, Value.int 0, Value.int 1]))), ?_, (show xLs _ 220 200000 from ?_)⟩
  · refine i_287_23 (x := 0) rfl ?_
    refine i_287_25 (x := 0) rfl ?_
    refine i_287_26 (c := 6) W0_0 (by decide) ?_
    refine i_287_27 ?_
    refine i_287_29 (c := 0) (by decide) ?_
    refine i_287_30 (fun h => absurd h (by decide)) (fun _ => ?_)
    refine i_287_33 (x := 0) rfl ?_
    refine i_287_34 (x := 0) rfl ?_
    refine i_287_36 (v := Value.int (xs 0)) W0_0 (by decide) (by decide) rfl ?_
    refine i_287_37 ?_
    refine i_287_39 (c := ((xs 0) &&& (31 : Int32))) rfl ?_
    refine i_287_40_22 (by omega) ?_
    refine i_287_2006 (x := 7) rfl ?_
    refine i_287_2007 (x := 0) rfl ?_
    refine i_287_2008 (x := 0) rfl ?_
    refine i_287_2010 ?_
    refine i_287_2011 (c := 1) (by decide) ?_
    refine i_287_2012 (v := Value.int (xs 1)) W0_0 (by decide) (by decide) rfl ?_
    refine i_287_2013 (x := 0) rfl ?_
    refine i_287_2014 (x := 0) rfl ?_
    refine i_287_2016 ?_
    refine i_287_2017 (c := 2) (by decide) ?_
    refine i_287_2018 (v := Value.int (xs 2)) W0_0 (by decide) (by decide) rfl ?_
    refine i_287_2019 (x := 0) rfl ?_
    refine i_287_2020 (x := 0) rfl ?_
    refine i_287_2022 ?_
    refine i_287_2023 (c := 3) (by decide) ?_
    refine i_287_2024 (v := Value.int (xs 3)) W0_0 (by decide) (by decide) rfl ?_
    refine i_287_2025 (x := 0) rfl ?_
    refine i_287_2026 (x := 0) rfl ?_
    refine i_287_2028 ?_
    refine i_287_2029 (c := 4) (by decide) ?_
    refine i_287_2030 (v := Value.int (xs 4)) W0_0 (by decide) (by decide) rfl ?_
    refine i_287_2031 (x := 194) rfl ?_
    refine i_287_2032 (Nat.le_of_ble_eq_true rfl) (p_150_4 W0_7 (by omega) (by omega) (by omega) (by omega) (by omega) (by omega)) ?_
    refine i_287_2035 (lv2 := [(5, Value.int 1), (4, Value.int 0), (3, Value.ref 194), (2, Value.ref 128), (1, Value.ref 7), (0, Value.ref 0)]) rfl ?_
    refine i_287_2037 (x := 128) rfl ?_
    refine i_287_2038 (x := 0) rfl ?_
    refine i_287_2039 (x := 0) rfl ?_
    refine i_287_2041 ?_
    refine i_287_2042 (c := 1) (by decide) ?_
    refine i_287_2043 (v := Value.int (xs 1)) (xga W0_0) (by decide) (by decide) rfl ?_
    refine i_287_2044 (x := 0) rfl ?_
    refine i_287_2045 (x := 0) rfl ?_
    refine i_287_2047 ?_
    refine i_287_2048 (c := 2) (by decide) ?_
    refine i_287_2049 (v := Value.int (xs 2)) (xga W0_0) (by decide) (by decide) rfl ?_
    refine i_287_2050 (x := 0) rfl ?_
    refine i_287_2051 (x := 0) rfl ?_
    refine i_287_2053 ?_
    refine i_287_2054 (c := 3) (by decide) ?_
    refine i_287_2055 (v := Value.int (xs 3)) (xga W0_0) (by decide) (by decide) rfl ?_
    refine i_287_2056 (x := 0) rfl ?_
    refine i_287_2057 (x := 0) rfl ?_
    refine i_287_2059 ?_
    refine i_287_2060 (c := 4) (by decide) ?_
    refine i_287_2061 (v := Value.int (xs 4)) (xga W0_0) (by decide) (by decide) rfl ?_
    refine i_287_2062 (xga W0_128) (Nat.le_of_ble_eq_true rfl) (p_263_4 (xga W0_128) (by omega) (by omega) (by omega) (by omega) (by omega) (by omega)) ?_
    refine i_287_2065 (lv2 := [(6, Value.int 0), (5, Value.int 1), (4, Value.int 0), (3, Value.ref 194), (2, Value.ref 128), (1, Value.ref 7), (0, Value.ref 0)]) rfl ?_
    refine i_287_2067 (x := 128) rfl ?_
    refine i_287_2068 (xgs (xga (xgs (xga W0_128)))) (Nat.le_of_ble_eq_true rfl) (p_165_0 (xgs (xga (xgs (xga W0_128))))) ?_
    refine i_287_2071 (x := 1) rfl ?_
    refine i_287_2073 (fun _ => ?_) (fun h => absurd h (by decide))
    refine i_287_2078 (x := 1) rfl ?_
    refine i_287_2080 (fun _ => ?_) (fun h => absurd h (by decide))
    refine i_287_2095 ?_
    refine i_287_2154 (x := 0) (c := 6) (lv2 := [(4, Value.int 6), (6, Value.int 0), (5, Value.int 1), (3, Value.ref 194), (2, Value.ref 128), (1, Value.ref 7), (0, Value.ref 0)]) rfl (by decide) rfl ?_
    refine i_287_2157 ?_
    refine i_287_23 (x := 6) rfl ?_
    refine i_287_25 (x := 0) rfl ?_
    refine i_287_26 (c := 6) (xgn (by decide) (xga (xgn (by decide) (xga W0_0)))) (by decide) ?_
    refine i_287_27 ?_
    refine i_287_29 (c := 0) (by decide) ?_
    refine i_287_30 (fun _ => ?_) (fun h => absurd h (by decide))
    refine i_287_2160 ?_
    exact i_287_2161 rfl ⟨rfl, rfl⟩
  · refine xLs.set ?_ (xga (xgs (xga W0_128))) xcs_o
    refine xLs.app (n := 219) (z := 199994) (m := 6) ?_ rfl
    refine xLs.set ?_ (xga W0_128) xcs_o
    refine xLs.app (n := 218) (z := 199988) (m := 6) ?_ rfl
    exact ⟨Nat.le_trans (Nat.le_of_eq W0_len) (by decide), Nat.le_trans (Nat.le_of_eq W0_sz) (by decide)⟩
theorem p_151_5 {d : Nat} {w : xW} {a0 : Int32} {a1 : Int32} {a2 : Int32} {a3 : Int32} (e0 : 0 ≤ a0.toInt) (e1 : a0.toInt < 16) (e2 : 2 ≤ a1.toInt) (e3 : a1.toInt ≤ 36) (e4 : 0 ≤ a2.toInt) (e5 : a2.toInt ≤ 2000) (e6 : a3.toInt < 0) : xRun (d + 6) 151 [Value.ref 7, Value.int a0, Value.int a1, Value.int a2, Value.int a3] w (.inr w.length) (w ++ [Sum.inr (14, [])]) := by
  refine xRun.of ?_
  refine i_151_0 (x := a0) rfl ?_
  refine i_151_1 (Nat.le_of_ble_eq_true rfl) (p_15_1 e0 e1) ?_
  refine i_151_4 (fun h => absurd h (by decide)) (fun _ => ?_)
  refine i_151_7 (x := a1) rfl ?_
  refine i_151_8 ?_
  refine i_151_9 (fun h => absurd e2 (Int.not_le.mpr h)) (fun _ => ?_)
  refine i_151_12 (x := a1) rfl ?_
  refine i_151_13 ?_
  refine i_151_15 (fun h => absurd e3 (Int.not_le.mpr h)) (fun _ => ?_)
  refine i_151_18 (x := a2) rfl ?_
  refine i_151_19 (fun h => absurd e4 (Int.not_le.mpr h)) (fun _ => ?_)
  refine i_151_22 (x := a2) rfl ?_
  refine i_151_23 ?_
  refine i_151_26 (fun h => absurd e5 (Int.not_le.mpr h)) (fun _ => ?_)
  refine i_151_29 (x := a3) rfl ?_
  refine i_151_31 (Nat.le_of_ble_eq_true rfl) (p_22_0 e6) ?_
  refine i_151_34 (fun h => absurd h (by decide)) (fun _ => ?_)
  exact i_151_37 (by omega) (Nat.le_of_ble_eq_true rfl) ⟨rfl, rfl⟩
theorem p_150_5 {d : Nat} {w : xW} {a0 : Int32} {a1 : Int32} {a2 : Int32} {a3 : Int32} (hw0 : w[7]? = some (Sum.inr (0, [Value.ref 8, Value.ref 78, Value.ref 9, Value.ref 10, Value.ref 13, Value.ref 16, Value.ref 19, Value.ref 93, Value.ref 108, Value.ref 113, Value.ref 29, Value.int 0]))) (e1 : 0 ≤ a0.toInt) (e2 : a0.toInt < 16) (e3 : 2 ≤ a1.toInt) (e4 : a1.toInt ≤ 36) (e5 : 0 ≤ a2.toInt) (e6 : a2.toInt ≤ 2000) (e7 : a3.toInt < 0) : xRun (d + 7) 150 [Value.ref 7, Value.int a0, Value.int a1, Value.int a2, Value.int a3, Value.ref 194] w (.inl (some (Value.int 1))) (w ++ [Sum.inr (14, [])]) := by
  refine xRun.of ?_
  refine i_150_0 (x := 194) rfl ?_
  refine i_150_2 ?_
  refine i_150_3 (x := 7) rfl ?_
  refine i_150_4 (x := a0) rfl ?_
  refine i_150_5 (x := a1) rfl ?_
  refine i_150_6 (x := a2) rfl ?_
  refine i_150_7 (x := a3) rfl ?_
  refine j_150_9 hw0 (Nat.le_of_ble_eq_true rfl) (p_151_5 e1 e2 e3 e4 e5 e6 e7) (xDone.c xgl rfl rfl ?_)
  refine i_150_17 (lv2 := [(6, Value.ref w.length), (0, Value.ref 7), (1, Value.int a0), (2, Value.int a1), (3, Value.int a2), (4, Value.int a3), (5, Value.ref 194)]) rfl ?_
  refine i_150_19 ?_
  exact i_150_20 ⟨rfl, rfl⟩
theorem p_169_38 {d : Nat} {w : xW} {a0 : Int32} (e0 : 0 ≤ a0.toInt) (e1 : a0.toInt ≤ 2000) : xRun d 169 [Value.int a0, Value.int 0, Value.int 2000] w (.inl (some (Value.int 1))) w := by
  refine xRun.of ?_
  refine i_169_0 (x := a0) rfl ?_
  refine i_169_1 (x := 0) rfl ?_
  refine i_169_2 (fun h => absurd e0 (Int.not_le.mpr h)) (fun _ => ?_)
  refine i_169_5 (x := a0) rfl ?_
  refine i_169_6 (x := 2000) rfl ?_
  refine i_169_7 (fun h => absurd e1 (Int.not_le.mpr h)) (fun _ => ?_)
  refine i_169_10 ?_
  refine i_169_11 ?_
  exact i_169_15 rfl ⟨rfl, rfl⟩
theorem p_264_5 {d : Nat} {w : xW} {a0 : Int32} {a1 : Int32} {a2 : Int32} {a3 : Int32} (e0 : 0 ≤ a0.toInt) (e1 : a0.toInt ≤ 15) (e2 : 2 ≤ a1.toInt) (e3 : a1.toInt ≤ 36) (e4 : 0 ≤ a2.toInt) (e5 : a2.toInt ≤ 2000) (e6 : a3.toInt < 0) : xRun (d + 8) 264 [Value.ref 128, Value.int a0, Value.int a1, Value.int a2, Value.int a3] w (.inr w.length) (w ++ [Sum.inr (14, [])]) := by
  refine xRun.of ?_
  refine i_264_0 (x := a0) rfl ?_
  refine i_264_1 (Nat.le_of_ble_eq_true rfl) (p_168_1 e0 e1) ?_
  refine i_264_4 (x := a1) rfl ?_
  refine i_264_5 ?_
  refine i_264_6 ?_
  refine i_264_8 (Nat.le_of_ble_eq_true rfl) (p_169_35 e2 e3) ?_
  refine i_264_11 (fun h => absurd h (by decide)) (fun _ => ?_)
  refine i_264_14 (x := a2) rfl ?_
  refine i_264_15 ?_
  refine i_264_16 ?_
  refine i_264_19 (Nat.le_of_ble_eq_true rfl) (p_169_38 e4 e5) ?_
  refine i_264_22 (fun h => absurd h (by decide)) (fun _ => ?_)
  refine i_264_25 ?_
  refine i_264_26 ?_
  refine i_264_30 (Nat.le_of_ble_eq_true rfl) (p_170_1) ?_
  refine i_264_33 (x := a3) rfl ?_
  exact j_264_35 (Nat.le_of_ble_eq_true rfl) (p_178_0 e6) (xDone.t xgl rfl rfl ⟨rfl, rfl⟩)
theorem p_263_5 {d : Nat} {w : xW} {a0 : Int32} {a1 : Int32} {a2 : Int32} {a3 : Int32} (hw0 : w[128]? = some (Sum.inr (12, [Value.ref 129, Value.ref 131, Value.ref 133, Value.ref 135, Value.ref 137, Value.ref 139, Value.ref 141, Value.ref 143, Value.ref 145, Value.ref 147, Value.ref 149, Value.ref 151, Value.ref 153, Value.ref 154, Value.ref 155, Value.ref 156, Value.ref 157, Value.int (-16384), Value.int 16384, Value.int 0, Value.int 0, Value.int 0, Value.ref 158, Value.ref 159, Value.int 0, Value.int 0, Value.int 0, Value.int 0, Value.int 0, Value.int 0, Value.int 0, Value.int 0]))) (e1 : 0 ≤ a0.toInt) (e2 : a0.toInt ≤ 15) (e3 : 2 ≤ a1.toInt) (e4 : a1.toInt ≤ 36) (e5 : 0 ≤ a2.toInt) (e6 : a2.toInt ≤ 2000) (e7 : a3.toInt < 0) : xRun (d + 9) 263 [Value.ref 128, Value.int a0, Value.int a1, Value.int a2, Value.int a3] w (.inl (some (Value.int 0))) (((w.set 128 (Sum.inr (12, [Value.ref 129, Value.ref 131, Value.ref 133, Value.ref 135, Value.ref 137, Value.ref 139, Value.ref 141, Value.ref 143, Value.ref 145, Value.ref 147, Value.ref 149, Value.ref 151, Value.ref 153, Value.ref 154, Value.ref 155, Value.ref 156, Value.ref 157, Value.int (-16384), Value.int 16384, Value.int 0, Value.int 0, Value.int 0, Value.ref 158, Value.ref 159, Value.int 0, Value.int 0, Value.int 0, Value.int 0, Value.int 0, Value.int 0, Value.int 0, Value.int 0]))) ++ [Sum.inr (14, [])]).set 128 (Sum.inr (12, [Value.ref 129, Value.ref 131, Value.ref 133, Value.ref 135, Value.ref 137, Value.ref 139, Value.ref 141, Value.ref 143, Value.ref 145, Value.ref 147, Value.ref 149, Value.ref 151, Value.ref 153, Value.ref 154, Value.ref 155, Value.ref 156, Value.ref 157, Value.int (-16384), Value.int 16384, Value.int 0, Value.int 0, Value.int 0, Value.ref 158, Value.ref 159, Value.int 0, Value.int 0, Value.int 0, Value.int 0, Value.int 0, Value.int 0, Value.int 0, Value.int 1]))) := by
  refine xRun.of ?_
  refine i_263_0 (x := 128) rfl ?_
  refine i_263_1 ?_
  refine i_263_2 (fs2 := [Value.ref 129, Value.ref 131, Value.ref 133, Value.ref 135, Value.ref 137, Value.ref 139, Value.ref 141, Value.ref 143, Value.ref 145, Value.ref 147, Value.ref 149, Value.ref 151, Value.ref 153, Value.ref 154, Value.ref 155, Value.ref 156, Value.ref 157, Value.int (-16384), Value.int 16384, Value.int 0, Value.int 0, Value.int 0, Value.ref 158, Value.ref 159, Value.int 0, Value.int 0, Value.int 0, Value.int 0, Value.int 0, Value.int 0, Value.int 0, Value.int 0]) hw0 (Nat.le_of_ble_eq_true rfl) rfl (by decide) ?_
  refine i_263_5 (x := 128) rfl ?_
  refine i_263_6 (x := a0) rfl ?_
  refine i_263_7 (x := a1) rfl ?_
  refine i_263_8 (x := a2) rfl ?_
  refine i_263_9 (x := a3) rfl ?_
  refine j_263_11 (xgs hw0) (Nat.le_of_ble_eq_true rfl) (p_264_5 e1 e2 e3 e4 e5 e6 e7) (xDone.c xgl rfl rfl ?_)
  refine i_263_15 (lv2 := [(5, Value.ref ((w.set 128 (Sum.inr (12, [Value.ref 129, Value.ref 131, Value.ref 133, Value.ref 135, Value.ref 137, Value.ref 139, Value.ref 141, Value.ref 143, Value.ref 145, Value.ref 147, Value.ref 149, Value.ref 151, Value.ref 153, Value.ref 154, Value.ref 155, Value.ref 156, Value.ref 157, Value.int (-16384), Value.int 16384, Value.int 0, Value.int 0, Value.int 0, Value.ref 158, Value.ref 159, Value.int 0, Value.int 0, Value.int 0, Value.int 0, Value.int 0, Value.int 0, Value.int 0, Value.int 0]))).length)), (0, Value.ref 128), (1, Value.int a0), (2, Value.int a1), (3, Value.int a2), (4, Value.int a3)]) rfl ?_
  refine i_263_17 (x := 128) rfl ?_
  refine i_263_18 ?_
  refine i_263_19 (fs2 := [Value.ref 129, Value.ref 131, Value.ref 133, Value.ref 135, Value.ref 137, Value.ref 139, Value.ref 141, Value.ref 143, Value.ref 145, Value.ref 147, Value.ref 149, Value.ref 151, Value.ref 153, Value.ref 154, Value.ref 155, Value.ref 156, Value.ref 157, Value.int (-16384), Value.int 16384, Value.int 0, Value.int 0, Value.int 0, Value.ref 158, Value.ref 159, Value.int 0, Value.int 0, Value.int 0, Value.int 0, Value.int 0, Value.int 0, Value.int 0, Value.int 1]) (xga (xgs hw0)) (Nat.le_of_ble_eq_true rfl) rfl (by decide) ?_
  refine i_263_22 ?_
  refine i_263_32 ?_
  exact i_263_33 ⟨rfl, rfl⟩
theorem o_22_5 {d : Nat} {xs : Nat → Int32} (h0 : ((xs 0) &&& (31 : Int32)).toInt = 22) (c0 : 0 ≤ (xs 1).toInt) (c1 : (xs 1).toInt < 16) (c2 : 2 ≤ (xs 2).toInt) (c3 : (xs 2).toInt ≤ 36) (c4 : 0 ≤ (xs 3).toInt) (c5 : (xs 3).toInt ≤ 2000) (c6 : (xs 4).toInt < 0) : ∃ w1, xEv (d + 20) 287 23 [(4, Value.int 0), (3, Value.ref 194), (2, Value.ref 128), (1, Value.ref 7), (0, Value.ref 0)] [] (W0 6 xs) (fun o' w' => o' = .inl (some (Value.int 1)) ∧ w' = w1) ∧ w1.length ≤ 220 ∧ xsz w1 ≤ 200000 := by
  refine ⟨(((((W0 6 xs) ++ [Sum.inr (14, [])]).set 128 (Sum.inr (12, [Value.ref 129, Value.ref 131, Value.ref 133, Value.ref 135, Value.ref 137, Value.ref 139, Value.ref 141, Value.ref 143, Value.ref 145, Value.ref 147, Value.ref 149, Value.ref 151, Value.ref 153, Value.ref 154, Value.ref 155, Value.ref 156, Value.ref 157, Value.int (-16384), Value.int 16384, Value.int 0, Value.int 0, Value.int 0, Value.ref 158, Value.ref 159, Value.int 0, Value.int 0, Value.int 0, Value.int 0, Value.int 0, Value.int 0, Value.int 0, Value.int 0]))) ++ [Sum.inr (14, [])]).set 128 (Sum.inr (12, [Value.ref 129, Value.ref 131, Value.ref 133, Value.ref 135, Value.ref 137, Value.ref 139, Value.ref 141, Value.ref 143, Value.ref 145, Value.ref 147, Value.ref 149, Value.ref 151, Value.ref 153, Value.ref 154, Value.ref 155, Value.ref 156, Value.ref 157, Value.int (-16384), Value.int 16384, Value.int 0, Value.int 0, Value.int 0, Value.ref 158, Value.ref 159, Value.int 0, Value.int 0, Value.int 0, Value.int 0, Value.int 0, Value.int 0, Value.int 0, Value.int 1]))), ?_, (show xLs _ 220 200000 from ?_)⟩
  · refine i_287_23 (x := 0) rfl ?_
    refine i_287_25 (x := 0) rfl ?_
    refine i_287_26 (c := 6) W0_0 (by decide) ?_
    refine i_287_27 ?_
    refine i_287_29 (c := 0) (by decide) ?_
    refine i_287_30 (fun h => absurd h (by decide)) (fun _ => ?_)
    refine i_287_33 (x := 0) rfl ?_
    refine i_287_34 (x := 0) rfl ?_
    refine i_287_36 (v := Value.int (xs 0)) W0_0 (by decide) (by decide) rfl ?_
    refine i_287_37 ?_
    refine i_287_39 (c := ((xs 0) &&& (31 : Int32))) rfl ?_
    refine i_287_40_22 (by omega) ?_
    refine i_287_2006 (x := 7) rfl ?_
    refine i_287_2007 (x := 0) rfl ?_
    refine i_287_2008 (x := 0) rfl ?_
    refine i_287_2010 ?_
    refine i_287_2011 (c := 1) (by decide) ?_
    refine i_287_2012 (v := Value.int (xs 1)) W0_0 (by decide) (by decide) rfl ?_
    refine i_287_2013 (x := 0) rfl ?_
    refine i_287_2014 (x := 0) rfl ?_
    refine i_287_2016 ?_
    refine i_287_2017 (c := 2) (by decide) ?_
    refine i_287_2018 (v := Value.int (xs 2)) W0_0 (by decide) (by decide) rfl ?_
    refine i_287_2019 (x := 0) rfl ?_
    refine i_287_2020 (x := 0) rfl ?_
    refine i_287_2022 ?_
    refine i_287_2023 (c := 3) (by decide) ?_
    refine i_287_2024 (v := Value.int (xs 3)) W0_0 (by decide) (by decide) rfl ?_
    refine i_287_2025 (x := 0) rfl ?_
    refine i_287_2026 (x := 0) rfl ?_
    refine i_287_2028 ?_
    refine i_287_2029 (c := 4) (by decide) ?_
    refine i_287_2030 (v := Value.int (xs 4)) W0_0 (by decide) (by decide) rfl ?_
    refine i_287_2031 (x := 194) rfl ?_
    refine i_287_2032 (Nat.le_of_ble_eq_true rfl) (p_150_5 W0_7 (by omega) (by omega) (by omega) (by omega) (by omega) (by omega) (by omega)) ?_
    refine i_287_2035 (lv2 := [(5, Value.int 1), (4, Value.int 0), (3, Value.ref 194), (2, Value.ref 128), (1, Value.ref 7), (0, Value.ref 0)]) rfl ?_
    refine i_287_2037 (x := 128) rfl ?_
    refine i_287_2038 (x := 0) rfl ?_
    refine i_287_2039 (x := 0) rfl ?_
    refine i_287_2041 ?_
    refine i_287_2042 (c := 1) (by decide) ?_
    refine i_287_2043 (v := Value.int (xs 1)) (xga W0_0) (by decide) (by decide) rfl ?_
    refine i_287_2044 (x := 0) rfl ?_
    refine i_287_2045 (x := 0) rfl ?_
    refine i_287_2047 ?_
    refine i_287_2048 (c := 2) (by decide) ?_
    refine i_287_2049 (v := Value.int (xs 2)) (xga W0_0) (by decide) (by decide) rfl ?_
    refine i_287_2050 (x := 0) rfl ?_
    refine i_287_2051 (x := 0) rfl ?_
    refine i_287_2053 ?_
    refine i_287_2054 (c := 3) (by decide) ?_
    refine i_287_2055 (v := Value.int (xs 3)) (xga W0_0) (by decide) (by decide) rfl ?_
    refine i_287_2056 (x := 0) rfl ?_
    refine i_287_2057 (x := 0) rfl ?_
    refine i_287_2059 ?_
    refine i_287_2060 (c := 4) (by decide) ?_
    refine i_287_2061 (v := Value.int (xs 4)) (xga W0_0) (by decide) (by decide) rfl ?_
    refine i_287_2062 (xga W0_128) (Nat.le_of_ble_eq_true rfl) (p_263_5 (xga W0_128) (by omega) (by omega) (by omega) (by omega) (by omega) (by omega) (by omega)) ?_
    refine i_287_2065 (lv2 := [(6, Value.int 0), (5, Value.int 1), (4, Value.int 0), (3, Value.ref 194), (2, Value.ref 128), (1, Value.ref 7), (0, Value.ref 0)]) rfl ?_
    refine i_287_2067 (x := 128) rfl ?_
    refine i_287_2068 (xgs (xga (xgs (xga W0_128)))) (Nat.le_of_ble_eq_true rfl) (p_165_0 (xgs (xga (xgs (xga W0_128))))) ?_
    refine i_287_2071 (x := 1) rfl ?_
    refine i_287_2073 (fun _ => ?_) (fun h => absurd h (by decide))
    refine i_287_2078 (x := 1) rfl ?_
    refine i_287_2080 (fun _ => ?_) (fun h => absurd h (by decide))
    refine i_287_2095 ?_
    refine i_287_2154 (x := 0) (c := 6) (lv2 := [(4, Value.int 6), (6, Value.int 0), (5, Value.int 1), (3, Value.ref 194), (2, Value.ref 128), (1, Value.ref 7), (0, Value.ref 0)]) rfl (by decide) rfl ?_
    refine i_287_2157 ?_
    refine i_287_23 (x := 6) rfl ?_
    refine i_287_25 (x := 0) rfl ?_
    refine i_287_26 (c := 6) (xgn (by decide) (xga (xgn (by decide) (xga W0_0)))) (by decide) ?_
    refine i_287_27 ?_
    refine i_287_29 (c := 0) (by decide) ?_
    refine i_287_30 (fun _ => ?_) (fun h => absurd h (by decide))
    refine i_287_2160 ?_
    exact i_287_2161 rfl ⟨rfl, rfl⟩
  · refine xLs.set ?_ (xga (xgs (xga W0_128))) xcs_o
    refine xLs.app (n := 219) (z := 199994) (m := 6) ?_ rfl
    refine xLs.set ?_ (xga W0_128) xcs_o
    refine xLs.app (n := 218) (z := 199988) (m := 6) ?_ rfl
    exact ⟨Nat.le_trans (Nat.le_of_eq W0_len) (by decide), Nat.le_trans (Nat.le_of_eq W0_sz) (by decide)⟩
theorem p_151_6 {d : Nat} {w : xW} {a0 : Int32} {a1 : Int32} {a2 : Int32} {a3 : Int32} (e0 : 0 ≤ a0.toInt) (e1 : a0.toInt < 16) (e2 : 2 ≤ a1.toInt) (e3 : a1.toInt ≤ 36) (e4 : 0 ≤ a2.toInt) (e5 : a2.toInt ≤ 2000) (e6 : 0 ≤ a3.toInt) (e7 : 4 < a3.toInt) : xRun (d + 6) 151 [Value.ref 7, Value.int a0, Value.int a1, Value.int a2, Value.int a3] w (.inr w.length) (w ++ [Sum.inr (14, [])]) := by
  refine xRun.of ?_
  refine i_151_0 (x := a0) rfl ?_
  refine i_151_1 (Nat.le_of_ble_eq_true rfl) (p_15_1 e0 e1) ?_
  refine i_151_4 (fun h => absurd h (by decide)) (fun _ => ?_)
  refine i_151_7 (x := a1) rfl ?_
  refine i_151_8 ?_
  refine i_151_9 (fun h => absurd e2 (Int.not_le.mpr h)) (fun _ => ?_)
  refine i_151_12 (x := a1) rfl ?_
  refine i_151_13 ?_
  refine i_151_15 (fun h => absurd e3 (Int.not_le.mpr h)) (fun _ => ?_)
  refine i_151_18 (x := a2) rfl ?_
  refine i_151_19 (fun h => absurd e4 (Int.not_le.mpr h)) (fun _ => ?_)
  refine i_151_22 (x := a2) rfl ?_
  refine i_151_23 ?_
  refine i_151_26 (fun h => absurd e5 (Int.not_le.mpr h)) (fun _ => ?_)
  refine i_151_29 (x := a3) rfl ?_
  refine i_151_31 (Nat.le_of_ble_eq_true rfl) (p_22_1 e6 e7) ?_
  refine i_151_34 (fun h => absurd h (by decide)) (fun _ => ?_)
  exact i_151_37 (by omega) (Nat.le_of_ble_eq_true rfl) ⟨rfl, rfl⟩
theorem p_150_6 {d : Nat} {w : xW} {a0 : Int32} {a1 : Int32} {a2 : Int32} {a3 : Int32} (hw0 : w[7]? = some (Sum.inr (0, [Value.ref 8, Value.ref 78, Value.ref 9, Value.ref 10, Value.ref 13, Value.ref 16, Value.ref 19, Value.ref 93, Value.ref 108, Value.ref 113, Value.ref 29, Value.int 0]))) (e1 : 0 ≤ a0.toInt) (e2 : a0.toInt < 16) (e3 : 2 ≤ a1.toInt) (e4 : a1.toInt ≤ 36) (e5 : 0 ≤ a2.toInt) (e6 : a2.toInt ≤ 2000) (e7 : 0 ≤ a3.toInt) (e8 : 4 < a3.toInt) : xRun (d + 7) 150 [Value.ref 7, Value.int a0, Value.int a1, Value.int a2, Value.int a3, Value.ref 194] w (.inl (some (Value.int 1))) (w ++ [Sum.inr (14, [])]) := by
  refine xRun.of ?_
  refine i_150_0 (x := 194) rfl ?_
  refine i_150_2 ?_
  refine i_150_3 (x := 7) rfl ?_
  refine i_150_4 (x := a0) rfl ?_
  refine i_150_5 (x := a1) rfl ?_
  refine i_150_6 (x := a2) rfl ?_
  refine i_150_7 (x := a3) rfl ?_
  refine j_150_9 hw0 (Nat.le_of_ble_eq_true rfl) (p_151_6 e1 e2 e3 e4 e5 e6 e7 e8) (xDone.c xgl rfl rfl ?_)
  refine i_150_17 (lv2 := [(6, Value.ref w.length), (0, Value.ref 7), (1, Value.int a0), (2, Value.int a1), (3, Value.int a2), (4, Value.int a3), (5, Value.ref 194)]) rfl ?_
  refine i_150_19 ?_
  exact i_150_20 ⟨rfl, rfl⟩
theorem p_264_6 {d : Nat} {w : xW} {a0 : Int32} {a1 : Int32} {a2 : Int32} {a3 : Int32} (e0 : 0 ≤ a0.toInt) (e1 : a0.toInt ≤ 15) (e2 : 2 ≤ a1.toInt) (e3 : a1.toInt ≤ 36) (e4 : 0 ≤ a2.toInt) (e5 : a2.toInt ≤ 2000) (e6 : 0 ≤ a3.toInt) (e7 : 4 < a3.toInt) : xRun (d + 8) 264 [Value.ref 128, Value.int a0, Value.int a1, Value.int a2, Value.int a3] w (.inr w.length) (w ++ [Sum.inr (14, [])]) := by
  refine xRun.of ?_
  refine i_264_0 (x := a0) rfl ?_
  refine i_264_1 (Nat.le_of_ble_eq_true rfl) (p_168_1 e0 e1) ?_
  refine i_264_4 (x := a1) rfl ?_
  refine i_264_5 ?_
  refine i_264_6 ?_
  refine i_264_8 (Nat.le_of_ble_eq_true rfl) (p_169_35 e2 e3) ?_
  refine i_264_11 (fun h => absurd h (by decide)) (fun _ => ?_)
  refine i_264_14 (x := a2) rfl ?_
  refine i_264_15 ?_
  refine i_264_16 ?_
  refine i_264_19 (Nat.le_of_ble_eq_true rfl) (p_169_38 e4 e5) ?_
  refine i_264_22 (fun h => absurd h (by decide)) (fun _ => ?_)
  refine i_264_25 ?_
  refine i_264_26 ?_
  refine i_264_30 (Nat.le_of_ble_eq_true rfl) (p_170_1) ?_
  refine i_264_33 (x := a3) rfl ?_
  exact j_264_35 (Nat.le_of_ble_eq_true rfl) (p_178_1 e6 e7) (xDone.t xgl rfl rfl ⟨rfl, rfl⟩)
theorem p_263_6 {d : Nat} {w : xW} {a0 : Int32} {a1 : Int32} {a2 : Int32} {a3 : Int32} (hw0 : w[128]? = some (Sum.inr (12, [Value.ref 129, Value.ref 131, Value.ref 133, Value.ref 135, Value.ref 137, Value.ref 139, Value.ref 141, Value.ref 143, Value.ref 145, Value.ref 147, Value.ref 149, Value.ref 151, Value.ref 153, Value.ref 154, Value.ref 155, Value.ref 156, Value.ref 157, Value.int (-16384), Value.int 16384, Value.int 0, Value.int 0, Value.int 0, Value.ref 158, Value.ref 159, Value.int 0, Value.int 0, Value.int 0, Value.int 0, Value.int 0, Value.int 0, Value.int 0, Value.int 0]))) (e1 : 0 ≤ a0.toInt) (e2 : a0.toInt ≤ 15) (e3 : 2 ≤ a1.toInt) (e4 : a1.toInt ≤ 36) (e5 : 0 ≤ a2.toInt) (e6 : a2.toInt ≤ 2000) (e7 : 0 ≤ a3.toInt) (e8 : 4 < a3.toInt) : xRun (d + 9) 263 [Value.ref 128, Value.int a0, Value.int a1, Value.int a2, Value.int a3] w (.inl (some (Value.int 0))) (((w.set 128 (Sum.inr (12, [Value.ref 129, Value.ref 131, Value.ref 133, Value.ref 135, Value.ref 137, Value.ref 139, Value.ref 141, Value.ref 143, Value.ref 145, Value.ref 147, Value.ref 149, Value.ref 151, Value.ref 153, Value.ref 154, Value.ref 155, Value.ref 156, Value.ref 157, Value.int (-16384), Value.int 16384, Value.int 0, Value.int 0, Value.int 0, Value.ref 158, Value.ref 159, Value.int 0, Value.int 0, Value.int 0, Value.int 0, Value.int 0, Value.int 0, Value.int 0, Value.int 0]))) ++ [Sum.inr (14, [])]).set 128 (Sum.inr (12, [Value.ref 129, Value.ref 131, Value.ref 133, Value.ref 135, Value.ref 137, Value.ref 139, Value.ref 141, Value.ref 143, Value.ref 145, Value.ref 147, Value.ref 149, Value.ref 151, Value.ref 153, Value.ref 154, Value.ref 155, Value.ref 156, Value.ref 157, Value.int (-16384), Value.int 16384, Value.int 0, Value.int 0, Value.int 0, Value.ref 158, Value.ref 159, Value.int 0, Value.int 0, Value.int 0, Value.int 0, Value.int 0, Value.int 0, Value.int 0, Value.int 1]))) := by
  refine xRun.of ?_
  refine i_263_0 (x := 128) rfl ?_
  refine i_263_1 ?_
  refine i_263_2 (fs2 := [Value.ref 129, Value.ref 131, Value.ref 133, Value.ref 135, Value.ref 137, Value.ref 139, Value.ref 141, Value.ref 143, Value.ref 145, Value.ref 147, Value.ref 149, Value.ref 151, Value.ref 153, Value.ref 154, Value.ref 155, Value.ref 156, Value.ref 157, Value.int (-16384), Value.int 16384, Value.int 0, Value.int 0, Value.int 0, Value.ref 158, Value.ref 159, Value.int 0, Value.int 0, Value.int 0, Value.int 0, Value.int 0, Value.int 0, Value.int 0, Value.int 0]) hw0 (Nat.le_of_ble_eq_true rfl) rfl (by decide) ?_
  refine i_263_5 (x := 128) rfl ?_
  refine i_263_6 (x := a0) rfl ?_
  refine i_263_7 (x := a1) rfl ?_
  refine i_263_8 (x := a2) rfl ?_
  refine i_263_9 (x := a3) rfl ?_
  refine j_263_11 (xgs hw0) (Nat.le_of_ble_eq_true rfl) (p_264_6 e1 e2 e3 e4 e5 e6 e7 e8) (xDone.c xgl rfl rfl ?_)
  refine i_263_15 (lv2 := [(5, Value.ref ((w.set 128 (Sum.inr (12, [Value.ref 129, Value.ref 131, Value.ref 133, Value.ref 135, Value.ref 137, Value.ref 139, Value.ref 141, Value.ref 143, Value.ref 145, Value.ref 147, Value.ref 149, Value.ref 151, Value.ref 153, Value.ref 154, Value.ref 155, Value.ref 156, Value.ref 157, Value.int (-16384), Value.int 16384, Value.int 0, Value.int 0, Value.int 0, Value.ref 158, Value.ref 159, Value.int 0, Value.int 0, Value.int 0, Value.int 0, Value.int 0, Value.int 0, Value.int 0, Value.int 0]))).length)), (0, Value.ref 128), (1, Value.int a0), (2, Value.int a1), (3, Value.int a2), (4, Value.int a3)]) rfl ?_
  refine i_263_17 (x := 128) rfl ?_
  refine i_263_18 ?_
  refine i_263_19 (fs2 := [Value.ref 129, Value.ref 131, Value.ref 133, Value.ref 135, Value.ref 137, Value.ref 139, Value.ref 141, Value.ref 143, Value.ref 145, Value.ref 147, Value.ref 149, Value.ref 151, Value.ref 153, Value.ref 154, Value.ref 155, Value.ref 156, Value.ref 157, Value.int (-16384), Value.int 16384, Value.int 0, Value.int 0, Value.int 0, Value.ref 158, Value.ref 159, Value.int 0, Value.int 0, Value.int 0, Value.int 0, Value.int 0, Value.int 0, Value.int 0, Value.int 1]) (xga (xgs hw0)) (Nat.le_of_ble_eq_true rfl) rfl (by decide) ?_
  refine i_263_22 ?_
  refine i_263_32 ?_
  exact i_263_33 ⟨rfl, rfl⟩
theorem o_22_6 {d : Nat} {xs : Nat → Int32} (h0 : ((xs 0) &&& (31 : Int32)).toInt = 22) (c0 : 0 ≤ (xs 1).toInt) (c1 : (xs 1).toInt < 16) (c2 : 2 ≤ (xs 2).toInt) (c3 : (xs 2).toInt ≤ 36) (c4 : 0 ≤ (xs 3).toInt) (c5 : (xs 3).toInt ≤ 2000) (c6 : 0 ≤ (xs 4).toInt) (c7 : 4 < (xs 4).toInt) : ∃ w1, xEv (d + 20) 287 23 [(4, Value.int 0), (3, Value.ref 194), (2, Value.ref 128), (1, Value.ref 7), (0, Value.ref 0)] [] (W0 6 xs) (fun o' w' => o' = .inl (some (Value.int 1)) ∧ w' = w1) ∧ w1.length ≤ 220 ∧ xsz w1 ≤ 200000 := by
  refine ⟨(((((W0 6 xs) ++ [Sum.inr (14, [])]).set 128 (Sum.inr (12, [Value.ref 129, Value.ref 131, Value.ref 133, Value.ref 135, Value.ref 137, Value.ref 139, Value.ref 141, Value.ref 143, Value.ref 145, Value.ref 147, Value.ref 149, Value.ref 151, Value.ref 153, Value.ref 154, Value.ref 155, Value.ref 156, Value.ref 157, Value.int (-16384), Value.int 16384, Value.int 0, Value.int 0, Value.int 0, Value.ref 158, Value.ref 159, Value.int 0, Value.int 0, Value.int 0, Value.int 0, Value.int 0, Value.int 0, Value.int 0, Value.int 0]))) ++ [Sum.inr (14, [])]).set 128 (Sum.inr (12, [Value.ref 129, Value.ref 131, Value.ref 133, Value.ref 135, Value.ref 137, Value.ref 139, Value.ref 141, Value.ref 143, Value.ref 145, Value.ref 147, Value.ref 149, Value.ref 151, Value.ref 153, Value.ref 154, Value.ref 155, Value.ref 156, Value.ref 157, Value.int (-16384), Value.int 16384, Value.int 0, Value.int 0, Value.int 0, Value.ref 158, Value.ref 159, Value.int 0, Value.int 0, Value.int 0, Value.int 0, Value.int 0, Value.int 0, Value.int 0, Value.int 1]))), ?_, (show xLs _ 220 200000 from ?_)⟩
  · refine i_287_23 (x := 0) rfl ?_
    refine i_287_25 (x := 0) rfl ?_
    refine i_287_26 (c := 6) W0_0 (by decide) ?_
    refine i_287_27 ?_
    refine i_287_29 (c := 0) (by decide) ?_
    refine i_287_30 (fun h => absurd h (by decide)) (fun _ => ?_)
    refine i_287_33 (x := 0) rfl ?_
    refine i_287_34 (x := 0) rfl ?_
    refine i_287_36 (v := Value.int (xs 0)) W0_0 (by decide) (by decide) rfl ?_
    refine i_287_37 ?_
    refine i_287_39 (c := ((xs 0) &&& (31 : Int32))) rfl ?_
    refine i_287_40_22 (by omega) ?_
    refine i_287_2006 (x := 7) rfl ?_
    refine i_287_2007 (x := 0) rfl ?_
    refine i_287_2008 (x := 0) rfl ?_
    refine i_287_2010 ?_
    refine i_287_2011 (c := 1) (by decide) ?_
    refine i_287_2012 (v := Value.int (xs 1)) W0_0 (by decide) (by decide) rfl ?_
    refine i_287_2013 (x := 0) rfl ?_
    refine i_287_2014 (x := 0) rfl ?_
    refine i_287_2016 ?_
    refine i_287_2017 (c := 2) (by decide) ?_
    refine i_287_2018 (v := Value.int (xs 2)) W0_0 (by decide) (by decide) rfl ?_
    refine i_287_2019 (x := 0) rfl ?_
    refine i_287_2020 (x := 0) rfl ?_
    refine i_287_2022 ?_
    refine i_287_2023 (c := 3) (by decide) ?_
    refine i_287_2024 (v := Value.int (xs 3)) W0_0 (by decide) (by decide) rfl ?_
    refine i_287_2025 (x := 0) rfl ?_
    refine i_287_2026 (x := 0) rfl ?_
    refine i_287_2028 ?_
    refine i_287_2029 (c := 4) (by decide) ?_
    refine i_287_2030 (v := Value.int (xs 4)) W0_0 (by decide) (by decide) rfl ?_
    refine i_287_2031 (x := 194) rfl ?_
    refine i_287_2032 (Nat.le_of_ble_eq_true rfl) (p_150_6 W0_7 (by omega) (by omega) (by omega) (by omega) (by omega) (by omega) (by omega) (by omega)) ?_
    refine i_287_2035 (lv2 := [(5, Value.int 1), (4, Value.int 0), (3, Value.ref 194), (2, Value.ref 128), (1, Value.ref 7), (0, Value.ref 0)]) rfl ?_
    refine i_287_2037 (x := 128) rfl ?_
    refine i_287_2038 (x := 0) rfl ?_
    refine i_287_2039 (x := 0) rfl ?_
    refine i_287_2041 ?_
    refine i_287_2042 (c := 1) (by decide) ?_
    refine i_287_2043 (v := Value.int (xs 1)) (xga W0_0) (by decide) (by decide) rfl ?_
    refine i_287_2044 (x := 0) rfl ?_
    refine i_287_2045 (x := 0) rfl ?_
    refine i_287_2047 ?_
    refine i_287_2048 (c := 2) (by decide) ?_
    refine i_287_2049 (v := Value.int (xs 2)) (xga W0_0) (by decide) (by decide) rfl ?_
    refine i_287_2050 (x := 0) rfl ?_
    refine i_287_2051 (x := 0) rfl ?_
    refine i_287_2053 ?_
    refine i_287_2054 (c := 3) (by decide) ?_
    refine i_287_2055 (v := Value.int (xs 3)) (xga W0_0) (by decide) (by decide) rfl ?_
    refine i_287_2056 (x := 0) rfl ?_
    refine i_287_2057 (x := 0) rfl ?_
    refine i_287_2059 ?_
    refine i_287_2060 (c := 4) (by decide) ?_
    refine i_287_2061 (v := Value.int (xs 4)) (xga W0_0) (by decide) (by decide) rfl ?_
    refine i_287_2062 (xga W0_128) (Nat.le_of_ble_eq_true rfl) (p_263_6 (xga W0_128) (by omega) (by omega) (by omega) (by omega) (by omega) (by omega) (by omega) (by omega)) ?_
    refine i_287_2065 (lv2 := [(6, Value.int 0), (5, Value.int 1), (4, Value.int 0), (3, Value.ref 194), (2, Value.ref 128), (1, Value.ref 7), (0, Value.ref 0)]) rfl ?_
    refine i_287_2067 (x := 128) rfl ?_
    refine i_287_2068 (xgs (xga (xgs (xga W0_128)))) (Nat.le_of_ble_eq_true rfl) (p_165_0 (xgs (xga (xgs (xga W0_128))))) ?_
    refine i_287_2071 (x := 1) rfl ?_
    refine i_287_2073 (fun _ => ?_) (fun h => absurd h (by decide))
    refine i_287_2078 (x := 1) rfl ?_
    refine i_287_2080 (fun _ => ?_) (fun h => absurd h (by decide))
    refine i_287_2095 ?_
    refine i_287_2154 (x := 0) (c := 6) (lv2 := [(4, Value.int 6), (6, Value.int 0), (5, Value.int 1), (3, Value.ref 194), (2, Value.ref 128), (1, Value.ref 7), (0, Value.ref 0)]) rfl (by decide) rfl ?_
    refine i_287_2157 ?_
    refine i_287_23 (x := 6) rfl ?_
    refine i_287_25 (x := 0) rfl ?_
    refine i_287_26 (c := 6) (xgn (by decide) (xga (xgn (by decide) (xga W0_0)))) (by decide) ?_
    refine i_287_27 ?_
    refine i_287_29 (c := 0) (by decide) ?_
    refine i_287_30 (fun _ => ?_) (fun h => absurd h (by decide))
    refine i_287_2160 ?_
    exact i_287_2161 rfl ⟨rfl, rfl⟩
  · refine xLs.set ?_ (xga (xgs (xga W0_128))) xcs_o
    refine xLs.app (n := 219) (z := 199994) (m := 6) ?_ rfl
    refine xLs.set ?_ (xga W0_128) xcs_o
    refine xLs.app (n := 218) (z := 199988) (m := 6) ?_ rfl
    exact ⟨Nat.le_trans (Nat.le_of_eq W0_len) (by decide), Nat.le_trans (Nat.le_of_eq W0_sz) (by decide)⟩
theorem p_151_7 {d : Nat} {w : xW} {a0 : Int32} {a1 : Int32} {a2 : Int32} {a3 : Int32} {g0 : Nat → Value} {h0 : Nat} {h1 : Nat} (e0 : 0 ≤ a0.toInt) (e1 : a0.toInt < 16) (e2 : 2 ≤ a1.toInt) (e3 : a1.toInt ≤ 36) (e4 : 0 ≤ a2.toInt) (e5 : a2.toInt ≤ 2000) (e6 : 0 ≤ a3.toInt) (e7 : a3.toInt ≤ 4) (hw8 : w[7]? = some (Sum.inr (0, [Value.ref 8, Value.ref 78, Value.ref 9, Value.ref 10, Value.ref 13, Value.ref 16, Value.ref 19, Value.ref 93, Value.ref 108, Value.ref 113, Value.ref 29, Value.int 0]))) (hw9 : w[8]? = some (Sum.inl (4, 16, g0))) (hg10 : g0 a0.toInt.toNat = Value.ref h0) (hw11 : w[h0]? = some (Sum.inr (2, [Value.int 64, Value.int 0, Value.int 0, Value.int 0, Value.ref h1]))) : xRun (d + 6) 151 [Value.ref 7, Value.int a0, Value.int a1, Value.int a2, Value.int a3] w (.inr w.length) (w ++ [Sum.inr (16, [])]) := by
  refine xRun.of ?_
  refine i_151_0 (x := a0) rfl ?_
  refine i_151_1 (Nat.le_of_ble_eq_true rfl) (p_15_1 e0 e1) ?_
  refine i_151_4 (fun h => absurd h (by decide)) (fun _ => ?_)
  refine i_151_7 (x := a1) rfl ?_
  refine i_151_8 ?_
  refine i_151_9 (fun h => absurd e2 (Int.not_le.mpr h)) (fun _ => ?_)
  refine i_151_12 (x := a1) rfl ?_
  refine i_151_13 ?_
  refine i_151_15 (fun h => absurd e3 (Int.not_le.mpr h)) (fun _ => ?_)
  refine i_151_18 (x := a2) rfl ?_
  refine i_151_19 (fun h => absurd e4 (Int.not_le.mpr h)) (fun _ => ?_)
  refine i_151_22 (x := a2) rfl ?_
  refine i_151_23 ?_
  refine i_151_26 (fun h => absurd e5 (Int.not_le.mpr h)) (fun _ => ?_)
  refine i_151_29 (x := a3) rfl ?_
  refine i_151_31 (Nat.le_of_ble_eq_true rfl) (p_22_2 e6 e7) ?_
  refine i_151_34 (fun _ => ?_) (fun h => absurd h (by decide))
  refine i_151_45 (x := 7) rfl ?_
  refine i_151_46 (v := Value.ref 8) hw8 rfl ?_
  refine i_151_49 (x := a0) rfl ?_
  refine i_151_50 (v := Value.ref h0) hw9 e0 e1 hg10 ?_
  refine i_151_51 (v := Value.int 0) hw11 rfl ?_
  refine i_151_54 ?_
  refine i_151_55 (fun h => absurd h (by decide)) (fun _ => ?_)
  exact i_151_58 (by omega) (Nat.le_of_ble_eq_true rfl) ⟨rfl, rfl⟩
theorem p_150_7 {d : Nat} {w : xW} {a0 : Int32} {a1 : Int32} {a2 : Int32} {a3 : Int32} {g0 : Nat → Value} {h0 : Nat} {h1 : Nat} (hw0 : w[7]? = some (Sum.inr (0, [Value.ref 8, Value.ref 78, Value.ref 9, Value.ref 10, Value.ref 13, Value.ref 16, Value.ref 19, Value.ref 93, Value.ref 108, Value.ref 113, Value.ref 29, Value.int 0]))) (e1 : 0 ≤ a0.toInt) (e2 : a0.toInt < 16) (e3 : 2 ≤ a1.toInt) (e4 : a1.toInt ≤ 36) (e5 : 0 ≤ a2.toInt) (e6 : a2.toInt ≤ 2000) (e7 : 0 ≤ a3.toInt) (e8 : a3.toInt ≤ 4) (hw9 : w[8]? = some (Sum.inl (4, 16, g0))) (hg10 : g0 a0.toInt.toNat = Value.ref h0) (hw11 : w[h0]? = some (Sum.inr (2, [Value.int 64, Value.int 0, Value.int 0, Value.int 0, Value.ref h1]))) : xRun (d + 7) 150 [Value.ref 7, Value.int a0, Value.int a1, Value.int a2, Value.int a3, Value.ref 194] w (.inl (some (Value.int 2))) (w ++ [Sum.inr (16, [])]) := by
  refine xRun.of ?_
  refine i_150_0 (x := 194) rfl ?_
  refine i_150_2 ?_
  refine i_150_3 (x := 7) rfl ?_
  refine i_150_4 (x := a0) rfl ?_
  refine i_150_5 (x := a1) rfl ?_
  refine i_150_6 (x := a2) rfl ?_
  refine i_150_7 (x := a3) rfl ?_
  refine j_150_9 hw0 (Nat.le_of_ble_eq_true rfl) (p_151_7 e1 e2 e3 e4 e5 e6 e7 e8 hw0 hw9 hg10 hw11) (xDone.c xgl rfl rfl ?_)
  refine i_150_21 (lv2 := [(6, Value.ref w.length), (0, Value.ref 7), (1, Value.int a0), (2, Value.int a1), (3, Value.int a2), (4, Value.int a3), (5, Value.ref 194)]) rfl ?_
  refine i_150_23 ?_
  exact i_150_24 ⟨rfl, rfl⟩
theorem p_264_7 {d : Nat} {w : xW} {a0 : Int32} {a1 : Int32} {a2 : Int32} {a3 : Int32} (e0 : 0 ≤ a0.toInt) (e1 : a0.toInt ≤ 15) (e2 : 2 ≤ a1.toInt) (e3 : a1.toInt ≤ 36) (e4 : 0 ≤ a2.toInt) (e5 : a2.toInt ≤ 2000) (e6 : 0 ≤ a3.toInt) (e7 : a3.toInt ≤ 4) (hw8 : w[128]? = some (Sum.inr (12, [Value.ref 129, Value.ref 131, Value.ref 133, Value.ref 135, Value.ref 137, Value.ref 139, Value.ref 141, Value.ref 143, Value.ref 145, Value.ref 147, Value.ref 149, Value.ref 151, Value.ref 153, Value.ref 154, Value.ref 155, Value.ref 156, Value.ref 157, Value.int (-16384), Value.int 16384, Value.int 0, Value.int 0, Value.int 0, Value.ref 158, Value.ref 159, Value.int 0, Value.int 0, Value.int 0, Value.int 0, Value.int 0, Value.int 0, Value.int 0, Value.int 0]))) (hw9 : w[154]? = some (Sum.inl (0, 17, fun _ => Value.int 0))) (e10 : a0.toInt < 17) : xRun (d + 7) 264 [Value.ref 128, Value.int a0, Value.int a1, Value.int a2, Value.int a3] w (.inr w.length) (w ++ [Sum.inr (16, [])]) := by
  refine xRun.of ?_
  refine i_264_0 (x := a0) rfl ?_
  refine i_264_1 (Nat.le_of_ble_eq_true rfl) (p_168_1 e0 e1) ?_
  refine i_264_4 (x := a1) rfl ?_
  refine i_264_5 ?_
  refine i_264_6 ?_
  refine i_264_8 (Nat.le_of_ble_eq_true rfl) (p_169_35 e2 e3) ?_
  refine i_264_11 (fun h => absurd h (by decide)) (fun _ => ?_)
  refine i_264_14 (x := a2) rfl ?_
  refine i_264_15 ?_
  refine i_264_16 ?_
  refine i_264_19 (Nat.le_of_ble_eq_true rfl) (p_169_38 e4 e5) ?_
  refine i_264_22 (fun h => absurd h (by decide)) (fun _ => ?_)
  refine i_264_25 ?_
  refine i_264_26 ?_
  refine i_264_30 (Nat.le_of_ble_eq_true rfl) (p_170_1) ?_
  refine i_264_33 (x := a3) rfl ?_
  refine i_264_35 (Nat.le_of_ble_eq_true rfl) (p_178_2 e6 e7) ?_
  refine i_264_38 (x := 128) rfl ?_
  refine i_264_39 (v := Value.ref 154) hw8 rfl ?_
  refine i_264_42 (x := a0) rfl ?_
  refine i_264_43 (v := Value.int 0) hw9 e0 e10 rfl ?_
  refine i_264_44 ?_
  refine i_264_45 (fun _ => ?_) (fun h => absurd h (by decide))
  refine i_264_52 ?_
  exact j_264_53 (Nat.le_of_ble_eq_true rfl) (p_244_0) (xDone.t xgl rfl rfl ⟨rfl, rfl⟩)
theorem p_263_7 {d : Nat} {w : xW} {a0 : Int32} {a1 : Int32} {a2 : Int32} {a3 : Int32} (hw0 : w[128]? = some (Sum.inr (12, [Value.ref 129, Value.ref 131, Value.ref 133, Value.ref 135, Value.ref 137, Value.ref 139, Value.ref 141, Value.ref 143, Value.ref 145, Value.ref 147, Value.ref 149, Value.ref 151, Value.ref 153, Value.ref 154, Value.ref 155, Value.ref 156, Value.ref 157, Value.int (-16384), Value.int 16384, Value.int 0, Value.int 0, Value.int 0, Value.ref 158, Value.ref 159, Value.int 0, Value.int 0, Value.int 0, Value.int 0, Value.int 0, Value.int 0, Value.int 0, Value.int 0]))) (e1 : 0 ≤ a0.toInt) (e2 : a0.toInt ≤ 15) (e3 : 2 ≤ a1.toInt) (e4 : a1.toInt ≤ 36) (e5 : 0 ≤ a2.toInt) (e6 : a2.toInt ≤ 2000) (e7 : 0 ≤ a3.toInt) (e8 : a3.toInt ≤ 4) (hw9 : w[154]? = some (Sum.inl (0, 17, fun _ => Value.int 0))) (e10 : a0.toInt < 17) : xRun (d + 8) 263 [Value.ref 128, Value.int a0, Value.int a1, Value.int a2, Value.int a3] w (.inl (some (Value.int 0))) (((w.set 128 (Sum.inr (12, [Value.ref 129, Value.ref 131, Value.ref 133, Value.ref 135, Value.ref 137, Value.ref 139, Value.ref 141, Value.ref 143, Value.ref 145, Value.ref 147, Value.ref 149, Value.ref 151, Value.ref 153, Value.ref 154, Value.ref 155, Value.ref 156, Value.ref 157, Value.int (-16384), Value.int 16384, Value.int 0, Value.int 0, Value.int 0, Value.ref 158, Value.ref 159, Value.int 0, Value.int 0, Value.int 0, Value.int 0, Value.int 0, Value.int 0, Value.int 0, Value.int 0]))) ++ [Sum.inr (16, [])]).set 128 (Sum.inr (12, [Value.ref 129, Value.ref 131, Value.ref 133, Value.ref 135, Value.ref 137, Value.ref 139, Value.ref 141, Value.ref 143, Value.ref 145, Value.ref 147, Value.ref 149, Value.ref 151, Value.ref 153, Value.ref 154, Value.ref 155, Value.ref 156, Value.ref 157, Value.int (-16384), Value.int 16384, Value.int 0, Value.int 0, Value.int 0, Value.ref 158, Value.ref 159, Value.int 0, Value.int 0, Value.int 0, Value.int 0, Value.int 0, Value.int 0, Value.int 0, Value.int 2]))) := by
  refine xRun.of ?_
  refine i_263_0 (x := 128) rfl ?_
  refine i_263_1 ?_
  refine i_263_2 (fs2 := [Value.ref 129, Value.ref 131, Value.ref 133, Value.ref 135, Value.ref 137, Value.ref 139, Value.ref 141, Value.ref 143, Value.ref 145, Value.ref 147, Value.ref 149, Value.ref 151, Value.ref 153, Value.ref 154, Value.ref 155, Value.ref 156, Value.ref 157, Value.int (-16384), Value.int 16384, Value.int 0, Value.int 0, Value.int 0, Value.ref 158, Value.ref 159, Value.int 0, Value.int 0, Value.int 0, Value.int 0, Value.int 0, Value.int 0, Value.int 0, Value.int 0]) hw0 (Nat.le_of_ble_eq_true rfl) rfl (by decide) ?_
  refine i_263_5 (x := 128) rfl ?_
  refine i_263_6 (x := a0) rfl ?_
  refine i_263_7 (x := a1) rfl ?_
  refine i_263_8 (x := a2) rfl ?_
  refine i_263_9 (x := a3) rfl ?_
  refine j_263_11 (xgs hw0) (Nat.le_of_ble_eq_true rfl) (p_264_7 e1 e2 e3 e4 e5 e6 e7 e8 (xgs hw0) (xgn (by decide) hw9) e10) (xDone.c xgl rfl rfl ?_)
  refine i_263_25 (lv2 := [(5, Value.ref ((w.set 128 (Sum.inr (12, [Value.ref 129, Value.ref 131, Value.ref 133, Value.ref 135, Value.ref 137, Value.ref 139, Value.ref 141, Value.ref 143, Value.ref 145, Value.ref 147, Value.ref 149, Value.ref 151, Value.ref 153, Value.ref 154, Value.ref 155, Value.ref 156, Value.ref 157, Value.int (-16384), Value.int 16384, Value.int 0, Value.int 0, Value.int 0, Value.ref 158, Value.ref 159, Value.int 0, Value.int 0, Value.int 0, Value.int 0, Value.int 0, Value.int 0, Value.int 0, Value.int 0]))).length)), (0, Value.ref 128), (1, Value.int a0), (2, Value.int a1), (3, Value.int a2), (4, Value.int a3)]) rfl ?_
  refine i_263_27 (x := 128) rfl ?_
  refine i_263_28 ?_
  refine i_263_29 (fs2 := [Value.ref 129, Value.ref 131, Value.ref 133, Value.ref 135, Value.ref 137, Value.ref 139, Value.ref 141, Value.ref 143, Value.ref 145, Value.ref 147, Value.ref 149, Value.ref 151, Value.ref 153, Value.ref 154, Value.ref 155, Value.ref 156, Value.ref 157, Value.int (-16384), Value.int 16384, Value.int 0, Value.int 0, Value.int 0, Value.ref 158, Value.ref 159, Value.int 0, Value.int 0, Value.int 0, Value.int 0, Value.int 0, Value.int 0, Value.int 0, Value.int 2]) (xga (xgs hw0)) (Nat.le_of_ble_eq_true rfl) rfl (by decide) ?_
  refine i_263_32 ?_
  exact i_263_33 ⟨rfl, rfl⟩
theorem o_22_7 {d : Nat} {xs : Nat → Int32} (h0 : ((xs 0) &&& (31 : Int32)).toInt = 22) (c0 : 0 ≤ (xs 1).toInt) (c1 : (xs 1).toInt < 16) (c2 : 2 ≤ (xs 2).toInt) (c3 : (xs 2).toInt ≤ 36) (c4 : 0 ≤ (xs 3).toInt) (c5 : (xs 3).toInt ≤ 2000) (c6 : 0 ≤ (xs 4).toInt) (c7 : (xs 4).toInt ≤ 4) : ∃ w1, xEv (d + 20) 287 23 [(4, Value.int 0), (3, Value.ref 194), (2, Value.ref 128), (1, Value.ref 7), (0, Value.ref 0)] [] (W0 6 xs) (fun o' w' => o' = .inl (some (Value.int 1)) ∧ w' = w1) ∧ w1.length ≤ 220 ∧ xsz w1 ≤ 200000 := by
  refine ⟨(((((W0 6 xs) ++ [Sum.inr (16, [])]).set 128 (Sum.inr (12, [Value.ref 129, Value.ref 131, Value.ref 133, Value.ref 135, Value.ref 137, Value.ref 139, Value.ref 141, Value.ref 143, Value.ref 145, Value.ref 147, Value.ref 149, Value.ref 151, Value.ref 153, Value.ref 154, Value.ref 155, Value.ref 156, Value.ref 157, Value.int (-16384), Value.int 16384, Value.int 0, Value.int 0, Value.int 0, Value.ref 158, Value.ref 159, Value.int 0, Value.int 0, Value.int 0, Value.int 0, Value.int 0, Value.int 0, Value.int 0, Value.int 0]))) ++ [Sum.inr (16, [])]).set 128 (Sum.inr (12, [Value.ref 129, Value.ref 131, Value.ref 133, Value.ref 135, Value.ref 137, Value.ref 139, Value.ref 141, Value.ref 143, Value.ref 145, Value.ref 147, Value.ref 149, Value.ref 151, Value.ref 153, Value.ref 154, Value.ref 155, Value.ref 156, Value.ref 157, Value.int (-16384), Value.int 16384, Value.int 0, Value.int 0, Value.int 0, Value.ref 158, Value.ref 159, Value.int 0, Value.int 0, Value.int 0, Value.int 0, Value.int 0, Value.int 0, Value.int 0, Value.int 2]))), ?_, (show xLs _ 220 200000 from ?_)⟩
  · refine i_287_23 (x := 0) rfl ?_
    refine i_287_25 (x := 0) rfl ?_
    refine i_287_26 (c := 6) W0_0 (by decide) ?_
    refine i_287_27 ?_
    refine i_287_29 (c := 0) (by decide) ?_
    refine i_287_30 (fun h => absurd h (by decide)) (fun _ => ?_)
    refine i_287_33 (x := 0) rfl ?_
    refine i_287_34 (x := 0) rfl ?_
    refine i_287_36 (v := Value.int (xs 0)) W0_0 (by decide) (by decide) rfl ?_
    refine i_287_37 ?_
    refine i_287_39 (c := ((xs 0) &&& (31 : Int32))) rfl ?_
    refine i_287_40_22 (by omega) ?_
    refine i_287_2006 (x := 7) rfl ?_
    refine i_287_2007 (x := 0) rfl ?_
    refine i_287_2008 (x := 0) rfl ?_
    refine i_287_2010 ?_
    refine i_287_2011 (c := 1) (by decide) ?_
    refine i_287_2012 (v := Value.int (xs 1)) W0_0 (by decide) (by decide) rfl ?_
    refine i_287_2013 (x := 0) rfl ?_
    refine i_287_2014 (x := 0) rfl ?_
    refine i_287_2016 ?_
    refine i_287_2017 (c := 2) (by decide) ?_
    refine i_287_2018 (v := Value.int (xs 2)) W0_0 (by decide) (by decide) rfl ?_
    refine i_287_2019 (x := 0) rfl ?_
    refine i_287_2020 (x := 0) rfl ?_
    refine i_287_2022 ?_
    refine i_287_2023 (c := 3) (by decide) ?_
    refine i_287_2024 (v := Value.int (xs 3)) W0_0 (by decide) (by decide) rfl ?_
    refine i_287_2025 (x := 0) rfl ?_
    refine i_287_2026 (x := 0) rfl ?_
    refine i_287_2028 ?_
    refine i_287_2029 (c := 4) (by decide) ?_
    refine i_287_2030 (v := Value.int (xs 4)) W0_0 (by decide) (by decide) rfl ?_
    refine i_287_2031 (x := 194) rfl ?_
    refine i_287_2032 (Nat.le_of_ble_eq_true rfl) (p_150_7 W0_7 (by omega) (by omega) (by omega) (by omega) (by omega) (by omega) (by omega) (by omega) W0_8 (greg_at (by omega)) (W0_reg (by omega))) ?_
    refine i_287_2035 (lv2 := [(5, Value.int 2), (4, Value.int 0), (3, Value.ref 194), (2, Value.ref 128), (1, Value.ref 7), (0, Value.ref 0)]) rfl ?_
    refine i_287_2037 (x := 128) rfl ?_
    refine i_287_2038 (x := 0) rfl ?_
    refine i_287_2039 (x := 0) rfl ?_
    refine i_287_2041 ?_
    refine i_287_2042 (c := 1) (by decide) ?_
    refine i_287_2043 (v := Value.int (xs 1)) (xga W0_0) (by decide) (by decide) rfl ?_
    refine i_287_2044 (x := 0) rfl ?_
    refine i_287_2045 (x := 0) rfl ?_
    refine i_287_2047 ?_
    refine i_287_2048 (c := 2) (by decide) ?_
    refine i_287_2049 (v := Value.int (xs 2)) (xga W0_0) (by decide) (by decide) rfl ?_
    refine i_287_2050 (x := 0) rfl ?_
    refine i_287_2051 (x := 0) rfl ?_
    refine i_287_2053 ?_
    refine i_287_2054 (c := 3) (by decide) ?_
    refine i_287_2055 (v := Value.int (xs 3)) (xga W0_0) (by decide) (by decide) rfl ?_
    refine i_287_2056 (x := 0) rfl ?_
    refine i_287_2057 (x := 0) rfl ?_
    refine i_287_2059 ?_
    refine i_287_2060 (c := 4) (by decide) ?_
    refine i_287_2061 (v := Value.int (xs 4)) (xga W0_0) (by decide) (by decide) rfl ?_
    refine i_287_2062 (xga W0_128) (Nat.le_of_ble_eq_true rfl) (p_263_7 (xga W0_128) (by omega) (by omega) (by omega) (by omega) (by omega) (by omega) (by omega) (by omega) (xga W0_154) (by omega)) ?_
    refine i_287_2065 (lv2 := [(6, Value.int 0), (5, Value.int 2), (4, Value.int 0), (3, Value.ref 194), (2, Value.ref 128), (1, Value.ref 7), (0, Value.ref 0)]) rfl ?_
    refine i_287_2067 (x := 128) rfl ?_
    refine i_287_2068 (xgs (xga (xgs (xga W0_128)))) (Nat.le_of_ble_eq_true rfl) (p_165_5 (xgs (xga (xgs (xga W0_128))))) ?_
    refine i_287_2071 (x := 2) rfl ?_
    refine i_287_2073 (fun _ => ?_) (fun h => absurd h (by decide))
    refine i_287_2078 (x := 2) rfl ?_
    refine i_287_2080 (fun _ => ?_) (fun h => absurd h (by decide))
    refine i_287_2095 ?_
    refine i_287_2154 (x := 0) (c := 6) (lv2 := [(4, Value.int 6), (6, Value.int 0), (5, Value.int 2), (3, Value.ref 194), (2, Value.ref 128), (1, Value.ref 7), (0, Value.ref 0)]) rfl (by decide) rfl ?_
    refine i_287_2157 ?_
    refine i_287_23 (x := 6) rfl ?_
    refine i_287_25 (x := 0) rfl ?_
    refine i_287_26 (c := 6) (xgn (by decide) (xga (xgn (by decide) (xga W0_0)))) (by decide) ?_
    refine i_287_27 ?_
    refine i_287_29 (c := 0) (by decide) ?_
    refine i_287_30 (fun _ => ?_) (fun h => absurd h (by decide))
    refine i_287_2160 ?_
    exact i_287_2161 rfl ⟨rfl, rfl⟩
  · refine xLs.set ?_ (xga (xgs (xga W0_128))) xcs_o
    refine xLs.app (n := 219) (z := 199994) (m := 6) ?_ rfl
    refine xLs.set ?_ (xga W0_128) xcs_o
    refine xLs.app (n := 218) (z := 199988) (m := 6) ?_ rfl
    exact ⟨Nat.le_trans (Nat.le_of_eq W0_len) (by decide), Nat.le_trans (Nat.le_of_eq W0_sz) (by decide)⟩
theorem p_151_8 {d : Nat} {w : xW} {a0 : Int32} {a1 : Int32} {a2 : Int32} {a3 : Int32} (e0 : 0 ≤ a0.toInt) (e1 : 16 ≤ a0.toInt) : xRun (d + 6) 151 [Value.ref 7, Value.int a0, Value.int a1, Value.int a2, Value.int a3] w (.inr w.length) (w ++ [Sum.inr (14, [])]) := by
  refine xRun.of ?_
  refine i_151_0 (x := a0) rfl ?_
  refine i_151_1 (Nat.le_of_ble_eq_true rfl) (p_15_2 e0 e1) ?_
  refine i_151_4 (fun _ => ?_) (fun h => absurd h (by decide))
  exact i_151_37 (by omega) (Nat.le_of_ble_eq_true rfl) ⟨rfl, rfl⟩
theorem p_150_8 {d : Nat} {w : xW} {a0 : Int32} {a1 : Int32} {a2 : Int32} {a3 : Int32} (hw0 : w[7]? = some (Sum.inr (0, [Value.ref 8, Value.ref 78, Value.ref 9, Value.ref 10, Value.ref 13, Value.ref 16, Value.ref 19, Value.ref 93, Value.ref 108, Value.ref 113, Value.ref 29, Value.int 0]))) (e1 : 0 ≤ a0.toInt) (e2 : 16 ≤ a0.toInt) : xRun (d + 7) 150 [Value.ref 7, Value.int a0, Value.int a1, Value.int a2, Value.int a3, Value.ref 194] w (.inl (some (Value.int 1))) (w ++ [Sum.inr (14, [])]) := by
  refine xRun.of ?_
  refine i_150_0 (x := 194) rfl ?_
  refine i_150_2 ?_
  refine i_150_3 (x := 7) rfl ?_
  refine i_150_4 (x := a0) rfl ?_
  refine i_150_5 (x := a1) rfl ?_
  refine i_150_6 (x := a2) rfl ?_
  refine i_150_7 (x := a3) rfl ?_
  refine j_150_9 hw0 (Nat.le_of_ble_eq_true rfl) (p_151_8 e1 e2) (xDone.c xgl rfl rfl ?_)
  refine i_150_17 (lv2 := [(6, Value.ref w.length), (0, Value.ref 7), (1, Value.int a0), (2, Value.int a1), (3, Value.int a2), (4, Value.int a3), (5, Value.ref 194)]) rfl ?_
  refine i_150_19 ?_
  exact i_150_20 ⟨rfl, rfl⟩
theorem p_264_8 {d : Nat} {w : xW} {a0 : Int32} {a1 : Int32} {a2 : Int32} {a3 : Int32} (e0 : 0 ≤ a0.toInt) (e1 : 15 < a0.toInt) : xRun (d + 8) 264 [Value.ref 128, Value.int a0, Value.int a1, Value.int a2, Value.int a3] w (.inr w.length) (w ++ [Sum.inr (14, [])]) := by
  refine xRun.of ?_
  refine i_264_0 (x := a0) rfl ?_
  exact j_264_1 (Nat.le_of_ble_eq_true rfl) (p_168_2 e0 e1) (xDone.t xgl rfl rfl ⟨rfl, rfl⟩)
theorem p_263_8 {d : Nat} {w : xW} {a0 : Int32} {a1 : Int32} {a2 : Int32} {a3 : Int32} (hw0 : w[128]? = some (Sum.inr (12, [Value.ref 129, Value.ref 131, Value.ref 133, Value.ref 135, Value.ref 137, Value.ref 139, Value.ref 141, Value.ref 143, Value.ref 145, Value.ref 147, Value.ref 149, Value.ref 151, Value.ref 153, Value.ref 154, Value.ref 155, Value.ref 156, Value.ref 157, Value.int (-16384), Value.int 16384, Value.int 0, Value.int 0, Value.int 0, Value.ref 158, Value.ref 159, Value.int 0, Value.int 0, Value.int 0, Value.int 0, Value.int 0, Value.int 0, Value.int 0, Value.int 0]))) (e1 : 0 ≤ a0.toInt) (e2 : 15 < a0.toInt) : xRun (d + 9) 263 [Value.ref 128, Value.int a0, Value.int a1, Value.int a2, Value.int a3] w (.inl (some (Value.int 0))) (((w.set 128 (Sum.inr (12, [Value.ref 129, Value.ref 131, Value.ref 133, Value.ref 135, Value.ref 137, Value.ref 139, Value.ref 141, Value.ref 143, Value.ref 145, Value.ref 147, Value.ref 149, Value.ref 151, Value.ref 153, Value.ref 154, Value.ref 155, Value.ref 156, Value.ref 157, Value.int (-16384), Value.int 16384, Value.int 0, Value.int 0, Value.int 0, Value.ref 158, Value.ref 159, Value.int 0, Value.int 0, Value.int 0, Value.int 0, Value.int 0, Value.int 0, Value.int 0, Value.int 0]))) ++ [Sum.inr (14, [])]).set 128 (Sum.inr (12, [Value.ref 129, Value.ref 131, Value.ref 133, Value.ref 135, Value.ref 137, Value.ref 139, Value.ref 141, Value.ref 143, Value.ref 145, Value.ref 147, Value.ref 149, Value.ref 151, Value.ref 153, Value.ref 154, Value.ref 155, Value.ref 156, Value.ref 157, Value.int (-16384), Value.int 16384, Value.int 0, Value.int 0, Value.int 0, Value.ref 158, Value.ref 159, Value.int 0, Value.int 0, Value.int 0, Value.int 0, Value.int 0, Value.int 0, Value.int 0, Value.int 1]))) := by
  refine xRun.of ?_
  refine i_263_0 (x := 128) rfl ?_
  refine i_263_1 ?_
  refine i_263_2 (fs2 := [Value.ref 129, Value.ref 131, Value.ref 133, Value.ref 135, Value.ref 137, Value.ref 139, Value.ref 141, Value.ref 143, Value.ref 145, Value.ref 147, Value.ref 149, Value.ref 151, Value.ref 153, Value.ref 154, Value.ref 155, Value.ref 156, Value.ref 157, Value.int (-16384), Value.int 16384, Value.int 0, Value.int 0, Value.int 0, Value.ref 158, Value.ref 159, Value.int 0, Value.int 0, Value.int 0, Value.int 0, Value.int 0, Value.int 0, Value.int 0, Value.int 0]) hw0 (Nat.le_of_ble_eq_true rfl) rfl (by decide) ?_
  refine i_263_5 (x := 128) rfl ?_
  refine i_263_6 (x := a0) rfl ?_
  refine i_263_7 (x := a1) rfl ?_
  refine i_263_8 (x := a2) rfl ?_
  refine i_263_9 (x := a3) rfl ?_
  refine j_263_11 (xgs hw0) (Nat.le_of_ble_eq_true rfl) (p_264_8 e1 e2) (xDone.c xgl rfl rfl ?_)
  refine i_263_15 (lv2 := [(5, Value.ref ((w.set 128 (Sum.inr (12, [Value.ref 129, Value.ref 131, Value.ref 133, Value.ref 135, Value.ref 137, Value.ref 139, Value.ref 141, Value.ref 143, Value.ref 145, Value.ref 147, Value.ref 149, Value.ref 151, Value.ref 153, Value.ref 154, Value.ref 155, Value.ref 156, Value.ref 157, Value.int (-16384), Value.int 16384, Value.int 0, Value.int 0, Value.int 0, Value.ref 158, Value.ref 159, Value.int 0, Value.int 0, Value.int 0, Value.int 0, Value.int 0, Value.int 0, Value.int 0, Value.int 0]))).length)), (0, Value.ref 128), (1, Value.int a0), (2, Value.int a1), (3, Value.int a2), (4, Value.int a3)]) rfl ?_
  refine i_263_17 (x := 128) rfl ?_
  refine i_263_18 ?_
  refine i_263_19 (fs2 := [Value.ref 129, Value.ref 131, Value.ref 133, Value.ref 135, Value.ref 137, Value.ref 139, Value.ref 141, Value.ref 143, Value.ref 145, Value.ref 147, Value.ref 149, Value.ref 151, Value.ref 153, Value.ref 154, Value.ref 155, Value.ref 156, Value.ref 157, Value.int (-16384), Value.int 16384, Value.int 0, Value.int 0, Value.int 0, Value.ref 158, Value.ref 159, Value.int 0, Value.int 0, Value.int 0, Value.int 0, Value.int 0, Value.int 0, Value.int 0, Value.int 1]) (xga (xgs hw0)) (Nat.le_of_ble_eq_true rfl) rfl (by decide) ?_
  refine i_263_22 ?_
  refine i_263_32 ?_
  exact i_263_33 ⟨rfl, rfl⟩
theorem o_22_8 {d : Nat} {xs : Nat → Int32} (h0 : ((xs 0) &&& (31 : Int32)).toInt = 22) (c0 : 0 ≤ (xs 1).toInt) (c1 : 16 ≤ (xs 1).toInt) : ∃ w1, xEv (d + 20) 287 23 [(4, Value.int 0), (3, Value.ref 194), (2, Value.ref 128), (1, Value.ref 7), (0, Value.ref 0)] [] (W0 6 xs) (fun o' w' => o' = .inl (some (Value.int 1)) ∧ w' = w1) ∧ w1.length ≤ 220 ∧ xsz w1 ≤ 200000 := by
  refine ⟨(((((W0 6 xs) ++ [Sum.inr (14, [])]).set 128 (Sum.inr (12, [Value.ref 129, Value.ref 131, Value.ref 133, Value.ref 135, Value.ref 137, Value.ref 139, Value.ref 141, Value.ref 143, Value.ref 145, Value.ref 147, Value.ref 149, Value.ref 151, Value.ref 153, Value.ref 154, Value.ref 155, Value.ref 156, Value.ref 157, Value.int (-16384), Value.int 16384, Value.int 0, Value.int 0, Value.int 0, Value.ref 158, Value.ref 159, Value.int 0, Value.int 0, Value.int 0, Value.int 0, Value.int 0, Value.int 0, Value.int 0, Value.int 0]))) ++ [Sum.inr (14, [])]).set 128 (Sum.inr (12, [Value.ref 129, Value.ref 131, Value.ref 133, Value.ref 135, Value.ref 137, Value.ref 139, Value.ref 141, Value.ref 143, Value.ref 145, Value.ref 147, Value.ref 149, Value.ref 151, Value.ref 153, Value.ref 154, Value.ref 155, Value.ref 156, Value.ref 157, Value.int (-16384), Value.int 16384, Value.int 0, Value.int 0, Value.int 0, Value.ref 158, Value.ref 159, Value.int 0, Value.int 0, Value.int 0, Value.int 0, Value.int 0, Value.int 0, Value.int 0, Value.int 1]))), ?_, (show xLs _ 220 200000 from ?_)⟩
  · refine i_287_23 (x := 0) rfl ?_
    refine i_287_25 (x := 0) rfl ?_
    refine i_287_26 (c := 6) W0_0 (by decide) ?_
    refine i_287_27 ?_
    refine i_287_29 (c := 0) (by decide) ?_
    refine i_287_30 (fun h => absurd h (by decide)) (fun _ => ?_)
    refine i_287_33 (x := 0) rfl ?_
    refine i_287_34 (x := 0) rfl ?_
    refine i_287_36 (v := Value.int (xs 0)) W0_0 (by decide) (by decide) rfl ?_
    refine i_287_37 ?_
    refine i_287_39 (c := ((xs 0) &&& (31 : Int32))) rfl ?_
    refine i_287_40_22 (by omega) ?_
    refine i_287_2006 (x := 7) rfl ?_
    refine i_287_2007 (x := 0) rfl ?_
    refine i_287_2008 (x := 0) rfl ?_
    refine i_287_2010 ?_
    refine i_287_2011 (c := 1) (by decide) ?_
    refine i_287_2012 (v := Value.int (xs 1)) W0_0 (by decide) (by decide) rfl ?_
    refine i_287_2013 (x := 0) rfl ?_
    refine i_287_2014 (x := 0) rfl ?_
    refine i_287_2016 ?_
    refine i_287_2017 (c := 2) (by decide) ?_
    refine i_287_2018 (v := Value.int (xs 2)) W0_0 (by decide) (by decide) rfl ?_
    refine i_287_2019 (x := 0) rfl ?_
    refine i_287_2020 (x := 0) rfl ?_
    refine i_287_2022 ?_
    refine i_287_2023 (c := 3) (by decide) ?_
    refine i_287_2024 (v := Value.int (xs 3)) W0_0 (by decide) (by decide) rfl ?_
    refine i_287_2025 (x := 0) rfl ?_
    refine i_287_2026 (x := 0) rfl ?_
    refine i_287_2028 ?_
    refine i_287_2029 (c := 4) (by decide) ?_
    refine i_287_2030 (v := Value.int (xs 4)) W0_0 (by decide) (by decide) rfl ?_
    refine i_287_2031 (x := 194) rfl ?_
    refine i_287_2032 (Nat.le_of_ble_eq_true rfl) (p_150_8 W0_7 (by omega) (by omega)) ?_
    refine i_287_2035 (lv2 := [(5, Value.int 1), (4, Value.int 0), (3, Value.ref 194), (2, Value.ref 128), (1, Value.ref 7), (0, Value.ref 0)]) rfl ?_
    refine i_287_2037 (x := 128) rfl ?_
    refine i_287_2038 (x := 0) rfl ?_
    refine i_287_2039 (x := 0) rfl ?_
    refine i_287_2041 ?_
    refine i_287_2042 (c := 1) (by decide) ?_
    refine i_287_2043 (v := Value.int (xs 1)) (xga W0_0) (by decide) (by decide) rfl ?_
    refine i_287_2044 (x := 0) rfl ?_
    refine i_287_2045 (x := 0) rfl ?_
    refine i_287_2047 ?_
    refine i_287_2048 (c := 2) (by decide) ?_
    refine i_287_2049 (v := Value.int (xs 2)) (xga W0_0) (by decide) (by decide) rfl ?_
    refine i_287_2050 (x := 0) rfl ?_
    refine i_287_2051 (x := 0) rfl ?_
    refine i_287_2053 ?_
    refine i_287_2054 (c := 3) (by decide) ?_
    refine i_287_2055 (v := Value.int (xs 3)) (xga W0_0) (by decide) (by decide) rfl ?_
    refine i_287_2056 (x := 0) rfl ?_
    refine i_287_2057 (x := 0) rfl ?_
    refine i_287_2059 ?_
    refine i_287_2060 (c := 4) (by decide) ?_
    refine i_287_2061 (v := Value.int (xs 4)) (xga W0_0) (by decide) (by decide) rfl ?_
    refine i_287_2062 (xga W0_128) (Nat.le_of_ble_eq_true rfl) (p_263_8 (xga W0_128) (by omega) (by omega)) ?_
    refine i_287_2065 (lv2 := [(6, Value.int 0), (5, Value.int 1), (4, Value.int 0), (3, Value.ref 194), (2, Value.ref 128), (1, Value.ref 7), (0, Value.ref 0)]) rfl ?_
    refine i_287_2067 (x := 128) rfl ?_
    refine i_287_2068 (xgs (xga (xgs (xga W0_128)))) (Nat.le_of_ble_eq_true rfl) (p_165_0 (xgs (xga (xgs (xga W0_128))))) ?_
    refine i_287_2071 (x := 1) rfl ?_
    refine i_287_2073 (fun _ => ?_) (fun h => absurd h (by decide))
    refine i_287_2078 (x := 1) rfl ?_
    refine i_287_2080 (fun _ => ?_) (fun h => absurd h (by decide))
    refine i_287_2095 ?_
    refine i_287_2154 (x := 0) (c := 6) (lv2 := [(4, Value.int 6), (6, Value.int 0), (5, Value.int 1), (3, Value.ref 194), (2, Value.ref 128), (1, Value.ref 7), (0, Value.ref 0)]) rfl (by decide) rfl ?_
    refine i_287_2157 ?_
    refine i_287_23 (x := 6) rfl ?_
    refine i_287_25 (x := 0) rfl ?_
    refine i_287_26 (c := 6) (xgn (by decide) (xga (xgn (by decide) (xga W0_0)))) (by decide) ?_
    refine i_287_27 ?_
    refine i_287_29 (c := 0) (by decide) ?_
    refine i_287_30 (fun _ => ?_) (fun h => absurd h (by decide))
    refine i_287_2160 ?_
    exact i_287_2161 rfl ⟨rfl, rfl⟩
  · refine xLs.set ?_ (xga (xgs (xga W0_128))) xcs_o
    refine xLs.app (n := 219) (z := 199994) (m := 6) ?_ rfl
    refine xLs.set ?_ (xga W0_128) xcs_o
    refine xLs.app (n := 218) (z := 199988) (m := 6) ?_ rfl
    exact ⟨Nat.le_trans (Nat.le_of_eq W0_len) (by decide), Nat.le_trans (Nat.le_of_eq W0_sz) (by decide)⟩
theorem op_22 {d : Nat} {xs : Nat → Int32} (h0 : ((xs 0) &&& (31 : Int32)).toInt = 22) : ∃ w1, xEv (d + 20) 287 23 [(4, Value.int 0), (3, Value.ref 194), (2, Value.ref 128), (1, Value.ref 7), (0, Value.ref 0)] [] (W0 6 xs) (fun o' w' => o' = .inl (some (Value.int 1)) ∧ w' = w1) ∧ w1.length ≤ 220 ∧ xsz w1 ≤ 200000 := by
  rcases Int.lt_or_le (xs 1).toInt (0) with c0 | c0
  · exact o_22_0 h0 c0
  · rcases Int.lt_or_le (xs 1).toInt (16) with c1 | c1
    · rcases Int.lt_or_le (xs 2).toInt (2) with c2 | c2
      · exact o_22_1 h0 c0 c1 c2
      · rcases Int.lt_or_le (36) (xs 2).toInt with c3 | c3
        · exact o_22_2 h0 c0 c1 c2 c3
        · rcases Int.lt_or_le (xs 3).toInt (0) with c4 | c4
          · exact o_22_3 h0 c0 c1 c2 c3 c4
          · rcases Int.lt_or_le (2000) (xs 3).toInt with c5 | c5
            · exact o_22_4 h0 c0 c1 c2 c3 c4 c5
            · rcases Int.lt_or_le (xs 4).toInt (0) with c6 | c6
              · exact o_22_5 h0 c0 c1 c2 c3 c4 c5 c6
              · rcases Int.lt_or_le (4) (xs 4).toInt with c7 | c7
                · exact o_22_6 h0 c0 c1 c2 c3 c4 c5 c6 c7
                · exact o_22_7 h0 c0 c1 c2 c3 c4 c5 c6 c7
    · exact o_22_8 h0 c0 c1
theorem p_162_0 {d : Nat} {w : xW} {a0 : Int32} (e0 : a0.toInt < (-1)) : xRun (d + 6) 162 [Value.ref 7, Value.int a0] w (.inr w.length) (w ++ [Sum.inr (16, [])]) := by
  refine xRun.of ?_
  refine i_162_0 (x := a0) rfl ?_
  refine i_162_1 ?_
  refine i_162_2 (fun _ => ?_) (fun h => absurd e0 (Int.not_lt.mpr h))
  exact i_162_16 (by omega) (Nat.le_of_ble_eq_true rfl) ⟨rfl, rfl⟩
theorem p_161_0 {d : Nat} {w : xW} {a0 : Int32} (hw0 : w[7]? = some (Sum.inr (0, [Value.ref 8, Value.ref 78, Value.ref 9, Value.ref 10, Value.ref 13, Value.ref 16, Value.ref 19, Value.ref 93, Value.ref 108, Value.ref 113, Value.ref 29, Value.int 0]))) (e1 : a0.toInt < (-1)) : xRun (d + 7) 161 [Value.ref 7, Value.int a0, Value.ref 194] w (.inl (some (Value.int 1))) (w ++ [Sum.inr (16, [])]) := by
  refine xRun.of ?_
  refine i_161_0 (x := 194) rfl ?_
  refine i_161_1 ?_
  refine i_161_2 (x := 7) rfl ?_
  refine i_161_3 (x := a0) rfl ?_
  refine j_161_4 hw0 (Nat.le_of_ble_eq_true rfl) (p_162_0 e1) (xDone.c xgl rfl rfl ?_)
  refine i_161_12 (lv2 := [(3, Value.ref w.length), (0, Value.ref 7), (1, Value.int a0), (2, Value.ref 194)]) rfl ?_
  refine i_161_13 ?_
  exact i_161_14 ⟨rfl, rfl⟩
theorem p_169_39 {d : Nat} {w : xW} {a0 : Int32} (e0 : a0.toInt < (-1)) : xRun d 169 [Value.int a0, Value.int (-1), Value.int (-1)] w (.inl (some (Value.int 0))) w := by
  refine xRun.of ?_
  refine i_169_0 (x := a0) rfl ?_
  refine i_169_1 (x := (-1)) rfl ?_
  refine i_169_2 (fun _ => ?_) (fun h => absurd e0 (Int.not_lt.mpr h))
  refine i_169_14 ?_
  exact i_169_15 rfl ⟨rfl, rfl⟩
theorem p_271_0 {d : Nat} {w : xW} {a0 : Int32} (hw0 : w[128]? = some (Sum.inr (12, [Value.ref 129, Value.ref 131, Value.ref 133, Value.ref 135, Value.ref 137, Value.ref 139, Value.ref 141, Value.ref 143, Value.ref 145, Value.ref 147, Value.ref 149, Value.ref 151, Value.ref 153, Value.ref 154, Value.ref 155, Value.ref 156, Value.ref 157, Value.int (-16384), Value.int 16384, Value.int 0, Value.int 0, Value.int 0, Value.ref 158, Value.ref 159, Value.int 0, Value.int 0, Value.int 0, Value.int 0, Value.int 0, Value.int 0, Value.int 0, Value.int 0]))) (e1 : a0.toInt < (-1)) : xRun (d + 7) 271 [Value.ref 128, Value.int a0] w (.inr w.length) (w ++ [Sum.inr (16, [])]) := by
  refine xRun.of ?_
  refine i_271_0 (x := a0) rfl ?_
  refine i_271_1 ?_
  refine i_271_2 (x := 128) rfl ?_
  refine i_271_3 (v := Value.int 0) hw0 rfl ?_
  refine i_271_6 ?_
  refine i_271_7 (c := (-1)) (by decide) ?_
  refine i_271_8 (Nat.le_of_ble_eq_true rfl) (p_169_39 e1) ?_
  exact j_271_11 (Nat.le_of_ble_eq_true rfl) (p_244_0) (xDone.t xgl rfl rfl ⟨rfl, rfl⟩)
theorem p_270_0 {d : Nat} {w : xW} {a0 : Int32} (hw0 : w[128]? = some (Sum.inr (12, [Value.ref 129, Value.ref 131, Value.ref 133, Value.ref 135, Value.ref 137, Value.ref 139, Value.ref 141, Value.ref 143, Value.ref 145, Value.ref 147, Value.ref 149, Value.ref 151, Value.ref 153, Value.ref 154, Value.ref 155, Value.ref 156, Value.ref 157, Value.int (-16384), Value.int 16384, Value.int 0, Value.int 0, Value.int 0, Value.ref 158, Value.ref 159, Value.int 0, Value.int 0, Value.int 0, Value.int 0, Value.int 0, Value.int 0, Value.int 0, Value.int 0]))) (e1 : a0.toInt < (-1)) : xRun (d + 8) 270 [Value.ref 128, Value.int a0] w (.inl (some (Value.int 0))) (((w.set 128 (Sum.inr (12, [Value.ref 129, Value.ref 131, Value.ref 133, Value.ref 135, Value.ref 137, Value.ref 139, Value.ref 141, Value.ref 143, Value.ref 145, Value.ref 147, Value.ref 149, Value.ref 151, Value.ref 153, Value.ref 154, Value.ref 155, Value.ref 156, Value.ref 157, Value.int (-16384), Value.int 16384, Value.int 0, Value.int 0, Value.int 0, Value.ref 158, Value.ref 159, Value.int 0, Value.int 0, Value.int 0, Value.int 0, Value.int 0, Value.int 0, Value.int 0, Value.int 0]))) ++ [Sum.inr (16, [])]).set 128 (Sum.inr (12, [Value.ref 129, Value.ref 131, Value.ref 133, Value.ref 135, Value.ref 137, Value.ref 139, Value.ref 141, Value.ref 143, Value.ref 145, Value.ref 147, Value.ref 149, Value.ref 151, Value.ref 153, Value.ref 154, Value.ref 155, Value.ref 156, Value.ref 157, Value.int (-16384), Value.int 16384, Value.int 0, Value.int 0, Value.int 0, Value.ref 158, Value.ref 159, Value.int 0, Value.int 0, Value.int 0, Value.int 0, Value.int 0, Value.int 0, Value.int 0, Value.int 1]))) := by
  refine xRun.of ?_
  refine i_270_0 (x := 128) rfl ?_
  refine i_270_1 ?_
  refine i_270_2 (fs2 := [Value.ref 129, Value.ref 131, Value.ref 133, Value.ref 135, Value.ref 137, Value.ref 139, Value.ref 141, Value.ref 143, Value.ref 145, Value.ref 147, Value.ref 149, Value.ref 151, Value.ref 153, Value.ref 154, Value.ref 155, Value.ref 156, Value.ref 157, Value.int (-16384), Value.int 16384, Value.int 0, Value.int 0, Value.int 0, Value.ref 158, Value.ref 159, Value.int 0, Value.int 0, Value.int 0, Value.int 0, Value.int 0, Value.int 0, Value.int 0, Value.int 0]) hw0 (Nat.le_of_ble_eq_true rfl) rfl (by decide) ?_
  refine i_270_5 (x := 128) rfl ?_
  refine i_270_6 (x := a0) rfl ?_
  refine j_270_7 (xgs hw0) (Nat.le_of_ble_eq_true rfl) (p_271_0 (xgs hw0) e1) (xDone.c xgl rfl rfl ?_)
  refine i_270_11 (lv2 := [(2, Value.ref ((w.set 128 (Sum.inr (12, [Value.ref 129, Value.ref 131, Value.ref 133, Value.ref 135, Value.ref 137, Value.ref 139, Value.ref 141, Value.ref 143, Value.ref 145, Value.ref 147, Value.ref 149, Value.ref 151, Value.ref 153, Value.ref 154, Value.ref 155, Value.ref 156, Value.ref 157, Value.int (-16384), Value.int 16384, Value.int 0, Value.int 0, Value.int 0, Value.ref 158, Value.ref 159, Value.int 0, Value.int 0, Value.int 0, Value.int 0, Value.int 0, Value.int 0, Value.int 0, Value.int 0]))).length)), (0, Value.ref 128), (1, Value.int a0)]) rfl ?_
  refine i_270_12 (x := 128) rfl ?_
  refine i_270_13 ?_
  refine i_270_14 (fs2 := [Value.ref 129, Value.ref 131, Value.ref 133, Value.ref 135, Value.ref 137, Value.ref 139, Value.ref 141, Value.ref 143, Value.ref 145, Value.ref 147, Value.ref 149, Value.ref 151, Value.ref 153, Value.ref 154, Value.ref 155, Value.ref 156, Value.ref 157, Value.int (-16384), Value.int 16384, Value.int 0, Value.int 0, Value.int 0, Value.ref 158, Value.ref 159, Value.int 0, Value.int 0, Value.int 0, Value.int 0, Value.int 0, Value.int 0, Value.int 0, Value.int 1]) (xga (xgs hw0)) (Nat.le_of_ble_eq_true rfl) rfl (by decide) ?_
  refine i_270_17 ?_
  exact i_270_18 ⟨rfl, rfl⟩
theorem o_23_0 {d : Nat} {xs : Nat → Int32} (h0 : ((xs 0) &&& (31 : Int32)).toInt = 23) (c0 : (xs 1).toInt < (-1)) : ∃ w1, xEv (d + 20) 287 23 [(4, Value.int 0), (3, Value.ref 194), (2, Value.ref 128), (1, Value.ref 7), (0, Value.ref 0)] [] (W0 6 xs) (fun o' w' => o' = .inl (some (Value.int 1)) ∧ w' = w1) ∧ w1.length ≤ 220 ∧ xsz w1 ≤ 200000 := by
  refine ⟨(((((W0 6 xs) ++ [Sum.inr (16, [])]).set 128 (Sum.inr (12, [Value.ref 129, Value.ref 131, Value.ref 133, Value.ref 135, Value.ref 137, Value.ref 139, Value.ref 141, Value.ref 143, Value.ref 145, Value.ref 147, Value.ref 149, Value.ref 151, Value.ref 153, Value.ref 154, Value.ref 155, Value.ref 156, Value.ref 157, Value.int (-16384), Value.int 16384, Value.int 0, Value.int 0, Value.int 0, Value.ref 158, Value.ref 159, Value.int 0, Value.int 0, Value.int 0, Value.int 0, Value.int 0, Value.int 0, Value.int 0, Value.int 0]))) ++ [Sum.inr (16, [])]).set 128 (Sum.inr (12, [Value.ref 129, Value.ref 131, Value.ref 133, Value.ref 135, Value.ref 137, Value.ref 139, Value.ref 141, Value.ref 143, Value.ref 145, Value.ref 147, Value.ref 149, Value.ref 151, Value.ref 153, Value.ref 154, Value.ref 155, Value.ref 156, Value.ref 157, Value.int (-16384), Value.int 16384, Value.int 0, Value.int 0, Value.int 0, Value.ref 158, Value.ref 159, Value.int 0, Value.int 0, Value.int 0, Value.int 0, Value.int 0, Value.int 0, Value.int 0, Value.int 1]))), ?_, (show xLs _ 220 200000 from ?_)⟩
  · refine i_287_23 (x := 0) rfl ?_
    refine i_287_25 (x := 0) rfl ?_
    refine i_287_26 (c := 6) W0_0 (by decide) ?_
    refine i_287_27 ?_
    refine i_287_29 (c := 0) (by decide) ?_
    refine i_287_30 (fun h => absurd h (by decide)) (fun _ => ?_)
    refine i_287_33 (x := 0) rfl ?_
    refine i_287_34 (x := 0) rfl ?_
    refine i_287_36 (v := Value.int (xs 0)) W0_0 (by decide) (by decide) rfl ?_
    refine i_287_37 ?_
    refine i_287_39 (c := ((xs 0) &&& (31 : Int32))) rfl ?_
    refine i_287_40_23 (by omega) ?_
    refine i_287_2098 (x := 7) rfl ?_
    refine i_287_2099 (x := 0) rfl ?_
    refine i_287_2100 (x := 0) rfl ?_
    refine i_287_2102 ?_
    refine i_287_2103 (c := 1) (by decide) ?_
    refine i_287_2104 (v := Value.int (xs 1)) W0_0 (by decide) (by decide) rfl ?_
    refine i_287_2105 (x := 194) rfl ?_
    refine i_287_2106 (Nat.le_of_ble_eq_true rfl) (p_161_0 W0_7 (by omega)) ?_
    refine i_287_2109 (lv2 := [(5, Value.int 1), (4, Value.int 0), (3, Value.ref 194), (2, Value.ref 128), (1, Value.ref 7), (0, Value.ref 0)]) rfl ?_
    refine i_287_2111 (x := 128) rfl ?_
    refine i_287_2112 (x := 0) rfl ?_
    refine i_287_2113 (x := 0) rfl ?_
    refine i_287_2115 ?_
    refine i_287_2116 (c := 1) (by decide) ?_
    refine i_287_2117 (v := Value.int (xs 1)) (xga W0_0) (by decide) (by decide) rfl ?_
    refine i_287_2118 (xga W0_128) (Nat.le_of_ble_eq_true rfl) (p_270_0 (xga W0_128) (by omega)) ?_
    refine i_287_2121 (lv2 := [(6, Value.int 0), (5, Value.int 1), (4, Value.int 0), (3, Value.ref 194), (2, Value.ref 128), (1, Value.ref 7), (0, Value.ref 0)]) rfl ?_
    refine i_287_2123 (x := 128) rfl ?_
    refine i_287_2124 (xgs (xga (xgs (xga W0_128)))) (Nat.le_of_ble_eq_true rfl) (p_165_0 (xgs (xga (xgs (xga W0_128))))) ?_
    refine i_287_2127 (x := 1) rfl ?_
    refine i_287_2129 (fun _ => ?_) (fun h => absurd h (by decide))
    refine i_287_2134 (x := 1) rfl ?_
    refine i_287_2136 (fun _ => ?_) (fun h => absurd h (by decide))
    refine i_287_2151 ?_
    refine i_287_2154 (x := 0) (c := 6) (lv2 := [(4, Value.int 6), (6, Value.int 0), (5, Value.int 1), (3, Value.ref 194), (2, Value.ref 128), (1, Value.ref 7), (0, Value.ref 0)]) rfl (by decide) rfl ?_
    refine i_287_2157 ?_
    refine i_287_23 (x := 6) rfl ?_
    refine i_287_25 (x := 0) rfl ?_
    refine i_287_26 (c := 6) (xgn (by decide) (xga (xgn (by decide) (xga W0_0)))) (by decide) ?_
    refine i_287_27 ?_
    refine i_287_29 (c := 0) (by decide) ?_
    refine i_287_30 (fun _ => ?_) (fun h => absurd h (by decide))
    refine i_287_2160 ?_
    exact i_287_2161 rfl ⟨rfl, rfl⟩
  · refine xLs.set ?_ (xga (xgs (xga W0_128))) xcs_o
    refine xLs.app (n := 219) (z := 199994) (m := 6) ?_ rfl
    refine xLs.set ?_ (xga W0_128) xcs_o
    refine xLs.app (n := 218) (z := 199988) (m := 6) ?_ rfl
    exact ⟨Nat.le_trans (Nat.le_of_eq W0_len) (by decide), Nat.le_trans (Nat.le_of_eq W0_sz) (by decide)⟩
theorem p_162_1 {d : Nat} {w : xW} {a0 : Int32} (e0 : (-1) ≤ a0.toInt) (hw1 : w[7]? = some (Sum.inr (0, [Value.ref 8, Value.ref 78, Value.ref 9, Value.ref 10, Value.ref 13, Value.ref 16, Value.ref 19, Value.ref 93, Value.ref 108, Value.ref 113, Value.ref 29, Value.int 0]))) (hw2 : w[113]? = some (Sum.inr (11, [Value.ref 79, Value.ref 86, Value.ref 114, Value.int 0, Value.ref 115, Value.ref 117, Value.ref 119, Value.ref 121, Value.ref 123, Value.ref 125, Value.int 0, Value.int 0, Value.int 0]))) (e3 : a0.toInt < 0) (e4 : a0.toInt = (-1)) : xRun d 162 [Value.ref 7, Value.int a0] w (.inl (some (Value.int 0))) w := by
  refine xRun.of ?_
  refine i_162_0 (x := a0) rfl ?_
  refine i_162_1 ?_
  refine i_162_2 (fun h => absurd e0 (Int.not_le.mpr h)) (fun _ => ?_)
  refine i_162_5 (x := a0) rfl ?_
  refine i_162_6 (x := 7) rfl ?_
  refine i_162_7 (v := Value.ref 113) hw1 rfl ?_
  refine i_162_10 (v := Value.int 0) hw2 rfl ?_
  refine i_162_13 (fun _ => ?_) (fun h => absurd e3 (Int.not_lt.mpr h))
  refine i_162_24 (x := a0) rfl ?_
  refine i_162_25 ?_
  refine i_162_26 (fun h => absurd e4 h) (fun _ => ?_)
  refine i_162_29 (x := 7) rfl ?_
  refine i_162_30 (v := Value.ref 113) hw1 rfl ?_
  refine i_162_33 (v := Value.int 0) hw2 rfl ?_
  refine i_162_36 ?_
  exact i_162_48 ⟨rfl, rfl⟩
theorem p_161_1 {d : Nat} {w : xW} {a0 : Int32} (hw0 : w[7]? = some (Sum.inr (0, [Value.ref 8, Value.ref 78, Value.ref 9, Value.ref 10, Value.ref 13, Value.ref 16, Value.ref 19, Value.ref 93, Value.ref 108, Value.ref 113, Value.ref 29, Value.int 0]))) (e1 : (-1) ≤ a0.toInt) (hw2 : w[113]? = some (Sum.inr (11, [Value.ref 79, Value.ref 86, Value.ref 114, Value.int 0, Value.ref 115, Value.ref 117, Value.ref 119, Value.ref 121, Value.ref 123, Value.ref 125, Value.int 0, Value.int 0, Value.int 0]))) (e3 : a0.toInt < 0) (e4 : a0.toInt = (-1)) (hw5 : w[194]? = some (Sum.inl (3, 1, fun _ => Value.long 0))) : xRun (d + 1) 161 [Value.ref 7, Value.int a0, Value.ref 194] w (.inl (some (Value.int 0))) (w.set 194 (Sum.inl (3, 1, xup (fun _ => Value.long 0) (0 : Int32).toInt.toNat (Value.long 0)))) := by
  refine xRun.of ?_
  refine i_161_0 (x := 194) rfl ?_
  refine i_161_1 ?_
  refine i_161_2 (x := 7) rfl ?_
  refine i_161_3 (x := a0) rfl ?_
  refine i_161_4 hw0 (Nat.le_of_ble_eq_true rfl) (p_162_1 e1 hw0 hw2 e3 e4) ?_
  refine i_161_7 (c := 0) (by decide) ?_
  refine i_161_8 (v := Value.long 0) hw5 (by decide) (by decide) (by decide) rfl ?_
  refine i_161_9 ?_
  refine i_161_15 ?_
  exact i_161_16 ⟨rfl, rfl⟩
theorem p_169_40 {d : Nat} {w : xW} {a0 : Int32} (e0 : (-1) ≤ a0.toInt) (e1 : a0.toInt ≤ (-1)) : xRun d 169 [Value.int a0, Value.int (-1), Value.int (-1)] w (.inl (some (Value.int 1))) w := by
  refine xRun.of ?_
  refine i_169_0 (x := a0) rfl ?_
  refine i_169_1 (x := (-1)) rfl ?_
  refine i_169_2 (fun h => absurd e0 (Int.not_le.mpr h)) (fun _ => ?_)
  refine i_169_5 (x := a0) rfl ?_
  refine i_169_6 (x := (-1)) rfl ?_
  refine i_169_7 (fun h => absurd e1 (Int.not_le.mpr h)) (fun _ => ?_)
  refine i_169_10 ?_
  refine i_169_11 ?_
  exact i_169_15 rfl ⟨rfl, rfl⟩
theorem p_244_1 {d : Nat} {w : xW} : xRun d 244 [Value.int 1] w (.inl none) w := by
  refine xRun.of ?_
  refine i_244_0 (x := 1) rfl ?_
  refine i_244_1 (fun _ => ?_) (fun h => absurd h (by decide))
  exact i_244_12 ⟨rfl, rfl⟩
theorem p_271_1 {d : Nat} {w : xW} {a0 : Int32} (hw0 : w[128]? = some (Sum.inr (12, [Value.ref 129, Value.ref 131, Value.ref 133, Value.ref 135, Value.ref 137, Value.ref 139, Value.ref 141, Value.ref 143, Value.ref 145, Value.ref 147, Value.ref 149, Value.ref 151, Value.ref 153, Value.ref 154, Value.ref 155, Value.ref 156, Value.ref 157, Value.int (-16384), Value.int 16384, Value.int 0, Value.int 0, Value.int 0, Value.ref 158, Value.ref 159, Value.int 0, Value.int 0, Value.int 0, Value.int 0, Value.int 0, Value.int 0, Value.int 0, Value.int 0]))) (e1 : (-1) ≤ a0.toInt) (e2 : a0.toInt ≤ (-1)) (e3 : a0.toInt < 0) : xRun (d + 1) 271 [Value.ref 128, Value.int a0] w (.inl (some (Value.int 0))) w := by
  refine xRun.of ?_
  refine i_271_0 (x := a0) rfl ?_
  refine i_271_1 ?_
  refine i_271_2 (x := 128) rfl ?_
  refine i_271_3 (v := Value.int 0) hw0 rfl ?_
  refine i_271_6 ?_
  refine i_271_7 (c := (-1)) (by decide) ?_
  refine i_271_8 (Nat.le_of_ble_eq_true rfl) (p_169_40 e1 e2) ?_
  refine i_271_11 (Nat.le_of_ble_eq_true rfl) (p_244_1) ?_
  refine i_271_14 (x := a0) rfl ?_
  refine i_271_15 (fun h => absurd e3 (Int.not_lt.mpr h)) (fun _ => ?_)
  refine i_271_18 (x := 128) rfl ?_
  refine i_271_19 (v := Value.int 0) hw0 rfl ?_
  refine i_271_22 ?_
  exact i_271_31 ⟨rfl, rfl⟩
theorem p_270_1 {d : Nat} {w : xW} {a0 : Int32} (hw0 : w[128]? = some (Sum.inr (12, [Value.ref 129, Value.ref 131, Value.ref 133, Value.ref 135, Value.ref 137, Value.ref 139, Value.ref 141, Value.ref 143, Value.ref 145, Value.ref 147, Value.ref 149, Value.ref 151, Value.ref 153, Value.ref 154, Value.ref 155, Value.ref 156, Value.ref 157, Value.int (-16384), Value.int 16384, Value.int 0, Value.int 0, Value.int 0, Value.ref 158, Value.ref 159, Value.int 0, Value.int 0, Value.int 0, Value.int 0, Value.int 0, Value.int 0, Value.int 0, Value.int 0]))) (e1 : (-1) ≤ a0.toInt) (e2 : a0.toInt ≤ (-1)) (e3 : a0.toInt < 0) : xRun (d + 2) 270 [Value.ref 128, Value.int a0] w (.inl (some (Value.int 0))) (w.set 128 (Sum.inr (12, [Value.ref 129, Value.ref 131, Value.ref 133, Value.ref 135, Value.ref 137, Value.ref 139, Value.ref 141, Value.ref 143, Value.ref 145, Value.ref 147, Value.ref 149, Value.ref 151, Value.ref 153, Value.ref 154, Value.ref 155, Value.ref 156, Value.ref 157, Value.int (-16384), Value.int 16384, Value.int 0, Value.int 0, Value.int 0, Value.ref 158, Value.ref 159, Value.int 0, Value.int 0, Value.int 0, Value.int 0, Value.int 0, Value.int 0, Value.int 0, Value.int 0]))) := by
  refine xRun.of ?_
  refine i_270_0 (x := 128) rfl ?_
  refine i_270_1 ?_
  refine i_270_2 (fs2 := [Value.ref 129, Value.ref 131, Value.ref 133, Value.ref 135, Value.ref 137, Value.ref 139, Value.ref 141, Value.ref 143, Value.ref 145, Value.ref 147, Value.ref 149, Value.ref 151, Value.ref 153, Value.ref 154, Value.ref 155, Value.ref 156, Value.ref 157, Value.int (-16384), Value.int 16384, Value.int 0, Value.int 0, Value.int 0, Value.ref 158, Value.ref 159, Value.int 0, Value.int 0, Value.int 0, Value.int 0, Value.int 0, Value.int 0, Value.int 0, Value.int 0]) hw0 (Nat.le_of_ble_eq_true rfl) rfl (by decide) ?_
  refine i_270_5 (x := 128) rfl ?_
  refine i_270_6 (x := a0) rfl ?_
  refine i_270_7 (xgs hw0) (Nat.le_of_ble_eq_true rfl) (p_271_1 (xgs hw0) e1 e2 e3) ?_
  exact i_270_10 ⟨rfl, rfl⟩
theorem o_23_1 {d : Nat} {xs : Nat → Int32} (h0 : ((xs 0) &&& (31 : Int32)).toInt = 23) (c0 : (-1) ≤ (xs 1).toInt) (c1 : (xs 1).toInt < 0) : ∃ w1, xEv (d + 20) 287 23 [(4, Value.int 0), (3, Value.ref 194), (2, Value.ref 128), (1, Value.ref 7), (0, Value.ref 0)] [] (W0 6 xs) (fun o' w' => o' = .inl (some (Value.int 1)) ∧ w' = w1) ∧ w1.length ≤ 220 ∧ xsz w1 ≤ 200000 := by
  refine ⟨(((W0 6 xs).set 194 (Sum.inl (3, 1, xup (fun _ => Value.long 0) (0 : Int32).toInt.toNat (Value.long 0)))).set 128 (Sum.inr (12, [Value.ref 129, Value.ref 131, Value.ref 133, Value.ref 135, Value.ref 137, Value.ref 139, Value.ref 141, Value.ref 143, Value.ref 145, Value.ref 147, Value.ref 149, Value.ref 151, Value.ref 153, Value.ref 154, Value.ref 155, Value.ref 156, Value.ref 157, Value.int (-16384), Value.int 16384, Value.int 0, Value.int 0, Value.int 0, Value.ref 158, Value.ref 159, Value.int 0, Value.int 0, Value.int 0, Value.int 0, Value.int 0, Value.int 0, Value.int 0, Value.int 0]))), ?_, (show xLs _ 220 200000 from ?_)⟩
  · refine i_287_23 (x := 0) rfl ?_
    refine i_287_25 (x := 0) rfl ?_
    refine i_287_26 (c := 6) W0_0 (by decide) ?_
    refine i_287_27 ?_
    refine i_287_29 (c := 0) (by decide) ?_
    refine i_287_30 (fun h => absurd h (by decide)) (fun _ => ?_)
    refine i_287_33 (x := 0) rfl ?_
    refine i_287_34 (x := 0) rfl ?_
    refine i_287_36 (v := Value.int (xs 0)) W0_0 (by decide) (by decide) rfl ?_
    refine i_287_37 ?_
    refine i_287_39 (c := ((xs 0) &&& (31 : Int32))) rfl ?_
    refine i_287_40_23 (by omega) ?_
    refine i_287_2098 (x := 7) rfl ?_
    refine i_287_2099 (x := 0) rfl ?_
    refine i_287_2100 (x := 0) rfl ?_
    refine i_287_2102 ?_
    refine i_287_2103 (c := 1) (by decide) ?_
    refine i_287_2104 (v := Value.int (xs 1)) W0_0 (by decide) (by decide) rfl ?_
    refine i_287_2105 (x := 194) rfl ?_
    refine i_287_2106 (Nat.le_of_ble_eq_true rfl) (p_161_1 W0_7 (by omega) W0_113 (by omega) (by omega) W0_194) ?_
    refine i_287_2109 (lv2 := [(5, Value.int 0), (4, Value.int 0), (3, Value.ref 194), (2, Value.ref 128), (1, Value.ref 7), (0, Value.ref 0)]) rfl ?_
    refine i_287_2111 (x := 128) rfl ?_
    refine i_287_2112 (x := 0) rfl ?_
    refine i_287_2113 (x := 0) rfl ?_
    refine i_287_2115 ?_
    refine i_287_2116 (c := 1) (by decide) ?_
    refine i_287_2117 (v := Value.int (xs 1)) (xgn (by decide) W0_0) (by decide) (by decide) rfl ?_
    refine i_287_2118 (xgn (by decide) W0_128) (Nat.le_of_ble_eq_true rfl) (p_270_1 (xgn (by decide) W0_128) (by omega) (by omega) (by omega)) ?_
    refine i_287_2121 (lv2 := [(6, Value.int 0), (5, Value.int 0), (4, Value.int 0), (3, Value.ref 194), (2, Value.ref 128), (1, Value.ref 7), (0, Value.ref 0)]) rfl ?_
    refine i_287_2123 (x := 128) rfl ?_
    refine i_287_2124 (xgs (xgn (by decide) W0_128)) (Nat.le_of_ble_eq_true rfl) (p_165_1 (xgs (xgn (by decide) W0_128))) ?_
    refine i_287_2127 (x := 0) rfl ?_
    refine i_287_2129 (fun _ => ?_) (fun h => absurd h (by decide))
    refine i_287_2134 (x := 0) rfl ?_
    refine i_287_2136 (fun h => absurd h (by decide)) (fun _ => ?_)
    refine i_287_2139 (x := 194) rfl ?_
    refine i_287_2140 ?_
    refine i_287_2141 (v := Value.long 0) (xgn (by decide) (xgs W0_194)) (by decide) (by decide) xup_s ?_
    refine i_287_2142 (x := 0) rfl ?_
    refine i_287_2144 (c := 0) (by decide) ?_
    refine i_287_2145 (c := 0) (by decide) ?_
    refine i_287_2146 (fun _ => ?_) (fun h => absurd h (by decide))
    refine i_287_2151 ?_
    refine i_287_2154 (x := 0) (c := 6) (lv2 := [(4, Value.int 6), (6, Value.int 0), (5, Value.int 0), (3, Value.ref 194), (2, Value.ref 128), (1, Value.ref 7), (0, Value.ref 0)]) rfl (by decide) rfl ?_
    refine i_287_2157 ?_
    refine i_287_23 (x := 6) rfl ?_
    refine i_287_25 (x := 0) rfl ?_
    refine i_287_26 (c := 6) (xgn (by decide) (xgn (by decide) W0_0)) (by decide) ?_
    refine i_287_27 ?_
    refine i_287_29 (c := 0) (by decide) ?_
    refine i_287_30 (fun _ => ?_) (fun h => absurd h (by decide))
    refine i_287_2160 ?_
    exact i_287_2161 rfl ⟨rfl, rfl⟩
  · refine xLs.set ?_ (xgn (by decide) W0_128) xcs_o
    refine xLs.set ?_ (W0_194) xcs_a
    exact ⟨Nat.le_trans (Nat.le_of_eq W0_len) (by decide), Nat.le_trans (Nat.le_of_eq W0_sz) (by decide)⟩
theorem p_162_2 {d : Nat} {w : xW} {a0 : Int32} (e0 : (-1) ≤ a0.toInt) (hw1 : w[7]? = some (Sum.inr (0, [Value.ref 8, Value.ref 78, Value.ref 9, Value.ref 10, Value.ref 13, Value.ref 16, Value.ref 19, Value.ref 93, Value.ref 108, Value.ref 113, Value.ref 29, Value.int 0]))) (hw2 : w[113]? = some (Sum.inr (11, [Value.ref 79, Value.ref 86, Value.ref 114, Value.int 0, Value.ref 115, Value.ref 117, Value.ref 119, Value.ref 121, Value.ref 123, Value.ref 125, Value.int 0, Value.int 0, Value.int 0]))) (e3 : 0 ≤ a0.toInt) : xRun (d + 6) 162 [Value.ref 7, Value.int a0] w (.inr w.length) (w ++ [Sum.inr (16, [])]) := by
  refine xRun.of ?_
  refine i_162_0 (x := a0) rfl ?_
  refine i_162_1 ?_
  refine i_162_2 (fun h => absurd e0 (Int.not_le.mpr h)) (fun _ => ?_)
  refine i_162_5 (x := a0) rfl ?_
  refine i_162_6 (x := 7) rfl ?_
  refine i_162_7 (v := Value.ref 113) hw1 rfl ?_
  refine i_162_10 (v := Value.int 0) hw2 rfl ?_
  refine i_162_13 (fun h => absurd e3 (Int.not_le.mpr h)) (fun _ => ?_)
  exact i_162_16 (by omega) (Nat.le_of_ble_eq_true rfl) ⟨rfl, rfl⟩
theorem p_161_2 {d : Nat} {w : xW} {a0 : Int32} (hw0 : w[7]? = some (Sum.inr (0, [Value.ref 8, Value.ref 78, Value.ref 9, Value.ref 10, Value.ref 13, Value.ref 16, Value.ref 19, Value.ref 93, Value.ref 108, Value.ref 113, Value.ref 29, Value.int 0]))) (e1 : (-1) ≤ a0.toInt) (hw2 : w[113]? = some (Sum.inr (11, [Value.ref 79, Value.ref 86, Value.ref 114, Value.int 0, Value.ref 115, Value.ref 117, Value.ref 119, Value.ref 121, Value.ref 123, Value.ref 125, Value.int 0, Value.int 0, Value.int 0]))) (e3 : 0 ≤ a0.toInt) : xRun (d + 7) 161 [Value.ref 7, Value.int a0, Value.ref 194] w (.inl (some (Value.int 1))) (w ++ [Sum.inr (16, [])]) := by
  refine xRun.of ?_
  refine i_161_0 (x := 194) rfl ?_
  refine i_161_1 ?_
  refine i_161_2 (x := 7) rfl ?_
  refine i_161_3 (x := a0) rfl ?_
  refine j_161_4 hw0 (Nat.le_of_ble_eq_true rfl) (p_162_2 e1 hw0 hw2 e3) (xDone.c xgl rfl rfl ?_)
  refine i_161_12 (lv2 := [(3, Value.ref w.length), (0, Value.ref 7), (1, Value.int a0), (2, Value.ref 194)]) rfl ?_
  refine i_161_13 ?_
  exact i_161_14 ⟨rfl, rfl⟩
theorem p_169_41 {d : Nat} {w : xW} {a0 : Int32} (e0 : (-1) ≤ a0.toInt) (e1 : (-1) < a0.toInt) : xRun d 169 [Value.int a0, Value.int (-1), Value.int (-1)] w (.inl (some (Value.int 0))) w := by
  refine xRun.of ?_
  refine i_169_0 (x := a0) rfl ?_
  refine i_169_1 (x := (-1)) rfl ?_
  refine i_169_2 (fun h => absurd e0 (Int.not_le.mpr h)) (fun _ => ?_)
  refine i_169_5 (x := a0) rfl ?_
  refine i_169_6 (x := (-1)) rfl ?_
  refine i_169_7 (fun _ => ?_) (fun h => absurd e1 (Int.not_lt.mpr h))
  refine i_169_14 ?_
  exact i_169_15 rfl ⟨rfl, rfl⟩
theorem p_271_2 {d : Nat} {w : xW} {a0 : Int32} (hw0 : w[128]? = some (Sum.inr (12, [Value.ref 129, Value.ref 131, Value.ref 133, Value.ref 135, Value.ref 137, Value.ref 139, Value.ref 141, Value.ref 143, Value.ref 145, Value.ref 147, Value.ref 149, Value.ref 151, Value.ref 153, Value.ref 154, Value.ref 155, Value.ref 156, Value.ref 157, Value.int (-16384), Value.int 16384, Value.int 0, Value.int 0, Value.int 0, Value.ref 158, Value.ref 159, Value.int 0, Value.int 0, Value.int 0, Value.int 0, Value.int 0, Value.int 0, Value.int 0, Value.int 0]))) (e1 : (-1) ≤ a0.toInt) (e2 : (-1) < a0.toInt) : xRun (d + 7) 271 [Value.ref 128, Value.int a0] w (.inr w.length) (w ++ [Sum.inr (16, [])]) := by
  refine xRun.of ?_
  refine i_271_0 (x := a0) rfl ?_
  refine i_271_1 ?_
  refine i_271_2 (x := 128) rfl ?_
  refine i_271_3 (v := Value.int 0) hw0 rfl ?_
  refine i_271_6 ?_
  refine i_271_7 (c := (-1)) (by decide) ?_
  refine i_271_8 (Nat.le_of_ble_eq_true rfl) (p_169_41 e1 e2) ?_
  exact j_271_11 (Nat.le_of_ble_eq_true rfl) (p_244_0) (xDone.t xgl rfl rfl ⟨rfl, rfl⟩)
theorem p_270_2 {d : Nat} {w : xW} {a0 : Int32} (hw0 : w[128]? = some (Sum.inr (12, [Value.ref 129, Value.ref 131, Value.ref 133, Value.ref 135, Value.ref 137, Value.ref 139, Value.ref 141, Value.ref 143, Value.ref 145, Value.ref 147, Value.ref 149, Value.ref 151, Value.ref 153, Value.ref 154, Value.ref 155, Value.ref 156, Value.ref 157, Value.int (-16384), Value.int 16384, Value.int 0, Value.int 0, Value.int 0, Value.ref 158, Value.ref 159, Value.int 0, Value.int 0, Value.int 0, Value.int 0, Value.int 0, Value.int 0, Value.int 0, Value.int 0]))) (e1 : (-1) ≤ a0.toInt) (e2 : (-1) < a0.toInt) : xRun (d + 8) 270 [Value.ref 128, Value.int a0] w (.inl (some (Value.int 0))) (((w.set 128 (Sum.inr (12, [Value.ref 129, Value.ref 131, Value.ref 133, Value.ref 135, Value.ref 137, Value.ref 139, Value.ref 141, Value.ref 143, Value.ref 145, Value.ref 147, Value.ref 149, Value.ref 151, Value.ref 153, Value.ref 154, Value.ref 155, Value.ref 156, Value.ref 157, Value.int (-16384), Value.int 16384, Value.int 0, Value.int 0, Value.int 0, Value.ref 158, Value.ref 159, Value.int 0, Value.int 0, Value.int 0, Value.int 0, Value.int 0, Value.int 0, Value.int 0, Value.int 0]))) ++ [Sum.inr (16, [])]).set 128 (Sum.inr (12, [Value.ref 129, Value.ref 131, Value.ref 133, Value.ref 135, Value.ref 137, Value.ref 139, Value.ref 141, Value.ref 143, Value.ref 145, Value.ref 147, Value.ref 149, Value.ref 151, Value.ref 153, Value.ref 154, Value.ref 155, Value.ref 156, Value.ref 157, Value.int (-16384), Value.int 16384, Value.int 0, Value.int 0, Value.int 0, Value.ref 158, Value.ref 159, Value.int 0, Value.int 0, Value.int 0, Value.int 0, Value.int 0, Value.int 0, Value.int 0, Value.int 1]))) := by
  refine xRun.of ?_
  refine i_270_0 (x := 128) rfl ?_
  refine i_270_1 ?_
  refine i_270_2 (fs2 := [Value.ref 129, Value.ref 131, Value.ref 133, Value.ref 135, Value.ref 137, Value.ref 139, Value.ref 141, Value.ref 143, Value.ref 145, Value.ref 147, Value.ref 149, Value.ref 151, Value.ref 153, Value.ref 154, Value.ref 155, Value.ref 156, Value.ref 157, Value.int (-16384), Value.int 16384, Value.int 0, Value.int 0, Value.int 0, Value.ref 158, Value.ref 159, Value.int 0, Value.int 0, Value.int 0, Value.int 0, Value.int 0, Value.int 0, Value.int 0, Value.int 0]) hw0 (Nat.le_of_ble_eq_true rfl) rfl (by decide) ?_
  refine i_270_5 (x := 128) rfl ?_
  refine i_270_6 (x := a0) rfl ?_
  refine j_270_7 (xgs hw0) (Nat.le_of_ble_eq_true rfl) (p_271_2 (xgs hw0) e1 e2) (xDone.c xgl rfl rfl ?_)
  refine i_270_11 (lv2 := [(2, Value.ref ((w.set 128 (Sum.inr (12, [Value.ref 129, Value.ref 131, Value.ref 133, Value.ref 135, Value.ref 137, Value.ref 139, Value.ref 141, Value.ref 143, Value.ref 145, Value.ref 147, Value.ref 149, Value.ref 151, Value.ref 153, Value.ref 154, Value.ref 155, Value.ref 156, Value.ref 157, Value.int (-16384), Value.int 16384, Value.int 0, Value.int 0, Value.int 0, Value.ref 158, Value.ref 159, Value.int 0, Value.int 0, Value.int 0, Value.int 0, Value.int 0, Value.int 0, Value.int 0, Value.int 0]))).length)), (0, Value.ref 128), (1, Value.int a0)]) rfl ?_
  refine i_270_12 (x := 128) rfl ?_
  refine i_270_13 ?_
  refine i_270_14 (fs2 := [Value.ref 129, Value.ref 131, Value.ref 133, Value.ref 135, Value.ref 137, Value.ref 139, Value.ref 141, Value.ref 143, Value.ref 145, Value.ref 147, Value.ref 149, Value.ref 151, Value.ref 153, Value.ref 154, Value.ref 155, Value.ref 156, Value.ref 157, Value.int (-16384), Value.int 16384, Value.int 0, Value.int 0, Value.int 0, Value.ref 158, Value.ref 159, Value.int 0, Value.int 0, Value.int 0, Value.int 0, Value.int 0, Value.int 0, Value.int 0, Value.int 1]) (xga (xgs hw0)) (Nat.le_of_ble_eq_true rfl) rfl (by decide) ?_
  refine i_270_17 ?_
  exact i_270_18 ⟨rfl, rfl⟩
theorem o_23_2 {d : Nat} {xs : Nat → Int32} (h0 : ((xs 0) &&& (31 : Int32)).toInt = 23) (c0 : (-1) ≤ (xs 1).toInt) (c1 : 0 ≤ (xs 1).toInt) : ∃ w1, xEv (d + 20) 287 23 [(4, Value.int 0), (3, Value.ref 194), (2, Value.ref 128), (1, Value.ref 7), (0, Value.ref 0)] [] (W0 6 xs) (fun o' w' => o' = .inl (some (Value.int 1)) ∧ w' = w1) ∧ w1.length ≤ 220 ∧ xsz w1 ≤ 200000 := by
  refine ⟨(((((W0 6 xs) ++ [Sum.inr (16, [])]).set 128 (Sum.inr (12, [Value.ref 129, Value.ref 131, Value.ref 133, Value.ref 135, Value.ref 137, Value.ref 139, Value.ref 141, Value.ref 143, Value.ref 145, Value.ref 147, Value.ref 149, Value.ref 151, Value.ref 153, Value.ref 154, Value.ref 155, Value.ref 156, Value.ref 157, Value.int (-16384), Value.int 16384, Value.int 0, Value.int 0, Value.int 0, Value.ref 158, Value.ref 159, Value.int 0, Value.int 0, Value.int 0, Value.int 0, Value.int 0, Value.int 0, Value.int 0, Value.int 0]))) ++ [Sum.inr (16, [])]).set 128 (Sum.inr (12, [Value.ref 129, Value.ref 131, Value.ref 133, Value.ref 135, Value.ref 137, Value.ref 139, Value.ref 141, Value.ref 143, Value.ref 145, Value.ref 147, Value.ref 149, Value.ref 151, Value.ref 153, Value.ref 154, Value.ref 155, Value.ref 156, Value.ref 157, Value.int (-16384), Value.int 16384, Value.int 0, Value.int 0, Value.int 0, Value.ref 158, Value.ref 159, Value.int 0, Value.int 0, Value.int 0, Value.int 0, Value.int 0, Value.int 0, Value.int 0, Value.int 1]))), ?_, (show xLs _ 220 200000 from ?_)⟩
  · refine i_287_23 (x := 0) rfl ?_
    refine i_287_25 (x := 0) rfl ?_
    refine i_287_26 (c := 6) W0_0 (by decide) ?_
    refine i_287_27 ?_
    refine i_287_29 (c := 0) (by decide) ?_
    refine i_287_30 (fun h => absurd h (by decide)) (fun _ => ?_)
    refine i_287_33 (x := 0) rfl ?_
    refine i_287_34 (x := 0) rfl ?_
    refine i_287_36 (v := Value.int (xs 0)) W0_0 (by decide) (by decide) rfl ?_
    refine i_287_37 ?_
    refine i_287_39 (c := ((xs 0) &&& (31 : Int32))) rfl ?_
    refine i_287_40_23 (by omega) ?_
    refine i_287_2098 (x := 7) rfl ?_
    refine i_287_2099 (x := 0) rfl ?_
    refine i_287_2100 (x := 0) rfl ?_
    refine i_287_2102 ?_
    refine i_287_2103 (c := 1) (by decide) ?_
    refine i_287_2104 (v := Value.int (xs 1)) W0_0 (by decide) (by decide) rfl ?_
    refine i_287_2105 (x := 194) rfl ?_
    refine i_287_2106 (Nat.le_of_ble_eq_true rfl) (p_161_2 W0_7 (by omega) W0_113 (by omega)) ?_
    refine i_287_2109 (lv2 := [(5, Value.int 1), (4, Value.int 0), (3, Value.ref 194), (2, Value.ref 128), (1, Value.ref 7), (0, Value.ref 0)]) rfl ?_
    refine i_287_2111 (x := 128) rfl ?_
    refine i_287_2112 (x := 0) rfl ?_
    refine i_287_2113 (x := 0) rfl ?_
    refine i_287_2115 ?_
    refine i_287_2116 (c := 1) (by decide) ?_
    refine i_287_2117 (v := Value.int (xs 1)) (xga W0_0) (by decide) (by decide) rfl ?_
    refine i_287_2118 (xga W0_128) (Nat.le_of_ble_eq_true rfl) (p_270_2 (xga W0_128) (by omega) (by omega)) ?_
    refine i_287_2121 (lv2 := [(6, Value.int 0), (5, Value.int 1), (4, Value.int 0), (3, Value.ref 194), (2, Value.ref 128), (1, Value.ref 7), (0, Value.ref 0)]) rfl ?_
    refine i_287_2123 (x := 128) rfl ?_
    refine i_287_2124 (xgs (xga (xgs (xga W0_128)))) (Nat.le_of_ble_eq_true rfl) (p_165_0 (xgs (xga (xgs (xga W0_128))))) ?_
    refine i_287_2127 (x := 1) rfl ?_
    refine i_287_2129 (fun _ => ?_) (fun h => absurd h (by decide))
    refine i_287_2134 (x := 1) rfl ?_
    refine i_287_2136 (fun _ => ?_) (fun h => absurd h (by decide))
    refine i_287_2151 ?_
    refine i_287_2154 (x := 0) (c := 6) (lv2 := [(4, Value.int 6), (6, Value.int 0), (5, Value.int 1), (3, Value.ref 194), (2, Value.ref 128), (1, Value.ref 7), (0, Value.ref 0)]) rfl (by decide) rfl ?_
    refine i_287_2157 ?_
    refine i_287_23 (x := 6) rfl ?_
    refine i_287_25 (x := 0) rfl ?_
    refine i_287_26 (c := 6) (xgn (by decide) (xga (xgn (by decide) (xga W0_0)))) (by decide) ?_
    refine i_287_27 ?_
    refine i_287_29 (c := 0) (by decide) ?_
    refine i_287_30 (fun _ => ?_) (fun h => absurd h (by decide))
    refine i_287_2160 ?_
    exact i_287_2161 rfl ⟨rfl, rfl⟩
  · refine xLs.set ?_ (xga (xgs (xga W0_128))) xcs_o
    refine xLs.app (n := 219) (z := 199994) (m := 6) ?_ rfl
    refine xLs.set ?_ (xga W0_128) xcs_o
    refine xLs.app (n := 218) (z := 199988) (m := 6) ?_ rfl
    exact ⟨Nat.le_trans (Nat.le_of_eq W0_len) (by decide), Nat.le_trans (Nat.le_of_eq W0_sz) (by decide)⟩
theorem op_23 {d : Nat} {xs : Nat → Int32} (h0 : ((xs 0) &&& (31 : Int32)).toInt = 23) : ∃ w1, xEv (d + 20) 287 23 [(4, Value.int 0), (3, Value.ref 194), (2, Value.ref 128), (1, Value.ref 7), (0, Value.ref 0)] [] (W0 6 xs) (fun o' w' => o' = .inl (some (Value.int 1)) ∧ w' = w1) ∧ w1.length ≤ 220 ∧ xsz w1 ≤ 200000 := by
  rcases Int.lt_or_le (xs 1).toInt (-1) with c0 | c0
  · exact o_23_0 h0 c0
  · rcases Int.lt_or_le (xs 1).toInt (0) with c1 | c1
    · exact o_23_1 h0 c0 c1
    · exact o_23_2 h0 c0 c1
theorem o_24_0 {d : Nat} {xs : Nat → Int32} (h0 : 24 ≤ ((xs 0) &&& (31 : Int32)).toInt ∧ ((xs 0) &&& (31 : Int32)).toInt ≤ 31) : ∃ w1, xEv (d + 20) 287 23 [(4, Value.int 0), (3, Value.ref 194), (2, Value.ref 128), (1, Value.ref 7), (0, Value.ref 0)] [] (W0 6 xs) (fun o' w' => o' = .inl (some (Value.int 1)) ∧ w' = w1) ∧ w1.length ≤ 220 ∧ xsz w1 ≤ 200000 := by
  refine ⟨(W0 6 xs), ?_, (show xLs _ 220 200000 from ?_)⟩
  · refine i_287_23 (x := 0) rfl ?_
    refine i_287_25 (x := 0) rfl ?_
    refine i_287_26 (c := 6) W0_0 (by decide) ?_
    refine i_287_27 ?_
    refine i_287_29 (c := 0) (by decide) ?_
    refine i_287_30 (fun h => absurd h (by decide)) (fun _ => ?_)
    refine i_287_33 (x := 0) rfl ?_
    refine i_287_34 (x := 0) rfl ?_
    refine i_287_36 (v := Value.int (xs 0)) W0_0 (by decide) (by decide) rfl ?_
    refine i_287_37 ?_
    refine i_287_39 (c := ((xs 0) &&& (31 : Int32))) rfl ?_
    refine i_287_40_d (Or.inr (by omega)) ?_
    refine i_287_2154 (x := 0) (c := 6) (lv2 := [(4, Value.int 6), (3, Value.ref 194), (2, Value.ref 128), (1, Value.ref 7), (0, Value.ref 0)]) rfl (by decide) rfl ?_
    refine i_287_2157 ?_
    refine i_287_23 (x := 6) rfl ?_
    refine i_287_25 (x := 0) rfl ?_
    refine i_287_26 (c := 6) W0_0 (by decide) ?_
    refine i_287_27 ?_
    refine i_287_29 (c := 0) (by decide) ?_
    refine i_287_30 (fun _ => ?_) (fun h => absurd h (by decide))
    refine i_287_2160 ?_
    exact i_287_2161 rfl ⟨rfl, rfl⟩
  · exact ⟨Nat.le_trans (Nat.le_of_eq W0_len) (by decide), Nat.le_trans (Nat.le_of_eq W0_sz) (by decide)⟩
theorem op_24 {d : Nat} {xs : Nat → Int32} (h0 : 24 ≤ ((xs 0) &&& (31 : Int32)).toInt ∧ ((xs 0) &&& (31 : Int32)).toInt ≤ 31) : ∃ w1, xEv (d + 20) 287 23 [(4, Value.int 0), (3, Value.ref 194), (2, Value.ref 128), (1, Value.ref 7), (0, Value.ref 0)] [] (W0 6 xs) (fun o' w' => o' = .inl (some (Value.int 1)) ∧ w' = w1) ∧ w1.length ≤ 220 ∧ xsz w1 ≤ 200000 := by
  exact o_24_0 h0
