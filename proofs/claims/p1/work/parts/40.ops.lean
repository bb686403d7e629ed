theorem p_15_0 {d : Nat} {w : xW} {a0 : Int32} (e0 : a0.toInt < 0) : xRun d 15 [Value.int a0] w (.inl (some (Value.int 1))) w := by
  refine xRun.of ?_
  refine i_15_0 (x := a0) rfl ?_
  refine i_15_1 (fun _ => ?_) (fun h => absurd e0 (Int.not_lt.mpr h))
  refine i_15_10 ?_
  refine i_15_11 ?_
  exact i_15_15 rfl ⟨rfl, rfl⟩
theorem p_14_0 {d : Nat} {w : xW} {a0 : Int32} {a1 : Int32} (e0 : a0.toInt < 0) : xRun (d + 6) 14 [Value.ref 7, Value.int a0, Value.int a1] w (.inr w.length) (w ++ [Sum.inr (14, [])]) := by
  refine xRun.of ?_
  refine i_14_0 (x := a0) rfl ?_
  refine i_14_1 (Nat.le_of_ble_eq_true rfl) (p_15_0 e0) ?_
  refine i_14_4 (fun _ => ?_) (fun h => absurd h (by decide))
  exact i_14_19 (by omega) (Nat.le_of_ble_eq_true rfl) ⟨rfl, rfl⟩
theorem p_13_0 {d : Nat} {w : xW} {a0 : Int32} {a1 : Int32} (hw0 : w[7]? = some (Sum.inr (0, [Value.ref 8, Value.ref 78, Value.ref 9, Value.ref 10, Value.ref 13, Value.ref 16, Value.ref 19, Value.ref 93, Value.ref 108, Value.ref 113, Value.ref 29, Value.int 0]))) (e1 : a0.toInt < 0) : xRun (d + 7) 13 [Value.ref 7, Value.int a0, Value.int a1, Value.ref 194] w (.inl (some (Value.int 1))) (w ++ [Sum.inr (14, [])]) := by
  refine xRun.of ?_
  refine i_13_0 (x := 194) rfl ?_
  refine i_13_1 ?_
  refine i_13_2 (x := 7) rfl ?_
  refine i_13_3 (x := a0) rfl ?_
  refine i_13_4 (x := a1) rfl ?_
  refine j_13_5 hw0 (Nat.le_of_ble_eq_true rfl) (p_14_0 e1) (xDone.c xgl rfl rfl ?_)
  refine i_13_13 (lv2 := [(4, Value.ref w.length), (0, Value.ref 7), (1, Value.int a0), (2, Value.int a1), (3, Value.ref 194)]) rfl ?_
  refine i_13_15 ?_
  exact i_13_16 ⟨rfl, rfl⟩
theorem p_169_0 {d : Nat} {w : xW} {a0 : Int32} (e0 : a0.toInt < 0) : xRun d 169 [Value.int a0, Value.int 0, Value.int 15] w (.inl (some (Value.int 0))) w := by
  refine xRun.of ?_
  refine i_169_0 (x := a0) rfl ?_
  refine i_169_1 (x := 0) rfl ?_
  refine i_169_2 (fun _ => ?_) (fun h => absurd e0 (Int.not_lt.mpr h))
  refine i_169_14 ?_
  exact i_169_15 rfl ⟨rfl, rfl⟩
theorem p_170_0 {d : Nat} {w : xW} : xRun (d + 6) 170 [Value.int 0] w (.inr w.length) (w ++ [Sum.inr (14, [])]) := by
  refine xRun.of ?_
  refine i_170_0 (x := 0) rfl ?_
  refine i_170_1 (fun h => absurd h (by decide)) (fun _ => ?_)
  exact i_170_4 (by omega) (Nat.le_of_ble_eq_true rfl) ⟨rfl, rfl⟩
theorem p_168_0 {d : Nat} {w : xW} {a0 : Int32} (e0 : a0.toInt < 0) : xRun (d + 7) 168 [Value.int a0] w (.inr w.length) (w ++ [Sum.inr (14, [])]) := by
  refine xRun.of ?_
  refine i_168_0 (x := a0) rfl ?_
  refine i_168_1 ?_
  refine i_168_2 ?_
  refine i_168_4 (Nat.le_of_ble_eq_true rfl) (p_169_0 e0) ?_
  exact j_168_7 (Nat.le_of_ble_eq_true rfl) (p_170_0) (xDone.t xgl rfl rfl ⟨rfl, rfl⟩)
theorem p_167_0 {d : Nat} {w : xW} {a0 : Int32} {a1 : Int32} (e0 : a0.toInt < 0) : xRun (d + 8) 167 [Value.ref 128, Value.int a0, Value.int a1] w (.inr w.length) (w ++ [Sum.inr (14, [])]) := by
  refine xRun.of ?_
  refine i_167_0 (x := a0) rfl ?_
  exact j_167_1 (Nat.le_of_ble_eq_true rfl) (p_168_0 e0) (xDone.t xgl rfl rfl ⟨rfl, rfl⟩)
theorem p_166_0 {d : Nat} {w : xW} {a0 : Int32} {a1 : Int32} (hw0 : w[128]? = some (Sum.inr (12, [Value.ref 129, Value.ref 131, Value.ref 133, Value.ref 135, Value.ref 137, Value.ref 139, Value.ref 141, Value.ref 143, Value.ref 145, Value.ref 147, Value.ref 149, Value.ref 151, Value.ref 153, Value.ref 154, Value.ref 155, Value.ref 156, Value.ref 157, Value.int (-16384), Value.int 16384, Value.int 0, Value.int 0, Value.int 0, Value.ref 158, Value.ref 159, Value.int 0, Value.int 0, Value.int 0, Value.int 0, Value.int 0, Value.int 0, Value.int 0, Value.int 0]))) (e1 : a0.toInt < 0) : xRun (d + 9) 166 [Value.ref 128, Value.int a0, Value.int a1] w (.inl (some (Value.int 0))) (((w.set 128 (Sum.inr (12, [Value.ref 129, Value.ref 131, Value.ref 133, Value.ref 135, Value.ref 137, Value.ref 139, Value.ref 141, Value.ref 143, Value.ref 145, Value.ref 147, Value.ref 149, Value.ref 151, Value.ref 153, Value.ref 154, Value.ref 155, Value.ref 156, Value.ref 157, Value.int (-16384), Value.int 16384, Value.int 0, Value.int 0, Value.int 0, Value.ref 158, Value.ref 159, Value.int 0, Value.int 0, Value.int 0, Value.int 0, Value.int 0, Value.int 0, Value.int 0, Value.int 0]))) ++ [Sum.inr (14, [])]).set 128 (Sum.inr (12, [Value.ref 129, Value.ref 131, Value.ref 133, Value.ref 135, Value.ref 137, Value.ref 139, Value.ref 141, Value.ref 143, Value.ref 145, Value.ref 147, Value.ref 149, Value.ref 151, Value.ref 153, Value.ref 154, Value.ref 155, Value.ref 156, Value.ref 157, Value.int (-16384), Value.int 16384, Value.int 0, Value.int 0, Value.int 0, Value.ref 158, Value.ref 159, Value.int 0, Value.int 0, Value.int 0, Value.int 0, Value.int 0, Value.int 0, Value.int 0, Value.int 1]))) := by
  refine xRun.of ?_
  refine i_166_0 (x := 128) rfl ?_
  refine i_166_1 ?_
  refine i_166_2 (fs2 := [Value.ref 129, Value.ref 131, Value.ref 133, Value.ref 135, Value.ref 137, Value.ref 139, Value.ref 141, Value.ref 143, Value.ref 145, Value.ref 147, Value.ref 149, Value.ref 151, Value.ref 153, Value.ref 154, Value.ref 155, Value.ref 156, Value.ref 157, Value.int (-16384), Value.int 16384, Value.int 0, Value.int 0, Value.int 0, Value.ref 158, Value.ref 159, Value.int 0, Value.int 0, Value.int 0, Value.int 0, Value.int 0, Value.int 0, Value.int 0, Value.int 0]) hw0 (Nat.le_of_ble_eq_true rfl) rfl (by decide) ?_
  refine i_166_5 (x := 128) rfl ?_
  refine i_166_6 (x := a0) rfl ?_
  refine i_166_7 (x := a1) rfl ?_
  refine j_166_8 (xgs hw0) (Nat.le_of_ble_eq_true rfl) (p_167_0 e1) (xDone.c xgl rfl rfl ?_)
  refine i_166_12 (lv2 := [(3, Value.ref ((w.set 128 (Sum.inr (12, [Value.ref 129, Value.ref 131, Value.ref 133, Value.ref 135, Value.ref 137, Value.ref 139, Value.ref 141, Value.ref 143, Value.ref 145, Value.ref 147, Value.ref 149, Value.ref 151, Value.ref 153, Value.ref 154, Value.ref 155, Value.ref 156, Value.ref 157, Value.int (-16384), Value.int 16384, Value.int 0, Value.int 0, Value.int 0, Value.ref 158, Value.ref 159, Value.int 0, Value.int 0, Value.int 0, Value.int 0, Value.int 0, Value.int 0, Value.int 0, Value.int 0]))).length)), (0, Value.ref 128), (1, Value.int a0), (2, Value.int a1)]) rfl ?_
  refine i_166_13 (x := 128) rfl ?_
  refine i_166_14 ?_
  refine i_166_15 (fs2 := [Value.ref 129, Value.ref 131, Value.ref 133, Value.ref 135, Value.ref 137, Value.ref 139, Value.ref 141, Value.ref 143, Value.ref 145, Value.ref 147, Value.ref 149, Value.ref 151, Value.ref 153, Value.ref 154, Value.ref 155, Value.ref 156, Value.ref 157, Value.int (-16384), Value.int 16384, Value.int 0, Value.int 0, Value.int 0, Value.ref 158, Value.ref 159, Value.int 0, Value.int 0, Value.int 0, Value.int 0, Value.int 0, Value.int 0, Value.int 0, Value.int 1]) (xga (xgs hw0)) (Nat.le_of_ble_eq_true rfl) rfl (by decide) ?_
  refine i_166_18 ?_
  exact i_166_19 ⟨rfl, rfl⟩
theorem p_165_0 {d : Nat} {w : xW} (hw0 : w[128]? = some (Sum.inr (12, [Value.ref 129, Value.ref 131, Value.ref 133, Value.ref 135, Value.ref 137, Value.ref 139, Value.ref 141, Value.ref 143, Value.ref 145, Value.ref 147, Value.ref 149, Value.ref 151, Value.ref 153, Value.ref 154, Value.ref 155, Value.ref 156, Value.ref 157, Value.int (-16384), Value.int 16384, Value.int 0, Value.int 0, Value.int 0, Value.ref 158, Value.ref 159, Value.int 0, Value.int 0, Value.int 0, Value.int 0, Value.int 0, Value.int 0, Value.int 0, Value.int 1]))) : xRun d 165 [Value.ref 128] w (.inl (some (Value.int 1))) w := by
  refine xRun.of ?_
  refine i_165_0 (x := 128) rfl ?_
  refine i_165_1 (v := Value.int 1) hw0 rfl ?_
  exact i_165_4 ⟨rfl, rfl⟩
theorem o_0_0 {d : Nat} {xs : Nat → Int32} (h0 : ((xs 0) &&& (31 : Int32)).toInt = 0) (c0 : (xs 1).toInt < 0) : ∃ w1, xEv (d + 20) 287 23 [(4, Value.int 0), (3, Value.ref 194), (2, Value.ref 128), (1, Value.ref 7), (0, Value.ref 0)] [] (W0 6 xs) (fun o' w' => o' = .inl (some (Value.int 1)) ∧ w' = w1) ∧ w1.length ≤ 220 ∧ xsz w1 ≤ 200000 := by
  have z0 : xsz (W0 6 xs) = 76990 := W0_sz
  have z1 : xsz ((W0 6 xs) ++ [Sum.inr (14, [])]) = 76996 := xz_app (m := 6) z0 rfl
  have z2 : xsz (((W0 6 xs) ++ [Sum.inr (14, [])]).set 128 (Sum.inr (12, [Value.ref 129, Value.ref 131, Value.ref 133, Value.ref 135, Value.ref 137, Value.ref 139, Value.ref 141, Value.ref 143, Value.ref 145, Value.ref 147, Value.ref 149, Value.ref 151, Value.ref 153, Value.ref 154, Value.ref 155, Value.ref 156, Value.ref 157, Value.int (-16384), Value.int 16384, Value.int 0, Value.int 0, Value.int 0, Value.ref 158, Value.ref 159, Value.int 0, Value.int 0, Value.int 0, Value.int 0, Value.int 0, Value.int 0, Value.int 0, Value.int 0]))) = 76996 := xz_set z1 (xga W0_128) xcs_o
  have z3 : xsz ((((W0 6 xs) ++ [Sum.inr (14, [])]).set 128 (Sum.inr (12, [Value.ref 129, Value.ref 131, Value.ref 133, Value.ref 135, Value.ref 137, Value.ref 139, Value.ref 141, Value.ref 143, Value.ref 145, Value.ref 147, Value.ref 149, Value.ref 151, Value.ref 153, Value.ref 154, Value.ref 155, Value.ref 156, Value.ref 157, Value.int (-16384), Value.int 16384, Value.int 0, Value.int 0, Value.int 0, Value.ref 158, Value.ref 159, Value.int 0, Value.int 0, Value.int 0, Value.int 0, Value.int 0, Value.int 0, Value.int 0, Value.int 0]))) ++ [Sum.inr (14, [])]) = 77002 := xz_app (m := 6) z2 rfl
  have z4 : xsz (((((W0 6 xs) ++ [Sum.inr (14, [])]).set 128 (Sum.inr (12, [Value.ref 129, Value.ref 131, Value.ref 133, Value.ref 135, Value.ref 137, Value.ref 139, Value.ref 141, Value.ref 143, Value.ref 145, Value.ref 147, Value.ref 149, Value.ref 151, Value.ref 153, Value.ref 154, Value.ref 155, Value.ref 156, Value.ref 157, Value.int (-16384), Value.int 16384, Value.int 0, Value.int 0, Value.int 0, Value.ref 158, Value.ref 159, Value.int 0, Value.int 0, Value.int 0, Value.int 0, Value.int 0, Value.int 0, Value.int 0, Value.int 0]))) ++ [Sum.inr (14, [])]).set 128 (Sum.inr (12, [Value.ref 129, Value.ref 131, Value.ref 133, Value.ref 135, Value.ref 137, Value.ref 139, Value.ref 141, Value.ref 143, Value.ref 145, Value.ref 147, Value.ref 149, Value.ref 151, Value.ref 153, Value.ref 154, Value.ref 155, Value.ref 156, Value.ref 157, Value.int (-16384), Value.int 16384, Value.int 0, Value.int 0, Value.int 0, Value.ref 158, Value.ref 159, Value.int 0, Value.int 0, Value.int 0, Value.int 0, Value.int 0, Value.int 0, Value.int 0, Value.int 1]))) = 77002 := xz_set z3 (xga (xgs (xga W0_128))) xcs_o
  refine ⟨(((((W0 6 xs) ++ [Sum.inr (14, [])]).set 128 (Sum.inr (12, [Value.ref 129, Value.ref 131, Value.ref 133, Value.ref 135, Value.ref 137, Value.ref 139, Value.ref 141, Value.ref 143, Value.ref 145, Value.ref 147, Value.ref 149, Value.ref 151, Value.ref 153, Value.ref 154, Value.ref 155, Value.ref 156, Value.ref 157, Value.int (-16384), Value.int 16384, Value.int 0, Value.int 0, Value.int 0, Value.ref 158, Value.ref 159, Value.int 0, Value.int 0, Value.int 0, Value.int 0, Value.int 0, Value.int 0, Value.int 0, Value.int 0]))) ++ [Sum.inr (14, [])]).set 128 (Sum.inr (12, [Value.ref 129, Value.ref 131, Value.ref 133, Value.ref 135, Value.ref 137, Value.ref 139, Value.ref 141, Value.ref 143, Value.ref 145, Value.ref 147, Value.ref 149, Value.ref 151, Value.ref 153, Value.ref 154, Value.ref 155, Value.ref 156, Value.ref 157, Value.int (-16384), Value.int 16384, Value.int 0, Value.int 0, Value.int 0, Value.ref 158, Value.ref 159, Value.int 0, Value.int 0, Value.int 0, Value.int 0, Value.int 0, Value.int 0, Value.int 0, Value.int 1]))), ?_, Nat.le_trans (Nat.le_of_eq (xls (xla (xls (xla (W0_len)))))) (by decide), by rw [z4]; decide⟩
  refine i_287_23 (x := 0) rfl ?_
  refine i_287_25 (x := 0) rfl ?_
  refine i_287_26 (c := 6) W0_0 (by decide) ?_
  refine i_287_27 ?_
  refine i_287_29 (c := 0) (by decide) ?_
  refine i_287_30 (fun h => absurd h (by decide)) (fun _ => ?_)
  refine i_287_33 (x := 0) rfl ?_
  refine i_287_34 (x := 0) rfl ?_
  refine i_287_36 (v := Value.int (xs 0)) W0_0 (by decide) (by decide) rfl ?_
  refine i_287_37 ?_
  refine i_287_39 (c := ((xs 0) &&& (31 : Int32))) rfl ?_
  refine i_287_40_0 (by omega) ?_
  refine i_287_152 (x := 7) rfl ?_
  refine i_287_153 (x := 0) rfl ?_
  refine i_287_154 (x := 0) rfl ?_
  refine i_287_156 ?_
  refine i_287_157 (c := 1) (by decide) ?_
  refine i_287_158 (v := Value.int (xs 1)) W0_0 (by decide) (by decide) rfl ?_
  refine i_287_159 (x := 0) rfl ?_
  refine i_287_160 (x := 0) rfl ?_
  refine i_287_162 ?_
  refine i_287_163 (c := 2) (by decide) ?_
  refine i_287_164 (v := Value.int (xs 2)) W0_0 (by decide) (by decide) rfl ?_
  refine i_287_165 (x := 194) rfl ?_
  refine i_287_166 (Nat.le_of_ble_eq_true rfl) (p_13_0 W0_7 (by omega)) ?_
  refine i_287_169 (lv2 := [(5, Value.int 1), (4, Value.int 0), (3, Value.ref 194), (2, Value.ref 128), (1, Value.ref 7), (0, Value.ref 0)]) rfl ?_
  refine i_287_171 (x := 128) rfl ?_
  refine i_287_172 (x := 0) rfl ?_
  refine i_287_173 (x := 0) rfl ?_
  refine i_287_175 ?_
  refine i_287_176 (c := 1) (by decide) ?_
  refine i_287_177 (v := Value.int (xs 1)) (xga W0_0) (by decide) (by decide) rfl ?_
  refine i_287_178 (x := 0) rfl ?_
  refine i_287_179 (x := 0) rfl ?_
  refine i_287_181 ?_
  refine i_287_182 (c := 2) (by decide) ?_
  refine i_287_183 (v := Value.int (xs 2)) (xga W0_0) (by decide) (by decide) rfl ?_
  refine i_287_184 (xga W0_128) (Nat.le_of_ble_eq_true rfl) (p_166_0 (xga W0_128) (by omega)) ?_
  refine i_287_187 (lv2 := [(6, Value.int 0), (5, Value.int 1), (4, Value.int 0), (3, Value.ref 194), (2, Value.ref 128), (1, Value.ref 7), (0, Value.ref 0)]) rfl ?_
  refine i_287_189 (x := 128) rfl ?_
  refine i_287_190 (xgs (xga (xgs (xga W0_128)))) (Nat.le_of_ble_eq_true rfl) (p_165_0 (xgs (xga (xgs (xga W0_128))))) ?_
  refine i_287_193 (x := 1) rfl ?_
  refine i_287_195 (fun _ => ?_) (fun h => absurd h (by decide))
  refine i_287_200 (x := 1) rfl ?_
  refine i_287_202 (fun _ => ?_) (fun h => absurd h (by decide))
  refine i_287_217 ?_
  refine i_287_2154 (x := 0) (c := 6) (lv2 := [(4, Value.int 6), (6, Value.int 0), (5, Value.int 1), (3, Value.ref 194), (2, Value.ref 128), (1, Value.ref 7), (0, Value.ref 0)]) rfl (by decide) rfl ?_
  refine i_287_2157 ?_
  refine i_287_23 (x := 6) rfl ?_
  refine i_287_25 (x := 0) rfl ?_
  refine i_287_26 (c := 6) (xgn (by decide) (xga (xgn (by decide) (xga W0_0)))) (by decide) ?_
  refine i_287_27 ?_
  refine i_287_29 (c := 0) (by decide) ?_
  refine i_287_30 (fun _ => ?_) (fun h => absurd h (by decide))
  refine i_287_2160 ?_
  exact i_287_2161 rfl ⟨rfl, rfl⟩
theorem p_15_1 {d : Nat} {w : xW} {a0 : Int32} (e0 : 0 ≤ a0.toInt) (e1 : a0.toInt < 16) : xRun d 15 [Value.int a0] w (.inl (some (Value.int 0))) w := by
  refine xRun.of ?_
  refine i_15_0 (x := a0) rfl ?_
  refine i_15_1 (fun h => absurd e0 (Int.not_le.mpr h)) (fun _ => ?_)
  refine i_15_4 (x := a0) rfl ?_
  refine i_15_5 ?_
  refine i_15_7 (fun _ => ?_) (fun h => absurd e1 (Int.not_lt.mpr h))
  refine i_15_14 ?_
  exact i_15_15 rfl ⟨rfl, rfl⟩
theorem p_14_1 {d : Nat} {w : xW} {a0 : Int32} {a1 : Int32} (e0 : 0 ≤ a0.toInt) (e1 : a0.toInt < 16) (e2 : a1.toInt < 2) : xRun (d + 6) 14 [Value.ref 7, Value.int a0, Value.int a1] w (.inr w.length) (w ++ [Sum.inr (14, [])]) := by
  refine xRun.of ?_
  refine i_14_0 (x := a0) rfl ?_
  refine i_14_1 (Nat.le_of_ble_eq_true rfl) (p_15_1 e0 e1) ?_
  refine i_14_4 (fun h => absurd h (by decide)) (fun _ => ?_)
  refine i_14_7 (x := a1) rfl ?_
  refine i_14_8 ?_
  refine i_14_9 (fun _ => ?_) (fun h => absurd e2 (Int.not_lt.mpr h))
  exact i_14_19 (by omega) (Nat.le_of_ble_eq_true rfl) ⟨rfl, rfl⟩
theorem p_13_1 {d : Nat} {w : xW} {a0 : Int32} {a1 : Int32} (hw0 : w[7]? = some (Sum.inr (0, [Value.ref 8, Value.ref 78, Value.ref 9, Value.ref 10, Value.ref 13, Value.ref 16, Value.ref 19, Value.ref 93, Value.ref 108, Value.ref 113, Value.ref 29, Value.int 0]))) (e1 : 0 ≤ a0.toInt) (e2 : a0.toInt < 16) (e3 : a1.toInt < 2) : xRun (d + 7) 13 [Value.ref 7, Value.int a0, Value.int a1, Value.ref 194] w (.inl (some (Value.int 1))) (w ++ [Sum.inr (14, [])]) := by
  refine xRun.of ?_
  refine i_13_0 (x := 194) rfl ?_
  refine i_13_1 ?_
  refine i_13_2 (x := 7) rfl ?_
  refine i_13_3 (x := a0) rfl ?_
  refine i_13_4 (x := a1) rfl ?_
  refine j_13_5 hw0 (Nat.le_of_ble_eq_true rfl) (p_14_1 e1 e2 e3) (xDone.c xgl rfl rfl ?_)
  refine i_13_13 (lv2 := [(4, Value.ref w.length), (0, Value.ref 7), (1, Value.int a0), (2, Value.int a1), (3, Value.ref 194)]) rfl ?_
  refine i_13_15 ?_
  exact i_13_16 ⟨rfl, rfl⟩
theorem p_169_1 {d : Nat} {w : xW} {a0 : Int32} (e0 : 0 ≤ a0.toInt) (e1 : a0.toInt ≤ 15) : xRun d 169 [Value.int a0, Value.int 0, Value.int 15] w (.inl (some (Value.int 1))) w := by
  refine xRun.of ?_
  refine i_169_0 (x := a0) rfl ?_
  refine i_169_1 (x := 0) rfl ?_
  refine i_169_2 (fun h => absurd e0 (Int.not_le.mpr h)) (fun _ => ?_)
  refine i_169_5 (x := a0) rfl ?_
  refine i_169_6 (x := 15) rfl ?_
  refine i_169_7 (fun h => absurd e1 (Int.not_le.mpr h)) (fun _ => ?_)
  refine i_169_10 ?_
  refine i_169_11 ?_
  exact i_169_15 rfl ⟨rfl, rfl⟩
theorem p_170_1 {d : Nat} {w : xW} : xRun d 170 [Value.int 1] w (.inl none) w := by
  refine xRun.of ?_
  refine i_170_0 (x := 1) rfl ?_
  refine i_170_1 (fun _ => ?_) (fun h => absurd h (by decide))
  exact i_170_12 ⟨rfl, rfl⟩
theorem p_168_1 {d : Nat} {w : xW} {a0 : Int32} (e0 : 0 ≤ a0.toInt) (e1 : a0.toInt ≤ 15) : xRun (d + 1) 168 [Value.int a0] w (.inl none) w := by
  refine xRun.of ?_
  refine i_168_0 (x := a0) rfl ?_
  refine i_168_1 ?_
  refine i_168_2 ?_
  refine i_168_4 (Nat.le_of_ble_eq_true rfl) (p_169_1 e0 e1) ?_
  refine i_168_7 (Nat.le_of_ble_eq_true rfl) (p_170_1) ?_
  exact i_168_10 ⟨rfl, rfl⟩
theorem p_169_2 {d : Nat} {w : xW} {a0 : Int32} (e0 : a0.toInt < 2) : xRun d 169 [Value.int a0, Value.int 2, Value.int 4096] w (.inl (some (Value.int 0))) w := by
  refine xRun.of ?_
  refine i_169_0 (x := a0) rfl ?_
  refine i_169_1 (x := 2) rfl ?_
  refine i_169_2 (fun _ => ?_) (fun h => absurd e0 (Int.not_lt.mpr h))
  refine i_169_14 ?_
  exact i_169_15 rfl ⟨rfl, rfl⟩
theorem p_167_1 {d : Nat} {w : xW} {a0 : Int32} {a1 : Int32} (e0 : 0 ≤ a0.toInt) (e1 : a0.toInt ≤ 15) (e2 : a1.toInt < 2) : xRun (d + 7) 167 [Value.ref 128, Value.int a0, Value.int a1] w (.inr w.length) (w ++ [Sum.inr (14, [])]) := by
  refine xRun.of ?_
  refine i_167_0 (x := a0) rfl ?_
  refine i_167_1 (Nat.le_of_ble_eq_true rfl) (p_168_1 e0 e1) ?_
  refine i_167_4 (x := a1) rfl ?_
  refine i_167_5 ?_
  refine i_167_6 ?_
  refine i_167_9 (Nat.le_of_ble_eq_true rfl) (p_169_2 e2) ?_
  exact j_167_12 (Nat.le_of_ble_eq_true rfl) (p_170_0) (xDone.t xgl rfl rfl ⟨rfl, rfl⟩)
theorem p_166_1 {d : Nat} {w : xW} {a0 : Int32} {a1 : Int32} (hw0 : w[128]? = some (Sum.inr (12, [Value.ref 129, Value.ref 131, Value.ref 133, Value.ref 135, Value.ref 137, Value.ref 139, Value.ref 141, Value.ref 143, Value.ref 145, Value.ref 147, Value.ref 149, Value.ref 151, Value.ref 153, Value.ref 154, Value.ref 155, Value.ref 156, Value.ref 157, Value.int (-16384), Value.int 16384, Value.int 0, Value.int 0, Value.int 0, Value.ref 158, Value.ref 159, Value.int 0, Value.int 0, Value.int 0, Value.int 0, Value.int 0, Value.int 0, Value.int 0, Value.int 0]))) (e1 : 0 ≤ a0.toInt) (e2 : a0.toInt ≤ 15) (e3 : a1.toInt < 2) : xRun (d + 8) 166 [Value.ref 128, Value.int a0, Value.int a1] w (.inl (some (Value.int 0))) (((w.set 128 (Sum.inr (12, [Value.ref 129, Value.ref 131, Value.ref 133, Value.ref 135, Value.ref 137, Value.ref 139, Value.ref 141, Value.ref 143, Value.ref 145, Value.ref 147, Value.ref 149, Value.ref 151, Value.ref 153, Value.ref 154, Value.ref 155, Value.ref 156, Value.ref 157, Value.int (-16384), Value.int 16384, Value.int 0, Value.int 0, Value.int 0, Value.ref 158, Value.ref 159, Value.int 0, Value.int 0, Value.int 0, Value.int 0, Value.int 0, Value.int 0, Value.int 0, Value.int 0]))) ++ [Sum.inr (14, [])]).set 128 (Sum.inr (12, [Value.ref 129, Value.ref 131, Value.ref 133, Value.ref 135, Value.ref 137, Value.ref 139, Value.ref 141, Value.ref 143, Value.ref 145, Value.ref 147, Value.ref 149, Value.ref 151, Value.ref 153, Value.ref 154, Value.ref 155, Value.ref 156, Value.ref 157, Value.int (-16384), Value.int 16384, Value.int 0, Value.int 0, Value.int 0, Value.ref 158, Value.ref 159, Value.int 0, Value.int 0, Value.int 0, Value.int 0, Value.int 0, Value.int 0, Value.int 0, Value.int 1]))) := by
  refine xRun.of ?_
  refine i_166_0 (x := 128) rfl ?_
  refine i_166_1 ?_
  refine i_166_2 (fs2 := [Value.ref 129, Value.ref 131, Value.ref 133, Value.ref 135, Value.ref 137, Value.ref 139, Value.ref 141, Value.ref 143, Value.ref 145, Value.ref 147, Value.ref 149, Value.ref 151, Value.ref 153, Value.ref 154, Value.ref 155, Value.ref 156, Value.ref 157, Value.int (-16384), Value.int 16384, Value.int 0, Value.int 0, Value.int 0, Value.ref 158, Value.ref 159, Value.int 0, Value.int 0, Value.int 0, Value.int 0, Value.int 0, Value.int 0, Value.int 0, Value.int 0]) hw0 (Nat.le_of_ble_eq_true rfl) rfl (by decide) ?_
  refine i_166_5 (x := 128) rfl ?_
  refine i_166_6 (x := a0) rfl ?_
  refine i_166_7 (x := a1) rfl ?_
  refine j_166_8 (xgs hw0) (Nat.le_of_ble_eq_true rfl) (p_167_1 e1 e2 e3) (xDone.c xgl rfl rfl ?_)
  refine i_166_12 (lv2 := [(3, Value.ref ((w.set 128 (Sum.inr (12, [Value.ref 129, Value.ref 131, Value.ref 133, Value.ref 135, Value.ref 137, Value.ref 139, Value.ref 141, Value.ref 143, Value.ref 145, Value.ref 147, Value.ref 149, Value.ref 151, Value.ref 153, Value.ref 154, Value.ref 155, Value.ref 156, Value.ref 157, Value.int (-16384), Value.int 16384, Value.int 0, Value.int 0, Value.int 0, Value.ref 158, Value.ref 159, Value.int 0, Value.int 0, Value.int 0, Value.int 0, Value.int 0, Value.int 0, Value.int 0, Value.int 0]))).length)), (0, Value.ref 128), (1, Value.int a0), (2, Value.int a1)]) rfl ?_
  refine i_166_13 (x := 128) rfl ?_
  refine i_166_14 ?_
  refine i_166_15 (fs2 := [Value.ref 129, Value.ref 131, Value.ref 133, Value.ref 135, Value.ref 137, Value.ref 139, Value.ref 141, Value.ref 143, Value.ref 145, Value.ref 147, Value.ref 149, Value.ref 151, Value.ref 153, Value.ref 154, Value.ref 155, Value.ref 156, Value.ref 157, Value.int (-16384), Value.int 16384, Value.int 0, Value.int 0, Value.int 0, Value.ref 158, Value.ref 159, Value.int 0, Value.int 0, Value.int 0, Value.int 0, Value.int 0, Value.int 0, Value.int 0, Value.int 1]) (xga (xgs hw0)) (Nat.le_of_ble_eq_true rfl) rfl (by decide) ?_
  refine i_166_18 ?_
  exact i_166_19 ⟨rfl, rfl⟩
theorem o_0_1 {d : Nat} {xs : Nat → Int32} (h0 : ((xs 0) &&& (31 : Int32)).toInt = 0) (c0 : 0 ≤ (xs 1).toInt) (c1 : (xs 1).toInt < 16) (c2 : (xs 2).toInt < 2) : ∃ w1, xEv (d + 20) 287 23 [(4, Value.int 0), (3, Value.ref 194), (2, Value.ref 128), (1, Value.ref 7), (0, Value.ref 0)] [] (W0 6 xs) (fun o' w' => o' = .inl (some (Value.int 1)) ∧ w' = w1) ∧ w1.length ≤ 220 ∧ xsz w1 ≤ 200000 := by
  have z0 : xsz (W0 6 xs) = 76990 := W0_sz
  have z1 : xsz ((W0 6 xs) ++ [Sum.inr (14, [])]) = 76996 := xz_app (m := 6) z0 rfl
  have z2 : xsz (((W0 6 xs) ++ [Sum.inr (14, [])]).set 128 (Sum.inr (12, [Value.ref 129, Value.ref 131, Value.ref 133, Value.ref 135, Value.ref 137, Value.ref 139, Value.ref 141, Value.ref 143, Value.ref 145, Value.ref 147, Value.ref 149, Value.ref 151, Value.ref 153, Value.ref 154, Value.ref 155, Value.ref 156, Value.ref 157, Value.int (-16384), Value.int 16384, Value.int 0, Value.int 0, Value.int 0, Value.ref 158, Value.ref 159, Value.int 0, Value.int 0, Value.int 0, Value.int 0, Value.int 0, Value.int 0, Value.int 0, Value.int 0]))) = 76996 := xz_set z1 (xga W0_128) xcs_o
  have z3 : xsz ((((W0 6 xs) ++ [Sum.inr (14, [])]).set 128 (Sum.inr (12, [Value.ref 129, Value.ref 131, Value.ref 133, Value.ref 135, Value.ref 137, Value.ref 139, Value.ref 141, Value.ref 143, Value.ref 145, Value.ref 147, Value.ref 149, Value.ref 151, Value.ref 153, Value.ref 154, Value.ref 155, Value.ref 156, Value.ref 157, Value.int (-16384), Value.int 16384, Value.int 0, Value.int 0, Value.int 0, Value.ref 158, Value.ref 159, Value.int 0, Value.int 0, Value.int 0, Value.int 0, Value.int 0, Value.int 0, Value.int 0, Value.int 0]))) ++ [Sum.inr (14, [])]) = 77002 := xz_app (m := 6) z2 rfl
  have z4 : xsz (((((W0 6 xs) ++ [Sum.inr (14, [])]).set 128 (Sum.inr (12, [Value.ref 129, Value.ref 131, Value.ref 133, Value.ref 135, Value.ref 137, Value.ref 139, Value.ref 141, Value.ref 143, Value.ref 145, Value.ref 147, Value.ref 149, Value.ref 151, Value.ref 153, Value.ref 154, Value.ref 155, Value.ref 156, Value.ref 157, Value.int (-16384), Value.int 16384, Value.int 0, Value.int 0, Value.int 0, Value.ref 158, Value.ref 159, Value.int 0, Value.int 0, Value.int 0, Value.int 0, Value.int 0, Value.int 0, Value.int 0, Value.int 0]))) ++ [Sum.inr (14, [])]).set 128 (Sum.inr (12, [Value.ref 129, Value.ref 131, Value.ref 133, Value.ref 135, Value.ref 137, Value.ref 139, Value.ref 141, Value.ref 143, Value.ref 145, Value.ref 147, Value.ref 149, Value.ref 151, Value.ref 153, Value.ref 154, Value.ref 155, Value.ref 156, Value.ref 157, Value.int (-16384), Value.int 16384, Value.int 0, Value.int 0, Value.int 0, Value.ref 158, Value.ref 159, Value.int 0, Value.int 0, Value.int 0, Value.int 0, Value.int 0, Value.int 0, Value.int 0, Value.int 1]))) = 77002 := xz_set z3 (xga (xgs (xga W0_128))) xcs_o
  refine ⟨(((((W0 6 xs) ++ [Sum.inr (14, [])]).set 128 (Sum.inr (12, [Value.ref 129, Value.ref 131, Value.ref 133, Value.ref 135, Value.ref 137, Value.ref 139, Value.ref 141, Value.ref 143, Value.ref 145, Value.ref 147, Value.ref 149, Value.ref 151, Value.ref 153, Value.ref 154, Value.ref 155, Value.ref 156, Value.ref 157, Value.int (-16384), Value.int 16384, Value.int 0, Value.int 0, Value.int 0, Value.ref 158, Value.ref 159, Value.int 0, Value.int 0, Value.int 0, Value.int 0, Value.int 0, Value.int 0, Value.int 0, Value.int 0]))) ++ [Sum.inr (14, [])]).set 128 (Sum.inr (12, [Value.ref 129, Value.ref 131, Value.ref 133, Value.ref 135, Value.ref 137, Value.ref 139, Value.ref 141, Value.ref 143, Value.ref 145, Value.ref 147, Value.ref 149, Value.ref 151, Value.ref 153, Value.ref 154, Value.ref 155, Value.ref 156, Value.ref 157, Value.int (-16384), Value.int 16384, Value.int 0, Value.int 0, Value.int 0, Value.ref 158, Value.ref 159, Value.int 0, Value.int 0, Value.int 0, Value.int 0, Value.int 0, Value.int 0, Value.int 0, Value.int 1]))), ?_, Nat.le_trans (Nat.le_of_eq (xls (xla (xls (xla (W0_len)))))) (by decide), by rw [z4]; decide⟩
  refine i_287_23 (x := 0) rfl ?_
  refine i_287_25 (x := 0) rfl ?_
  refine i_287_26 (c := 6) W0_0 (by decide) ?_
  refine i_287_27 ?_
  refine i_287_29 (c := 0) (by decide) ?_
  refine i_287_30 (fun h => absurd h (by decide)) (fun _ => ?_)
  refine i_287_33 (x := 0) rfl ?_
  refine i_287_34 (x := 0) rfl ?_
  refine i_287_36 (v := Value.int (xs 0)) W0_0 (by decide) (by decide) rfl ?_
  refine i_287_37 ?_
  refine i_287_39 (c := ((xs 0) &&& (31 : Int32))) rfl ?_
  refine i_287_40_0 (by omega) ?_
  refine i_287_152 (x := 7) rfl ?_
  refine i_287_153 (x := 0) rfl ?_
  refine i_287_154 (x := 0) rfl ?_
  refine i_287_156 ?_
  refine i_287_157 (c := 1) (by decide) ?_
  refine i_287_158 (v := Value.int (xs 1)) W0_0 (by decide) (by decide) rfl ?_
  refine i_287_159 (x := 0) rfl ?_
  refine i_287_160 (x := 0) rfl ?_
  refine i_287_162 ?_
  refine i_287_163 (c := 2) (by decide) ?_
  refine i_287_164 (v := Value.int (xs 2)) W0_0 (by decide) (by decide) rfl ?_
  refine i_287_165 (x := 194) rfl ?_
  refine i_287_166 (Nat.le_of_ble_eq_true rfl) (p_13_1 W0_7 (by omega) (by omega) (by omega)) ?_
  refine i_287_169 (lv2 := [(5, Value.int 1), (4, Value.int 0), (3, Value.ref 194), (2, Value.ref 128), (1, Value.ref 7), (0, Value.ref 0)]) rfl ?_
  refine i_287_171 (x := 128) rfl ?_
  refine i_287_172 (x := 0) rfl ?_
  refine i_287_173 (x := 0) rfl ?_
  refine i_287_175 ?_
  refine i_287_176 (c := 1) (by decide) ?_
  refine i_287_177 (v := Value.int (xs 1)) (xga W0_0) (by decide) (by decide) rfl ?_
  refine i_287_178 (x := 0) rfl ?_
  refine i_287_179 (x := 0) rfl ?_
  refine i_287_181 ?_
  refine i_287_182 (c := 2) (by decide) ?_
  refine i_287_183 (v := Value.int (xs 2)) (xga W0_0) (by decide) (by decide) rfl ?_
  refine i_287_184 (xga W0_128) (Nat.le_of_ble_eq_true rfl) (p_166_1 (xga W0_128) (by omega) (by omega) (by omega)) ?_
  refine i_287_187 (lv2 := [(6, Value.int 0), (5, Value.int 1), (4, Value.int 0), (3, Value.ref 194), (2, Value.ref 128), (1, Value.ref 7), (0, Value.ref 0)]) rfl ?_
  refine i_287_189 (x := 128) rfl ?_
  refine i_287_190 (xgs (xga (xgs (xga W0_128)))) (Nat.le_of_ble_eq_true rfl) (p_165_0 (xgs (xga (xgs (xga W0_128))))) ?_
  refine i_287_193 (x := 1) rfl ?_
  refine i_287_195 (fun _ => ?_) (fun h => absurd h (by decide))
  refine i_287_200 (x := 1) rfl ?_
  refine i_287_202 (fun _ => ?_) (fun h => absurd h (by decide))
  refine i_287_217 ?_
  refine i_287_2154 (x := 0) (c := 6) (lv2 := [(4, Value.int 6), (6, Value.int 0), (5, Value.int 1), (3, Value.ref 194), (2, Value.ref 128), (1, Value.ref 7), (0, Value.ref 0)]) rfl (by decide) rfl ?_
  refine i_287_2157 ?_
  refine i_287_23 (x := 6) rfl ?_
  refine i_287_25 (x := 0) rfl ?_
  refine i_287_26 (c := 6) (xgn (by decide) (xga (xgn (by decide) (xga W0_0)))) (by decide) ?_
  refine i_287_27 ?_
  refine i_287_29 (c := 0) (by decide) ?_
  refine i_287_30 (fun _ => ?_) (fun h => absurd h (by decide))
  refine i_287_2160 ?_
  exact i_287_2161 rfl ⟨rfl, rfl⟩
theorem p_14_2 {d : Nat} {w : xW} {a0 : Int32} {a1 : Int32} (e0 : 0 ≤ a0.toInt) (e1 : a0.toInt < 16) (e2 : 2 ≤ a1.toInt) (e3 : 4096 < a1.toInt) : xRun (d + 6) 14 [Value.ref 7, Value.int a0, Value.int a1] w (.inr w.length) (w ++ [Sum.inr (14, [])]) := by
  refine xRun.of ?_
  refine i_14_0 (x := a0) rfl ?_
  refine i_14_1 (Nat.le_of_ble_eq_true rfl) (p_15_1 e0 e1) ?_
  refine i_14_4 (fun h => absurd h (by decide)) (fun _ => ?_)
  refine i_14_7 (x := a1) rfl ?_
  refine i_14_8 ?_
  refine i_14_9 (fun h => absurd e2 (Int.not_le.mpr h)) (fun _ => ?_)
  refine i_14_12 (x := a1) rfl ?_
  refine i_14_13 ?_
  refine i_14_16 (fun h => absurd e3 (Int.not_lt.mpr h)) (fun _ => ?_)
  exact i_14_19 (by omega) (Nat.le_of_ble_eq_true rfl) ⟨rfl, rfl⟩
theorem p_13_2 {d : Nat} {w : xW} {a0 : Int32} {a1 : Int32} (hw0 : w[7]? = some (Sum.inr (0, [Value.ref 8, Value.ref 78, Value.ref 9, Value.ref 10, Value.ref 13, Value.ref 16, Value.ref 19, Value.ref 93, Value.ref 108, Value.ref 113, Value.ref 29, Value.int 0]))) (e1 : 0 ≤ a0.toInt) (e2 : a0.toInt < 16) (e3 : 2 ≤ a1.toInt) (e4 : 4096 < a1.toInt) : xRun (d + 7) 13 [Value.ref 7, Value.int a0, Value.int a1, Value.ref 194] w (.inl (some (Value.int 1))) (w ++ [Sum.inr (14, [])]) := by
  refine xRun.of ?_
  refine i_13_0 (x := 194) rfl ?_
  refine i_13_1 ?_
  refine i_13_2 (x := 7) rfl ?_
  refine i_13_3 (x := a0) rfl ?_
  refine i_13_4 (x := a1) rfl ?_
  refine j_13_5 hw0 (Nat.le_of_ble_eq_true rfl) (p_14_2 e1 e2 e3 e4) (xDone.c xgl rfl rfl ?_)
  refine i_13_13 (lv2 := [(4, Value.ref w.length), (0, Value.ref 7), (1, Value.int a0), (2, Value.int a1), (3, Value.ref 194)]) rfl ?_
  refine i_13_15 ?_
  exact i_13_16 ⟨rfl, rfl⟩
theorem p_169_3 {d : Nat} {w : xW} {a0 : Int32} (e0 : 2 ≤ a0.toInt) (e1 : 4096 < a0.toInt) : xRun d 169 [Value.int a0, Value.int 2, Value.int 4096] w (.inl (some (Value.int 0))) w := by
  refine xRun.of ?_
  refine i_169_0 (x := a0) rfl ?_
  refine i_169_1 (x := 2) rfl ?_
  refine i_169_2 (fun h => absurd e0 (Int.not_le.mpr h)) (fun _ => ?_)
  refine i_169_5 (x := a0) rfl ?_
  refine i_169_6 (x := 4096) rfl ?_
  refine i_169_7 (fun _ => ?_) (fun h => absurd e1 (Int.not_lt.mpr h))
  refine i_169_14 ?_
  exact i_169_15 rfl ⟨rfl, rfl⟩
theorem p_167_2 {d : Nat} {w : xW} {a0 : Int32} {a1 : Int32} (e0 : 0 ≤ a0.toInt) (e1 : a0.toInt ≤ 15) (e2 : 2 ≤ a1.toInt) (e3 : 4096 < a1.toInt) : xRun (d + 7) 167 [Value.ref 128, Value.int a0, Value.int a1] w (.inr w.length) (w ++ [Sum.inr (14, [])]) := by
  refine xRun.of ?_
  refine i_167_0 (x := a0) rfl ?_
  refine i_167_1 (Nat.le_of_ble_eq_true rfl) (p_168_1 e0 e1) ?_
  refine i_167_4 (x := a1) rfl ?_
  refine i_167_5 ?_
  refine i_167_6 ?_
  refine i_167_9 (Nat.le_of_ble_eq_true rfl) (p_169_3 e2 e3) ?_
  exact j_167_12 (Nat.le_of_ble_eq_true rfl) (p_170_0) (xDone.t xgl rfl rfl ⟨rfl, rfl⟩)
theorem p_166_2 {d : Nat} {w : xW} {a0 : Int32} {a1 : Int32} (hw0 : w[128]? = some (Sum.inr (12, [Value.ref 129, Value.ref 131, Value.ref 133, Value.ref 135, Value.ref 137, Value.ref 139, Value.ref 141, Value.ref 143, Value.ref 145, Value.ref 147, Value.ref 149, Value.ref 151, Value.ref 153, Value.ref 154, Value.ref 155, Value.ref 156, Value.ref 157, Value.int (-16384), Value.int 16384, Value.int 0, Value.int 0, Value.int 0, Value.ref 158, Value.ref 159, Value.int 0, Value.int 0, Value.int 0, Value.int 0, Value.int 0, Value.int 0, Value.int 0, Value.int 0]))) (e1 : 0 ≤ a0.toInt) (e2 : a0.toInt ≤ 15) (e3 : 2 ≤ a1.toInt) (e4 : 4096 < a1.toInt) : xRun (d + 8) 166 [Value.ref 128, Value.int a0, Value.int a1] w (.inl (some (Value.int 0))) (((w.set 128 (Sum.inr (12, [Value.ref 129, Value.ref 131, Value.ref 133, Value.ref 135, Value.ref 137, Value.ref 139, Value.ref 141, Value.ref 143, Value.ref 145, Value.ref 147, Value.ref 149, Value.ref 151, Value.ref 153, Value.ref 154, Value.ref 155, Value.ref 156, Value.ref 157, Value.int (-16384), Value.int 16384, Value.int 0, Value.int 0, Value.int 0, Value.ref 158, Value.ref 159, Value.int 0, Value.int 0, Value.int 0, Value.int 0, Value.int 0, Value.int 0, Value.int 0, Value.int 0]))) ++ [Sum.inr (14, [])]).set 128 (Sum.inr (12, [Value.ref 129, Value.ref 131, Value.ref 133, Value.ref 135, Value.ref 137, Value.ref 139, Value.ref 141, Value.ref 143, Value.ref 145, Value.ref 147, Value.ref 149, Value.ref 151, Value.ref 153, Value.ref 154, Value.ref 155, Value.ref 156, Value.ref 157, Value.int (-16384), Value.int 16384, Value.int 0, Value.int 0, Value.int 0, Value.ref 158, Value.ref 159, Value.int 0, Value.int 0, Value.int 0, Value.int 0, Value.int 0, Value.int 0, Value.int 0, Value.int 1]))) := by
  refine xRun.of ?_
  refine i_166_0 (x := 128) rfl ?_
  refine i_166_1 ?_
  refine i_166_2 (fs2 := [Value.ref 129, Value.ref 131, Value.ref 133, Value.ref 135, Value.ref 137, Value.ref 139, Value.ref 141, Value.ref 143, Value.ref 145, Value.ref 147, Value.ref 149, Value.ref 151, Value.ref 153, Value.ref 154, Value.ref 155, Value.ref 156, Value.ref 157, Value.int (-16384), Value.int 16384, Value.int 0, Value.int 0, Value.int 0, Value.ref 158, Value.ref 159, Value.int 0, Value.int 0, Value.int 0, Value.int 0, Value.int 0, Value.int 0, Value.int 0, Value.int 0]) hw0 (Nat.le_of_ble_eq_true rfl) rfl (by decide) ?_
  refine i_166_5 (x := 128) rfl ?_
  refine i_166_6 (x := a0) rfl ?_
  refine i_166_7 (x := a1) rfl ?_
  refine j_166_8 (xgs hw0) (Nat.le_of_ble_eq_true rfl) (p_167_2 e1 e2 e3 e4) (xDone.c xgl rfl rfl ?_)
  refine i_166_12 (lv2 := [(3, Value.ref ((w.set 128 (Sum.inr (12, [Value.ref 129, Value.ref 131, Value.ref 133, Value.ref 135, Value.ref 137, Value.ref 139, Value.ref 141, Value.ref 143, Value.ref 145, Value.ref 147, Value.ref 149, Value.ref 151, Value.ref 153, Value.ref 154, Value.ref 155, Value.ref 156, Value.ref 157, Value.int (-16384), Value.int 16384, Value.int 0, Value.int 0, Value.int 0, Value.ref 158, Value.ref 159, Value.int 0, Value.int 0, Value.int 0, Value.int 0, Value.int 0, Value.int 0, Value.int 0, Value.int 0]))).length)), (0, Value.ref 128), (1, Value.int a0), (2, Value.int a1)]) rfl ?_
  refine i_166_13 (x := 128) rfl ?_
  refine i_166_14 ?_
  refine i_166_15 (fs2 := [Value.ref 129, Value.ref 131, Value.ref 133, Value.ref 135, Value.ref 137, Value.ref 139, Value.ref 141, Value.ref 143, Value.ref 145, Value.ref 147, Value.ref 149, Value.ref 151, Value.ref 153, Value.ref 154, Value.ref 155, Value.ref 156, Value.ref 157, Value.int (-16384), Value.int 16384, Value.int 0, Value.int 0, Value.int 0, Value.ref 158, Value.ref 159, Value.int 0, Value.int 0, Value.int 0, Value.int 0, Value.int 0, Value.int 0, Value.int 0, Value.int 1]) (xga (xgs hw0)) (Nat.le_of_ble_eq_true rfl) rfl (by decide) ?_
  refine i_166_18 ?_
  exact i_166_19 ⟨rfl, rfl⟩
theorem o_0_2 {d : Nat} {xs : Nat → Int32} (h0 : ((xs 0) &&& (31 : Int32)).toInt = 0) (c0 : 0 ≤ (xs 1).toInt) (c1 : (xs 1).toInt < 16) (c2 : 2 ≤ (xs 2).toInt) (c3 : 4096 < (xs 2).toInt) : ∃ w1, xEv (d + 20) 287 23 [(4, Value.int 0), (3, Value.ref 194), (2, Value.ref 128), (1, Value.ref 7), (0, Value.ref 0)] [] (W0 6 xs) (fun o' w' => o' = .inl (some (Value.int 1)) ∧ w' = w1) ∧ w1.length ≤ 220 ∧ xsz w1 ≤ 200000 := by
  have z0 : xsz (W0 6 xs) = 76990 := W0_sz
  have z1 : xsz ((W0 6 xs) ++ [Sum.inr (14, [])]) = 76996 := xz_app (m := 6) z0 rfl
  have z2 : xsz (((W0 6 xs) ++ [Sum.inr (14, [])]).set 128 (Sum.inr (12, [Value.ref 129, Value.ref 131, Value.ref 133, Value.ref 135, Value.ref 137, Value.ref 139, Value.ref 141, Value.ref 143, Value.ref 145, Value.ref 147, Value.ref 149, Value.ref 151, Value.ref 153, Value.ref 154, Value.ref 155, Value.ref 156, Value.ref 157, Value.int (-16384), Value.int 16384, Value.int 0, Value.int 0, Value.int 0, Value.ref 158, Value.ref 159, Value.int 0, Value.int 0, Value.int 0, Value.int 0, Value.int 0, Value.int 0, Value.int 0, Value.int 0]))) = 76996 := xz_set z1 (xga W0_128) xcs_o
  have z3 : xsz ((((W0 6 xs) ++ [Sum.inr (14, [])]).set 128 (Sum.inr (12, [Value.ref 129, Value.ref 131, Value.ref 133, Value.ref 135, Value.ref 137, Value.ref 139, Value.ref 141, Value.ref 143, Value.ref 145, Value.ref 147, Value.ref 149, Value.ref 151, Value.ref 153, Value.ref 154, Value.ref 155, Value.ref 156, Value.ref 157, Value.int (-16384), Value.int 16384, Value.int 0, Value.int 0, Value.int 0, Value.ref 158, Value.ref 159, Value.int 0, Value.int 0, Value.int 0, Value.int 0, Value.int 0, Value.int 0, Value.int 0, Value.int 0]))) ++ [Sum.inr (14, [])]) = 77002 := xz_app (m := 6) z2 rfl
  have z4 : xsz (((((W0 6 xs) ++ [Sum.inr (14, [])]).set 128 (Sum.inr (12, [Value.ref 129, Value.ref 131, Value.ref 133, Value.ref 135, Value.ref 137, Value.ref 139, Value.ref 141, Value.ref 143, Value.ref 145, Value.ref 147, Value.ref 149, Value.ref 151, Value.ref 153, Value.ref 154, Value.ref 155, Value.ref 156, Value.ref 157, Value.int (-16384), Value.int 16384, Value.int 0, Value.int 0, Value.int 0, Value.ref 158, Value.ref 159, Value.int 0, Value.int 0, Value.int 0, Value.int 0, Value.int 0, Value.int 0, Value.int 0, Value.int 0]))) ++ [Sum.inr (14, [])]).set 128 (Sum.inr (12, [Value.ref 129, Value.ref 131, Value.ref 133, Value.ref 135, Value.ref 137, Value.ref 139, Value.ref 141, Value.ref 143, Value.ref 145, Value.ref 147, Value.ref 149, Value.ref 151, Value.ref 153, Value.ref 154, Value.ref 155, Value.ref 156, Value.ref 157, Value.int (-16384), Value.int 16384, Value.int 0, Value.int 0, Value.int 0, Value.ref 158, Value.ref 159, Value.int 0, Value.int 0, Value.int 0, Value.int 0, Value.int 0, Value.int 0, Value.int 0, Value.int 1]))) = 77002 := xz_set z3 (xga (xgs (xga W0_128))) xcs_o
  refine ⟨(((((W0 6 xs) ++ [Sum.inr (14, [])]).set 128 (Sum.inr (12, [Value.ref 129, Value.ref 131, Value.ref 133, Value.ref 135, Value.ref 137, Value.ref 139, Value.ref 141, Value.ref 143, Value.ref 145, Value.ref 147, Value.ref 149, Value.ref 151, Value.ref 153, Value.ref 154, Value.ref 155, Value.ref 156, Value.ref 157, Value.int (-16384), Value.int 16384, Value.int 0, Value.int 0, Value.int 0, Value.ref 158, Value.ref 159, Value.int 0, Value.int 0, Value.int 0, Value.int 0, Value.int 0, Value.int 0, Value.int 0, Value.int 0]))) ++ [Sum.inr (14, [])]).set 128 (Sum.inr (12, [Value.ref 129, Value.ref 131, Value.ref 133, Value.ref 135, Value.ref 137, Value.ref 139, Value.ref 141, Value.ref 143, Value.ref 145, Value.ref 147, Value.ref 149, Value.ref 151, Value.ref 153, Value.ref 154, Value.ref 155, Value.ref 156, Value.ref 157, Value.int (-16384), Value.int 16384, Value.int 0, Value.int 0, Value.int 0, Value.ref 158, Value.ref 159, Value.int 0, Value.int 0, Value.int 0, Value.int 0, Value.int 0, Value.int 0, Value.int 0, Value.int 1]))), ?_, Nat.le_trans (Nat.le_of_eq (xls (xla (xls (xla (W0_len)))))) (by decide), by rw [z4]; decide⟩
  refine i_287_23 (x := 0) rfl ?_
  refine i_287_25 (x := 0) rfl ?_
  refine i_287_26 (c := 6) W0_0 (by decide) ?_
  refine i_287_27 ?_
  refine i_287_29 (c := 0) (by decide) ?_
  refine i_287_30 (fun h => absurd h (by decide)) (fun _ => ?_)
  refine i_287_33 (x := 0) rfl ?_
  refine i_287_34 (x := 0) rfl ?_
  refine i_287_36 (v := Value.int (xs 0)) W0_0 (by decide) (by decide) rfl ?_
  refine i_287_37 ?_
  refine i_287_39 (c := ((xs 0) &&& (31 : Int32))) rfl ?_
  refine i_287_40_0 (by omega) ?_
  refine i_287_152 (x := 7) rfl ?_
  refine i_287_153 (x := 0) rfl ?_
  refine i_287_154 (x := 0) rfl ?_
  refine i_287_156 ?_
  refine i_287_157 (c := 1) (by decide) ?_
  refine i_287_158 (v := Value.int (xs 1)) W0_0 (by decide) (by decide) rfl ?_
  refine i_287_159 (x := 0) rfl ?_
  refine i_287_160 (x := 0) rfl ?_
  refine i_287_162 ?_
  refine i_287_163 (c := 2) (by decide) ?_
  refine i_287_164 (v := Value.int (xs 2)) W0_0 (by decide) (by decide) rfl ?_
  refine i_287_165 (x := 194) rfl ?_
  refine i_287_166 (Nat.le_of_ble_eq_true rfl) (p_13_2 W0_7 (by omega) (by omega) (by omega) (by omega)) ?_
  refine i_287_169 (lv2 := [(5, Value.int 1), (4, Value.int 0), (3, Value.ref 194), (2, Value.ref 128), (1, Value.ref 7), (0, Value.ref 0)]) rfl ?_
  refine i_287_171 (x := 128) rfl ?_
  refine i_287_172 (x := 0) rfl ?_
  refine i_287_173 (x := 0) rfl ?_
  refine i_287_175 ?_
  refine i_287_176 (c := 1) (by decide) ?_
  refine i_287_177 (v := Value.int (xs 1)) (xga W0_0) (by decide) (by decide) rfl ?_
  refine i_287_178 (x := 0) rfl ?_
  refine i_287_179 (x := 0) rfl ?_
  refine i_287_181 ?_
  refine i_287_182 (c := 2) (by decide) ?_
  refine i_287_183 (v := Value.int (xs 2)) (xga W0_0) (by decide) (by decide) rfl ?_
  refine i_287_184 (xga W0_128) (Nat.le_of_ble_eq_true rfl) (p_166_2 (xga W0_128) (by omega) (by omega) (by omega) (by omega)) ?_
  refine i_287_187 (lv2 := [(6, Value.int 0), (5, Value.int 1), (4, Value.int 0), (3, Value.ref 194), (2, Value.ref 128), (1, Value.ref 7), (0, Value.ref 0)]) rfl ?_
  refine i_287_189 (x := 128) rfl ?_
  refine i_287_190 (xgs (xga (xgs (xga W0_128)))) (Nat.le_of_ble_eq_true rfl) (p_165_0 (xgs (xga (xgs (xga W0_128))))) ?_
  refine i_287_193 (x := 1) rfl ?_
  refine i_287_195 (fun _ => ?_) (fun h => absurd h (by decide))
  refine i_287_200 (x := 1) rfl ?_
  refine i_287_202 (fun _ => ?_) (fun h => absurd h (by decide))
  refine i_287_217 ?_
  refine i_287_2154 (x := 0) (c := 6) (lv2 := [(4, Value.int 6), (6, Value.int 0), (5, Value.int 1), (3, Value.ref 194), (2, Value.ref 128), (1, Value.ref 7), (0, Value.ref 0)]) rfl (by decide) rfl ?_
  refine i_287_2157 ?_
  refine i_287_23 (x := 6) rfl ?_
  refine i_287_25 (x := 0) rfl ?_
  refine i_287_26 (c := 6) (xgn (by decide) (xga (xgn (by decide) (xga W0_0)))) (by decide) ?_
  refine i_287_27 ?_
  refine i_287_29 (c := 0) (by decide) ?_
  refine i_287_30 (fun _ => ?_) (fun h => absurd h (by decide))
  refine i_287_2160 ?_
  exact i_287_2161 rfl ⟨rfl, rfl⟩
theorem p_17_0 {d : Nat} {w : xW} {h0 : Nat} {a0 : Int32} {h1 : Nat} (hw0 : w[h0]? = some (Sum.inr (2, [Value.int a0, Value.int 0, Value.int 0, Value.int 0, Value.ref h1]))) (e1 : 7 ≤ h0) : xRun d 17 [Value.ref h0, Value.int 0, Value.int 0] w (.inl (some (Value.int 0))) (w.set h0 (Sum.inr (2, [Value.int a0, Value.int 0, Value.int 0, Value.int 0, Value.ref h1]))) := by
  refine xRun.of ?_
  refine i_17_0 (x := h0) rfl ?_
  refine i_17_1 (x := 0) rfl ?_
  refine i_17_2 (fs2 := [Value.int a0, Value.int 0, Value.int 0, Value.int 0, Value.ref h1]) hw0 (Nat.le_of_ble_eq_true rfl) rfl e1 ?_
  refine i_17_5 (x := h0) rfl ?_
  refine i_17_6 (x := 0) rfl ?_
  refine i_17_7 (fs2 := [Value.int a0, Value.int 0, Value.int 0, Value.int 0, Value.ref h1]) (xgs hw0) rfl (Nat.le_of_ble_eq_true rfl) rfl e1 ?_
  refine xEv.world (List.set_set _) ?_
  refine i_17_10 ?_
  exact i_17_11 ⟨rfl, rfl⟩
theorem p_16_0 {d : Nat} {w : xW} {h0 : Nat} {a0 : Int32} {h1 : Nat} (hw0 : w[h0]? = some (Sum.inr (2, [Value.int a0, Value.int 0, Value.int 0, Value.int 0, Value.ref h1]))) (e1 : 7 ≤ h0) : xRun (d + 1) 16 [Value.ref h0] w (.inl (some (Value.int 0))) (w.set h0 (Sum.inr (2, [Value.int a0, Value.int 0, Value.int 0, Value.int 0, Value.ref h1]))) := by
  refine xRun.of ?_
  refine i_16_0 (x := h0) rfl ?_
  refine i_16_1 ?_
  refine i_16_2 ?_
  refine i_16_3 hw0 (Nat.le_of_ble_eq_true rfl) (p_17_0 hw0 e1) ?_
  exact i_16_6 ⟨rfl, rfl⟩
theorem p_14_3 {d : Nat} {w : xW} {a0 : Int32} {a1 : Int32} {g0 : Nat → Value} {h0 : Nat} {h1 : Nat} (e0 : 0 ≤ a0.toInt) (e1 : a0.toInt < 16) (e2 : 2 ≤ a1.toInt) (e3 : a1.toInt ≤ 4096) (hw4 : w[7]? = some (Sum.inr (0, [Value.ref 8, Value.ref 78, Value.ref 9, Value.ref 10, Value.ref 13, Value.ref 16, Value.ref 19, Value.ref 93, Value.ref 108, Value.ref 113, Value.ref 29, Value.int 0]))) (hw5 : w[8]? = some (Sum.inl (4, 16, g0))) (hg6 : g0 a0.toInt.toNat = Value.ref h0) (hw7 : w[h0]? = some (Sum.inr (2, [Value.int 64, Value.int 0, Value.int 0, Value.int 0, Value.ref h1]))) (e8 : 7 ≤ h0) : xRun (d + 2) 14 [Value.ref 7, Value.int a0, Value.int a1] w (.inl (some (Value.int 64))) ((w.set h0 (Sum.inr (2, [Value.int a1, Value.int 0, Value.int 0, Value.int 0, Value.ref h1]))).set h0 (Sum.inr (2, [Value.int a1, Value.int 0, Value.int 0, Value.int 0, Value.ref h1]))) := by
  refine xRun.of ?_
  refine i_14_0 (x := a0) rfl ?_
  refine i_14_1 (Nat.le_of_ble_eq_true rfl) (p_15_1 e0 e1) ?_
  refine i_14_4 (fun h => absurd h (by decide)) (fun _ => ?_)
  refine i_14_7 (x := a1) rfl ?_
  refine i_14_8 ?_
  refine i_14_9 (fun h => absurd e2 (Int.not_le.mpr h)) (fun _ => ?_)
  refine i_14_12 (x := a1) rfl ?_
  refine i_14_13 ?_
  refine i_14_16 (fun _ => ?_) (fun h => absurd e3 (Int.not_le.mpr h))
  refine i_14_27 (x := 7) rfl ?_
  refine i_14_28 (v := Value.ref 8) hw4 rfl ?_
  refine i_14_31 (x := a0) rfl ?_
  refine i_14_32 (v := Value.ref h0) hw5 e0 e1 hg6 ?_
  refine i_14_33 (lv2 := [(3, Value.ref h0), (0, Value.ref 7), (1, Value.int a0), (2, Value.int a1)]) rfl ?_
  refine i_14_34 (x := h0) rfl ?_
  refine i_14_35 (v := Value.int 64) hw7 rfl ?_
  refine i_14_38 (lv2 := [(4, Value.int 64), (3, Value.ref h0), (0, Value.ref 7), (1, Value.int a0), (2, Value.int a1)]) rfl ?_
  refine i_14_40 (x := h0) rfl ?_
  refine i_14_41 (x := a1) rfl ?_
  refine i_14_42 (fs2 := [Value.int a1, Value.int 0, Value.int 0, Value.int 0, Value.ref h1]) hw7 (Nat.le_of_ble_eq_true rfl) rfl e8 ?_
  refine i_14_45 (x := h0) rfl ?_
  refine i_14_46 (xgs hw7) (Nat.le_of_ble_eq_true rfl) (p_16_0 (xgs hw7) e8) ?_
  refine i_14_49 rfl ?_
  refine i_14_50 (x := 64) rfl ?_
  exact i_14_52 ⟨rfl, rfl⟩
theorem p_13_3 {d : Nat} {w : xW} {a0 : Int32} {a1 : Int32} {g0 : Nat → Value} {h0 : Nat} {h1 : Nat} (hw0 : w[7]? = some (Sum.inr (0, [Value.ref 8, Value.ref 78, Value.ref 9, Value.ref 10, Value.ref 13, Value.ref 16, Value.ref 19, Value.ref 93, Value.ref 108, Value.ref 113, Value.ref 29, Value.int 0]))) (e1 : 0 ≤ a0.toInt) (e2 : a0.toInt < 16) (e3 : 2 ≤ a1.toInt) (e4 : a1.toInt ≤ 4096) (hw5 : w[8]? = some (Sum.inl (4, 16, g0))) (hg6 : g0 a0.toInt.toNat = Value.ref h0) (hw7 : w[h0]? = some (Sum.inr (2, [Value.int 64, Value.int 0, Value.int 0, Value.int 0, Value.ref h1]))) (e8 : 7 ≤ h0) (e9 : h0 ≠ 194) (hw10 : w[194]? = some (Sum.inl (3, 1, fun _ => Value.long 0))) : xRun (d + 3) 13 [Value.ref 7, Value.int a0, Value.int a1, Value.ref 194] w (.inl (some (Value.int 0))) (((w.set h0 (Sum.inr (2, [Value.int a1, Value.int 0, Value.int 0, Value.int 0, Value.ref h1]))).set h0 (Sum.inr (2, [Value.int a1, Value.int 0, Value.int 0, Value.int 0, Value.ref h1]))).set 194 (Sum.inl (3, 1, xup (fun _ => Value.long 0) (0 : Int32).toInt.toNat (Value.long 64)))) := by
  refine xRun.of ?_
  refine i_13_0 (x := 194) rfl ?_
  refine i_13_1 ?_
  refine i_13_2 (x := 7) rfl ?_
  refine i_13_3 (x := a0) rfl ?_
  refine i_13_4 (x := a1) rfl ?_
  refine i_13_5 hw0 (Nat.le_of_ble_eq_true rfl) (p_14_3 e1 e2 e3 e4 hw0 hw5 hg6 hw7 e8) ?_
  refine i_13_8 (c := 64) (by decide) ?_
  refine i_13_9 (v := Value.long 64) (xgn e9 (xgn e9 hw10)) (by decide) (by decide) (by decide) rfl ?_
  refine i_13_10 ?_
  refine i_13_17 ?_
  exact i_13_18 ⟨rfl, rfl⟩
theorem p_169_4 {d : Nat} {w : xW} {a0 : Int32} (e0 : 2 ≤ a0.toInt) (e1 : a0.toInt ≤ 4096) : xRun d 169 [Value.int a0, Value.int 2, Value.int 4096] w (.inl (some (Value.int 1))) w := by
  refine xRun.of ?_
  refine i_169_0 (x := a0) rfl ?_
  refine i_169_1 (x := 2) rfl ?_
  refine i_169_2 (fun h => absurd e0 (Int.not_le.mpr h)) (fun _ => ?_)
  refine i_169_5 (x := a0) rfl ?_
  refine i_169_6 (x := 4096) rfl ?_
  refine i_169_7 (fun h => absurd e1 (Int.not_le.mpr h)) (fun _ => ?_)
  refine i_169_10 ?_
  refine i_169_11 ?_
  exact i_169_15 rfl ⟨rfl, rfl⟩
theorem p_171_0 {d : Nat} {w : xW} {a0 : Int32} (hw0 : w[128]? = some (Sum.inr (12, [Value.ref 129, Value.ref 131, Value.ref 133, Value.ref 135, Value.ref 137, Value.ref 139, Value.ref 141, Value.ref 143, Value.ref 145, Value.ref 147, Value.ref 149, Value.ref 151, Value.ref 153, Value.ref 154, Value.ref 155, Value.ref 156, Value.ref 157, Value.int (-16384), Value.int 16384, Value.int 0, Value.int 0, Value.int 0, Value.ref 158, Value.ref 159, Value.int 0, Value.int 0, Value.int 0, Value.int 0, Value.int 0, Value.int 0, Value.int 0, Value.int 0]))) (hw1 : w[154]? = some (Sum.inl (0, 17, fun _ => Value.int 0))) (e2 : 0 ≤ a0.toInt) (e3 : a0.toInt < 17) (hw4 : w[156]? = some (Sum.inl (2, 17, fun _ => Value.int 0))) : xRun d 171 [Value.ref 128, Value.int a0, Value.int 0, Value.int 0] w (.inl (some (Value.int 0))) ((w.set 154 (Sum.inl (0, 17, xup (fun _ => Value.int 0) a0.toInt.toNat (Value.int 0)))).set 156 (Sum.inl (2, 17, xup (fun _ => Value.int 0) a0.toInt.toNat (Value.int 0)))) := by
  refine xRun.of ?_
  refine i_171_0 (x := 128) rfl ?_
  refine i_171_1 (v := Value.ref 154) hw0 rfl ?_
  refine i_171_4 (x := a0) rfl ?_
  refine i_171_5 (x := 0) rfl ?_
  refine i_171_6 (v := Value.int 0) hw1 e2 e3 (by decide) rfl ?_
  refine i_171_7 (x := 128) rfl ?_
  refine i_171_8 (v := Value.ref 156) (xgn (by decide) hw0) rfl ?_
  refine i_171_11 (x := a0) rfl ?_
  refine i_171_12 (x := 0) rfl ?_
  refine i_171_13z (v := Value.int 0) (xgn (by decide) hw4) e2 e3 (by decide) rfl ?_
  refine i_171_14 ?_
  exact i_171_15 ⟨rfl, rfl⟩
theorem p_167_3 {d : Nat} {w : xW} {a0 : Int32} {a1 : Int32} {g0 : Nat → Value} (e0 : 0 ≤ a0.toInt) (e1 : a0.toInt ≤ 15) (e2 : 2 ≤ a1.toInt) (e3 : a1.toInt ≤ 4096) (hw4 : w[128]? = some (Sum.inr (12, [Value.ref 129, Value.ref 131, Value.ref 133, Value.ref 135, Value.ref 137, Value.ref 139, Value.ref 141, Value.ref 143, Value.ref 145, Value.ref 147, Value.ref 149, Value.ref 151, Value.ref 153, Value.ref 154, Value.ref 155, Value.ref 156, Value.ref 157, Value.int (-16384), Value.int 16384, Value.int 0, Value.int 0, Value.int 0, Value.ref 158, Value.ref 159, Value.int 0, Value.int 0, Value.int 0, Value.int 0, Value.int 0, Value.int 0, Value.int 0, Value.int 0]))) (hw5 : w[153]? = some (Sum.inl (0, 17, g0))) (e6 : a0.toInt < 17) (hg7 : g0 a0.toInt.toNat = Value.int 64) (hw8 : w[154]? = some (Sum.inl (0, 17, fun _ => Value.int 0))) (hw9 : w[156]? = some (Sum.inl (2, 17, fun _ => Value.int 0))) : xRun (d + 2) 167 [Value.ref 128, Value.int a0, Value.int a1] w (.inl (some (Value.int 64))) (((w.set 153 (Sum.inl (0, 17, xup g0 a0.toInt.toNat (Value.int a1)))).set 154 (Sum.inl (0, 17, xup (fun _ => Value.int 0) a0.toInt.toNat (Value.int 0)))).set 156 (Sum.inl (2, 17, xup (fun _ => Value.int 0) a0.toInt.toNat (Value.int 0)))) := by
  refine xRun.of ?_
  refine i_167_0 (x := a0) rfl ?_
  refine i_167_1 (Nat.le_of_ble_eq_true rfl) (p_168_1 e0 e1) ?_
  refine i_167_4 (x := a1) rfl ?_
  refine i_167_5 ?_
  refine i_167_6 ?_
  refine i_167_9 (Nat.le_of_ble_eq_true rfl) (p_169_4 e2 e3) ?_
  refine i_167_12 (Nat.le_of_ble_eq_true rfl) (p_170_1) ?_
  refine i_167_15 (x := 128) rfl ?_
  refine i_167_16 (v := Value.ref 153) hw4 rfl ?_
  refine i_167_19 (x := a0) rfl ?_
  refine i_167_20 (v := Value.int 64) hw5 e0 e6 hg7 ?_
  refine i_167_21 (lv2 := [(3, Value.int 64), (0, Value.ref 128), (1, Value.int a0), (2, Value.int a1)]) rfl ?_
  refine i_167_22 (x := 128) rfl ?_
  refine i_167_23 (v := Value.ref 153) hw4 rfl ?_
  refine i_167_26 (x := a0) rfl ?_
  refine i_167_27 (x := a1) rfl ?_
  refine i_167_28 (v := Value.int a1) hw5 e0 e6 (by decide) rfl ?_
  refine i_167_29 (x := 128) rfl ?_
  refine i_167_30 (x := a0) rfl ?_
  refine i_167_31 ?_
  refine i_167_32 ?_
  refine i_167_33 (xgn (by decide) hw4) (Nat.le_of_ble_eq_true rfl) (p_171_0 (xgn (by decide) hw4) (xgn (by decide) hw8) e0 e6 (xgn (by decide) hw9)) ?_
  refine i_167_36 rfl ?_
  refine i_167_37 (x := 64) rfl ?_
  exact i_167_38 ⟨rfl, rfl⟩
theorem p_166_3 {d : Nat} {w : xW} {a0 : Int32} {a1 : Int32} {g0 : Nat → Value} (hw0 : w[128]? = some (Sum.inr (12, [Value.ref 129, Value.ref 131, Value.ref 133, Value.ref 135, Value.ref 137, Value.ref 139, Value.ref 141, Value.ref 143, Value.ref 145, Value.ref 147, Value.ref 149, Value.ref 151, Value.ref 153, Value.ref 154, Value.ref 155, Value.ref 156, Value.ref 157, Value.int (-16384), Value.int 16384, Value.int 0, Value.int 0, Value.int 0, Value.ref 158, Value.ref 159, Value.int 0, Value.int 0, Value.int 0, Value.int 0, Value.int 0, Value.int 0, Value.int 0, Value.int 0]))) (e1 : 0 ≤ a0.toInt) (e2 : a0.toInt ≤ 15) (e3 : 2 ≤ a1.toInt) (e4 : a1.toInt ≤ 4096) (hw5 : w[153]? = some (Sum.inl (0, 17, g0))) (e6 : a0.toInt < 17) (hg7 : g0 a0.toInt.toNat = Value.int 64) (hw8 : w[154]? = some (Sum.inl (0, 17, fun _ => Value.int 0))) (hw9 : w[156]? = some (Sum.inl (2, 17, fun _ => Value.int 0))) : xRun (d + 3) 166 [Value.ref 128, Value.int a0, Value.int a1] w (.inl (some (Value.int 64))) ((((w.set 128 (Sum.inr (12, [Value.ref 129, Value.ref 131, Value.ref 133, Value.ref 135, Value.ref 137, Value.ref 139, Value.ref 141, Value.ref 143, Value.ref 145, Value.ref 147, Value.ref 149, Value.ref 151, Value.ref 153, Value.ref 154, Value.ref 155, Value.ref 156, Value.ref 157, Value.int (-16384), Value.int 16384, Value.int 0, Value.int 0, Value.int 0, Value.ref 158, Value.ref 159, Value.int 0, Value.int 0, Value.int 0, Value.int 0, Value.int 0, Value.int 0, Value.int 0, Value.int 0]))).set 153 (Sum.inl (0, 17, xup g0 a0.toInt.toNat (Value.int a1)))).set 154 (Sum.inl (0, 17, xup (fun _ => Value.int 0) a0.toInt.toNat (Value.int 0)))).set 156 (Sum.inl (2, 17, xup (fun _ => Value.int 0) a0.toInt.toNat (Value.int 0)))) := by
  refine xRun.of ?_
  refine i_166_0 (x := 128) rfl ?_
  refine i_166_1 ?_
  refine i_166_2 (fs2 := [Value.ref 129, Value.ref 131, Value.ref 133, Value.ref 135, Value.ref 137, Value.ref 139, Value.ref 141, Value.ref 143, Value.ref 145, Value.ref 147, Value.ref 149, Value.ref 151, Value.ref 153, Value.ref 154, Value.ref 155, Value.ref 156, Value.ref 157, Value.int (-16384), Value.int 16384, Value.int 0, Value.int 0, Value.int 0, Value.ref 158, Value.ref 159, Value.int 0, Value.int 0, Value.int 0, Value.int 0, Value.int 0, Value.int 0, Value.int 0, Value.int 0]) hw0 (Nat.le_of_ble_eq_true rfl) rfl (by decide) ?_
  refine i_166_5 (x := 128) rfl ?_
  refine i_166_6 (x := a0) rfl ?_
  refine i_166_7 (x := a1) rfl ?_
  refine i_166_8 (xgs hw0) (Nat.le_of_ble_eq_true rfl) (p_167_3 e1 e2 e3 e4 (xgs hw0) (xgn (by decide) hw5) e6 hg7 (xgn (by decide) hw8) (xgn (by decide) hw9)) ?_
  exact i_166_11 ⟨rfl, rfl⟩
theorem p_165_1 {d : Nat} {w : xW} (hw0 : w[128]? = some (Sum.inr (12, [Value.ref 129, Value.ref 131, Value.ref 133, Value.ref 135, Value.ref 137, Value.ref 139, Value.ref 141, Value.ref 143, Value.ref 145, Value.ref 147, Value.ref 149, Value.ref 151, Value.ref 153, Value.ref 154, Value.ref 155, Value.ref 156, Value.ref 157, Value.int (-16384), Value.int 16384, Value.int 0, Value.int 0, Value.int 0, Value.ref 158, Value.ref 159, Value.int 0, Value.int 0, Value.int 0, Value.int 0, Value.int 0, Value.int 0, Value.int 0, Value.int 0]))) : xRun d 165 [Value.ref 128] w (.inl (some (Value.int 0))) w := by
  refine xRun.of ?_
  refine i_165_0 (x := 128) rfl ?_
  refine i_165_1 (v := Value.int 0) hw0 rfl ?_
  exact i_165_4 ⟨rfl, rfl⟩
theorem o_0_3 {d : Nat} {xs : Nat → Int32} (h0 : ((xs 0) &&& (31 : Int32)).toInt = 0) (c0 : 0 ≤ (xs 1).toInt) (c1 : (xs 1).toInt < 16) (c2 : 2 ≤ (xs 2).toInt) (c3 : (xs 2).toInt ≤ 4096) : ∃ w1, xEv (d + 20) 287 23 [(4, Value.int 0), (3, Value.ref 194), (2, Value.ref 128), (1, Value.ref 7), (0, Value.ref 0)] [] (W0 6 xs) (fun o' w' => o' = .inl (some (Value.int 1)) ∧ w' = w1) ∧ w1.length ≤ 220 ∧ xsz w1 ≤ 200000 := by
  have z0 : xsz (W0 6 xs) = 76990 := W0_sz
  have z1 : xsz ((W0 6 xs).set (30 + 3 * (xs 1).toInt.toNat) (Sum.inr (2, [Value.int (xs 2), Value.int 0, Value.int 0, Value.int 0, Value.ref (31 + 3 * (xs 1).toInt.toNat)]))) = 76990 := xz_set z0 (W0_reg (by omega)) xcs_o
  have z2 : xsz (((W0 6 xs).set (30 + 3 * (xs 1).toInt.toNat) (Sum.inr (2, [Value.int (xs 2), Value.int 0, Value.int 0, Value.int 0, Value.ref (31 + 3 * (xs 1).toInt.toNat)]))).set (30 + 3 * (xs 1).toInt.toNat) (Sum.inr (2, [Value.int (xs 2), Value.int 0, Value.int 0, Value.int 0, Value.ref (31 + 3 * (xs 1).toInt.toNat)]))) = 76990 := xz_set z1 (xgs (W0_reg (by omega))) xcs_o
  have z3 : xsz ((((W0 6 xs).set (30 + 3 * (xs 1).toInt.toNat) (Sum.inr (2, [Value.int (xs 2), Value.int 0, Value.int 0, Value.int 0, Value.ref (31 + 3 * (xs 1).toInt.toNat)]))).set (30 + 3 * (xs 1).toInt.toNat) (Sum.inr (2, [Value.int (xs 2), Value.int 0, Value.int 0, Value.int 0, Value.ref (31 + 3 * (xs 1).toInt.toNat)]))).set 194 (Sum.inl (3, 1, xup (fun _ => Value.long 0) (0 : Int32).toInt.toNat (Value.long 64)))) = 76990 := xz_set z2 (xgn (by omega) (xgn (by omega) W0_194)) xcs_a
  have z4 : xsz (((((W0 6 xs).set (30 + 3 * (xs 1).toInt.toNat) (Sum.inr (2, [Value.int (xs 2), Value.int 0, Value.int 0, Value.int 0, Value.ref (31 + 3 * (xs 1).toInt.toNat)]))).set (30 + 3 * (xs 1).toInt.toNat) (Sum.inr (2, [Value.int (xs 2), Value.int 0, Value.int 0, Value.int 0, Value.ref (31 + 3 * (xs 1).toInt.toNat)]))).set 194 (Sum.inl (3, 1, xup (fun _ => Value.long 0) (0 : Int32).toInt.toNat (Value.long 64)))).set 128 (Sum.inr (12, [Value.ref 129, Value.ref 131, Value.ref 133, Value.ref 135, Value.ref 137, Value.ref 139, Value.ref 141, Value.ref 143, Value.ref 145, Value.ref 147, Value.ref 149, Value.ref 151, Value.ref 153, Value.ref 154, Value.ref 155, Value.ref 156, Value.ref 157, Value.int (-16384), Value.int 16384, Value.int 0, Value.int 0, Value.int 0, Value.ref 158, Value.ref 159, Value.int 0, Value.int 0, Value.int 0, Value.int 0, Value.int 0, Value.int 0, Value.int 0, Value.int 0]))) = 76990 := xz_set z3 (xgn (by decide) (xgn (by omega) (xgn (by omega) W0_128))) xcs_o
  have z5 : xsz ((((((W0 6 xs).set (30 + 3 * (xs 1).toInt.toNat) (Sum.inr (2, [Value.int (xs 2), Value.int 0, Value.int 0, Value.int 0, Value.ref (31 + 3 * (xs 1).toInt.toNat)]))).set (30 + 3 * (xs 1).toInt.toNat) (Sum.inr (2, [Value.int (xs 2), Value.int 0, Value.int 0, Value.int 0, Value.ref (31 + 3 * (xs 1).toInt.toNat)]))).set 194 (Sum.inl (3, 1, xup (fun _ => Value.long 0) (0 : Int32).toInt.toNat (Value.long 64)))).set 128 (Sum.inr (12, [Value.ref 129, Value.ref 131, Value.ref 133, Value.ref 135, Value.ref 137, Value.ref 139, Value.ref 141, Value.ref 143, Value.ref 145, Value.ref 147, Value.ref 149, Value.ref 151, Value.ref 153, Value.ref 154, Value.ref 155, Value.ref 156, Value.ref 157, Value.int (-16384), Value.int 16384, Value.int 0, Value.int 0, Value.int 0, Value.ref 158, Value.ref 159, Value.int 0, Value.int 0, Value.int 0, Value.int 0, Value.int 0, Value.int 0, Value.int 0, Value.int 0]))).set 153 (Sum.inl (0, 17, xup gprec (xs 1).toInt.toNat (Value.int (xs 2))))) = 76990 := xz_set z4 (xgn (by decide) (xgn (by decide) (xgn (by omega) (xgn (by omega) W0_153)))) xcs_a
  have z6 : xsz (((((((W0 6 xs).set (30 + 3 * (xs 1).toInt.toNat) (Sum.inr (2, [Value.int (xs 2), Value.int 0, Value.int 0, Value.int 0, Value.ref (31 + 3 * (xs 1).toInt.toNat)]))).set (30 + 3 * (xs 1).toInt.toNat) (Sum.inr (2, [Value.int (xs 2), Value.int 0, Value.int 0, Value.int 0, Value.ref (31 + 3 * (xs 1).toInt.toNat)]))).set 194 (Sum.inl (3, 1, xup (fun _ => Value.long 0) (0 : Int32).toInt.toNat (Value.long 64)))).set 128 (Sum.inr (12, [Value.ref 129, Value.ref 131, Value.ref 133, Value.ref 135, Value.ref 137, Value.ref 139, Value.ref 141, Value.ref 143, Value.ref 145, Value.ref 147, Value.ref 149, Value.ref 151, Value.ref 153, Value.ref 154, Value.ref 155, Value.ref 156, Value.ref 157, Value.int (-16384), Value.int 16384, Value.int 0, Value.int 0, Value.int 0, Value.ref 158, Value.ref 159, Value.int 0, Value.int 0, Value.int 0, Value.int 0, Value.int 0, Value.int 0, Value.int 0, Value.int 0]))).set 153 (Sum.inl (0, 17, xup gprec (xs 1).toInt.toNat (Value.int (xs 2))))).set 154 (Sum.inl (0, 17, xup (fun _ => Value.int 0) (xs 1).toInt.toNat (Value.int 0)))) = 76990 := xz_set z5 (xgn (by decide) (xgn (by decide) (xgn (by decide) (xgn (by omega) (xgn (by omega) W0_154))))) xcs_a
  have z7 : xsz ((((((((W0 6 xs).set (30 + 3 * (xs 1).toInt.toNat) (Sum.inr (2, [Value.int (xs 2), Value.int 0, Value.int 0, Value.int 0, Value.ref (31 + 3 * (xs 1).toInt.toNat)]))).set (30 + 3 * (xs 1).toInt.toNat) (Sum.inr (2, [Value.int (xs 2), Value.int 0, Value.int 0, Value.int 0, Value.ref (31 + 3 * (xs 1).toInt.toNat)]))).set 194 (Sum.inl (3, 1, xup (fun _ => Value.long 0) (0 : Int32).toInt.toNat (Value.long 64)))).set 128 (Sum.inr (12, [Value.ref 129, Value.ref 131, Value.ref 133, Value.ref 135, Value.ref 137, Value.ref 139, Value.ref 141, Value.ref 143, Value.ref 145, Value.ref 147, Value.ref 149, Value.ref 151, Value.ref 153, Value.ref 154, Value.ref 155, Value.ref 156, Value.ref 157, Value.int (-16384), Value.int 16384, Value.int 0, Value.int 0, Value.int 0, Value.ref 158, Value.ref 159, Value.int 0, Value.int 0, Value.int 0, Value.int 0, Value.int 0, Value.int 0, Value.int 0, Value.int 0]))).set 153 (Sum.inl (0, 17, xup gprec (xs 1).toInt.toNat (Value.int (xs 2))))).set 154 (Sum.inl (0, 17, xup (fun _ => Value.int 0) (xs 1).toInt.toNat (Value.int 0)))).set 156 (Sum.inl (2, 17, xup (fun _ => Value.int 0) (xs 1).toInt.toNat (Value.int 0)))) = 76990 := xz_set z6 (xgn (by decide) (xgn (by decide) (xgn (by decide) (xgn (by decide) (xgn (by omega) (xgn (by omega) W0_156)))))) xcs_a
  refine ⟨((((((((W0 6 xs).set (30 + 3 * (xs 1).toInt.toNat) (Sum.inr (2, [Value.int (xs 2), Value.int 0, Value.int 0, Value.int 0, Value.ref (31 + 3 * (xs 1).toInt.toNat)]))).set (30 + 3 * (xs 1).toInt.toNat) (Sum.inr (2, [Value.int (xs 2), Value.int 0, Value.int 0, Value.int 0, Value.ref (31 + 3 * (xs 1).toInt.toNat)]))).set 194 (Sum.inl (3, 1, xup (fun _ => Value.long 0) (0 : Int32).toInt.toNat (Value.long 64)))).set 128 (Sum.inr (12, [Value.ref 129, Value.ref 131, Value.ref 133, Value.ref 135, Value.ref 137, Value.ref 139, Value.ref 141, Value.ref 143, Value.ref 145, Value.ref 147, Value.ref 149, Value.ref 151, Value.ref 153, Value.ref 154, Value.ref 155, Value.ref 156, Value.ref 157, Value.int (-16384), Value.int 16384, Value.int 0, Value.int 0, Value.int 0, Value.ref 158, Value.ref 159, Value.int 0, Value.int 0, Value.int 0, Value.int 0, Value.int 0, Value.int 0, Value.int 0, Value.int 0]))).set 153 (Sum.inl (0, 17, xup gprec (xs 1).toInt.toNat (Value.int (xs 2))))).set 154 (Sum.inl (0, 17, xup (fun _ => Value.int 0) (xs 1).toInt.toNat (Value.int 0)))).set 156 (Sum.inl (2, 17, xup (fun _ => Value.int 0) (xs 1).toInt.toNat (Value.int 0)))), ?_, Nat.le_trans (Nat.le_of_eq (xls (xls (xls (xls (xls (xls (xls (W0_len))))))))) (by decide), by rw [z7]; decide⟩
  refine i_287_23 (x := 0) rfl ?_
  refine i_287_25 (x := 0) rfl ?_
  refine i_287_26 (c := 6) W0_0 (by decide) ?_
  refine i_287_27 ?_
  refine i_287_29 (c := 0) (by decide) ?_
  refine i_287_30 (fun h => absurd h (by decide)) (fun _ => ?_)
  refine i_287_33 (x := 0) rfl ?_
  refine i_287_34 (x := 0) rfl ?_
  refine i_287_36 (v := Value.int (xs 0)) W0_0 (by decide) (by decide) rfl ?_
  refine i_287_37 ?_
  refine i_287_39 (c := ((xs 0) &&& (31 : Int32))) rfl ?_
  refine i_287_40_0 (by omega) ?_
  refine i_287_152 (x := 7) rfl ?_
  refine i_287_153 (x := 0) rfl ?_
  refine i_287_154 (x := 0) rfl ?_
  refine i_287_156 ?_
  refine i_287_157 (c := 1) (by decide) ?_
  refine i_287_158 (v := Value.int (xs 1)) W0_0 (by decide) (by decide) rfl ?_
  refine i_287_159 (x := 0) rfl ?_
  refine i_287_160 (x := 0) rfl ?_
  refine i_287_162 ?_
  refine i_287_163 (c := 2) (by decide) ?_
  refine i_287_164 (v := Value.int (xs 2)) W0_0 (by decide) (by decide) rfl ?_
  refine i_287_165 (x := 194) rfl ?_
  refine i_287_166 (Nat.le_of_ble_eq_true rfl) (p_13_3 W0_7 (by omega) (by omega) (by omega) (by omega) W0_8 (greg_at (by omega)) (W0_reg (by omega)) (by omega) (by omega) W0_194) ?_
  refine i_287_169 (lv2 := [(5, Value.int 0), (4, Value.int 0), (3, Value.ref 194), (2, Value.ref 128), (1, Value.ref 7), (0, Value.ref 0)]) rfl ?_
  refine i_287_171 (x := 128) rfl ?_
  refine i_287_172 (x := 0) rfl ?_
  refine i_287_173 (x := 0) rfl ?_
  refine i_287_175 ?_
  refine i_287_176 (c := 1) (by decide) ?_
  refine i_287_177 (v := Value.int (xs 1)) (xgn (by decide) (xgn (by omega) (xgn (by omega) W0_0))) (by decide) (by decide) rfl ?_
  refine i_287_178 (x := 0) rfl ?_
  refine i_287_179 (x := 0) rfl ?_
  refine i_287_181 ?_
  refine i_287_182 (c := 2) (by decide) ?_
  refine i_287_183 (v := Value.int (xs 2)) (xgn (by decide) (xgn (by omega) (xgn (by omega) W0_0))) (by decide) (by decide) rfl ?_
  refine i_287_184 (xgn (by decide) (xgn (by omega) (xgn (by omega) W0_128))) (Nat.le_of_ble_eq_true rfl) (p_166_3 (xgn (by decide) (xgn (by omega) (xgn (by omega) W0_128))) (by omega) (by omega) (by omega) (by omega) (xgn (by decide) (xgn (by omega) (xgn (by omega) W0_153))) (by omega) (gprec_at (by omega)) (xgn (by decide) (xgn (by omega) (xgn (by omega) W0_154))) (xgn (by decide) (xgn (by omega) (xgn (by omega) W0_156)))) ?_
  refine i_287_187 (lv2 := [(6, Value.int 64), (5, Value.int 0), (4, Value.int 0), (3, Value.ref 194), (2, Value.ref 128), (1, Value.ref 7), (0, Value.ref 0)]) rfl ?_
  refine i_287_189 (x := 128) rfl ?_
  refine i_287_190 (xgn (by decide) (xgn (by decide) (xgn (by decide) (xgs (xgn (by decide) (xgn (by omega) (xgn (by omega) W0_128))))))) (Nat.le_of_ble_eq_true rfl) (p_165_1 (xgn (by decide) (xgn (by decide) (xgn (by decide) (xgs (xgn (by decide) (xgn (by omega) (xgn (by omega) W0_128)))))))) ?_
  refine i_287_193 (x := 0) rfl ?_
  refine i_287_195 (fun _ => ?_) (fun h => absurd h (by decide))
  refine i_287_200 (x := 0) rfl ?_
  refine i_287_202 (fun h => absurd h (by decide)) (fun _ => ?_)
  refine i_287_205 (x := 194) rfl ?_
  refine i_287_206 ?_
  refine i_287_207 (v := Value.long 64) (xgn (by decide) (xgn (by decide) (xgn (by decide) (xgn (by decide) (xgs (xgn (by omega) (xgn (by omega) W0_194))))))) (by decide) (by decide) xup_s ?_
  refine i_287_208 (x := 64) rfl ?_
  refine i_287_210 (c := 64) (by decide) ?_
  refine i_287_211 (c := 0) (by decide) ?_
  refine i_287_212 (fun _ => ?_) (fun h => absurd h (by decide))
  refine i_287_217 ?_
  refine i_287_2154 (x := 0) (c := 6) (lv2 := [(4, Value.int 6), (6, Value.int 64), (5, Value.int 0), (3, Value.ref 194), (2, Value.ref 128), (1, Value.ref 7), (0, Value.ref 0)]) rfl (by decide) rfl ?_
  refine i_287_2157 ?_
  refine i_287_23 (x := 6) rfl ?_
  refine i_287_25 (x := 0) rfl ?_
  refine i_287_26 (c := 6) (xgn (by decide) (xgn (by decide) (xgn (by decide) (xgn (by decide) (xgn (by decide) (xgn (by omega) (xgn (by omega) W0_0))))))) (by decide) ?_
  refine i_287_27 ?_
  refine i_287_29 (c := 0) (by decide) ?_
  refine i_287_30 (fun _ => ?_) (fun h => absurd h (by decide))
  refine i_287_2160 ?_
  exact i_287_2161 rfl ⟨rfl, rfl⟩
theorem p_15_2 {d : Nat} {w : xW} {a0 : Int32} (e0 : 0 ≤ a0.toInt) (e1 : 16 ≤ a0.toInt) : xRun d 15 [Value.int a0] w (.inl (some (Value.int 1))) w := by
  refine xRun.of ?_
  refine i_15_0 (x := a0) rfl ?_
  refine i_15_1 (fun h => absurd e0 (Int.not_le.mpr h)) (fun _ => ?_)
  refine i_15_4 (x := a0) rfl ?_
  refine i_15_5 ?_
  refine i_15_7 (fun h => absurd e1 (Int.not_le.mpr h)) (fun _ => ?_)
  refine i_15_10 ?_
  refine i_15_11 ?_
  exact i_15_15 rfl ⟨rfl, rfl⟩
theorem p_14_4 {d : Nat} {w : xW} {a0 : Int32} {a1 : Int32} (e0 : 0 ≤ a0.toInt) (e1 : 16 ≤ a0.toInt) : xRun (d + 6) 14 [Value.ref 7, Value.int a0, Value.int a1] w (.inr w.length) (w ++ [Sum.inr (14, [])]) := by
  refine xRun.of ?_
  refine i_14_0 (x := a0) rfl ?_
  refine i_14_1 (Nat.le_of_ble_eq_true rfl) (p_15_2 e0 e1) ?_
  refine i_14_4 (fun _ => ?_) (fun h => absurd h (by decide))
  exact i_14_19 (by omega) (Nat.le_of_ble_eq_true rfl) ⟨rfl, rfl⟩
theorem p_13_4 {d : Nat} {w : xW} {a0 : Int32} {a1 : Int32} (hw0 : w[7]? = some (Sum.inr (0, [Value.ref 8, Value.ref 78, Value.ref 9, Value.ref 10, Value.ref 13, Value.ref 16, Value.ref 19, Value.ref 93, Value.ref 108, Value.ref 113, Value.ref 29, Value.int 0]))) (e1 : 0 ≤ a0.toInt) (e2 : 16 ≤ a0.toInt) : xRun (d + 7) 13 [Value.ref 7, Value.int a0, Value.int a1, Value.ref 194] w (.inl (some (Value.int 1))) (w ++ [Sum.inr (14, [])]) := by
  refine xRun.of ?_
  refine i_13_0 (x := 194) rfl ?_
  refine i_13_1 ?_
  refine i_13_2 (x := 7) rfl ?_
  refine i_13_3 (x := a0) rfl ?_
  refine i_13_4 (x := a1) rfl ?_
  refine j_13_5 hw0 (Nat.le_of_ble_eq_true rfl) (p_14_4 e1 e2) (xDone.c xgl rfl rfl ?_)
  refine i_13_13 (lv2 := [(4, Value.ref w.length), (0, Value.ref 7), (1, Value.int a0), (2, Value.int a1), (3, Value.ref 194)]) rfl ?_
  refine i_13_15 ?_
  exact i_13_16 ⟨rfl, rfl⟩
theorem p_169_5 {d : Nat} {w : xW} {a0 : Int32} (e0 : 0 ≤ a0.toInt) (e1 : 15 < a0.toInt) : xRun d 169 [Value.int a0, Value.int 0, Value.int 15] w (.inl (some (Value.int 0))) w := by
  refine xRun.of ?_
  refine i_169_0 (x := a0) rfl ?_
  refine i_169_1 (x := 0) rfl ?_
  refine i_169_2 (fun h => absurd e0 (Int.not_le.mpr h)) (fun _ => ?_)
  refine i_169_5 (x := a0) rfl ?_
  refine i_169_6 (x := 15) rfl ?_
  refine i_169_7 (fun _ => ?_) (fun h => absurd e1 (Int.not_lt.mpr h))
  refine i_169_14 ?_
  exact i_169_15 rfl ⟨rfl, rfl⟩
theorem p_168_2 {d : Nat} {w : xW} {a0 : Int32} (e0 : 0 ≤ a0.toInt) (e1 : 15 < a0.toInt) : xRun (d + 7) 168 [Value.int a0] w (.inr w.length) (w ++ [Sum.inr (14, [])]) := by
  refine xRun.of ?_
  refine i_168_0 (x := a0) rfl ?_
  refine i_168_1 ?_
  refine i_168_2 ?_
  refine i_168_4 (Nat.le_of_ble_eq_true rfl) (p_169_5 e0 e1) ?_
  exact j_168_7 (Nat.le_of_ble_eq_true rfl) (p_170_0) (xDone.t xgl rfl rfl ⟨rfl, rfl⟩)
theorem p_167_4 {d : Nat} {w : xW} {a0 : Int32} {a1 : Int32} (e0 : 0 ≤ a0.toInt) (e1 : 15 < a0.toInt) : xRun (d + 8) 167 [Value.ref 128, Value.int a0, Value.int a1] w (.inr w.length) (w ++ [Sum.inr (14, [])]) := by
  refine xRun.of ?_
  refine i_167_0 (x := a0) rfl ?_
  exact j_167_1 (Nat.le_of_ble_eq_true rfl) (p_168_2 e0 e1) (xDone.t xgl rfl rfl ⟨rfl, rfl⟩)
theorem p_166_4 {d : Nat} {w : xW} {a0 : Int32} {a1 : Int32} (hw0 : w[128]? = some (Sum.inr (12, [Value.ref 129, Value.ref 131, Value.ref 133, Value.ref 135, Value.ref 137, Value.ref 139, Value.ref 141, Value.ref 143, Value.ref 145, Value.ref 147, Value.ref 149, Value.ref 151, Value.ref 153, Value.ref 154, Value.ref 155, Value.ref 156, Value.ref 157, Value.int (-16384), Value.int 16384, Value.int 0, Value.int 0, Value.int 0, Value.ref 158, Value.ref 159, Value.int 0, Value.int 0, Value.int 0, Value.int 0, Value.int 0, Value.int 0, Value.int 0, Value.int 0]))) (e1 : 0 ≤ a0.toInt) (e2 : 15 < a0.toInt) : xRun (d + 9) 166 [Value.ref 128, Value.int a0, Value.int a1] w (.inl (some (Value.int 0))) (((w.set 128 (Sum.inr (12, [Value.ref 129, Value.ref 131, Value.ref 133, Value.ref 135, Value.ref 137, Value.ref 139, Value.ref 141, Value.ref 143, Value.ref 145, Value.ref 147, Value.ref 149, Value.ref 151, Value.ref 153, Value.ref 154, Value.ref 155, Value.ref 156, Value.ref 157, Value.int (-16384), Value.int 16384, Value.int 0, Value.int 0, Value.int 0, Value.ref 158, Value.ref 159, Value.int 0, Value.int 0, Value.int 0, Value.int 0, Value.int 0, Value.int 0, Value.int 0, Value.int 0]))) ++ [Sum.inr (14, [])]).set 128 (Sum.inr (12, [Value.ref 129, Value.ref 131, Value.ref 133, Value.ref 135, Value.ref 137, Value.ref 139, Value.ref 141, Value.ref 143, Value.ref 145, Value.ref 147, Value.ref 149, Value.ref 151, Value.ref 153, Value.ref 154, Value.ref 155, Value.ref 156, Value.ref 157, Value.int (-16384), Value.int 16384, Value.int 0, Value.int 0, Value.int 0, Value.ref 158, Value.ref 159, Value.int 0, Value.int 0, Value.int 0, Value.int 0, Value.int 0, Value.int 0, Value.int 0, Value.int 1]))) := by
  refine xRun.of ?_
  refine i_166_0 (x := 128) rfl ?_
  refine i_166_1 ?_
  refine i_166_2 (fs2 := [Value.ref 129, Value.ref 131, Value.ref 133, Value.ref 135, Value.ref 137, Value.ref 139, Value.ref 141, Value.ref 143, Value.ref 145, Value.ref 147, Value.ref 149, Value.ref 151, Value.ref 153, Value.ref 154, Value.ref 155, Value.ref 156, Value.ref 157, Value.int (-16384), Value.int 16384, Value.int 0, Value.int 0, Value.int 0, Value.ref 158, Value.ref 159, Value.int 0, Value.int 0, Value.int 0, Value.int 0, Value.int 0, Value.int 0, Value.int 0, Value.int 0]) hw0 (Nat.le_of_ble_eq_true rfl) rfl (by decide) ?_
  refine i_166_5 (x := 128) rfl ?_
  refine i_166_6 (x := a0) rfl ?_
  refine i_166_7 (x := a1) rfl ?_
  refine j_166_8 (xgs hw0) (Nat.le_of_ble_eq_true rfl) (p_167_4 e1 e2) (xDone.c xgl rfl rfl ?_)
  refine i_166_12 (lv2 := [(3, Value.ref ((w.set 128 (Sum.inr (12, [Value.ref 129, Value.ref 131, Value.ref 133, Value.ref 135, Value.ref 137, Value.ref 139, Value.ref 141, Value.ref 143, Value.ref 145, Value.ref 147, Value.ref 149, Value.ref 151, Value.ref 153, Value.ref 154, Value.ref 155, Value.ref 156, Value.ref 157, Value.int (-16384), Value.int 16384, Value.int 0, Value.int 0, Value.int 0, Value.ref 158, Value.ref 159, Value.int 0, Value.int 0, Value.int 0, Value.int 0, Value.int 0, Value.int 0, Value.int 0, Value.int 0]))).length)), (0, Value.ref 128), (1, Value.int a0), (2, Value.int a1)]) rfl ?_
  refine i_166_13 (x := 128) rfl ?_
  refine i_166_14 ?_
  refine i_166_15 (fs2 := [Value.ref 129, Value.ref 131, Value.ref 133, Value.ref 135, Value.ref 137, Value.ref 139, Value.ref 141, Value.ref 143, Value.ref 145, Value.ref 147, Value.ref 149, Value.ref 151, Value.ref 153, Value.ref 154, Value.ref 155, Value.ref 156, Value.ref 157, Value.int (-16384), Value.int 16384, Value.int 0, Value.int 0, Value.int 0, Value.ref 158, Value.ref 159, Value.int 0, Value.int 0, Value.int 0, Value.int 0, Value.int 0, Value.int 0, Value.int 0, Value.int 1]) (xga (xgs hw0)) (Nat.le_of_ble_eq_true rfl) rfl (by decide) ?_
  refine i_166_18 ?_
  exact i_166_19 ⟨rfl, rfl⟩
theorem o_0_4 {d : Nat} {xs : Nat → Int32} (h0 : ((xs 0) &&& (31 : Int32)).toInt = 0) (c0 : 0 ≤ (xs 1).toInt) (c1 : 16 ≤ (xs 1).toInt) : ∃ w1, xEv (d + 20) 287 23 [(4, Value.int 0), (3, Value.ref 194), (2, Value.ref 128), (1, Value.ref 7), (0, Value.ref 0)] [] (W0 6 xs) (fun o' w' => o' = .inl (some (Value.int 1)) ∧ w' = w1) ∧ w1.length ≤ 220 ∧ xsz w1 ≤ 200000 := by
  have z0 : xsz (W0 6 xs) = 76990 := W0_sz
  have z1 : xsz ((W0 6 xs) ++ [Sum.inr (14, [])]) = 76996 := xz_app (m := 6) z0 rfl
  have z2 : xsz (((W0 6 xs) ++ [Sum.inr (14, [])]).set 128 (Sum.inr (12, [Value.ref 129, Value.ref 131, Value.ref 133, Value.ref 135, Value.ref 137, Value.ref 139, Value.ref 141, Value.ref 143, Value.ref 145, Value.ref 147, Value.ref 149, Value.ref 151, Value.ref 153, Value.ref 154, Value.ref 155, Value.ref 156, Value.ref 157, Value.int (-16384), Value.int 16384, Value.int 0, Value.int 0, Value.int 0, Value.ref 158, Value.ref 159, Value.int 0, Value.int 0, Value.int 0, Value.int 0, Value.int 0, Value.int 0, Value.int 0, Value.int 0]))) = 76996 := xz_set z1 (xga W0_128) xcs_o
  have z3 : xsz ((((W0 6 xs) ++ [Sum.inr (14, [])]).set 128 (Sum.inr (12, [Value.ref 129, Value.ref 131, Value.ref 133, Value.ref 135, Value.ref 137, Value.ref 139, Value.ref 141, Value.ref 143, Value.ref 145, Value.ref 147, Value.ref 149, Value.ref 151, Value.ref 153, Value.ref 154, Value.ref 155, Value.ref 156, Value.ref 157, Value.int (-16384), Value.int 16384, Value.int 0, Value.int 0, Value.int 0, Value.ref 158, Value.ref 159, Value.int 0, Value.int 0, Value.int 0, Value.int 0, Value.int 0, Value.int 0, Value.int 0, Value.int 0]))) ++ [Sum.inr (14, [])]) = 77002 := xz_app (m := 6) z2 rfl
  have z4 : xsz (((((W0 6 xs) ++ [Sum.inr (14, [])]).set 128 (Sum.inr (12, [Value.ref 129, Value.ref 131, Value.ref 133, Value.ref 135, Value.ref 137, Value.ref 139, Value.ref 141, Value.ref 143, Value.ref 145, Value.ref 147, Value.ref 149, Value.ref 151, Value.ref 153, Value.ref 154, Value.ref 155, Value.ref 156, Value.ref 157, Value.int (-16384), Value.int 16384, Value.int 0, Value.int 0, Value.int 0, Value.ref 158, Value.ref 159, Value.int 0, Value.int 0, Value.int 0, Value.int 0, Value.int 0, Value.int 0, Value.int 0, Value.int 0]))) ++ [Sum.inr (14, [])]).set 128 (Sum.inr (12, [Value.ref 129, Value.ref 131, Value.ref 133, Value.ref 135, Value.ref 137, Value.ref 139, Value.ref 141, Value.ref 143, Value.ref 145, Value.ref 147, Value.ref 149, Value.ref 151, Value.ref 153, Value.ref 154, Value.ref 155, Value.ref 156, Value.ref 157, Value.int (-16384), Value.int 16384, Value.int 0, Value.int 0, Value.int 0, Value.ref 158, Value.ref 159, Value.int 0, Value.int 0, Value.int 0, Value.int 0, Value.int 0, Value.int 0, Value.int 0, Value.int 1]))) = 77002 := xz_set z3 (xga (xgs (xga W0_128))) xcs_o
  refine ⟨(((((W0 6 xs) ++ [Sum.inr (14, [])]).set 128 (Sum.inr (12, [Value.ref 129, Value.ref 131, Value.ref 133, Value.ref 135, Value.ref 137, Value.ref 139, Value.ref 141, Value.ref 143, Value.ref 145, Value.ref 147, Value.ref 149, Value.ref 151, Value.ref 153, Value.ref 154, Value.ref 155, Value.ref 156, Value.ref 157, Value.int (-16384), Value.int 16384, Value.int 0, Value.int 0, Value.int 0, Value.ref 158, Value.ref 159, Value.int 0, Value.int 0, Value.int 0, Value.int 0, Value.int 0, Value.int 0, Value.int 0, Value.int 0]))) ++ [Sum.inr (14, [])]).set 128 (Sum.inr (12, [Value.ref 129, Value.ref 131, Value.ref 133, Value.ref 135, Value.ref 137, Value.ref 139, Value.ref 141, Value.ref 143, Value.ref 145, Value.ref 147, Value.ref 149, Value.ref 151, Value.ref 153, Value.ref 154, Value.ref 155, Value.ref 156, Value.ref 157, Value.int (-16384), Value.int 16384, Value.int 0, Value.int 0, Value.int 0, Value.ref 158, Value.ref 159, Value.int 0, Value.int 0, Value.int 0, Value.int 0, Value.int 0, Value.int 0, Value.int 0, Value.int 1]))), ?_, Nat.le_trans (Nat.le_of_eq (xls (xla (xls (xla (W0_len)))))) (by decide), by rw [z4]; decide⟩
  refine i_287_23 (x := 0) rfl ?_
  refine i_287_25 (x := 0) rfl ?_
  refine i_287_26 (c := 6) W0_0 (by decide) ?_
  refine i_287_27 ?_
  refine i_287_29 (c := 0) (by decide) ?_
  refine i_287_30 (fun h => absurd h (by decide)) (fun _ => ?_)
  refine i_287_33 (x := 0) rfl ?_
  refine i_287_34 (x := 0) rfl ?_
  refine i_287_36 (v := Value.int (xs 0)) W0_0 (by decide) (by decide) rfl ?_
  refine i_287_37 ?_
  refine i_287_39 (c := ((xs 0) &&& (31 : Int32))) rfl ?_
  refine i_287_40_0 (by omega) ?_
  refine i_287_152 (x := 7) rfl ?_
  refine i_287_153 (x := 0) rfl ?_
  refine i_287_154 (x := 0) rfl ?_
  refine i_287_156 ?_
  refine i_287_157 (c := 1) (by decide) ?_
  refine i_287_158 (v := Value.int (xs 1)) W0_0 (by decide) (by decide) rfl ?_
  refine i_287_159 (x := 0) rfl ?_
  refine i_287_160 (x := 0) rfl ?_
  refine i_287_162 ?_
  refine i_287_163 (c := 2) (by decide) ?_
  refine i_287_164 (v := Value.int (xs 2)) W0_0 (by decide) (by decide) rfl ?_
  refine i_287_165 (x := 194) rfl ?_
  refine i_287_166 (Nat.le_of_ble_eq_true rfl) (p_13_4 W0_7 (by omega) (by omega)) ?_
  refine i_287_169 (lv2 := [(5, Value.int 1), (4, Value.int 0), (3, Value.ref 194), (2, Value.ref 128), (1, Value.ref 7), (0, Value.ref 0)]) rfl ?_
  refine i_287_171 (x := 128) rfl ?_
  refine i_287_172 (x := 0) rfl ?_
  refine i_287_173 (x := 0) rfl ?_
  refine i_287_175 ?_
  refine i_287_176 (c := 1) (by decide) ?_
  refine i_287_177 (v := Value.int (xs 1)) (xga W0_0) (by decide) (by decide) rfl ?_
  refine i_287_178 (x := 0) rfl ?_
  refine i_287_179 (x := 0) rfl ?_
  refine i_287_181 ?_
  refine i_287_182 (c := 2) (by decide) ?_
  refine i_287_183 (v := Value.int (xs 2)) (xga W0_0) (by decide) (by decide) rfl ?_
  refine i_287_184 (xga W0_128) (Nat.le_of_ble_eq_true rfl) (p_166_4 (xga W0_128) (by omega) (by omega)) ?_
  refine i_287_187 (lv2 := [(6, Value.int 0), (5, Value.int 1), (4, Value.int 0), (3, Value.ref 194), (2, Value.ref 128), (1, Value.ref 7), (0, Value.ref 0)]) rfl ?_
  refine i_287_189 (x := 128) rfl ?_
  refine i_287_190 (xgs (xga (xgs (xga W0_128)))) (Nat.le_of_ble_eq_true rfl) (p_165_0 (xgs (xga (xgs (xga W0_128))))) ?_
  refine i_287_193 (x := 1) rfl ?_
  refine i_287_195 (fun _ => ?_) (fun h => absurd h (by decide))
  refine i_287_200 (x := 1) rfl ?_
  refine i_287_202 (fun _ => ?_) (fun h => absurd h (by decide))
  refine i_287_217 ?_
  refine i_287_2154 (x := 0) (c := 6) (lv2 := [(4, Value.int 6), (6, Value.int 0), (5, Value.int 1), (3, Value.ref 194), (2, Value.ref 128), (1, Value.ref 7), (0, Value.ref 0)]) rfl (by decide) rfl ?_
  refine i_287_2157 ?_
  refine i_287_23 (x := 6) rfl ?_
  refine i_287_25 (x := 0) rfl ?_
  refine i_287_26 (c := 6) (xgn (by decide) (xga (xgn (by decide) (xga W0_0)))) (by decide) ?_
  refine i_287_27 ?_
  refine i_287_29 (c := 0) (by decide) ?_
  refine i_287_30 (fun _ => ?_) (fun h => absurd h (by decide))
  refine i_287_2160 ?_
  exact i_287_2161 rfl ⟨rfl, rfl⟩
theorem op_0 {d : Nat} {xs : Nat → Int32} (h0 : ((xs 0) &&& (31 : Int32)).toInt = 0) : ∃ w1, xEv (d + 20) 287 23 [(4, Value.int 0), (3, Value.ref 194), (2, Value.ref 128), (1, Value.ref 7), (0, Value.ref 0)] [] (W0 6 xs) (fun o' w' => o' = .inl (some (Value.int 1)) ∧ w' = w1) ∧ w1.length ≤ 220 ∧ xsz w1 ≤ 200000 := by
  rcases Int.lt_or_le (xs 1).toInt (0) with c0 | c0
  · exact o_0_0 h0 c0
  · rcases Int.lt_or_le (xs 1).toInt (16) with c1 | c1
    · rcases Int.lt_or_le (xs 2).toInt (2) with c2 | c2
      · exact o_0_1 h0 c0 c1 c2
      · rcases Int.lt_or_le (4096) (xs 2).toInt with c3 | c3
        · exact o_0_2 h0 c0 c1 c2 c3
        · exact o_0_3 h0 c0 c1 c2 c3
    · exact o_0_4 h0 c0 c1
theorem p_19_0 {d : Nat} {w : xW} {a0 : Int32} {a1 : Int32} (e0 : a0.toInt < (-16384)) : xRun (d + 6) 19 [Value.ref 7, Value.int a0, Value.int a1, Value.int 0] w (.inr w.length) (w ++ [Sum.inr (14, [])]) := by
  refine xRun.of ?_
  refine i_19_0 (x := a0) rfl ?_
  refine i_19_1 ?_
  refine i_19_4 (fun _ => ?_) (fun h => absurd e0 (Int.not_lt.mpr h))
  exact i_19_19 (by omega) (Nat.le_of_ble_eq_true rfl) ⟨rfl, rfl⟩
theorem p_18_0 {d : Nat} {w : xW} {a0 : Int32} {a1 : Int32} (hw0 : w[7]? = some (Sum.inr (0, [Value.ref 8, Value.ref 78, Value.ref 9, Value.ref 10, Value.ref 13, Value.ref 16, Value.ref 19, Value.ref 93, Value.ref 108, Value.ref 113, Value.ref 29, Value.int 0]))) (e1 : a0.toInt < (-16384)) : xRun (d + 7) 18 [Value.ref 7, Value.int a0, Value.int a1, Value.int 0, Value.ref 194] w (.inl (some (Value.int 1))) (w ++ [Sum.inr (14, [])]) := by
  refine xRun.of ?_
  refine i_18_0 (x := 194) rfl ?_
  refine i_18_2 ?_
  refine i_18_3 (x := 7) rfl ?_
  refine i_18_4 (x := a0) rfl ?_
  refine i_18_5 (x := a1) rfl ?_
  refine i_18_6 (x := 0) rfl ?_
  refine j_18_7 hw0 (Nat.le_of_ble_eq_true rfl) (p_19_0 e1) (xDone.c xgl rfl rfl ?_)
  refine i_18_15 (lv2 := [(5, Value.ref w.length), (0, Value.ref 7), (1, Value.int a0), (2, Value.int a1), (3, Value.int 0), (4, Value.ref 194)]) rfl ?_
  refine i_18_17 ?_
  exact i_18_18 ⟨rfl, rfl⟩
theorem p_169_6 {d : Nat} {w : xW} {a0 : Int32} (e0 : a0.toInt < (-16384)) : xRun d 169 [Value.int a0, Value.int (-16384), Value.int 16384] w (.inl (some (Value.int 0))) w := by
  refine xRun.of ?_
  refine i_169_0 (x := a0) rfl ?_
  refine i_169_1 (x := (-16384)) rfl ?_
  refine i_169_2 (fun _ => ?_) (fun h => absurd e0 (Int.not_lt.mpr h))
  refine i_169_14 ?_
  exact i_169_15 rfl ⟨rfl, rfl⟩
theorem p_173_0 {d : Nat} {w : xW} {a0 : Int32} {a1 : Int32} (e0 : a0.toInt < (-16384)) : xRun (d + 7) 173 [Value.ref 128, Value.int a0, Value.int a1, Value.int 0] w (.inr w.length) (w ++ [Sum.inr (14, [])]) := by
  refine xRun.of ?_
  refine i_173_0 (x := a0) rfl ?_
  refine i_173_1 ?_
  refine i_173_4 ?_
  refine i_173_7 (Nat.le_of_ble_eq_true rfl) (p_169_6 e0) ?_
  refine i_173_10 (fun _ => ?_) (fun h => absurd h (by decide))
  refine i_173_28 ?_
  exact j_173_29 (Nat.le_of_ble_eq_true rfl) (p_170_0) (xDone.t xgl rfl rfl ⟨rfl, rfl⟩)
theorem p_172_0 {d : Nat} {w : xW} {a0 : Int32} {a1 : Int32} (hw0 : w[128]? = some (Sum.inr (12, [Value.ref 129, Value.ref 131, Value.ref 133, Value.ref 135, Value.ref 137, Value.ref 139, Value.ref 141, Value.ref 143, Value.ref 145, Value.ref 147, Value.ref 149, Value.ref 151, Value.ref 153, Value.ref 154, Value.ref 155, Value.ref 156, Value.ref 157, Value.int (-16384), Value.int 16384, Value.int 0, Value.int 0, Value.int 0, Value.ref 158, Value.ref 159, Value.int 0, Value.int 0, Value.int 0, Value.int 0, Value.int 0, Value.int 0, Value.int 0, Value.int 0]))) (e1 : a0.toInt < (-16384)) : xRun (d + 8) 172 [Value.ref 128, Value.int a0, Value.int a1, Value.int 0] w (.inl (some (Value.int 0))) (((w.set 128 (Sum.inr (12, [Value.ref 129, Value.ref 131, Value.ref 133, Value.ref 135, Value.ref 137, Value.ref 139, Value.ref 141, Value.ref 143, Value.ref 145, Value.ref 147, Value.ref 149, Value.ref 151, Value.ref 153, Value.ref 154, Value.ref 155, Value.ref 156, Value.ref 157, Value.int (-16384), Value.int 16384, Value.int 0, Value.int 0, Value.int 0, Value.ref 158, Value.ref 159, Value.int 0, Value.int 0, Value.int 0, Value.int 0, Value.int 0, Value.int 0, Value.int 0, Value.int 0]))) ++ [Sum.inr (14, [])]).set 128 (Sum.inr (12, [Value.ref 129, Value.ref 131, Value.ref 133, Value.ref 135, Value.ref 137, Value.ref 139, Value.ref 141, Value.ref 143, Value.ref 145, Value.ref 147, Value.ref 149, Value.ref 151, Value.ref 153, Value.ref 154, Value.ref 155, Value.ref 156, Value.ref 157, Value.int (-16384), Value.int 16384, Value.int 0, Value.int 0, Value.int 0, Value.ref 158, Value.ref 159, Value.int 0, Value.int 0, Value.int 0, Value.int 0, Value.int 0, Value.int 0, Value.int 0, Value.int 1]))) := by
  refine xRun.of ?_
  refine i_172_0 (x := 128) rfl ?_
  refine i_172_1 ?_
  refine i_172_2 (fs2 := [Value.ref 129, Value.ref 131, Value.ref 133, Value.ref 135, Value.ref 137, Value.ref 139, Value.ref 141, Value.ref 143, Value.ref 145, Value.ref 147, Value.ref 149, Value.ref 151, Value.ref 153, Value.ref 154, Value.ref 155, Value.ref 156, Value.ref 157, Value.int (-16384), Value.int 16384, Value.int 0, Value.int 0, Value.int 0, Value.ref 158, Value.ref 159, Value.int 0, Value.int 0, Value.int 0, Value.int 0, Value.int 0, Value.int 0, Value.int 0, Value.int 0]) hw0 (Nat.le_of_ble_eq_true rfl) rfl (by decide) ?_
  refine i_172_5 (x := 128) rfl ?_
  refine i_172_6 (x := a0) rfl ?_
  refine i_172_7 (x := a1) rfl ?_
  refine i_172_8 (x := 0) rfl ?_
  refine j_172_9 (xgs hw0) (Nat.le_of_ble_eq_true rfl) (p_173_0 e1) (xDone.c xgl rfl rfl ?_)
  refine i_172_13 (lv2 := [(4, Value.ref ((w.set 128 (Sum.inr (12, [Value.ref 129, Value.ref 131, Value.ref 133, Value.ref 135, Value.ref 137, Value.ref 139, Value.ref 141, Value.ref 143, Value.ref 145, Value.ref 147, Value.ref 149, Value.ref 151, Value.ref 153, Value.ref 154, Value.ref 155, Value.ref 156, Value.ref 157, Value.int (-16384), Value.int 16384, Value.int 0, Value.int 0, Value.int 0, Value.ref 158, Value.ref 159, Value.int 0, Value.int 0, Value.int 0, Value.int 0, Value.int 0, Value.int 0, Value.int 0, Value.int 0]))).length)), (0, Value.ref 128), (1, Value.int a0), (2, Value.int a1), (3, Value.int 0)]) rfl ?_
  refine i_172_15 (x := 128) rfl ?_
  refine i_172_16 ?_
  refine i_172_17 (fs2 := [Value.ref 129, Value.ref 131, Value.ref 133, Value.ref 135, Value.ref 137, Value.ref 139, Value.ref 141, Value.ref 143, Value.ref 145, Value.ref 147, Value.ref 149, Value.ref 151, Value.ref 153, Value.ref 154, Value.ref 155, Value.ref 156, Value.ref 157, Value.int (-16384), Value.int 16384, Value.int 0, Value.int 0, Value.int 0, Value.ref 158, Value.ref 159, Value.int 0, Value.int 0, Value.int 0, Value.int 0, Value.int 0, Value.int 0, Value.int 0, Value.int 1]) (xga (xgs hw0)) (Nat.le_of_ble_eq_true rfl) rfl (by decide) ?_
  refine i_172_20 ?_
  exact i_172_21 ⟨rfl, rfl⟩
theorem o_1_0 {d : Nat} {xs : Nat → Int32} (h0 : ((xs 0) &&& (31 : Int32)).toInt = 1) (c0 : (xs 3).toInt = 0) (c1 : (xs 1).toInt < (-16384)) : ∃ w1, xEv (d + 20) 287 23 [(4, Value.int 0), (3, Value.ref 194), (2, Value.ref 128), (1, Value.ref 7), (0, Value.ref 0)] [] (W0 6 xs) (fun o' w' => o' = .inl (some (Value.int 1)) ∧ w' = w1) ∧ w1.length ≤ 220 ∧ xsz w1 ≤ 200000 := by
  have z0 : xsz (W0 6 xs) = 76990 := W0_sz
  have z1 : xsz ((W0 6 xs) ++ [Sum.inr (14, [])]) = 76996 := xz_app (m := 6) z0 rfl
  have z2 : xsz (((W0 6 xs) ++ [Sum.inr (14, [])]).set 128 (Sum.inr (12, [Value.ref 129, Value.ref 131, Value.ref 133, Value.ref 135, Value.ref 137, Value.ref 139, Value.ref 141, Value.ref 143, Value.ref 145, Value.ref 147, Value.ref 149, Value.ref 151, Value.ref 153, Value.ref 154, Value.ref 155, Value.ref 156, Value.ref 157, Value.int (-16384), Value.int 16384, Value.int 0, Value.int 0, Value.int 0, Value.ref 158, Value.ref 159, Value.int 0, Value.int 0, Value.int 0, Value.int 0, Value.int 0, Value.int 0, Value.int 0, Value.int 0]))) = 76996 := xz_set z1 (xga W0_128) xcs_o
  have z3 : xsz ((((W0 6 xs) ++ [Sum.inr (14, [])]).set 128 (Sum.inr (12, [Value.ref 129, Value.ref 131, Value.ref 133, Value.ref 135, Value.ref 137, Value.ref 139, Value.ref 141, Value.ref 143, Value.ref 145, Value.ref 147, Value.ref 149, Value.ref 151, Value.ref 153, Value.ref 154, Value.ref 155, Value.ref 156, Value.ref 157, Value.int (-16384), Value.int 16384, Value.int 0, Value.int 0, Value.int 0, Value.ref 158, Value.ref 159, Value.int 0, Value.int 0, Value.int 0, Value.int 0, Value.int 0, Value.int 0, Value.int 0, Value.int 0]))) ++ [Sum.inr (14, [])]) = 77002 := xz_app (m := 6) z2 rfl
  have z4 : xsz (((((W0 6 xs) ++ [Sum.inr (14, [])]).set 128 (Sum.inr (12, [Value.ref 129, Value.ref 131, Value.ref 133, Value.ref 135, Value.ref 137, Value.ref 139, Value.ref 141, Value.ref 143, Value.ref 145, Value.ref 147, Value.ref 149, Value.ref 151, Value.ref 153, Value.ref 154, Value.ref 155, Value.ref 156, Value.ref 157, Value.int (-16384), Value.int 16384, Value.int 0, Value.int 0, Value.int 0, Value.ref 158, Value.ref 159, Value.int 0, Value.int 0, Value.int 0, Value.int 0, Value.int 0, Value.int 0, Value.int 0, Value.int 0]))) ++ [Sum.inr (14, [])]).set 128 (Sum.inr (12, [Value.ref 129, Value.ref 131, Value.ref 133, Value.ref 135, Value.ref 137, Value.ref 139, Value.ref 141, Value.ref 143, Value.ref 145, Value.ref 147, Value.ref 149, Value.ref 151, Value.ref 153, Value.ref 154, Value.ref 155, Value.ref 156, Value.ref 157, Value.int (-16384), Value.int 16384, Value.int 0, Value.int 0, Value.int 0, Value.ref 158, Value.ref 159, Value.int 0, Value.int 0, Value.int 0, Value.int 0, Value.int 0, Value.int 0, Value.int 0, Value.int 1]))) = 77002 := xz_set z3 (xga (xgs (xga W0_128))) xcs_o
  refine ⟨(((((W0 6 xs) ++ [Sum.inr (14, [])]).set 128 (Sum.inr (12, [Value.ref 129, Value.ref 131, Value.ref 133, Value.ref 135, Value.ref 137, Value.ref 139, Value.ref 141, Value.ref 143, Value.ref 145, Value.ref 147, Value.ref 149, Value.ref 151, Value.ref 153, Value.ref 154, Value.ref 155, Value.ref 156, Value.ref 157, Value.int (-16384), Value.int 16384, Value.int 0, Value.int 0, Value.int 0, Value.ref 158, Value.ref 159, Value.int 0, Value.int 0, Value.int 0, Value.int 0, Value.int 0, Value.int 0, Value.int 0, Value.int 0]))) ++ [Sum.inr (14, [])]).set 128 (Sum.inr (12, [Value.ref 129, Value.ref 131, Value.ref 133, Value.ref 135, Value.ref 137, Value.ref 139, Value.ref 141, Value.ref 143, Value.ref 145, Value.ref 147, Value.ref 149, Value.ref 151, Value.ref 153, Value.ref 154, Value.ref 155, Value.ref 156, Value.ref 157, Value.int (-16384), Value.int 16384, Value.int 0, Value.int 0, Value.int 0, Value.ref 158, Value.ref 159, Value.int 0, Value.int 0, Value.int 0, Value.int 0, Value.int 0, Value.int 0, Value.int 0, Value.int 1]))), ?_, Nat.le_trans (Nat.le_of_eq (xls (xla (xls (xla (W0_len)))))) (by decide), by rw [z4]; decide⟩
  refine i_287_23 (x := 0) rfl ?_
  refine i_287_25 (x := 0) rfl ?_
  refine i_287_26 (c := 6) W0_0 (by decide) ?_
  refine i_287_27 ?_
  refine i_287_29 (c := 0) (by decide) ?_
  refine i_287_30 (fun h => absurd h (by decide)) (fun _ => ?_)
  refine i_287_33 (x := 0) rfl ?_
  refine i_287_34 (x := 0) rfl ?_
  refine i_287_36 (v := Value.int (xs 0)) W0_0 (by decide) (by decide) rfl ?_
  refine i_287_37 ?_
  refine i_287_39 (c := ((xs 0) &&& (31 : Int32))) rfl ?_
  refine i_287_40_1 (by omega) ?_
  refine i_287_220 (x := 7) rfl ?_
  refine i_287_221 (x := 0) rfl ?_
  refine i_287_222 (x := 0) rfl ?_
  refine i_287_224 ?_
  refine i_287_225 (c := 1) (by decide) ?_
  refine i_287_226 (v := Value.int (xs 1)) W0_0 (by decide) (by decide) rfl ?_
  refine i_287_227 (x := 0) rfl ?_
  refine i_287_228 (x := 0) rfl ?_
  refine i_287_230 ?_
  refine i_287_231 (c := 2) (by decide) ?_
  refine i_287_232 (v := Value.int (xs 2)) W0_0 (by decide) (by decide) rfl ?_
  refine i_287_233 (x := 0) rfl ?_
  refine i_287_234 (x := 0) rfl ?_
  refine i_287_236 ?_
  refine i_287_237 (c := 3) (by decide) ?_
  refine i_287_238 (v := Value.int (xs 3)) W0_0 (by decide) (by decide) rfl ?_
  refine i_287_239 (fun _ => ?_) (fun h => absurd (show (xs 3).toInt = 0 by omega) h)
  refine i_287_246 ?_
  refine i_287_247 (x := 194) rfl ?_
  refine i_287_248 (Nat.le_of_ble_eq_true rfl) (p_18_0 W0_7 (by omega)) ?_
  refine i_287_251 (lv2 := [(5, Value.int 1), (4, Value.int 0), (3, Value.ref 194), (2, Value.ref 128), (1, Value.ref 7), (0, Value.ref 0)]) rfl ?_
  refine i_287_253 (x := 128) rfl ?_
  refine i_287_254 (x := 0) rfl ?_
  refine i_287_255 (x := 0) rfl ?_
  refine i_287_257 ?_
  refine i_287_258 (c := 1) (by decide) ?_
  refine i_287_259 (v := Value.int (xs 1)) (xga W0_0) (by decide) (by decide) rfl ?_
  refine i_287_260 (x := 0) rfl ?_
  refine i_287_261 (x := 0) rfl ?_
  refine i_287_263 ?_
  refine i_287_264 (c := 2) (by decide) ?_
  refine i_287_265 (v := Value.int (xs 2)) (xga W0_0) (by decide) (by decide) rfl ?_
  refine i_287_266 (x := 0) rfl ?_
  refine i_287_267 (x := 0) rfl ?_
  refine i_287_269 ?_
  refine i_287_270 (c := 3) (by decide) ?_
  refine i_287_271 (v := Value.int (xs 3)) (xga W0_0) (by decide) (by decide) rfl ?_
  refine i_287_272 (fun _ => ?_) (fun h => absurd (show (xs 3).toInt = 0 by omega) h)
  refine i_287_279 ?_
  refine i_287_280 (xga W0_128) (Nat.le_of_ble_eq_true rfl) (p_172_0 (xga W0_128) (by omega)) ?_
  refine i_287_283 (lv2 := [(6, Value.int 0), (5, Value.int 1), (4, Value.int 0), (3, Value.ref 194), (2, Value.ref 128), (1, Value.ref 7), (0, Value.ref 0)]) rfl ?_
  refine i_287_285 (x := 128) rfl ?_
  refine i_287_286 (xgs (xga (xgs (xga W0_128)))) (Nat.le_of_ble_eq_true rfl) (p_165_0 (xgs (xga (xgs (xga W0_128))))) ?_
  refine i_287_289 (x := 1) rfl ?_
  refine i_287_291 (fun _ => ?_) (fun h => absurd h (by decide))
  refine i_287_296 (x := 1) rfl ?_
  refine i_287_298 (fun _ => ?_) (fun h => absurd h (by decide))
  refine i_287_313 ?_
  refine i_287_2154 (x := 0) (c := 6) (lv2 := [(4, Value.int 6), (6, Value.int 0), (5, Value.int 1), (3, Value.ref 194), (2, Value.ref 128), (1, Value.ref 7), (0, Value.ref 0)]) rfl (by decide) rfl ?_
  refine i_287_2157 ?_
  refine i_287_23 (x := 6) rfl ?_
  refine i_287_25 (x := 0) rfl ?_
  refine i_287_26 (c := 6) (xgn (by decide) (xga (xgn (by decide) (xga W0_0)))) (by decide) ?_
  refine i_287_27 ?_
  refine i_287_29 (c := 0) (by decide) ?_
  refine i_287_30 (fun _ => ?_) (fun h => absurd h (by decide))
  refine i_287_2160 ?_
  exact i_287_2161 rfl ⟨rfl, rfl⟩
theorem p_19_1 {d : Nat} {w : xW} {a0 : Int32} {a1 : Int32} (e0 : (-16384) ≤ a0.toInt) (e1 : 16384 < a1.toInt) : xRun (d + 6) 19 [Value.ref 7, Value.int a0, Value.int a1, Value.int 0] w (.inr w.length) (w ++ [Sum.inr (14, [])]) := by
  refine xRun.of ?_
  refine i_19_0 (x := a0) rfl ?_
  refine i_19_1 ?_
  refine i_19_4 (fun h => absurd e0 (Int.not_le.mpr h)) (fun _ => ?_)
  refine i_19_7 (x := a1) rfl ?_
  refine i_19_8 ?_
  refine i_19_11 (fun _ => ?_) (fun h => absurd e1 (Int.not_lt.mpr h))
  exact i_19_19 (by omega) (Nat.le_of_ble_eq_true rfl) ⟨rfl, rfl⟩
theorem p_18_1 {d : Nat} {w : xW} {a0 : Int32} {a1 : Int32} (hw0 : w[7]? = some (Sum.inr (0, [Value.ref 8, Value.ref 78, Value.ref 9, Value.ref 10, Value.ref 13, Value.ref 16, Value.ref 19, Value.ref 93, Value.ref 108, Value.ref 113, Value.ref 29, Value.int 0]))) (e1 : (-16384) ≤ a0.toInt) (e2 : 16384 < a1.toInt) : xRun (d + 7) 18 [Value.ref 7, Value.int a0, Value.int a1, Value.int 0, Value.ref 194] w (.inl (some (Value.int 1))) (w ++ [Sum.inr (14, [])]) := by
  refine xRun.of ?_
  refine i_18_0 (x := 194) rfl ?_
  refine i_18_2 ?_
  refine i_18_3 (x := 7) rfl ?_
  refine i_18_4 (x := a0) rfl ?_
  refine i_18_5 (x := a1) rfl ?_
  refine i_18_6 (x := 0) rfl ?_
  refine j_18_7 hw0 (Nat.le_of_ble_eq_true rfl) (p_19_1 e1 e2) (xDone.c xgl rfl rfl ?_)
  refine i_18_15 (lv2 := [(5, Value.ref w.length), (0, Value.ref 7), (1, Value.int a0), (2, Value.int a1), (3, Value.int 0), (4, Value.ref 194)]) rfl ?_
  refine i_18_17 ?_
  exact i_18_18 ⟨rfl, rfl⟩
theorem p_169_7 {d : Nat} {w : xW} {a0 : Int32} (e0 : (-16384) ≤ a0.toInt) (e1 : 16384 < a0.toInt) : xRun d 169 [Value.int a0, Value.int (-16384), Value.int 16384] w (.inl (some (Value.int 0))) w := by
  refine xRun.of ?_
  refine i_169_0 (x := a0) rfl ?_
  refine i_169_1 (x := (-16384)) rfl ?_
  refine i_169_2 (fun h => absurd e0 (Int.not_le.mpr h)) (fun _ => ?_)
  refine i_169_5 (x := a0) rfl ?_
  refine i_169_6 (x := 16384) rfl ?_
  refine i_169_7 (fun _ => ?_) (fun h => absurd e1 (Int.not_lt.mpr h))
  refine i_169_14 ?_
  exact i_169_15 rfl ⟨rfl, rfl⟩
theorem p_173_1 {d : Nat} {w : xW} {a0 : Int32} {a1 : Int32} (e0 : (-16384) ≤ a0.toInt) (e1 : 16384 < a0.toInt) : xRun (d + 7) 173 [Value.ref 128, Value.int a0, Value.int a1, Value.int 0] w (.inr w.length) (w ++ [Sum.inr (14, [])]) := by
  refine xRun.of ?_
  refine i_173_0 (x := a0) rfl ?_
  refine i_173_1 ?_
  refine i_173_4 ?_
  refine i_173_7 (Nat.le_of_ble_eq_true rfl) (p_169_7 e0 e1) ?_
  refine i_173_10 (fun _ => ?_) (fun h => absurd h (by decide))
  refine i_173_28 ?_
  exact j_173_29 (Nat.le_of_ble_eq_true rfl) (p_170_0) (xDone.t xgl rfl rfl ⟨rfl, rfl⟩)
theorem p_172_1 {d : Nat} {w : xW} {a0 : Int32} {a1 : Int32} (hw0 : w[128]? = some (Sum.inr (12, [Value.ref 129, Value.ref 131, Value.ref 133, Value.ref 135, Value.ref 137, Value.ref 139, Value.ref 141, Value.ref 143, Value.ref 145, Value.ref 147, Value.ref 149, Value.ref 151, Value.ref 153, Value.ref 154, Value.ref 155, Value.ref 156, Value.ref 157, Value.int (-16384), Value.int 16384, Value.int 0, Value.int 0, Value.int 0, Value.ref 158, Value.ref 159, Value.int 0, Value.int 0, Value.int 0, Value.int 0, Value.int 0, Value.int 0, Value.int 0, Value.int 0]))) (e1 : (-16384) ≤ a0.toInt) (e2 : 16384 < a0.toInt) : xRun (d + 8) 172 [Value.ref 128, Value.int a0, Value.int a1, Value.int 0] w (.inl (some (Value.int 0))) (((w.set 128 (Sum.inr (12, [Value.ref 129, Value.ref 131, Value.ref 133, Value.ref 135, Value.ref 137, Value.ref 139, Value.ref 141, Value.ref 143, Value.ref 145, Value.ref 147, Value.ref 149, Value.ref 151, Value.ref 153, Value.ref 154, Value.ref 155, Value.ref 156, Value.ref 157, Value.int (-16384), Value.int 16384, Value.int 0, Value.int 0, Value.int 0, Value.ref 158, Value.ref 159, Value.int 0, Value.int 0, Value.int 0, Value.int 0, Value.int 0, Value.int 0, Value.int 0, Value.int 0]))) ++ [Sum.inr (14, [])]).set 128 (Sum.inr (12, [Value.ref 129, Value.ref 131, Value.ref 133, Value.ref 135, Value.ref 137, Value.ref 139, Value.ref 141, Value.ref 143, Value.ref 145, Value.ref 147, Value.ref 149, Value.ref 151, Value.ref 153, Value.ref 154, Value.ref 155, Value.ref 156, Value.ref 157, Value.int (-16384), Value.int 16384, Value.int 0, Value.int 0, Value.int 0, Value.ref 158, Value.ref 159, Value.int 0, Value.int 0, Value.int 0, Value.int 0, Value.int 0, Value.int 0, Value.int 0, Value.int 1]))) := by
  refine xRun.of ?_
  refine i_172_0 (x := 128) rfl ?_
  refine i_172_1 ?_
  refine i_172_2 (fs2 := [Value.ref 129, Value.ref 131, Value.ref 133, Value.ref 135, Value.ref 137, Value.ref 139, Value.ref 141, Value.ref 143, Value.ref 145, Value.ref 147, Value.ref 149, Value.ref 151, Value.ref 153, Value.ref 154, Value.ref 155, Value.ref 156, Value.ref 157, Value.int (-16384), Value.int 16384, Value.int 0, Value.int 0, Value.int 0, Value.ref 158, Value.ref 159, Value.int 0, Value.int 0, Value.int 0, Value.int 0, Value.int 0, Value.int 0, Value.int 0, Value.int 0]) hw0 (Nat.le_of_ble_eq_true rfl) rfl (by decide) ?_
  refine i_172_5 (x := 128) rfl ?_
  refine i_172_6 (x := a0) rfl ?_
  refine i_172_7 (x := a1) rfl ?_
  refine i_172_8 (x := 0) rfl ?_
  refine j_172_9 (xgs hw0) (Nat.le_of_ble_eq_true rfl) (p_173_1 e1 e2) (xDone.c xgl rfl rfl ?_)
  refine i_172_13 (lv2 := [(4, Value.ref ((w.set 128 (Sum.inr (12, [Value.ref 129, Value.ref 131, Value.ref 133, Value.ref 135, Value.ref 137, Value.ref 139, Value.ref 141, Value.ref 143, Value.ref 145, Value.ref 147, Value.ref 149, Value.ref 151, Value.ref 153, Value.ref 154, Value.ref 155, Value.ref 156, Value.ref 157, Value.int (-16384), Value.int 16384, Value.int 0, Value.int 0, Value.int 0, Value.ref 158, Value.ref 159, Value.int 0, Value.int 0, Value.int 0, Value.int 0, Value.int 0, Value.int 0, Value.int 0, Value.int 0]))).length)), (0, Value.ref 128), (1, Value.int a0), (2, Value.int a1), (3, Value.int 0)]) rfl ?_
  refine i_172_15 (x := 128) rfl ?_
  refine i_172_16 ?_
  refine i_172_17 (fs2 := [Value.ref 129, Value.ref 131, Value.ref 133, Value.ref 135, Value.ref 137, Value.ref 139, Value.ref 141, Value.ref 143, Value.ref 145, Value.ref 147, Value.ref 149, Value.ref 151, Value.ref 153, Value.ref 154, Value.ref 155, Value.ref 156, Value.ref 157, Value.int (-16384), Value.int 16384, Value.int 0, Value.int 0, Value.int 0, Value.ref 158, Value.ref 159, Value.int 0, Value.int 0, Value.int 0, Value.int 0, Value.int 0, Value.int 0, Value.int 0, Value.int 1]) (xga (xgs hw0)) (Nat.le_of_ble_eq_true rfl) rfl (by decide) ?_
  refine i_172_20 ?_
  exact i_172_21 ⟨rfl, rfl⟩
theorem o_1_1 {d : Nat} {xs : Nat → Int32} (h0 : ((xs 0) &&& (31 : Int32)).toInt = 1) (c0 : (xs 3).toInt = 0) (c1 : (-16384) ≤ (xs 1).toInt) (c2 : 16384 < (xs 2).toInt) (c3 : 16384 < (xs 1).toInt) : ∃ w1, xEv (d + 20) 287 23 [(4, Value.int 0), (3, Value.ref 194), (2, Value.ref 128), (1, Value.ref 7), (0, Value.ref 0)] [] (W0 6 xs) (fun o' w' => o' = .inl (some (Value.int 1)) ∧ w' = w1) ∧ w1.length ≤ 220 ∧ xsz w1 ≤ 200000 := by
  have z0 : xsz (W0 6 xs) = 76990 := W0_sz
  have z1 : xsz ((W0 6 xs) ++ [Sum.inr (14, [])]) = 76996 := xz_app (m := 6) z0 rfl
  have z2 : xsz (((W0 6 xs) ++ [Sum.inr (14, [])]).set 128 (Sum.inr (12, [Value.ref 129, Value.ref 131, Value.ref 133, Value.ref 135, Value.ref 137, Value.ref 139, Value.ref 141, Value.ref 143, Value.ref 145, Value.ref 147, Value.ref 149, Value.ref 151, Value.ref 153, Value.ref 154, Value.ref 155, Value.ref 156, Value.ref 157, Value.int (-16384), Value.int 16384, Value.int 0, Value.int 0, Value.int 0, Value.ref 158, Value.ref 159, Value.int 0, Value.int 0, Value.int 0, Value.int 0, Value.int 0, Value.int 0, Value.int 0, Value.int 0]))) = 76996 := xz_set z1 (xga W0_128) xcs_o
  have z3 : xsz ((((W0 6 xs) ++ [Sum.inr (14, [])]).set 128 (Sum.inr (12, [Value.ref 129, Value.ref 131, Value.ref 133, Value.ref 135, Value.ref 137, Value.ref 139, Value.ref 141, Value.ref 143, Value.ref 145, Value.ref 147, Value.ref 149, Value.ref 151, Value.ref 153, Value.ref 154, Value.ref 155, Value.ref 156, Value.ref 157, Value.int (-16384), Value.int 16384, Value.int 0, Value.int 0, Value.int 0, Value.ref 158, Value.ref 159, Value.int 0, Value.int 0, Value.int 0, Value.int 0, Value.int 0, Value.int 0, Value.int 0, Value.int 0]))) ++ [Sum.inr (14, [])]) = 77002 := xz_app (m := 6) z2 rfl
  have z4 : xsz (((((W0 6 xs) ++ [Sum.inr (14, [])]).set 128 (Sum.inr (12, [Value.ref 129, Value.ref 131, Value.ref 133, Value.ref 135, Value.ref 137, Value.ref 139, Value.ref 141, Value.ref 143, Value.ref 145, Value.ref 147, Value.ref 149, Value.ref 151, Value.ref 153, Value.ref 154, Value.ref 155, Value.ref 156, Value.ref 157, Value.int (-16384), Value.int 16384, Value.int 0, Value.int 0, Value.int 0, Value.ref 158, Value.ref 159, Value.int 0, Value.int 0, Value.int 0, Value.int 0, Value.int 0, Value.int 0, Value.int 0, Value.int 0]))) ++ [Sum.inr (14, [])]).set 128 (Sum.inr (12, [Value.ref 129, Value.ref 131, Value.ref 133, Value.ref 135, Value.ref 137, Value.ref 139, Value.ref 141, Value.ref 143, Value.ref 145, Value.ref 147, Value.ref 149, Value.ref 151, Value.ref 153, Value.ref 154, Value.ref 155, Value.ref 156, Value.ref 157, Value.int (-16384), Value.int 16384, Value.int 0, Value.int 0, Value.int 0, Value.ref 158, Value.ref 159, Value.int 0, Value.int 0, Value.int 0, Value.int 0, Value.int 0, Value.int 0, Value.int 0, Value.int 1]))) = 77002 := xz_set z3 (xga (xgs (xga W0_128))) xcs_o
  refine ⟨(((((W0 6 xs) ++ [Sum.inr (14, [])]).set 128 (Sum.inr (12, [Value.ref 129, Value.ref 131, Value.ref 133, Value.ref 135, Value.ref 137, Value.ref 139, Value.ref 141, Value.ref 143, Value.ref 145, Value.ref 147, Value.ref 149, Value.ref 151, Value.ref 153, Value.ref 154, Value.ref 155, Value.ref 156, Value.ref 157, Value.int (-16384), Value.int 16384, Value.int 0, Value.int 0, Value.int 0, Value.ref 158, Value.ref 159, Value.int 0, Value.int 0, Value.int 0, Value.int 0, Value.int 0, Value.int 0, Value.int 0, Value.int 0]))) ++ [Sum.inr (14, [])]).set 128 (Sum.inr (12, [Value.ref 129, Value.ref 131, Value.ref 133, Value.ref 135, Value.ref 137, Value.ref 139, Value.ref 141, Value.ref 143, Value.ref 145, Value.ref 147, Value.ref 149, Value.ref 151, Value.ref 153, Value.ref 154, Value.ref 155, Value.ref 156, Value.ref 157, Value.int (-16384), Value.int 16384, Value.int 0, Value.int 0, Value.int 0, Value.ref 158, Value.ref 159, Value.int 0, Value.int 0, Value.int 0, Value.int 0, Value.int 0, Value.int 0, Value.int 0, Value.int 1]))), ?_, Nat.le_trans (Nat.le_of_eq (xls (xla (xls (xla (W0_len)))))) (by decide), by rw [z4]; decide⟩
  refine i_287_23 (x := 0) rfl ?_
  refine i_287_25 (x := 0) rfl ?_
  refine i_287_26 (c := 6) W0_0 (by decide) ?_
  refine i_287_27 ?_
  refine i_287_29 (c := 0) (by decide) ?_
  refine i_287_30 (fun h => absurd h (by decide)) (fun _ => ?_)
  refine i_287_33 (x := 0) rfl ?_
  refine i_287_34 (x := 0) rfl ?_
  refine i_287_36 (v := Value.int (xs 0)) W0_0 (by decide) (by decide) rfl ?_
  refine i_287_37 ?_
  refine i_287_39 (c := ((xs 0) &&& (31 : Int32))) rfl ?_
  refine i_287_40_1 (by omega) ?_
  refine i_287_220 (x := 7) rfl ?_
  refine i_287_221 (x := 0) rfl ?_
  refine i_287_222 (x := 0) rfl ?_
  refine i_287_224 ?_
  refine i_287_225 (c := 1) (by decide) ?_
  refine i_287_226 (v := Value.int (xs 1)) W0_0 (by decide) (by decide) rfl ?_
  refine i_287_227 (x := 0) rfl ?_
  refine i_287_228 (x := 0) rfl ?_
  refine i_287_230 ?_
  refine i_287_231 (c := 2) (by decide) ?_
  refine i_287_232 (v := Value.int (xs 2)) W0_0 (by decide) (by decide) rfl ?_
  refine i_287_233 (x := 0) rfl ?_
  refine i_287_234 (x := 0) rfl ?_
  refine i_287_236 ?_
  refine i_287_237 (c := 3) (by decide) ?_
  refine i_287_238 (v := Value.int (xs 3)) W0_0 (by decide) (by decide) rfl ?_
  refine i_287_239 (fun _ => ?_) (fun h => absurd (show (xs 3).toInt = 0 by omega) h)
  refine i_287_246 ?_
  refine i_287_247 (x := 194) rfl ?_
  refine i_287_248 (Nat.le_of_ble_eq_true rfl) (p_18_1 W0_7 (by omega) (by omega)) ?_
  refine i_287_251 (lv2 := [(5, Value.int 1), (4, Value.int 0), (3, Value.ref 194), (2, Value.ref 128), (1, Value.ref 7), (0, Value.ref 0)]) rfl ?_
  refine i_287_253 (x := 128) rfl ?_
  refine i_287_254 (x := 0) rfl ?_
  refine i_287_255 (x := 0) rfl ?_
  refine i_287_257 ?_
  refine i_287_258 (c := 1) (by decide) ?_
  refine i_287_259 (v := Value.int (xs 1)) (xga W0_0) (by decide) (by decide) rfl ?_
  refine i_287_260 (x := 0) rfl ?_
  refine i_287_261 (x := 0) rfl ?_
  refine i_287_263 ?_
  refine i_287_264 (c := 2) (by decide) ?_
  refine i_287_265 (v := Value.int (xs 2)) (xga W0_0) (by decide) (by decide) rfl ?_
  refine i_287_266 (x := 0) rfl ?_
  refine i_287_267 (x := 0) rfl ?_
  refine i_287_269 ?_
  refine i_287_270 (c := 3) (by decide) ?_
  refine i_287_271 (v := Value.int (xs 3)) (xga W0_0) (by decide) (by decide) rfl ?_
  refine i_287_272 (fun _ => ?_) (fun h => absurd (show (xs 3).toInt = 0 by omega) h)
  refine i_287_279 ?_
  refine i_287_280 (xga W0_128) (Nat.le_of_ble_eq_true rfl) (p_172_1 (xga W0_128) (by omega) (by omega)) ?_
  refine i_287_283 (lv2 := [(6, Value.int 0), (5, Value.int 1), (4, Value.int 0), (3, Value.ref 194), (2, Value.ref 128), (1, Value.ref 7), (0, Value.ref 0)]) rfl ?_
  refine i_287_285 (x := 128) rfl ?_
  refine i_287_286 (xgs (xga (xgs (xga W0_128)))) (Nat.le_of_ble_eq_true rfl) (p_165_0 (xgs (xga (xgs (xga W0_128))))) ?_
  refine i_287_289 (x := 1) rfl ?_
  refine i_287_291 (fun _ => ?_) (fun h => absurd h (by decide))
  refine i_287_296 (x := 1) rfl ?_
  refine i_287_298 (fun _ => ?_) (fun h => absurd h (by decide))
  refine i_287_313 ?_
  refine i_287_2154 (x := 0) (c := 6) (lv2 := [(4, Value.int 6), (6, Value.int 0), (5, Value.int 1), (3, Value.ref 194), (2, Value.ref 128), (1, Value.ref 7), (0, Value.ref 0)]) rfl (by decide) rfl ?_
  refine i_287_2157 ?_
  refine i_287_23 (x := 6) rfl ?_
  refine i_287_25 (x := 0) rfl ?_
  refine i_287_26 (c := 6) (xgn (by decide) (xga (xgn (by decide) (xga W0_0)))) (by decide) ?_
  refine i_287_27 ?_
  refine i_287_29 (c := 0) (by decide) ?_
  refine i_287_30 (fun _ => ?_) (fun h => absurd h (by decide))
  refine i_287_2160 ?_
  exact i_287_2161 rfl ⟨rfl, rfl⟩
theorem p_169_8 {d : Nat} {w : xW} {a0 : Int32} (e0 : (-16384) ≤ a0.toInt) (e1 : a0.toInt ≤ 16384) : xRun d 169 [Value.int a0, Value.int (-16384), Value.int 16384] w (.inl (some (Value.int 1))) w := by
  refine xRun.of ?_
  refine i_169_0 (x := a0) rfl ?_
  refine i_169_1 (x := (-16384)) rfl ?_
  refine i_169_2 (fun h => absurd e0 (Int.not_le.mpr h)) (fun _ => ?_)
  refine i_169_5 (x := a0) rfl ?_
  refine i_169_6 (x := 16384) rfl ?_
  refine i_169_7 (fun h => absurd e1 (Int.not_le.mpr h)) (fun _ => ?_)
  refine i_169_10 ?_
  refine i_169_11 ?_
  exact i_169_15 rfl ⟨rfl, rfl⟩
theorem p_169_9 {d : Nat} {w : xW} {a0 : Int32} {a1 : Int32} (e0 : a1.toInt ≤ a0.toInt) (e1 : 16384 < a0.toInt) : xRun d 169 [Value.int a0, Value.int a1, Value.int 16384] w (.inl (some (Value.int 0))) w := by
  refine xRun.of ?_
  refine i_169_0 (x := a0) rfl ?_
  refine i_169_1 (x := a1) rfl ?_
  refine i_169_2 (fun h => absurd e0 (Int.not_le.mpr h)) (fun _ => ?_)
  refine i_169_5 (x := a0) rfl ?_
  refine i_169_6 (x := 16384) rfl ?_
  refine i_169_7 (fun _ => ?_) (fun h => absurd e1 (Int.not_lt.mpr h))
  refine i_169_14 ?_
  exact i_169_15 rfl ⟨rfl, rfl⟩
theorem p_173_2 {d : Nat} {w : xW} {a0 : Int32} {a1 : Int32} (e0 : (-16384) ≤ a0.toInt) (e1 : a0.toInt ≤ 16384) (e2 : a0.toInt ≤ a1.toInt) (e3 : 16384 < a1.toInt) : xRun (d + 7) 173 [Value.ref 128, Value.int a0, Value.int a1, Value.int 0] w (.inr w.length) (w ++ [Sum.inr (14, [])]) := by
  refine xRun.of ?_
  refine i_173_0 (x := a0) rfl ?_
  refine i_173_1 ?_
  refine i_173_4 ?_
  refine i_173_7 (Nat.le_of_ble_eq_true rfl) (p_169_8 e0 e1) ?_
  refine i_173_10 (fun h => absurd h (by decide)) (fun _ => ?_)
  refine i_173_13 (x := a1) rfl ?_
  refine i_173_14 (x := a0) rfl ?_
  refine i_173_15 ?_
  refine i_173_18 (Nat.le_of_ble_eq_true rfl) (p_169_9 e2 e3) ?_
  refine i_173_21 (fun _ => ?_) (fun h => absurd h (by decide))
  refine i_173_28 ?_
  exact j_173_29 (Nat.le_of_ble_eq_true rfl) (p_170_0) (xDone.t xgl rfl rfl ⟨rfl, rfl⟩)
theorem p_172_2 {d : Nat} {w : xW} {a0 : Int32} {a1 : Int32} (hw0 : w[128]? = some (Sum.inr (12, [Value.ref 129, Value.ref 131, Value.ref 133, Value.ref 135, Value.ref 137, Value.ref 139, Value.ref 141, Value.ref 143, Value.ref 145, Value.ref 147, Value.ref 149, Value.ref 151, Value.ref 153, Value.ref 154, Value.ref 155, Value.ref 156, Value.ref 157, Value.int (-16384), Value.int 16384, Value.int 0, Value.int 0, Value.int 0, Value.ref 158, Value.ref 159, Value.int 0, Value.int 0, Value.int 0, Value.int 0, Value.int 0, Value.int 0, Value.int 0, Value.int 0]))) (e1 : (-16384) ≤ a0.toInt) (e2 : a0.toInt ≤ 16384) (e3 : a0.toInt ≤ a1.toInt) (e4 : 16384 < a1.toInt) : xRun (d + 8) 172 [Value.ref 128, Value.int a0, Value.int a1, Value.int 0] w (.inl (some (Value.int 0))) (((w.set 128 (Sum.inr (12, [Value.ref 129, Value.ref 131, Value.ref 133, Value.ref 135, Value.ref 137, Value.ref 139, Value.ref 141, Value.ref 143, Value.ref 145, Value.ref 147, Value.ref 149, Value.ref 151, Value.ref 153, Value.ref 154, Value.ref 155, Value.ref 156, Value.ref 157, Value.int (-16384), Value.int 16384, Value.int 0, Value.int 0, Value.int 0, Value.ref 158, Value.ref 159, Value.int 0, Value.int 0, Value.int 0, Value.int 0, Value.int 0, Value.int 0, Value.int 0, Value.int 0]))) ++ [Sum.inr (14, [])]).set 128 (Sum.inr (12, [Value.ref 129, Value.ref 131, Value.ref 133, Value.ref 135, Value.ref 137, Value.ref 139, Value.ref 141, Value.ref 143, Value.ref 145, Value.ref 147, Value.ref 149, Value.ref 151, Value.ref 153, Value.ref 154, Value.ref 155, Value.ref 156, Value.ref 157, Value.int (-16384), Value.int 16384, Value.int 0, Value.int 0, Value.int 0, Value.ref 158, Value.ref 159, Value.int 0, Value.int 0, Value.int 0, Value.int 0, Value.int 0, Value.int 0, Value.int 0, Value.int 1]))) := by
  refine xRun.of ?_
  refine i_172_0 (x := 128) rfl ?_
  refine i_172_1 ?_
  refine i_172_2 (fs2 := [Value.ref 129, Value.ref 131, Value.ref 133, Value.ref 135, Value.ref 137, Value.ref 139, Value.ref 141, Value.ref 143, Value.ref 145, Value.ref 147, Value.ref 149, Value.ref 151, Value.ref 153, Value.ref 154, Value.ref 155, Value.ref 156, Value.ref 157, Value.int (-16384), Value.int 16384, Value.int 0, Value.int 0, Value.int 0, Value.ref 158, Value.ref 159, Value.int 0, Value.int 0, Value.int 0, Value.int 0, Value.int 0, Value.int 0, Value.int 0, Value.int 0]) hw0 (Nat.le_of_ble_eq_true rfl) rfl (by decide) ?_
  refine i_172_5 (x := 128) rfl ?_
  refine i_172_6 (x := a0) rfl ?_
  refine i_172_7 (x := a1) rfl ?_
  refine i_172_8 (x := 0) rfl ?_
  refine j_172_9 (xgs hw0) (Nat.le_of_ble_eq_true rfl) (p_173_2 e1 e2 e3 e4) (xDone.c xgl rfl rfl ?_)
  refine i_172_13 (lv2 := [(4, Value.ref ((w.set 128 (Sum.inr (12, [Value.ref 129, Value.ref 131, Value.ref 133, Value.ref 135, Value.ref 137, Value.ref 139, Value.ref 141, Value.ref 143, Value.ref 145, Value.ref 147, Value.ref 149, Value.ref 151, Value.ref 153, Value.ref 154, Value.ref 155, Value.ref 156, Value.ref 157, Value.int (-16384), Value.int 16384, Value.int 0, Value.int 0, Value.int 0, Value.ref 158, Value.ref 159, Value.int 0, Value.int 0, Value.int 0, Value.int 0, Value.int 0, Value.int 0, Value.int 0, Value.int 0]))).length)), (0, Value.ref 128), (1, Value.int a0), (2, Value.int a1), (3, Value.int 0)]) rfl ?_
  refine i_172_15 (x := 128) rfl ?_
  refine i_172_16 ?_
  refine i_172_17 (fs2 := [Value.ref 129, Value.ref 131, Value.ref 133, Value.ref 135, Value.ref 137, Value.ref 139, Value.ref 141, Value.ref 143, Value.ref 145, Value.ref 147, Value.ref 149, Value.ref 151, Value.ref 153, Value.ref 154, Value.ref 155, Value.ref 156, Value.ref 157, Value.int (-16384), Value.int 16384, Value.int 0, Value.int 0, Value.int 0, Value.ref 158, Value.ref 159, Value.int 0, Value.int 0, Value.int 0, Value.int 0, Value.int 0, Value.int 0, Value.int 0, Value.int 1]) (xga (xgs hw0)) (Nat.le_of_ble_eq_true rfl) rfl (by decide) ?_
  refine i_172_20 ?_
  exact i_172_21 ⟨rfl, rfl⟩
theorem o_1_2 {d : Nat} {xs : Nat → Int32} (h0 : ((xs 0) &&& (31 : Int32)).toInt = 1) (c0 : (xs 3).toInt = 0) (c1 : (-16384) ≤ (xs 1).toInt) (c2 : 16384 < (xs 2).toInt) (c3 : (xs 1).toInt ≤ 16384) : ∃ w1, xEv (d + 20) 287 23 [(4, Value.int 0), (3, Value.ref 194), (2, Value.ref 128), (1, Value.ref 7), (0, Value.ref 0)] [] (W0 6 xs) (fun o' w' => o' = .inl (some (Value.int 1)) ∧ w' = w1) ∧ w1.length ≤ 220 ∧ xsz w1 ≤ 200000 := by
  have z0 : xsz (W0 6 xs) = 76990 := W0_sz
  have z1 : xsz ((W0 6 xs) ++ [Sum.inr (14, [])]) = 76996 := xz_app (m := 6) z0 rfl
  have z2 : xsz (((W0 6 xs) ++ [Sum.inr (14, [])]).set 128 (Sum.inr (12, [Value.ref 129, Value.ref 131, Value.ref 133, Value.ref 135, Value.ref 137, Value.ref 139, Value.ref 141, Value.ref 143, Value.ref 145, Value.ref 147, Value.ref 149, Value.ref 151, Value.ref 153, Value.ref 154, Value.ref 155, Value.ref 156, Value.ref 157, Value.int (-16384), Value.int 16384, Value.int 0, Value.int 0, Value.int 0, Value.ref 158, Value.ref 159, Value.int 0, Value.int 0, Value.int 0, Value.int 0, Value.int 0, Value.int 0, Value.int 0, Value.int 0]))) = 76996 := xz_set z1 (xga W0_128) xcs_o
  have z3 : xsz ((((W0 6 xs) ++ [Sum.inr (14, [])]).set 128 (Sum.inr (12, [Value.ref 129, Value.ref 131, Value.ref 133, Value.ref 135, Value.ref 137, Value.ref 139, Value.ref 141, Value.ref 143, Value.ref 145, Value.ref 147, Value.ref 149, Value.ref 151, Value.ref 153, Value.ref 154, Value.ref 155, Value.ref 156, Value.ref 157, Value.int (-16384), Value.int 16384, Value.int 0, Value.int 0, Value.int 0, Value.ref 158, Value.ref 159, Value.int 0, Value.int 0, Value.int 0, Value.int 0, Value.int 0, Value.int 0, Value.int 0, Value.int 0]))) ++ [Sum.inr (14, [])]) = 77002 := xz_app (m := 6) z2 rfl
  have z4 : xsz (((((W0 6 xs) ++ [Sum.inr (14, [])]).set 128 (Sum.inr (12, [Value.ref 129, Value.ref 131, Value.ref 133, Value.ref 135, Value.ref 137, Value.ref 139, Value.ref 141, Value.ref 143, Value.ref 145, Value.ref 147, Value.ref 149, Value.ref 151, Value.ref 153, Value.ref 154, Value.ref 155, Value.ref 156, Value.ref 157, Value.int (-16384), Value.int 16384, Value.int 0, Value.int 0, Value.int 0, Value.ref 158, Value.ref 159, Value.int 0, Value.int 0, Value.int 0, Value.int 0, Value.int 0, Value.int 0, Value.int 0, Value.int 0]))) ++ [Sum.inr (14, [])]).set 128 (Sum.inr (12, [Value.ref 129, Value.ref 131, Value.ref 133, Value.ref 135, Value.ref 137, Value.ref 139, Value.ref 141, Value.ref 143, Value.ref 145, Value.ref 147, Value.ref 149, Value.ref 151, Value.ref 153, Value.ref 154, Value.ref 155, Value.ref 156, Value.ref 157, Value.int (-16384), Value.int 16384, Value.int 0, Value.int 0, Value.int 0, Value.ref 158, Value.ref 159, Value.int 0, Value.int 0, Value.int 0, Value.int 0, Value.int 0, Value.int 0, Value.int 0, Value.int 1]))) = 77002 := xz_set z3 (xga (xgs (xga W0_128))) xcs_o
  refine ⟨(((((W0 6 xs) ++ [Sum.inr (14, [])]).set 128 (Sum.inr (12, [Value.ref 129, Value.ref 131, Value.ref 133, Value.ref 135, Value.ref 137, Value.ref 139, Value.ref 141, Value.ref 143, Value.ref 145, Value.ref 147, Value.ref 149, Value.ref 151, Value.ref 153, Value.ref 154, Value.ref 155, Value.ref 156, Value.ref 157, Value.int (-16384), Value.int 16384, Value.int 0, Value.int 0, Value.int 0, Value.ref 158, Value.ref 159, Value.int 0, Value.int 0, Value.int 0, Value.int 0, Value.int 0, Value.int 0, Value.int 0, Value.int 0]))) ++ [Sum.inr (14, [])]).set 128 (Sum.inr (12, [Value.ref 129, Value.ref 131, Value.ref 133, Value.ref 135, Value.ref 137, Value.ref 139, Value.ref 141, Value.ref 143, Value.ref 145, Value.ref 147, Value.ref 149, Value.ref 151, Value.ref 153, Value.ref 154, Value.ref 155, Value.ref 156, Value.ref 157, Value.int (-16384), Value.int 16384, Value.int 0, Value.int 0, Value.int 0, Value.ref 158, Value.ref 159, Value.int 0, Value.int 0, Value.int 0, Value.int 0, Value.int 0, Value.int 0, Value.int 0, Value.int 1]))), ?_, Nat.le_trans (Nat.le_of_eq (xls (xla (xls (xla (W0_len)))))) (by decide), by rw [z4]; decide⟩
  refine i_287_23 (x := 0) rfl ?_
  refine i_287_25 (x := 0) rfl ?_
  refine i_287_26 (c := 6) W0_0 (by decide) ?_
  refine i_287_27 ?_
  refine i_287_29 (c := 0) (by decide) ?_
  refine i_287_30 (fun h => absurd h (by decide)) (fun _ => ?_)
  refine i_287_33 (x := 0) rfl ?_
  refine i_287_34 (x := 0) rfl ?_
  refine i_287_36 (v := Value.int (xs 0)) W0_0 (by decide) (by decide) rfl ?_
  refine i_287_37 ?_
  refine i_287_39 (c := ((xs 0) &&& (31 : Int32))) rfl ?_
  refine i_287_40_1 (by omega) ?_
  refine i_287_220 (x := 7) rfl ?_
  refine i_287_221 (x := 0) rfl ?_
  refine i_287_222 (x := 0) rfl ?_
  refine i_287_224 ?_
  refine i_287_225 (c := 1) (by decide) ?_
  refine i_287_226 (v := Value.int (xs 1)) W0_0 (by decide) (by decide) rfl ?_
  refine i_287_227 (x := 0) rfl ?_
  refine i_287_228 (x := 0) rfl ?_
  refine i_287_230 ?_
  refine i_287_231 (c := 2) (by decide) ?_
  refine i_287_232 (v := Value.int (xs 2)) W0_0 (by decide) (by decide) rfl ?_
  refine i_287_233 (x := 0) rfl ?_
  refine i_287_234 (x := 0) rfl ?_
  refine i_287_236 ?_
  refine i_287_237 (c := 3) (by decide) ?_
  refine i_287_238 (v := Value.int (xs 3)) W0_0 (by decide) (by decide) rfl ?_
  refine i_287_239 (fun _ => ?_) (fun h => absurd (show (xs 3).toInt = 0 by omega) h)
  refine i_287_246 ?_
  refine i_287_247 (x := 194) rfl ?_
  refine i_287_248 (Nat.le_of_ble_eq_true rfl) (p_18_1 W0_7 (by omega) (by omega)) ?_
  refine i_287_251 (lv2 := [(5, Value.int 1), (4, Value.int 0), (3, Value.ref 194), (2, Value.ref 128), (1, Value.ref 7), (0, Value.ref 0)]) rfl ?_
  refine i_287_253 (x := 128) rfl ?_
  refine i_287_254 (x := 0) rfl ?_
  refine i_287_255 (x := 0) rfl ?_
  refine i_287_257 ?_
  refine i_287_258 (c := 1) (by decide) ?_
  refine i_287_259 (v := Value.int (xs 1)) (xga W0_0) (by decide) (by decide) rfl ?_
  refine i_287_260 (x := 0) rfl ?_
  refine i_287_261 (x := 0) rfl ?_
  refine i_287_263 ?_
  refine i_287_264 (c := 2) (by decide) ?_
  refine i_287_265 (v := Value.int (xs 2)) (xga W0_0) (by decide) (by decide) rfl ?_
  refine i_287_266 (x := 0) rfl ?_
  refine i_287_267 (x := 0) rfl ?_
  refine i_287_269 ?_
  refine i_287_270 (c := 3) (by decide) ?_
  refine i_287_271 (v := Value.int (xs 3)) (xga W0_0) (by decide) (by decide) rfl ?_
  refine i_287_272 (fun _ => ?_) (fun h => absurd (show (xs 3).toInt = 0 by omega) h)
  refine i_287_279 ?_
  refine i_287_280 (xga W0_128) (Nat.le_of_ble_eq_true rfl) (p_172_2 (xga W0_128) (by omega) (by omega) (by omega) (by omega)) ?_
  refine i_287_283 (lv2 := [(6, Value.int 0), (5, Value.int 1), (4, Value.int 0), (3, Value.ref 194), (2, Value.ref 128), (1, Value.ref 7), (0, Value.ref 0)]) rfl ?_
  refine i_287_285 (x := 128) rfl ?_
  refine i_287_286 (xgs (xga (xgs (xga W0_128)))) (Nat.le_of_ble_eq_true rfl) (p_165_0 (xgs (xga (xgs (xga W0_128))))) ?_
  refine i_287_289 (x := 1) rfl ?_
  refine i_287_291 (fun _ => ?_) (fun h => absurd h (by decide))
  refine i_287_296 (x := 1) rfl ?_
  refine i_287_298 (fun _ => ?_) (fun h => absurd h (by decide))
  refine i_287_313 ?_
  refine i_287_2154 (x := 0) (c := 6) (lv2 := [(4, Value.int 6), (6, Value.int 0), (5, Value.int 1), (3, Value.ref 194), (2, Value.ref 128), (1, Value.ref 7), (0, Value.ref 0)]) rfl (by decide) rfl ?_
  refine i_287_2157 ?_
  refine i_287_23 (x := 6) rfl ?_
  refine i_287_25 (x := 0) rfl ?_
  refine i_287_26 (c := 6) (xgn (by decide) (xga (xgn (by decide) (xga W0_0)))) (by decide) ?_
  refine i_287_27 ?_
  refine i_287_29 (c := 0) (by decide) ?_
  refine i_287_30 (fun _ => ?_) (fun h => absurd h (by decide))
  refine i_287_2160 ?_
  exact i_287_2161 rfl ⟨rfl, rfl⟩
theorem p_19_2 {d : Nat} {w : xW} {a0 : Int32} {a1 : Int32} (e0 : (-16384) ≤ a0.toInt) (e1 : a1.toInt ≤ 16384) (e2 : a1.toInt < a0.toInt) : xRun (d + 6) 19 [Value.ref 7, Value.int a0, Value.int a1, Value.int 0] w (.inr w.length) (w ++ [Sum.inr (14, [])]) := by
  refine xRun.of ?_
  refine i_19_0 (x := a0) rfl ?_
  refine i_19_1 ?_
  refine i_19_4 (fun h => absurd e0 (Int.not_le.mpr h)) (fun _ => ?_)
  refine i_19_7 (x := a1) rfl ?_
  refine i_19_8 ?_
  refine i_19_11 (fun h => absurd e1 (Int.not_le.mpr h)) (fun _ => ?_)
  refine i_19_14 (x := a0) rfl ?_
  refine i_19_15 (x := a1) rfl ?_
  refine i_19_16 (fun h => absurd e2 (Int.not_lt.mpr h)) (fun _ => ?_)
  exact i_19_19 (by omega) (Nat.le_of_ble_eq_true rfl) ⟨rfl, rfl⟩
theorem p_18_2 {d : Nat} {w : xW} {a0 : Int32} {a1 : Int32} (hw0 : w[7]? = some (Sum.inr (0, [Value.ref 8, Value.ref 78, Value.ref 9, Value.ref 10, Value.ref 13, Value.ref 16, Value.ref 19, Value.ref 93, Value.ref 108, Value.ref 113, Value.ref 29, Value.int 0]))) (e1 : (-16384) ≤ a0.toInt) (e2 : a1.toInt ≤ 16384) (e3 : a1.toInt < a0.toInt) : xRun (d + 7) 18 [Value.ref 7, Value.int a0, Value.int a1, Value.int 0, Value.ref 194] w (.inl (some (Value.int 1))) (w ++ [Sum.inr (14, [])]) := by
  refine xRun.of ?_
  refine i_18_0 (x := 194) rfl ?_
  refine i_18_2 ?_
  refine i_18_3 (x := 7) rfl ?_
  refine i_18_4 (x := a0) rfl ?_
  refine i_18_5 (x := a1) rfl ?_
  refine i_18_6 (x := 0) rfl ?_
  refine j_18_7 hw0 (Nat.le_of_ble_eq_true rfl) (p_19_2 e1 e2 e3) (xDone.c xgl rfl rfl ?_)
  refine i_18_15 (lv2 := [(5, Value.ref w.length), (0, Value.ref 7), (1, Value.int a0), (2, Value.int a1), (3, Value.int 0), (4, Value.ref 194)]) rfl ?_
  refine i_18_17 ?_
  exact i_18_18 ⟨rfl, rfl⟩
theorem o_1_3 {d : Nat} {xs : Nat → Int32} (h0 : ((xs 0) &&& (31 : Int32)).toInt = 1) (c0 : (xs 3).toInt = 0) (c1 : (-16384) ≤ (xs 1).toInt) (c2 : (xs 2).toInt ≤ 16384) (c3 : (xs 2).toInt < (xs 1).toInt) (c4 : 16384 < (xs 1).toInt) : ∃ w1, xEv (d + 20) 287 23 [(4, Value.int 0), (3, Value.ref 194), (2, Value.ref 128), (1, Value.ref 7), (0, Value.ref 0)] [] (W0 6 xs) (fun o' w' => o' = .inl (some (Value.int 1)) ∧ w' = w1) ∧ w1.length ≤ 220 ∧ xsz w1 ≤ 200000 := by
  have z0 : xsz (W0 6 xs) = 76990 := W0_sz
  have z1 : xsz ((W0 6 xs) ++ [Sum.inr (14, [])]) = 76996 := xz_app (m := 6) z0 rfl
  have z2 : xsz (((W0 6 xs) ++ [Sum.inr (14, [])]).set 128 (Sum.inr (12, [Value.ref 129, Value.ref 131, Value.ref 133, Value.ref 135, Value.ref 137, Value.ref 139, Value.ref 141, Value.ref 143, Value.ref 145, Value.ref 147, Value.ref 149, Value.ref 151, Value.ref 153, Value.ref 154, Value.ref 155, Value.ref 156, Value.ref 157, Value.int (-16384), Value.int 16384, Value.int 0, Value.int 0, Value.int 0, Value.ref 158, Value.ref 159, Value.int 0, Value.int 0, Value.int 0, Value.int 0, Value.int 0, Value.int 0, Value.int 0, Value.int 0]))) = 76996 := xz_set z1 (xga W0_128) xcs_o
  have z3 : xsz ((((W0 6 xs) ++ [Sum.inr (14, [])]).set 128 (Sum.inr (12, [Value.ref 129, Value.ref 131, Value.ref 133, Value.ref 135, Value.ref 137, Value.ref 139, Value.ref 141, Value.ref 143, Value.ref 145, Value.ref 147, Value.ref 149, Value.ref 151, Value.ref 153, Value.ref 154, Value.ref 155, Value.ref 156, Value.ref 157, Value.int (-16384), Value.int 16384, Value.int 0, Value.int 0, Value.int 0, Value.ref 158, Value.ref 159, Value.int 0, Value.int 0, Value.int 0, Value.int 0, Value.int 0, Value.int 0, Value.int 0, Value.int 0]))) ++ [Sum.inr (14, [])]) = 77002 := xz_app (m := 6) z2 rfl
  have z4 : xsz (((((W0 6 xs) ++ [Sum.inr (14, [])]).set 128 (Sum.inr (12, [Value.ref 129, Value.ref 131, Value.ref 133, Value.ref 135, Value.ref 137, Value.ref 139, Value.ref 141, Value.ref 143, Value.ref 145, Value.ref 147, Value.ref 149, Value.ref 151, Value.ref 153, Value.ref 154, Value.ref 155, Value.ref 156, Value.ref 157, Value.int (-16384), Value.int 16384, Value.int 0, Value.int 0, Value.int 0, Value.ref 158, Value.ref 159, Value.int 0, Value.int 0, Value.int 0, Value.int 0, Value.int 0, Value.int 0, Value.int 0, Value.int 0]))) ++ [Sum.inr (14, [])]).set 128 (Sum.inr (12, [Value.ref 129, Value.ref 131, Value.ref 133, Value.ref 135, Value.ref 137, Value.ref 139, Value.ref 141, Value.ref 143, Value.ref 145, Value.ref 147, Value.ref 149, Value.ref 151, Value.ref 153, Value.ref 154, Value.ref 155, Value.ref 156, Value.ref 157, Value.int (-16384), Value.int 16384, Value.int 0, Value.int 0, Value.int 0, Value.ref 158, Value.ref 159, Value.int 0, Value.int 0, Value.int 0, Value.int 0, Value.int 0, Value.int 0, Value.int 0, Value.int 1]))) = 77002 := xz_set z3 (xga (xgs (xga W0_128))) xcs_o
  refine ⟨(((((W0 6 xs) ++ [Sum.inr (14, [])]).set 128 (Sum.inr (12, [Value.ref 129, Value.ref 131, Value.ref 133, Value.ref 135, Value.ref 137, Value.ref 139, Value.ref 141, Value.ref 143, Value.ref 145, Value.ref 147, Value.ref 149, Value.ref 151, Value.ref 153, Value.ref 154, Value.ref 155, Value.ref 156, Value.ref 157, Value.int (-16384), Value.int 16384, Value.int 0, Value.int 0, Value.int 0, Value.ref 158, Value.ref 159, Value.int 0, Value.int 0, Value.int 0, Value.int 0, Value.int 0, Value.int 0, Value.int 0, Value.int 0]))) ++ [Sum.inr (14, [])]).set 128 (Sum.inr (12, [Value.ref 129, Value.ref 131, Value.ref 133, Value.ref 135, Value.ref 137, Value.ref 139, Value.ref 141, Value.ref 143, Value.ref 145, Value.ref 147, Value.ref 149, Value.ref 151, Value.ref 153, Value.ref 154, Value.ref 155, Value.ref 156, Value.ref 157, Value.int (-16384), Value.int 16384, Value.int 0, Value.int 0, Value.int 0, Value.ref 158, Value.ref 159, Value.int 0, Value.int 0, Value.int 0, Value.int 0, Value.int 0, Value.int 0, Value.int 0, Value.int 1]))), ?_, Nat.le_trans (Nat.le_of_eq (xls (xla (xls (xla (W0_len)))))) (by decide), by rw [z4]; decide⟩
  refine i_287_23 (x := 0) rfl ?_
  refine i_287_25 (x := 0) rfl ?_
  refine i_287_26 (c := 6) W0_0 (by decide) ?_
  refine i_287_27 ?_
  refine i_287_29 (c := 0) (by decide) ?_
  refine i_287_30 (fun h => absurd h (by decide)) (fun _ => ?_)
  refine i_287_33 (x := 0) rfl ?_
  refine i_287_34 (x := 0) rfl ?_
  refine i_287_36 (v := Value.int (xs 0)) W0_0 (by decide) (by decide) rfl ?_
  refine i_287_37 ?_
  refine i_287_39 (c := ((xs 0) &&& (31 : Int32))) rfl ?_
  refine i_287_40_1 (by omega) ?_
  refine i_287_220 (x := 7) rfl ?_
  refine i_287_221 (x := 0) rfl ?_
  refine i_287_222 (x := 0) rfl ?_
  refine i_287_224 ?_
  refine i_287_225 (c := 1) (by decide) ?_
  refine i_287_226 (v := Value.int (xs 1)) W0_0 (by decide) (by decide) rfl ?_
  refine i_287_227 (x := 0) rfl ?_
  refine i_287_228 (x := 0) rfl ?_
  refine i_287_230 ?_
  refine i_287_231 (c := 2) (by decide) ?_
  refine i_287_232 (v := Value.int (xs 2)) W0_0 (by decide) (by decide) rfl ?_
  refine i_287_233 (x := 0) rfl ?_
  refine i_287_234 (x := 0) rfl ?_
  refine i_287_236 ?_
  refine i_287_237 (c := 3) (by decide) ?_
  refine i_287_238 (v := Value.int (xs 3)) W0_0 (by decide) (by decide) rfl ?_
  refine i_287_239 (fun _ => ?_) (fun h => absurd (show (xs 3).toInt = 0 by omega) h)
  refine i_287_246 ?_
  refine i_287_247 (x := 194) rfl ?_
  refine i_287_248 (Nat.le_of_ble_eq_true rfl) (p_18_2 W0_7 (by omega) (by omega) (by omega)) ?_
  refine i_287_251 (lv2 := [(5, Value.int 1), (4, Value.int 0), (3, Value.ref 194), (2, Value.ref 128), (1, Value.ref 7), (0, Value.ref 0)]) rfl ?_
  refine i_287_253 (x := 128) rfl ?_
  refine i_287_254 (x := 0) rfl ?_
  refine i_287_255 (x := 0) rfl ?_
  refine i_287_257 ?_
  refine i_287_258 (c := 1) (by decide) ?_
  refine i_287_259 (v := Value.int (xs 1)) (xga W0_0) (by decide) (by decide) rfl ?_
  refine i_287_260 (x := 0) rfl ?_
  refine i_287_261 (x := 0) rfl ?_
  refine i_287_263 ?_
  refine i_287_264 (c := 2) (by decide) ?_
  refine i_287_265 (v := Value.int (xs 2)) (xga W0_0) (by decide) (by decide) rfl ?_
  refine i_287_266 (x := 0) rfl ?_
  refine i_287_267 (x := 0) rfl ?_
  refine i_287_269 ?_
  refine i_287_270 (c := 3) (by decide) ?_
  refine i_287_271 (v := Value.int (xs 3)) (xga W0_0) (by decide) (by decide) rfl ?_
  refine i_287_272 (fun _ => ?_) (fun h => absurd (show (xs 3).toInt = 0 by omega) h)
  refine i_287_279 ?_
  refine i_287_280 (xga W0_128) (Nat.le_of_ble_eq_true rfl) (p_172_1 (xga W0_128) (by omega) (by omega)) ?_
  refine i_287_283 (lv2 := [(6, Value.int 0), (5, Value.int 1), (4, Value.int 0), (3, Value.ref 194), (2, Value.ref 128), (1, Value.ref 7), (0, Value.ref 0)]) rfl ?_
  refine i_287_285 (x := 128) rfl ?_
  refine i_287_286 (xgs (xga (xgs (xga W0_128)))) (Nat.le_of_ble_eq_true rfl) (p_165_0 (xgs (xga (xgs (xga W0_128))))) ?_
  refine i_287_289 (x := 1) rfl ?_
  refine i_287_291 (fun _ => ?_) (fun h => absurd h (by decide))
  refine i_287_296 (x := 1) rfl ?_
  refine i_287_298 (fun _ => ?_) (fun h => absurd h (by decide))
  refine i_287_313 ?_
  refine i_287_2154 (x := 0) (c := 6) (lv2 := [(4, Value.int 6), (6, Value.int 0), (5, Value.int 1), (3, Value.ref 194), (2, Value.ref 128), (1, Value.ref 7), (0, Value.ref 0)]) rfl (by decide) rfl ?_
  refine i_287_2157 ?_
  refine i_287_23 (x := 6) rfl ?_
  refine i_287_25 (x := 0) rfl ?_
  refine i_287_26 (c := 6) (xgn (by decide) (xga (xgn (by decide) (xga W0_0)))) (by decide) ?_
  refine i_287_27 ?_
  refine i_287_29 (c := 0) (by decide) ?_
  refine i_287_30 (fun _ => ?_) (fun h => absurd h (by decide))
  refine i_287_2160 ?_
  exact i_287_2161 rfl ⟨rfl, rfl⟩
theorem p_169_10 {d : Nat} {w : xW} {a0 : Int32} {a1 : Int32} (e0 : a0.toInt < a1.toInt) : xRun d 169 [Value.int a0, Value.int a1, Value.int 16384] w (.inl (some (Value.int 0))) w := by
  refine xRun.of ?_
  refine i_169_0 (x := a0) rfl ?_
  refine i_169_1 (x := a1) rfl ?_
  refine i_169_2 (fun _ => ?_) (fun h => absurd e0 (Int.not_lt.mpr h))
  refine i_169_14 ?_
  exact i_169_15 rfl ⟨rfl, rfl⟩
theorem p_173_3 {d : Nat} {w : xW} {a0 : Int32} {a1 : Int32} (e0 : (-16384) ≤ a0.toInt) (e1 : a0.toInt ≤ 16384) (e2 : a1.toInt < a0.toInt) : xRun (d + 7) 173 [Value.ref 128, Value.int a0, Value.int a1, Value.int 0] w (.inr w.length) (w ++ [Sum.inr (14, [])]) := by
  refine xRun.of ?_
  refine i_173_0 (x := a0) rfl ?_
  refine i_173_1 ?_
  refine i_173_4 ?_
  refine i_173_7 (Nat.le_of_ble_eq_true rfl) (p_169_8 e0 e1) ?_
  refine i_173_10 (fun h => absurd h (by decide)) (fun _ => ?_)
  refine i_173_13 (x := a1) rfl ?_
  refine i_173_14 (x := a0) rfl ?_
  refine i_173_15 ?_
  refine i_173_18 (Nat.le_of_ble_eq_true rfl) (p_169_10 e2) ?_
  refine i_173_21 (fun _ => ?_) (fun h => absurd h (by decide))
  refine i_173_28 ?_
  exact j_173_29 (Nat.le_of_ble_eq_true rfl) (p_170_0) (xDone.t xgl rfl rfl ⟨rfl, rfl⟩)
theorem p_172_3 {d : Nat} {w : xW} {a0 : Int32} {a1 : Int32} (hw0 : w[128]? = some (Sum.inr (12, [Value.ref 129, Value.ref 131, Value.ref 133, Value.ref 135, Value.ref 137, Value.ref 139, Value.ref 141, Value.ref 143, Value.ref 145, Value.ref 147, Value.ref 149, Value.ref 151, Value.ref 153, Value.ref 154, Value.ref 155, Value.ref 156, Value.ref 157, Value.int (-16384), Value.int 16384, Value.int 0, Value.int 0, Value.int 0, Value.ref 158, Value.ref 159, Value.int 0, Value.int 0, Value.int 0, Value.int 0, Value.int 0, Value.int 0, Value.int 0, Value.int 0]))) (e1 : (-16384) ≤ a0.toInt) (e2 : a0.toInt ≤ 16384) (e3 : a1.toInt < a0.toInt) : xRun (d + 8) 172 [Value.ref 128, Value.int a0, Value.int a1, Value.int 0] w (.inl (some (Value.int 0))) (((w.set 128 (Sum.inr (12, [Value.ref 129, Value.ref 131, Value.ref 133, Value.ref 135, Value.ref 137, Value.ref 139, Value.ref 141, Value.ref 143, Value.ref 145, Value.ref 147, Value.ref 149, Value.ref 151, Value.ref 153, Value.ref 154, Value.ref 155, Value.ref 156, Value.ref 157, Value.int (-16384), Value.int 16384, Value.int 0, Value.int 0, Value.int 0, Value.ref 158, Value.ref 159, Value.int 0, Value.int 0, Value.int 0, Value.int 0, Value.int 0, Value.int 0, Value.int 0, Value.int 0]))) ++ [Sum.inr (14, [])]).set 128 (Sum.inr (12, [Value.ref 129, Value.ref 131, Value.ref 133, Value.ref 135, Value.ref 137, Value.ref 139, Value.ref 141, Value.ref 143, Value.ref 145, Value.ref 147, Value.ref 149, Value.ref 151, Value.ref 153, Value.ref 154, Value.ref 155, Value.ref 156, Value.ref 157, Value.int (-16384), Value.int 16384, Value.int 0, Value.int 0, Value.int 0, Value.ref 158, Value.ref 159, Value.int 0, Value.int 0, Value.int 0, Value.int 0, Value.int 0, Value.int 0, Value.int 0, Value.int 1]))) := by
  refine xRun.of ?_
  refine i_172_0 (x := 128) rfl ?_
  refine i_172_1 ?_
  refine i_172_2 (fs2 := [Value.ref 129, Value.ref 131, Value.ref 133, Value.ref 135, Value.ref 137, Value.ref 139, Value.ref 141, Value.ref 143, Value.ref 145, Value.ref 147, Value.ref 149, Value.ref 151, Value.ref 153, Value.ref 154, Value.ref 155, Value.ref 156, Value.ref 157, Value.int (-16384), Value.int 16384, Value.int 0, Value.int 0, Value.int 0, Value.ref 158, Value.ref 159, Value.int 0, Value.int 0, Value.int 0, Value.int 0, Value.int 0, Value.int 0, Value.int 0, Value.int 0]) hw0 (Nat.le_of_ble_eq_true rfl) rfl (by decide) ?_
  refine i_172_5 (x := 128) rfl ?_
  refine i_172_6 (x := a0) rfl ?_
  refine i_172_7 (x := a1) rfl ?_
  refine i_172_8 (x := 0) rfl ?_
  refine j_172_9 (xgs hw0) (Nat.le_of_ble_eq_true rfl) (p_173_3 e1 e2 e3) (xDone.c xgl rfl rfl ?_)
  refine i_172_13 (lv2 := [(4, Value.ref ((w.set 128 (Sum.inr (12, [Value.ref 129, Value.ref 131, Value.ref 133, Value.ref 135, Value.ref 137, Value.ref 139, Value.ref 141, Value.ref 143, Value.ref 145, Value.ref 147, Value.ref 149, Value.ref 151, Value.ref 153, Value.ref 154, Value.ref 155, Value.ref 156, Value.ref 157, Value.int (-16384), Value.int 16384, Value.int 0, Value.int 0, Value.int 0, Value.ref 158, Value.ref 159, Value.int 0, Value.int 0, Value.int 0, Value.int 0, Value.int 0, Value.int 0, Value.int 0, Value.int 0]))).length)), (0, Value.ref 128), (1, Value.int a0), (2, Value.int a1), (3, Value.int 0)]) rfl ?_
  refine i_172_15 (x := 128) rfl ?_
  refine i_172_16 ?_
  refine i_172_17 (fs2 := [Value.ref 129, Value.ref 131, Value.ref 133, Value.ref 135, Value.ref 137, Value.ref 139, Value.ref 141, Value.ref 143, Value.ref 145, Value.ref 147, Value.ref 149, Value.ref 151, Value.ref 153, Value.ref 154, Value.ref 155, Value.ref 156, Value.ref 157, Value.int (-16384), Value.int 16384, Value.int 0, Value.int 0, Value.int 0, Value.ref 158, Value.ref 159, Value.int 0, Value.int 0, Value.int 0, Value.int 0, Value.int 0, Value.int 0, Value.int 0, Value.int 1]) (xga (xgs hw0)) (Nat.le_of_ble_eq_true rfl) rfl (by decide) ?_
  refine i_172_20 ?_
  exact i_172_21 ⟨rfl, rfl⟩
theorem o_1_4 {d : Nat} {xs : Nat → Int32} (h0 : ((xs 0) &&& (31 : Int32)).toInt = 1) (c0 : (xs 3).toInt = 0) (c1 : (-16384) ≤ (xs 1).toInt) (c2 : (xs 2).toInt ≤ 16384) (c3 : (xs 2).toInt < (xs 1).toInt) (c4 : (xs 1).toInt ≤ 16384) : ∃ w1, xEv (d + 20) 287 23 [(4, Value.int 0), (3, Value.ref 194), (2, Value.ref 128), (1, Value.ref 7), (0, Value.ref 0)] [] (W0 6 xs) (fun o' w' => o' = .inl (some (Value.int 1)) ∧ w' = w1) ∧ w1.length ≤ 220 ∧ xsz w1 ≤ 200000 := by
  have z0 : xsz (W0 6 xs) = 76990 := W0_sz
  have z1 : xsz ((W0 6 xs) ++ [Sum.inr (14, [])]) = 76996 := xz_app (m := 6) z0 rfl
  have z2 : xsz (((W0 6 xs) ++ [Sum.inr (14, [])]).set 128 (Sum.inr (12, [Value.ref 129, Value.ref 131, Value.ref 133, Value.ref 135, Value.ref 137, Value.ref 139, Value.ref 141, Value.ref 143, Value.ref 145, Value.ref 147, Value.ref 149, Value.ref 151, Value.ref 153, Value.ref 154, Value.ref 155, Value.ref 156, Value.ref 157, Value.int (-16384), Value.int 16384, Value.int 0, Value.int 0, Value.int 0, Value.ref 158, Value.ref 159, Value.int 0, Value.int 0, Value.int 0, Value.int 0, Value.int 0, Value.int 0, Value.int 0, Value.int 0]))) = 76996 := xz_set z1 (xga W0_128) xcs_o
  have z3 : xsz ((((W0 6 xs) ++ [Sum.inr (14, [])]).set 128 (Sum.inr (12, [Value.ref 129, Value.ref 131, Value.ref 133, Value.ref 135, Value.ref 137, Value.ref 139, Value.ref 141, Value.ref 143, Value.ref 145, Value.ref 147, Value.ref 149, Value.ref 151, Value.ref 153, Value.ref 154, Value.ref 155, Value.ref 156, Value.ref 157, Value.int (-16384), Value.int 16384, Value.int 0, Value.int 0, Value.int 0, Value.ref 158, Value.ref 159, Value.int 0, Value.int 0, Value.int 0, Value.int 0, Value.int 0, Value.int 0, Value.int 0, Value.int 0]))) ++ [Sum.inr (14, [])]) = 77002 := xz_app (m := 6) z2 rfl
  have z4 : xsz (((((W0 6 xs) ++ [Sum.inr (14, [])]).set 128 (Sum.inr (12, [Value.ref 129, Value.ref 131, Value.ref 133, Value.ref 135, Value.ref 137, Value.ref 139, Value.ref 141, Value.ref 143, Value.ref 145, Value.ref 147, Value.ref 149, Value.ref 151, Value.ref 153, Value.ref 154, Value.ref 155, Value.ref 156, Value.ref 157, Value.int (-16384), Value.int 16384, Value.int 0, Value.int 0, Value.int 0, Value.ref 158, Value.ref 159, Value.int 0, Value.int 0, Value.int 0, Value.int 0, Value.int 0, Value.int 0, Value.int 0, Value.int 0]))) ++ [Sum.inr (14, [])]).set 128 (Sum.inr (12, [Value.ref 129, Value.ref 131, Value.ref 133, Value.ref 135, Value.ref 137, Value.ref 139, Value.ref 141, Value.ref 143, Value.ref 145, Value.ref 147, Value.ref 149, Value.ref 151, Value.ref 153, Value.ref 154, Value.ref 155, Value.ref 156, Value.ref 157, Value.int (-16384), Value.int 16384, Value.int 0, Value.int 0, Value.int 0, Value.ref 158, Value.ref 159, Value.int 0, Value.int 0, Value.int 0, Value.int 0, Value.int 0, Value.int 0, Value.int 0, Value.int 1]))) = 77002 := xz_set z3 (xga (xgs (xga W0_128))) xcs_o
  refine ⟨(((((W0 6 xs) ++ [Sum.inr (14, [])]).set 128 (Sum.inr (12, [Value.ref 129, Value.ref 131, Value.ref 133, Value.ref 135, Value.ref 137, Value.ref 139, Value.ref 141, Value.ref 143, Value.ref 145, Value.ref 147, Value.ref 149, Value.ref 151, Value.ref 153, Value.ref 154, Value.ref 155, Value.ref 156, Value.ref 157, Value.int (-16384), Value.int 16384, Value.int 0, Value.int 0, Value.int 0, Value.ref 158, Value.ref 159, Value.int 0, Value.int 0, Value.int 0, Value.int 0, Value.int 0, Value.int 0, Value.int 0, Value.int 0]))) ++ [Sum.inr (14, [])]).set 128 (Sum.inr (12, [Value.ref 129, Value.ref 131, Value.ref 133, Value.ref 135, Value.ref 137, Value.ref 139, Value.ref 141, Value.ref 143, Value.ref 145, Value.ref 147, Value.ref 149, Value.ref 151, Value.ref 153, Value.ref 154, Value.ref 155, Value.ref 156, Value.ref 157, Value.int (-16384), Value.int 16384, Value.int 0, Value.int 0, Value.int 0, Value.ref 158, Value.ref 159, Value.int 0, Value.int 0, Value.int 0, Value.int 0, Value.int 0, Value.int 0, Value.int 0, Value.int 1]))), ?_, Nat.le_trans (Nat.le_of_eq (xls (xla (xls (xla (W0_len)))))) (by decide), by rw [z4]; decide⟩
  refine i_287_23 (x := 0) rfl ?_
  refine i_287_25 (x := 0) rfl ?_
  refine i_287_26 (c := 6) W0_0 (by decide) ?_
  refine i_287_27 ?_
  refine i_287_29 (c := 0) (by decide) ?_
  refine i_287_30 (fun h => absurd h (by decide)) (fun _ => ?_)
  refine i_287_33 (x := 0) rfl ?_
  refine i_287_34 (x := 0) rfl ?_
  refine i_287_36 (v := Value.int (xs 0)) W0_0 (by decide) (by decide) rfl ?_
  refine i_287_37 ?_
  refine i_287_39 (c := ((xs 0) &&& (31 : Int32))) rfl ?_
  refine i_287_40_1 (by omega) ?_
  refine i_287_220 (x := 7) rfl ?_
  refine i_287_221 (x := 0) rfl ?_
  refine i_287_222 (x := 0) rfl ?_
  refine i_287_224 ?_
  refine i_287_225 (c := 1) (by decide) ?_
  refine i_287_226 (v := Value.int (xs 1)) W0_0 (by decide) (by decide) rfl ?_
  refine i_287_227 (x := 0) rfl ?_
  refine i_287_228 (x := 0) rfl ?_
  refine i_287_230 ?_
  refine i_287_231 (c := 2) (by decide) ?_
  refine i_287_232 (v := Value.int (xs 2)) W0_0 (by decide) (by decide) rfl ?_
  refine i_287_233 (x := 0) rfl ?_
  refine i_287_234 (x := 0) rfl ?_
  refine i_287_236 ?_
  refine i_287_237 (c := 3) (by decide) ?_
  refine i_287_238 (v := Value.int (xs 3)) W0_0 (by decide) (by decide) rfl ?_
  refine i_287_239 (fun _ => ?_) (fun h => absurd (show (xs 3).toInt = 0 by omega) h)
  refine i_287_246 ?_
  refine i_287_247 (x := 194) rfl ?_
  refine i_287_248 (Nat.le_of_ble_eq_true rfl) (p_18_2 W0_7 (by omega) (by omega) (by omega)) ?_
  refine i_287_251 (lv2 := [(5, Value.int 1), (4, Value.int 0), (3, Value.ref 194), (2, Value.ref 128), (1, Value.ref 7), (0, Value.ref 0)]) rfl ?_
  refine i_287_253 (x := 128) rfl ?_
  refine i_287_254 (x := 0) rfl ?_
  refine i_287_255 (x := 0) rfl ?_
  refine i_287_257 ?_
  refine i_287_258 (c := 1) (by decide) ?_
  refine i_287_259 (v := Value.int (xs 1)) (xga W0_0) (by decide) (by decide) rfl ?_
  refine i_287_260 (x := 0) rfl ?_
  refine i_287_261 (x := 0) rfl ?_
  refine i_287_263 ?_
  refine i_287_264 (c := 2) (by decide) ?_
  refine i_287_265 (v := Value.int (xs 2)) (xga W0_0) (by decide) (by decide) rfl ?_
  refine i_287_266 (x := 0) rfl ?_
  refine i_287_267 (x := 0) rfl ?_
  refine i_287_269 ?_
  refine i_287_270 (c := 3) (by decide) ?_
  refine i_287_271 (v := Value.int (xs 3)) (xga W0_0) (by decide) (by decide) rfl ?_
  refine i_287_272 (fun _ => ?_) (fun h => absurd (show (xs 3).toInt = 0 by omega) h)
  refine i_287_279 ?_
  refine i_287_280 (xga W0_128) (Nat.le_of_ble_eq_true rfl) (p_172_3 (xga W0_128) (by omega) (by omega) (by omega)) ?_
  refine i_287_283 (lv2 := [(6, Value.int 0), (5, Value.int 1), (4, Value.int 0), (3, Value.ref 194), (2, Value.ref 128), (1, Value.ref 7), (0, Value.ref 0)]) rfl ?_
  refine i_287_285 (x := 128) rfl ?_
  refine i_287_286 (xgs (xga (xgs (xga W0_128)))) (Nat.le_of_ble_eq_true rfl) (p_165_0 (xgs (xga (xgs (xga W0_128))))) ?_
  refine i_287_289 (x := 1) rfl ?_
  refine i_287_291 (fun _ => ?_) (fun h => absurd h (by decide))
  refine i_287_296 (x := 1) rfl ?_
  refine i_287_298 (fun _ => ?_) (fun h => absurd h (by decide))
  refine i_287_313 ?_
  refine i_287_2154 (x := 0) (c := 6) (lv2 := [(4, Value.int 6), (6, Value.int 0), (5, Value.int 1), (3, Value.ref 194), (2, Value.ref 128), (1, Value.ref 7), (0, Value.ref 0)]) rfl (by decide) rfl ?_
  refine i_287_2157 ?_
  refine i_287_23 (x := 6) rfl ?_
  refine i_287_25 (x := 0) rfl ?_
  refine i_287_26 (c := 6) (xgn (by decide) (xga (xgn (by decide) (xga W0_0)))) (by decide) ?_
  refine i_287_27 ?_
  refine i_287_29 (c := 0) (by decide) ?_
  refine i_287_30 (fun _ => ?_) (fun h => absurd h (by decide))
  refine i_287_2160 ?_
  exact i_287_2161 rfl ⟨rfl, rfl⟩
theorem o_1_5 {d : Nat} {xs : Nat → Int32} (h0 : ((xs 0) &&& (31 : Int32)).toInt = 1) (c0 : (xs 3).toInt = 0) (c1 : (-16384) ≤ (xs 1).toInt) (c2 : (xs 2).toInt ≤ 16384) (c3 : (xs 1).toInt ≤ (xs 2).toInt) (c4 : 16384 < (xs 1).toInt) : ∃ w1, xEv (d + 20) 287 23 [(4, Value.int 0), (3, Value.ref 194), (2, Value.ref 128), (1, Value.ref 7), (0, Value.ref 0)] [] (W0 6 xs) (fun o' w' => o' = .inl (some (Value.int 1)) ∧ w' = w1) ∧ w1.length ≤ 220 ∧ xsz w1 ≤ 200000 := by
  have z0 : xsz (W0 6 xs) = 76990 := W0_sz
  have z1 : xsz ((W0 6 xs) ++ [Sum.inr (14, [])]) = 76996 := xz_app (m := 6) z0 rfl
  have z2 : xsz (((W0 6 xs) ++ [Sum.inr (14, [])]).set 128 (Sum.inr (12, [Value.ref 129, Value.ref 131, Value.ref 133, Value.ref 135, Value.ref 137, Value.ref 139, Value.ref 141, Value.ref 143, Value.ref 145, Value.ref 147, Value.ref 149, Value.ref 151, Value.ref 153, Value.ref 154, Value.ref 155, Value.ref 156, Value.ref 157, Value.int (-16384), Value.int 16384, Value.int 0, Value.int 0, Value.int 0, Value.ref 158, Value.ref 159, Value.int 0, Value.int 0, Value.int 0, Value.int 0, Value.int 0, Value.int 0, Value.int 0, Value.int 0]))) = 76996 := xz_set z1 (xga W0_128) xcs_o
  have z3 : xsz ((((W0 6 xs) ++ [Sum.inr (14, [])]).set 128 (Sum.inr (12, [Value.ref 129, Value.ref 131, Value.ref 133, Value.ref 135, Value.ref 137, Value.ref 139, Value.ref 141, Value.ref 143, Value.ref 145, Value.ref 147, Value.ref 149, Value.ref 151, Value.ref 153, Value.ref 154, Value.ref 155, Value.ref 156, Value.ref 157, Value.int (-16384), Value.int 16384, Value.int 0, Value.int 0, Value.int 0, Value.ref 158, Value.ref 159, Value.int 0, Value.int 0, Value.int 0, Value.int 0, Value.int 0, Value.int 0, Value.int 0, Value.int 0]))) ++ [Sum.inr (14, [])]) = 77002 := xz_app (m := 6) z2 rfl
  have z4 : xsz (((((W0 6 xs) ++ [Sum.inr (14, [])]).set 128 (Sum.inr (12, [Value.ref 129, Value.ref 131, Value.ref 133, Value.ref 135, Value.ref 137, Value.ref 139, Value.ref 141, Value.ref 143, Value.ref 145, Value.ref 147, Value.ref 149, Value.ref 151, Value.ref 153, Value.ref 154, Value.ref 155, Value.ref 156, Value.ref 157, Value.int (-16384), Value.int 16384, Value.int 0, Value.int 0, Value.int 0, Value.ref 158, Value.ref 159, Value.int 0, Value.int 0, Value.int 0, Value.int 0, Value.int 0, Value.int 0, Value.int 0, Value.int 0]))) ++ [Sum.inr (14, [])]).set 128 (Sum.inr (12, [Value.ref 129, Value.ref 131, Value.ref 133, Value.ref 135, Value.ref 137, Value.ref 139, Value.ref 141, Value.ref 143, Value.ref 145, Value.ref 147, Value.ref 149, Value.ref 151, Value.ref 153, Value.ref 154, Value.ref 155, Value.ref 156, Value.ref 157, Value.int (-16384), Value.int 16384, Value.int 0, Value.int 0, Value.int 0, Value.ref 158, Value.ref 159, Value.int 0, Value.int 0, Value.int 0, Value.int 0, Value.int 0, Value.int 0, Value.int 0, Value.int 1]))) = 77002 := xz_set z3 (xga (xgs (xga W0_128))) xcs_o
  refine ⟨(((((W0 6 xs) ++ [Sum.inr (14, [])]).set 128 (Sum.inr (12, [Value.ref 129, Value.ref 131, Value.ref 133, Value.ref 135, Value.ref 137, Value.ref 139, Value.ref 141, Value.ref 143, Value.ref 145, Value.ref 147, Value.ref 149, Value.ref 151, Value.ref 153, Value.ref 154, Value.ref 155, Value.ref 156, Value.ref 157, Value.int (-16384), Value.int 16384, Value.int 0, Value.int 0, Value.int 0, Value.ref 158, Value.ref 159, Value.int 0, Value.int 0, Value.int 0, Value.int 0, Value.int 0, Value.int 0, Value.int 0, Value.int 0]))) ++ [Sum.inr (14, [])]).set 128 (Sum.inr (12, [Value.ref 129, Value.ref 131, Value.ref 133, Value.ref 135, Value.ref 137, Value.ref 139, Value.ref 141, Value.ref 143, Value.ref 145, Value.ref 147, Value.ref 149, Value.ref 151, Value.ref 153, Value.ref 154, Value.ref 155, Value.ref 156, Value.ref 157, Value.int (-16384), Value.int 16384, Value.int 0, Value.int 0, Value.int 0, Value.ref 158, Value.ref 159, Value.int 0, Value.int 0, Value.int 0, Value.int 0, Value.int 0, Value.int 0, Value.int 0, Value.int 1]))), ?_, Nat.le_trans (Nat.le_of_eq (xls (xla (xls (xla (W0_len)))))) (by decide), by rw [z4]; decide⟩
  refine i_287_23 (x := 0) rfl ?_
  refine i_287_25 (x := 0) rfl ?_
  refine i_287_26 (c := 6) W0_0 (by decide) ?_
  refine i_287_27 ?_
  refine i_287_29 (c := 0) (by decide) ?_
  refine i_287_30 (fun h => absurd h (by decide)) (fun _ => ?_)
  refine i_287_33 (x := 0) rfl ?_
  refine i_287_34 (x := 0) rfl ?_
  refine i_287_36 (v := Value.int (xs 0)) W0_0 (by decide) (by decide) rfl ?_
  refine i_287_37 ?_
  refine i_287_39 (c := ((xs 0) &&& (31 : Int32))) rfl ?_
  refine i_287_40_1 (by omega) ?_
  refine i_287_220 (x := 7) rfl ?_
  refine i_287_221 (x := 0) rfl ?_
  refine i_287_222 (x := 0) rfl ?_
  refine i_287_224 ?_
  refine i_287_225 (c := 1) (by decide) ?_
  refine i_287_226 (v := Value.int (xs 1)) W0_0 (by decide) (by decide) rfl ?_
  refine i_287_227 (x := 0) rfl ?_
  refine i_287_228 (x := 0) rfl ?_
  refine i_287_230 ?_
  refine i_287_231 (c := 2) (by decide) ?_
  refine i_287_232 (v := Value.int (xs 2)) W0_0 (by decide) (by decide) rfl ?_
  refine i_287_233 (x := 0) rfl ?_
  refine i_287_234 (x := 0) rfl ?_
  refine i_287_236 ?_
  refine i_287_237 (c := 3) (by decide) ?_
  refine i_287_238 (v := Value.int (xs 3)) W0_0 (by decide) (by decide) rfl ?_
  refine i_287_239 (fun _ => ?_) (fun h => absurd (show (xs 3).toInt = 0 by omega) h)
  refine i_287_246 ?_
  refine i_287_247 (x := 194) rfl ?_
  refine i_287_248 (Nat.le_of_ble_eq_true rfl) (p_18_2 W0_7 (by omega) (by omega) (by omega)) ?_
  refine i_287_251 (lv2 := [(5, Value.int 1), (4, Value.int 0), (3, Value.ref 194), (2, Value.ref 128), (1, Value.ref 7), (0, Value.ref 0)]) rfl ?_
  refine i_287_253 (x := 128) rfl ?_
  refine i_287_254 (x := 0) rfl ?_
  refine i_287_255 (x := 0) rfl ?_
  refine i_287_257 ?_
  refine i_287_258 (c := 1) (by decide) ?_
  refine i_287_259 (v := Value.int (xs 1)) (xga W0_0) (by decide) (by decide) rfl ?_
  refine i_287_260 (x := 0) rfl ?_
  refine i_287_261 (x := 0) rfl ?_
  refine i_287_263 ?_
  refine i_287_264 (c := 2) (by decide) ?_
  refine i_287_265 (v := Value.int (xs 2)) (xga W0_0) (by decide) (by decide) rfl ?_
  refine i_287_266 (x := 0) rfl ?_
  refine i_287_267 (x := 0) rfl ?_
  refine i_287_269 ?_
  refine i_287_270 (c := 3) (by decide) ?_
  refine i_287_271 (v := Value.int (xs 3)) (xga W0_0) (by decide) (by decide) rfl ?_
  refine i_287_272 (fun _ => ?_) (fun h => absurd (show (xs 3).toInt = 0 by omega) h)
  refine i_287_279 ?_
  refine i_287_280 (xga W0_128) (Nat.le_of_ble_eq_true rfl) (p_172_1 (xga W0_128) (by omega) (by omega)) ?_
  refine i_287_283 (lv2 := [(6, Value.int 0), (5, Value.int 1), (4, Value.int 0), (3, Value.ref 194), (2, Value.ref 128), (1, Value.ref 7), (0, Value.ref 0)]) rfl ?_
  refine i_287_285 (x := 128) rfl ?_
  refine i_287_286 (xgs (xga (xgs (xga W0_128)))) (Nat.le_of_ble_eq_true rfl) (p_165_0 (xgs (xga (xgs (xga W0_128))))) ?_
  refine i_287_289 (x := 1) rfl ?_
  refine i_287_291 (fun _ => ?_) (fun h => absurd h (by decide))
  refine i_287_296 (x := 1) rfl ?_
  refine i_287_298 (fun _ => ?_) (fun h => absurd h (by decide))
  refine i_287_313 ?_
  refine i_287_2154 (x := 0) (c := 6) (lv2 := [(4, Value.int 6), (6, Value.int 0), (5, Value.int 1), (3, Value.ref 194), (2, Value.ref 128), (1, Value.ref 7), (0, Value.ref 0)]) rfl (by decide) rfl ?_
  refine i_287_2157 ?_
  refine i_287_23 (x := 6) rfl ?_
  refine i_287_25 (x := 0) rfl ?_
  refine i_287_26 (c := 6) (xgn (by decide) (xga (xgn (by decide) (xga W0_0)))) (by decide) ?_
  refine i_287_27 ?_
  refine i_287_29 (c := 0) (by decide) ?_
  refine i_287_30 (fun _ => ?_) (fun h => absurd h (by decide))
  refine i_287_2160 ?_
  exact i_287_2161 rfl ⟨rfl, rfl⟩
theorem p_19_3 {d : Nat} {w : xW} {a0 : Int32} {a1 : Int32} (e0 : (-16384) ≤ a0.toInt) (e1 : a1.toInt ≤ 16384) (e2 : a0.toInt ≤ a1.toInt) (hw3 : w[7]? = some (Sum.inr (0, [Value.ref 8, Value.ref 78, Value.ref 9, Value.ref 10, Value.ref 13, Value.ref 16, Value.ref 19, Value.ref 93, Value.ref 108, Value.ref 113, Value.ref 29, Value.int 0]))) (hw4 : w[78]? = some (Sum.inr (1, [Value.int (-16384), Value.int 16384, Value.int 0, Value.int 0]))) : xRun d 19 [Value.ref 7, Value.int a0, Value.int a1, Value.int 0] w (.inl (some (Value.int 16384))) (w.set 78 (Sum.inr (1, [Value.int a0, Value.int a1, Value.int 0, Value.int 0]))) := by
  refine xRun.of ?_
  refine i_19_0 (x := a0) rfl ?_
  refine i_19_1 ?_
  refine i_19_4 (fun h => absurd e0 (Int.not_le.mpr h)) (fun _ => ?_)
  refine i_19_7 (x := a1) rfl ?_
  refine i_19_8 ?_
  refine i_19_11 (fun h => absurd e1 (Int.not_le.mpr h)) (fun _ => ?_)
  refine i_19_14 (x := a0) rfl ?_
  refine i_19_15 (x := a1) rfl ?_
  refine i_19_16 (fun _ => ?_) (fun h => absurd e2 (Int.not_le.mpr h))
  refine i_19_27 (x := 7) rfl ?_
  refine i_19_28 (v := Value.ref 78) hw3 rfl ?_
  refine i_19_31 (v := Value.int 16384) hw4 rfl ?_
  refine i_19_34 (lv2 := [(4, Value.int 16384), (0, Value.ref 7), (1, Value.int a0), (2, Value.int a1), (3, Value.int 0)]) rfl ?_
  refine i_19_36 (x := 7) rfl ?_
  refine i_19_37 (v := Value.ref 78) hw3 rfl ?_
  refine i_19_40 (x := a0) rfl ?_
  refine i_19_41 (fs2 := [Value.int a0, Value.int 16384, Value.int 0, Value.int 0]) hw4 (Nat.le_of_ble_eq_true rfl) rfl (by decide) ?_
  refine i_19_44 (x := 7) rfl ?_
  refine i_19_45 (v := Value.ref 78) (xgn (by decide) hw3) rfl ?_
  refine i_19_48 (x := a1) rfl ?_
  refine i_19_49 (fs2 := [Value.int a0, Value.int a1, Value.int 0, Value.int 0]) (xgs hw4) (Nat.le_of_ble_eq_true rfl) rfl (by decide) ?_
  refine xEv.world (List.set_set _) ?_
  refine i_19_52 (x := 7) rfl ?_
  refine i_19_53 (v := Value.ref 78) (xgn (by decide) hw3) rfl ?_
  refine i_19_56 (x := 0) rfl ?_
  refine i_19_57 (fs2 := [Value.int a0, Value.int a1, Value.int 0, Value.int 0]) (xgs hw4) rfl (Nat.le_of_ble_eq_true rfl) rfl (by decide) ?_
  refine xEv.world (List.set_set _) ?_
  refine i_19_60 (x := 16384) rfl ?_
  exact i_19_62 ⟨rfl, rfl⟩
theorem p_18_3 {d : Nat} {w : xW} {a0 : Int32} {a1 : Int32} (hw0 : w[7]? = some (Sum.inr (0, [Value.ref 8, Value.ref 78, Value.ref 9, Value.ref 10, Value.ref 13, Value.ref 16, Value.ref 19, Value.ref 93, Value.ref 108, Value.ref 113, Value.ref 29, Value.int 0]))) (e1 : (-16384) ≤ a0.toInt) (e2 : a1.toInt ≤ 16384) (e3 : a0.toInt ≤ a1.toInt) (hw4 : w[78]? = some (Sum.inr (1, [Value.int (-16384), Value.int 16384, Value.int 0, Value.int 0]))) (hw5 : w[194]? = some (Sum.inl (3, 1, fun _ => Value.long 0))) : xRun (d + 1) 18 [Value.ref 7, Value.int a0, Value.int a1, Value.int 0, Value.ref 194] w (.inl (some (Value.int 0))) ((w.set 78 (Sum.inr (1, [Value.int a0, Value.int a1, Value.int 0, Value.int 0]))).set 194 (Sum.inl (3, 1, xup (fun _ => Value.long 0) (0 : Int32).toInt.toNat (Value.long 16384)))) := by
  refine xRun.of ?_
  refine i_18_0 (x := 194) rfl ?_
  refine i_18_2 ?_
  refine i_18_3 (x := 7) rfl ?_
  refine i_18_4 (x := a0) rfl ?_
  refine i_18_5 (x := a1) rfl ?_
  refine i_18_6 (x := 0) rfl ?_
  refine i_18_7 hw0 (Nat.le_of_ble_eq_true rfl) (p_19_3 e1 e2 e3 hw0 hw4) ?_
  refine i_18_10 (c := 16384) (by decide) ?_
  refine i_18_11 (v := Value.long 16384) (xgn (by decide) hw5) (by decide) (by decide) (by decide) rfl ?_
  refine i_18_12 ?_
  refine i_18_19 ?_
  exact i_18_20 ⟨rfl, rfl⟩
theorem p_169_11 {d : Nat} {w : xW} {a0 : Int32} {a1 : Int32} (e0 : a1.toInt ≤ a0.toInt) (e1 : a0.toInt ≤ 16384) : xRun d 169 [Value.int a0, Value.int a1, Value.int 16384] w (.inl (some (Value.int 1))) w := by
  refine xRun.of ?_
  refine i_169_0 (x := a0) rfl ?_
  refine i_169_1 (x := a1) rfl ?_
  refine i_169_2 (fun h => absurd e0 (Int.not_le.mpr h)) (fun _ => ?_)
  refine i_169_5 (x := a0) rfl ?_
  refine i_169_6 (x := 16384) rfl ?_
  refine i_169_7 (fun h => absurd e1 (Int.not_le.mpr h)) (fun _ => ?_)
  refine i_169_10 ?_
  refine i_169_11 ?_
  exact i_169_15 rfl ⟨rfl, rfl⟩
theorem p_173_4 {d : Nat} {w : xW} {a0 : Int32} {a1 : Int32} (e0 : (-16384) ≤ a0.toInt) (e1 : a0.toInt ≤ 16384) (e2 : a0.toInt ≤ a1.toInt) (e3 : a1.toInt ≤ 16384) (hw4 : w[128]? = some (Sum.inr (12, [Value.ref 129, Value.ref 131, Value.ref 133, Value.ref 135, Value.ref 137, Value.ref 139, Value.ref 141, Value.ref 143, Value.ref 145, Value.ref 147, Value.ref 149, Value.ref 151, Value.ref 153, Value.ref 154, Value.ref 155, Value.ref 156, Value.ref 157, Value.int (-16384), Value.int 16384, Value.int 0, Value.int 0, Value.int 0, Value.ref 158, Value.ref 159, Value.int 0, Value.int 0, Value.int 0, Value.int 0, Value.int 0, Value.int 0, Value.int 0, Value.int 0]))) : xRun (d + 1) 173 [Value.ref 128, Value.int a0, Value.int a1, Value.int 0] w (.inl (some (Value.int 16384))) (w.set 128 (Sum.inr (12, [Value.ref 129, Value.ref 131, Value.ref 133, Value.ref 135, Value.ref 137, Value.ref 139, Value.ref 141, Value.ref 143, Value.ref 145, Value.ref 147, Value.ref 149, Value.ref 151, Value.ref 153, Value.ref 154, Value.ref 155, Value.ref 156, Value.ref 157, Value.int a0, Value.int a1, Value.int 0, Value.int 0, Value.int 0, Value.ref 158, Value.ref 159, Value.int 0, Value.int 0, Value.int 0, Value.int 0, Value.int 0, Value.int 0, Value.int 0, Value.int 0]))) := by
  refine xRun.of ?_
  refine i_173_0 (x := a0) rfl ?_
  refine i_173_1 ?_
  refine i_173_4 ?_
  refine i_173_7 (Nat.le_of_ble_eq_true rfl) (p_169_8 e0 e1) ?_
  refine i_173_10 (fun h => absurd h (by decide)) (fun _ => ?_)
  refine i_173_13 (x := a1) rfl ?_
  refine i_173_14 (x := a0) rfl ?_
  refine i_173_15 ?_
  refine i_173_18 (Nat.le_of_ble_eq_true rfl) (p_169_11 e2 e3) ?_
  refine i_173_21 (fun h => absurd h (by decide)) (fun _ => ?_)
  refine i_173_24 ?_
  refine i_173_25 ?_
  refine i_173_29 (Nat.le_of_ble_eq_true rfl) (p_170_1) ?_
  refine i_173_32 (x := 128) rfl ?_
  refine i_173_33 (v := Value.int 16384) hw4 rfl ?_
  refine i_173_36 (lv2 := [(4, Value.int 16384), (0, Value.ref 128), (1, Value.int a0), (2, Value.int a1), (3, Value.int 0)]) rfl ?_
  refine i_173_38 (x := 128) rfl ?_
  refine i_173_39 (x := a0) rfl ?_
  refine i_173_40 (fs2 := [Value.ref 129, Value.ref 131, Value.ref 133, Value.ref 135, Value.ref 137, Value.ref 139, Value.ref 141, Value.ref 143, Value.ref 145, Value.ref 147, Value.ref 149, Value.ref 151, Value.ref 153, Value.ref 154, Value.ref 155, Value.ref 156, Value.ref 157, Value.int a0, Value.int 16384, Value.int 0, Value.int 0, Value.int 0, Value.ref 158, Value.ref 159, Value.int 0, Value.int 0, Value.int 0, Value.int 0, Value.int 0, Value.int 0, Value.int 0, Value.int 0]) hw4 (Nat.le_of_ble_eq_true rfl) rfl (by decide) ?_
  refine i_173_43 (x := 128) rfl ?_
  refine i_173_44 (x := a1) rfl ?_
  refine i_173_45 (fs2 := [Value.ref 129, Value.ref 131, Value.ref 133, Value.ref 135, Value.ref 137, Value.ref 139, Value.ref 141, Value.ref 143, Value.ref 145, Value.ref 147, Value.ref 149, Value.ref 151, Value.ref 153, Value.ref 154, Value.ref 155, Value.ref 156, Value.ref 157, Value.int a0, Value.int a1, Value.int 0, Value.int 0, Value.int 0, Value.ref 158, Value.ref 159, Value.int 0, Value.int 0, Value.int 0, Value.int 0, Value.int 0, Value.int 0, Value.int 0, Value.int 0]) (xgs hw4) (Nat.le_of_ble_eq_true rfl) rfl (by decide) ?_
  refine xEv.world (List.set_set _) ?_
  refine i_173_48 (x := 128) rfl ?_
  refine i_173_49 (x := 0) rfl ?_
  refine i_173_50 (fs2 := [Value.ref 129, Value.ref 131, Value.ref 133, Value.ref 135, Value.ref 137, Value.ref 139, Value.ref 141, Value.ref 143, Value.ref 145, Value.ref 147, Value.ref 149, Value.ref 151, Value.ref 153, Value.ref 154, Value.ref 155, Value.ref 156, Value.ref 157, Value.int a0, Value.int a1, Value.int 0, Value.int 0, Value.int 0, Value.ref 158, Value.ref 159, Value.int 0, Value.int 0, Value.int 0, Value.int 0, Value.int 0, Value.int 0, Value.int 0, Value.int 0]) (xgs hw4) rfl (Nat.le_of_ble_eq_true rfl) rfl (by decide) ?_
  refine xEv.world (List.set_set _) ?_
  refine i_173_53 (x := 16384) rfl ?_
  exact i_173_55 ⟨rfl, rfl⟩
theorem p_172_4 {d : Nat} {w : xW} {a0 : Int32} {a1 : Int32} (hw0 : w[128]? = some (Sum.inr (12, [Value.ref 129, Value.ref 131, Value.ref 133, Value.ref 135, Value.ref 137, Value.ref 139, Value.ref 141, Value.ref 143, Value.ref 145, Value.ref 147, Value.ref 149, Value.ref 151, Value.ref 153, Value.ref 154, Value.ref 155, Value.ref 156, Value.ref 157, Value.int (-16384), Value.int 16384, Value.int 0, Value.int 0, Value.int 0, Value.ref 158, Value.ref 159, Value.int 0, Value.int 0, Value.int 0, Value.int 0, Value.int 0, Value.int 0, Value.int 0, Value.int 0]))) (e1 : (-16384) ≤ a0.toInt) (e2 : a0.toInt ≤ 16384) (e3 : a0.toInt ≤ a1.toInt) (e4 : a1.toInt ≤ 16384) : xRun (d + 2) 172 [Value.ref 128, Value.int a0, Value.int a1, Value.int 0] w (.inl (some (Value.int 16384))) ((w.set 128 (Sum.inr (12, [Value.ref 129, Value.ref 131, Value.ref 133, Value.ref 135, Value.ref 137, Value.ref 139, Value.ref 141, Value.ref 143, Value.ref 145, Value.ref 147, Value.ref 149, Value.ref 151, Value.ref 153, Value.ref 154, Value.ref 155, Value.ref 156, Value.ref 157, Value.int (-16384), Value.int 16384, Value.int 0, Value.int 0, Value.int 0, Value.ref 158, Value.ref 159, Value.int 0, Value.int 0, Value.int 0, Value.int 0, Value.int 0, Value.int 0, Value.int 0, Value.int 0]))).set 128 (Sum.inr (12, [Value.ref 129, Value.ref 131, Value.ref 133, Value.ref 135, Value.ref 137, Value.ref 139, Value.ref 141, Value.ref 143, Value.ref 145, Value.ref 147, Value.ref 149, Value.ref 151, Value.ref 153, Value.ref 154, Value.ref 155, Value.ref 156, Value.ref 157, Value.int a0, Value.int a1, Value.int 0, Value.int 0, Value.int 0, Value.ref 158, Value.ref 159, Value.int 0, Value.int 0, Value.int 0, Value.int 0, Value.int 0, Value.int 0, Value.int 0, Value.int 0]))) := by
  refine xRun.of ?_
  refine i_172_0 (x := 128) rfl ?_
  refine i_172_1 ?_
  refine i_172_2 (fs2 := [Value.ref 129, Value.ref 131, Value.ref 133, Value.ref 135, Value.ref 137, Value.ref 139, Value.ref 141, Value.ref 143, Value.ref 145, Value.ref 147, Value.ref 149, Value.ref 151, Value.ref 153, Value.ref 154, Value.ref 155, Value.ref 156, Value.ref 157, Value.int (-16384), Value.int 16384, Value.int 0, Value.int 0, Value.int 0, Value.ref 158, Value.ref 159, Value.int 0, Value.int 0, Value.int 0, Value.int 0, Value.int 0, Value.int 0, Value.int 0, Value.int 0]) hw0 (Nat.le_of_ble_eq_true rfl) rfl (by decide) ?_
  refine i_172_5 (x := 128) rfl ?_
  refine i_172_6 (x := a0) rfl ?_
  refine i_172_7 (x := a1) rfl ?_
  refine i_172_8 (x := 0) rfl ?_
  refine i_172_9 (xgs hw0) (Nat.le_of_ble_eq_true rfl) (p_173_4 e1 e2 e3 e4 (xgs hw0)) ?_
  exact i_172_12 ⟨rfl, rfl⟩
theorem p_165_2 {d : Nat} {w : xW} {a0 : Int32} {a1 : Int32} (hw0 : w[128]? = some (Sum.inr (12, [Value.ref 129, Value.ref 131, Value.ref 133, Value.ref 135, Value.ref 137, Value.ref 139, Value.ref 141, Value.ref 143, Value.ref 145, Value.ref 147, Value.ref 149, Value.ref 151, Value.ref 153, Value.ref 154, Value.ref 155, Value.ref 156, Value.ref 157, Value.int a0, Value.int a1, Value.int 0, Value.int 0, Value.int 0, Value.ref 158, Value.ref 159, Value.int 0, Value.int 0, Value.int 0, Value.int 0, Value.int 0, Value.int 0, Value.int 0, Value.int 0]))) : xRun d 165 [Value.ref 128] w (.inl (some (Value.int 0))) w := by
  refine xRun.of ?_
  refine i_165_0 (x := 128) rfl ?_
  refine i_165_1 (v := Value.int 0) hw0 rfl ?_
  exact i_165_4 ⟨rfl, rfl⟩
theorem o_1_6 {d : Nat} {xs : Nat → Int32} (h0 : ((xs 0) &&& (31 : Int32)).toInt = 1) (c0 : (xs 3).toInt = 0) (c1 : (-16384) ≤ (xs 1).toInt) (c2 : (xs 2).toInt ≤ 16384) (c3 : (xs 1).toInt ≤ (xs 2).toInt) (c4 : (xs 1).toInt ≤ 16384) : ∃ w1, xEv (d + 20) 287 23 [(4, Value.int 0), (3, Value.ref 194), (2, Value.ref 128), (1, Value.ref 7), (0, Value.ref 0)] [] (W0 6 xs) (fun o' w' => o' = .inl (some (Value.int 1)) ∧ w' = w1) ∧ w1.length ≤ 220 ∧ xsz w1 ≤ 200000 := by
  have z0 : xsz (W0 6 xs) = 76990 := W0_sz
  have z1 : xsz ((W0 6 xs).set 78 (Sum.inr (1, [Value.int (xs 1), Value.int (xs 2), Value.int 0, Value.int 0]))) = 76990 := xz_set z0 (W0_78) xcs_o
  have z2 : xsz (((W0 6 xs).set 78 (Sum.inr (1, [Value.int (xs 1), Value.int (xs 2), Value.int 0, Value.int 0]))).set 194 (Sum.inl (3, 1, xup (fun _ => Value.long 0) (0 : Int32).toInt.toNat (Value.long 16384)))) = 76990 := xz_set z1 (xgn (by decide) W0_194) xcs_a
  have z3 : xsz ((((W0 6 xs).set 78 (Sum.inr (1, [Value.int (xs 1), Value.int (xs 2), Value.int 0, Value.int 0]))).set 194 (Sum.inl (3, 1, xup (fun _ => Value.long 0) (0 : Int32).toInt.toNat (Value.long 16384)))).set 128 (Sum.inr (12, [Value.ref 129, Value.ref 131, Value.ref 133, Value.ref 135, Value.ref 137, Value.ref 139, Value.ref 141, Value.ref 143, Value.ref 145, Value.ref 147, Value.ref 149, Value.ref 151, Value.ref 153, Value.ref 154, Value.ref 155, Value.ref 156, Value.ref 157, Value.int (-16384), Value.int 16384, Value.int 0, Value.int 0, Value.int 0, Value.ref 158, Value.ref 159, Value.int 0, Value.int 0, Value.int 0, Value.int 0, Value.int 0, Value.int 0, Value.int 0, Value.int 0]))) = 76990 := xz_set z2 (xgn (by decide) (xgn (by decide) W0_128)) xcs_o
  have z4 : xsz (((((W0 6 xs).set 78 (Sum.inr (1, [Value.int (xs 1), Value.int (xs 2), Value.int 0, Value.int 0]))).set 194 (Sum.inl (3, 1, xup (fun _ => Value.long 0) (0 : Int32).toInt.toNat (Value.long 16384)))).set 128 (Sum.inr (12, [Value.ref 129, Value.ref 131, Value.ref 133, Value.ref 135, Value.ref 137, Value.ref 139, Value.ref 141, Value.ref 143, Value.ref 145, Value.ref 147, Value.ref 149, Value.ref 151, Value.ref 153, Value.ref 154, Value.ref 155, Value.ref 156, Value.ref 157, Value.int (-16384), Value.int 16384, Value.int 0, Value.int 0, Value.int 0, Value.ref 158, Value.ref 159, Value.int 0, Value.int 0, Value.int 0, Value.int 0, Value.int 0, Value.int 0, Value.int 0, Value.int 0]))).set 128 (Sum.inr (12, [Value.ref 129, Value.ref 131, Value.ref 133, Value.ref 135, Value.ref 137, Value.ref 139, Value.ref 141, Value.ref 143, Value.ref 145, Value.ref 147, Value.ref 149, Value.ref 151, Value.ref 153, Value.ref 154, Value.ref 155, Value.ref 156, Value.ref 157, Value.int (xs 1), Value.int (xs 2), Value.int 0, Value.int 0, Value.int 0, Value.ref 158, Value.ref 159, Value.int 0, Value.int 0, Value.int 0, Value.int 0, Value.int 0, Value.int 0, Value.int 0, Value.int 0]))) = 76990 := xz_set z3 (xgs (xgn (by decide) (xgn (by decide) W0_128))) xcs_o
  refine ⟨(((((W0 6 xs).set 78 (Sum.inr (1, [Value.int (xs 1), Value.int (xs 2), Value.int 0, Value.int 0]))).set 194 (Sum.inl (3, 1, xup (fun _ => Value.long 0) (0 : Int32).toInt.toNat (Value.long 16384)))).set 128 (Sum.inr (12, [Value.ref 129, Value.ref 131, Value.ref 133, Value.ref 135, Value.ref 137, Value.ref 139, Value.ref 141, Value.ref 143, Value.ref 145, Value.ref 147, Value.ref 149, Value.ref 151, Value.ref 153, Value.ref 154, Value.ref 155, Value.ref 156, Value.ref 157, Value.int (-16384), Value.int 16384, Value.int 0, Value.int 0, Value.int 0, Value.ref 158, Value.ref 159, Value.int 0, Value.int 0, Value.int 0, Value.int 0, Value.int 0, Value.int 0, Value.int 0, Value.int 0]))).set 128 (Sum.inr (12, [Value.ref 129, Value.ref 131, Value.ref 133, Value.ref 135, Value.ref 137, Value.ref 139, Value.ref 141, Value.ref 143, Value.ref 145, Value.ref 147, Value.ref 149, Value.ref 151, Value.ref 153, Value.ref 154, Value.ref 155, Value.ref 156, Value.ref 157, Value.int (xs 1), Value.int (xs 2), Value.int 0, Value.int 0, Value.int 0, Value.ref 158, Value.ref 159, Value.int 0, Value.int 0, Value.int 0, Value.int 0, Value.int 0, Value.int 0, Value.int 0, Value.int 0]))), ?_, Nat.le_trans (Nat.le_of_eq (xls (xls (xls (xls (W0_len)))))) (by decide), by rw [z4]; decide⟩
  refine i_287_23 (x := 0) rfl ?_
  refine i_287_25 (x := 0) rfl ?_
  refine i_287_26 (c := 6) W0_0 (by decide) ?_
  refine i_287_27 ?_
  refine i_287_29 (c := 0) (by decide) ?_
  refine i_287_30 (fun h => absurd h (by decide)) (fun _ => ?_)
  refine i_287_33 (x := 0) rfl ?_
  refine i_287_34 (x := 0) rfl ?_
  refine i_287_36 (v := Value.int (xs 0)) W0_0 (by decide) (by decide) rfl ?_
  refine i_287_37 ?_
  refine i_287_39 (c := ((xs 0) &&& (31 : Int32))) rfl ?_
  refine i_287_40_1 (by omega) ?_
  refine i_287_220 (x := 7) rfl ?_
  refine i_287_221 (x := 0) rfl ?_
  refine i_287_222 (x := 0) rfl ?_
  refine i_287_224 ?_
  refine i_287_225 (c := 1) (by decide) ?_
  refine i_287_226 (v := Value.int (xs 1)) W0_0 (by decide) (by decide) rfl ?_
  refine i_287_227 (x := 0) rfl ?_
  refine i_287_228 (x := 0) rfl ?_
  refine i_287_230 ?_
  refine i_287_231 (c := 2) (by decide) ?_
  refine i_287_232 (v := Value.int (xs 2)) W0_0 (by decide) (by decide) rfl ?_
  refine i_287_233 (x := 0) rfl ?_
  refine i_287_234 (x := 0) rfl ?_
  refine i_287_236 ?_
  refine i_287_237 (c := 3) (by decide) ?_
  refine i_287_238 (v := Value.int (xs 3)) W0_0 (by decide) (by decide) rfl ?_
  refine i_287_239 (fun _ => ?_) (fun h => absurd (show (xs 3).toInt = 0 by omega) h)
  refine i_287_246 ?_
  refine i_287_247 (x := 194) rfl ?_
  refine i_287_248 (Nat.le_of_ble_eq_true rfl) (p_18_3 W0_7 (by omega) (by omega) (by omega) W0_78 W0_194) ?_
  refine i_287_251 (lv2 := [(5, Value.int 0), (4, Value.int 0), (3, Value.ref 194), (2, Value.ref 128), (1, Value.ref 7), (0, Value.ref 0)]) rfl ?_
  refine i_287_253 (x := 128) rfl ?_
  refine i_287_254 (x := 0) rfl ?_
  refine i_287_255 (x := 0) rfl ?_
  refine i_287_257 ?_
  refine i_287_258 (c := 1) (by decide) ?_
  refine i_287_259 (v := Value.int (xs 1)) (xgn (by decide) (xgn (by decide) W0_0)) (by decide) (by decide) rfl ?_
  refine i_287_260 (x := 0) rfl ?_
  refine i_287_261 (x := 0) rfl ?_
  refine i_287_263 ?_
  refine i_287_264 (c := 2) (by decide) ?_
  refine i_287_265 (v := Value.int (xs 2)) (xgn (by decide) (xgn (by decide) W0_0)) (by decide) (by decide) rfl ?_
  refine i_287_266 (x := 0) rfl ?_
  refine i_287_267 (x := 0) rfl ?_
  refine i_287_269 ?_
  refine i_287_270 (c := 3) (by decide) ?_
  refine i_287_271 (v := Value.int (xs 3)) (xgn (by decide) (xgn (by decide) W0_0)) (by decide) (by decide) rfl ?_
  refine i_287_272 (fun _ => ?_) (fun h => absurd (show (xs 3).toInt = 0 by omega) h)
  refine i_287_279 ?_
  refine i_287_280 (xgn (by decide) (xgn (by decide) W0_128)) (Nat.le_of_ble_eq_true rfl) (p_172_4 (xgn (by decide) (xgn (by decide) W0_128)) (by omega) (by omega) (by omega) (by omega)) ?_
  refine i_287_283 (lv2 := [(6, Value.int 16384), (5, Value.int 0), (4, Value.int 0), (3, Value.ref 194), (2, Value.ref 128), (1, Value.ref 7), (0, Value.ref 0)]) rfl ?_
  refine i_287_285 (x := 128) rfl ?_
  refine i_287_286 (xgs (xgs (xgn (by decide) (xgn (by decide) W0_128)))) (Nat.le_of_ble_eq_true rfl) (p_165_2 (xgs (xgs (xgn (by decide) (xgn (by decide) W0_128))))) ?_
  refine i_287_289 (x := 0) rfl ?_
  refine i_287_291 (fun _ => ?_) (fun h => absurd h (by decide))
  refine i_287_296 (x := 0) rfl ?_
  refine i_287_298 (fun h => absurd h (by decide)) (fun _ => ?_)
  refine i_287_301 (x := 194) rfl ?_
  refine i_287_302 ?_
  refine i_287_303 (v := Value.long 16384) (xgn (by decide) (xgn (by decide) (xgs (xgn (by decide) W0_194)))) (by decide) (by decide) xup_s ?_
  refine i_287_304 (x := 16384) rfl ?_
  refine i_287_306 (c := 16384) (by decide) ?_
  refine i_287_307 (c := 0) (by decide) ?_
  refine i_287_308 (fun _ => ?_) (fun h => absurd h (by decide))
  refine i_287_313 ?_
  refine i_287_2154 (x := 0) (c := 6) (lv2 := [(4, Value.int 6), (6, Value.int 16384), (5, Value.int 0), (3, Value.ref 194), (2, Value.ref 128), (1, Value.ref 7), (0, Value.ref 0)]) rfl (by decide) rfl ?_
  refine i_287_2157 ?_
  refine i_287_23 (x := 6) rfl ?_
  refine i_287_25 (x := 0) rfl ?_
  refine i_287_26 (c := 6) (xgn (by decide) (xgn (by decide) (xgn (by decide) (xgn (by decide) W0_0)))) (by decide) ?_
  refine i_287_27 ?_
  refine i_287_29 (c := 0) (by decide) ?_
  refine i_287_30 (fun _ => ?_) (fun h => absurd h (by decide))
  refine i_287_2160 ?_
  exact i_287_2161 rfl ⟨rfl, rfl⟩
theorem p_19_4 {d : Nat} {w : xW} {a0 : Int32} {a1 : Int32} (e0 : a0.toInt < (-16384)) : xRun (d + 6) 19 [Value.ref 7, Value.int a0, Value.int a1, Value.int 1] w (.inr w.length) (w ++ [Sum.inr (14, [])]) := by
  refine xRun.of ?_
  refine i_19_0 (x := a0) rfl ?_
  refine i_19_1 ?_
  refine i_19_4 (fun _ => ?_) (fun h => absurd e0 (Int.not_lt.mpr h))
  exact i_19_19 (by omega) (Nat.le_of_ble_eq_true rfl) ⟨rfl, rfl⟩
theorem p_18_4 {d : Nat} {w : xW} {a0 : Int32} {a1 : Int32} (hw0 : w[7]? = some (Sum.inr (0, [Value.ref 8, Value.ref 78, Value.ref 9, Value.ref 10, Value.ref 13, Value.ref 16, Value.ref 19, Value.ref 93, Value.ref 108, Value.ref 113, Value.ref 29, Value.int 0]))) (e1 : a0.toInt < (-16384)) : xRun (d + 7) 18 [Value.ref 7, Value.int a0, Value.int a1, Value.int 1, Value.ref 194] w (.inl (some (Value.int 1))) (w ++ [Sum.inr (14, [])]) := by
  refine xRun.of ?_
  refine i_18_0 (x := 194) rfl ?_
  refine i_18_2 ?_
  refine i_18_3 (x := 7) rfl ?_
  refine i_18_4 (x := a0) rfl ?_
  refine i_18_5 (x := a1) rfl ?_
  refine i_18_6 (x := 1) rfl ?_
  refine j_18_7 hw0 (Nat.le_of_ble_eq_true rfl) (p_19_4 e1) (xDone.c xgl rfl rfl ?_)
  refine i_18_15 (lv2 := [(5, Value.ref w.length), (0, Value.ref 7), (1, Value.int a0), (2, Value.int a1), (3, Value.int 1), (4, Value.ref 194)]) rfl ?_
  refine i_18_17 ?_
  exact i_18_18 ⟨rfl, rfl⟩
theorem p_173_5 {d : Nat} {w : xW} {a0 : Int32} {a1 : Int32} (e0 : a0.toInt < (-16384)) : xRun (d + 7) 173 [Value.ref 128, Value.int a0, Value.int a1, Value.int 1] w (.inr w.length) (w ++ [Sum.inr (14, [])]) := by
  refine xRun.of ?_
  refine i_173_0 (x := a0) rfl ?_
  refine i_173_1 ?_
  refine i_173_4 ?_
  refine i_173_7 (Nat.le_of_ble_eq_true rfl) (p_169_6 e0) ?_
  refine i_173_10 (fun _ => ?_) (fun h => absurd h (by decide))
  refine i_173_28 ?_
  exact j_173_29 (Nat.le_of_ble_eq_true rfl) (p_170_0) (xDone.t xgl rfl rfl ⟨rfl, rfl⟩)
theorem p_172_5 {d : Nat} {w : xW} {a0 : Int32} {a1 : Int32} (hw0 : w[128]? = some (Sum.inr (12, [Value.ref 129, Value.ref 131, Value.ref 133, Value.ref 135, Value.ref 137, Value.ref 139, Value.ref 141, Value.ref 143, Value.ref 145, Value.ref 147, Value.ref 149, Value.ref 151, Value.ref 153, Value.ref 154, Value.ref 155, Value.ref 156, Value.ref 157, Value.int (-16384), Value.int 16384, Value.int 0, Value.int 0, Value.int 0, Value.ref 158, Value.ref 159, Value.int 0, Value.int 0, Value.int 0, Value.int 0, Value.int 0, Value.int 0, Value.int 0, Value.int 0]))) (e1 : a0.toInt < (-16384)) : xRun (d + 8) 172 [Value.ref 128, Value.int a0, Value.int a1, Value.int 1] w (.inl (some (Value.int 0))) (((w.set 128 (Sum.inr (12, [Value.ref 129, Value.ref 131, Value.ref 133, Value.ref 135, Value.ref 137, Value.ref 139, Value.ref 141, Value.ref 143, Value.ref 145, Value.ref 147, Value.ref 149, Value.ref 151, Value.ref 153, Value.ref 154, Value.ref 155, Value.ref 156, Value.ref 157, Value.int (-16384), Value.int 16384, Value.int 0, Value.int 0, Value.int 0, Value.ref 158, Value.ref 159, Value.int 0, Value.int 0, Value.int 0, Value.int 0, Value.int 0, Value.int 0, Value.int 0, Value.int 0]))) ++ [Sum.inr (14, [])]).set 128 (Sum.inr (12, [Value.ref 129, Value.ref 131, Value.ref 133, Value.ref 135, Value.ref 137, Value.ref 139, Value.ref 141, Value.ref 143, Value.ref 145, Value.ref 147, Value.ref 149, Value.ref 151, Value.ref 153, Value.ref 154, Value.ref 155, Value.ref 156, Value.ref 157, Value.int (-16384), Value.int 16384, Value.int 0, Value.int 0, Value.int 0, Value.ref 158, Value.ref 159, Value.int 0, Value.int 0, Value.int 0, Value.int 0, Value.int 0, Value.int 0, Value.int 0, Value.int 1]))) := by
  refine xRun.of ?_
  refine i_172_0 (x := 128) rfl ?_
  refine i_172_1 ?_
  refine i_172_2 (fs2 := [Value.ref 129, Value.ref 131, Value.ref 133, Value.ref 135, Value.ref 137, Value.ref 139, Value.ref 141, Value.ref 143, Value.ref 145, Value.ref 147, Value.ref 149, Value.ref 151, Value.ref 153, Value.ref 154, Value.ref 155, Value.ref 156, Value.ref 157, Value.int (-16384), Value.int 16384, Value.int 0, Value.int 0, Value.int 0, Value.ref 158, Value.ref 159, Value.int 0, Value.int 0, Value.int 0, Value.int 0, Value.int 0, Value.int 0, Value.int 0, Value.int 0]) hw0 (Nat.le_of_ble_eq_true rfl) rfl (by decide) ?_
  refine i_172_5 (x := 128) rfl ?_
  refine i_172_6 (x := a0) rfl ?_
  refine i_172_7 (x := a1) rfl ?_
  refine i_172_8 (x := 1) rfl ?_
  refine j_172_9 (xgs hw0) (Nat.le_of_ble_eq_true rfl) (p_173_5 e1) (xDone.c xgl rfl rfl ?_)
  refine i_172_13 (lv2 := [(4, Value.ref ((w.set 128 (Sum.inr (12, [Value.ref 129, Value.ref 131, Value.ref 133, Value.ref 135, Value.ref 137, Value.ref 139, Value.ref 141, Value.ref 143, Value.ref 145, Value.ref 147, Value.ref 149, Value.ref 151, Value.ref 153, Value.ref 154, Value.ref 155, Value.ref 156, Value.ref 157, Value.int (-16384), Value.int 16384, Value.int 0, Value.int 0, Value.int 0, Value.ref 158, Value.ref 159, Value.int 0, Value.int 0, Value.int 0, Value.int 0, Value.int 0, Value.int 0, Value.int 0, Value.int 0]))).length)), (0, Value.ref 128), (1, Value.int a0), (2, Value.int a1), (3, Value.int 1)]) rfl ?_
  refine i_172_15 (x := 128) rfl ?_
  refine i_172_16 ?_
  refine i_172_17 (fs2 := [Value.ref 129, Value.ref 131, Value.ref 133, Value.ref 135, Value.ref 137, Value.ref 139, Value.ref 141, Value.ref 143, Value.ref 145, Value.ref 147, Value.ref 149, Value.ref 151, Value.ref 153, Value.ref 154, Value.ref 155, Value.ref 156, Value.ref 157, Value.int (-16384), Value.int 16384, Value.int 0, Value.int 0, Value.int 0, Value.ref 158, Value.ref 159, Value.int 0, Value.int 0, Value.int 0, Value.int 0, Value.int 0, Value.int 0, Value.int 0, Value.int 1]) (xga (xgs hw0)) (Nat.le_of_ble_eq_true rfl) rfl (by decide) ?_
  refine i_172_20 ?_
  exact i_172_21 ⟨rfl, rfl⟩
theorem o_1_7 {d : Nat} {xs : Nat → Int32} (h0 : ((xs 0) &&& (31 : Int32)).toInt = 1) (c0 : (xs 3).toInt ≠ 0) (c1 : (xs 1).toInt < (-16384)) : ∃ w1, xEv (d + 20) 287 23 [(4, Value.int 0), (3, Value.ref 194), (2, Value.ref 128), (1, Value.ref 7), (0, Value.ref 0)] [] (W0 6 xs) (fun o' w' => o' = .inl (some (Value.int 1)) ∧ w' = w1) ∧ w1.length ≤ 220 ∧ xsz w1 ≤ 200000 := by
  have z0 : xsz (W0 6 xs) = 76990 := W0_sz
  have z1 : xsz ((W0 6 xs) ++ [Sum.inr (14, [])]) = 76996 := xz_app (m := 6) z0 rfl
  have z2 : xsz (((W0 6 xs) ++ [Sum.inr (14, [])]).set 128 (Sum.inr (12, [Value.ref 129, Value.ref 131, Value.ref 133, Value.ref 135, Value.ref 137, Value.ref 139, Value.ref 141, Value.ref 143, Value.ref 145, Value.ref 147, Value.ref 149, Value.ref 151, Value.ref 153, Value.ref 154, Value.ref 155, Value.ref 156, Value.ref 157, Value.int (-16384), Value.int 16384, Value.int 0, Value.int 0, Value.int 0, Value.ref 158, Value.ref 159, Value.int 0, Value.int 0, Value.int 0, Value.int 0, Value.int 0, Value.int 0, Value.int 0, Value.int 0]))) = 76996 := xz_set z1 (xga W0_128) xcs_o
  have z3 : xsz ((((W0 6 xs) ++ [Sum.inr (14, [])]).set 128 (Sum.inr (12, [Value.ref 129, Value.ref 131, Value.ref 133, Value.ref 135, Value.ref 137, Value.ref 139, Value.ref 141, Value.ref 143, Value.ref 145, Value.ref 147, Value.ref 149, Value.ref 151, Value.ref 153, Value.ref 154, Value.ref 155, Value.ref 156, Value.ref 157, Value.int (-16384), Value.int 16384, Value.int 0, Value.int 0, Value.int 0, Value.ref 158, Value.ref 159, Value.int 0, Value.int 0, Value.int 0, Value.int 0, Value.int 0, Value.int 0, Value.int 0, Value.int 0]))) ++ [Sum.inr (14, [])]) = 77002 := xz_app (m := 6) z2 rfl
  have z4 : xsz (((((W0 6 xs) ++ [Sum.inr (14, [])]).set 128 (Sum.inr (12, [Value.ref 129, Value.ref 131, Value.ref 133, Value.ref 135, Value.ref 137, Value.ref 139, Value.ref 141, Value.ref 143, Value.ref 145, Value.ref 147, Value.ref 149, Value.ref 151, Value.ref 153, Value.ref 154, Value.ref 155, Value.ref 156, Value.ref 157, Value.int (-16384), Value.int 16384, Value.int 0, Value.int 0, Value.int 0, Value.ref 158, Value.ref 159, Value.int 0, Value.int 0, Value.int 0, Value.int 0, Value.int 0, Value.int 0, Value.int 0, Value.int 0]))) ++ [Sum.inr (14, [])]).set 128 (Sum.inr (12, [Value.ref 129, Value.ref 131, Value.ref 133, Value.ref 135, Value.ref 137, Value.ref 139, Value.ref 141, Value.ref 143, Value.ref 145, Value.ref 147, Value.ref 149, Value.ref 151, Value.ref 153, Value.ref 154, Value.ref 155, Value.ref 156, Value.ref 157, Value.int (-16384), Value.int 16384, Value.int 0, Value.int 0, Value.int 0, Value.ref 158, Value.ref 159, Value.int 0, Value.int 0, Value.int 0, Value.int 0, Value.int 0, Value.int 0, Value.int 0, Value.int 1]))) = 77002 := xz_set z3 (xga (xgs (xga W0_128))) xcs_o
  refine ⟨(((((W0 6 xs) ++ [Sum.inr (14, [])]).set 128 (Sum.inr (12, [Value.ref 129, Value.ref 131, Value.ref 133, Value.ref 135, Value.ref 137, Value.ref 139, Value.ref 141, Value.ref 143, Value.ref 145, Value.ref 147, Value.ref 149, Value.ref 151, Value.ref 153, Value.ref 154, Value.ref 155, Value.ref 156, Value.ref 157, Value.int (-16384), Value.int 16384, Value.int 0, Value.int 0, Value.int 0, Value.ref 158, Value.ref 159, Value.int 0, Value.int 0, Value.int 0, Value.int 0, Value.int 0, Value.int 0, Value.int 0, Value.int 0]))) ++ [Sum.inr (14, [])]).set 128 (Sum.inr (12, [Value.ref 129, Value.ref 131, Value.ref 133, Value.ref 135, Value.ref 137, Value.ref 139, Value.ref 141, Value.ref 143, Value.ref 145, Value.ref 147, Value.ref 149, Value.ref 151, Value.ref 153, Value.ref 154, Value.ref 155, Value.ref 156, Value.ref 157, Value.int (-16384), Value.int 16384, Value.int 0, Value.int 0, Value.int 0, Value.ref 158, Value.ref 159, Value.int 0, Value.int 0, Value.int 0, Value.int 0, Value.int 0, Value.int 0, Value.int 0, Value.int 1]))), ?_, Nat.le_trans (Nat.le_of_eq (xls (xla (xls (xla (W0_len)))))) (by decide), by rw [z4]; decide⟩
  refine i_287_23 (x := 0) rfl ?_
  refine i_287_25 (x := 0) rfl ?_
  refine i_287_26 (c := 6) W0_0 (by decide) ?_
  refine i_287_27 ?_
  refine i_287_29 (c := 0) (by decide) ?_
  refine i_287_30 (fun h => absurd h (by decide)) (fun _ => ?_)
  refine i_287_33 (x := 0) rfl ?_
  refine i_287_34 (x := 0) rfl ?_
  refine i_287_36 (v := Value.int (xs 0)) W0_0 (by decide) (by decide) rfl ?_
  refine i_287_37 ?_
  refine i_287_39 (c := ((xs 0) &&& (31 : Int32))) rfl ?_
  refine i_287_40_1 (by omega) ?_
  refine i_287_220 (x := 7) rfl ?_
  refine i_287_221 (x := 0) rfl ?_
  refine i_287_222 (x := 0) rfl ?_
  refine i_287_224 ?_
  refine i_287_225 (c := 1) (by decide) ?_
  refine i_287_226 (v := Value.int (xs 1)) W0_0 (by decide) (by decide) rfl ?_
  refine i_287_227 (x := 0) rfl ?_
  refine i_287_228 (x := 0) rfl ?_
  refine i_287_230 ?_
  refine i_287_231 (c := 2) (by decide) ?_
  refine i_287_232 (v := Value.int (xs 2)) W0_0 (by decide) (by decide) rfl ?_
  refine i_287_233 (x := 0) rfl ?_
  refine i_287_234 (x := 0) rfl ?_
  refine i_287_236 ?_
  refine i_287_237 (c := 3) (by decide) ?_
  refine i_287_238 (v := Value.int (xs 3)) W0_0 (by decide) (by decide) rfl ?_
  refine i_287_239 (fun h => absurd (show (xs 3).toInt ≠ 0 by omega) (fun g => g h)) (fun _ => ?_)
  refine i_287_242 ?_
  refine i_287_243 ?_
  refine i_287_247 (x := 194) rfl ?_
  refine i_287_248 (Nat.le_of_ble_eq_true rfl) (p_18_4 W0_7 (by omega)) ?_
  refine i_287_251 (lv2 := [(5, Value.int 1), (4, Value.int 0), (3, Value.ref 194), (2, Value.ref 128), (1, Value.ref 7), (0, Value.ref 0)]) rfl ?_
  refine i_287_253 (x := 128) rfl ?_
  refine i_287_254 (x := 0) rfl ?_
  refine i_287_255 (x := 0) rfl ?_
  refine i_287_257 ?_
  refine i_287_258 (c := 1) (by decide) ?_
  refine i_287_259 (v := Value.int (xs 1)) (xga W0_0) (by decide) (by decide) rfl ?_
  refine i_287_260 (x := 0) rfl ?_
  refine i_287_261 (x := 0) rfl ?_
  refine i_287_263 ?_
  refine i_287_264 (c := 2) (by decide) ?_
  refine i_287_265 (v := Value.int (xs 2)) (xga W0_0) (by decide) (by decide) rfl ?_
  refine i_287_266 (x := 0) rfl ?_
  refine i_287_267 (x := 0) rfl ?_
  refine i_287_269 ?_
  refine i_287_270 (c := 3) (by decide) ?_
  refine i_287_271 (v := Value.int (xs 3)) (xga W0_0) (by decide) (by decide) rfl ?_
  refine i_287_272 (fun h => absurd (show (xs 3).toInt ≠ 0 by omega) (fun g => g h)) (fun _ => ?_)
  refine i_287_275 ?_
  refine i_287_276 ?_
  refine i_287_280 (xga W0_128) (Nat.le_of_ble_eq_true rfl) (p_172_5 (xga W0_128) (by omega)) ?_
  refine i_287_283 (lv2 := [(6, Value.int 0), (5, Value.int 1), (4, Value.int 0), (3, Value.ref 194), (2, Value.ref 128), (1, Value.ref 7), (0, Value.ref 0)]) rfl ?_
  refine i_287_285 (x := 128) rfl ?_
  refine i_287_286 (xgs (xga (xgs (xga W0_128)))) (Nat.le_of_ble_eq_true rfl) (p_165_0 (xgs (xga (xgs (xga W0_128))))) ?_
  refine i_287_289 (x := 1) rfl ?_
  refine i_287_291 (fun _ => ?_) (fun h => absurd h (by decide))
  refine i_287_296 (x := 1) rfl ?_
  refine i_287_298 (fun _ => ?_) (fun h => absurd h (by decide))
  refine i_287_313 ?_
  refine i_287_2154 (x := 0) (c := 6) (lv2 := [(4, Value.int 6), (6, Value.int 0), (5, Value.int 1), (3, Value.ref 194), (2, Value.ref 128), (1, Value.ref 7), (0, Value.ref 0)]) rfl (by decide) rfl ?_
  refine i_287_2157 ?_
  refine i_287_23 (x := 6) rfl ?_
  refine i_287_25 (x := 0) rfl ?_
  refine i_287_26 (c := 6) (xgn (by decide) (xga (xgn (by decide) (xga W0_0)))) (by decide) ?_
  refine i_287_27 ?_
  refine i_287_29 (c := 0) (by decide) ?_
  refine i_287_30 (fun _ => ?_) (fun h => absurd h (by decide))
  refine i_287_2160 ?_
  exact i_287_2161 rfl ⟨rfl, rfl⟩
theorem p_19_5 {d : Nat} {w : xW} {a0 : Int32} {a1 : Int32} (e0 : (-16384) ≤ a0.toInt) (e1 : 16384 < a1.toInt) : xRun (d + 6) 19 [Value.ref 7, Value.int a0, Value.int a1, Value.int 1] w (.inr w.length) (w ++ [Sum.inr (14, [])]) := by
  refine xRun.of ?_
  refine i_19_0 (x := a0) rfl ?_
  refine i_19_1 ?_
  refine i_19_4 (fun h => absurd e0 (Int.not_le.mpr h)) (fun _ => ?_)
  refine i_19_7 (x := a1) rfl ?_
  refine i_19_8 ?_
  refine i_19_11 (fun _ => ?_) (fun h => absurd e1 (Int.not_lt.mpr h))
  exact i_19_19 (by omega) (Nat.le_of_ble_eq_true rfl) ⟨rfl, rfl⟩
theorem p_18_5 {d : Nat} {w : xW} {a0 : Int32} {a1 : Int32} (hw0 : w[7]? = some (Sum.inr (0, [Value.ref 8, Value.ref 78, Value.ref 9, Value.ref 10, Value.ref 13, Value.ref 16, Value.ref 19, Value.ref 93, Value.ref 108, Value.ref 113, Value.ref 29, Value.int 0]))) (e1 : (-16384) ≤ a0.toInt) (e2 : 16384 < a1.toInt) : xRun (d + 7) 18 [Value.ref 7, Value.int a0, Value.int a1, Value.int 1, Value.ref 194] w (.inl (some (Value.int 1))) (w ++ [Sum.inr (14, [])]) := by
  refine xRun.of ?_
  refine i_18_0 (x := 194) rfl ?_
  refine i_18_2 ?_
  refine i_18_3 (x := 7) rfl ?_
  refine i_18_4 (x := a0) rfl ?_
  refine i_18_5 (x := a1) rfl ?_
  refine i_18_6 (x := 1) rfl ?_
  refine j_18_7 hw0 (Nat.le_of_ble_eq_true rfl) (p_19_5 e1 e2) (xDone.c xgl rfl rfl ?_)
  refine i_18_15 (lv2 := [(5, Value.ref w.length), (0, Value.ref 7), (1, Value.int a0), (2, Value.int a1), (3, Value.int 1), (4, Value.ref 194)]) rfl ?_
  refine i_18_17 ?_
  exact i_18_18 ⟨rfl, rfl⟩
theorem p_173_6 {d : Nat} {w : xW} {a0 : Int32} {a1 : Int32} (e0 : (-16384) ≤ a0.toInt) (e1 : 16384 < a0.toInt) : xRun (d + 7) 173 [Value.ref 128, Value.int a0, Value.int a1, Value.int 1] w (.inr w.length) (w ++ [Sum.inr (14, [])]) := by
  refine xRun.of ?_
  refine i_173_0 (x := a0) rfl ?_
  refine i_173_1 ?_
  refine i_173_4 ?_
  refine i_173_7 (Nat.le_of_ble_eq_true rfl) (p_169_7 e0 e1) ?_
  refine i_173_10 (fun _ => ?_) (fun h => absurd h (by decide))
  refine i_173_28 ?_
  exact j_173_29 (Nat.le_of_ble_eq_true rfl) (p_170_0) (xDone.t xgl rfl rfl ⟨rfl, rfl⟩)
theorem p_172_6 {d : Nat} {w : xW} {a0 : Int32} {a1 : Int32} (hw0 : w[128]? = some (Sum.inr (12, [Value.ref 129, Value.ref 131, Value.ref 133, Value.ref 135, Value.ref 137, Value.ref 139, Value.ref 141, Value.ref 143, Value.ref 145, Value.ref 147, Value.ref 149, Value.ref 151, Value.ref 153, Value.ref 154, Value.ref 155, Value.ref 156, Value.ref 157, Value.int (-16384), Value.int 16384, Value.int 0, Value.int 0, Value.int 0, Value.ref 158, Value.ref 159, Value.int 0, Value.int 0, Value.int 0, Value.int 0, Value.int 0, Value.int 0, Value.int 0, Value.int 0]))) (e1 : (-16384) ≤ a0.toInt) (e2 : 16384 < a0.toInt) : xRun (d + 8) 172 [Value.ref 128, Value.int a0, Value.int a1, Value.int 1] w (.inl (some (Value.int 0))) (((w.set 128 (Sum.inr (12, [Value.ref 129, Value.ref 131, Value.ref 133, Value.ref 135, Value.ref 137, Value.ref 139, Value.ref 141, Value.ref 143, Value.ref 145, Value.ref 147, Value.ref 149, Value.ref 151, Value.ref 153, Value.ref 154, Value.ref 155, Value.ref 156, Value.ref 157, Value.int (-16384), Value.int 16384, Value.int 0, Value.int 0, Value.int 0, Value.ref 158, Value.ref 159, Value.int 0, Value.int 0, Value.int 0, Value.int 0, Value.int 0, Value.int 0, Value.int 0, Value.int 0]))) ++ [Sum.inr (14, [])]).set 128 (Sum.inr (12, [Value.ref 129, Value.ref 131, Value.ref 133, Value.ref 135, Value.ref 137, Value.ref 139, Value.ref 141, Value.ref 143, Value.ref 145, Value.ref 147, Value.ref 149, Value.ref 151, Value.ref 153, Value.ref 154, Value.ref 155, Value.ref 156, Value.ref 157, Value.int (-16384), Value.int 16384, Value.int 0, Value.int 0, Value.int 0, Value.ref 158, Value.ref 159, Value.int 0, Value.int 0, Value.int 0, Value.int 0, Value.int 0, Value.int 0, Value.int 0, Value.int 1]))) := by
  refine xRun.of ?_
  refine i_172_0 (x := 128) rfl ?_
  refine i_172_1 ?_
  refine i_172_2 (fs2 := [Value.ref 129, Value.ref 131, Value.ref 133, Value.ref 135, Value.ref 137, Value.ref 139, Value.ref 141, Value.ref 143, Value.ref 145, Value.ref 147, Value.ref 149, Value.ref 151, Value.ref 153, Value.ref 154, Value.ref 155, Value.ref 156, Value.ref 157, Value.int (-16384), Value.int 16384, Value.int 0, Value.int 0, Value.int 0, Value.ref 158, Value.ref 159, Value.int 0, Value.int 0, Value.int 0, Value.int 0, Value.int 0, Value.int 0, Value.int 0, Value.int 0]) hw0 (Nat.le_of_ble_eq_true rfl) rfl (by decide) ?_
  refine i_172_5 (x := 128) rfl ?_
  refine i_172_6 (x := a0) rfl ?_
  refine i_172_7 (x := a1) rfl ?_
  refine i_172_8 (x := 1) rfl ?_
  refine j_172_9 (xgs hw0) (Nat.le_of_ble_eq_true rfl) (p_173_6 e1 e2) (xDone.c xgl rfl rfl ?_)
  refine i_172_13 (lv2 := [(4, Value.ref ((w.set 128 (Sum.inr (12, [Value.ref 129, Value.ref 131, Value.ref 133, Value.ref 135, Value.ref 137, Value.ref 139, Value.ref 141, Value.ref 143, Value.ref 145, Value.ref 147, Value.ref 149, Value.ref 151, Value.ref 153, Value.ref 154, Value.ref 155, Value.ref 156, Value.ref 157, Value.int (-16384), Value.int 16384, Value.int 0, Value.int 0, Value.int 0, Value.ref 158, Value.ref 159, Value.int 0, Value.int 0, Value.int 0, Value.int 0, Value.int 0, Value.int 0, Value.int 0, Value.int 0]))).length)), (0, Value.ref 128), (1, Value.int a0), (2, Value.int a1), (3, Value.int 1)]) rfl ?_
  refine i_172_15 (x := 128) rfl ?_
  refine i_172_16 ?_
  refine i_172_17 (fs2 := [Value.ref 129, Value.ref 131, Value.ref 133, Value.ref 135, Value.ref 137, Value.ref 139, Value.ref 141, Value.ref 143, Value.ref 145, Value.ref 147, Value.ref 149, Value.ref 151, Value.ref 153, Value.ref 154, Value.ref 155, Value.ref 156, Value.ref 157, Value.int (-16384), Value.int 16384, Value.int 0, Value.int 0, Value.int 0, Value.ref 158, Value.ref 159, Value.int 0, Value.int 0, Value.int 0, Value.int 0, Value.int 0, Value.int 0, Value.int 0, Value.int 1]) (xga (xgs hw0)) (Nat.le_of_ble_eq_true rfl) rfl (by decide) ?_
  refine i_172_20 ?_
  exact i_172_21 ⟨rfl, rfl⟩
theorem o_1_8 {d : Nat} {xs : Nat → Int32} (h0 : ((xs 0) &&& (31 : Int32)).toInt = 1) (c0 : (xs 3).toInt ≠ 0) (c1 : (-16384) ≤ (xs 1).toInt) (c2 : 16384 < (xs 2).toInt) (c3 : 16384 < (xs 1).toInt) : ∃ w1, xEv (d + 20) 287 23 [(4, Value.int 0), (3, Value.ref 194), (2, Value.ref 128), (1, Value.ref 7), (0, Value.ref 0)] [] (W0 6 xs) (fun o' w' => o' = .inl (some (Value.int 1)) ∧ w' = w1) ∧ w1.length ≤ 220 ∧ xsz w1 ≤ 200000 := by
  have z0 : xsz (W0 6 xs) = 76990 := W0_sz
  have z1 : xsz ((W0 6 xs) ++ [Sum.inr (14, [])]) = 76996 := xz_app (m := 6) z0 rfl
  have z2 : xsz (((W0 6 xs) ++ [Sum.inr (14, [])]).set 128 (Sum.inr (12, [Value.ref 129, Value.ref 131, Value.ref 133, Value.ref 135, Value.ref 137, Value.ref 139, Value.ref 141, Value.ref 143, Value.ref 145, Value.ref 147, Value.ref 149, Value.ref 151, Value.ref 153, Value.ref 154, Value.ref 155, Value.ref 156, Value.ref 157, Value.int (-16384), Value.int 16384, Value.int 0, Value.int 0, Value.int 0, Value.ref 158, Value.ref 159, Value.int 0, Value.int 0, Value.int 0, Value.int 0, Value.int 0, Value.int 0, Value.int 0, Value.int 0]))) = 76996 := xz_set z1 (xga W0_128) xcs_o
  have z3 : xsz ((((W0 6 xs) ++ [Sum.inr (14, [])]).set 128 (Sum.inr (12, [Value.ref 129, Value.ref 131, Value.ref 133, Value.ref 135, Value.ref 137, Value.ref 139, Value.ref 141, Value.ref 143, Value.ref 145, Value.ref 147, Value.ref 149, Value.ref 151, Value.ref 153, Value.ref 154, Value.ref 155, Value.ref 156, Value.ref 157, Value.int (-16384), Value.int 16384, Value.int 0, Value.int 0, Value.int 0, Value.ref 158, Value.ref 159, Value.int 0, Value.int 0, Value.int 0, Value.int 0, Value.int 0, Value.int 0, Value.int 0, Value.int 0]))) ++ [Sum.inr (14, [])]) = 77002 := xz_app (m := 6) z2 rfl
  have z4 : xsz (((((W0 6 xs) ++ [Sum.inr (14, [])]).set 128 (Sum.inr (12, [Value.ref 129, Value.ref 131, Value.ref 133, Value.ref 135, Value.ref 137, Value.ref 139, Value.ref 141, Value.ref 143, Value.ref 145, Value.ref 147, Value.ref 149, Value.ref 151, Value.ref 153, Value.ref 154, Value.ref 155, Value.ref 156, Value.ref 157, Value.int (-16384), Value.int 16384, Value.int 0, Value.int 0, Value.int 0, Value.ref 158, Value.ref 159, Value.int 0, Value.int 0, Value.int 0, Value.int 0, Value.int 0, Value.int 0, Value.int 0, Value.int 0]))) ++ [Sum.inr (14, [])]).set 128 (Sum.inr (12, [Value.ref 129, Value.ref 131, Value.ref 133, Value.ref 135, Value.ref 137, Value.ref 139, Value.ref 141, Value.ref 143, Value.ref 145, Value.ref 147, Value.ref 149, Value.ref 151, Value.ref 153, Value.ref 154, Value.ref 155, Value.ref 156, Value.ref 157, Value.int (-16384), Value.int 16384, Value.int 0, Value.int 0, Value.int 0, Value.ref 158, Value.ref 159, Value.int 0, Value.int 0, Value.int 0, Value.int 0, Value.int 0, Value.int 0, Value.int 0, Value.int 1]))) = 77002 := xz_set z3 (xga (xgs (xga W0_128))) xcs_o
  refine ⟨(((((W0 6 xs) ++ [Sum.inr (14, [])]).set 128 (Sum.inr (12, [Value.ref 129, Value.ref 131, Value.ref 133, Value.ref 135, Value.ref 137, Value.ref 139, Value.ref 141, Value.ref 143, Value.ref 145, Value.ref 147, Value.ref 149, Value.ref 151, Value.ref 153, Value.ref 154, Value.ref 155, Value.ref 156, Value.ref 157, Value.int (-16384), Value.int 16384, Value.int 0, Value.int 0, Value.int 0, Value.ref 158, Value.ref 159, Value.int 0, Value.int 0, Value.int 0, Value.int 0, Value.int 0, Value.int 0, Value.int 0, Value.int 0]))) ++ [Sum.inr (14, [])]).set 128 (Sum.inr (12, [Value.ref 129, Value.ref 131, Value.ref 133, Value.ref 135, Value.ref 137, Value.ref 139, Value.ref 141, Value.ref 143, Value.ref 145, Value.ref 147, Value.ref 149, Value.ref 151, Value.ref 153, Value.ref 154, Value.ref 155, Value.ref 156, Value.ref 157, Value.int (-16384), Value.int 16384, Value.int 0, Value.int 0, Value.int 0, Value.ref 158, Value.ref 159, Value.int 0, Value.int 0, Value.int 0, Value.int 0, Value.int 0, Value.int 0, Value.int 0, Value.int 1]))), ?_, Nat.le_trans (Nat.le_of_eq (xls (xla (xls (xla (W0_len)))))) (by decide), by rw [z4]; decide⟩
  refine i_287_23 (x := 0) rfl ?_
  refine i_287_25 (x := 0) rfl ?_
  refine i_287_26 (c := 6) W0_0 (by decide) ?_
  refine i_287_27 ?_
  refine i_287_29 (c := 0) (by decide) ?_
  refine i_287_30 (fun h => absurd h (by decide)) (fun _ => ?_)
  refine i_287_33 (x := 0) rfl ?_
  refine i_287_34 (x := 0) rfl ?_
  refine i_287_36 (v := Value.int (xs 0)) W0_0 (by decide) (by decide) rfl ?_
  refine i_287_37 ?_
  refine i_287_39 (c := ((xs 0) &&& (31 : Int32))) rfl ?_
  refine i_287_40_1 (by omega) ?_
  refine i_287_220 (x := 7) rfl ?_
  refine i_287_221 (x := 0) rfl ?_
  refine i_287_222 (x := 0) rfl ?_
  refine i_287_224 ?_
  refine i_287_225 (c := 1) (by decide) ?_
  refine i_287_226 (v := Value.int (xs 1)) W0_0 (by decide) (by decide) rfl ?_
  refine i_287_227 (x := 0) rfl ?_
  refine i_287_228 (x := 0) rfl ?_
  refine i_287_230 ?_
  refine i_287_231 (c := 2) (by decide) ?_
  refine i_287_232 (v := Value.int (xs 2)) W0_0 (by decide) (by decide) rfl ?_
  refine i_287_233 (x := 0) rfl ?_
  refine i_287_234 (x := 0) rfl ?_
  refine i_287_236 ?_
  refine i_287_237 (c := 3) (by decide) ?_
  refine i_287_238 (v := Value.int (xs 3)) W0_0 (by decide) (by decide) rfl ?_
  refine i_287_239 (fun h => absurd (show (xs 3).toInt ≠ 0 by omega) (fun g => g h)) (fun _ => ?_)
  refine i_287_242 ?_
  refine i_287_243 ?_
  refine i_287_247 (x := 194) rfl ?_
  refine i_287_248 (Nat.le_of_ble_eq_true rfl) (p_18_5 W0_7 (by omega) (by omega)) ?_
  refine i_287_251 (lv2 := [(5, Value.int 1), (4, Value.int 0), (3, Value.ref 194), (2, Value.ref 128), (1, Value.ref 7), (0, Value.ref 0)]) rfl ?_
  refine i_287_253 (x := 128) rfl ?_
  refine i_287_254 (x := 0) rfl ?_
  refine i_287_255 (x := 0) rfl ?_
  refine i_287_257 ?_
  refine i_287_258 (c := 1) (by decide) ?_
  refine i_287_259 (v := Value.int (xs 1)) (xga W0_0) (by decide) (by decide) rfl ?_
  refine i_287_260 (x := 0) rfl ?_
  refine i_287_261 (x := 0) rfl ?_
  refine i_287_263 ?_
  refine i_287_264 (c := 2) (by decide) ?_
  refine i_287_265 (v := Value.int (xs 2)) (xga W0_0) (by decide) (by decide) rfl ?_
  refine i_287_266 (x := 0) rfl ?_
  refine i_287_267 (x := 0) rfl ?_
  refine i_287_269 ?_
  refine i_287_270 (c := 3) (by decide) ?_
  refine i_287_271 (v := Value.int (xs 3)) (xga W0_0) (by decide) (by decide) rfl ?_
  refine i_287_272 (fun h => absurd (show (xs 3).toInt ≠ 0 by omega) (fun g => g h)) (fun _ => ?_)
  refine i_287_275 ?_
  refine i_287_276 ?_
  refine i_287_280 (xga W0_128) (Nat.le_of_ble_eq_true rfl) (p_172_6 (xga W0_128) (by omega) (by omega)) ?_
  refine i_287_283 (lv2 := [(6, Value.int 0), (5, Value.int 1), (4, Value.int 0), (3, Value.ref 194), (2, Value.ref 128), (1, Value.ref 7), (0, Value.ref 0)]) rfl ?_
  refine i_287_285 (x := 128) rfl ?_
  refine i_287_286 (xgs (xga (xgs (xga W0_128)))) (Nat.le_of_ble_eq_true rfl) (p_165_0 (xgs (xga (xgs (xga W0_128))))) ?_
  refine i_287_289 (x := 1) rfl ?_
  refine i_287_291 (fun _ => ?_) (fun h => absurd h (by decide))
  refine i_287_296 (x := 1) rfl ?_
  refine i_287_298 (fun _ => ?_) (fun h => absurd h (by decide))
  refine i_287_313 ?_
  refine i_287_2154 (x := 0) (c := 6) (lv2 := [(4, Value.int 6), (6, Value.int 0), (5, Value.int 1), (3, Value.ref 194), (2, Value.ref 128), (1, Value.ref 7), (0, Value.ref 0)]) rfl (by decide) rfl ?_
  refine i_287_2157 ?_
  refine i_287_23 (x := 6) rfl ?_
  refine i_287_25 (x := 0) rfl ?_
  refine i_287_26 (c := 6) (xgn (by decide) (xga (xgn (by decide) (xga W0_0)))) (by decide) ?_
  refine i_287_27 ?_
  refine i_287_29 (c := 0) (by decide) ?_
  refine i_287_30 (fun _ => ?_) (fun h => absurd h (by decide))
  refine i_287_2160 ?_
  exact i_287_2161 rfl ⟨rfl, rfl⟩
theorem p_173_7 {d : Nat} {w : xW} {a0 : Int32} {a1 : Int32} (e0 : (-16384) ≤ a0.toInt) (e1 : a0.toInt ≤ 16384) (e2 : a0.toInt ≤ a1.toInt) (e3 : 16384 < a1.toInt) : xRun (d + 7) 173 [Value.ref 128, Value.int a0, Value.int a1, Value.int 1] w (.inr w.length) (w ++ [Sum.inr (14, [])]) := by
  refine xRun.of ?_
  refine i_173_0 (x := a0) rfl ?_
  refine i_173_1 ?_
  refine i_173_4 ?_
  refine i_173_7 (Nat.le_of_ble_eq_true rfl) (p_169_8 e0 e1) ?_
  refine i_173_10 (fun h => absurd h (by decide)) (fun _ => ?_)
  refine i_173_13 (x := a1) rfl ?_
  refine i_173_14 (x := a0) rfl ?_
  refine i_173_15 ?_
  refine i_173_18 (Nat.le_of_ble_eq_true rfl) (p_169_9 e2 e3) ?_
  refine i_173_21 (fun _ => ?_) (fun h => absurd h (by decide))
  refine i_173_28 ?_
  exact j_173_29 (Nat.le_of_ble_eq_true rfl) (p_170_0) (xDone.t xgl rfl rfl ⟨rfl, rfl⟩)
theorem p_172_7 {d : Nat} {w : xW} {a0 : Int32} {a1 : Int32} (hw0 : w[128]? = some (Sum.inr (12, [Value.ref 129, Value.ref 131, Value.ref 133, Value.ref 135, Value.ref 137, Value.ref 139, Value.ref 141, Value.ref 143, Value.ref 145, Value.ref 147, Value.ref 149, Value.ref 151, Value.ref 153, Value.ref 154, Value.ref 155, Value.ref 156, Value.ref 157, Value.int (-16384), Value.int 16384, Value.int 0, Value.int 0, Value.int 0, Value.ref 158, Value.ref 159, Value.int 0, Value.int 0, Value.int 0, Value.int 0, Value.int 0, Value.int 0, Value.int 0, Value.int 0]))) (e1 : (-16384) ≤ a0.toInt) (e2 : a0.toInt ≤ 16384) (e3 : a0.toInt ≤ a1.toInt) (e4 : 16384 < a1.toInt) : xRun (d + 8) 172 [Value.ref 128, Value.int a0, Value.int a1, Value.int 1] w (.inl (some (Value.int 0))) (((w.set 128 (Sum.inr (12, [Value.ref 129, Value.ref 131, Value.ref 133, Value.ref 135, Value.ref 137, Value.ref 139, Value.ref 141, Value.ref 143, Value.ref 145, Value.ref 147, Value.ref 149, Value.ref 151, Value.ref 153, Value.ref 154, Value.ref 155, Value.ref 156, Value.ref 157, Value.int (-16384), Value.int 16384, Value.int 0, Value.int 0, Value.int 0, Value.ref 158, Value.ref 159, Value.int 0, Value.int 0, Value.int 0, Value.int 0, Value.int 0, Value.int 0, Value.int 0, Value.int 0]))) ++ [Sum.inr (14, [])]).set 128 (Sum.inr (12, [Value.ref 129, Value.ref 131, Value.ref 133, Value.ref 135, Value.ref 137, Value.ref 139, Value.ref 141, Value.ref 143, Value.ref 145, Value.ref 147, Value.ref 149, Value.ref 151, Value.ref 153, Value.ref 154, Value.ref 155, Value.ref 156, Value.ref 157, Value.int (-16384), Value.int 16384, Value.int 0, Value.int 0, Value.int 0, Value.ref 158, Value.ref 159, Value.int 0, Value.int 0, Value.int 0, Value.int 0, Value.int 0, Value.int 0, Value.int 0, Value.int 1]))) := by
  refine xRun.of ?_
  refine i_172_0 (x := 128) rfl ?_
  refine i_172_1 ?_
  refine i_172_2 (fs2 := [Value.ref 129, Value.ref 131, Value.ref 133, Value.ref 135, Value.ref 137, Value.ref 139, Value.ref 141, Value.ref 143, Value.ref 145, Value.ref 147, Value.ref 149, Value.ref 151, Value.ref 153, Value.ref 154, Value.ref 155, Value.ref 156, Value.ref 157, Value.int (-16384), Value.int 16384, Value.int 0, Value.int 0, Value.int 0, Value.ref 158, Value.ref 159, Value.int 0, Value.int 0, Value.int 0, Value.int 0, Value.int 0, Value.int 0, Value.int 0, Value.int 0]) hw0 (Nat.le_of_ble_eq_true rfl) rfl (by decide) ?_
  refine i_172_5 (x := 128) rfl ?_
  refine i_172_6 (x := a0) rfl ?_
  refine i_172_7 (x := a1) rfl ?_
  refine i_172_8 (x := 1) rfl ?_
  refine j_172_9 (xgs hw0) (Nat.le_of_ble_eq_true rfl) (p_173_7 e1 e2 e3 e4) (xDone.c xgl rfl rfl ?_)
  refine i_172_13 (lv2 := [(4, Value.ref ((w.set 128 (Sum.inr (12, [Value.ref 129, Value.ref 131, Value.ref 133, Value.ref 135, Value.ref 137, Value.ref 139, Value.ref 141, Value.ref 143, Value.ref 145, Value.ref 147, Value.ref 149, Value.ref 151, Value.ref 153, Value.ref 154, Value.ref 155, Value.ref 156, Value.ref 157, Value.int (-16384), Value.int 16384, Value.int 0, Value.int 0, Value.int 0, Value.ref 158, Value.ref 159, Value.int 0, Value.int 0, Value.int 0, Value.int 0, Value.int 0, Value.int 0, Value.int 0, Value.int 0]))).length)), (0, Value.ref 128), (1, Value.int a0), (2, Value.int a1), (3, Value.int 1)]) rfl ?_
  refine i_172_15 (x := 128) rfl ?_
  refine i_172_16 ?_
  refine i_172_17 (fs2 := [Value.ref 129, Value.ref 131, Value.ref 133, Value.ref 135, Value.ref 137, Value.ref 139, Value.ref 141, Value.ref 143, Value.ref 145, Value.ref 147, Value.ref 149, Value.ref 151, Value.ref 153, Value.ref 154, Value.ref 155, Value.ref 156, Value.ref 157, Value.int (-16384), Value.int 16384, Value.int 0, Value.int 0, Value.int 0, Value.ref 158, Value.ref 159, Value.int 0, Value.int 0, Value.int 0, Value.int 0, Value.int 0, Value.int 0, Value.int 0, Value.int 1]) (xga (xgs hw0)) (Nat.le_of_ble_eq_true rfl) rfl (by decide) ?_
  refine i_172_20 ?_
  exact i_172_21 ⟨rfl, rfl⟩
theorem o_1_9 {d : Nat} {xs : Nat → Int32} (h0 : ((xs 0) &&& (31 : Int32)).toInt = 1) (c0 : (xs 3).toInt ≠ 0) (c1 : (-16384) ≤ (xs 1).toInt) (c2 : 16384 < (xs 2).toInt) (c3 : (xs 1).toInt ≤ 16384) : ∃ w1, xEv (d + 20) 287 23 [(4, Value.int 0), (3, Value.ref 194), (2, Value.ref 128), (1, Value.ref 7), (0, Value.ref 0)] [] (W0 6 xs) (fun o' w' => o' = .inl (some (Value.int 1)) ∧ w' = w1) ∧ w1.length ≤ 220 ∧ xsz w1 ≤ 200000 := by
  have z0 : xsz (W0 6 xs) = 76990 := W0_sz
  have z1 : xsz ((W0 6 xs) ++ [Sum.inr (14, [])]) = 76996 := xz_app (m := 6) z0 rfl
  have z2 : xsz (((W0 6 xs) ++ [Sum.inr (14, [])]).set 128 (Sum.inr (12, [Value.ref 129, Value.ref 131, Value.ref 133, Value.ref 135, Value.ref 137, Value.ref 139, Value.ref 141, Value.ref 143, Value.ref 145, Value.ref 147, Value.ref 149, Value.ref 151, Value.ref 153, Value.ref 154, Value.ref 155, Value.ref 156, Value.ref 157, Value.int (-16384), Value.int 16384, Value.int 0, Value.int 0, Value.int 0, Value.ref 158, Value.ref 159, Value.int 0, Value.int 0, Value.int 0, Value.int 0, Value.int 0, Value.int 0, Value.int 0, Value.int 0]))) = 76996 := xz_set z1 (xga W0_128) xcs_o
  have z3 : xsz ((((W0 6 xs) ++ [Sum.inr (14, [])]).set 128 (Sum.inr (12, [Value.ref 129, Value.ref 131, Value.ref 133, Value.ref 135, Value.ref 137, Value.ref 139, Value.ref 141, Value.ref 143, Value.ref 145, Value.ref 147, Value.ref 149, Value.ref 151, Value.ref 153, Value.ref 154, Value.ref 155, Value.ref 156, Value.ref 157, Value.int (-16384), Value.int 16384, Value.int 0, Value.int 0, Value.int 0, Value.ref 158, Value.ref 159, Value.int 0, Value.int 0, Value.int 0, Value.int 0, Value.int 0, Value.int 0, Value.int 0, Value.int 0]))) ++ [Sum.inr (14, [])]) = 77002 := xz_app (m := 6) z2 rfl
  have z4 : xsz (((((W0 6 xs) ++ [Sum.inr (14, [])]).set 128 (Sum.inr (12, [Value.ref 129, Value.ref 131, Value.ref 133, Value.ref 135, Value.ref 137, Value.ref 139, Value.ref 141, Value.ref 143, Value.ref 145, Value.ref 147, Value.ref 149, Value.ref 151, Value.ref 153, Value.ref 154, Value.ref 155, Value.ref 156, Value.ref 157, Value.int (-16384), Value.int 16384, Value.int 0, Value.int 0, Value.int 0, Value.ref 158, Value.ref 159, Value.int 0, Value.int 0, Value.int 0, Value.int 0, Value.int 0, Value.int 0, Value.int 0, Value.int 0]))) ++ [Sum.inr (14, [])]).set 128 (Sum.inr (12, [Value.ref 129, Value.ref 131, Value.ref 133, Value.ref 135, Value.ref 137, Value.ref 139, Value.ref 141, Value.ref 143, Value.ref 145, Value.ref 147, Value.ref 149, Value.ref 151, Value.ref 153, Value.ref 154, Value.ref 155, Value.ref 156, Value.ref 157, Value.int (-16384), Value.int 16384, Value.int 0, Value.int 0, Value.int 0, Value.ref 158, Value.ref 159, Value.int 0, Value.int 0, Value.int 0, Value.int 0, Value.int 0, Value.int 0, Value.int 0, Value.int 1]))) = 77002 := xz_set z3 (xga (xgs (xga W0_128))) xcs_o
  refine ⟨(((((W0 6 xs) ++ [Sum.inr (14, [])]).set 128 (Sum.inr (12, [Value.ref 129, Value.ref 131, Value.ref 133, Value.ref 135, Value.ref 137, Value.ref 139, Value.ref 141, Value.ref 143, Value.ref 145, Value.ref 147, Value.ref 149, Value.ref 151, Value.ref 153, Value.ref 154, Value.ref 155, Value.ref 156, Value.ref 157, Value.int (-16384), Value.int 16384, Value.int 0, Value.int 0, Value.int 0, Value.ref 158, Value.ref 159, Value.int 0, Value.int 0, Value.int 0, Value.int 0, Value.int 0, Value.int 0, Value.int 0, Value.int 0]))) ++ [Sum.inr (14, [])]).set 128 (Sum.inr (12, [Value.ref 129, Value.ref 131, Value.ref 133, Value.ref 135, Value.ref 137, Value.ref 139, Value.ref 141, Value.ref 143, Value.ref 145, Value.ref 147, Value.ref 149, Value.ref 151, Value.ref 153, Value.ref 154, Value.ref 155, Value.ref 156, Value.ref 157, Value.int (-16384), Value.int 16384, Value.int 0, Value.int 0, Value.int 0, Value.ref 158, Value.ref 159, Value.int 0, Value.int 0, Value.int 0, Value.int 0, Value.int 0, Value.int 0, Value.int 0, Value.int 1]))), ?_, Nat.le_trans (Nat.le_of_eq (xls (xla (xls (xla (W0_len)))))) (by decide), by rw [z4]; decide⟩
  refine i_287_23 (x := 0) rfl ?_
  refine i_287_25 (x := 0) rfl ?_
  refine i_287_26 (c := 6) W0_0 (by decide) ?_
  refine i_287_27 ?_
  refine i_287_29 (c := 0) (by decide) ?_
  refine i_287_30 (fun h => absurd h (by decide)) (fun _ => ?_)
  refine i_287_33 (x := 0) rfl ?_
  refine i_287_34 (x := 0) rfl ?_
  refine i_287_36 (v := Value.int (xs 0)) W0_0 (by decide) (by decide) rfl ?_
  refine i_287_37 ?_
  refine i_287_39 (c := ((xs 0) &&& (31 : Int32))) rfl ?_
  refine i_287_40_1 (by omega) ?_
  refine i_287_220 (x := 7) rfl ?_
  refine i_287_221 (x := 0) rfl ?_
  refine i_287_222 (x := 0) rfl ?_
  refine i_287_224 ?_
  refine i_287_225 (c := 1) (by decide) ?_
  refine i_287_226 (v := Value.int (xs 1)) W0_0 (by decide) (by decide) rfl ?_
  refine i_287_227 (x := 0) rfl ?_
  refine i_287_228 (x := 0) rfl ?_
  refine i_287_230 ?_
  refine i_287_231 (c := 2) (by decide) ?_
  refine i_287_232 (v := Value.int (xs 2)) W0_0 (by decide) (by decide) rfl ?_
  refine i_287_233 (x := 0) rfl ?_
  refine i_287_234 (x := 0) rfl ?_
  refine i_287_236 ?_
  refine i_287_237 (c := 3) (by decide) ?_
  refine i_287_238 (v := Value.int (xs 3)) W0_0 (by decide) (by decide) rfl ?_
  refine i_287_239 (fun h => absurd (show (xs 3).toInt ≠ 0 by omega) (fun g => g h)) (fun _ => ?_)
  refine i_287_242 ?_
  refine i_287_243 ?_
  refine i_287_247 (x := 194) rfl ?_
  refine i_287_248 (Nat.le_of_ble_eq_true rfl) (p_18_5 W0_7 (by omega) (by omega)) ?_
  refine i_287_251 (lv2 := [(5, Value.int 1), (4, Value.int 0), (3, Value.ref 194), (2, Value.ref 128), (1, Value.ref 7), (0, Value.ref 0)]) rfl ?_
  refine i_287_253 (x := 128) rfl ?_
  refine i_287_254 (x := 0) rfl ?_
  refine i_287_255 (x := 0) rfl ?_
  refine i_287_257 ?_
  refine i_287_258 (c := 1) (by decide) ?_
  refine i_287_259 (v := Value.int (xs 1)) (xga W0_0) (by decide) (by decide) rfl ?_
  refine i_287_260 (x := 0) rfl ?_
  refine i_287_261 (x := 0) rfl ?_
  refine i_287_263 ?_
  refine i_287_264 (c := 2) (by decide) ?_
  refine i_287_265 (v := Value.int (xs 2)) (xga W0_0) (by decide) (by decide) rfl ?_
  refine i_287_266 (x := 0) rfl ?_
  refine i_287_267 (x := 0) rfl ?_
  refine i_287_269 ?_
  refine i_287_270 (c := 3) (by decide) ?_
  refine i_287_271 (v := Value.int (xs 3)) (xga W0_0) (by decide) (by decide) rfl ?_
  refine i_287_272 (fun h => absurd (show (xs 3).toInt ≠ 0 by omega) (fun g => g h)) (fun _ => ?_)
  refine i_287_275 ?_
  refine i_287_276 ?_
  refine i_287_280 (xga W0_128) (Nat.le_of_ble_eq_true rfl) (p_172_7 (xga W0_128) (by omega) (by omega) (by omega) (by omega)) ?_
  refine i_287_283 (lv2 := [(6, Value.int 0), (5, Value.int 1), (4, Value.int 0), (3, Value.ref 194), (2, Value.ref 128), (1, Value.ref 7), (0, Value.ref 0)]) rfl ?_
  refine i_287_285 (x := 128) rfl ?_
  refine i_287_286 (xgs (xga (xgs (xga W0_128)))) (Nat.le_of_ble_eq_true rfl) (p_165_0 (xgs (xga (xgs (xga W0_128))))) ?_
  refine i_287_289 (x := 1) rfl ?_
  refine i_287_291 (fun _ => ?_) (fun h => absurd h (by decide))
  refine i_287_296 (x := 1) rfl ?_
  refine i_287_298 (fun _ => ?_) (fun h => absurd h (by decide))
  refine i_287_313 ?_
  refine i_287_2154 (x := 0) (c := 6) (lv2 := [(4, Value.int 6), (6, Value.int 0), (5, Value.int 1), (3, Value.ref 194), (2, Value.ref 128), (1, Value.ref 7), (0, Value.ref 0)]) rfl (by decide) rfl ?_
  refine i_287_2157 ?_
  refine i_287_23 (x := 6) rfl ?_
  refine i_287_25 (x := 0) rfl ?_
  refine i_287_26 (c := 6) (xgn (by decide) (xga (xgn (by decide) (xga W0_0)))) (by decide) ?_
  refine i_287_27 ?_
  refine i_287_29 (c := 0) (by decide) ?_
  refine i_287_30 (fun _ => ?_) (fun h => absurd h (by decide))
  refine i_287_2160 ?_
  exact i_287_2161 rfl ⟨rfl, rfl⟩
theorem p_19_6 {d : Nat} {w : xW} {a0 : Int32} {a1 : Int32} (e0 : (-16384) ≤ a0.toInt) (e1 : a1.toInt ≤ 16384) (e2 : a1.toInt < a0.toInt) : xRun (d + 6) 19 [Value.ref 7, Value.int a0, Value.int a1, Value.int 1] w (.inr w.length) (w ++ [Sum.inr (14, [])]) := by
  refine xRun.of ?_
  refine i_19_0 (x := a0) rfl ?_
  refine i_19_1 ?_
  refine i_19_4 (fun h => absurd e0 (Int.not_le.mpr h)) (fun _ => ?_)
  refine i_19_7 (x := a1) rfl ?_
  refine i_19_8 ?_
  refine i_19_11 (fun h => absurd e1 (Int.not_le.mpr h)) (fun _ => ?_)
  refine i_19_14 (x := a0) rfl ?_
  refine i_19_15 (x := a1) rfl ?_
  refine i_19_16 (fun h => absurd e2 (Int.not_lt.mpr h)) (fun _ => ?_)
  exact i_19_19 (by omega) (Nat.le_of_ble_eq_true rfl) ⟨rfl, rfl⟩
theorem p_18_6 {d : Nat} {w : xW} {a0 : Int32} {a1 : Int32} (hw0 : w[7]? = some (Sum.inr (0, [Value.ref 8, Value.ref 78, Value.ref 9, Value.ref 10, Value.ref 13, Value.ref 16, Value.ref 19, Value.ref 93, Value.ref 108, Value.ref 113, Value.ref 29, Value.int 0]))) (e1 : (-16384) ≤ a0.toInt) (e2 : a1.toInt ≤ 16384) (e3 : a1.toInt < a0.toInt) : xRun (d + 7) 18 [Value.ref 7, Value.int a0, Value.int a1, Value.int 1, Value.ref 194] w (.inl (some (Value.int 1))) (w ++ [Sum.inr (14, [])]) := by
  refine xRun.of ?_
  refine i_18_0 (x := 194) rfl ?_
  refine i_18_2 ?_
  refine i_18_3 (x := 7) rfl ?_
  refine i_18_4 (x := a0) rfl ?_
  refine i_18_5 (x := a1) rfl ?_
  refine i_18_6 (x := 1) rfl ?_
  refine j_18_7 hw0 (Nat.le_of_ble_eq_true rfl) (p_19_6 e1 e2 e3) (xDone.c xgl rfl rfl ?_)
  refine i_18_15 (lv2 := [(5, Value.ref w.length), (0, Value.ref 7), (1, Value.int a0), (2, Value.int a1), (3, Value.int 1), (4, Value.ref 194)]) rfl ?_
  refine i_18_17 ?_
  exact i_18_18 ⟨rfl, rfl⟩
theorem o_1_10 {d : Nat} {xs : Nat → Int32} (h0 : ((xs 0) &&& (31 : Int32)).toInt = 1) (c0 : (xs 3).toInt ≠ 0) (c1 : (-16384) ≤ (xs 1).toInt) (c2 : (xs 2).toInt ≤ 16384) (c3 : (xs 2).toInt < (xs 1).toInt) (c4 : 16384 < (xs 1).toInt) : ∃ w1, xEv (d + 20) 287 23 [(4, Value.int 0), (3, Value.ref 194), (2, Value.ref 128), (1, Value.ref 7), (0, Value.ref 0)] [] (W0 6 xs) (fun o' w' => o' = .inl (some (Value.int 1)) ∧ w' = w1) ∧ w1.length ≤ 220 ∧ xsz w1 ≤ 200000 := by
  have z0 : xsz (W0 6 xs) = 76990 := W0_sz
  have z1 : xsz ((W0 6 xs) ++ [Sum.inr (14, [])]) = 76996 := xz_app (m := 6) z0 rfl
  have z2 : xsz (((W0 6 xs) ++ [Sum.inr (14, [])]).set 128 (Sum.inr (12, [Value.ref 129, Value.ref 131, Value.ref 133, Value.ref 135, Value.ref 137, Value.ref 139, Value.ref 141, Value.ref 143, Value.ref 145, Value.ref 147, Value.ref 149, Value.ref 151, Value.ref 153, Value.ref 154, Value.ref 155, Value.ref 156, Value.ref 157, Value.int (-16384), Value.int 16384, Value.int 0, Value.int 0, Value.int 0, Value.ref 158, Value.ref 159, Value.int 0, Value.int 0, Value.int 0, Value.int 0, Value.int 0, Value.int 0, Value.int 0, Value.int 0]))) = 76996 := xz_set z1 (xga W0_128) xcs_o
  have z3 : xsz ((((W0 6 xs) ++ [Sum.inr (14, [])]).set 128 (Sum.inr (12, [Value.ref 129, Value.ref 131, Value.ref 133, Value.ref 135, Value.ref 137, Value.ref 139, Value.ref 141, Value.ref 143, Value.ref 145, Value.ref 147, Value.ref 149, Value.ref 151, Value.ref 153, Value.ref 154, Value.ref 155, Value.ref 156, Value.ref 157, Value.int (-16384), Value.int 16384, Value.int 0, Value.int 0, Value.int 0, Value.ref 158, Value.ref 159, Value.int 0, Value.int 0, Value.int 0, Value.int 0, Value.int 0, Value.int 0, Value.int 0, Value.int 0]))) ++ [Sum.inr (14, [])]) = 77002 := xz_app (m := 6) z2 rfl
  have z4 : xsz (((((W0 6 xs) ++ [Sum.inr (14, [])]).set 128 (Sum.inr (12, [Value.ref 129, Value.ref 131, Value.ref 133, Value.ref 135, Value.ref 137, Value.ref 139, Value.ref 141, Value.ref 143, Value.ref 145, Value.ref 147, Value.ref 149, Value.ref 151, Value.ref 153, Value.ref 154, Value.ref 155, Value.ref 156, Value.ref 157, Value.int (-16384), Value.int 16384, Value.int 0, Value.int 0, Value.int 0, Value.ref 158, Value.ref 159, Value.int 0, Value.int 0, Value.int 0, Value.int 0, Value.int 0, Value.int 0, Value.int 0, Value.int 0]))) ++ [Sum.inr (14, [])]).set 128 (Sum.inr (12, [Value.ref 129, Value.ref 131, Value.ref 133, Value.ref 135, Value.ref 137, Value.ref 139, Value.ref 141, Value.ref 143, Value.ref 145, Value.ref 147, Value.ref 149, Value.ref 151, Value.ref 153, Value.ref 154, Value.ref 155, Value.ref 156, Value.ref 157, Value.int (-16384), Value.int 16384, Value.int 0, Value.int 0, Value.int 0, Value.ref 158, Value.ref 159, Value.int 0, Value.int 0, Value.int 0, Value.int 0, Value.int 0, Value.int 0, Value.int 0, Value.int 1]))) = 77002 := xz_set z3 (xga (xgs (xga W0_128))) xcs_o
  refine ⟨(((((W0 6 xs) ++ [Sum.inr (14, [])]).set 128 (Sum.inr (12, [Value.ref 129, Value.ref 131, Value.ref 133, Value.ref 135, Value.ref 137, Value.ref 139, Value.ref 141, Value.ref 143, Value.ref 145, Value.ref 147, Value.ref 149, Value.ref 151, Value.ref 153, Value.ref 154, Value.ref 155, Value.ref 156, Value.ref 157, Value.int (-16384), Value.int 16384, Value.int 0, Value.int 0, Value.int 0, Value.ref 158, Value.ref 159, Value.int 0, Value.int 0, Value.int 0, Value.int 0, Value.int 0, Value.int 0, Value.int 0, Value.int 0]))) ++ [Sum.inr (14, [])]).set 128 (Sum.inr (12, [Value.ref 129, Value.ref 131, Value.ref 133, Value.ref 135, Value.ref 137, Value.ref 139, Value.ref 141, Value.ref 143, Value.ref 145, Value.ref 147, Value.ref 149, Value.ref 151, Value.ref 153, Value.ref 154, Value.ref 155, Value.ref 156, Value.ref 157, Value.int (-16384), Value.int 16384, Value.int 0, Value.int 0, Value.int 0, Value.ref 158, Value.ref 159, Value.int 0, Value.int 0, Value.int 0, Value.int 0, Value.int 0, Value.int 0, Value.int 0, Value.int 1]))), ?_, Nat.le_trans (Nat.le_of_eq (xls (xla (xls (xla (W0_len)))))) (by decide), by rw [z4]; decide⟩
  refine i_287_23 (x := 0) rfl ?_
  refine i_287_25 (x := 0) rfl ?_
  refine i_287_26 (c := 6) W0_0 (by decide) ?_
  refine i_287_27 ?_
  refine i_287_29 (c := 0) (by decide) ?_
  refine i_287_30 (fun h => absurd h (by decide)) (fun _ => ?_)
  refine i_287_33 (x := 0) rfl ?_
  refine i_287_34 (x := 0) rfl ?_
  refine i_287_36 (v := Value.int (xs 0)) W0_0 (by decide) (by decide) rfl ?_
  refine i_287_37 ?_
  refine i_287_39 (c := ((xs 0) &&& (31 : Int32))) rfl ?_
  refine i_287_40_1 (by omega) ?_
  refine i_287_220 (x := 7) rfl ?_
  refine i_287_221 (x := 0) rfl ?_
  refine i_287_222 (x := 0) rfl ?_
  refine i_287_224 ?_
  refine i_287_225 (c := 1) (by decide) ?_
  refine i_287_226 (v := Value.int (xs 1)) W0_0 (by decide) (by decide) rfl ?_
  refine i_287_227 (x := 0) rfl ?_
  refine i_287_228 (x := 0) rfl ?_
  refine i_287_230 ?_
  refine i_287_231 (c := 2) (by decide) ?_
  refine i_287_232 (v := Value.int (xs 2)) W0_0 (by decide) (by decide) rfl ?_
  refine i_287_233 (x := 0) rfl ?_
  refine i_287_234 (x := 0) rfl ?_
  refine i_287_236 ?_
  refine i_287_237 (c := 3) (by decide) ?_
  refine i_287_238 (v := Value.int (xs 3)) W0_0 (by decide) (by decide) rfl ?_
  refine i_287_239 (fun h => absurd (show (xs 3).toInt ≠ 0 by omega) (fun g => g h)) (fun _ => ?_)
  refine i_287_242 ?_
  refine i_287_243 ?_
  refine i_287_247 (x := 194) rfl ?_
  refine i_287_248 (Nat.le_of_ble_eq_true rfl) (p_18_6 W0_7 (by omega) (by omega) (by omega)) ?_
  refine i_287_251 (lv2 := [(5, Value.int 1), (4, Value.int 0), (3, Value.ref 194), (2, Value.ref 128), (1, Value.ref 7), (0, Value.ref 0)]) rfl ?_
  refine i_287_253 (x := 128) rfl ?_
  refine i_287_254 (x := 0) rfl ?_
  refine i_287_255 (x := 0) rfl ?_
  refine i_287_257 ?_
  refine i_287_258 (c := 1) (by decide) ?_
  refine i_287_259 (v := Value.int (xs 1)) (xga W0_0) (by decide) (by decide) rfl ?_
  refine i_287_260 (x := 0) rfl ?_
  refine i_287_261 (x := 0) rfl ?_
  refine i_287_263 ?_
  refine i_287_264 (c := 2) (by decide) ?_
  refine i_287_265 (v := Value.int (xs 2)) (xga W0_0) (by decide) (by decide) rfl ?_
  refine i_287_266 (x := 0) rfl ?_
  refine i_287_267 (x := 0) rfl ?_
  refine i_287_269 ?_
  refine i_287_270 (c := 3) (by decide) ?_
  refine i_287_271 (v := Value.int (xs 3)) (xga W0_0) (by decide) (by decide) rfl ?_
  refine i_287_272 (fun h => absurd (show (xs 3).toInt ≠ 0 by omega) (fun g => g h)) (fun _ => ?_)
  refine i_287_275 ?_
  refine i_287_276 ?_
  refine i_287_280 (xga W0_128) (Nat.le_of_ble_eq_true rfl) (p_172_6 (xga W0_128) (by omega) (by omega)) ?_
  refine i_287_283 (lv2 := [(6, Value.int 0), (5, Value.int 1), (4, Value.int 0), (3, Value.ref 194), (2, Value.ref 128), (1, Value.ref 7), (0, Value.ref 0)]) rfl ?_
  refine i_287_285 (x := 128) rfl ?_
  refine i_287_286 (xgs (xga (xgs (xga W0_128)))) (Nat.le_of_ble_eq_true rfl) (p_165_0 (xgs (xga (xgs (xga W0_128))))) ?_
  refine i_287_289 (x := 1) rfl ?_
  refine i_287_291 (fun _ => ?_) (fun h => absurd h (by decide))
  refine i_287_296 (x := 1) rfl ?_
  refine i_287_298 (fun _ => ?_) (fun h => absurd h (by decide))
  refine i_287_313 ?_
  refine i_287_2154 (x := 0) (c := 6) (lv2 := [(4, Value.int 6), (6, Value.int 0), (5, Value.int 1), (3, Value.ref 194), (2, Value.ref 128), (1, Value.ref 7), (0, Value.ref 0)]) rfl (by decide) rfl ?_
  refine i_287_2157 ?_
  refine i_287_23 (x := 6) rfl ?_
  refine i_287_25 (x := 0) rfl ?_
  refine i_287_26 (c := 6) (xgn (by decide) (xga (xgn (by decide) (xga W0_0)))) (by decide) ?_
  refine i_287_27 ?_
  refine i_287_29 (c := 0) (by decide) ?_
  refine i_287_30 (fun _ => ?_) (fun h => absurd h (by decide))
  refine i_287_2160 ?_
  exact i_287_2161 rfl ⟨rfl, rfl⟩
theorem p_173_8 {d : Nat} {w : xW} {a0 : Int32} {a1 : Int32} (e0 : (-16384) ≤ a0.toInt) (e1 : a0.toInt ≤ 16384) (e2 : a1.toInt < a0.toInt) : xRun (d + 7) 173 [Value.ref 128, Value.int a0, Value.int a1, Value.int 1] w (.inr w.length) (w ++ [Sum.inr (14, [])]) := by
  refine xRun.of ?_
  refine i_173_0 (x := a0) rfl ?_
  refine i_173_1 ?_
  refine i_173_4 ?_
  refine i_173_7 (Nat.le_of_ble_eq_true rfl) (p_169_8 e0 e1) ?_
  refine i_173_10 (fun h => absurd h (by decide)) (fun _ => ?_)
  refine i_173_13 (x := a1) rfl ?_
  refine i_173_14 (x := a0) rfl ?_
  refine i_173_15 ?_
  refine i_173_18 (Nat.le_of_ble_eq_true rfl) (p_169_10 e2) ?_
  refine i_173_21 (fun _ => ?_) (fun h => absurd h (by decide))
  refine i_173_28 ?_
  exact j_173_29 (Nat.le_of_ble_eq_true rfl) (p_170_0) (xDone.t xgl rfl rfl ⟨rfl, rfl⟩)
theorem p_172_8 {d : Nat} {w : xW} {a0 : Int32} {a1 : Int32} (hw0 : w[128]? = some (Sum.inr (12, [Value.ref 129, Value.ref 131, Value.ref 133, Value.ref 135, Value.ref 137, Value.ref 139, Value.ref 141, Value.ref 143, Value.ref 145, Value.ref 147, Value.ref 149, Value.ref 151, Value.ref 153, Value.ref 154, Value.ref 155, Value.ref 156, Value.ref 157, Value.int (-16384), Value.int 16384, Value.int 0, Value.int 0, Value.int 0, Value.ref 158, Value.ref 159, Value.int 0, Value.int 0, Value.int 0, Value.int 0, Value.int 0, Value.int 0, Value.int 0, Value.int 0]))) (e1 : (-16384) ≤ a0.toInt) (e2 : a0.toInt ≤ 16384) (e3 : a1.toInt < a0.toInt) : xRun (d + 8) 172 [Value.ref 128, Value.int a0, Value.int a1, Value.int 1] w (.inl (some (Value.int 0))) (((w.set 128 (Sum.inr (12, [Value.ref 129, Value.ref 131, Value.ref 133, Value.ref 135, Value.ref 137, Value.ref 139, Value.ref 141, Value.ref 143, Value.ref 145, Value.ref 147, Value.ref 149, Value.ref 151, Value.ref 153, Value.ref 154, Value.ref 155, Value.ref 156, Value.ref 157, Value.int (-16384), Value.int 16384, Value.int 0, Value.int 0, Value.int 0, Value.ref 158, Value.ref 159, Value.int 0, Value.int 0, Value.int 0, Value.int 0, Value.int 0, Value.int 0, Value.int 0, Value.int 0]))) ++ [Sum.inr (14, [])]).set 128 (Sum.inr (12, [Value.ref 129, Value.ref 131, Value.ref 133, Value.ref 135, Value.ref 137, Value.ref 139, Value.ref 141, Value.ref 143, Value.ref 145, Value.ref 147, Value.ref 149, Value.ref 151, Value.ref 153, Value.ref 154, Value.ref 155, Value.ref 156, Value.ref 157, Value.int (-16384), Value.int 16384, Value.int 0, Value.int 0, Value.int 0, Value.ref 158, Value.ref 159, Value.int 0, Value.int 0, Value.int 0, Value.int 0, Value.int 0, Value.int 0, Value.int 0, Value.int 1]))) := by
  refine xRun.of ?_
  refine i_172_0 (x := 128) rfl ?_
  refine i_172_1 ?_
  refine i_172_2 (fs2 := [Value.ref 129, Value.ref 131, Value.ref 133, Value.ref 135, Value.ref 137, Value.ref 139, Value.ref 141, Value.ref 143, Value.ref 145, Value.ref 147, Value.ref 149, Value.ref 151, Value.ref 153, Value.ref 154, Value.ref 155, Value.ref 156, Value.ref 157, Value.int (-16384), Value.int 16384, Value.int 0, Value.int 0, Value.int 0, Value.ref 158, Value.ref 159, Value.int 0, Value.int 0, Value.int 0, Value.int 0, Value.int 0, Value.int 0, Value.int 0, Value.int 0]) hw0 (Nat.le_of_ble_eq_true rfl) rfl (by decide) ?_
  refine i_172_5 (x := 128) rfl ?_
  refine i_172_6 (x := a0) rfl ?_
  refine i_172_7 (x := a1) rfl ?_
  refine i_172_8 (x := 1) rfl ?_
  refine j_172_9 (xgs hw0) (Nat.le_of_ble_eq_true rfl) (p_173_8 e1 e2 e3) (xDone.c xgl rfl rfl ?_)
  refine i_172_13 (lv2 := [(4, Value.ref ((w.set 128 (Sum.inr (12, [Value.ref 129, Value.ref 131, Value.ref 133, Value.ref 135, Value.ref 137, Value.ref 139, Value.ref 141, Value.ref 143, Value.ref 145, Value.ref 147, Value.ref 149, Value.ref 151, Value.ref 153, Value.ref 154, Value.ref 155, Value.ref 156, Value.ref 157, Value.int (-16384), Value.int 16384, Value.int 0, Value.int 0, Value.int 0, Value.ref 158, Value.ref 159, Value.int 0, Value.int 0, Value.int 0, Value.int 0, Value.int 0, Value.int 0, Value.int 0, Value.int 0]))).length)), (0, Value.ref 128), (1, Value.int a0), (2, Value.int a1), (3, Value.int 1)]) rfl ?_
  refine i_172_15 (x := 128) rfl ?_
  refine i_172_16 ?_
  refine i_172_17 (fs2 := [Value.ref 129, Value.ref 131, Value.ref 133, Value.ref 135, Value.ref 137, Value.ref 139, Value.ref 141, Value.ref 143, Value.ref 145, Value.ref 147, Value.ref 149, Value.ref 151, Value.ref 153, Value.ref 154, Value.ref 155, Value.ref 156, Value.ref 157, Value.int (-16384), Value.int 16384, Value.int 0, Value.int 0, Value.int 0, Value.ref 158, Value.ref 159, Value.int 0, Value.int 0, Value.int 0, Value.int 0, Value.int 0, Value.int 0, Value.int 0, Value.int 1]) (xga (xgs hw0)) (Nat.le_of_ble_eq_true rfl) rfl (by decide) ?_
  refine i_172_20 ?_
  exact i_172_21 ⟨rfl, rfl⟩
theorem o_1_11 {d : Nat} {xs : Nat → Int32} (h0 : ((xs 0) &&& (31 : Int32)).toInt = 1) (c0 : (xs 3).toInt ≠ 0) (c1 : (-16384) ≤ (xs 1).toInt) (c2 : (xs 2).toInt ≤ 16384) (c3 : (xs 2).toInt < (xs 1).toInt) (c4 : (xs 1).toInt ≤ 16384) : ∃ w1, xEv (d + 20) 287 23 [(4, Value.int 0), (3, Value.ref 194), (2, Value.ref 128), (1, Value.ref 7), (0, Value.ref 0)] [] (W0 6 xs) (fun o' w' => o' = .inl (some (Value.int 1)) ∧ w' = w1) ∧ w1.length ≤ 220 ∧ xsz w1 ≤ 200000 := by
  have z0 : xsz (W0 6 xs) = 76990 := W0_sz
  have z1 : xsz ((W0 6 xs) ++ [Sum.inr (14, [])]) = 76996 := xz_app (m := 6) z0 rfl
  have z2 : xsz (((W0 6 xs) ++ [Sum.inr (14, [])]).set 128 (Sum.inr (12, [Value.ref 129, Value.ref 131, Value.ref 133, Value.ref 135, Value.ref 137, Value.ref 139, Value.ref 141, Value.ref 143, Value.ref 145, Value.ref 147, Value.ref 149, Value.ref 151, Value.ref 153, Value.ref 154, Value.ref 155, Value.ref 156, Value.ref 157, Value.int (-16384), Value.int 16384, Value.int 0, Value.int 0, Value.int 0, Value.ref 158, Value.ref 159, Value.int 0, Value.int 0, Value.int 0, Value.int 0, Value.int 0, Value.int 0, Value.int 0, Value.int 0]))) = 76996 := xz_set z1 (xga W0_128) xcs_o
  have z3 : xsz ((((W0 6 xs) ++ [Sum.inr (14, [])]).set 128 (Sum.inr (12, [Value.ref 129, Value.ref 131, Value.ref 133, Value.ref 135, Value.ref 137, Value.ref 139, Value.ref 141, Value.ref 143, Value.ref 145, Value.ref 147, Value.ref 149, Value.ref 151, Value.ref 153, Value.ref 154, Value.ref 155, Value.ref 156, Value.ref 157, Value.int (-16384), Value.int 16384, Value.int 0, Value.int 0, Value.int 0, Value.ref 158, Value.ref 159, Value.int 0, Value.int 0, Value.int 0, Value.int 0, Value.int 0, Value.int 0, Value.int 0, Value.int 0]))) ++ [Sum.inr (14, [])]) = 77002 := xz_app (m := 6) z2 rfl
  have z4 : xsz (((((W0 6 xs) ++ [Sum.inr (14, [])]).set 128 (Sum.inr (12, [Value.ref 129, Value.ref 131, Value.ref 133, Value.ref 135, Value.ref 137, Value.ref 139, Value.ref 141, Value.ref 143, Value.ref 145, Value.ref 147, Value.ref 149, Value.ref 151, Value.ref 153, Value.ref 154, Value.ref 155, Value.ref 156, Value.ref 157, Value.int (-16384), Value.int 16384, Value.int 0, Value.int 0, Value.int 0, Value.ref 158, Value.ref 159, Value.int 0, Value.int 0, Value.int 0, Value.int 0, Value.int 0, Value.int 0, Value.int 0, Value.int 0]))) ++ [Sum.inr (14, [])]).set 128 (Sum.inr (12, [Value.ref 129, Value.ref 131, Value.ref 133, Value.ref 135, Value.ref 137, Value.ref 139, Value.ref 141, Value.ref 143, Value.ref 145, Value.ref 147, Value.ref 149, Value.ref 151, Value.ref 153, Value.ref 154, Value.ref 155, Value.ref 156, Value.ref 157, Value.int (-16384), Value.int 16384, Value.int 0, Value.int 0, Value.int 0, Value.ref 158, Value.ref 159, Value.int 0, Value.int 0, Value.int 0, Value.int 0, Value.int 0, Value.int 0, Value.int 0, Value.int 1]))) = 77002 := xz_set z3 (xga (xgs (xga W0_128))) xcs_o
  refine ⟨(((((W0 6 xs) ++ [Sum.inr (14, [])]).set 128 (Sum.inr (12, [Value.ref 129, Value.ref 131, Value.ref 133, Value.ref 135, Value.ref 137, Value.ref 139, Value.ref 141, Value.ref 143, Value.ref 145, Value.ref 147, Value.ref 149, Value.ref 151, Value.ref 153, Value.ref 154, Value.ref 155, Value.ref 156, Value.ref 157, Value.int (-16384), Value.int 16384, Value.int 0, Value.int 0, Value.int 0, Value.ref 158, Value.ref 159, Value.int 0, Value.int 0, Value.int 0, Value.int 0, Value.int 0, Value.int 0, Value.int 0, Value.int 0]))) ++ [Sum.inr (14, [])]).set 128 (Sum.inr (12, [Value.ref 129, Value.ref 131, Value.ref 133, Value.ref 135, Value.ref 137, Value.ref 139, Value.ref 141, Value.ref 143, Value.ref 145, Value.ref 147, Value.ref 149, Value.ref 151, Value.ref 153, Value.ref 154, Value.ref 155, Value.ref 156, Value.ref 157, Value.int (-16384), Value.int 16384, Value.int 0, Value.int 0, Value.int 0, Value.ref 158, Value.ref 159, Value.int 0, Value.int 0, Value.int 0, Value.int 0, Value.int 0, Value.int 0, Value.int 0, Value.int 1]))), ?_, Nat.le_trans (Nat.le_of_eq (xls (xla (xls (xla (W0_len)))))) (by decide), by rw [z4]; decide⟩
  refine i_287_23 (x := 0) rfl ?_
  refine i_287_25 (x := 0) rfl ?_
  refine i_287_26 (c := 6) W0_0 (by decide) ?_
  refine i_287_27 ?_
  refine i_287_29 (c := 0) (by decide) ?_
  refine i_287_30 (fun h => absurd h (by decide)) (fun _ => ?_)
  refine i_287_33 (x := 0) rfl ?_
  refine i_287_34 (x := 0) rfl ?_
  refine i_287_36 (v := Value.int (xs 0)) W0_0 (by decide) (by decide) rfl ?_
  refine i_287_37 ?_
  refine i_287_39 (c := ((xs 0) &&& (31 : Int32))) rfl ?_
  refine i_287_40_1 (by omega) ?_
  refine i_287_220 (x := 7) rfl ?_
  refine i_287_221 (x := 0) rfl ?_
  refine i_287_222 (x := 0) rfl ?_
  refine i_287_224 ?_
  refine i_287_225 (c := 1) (by decide) ?_
  refine i_287_226 (v := Value.int (xs 1)) W0_0 (by decide) (by decide) rfl ?_
  refine i_287_227 (x := 0) rfl ?_
  refine i_287_228 (x := 0) rfl ?_
  refine i_287_230 ?_
  refine i_287_231 (c := 2) (by decide) ?_
  refine i_287_232 (v := Value.int (xs 2)) W0_0 (by decide) (by decide) rfl ?_
  refine i_287_233 (x := 0) rfl ?_
  refine i_287_234 (x := 0) rfl ?_
  refine i_287_236 ?_
  refine i_287_237 (c := 3) (by decide) ?_
  refine i_287_238 (v := Value.int (xs 3)) W0_0 (by decide) (by decide) rfl ?_
  refine i_287_239 (fun h => absurd (show (xs 3).toInt ≠ 0 by omega) (fun g => g h)) (fun _ => ?_)
  refine i_287_242 ?_
  refine i_287_243 ?_
  refine i_287_247 (x := 194) rfl ?_
  refine i_287_248 (Nat.le_of_ble_eq_true rfl) (p_18_6 W0_7 (by omega) (by omega) (by omega)) ?_
  refine i_287_251 (lv2 := [(5, Value.int 1), (4, Value.int 0), (3, Value.ref 194), (2, Value.ref 128), (1, Value.ref 7), (0, Value.ref 0)]) rfl ?_
  refine i_287_253 (x := 128) rfl ?_
  refine i_287_254 (x := 0) rfl ?_
  refine i_287_255 (x := 0) rfl ?_
  refine i_287_257 ?_
  refine i_287_258 (c := 1) (by decide) ?_
  refine i_287_259 (v := Value.int (xs 1)) (xga W0_0) (by decide) (by decide) rfl ?_
  refine i_287_260 (x := 0) rfl ?_
  refine i_287_261 (x := 0) rfl ?_
  refine i_287_263 ?_
  refine i_287_264 (c := 2) (by decide) ?_
  refine i_287_265 (v := Value.int (xs 2)) (xga W0_0) (by decide) (by decide) rfl ?_
  refine i_287_266 (x := 0) rfl ?_
  refine i_287_267 (x := 0) rfl ?_
  refine i_287_269 ?_
  refine i_287_270 (c := 3) (by decide) ?_
  refine i_287_271 (v := Value.int (xs 3)) (xga W0_0) (by decide) (by decide) rfl ?_
  refine i_287_272 (fun h => absurd (show (xs 3).toInt ≠ 0 by omega) (fun g => g h)) (fun _ => ?_)
  refine i_287_275 ?_
  refine i_287_276 ?_
  refine i_287_280 (xga W0_128) (Nat.le_of_ble_eq_true rfl) (p_172_8 (xga W0_128) (by omega) (by omega) (by omega)) ?_
  refine i_287_283 (lv2 := [(6, Value.int 0), (5, Value.int 1), (4, Value.int 0), (3, Value.ref 194), (2, Value.ref 128), (1, Value.ref 7), (0, Value.ref 0)]) rfl ?_
  refine i_287_285 (x := 128) rfl ?_
  refine i_287_286 (xgs (xga (xgs (xga W0_128)))) (Nat.le_of_ble_eq_true rfl) (p_165_0 (xgs (xga (xgs (xga W0_128))))) ?_
  refine i_287_289 (x := 1) rfl ?_
  refine i_287_291 (fun _ => ?_) (fun h => absurd h (by decide))
  refine i_287_296 (x := 1) rfl ?_
  refine i_287_298 (fun _ => ?_) (fun h => absurd h (by decide))
  refine i_287_313 ?_
  refine i_287_2154 (x := 0) (c := 6) (lv2 := [(4, Value.int 6), (6, Value.int 0), (5, Value.int 1), (3, Value.ref 194), (2, Value.ref 128), (1, Value.ref 7), (0, Value.ref 0)]) rfl (by decide) rfl ?_
  refine i_287_2157 ?_
  refine i_287_23 (x := 6) rfl ?_
  refine i_287_25 (x := 0) rfl ?_
  refine i_287_26 (c := 6) (xgn (by decide) (xga (xgn (by decide) (xga W0_0)))) (by decide) ?_
  refine i_287_27 ?_
  refine i_287_29 (c := 0) (by decide) ?_
  refine i_287_30 (fun _ => ?_) (fun h => absurd h (by decide))
  refine i_287_2160 ?_
  exact i_287_2161 rfl ⟨rfl, rfl⟩
theorem o_1_12 {d : Nat} {xs : Nat → Int32} (h0 : ((xs 0) &&& (31 : Int32)).toInt = 1) (c0 : (xs 3).toInt ≠ 0) (c1 : (-16384) ≤ (xs 1).toInt) (c2 : (xs 2).toInt ≤ 16384) (c3 : (xs 1).toInt ≤ (xs 2).toInt) (c4 : 16384 < (xs 1).toInt) : ∃ w1, xEv (d + 20) 287 23 [(4, Value.int 0), (3, Value.ref 194), (2, Value.ref 128), (1, Value.ref 7), (0, Value.ref 0)] [] (W0 6 xs) (fun o' w' => o' = .inl (some (Value.int 1)) ∧ w' = w1) ∧ w1.length ≤ 220 ∧ xsz w1 ≤ 200000 := by
  have z0 : xsz (W0 6 xs) = 76990 := W0_sz
  have z1 : xsz ((W0 6 xs) ++ [Sum.inr (14, [])]) = 76996 := xz_app (m := 6) z0 rfl
  have z2 : xsz (((W0 6 xs) ++ [Sum.inr (14, [])]).set 128 (Sum.inr (12, [Value.ref 129, Value.ref 131, Value.ref 133, Value.ref 135, Value.ref 137, Value.ref 139, Value.ref 141, Value.ref 143, Value.ref 145, Value.ref 147, Value.ref 149, Value.ref 151, Value.ref 153, Value.ref 154, Value.ref 155, Value.ref 156, Value.ref 157, Value.int (-16384), Value.int 16384, Value.int 0, Value.int 0, Value.int 0, Value.ref 158, Value.ref 159, Value.int 0, Value.int 0, Value.int 0, Value.int 0, Value.int 0, Value.int 0, Value.int 0, Value.int 0]))) = 76996 := xz_set z1 (xga W0_128) xcs_o
  have z3 : xsz ((((W0 6 xs) ++ [Sum.inr (14, [])]).set 128 (Sum.inr (12, [Value.ref 129, Value.ref 131, Value.ref 133, Value.ref 135, Value.ref 137, Value.ref 139, Value.ref 141, Value.ref 143, Value.ref 145, Value.ref 147, Value.ref 149, Value.ref 151, Value.ref 153, Value.ref 154, Value.ref 155, Value.ref 156, Value.ref 157, Value.int (-16384), Value.int 16384, Value.int 0, Value.int 0, Value.int 0, Value.ref 158, Value.ref 159, Value.int 0, Value.int 0, Value.int 0, Value.int 0, Value.int 0, Value.int 0, Value.int 0, Value.int 0]))) ++ [Sum.inr (14, [])]) = 77002 := xz_app (m := 6) z2 rfl
  have z4 : xsz (((((W0 6 xs) ++ [Sum.inr (14, [])]).set 128 (Sum.inr (12, [Value.ref 129, Value.ref 131, Value.ref 133, Value.ref 135, Value.ref 137, Value.ref 139, Value.ref 141, Value.ref 143, Value.ref 145, Value.ref 147, Value.ref 149, Value.ref 151, Value.ref 153, Value.ref 154, Value.ref 155, Value.ref 156, Value.ref 157, Value.int (-16384), Value.int 16384, Value.int 0, Value.int 0, Value.int 0, Value.ref 158, Value.ref 159, Value.int 0, Value.int 0, Value.int 0, Value.int 0, Value.int 0, Value.int 0, Value.int 0, Value.int 0]))) ++ [Sum.inr (14, [])]).set 128 (Sum.inr (12, [Value.ref 129, Value.ref 131, Value.ref 133, Value.ref 135, Value.ref 137, Value.ref 139, Value.ref 141, Value.ref 143, Value.ref 145, Value.ref 147, Value.ref 149, Value.ref 151, Value.ref 153, Value.ref 154, Value.ref 155, Value.ref 156, Value.ref 157, Value.int (-16384), Value.int 16384, Value.int 0, Value.int 0, Value.int 0, Value.ref 158, Value.ref 159, Value.int 0, Value.int 0, Value.int 0, Value.int 0, Value.int 0, Value.int 0, Value.int 0, Value.int 1]))) = 77002 := xz_set z3 (xga (xgs (xga W0_128))) xcs_o
  refine ⟨(((((W0 6 xs) ++ [Sum.inr (14, [])]).set 128 (Sum.inr (12, [Value.ref 129, Value.ref 131, Value.ref 133, Value.ref 135, Value.ref 137, Value.ref 139, Value.ref 141, Value.ref 143, Value.ref 145, Value.ref 147, Value.ref 149, Value.ref 151, Value.ref 153, Value.ref 154, Value.ref 155, Value.ref 156, Value.ref 157, Value.int (-16384), Value.int 16384, Value.int 0, Value.int 0, Value.int 0, Value.ref 158, Value.ref 159, Value.int 0, Value.int 0, Value.int 0, Value.int 0, Value.int 0, Value.int 0, Value.int 0, Value.int 0]))) ++ [Sum.inr (14, [])]).set 128 (Sum.inr (12, [Value.ref 129, Value.ref 131, Value.ref 133, Value.ref 135, Value.ref 137, Value.ref 139, Value.ref 141, Value.ref 143, Value.ref 145, Value.ref 147, Value.ref 149, Value.ref 151, Value.ref 153, Value.ref 154, Value.ref 155, Value.ref 156, Value.ref 157, Value.int (-16384), Value.int 16384, Value.int 0, Value.int 0, Value.int 0, Value.ref 158, Value.ref 159, Value.int 0, Value.int 0, Value.int 0, Value.int 0, Value.int 0, Value.int 0, Value.int 0, Value.int 1]))), ?_, Nat.le_trans (Nat.le_of_eq (xls (xla (xls (xla (W0_len)))))) (by decide), by rw [z4]; decide⟩
  refine i_287_23 (x := 0) rfl ?_
  refine i_287_25 (x := 0) rfl ?_
  refine i_287_26 (c := 6) W0_0 (by decide) ?_
  refine i_287_27 ?_
  refine i_287_29 (c := 0) (by decide) ?_
  refine i_287_30 (fun h => absurd h (by decide)) (fun _ => ?_)
  refine i_287_33 (x := 0) rfl ?_
  refine i_287_34 (x := 0) rfl ?_
  refine i_287_36 (v := Value.int (xs 0)) W0_0 (by decide) (by decide) rfl ?_
  refine i_287_37 ?_
  refine i_287_39 (c := ((xs 0) &&& (31 : Int32))) rfl ?_
  refine i_287_40_1 (by omega) ?_
  refine i_287_220 (x := 7) rfl ?_
  refine i_287_221 (x := 0) rfl ?_
  refine i_287_222 (x := 0) rfl ?_
  refine i_287_224 ?_
  refine i_287_225 (c := 1) (by decide) ?_
  refine i_287_226 (v := Value.int (xs 1)) W0_0 (by decide) (by decide) rfl ?_
  refine i_287_227 (x := 0) rfl ?_
  refine i_287_228 (x := 0) rfl ?_
  refine i_287_230 ?_
  refine i_287_231 (c := 2) (by decide) ?_
  refine i_287_232 (v := Value.int (xs 2)) W0_0 (by decide) (by decide) rfl ?_
  refine i_287_233 (x := 0) rfl ?_
  refine i_287_234 (x := 0) rfl ?_
  refine i_287_236 ?_
  refine i_287_237 (c := 3) (by decide) ?_
  refine i_287_238 (v := Value.int (xs 3)) W0_0 (by decide) (by decide) rfl ?_
  refine i_287_239 (fun h => absurd (show (xs 3).toInt ≠ 0 by omega) (fun g => g h)) (fun _ => ?_)
  refine i_287_242 ?_
  refine i_287_243 ?_
  refine i_287_247 (x := 194) rfl ?_
  refine i_287_248 (Nat.le_of_ble_eq_true rfl) (p_18_6 W0_7 (by omega) (by omega) (by omega)) ?_
  refine i_287_251 (lv2 := [(5, Value.int 1), (4, Value.int 0), (3, Value.ref 194), (2, Value.ref 128), (1, Value.ref 7), (0, Value.ref 0)]) rfl ?_
  refine i_287_253 (x := 128) rfl ?_
  refine i_287_254 (x := 0) rfl ?_
  refine i_287_255 (x := 0) rfl ?_
  refine i_287_257 ?_
  refine i_287_258 (c := 1) (by decide) ?_
  refine i_287_259 (v := Value.int (xs 1)) (xga W0_0) (by decide) (by decide) rfl ?_
  refine i_287_260 (x := 0) rfl ?_
  refine i_287_261 (x := 0) rfl ?_
  refine i_287_263 ?_
  refine i_287_264 (c := 2) (by decide) ?_
  refine i_287_265 (v := Value.int (xs 2)) (xga W0_0) (by decide) (by decide) rfl ?_
  refine i_287_266 (x := 0) rfl ?_
  refine i_287_267 (x := 0) rfl ?_
  refine i_287_269 ?_
  refine i_287_270 (c := 3) (by decide) ?_
  refine i_287_271 (v := Value.int (xs 3)) (xga W0_0) (by decide) (by decide) rfl ?_
  refine i_287_272 (fun h => absurd (show (xs 3).toInt ≠ 0 by omega) (fun g => g h)) (fun _ => ?_)
  refine i_287_275 ?_
  refine i_287_276 ?_
  refine i_287_280 (xga W0_128) (Nat.le_of_ble_eq_true rfl) (p_172_6 (xga W0_128) (by omega) (by omega)) ?_
  refine i_287_283 (lv2 := [(6, Value.int 0), (5, Value.int 1), (4, Value.int 0), (3, Value.ref 194), (2, Value.ref 128), (1, Value.ref 7), (0, Value.ref 0)]) rfl ?_
  refine i_287_285 (x := 128) rfl ?_
  refine i_287_286 (xgs (xga (xgs (xga W0_128)))) (Nat.le_of_ble_eq_true rfl) (p_165_0 (xgs (xga (xgs (xga W0_128))))) ?_
  refine i_287_289 (x := 1) rfl ?_
  refine i_287_291 (fun _ => ?_) (fun h => absurd h (by decide))
  refine i_287_296 (x := 1) rfl ?_
  refine i_287_298 (fun _ => ?_) (fun h => absurd h (by decide))
  refine i_287_313 ?_
  refine i_287_2154 (x := 0) (c := 6) (lv2 := [(4, Value.int 6), (6, Value.int 0), (5, Value.int 1), (3, Value.ref 194), (2, Value.ref 128), (1, Value.ref 7), (0, Value.ref 0)]) rfl (by decide) rfl ?_
  refine i_287_2157 ?_
  refine i_287_23 (x := 6) rfl ?_
  refine i_287_25 (x := 0) rfl ?_
  refine i_287_26 (c := 6) (xgn (by decide) (xga (xgn (by decide) (xga W0_0)))) (by decide) ?_
  refine i_287_27 ?_
  refine i_287_29 (c := 0) (by decide) ?_
  refine i_287_30 (fun _ => ?_) (fun h => absurd h (by decide))
  refine i_287_2160 ?_
  exact i_287_2161 rfl ⟨rfl, rfl⟩
theorem p_19_7 {d : Nat} {w : xW} {a0 : Int32} {a1 : Int32} (e0 : (-16384) ≤ a0.toInt) (e1 : a1.toInt ≤ 16384) (e2 : a0.toInt ≤ a1.toInt) (hw3 : w[7]? = some (Sum.inr (0, [Value.ref 8, Value.ref 78, Value.ref 9, Value.ref 10, Value.ref 13, Value.ref 16, Value.ref 19, Value.ref 93, Value.ref 108, Value.ref 113, Value.ref 29, Value.int 0]))) (hw4 : w[78]? = some (Sum.inr (1, [Value.int (-16384), Value.int 16384, Value.int 0, Value.int 0]))) : xRun d 19 [Value.ref 7, Value.int a0, Value.int a1, Value.int 1] w (.inl (some (Value.int 16384))) (w.set 78 (Sum.inr (1, [Value.int a0, Value.int a1, Value.int 1, Value.int 0]))) := by
  refine xRun.of ?_
  refine i_19_0 (x := a0) rfl ?_
  refine i_19_1 ?_
  refine i_19_4 (fun h => absurd e0 (Int.not_le.mpr h)) (fun _ => ?_)
  refine i_19_7 (x := a1) rfl ?_
  refine i_19_8 ?_
  refine i_19_11 (fun h => absurd e1 (Int.not_le.mpr h)) (fun _ => ?_)
  refine i_19_14 (x := a0) rfl ?_
  refine i_19_15 (x := a1) rfl ?_
  refine i_19_16 (fun _ => ?_) (fun h => absurd e2 (Int.not_le.mpr h))
  refine i_19_27 (x := 7) rfl ?_
  refine i_19_28 (v := Value.ref 78) hw3 rfl ?_
  refine i_19_31 (v := Value.int 16384) hw4 rfl ?_
  refine i_19_34 (lv2 := [(4, Value.int 16384), (0, Value.ref 7), (1, Value.int a0), (2, Value.int a1), (3, Value.int 1)]) rfl ?_
  refine i_19_36 (x := 7) rfl ?_
  refine i_19_37 (v := Value.ref 78) hw3 rfl ?_
  refine i_19_40 (x := a0) rfl ?_
  refine i_19_41 (fs2 := [Value.int a0, Value.int 16384, Value.int 0, Value.int 0]) hw4 (Nat.le_of_ble_eq_true rfl) rfl (by decide) ?_
  refine i_19_44 (x := 7) rfl ?_
  refine i_19_45 (v := Value.ref 78) (xgn (by decide) hw3) rfl ?_
  refine i_19_48 (x := a1) rfl ?_
  refine i_19_49 (fs2 := [Value.int a0, Value.int a1, Value.int 0, Value.int 0]) (xgs hw4) (Nat.le_of_ble_eq_true rfl) rfl (by decide) ?_
  refine xEv.world (List.set_set _) ?_
  refine i_19_52 (x := 7) rfl ?_
  refine i_19_53 (v := Value.ref 78) (xgn (by decide) hw3) rfl ?_
  refine i_19_56 (x := 1) rfl ?_
  refine i_19_57 (fs2 := [Value.int a0, Value.int a1, Value.int 1, Value.int 0]) (xgs hw4) rfl (Nat.le_of_ble_eq_true rfl) rfl (by decide) ?_
  refine xEv.world (List.set_set _) ?_
  refine i_19_60 (x := 16384) rfl ?_
  exact i_19_62 ⟨rfl, rfl⟩
theorem p_18_7 {d : Nat} {w : xW} {a0 : Int32} {a1 : Int32} (hw0 : w[7]? = some (Sum.inr (0, [Value.ref 8, Value.ref 78, Value.ref 9, Value.ref 10, Value.ref 13, Value.ref 16, Value.ref 19, Value.ref 93, Value.ref 108, Value.ref 113, Value.ref 29, Value.int 0]))) (e1 : (-16384) ≤ a0.toInt) (e2 : a1.toInt ≤ 16384) (e3 : a0.toInt ≤ a1.toInt) (hw4 : w[78]? = some (Sum.inr (1, [Value.int (-16384), Value.int 16384, Value.int 0, Value.int 0]))) (hw5 : w[194]? = some (Sum.inl (3, 1, fun _ => Value.long 0))) : xRun (d + 1) 18 [Value.ref 7, Value.int a0, Value.int a1, Value.int 1, Value.ref 194] w (.inl (some (Value.int 0))) ((w.set 78 (Sum.inr (1, [Value.int a0, Value.int a1, Value.int 1, Value.int 0]))).set 194 (Sum.inl (3, 1, xup (fun _ => Value.long 0) (0 : Int32).toInt.toNat (Value.long 16384)))) := by
  refine xRun.of ?_
  refine i_18_0 (x := 194) rfl ?_
  refine i_18_2 ?_
  refine i_18_3 (x := 7) rfl ?_
  refine i_18_4 (x := a0) rfl ?_
  refine i_18_5 (x := a1) rfl ?_
  refine i_18_6 (x := 1) rfl ?_
  refine i_18_7 hw0 (Nat.le_of_ble_eq_true rfl) (p_19_7 e1 e2 e3 hw0 hw4) ?_
  refine i_18_10 (c := 16384) (by decide) ?_
  refine i_18_11 (v := Value.long 16384) (xgn (by decide) hw5) (by decide) (by decide) (by decide) rfl ?_
  refine i_18_12 ?_
  refine i_18_19 ?_
  exact i_18_20 ⟨rfl, rfl⟩
theorem p_173_9 {d : Nat} {w : xW} {a0 : Int32} {a1 : Int32} (e0 : (-16384) ≤ a0.toInt) (e1 : a0.toInt ≤ 16384) (e2 : a0.toInt ≤ a1.toInt) (e3 : a1.toInt ≤ 16384) (hw4 : w[128]? = some (Sum.inr (12, [Value.ref 129, Value.ref 131, Value.ref 133, Value.ref 135, Value.ref 137, Value.ref 139, Value.ref 141, Value.ref 143, Value.ref 145, Value.ref 147, Value.ref 149, Value.ref 151, Value.ref 153, Value.ref 154, Value.ref 155, Value.ref 156, Value.ref 157, Value.int (-16384), Value.int 16384, Value.int 0, Value.int 0, Value.int 0, Value.ref 158, Value.ref 159, Value.int 0, Value.int 0, Value.int 0, Value.int 0, Value.int 0, Value.int 0, Value.int 0, Value.int 0]))) : xRun (d + 1) 173 [Value.ref 128, Value.int a0, Value.int a1, Value.int 1] w (.inl (some (Value.int 16384))) (w.set 128 (Sum.inr (12, [Value.ref 129, Value.ref 131, Value.ref 133, Value.ref 135, Value.ref 137, Value.ref 139, Value.ref 141, Value.ref 143, Value.ref 145, Value.ref 147, Value.ref 149, Value.ref 151, Value.ref 153, Value.ref 154, Value.ref 155, Value.ref 156, Value.ref 157, Value.int a0, Value.int a1, Value.int 0, Value.int 1, Value.int 0, Value.ref 158, Value.ref 159, Value.int 0, Value.int 0, Value.int 0, Value.int 0, Value.int 0, Value.int 0, Value.int 0, Value.int 0]))) := by
  refine xRun.of ?_
  refine i_173_0 (x := a0) rfl ?_
  refine i_173_1 ?_
  refine i_173_4 ?_
  refine i_173_7 (Nat.le_of_ble_eq_true rfl) (p_169_8 e0 e1) ?_
  refine i_173_10 (fun h => absurd h (by decide)) (fun _ => ?_)
  refine i_173_13 (x := a1) rfl ?_
  refine i_173_14 (x := a0) rfl ?_
  refine i_173_15 ?_
  refine i_173_18 (Nat.le_of_ble_eq_true rfl) (p_169_11 e2 e3) ?_
  refine i_173_21 (fun h => absurd h (by decide)) (fun _ => ?_)
  refine i_173_24 ?_
  refine i_173_25 ?_
  refine i_173_29 (Nat.le_of_ble_eq_true rfl) (p_170_1) ?_
  refine i_173_32 (x := 128) rfl ?_
  refine i_173_33 (v := Value.int 16384) hw4 rfl ?_
  refine i_173_36 (lv2 := [(4, Value.int 16384), (0, Value.ref 128), (1, Value.int a0), (2, Value.int a1), (3, Value.int 1)]) rfl ?_
  refine i_173_38 (x := 128) rfl ?_
  refine i_173_39 (x := a0) rfl ?_
  refine i_173_40 (fs2 := [Value.ref 129, Value.ref 131, Value.ref 133, Value.ref 135, Value.ref 137, Value.ref 139, Value.ref 141, Value.ref 143, Value.ref 145, Value.ref 147, Value.ref 149, Value.ref 151, Value.ref 153, Value.ref 154, Value.ref 155, Value.ref 156, Value.ref 157, Value.int a0, Value.int 16384, Value.int 0, Value.int 0, Value.int 0, Value.ref 158, Value.ref 159, Value.int 0, Value.int 0, Value.int 0, Value.int 0, Value.int 0, Value.int 0, Value.int 0, Value.int 0]) hw4 (Nat.le_of_ble_eq_true rfl) rfl (by decide) ?_
  refine i_173_43 (x := 128) rfl ?_
  refine i_173_44 (x := a1) rfl ?_
  refine i_173_45 (fs2 := [Value.ref 129, Value.ref 131, Value.ref 133, Value.ref 135, Value.ref 137, Value.ref 139, Value.ref 141, Value.ref 143, Value.ref 145, Value.ref 147, Value.ref 149, Value.ref 151, Value.ref 153, Value.ref 154, Value.ref 155, Value.ref 156, Value.ref 157, Value.int a0, Value.int a1, Value.int 0, Value.int 0, Value.int 0, Value.ref 158, Value.ref 159, Value.int 0, Value.int 0, Value.int 0, Value.int 0, Value.int 0, Value.int 0, Value.int 0, Value.int 0]) (xgs hw4) (Nat.le_of_ble_eq_true rfl) rfl (by decide) ?_
  refine xEv.world (List.set_set _) ?_
  refine i_173_48 (x := 128) rfl ?_
  refine i_173_49 (x := 1) rfl ?_
  refine i_173_50 (fs2 := [Value.ref 129, Value.ref 131, Value.ref 133, Value.ref 135, Value.ref 137, Value.ref 139, Value.ref 141, Value.ref 143, Value.ref 145, Value.ref 147, Value.ref 149, Value.ref 151, Value.ref 153, Value.ref 154, Value.ref 155, Value.ref 156, Value.ref 157, Value.int a0, Value.int a1, Value.int 0, Value.int 1, Value.int 0, Value.ref 158, Value.ref 159, Value.int 0, Value.int 0, Value.int 0, Value.int 0, Value.int 0, Value.int 0, Value.int 0, Value.int 0]) (xgs hw4) rfl (Nat.le_of_ble_eq_true rfl) rfl (by decide) ?_
  refine xEv.world (List.set_set _) ?_
  refine i_173_53 (x := 16384) rfl ?_
  exact i_173_55 ⟨rfl, rfl⟩
theorem p_172_9 {d : Nat} {w : xW} {a0 : Int32} {a1 : Int32} (hw0 : w[128]? = some (Sum.inr (12, [Value.ref 129, Value.ref 131, Value.ref 133, Value.ref 135, Value.ref 137, Value.ref 139, Value.ref 141, Value.ref 143, Value.ref 145, Value.ref 147, Value.ref 149, Value.ref 151, Value.ref 153, Value.ref 154, Value.ref 155, Value.ref 156, Value.ref 157, Value.int (-16384), Value.int 16384, Value.int 0, Value.int 0, Value.int 0, Value.ref 158, Value.ref 159, Value.int 0, Value.int 0, Value.int 0, Value.int 0, Value.int 0, Value.int 0, Value.int 0, Value.int 0]))) (e1 : (-16384) ≤ a0.toInt) (e2 : a0.toInt ≤ 16384) (e3 : a0.toInt ≤ a1.toInt) (e4 : a1.toInt ≤ 16384) : xRun (d + 2) 172 [Value.ref 128, Value.int a0, Value.int a1, Value.int 1] w (.inl (some (Value.int 16384))) ((w.set 128 (Sum.inr (12, [Value.ref 129, Value.ref 131, Value.ref 133, Value.ref 135, Value.ref 137, Value.ref 139, Value.ref 141, Value.ref 143, Value.ref 145, Value.ref 147, Value.ref 149, Value.ref 151, Value.ref 153, Value.ref 154, Value.ref 155, Value.ref 156, Value.ref 157, Value.int (-16384), Value.int 16384, Value.int 0, Value.int 0, Value.int 0, Value.ref 158, Value.ref 159, Value.int 0, Value.int 0, Value.int 0, Value.int 0, Value.int 0, Value.int 0, Value.int 0, Value.int 0]))).set 128 (Sum.inr (12, [Value.ref 129, Value.ref 131, Value.ref 133, Value.ref 135, Value.ref 137, Value.ref 139, Value.ref 141, Value.ref 143, Value.ref 145, Value.ref 147, Value.ref 149, Value.ref 151, Value.ref 153, Value.ref 154, Value.ref 155, Value.ref 156, Value.ref 157, Value.int a0, Value.int a1, Value.int 0, Value.int 1, Value.int 0, Value.ref 158, Value.ref 159, Value.int 0, Value.int 0, Value.int 0, Value.int 0, Value.int 0, Value.int 0, Value.int 0, Value.int 0]))) := by
  refine xRun.of ?_
  refine i_172_0 (x := 128) rfl ?_
  refine i_172_1 ?_
  refine i_172_2 (fs2 := [Value.ref 129, Value.ref 131, Value.ref 133, Value.ref 135, Value.ref 137, Value.ref 139, Value.ref 141, Value.ref 143, Value.ref 145, Value.ref 147, Value.ref 149, Value.ref 151, Value.ref 153, Value.ref 154, Value.ref 155, Value.ref 156, Value.ref 157, Value.int (-16384), Value.int 16384, Value.int 0, Value.int 0, Value.int 0, Value.ref 158, Value.ref 159, Value.int 0, Value.int 0, Value.int 0, Value.int 0, Value.int 0, Value.int 0, Value.int 0, Value.int 0]) hw0 (Nat.le_of_ble_eq_true rfl) rfl (by decide) ?_
  refine i_172_5 (x := 128) rfl ?_
  refine i_172_6 (x := a0) rfl ?_
  refine i_172_7 (x := a1) rfl ?_
  refine i_172_8 (x := 1) rfl ?_
  refine i_172_9 (xgs hw0) (Nat.le_of_ble_eq_true rfl) (p_173_9 e1 e2 e3 e4 (xgs hw0)) ?_
  exact i_172_12 ⟨rfl, rfl⟩
theorem p_165_3 {d : Nat} {w : xW} {a0 : Int32} {a1 : Int32} (hw0 : w[128]? = some (Sum.inr (12, [Value.ref 129, Value.ref 131, Value.ref 133, Value.ref 135, Value.ref 137, Value.ref 139, Value.ref 141, Value.ref 143, Value.ref 145, Value.ref 147, Value.ref 149, Value.ref 151, Value.ref 153, Value.ref 154, Value.ref 155, Value.ref 156, Value.ref 157, Value.int a0, Value.int a1, Value.int 0, Value.int 1, Value.int 0, Value.ref 158, Value.ref 159, Value.int 0, Value.int 0, Value.int 0, Value.int 0, Value.int 0, Value.int 0, Value.int 0, Value.int 0]))) : xRun d 165 [Value.ref 128] w (.inl (some (Value.int 0))) w := by
  refine xRun.of ?_
  refine i_165_0 (x := 128) rfl ?_
  refine i_165_1 (v := Value.int 0) hw0 rfl ?_
  exact i_165_4 ⟨rfl, rfl⟩
theorem o_1_13 {d : Nat} {xs : Nat → Int32} (h0 : ((xs 0) &&& (31 : Int32)).toInt = 1) (c0 : (xs 3).toInt ≠ 0) (c1 : (-16384) ≤ (xs 1).toInt) (c2 : (xs 2).toInt ≤ 16384) (c3 : (xs 1).toInt ≤ (xs 2).toInt) (c4 : (xs 1).toInt ≤ 16384) : ∃ w1, xEv (d + 20) 287 23 [(4, Value.int 0), (3, Value.ref 194), (2, Value.ref 128), (1, Value.ref 7), (0, Value.ref 0)] [] (W0 6 xs) (fun o' w' => o' = .inl (some (Value.int 1)) ∧ w' = w1) ∧ w1.length ≤ 220 ∧ xsz w1 ≤ 200000 := by
  have z0 : xsz (W0 6 xs) = 76990 := W0_sz
  have z1 : xsz ((W0 6 xs).set 78 (Sum.inr (1, [Value.int (xs 1), Value.int (xs 2), Value.int 1, Value.int 0]))) = 76990 := xz_set z0 (W0_78) xcs_o
  have z2 : xsz (((W0 6 xs).set 78 (Sum.inr (1, [Value.int (xs 1), Value.int (xs 2), Value.int 1, Value.int 0]))).set 194 (Sum.inl (3, 1, xup (fun _ => Value.long 0) (0 : Int32).toInt.toNat (Value.long 16384)))) = 76990 := xz_set z1 (xgn (by decide) W0_194) xcs_a
  have z3 : xsz ((((W0 6 xs).set 78 (Sum.inr (1, [Value.int (xs 1), Value.int (xs 2), Value.int 1, Value.int 0]))).set 194 (Sum.inl (3, 1, xup (fun _ => Value.long 0) (0 : Int32).toInt.toNat (Value.long 16384)))).set 128 (Sum.inr (12, [Value.ref 129, Value.ref 131, Value.ref 133, Value.ref 135, Value.ref 137, Value.ref 139, Value.ref 141, Value.ref 143, Value.ref 145, Value.ref 147, Value.ref 149, Value.ref 151, Value.ref 153, Value.ref 154, Value.ref 155, Value.ref 156, Value.ref 157, Value.int (-16384), Value.int 16384, Value.int 0, Value.int 0, Value.int 0, Value.ref 158, Value.ref 159, Value.int 0, Value.int 0, Value.int 0, Value.int 0, Value.int 0, Value.int 0, Value.int 0, Value.int 0]))) = 76990 := xz_set z2 (xgn (by decide) (xgn (by decide) W0_128)) xcs_o
  have z4 : xsz (((((W0 6 xs).set 78 (Sum.inr (1, [Value.int (xs 1), Value.int (xs 2), Value.int 1, Value.int 0]))).set 194 (Sum.inl (3, 1, xup (fun _ => Value.long 0) (0 : Int32).toInt.toNat (Value.long 16384)))).set 128 (Sum.inr (12, [Value.ref 129, Value.ref 131, Value.ref 133, Value.ref 135, Value.ref 137, Value.ref 139, Value.ref 141, Value.ref 143, Value.ref 145, Value.ref 147, Value.ref 149, Value.ref 151, Value.ref 153, Value.ref 154, Value.ref 155, Value.ref 156, Value.ref 157, Value.int (-16384), Value.int 16384, Value.int 0, Value.int 0, Value.int 0, Value.ref 158, Value.ref 159, Value.int 0, Value.int 0, Value.int 0, Value.int 0, Value.int 0, Value.int 0, Value.int 0, Value.int 0]))).set 128 (Sum.inr (12, [Value.ref 129, Value.ref 131, Value.ref 133, Value.ref 135, Value.ref 137, Value.ref 139, Value.ref 141, Value.ref 143, Value.ref 145, Value.ref 147, Value.ref 149, Value.ref 151, Value.ref 153, Value.ref 154, Value.ref 155, Value.ref 156, Value.ref 157, Value.int (xs 1), Value.int (xs 2), Value.int 0, Value.int 1, Value.int 0, Value.ref 158, Value.ref 159, Value.int 0, Value.int 0, Value.int 0, Value.int 0, Value.int 0, Value.int 0, Value.int 0, Value.int 0]))) = 76990 := xz_set z3 (xgs (xgn (by decide) (xgn (by decide) W0_128))) xcs_o
  refine ⟨(((((W0 6 xs).set 78 (Sum.inr (1, [Value.int (xs 1), Value.int (xs 2), Value.int 1, Value.int 0]))).set 194 (Sum.inl (3, 1, xup (fun _ => Value.long 0) (0 : Int32).toInt.toNat (Value.long 16384)))).set 128 (Sum.inr (12, [Value.ref 129, Value.ref 131, Value.ref 133, Value.ref 135, Value.ref 137, Value.ref 139, Value.ref 141, Value.ref 143, Value.ref 145, Value.ref 147, Value.ref 149, Value.ref 151, Value.ref 153, Value.ref 154, Value.ref 155, Value.ref 156, Value.ref 157, Value.int (-16384), Value.int 16384, Value.int 0, Value.int 0, Value.int 0, Value.ref 158, Value.ref 159, Value.int 0, Value.int 0, Value.int 0, Value.int 0, Value.int 0, Value.int 0, Value.int 0, Value.int 0]))).set 128 (Sum.inr (12, [Value.ref 129, Value.ref 131, Value.ref 133, Value.ref 135, Value.ref 137, Value.ref 139, Value.ref 141, Value.ref 143, Value.ref 145, Value.ref 147, Value.ref 149, Value.ref 151, Value.ref 153, Value.ref 154, Value.ref 155, Value.ref 156, Value.ref 157, Value.int (xs 1), Value.int (xs 2), Value.int 0, Value.int 1, Value.int 0, Value.ref 158, Value.ref 159, Value.int 0, Value.int 0, Value.int 0, Value.int 0, Value.int 0, Value.int 0, Value.int 0, Value.int 0]))), ?_, Nat.le_trans (Nat.le_of_eq (xls (xls (xls (xls (W0_len)))))) (by decide), by rw [z4]; decide⟩
  refine i_287_23 (x := 0) rfl ?_
  refine i_287_25 (x := 0) rfl ?_
  refine i_287_26 (c := 6) W0_0 (by decide) ?_
  refine i_287_27 ?_
  refine i_287_29 (c := 0) (by decide) ?_
  refine i_287_30 (fun h => absurd h (by decide)) (fun _ => ?_)
  refine i_287_33 (x := 0) rfl ?_
  refine i_287_34 (x := 0) rfl ?_
  refine i_287_36 (v := Value.int (xs 0)) W0_0 (by decide) (by decide) rfl ?_
  refine i_287_37 ?_
  refine i_287_39 (c := ((xs 0) &&& (31 : Int32))) rfl ?_
  refine i_287_40_1 (by omega) ?_
  refine i_287_220 (x := 7) rfl ?_
  refine i_287_221 (x := 0) rfl ?_
  refine i_287_222 (x := 0) rfl ?_
  refine i_287_224 ?_
  refine i_287_225 (c := 1) (by decide) ?_
  refine i_287_226 (v := Value.int (xs 1)) W0_0 (by decide) (by decide) rfl ?_
  refine i_287_227 (x := 0) rfl ?_
  refine i_287_228 (x := 0) rfl ?_
  refine i_287_230 ?_
  refine i_287_231 (c := 2) (by decide) ?_
  refine i_287_232 (v := Value.int (xs 2)) W0_0 (by decide) (by decide) rfl ?_
  refine i_287_233 (x := 0) rfl ?_
  refine i_287_234 (x := 0) rfl ?_
  refine i_287_236 ?_
  refine i_287_237 (c := 3) (by decide) ?_
  refine i_287_238 (v := Value.int (xs 3)) W0_0 (by decide) (by decide) rfl ?_
  refine i_287_239 (fun h => absurd (show (xs 3).toInt ≠ 0 by omega) (fun g => g h)) (fun _ => ?_)
  refine i_287_242 ?_
  refine i_287_243 ?_
  refine i_287_247 (x := 194) rfl ?_
  refine i_287_248 (Nat.le_of_ble_eq_true rfl) (p_18_7 W0_7 (by omega) (by omega) (by omega) W0_78 W0_194) ?_
  refine i_287_251 (lv2 := [(5, Value.int 0), (4, Value.int 0), (3, Value.ref 194), (2, Value.ref 128), (1, Value.ref 7), (0, Value.ref 0)]) rfl ?_
  refine i_287_253 (x := 128) rfl ?_
  refine i_287_254 (x := 0) rfl ?_
  refine i_287_255 (x := 0) rfl ?_
  refine i_287_257 ?_
  refine i_287_258 (c := 1) (by decide) ?_
  refine i_287_259 (v := Value.int (xs 1)) (xgn (by decide) (xgn (by decide) W0_0)) (by decide) (by decide) rfl ?_
  refine i_287_260 (x := 0) rfl ?_
  refine i_287_261 (x := 0) rfl ?_
  refine i_287_263 ?_
  refine i_287_264 (c := 2) (by decide) ?_
  refine i_287_265 (v := Value.int (xs 2)) (xgn (by decide) (xgn (by decide) W0_0)) (by decide) (by decide) rfl ?_
  refine i_287_266 (x := 0) rfl ?_
  refine i_287_267 (x := 0) rfl ?_
  refine i_287_269 ?_
  refine i_287_270 (c := 3) (by decide) ?_
  refine i_287_271 (v := Value.int (xs 3)) (xgn (by decide) (xgn (by decide) W0_0)) (by decide) (by decide) rfl ?_
  refine i_287_272 (fun h => absurd (show (xs 3).toInt ≠ 0 by omega) (fun g => g h)) (fun _ => ?_)
  refine i_287_275 ?_
  refine i_287_276 ?_
  refine i_287_280 (xgn (by decide) (xgn (by decide) W0_128)) (Nat.le_of_ble_eq_true rfl) (p_172_9 (xgn (by decide) (xgn (by decide) W0_128)) (by omega) (by omega) (by omega) (by omega)) ?_
  refine i_287_283 (lv2 := [(6, Value.int 16384), (5, Value.int 0), (4, Value.int 0), (3, Value.ref 194), (2, Value.ref 128), (1, Value.ref 7), (0, Value.ref 0)]) rfl ?_
  refine i_287_285 (x := 128) rfl ?_
  refine i_287_286 (xgs (xgs (xgn (by decide) (xgn (by decide) W0_128)))) (Nat.le_of_ble_eq_true rfl) (p_165_3 (xgs (xgs (xgn (by decide) (xgn (by decide) W0_128))))) ?_
  refine i_287_289 (x := 0) rfl ?_
  refine i_287_291 (fun _ => ?_) (fun h => absurd h (by decide))
  refine i_287_296 (x := 0) rfl ?_
  refine i_287_298 (fun h => absurd h (by decide)) (fun _ => ?_)
  refine i_287_301 (x := 194) rfl ?_
  refine i_287_302 ?_
  refine i_287_303 (v := Value.long 16384) (xgn (by decide) (xgn (by decide) (xgs (xgn (by decide) W0_194)))) (by decide) (by decide) xup_s ?_
  refine i_287_304 (x := 16384) rfl ?_
  refine i_287_306 (c := 16384) (by decide) ?_
  refine i_287_307 (c := 0) (by decide) ?_
  refine i_287_308 (fun _ => ?_) (fun h => absurd h (by decide))
  refine i_287_313 ?_
  refine i_287_2154 (x := 0) (c := 6) (lv2 := [(4, Value.int 6), (6, Value.int 16384), (5, Value.int 0), (3, Value.ref 194), (2, Value.ref 128), (1, Value.ref 7), (0, Value.ref 0)]) rfl (by decide) rfl ?_
  refine i_287_2157 ?_
  refine i_287_23 (x := 6) rfl ?_
  refine i_287_25 (x := 0) rfl ?_
  refine i_287_26 (c := 6) (xgn (by decide) (xgn (by decide) (xgn (by decide) (xgn (by decide) W0_0)))) (by decide) ?_
  refine i_287_27 ?_
  refine i_287_29 (c := 0) (by decide) ?_
  refine i_287_30 (fun _ => ?_) (fun h => absurd h (by decide))
  refine i_287_2160 ?_
  exact i_287_2161 rfl ⟨rfl, rfl⟩
theorem op_1 {d : Nat} {xs : Nat → Int32} (h0 : ((xs 0) &&& (31 : Int32)).toInt = 1) : ∃ w1, xEv (d + 20) 287 23 [(4, Value.int 0), (3, Value.ref 194), (2, Value.ref 128), (1, Value.ref 7), (0, Value.ref 0)] [] (W0 6 xs) (fun o' w' => o' = .inl (some (Value.int 1)) ∧ w' = w1) ∧ w1.length ≤ 220 ∧ xsz w1 ≤ 200000 := by
  by_cases c0 : (xs 3).toInt = 0
  · rcases Int.lt_or_le (xs 1).toInt (-16384) with c1 | c1
    · exact o_1_0 h0 c0 c1
    · rcases Int.lt_or_le (16384) (xs 2).toInt with c2 | c2
      · rcases Int.lt_or_le (16384) (xs 1).toInt with c3 | c3
        · exact o_1_1 h0 c0 c1 c2 c3
        · exact o_1_2 h0 c0 c1 c2 c3
      · rcases Int.lt_or_le (xs 2).toInt (xs 1).toInt with c3 | c3
        · rcases Int.lt_or_le (16384) (xs 1).toInt with c4 | c4
          · exact o_1_3 h0 c0 c1 c2 c3 c4
          · exact o_1_4 h0 c0 c1 c2 c3 c4
        · rcases Int.lt_or_le (16384) (xs 1).toInt with c4 | c4
          · exact o_1_5 h0 c0 c1 c2 c3 c4
          · exact o_1_6 h0 c0 c1 c2 c3 c4
  · rcases Int.lt_or_le (xs 1).toInt (-16384) with c1 | c1
    · exact o_1_7 h0 c0 c1
    · rcases Int.lt_or_le (16384) (xs 2).toInt with c2 | c2
      · rcases Int.lt_or_le (16384) (xs 1).toInt with c3 | c3
        · exact o_1_8 h0 c0 c1 c2 c3
        · exact o_1_9 h0 c0 c1 c2 c3
      · rcases Int.lt_or_le (xs 2).toInt (xs 1).toInt with c3 | c3
        · rcases Int.lt_or_le (16384) (xs 1).toInt with c4 | c4
          · exact o_1_10 h0 c0 c1 c2 c3 c4
          · exact o_1_11 h0 c0 c1 c2 c3 c4
        · rcases Int.lt_or_le (16384) (xs 1).toInt with c4 | c4
          · exact o_1_12 h0 c0 c1 c2 c3 c4
          · exact o_1_13 h0 c0 c1 c2 c3 c4
theorem p_12_0 {d : Nat} {w : xW} (hw0 : w[7]? = some (Sum.inr (0, [Value.ref 8, Value.ref 78, Value.ref 9, Value.ref 10, Value.ref 13, Value.ref 16, Value.ref 19, Value.ref 93, Value.ref 108, Value.ref 113, Value.ref 29, Value.int 0]))) (hw1 : w[78]? = some (Sum.inr (1, [Value.int (-16384), Value.int 16384, Value.int 0, Value.int 0]))) : xRun d 12 [Value.ref 7, Value.int 0] w (.inl (some (Value.int 0))) w := by
  refine xRun.of ?_
  refine i_12_0 (x := 7) rfl ?_
  refine i_12_1 (v := Value.ref 78) hw0 rfl ?_
  refine i_12_4 (v := Value.int 0) hw1 rfl ?_
  refine i_12_7 (lv2 := [(2, Value.int 0), (0, Value.ref 7), (1, Value.int 0)]) rfl ?_
  refine i_12_8 (x := 0) rfl ?_
  refine i_12_9 (fun _ => ?_) (fun h => absurd h (by decide))
  refine i_12_20 (x := 0) rfl ?_
  exact i_12_21 ⟨rfl, rfl⟩
theorem p_175_0 {d : Nat} {w : xW} (hw0 : w[128]? = some (Sum.inr (12, [Value.ref 129, Value.ref 131, Value.ref 133, Value.ref 135, Value.ref 137, Value.ref 139, Value.ref 141, Value.ref 143, Value.ref 145, Value.ref 147, Value.ref 149, Value.ref 151, Value.ref 153, Value.ref 154, Value.ref 155, Value.ref 156, Value.ref 157, Value.int (-16384), Value.int 16384, Value.int 0, Value.int 0, Value.int 0, Value.ref 158, Value.ref 159, Value.int 0, Value.int 0, Value.int 0, Value.int 0, Value.int 0, Value.int 0, Value.int 0, Value.int 0]))) : xRun d 175 [Value.ref 128, Value.int 0] w (.inl (some (Value.int 0))) w := by
  refine xRun.of ?_
  refine i_175_0 (x := 128) rfl ?_
  refine i_175_1 (v := Value.int 0) hw0 rfl ?_
  refine i_175_4 (lv2 := [(2, Value.int 0), (0, Value.ref 128), (1, Value.int 0)]) rfl ?_
  refine i_175_5 (x := 0) rfl ?_
  refine i_175_6 (fun _ => ?_) (fun h => absurd h (by decide))
  refine i_175_14 (x := 0) rfl ?_
  exact i_175_15 ⟨rfl, rfl⟩
theorem p_174_0 {d : Nat} {w : xW} (hw0 : w[128]? = some (Sum.inr (12, [Value.ref 129, Value.ref 131, Value.ref 133, Value.ref 135, Value.ref 137, Value.ref 139, Value.ref 141, Value.ref 143, Value.ref 145, Value.ref 147, Value.ref 149, Value.ref 151, Value.ref 153, Value.ref 154, Value.ref 155, Value.ref 156, Value.ref 157, Value.int (-16384), Value.int 16384, Value.int 0, Value.int 0, Value.int 0, Value.ref 158, Value.ref 159, Value.int 0, Value.int 0, Value.int 0, Value.int 0, Value.int 0, Value.int 0, Value.int 0, Value.int 0]))) : xRun (d + 1) 174 [Value.ref 128, Value.int 0] w (.inl (some (Value.int 0))) (w.set 128 (Sum.inr (12, [Value.ref 129, Value.ref 131, Value.ref 133, Value.ref 135, Value.ref 137, Value.ref 139, Value.ref 141, Value.ref 143, Value.ref 145, Value.ref 147, Value.ref 149, Value.ref 151, Value.ref 153, Value.ref 154, Value.ref 155, Value.ref 156, Value.ref 157, Value.int (-16384), Value.int 16384, Value.int 0, Value.int 0, Value.int 0, Value.ref 158, Value.ref 159, Value.int 0, Value.int 0, Value.int 0, Value.int 0, Value.int 0, Value.int 0, Value.int 0, Value.int 0]))) := by
  refine xRun.of ?_
  refine i_174_0 (x := 128) rfl ?_
  refine i_174_1 ?_
  refine i_174_2 (fs2 := [Value.ref 129, Value.ref 131, Value.ref 133, Value.ref 135, Value.ref 137, Value.ref 139, Value.ref 141, Value.ref 143, Value.ref 145, Value.ref 147, Value.ref 149, Value.ref 151, Value.ref 153, Value.ref 154, Value.ref 155, Value.ref 156, Value.ref 157, Value.int (-16384), Value.int 16384, Value.int 0, Value.int 0, Value.int 0, Value.ref 158, Value.ref 159, Value.int 0, Value.int 0, Value.int 0, Value.int 0, Value.int 0, Value.int 0, Value.int 0, Value.int 0]) hw0 (Nat.le_of_ble_eq_true rfl) rfl (by decide) ?_
  refine i_174_5 (x := 128) rfl ?_
  refine i_174_6 (x := 0) rfl ?_
  refine i_174_7 (xgs hw0) (Nat.le_of_ble_eq_true rfl) (p_175_0 (xgs hw0)) ?_
  exact i_174_10 ⟨rfl, rfl⟩
theorem o_2_0 {d : Nat} {xs : Nat → Int32} (h0 : ((xs 0) &&& (31 : Int32)).toInt = 2) (c0 : (xs 1).toInt = 0) : ∃ w1, xEv (d + 20) 287 23 [(4, Value.int 0), (3, Value.ref 194), (2, Value.ref 128), (1, Value.ref 7), (0, Value.ref 0)] [] (W0 6 xs) (fun o' w' => o' = .inl (some (Value.int 1)) ∧ w' = w1) ∧ w1.length ≤ 220 ∧ xsz w1 ≤ 200000 := by
  have z0 : xsz (W0 6 xs) = 76990 := W0_sz
  have z1 : xsz ((W0 6 xs).set 128 (Sum.inr (12, [Value.ref 129, Value.ref 131, Value.ref 133, Value.ref 135, Value.ref 137, Value.ref 139, Value.ref 141, Value.ref 143, Value.ref 145, Value.ref 147, Value.ref 149, Value.ref 151, Value.ref 153, Value.ref 154, Value.ref 155, Value.ref 156, Value.ref 157, Value.int (-16384), Value.int 16384, Value.int 0, Value.int 0, Value.int 0, Value.ref 158, Value.ref 159, Value.int 0, Value.int 0, Value.int 0, Value.int 0, Value.int 0, Value.int 0, Value.int 0, Value.int 0]))) = 76990 := xz_set z0 (W0_128) xcs_o
  refine ⟨((W0 6 xs).set 128 (Sum.inr (12, [Value.ref 129, Value.ref 131, Value.ref 133, Value.ref 135, Value.ref 137, Value.ref 139, Value.ref 141, Value.ref 143, Value.ref 145, Value.ref 147, Value.ref 149, Value.ref 151, Value.ref 153, Value.ref 154, Value.ref 155, Value.ref 156, Value.ref 157, Value.int (-16384), Value.int 16384, Value.int 0, Value.int 0, Value.int 0, Value.ref 158, Value.ref 159, Value.int 0, Value.int 0, Value.int 0, Value.int 0, Value.int 0, Value.int 0, Value.int 0, Value.int 0]))), ?_, Nat.le_trans (Nat.le_of_eq (xls (W0_len))) (by decide), by rw [z1]; decide⟩
  refine i_287_23 (x := 0) rfl ?_
  refine i_287_25 (x := 0) rfl ?_
  refine i_287_26 (c := 6) W0_0 (by decide) ?_
  refine i_287_27 ?_
  refine i_287_29 (c := 0) (by decide) ?_
  refine i_287_30 (fun h => absurd h (by decide)) (fun _ => ?_)
  refine i_287_33 (x := 0) rfl ?_
  refine i_287_34 (x := 0) rfl ?_
  refine i_287_36 (v := Value.int (xs 0)) W0_0 (by decide) (by decide) rfl ?_
  refine i_287_37 ?_
  refine i_287_39 (c := ((xs 0) &&& (31 : Int32))) rfl ?_
  refine i_287_40_2 (by omega) ?_
  refine i_287_316 (x := 7) rfl ?_
  refine i_287_317 (x := 0) rfl ?_
  refine i_287_318 (x := 0) rfl ?_
  refine i_287_320 ?_
  refine i_287_321 (c := 1) (by decide) ?_
  refine i_287_322 (v := Value.int (xs 1)) W0_0 (by decide) (by decide) rfl ?_
  refine i_287_323 (fun _ => ?_) (fun h => absurd (show (xs 1).toInt = 0 by omega) h)
  refine i_287_330 ?_
  refine i_287_331 W0_7 (Nat.le_of_ble_eq_true rfl) (p_12_0 W0_7 W0_78) ?_
  refine i_287_334 (x := 128) rfl ?_
  refine i_287_335 (x := 0) rfl ?_
  refine i_287_336 (x := 0) rfl ?_
  refine i_287_338 ?_
  refine i_287_339 (c := 1) (by decide) ?_
  refine i_287_340 (v := Value.int (xs 1)) W0_0 (by decide) (by decide) rfl ?_
  refine i_287_341 (fun _ => ?_) (fun h => absurd (show (xs 1).toInt = 0 by omega) h)
  refine i_287_348 ?_
  refine i_287_349 W0_128 (Nat.le_of_ble_eq_true rfl) (p_174_0 W0_128) ?_
  refine i_287_352 (fun _ => ?_) (fun h => absurd h (by decide))
  refine i_287_2154 (x := 0) (c := 6) (lv2 := [(4, Value.int 6), (3, Value.ref 194), (2, Value.ref 128), (1, Value.ref 7), (0, Value.ref 0)]) rfl (by decide) rfl ?_
  refine i_287_2157 ?_
  refine i_287_23 (x := 6) rfl ?_
  refine i_287_25 (x := 0) rfl ?_
  refine i_287_26 (c := 6) (xgn (by decide) W0_0) (by decide) ?_
  refine i_287_27 ?_
  refine i_287_29 (c := 0) (by decide) ?_
  refine i_287_30 (fun _ => ?_) (fun h => absurd h (by decide))
  refine i_287_2160 ?_
  exact i_287_2161 rfl ⟨rfl, rfl⟩
theorem p_12_1 {d : Nat} {w : xW} (hw0 : w[7]? = some (Sum.inr (0, [Value.ref 8, Value.ref 78, Value.ref 9, Value.ref 10, Value.ref 13, Value.ref 16, Value.ref 19, Value.ref 93, Value.ref 108, Value.ref 113, Value.ref 29, Value.int 0]))) (hw1 : w[78]? = some (Sum.inr (1, [Value.int (-16384), Value.int 16384, Value.int 0, Value.int 0]))) : xRun d 12 [Value.ref 7, Value.int 1] w (.inl (some (Value.int 0))) (w.set 78 (Sum.inr (1, [Value.int (-16384), Value.int 16384, Value.int 0, Value.int 0]))) := by
  refine xRun.of ?_
  refine i_12_0 (x := 7) rfl ?_
  refine i_12_1 (v := Value.ref 78) hw0 rfl ?_
  refine i_12_4 (v := Value.int 0) hw1 rfl ?_
  refine i_12_7 (lv2 := [(2, Value.int 0), (0, Value.ref 7), (1, Value.int 1)]) rfl ?_
  refine i_12_8 (x := 1) rfl ?_
  refine i_12_9 (fun h => absurd h (by decide)) (fun _ => ?_)
  refine i_12_12 (x := 7) rfl ?_
  refine i_12_13 (v := Value.ref 78) hw0 rfl ?_
  refine i_12_16 ?_
  refine i_12_17 (fs2 := [Value.int (-16384), Value.int 16384, Value.int 0, Value.int 0]) hw1 (Nat.le_of_ble_eq_true rfl) rfl (by decide) ?_
  refine i_12_20 (x := 0) rfl ?_
  exact i_12_21 ⟨rfl, rfl⟩
theorem p_175_1 {d : Nat} {w : xW} (hw0 : w[128]? = some (Sum.inr (12, [Value.ref 129, Value.ref 131, Value.ref 133, Value.ref 135, Value.ref 137, Value.ref 139, Value.ref 141, Value.ref 143, Value.ref 145, Value.ref 147, Value.ref 149, Value.ref 151, Value.ref 153, Value.ref 154, Value.ref 155, Value.ref 156, Value.ref 157, Value.int (-16384), Value.int 16384, Value.int 0, Value.int 0, Value.int 0, Value.ref 158, Value.ref 159, Value.int 0, Value.int 0, Value.int 0, Value.int 0, Value.int 0, Value.int 0, Value.int 0, Value.int 0]))) : xRun d 175 [Value.ref 128, Value.int 1] w (.inl (some (Value.int 0))) (w.set 128 (Sum.inr (12, [Value.ref 129, Value.ref 131, Value.ref 133, Value.ref 135, Value.ref 137, Value.ref 139, Value.ref 141, Value.ref 143, Value.ref 145, Value.ref 147, Value.ref 149, Value.ref 151, Value.ref 153, Value.ref 154, Value.ref 155, Value.ref 156, Value.ref 157, Value.int (-16384), Value.int 16384, Value.int 0, Value.int 0, Value.int 0, Value.ref 158, Value.ref 159, Value.int 0, Value.int 0, Value.int 0, Value.int 0, Value.int 0, Value.int 0, Value.int 0, Value.int 0]))) := by
  refine xRun.of ?_
  refine i_175_0 (x := 128) rfl ?_
  refine i_175_1 (v := Value.int 0) hw0 rfl ?_
  refine i_175_4 (lv2 := [(2, Value.int 0), (0, Value.ref 128), (1, Value.int 1)]) rfl ?_
  refine i_175_5 (x := 1) rfl ?_
  refine i_175_6 (fun h => absurd h (by decide)) (fun _ => ?_)
  refine i_175_9 (x := 128) rfl ?_
  refine i_175_10 ?_
  refine i_175_11 (fs2 := [Value.ref 129, Value.ref 131, Value.ref 133, Value.ref 135, Value.ref 137, Value.ref 139, Value.ref 141, Value.ref 143, Value.ref 145, Value.ref 147, Value.ref 149, Value.ref 151, Value.ref 153, Value.ref 154, Value.ref 155, Value.ref 156, Value.ref 157, Value.int (-16384), Value.int 16384, Value.int 0, Value.int 0, Value.int 0, Value.ref 158, Value.ref 159, Value.int 0, Value.int 0, Value.int 0, Value.int 0, Value.int 0, Value.int 0, Value.int 0, Value.int 0]) hw0 (Nat.le_of_ble_eq_true rfl) rfl (by decide) ?_
  refine i_175_14 (x := 0) rfl ?_
  exact i_175_15 ⟨rfl, rfl⟩
theorem p_174_1 {d : Nat} {w : xW} (hw0 : w[128]? = some (Sum.inr (12, [Value.ref 129, Value.ref 131, Value.ref 133, Value.ref 135, Value.ref 137, Value.ref 139, Value.ref 141, Value.ref 143, Value.ref 145, Value.ref 147, Value.ref 149, Value.ref 151, Value.ref 153, Value.ref 154, Value.ref 155, Value.ref 156, Value.ref 157, Value.int (-16384), Value.int 16384, Value.int 0, Value.int 0, Value.int 0, Value.ref 158, Value.ref 159, Value.int 0, Value.int 0, Value.int 0, Value.int 0, Value.int 0, Value.int 0, Value.int 0, Value.int 0]))) : xRun (d + 1) 174 [Value.ref 128, Value.int 1] w (.inl (some (Value.int 0))) ((w.set 128 (Sum.inr (12, [Value.ref 129, Value.ref 131, Value.ref 133, Value.ref 135, Value.ref 137, Value.ref 139, Value.ref 141, Value.ref 143, Value.ref 145, Value.ref 147, Value.ref 149, Value.ref 151, Value.ref 153, Value.ref 154, Value.ref 155, Value.ref 156, Value.ref 157, Value.int (-16384), Value.int 16384, Value.int 0, Value.int 0, Value.int 0, Value.ref 158, Value.ref 159, Value.int 0, Value.int 0, Value.int 0, Value.int 0, Value.int 0, Value.int 0, Value.int 0, Value.int 0]))).set 128 (Sum.inr (12, [Value.ref 129, Value.ref 131, Value.ref 133, Value.ref 135, Value.ref 137, Value.ref 139, Value.ref 141, Value.ref 143, Value.ref 145, Value.ref 147, Value.ref 149, Value.ref 151, Value.ref 153, Value.ref 154, Value.ref 155, Value.ref 156, Value.ref 157, Value.int (-16384), Value.int 16384, Value.int 0, Value.int 0, Value.int 0, Value.ref 158, Value.ref 159, Value.int 0, Value.int 0, Value.int 0, Value.int 0, Value.int 0, Value.int 0, Value.int 0, Value.int 0]))) := by
  refine xRun.of ?_
  refine i_174_0 (x := 128) rfl ?_
  refine i_174_1 ?_
  refine i_174_2 (fs2 := [Value.ref 129, Value.ref 131, Value.ref 133, Value.ref 135, Value.ref 137, Value.ref 139, Value.ref 141, Value.ref 143, Value.ref 145, Value.ref 147, Value.ref 149, Value.ref 151, Value.ref 153, Value.ref 154, Value.ref 155, Value.ref 156, Value.ref 157, Value.int (-16384), Value.int 16384, Value.int 0, Value.int 0, Value.int 0, Value.ref 158, Value.ref 159, Value.int 0, Value.int 0, Value.int 0, Value.int 0, Value.int 0, Value.int 0, Value.int 0, Value.int 0]) hw0 (Nat.le_of_ble_eq_true rfl) rfl (by decide) ?_
  refine i_174_5 (x := 128) rfl ?_
  refine i_174_6 (x := 1) rfl ?_
  refine i_174_7 (xgs hw0) (Nat.le_of_ble_eq_true rfl) (p_175_1 (xgs hw0)) ?_
  exact i_174_10 ⟨rfl, rfl⟩
theorem o_2_1 {d : Nat} {xs : Nat → Int32} (h0 : ((xs 0) &&& (31 : Int32)).toInt = 2) (c0 : (xs 1).toInt ≠ 0) : ∃ w1, xEv (d + 20) 287 23 [(4, Value.int 0), (3, Value.ref 194), (2, Value.ref 128), (1, Value.ref 7), (0, Value.ref 0)] [] (W0 6 xs) (fun o' w' => o' = .inl (some (Value.int 1)) ∧ w' = w1) ∧ w1.length ≤ 220 ∧ xsz w1 ≤ 200000 := by
  have z0 : xsz (W0 6 xs) = 76990 := W0_sz
  have z1 : xsz ((W0 6 xs).set 78 (Sum.inr (1, [Value.int (-16384), Value.int 16384, Value.int 0, Value.int 0]))) = 76990 := xz_set z0 (W0_78) xcs_o
  have z2 : xsz (((W0 6 xs).set 78 (Sum.inr (1, [Value.int (-16384), Value.int 16384, Value.int 0, Value.int 0]))).set 128 (Sum.inr (12, [Value.ref 129, Value.ref 131, Value.ref 133, Value.ref 135, Value.ref 137, Value.ref 139, Value.ref 141, Value.ref 143, Value.ref 145, Value.ref 147, Value.ref 149, Value.ref 151, Value.ref 153, Value.ref 154, Value.ref 155, Value.ref 156, Value.ref 157, Value.int (-16384), Value.int 16384, Value.int 0, Value.int 0, Value.int 0, Value.ref 158, Value.ref 159, Value.int 0, Value.int 0, Value.int 0, Value.int 0, Value.int 0, Value.int 0, Value.int 0, Value.int 0]))) = 76990 := xz_set z1 (xgn (by decide) W0_128) xcs_o
  have z3 : xsz ((((W0 6 xs).set 78 (Sum.inr (1, [Value.int (-16384), Value.int 16384, Value.int 0, Value.int 0]))).set 128 (Sum.inr (12, [Value.ref 129, Value.ref 131, Value.ref 133, Value.ref 135, Value.ref 137, Value.ref 139, Value.ref 141, Value.ref 143, Value.ref 145, Value.ref 147, Value.ref 149, Value.ref 151, Value.ref 153, Value.ref 154, Value.ref 155, Value.ref 156, Value.ref 157, Value.int (-16384), Value.int 16384, Value.int 0, Value.int 0, Value.int 0, Value.ref 158, Value.ref 159, Value.int 0, Value.int 0, Value.int 0, Value.int 0, Value.int 0, Value.int 0, Value.int 0, Value.int 0]))).set 128 (Sum.inr (12, [Value.ref 129, Value.ref 131, Value.ref 133, Value.ref 135, Value.ref 137, Value.ref 139, Value.ref 141, Value.ref 143, Value.ref 145, Value.ref 147, Value.ref 149, Value.ref 151, Value.ref 153, Value.ref 154, Value.ref 155, Value.ref 156, Value.ref 157, Value.int (-16384), Value.int 16384, Value.int 0, Value.int 0, Value.int 0, Value.ref 158, Value.ref 159, Value.int 0, Value.int 0, Value.int 0, Value.int 0, Value.int 0, Value.int 0, Value.int 0, Value.int 0]))) = 76990 := xz_set z2 (xgs (xgn (by decide) W0_128)) xcs_o
  refine ⟨((((W0 6 xs).set 78 (Sum.inr (1, [Value.int (-16384), Value.int 16384, Value.int 0, Value.int 0]))).set 128 (Sum.inr (12, [Value.ref 129, Value.ref 131, Value.ref 133, Value.ref 135, Value.ref 137, Value.ref 139, Value.ref 141, Value.ref 143, Value.ref 145, Value.ref 147, Value.ref 149, Value.ref 151, Value.ref 153, Value.ref 154, Value.ref 155, Value.ref 156, Value.ref 157, Value.int (-16384), Value.int 16384, Value.int 0, Value.int 0, Value.int 0, Value.ref 158, Value.ref 159, Value.int 0, Value.int 0, Value.int 0, Value.int 0, Value.int 0, Value.int 0, Value.int 0, Value.int 0]))).set 128 (Sum.inr (12, [Value.ref 129, Value.ref 131, Value.ref 133, Value.ref 135, Value.ref 137, Value.ref 139, Value.ref 141, Value.ref 143, Value.ref 145, Value.ref 147, Value.ref 149, Value.ref 151, Value.ref 153, Value.ref 154, Value.ref 155, Value.ref 156, Value.ref 157, Value.int (-16384), Value.int 16384, Value.int 0, Value.int 0, Value.int 0, Value.ref 158, Value.ref 159, Value.int 0, Value.int 0, Value.int 0, Value.int 0, Value.int 0, Value.int 0, Value.int 0, Value.int 0]))), ?_, Nat.le_trans (Nat.le_of_eq (xls (xls (xls (W0_len))))) (by decide), by rw [z3]; decide⟩
  refine i_287_23 (x := 0) rfl ?_
  refine i_287_25 (x := 0) rfl ?_
  refine i_287_26 (c := 6) W0_0 (by decide) ?_
  refine i_287_27 ?_
  refine i_287_29 (c := 0) (by decide) ?_
  refine i_287_30 (fun h => absurd h (by decide)) (fun _ => ?_)
  refine i_287_33 (x := 0) rfl ?_
  refine i_287_34 (x := 0) rfl ?_
  refine i_287_36 (v := Value.int (xs 0)) W0_0 (by decide) (by decide) rfl ?_
  refine i_287_37 ?_
  refine i_287_39 (c := ((xs 0) &&& (31 : Int32))) rfl ?_
  refine i_287_40_2 (by omega) ?_
  refine i_287_316 (x := 7) rfl ?_
  refine i_287_317 (x := 0) rfl ?_
  refine i_287_318 (x := 0) rfl ?_
  refine i_287_320 ?_
  refine i_287_321 (c := 1) (by decide) ?_
  refine i_287_322 (v := Value.int (xs 1)) W0_0 (by decide) (by decide) rfl ?_
  refine i_287_323 (fun h => absurd (show (xs 1).toInt ≠ 0 by omega) (fun g => g h)) (fun _ => ?_)
  refine i_287_326 ?_
  refine i_287_327 ?_
  refine i_287_331 W0_7 (Nat.le_of_ble_eq_true rfl) (p_12_1 W0_7 W0_78) ?_
  refine i_287_334 (x := 128) rfl ?_
  refine i_287_335 (x := 0) rfl ?_
  refine i_287_336 (x := 0) rfl ?_
  refine i_287_338 ?_
  refine i_287_339 (c := 1) (by decide) ?_
  refine i_287_340 (v := Value.int (xs 1)) (xgn (by decide) W0_0) (by decide) (by decide) rfl ?_
  refine i_287_341 (fun h => absurd (show (xs 1).toInt ≠ 0 by omega) (fun g => g h)) (fun _ => ?_)
  refine i_287_344 ?_
  refine i_287_345 ?_
  refine i_287_349 (xgn (by decide) W0_128) (Nat.le_of_ble_eq_true rfl) (p_174_1 (xgn (by decide) W0_128)) ?_
  refine i_287_352 (fun _ => ?_) (fun h => absurd h (by decide))
  refine i_287_2154 (x := 0) (c := 6) (lv2 := [(4, Value.int 6), (3, Value.ref 194), (2, Value.ref 128), (1, Value.ref 7), (0, Value.ref 0)]) rfl (by decide) rfl ?_
  refine i_287_2157 ?_
  refine i_287_23 (x := 6) rfl ?_
  refine i_287_25 (x := 0) rfl ?_
  refine i_287_26 (c := 6) (xgn (by decide) (xgn (by decide) (xgn (by decide) W0_0))) (by decide) ?_
  refine i_287_27 ?_
  refine i_287_29 (c := 0) (by decide) ?_
  refine i_287_30 (fun _ => ?_) (fun h => absurd h (by decide))
  refine i_287_2160 ?_
  exact i_287_2161 rfl ⟨rfl, rfl⟩
theorem op_2 {d : Nat} {xs : Nat → Int32} (h0 : ((xs 0) &&& (31 : Int32)).toInt = 2) : ∃ w1, xEv (d + 20) 287 23 [(4, Value.int 0), (3, Value.ref 194), (2, Value.ref 128), (1, Value.ref 7), (0, Value.ref 0)] [] (W0 6 xs) (fun o' w' => o' = .inl (some (Value.int 1)) ∧ w' = w1) ∧ w1.length ≤ 220 ∧ xsz w1 ≤ 200000 := by
  by_cases c0 : (xs 1).toInt = 0
  · exact o_2_0 h0 c0
  · exact o_2_1 h0 c0
