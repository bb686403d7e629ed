theorem r_180_0 {d : Nat} {w : xW} {a0 : Int32} {a1 : Int32} {g0 : Nat → Value} {g1 : Nat → Value} {g2 : Nat → Value} {h0 : Nat} {h1 : Nat} (hw0 : w[128]? = some (Sum.inr (12, [Value.ref 129, Value.ref 131, Value.ref 133, Value.ref 135, Value.ref 137, Value.ref 139, Value.ref 141, Value.ref 143, Value.ref 145, Value.ref 147, Value.ref 149, Value.ref 151, Value.ref 153, Value.ref 154, Value.ref 155, Value.ref 156, Value.ref 157, Value.int (-16384), Value.int 16384, Value.int 0, Value.int 0, Value.int 0, Value.ref 158, Value.ref 159, Value.int 0, Value.int 0, Value.int 0, Value.int 0, Value.int 0, Value.int 0, Value.int 0, Value.int 0]))) (hw1 : w[153]? = some (Sum.inl (0, 17, g0))) (e2 : 0 ≤ a0.toInt) (e3 : a0.toInt < 17) (hg4 : g0 a0.toInt.toNat = Value.int 64) (hw5 : w[129]? = some (Sum.inr (13, [Value.ref 130, Value.int 1]))) (hw6 : w[130]? = some (Sum.inl (0, 4700, g1))) (hg7 : g1 (0 : Int32).toInt.toNat = Value.int 1) (hw8 : w[156]? = some (Sum.inl (2, 17, fun _ => Value.int 0))) (hw9 : w[135]? = some (Sum.inr (13, [Value.ref 136, Value.int 0]))) (hw10 : w[136]? = some (Sum.inl (0, 4700, fun _ => Value.int 0))) (hw11 : w[157]? = some (Sum.inl (5, 17, g2))) (hg12 : g2 a0.toInt.toNat = Value.ref h0) (e13 : 135 ≠ h0) (e14 : 136 ≠ h0) (e15 : 156 ≠ h0) (hw16 : w[h0]? = some (Sum.inr (13, [Value.ref h1, Value.int 0]))) (e17 : 7 ≤ h0) (e18 : h0 ≠ 128) (e19 : h0 ≠ 137) (hw20 : w[137]? = some (Sum.inr (13, [Value.ref 138, Value.int 0]))) (e21 : h0 ≠ 135) (e22 : h0 ≠ 136) (e23 : h0 ≠ 138) (hw24 : w[138]? = some (Sum.inl (0, 4700, fun _ => Value.int 0))) (e25 : h0 ≠ 157) (e26 : 137 ≠ h0) (e27 : 138 ≠ h0) (e28 : 137 ≠ h1) (e29 : 138 ≠ h1) (e30 : h0 ≠ h1) (e31 : 135 ≠ h1) (e32 : 136 ≠ h1) (e33 : 156 ≠ h1) (hw34 : w[h1]? = some (Sum.inl (0, 140, fun _ => Value.int 0))) (e35 : 7 ≤ h1) (e36 : h1 ≠ 137) (e37 : h1 ≠ h0) (e38 : h1 ≠ 128) (e39 : h0 ≠ 154) (e40 : h1 ≠ 154) (hw41 : w[154]? = some (Sum.inl (0, 17, fun _ => Value.int 0))) (e42 : h0 ≠ 155) (e43 : h1 ≠ 155) (hw44 : w[155]? = some (Sum.inl (0, 17, fun _ => Value.int 0))) : xRun (d + 3) 180 [Value.ref 128, Value.int a0, Value.ref 129, Value.int 0, Value.int 0, Value.int 0, Value.int a1] w (.inl (some (Value.int 0))) ((((((((((((w.set 156 (Sum.inl (2, 17, xup (fun _ => Value.int 0) a0.toInt.toNat (Value.int 0)))).set 136 (Sum.inl (0, 4700, xcp g1 (fun _ => Value.int 0) (0 : Int32).toInt.toNat (0 : Int32).toInt.toNat (1 : Int32).toInt.toNat))).set 135 (Sum.inr (13, [Value.ref 136, Value.int 1]))).set 136 (Sum.inl (0, 4700, xup (xup (xup (xup (xup (xcp g1 (fun _ => Value.int 0) (0 : Int32).toInt.toNat (0 : Int32).toInt.toNat (1 : Int32).toInt.toNat) (3 : Int32).toInt.toNat (Value.int 0)) (3 : Int32).toInt.toNat (Value.int 0)) (2 : Int32).toInt.toNat (Value.int 8)) (0 : Int32).toInt.toNat (Value.int 0)) (1 : Int32).toInt.toNat (Value.int 0)))).set 135 (Sum.inr (13, [Value.ref 136, Value.int 3]))).set h0 (Sum.inr (13, [Value.ref h1, Value.int 0]))).set 138 (Sum.inl (0, 4700, xcp (xup (xup (xup (xup (xup (xcp g1 (fun _ => Value.int 0) (0 : Int32).toInt.toNat (0 : Int32).toInt.toNat (1 : Int32).toInt.toNat) (3 : Int32).toInt.toNat (Value.int 0)) (3 : Int32).toInt.toNat (Value.int 0)) (2 : Int32).toInt.toNat (Value.int 8)) (0 : Int32).toInt.toNat (Value.int 0)) (1 : Int32).toInt.toNat (Value.int 0)) (fun _ => Value.int 0) (0 : Int32).toInt.toNat (0 : Int32).toInt.toNat (3 : Int32).toInt.toNat))).set 137 (Sum.inr (13, [Value.ref 138, Value.int 3]))).set h1 (Sum.inl (0, 140, xcp (xcp (xup (xup (xup (xup (xup (xcp g1 (fun _ => Value.int 0) (0 : Int32).toInt.toNat (0 : Int32).toInt.toNat (1 : Int32).toInt.toNat) (3 : Int32).toInt.toNat (Value.int 0)) (3 : Int32).toInt.toNat (Value.int 0)) (2 : Int32).toInt.toNat (Value.int 8)) (0 : Int32).toInt.toNat (Value.int 0)) (1 : Int32).toInt.toNat (Value.int 0)) (fun _ => Value.int 0) (0 : Int32).toInt.toNat (0 : Int32).toInt.toNat (3 : Int32).toInt.toNat) (fun _ => Value.int 0) (0 : Int32).toInt.toNat (0 : Int32).toInt.toNat (3 : Int32).toInt.toNat))).set h0 (Sum.inr (13, [Value.ref h1, Value.int 3]))).set 154 (Sum.inl (0, 17, xup (fun _ => Value.int 0) a0.toInt.toNat (Value.int 3)))).set 155 (Sum.inl (0, 17, xup (fun _ => Value.int 0) a0.toInt.toNat (Value.int 1)))) := by
  refine xRun.of ?_
  refine i_180_0 (x := 128) rfl ?_
  refine i_180_1 (v := Value.ref 153) hw0 rfl ?_
  refine i_180_4 (x := a0) rfl ?_
  refine i_180_5 (v := Value.int 64) hw1 e2 e3 hg4 ?_
  refine i_180_6 (lv2 := [(7, Value.int 64), (0, Value.ref 128), (1, Value.int a0), (2, Value.ref 129), (3, Value.int 0), (4, Value.int 0), (5, Value.int 0), (6, Value.int a1)]) rfl ?_
  refine i_180_8 (x := 129) rfl ?_
  refine i_180_9 hw5 (Nat.le_of_ble_eq_true rfl) (r_181_0 hw5 hw6 hg7) ?_
  refine i_180_12 (x := 0) rfl ?_
  refine i_180_13 (c := 1) (by decide) ?_
  refine i_180_14 (lv2 := [(8, Value.int 1), (7, Value.int 64), (0, Value.ref 128), (1, Value.int a0), (2, Value.ref 129), (3, Value.int 0), (4, Value.int 0), (5, Value.int 0), (6, Value.int a1)]) rfl ?_
  refine i_180_16 (x := 128) rfl ?_
  refine i_180_17 (v := Value.int 0) hw0 rfl ?_
  refine i_180_20 (fun h => absurd h (by decide)) (fun _ => ?_)
  refine i_180_23 (x := 128) rfl ?_
  refine i_180_24 (v := Value.int 0) hw0 rfl ?_
  refine i_180_27 (fun _ => ?_) (fun h => absurd h (by decide))
  refine i_180_49 (x := 1) rfl ?_
  refine i_180_51 (x := 64) rfl ?_
  refine i_180_53 (c := (-63)) (by decide) ?_
  refine i_180_54 (lv2 := [(9, Value.int (-63)), (8, Value.int 1), (7, Value.int 64), (0, Value.ref 128), (1, Value.int a0), (2, Value.ref 129), (3, Value.int 0), (4, Value.int 0), (5, Value.int 0), (6, Value.int a1)]) rfl ?_
  refine i_180_56 (x := (-63)) rfl ?_
  refine i_180_58 (x := 0) rfl ?_
  refine i_180_59 (c := (-63)) (by decide) ?_
  refine i_180_60 (lv2 := [(10, Value.int (-63)), (9, Value.int (-63)), (8, Value.int 1), (7, Value.int 64), (0, Value.ref 128), (1, Value.int a0), (2, Value.ref 129), (3, Value.int 0), (4, Value.int 0), (5, Value.int 0), (6, Value.int a1)]) rfl ?_
  refine i_180_62 (x := 128) rfl ?_
  refine i_180_63 (v := Value.ref 156) hw0 rfl ?_
  refine i_180_66 (x := a0) rfl ?_
  refine i_180_67 (x := 0) rfl ?_
  refine i_180_69z (v := Value.int 0) hw8 e2 e3 (by decide) rfl ?_
  refine i_180_70 (x := 128) rfl ?_
  refine i_180_71 (v := Value.ref 135) (xgn (by decide) hw0) rfl ?_
  refine i_180_74 (x := 129) rfl ?_
  refine i_180_75 (xgn (by decide) hw9) (Nat.le_of_ble_eq_true rfl) (r_182_0 (xgn (by decide) hw5) (xgn (by decide) hw9) (xgn (by decide) hw6) (xgn (by decide) hw10) hg7) ?_
  refine i_180_78 ?_
  refine i_180_79 (lv2 := [(11, Value.int 0), (10, Value.int (-63)), (9, Value.int (-63)), (8, Value.int 1), (7, Value.int 64), (0, Value.ref 128), (1, Value.int a0), (2, Value.ref 129), (3, Value.int 0), (4, Value.int 0), (5, Value.int 0), (6, Value.int a1)]) rfl ?_
  refine i_180_81 (x := 0) rfl ?_
  refine i_180_83 (fun h => absurd h (by decide)) (fun _ => ?_)
  refine i_180_86 ?_
  refine i_180_87 ?_
  refine i_180_91 (lv2 := [(12, Value.int 1), (11, Value.int 0), (10, Value.int (-63)), (9, Value.int (-63)), (8, Value.int 1), (7, Value.int 64), (0, Value.ref 128), (1, Value.int a0), (2, Value.ref 129), (3, Value.int 0), (4, Value.int 0), (5, Value.int 0), (6, Value.int a1)]) rfl ?_
  refine i_180_93 (x := (-63)) rfl ?_
  refine i_180_95 (fun _ => ?_) (fun h => absurd h (by decide))
  refine i_180_151 (x := 128) rfl ?_
  refine i_180_152 (v := Value.ref 135) (xgn (by decide) (xgn (by decide) (xgn (by decide) hw0))) rfl ?_
  refine i_180_155 (x := (-63)) rfl ?_
  refine i_180_157 (c := 63) (by decide) ?_
  refine i_180_158 (xgs (xgn (by decide) (xgn (by decide) hw9))) (Nat.le_of_ble_eq_true rfl) (r_188_0 (xgs (xgn (by decide) (xgn (by decide) hw9))) (xgn (by decide) (xgs (xgn (by decide) hw10))) (xcp_i rfl hg7)) ?_
  refine i_180_161 (x := 0) rfl ?_
  refine i_180_163 (fun _ => ?_) (fun h => absurd h (by decide))
  refine i_180_174 (x := 128) rfl ?_
  refine i_180_175 (v := Value.ref 135) (xgn (by decide) (xgn (by decide) (xgn (by decide) (xgn (by decide) (xgn (by decide) hw0))))) rfl ?_
  refine i_180_178 (xgs (xgn (by decide) (xgs (xgn (by decide) (xgn (by decide) hw9))))) (Nat.le_of_ble_eq_true rfl) (r_181_1 (xgs (xgn (by decide) (xgs (xgn (by decide) (xgn (by decide) hw9))))) (xgn (by decide) (xgs (xgn (by decide) (xgs (xgn (by decide) hw10))))) (xup_n (by decide) (xup_n (by decide) xup_s))) ?_
  refine i_180_181 (x := (-63)) rfl ?_
  refine i_180_183 (c := 1) (by decide) ?_
  refine i_180_184 (lv2 := [(13, Value.int 1), (12, Value.int 1), (11, Value.int 0), (10, Value.int (-63)), (9, Value.int (-63)), (8, Value.int 1), (7, Value.int 64), (0, Value.ref 128), (1, Value.int a0), (2, Value.ref 129), (3, Value.int 0), (4, Value.int 0), (5, Value.int 0), (6, Value.int a1)]) rfl ?_
  refine i_180_186 (x := 1) rfl ?_
  refine i_180_188 (fun h => absurd h (by decide)) (fun _ => ?_)
  refine i_180_191 ?_
  refine i_180_192 ?_
  refine i_180_205 (lv2 := [(14, Value.int 0), (13, Value.int 1), (12, Value.int 1), (11, Value.int 0), (10, Value.int (-63)), (9, Value.int (-63)), (8, Value.int 1), (7, Value.int 64), (0, Value.ref 128), (1, Value.int a0), (2, Value.ref 129), (3, Value.int 0), (4, Value.int 0), (5, Value.int 0), (6, Value.int a1)]) rfl ?_
  refine i_180_207 (x := 128) rfl ?_
  refine i_180_208 (v := Value.int 0) (xgn (by decide) (xgn (by decide) (xgn (by decide) (xgn (by decide) (xgn (by decide) hw0))))) rfl ?_
  refine i_180_211 (fun h => absurd h (by decide)) (fun _ => ?_)
  refine i_180_214 (x := 128) rfl ?_
  refine i_180_215 (v := Value.ref 135) (xgn (by decide) (xgn (by decide) (xgn (by decide) (xgn (by decide) (xgn (by decide) hw0))))) rfl ?_
  refine i_180_218 (v := Value.int 3) (xgs (xgn (by decide) (xgs (xgn (by decide) (xgn (by decide) hw9))))) rfl ?_
  refine i_180_221 (fun h => absurd h (by decide)) (fun _ => ?_)
  refine i_180_224 (x := 1) rfl ?_
  refine i_180_226 (x := 128) rfl ?_
  refine i_180_227 (v := Value.int 16384) (xgn (by decide) (xgn (by decide) (xgn (by decide) (xgn (by decide) (xgn (by decide) hw0))))) rfl ?_
  refine i_180_230 (fun _ => ?_) (fun h => absurd h (by decide))
  refine i_180_367 (x := 128) rfl ?_
  refine i_180_368 (v := Value.ref 135) (xgn (by decide) (xgn (by decide) (xgn (by decide) (xgn (by decide) (xgn (by decide) hw0))))) rfl ?_
  refine i_180_371 (v := Value.int 3) (xgs (xgn (by decide) (xgs (xgn (by decide) (xgn (by decide) hw9))))) rfl ?_
  refine i_180_374 (fun _ => ?_) (fun h => absurd h (by decide))
  refine i_180_392 (x := 128) rfl ?_
  refine i_180_393 (v := Value.int 0) (xgn (by decide) (xgn (by decide) (xgn (by decide) (xgn (by decide) (xgn (by decide) hw0))))) rfl ?_
  refine i_180_396 (fun h => absurd h (by decide)) (fun _ => ?_)
  refine i_180_399 (x := 128) rfl ?_
  refine i_180_400 (v := Value.int 0) (xgn (by decide) (xgn (by decide) (xgn (by decide) (xgn (by decide) (xgn (by decide) hw0))))) rfl ?_
  refine i_180_403 (fun h => absurd h (by decide)) (fun _ => ?_)
  refine i_180_406 (x := 1) rfl ?_
  refine i_180_408 (x := 128) rfl ?_
  refine i_180_409 (v := Value.int (-16384)) (xgn (by decide) (xgn (by decide) (xgn (by decide) (xgn (by decide) (xgn (by decide) hw0))))) rfl ?_
  refine i_180_412 (fun _ => ?_) (fun h => absurd h (by decide))
  refine i_180_580 (x := 128) rfl ?_
  refine i_180_581 (x := a0) rfl ?_
  refine i_180_582 (x := 128) rfl ?_
  refine i_180_583 (v := Value.ref 135) (xgn (by decide) (xgn (by decide) (xgn (by decide) (xgn (by decide) (xgn (by decide) hw0))))) rfl ?_
  refine i_180_586 (x := (-63)) rfl ?_
  refine i_180_588 (xgn (by decide) (xgn (by decide) (xgn (by decide) (xgn (by decide) (xgn (by decide) hw0))))) (Nat.le_of_ble_eq_true rfl) (r_192_0 (xgn (by decide) (xgn (by decide) (xgn (by decide) (xgn (by decide) (xgn (by decide) hw0))))) (xgn (by decide) (xgn (by decide) (xgn (by decide) (xgn (by decide) (xgn (by decide) hw1))))) e2 e3 hg4 (xgs (xgn (by decide) (xgs (xgn (by decide) (xgn (by decide) hw9))))) (xgn (by decide) (xgs (xgn (by decide) (xgs (xgn (by decide) hw10))))) (xup_n (by decide) (xup_n (by decide) xup_s)) (xgn (by decide) (xgn (by decide) (xgn (by decide) (xgn (by decide) (xgn (by decide) hw11))))) hg12 (xgn e13 (xgn e14 (xgn e13 (xgn e14 (xgn e15 hw16))))) e17 e18 e19 (xgn (by decide) (xgn (by decide) (xgn (by decide) (xgn (by decide) (xgn (by decide) hw20))))) e21 e22 e23 (xgn (by decide) (xgn (by decide) (xgn (by decide) (xgn (by decide) (xgn (by decide) hw24))))) (xup_n (by decide) xup_s) xup_s e25 e26 e27 e28 e29 e30 (xgn e31 (xgn e32 (xgn e31 (xgn e32 (xgn e33 hw34))))) e35 e36 e37 e38 e39 e40 (xgn (by decide) (xgn (by decide) (xgn (by decide) (xgn (by decide) (xgn (by decide) hw41))))) e42 e43 (xgn (by decide) (xgn (by decide) (xgn (by decide) (xgn (by decide) (xgn (by decide) hw44)))))) ?_
  refine i_180_591 (x := 128) rfl ?_
  refine i_180_592 (v := Value.int 0) (xgn (by decide) (xgn (by decide) (xgn e18 (xgn e38 (xgn (by decide) (xgn (by decide) (xgn e18 (xgn (by decide) (xgn (by decide) (xgn (by decide) (xgn (by decide) (xgn (by decide) hw0)))))))))))) rfl ?_
  refine i_180_595 (fun h => absurd h (by decide)) (fun _ => ?_)
  refine i_180_598 (x := 128) rfl ?_
  refine i_180_599 (v := Value.int 0) (xgn (by decide) (xgn (by decide) (xgn e18 (xgn e38 (xgn (by decide) (xgn (by decide) (xgn e18 (xgn (by decide) (xgn (by decide) (xgn (by decide) (xgn (by decide) (xgn (by decide) hw0)))))))))))) rfl ?_
  refine i_180_602 (fun _ => ?_) (fun h => absurd h (by decide))
  refine i_180_629 (x := 0) rfl ?_
  refine i_180_631 (fun _ => ?_) (fun h => absurd h (by decide))
  refine i_180_644 (x := 0) rfl ?_
  refine i_180_646 (fun _ => ?_) (fun h => absurd h (by decide))
  refine i_180_655 (x := 0) rfl ?_
  exact i_180_657 ⟨rfl, rfl⟩
theorem r_225_6 {d : Nat} {w : xW} {a0 : Int32} {a1 : Int32} {a2 : Int32} {a3 : Int32} {g0 : Nat → Value} {g1 : Nat → Value} {h0 : Nat} {h1 : Nat} (e0 : 0 ≤ a0.toInt) (e1 : a0.toInt ≤ 15) (e2 : 0 ≤ a1.toInt) (e3 : a1.toInt ≤ 15) (e4 : (-32) ≤ a2.toInt) (e5 : a2.toInt ≤ 32) (e6 : 0 ≤ a3.toInt) (e7 : a3.toInt ≤ 4) (hw8 : w[128]? = some (Sum.inr (12, [Value.ref 129, Value.ref 131, Value.ref 133, Value.ref 135, Value.ref 137, Value.ref 139, Value.ref 141, Value.ref 143, Value.ref 145, Value.ref 147, Value.ref 149, Value.ref 151, Value.ref 153, Value.ref 154, Value.ref 155, Value.ref 156, Value.ref 157, Value.int (-16384), Value.int 16384, Value.int 0, Value.int 0, Value.int 0, Value.ref 158, Value.ref 159, Value.int 0, Value.int 0, Value.int 0, Value.int 0, Value.int 0, Value.int 0, Value.int 0, Value.int 0]))) (hw9 : w[129]? = some (Sum.inr (13, [Value.ref 130, Value.int 0]))) (hw10 : w[130]? = some (Sum.inl (0, 4700, fun _ => Value.int 0))) (e11 : a2.toInt = 0) (hw12 : w[153]? = some (Sum.inl (0, 17, g0))) (e13 : a0.toInt < 17) (hg14 : g0 a0.toInt.toNat = Value.int 64) (hw15 : w[156]? = some (Sum.inl (2, 17, fun _ => Value.int 0))) (hw16 : w[135]? = some (Sum.inr (13, [Value.ref 136, Value.int 0]))) (hw17 : w[136]? = some (Sum.inl (0, 4700, fun _ => Value.int 0))) (hw18 : w[157]? = some (Sum.inl (5, 17, g1))) (hg19 : g1 a0.toInt.toNat = Value.ref h0) (e20 : 135 ≠ h0) (e21 : 136 ≠ h0) (e22 : 156 ≠ h0) (e23 : 129 ≠ h0) (e24 : 130 ≠ h0) (hw25 : w[h0]? = some (Sum.inr (13, [Value.ref h1, Value.int 0]))) (e26 : 7 ≤ h0) (e27 : h0 ≠ 128) (e28 : h0 ≠ 137) (hw29 : w[137]? = some (Sum.inr (13, [Value.ref 138, Value.int 0]))) (e30 : h0 ≠ 135) (e31 : h0 ≠ 136) (e32 : h0 ≠ 138) (hw33 : w[138]? = some (Sum.inl (0, 4700, fun _ => Value.int 0))) (e34 : h0 ≠ 157) (e35 : 137 ≠ h0) (e36 : 138 ≠ h0) (e37 : 137 ≠ h1) (e38 : 138 ≠ h1) (e39 : h0 ≠ h1) (e40 : 135 ≠ h1) (e41 : 136 ≠ h1) (e42 : 156 ≠ h1) (e43 : 129 ≠ h1) (e44 : 130 ≠ h1) (hw45 : w[h1]? = some (Sum.inl (0, 140, fun _ => Value.int 0))) (e46 : 7 ≤ h1) (e47 : h1 ≠ 137) (e48 : h1 ≠ h0) (e49 : h1 ≠ 128) (e50 : h0 ≠ 154) (e51 : h1 ≠ 154) (hw52 : w[154]? = some (Sum.inl (0, 17, fun _ => Value.int 0))) (e53 : h0 ≠ 155) (e54 : h1 ≠ 155) (hw55 : w[155]? = some (Sum.inl (0, 17, fun _ => Value.int 0))) : xRun (d + 4) 225 [Value.ref 128, Value.int a0, Value.int a1, Value.int a2, Value.int a3] w (.inl (some (Value.int 0))) (((((((((((((((w.set 129 (Sum.inr (13, [Value.ref 130, Value.int 0]))).set 130 (Sum.inl (0, 4700, xup (fun _ => Value.int 0) (0 : Int32).toInt.toNat (Value.int 1)))).set 129 (Sum.inr (13, [Value.ref 130, Value.int 1]))).set 156 (Sum.inl (2, 17, xup (fun _ => Value.int 0) a0.toInt.toNat (Value.int 0)))).set 136 (Sum.inl (0, 4700, xcp (xup (fun _ => Value.int 0) (0 : Int32).toInt.toNat (Value.int 1)) (fun _ => Value.int 0) (0 : Int32).toInt.toNat (0 : Int32).toInt.toNat (1 : Int32).toInt.toNat))).set 135 (Sum.inr (13, [Value.ref 136, Value.int 1]))).set 136 (Sum.inl (0, 4700, xup (xup (xup (xup (xup (xcp (xup (fun _ => Value.int 0) (0 : Int32).toInt.toNat (Value.int 1)) (fun _ => Value.int 0) (0 : Int32).toInt.toNat (0 : Int32).toInt.toNat (1 : Int32).toInt.toNat) (3 : Int32).toInt.toNat (Value.int 0)) (3 : Int32).toInt.toNat (Value.int 0)) (2 : Int32).toInt.toNat (Value.int 8)) (0 : Int32).toInt.toNat (Value.int 0)) (1 : Int32).toInt.toNat (Value.int 0)))).set 135 (Sum.inr (13, [Value.ref 136, Value.int 3]))).set h0 (Sum.inr (13, [Value.ref h1, Value.int 0]))).set 138 (Sum.inl (0, 4700, xcp (xup (xup (xup (xup (xup (xcp (xup (fun _ => Value.int 0) (0 : Int32).toInt.toNat (Value.int 1)) (fun _ => Value.int 0) (0 : Int32).toInt.toNat (0 : Int32).toInt.toNat (1 : Int32).toInt.toNat) (3 : Int32).toInt.toNat (Value.int 0)) (3 : Int32).toInt.toNat (Value.int 0)) (2 : Int32).toInt.toNat (Value.int 8)) (0 : Int32).toInt.toNat (Value.int 0)) (1 : Int32).toInt.toNat (Value.int 0)) (fun _ => Value.int 0) (0 : Int32).toInt.toNat (0 : Int32).toInt.toNat (3 : Int32).toInt.toNat))).set 137 (Sum.inr (13, [Value.ref 138, Value.int 3]))).set h1 (Sum.inl (0, 140, xcp (xcp (xup (xup (xup (xup (xup (xcp (xup (fun _ => Value.int 0) (0 : Int32).toInt.toNat (Value.int 1)) (fun _ => Value.int 0) (0 : Int32).toInt.toNat (0 : Int32).toInt.toNat (1 : Int32).toInt.toNat) (3 : Int32).toInt.toNat (Value.int 0)) (3 : Int32).toInt.toNat (Value.int 0)) (2 : Int32).toInt.toNat (Value.int 8)) (0 : Int32).toInt.toNat (Value.int 0)) (1 : Int32).toInt.toNat (Value.int 0)) (fun _ => Value.int 0) (0 : Int32).toInt.toNat (0 : Int32).toInt.toNat (3 : Int32).toInt.toNat) (fun _ => Value.int 0) (0 : Int32).toInt.toNat (0 : Int32).toInt.toNat (3 : Int32).toInt.toNat))).set h0 (Sum.inr (13, [Value.ref h1, Value.int 3]))).set 154 (Sum.inl (0, 17, xup (fun _ => Value.int 0) a0.toInt.toNat (Value.int 3)))).set 155 (Sum.inl (0, 17, xup (fun _ => Value.int 0) a0.toInt.toNat (Value.int 1)))) := by
  refine xRun.of ?_
  refine i_225_0 (x := a0) rfl ?_
  refine i_225_1 (Nat.le_of_ble_eq_true rfl) (r_168_1 e0 e1) ?_
  refine i_225_4 (x := a1) rfl ?_
  refine i_225_5 (Nat.le_of_ble_eq_true rfl) (r_168_1 e2 e3) ?_
  refine i_225_8 (x := a2) rfl ?_
  refine i_225_9 ?_
  refine i_225_11 ?_
  refine i_225_13 (Nat.le_of_ble_eq_true rfl) (r_169_4 e4 e5) ?_
  refine i_225_16 (Nat.le_of_ble_eq_true rfl) (r_170_1) ?_
  refine i_225_19 (x := a3) rfl ?_
  refine i_225_21 (Nat.le_of_ble_eq_true rfl) (r_178_2 e6 e7) ?_
  refine i_225_24 (x := 128) rfl ?_
  refine i_225_25 (v := Value.ref 129) hw8 rfl ?_
  refine i_225_28 ?_
  refine i_225_29 hw9 (Nat.le_of_ble_eq_true rfl) (r_179_0 hw9 hw10) ?_
  refine i_225_32 (x := a2) rfl ?_
  refine i_225_33 (fun h => absurd e11 h) (fun _ => ?_)
  refine i_225_36 (x := 128) rfl ?_
  refine i_225_37 (x := a0) rfl ?_
  refine i_225_38 (x := 128) rfl ?_
  refine i_225_39 (v := Value.ref 129) (xgn (by decide) (xgn (by decide) (xgn (by decide) hw8))) rfl ?_
  refine i_225_42 ?_
  refine i_225_43 ?_
  refine i_225_44 ?_
  refine i_225_45 (x := a3) rfl ?_
  refine i_225_47 (xgn (by decide) (xgn (by decide) (xgn (by decide) hw8))) (Nat.le_of_ble_eq_true rfl) (r_180_0 (xgn (by decide) (xgn (by decide) (xgn (by decide) hw8))) (xgn (by decide) (xgn (by decide) (xgn (by decide) hw12))) e0 e13 hg14 (xgs (xgn (by decide) (xgs hw9))) (xgn (by decide) (xgs (xgn (by decide) hw10))) xup_s (xgn (by decide) (xgn (by decide) (xgn (by decide) hw15))) (xgn (by decide) (xgn (by decide) (xgn (by decide) hw16))) (xgn (by decide) (xgn (by decide) (xgn (by decide) hw17))) (xgn (by decide) (xgn (by decide) (xgn (by decide) hw18))) hg19 e20 e21 e22 (xgn e23 (xgn e24 (xgn e23 hw25))) e26 e27 e28 (xgn (by decide) (xgn (by decide) (xgn (by decide) hw29))) e30 e31 e32 (xgn (by decide) (xgn (by decide) (xgn (by decide) hw33))) e34 e35 e36 e37 e38 e39 e40 e41 e42 (xgn e43 (xgn e44 (xgn e43 hw45))) e46 e47 e48 e49 e50 e51 (xgn (by decide) (xgn (by decide) (xgn (by decide) hw52))) e53 e54 (xgn (by decide) (xgn (by decide) (xgn (by decide) hw55)))) ?_
  exact i_225_50 ⟨rfl, rfl⟩
theorem r_224_6 {d : Nat} {w : xW} {a0 : Int32} {a1 : Int32} {a2 : Int32} {a3 : Int32} {g0 : Nat → Value} {g1 : Nat → Value} {h0 : Nat} {h1 : Nat} (hw0 : w[128]? = some (Sum.inr (12, [Value.ref 129, Value.ref 131, Value.ref 133, Value.ref 135, Value.ref 137, Value.ref 139, Value.ref 141, Value.ref 143, Value.ref 145, Value.ref 147, Value.ref 149, Value.ref 151, Value.ref 153, Value.ref 154, Value.ref 155, Value.ref 156, Value.ref 157, Value.int (-16384), Value.int 16384, Value.int 0, Value.int 0, Value.int 0, Value.ref 158, Value.ref 159, Value.int 0, Value.int 0, Value.int 0, Value.int 0, Value.int 0, Value.int 0, Value.int 0, Value.int 0]))) (e1 : 0 ≤ a0.toInt) (e2 : a0.toInt ≤ 15) (e3 : 0 ≤ a1.toInt) (e4 : a1.toInt ≤ 15) (e5 : (-32) ≤ a2.toInt) (e6 : a2.toInt ≤ 32) (e7 : 0 ≤ a3.toInt) (e8 : a3.toInt ≤ 4) (hw9 : w[129]? = some (Sum.inr (13, [Value.ref 130, Value.int 0]))) (hw10 : w[130]? = some (Sum.inl (0, 4700, fun _ => Value.int 0))) (e11 : a2.toInt = 0) (hw12 : w[153]? = some (Sum.inl (0, 17, g0))) (e13 : a0.toInt < 17) (hg14 : g0 a0.toInt.toNat = Value.int 64) (hw15 : w[156]? = some (Sum.inl (2, 17, fun _ => Value.int 0))) (hw16 : w[135]? = some (Sum.inr (13, [Value.ref 136, Value.int 0]))) (hw17 : w[136]? = some (Sum.inl (0, 4700, fun _ => Value.int 0))) (hw18 : w[157]? = some (Sum.inl (5, 17, g1))) (hg19 : g1 a0.toInt.toNat = Value.ref h0) (e20 : 135 ≠ h0) (e21 : 136 ≠ h0) (e22 : 156 ≠ h0) (e23 : 129 ≠ h0) (e24 : 130 ≠ h0) (e25 : 128 ≠ h0) (hw26 : w[h0]? = some (Sum.inr (13, [Value.ref h1, Value.int 0]))) (e27 : 7 ≤ h0) (e28 : h0 ≠ 128) (e29 : h0 ≠ 137) (hw30 : w[137]? = some (Sum.inr (13, [Value.ref 138, Value.int 0]))) (e31 : h0 ≠ 135) (e32 : h0 ≠ 136) (e33 : h0 ≠ 138) (hw34 : w[138]? = some (Sum.inl (0, 4700, fun _ => Value.int 0))) (e35 : h0 ≠ 157) (e36 : 137 ≠ h0) (e37 : 138 ≠ h0) (e38 : 137 ≠ h1) (e39 : 138 ≠ h1) (e40 : h0 ≠ h1) (e41 : 135 ≠ h1) (e42 : 136 ≠ h1) (e43 : 156 ≠ h1) (e44 : 129 ≠ h1) (e45 : 130 ≠ h1) (e46 : 128 ≠ h1) (hw47 : w[h1]? = some (Sum.inl (0, 140, fun _ => Value.int 0))) (e48 : 7 ≤ h1) (e49 : h1 ≠ 137) (e50 : h1 ≠ h0) (e51 : h1 ≠ 128) (e52 : h0 ≠ 154) (e53 : h1 ≠ 154) (hw54 : w[154]? = some (Sum.inl (0, 17, fun _ => Value.int 0))) (e55 : h0 ≠ 155) (e56 : h1 ≠ 155) (hw57 : w[155]? = some (Sum.inl (0, 17, fun _ => Value.int 0))) : xRun (d + 5) 224 [Value.ref 128, Value.int a0, Value.int a1, Value.int a2, Value.int a3] w (.inl (some (Value.int 0))) ((((((((((((((((w.set 128 (Sum.inr (12, [Value.ref 129, Value.ref 131, Value.ref 133, Value.ref 135, Value.ref 137, Value.ref 139, Value.ref 141, Value.ref 143, Value.ref 145, Value.ref 147, Value.ref 149, Value.ref 151, Value.ref 153, Value.ref 154, Value.ref 155, Value.ref 156, Value.ref 157, Value.int (-16384), Value.int 16384, Value.int 0, Value.int 0, Value.int 0, Value.ref 158, Value.ref 159, Value.int 0, Value.int 0, Value.int 0, Value.int 0, Value.int 0, Value.int 0, Value.int 0, Value.int 0]))).set 129 (Sum.inr (13, [Value.ref 130, Value.int 0]))).set 130 (Sum.inl (0, 4700, xup (fun _ => Value.int 0) (0 : Int32).toInt.toNat (Value.int 1)))).set 129 (Sum.inr (13, [Value.ref 130, Value.int 1]))).set 156 (Sum.inl (2, 17, xup (fun _ => Value.int 0) a0.toInt.toNat (Value.int 0)))).set 136 (Sum.inl (0, 4700, xcp (xup (fun _ => Value.int 0) (0 : Int32).toInt.toNat (Value.int 1)) (fun _ => Value.int 0) (0 : Int32).toInt.toNat (0 : Int32).toInt.toNat (1 : Int32).toInt.toNat))).set 135 (Sum.inr (13, [Value.ref 136, Value.int 1]))).set 136 (Sum.inl (0, 4700, xup (xup (xup (xup (xup (xcp (xup (fun _ => Value.int 0) (0 : Int32).toInt.toNat (Value.int 1)) (fun _ => Value.int 0) (0 : Int32).toInt.toNat (0 : Int32).toInt.toNat (1 : Int32).toInt.toNat) (3 : Int32).toInt.toNat (Value.int 0)) (3 : Int32).toInt.toNat (Value.int 0)) (2 : Int32).toInt.toNat (Value.int 8)) (0 : Int32).toInt.toNat (Value.int 0)) (1 : Int32).toInt.toNat (Value.int 0)))).set 135 (Sum.inr (13, [Value.ref 136, Value.int 3]))).set h0 (Sum.inr (13, [Value.ref h1, Value.int 0]))).set 138 (Sum.inl (0, 4700, xcp (xup (xup (xup (xup (xup (xcp (xup (fun _ => Value.int 0) (0 : Int32).toInt.toNat (Value.int 1)) (fun _ => Value.int 0) (0 : Int32).toInt.toNat (0 : Int32).toInt.toNat (1 : Int32).toInt.toNat) (3 : Int32).toInt.toNat (Value.int 0)) (3 : Int32).toInt.toNat (Value.int 0)) (2 : Int32).toInt.toNat (Value.int 8)) (0 : Int32).toInt.toNat (Value.int 0)) (1 : Int32).toInt.toNat (Value.int 0)) (fun _ => Value.int 0) (0 : Int32).toInt.toNat (0 : Int32).toInt.toNat (3 : Int32).toInt.toNat))).set 137 (Sum.inr (13, [Value.ref 138, Value.int 3]))).set h1 (Sum.inl (0, 140, xcp (xcp (xup (xup (xup (xup (xup (xcp (xup (fun _ => Value.int 0) (0 : Int32).toInt.toNat (Value.int 1)) (fun _ => Value.int 0) (0 : Int32).toInt.toNat (0 : Int32).toInt.toNat (1 : Int32).toInt.toNat) (3 : Int32).toInt.toNat (Value.int 0)) (3 : Int32).toInt.toNat (Value.int 0)) (2 : Int32).toInt.toNat (Value.int 8)) (0 : Int32).toInt.toNat (Value.int 0)) (1 : Int32).toInt.toNat (Value.int 0)) (fun _ => Value.int 0) (0 : Int32).toInt.toNat (0 : Int32).toInt.toNat (3 : Int32).toInt.toNat) (fun _ => Value.int 0) (0 : Int32).toInt.toNat (0 : Int32).toInt.toNat (3 : Int32).toInt.toNat))).set h0 (Sum.inr (13, [Value.ref h1, Value.int 3]))).set 154 (Sum.inl (0, 17, xup (fun _ => Value.int 0) a0.toInt.toNat (Value.int 3)))).set 155 (Sum.inl (0, 17, xup (fun _ => Value.int 0) a0.toInt.toNat (Value.int 1)))) := by
  refine xRun.of ?_
  refine i_224_0 (x := 128) rfl ?_
  refine i_224_1 ?_
  refine i_224_2 (fs2 := [Value.ref 129, Value.ref 131, Value.ref 133, Value.ref 135, Value.ref 137, Value.ref 139, Value.ref 141, Value.ref 143, Value.ref 145, Value.ref 147, Value.ref 149, Value.ref 151, Value.ref 153, Value.ref 154, Value.ref 155, Value.ref 156, Value.ref 157, Value.int (-16384), Value.int 16384, Value.int 0, Value.int 0, Value.int 0, Value.ref 158, Value.ref 159, Value.int 0, Value.int 0, Value.int 0, Value.int 0, Value.int 0, Value.int 0, Value.int 0, Value.int 0]) hw0 (Nat.le_of_ble_eq_true rfl) rfl (by decide) ?_
  refine i_224_5 (x := 128) rfl ?_
  refine i_224_6 (x := a0) rfl ?_
  refine i_224_7 (x := a1) rfl ?_
  refine i_224_8 (x := a2) rfl ?_
  refine i_224_9 (x := a3) rfl ?_
  refine i_224_11 (xgs hw0) (Nat.le_of_ble_eq_true rfl) (r_225_6 e1 e2 e3 e4 e5 e6 e7 e8 (xgs hw0) (xgn (by decide) hw9) (xgn (by decide) hw10) e11 (xgn (by decide) hw12) e13 hg14 (xgn (by decide) hw15) (xgn (by decide) hw16) (xgn (by decide) hw17) (xgn (by decide) hw18) hg19 e20 e21 e22 e23 e24 (xgn e25 hw26) e27 e28 e29 (xgn (by decide) hw30) e31 e32 e33 (xgn (by decide) hw34) e35 e36 e37 e38 e39 e40 e41 e42 e43 e44 e45 (xgn e46 hw47) e48 e49 e50 e51 e52 e53 (xgn (by decide) hw54) e55 e56 (xgn (by decide) hw57)) ?_
  exact i_224_14 ⟨rfl, rfl⟩
theorem r_165_1 {d : Nat} {w : xW} (hw0 : w[128]? = some (Sum.inr (12, [Value.ref 129, Value.ref 131, Value.ref 133, Value.ref 135, Value.ref 137, Value.ref 139, Value.ref 141, Value.ref 143, Value.ref 145, Value.ref 147, Value.ref 149, Value.ref 151, Value.ref 153, Value.ref 154, Value.ref 155, Value.ref 156, Value.ref 157, Value.int (-16384), Value.int 16384, Value.int 0, Value.int 0, Value.int 0, Value.ref 158, Value.ref 159, Value.int 0, Value.int 0, Value.int 0, Value.int 0, Value.int 0, Value.int 0, Value.int 0, Value.int 0]))) : xRun d 165 [Value.ref 128] w (.inl (some (Value.int 0))) w := by
  refine xRun.of ?_
  refine i_165_0 (x := 128) rfl ?_
  refine i_165_1 (v := Value.int 0) hw0 rfl ?_
  exact i_165_4 ⟨rfl, rfl⟩
theorem o_8_6 {d : Nat} {xs : Nat → Int32} (h0 : ((xs 0) &&& (31 : Int32)).toInt = 8) (c0 : 0 ≤ (xs 1).toInt) (c1 : (xs 1).toInt < 16) (c2 : 0 ≤ (xs 2).toInt) (c3 : (xs 2).toInt < 16) (c4 : (-32) ≤ (xs 3).toInt) (c5 : (xs 3).toInt ≤ 32) (c6 : 0 ≤ (xs 4).toInt) (c7 : (xs 4).toInt ≤ 4) (c8 : (xs 3).toInt = 0) : ∃ w1, xEv (d + 20) 287 23 [(4, Value.int 0), (3, Value.ref 194), (2, Value.ref 128), (1, Value.ref 7), (0, Value.ref 0)] [] (W0 6 xs) (fun o' w' => o' = .inl (some (Value.int 1)) ∧ w' = w1) ∧ w1.length ≤ 220 ∧ xsz w1 ≤ 200000 := by
  refine ⟨((((((((((((((((((((((((((W0 6 xs).set 94 (Sum.inr (4, [Value.int 0, Value.ref 95, Value.int 0, Value.int 0]))).set 96 (Sum.inl (0, 8, xup (xup (fun _ => Value.int 0) (0 : Int32).toInt.toNat (Value.int 1)) (1 : Int32).toInt.toNat (Value.int 0)))).set 95 (Sum.inr (3, [Value.ref 96, Value.int 2]))).set 95 (Sum.inr (3, [Value.ref 96, Value.int 1]))).set 94 (Sum.inr (4, [Value.int 0, Value.ref 95, Value.int 0, Value.int 0]))).set (30 + 3 * (xs 1).toInt.toNat) (Sum.inr (2, [Value.int 64, Value.int 3, Value.int 0, Value.int 1, Value.ref (31 + 3 * (xs 1).toInt.toNat)]))).set (32 + 3 * (xs 1).toInt.toNat) (Sum.inl (0, 8, xup (xup (fun _ => Value.int 0) (1 : Int32).toInt.toNat (Value.int (-2147483648))) (0 : Int32).toInt.toNat (Value.int 0)))).set (31 + 3 * (xs 1).toInt.toNat) (Sum.inr (3, [Value.ref (32 + 3 * (xs 1).toInt.toNat), Value.int 2]))).set 194 (Sum.inl (3, 1, xup (fun _ => Value.long 0) (0 : Int32).toInt.toNat (Value.long 0)))).set 128 (Sum.inr (12, [Value.ref 129, Value.ref 131, Value.ref 133, Value.ref 135, Value.ref 137, Value.ref 139, Value.ref 141, Value.ref 143, Value.ref 145, Value.ref 147, Value.ref 149, Value.ref 151, Value.ref 153, Value.ref 154, Value.ref 155, Value.ref 156, Value.ref 157, Value.int (-16384), Value.int 16384, Value.int 0, Value.int 0, Value.int 0, Value.ref 158, Value.ref 159, Value.int 0, Value.int 0, Value.int 0, Value.int 0, Value.int 0, Value.int 0, Value.int 0, Value.int 0]))).set 129 (Sum.inr (13, [Value.ref 130, Value.int 0]))).set 130 (Sum.inl (0, 4700, xup (fun _ => Value.int 0) (0 : Int32).toInt.toNat (Value.int 1)))).set 129 (Sum.inr (13, [Value.ref 130, Value.int 1]))).set 156 (Sum.inl (2, 17, xup (fun _ => Value.int 0) (xs 1).toInt.toNat (Value.int 0)))).set 136 (Sum.inl (0, 4700, xcp (xup (fun _ => Value.int 0) (0 : Int32).toInt.toNat (Value.int 1)) (fun _ => Value.int 0) (0 : Int32).toInt.toNat (0 : Int32).toInt.toNat (1 : Int32).toInt.toNat))).set 135 (Sum.inr (13, [Value.ref 136, Value.int 1]))).set 136 (Sum.inl (0, 4700, xup (xup (xup (xup (xup (xcp (xup (fun _ => Value.int 0) (0 : Int32).toInt.toNat (Value.int 1)) (fun _ => Value.int 0) (0 : Int32).toInt.toNat (0 : Int32).toInt.toNat (1 : Int32).toInt.toNat) (3 : Int32).toInt.toNat (Value.int 0)) (3 : Int32).toInt.toNat (Value.int 0)) (2 : Int32).toInt.toNat (Value.int 8)) (0 : Int32).toInt.toNat (Value.int 0)) (1 : Int32).toInt.toNat (Value.int 0)))).set 135 (Sum.inr (13, [Value.ref 136, Value.int 3]))).set (160 + 2 * (xs 1).toInt.toNat) (Sum.inr (13, [Value.ref (161 + 2 * (xs 1).toInt.toNat), Value.int 0]))).set 138 (Sum.inl (0, 4700, xcp (xup (xup (xup (xup (xup (xcp (xup (fun _ => Value.int 0) (0 : Int32).toInt.toNat (Value.int 1)) (fun _ => Value.int 0) (0 : Int32).toInt.toNat (0 : Int32).toInt.toNat (1 : Int32).toInt.toNat) (3 : Int32).toInt.toNat (Value.int 0)) (3 : Int32).toInt.toNat (Value.int 0)) (2 : Int32).toInt.toNat (Value.int 8)) (0 : Int32).toInt.toNat (Value.int 0)) (1 : Int32).toInt.toNat (Value.int 0)) (fun _ => Value.int 0) (0 : Int32).toInt.toNat (0 : Int32).toInt.toNat (3 : Int32).toInt.toNat))).set 137 (Sum.inr (13, [Value.ref 138, Value.int 3]))).set (161 + 2 * (xs 1).toInt.toNat) (Sum.inl (0, 140, xcp (xcp (xup (xup (xup (xup (xup (xcp (xup (fun _ => Value.int 0) (0 : Int32).toInt.toNat (Value.int 1)) (fun _ => Value.int 0) (0 : Int32).toInt.toNat (0 : Int32).toInt.toNat (1 : Int32).toInt.toNat) (3 : Int32).toInt.toNat (Value.int 0)) (3 : Int32).toInt.toNat (Value.int 0)) (2 : Int32).toInt.toNat (Value.int 8)) (0 : Int32).toInt.toNat (Value.int 0)) (1 : Int32).toInt.toNat (Value.int 0)) (fun _ => Value.int 0) (0 : Int32).toInt.toNat (0 : Int32).toInt.toNat (3 : Int32).toInt.toNat) (fun _ => Value.int 0) (0 : Int32).toInt.toNat (0 : Int32).toInt.toNat (3 : Int32).toInt.toNat))).set (160 + 2 * (xs 1).toInt.toNat) (Sum.inr (13, [Value.ref (161 + 2 * (xs 1).toInt.toNat), Value.int 3]))).set 154 (Sum.inl (0, 17, xup (fun _ => Value.int 0) (xs 1).toInt.toNat (Value.int 3)))).set 155 (Sum.inl (0, 17, xup (fun _ => Value.int 0) (xs 1).toInt.toNat (Value.int 1)))), ?_, (show xLs _ 220 200000 from ?_)⟩
  · refine i_287_23 (x := 0) rfl ?_
    refine i_287_25 (x := 0) rfl ?_
    refine i_287_26 (c := 6) W0_0 (by decide) ?_
    refine i_287_27 ?_
    refine i_287_29 (c := 0) (by decide) ?_
    refine i_287_30 (fun h => absurd h (by decide)) (fun _ => ?_)
    refine i_287_33 (x := 0) rfl ?_
    refine i_287_34 (x := 0) rfl ?_
    refine i_287_36 (v := Value.int (xs 0)) W0_0 (by decide) (by decide) rfl ?_
    refine i_287_37 ?_
    refine i_287_39 (c := 8) (show ((xs 0) &&& (31 : Int32)) = 8 from (xge_c (n := 8) (by omega) rfl)) ?_
    refine i_287_40_8 rfl ?_
    refine i_287_873 (x := 7) rfl ?_
    refine i_287_874 (x := 0) rfl ?_
    refine i_287_875 (x := 0) rfl ?_
    refine i_287_877 ?_
    refine i_287_878 (c := 1) (by decide) ?_
    refine i_287_879 (v := Value.int (xs 1)) W0_0 (by decide) (by decide) rfl ?_
    refine i_287_880 (x := 0) rfl ?_
    refine i_287_881 (x := 0) rfl ?_
    refine i_287_883 ?_
    refine i_287_884 (c := 2) (by decide) ?_
    refine i_287_885 (v := Value.int (xs 2)) W0_0 (by decide) (by decide) rfl ?_
    refine i_287_886 (x := 0) rfl ?_
    refine i_287_887 (x := 0) rfl ?_
    refine i_287_889 ?_
    refine i_287_890 (c := 3) (by decide) ?_
    refine i_287_891 (v := Value.int (xs 3)) W0_0 (by decide) (by decide) rfl ?_
    refine i_287_892 (x := 0) rfl ?_
    refine i_287_893 (x := 0) rfl ?_
    refine i_287_895 ?_
    refine i_287_896 (c := 4) (by decide) ?_
    refine i_287_897 (v := Value.int (xs 4)) W0_0 (by decide) (by decide) rfl ?_
    refine i_287_898 (x := 194) rfl ?_
    refine i_287_899 (Nat.le_of_ble_eq_true rfl) (r_100_6 W0_7 (by omega) (by omega) (by omega) (by omega) (by omega) (by omega) (by omega) (by omega) W0_8 (greg_at (by omega)) (greg_at (by omega)) W0_93 (W0_reg (by omega)) (by omega) W0_94 W0_95 W0_96 W0_78 (by omega) (by omega) (by omega) (W0_reg (by omega)) (by omega) (by omega) (by omega) (by omega) (by omega) (by omega) (by omega) (by omega) (W0_man (by omega)) (by omega) (by omega) (by omega) (by omega) (W0_mw (by omega)) (by omega) (by omega) (by omega) (by omega) (by omega) (by omega) (by omega) (by omega) (by omega) (by omega) (by omega) (by omega) (by omega) (by omega) (by omega) W0_194) ?_
    refine i_287_902 (lv2 := [(5, Value.int 0), (4, Value.int 0), (3, Value.ref 194), (2, Value.ref 128), (1, Value.ref 7), (0, Value.ref 0)]) rfl ?_
    refine i_287_904 (x := 128) rfl ?_
    refine i_287_905 (x := 0) rfl ?_
    refine i_287_906 (x := 0) rfl ?_
    refine i_287_908 ?_
    refine i_287_909 (c := 1) (by decide) ?_
    refine i_287_910 (v := Value.int (xs 1)) (xgn (by decide) (xgn (by omega) (xgn (by omega) (xgn (by omega) (xgn (by decide) (xgn (by decide) (xgn (by decide) (xgn (by decide) (xgn (by decide) W0_0))))))))) (by decide) (by decide) rfl ?_
    refine i_287_911 (x := 0) rfl ?_
    refine i_287_912 (x := 0) rfl ?_
    refine i_287_914 ?_
    refine i_287_915 (c := 2) (by decide) ?_
    refine i_287_916 (v := Value.int (xs 2)) (xgn (by decide) (xgn (by omega) (xgn (by omega) (xgn (by omega) (xgn (by decide) (xgn (by decide) (xgn (by decide) (xgn (by decide) (xgn (by decide) W0_0))))))))) (by decide) (by decide) rfl ?_
    refine i_287_917 (x := 0) rfl ?_
    refine i_287_918 (x := 0) rfl ?_
    refine i_287_920 ?_
    refine i_287_921 (c := 3) (by decide) ?_
    refine i_287_922 (v := Value.int (xs 3)) (xgn (by decide) (xgn (by omega) (xgn (by omega) (xgn (by omega) (xgn (by decide) (xgn (by decide) (xgn (by decide) (xgn (by decide) (xgn (by decide) W0_0))))))))) (by decide) (by decide) rfl ?_
    refine i_287_923 (x := 0) rfl ?_
    refine i_287_924 (x := 0) rfl ?_
    refine i_287_926 ?_
    refine i_287_927 (c := 4) (by decide) ?_
    refine i_287_928 (v := Value.int (xs 4)) (xgn (by decide) (xgn (by omega) (xgn (by omega) (xgn (by omega) (xgn (by decide) (xgn (by decide) (xgn (by decide) (xgn (by decide) (xgn (by decide) W0_0))))))))) (by decide) (by decide) rfl ?_
    refine i_287_929 (xgn (by decide) (xgn (by omega) (xgn (by omega) (xgn (by omega) (xgn (by decide) (xgn (by decide) (xgn (by decide) (xgn (by decide) (xgn (by decide) W0_128))))))))) (Nat.le_of_ble_eq_true rfl) (r_224_6 (xgn (by decide) (xgn (by omega) (xgn (by omega) (xgn (by omega) (xgn (by decide) (xgn (by decide) (xgn (by decide) (xgn (by decide) (xgn (by decide) W0_128))))))))) (by omega) (by omega) (by omega) (by omega) (by omega) (by omega) (by omega) (by omega) (xgn (by decide) (xgn (by omega) (xgn (by omega) (xgn (by omega) (xgn (by decide) (xgn (by decide) (xgn (by decide) (xgn (by decide) (xgn (by decide) W0_129))))))))) (xgn (by decide) (xgn (by omega) (xgn (by omega) (xgn (by omega) (xgn (by decide) (xgn (by decide) (xgn (by decide) (xgn (by decide) (xgn (by decide) W0_130))))))))) (by omega) (xgn (by decide) (xgn (by omega) (xgn (by omega) (xgn (by omega) (xgn (by decide) (xgn (by decide) (xgn (by decide) (xgn (by decide) (xgn (by decide) W0_153))))))))) (by omega) (gprec_at (by omega)) (xgn (by decide) (xgn (by omega) (xgn (by omega) (xgn (by omega) (xgn (by decide) (xgn (by decide) (xgn (by decide) (xgn (by decide) (xgn (by decide) W0_156))))))))) (xgn (by decide) (xgn (by omega) (xgn (by omega) (xgn (by omega) (xgn (by decide) (xgn (by decide) (xgn (by decide) (xgn (by decide) (xgn (by decide) W0_135))))))))) (xgn (by decide) (xgn (by omega) (xgn (by omega) (xgn (by omega) (xgn (by decide) (xgn (by decide) (xgn (by decide) (xgn (by decide) (xgn (by decide) W0_136))))))))) (xgn (by decide) (xgn (by omega) (xgn (by omega) (xgn (by omega) (xgn (by decide) (xgn (by decide) (xgn (by decide) (xgn (by decide) (xgn (by decide) W0_157))))))))) (gpart_at (by omega)) (by omega) (by omega) (by omega) (by omega) (by omega) (by omega) (xgn (by omega) (xgn (by omega) (xgn (by omega) (xgn (by omega) (xgn (by omega) (xgn (by omega) (xgn (by omega) (xgn (by omega) (xgn (by omega) (W0_part (by omega))))))))))) (by omega) (by omega) (by omega) (xgn (by decide) (xgn (by omega) (xgn (by omega) (xgn (by omega) (xgn (by decide) (xgn (by decide) (xgn (by decide) (xgn (by decide) (xgn (by decide) W0_137))))))))) (by omega) (by omega) (by omega) (xgn (by decide) (xgn (by omega) (xgn (by omega) (xgn (by omega) (xgn (by decide) (xgn (by decide) (xgn (by decide) (xgn (by decide) (xgn (by decide) W0_138))))))))) (by omega) (by omega) (by omega) (by omega) (by omega) (by omega) (by omega) (by omega) (by omega) (by omega) (by omega) (by omega) (xgn (by omega) (xgn (by omega) (xgn (by omega) (xgn (by omega) (xgn (by omega) (xgn (by omega) (xgn (by omega) (xgn (by omega) (xgn (by omega) (W0_pw (by omega))))))))))) (by omega) (by omega) (by omega) (by omega) (by omega) (by omega) (xgn (by decide) (xgn (by omega) (xgn (by omega) (xgn (by omega) (xgn (by decide) (xgn (by decide) (xgn (by decide) (xgn (by decide) (xgn (by decide) W0_154))))))))) (by omega) (by omega) (xgn (by decide) (xgn (by omega) (xgn (by omega) (xgn (by omega) (xgn (by decide) (xgn (by decide) (xgn (by decide) (xgn (by decide) (xgn (by decide) W0_155)))))))))) ?_
    refine i_287_932 (lv2 := [(6, Value.int 0), (5, Value.int 0), (4, Value.int 0), (3, Value.ref 194), (2, Value.ref 128), (1, Value.ref 7), (0, Value.ref 0)]) rfl ?_
    refine i_287_934 (x := 128) rfl ?_
    refine i_287_935 (xgn (by decide) (xgn (by decide) (xgn (by omega) (xgn (by omega) (xgn (by decide) (xgn (by decide) (xgn (by omega) (xgn (by decide) (xgn (by decide) (xgn (by decide) (xgn (by decide) (xgn (by decide) (xgn (by decide) (xgn (by decide) (xgn (by decide) (xgs (xgn (by decide) (xgn (by omega) (xgn (by omega) (xgn (by omega) (xgn (by decide) (xgn (by decide) (xgn (by decide) (xgn (by decide) (xgn (by decide) W0_128))))))))))))))))))))))))) (Nat.le_of_ble_eq_true rfl) (r_165_1 (xgn (by decide) (xgn (by decide) (xgn (by omega) (xgn (by omega) (xgn (by decide) (xgn (by decide) (xgn (by omega) (xgn (by decide) (xgn (by decide) (xgn (by decide) (xgn (by decide) (xgn (by decide) (xgn (by decide) (xgn (by decide) (xgn (by decide) (xgs (xgn (by decide) (xgn (by omega) (xgn (by omega) (xgn (by omega) (xgn (by decide) (xgn (by decide) (xgn (by decide) (xgn (by decide) (xgn (by decide) W0_128)))))))))))))))))))))))))) ?_
    refine i_287_938 (x := 0) rfl ?_
    refine i_287_940 (fun _ => ?_) (fun h => absurd h (by decide))
    refine i_287_945 (x := 0) rfl ?_
    refine i_287_947 (fun h => absurd h (by decide)) (fun _ => ?_)
    refine i_287_950 (x := 194) rfl ?_
    refine i_287_951 ?_
    refine i_287_952 (v := Value.long 0) (xgn (by decide) (xgn (by decide) (xgn (by omega) (xgn (by omega) (xgn (by decide) (xgn (by decide) (xgn (by omega) (xgn (by decide) (xgn (by decide) (xgn (by decide) (xgn (by decide) (xgn (by decide) (xgn (by decide) (xgn (by decide) (xgn (by decide) (xgn (by decide) (xgs (xgn (by omega) (xgn (by omega) (xgn (by omega) (xgn (by decide) (xgn (by decide) (xgn (by decide) (xgn (by decide) (xgn (by decide) W0_194))))))))))))))))))))))))) (by decide) (by decide) xup_s ?_
    refine i_287_953 (x := 0) rfl ?_
    refine i_287_955 (c := 0) (by decide) ?_
    refine i_287_956 (c := 0) (by decide) ?_
    refine i_287_957 (fun _ => ?_) (fun h => absurd h (by decide))
    refine i_287_962 ?_
    refine i_287_2154 (x := 0) (c := 6) (lv2 := [(4, Value.int 6), (6, Value.int 0), (5, Value.int 0), (3, Value.ref 194), (2, Value.ref 128), (1, Value.ref 7), (0, Value.ref 0)]) rfl (by decide) rfl ?_
    refine i_287_2157 ?_
    refine i_287_23 (x := 6) rfl ?_
    refine i_287_25 (x := 0) rfl ?_
    refine i_287_26 (c := 6) (xgn (by decide) (xgn (by decide) (xgn (by omega) (xgn (by omega) (xgn (by decide) (xgn (by decide) (xgn (by omega) (xgn (by decide) (xgn (by decide) (xgn (by decide) (xgn (by decide) (xgn (by decide) (xgn (by decide) (xgn (by decide) (xgn (by decide) (xgn (by decide) (xgn (by decide) (xgn (by omega) (xgn (by omega) (xgn (by omega) (xgn (by decide) (xgn (by decide) (xgn (by decide) (xgn (by decide) (xgn (by decide) W0_0))))))))))))))))))))))))) (by decide) ?_
    refine i_287_27 ?_
    refine i_287_29 (c := 0) (by decide) ?_
    refine i_287_30 (fun _ => ?_) (fun h => absurd h (by decide))
    refine i_287_2160 ?_
    exact i_287_2161 rfl ⟨rfl, rfl⟩
  · refine xLs.set ?_ (xgn (by decide) (xgn (by omega) (xgn (by omega) (xgn (by decide) (xgn (by decide) (xgn (by omega) (xgn (by decide) (xgn (by decide) (xgn (by decide) (xgn (by decide) (xgn (by decide) (xgn (by decide) (xgn (by decide) (xgn (by decide) (xgn (by decide) (xgn (by decide) (xgn (by omega) (xgn (by omega) (xgn (by omega) (xgn (by decide) (xgn (by decide) (xgn (by decide) (xgn (by decide) (xgn (by decide) W0_155)))))))))))))))))))))))) xcs_a
    refine xLs.set ?_ (xgn (by omega) (xgn (by omega) (xgn (by decide) (xgn (by decide) (xgn (by omega) (xgn (by decide) (xgn (by decide) (xgn (by decide) (xgn (by decide) (xgn (by decide) (xgn (by decide) (xgn (by decide) (xgn (by decide) (xgn (by decide) (xgn (by decide) (xgn (by omega) (xgn (by omega) (xgn (by omega) (xgn (by decide) (xgn (by decide) (xgn (by decide) (xgn (by decide) (xgn (by decide) W0_154))))))))))))))))))))))) xcs_a
    refine xLs.set ?_ (xgn (by omega) (xgn (by omega) (xgn (by omega) (xgs (xgn (by omega) (xgn (by omega) (xgn (by omega) (xgn (by omega) (xgn (by omega) (xgn (by omega) (xgn (by omega) (xgn (by omega) (xgn (by omega) (xgn (by omega) (xgn (by omega) (xgn (by omega) (xgn (by omega) (xgn (by omega) (xgn (by omega) (xgn (by omega) (xgn (by omega) (xgn (by omega) (W0_part (by omega)))))))))))))))))))))))) xcs_o
    refine xLs.set ?_ (xgn (by omega) (xgn (by omega) (xgn (by omega) (xgn (by omega) (xgn (by omega) (xgn (by omega) (xgn (by omega) (xgn (by omega) (xgn (by omega) (xgn (by omega) (xgn (by omega) (xgn (by omega) (xgn (by omega) (xgn (by omega) (xgn (by omega) (xgn (by omega) (xgn (by omega) (xgn (by omega) (xgn (by omega) (xgn (by omega) (xgn (by omega) (W0_pw (by omega))))))))))))))))))))))) xcs_a
    refine xLs.set ?_ (xgn (by decide) (xgn (by omega) (xgn (by decide) (xgn (by decide) (xgn (by decide) (xgn (by decide) (xgn (by decide) (xgn (by decide) (xgn (by decide) (xgn (by decide) (xgn (by decide) (xgn (by decide) (xgn (by omega) (xgn (by omega) (xgn (by omega) (xgn (by decide) (xgn (by decide) (xgn (by decide) (xgn (by decide) (xgn (by decide) W0_137)))))))))))))))))))) xcs_o
    refine xLs.set ?_ (xgn (by omega) (xgn (by decide) (xgn (by decide) (xgn (by decide) (xgn (by decide) (xgn (by decide) (xgn (by decide) (xgn (by decide) (xgn (by decide) (xgn (by decide) (xgn (by decide) (xgn (by omega) (xgn (by omega) (xgn (by omega) (xgn (by decide) (xgn (by decide) (xgn (by decide) (xgn (by decide) (xgn (by decide) W0_138))))))))))))))))))) xcs_a
    refine xLs.set ?_ (xgn (by omega) (xgn (by omega) (xgn (by omega) (xgn (by omega) (xgn (by omega) (xgn (by omega) (xgn (by omega) (xgn (by omega) (xgn (by omega) (xgn (by omega) (xgn (by omega) (xgn (by omega) (xgn (by omega) (xgn (by omega) (xgn (by omega) (xgn (by omega) (xgn (by omega) (xgn (by omega) (W0_part (by omega)))))))))))))))))))) xcs_o
    refine xLs.set ?_ (xgn (by decide) (xgs (xgn (by decide) (xgn (by decide) (xgn (by decide) (xgn (by decide) (xgn (by decide) (xgn (by decide) (xgn (by decide) (xgn (by omega) (xgn (by omega) (xgn (by omega) (xgn (by decide) (xgn (by decide) (xgn (by decide) (xgn (by decide) (xgn (by decide) W0_135))))))))))))))))) xcs_o
    refine xLs.set ?_ (xgn (by decide) (xgs (xgn (by decide) (xgn (by decide) (xgn (by decide) (xgn (by decide) (xgn (by decide) (xgn (by decide) (xgn (by omega) (xgn (by omega) (xgn (by omega) (xgn (by decide) (xgn (by decide) (xgn (by decide) (xgn (by decide) (xgn (by decide) W0_136)))))))))))))))) xcs_a
    refine xLs.set ?_ (xgn (by decide) (xgn (by decide) (xgn (by decide) (xgn (by decide) (xgn (by decide) (xgn (by decide) (xgn (by decide) (xgn (by omega) (xgn (by omega) (xgn (by omega) (xgn (by decide) (xgn (by decide) (xgn (by decide) (xgn (by decide) (xgn (by decide) W0_135))))))))))))))) xcs_o
    refine xLs.set ?_ (xgn (by decide) (xgn (by decide) (xgn (by decide) (xgn (by decide) (xgn (by decide) (xgn (by decide) (xgn (by omega) (xgn (by omega) (xgn (by omega) (xgn (by decide) (xgn (by decide) (xgn (by decide) (xgn (by decide) (xgn (by decide) W0_136)))))))))))))) xcs_a
    refine xLs.set ?_ (xgn (by decide) (xgn (by decide) (xgn (by decide) (xgn (by decide) (xgn (by decide) (xgn (by omega) (xgn (by omega) (xgn (by omega) (xgn (by decide) (xgn (by decide) (xgn (by decide) (xgn (by decide) (xgn (by decide) W0_156))))))))))))) xcs_a
    refine xLs.set ?_ (xgn (by decide) (xgs (xgn (by decide) (xgn (by decide) (xgn (by omega) (xgn (by omega) (xgn (by omega) (xgn (by decide) (xgn (by decide) (xgn (by decide) (xgn (by decide) (xgn (by decide) W0_129)))))))))))) xcs_o
    refine xLs.set ?_ (xgn (by decide) (xgn (by decide) (xgn (by decide) (xgn (by omega) (xgn (by omega) (xgn (by omega) (xgn (by decide) (xgn (by decide) (xgn (by decide) (xgn (by decide) (xgn (by decide) W0_130))))))))))) xcs_a
    refine xLs.set ?_ (xgn (by decide) (xgn (by decide) (xgn (by omega) (xgn (by omega) (xgn (by omega) (xgn (by decide) (xgn (by decide) (xgn (by decide) (xgn (by decide) (xgn (by decide) W0_129)))))))))) xcs_o
    refine xLs.set ?_ (xgn (by decide) (xgn (by omega) (xgn (by omega) (xgn (by omega) (xgn (by decide) (xgn (by decide) (xgn (by decide) (xgn (by decide) (xgn (by decide) W0_128))))))))) xcs_o
    refine xLs.set ?_ (xgn (by omega) (xgn (by omega) (xgn (by omega) (xgn (by decide) (xgn (by decide) (xgn (by decide) (xgn (by decide) (xgn (by decide) W0_194)))))))) xcs_a
    refine xLs.set ?_ (xgn (by omega) (xgn (by omega) (xgn (by omega) (xgn (by omega) (xgn (by omega) (xgn (by omega) (xgn (by omega) (W0_man (by omega))))))))) xcs_o
    refine xLs.set ?_ (xgn (by omega) (xgn (by omega) (xgn (by omega) (xgn (by omega) (xgn (by omega) (xgn (by omega) (W0_mw (by omega)))))))) xcs_a
    refine xLs.set ?_ (xgn (by omega) (xgn (by omega) (xgn (by omega) (xgn (by omega) (xgn (by omega) (W0_reg (by omega))))))) xcs_o
    refine xLs.set ?_ (xgn (by decide) (xgn (by decide) (xgn (by decide) (xgs W0_94)))) xcs_o
    refine xLs.set ?_ (xgs (xgn (by decide) (xgn (by decide) W0_95))) xcs_o
    refine xLs.set ?_ (xgn (by decide) (xgn (by decide) W0_95)) xcs_o
    refine xLs.set ?_ (xgn (by decide) W0_96) xcs_a
    refine xLs.set ?_ (W0_94) xcs_o
    exact ⟨Nat.le_trans (Nat.le_of_eq W0_len) (by decide), Nat.le_trans (Nat.le_of_eq W0_sz) (by decide)⟩
theorem r_17_0 {d : Nat} {w : xW} {h0 : Nat} {h1 : Nat} (hw0 : w[h0]? = some (Sum.inr (2, [Value.int 64, Value.int 0, Value.int 0, Value.int 0, Value.ref h1]))) (e1 : 7 ≤ h0) : xRun d 17 [Value.ref h0, Value.int 0, Value.int 0] w (.inl (some (Value.int 0))) (w.set h0 (Sum.inr (2, [Value.int 64, Value.int 0, Value.int 0, Value.int 0, Value.ref h1]))) := by
  refine xRun.of ?_
  refine i_17_0 (x := h0) rfl ?_
  refine i_17_1 (x := 0) rfl ?_
  refine i_17_2 (fs2 := [Value.int 64, Value.int 0, Value.int 0, Value.int 0, Value.ref h1]) hw0 (Nat.le_of_ble_eq_true rfl) rfl e1 ?_
  refine i_17_5 (x := h0) rfl ?_
  refine i_17_6 (x := 0) rfl ?_
  refine i_17_7 (fs2 := [Value.int 64, Value.int 0, Value.int 0, Value.int 0, Value.ref h1]) (xgs hw0) rfl (Nat.le_of_ble_eq_true rfl) rfl e1 ?_
  refine xEv.world (List.set_set _) ?_
  refine i_17_10 ?_
  exact i_17_11 ⟨rfl, rfl⟩
theorem r_16_0 {d : Nat} {w : xW} {h0 : Nat} {h1 : Nat} (hw0 : w[h0]? = some (Sum.inr (2, [Value.int 64, Value.int 0, Value.int 0, Value.int 0, Value.ref h1]))) (e1 : 7 ≤ h0) : xRun (d + 1) 16 [Value.ref h0] w (.inl (some (Value.int 0))) (w.set h0 (Sum.inr (2, [Value.int 64, Value.int 0, Value.int 0, Value.int 0, Value.ref h1]))) := by
  refine xRun.of ?_
  refine i_16_0 (x := h0) rfl ?_
  refine i_16_1 ?_
  refine i_16_2 ?_
  refine i_16_3 hw0 (Nat.le_of_ble_eq_true rfl) (r_17_0 hw0 e1) ?_
  exact i_16_6 ⟨rfl, rfl⟩
theorem r_102_1 {d : Nat} {w : xW} {h0 : Nat} {h1 : Nat} {a0 : Int32} {a1 : Int32} {h2 : Nat} {h3 : Nat} (hw0 : w[h1]? = some (Sum.inr (2, [Value.int 64, Value.int 0, Value.int 0, Value.int 0, Value.ref h2]))) (e1 : a0.toInt ≠ 0) (hw2 : w[h0]? = some (Sum.inr (2, [Value.int 64, Value.int 0, Value.int 0, Value.int 0, Value.ref h3]))) (e3 : 7 ≤ h0) : xRun (d + 2) 102 [Value.ref 93, Value.ref h0, Value.ref h1, Value.int a0, Value.int a1] w (.inl (some (Value.int 0))) (w.set h0 (Sum.inr (2, [Value.int 64, Value.int 0, Value.int 0, Value.int 0, Value.ref h3]))) := by
  refine xRun.of ?_
  refine i_102_0 (x := h1) rfl ?_
  refine i_102_1 (v := Value.int 0) hw0 rfl ?_
  refine i_102_4 (fun _ => ?_) (fun h => absurd h (by decide))
  refine i_102_17 ?_
  refine i_102_18 (lv2 := [(5, Value.int 0), (0, Value.ref 93), (1, Value.ref h0), (2, Value.ref h1), (3, Value.int a0), (4, Value.int a1)]) rfl ?_
  refine i_102_20 (x := a0) rfl ?_
  refine i_102_21 (fun _ => ?_) (fun h => absurd e1 (fun g => g h))
  refine i_102_49 (x := h1) rfl ?_
  refine i_102_50 (v := Value.int 0) hw0 rfl ?_
  refine i_102_53 (fun h => absurd h (by decide)) (fun _ => ?_)
  refine i_102_56 (x := h0) rfl ?_
  refine i_102_57 hw2 (Nat.le_of_ble_eq_true rfl) (r_16_0 hw2 e3) ?_
  exact i_102_60 ⟨rfl, rfl⟩
theorem r_101_7 {d : Nat} {w : xW} {a0 : Int32} {a1 : Int32} {a2 : Int32} {a3 : Int32} {g0 : Nat → Value} {h0 : Nat} {h1 : Nat} {h2 : Nat} {h3 : Nat} (e0 : 0 ≤ a0.toInt) (e1 : a0.toInt < 16) (e2 : 0 ≤ a1.toInt) (e3 : a1.toInt < 16) (e4 : (-32) ≤ a2.toInt) (e5 : a2.toInt ≤ 32) (e6 : 0 ≤ a3.toInt) (e7 : a3.toInt ≤ 4) (hw8 : w[7]? = some (Sum.inr (0, [Value.ref 8, Value.ref 78, Value.ref 9, Value.ref 10, Value.ref 13, Value.ref 16, Value.ref 19, Value.ref 93, Value.ref 108, Value.ref 113, Value.ref 29, Value.int 0]))) (hw9 : w[8]? = some (Sum.inl (4, 16, g0))) (hg10 : g0 a0.toInt.toNat = Value.ref h0) (hg11 : g0 a1.toInt.toNat = Value.ref h1) (hw12 : w[93]? = some (Sum.inr (8, [Value.ref 78, Value.ref 79, Value.ref 86, Value.ref 101, Value.ref 94, Value.ref 97, Value.ref 99]))) (hw13 : w[h1]? = some (Sum.inr (2, [Value.int 64, Value.int 0, Value.int 0, Value.int 0, Value.ref h2]))) (e14 : a2.toInt ≠ 0) (hw15 : w[h0]? = some (Sum.inr (2, [Value.int 64, Value.int 0, Value.int 0, Value.int 0, Value.ref h3]))) (e16 : 7 ≤ h0) : xRun (d + 3) 101 [Value.ref 7, Value.int a0, Value.int a1, Value.int a2, Value.int a3] w (.inl (some (Value.int 0))) (w.set h0 (Sum.inr (2, [Value.int 64, Value.int 0, Value.int 0, Value.int 0, Value.ref h3]))) := by
  refine xRun.of ?_
  refine i_101_0 (x := a0) rfl ?_
  refine i_101_1 (Nat.le_of_ble_eq_true rfl) (r_15_1 e0 e1) ?_
  refine i_101_4 (fun h => absurd h (by decide)) (fun _ => ?_)
  refine i_101_7 (x := a1) rfl ?_
  refine i_101_8 (Nat.le_of_ble_eq_true rfl) (r_15_1 e2 e3) ?_
  refine i_101_11 (fun h => absurd h (by decide)) (fun _ => ?_)
  refine i_101_14 (x := a2) rfl ?_
  refine i_101_15 ?_
  refine i_101_17 (fun h => absurd e4 (Int.not_le.mpr h)) (fun _ => ?_)
  refine i_101_20 (x := a2) rfl ?_
  refine i_101_21 ?_
  refine i_101_23 (fun h => absurd e5 (Int.not_le.mpr h)) (fun _ => ?_)
  refine i_101_26 (x := a3) rfl ?_
  refine i_101_28 (Nat.le_of_ble_eq_true rfl) (r_22_2 e6 e7) ?_
  refine i_101_31 (fun _ => ?_) (fun h => absurd h (by decide))
  refine i_101_42 (x := 7) rfl ?_
  refine i_101_43 (v := Value.ref 93) hw8 rfl ?_
  refine i_101_46 (x := 7) rfl ?_
  refine i_101_47 (v := Value.ref 8) hw8 rfl ?_
  refine i_101_50 (x := a0) rfl ?_
  refine i_101_51 (v := Value.ref h0) hw9 e0 e1 hg10 ?_
  refine i_101_52 (x := 7) rfl ?_
  refine i_101_53 (v := Value.ref 8) hw8 rfl ?_
  refine i_101_56 (x := a1) rfl ?_
  refine i_101_57 (v := Value.ref h1) hw9 e2 e3 hg11 ?_
  refine i_101_58 (x := a2) rfl ?_
  refine i_101_59 (x := a3) rfl ?_
  refine i_101_61 hw12 (Nat.le_of_ble_eq_true rfl) (r_102_1 hw13 e14 hw15 e16) ?_
  exact i_101_64 ⟨rfl, rfl⟩
theorem r_100_7 {d : Nat} {w : xW} {a0 : Int32} {a1 : Int32} {a2 : Int32} {a3 : Int32} {g0 : Nat → Value} {h0 : Nat} {h1 : Nat} {h2 : Nat} {h3 : Nat} (hw0 : w[7]? = some (Sum.inr (0, [Value.ref 8, Value.ref 78, Value.ref 9, Value.ref 10, Value.ref 13, Value.ref 16, Value.ref 19, Value.ref 93, Value.ref 108, Value.ref 113, Value.ref 29, Value.int 0]))) (e1 : 0 ≤ a0.toInt) (e2 : a0.toInt < 16) (e3 : 0 ≤ a1.toInt) (e4 : a1.toInt < 16) (e5 : (-32) ≤ a2.toInt) (e6 : a2.toInt ≤ 32) (e7 : 0 ≤ a3.toInt) (e8 : a3.toInt ≤ 4) (hw9 : w[8]? = some (Sum.inl (4, 16, g0))) (hg10 : g0 a0.toInt.toNat = Value.ref h0) (hg11 : g0 a1.toInt.toNat = Value.ref h1) (hw12 : w[93]? = some (Sum.inr (8, [Value.ref 78, Value.ref 79, Value.ref 86, Value.ref 101, Value.ref 94, Value.ref 97, Value.ref 99]))) (hw13 : w[h1]? = some (Sum.inr (2, [Value.int 64, Value.int 0, Value.int 0, Value.int 0, Value.ref h2]))) (e14 : a2.toInt ≠ 0) (hw15 : w[h0]? = some (Sum.inr (2, [Value.int 64, Value.int 0, Value.int 0, Value.int 0, Value.ref h3]))) (e16 : 7 ≤ h0) (e17 : h0 ≠ 194) (hw18 : w[194]? = some (Sum.inl (3, 1, fun _ => Value.long 0))) : xRun (d + 4) 100 [Value.ref 7, Value.int a0, Value.int a1, Value.int a2, Value.int a3, Value.ref 194] w (.inl (some (Value.int 0))) ((w.set h0 (Sum.inr (2, [Value.int 64, Value.int 0, Value.int 0, Value.int 0, Value.ref h3]))).set 194 (Sum.inl (3, 1, xup (fun _ => Value.long 0) (0 : Int32).toInt.toNat (Value.long 0)))) := by
  refine xRun.of ?_
  refine i_100_0 (x := 194) rfl ?_
  refine i_100_2 ?_
  refine i_100_3 (x := 7) rfl ?_
  refine i_100_4 (x := a0) rfl ?_
  refine i_100_5 (x := a1) rfl ?_
  refine i_100_6 (x := a2) rfl ?_
  refine i_100_7 (x := a3) rfl ?_
  refine i_100_9 hw0 (Nat.le_of_ble_eq_true rfl) (r_101_7 e1 e2 e3 e4 e5 e6 e7 e8 hw0 hw9 hg10 hg11 hw12 hw13 e14 hw15 e16) ?_
  refine i_100_12 (c := 0) (by decide) ?_
  refine i_100_13 (v := Value.long 0) (xgn e17 hw18) (by decide) (by decide) (by decide) rfl ?_
  refine i_100_14 ?_
  refine i_100_21 ?_
  exact i_100_22 ⟨rfl, rfl⟩
theorem r_171_0 {d : Nat} {w : xW} {a0 : Int32} (hw0 : w[128]? = some (Sum.inr (12, [Value.ref 129, Value.ref 131, Value.ref 133, Value.ref 135, Value.ref 137, Value.ref 139, Value.ref 141, Value.ref 143, Value.ref 145, Value.ref 147, Value.ref 149, Value.ref 151, Value.ref 153, Value.ref 154, Value.ref 155, Value.ref 156, Value.ref 157, Value.int (-16384), Value.int 16384, Value.int 0, Value.int 0, Value.int 0, Value.ref 158, Value.ref 159, Value.int 0, Value.int 0, Value.int 0, Value.int 0, Value.int 0, Value.int 0, Value.int 0, Value.int 0]))) (hw1 : w[154]? = some (Sum.inl (0, 17, fun _ => Value.int 0))) (e2 : 0 ≤ a0.toInt) (e3 : a0.toInt < 17) (hw4 : w[156]? = some (Sum.inl (2, 17, fun _ => Value.int 0))) : xRun d 171 [Value.ref 128, Value.int a0, Value.int 0, Value.int 0] w (.inl (some (Value.int 0))) ((w.set 154 (Sum.inl (0, 17, xup (fun _ => Value.int 0) a0.toInt.toNat (Value.int 0)))).set 156 (Sum.inl (2, 17, xup (fun _ => Value.int 0) a0.toInt.toNat (Value.int 0)))) := by
  refine xRun.of ?_
  refine i_171_0 (x := 128) rfl ?_
  refine i_171_1 (v := Value.ref 154) hw0 rfl ?_
  refine i_171_4 (x := a0) rfl ?_
  refine i_171_5 (x := 0) rfl ?_
  refine i_171_6 (v := Value.int 0) hw1 e2 e3 (by decide) rfl ?_
  refine i_171_7 (x := 128) rfl ?_
  refine i_171_8 (v := Value.ref 156) (xgn (by decide) hw0) rfl ?_
  refine i_171_11 (x := a0) rfl ?_
  refine i_171_12 (x := 0) rfl ?_
  refine i_171_13z (v := Value.int 0) (xgn (by decide) hw4) e2 e3 (by decide) rfl ?_
  refine i_171_14 ?_
  exact i_171_15 ⟨rfl, rfl⟩
theorem r_225_7 {d : Nat} {w : xW} {a0 : Int32} {a1 : Int32} {a2 : Int32} {a3 : Int32} (e0 : 0 ≤ a0.toInt) (e1 : a0.toInt ≤ 15) (e2 : 0 ≤ a1.toInt) (e3 : a1.toInt ≤ 15) (e4 : (-32) ≤ a2.toInt) (e5 : a2.toInt ≤ 32) (e6 : 0 ≤ a3.toInt) (e7 : a3.toInt ≤ 4) (hw8 : w[128]? = some (Sum.inr (12, [Value.ref 129, Value.ref 131, Value.ref 133, Value.ref 135, Value.ref 137, Value.ref 139, Value.ref 141, Value.ref 143, Value.ref 145, Value.ref 147, Value.ref 149, Value.ref 151, Value.ref 153, Value.ref 154, Value.ref 155, Value.ref 156, Value.ref 157, Value.int (-16384), Value.int 16384, Value.int 0, Value.int 0, Value.int 0, Value.ref 158, Value.ref 159, Value.int 0, Value.int 0, Value.int 0, Value.int 0, Value.int 0, Value.int 0, Value.int 0, Value.int 0]))) (hw9 : w[129]? = some (Sum.inr (13, [Value.ref 130, Value.int 0]))) (hw10 : w[130]? = some (Sum.inl (0, 4700, fun _ => Value.int 0))) (e11 : a2.toInt ≠ 0) (hw12 : w[154]? = some (Sum.inl (0, 17, fun _ => Value.int 0))) (e13 : a1.toInt < 17) (e14 : a0.toInt < 17) (hw15 : w[156]? = some (Sum.inl (2, 17, fun _ => Value.int 0))) : xRun (d + 2) 225 [Value.ref 128, Value.int a0, Value.int a1, Value.int a2, Value.int a3] w (.inl (some (Value.int 0))) (((((w.set 129 (Sum.inr (13, [Value.ref 130, Value.int 0]))).set 130 (Sum.inl (0, 4700, xup (fun _ => Value.int 0) (0 : Int32).toInt.toNat (Value.int 1)))).set 129 (Sum.inr (13, [Value.ref 130, Value.int 1]))).set 154 (Sum.inl (0, 17, xup (fun _ => Value.int 0) a0.toInt.toNat (Value.int 0)))).set 156 (Sum.inl (2, 17, xup (fun _ => Value.int 0) a0.toInt.toNat (Value.int 0)))) := by
  refine xRun.of ?_
  refine i_225_0 (x := a0) rfl ?_
  refine i_225_1 (Nat.le_of_ble_eq_true rfl) (r_168_1 e0 e1) ?_
  refine i_225_4 (x := a1) rfl ?_
  refine i_225_5 (Nat.le_of_ble_eq_true rfl) (r_168_1 e2 e3) ?_
  refine i_225_8 (x := a2) rfl ?_
  refine i_225_9 ?_
  refine i_225_11 ?_
  refine i_225_13 (Nat.le_of_ble_eq_true rfl) (r_169_4 e4 e5) ?_
  refine i_225_16 (Nat.le_of_ble_eq_true rfl) (r_170_1) ?_
  refine i_225_19 (x := a3) rfl ?_
  refine i_225_21 (Nat.le_of_ble_eq_true rfl) (r_178_2 e6 e7) ?_
  refine i_225_24 (x := 128) rfl ?_
  refine i_225_25 (v := Value.ref 129) hw8 rfl ?_
  refine i_225_28 ?_
  refine i_225_29 hw9 (Nat.le_of_ble_eq_true rfl) (r_179_0 hw9 hw10) ?_
  refine i_225_32 (x := a2) rfl ?_
  refine i_225_33 (fun _ => ?_) (fun h => absurd e11 (fun g => g h))
  refine i_225_51 (x := 128) rfl ?_
  refine i_225_52 (v := Value.ref 154) (xgn (by decide) (xgn (by decide) (xgn (by decide) hw8))) rfl ?_
  refine i_225_55 (x := a1) rfl ?_
  refine i_225_56 (v := Value.int 0) (xgn (by decide) (xgn (by decide) (xgn (by decide) hw12))) e2 e13 rfl ?_
  refine i_225_57 (fun h => absurd h (by decide)) (fun _ => ?_)
  refine i_225_60 (x := 128) rfl ?_
  refine i_225_61 (x := a0) rfl ?_
  refine i_225_62 ?_
  refine i_225_63 ?_
  refine i_225_64 (xgn (by decide) (xgn (by decide) (xgn (by decide) hw8))) (Nat.le_of_ble_eq_true rfl) (r_171_0 (xgn (by decide) (xgn (by decide) (xgn (by decide) hw8))) (xgn (by decide) (xgn (by decide) (xgn (by decide) hw12))) e0 e14 (xgn (by decide) (xgn (by decide) (xgn (by decide) hw15)))) ?_
  exact i_225_67 ⟨rfl, rfl⟩
theorem r_224_7 {d : Nat} {w : xW} {a0 : Int32} {a1 : Int32} {a2 : Int32} {a3 : Int32} (hw0 : w[128]? = some (Sum.inr (12, [Value.ref 129, Value.ref 131, Value.ref 133, Value.ref 135, Value.ref 137, Value.ref 139, Value.ref 141, Value.ref 143, Value.ref 145, Value.ref 147, Value.ref 149, Value.ref 151, Value.ref 153, Value.ref 154, Value.ref 155, Value.ref 156, Value.ref 157, Value.int (-16384), Value.int 16384, Value.int 0, Value.int 0, Value.int 0, Value.ref 158, Value.ref 159, Value.int 0, Value.int 0, Value.int 0, Value.int 0, Value.int 0, Value.int 0, Value.int 0, Value.int 0]))) (e1 : 0 ≤ a0.toInt) (e2 : a0.toInt ≤ 15) (e3 : 0 ≤ a1.toInt) (e4 : a1.toInt ≤ 15) (e5 : (-32) ≤ a2.toInt) (e6 : a2.toInt ≤ 32) (e7 : 0 ≤ a3.toInt) (e8 : a3.toInt ≤ 4) (hw9 : w[129]? = some (Sum.inr (13, [Value.ref 130, Value.int 0]))) (hw10 : w[130]? = some (Sum.inl (0, 4700, fun _ => Value.int 0))) (e11 : a2.toInt ≠ 0) (hw12 : w[154]? = some (Sum.inl (0, 17, fun _ => Value.int 0))) (e13 : a1.toInt < 17) (e14 : a0.toInt < 17) (hw15 : w[156]? = some (Sum.inl (2, 17, fun _ => Value.int 0))) : xRun (d + 3) 224 [Value.ref 128, Value.int a0, Value.int a1, Value.int a2, Value.int a3] w (.inl (some (Value.int 0))) ((((((w.set 128 (Sum.inr (12, [Value.ref 129, Value.ref 131, Value.ref 133, Value.ref 135, Value.ref 137, Value.ref 139, Value.ref 141, Value.ref 143, Value.ref 145, Value.ref 147, Value.ref 149, Value.ref 151, Value.ref 153, Value.ref 154, Value.ref 155, Value.ref 156, Value.ref 157, Value.int (-16384), Value.int 16384, Value.int 0, Value.int 0, Value.int 0, Value.ref 158, Value.ref 159, Value.int 0, Value.int 0, Value.int 0, Value.int 0, Value.int 0, Value.int 0, Value.int 0, Value.int 0]))).set 129 (Sum.inr (13, [Value.ref 130, Value.int 0]))).set 130 (Sum.inl (0, 4700, xup (fun _ => Value.int 0) (0 : Int32).toInt.toNat (Value.int 1)))).set 129 (Sum.inr (13, [Value.ref 130, Value.int 1]))).set 154 (Sum.inl (0, 17, xup (fun _ => Value.int 0) a0.toInt.toNat (Value.int 0)))).set 156 (Sum.inl (2, 17, xup (fun _ => Value.int 0) a0.toInt.toNat (Value.int 0)))) := by
  refine xRun.of ?_
  refine i_224_0 (x := 128) rfl ?_
  refine i_224_1 ?_
  refine i_224_2 (fs2 := [Value.ref 129, Value.ref 131, Value.ref 133, Value.ref 135, Value.ref 137, Value.ref 139, Value.ref 141, Value.ref 143, Value.ref 145, Value.ref 147, Value.ref 149, Value.ref 151, Value.ref 153, Value.ref 154, Value.ref 155, Value.ref 156, Value.ref 157, Value.int (-16384), Value.int 16384, Value.int 0, Value.int 0, Value.int 0, Value.ref 158, Value.ref 159, Value.int 0, Value.int 0, Value.int 0, Value.int 0, Value.int 0, Value.int 0, Value.int 0, Value.int 0]) hw0 (Nat.le_of_ble_eq_true rfl) rfl (by decide) ?_
  refine i_224_5 (x := 128) rfl ?_
  refine i_224_6 (x := a0) rfl ?_
  refine i_224_7 (x := a1) rfl ?_
  refine i_224_8 (x := a2) rfl ?_
  refine i_224_9 (x := a3) rfl ?_
  refine i_224_11 (xgs hw0) (Nat.le_of_ble_eq_true rfl) (r_225_7 e1 e2 e3 e4 e5 e6 e7 e8 (xgs hw0) (xgn (by decide) hw9) (xgn (by decide) hw10) e11 (xgn (by decide) hw12) e13 e14 (xgn (by decide) hw15)) ?_
  exact i_224_14 ⟨rfl, rfl⟩
theorem o_8_7 {d : Nat} {xs : Nat → Int32} (h0 : ((xs 0) &&& (31 : Int32)).toInt = 8) (c0 : 0 ≤ (xs 1).toInt) (c1 : (xs 1).toInt < 16) (c2 : 0 ≤ (xs 2).toInt) (c3 : (xs 2).toInt < 16) (c4 : (-32) ≤ (xs 3).toInt) (c5 : (xs 3).toInt ≤ 32) (c6 : 0 ≤ (xs 4).toInt) (c7 : (xs 4).toInt ≤ 4) (c8 : (xs 3).toInt ≠ 0) : ∃ w1, xEv (d + 20) 287 23 [(4, Value.int 0), (3, Value.ref 194), (2, Value.ref 128), (1, Value.ref 7), (0, Value.ref 0)] [] (W0 6 xs) (fun o' w' => o' = .inl (some (Value.int 1)) ∧ w' = w1) ∧ w1.length ≤ 220 ∧ xsz w1 ≤ 200000 := by
  refine ⟨(((((((((W0 6 xs).set (30 + 3 * (xs 1).toInt.toNat) (Sum.inr (2, [Value.int 64, Value.int 0, Value.int 0, Value.int 0, Value.ref (31 + 3 * (xs 1).toInt.toNat)]))).set 194 (Sum.inl (3, 1, xup (fun _ => Value.long 0) (0 : Int32).toInt.toNat (Value.long 0)))).set 128 (Sum.inr (12, [Value.ref 129, Value.ref 131, Value.ref 133, Value.ref 135, Value.ref 137, Value.ref 139, Value.ref 141, Value.ref 143, Value.ref 145, Value.ref 147, Value.ref 149, Value.ref 151, Value.ref 153, Value.ref 154, Value.ref 155, Value.ref 156, Value.ref 157, Value.int (-16384), Value.int 16384, Value.int 0, Value.int 0, Value.int 0, Value.ref 158, Value.ref 159, Value.int 0, Value.int 0, Value.int 0, Value.int 0, Value.int 0, Value.int 0, Value.int 0, Value.int 0]))).set 129 (Sum.inr (13, [Value.ref 130, Value.int 0]))).set 130 (Sum.inl (0, 4700, xup (fun _ => Value.int 0) (0 : Int32).toInt.toNat (Value.int 1)))).set 129 (Sum.inr (13, [Value.ref 130, Value.int 1]))).set 154 (Sum.inl (0, 17, xup (fun _ => Value.int 0) (xs 1).toInt.toNat (Value.int 0)))).set 156 (Sum.inl (2, 17, xup (fun _ => Value.int 0) (xs 1).toInt.toNat (Value.int 0)))), ?_, (show xLs _ 220 200000 from ?_)⟩
  · refine i_287_23 (x := 0) rfl ?_
    refine i_287_25 (x := 0) rfl ?_
    refine i_287_26 (c := 6) W0_0 (by decide) ?_
    refine i_287_27 ?_
    refine i_287_29 (c := 0) (by decide) ?_
    refine i_287_30 (fun h => absurd h (by decide)) (fun _ => ?_)
    refine i_287_33 (x := 0) rfl ?_
    refine i_287_34 (x := 0) rfl ?_
    refine i_287_36 (v := Value.int (xs 0)) W0_0 (by decide) (by decide) rfl ?_
    refine i_287_37 ?_
    refine i_287_39 (c := 8) (show ((xs 0) &&& (31 : Int32)) = 8 from (xge_c (n := 8) (by omega) rfl)) ?_
    refine i_287_40_8 rfl ?_
    refine i_287_873 (x := 7) rfl ?_
    refine i_287_874 (x := 0) rfl ?_
    refine i_287_875 (x := 0) rfl ?_
    refine i_287_877 ?_
    refine i_287_878 (c := 1) (by decide) ?_
    refine i_287_879 (v := Value.int (xs 1)) W0_0 (by decide) (by decide) rfl ?_
    refine i_287_880 (x := 0) rfl ?_
    refine i_287_881 (x := 0) rfl ?_
    refine i_287_883 ?_
    refine i_287_884 (c := 2) (by decide) ?_
    refine i_287_885 (v := Value.int (xs 2)) W0_0 (by decide) (by decide) rfl ?_
    refine i_287_886 (x := 0) rfl ?_
    refine i_287_887 (x := 0) rfl ?_
    refine i_287_889 ?_
    refine i_287_890 (c := 3) (by decide) ?_
    refine i_287_891 (v := Value.int (xs 3)) W0_0 (by decide) (by decide) rfl ?_
    refine i_287_892 (x := 0) rfl ?_
    refine i_287_893 (x := 0) rfl ?_
    refine i_287_895 ?_
    refine i_287_896 (c := 4) (by decide) ?_
    refine i_287_897 (v := Value.int (xs 4)) W0_0 (by decide) (by decide) rfl ?_
    refine i_287_898 (x := 194) rfl ?_
    refine i_287_899 (Nat.le_of_ble_eq_true rfl) (r_100_7 W0_7 (by omega) (by omega) (by omega) (by omega) (by omega) (by omega) (by omega) (by omega) W0_8 (greg_at (by omega)) (greg_at (by omega)) W0_93 (W0_reg (by omega)) (by omega) (W0_reg (by omega)) (by omega) (by omega) W0_194) ?_
    refine i_287_902 (lv2 := [(5, Value.int 0), (4, Value.int 0), (3, Value.ref 194), (2, Value.ref 128), (1, Value.ref 7), (0, Value.ref 0)]) rfl ?_
    refine i_287_904 (x := 128) rfl ?_
    refine i_287_905 (x := 0) rfl ?_
    refine i_287_906 (x := 0) rfl ?_
    refine i_287_908 ?_
    refine i_287_909 (c := 1) (by decide) ?_
    refine i_287_910 (v := Value.int (xs 1)) (xgn (by decide) (xgn (by omega) W0_0)) (by decide) (by decide) rfl ?_
    refine i_287_911 (x := 0) rfl ?_
    refine i_287_912 (x := 0) rfl ?_
    refine i_287_914 ?_
    refine i_287_915 (c := 2) (by decide) ?_
    refine i_287_916 (v := Value.int (xs 2)) (xgn (by decide) (xgn (by omega) W0_0)) (by decide) (by decide) rfl ?_
    refine i_287_917 (x := 0) rfl ?_
    refine i_287_918 (x := 0) rfl ?_
    refine i_287_920 ?_
    refine i_287_921 (c := 3) (by decide) ?_
    refine i_287_922 (v := Value.int (xs 3)) (xgn (by decide) (xgn (by omega) W0_0)) (by decide) (by decide) rfl ?_
    refine i_287_923 (x := 0) rfl ?_
    refine i_287_924 (x := 0) rfl ?_
    refine i_287_926 ?_
    refine i_287_927 (c := 4) (by decide) ?_
    refine i_287_928 (v := Value.int (xs 4)) (xgn (by decide) (xgn (by omega) W0_0)) (by decide) (by decide) rfl ?_
    refine i_287_929 (xgn (by decide) (xgn (by omega) W0_128)) (Nat.le_of_ble_eq_true rfl) (r_224_7 (xgn (by decide) (xgn (by omega) W0_128)) (by omega) (by omega) (by omega) (by omega) (by omega) (by omega) (by omega) (by omega) (xgn (by decide) (xgn (by omega) W0_129)) (xgn (by decide) (xgn (by omega) W0_130)) (by omega) (xgn (by decide) (xgn (by omega) W0_154)) (by omega) (by omega) (xgn (by decide) (xgn (by omega) W0_156))) ?_
    refine i_287_932 (lv2 := [(6, Value.int 0), (5, Value.int 0), (4, Value.int 0), (3, Value.ref 194), (2, Value.ref 128), (1, Value.ref 7), (0, Value.ref 0)]) rfl ?_
    refine i_287_934 (x := 128) rfl ?_
    refine i_287_935 (xgn (by decide) (xgn (by decide) (xgn (by decide) (xgn (by decide) (xgn (by decide) (xgs (xgn (by decide) (xgn (by omega) W0_128)))))))) (Nat.le_of_ble_eq_true rfl) (r_165_1 (xgn (by decide) (xgn (by decide) (xgn (by decide) (xgn (by decide) (xgn (by decide) (xgs (xgn (by decide) (xgn (by omega) W0_128))))))))) ?_
    refine i_287_938 (x := 0) rfl ?_
    refine i_287_940 (fun _ => ?_) (fun h => absurd h (by decide))
    refine i_287_945 (x := 0) rfl ?_
    refine i_287_947 (fun h => absurd h (by decide)) (fun _ => ?_)
    refine i_287_950 (x := 194) rfl ?_
    refine i_287_951 ?_
    refine i_287_952 (v := Value.long 0) (xgn (by decide) (xgn (by decide) (xgn (by decide) (xgn (by decide) (xgn (by decide) (xgn (by decide) (xgs (xgn (by omega) W0_194)))))))) (by decide) (by decide) xup_s ?_
    refine i_287_953 (x := 0) rfl ?_
    refine i_287_955 (c := 0) (by decide) ?_
    refine i_287_956 (c := 0) (by decide) ?_
    refine i_287_957 (fun _ => ?_) (fun h => absurd h (by decide))
    refine i_287_962 ?_
    refine i_287_2154 (x := 0) (c := 6) (lv2 := [(4, Value.int 6), (6, Value.int 0), (5, Value.int 0), (3, Value.ref 194), (2, Value.ref 128), (1, Value.ref 7), (0, Value.ref 0)]) rfl (by decide) rfl ?_
    refine i_287_2157 ?_
    refine i_287_23 (x := 6) rfl ?_
    refine i_287_25 (x := 0) rfl ?_
    refine i_287_26 (c := 6) (xgn (by decide) (xgn (by decide) (xgn (by decide) (xgn (by decide) (xgn (by decide) (xgn (by decide) (xgn (by decide) (xgn (by omega) W0_0)))))))) (by decide) ?_
    refine i_287_27 ?_
    refine i_287_29 (c := 0) (by decide) ?_
    refine i_287_30 (fun _ => ?_) (fun h => absurd h (by decide))
    refine i_287_2160 ?_
    exact i_287_2161 rfl ⟨rfl, rfl⟩
  · refine xLs.set ?_ (xgn (by decide) (xgn (by decide) (xgn (by decide) (xgn (by decide) (xgn (by decide) (xgn (by decide) (xgn (by omega) W0_156))))))) xcs_a
    refine xLs.set ?_ (xgn (by decide) (xgn (by decide) (xgn (by decide) (xgn (by decide) (xgn (by decide) (xgn (by omega) W0_154)))))) xcs_a
    refine xLs.set ?_ (xgn (by decide) (xgs (xgn (by decide) (xgn (by decide) (xgn (by omega) W0_129))))) xcs_o
    refine xLs.set ?_ (xgn (by decide) (xgn (by decide) (xgn (by decide) (xgn (by omega) W0_130)))) xcs_a
    refine xLs.set ?_ (xgn (by decide) (xgn (by decide) (xgn (by omega) W0_129))) xcs_o
    refine xLs.set ?_ (xgn (by decide) (xgn (by omega) W0_128)) xcs_o
    refine xLs.set ?_ (xgn (by omega) W0_194) xcs_a
    refine xLs.set ?_ (W0_reg (by omega)) xcs_o
    exact ⟨Nat.le_trans (Nat.le_of_eq W0_len) (by decide), Nat.le_trans (Nat.le_of_eq W0_sz) (by decide)⟩
theorem r_15_2 {d : Nat} {w : xW} {a0 : Int32} (e0 : 0 ≤ a0.toInt) (e1 : 16 ≤ a0.toInt) : xRun d 15 [Value.int a0] w (.inl (some (Value.int 1))) w := by
  refine xRun.of ?_
  refine i_15_0 (x := a0) rfl ?_
  refine i_15_1 (fun h => absurd e0 (Int.not_le.mpr h)) (fun _ => ?_)
  refine i_15_4 (x := a0) rfl ?_
  refine i_15_5 ?_
  refine i_15_7 (fun h => absurd e1 (Int.not_le.mpr h)) (fun _ => ?_)
  refine i_15_10 ?_
  refine i_15_11 ?_
  exact i_15_15 rfl ⟨rfl, rfl⟩
theorem r_101_8 {d : Nat} {w : xW} {a0 : Int32} {a1 : Int32} {a2 : Int32} {a3 : Int32} (e0 : 0 ≤ a0.toInt) (e1 : a0.toInt < 16) (e2 : 0 ≤ a1.toInt) (e3 : 16 ≤ a1.toInt) : xRun (d + 6) 101 [Value.ref 7, Value.int a0, Value.int a1, Value.int a2, Value.int a3] w (.inr w.length) (w ++ [Sum.inr (14, [])]) := by
  refine xRun.of ?_
  refine i_101_0 (x := a0) rfl ?_
  refine i_101_1 (Nat.le_of_ble_eq_true rfl) (r_15_1 e0 e1) ?_
  refine i_101_4 (fun h => absurd h (by decide)) (fun _ => ?_)
  refine i_101_7 (x := a1) rfl ?_
  refine i_101_8 (Nat.le_of_ble_eq_true rfl) (r_15_2 e2 e3) ?_
  refine i_101_11 (fun _ => ?_) (fun h => absurd h (by decide))
  exact i_101_34 (by omega) (Nat.le_of_ble_eq_true rfl) ⟨rfl, rfl⟩
theorem r_100_8 {d : Nat} {w : xW} {a0 : Int32} {a1 : Int32} {a2 : Int32} {a3 : Int32} (hw0 : w[7]? = some (Sum.inr (0, [Value.ref 8, Value.ref 78, Value.ref 9, Value.ref 10, Value.ref 13, Value.ref 16, Value.ref 19, Value.ref 93, Value.ref 108, Value.ref 113, Value.ref 29, Value.int 0]))) (e1 : 0 ≤ a0.toInt) (e2 : a0.toInt < 16) (e3 : 0 ≤ a1.toInt) (e4 : 16 ≤ a1.toInt) : xRun (d + 7) 100 [Value.ref 7, Value.int a0, Value.int a1, Value.int a2, Value.int a3, Value.ref 194] w (.inl (some (Value.int 1))) (w ++ [Sum.inr (14, [])]) := by
  refine xRun.of ?_
  refine i_100_0 (x := 194) rfl ?_
  refine i_100_2 ?_
  refine i_100_3 (x := 7) rfl ?_
  refine i_100_4 (x := a0) rfl ?_
  refine i_100_5 (x := a1) rfl ?_
  refine i_100_6 (x := a2) rfl ?_
  refine i_100_7 (x := a3) rfl ?_
  refine j_100_9 hw0 (Nat.le_of_ble_eq_true rfl) (r_101_8 e1 e2 e3 e4) (xDone.c xgl rfl rfl ?_)
  refine i_100_17 (lv2 := [(6, Value.ref w.length), (0, Value.ref 7), (1, Value.int a0), (2, Value.int a1), (3, Value.int a2), (4, Value.int a3), (5, Value.ref 194)]) rfl ?_
  refine i_100_19 ?_
  exact i_100_20 ⟨rfl, rfl⟩
theorem r_169_8 {d : Nat} {w : xW} {a0 : Int32} (e0 : 0 ≤ a0.toInt) (e1 : 15 < a0.toInt) : xRun d 169 [Value.int a0, Value.int 0, Value.int 15] w (.inl (some (Value.int 0))) w := by
  refine xRun.of ?_
  refine i_169_0 (x := a0) rfl ?_
  refine i_169_1 (x := 0) rfl ?_
  refine i_169_2 (fun h => absurd e0 (Int.not_le.mpr h)) (fun _ => ?_)
  refine i_169_5 (x := a0) rfl ?_
  refine i_169_6 (x := 15) rfl ?_
  refine i_169_7 (fun _ => ?_) (fun h => absurd e1 (Int.not_lt.mpr h))
  refine i_169_14 ?_
  exact i_169_15 rfl ⟨rfl, rfl⟩
theorem r_168_2 {d : Nat} {w : xW} {a0 : Int32} (e0 : 0 ≤ a0.toInt) (e1 : 15 < a0.toInt) : xRun (d + 7) 168 [Value.int a0] w (.inr w.length) (w ++ [Sum.inr (14, [])]) := by
  refine xRun.of ?_
  refine i_168_0 (x := a0) rfl ?_
  refine i_168_1 ?_
  refine i_168_2 ?_
  refine i_168_4 (Nat.le_of_ble_eq_true rfl) (r_169_8 e0 e1) ?_
  exact j_168_7 (Nat.le_of_ble_eq_true rfl) (r_170_0) (xDone.t xgl rfl rfl ⟨rfl, rfl⟩)
theorem r_225_8 {d : Nat} {w : xW} {a0 : Int32} {a1 : Int32} {a2 : Int32} {a3 : Int32} (e0 : 0 ≤ a0.toInt) (e1 : a0.toInt ≤ 15) (e2 : 0 ≤ a1.toInt) (e3 : 15 < a1.toInt) : xRun (d + 8) 225 [Value.ref 128, Value.int a0, Value.int a1, Value.int a2, Value.int a3] w (.inr w.length) (w ++ [Sum.inr (14, [])]) := by
  refine xRun.of ?_
  refine i_225_0 (x := a0) rfl ?_
  refine i_225_1 (Nat.le_of_ble_eq_true rfl) (r_168_1 e0 e1) ?_
  refine i_225_4 (x := a1) rfl ?_
  exact j_225_5 (Nat.le_of_ble_eq_true rfl) (r_168_2 e2 e3) (xDone.t xgl rfl rfl ⟨rfl, rfl⟩)
theorem r_224_8 {d : Nat} {w : xW} {a0 : Int32} {a1 : Int32} {a2 : Int32} {a3 : Int32} (hw0 : w[128]? = some (Sum.inr (12, [Value.ref 129, Value.ref 131, Value.ref 133, Value.ref 135, Value.ref 137, Value.ref 139, Value.ref 141, Value.ref 143, Value.ref 145, Value.ref 147, Value.ref 149, Value.ref 151, Value.ref 153, Value.ref 154, Value.ref 155, Value.ref 156, Value.ref 157, Value.int (-16384), Value.int 16384, Value.int 0, Value.int 0, Value.int 0, Value.ref 158, Value.ref 159, Value.int 0, Value.int 0, Value.int 0, Value.int 0, Value.int 0, Value.int 0, Value.int 0, Value.int 0]))) (e1 : 0 ≤ a0.toInt) (e2 : a0.toInt ≤ 15) (e3 : 0 ≤ a1.toInt) (e4 : 15 < a1.toInt) : xRun (d + 9) 224 [Value.ref 128, Value.int a0, Value.int a1, Value.int a2, Value.int a3] w (.inl (some (Value.int 0))) (((w.set 128 (Sum.inr (12, [Value.ref 129, Value.ref 131, Value.ref 133, Value.ref 135, Value.ref 137, Value.ref 139, Value.ref 141, Value.ref 143, Value.ref 145, Value.ref 147, Value.ref 149, Value.ref 151, Value.ref 153, Value.ref 154, Value.ref 155, Value.ref 156, Value.ref 157, Value.int (-16384), Value.int 16384, Value.int 0, Value.int 0, Value.int 0, Value.ref 158, Value.ref 159, Value.int 0, Value.int 0, Value.int 0, Value.int 0, Value.int 0, Value.int 0, Value.int 0, Value.int 0]))) ++ [Sum.inr (14, [])]).set 128 (Sum.inr (12, [Value.ref 129, Value.ref 131, Value.ref 133, Value.ref 135, Value.ref 137, Value.ref 139, Value.ref 141, Value.ref 143, Value.ref 145, Value.ref 147, Value.ref 149, Value.ref 151, Value.ref 153, Value.ref 154, Value.ref 155, Value.ref 156, Value.ref 157, Value.int (-16384), Value.int 16384, Value.int 0, Value.int 0, Value.int 0, Value.ref 158, Value.ref 159, Value.int 0, Value.int 0, Value.int 0, Value.int 0, Value.int 0, Value.int 0, Value.int 0, Value.int 1]))) := by
  refine xRun.of ?_
  refine i_224_0 (x := 128) rfl ?_
  refine i_224_1 ?_
  refine i_224_2 (fs2 := [Value.ref 129, Value.ref 131, Value.ref 133, Value.ref 135, Value.ref 137, Value.ref 139, Value.ref 141, Value.ref 143, Value.ref 145, Value.ref 147, Value.ref 149, Value.ref 151, Value.ref 153, Value.ref 154, Value.ref 155, Value.ref 156, Value.ref 157, Value.int (-16384), Value.int 16384, Value.int 0, Value.int 0, Value.int 0, Value.ref 158, Value.ref 159, Value.int 0, Value.int 0, Value.int 0, Value.int 0, Value.int 0, Value.int 0, Value.int 0, Value.int 0]) hw0 (Nat.le_of_ble_eq_true rfl) rfl (by decide) ?_
  refine i_224_5 (x := 128) rfl ?_
  refine i_224_6 (x := a0) rfl ?_
  refine i_224_7 (x := a1) rfl ?_
  refine i_224_8 (x := a2) rfl ?_
  refine i_224_9 (x := a3) rfl ?_
  refine j_224_11 (xgs hw0) (Nat.le_of_ble_eq_true rfl) (r_225_8 e1 e2 e3 e4) (xDone.c xgl rfl rfl ?_)
  refine i_224_15 (lv2 := [(5, Value.ref ((w.set 128 (Sum.inr (12, [Value.ref 129, Value.ref 131, Value.ref 133, Value.ref 135, Value.ref 137, Value.ref 139, Value.ref 141, Value.ref 143, Value.ref 145, Value.ref 147, Value.ref 149, Value.ref 151, Value.ref 153, Value.ref 154, Value.ref 155, Value.ref 156, Value.ref 157, Value.int (-16384), Value.int 16384, Value.int 0, Value.int 0, Value.int 0, Value.ref 158, Value.ref 159, Value.int 0, Value.int 0, Value.int 0, Value.int 0, Value.int 0, Value.int 0, Value.int 0, Value.int 0]))).length)), (0, Value.ref 128), (1, Value.int a0), (2, Value.int a1), (3, Value.int a2), (4, Value.int a3)]) rfl ?_
  refine i_224_17 (x := 128) rfl ?_
  refine i_224_18 ?_
  refine i_224_19 (fs2 := [Value.ref 129, Value.ref 131, Value.ref 133, Value.ref 135, Value.ref 137, Value.ref 139, Value.ref 141, Value.ref 143, Value.ref 145, Value.ref 147, Value.ref 149, Value.ref 151, Value.ref 153, Value.ref 154, Value.ref 155, Value.ref 156, Value.ref 157, Value.int (-16384), Value.int 16384, Value.int 0, Value.int 0, Value.int 0, Value.ref 158, Value.ref 159, Value.int 0, Value.int 0, Value.int 0, Value.int 0, Value.int 0, Value.int 0, Value.int 0, Value.int 1]) (xga (xgs hw0)) (Nat.le_of_ble_eq_true rfl) rfl (by decide) ?_
  refine i_224_22 ?_
  exact i_224_23 ⟨rfl, rfl⟩
theorem o_8_8 {d : Nat} {xs : Nat → Int32} (h0 : ((xs 0) &&& (31 : Int32)).toInt = 8) (c0 : 0 ≤ (xs 1).toInt) (c1 : (xs 1).toInt < 16) (c2 : 0 ≤ (xs 2).toInt) (c3 : 16 ≤ (xs 2).toInt) : ∃ w1, xEv (d + 20) 287 23 [(4, Value.int 0), (3, Value.ref 194), (2, Value.ref 128), (1, Value.ref 7), (0, Value.ref 0)] [] (W0 6 xs) (fun o' w' => o' = .inl (some (Value.int 1)) ∧ w' = w1) ∧ w1.length ≤ 220 ∧ xsz w1 ≤ 200000 := by
  refine ⟨(((((W0 6 xs) ++ [Sum.inr (14, [])]).set 128 (Sum.inr (12, [Value.ref 129, Value.ref 131, Value.ref 133, Value.ref 135, Value.ref 137, Value.ref 139, Value.ref 141, Value.ref 143, Value.ref 145, Value.ref 147, Value.ref 149, Value.ref 151, Value.ref 153, Value.ref 154, Value.ref 155, Value.ref 156, Value.ref 157, Value.int (-16384), Value.int 16384, Value.int 0, Value.int 0, Value.int 0, Value.ref 158, Value.ref 159, Value.int 0, Value.int 0, Value.int 0, Value.int 0, Value.int 0, Value.int 0, Value.int 0, Value.int 0]))) ++ [Sum.inr (14, [])]).set 128 (Sum.inr (12, [Value.ref 129, Value.ref 131, Value.ref 133, Value.ref 135, Value.ref 137, Value.ref 139, Value.ref 141, Value.ref 143, Value.ref 145, Value.ref 147, Value.ref 149, Value.ref 151, Value.ref 153, Value.ref 154, Value.ref 155, Value.ref 156, Value.ref 157, Value.int (-16384), Value.int 16384, Value.int 0, Value.int 0, Value.int 0, Value.ref 158, Value.ref 159, Value.int 0, Value.int 0, Value.int 0, Value.int 0, Value.int 0, Value.int 0, Value.int 0, Value.int 1]))), ?_, (show xLs _ 220 200000 from ?_)⟩
  · refine i_287_23 (x := 0) rfl ?_
    refine i_287_25 (x := 0) rfl ?_
    refine i_287_26 (c := 6) W0_0 (by decide) ?_
    refine i_287_27 ?_
    refine i_287_29 (c := 0) (by decide) ?_
    refine i_287_30 (fun h => absurd h (by decide)) (fun _ => ?_)
    refine i_287_33 (x := 0) rfl ?_
    refine i_287_34 (x := 0) rfl ?_
    refine i_287_36 (v := Value.int (xs 0)) W0_0 (by decide) (by decide) rfl ?_
    refine i_287_37 ?_
    refine i_287_39 (c := 8) (show ((xs 0) &&& (31 : Int32)) = 8 from (xge_c (n := 8) (by omega) rfl)) ?_
    refine i_287_40_8 rfl ?_
    refine i_287_873 (x := 7) rfl ?_
    refine i_287_874 (x := 0) rfl ?_
    refine i_287_875 (x := 0) rfl ?_
    refine i_287_877 ?_
    refine i_287_878 (c := 1) (by decide) ?_
    refine i_287_879 (v := Value.int (xs 1)) W0_0 (by decide) (by decide) rfl ?_
    refine i_287_880 (x := 0) rfl ?_
    refine i_287_881 (x := 0) rfl ?_
    refine i_287_883 ?_
    refine i_287_884 (c := 2) (by decide) ?_
    refine i_287_885 (v := Value.int (xs 2)) W0_0 (by decide) (by decide) rfl ?_
    refine i_287_886 (x := 0) rfl ?_
    refine i_287_887 (x := 0) rfl ?_
    refine i_287_889 ?_
    refine i_287_890 (c := 3) (by decide) ?_
    refine i_287_891 (v := Value.int (xs 3)) W0_0 (by decide) (by decide) rfl ?_
    refine i_287_892 (x := 0) rfl ?_
    refine i_287_893 (x := 0) rfl ?_
    refine i_287_895 ?_
    refine i_287_896 (c := 4) (by decide) ?_
    refine i_287_897 (v := Value.int (xs 4)) W0_0 (by decide) (by decide) rfl ?_
    refine i_287_898 (x := 194) rfl ?_
    refine i_287_899 (Nat.le_of_ble_eq_true rfl) (r_100_8 W0_7 (by omega) (by omega) (by omega) (by omega)) ?_
    refine i_287_902 (lv2 := [(5, Value.int 1), (4, Value.int 0), (3, Value.ref 194), (2, Value.ref 128), (1, Value.ref 7), (0, Value.ref 0)]) rfl ?_
    refine i_287_904 (x := 128) rfl ?_
    refine i_287_905 (x := 0) rfl ?_
    refine i_287_906 (x := 0) rfl ?_
    refine i_287_908 ?_
    refine i_287_909 (c := 1) (by decide) ?_
    refine i_287_910 (v := Value.int (xs 1)) (xga W0_0) (by decide) (by decide) rfl ?_
    refine i_287_911 (x := 0) rfl ?_
    refine i_287_912 (x := 0) rfl ?_
    refine i_287_914 ?_
    refine i_287_915 (c := 2) (by decide) ?_
    refine i_287_916 (v := Value.int (xs 2)) (xga W0_0) (by decide) (by decide) rfl ?_
    refine i_287_917 (x := 0) rfl ?_
    refine i_287_918 (x := 0) rfl ?_
    refine i_287_920 ?_
    refine i_287_921 (c := 3) (by decide) ?_
    refine i_287_922 (v := Value.int (xs 3)) (xga W0_0) (by decide) (by decide) rfl ?_
    refine i_287_923 (x := 0) rfl ?_
    refine i_287_924 (x := 0) rfl ?_
    refine i_287_926 ?_
    refine i_287_927 (c := 4) (by decide) ?_
    refine i_287_928 (v := Value.int (xs 4)) (xga W0_0) (by decide) (by decide) rfl ?_
    refine i_287_929 (xga W0_128) (Nat.le_of_ble_eq_true rfl) (r_224_8 (xga W0_128) (by omega) (by omega) (by omega) (by omega)) ?_
    refine i_287_932 (lv2 := [(6, Value.int 0), (5, Value.int 1), (4, Value.int 0), (3, Value.ref 194), (2, Value.ref 128), (1, Value.ref 7), (0, Value.ref 0)]) rfl ?_
    refine i_287_934 (x := 128) rfl ?_
    refine i_287_935 (xgs (xga (xgs (xga W0_128)))) (Nat.le_of_ble_eq_true rfl) (r_165_0 (xgs (xga (xgs (xga W0_128))))) ?_
    refine i_287_938 (x := 1) rfl ?_
    refine i_287_940 (fun _ => ?_) (fun h => absurd h (by decide))
    refine i_287_945 (x := 1) rfl ?_
    refine i_287_947 (fun _ => ?_) (fun h => absurd h (by decide))
    refine i_287_962 ?_
    refine i_287_2154 (x := 0) (c := 6) (lv2 := [(4, Value.int 6), (6, Value.int 0), (5, Value.int 1), (3, Value.ref 194), (2, Value.ref 128), (1, Value.ref 7), (0, Value.ref 0)]) rfl (by decide) rfl ?_
    refine i_287_2157 ?_
    refine i_287_23 (x := 6) rfl ?_
    refine i_287_25 (x := 0) rfl ?_
    refine i_287_26 (c := 6) (xgn (by decide) (xga (xgn (by decide) (xga W0_0)))) (by decide) ?_
    refine i_287_27 ?_
    refine i_287_29 (c := 0) (by decide) ?_
    refine i_287_30 (fun _ => ?_) (fun h => absurd h (by decide))
    refine i_287_2160 ?_
    exact i_287_2161 rfl ⟨rfl, rfl⟩
  · refine xLs.set ?_ (xga (xgs (xga W0_128))) xcs_o
    refine xLs.app (n := 219) (z := 199994) (m := 6) ?_ rfl
    refine xLs.set ?_ (xga W0_128) xcs_o
    refine xLs.app (n := 218) (z := 199988) (m := 6) ?_ rfl
    exact ⟨Nat.le_trans (Nat.le_of_eq W0_len) (by decide), Nat.le_trans (Nat.le_of_eq W0_sz) (by decide)⟩
theorem r_101_9 {d : Nat} {w : xW} {a0 : Int32} {a1 : Int32} {a2 : Int32} {a3 : Int32} (e0 : 0 ≤ a0.toInt) (e1 : 16 ≤ a0.toInt) : xRun (d + 6) 101 [Value.ref 7, Value.int a0, Value.int a1, Value.int a2, Value.int a3] w (.inr w.length) (w ++ [Sum.inr (14, [])]) := by
  refine xRun.of ?_
  refine i_101_0 (x := a0) rfl ?_
  refine i_101_1 (Nat.le_of_ble_eq_true rfl) (r_15_2 e0 e1) ?_
  refine i_101_4 (fun _ => ?_) (fun h => absurd h (by decide))
  exact i_101_34 (by omega) (Nat.le_of_ble_eq_true rfl) ⟨rfl, rfl⟩
theorem r_100_9 {d : Nat} {w : xW} {a0 : Int32} {a1 : Int32} {a2 : Int32} {a3 : Int32} (hw0 : w[7]? = some (Sum.inr (0, [Value.ref 8, Value.ref 78, Value.ref 9, Value.ref 10, Value.ref 13, Value.ref 16, Value.ref 19, Value.ref 93, Value.ref 108, Value.ref 113, Value.ref 29, Value.int 0]))) (e1 : 0 ≤ a0.toInt) (e2 : 16 ≤ a0.toInt) : xRun (d + 7) 100 [Value.ref 7, Value.int a0, Value.int a1, Value.int a2, Value.int a3, Value.ref 194] w (.inl (some (Value.int 1))) (w ++ [Sum.inr (14, [])]) := by
  refine xRun.of ?_
  refine i_100_0 (x := 194) rfl ?_
  refine i_100_2 ?_
  refine i_100_3 (x := 7) rfl ?_
  refine i_100_4 (x := a0) rfl ?_
  refine i_100_5 (x := a1) rfl ?_
  refine i_100_6 (x := a2) rfl ?_
  refine i_100_7 (x := a3) rfl ?_
  refine j_100_9 hw0 (Nat.le_of_ble_eq_true rfl) (r_101_9 e1 e2) (xDone.c xgl rfl rfl ?_)
  refine i_100_17 (lv2 := [(6, Value.ref w.length), (0, Value.ref 7), (1, Value.int a0), (2, Value.int a1), (3, Value.int a2), (4, Value.int a3), (5, Value.ref 194)]) rfl ?_
  refine i_100_19 ?_
  exact i_100_20 ⟨rfl, rfl⟩
theorem r_225_9 {d : Nat} {w : xW} {a0 : Int32} {a1 : Int32} {a2 : Int32} {a3 : Int32} (e0 : 0 ≤ a0.toInt) (e1 : 15 < a0.toInt) : xRun (d + 8) 225 [Value.ref 128, Value.int a0, Value.int a1, Value.int a2, Value.int a3] w (.inr w.length) (w ++ [Sum.inr (14, [])]) := by
  refine xRun.of ?_
  refine i_225_0 (x := a0) rfl ?_
  exact j_225_1 (Nat.le_of_ble_eq_true rfl) (r_168_2 e0 e1) (xDone.t xgl rfl rfl ⟨rfl, rfl⟩)
theorem r_224_9 {d : Nat} {w : xW} {a0 : Int32} {a1 : Int32} {a2 : Int32} {a3 : Int32} (hw0 : w[128]? = some (Sum.inr (12, [Value.ref 129, Value.ref 131, Value.ref 133, Value.ref 135, Value.ref 137, Value.ref 139, Value.ref 141, Value.ref 143, Value.ref 145, Value.ref 147, Value.ref 149, Value.ref 151, Value.ref 153, Value.ref 154, Value.ref 155, Value.ref 156, Value.ref 157, Value.int (-16384), Value.int 16384, Value.int 0, Value.int 0, Value.int 0, Value.ref 158, Value.ref 159, Value.int 0, Value.int 0, Value.int 0, Value.int 0, Value.int 0, Value.int 0, Value.int 0, Value.int 0]))) (e1 : 0 ≤ a0.toInt) (e2 : 15 < a0.toInt) : xRun (d + 9) 224 [Value.ref 128, Value.int a0, Value.int a1, Value.int a2, Value.int a3] w (.inl (some (Value.int 0))) (((w.set 128 (Sum.inr (12, [Value.ref 129, Value.ref 131, Value.ref 133, Value.ref 135, Value.ref 137, Value.ref 139, Value.ref 141, Value.ref 143, Value.ref 145, Value.ref 147, Value.ref 149, Value.ref 151, Value.ref 153, Value.ref 154, Value.ref 155, Value.ref 156, Value.ref 157, Value.int (-16384), Value.int 16384, Value.int 0, Value.int 0, Value.int 0, Value.ref 158, Value.ref 159, Value.int 0, Value.int 0, Value.int 0, Value.int 0, Value.int 0, Value.int 0, Value.int 0, Value.int 0]))) ++ [Sum.inr (14, [])]).set 128 (Sum.inr (12, [Value.ref 129, Value.ref 131, Value.ref 133, Value.ref 135, Value.ref 137, Value.ref 139, Value.ref 141, Value.ref 143, Value.ref 145, Value.ref 147, Value.ref 149, Value.ref 151, Value.ref 153, Value.ref 154, Value.ref 155, Value.ref 156, Value.ref 157, Value.int (-16384), Value.int 16384, Value.int 0, Value.int 0, Value.int 0, Value.ref 158, Value.ref 159, Value.int 0, Value.int 0, Value.int 0, Value.int 0, Value.int 0, Value.int 0, Value.int 0, Value.int 1]))) := by
  refine xRun.of ?_
  refine i_224_0 (x := 128) rfl ?_
  refine i_224_1 ?_
  refine i_224_2 (fs2 := [Value.ref 129, Value.ref 131, Value.ref 133, Value.ref 135, Value.ref 137, Value.ref 139, Value.ref 141, Value.ref 143, Value.ref 145, Value.ref 147, Value.ref 149, Value.ref 151, Value.ref 153, Value.ref 154, Value.ref 155, Value.ref 156, Value.ref 157, Value.int (-16384), Value.int 16384, Value.int 0, Value.int 0, Value.int 0, Value.ref 158, Value.ref 159, Value.int 0, Value.int 0, Value.int 0, Value.int 0, Value.int 0, Value.int 0, Value.int 0, Value.int 0]) hw0 (Nat.le_of_ble_eq_true rfl) rfl (by decide) ?_
  refine i_224_5 (x := 128) rfl ?_
  refine i_224_6 (x := a0) rfl ?_
  refine i_224_7 (x := a1) rfl ?_
  refine i_224_8 (x := a2) rfl ?_
  refine i_224_9 (x := a3) rfl ?_
  refine j_224_11 (xgs hw0) (Nat.le_of_ble_eq_true rfl) (r_225_9 e1 e2) (xDone.c xgl rfl rfl ?_)
  refine i_224_15 (lv2 := [(5, Value.ref ((w.set 128 (Sum.inr (12, [Value.ref 129, Value.ref 131, Value.ref 133, Value.ref 135, Value.ref 137, Value.ref 139, Value.ref 141, Value.ref 143, Value.ref 145, Value.ref 147, Value.ref 149, Value.ref 151, Value.ref 153, Value.ref 154, Value.ref 155, Value.ref 156, Value.ref 157, Value.int (-16384), Value.int 16384, Value.int 0, Value.int 0, Value.int 0, Value.ref 158, Value.ref 159, Value.int 0, Value.int 0, Value.int 0, Value.int 0, Value.int 0, Value.int 0, Value.int 0, Value.int 0]))).length)), (0, Value.ref 128), (1, Value.int a0), (2, Value.int a1), (3, Value.int a2), (4, Value.int a3)]) rfl ?_
  refine i_224_17 (x := 128) rfl ?_
  refine i_224_18 ?_
  refine i_224_19 (fs2 := [Value.ref 129, Value.ref 131, Value.ref 133, Value.ref 135, Value.ref 137, Value.ref 139, Value.ref 141, Value.ref 143, Value.ref 145, Value.ref 147, Value.ref 149, Value.ref 151, Value.ref 153, Value.ref 154, Value.ref 155, Value.ref 156, Value.ref 157, Value.int (-16384), Value.int 16384, Value.int 0, Value.int 0, Value.int 0, Value.ref 158, Value.ref 159, Value.int 0, Value.int 0, Value.int 0, Value.int 0, Value.int 0, Value.int 0, Value.int 0, Value.int 1]) (xga (xgs hw0)) (Nat.le_of_ble_eq_true rfl) rfl (by decide) ?_
  refine i_224_22 ?_
  exact i_224_23 ⟨rfl, rfl⟩
theorem o_8_9 {d : Nat} {xs : Nat → Int32} (h0 : ((xs 0) &&& (31 : Int32)).toInt = 8) (c0 : 0 ≤ (xs 1).toInt) (c1 : 16 ≤ (xs 1).toInt) : ∃ w1, xEv (d + 20) 287 23 [(4, Value.int 0), (3, Value.ref 194), (2, Value.ref 128), (1, Value.ref 7), (0, Value.ref 0)] [] (W0 6 xs) (fun o' w' => o' = .inl (some (Value.int 1)) ∧ w' = w1) ∧ w1.length ≤ 220 ∧ xsz w1 ≤ 200000 := by
  refine ⟨(((((W0 6 xs) ++ [Sum.inr (14, [])]).set 128 (Sum.inr (12, [Value.ref 129, Value.ref 131, Value.ref 133, Value.ref 135, Value.ref 137, Value.ref 139, Value.ref 141, Value.ref 143, Value.ref 145, Value.ref 147, Value.ref 149, Value.ref 151, Value.ref 153, Value.ref 154, Value.ref 155, Value.ref 156, Value.ref 157, Value.int (-16384), Value.int 16384, Value.int 0, Value.int 0, Value.int 0, Value.ref 158, Value.ref 159, Value.int 0, Value.int 0, Value.int 0, Value.int 0, Value.int 0, Value.int 0, Value.int 0, Value.int 0]))) ++ [Sum.inr (14, [])]).set 128 (Sum.inr (12, [Value.ref 129, Value.ref 131, Value.ref 133, Value.ref 135, Value.ref 137, Value.ref 139, Value.ref 141, Value.ref 143, Value.ref 145, Value.ref 147, Value.ref 149, Value.ref 151, Value.ref 153, Value.ref 154, Value.ref 155, Value.ref 156, Value.ref 157, Value.int (-16384), Value.int 16384, Value.int 0, Value.int 0, Value.int 0, Value.ref 158, Value.ref 159, Value.int 0, Value.int 0, Value.int 0, Value.int 0, Value.int 0, Value.int 0, Value.int 0, Value.int 1]))), ?_, (show xLs _ 220 200000 from ?_)⟩
  · refine i_287_23 (x := 0) rfl ?_
    refine i_287_25 (x := 0) rfl ?_
    refine i_287_26 (c := 6) W0_0 (by decide) ?_
    refine i_287_27 ?_
    refine i_287_29 (c := 0) (by decide) ?_
    refine i_287_30 (fun h => absurd h (by decide)) (fun _ => ?_)
    refine i_287_33 (x := 0) rfl ?_
    refine i_287_34 (x := 0) rfl ?_
    refine i_287_36 (v := Value.int (xs 0)) W0_0 (by decide) (by decide) rfl ?_
    refine i_287_37 ?_
    refine i_287_39 (c := 8) (show ((xs 0) &&& (31 : Int32)) = 8 from (xge_c (n := 8) (by omega) rfl)) ?_
    refine i_287_40_8 rfl ?_
    refine i_287_873 (x := 7) rfl ?_
    refine i_287_874 (x := 0) rfl ?_
    refine i_287_875 (x := 0) rfl ?_
    refine i_287_877 ?_
    refine i_287_878 (c := 1) (by decide) ?_
    refine i_287_879 (v := Value.int (xs 1)) W0_0 (by decide) (by decide) rfl ?_
    refine i_287_880 (x := 0) rfl ?_
    refine i_287_881 (x := 0) rfl ?_
    refine i_287_883 ?_
    refine i_287_884 (c := 2) (by decide) ?_
    refine i_287_885 (v := Value.int (xs 2)) W0_0 (by decide) (by decide) rfl ?_
    refine i_287_886 (x := 0) rfl ?_
    refine i_287_887 (x := 0) rfl ?_
    refine i_287_889 ?_
    refine i_287_890 (c := 3) (by decide) ?_
    refine i_287_891 (v := Value.int (xs 3)) W0_0 (by decide) (by decide) rfl ?_
    refine i_287_892 (x := 0) rfl ?_
    refine i_287_893 (x := 0) rfl ?_
    refine i_287_895 ?_
    refine i_287_896 (c := 4) (by decide) ?_
    refine i_287_897 (v := Value.int (xs 4)) W0_0 (by decide) (by decide) rfl ?_
    refine i_287_898 (x := 194) rfl ?_
    refine i_287_899 (Nat.le_of_ble_eq_true rfl) (r_100_9 W0_7 (by omega) (by omega)) ?_
    refine i_287_902 (lv2 := [(5, Value.int 1), (4, Value.int 0), (3, Value.ref 194), (2, Value.ref 128), (1, Value.ref 7), (0, Value.ref 0)]) rfl ?_
    refine i_287_904 (x := 128) rfl ?_
    refine i_287_905 (x := 0) rfl ?_
    refine i_287_906 (x := 0) rfl ?_
    refine i_287_908 ?_
    refine i_287_909 (c := 1) (by decide) ?_
    refine i_287_910 (v := Value.int (xs 1)) (xga W0_0) (by decide) (by decide) rfl ?_
    refine i_287_911 (x := 0) rfl ?_
    refine i_287_912 (x := 0) rfl ?_
    refine i_287_914 ?_
    refine i_287_915 (c := 2) (by decide) ?_
    refine i_287_916 (v := Value.int (xs 2)) (xga W0_0) (by decide) (by decide) rfl ?_
    refine i_287_917 (x := 0) rfl ?_
    refine i_287_918 (x := 0) rfl ?_
    refine i_287_920 ?_
    refine i_287_921 (c := 3) (by decide) ?_
    refine i_287_922 (v := Value.int (xs 3)) (xga W0_0) (by decide) (by decide) rfl ?_
    refine i_287_923 (x := 0) rfl ?_
    refine i_287_924 (x := 0) rfl ?_
    refine i_287_926 ?_
    refine i_287_927 (c := 4) (by decide) ?_
    refine i_287_928 (v := Value.int (xs 4)) (xga W0_0) (by decide) (by decide) rfl ?_
    refine i_287_929 (xga W0_128) (Nat.le_of_ble_eq_true rfl) (r_224_9 (xga W0_128) (by omega) (by omega)) ?_
    refine i_287_932 (lv2 := [(6, Value.int 0), (5, Value.int 1), (4, Value.int 0), (3, Value.ref 194), (2, Value.ref 128), (1, Value.ref 7), (0, Value.ref 0)]) rfl ?_
    refine i_287_934 (x := 128) rfl ?_
    refine i_287_935 (xgs (xga (xgs (xga W0_128)))) (Nat.le_of_ble_eq_true rfl) (r_165_0 (xgs (xga (xgs (xga W0_128))))) ?_
    refine i_287_938 (x := 1) rfl ?_
    refine i_287_940 (fun _ => ?_) (fun h => absurd h (by decide))
    refine i_287_945 (x := 1) rfl ?_
    refine i_287_947 (fun _ => ?_) (fun h => absurd h (by decide))
    refine i_287_962 ?_
    refine i_287_2154 (x := 0) (c := 6) (lv2 := [(4, Value.int 6), (6, Value.int 0), (5, Value.int 1), (3, Value.ref 194), (2, Value.ref 128), (1, Value.ref 7), (0, Value.ref 0)]) rfl (by decide) rfl ?_
    refine i_287_2157 ?_
    refine i_287_23 (x := 6) rfl ?_
    refine i_287_25 (x := 0) rfl ?_
    refine i_287_26 (c := 6) (xgn (by decide) (xga (xgn (by decide) (xga W0_0)))) (by decide) ?_
    refine i_287_27 ?_
    refine i_287_29 (c := 0) (by decide) ?_
    refine i_287_30 (fun _ => ?_) (fun h => absurd h (by decide))
    refine i_287_2160 ?_
    exact i_287_2161 rfl ⟨rfl, rfl⟩
  · refine xLs.set ?_ (xga (xgs (xga W0_128))) xcs_o
    refine xLs.app (n := 219) (z := 199994) (m := 6) ?_ rfl
    refine xLs.set ?_ (xga W0_128) xcs_o
    refine xLs.app (n := 218) (z := 199988) (m := 6) ?_ rfl
    exact ⟨Nat.le_trans (Nat.le_of_eq W0_len) (by decide), Nat.le_trans (Nat.le_of_eq W0_sz) (by decide)⟩
theorem op_8 {d : Nat} {xs : Nat → Int32} (h0 : ((xs 0) &&& (31 : Int32)).toInt = 8) : ∃ w1, xEv (d + 20) 287 23 [(4, Value.int 0), (3, Value.ref 194), (2, Value.ref 128), (1, Value.ref 7), (0, Value.ref 0)] [] (W0 6 xs) (fun o' w' => o' = .inl (some (Value.int 1)) ∧ w' = w1) ∧ w1.length ≤ 220 ∧ xsz w1 ≤ 200000 := by
  rcases Int.lt_or_le (xs 1).toInt (0) with c0 | c0
  · exact o_8_0 h0 c0
  · rcases Int.lt_or_le (xs 1).toInt (16) with c1 | c1
    · rcases Int.lt_or_le (xs 2).toInt (0) with c2 | c2
      · exact o_8_1 h0 c0 c1 c2
      · rcases Int.lt_or_le (xs 2).toInt (16) with c3 | c3
        · rcases Int.lt_or_le (xs 3).toInt (-32) with c4 | c4
          · exact o_8_2 h0 c0 c1 c2 c3 c4
          · rcases Int.lt_or_le (32) (xs 3).toInt with c5 | c5
            · exact o_8_3 h0 c0 c1 c2 c3 c4 c5
            · rcases Int.lt_or_le (xs 4).toInt (0) with c6 | c6
              · exact o_8_4 h0 c0 c1 c2 c3 c4 c5 c6
              · rcases Int.lt_or_le (4) (xs 4).toInt with c7 | c7
                · exact o_8_5 h0 c0 c1 c2 c3 c4 c5 c6 c7
                · by_cases c8 : (xs 3).toInt = 0
                  · exact o_8_6 h0 c0 c1 c2 c3 c4 c5 c6 c7 c8
                  · exact o_8_7 h0 c0 c1 c2 c3 c4 c5 c6 c7 c8
        · exact o_8_8 h0 c0 c1 c2 c3
    · exact o_8_9 h0 c0 c1
