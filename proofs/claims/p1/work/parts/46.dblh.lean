theorem r_180_22 {d : Nat} {w : xW} {a0 : Int32} {a1 : Int32} {a2 : Int32} {g0 : Nat → Value} {g1 : Nat → Value} {a3 : Int32} {a4 : Int32} {a5 : Int32} {a6 : Int32} {a7 : Int32} {a8 : Int32} {g2 : Nat → Value} {h0 : Nat} {h1 : Nat} (hw0 : w[128]? = some (Sum.inr (12, [Value.ref 129, Value.ref 131, Value.ref 133, Value.ref 135, Value.ref 137, Value.ref 139, Value.ref 141, Value.ref 143, Value.ref 145, Value.ref 147, Value.ref 149, Value.ref 151, Value.ref 153, Value.ref 154, Value.ref 155, Value.ref 156, Value.ref 157, Value.int (-16384), Value.int 16384, Value.int 0, Value.int 0, Value.int 0, Value.ref 158, Value.ref 159, Value.int 0, Value.int 0, Value.int 0, Value.int 0, Value.int 0, Value.int 0, Value.int 0, Value.int 0]))) (hw1 : w[153]? = some (Sum.inl (0, 17, g0))) (e2 : 0 ≤ a0.toInt) (e3 : a0.toInt < 17) (hg4 : g0 a0.toInt.toNat = Value.int 64) (hw5 : w[129]? = some (Sum.inr (13, [Value.ref 130, Value.int 3]))) (hw6 : w[130]? = some (Sum.inl (0, 4700, g1))) (hg7 : g1 (2 : Int32).toInt.toNat = Value.int a3) (hg8 : ((60 : Int32) + (xbn a3)) = a4) (e9 : 0 ≤ a3.toInt) (hw10 : w[156]? = some (Sum.inl (2, 17, fun _ => Value.int 0))) (hw11 : w[135]? = some (Sum.inr (13, [Value.ref 136, Value.int 0]))) (hw12 : w[136]? = some (Sum.inl (0, 4700, fun _ => Value.int 0))) (hg13 : g1 (0 : Int32).toInt.toNat = Value.int a5) (hg14 : g1 (1 : Int32).toInt.toNat = Value.int a6) (e15 : (((a4 + a1) - (64 : Int32)) - a1).toInt ≤ 0) (hg16 : (-(((a4 + a1) - (64 : Int32)) - a1)) = a7) (e17 : a7.toInt ≠ 0) (hg18 : (a7 / (30 : Int32)) = 0) (hg19 : (a7 - a7 / (30 : Int32) * (30 : Int32)) = a8) (hg20 : ((0 : Int32) ||| (xH a3 a8)) = 0) (e21 : ((xL a3 a8) ||| (xH a6 a8)).toInt ≠ 0) (hg22 : ((60 : Int32) + (xbn ((xL a3 a8) ||| (xH a6 a8)))) = 64) (e23 : 0 ≤ ((xL a3 a8) ||| (xH a6 a8)).toInt) (e24 : ((64 : Int32) + ((a4 + a1) - (64 : Int32))).toInt ≤ 16384) (e25 : (-16384) ≤ ((64 : Int32) + ((a4 + a1) - (64 : Int32))).toInt) (hw26 : w[157]? = some (Sum.inl (5, 17, g2))) (hg27 : g2 a0.toInt.toNat = Value.ref h0) (e28 : 135 ≠ h0) (e29 : 136 ≠ h0) (e30 : 156 ≠ h0) (hw31 : w[h0]? = some (Sum.inr (13, [Value.ref h1, Value.int 0]))) (e32 : 7 ≤ h0) (e33 : h0 ≠ 128) (e34 : h0 ≠ 137) (hw35 : w[137]? = some (Sum.inr (13, [Value.ref 138, Value.int 0]))) (e36 : h0 ≠ 135) (e37 : h0 ≠ 136) (e38 : h0 ≠ 138) (hw39 : w[138]? = some (Sum.inl (0, 4700, fun _ => Value.int 0))) (e40 : h0 ≠ 157) (e41 : 137 ≠ h0) (e42 : 138 ≠ h0) (e43 : 137 ≠ h1) (e44 : 138 ≠ h1) (e45 : h0 ≠ h1) (e46 : 135 ≠ h1) (e47 : 136 ≠ h1) (e48 : 156 ≠ h1) (hw49 : w[h1]? = some (Sum.inl (0, 140, fun _ => Value.int 0))) (e50 : 7 ≤ h1) (e51 : h1 ≠ 137) (e52 : h1 ≠ h0) (e53 : h1 ≠ 128) (e54 : h0 ≠ 154) (e55 : h1 ≠ 154) (hw56 : w[154]? = some (Sum.inl (0, 17, fun _ => Value.int 0))) (e57 : h0 ≠ 155) (e58 : h1 ≠ 155) (hw59 : w[155]? = some (Sum.inl (0, 17, fun _ => Value.int 0))) : xRun (d + 3) 180 [Value.ref 128, Value.int a0, Value.ref 129, Value.int a1, Value.int 0, Value.int 0, Value.int a2] w (.inl (some (Value.int 0))) ((((((((((((w.set 156 (Sum.inl (2, 17, xup (fun _ => Value.int 0) a0.toInt.toNat (Value.int 0)))).set 136 (Sum.inl (0, 4700, xcp g1 (fun _ => Value.int 0) (0 : Int32).toInt.toNat (0 : Int32).toInt.toNat (3 : Int32).toInt.toNat))).set 135 (Sum.inr (13, [Value.ref 136, Value.int 3]))).set 136 (Sum.inl (0, 4700, xup (xup (xup (xup (xup (xup (xup (xcp g1 (fun _ => Value.int 0) (0 : Int32).toInt.toNat (0 : Int32).toInt.toNat (3 : Int32).toInt.toNat) (3 : Int32).toInt.toNat (Value.int 0)) (3 : Int32).toInt.toNat (Value.int 0)) (2 : Int32).toInt.toNat (Value.int (xL a3 a8))) (2 : Int32).toInt.toNat (Value.int ((xL a3 a8) ||| (xH a6 a8)))) (1 : Int32).toInt.toNat (Value.int (xL a6 a8))) (1 : Int32).toInt.toNat (Value.int ((xL a6 a8) ||| (xH a5 a8)))) (0 : Int32).toInt.toNat (Value.int (xL a5 a8))))).set 135 (Sum.inr (13, [Value.ref 136, Value.int 3]))).set h0 (Sum.inr (13, [Value.ref h1, Value.int 0]))).set 138 (Sum.inl (0, 4700, xcp (xup (xup (xup (xup (xup (xup (xup (xcp g1 (fun _ => Value.int 0) (0 : Int32).toInt.toNat (0 : Int32).toInt.toNat (3 : Int32).toInt.toNat) (3 : Int32).toInt.toNat (Value.int 0)) (3 : Int32).toInt.toNat (Value.int 0)) (2 : Int32).toInt.toNat (Value.int (xL a3 a8))) (2 : Int32).toInt.toNat (Value.int ((xL a3 a8) ||| (xH a6 a8)))) (1 : Int32).toInt.toNat (Value.int (xL a6 a8))) (1 : Int32).toInt.toNat (Value.int ((xL a6 a8) ||| (xH a5 a8)))) (0 : Int32).toInt.toNat (Value.int (xL a5 a8))) (fun _ => Value.int 0) (0 : Int32).toInt.toNat (0 : Int32).toInt.toNat (3 : Int32).toInt.toNat))).set 137 (Sum.inr (13, [Value.ref 138, Value.int 3]))).set h1 (Sum.inl (0, 140, xcp (xcp (xup (xup (xup (xup (xup (xup (xup (xcp g1 (fun _ => Value.int 0) (0 : Int32).toInt.toNat (0 : Int32).toInt.toNat (3 : Int32).toInt.toNat) (3 : Int32).toInt.toNat (Value.int 0)) (3 : Int32).toInt.toNat (Value.int 0)) (2 : Int32).toInt.toNat (Value.int (xL a3 a8))) (2 : Int32).toInt.toNat (Value.int ((xL a3 a8) ||| (xH a6 a8)))) (1 : Int32).toInt.toNat (Value.int (xL a6 a8))) (1 : Int32).toInt.toNat (Value.int ((xL a6 a8) ||| (xH a5 a8)))) (0 : Int32).toInt.toNat (Value.int (xL a5 a8))) (fun _ => Value.int 0) (0 : Int32).toInt.toNat (0 : Int32).toInt.toNat (3 : Int32).toInt.toNat) (fun _ => Value.int 0) (0 : Int32).toInt.toNat (0 : Int32).toInt.toNat (3 : Int32).toInt.toNat))).set h0 (Sum.inr (13, [Value.ref h1, Value.int 3]))).set 154 (Sum.inl (0, 17, xup (fun _ => Value.int 0) a0.toInt.toNat (Value.int 3)))).set 155 (Sum.inl (0, 17, xup (fun _ => Value.int 0) a0.toInt.toNat (Value.int ((64 : Int32) + ((a4 + a1) - (64 : Int32))))))) := by
  refine xRun.of ?_
  refine i_180_0 (x := 128) rfl ?_
  refine i_180_1 (v := Value.ref 153) hw0 rfl ?_
  refine i_180_4 (x := a0) rfl ?_
  refine i_180_5 (v := Value.int 64) hw1 e2 e3 hg4 ?_
  refine i_180_6 (lv2 := [(7, Value.int 64), (0, Value.ref 128), (1, Value.int a0), (2, Value.ref 129), (3, Value.int a1), (4, Value.int 0), (5, Value.int 0), (6, Value.int a2)]) rfl ?_
  refine i_180_8 (x := 129) rfl ?_
  refine i_180_9 hw5 (Nat.le_of_ble_eq_true rfl) (mb_run3 hw5 hw6 hg7 e9 hg8) ?_
  refine i_180_12 (x := a1) rfl ?_
  refine i_180_13 (c := (a4 + a1)) rfl ?_
  refine i_180_14 (lv2 := [(8, Value.int (a4 + a1)), (7, Value.int 64), (0, Value.ref 128), (1, Value.int a0), (2, Value.ref 129), (3, Value.int a1), (4, Value.int 0), (5, Value.int 0), (6, Value.int a2)]) rfl ?_
  refine i_180_16 (x := 128) rfl ?_
  refine i_180_17 (v := Value.int 0) hw0 rfl ?_
  refine i_180_20 (fun h => absurd h (by decide)) (fun _ => ?_)
  refine i_180_23 (x := 128) rfl ?_
  refine i_180_24 (v := Value.int 0) hw0 rfl ?_
  refine i_180_27 (fun _ => ?_) (fun h => absurd h (by decide))
  refine i_180_49 (x := (a4 + a1)) rfl ?_
  refine i_180_51 (x := 64) rfl ?_
  refine i_180_53 (c := ((a4 + a1) - (64 : Int32))) rfl ?_
  refine i_180_54 (lv2 := [(9, Value.int ((a4 + a1) - (64 : Int32))), (8, Value.int (a4 + a1)), (7, Value.int 64), (0, Value.ref 128), (1, Value.int a0), (2, Value.ref 129), (3, Value.int a1), (4, Value.int 0), (5, Value.int 0), (6, Value.int a2)]) rfl ?_
  refine i_180_56 (x := ((a4 + a1) - (64 : Int32))) rfl ?_
  refine i_180_58 (x := a1) rfl ?_
  refine i_180_59 (c := (((a4 + a1) - (64 : Int32)) - a1)) rfl ?_
  refine i_180_60 (lv2 := [(10, Value.int (((a4 + a1) - (64 : Int32)) - a1)), (9, Value.int ((a4 + a1) - (64 : Int32))), (8, Value.int (a4 + a1)), (7, Value.int 64), (0, Value.ref 128), (1, Value.int a0), (2, Value.ref 129), (3, Value.int a1), (4, Value.int 0), (5, Value.int 0), (6, Value.int a2)]) rfl ?_
  refine i_180_62 (x := 128) rfl ?_
  refine i_180_63 (v := Value.ref 156) hw0 rfl ?_
  refine i_180_66 (x := a0) rfl ?_
  refine i_180_67 (x := 0) rfl ?_
  refine i_180_69z (v := Value.int 0) hw10 e2 e3 (by decide) rfl ?_
  refine i_180_70 (x := 128) rfl ?_
  refine i_180_71 (v := Value.ref 135) (xgn (by decide) hw0) rfl ?_
  refine i_180_74 (x := 129) rfl ?_
  refine i_180_75 (xgn (by decide) hw11) (Nat.le_of_ble_eq_true rfl) (r_182_8 (xgn (by decide) hw5) (xgn (by decide) hw11) (xgn (by decide) hw6) (xgn (by decide) hw12) hg13 hg14 hg7) ?_
  refine i_180_78 ?_
  refine i_180_79 (lv2 := [(11, Value.int 0), (10, Value.int (((a4 + a1) - (64 : Int32)) - a1)), (9, Value.int ((a4 + a1) - (64 : Int32))), (8, Value.int (a4 + a1)), (7, Value.int 64), (0, Value.ref 128), (1, Value.int a0), (2, Value.ref 129), (3, Value.int a1), (4, Value.int 0), (5, Value.int 0), (6, Value.int a2)]) rfl ?_
  refine i_180_81 (x := 0) rfl ?_
  refine i_180_83 (fun h => absurd h (by decide)) (fun _ => ?_)
  refine i_180_86 ?_
  refine i_180_87 ?_
  refine i_180_91 (lv2 := [(12, Value.int 1), (11, Value.int 0), (10, Value.int (((a4 + a1) - (64 : Int32)) - a1)), (9, Value.int ((a4 + a1) - (64 : Int32))), (8, Value.int (a4 + a1)), (7, Value.int 64), (0, Value.ref 128), (1, Value.int a0), (2, Value.ref 129), (3, Value.int a1), (4, Value.int 0), (5, Value.int 0), (6, Value.int a2)]) rfl ?_
  refine i_180_93 (x := (((a4 + a1) - (64 : Int32)) - a1)) rfl ?_
  refine i_180_95 (fun _ => ?_) (fun h => absurd e15 (Int.not_le.mpr h))
  refine i_180_151 (x := 128) rfl ?_
  refine i_180_152 (v := Value.ref 135) (xgn (by decide) (xgn (by decide) (xgn (by decide) hw0))) rfl ?_
  refine i_180_155 (x := (((a4 + a1) - (64 : Int32)) - a1)) rfl ?_
  refine i_180_157 (c := a7) hg16 ?_
  refine i_180_158 (xgs (xgn (by decide) (xgn (by decide) hw11))) (Nat.le_of_ble_eq_true rfl) (r_188_5 (xgs (xgn (by decide) (xgn (by decide) hw11))) e17 hg18 hg19 (xgn (by decide) (xgs (xgn (by decide) hw12))) (xcp_i rfl hg7) hg20 (xcp_i rfl hg14) (xcp_i rfl hg13) e21) ?_
  refine i_180_161 (x := 0) rfl ?_
  refine i_180_163 (fun _ => ?_) (fun h => absurd h (by decide))
  refine i_180_174 (x := 128) rfl ?_
  refine i_180_175 (v := Value.ref 135) (xgn (by decide) (xgn (by decide) (xgn (by decide) (xgn (by decide) (xgn (by decide) hw0))))) rfl ?_
  refine i_180_178 (xgs (xgn (by decide) (xgs (xgn (by decide) (xgn (by decide) hw11))))) (Nat.le_of_ble_eq_true rfl) (mb_run3 (xgs (xgn (by decide) (xgs (xgn (by decide) (xgn (by decide) hw11))))) (xgn (by decide) (xgs (xgn (by decide) (xgs (xgn (by decide) hw12))))) (xup_n (by decide) (xup_n (by decide) (xup_n (by decide) xup_s))) e23 hg22) ?_
  refine i_180_181 (x := ((a4 + a1) - (64 : Int32))) rfl ?_
  refine i_180_183 (c := ((64 : Int32) + ((a4 + a1) - (64 : Int32)))) rfl ?_
  refine i_180_184 (lv2 := [(13, Value.int ((64 : Int32) + ((a4 + a1) - (64 : Int32)))), (12, Value.int 1), (11, Value.int 0), (10, Value.int (((a4 + a1) - (64 : Int32)) - a1)), (9, Value.int ((a4 + a1) - (64 : Int32))), (8, Value.int (a4 + a1)), (7, Value.int 64), (0, Value.ref 128), (1, Value.int a0), (2, Value.ref 129), (3, Value.int a1), (4, Value.int 0), (5, Value.int 0), (6, Value.int a2)]) rfl ?_
  refine i_180_186 (x := 1) rfl ?_
  refine i_180_188 (fun h => absurd h (by decide)) (fun _ => ?_)
  refine i_180_191 ?_
  refine i_180_192 ?_
  refine i_180_205 (lv2 := [(14, Value.int 0), (13, Value.int ((64 : Int32) + ((a4 + a1) - (64 : Int32)))), (12, Value.int 1), (11, Value.int 0), (10, Value.int (((a4 + a1) - (64 : Int32)) - a1)), (9, Value.int ((a4 + a1) - (64 : Int32))), (8, Value.int (a4 + a1)), (7, Value.int 64), (0, Value.ref 128), (1, Value.int a0), (2, Value.ref 129), (3, Value.int a1), (4, Value.int 0), (5, Value.int 0), (6, Value.int a2)]) rfl ?_
  refine i_180_207 (x := 128) rfl ?_
  refine i_180_208 (v := Value.int 0) (xgn (by decide) (xgn (by decide) (xgn (by decide) (xgn (by decide) (xgn (by decide) hw0))))) rfl ?_
  refine i_180_211 (fun h => absurd h (by decide)) (fun _ => ?_)
  refine i_180_214 (x := 128) rfl ?_
  refine i_180_215 (v := Value.ref 135) (xgn (by decide) (xgn (by decide) (xgn (by decide) (xgn (by decide) (xgn (by decide) hw0))))) rfl ?_
  refine i_180_218 (v := Value.int 3) (xgs (xgn (by decide) (xgs (xgn (by decide) (xgn (by decide) hw11))))) rfl ?_
  refine i_180_221 (fun h => absurd h (by decide)) (fun _ => ?_)
  refine i_180_224 (x := ((64 : Int32) + ((a4 + a1) - (64 : Int32)))) rfl ?_
  refine i_180_226 (x := 128) rfl ?_
  refine i_180_227 (v := Value.int 16384) (xgn (by decide) (xgn (by decide) (xgn (by decide) (xgn (by decide) (xgn (by decide) hw0))))) rfl ?_
  refine i_180_230 (fun _ => ?_) (fun h => absurd e24 (Int.not_le.mpr h))
  refine i_180_367 (x := 128) rfl ?_
  refine i_180_368 (v := Value.ref 135) (xgn (by decide) (xgn (by decide) (xgn (by decide) (xgn (by decide) (xgn (by decide) hw0))))) rfl ?_
  refine i_180_371 (v := Value.int 3) (xgs (xgn (by decide) (xgs (xgn (by decide) (xgn (by decide) hw11))))) rfl ?_
  refine i_180_374 (fun _ => ?_) (fun h => absurd h (by decide))
  refine i_180_392 (x := 128) rfl ?_
  refine i_180_393 (v := Value.int 0) (xgn (by decide) (xgn (by decide) (xgn (by decide) (xgn (by decide) (xgn (by decide) hw0))))) rfl ?_
  refine i_180_396 (fun h => absurd h (by decide)) (fun _ => ?_)
  refine i_180_399 (x := 128) rfl ?_
  refine i_180_400 (v := Value.int 0) (xgn (by decide) (xgn (by decide) (xgn (by decide) (xgn (by decide) (xgn (by decide) hw0))))) rfl ?_
  refine i_180_403 (fun h => absurd h (by decide)) (fun _ => ?_)
  refine i_180_406 (x := ((64 : Int32) + ((a4 + a1) - (64 : Int32)))) rfl ?_
  refine i_180_408 (x := 128) rfl ?_
  refine i_180_409 (v := Value.int (-16384)) (xgn (by decide) (xgn (by decide) (xgn (by decide) (xgn (by decide) (xgn (by decide) hw0))))) rfl ?_
  refine i_180_412 (fun _ => ?_) (fun h => absurd e25 (Int.not_le.mpr h))
  refine i_180_580 (x := 128) rfl ?_
  refine i_180_581 (x := a0) rfl ?_
  refine i_180_582 (x := 128) rfl ?_
  refine i_180_583 (v := Value.ref 135) (xgn (by decide) (xgn (by decide) (xgn (by decide) (xgn (by decide) (xgn (by decide) hw0))))) rfl ?_
  refine i_180_586 (x := ((a4 + a1) - (64 : Int32))) rfl ?_
  refine i_180_588 (xgn (by decide) (xgn (by decide) (xgn (by decide) (xgn (by decide) (xgn (by decide) hw0))))) (Nat.le_of_ble_eq_true rfl) (r_192_2 (xgn (by decide) (xgn (by decide) (xgn (by decide) (xgn (by decide) (xgn (by decide) hw0))))) (xgn (by decide) (xgn (by decide) (xgn (by decide) (xgn (by decide) (xgn (by decide) hw1))))) e2 e3 hg4 (xgs (xgn (by decide) (xgs (xgn (by decide) (xgn (by decide) hw11))))) (xgn (by decide) (xgs (xgn (by decide) (xgs (xgn (by decide) hw12))))) (xup_n (by decide) (xup_n (by decide) (xup_n (by decide) xup_s))) hg22 e23 (xgn (by decide) (xgn (by decide) (xgn (by decide) (xgn (by decide) (xgn (by decide) hw26))))) hg27 (xgn e28 (xgn e29 (xgn e28 (xgn e29 (xgn e30 hw31))))) e32 e33 e34 (xgn (by decide) (xgn (by decide) (xgn (by decide) (xgn (by decide) (xgn (by decide) hw35))))) e36 e37 e38 (xgn (by decide) (xgn (by decide) (xgn (by decide) (xgn (by decide) (xgn (by decide) hw39))))) xup_s (xup_n (by decide) xup_s) e40 e41 e42 e43 e44 e45 (xgn e46 (xgn e47 (xgn e46 (xgn e47 (xgn e48 hw49))))) e50 e51 e52 e53 e54 e55 (xgn (by decide) (xgn (by decide) (xgn (by decide) (xgn (by decide) (xgn (by decide) hw56))))) e57 e58 (xgn (by decide) (xgn (by decide) (xgn (by decide) (xgn (by decide) (xgn (by decide) hw59)))))) ?_
  refine i_180_591 (x := 128) rfl ?_
  refine i_180_592 (v := Value.int 0) (xgn (by decide) (xgn (by decide) (xgn e33 (xgn e53 (xgn (by decide) (xgn (by decide) (xgn e33 (xgn (by decide) (xgn (by decide) (xgn (by decide) (xgn (by decide) (xgn (by decide) hw0)))))))))))) rfl ?_
  refine i_180_595 (fun h => absurd h (by decide)) (fun _ => ?_)
  refine i_180_598 (x := 128) rfl ?_
  refine i_180_599 (v := Value.int 0) (xgn (by decide) (xgn (by decide) (xgn e33 (xgn e53 (xgn (by decide) (xgn (by decide) (xgn e33 (xgn (by decide) (xgn (by decide) (xgn (by decide) (xgn (by decide) (xgn (by decide) hw0)))))))))))) rfl ?_
  refine i_180_602 (fun _ => ?_) (fun h => absurd h (by decide))
  refine i_180_629 (x := 0) rfl ?_
  refine i_180_631 (fun _ => ?_) (fun h => absurd h (by decide))
  refine i_180_644 (x := 0) rfl ?_
  refine i_180_646 (fun _ => ?_) (fun h => absurd h (by decide))
  refine i_180_655 (x := 0) rfl ?_
  exact i_180_657 ⟨rfl, rfl⟩
theorem r_248_30 {d : Nat} {w : xW} {a0 : Int32} {b0 : Int64} {a1 : Int32} {a2 : Int32} {g0 : Nat → Value} {a3 : Int32} {a4 : Int32} {a5 : Int32} {g1 : Nat → Value} {h0 : Nat} {h1 : Nat} (e0 : 0 ≤ a0.toInt) (e1 : a0.toInt ≤ 15) (e2 : 0 ≤ a1.toInt) (e3 : a1.toInt ≤ 4) (hg4 : (xfe b0) = a2) (e5 : a2.toInt ≠ 2047) (e6 : a2.toInt ≠ 0) (hw7 : w[128]? = some (Sum.inr (12, [Value.ref 129, Value.ref 131, Value.ref 133, Value.ref 135, Value.ref 137, Value.ref 139, Value.ref 141, Value.ref 143, Value.ref 145, Value.ref 147, Value.ref 149, Value.ref 151, Value.ref 153, Value.ref 154, Value.ref 155, Value.ref 156, Value.ref 157, Value.int (-16384), Value.int 16384, Value.int 0, Value.int 0, Value.int 0, Value.ref 158, Value.ref 159, Value.int 0, Value.int 0, Value.int 0, Value.int 0, Value.int 0, Value.int 0, Value.int 0, Value.int 0]))) (hw8 : w[129]? = some (Sum.inr (13, [Value.ref 130, Value.int 0]))) (e9 : (lg_cmp (xfo b0) (0 : Int64)).toInt ≠ 0) (hw10 : w[130]? = some (Sum.inl (0, 4700, fun _ => Value.int 0))) (e11 : (lg_cmp (xqs (xfo b0)) (0 : Int64)).toInt ≠ 0) (e12 : (lg_cmp (xqs (xqs (xfo b0))) (0 : Int64)).toInt ≠ 0) (hg13 : (lg_cmp (xqs (xqs (xqs (xfo b0)))) (0 : Int64)) = 0) (e14 : 0 ≤ (lg_cmp b0 (0 : Int64)).toInt) (hw15 : w[153]? = some (Sum.inl (0, 17, g0))) (e16 : a0.toInt < 17) (hg17 : g0 a0.toInt.toNat = Value.int 64) (hg18 : ((60 : Int32) + (xbn (xq (xqs (xqs (xfo b0)))))) = a3) (e19 : 0 ≤ (xq (xqs (xqs (xfo b0)))).toInt) (hw20 : w[156]? = some (Sum.inl (2, 17, fun _ => Value.int 0))) (hw21 : w[135]? = some (Sum.inr (13, [Value.ref 136, Value.int 0]))) (hw22 : w[136]? = some (Sum.inl (0, 4700, fun _ => Value.int 0))) (e23 : (((a3 + (a2 - (1075 : Int32))) - (64 : Int32)) - (a2 - (1075 : Int32))).toInt ≤ 0) (hg24 : (-(((a3 + (a2 - (1075 : Int32))) - (64 : Int32)) - (a2 - (1075 : Int32)))) = a4) (e25 : a4.toInt ≠ 0) (hg26 : (a4 / (30 : Int32)) = 0) (hg27 : (a4 - a4 / (30 : Int32) * (30 : Int32)) = a5) (hg28 : ((0 : Int32) ||| (xH (xq (xqs (xqs (xfo b0)))) a5)) = 0) (e29 : ((xL (xq (xqs (xqs (xfo b0)))) a5) ||| (xH (xq (xqs (xfo b0))) a5)).toInt ≠ 0) (hg30 : ((60 : Int32) + (xbn ((xL (xq (xqs (xqs (xfo b0)))) a5) ||| (xH (xq (xqs (xfo b0))) a5)))) = 64) (e31 : 0 ≤ ((xL (xq (xqs (xqs (xfo b0)))) a5) ||| (xH (xq (xqs (xfo b0))) a5)).toInt) (e32 : ((64 : Int32) + ((a3 + (a2 - (1075 : Int32))) - (64 : Int32))).toInt ≤ 16384) (e33 : (-16384) ≤ ((64 : Int32) + ((a3 + (a2 - (1075 : Int32))) - (64 : Int32))).toInt) (hw34 : w[157]? = some (Sum.inl (5, 17, g1))) (hg35 : g1 a0.toInt.toNat = Value.ref h0) (e36 : 135 ≠ h0) (e37 : 136 ≠ h0) (e38 : 156 ≠ h0) (e39 : 129 ≠ h0) (e40 : 130 ≠ h0) (hw41 : w[h0]? = some (Sum.inr (13, [Value.ref h1, Value.int 0]))) (e42 : 7 ≤ h0) (e43 : h0 ≠ 128) (e44 : h0 ≠ 137) (hw45 : w[137]? = some (Sum.inr (13, [Value.ref 138, Value.int 0]))) (e46 : h0 ≠ 135) (e47 : h0 ≠ 136) (e48 : h0 ≠ 138) (hw49 : w[138]? = some (Sum.inl (0, 4700, fun _ => Value.int 0))) (e50 : h0 ≠ 157) (e51 : 137 ≠ h0) (e52 : 138 ≠ h0) (e53 : 137 ≠ h1) (e54 : 138 ≠ h1) (e55 : h0 ≠ h1) (e56 : 135 ≠ h1) (e57 : 136 ≠ h1) (e58 : 156 ≠ h1) (e59 : 129 ≠ h1) (e60 : 130 ≠ h1) (hw61 : w[h1]? = some (Sum.inl (0, 140, fun _ => Value.int 0))) (e62 : 7 ≤ h1) (e63 : h1 ≠ 137) (e64 : h1 ≠ h0) (e65 : h1 ≠ 128) (e66 : h0 ≠ 154) (e67 : h1 ≠ 154) (hw68 : w[154]? = some (Sum.inl (0, 17, fun _ => Value.int 0))) (e69 : h0 ≠ 155) (e70 : h1 ≠ 155) (hw71 : w[155]? = some (Sum.inl (0, 17, fun _ => Value.int 0))) : xRun (d + 4) 248 [Value.ref 128, Value.int a0, Value.long b0, Value.int a1] w (.inl (some (Value.int 0))) (((((((((((((((((((w.set 129 (Sum.inr (13, [Value.ref 130, Value.int 0]))).set 130 (Sum.inl (0, 4700, xup (fun _ => Value.int 0) (0 : Int32).toInt.toNat (Value.int (xq (xfo b0)))))).set 129 (Sum.inr (13, [Value.ref 130, Value.int 1]))).set 130 (Sum.inl (0, 4700, xup (xup (fun _ => Value.int 0) (0 : Int32).toInt.toNat (Value.int (xq (xfo b0)))) (1 : Int32).toInt.toNat (Value.int (xq (xqs (xfo b0))))))).set 129 (Sum.inr (13, [Value.ref 130, Value.int 2]))).set 130 (Sum.inl (0, 4700, xup (xup (xup (fun _ => Value.int 0) (0 : Int32).toInt.toNat (Value.int (xq (xfo b0)))) (1 : Int32).toInt.toNat (Value.int (xq (xqs (xfo b0))))) (2 : Int32).toInt.toNat (Value.int (xq (xqs (xqs (xfo b0)))))))).set 129 (Sum.inr (13, [Value.ref 130, Value.int 3]))).set 156 (Sum.inl (2, 17, xup (fun _ => Value.int 0) a0.toInt.toNat (Value.int 0)))).set 136 (Sum.inl (0, 4700, xcp (xup (xup (xup (fun _ => Value.int 0) (0 : Int32).toInt.toNat (Value.int (xq (xfo b0)))) (1 : Int32).toInt.toNat (Value.int (xq (xqs (xfo b0))))) (2 : Int32).toInt.toNat (Value.int (xq (xqs (xqs (xfo b0)))))) (fun _ => Value.int 0) (0 : Int32).toInt.toNat (0 : Int32).toInt.toNat (3 : Int32).toInt.toNat))).set 135 (Sum.inr (13, [Value.ref 136, Value.int 3]))).set 136 (Sum.inl (0, 4700, xup (xup (xup (xup (xup (xup (xup (xcp (xup (xup (xup (fun _ => Value.int 0) (0 : Int32).toInt.toNat (Value.int (xq (xfo b0)))) (1 : Int32).toInt.toNat (Value.int (xq (xqs (xfo b0))))) (2 : Int32).toInt.toNat (Value.int (xq (xqs (xqs (xfo b0)))))) (fun _ => Value.int 0) (0 : Int32).toInt.toNat (0 : Int32).toInt.toNat (3 : Int32).toInt.toNat) (3 : Int32).toInt.toNat (Value.int 0)) (3 : Int32).toInt.toNat (Value.int 0)) (2 : Int32).toInt.toNat (Value.int (xL (xq (xqs (xqs (xfo b0)))) a5))) (2 : Int32).toInt.toNat (Value.int ((xL (xq (xqs (xqs (xfo b0)))) a5) ||| (xH (xq (xqs (xfo b0))) a5)))) (1 : Int32).toInt.toNat (Value.int (xL (xq (xqs (xfo b0))) a5))) (1 : Int32).toInt.toNat (Value.int ((xL (xq (xqs (xfo b0))) a5) ||| (xH (xq (xfo b0)) a5)))) (0 : Int32).toInt.toNat (Value.int (xL (xq (xfo b0)) a5))))).set 135 (Sum.inr (13, [Value.ref 136, Value.int 3]))).set h0 (Sum.inr (13, [Value.ref h1, Value.int 0]))).set 138 (Sum.inl (0, 4700, xcp (xup (xup (xup (xup (xup (xup (xup (xcp (xup (xup (xup (fun _ => Value.int 0) (0 : Int32).toInt.toNat (Value.int (xq (xfo b0)))) (1 : Int32).toInt.toNat (Value.int (xq (xqs (xfo b0))))) (2 : Int32).toInt.toNat (Value.int (xq (xqs (xqs (xfo b0)))))) (fun _ => Value.int 0) (0 : Int32).toInt.toNat (0 : Int32).toInt.toNat (3 : Int32).toInt.toNat) (3 : Int32).toInt.toNat (Value.int 0)) (3 : Int32).toInt.toNat (Value.int 0)) (2 : Int32).toInt.toNat (Value.int (xL (xq (xqs (xqs (xfo b0)))) a5))) (2 : Int32).toInt.toNat (Value.int ((xL (xq (xqs (xqs (xfo b0)))) a5) ||| (xH (xq (xqs (xfo b0))) a5)))) (1 : Int32).toInt.toNat (Value.int (xL (xq (xqs (xfo b0))) a5))) (1 : Int32).toInt.toNat (Value.int ((xL (xq (xqs (xfo b0))) a5) ||| (xH (xq (xfo b0)) a5)))) (0 : Int32).toInt.toNat (Value.int (xL (xq (xfo b0)) a5))) (fun _ => Value.int 0) (0 : Int32).toInt.toNat (0 : Int32).toInt.toNat (3 : Int32).toInt.toNat))).set 137 (Sum.inr (13, [Value.ref 138, Value.int 3]))).set h1 (Sum.inl (0, 140, xcp (xcp (xup (xup (xup (xup (xup (xup (xup (xcp (xup (xup (xup (fun _ => Value.int 0) (0 : Int32).toInt.toNat (Value.int (xq (xfo b0)))) (1 : Int32).toInt.toNat (Value.int (xq (xqs (xfo b0))))) (2 : Int32).toInt.toNat (Value.int (xq (xqs (xqs (xfo b0)))))) (fun _ => Value.int 0) (0 : Int32).toInt.toNat (0 : Int32).toInt.toNat (3 : Int32).toInt.toNat) (3 : Int32).toInt.toNat (Value.int 0)) (3 : Int32).toInt.toNat (Value.int 0)) (2 : Int32).toInt.toNat (Value.int (xL (xq (xqs (xqs (xfo b0)))) a5))) (2 : Int32).toInt.toNat (Value.int ((xL (xq (xqs (xqs (xfo b0)))) a5) ||| (xH (xq (xqs (xfo b0))) a5)))) (1 : Int32).toInt.toNat (Value.int (xL (xq (xqs (xfo b0))) a5))) (1 : Int32).toInt.toNat (Value.int ((xL (xq (xqs (xfo b0))) a5) ||| (xH (xq (xfo b0)) a5)))) (0 : Int32).toInt.toNat (Value.int (xL (xq (xfo b0)) a5))) (fun _ => Value.int 0) (0 : Int32).toInt.toNat (0 : Int32).toInt.toNat (3 : Int32).toInt.toNat) (fun _ => Value.int 0) (0 : Int32).toInt.toNat (0 : Int32).toInt.toNat (3 : Int32).toInt.toNat))).set h0 (Sum.inr (13, [Value.ref h1, Value.int 3]))).set 154 (Sum.inl (0, 17, xup (fun _ => Value.int 0) a0.toInt.toNat (Value.int 3)))).set 155 (Sum.inl (0, 17, xup (fun _ => Value.int 0) a0.toInt.toNat (Value.int ((64 : Int32) + ((a3 + (a2 - (1075 : Int32))) - (64 : Int32))))))) := by
  refine xRun.of ?_
  refine i_248_0 (x := a0) rfl ?_
  refine i_248_1 (Nat.le_of_ble_eq_true rfl) (r_168_1 e0 e1) ?_
  refine i_248_4 (x := a1) rfl ?_
  refine i_248_6 (Nat.le_of_ble_eq_true rfl) (r_178_2 e2 e3) ?_
  refine i_248_9 (x := b0) rfl ?_
  refine i_248_10 ?_
  refine i_248_12 (c := (b0 >>> ((52 : Int32).toInt64 &&& 63))) rfl ?_
  refine i_248_13 (c := (b0 >>> ((52 : Int32).toInt64 &&& 63)).toInt32) rfl ?_
  refine i_248_14 ?_
  refine i_248_17 (c := a2) hg4 ?_
  refine i_248_18 (lv2 := [(5, Value.int a2), (0, Value.ref 128), (1, Value.int a0), (2, Value.long b0), (4, Value.int a1)]) rfl ?_
  refine i_248_20 (x := b0) rfl ?_
  refine i_248_21 ?_
  refine i_248_24 (c := (xfr b0)) rfl ?_
  refine i_248_25 (lv2 := [(6, Value.long (xfr b0)), (5, Value.int a2), (0, Value.ref 128), (1, Value.int a0), (2, Value.long b0), (4, Value.int a1)]) rfl ?_
  refine i_248_27 (x := a2) rfl ?_
  refine i_248_29 ?_
  refine i_248_32 (fun _ => ?_) (fun h => absurd e5 (fun g => g h))
  refine i_248_71 (x := a2) rfl ?_
  refine i_248_73 (fun _ => ?_) (fun h => absurd e6 (fun g => g h))
  refine i_248_101 (x := 128) rfl ?_
  refine i_248_102 (v := Value.ref 129) hw7 rfl ?_
  refine i_248_105 (x := a2) rfl ?_
  refine i_248_107 (fun _ => ?_) (fun h => absurd e6 (fun g => g h))
  refine i_248_115 (x := (xfr b0)) rfl ?_
  refine i_248_117 ?_
  refine i_248_120 (c := (xfo b0)) rfl ?_
  refine i_248_121 hw8 (Nat.le_of_ble_eq_true rfl) (r_179_3 hw8 e9 hw10 e11 e12 hg13) ?_
  refine i_248_124 (x := 128) rfl ?_
  refine i_248_125 (x := a0) rfl ?_
  refine i_248_126 (x := 128) rfl ?_
  refine i_248_127 (v := Value.ref 129) (xgn (by decide) (xgn (by decide) (xgn (by decide) (xgn (by decide) (xgn (by decide) (xgn (by decide) (xgn (by decide) hw7))))))) rfl ?_
  refine i_248_130 (x := a2) rfl ?_
  refine i_248_132 (fun _ => ?_) (fun h => absurd e6 (fun g => g h))
  refine i_248_139 (x := a2) rfl ?_
  refine i_248_141 ?_
  refine i_248_144 (c := (a2 - (1075 : Int32))) rfl ?_
  refine i_248_145 ?_
  refine i_248_146 (x := b0) rfl ?_
  refine i_248_147 ?_
  refine i_248_148 (c := (lg_cmp b0 (0 : Int64))) rfl ?_
  refine i_248_149 (fun _ => ?_) (fun h => absurd e14 (Int.not_le.mpr h))
  refine i_248_156 ?_
  refine i_248_157 (x := a1) rfl ?_
  refine i_248_159 (xgn (by decide) (xgn (by decide) (xgn (by decide) (xgn (by decide) (xgn (by decide) (xgn (by decide) (xgn (by decide) hw7))))))) (Nat.le_of_ble_eq_true rfl) (r_180_22 (xgn (by decide) (xgn (by decide) (xgn (by decide) (xgn (by decide) (xgn (by decide) (xgn (by decide) (xgn (by decide) hw7))))))) (xgn (by decide) (xgn (by decide) (xgn (by decide) (xgn (by decide) (xgn (by decide) (xgn (by decide) (xgn (by decide) hw15))))))) e0 e16 hg17 (xgs (xgn (by decide) (xgs (xgn (by decide) (xgs (xgn (by decide) (xgs hw8))))))) (xgn (by decide) (xgs (xgn (by decide) (xgs (xgn (by decide) (xgs (xgn (by decide) hw10))))))) xup_s hg18 e19 (xgn (by decide) (xgn (by decide) (xgn (by decide) (xgn (by decide) (xgn (by decide) (xgn (by decide) (xgn (by decide) hw20))))))) (xgn (by decide) (xgn (by decide) (xgn (by decide) (xgn (by decide) (xgn (by decide) (xgn (by decide) (xgn (by decide) hw21))))))) (xgn (by decide) (xgn (by decide) (xgn (by decide) (xgn (by decide) (xgn (by decide) (xgn (by decide) (xgn (by decide) hw22))))))) (xup_n (by decide) (xup_n (by decide) xup_s)) (xup_n (by decide) xup_s) e23 hg24 e25 hg26 hg27 hg28 e29 hg30 e31 e32 e33 (xgn (by decide) (xgn (by decide) (xgn (by decide) (xgn (by decide) (xgn (by decide) (xgn (by decide) (xgn (by decide) hw34))))))) hg35 e36 e37 e38 (xgn e39 (xgn e40 (xgn e39 (xgn e40 (xgn e39 (xgn e40 (xgn e39 hw41))))))) e42 e43 e44 (xgn (by decide) (xgn (by decide) (xgn (by decide) (xgn (by decide) (xgn (by decide) (xgn (by decide) (xgn (by decide) hw45))))))) e46 e47 e48 (xgn (by decide) (xgn (by decide) (xgn (by decide) (xgn (by decide) (xgn (by decide) (xgn (by decide) (xgn (by decide) hw49))))))) e50 e51 e52 e53 e54 e55 e56 e57 e58 (xgn e59 (xgn e60 (xgn e59 (xgn e60 (xgn e59 (xgn e60 (xgn e59 hw61))))))) e62 e63 e64 e65 e66 e67 (xgn (by decide) (xgn (by decide) (xgn (by decide) (xgn (by decide) (xgn (by decide) (xgn (by decide) (xgn (by decide) hw68))))))) e69 e70 (xgn (by decide) (xgn (by decide) (xgn (by decide) (xgn (by decide) (xgn (by decide) (xgn (by decide) (xgn (by decide) hw71)))))))) ?_
  exact i_248_162 ⟨rfl, rfl⟩
theorem r_247_30 {d : Nat} {w : xW} {a0 : Int32} {b0 : Int64} {a1 : Int32} {a2 : Int32} {g0 : Nat → Value} {a3 : Int32} {a4 : Int32} {a5 : Int32} {g1 : Nat → Value} {h0 : Nat} {h1 : Nat} (hw0 : w[128]? = some (Sum.inr (12, [Value.ref 129, Value.ref 131, Value.ref 133, Value.ref 135, Value.ref 137, Value.ref 139, Value.ref 141, Value.ref 143, Value.ref 145, Value.ref 147, Value.ref 149, Value.ref 151, Value.ref 153, Value.ref 154, Value.ref 155, Value.ref 156, Value.ref 157, Value.int (-16384), Value.int 16384, Value.int 0, Value.int 0, Value.int 0, Value.ref 158, Value.ref 159, Value.int 0, Value.int 0, Value.int 0, Value.int 0, Value.int 0, Value.int 0, Value.int 0, Value.int 0]))) (e1 : 0 ≤ a0.toInt) (e2 : a0.toInt ≤ 15) (e3 : 0 ≤ a1.toInt) (e4 : a1.toInt ≤ 4) (hg5 : (xfe b0) = a2) (e6 : a2.toInt ≠ 2047) (e7 : a2.toInt ≠ 0) (hw8 : w[129]? = some (Sum.inr (13, [Value.ref 130, Value.int 0]))) (e9 : (lg_cmp (xfo b0) (0 : Int64)).toInt ≠ 0) (hw10 : w[130]? = some (Sum.inl (0, 4700, fun _ => Value.int 0))) (e11 : (lg_cmp (xqs (xfo b0)) (0 : Int64)).toInt ≠ 0) (e12 : (lg_cmp (xqs (xqs (xfo b0))) (0 : Int64)).toInt ≠ 0) (hg13 : (lg_cmp (xqs (xqs (xqs (xfo b0)))) (0 : Int64)) = 0) (e14 : 0 ≤ (lg_cmp b0 (0 : Int64)).toInt) (hw15 : w[153]? = some (Sum.inl (0, 17, g0))) (e16 : a0.toInt < 17) (hg17 : g0 a0.toInt.toNat = Value.int 64) (hg18 : ((60 : Int32) + (xbn (xq (xqs (xqs (xfo b0)))))) = a3) (e19 : 0 ≤ (xq (xqs (xqs (xfo b0)))).toInt) (hw20 : w[156]? = some (Sum.inl (2, 17, fun _ => Value.int 0))) (hw21 : w[135]? = some (Sum.inr (13, [Value.ref 136, Value.int 0]))) (hw22 : w[136]? = some (Sum.inl (0, 4700, fun _ => Value.int 0))) (e23 : (((a3 + (a2 - (1075 : Int32))) - (64 : Int32)) - (a2 - (1075 : Int32))).toInt ≤ 0) (hg24 : (-(((a3 + (a2 - (1075 : Int32))) - (64 : Int32)) - (a2 - (1075 : Int32)))) = a4) (e25 : a4.toInt ≠ 0) (hg26 : (a4 / (30 : Int32)) = 0) (hg27 : (a4 - a4 / (30 : Int32) * (30 : Int32)) = a5) (hg28 : ((0 : Int32) ||| (xH (xq (xqs (xqs (xfo b0)))) a5)) = 0) (e29 : ((xL (xq (xqs (xqs (xfo b0)))) a5) ||| (xH (xq (xqs (xfo b0))) a5)).toInt ≠ 0) (hg30 : ((60 : Int32) + (xbn ((xL (xq (xqs (xqs (xfo b0)))) a5) ||| (xH (xq (xqs (xfo b0))) a5)))) = 64) (e31 : 0 ≤ ((xL (xq (xqs (xqs (xfo b0)))) a5) ||| (xH (xq (xqs (xfo b0))) a5)).toInt) (e32 : ((64 : Int32) + ((a3 + (a2 - (1075 : Int32))) - (64 : Int32))).toInt ≤ 16384) (e33 : (-16384) ≤ ((64 : Int32) + ((a3 + (a2 - (1075 : Int32))) - (64 : Int32))).toInt) (hw34 : w[157]? = some (Sum.inl (5, 17, g1))) (hg35 : g1 a0.toInt.toNat = Value.ref h0) (e36 : 135 ≠ h0) (e37 : 136 ≠ h0) (e38 : 156 ≠ h0) (e39 : 129 ≠ h0) (e40 : 130 ≠ h0) (e41 : 128 ≠ h0) (hw42 : w[h0]? = some (Sum.inr (13, [Value.ref h1, Value.int 0]))) (e43 : 7 ≤ h0) (e44 : h0 ≠ 128) (e45 : h0 ≠ 137) (hw46 : w[137]? = some (Sum.inr (13, [Value.ref 138, Value.int 0]))) (e47 : h0 ≠ 135) (e48 : h0 ≠ 136) (e49 : h0 ≠ 138) (hw50 : w[138]? = some (Sum.inl (0, 4700, fun _ => Value.int 0))) (e51 : h0 ≠ 157) (e52 : 137 ≠ h0) (e53 : 138 ≠ h0) (e54 : 137 ≠ h1) (e55 : 138 ≠ h1) (e56 : h0 ≠ h1) (e57 : 135 ≠ h1) (e58 : 136 ≠ h1) (e59 : 156 ≠ h1) (e60 : 129 ≠ h1) (e61 : 130 ≠ h1) (e62 : 128 ≠ h1) (hw63 : w[h1]? = some (Sum.inl (0, 140, fun _ => Value.int 0))) (e64 : 7 ≤ h1) (e65 : h1 ≠ 137) (e66 : h1 ≠ h0) (e67 : h1 ≠ 128) (e68 : h0 ≠ 154) (e69 : h1 ≠ 154) (hw70 : w[154]? = some (Sum.inl (0, 17, fun _ => Value.int 0))) (e71 : h0 ≠ 155) (e72 : h1 ≠ 155) (hw73 : w[155]? = some (Sum.inl (0, 17, fun _ => Value.int 0))) : xRun (d + 5) 247 [Value.ref 128, Value.int a0, Value.long b0, Value.int a1] w (.inl (some (Value.int 0))) ((((((((((((((((((((w.set 128 (Sum.inr (12, [Value.ref 129, Value.ref 131, Value.ref 133, Value.ref 135, Value.ref 137, Value.ref 139, Value.ref 141, Value.ref 143, Value.ref 145, Value.ref 147, Value.ref 149, Value.ref 151, Value.ref 153, Value.ref 154, Value.ref 155, Value.ref 156, Value.ref 157, Value.int (-16384), Value.int 16384, Value.int 0, Value.int 0, Value.int 0, Value.ref 158, Value.ref 159, Value.int 0, Value.int 0, Value.int 0, Value.int 0, Value.int 0, Value.int 0, Value.int 0, Value.int 0]))).set 129 (Sum.inr (13, [Value.ref 130, Value.int 0]))).set 130 (Sum.inl (0, 4700, xup (fun _ => Value.int 0) (0 : Int32).toInt.toNat (Value.int (xq (xfo b0)))))).set 129 (Sum.inr (13, [Value.ref 130, Value.int 1]))).set 130 (Sum.inl (0, 4700, xup (xup (fun _ => Value.int 0) (0 : Int32).toInt.toNat (Value.int (xq (xfo b0)))) (1 : Int32).toInt.toNat (Value.int (xq (xqs (xfo b0))))))).set 129 (Sum.inr (13, [Value.ref 130, Value.int 2]))).set 130 (Sum.inl (0, 4700, xup (xup (xup (fun _ => Value.int 0) (0 : Int32).toInt.toNat (Value.int (xq (xfo b0)))) (1 : Int32).toInt.toNat (Value.int (xq (xqs (xfo b0))))) (2 : Int32).toInt.toNat (Value.int (xq (xqs (xqs (xfo b0)))))))).set 129 (Sum.inr (13, [Value.ref 130, Value.int 3]))).set 156 (Sum.inl (2, 17, xup (fun _ => Value.int 0) a0.toInt.toNat (Value.int 0)))).set 136 (Sum.inl (0, 4700, xcp (xup (xup (xup (fun _ => Value.int 0) (0 : Int32).toInt.toNat (Value.int (xq (xfo b0)))) (1 : Int32).toInt.toNat (Value.int (xq (xqs (xfo b0))))) (2 : Int32).toInt.toNat (Value.int (xq (xqs (xqs (xfo b0)))))) (fun _ => Value.int 0) (0 : Int32).toInt.toNat (0 : Int32).toInt.toNat (3 : Int32).toInt.toNat))).set 135 (Sum.inr (13, [Value.ref 136, Value.int 3]))).set 136 (Sum.inl (0, 4700, xup (xup (xup (xup (xup (xup (xup (xcp (xup (xup (xup (fun _ => Value.int 0) (0 : Int32).toInt.toNat (Value.int (xq (xfo b0)))) (1 : Int32).toInt.toNat (Value.int (xq (xqs (xfo b0))))) (2 : Int32).toInt.toNat (Value.int (xq (xqs (xqs (xfo b0)))))) (fun _ => Value.int 0) (0 : Int32).toInt.toNat (0 : Int32).toInt.toNat (3 : Int32).toInt.toNat) (3 : Int32).toInt.toNat (Value.int 0)) (3 : Int32).toInt.toNat (Value.int 0)) (2 : Int32).toInt.toNat (Value.int (xL (xq (xqs (xqs (xfo b0)))) a5))) (2 : Int32).toInt.toNat (Value.int ((xL (xq (xqs (xqs (xfo b0)))) a5) ||| (xH (xq (xqs (xfo b0))) a5)))) (1 : Int32).toInt.toNat (Value.int (xL (xq (xqs (xfo b0))) a5))) (1 : Int32).toInt.toNat (Value.int ((xL (xq (xqs (xfo b0))) a5) ||| (xH (xq (xfo b0)) a5)))) (0 : Int32).toInt.toNat (Value.int (xL (xq (xfo b0)) a5))))).set 135 (Sum.inr (13, [Value.ref 136, Value.int 3]))).set h0 (Sum.inr (13, [Value.ref h1, Value.int 0]))).set 138 (Sum.inl (0, 4700, xcp (xup (xup (xup (xup (xup (xup (xup (xcp (xup (xup (xup (fun _ => Value.int 0) (0 : Int32).toInt.toNat (Value.int (xq (xfo b0)))) (1 : Int32).toInt.toNat (Value.int (xq (xqs (xfo b0))))) (2 : Int32).toInt.toNat (Value.int (xq (xqs (xqs (xfo b0)))))) (fun _ => Value.int 0) (0 : Int32).toInt.toNat (0 : Int32).toInt.toNat (3 : Int32).toInt.toNat) (3 : Int32).toInt.toNat (Value.int 0)) (3 : Int32).toInt.toNat (Value.int 0)) (2 : Int32).toInt.toNat (Value.int (xL (xq (xqs (xqs (xfo b0)))) a5))) (2 : Int32).toInt.toNat (Value.int ((xL (xq (xqs (xqs (xfo b0)))) a5) ||| (xH (xq (xqs (xfo b0))) a5)))) (1 : Int32).toInt.toNat (Value.int (xL (xq (xqs (xfo b0))) a5))) (1 : Int32).toInt.toNat (Value.int ((xL (xq (xqs (xfo b0))) a5) ||| (xH (xq (xfo b0)) a5)))) (0 : Int32).toInt.toNat (Value.int (xL (xq (xfo b0)) a5))) (fun _ => Value.int 0) (0 : Int32).toInt.toNat (0 : Int32).toInt.toNat (3 : Int32).toInt.toNat))).set 137 (Sum.inr (13, [Value.ref 138, Value.int 3]))).set h1 (Sum.inl (0, 140, xcp (xcp (xup (xup (xup (xup (xup (xup (xup (xcp (xup (xup (xup (fun _ => Value.int 0) (0 : Int32).toInt.toNat (Value.int (xq (xfo b0)))) (1 : Int32).toInt.toNat (Value.int (xq (xqs (xfo b0))))) (2 : Int32).toInt.toNat (Value.int (xq (xqs (xqs (xfo b0)))))) (fun _ => Value.int 0) (0 : Int32).toInt.toNat (0 : Int32).toInt.toNat (3 : Int32).toInt.toNat) (3 : Int32).toInt.toNat (Value.int 0)) (3 : Int32).toInt.toNat (Value.int 0)) (2 : Int32).toInt.toNat (Value.int (xL (xq (xqs (xqs (xfo b0)))) a5))) (2 : Int32).toInt.toNat (Value.int ((xL (xq (xqs (xqs (xfo b0)))) a5) ||| (xH (xq (xqs (xfo b0))) a5)))) (1 : Int32).toInt.toNat (Value.int (xL (xq (xqs (xfo b0))) a5))) (1 : Int32).toInt.toNat (Value.int ((xL (xq (xqs (xfo b0))) a5) ||| (xH (xq (xfo b0)) a5)))) (0 : Int32).toInt.toNat (Value.int (xL (xq (xfo b0)) a5))) (fun _ => Value.int 0) (0 : Int32).toInt.toNat (0 : Int32).toInt.toNat (3 : Int32).toInt.toNat) (fun _ => Value.int 0) (0 : Int32).toInt.toNat (0 : Int32).toInt.toNat (3 : Int32).toInt.toNat))).set h0 (Sum.inr (13, [Value.ref h1, Value.int 3]))).set 154 (Sum.inl (0, 17, xup (fun _ => Value.int 0) a0.toInt.toNat (Value.int 3)))).set 155 (Sum.inl (0, 17, xup (fun _ => Value.int 0) a0.toInt.toNat (Value.int ((64 : Int32) + ((a3 + (a2 - (1075 : Int32))) - (64 : Int32))))))) := by
  refine xRun.of ?_
  refine i_247_0 (x := 128) rfl ?_
  refine i_247_1 ?_
  refine i_247_2 (fs2 := [Value.ref 129, Value.ref 131, Value.ref 133, Value.ref 135, Value.ref 137, Value.ref 139, Value.ref 141, Value.ref 143, Value.ref 145, Value.ref 147, Value.ref 149, Value.ref 151, Value.ref 153, Value.ref 154, Value.ref 155, Value.ref 156, Value.ref 157, Value.int (-16384), Value.int 16384, Value.int 0, Value.int 0, Value.int 0, Value.ref 158, Value.ref 159, Value.int 0, Value.int 0, Value.int 0, Value.int 0, Value.int 0, Value.int 0, Value.int 0, Value.int 0]) hw0 (Nat.le_of_ble_eq_true rfl) rfl (by decide) ?_
  refine i_247_5 (x := 128) rfl ?_
  refine i_247_6 (x := a0) rfl ?_
  refine i_247_7 (x := b0) rfl ?_
  refine i_247_8 (x := a1) rfl ?_
  refine i_247_10 (xgs hw0) (Nat.le_of_ble_eq_true rfl) (r_248_30 e1 e2 e3 e4 hg5 e6 e7 (xgs hw0) (xgn (by decide) hw8) e9 (xgn (by decide) hw10) e11 e12 hg13 e14 (xgn (by decide) hw15) e16 hg17 hg18 e19 (xgn (by decide) hw20) (xgn (by decide) hw21) (xgn (by decide) hw22) e23 hg24 e25 hg26 hg27 hg28 e29 hg30 e31 e32 e33 (xgn (by decide) hw34) hg35 e36 e37 e38 e39 e40 (xgn e41 hw42) e43 e44 e45 (xgn (by decide) hw46) e47 e48 e49 (xgn (by decide) hw50) e51 e52 e53 e54 e55 e56 e57 e58 e59 e60 e61 (xgn e62 hw63) e64 e65 e66 e67 e68 e69 (xgn (by decide) hw70) e71 e72 (xgn (by decide) hw73)) ?_
  exact i_247_13 ⟨rfl, rfl⟩
theorem o_16_35 {d : Nat} {xs : Nat → Int32} {B K P G : Int32} (h0 : ((xs 0) &&& (31 : Int32)).toInt = 16) (c0 : 0 ≤ (xs 1).toInt) (c1 : (xs 1).toInt < 16) (c2 : 0 ≤ (xs 4).toInt) (c3 : (xs 4).toInt ≤ 4) (c4 : 0 ≤ (lg_cmp (xvv xs) (0 : Int64)).toInt) (c5 : (xfd (xvv xs)).toInt ≠ 2047) (c6 : (xfd (xvv xs)).toInt ≠ 0) (c7 : K.toInt = 64 - B.toInt) (c8 : 61 ≤ B.toInt) (c9 : B.toInt ≤ 63) (c10 : (xhi (xfo (xvv xs))).toInt ≠ 0) (c11 : (xnlz (xhi (xfo (xvv xs)))).toInt = 64 - B.toInt) (c12 : (xbf 2 (xlo (xfo (xvv xs))) (xhi (xfo (xvv xs))) ((32 : Int32) - K)).toInt ≠ 0) (c13 : (lg_cmp (xfo (xvv xs)) (0 : Int64)).toInt ≠ 0) (c14 : (lg_cmp (xqs (xfo (xvv xs))) (0 : Int64)).toInt ≠ 0) (c15 : (lg_cmp (xqs (xqs (xfo (xvv xs)))) (0 : Int64)).toInt ≠ 0) (c16 : (lg_cmp (xqs (xqs (xqs (xfo (xvv xs))))) (0 : Int64)).toInt = 0) (c17 : (xbn (xq (xqs (xqs (xfo (xvv xs)))))).toInt = B.toInt - 60) (c18 : (xq (xqs (xqs (xfo (xvv xs))))).toInt ≠ 0) (c19 : 0 ≤ (xq (xqs (xqs (xfo (xvv xs))))).toInt) (c20 : K.toInt ≠ 0) (c21 : K / (30 : Int32) = 0) (c22 : K - K / (30 : Int32) * (30 : Int32) = P) (c23 : ((0 : Int32) ||| (xH (xq (xqs (xqs (xfo (xvv xs))))) P)).toInt = 0) (c24 : ((xL (xq (xqs (xqs (xfo (xvv xs))))) P) ||| (xH (xq (xqs (xfo (xvv xs)))) P)).toInt ≠ 0) (c25 : 0 ≤ ((xL (xq (xqs (xqs (xfo (xvv xs))))) P) ||| (xH (xq (xqs (xfo (xvv xs)))) P)).toInt) (c26 : (xbn ((xL (xq (xqs (xqs (xfo (xvv xs))))) P) ||| (xH (xq (xqs (xfo (xvv xs)))) P))).toInt = 4) (c27 : G.toInt = B.toInt - 61) : ∃ w1, xEv (d + 20) 287 23 [(4, Value.int 0), (3, Value.ref 194), (2, Value.ref 128), (1, Value.ref 7), (0, Value.ref 0)] [] (W0 6 xs) (fun o' w' => o' = .inl (some (Value.int 1)) ∧ w' = w1) ∧ w1.length ≤ 220 ∧ xsz w1 ≤ 200000 := by
  have f0 : 0 ≤ (xfd (xvv xs)).toInt := (xfd_b _).1
  have f1 : (xfd (xvv xs)).toInt ≤ 2047 := (xfd_b _).2
  have f2 : ((64 : Int32) - (xnlz (xhi (xfo (xvv xs))))).toInt = 64 - (xnlz (xhi (xfo (xvv xs)))).toInt := xsub_g rfl rfl (by omega) (by omega)
  have f3 : ((xfd (xvv xs)) - (1075 : Int32)).toInt = (xfd (xvv xs)).toInt - 1075 := xsub_g rfl rfl (by omega) (by omega)
  have f4 : (B + ((xfd (xvv xs)) - (1075 : Int32))).toInt = B.toInt + ((xfd (xvv xs)) - (1075 : Int32)).toInt := xadd_i (by omega) (by omega)
  have f5 : ((B + ((xfd (xvv xs)) - (1075 : Int32))) - (64 : Int32)).toInt = (B + ((xfd (xvv xs)) - (1075 : Int32))).toInt - 64 := xsub_g rfl rfl (by omega) (by omega)
  have f6 : (((B + ((xfd (xvv xs)) - (1075 : Int32))) - (64 : Int32)) - ((xfd (xvv xs)) - (1075 : Int32))).toInt = ((B + ((xfd (xvv xs)) - (1075 : Int32))) - (64 : Int32)).toInt - ((xfd (xvv xs)) - (1075 : Int32)).toInt := xsub_i (by omega) (by omega)
  have f7 : ((B + ((xfd (xvv xs)) - (1075 : Int32))) - ((B + ((xfd (xvv xs)) - (1075 : Int32))) - (64 : Int32))).toInt = (B + ((xfd (xvv xs)) - (1075 : Int32))).toInt - ((B + ((xfd (xvv xs)) - (1075 : Int32))) - (64 : Int32)).toInt := xsub_i (by omega) (by omega)
  have f8 : ((64 : Int32) - B).toInt = 64 - B.toInt := xsub_g rfl rfl (by omega) (by omega)
  have f9 : (B + K).toInt = B.toInt + K.toInt := xadd_i (by omega) (by omega)
  have f10 : 0 ≤ (xnlz (xbf 2 (xlo (xfo (xvv xs))) (xhi (xfo (xvv xs))) ((32 : Int32) - K))).toInt := (xnlz_b _).1
  have f11 : (xnlz (xbf 2 (xlo (xfo (xvv xs))) (xhi (xfo (xvv xs))) ((32 : Int32) - K))).toInt ≤ 32 := (xnlz_b _).2
  have f12 : ((64 : Int32) - (xnlz (xbf 2 (xlo (xfo (xvv xs))) (xhi (xfo (xvv xs))) ((32 : Int32) - K)))).toInt = 64 - (xnlz (xbf 2 (xlo (xfo (xvv xs))) (xhi (xfo (xvv xs))) ((32 : Int32) - K))).toInt := xsub_g rfl rfl (by omega) (by omega)
  have f13 : ((60 : Int32) + (xbn (xq (xqs (xqs (xfo (xvv xs))))))).toInt = 60 + (xbn (xq (xqs (xqs (xfo (xvv xs)))))).toInt := xadd_g rfl rfl (by omega) (by omega)
  have f14 : (-(((B + ((xfd (xvv xs)) - (1075 : Int32))) - (64 : Int32)) - ((xfd (xvv xs)) - (1075 : Int32)))).toInt = -(((B + ((xfd (xvv xs)) - (1075 : Int32))) - (64 : Int32)) - ((xfd (xvv xs)) - (1075 : Int32))).toInt := xneg_i (by omega)
  have f15 : ((60 : Int32) + (xbn ((xL (xq (xqs (xqs (xfo (xvv xs))))) P) ||| (xH (xq (xqs (xfo (xvv xs)))) P)))).toInt = 60 + (xbn ((xL (xq (xqs (xqs (xfo (xvv xs))))) P) ||| (xH (xq (xqs (xfo (xvv xs)))) P))).toInt := xadd_g rfl rfl (by omega) (by omega)
  have f16 : ((64 : Int32) + ((B + ((xfd (xvv xs)) - (1075 : Int32))) - (64 : Int32))).toInt = 64 + ((B + ((xfd (xvv xs)) - (1075 : Int32))) - (64 : Int32)).toInt := xadd_g rfl rfl (by omega) (by omega)
  have G : id ((((((((0 ≤ (xs 1).toInt) ∧ ((xs 1).toInt < 16)) ∧ ((0 ≤ (xs 4).toInt) ∧ ((xs 4).toInt ≤ 4))) ∧ (((0 ≤ (lg_cmp (xvv xs) (0 : Int64)).toInt) ∧ ((xfd (xvv xs)).toInt ≠ 2047)) ∧ (((xfd (xvv xs)).toInt ≠ 0) ∧ (((xhi (xfo (xvv xs))).toInt ≠ 0) ∧ (16 ≠ (30 + 3 * (xs 1).toInt.toNat)))))) ∧ ((((17 ≠ (30 + 3 * (xs 1).toInt.toNat)) ∧ (18 ≠ (30 + 3 * (xs 1).toInt.toNat))) ∧ (((((B + ((xfd (xvv xs)) - (1075 : Int32))) - (64 : Int32)) - ((xfd (xvv xs)) - (1075 : Int32))).toInt ≤ 0) ∧ (7 ≤ (30 + 3 * (xs 1).toInt.toNat)))) ∧ ((((30 + 3 * (xs 1).toInt.toNat) ≠ 16) ∧ ((30 + 3 * (xs 1).toInt.toNat) ≠ 17)) ∧ (((30 + 3 * (xs 1).toInt.toNat) ≠ 18) ∧ (((30 + 3 * (xs 1).toInt.toNat) ≠ (31 + 3 * (xs 1).toInt.toNat)) ∧ (16 ≠ (31 + 3 * (xs 1).toInt.toNat))))))) ∧ (((((17 ≠ (31 + 3 * (xs 1).toInt.toNat)) ∧ (18 ≠ (31 + 3 * (xs 1).toInt.toNat))) ∧ (((30 + 3 * (xs 1).toInt.toNat) ≠ (32 + 3 * (xs 1).toInt.toNat)) ∧ (16 ≠ (32 + 3 * (xs 1).toInt.toNat)))) ∧ (((17 ≠ (32 + 3 * (xs 1).toInt.toNat)) ∧ (18 ≠ (32 + 3 * (xs 1).toInt.toNat))) ∧ ((0 ≤ K.toInt) ∧ ((7 ≤ (32 + 3 * (xs 1).toInt.toNat)) ∧ ((32 + 3 * (xs 1).toInt.toNat) ≠ (31 + 3 * (xs 1).toInt.toNat)))))) ∧ (((((32 + 3 * (xs 1).toInt.toNat) ≠ 17) ∧ ((32 + 3 * (xs 1).toInt.toNat) ≠ 18)) ∧ ((7 ≤ (31 + 3 * (xs 1).toInt.toNat)) ∧ ((31 + 3 * (xs 1).toInt.toNat) ≠ (30 + 3 * (xs 1).toInt.toNat)))) ∧ ((((32 + 3 * (xs 1).toInt.toNat) ≠ (30 + 3 * (xs 1).toInt.toNat)) ∧ ((31 + 3 * (xs 1).toInt.toNat) ≠ (32 + 3 * (xs 1).toInt.toNat))) ∧ (((xbf 2 (xlo (xfo (xvv xs))) (xhi (xfo (xvv xs))) ((32 : Int32) - K)).toInt ≠ 0) ∧ ((((64 : Int32) - (xnlz (xbf 2 (xlo (xfo (xvv xs))) (xhi (xfo (xvv xs))) ((32 : Int32) - K)))).toInt ≤ 64) ∧ ((31 + 3 * (xs 1).toInt.toNat) ≠ 78))))))) ∧ (((((((32 + 3 * (xs 1).toInt.toNat) ≠ 78) ∧ ((30 + 3 * (xs 1).toInt.toNat) ≠ 78)) ∧ (((B + ((xfd (xvv xs)) - (1075 : Int32))).toInt ≤ 16384) ∧ ((-16384) ≤ (B + ((xfd (xvv xs)) - (1075 : Int32))).toInt))) ∧ ((((31 + 3 * (xs 1).toInt.toNat) ≠ 16) ∧ ((32 + 3 * (xs 1).toInt.toNat) ≠ 16)) ∧ (((31 + 3 * (xs 1).toInt.toNat) ≠ 194) ∧ (((32 + 3 * (xs 1).toInt.toNat) ≠ 194) ∧ ((30 + 3 * (xs 1).toInt.toNat) ≠ 194))))) ∧ (((((31 + 3 * (xs 1).toInt.toNat) ≠ 0) ∧ ((32 + 3 * (xs 1).toInt.toNat) ≠ 0)) ∧ (((30 + 3 * (xs 1).toInt.toNat) ≠ 0) ∧ ((31 + 3 * (xs 1).toInt.toNat) ≠ 128))) ∧ ((((32 + 3 * (xs 1).toInt.toNat) ≠ 128) ∧ ((30 + 3 * (xs 1).toInt.toNat) ≠ 128)) ∧ (((xs 1).toInt ≤ 15) ∧ (((31 + 3 * (xs 1).toInt.toNat) ≠ 129) ∧ ((32 + 3 * (xs 1).toInt.toNat) ≠ 129)))))) ∧ ((((((30 + 3 * (xs 1).toInt.toNat) ≠ 129) ∧ ((lg_cmp (xfo (xvv xs)) (0 : Int64)).toInt ≠ 0)) ∧ (((31 + 3 * (xs 1).toInt.toNat) ≠ 130) ∧ ((32 + 3 * (xs 1).toInt.toNat) ≠ 130))) ∧ ((((30 + 3 * (xs 1).toInt.toNat) ≠ 130) ∧ ((lg_cmp (xqs (xfo (xvv xs))) (0 : Int64)).toInt ≠ 0)) ∧ (((lg_cmp (xqs (xqs (xfo (xvv xs)))) (0 : Int64)).toInt ≠ 0) ∧ (((31 + 3 * (xs 1).toInt.toNat) ≠ 153) ∧ ((32 + 3 * (xs 1).toInt.toNat) ≠ 153))))) ∧ (((((30 + 3 * (xs 1).toInt.toNat) ≠ 153) ∧ ((xs 1).toInt < 17)) ∧ ((0 ≤ (xq (xqs (xqs (xfo (xvv xs))))).toInt) ∧ ((31 + 3 * (xs 1).toInt.toNat) ≠ 156))) ∧ ((((32 + 3 * (xs 1).toInt.toNat) ≠ 156) ∧ ((30 + 3 * (xs 1).toInt.toNat) ≠ 156)) ∧ (((31 + 3 * (xs 1).toInt.toNat) ≠ 135) ∧ (((32 + 3 * (xs 1).toInt.toNat) ≠ 135) ∧ ((30 + 3 * (xs 1).toInt.toNat) ≠ 135)))))))) ∧ ((((((((31 + 3 * (xs 1).toInt.toNat) ≠ 136) ∧ ((32 + 3 * (xs 1).toInt.toNat) ≠ 136)) ∧ (((30 + 3 * (xs 1).toInt.toNat) ≠ 136) ∧ (K.toInt ≠ 0))) ∧ (((((xL (xq (xqs (xqs (xfo (xvv xs))))) P) ||| (xH (xq (xqs (xfo (xvv xs)))) P)).toInt ≠ 0) ∧ (0 ≤ ((xL (xq (xqs (xqs (xfo (xvv xs))))) P) ||| (xH (xq (xqs (xfo (xvv xs)))) P)).toInt)) ∧ ((((64 : Int32) + ((B + ((xfd (xvv xs)) - (1075 : Int32))) - (64 : Int32))).toInt ≤ 16384) ∧ (((-16384) ≤ ((64 : Int32) + ((B + ((xfd (xvv xs)) - (1075 : Int32))) - (64 : Int32))).toInt) ∧ ((31 + 3 * (xs 1).toInt.toNat) ≠ 157))))) ∧ (((((32 + 3 * (xs 1).toInt.toNat) ≠ 157) ∧ ((30 + 3 * (xs 1).toInt.toNat) ≠ 157)) ∧ ((135 ≠ (160 + 2 * (xs 1).toInt.toNat)) ∧ (136 ≠ (160 + 2 * (xs 1).toInt.toNat)))) ∧ (((156 ≠ (160 + 2 * (xs 1).toInt.toNat)) ∧ (129 ≠ (160 + 2 * (xs 1).toInt.toNat))) ∧ ((130 ≠ (160 + 2 * (xs 1).toInt.toNat)) ∧ ((128 ≠ (160 + 2 * (xs 1).toInt.toNat)) ∧ (194 ≠ (160 + 2 * (xs 1).toInt.toNat))))))) ∧ ((((((31 + 3 * (xs 1).toInt.toNat) ≠ (160 + 2 * (xs 1).toInt.toNat)) ∧ ((32 + 3 * (xs 1).toInt.toNat) ≠ (160 + 2 * (xs 1).toInt.toNat))) ∧ (((30 + 3 * (xs 1).toInt.toNat) ≠ (160 + 2 * (xs 1).toInt.toNat)) ∧ (16 ≠ (160 + 2 * (xs 1).toInt.toNat)))) ∧ (((17 ≠ (160 + 2 * (xs 1).toInt.toNat)) ∧ (18 ≠ (160 + 2 * (xs 1).toInt.toNat))) ∧ ((7 ≤ (160 + 2 * (xs 1).toInt.toNat)) ∧ (((160 + 2 * (xs 1).toInt.toNat) ≠ 128) ∧ ((160 + 2 * (xs 1).toInt.toNat) ≠ 137))))) ∧ (((((31 + 3 * (xs 1).toInt.toNat) ≠ 137) ∧ ((32 + 3 * (xs 1).toInt.toNat) ≠ 137)) ∧ (((30 + 3 * (xs 1).toInt.toNat) ≠ 137) ∧ ((160 + 2 * (xs 1).toInt.toNat) ≠ 135))) ∧ ((((160 + 2 * (xs 1).toInt.toNat) ≠ 136) ∧ ((160 + 2 * (xs 1).toInt.toNat) ≠ 138)) ∧ (((31 + 3 * (xs 1).toInt.toNat) ≠ 138) ∧ (((32 + 3 * (xs 1).toInt.toNat) ≠ 138) ∧ ((30 + 3 * (xs 1).toInt.toNat) ≠ 138))))))) ∧ (((((((160 + 2 * (xs 1).toInt.toNat) ≠ 157) ∧ (137 ≠ (160 + 2 * (xs 1).toInt.toNat))) ∧ ((138 ≠ (160 + 2 * (xs 1).toInt.toNat)) ∧ (137 ≠ (161 + 2 * (xs 1).toInt.toNat)))) ∧ (((138 ≠ (161 + 2 * (xs 1).toInt.toNat)) ∧ ((160 + 2 * (xs 1).toInt.toNat) ≠ (161 + 2 * (xs 1).toInt.toNat))) ∧ ((135 ≠ (161 + 2 * (xs 1).toInt.toNat)) ∧ ((136 ≠ (161 + 2 * (xs 1).toInt.toNat)) ∧ (156 ≠ (161 + 2 * (xs 1).toInt.toNat)))))) ∧ ((((129 ≠ (161 + 2 * (xs 1).toInt.toNat)) ∧ (130 ≠ (161 + 2 * (xs 1).toInt.toNat))) ∧ ((128 ≠ (161 + 2 * (xs 1).toInt.toNat)) ∧ (194 ≠ (161 + 2 * (xs 1).toInt.toNat)))) ∧ ((((31 + 3 * (xs 1).toInt.toNat) ≠ (161 + 2 * (xs 1).toInt.toNat)) ∧ ((32 + 3 * (xs 1).toInt.toNat) ≠ (161 + 2 * (xs 1).toInt.toNat))) ∧ (((30 + 3 * (xs 1).toInt.toNat) ≠ (161 + 2 * (xs 1).toInt.toNat)) ∧ ((16 ≠ (161 + 2 * (xs 1).toInt.toNat)) ∧ (17 ≠ (161 + 2 * (xs 1).toInt.toNat))))))) ∧ (((((18 ≠ (161 + 2 * (xs 1).toInt.toNat)) ∧ (7 ≤ (161 + 2 * (xs 1).toInt.toNat))) ∧ (((161 + 2 * (xs 1).toInt.toNat) ≠ 137) ∧ ((161 + 2 * (xs 1).toInt.toNat) ≠ (160 + 2 * (xs 1).toInt.toNat)))) ∧ ((((161 + 2 * (xs 1).toInt.toNat) ≠ 128) ∧ ((160 + 2 * (xs 1).toInt.toNat) ≠ 154)) ∧ (((161 + 2 * (xs 1).toInt.toNat) ≠ 154) ∧ (((31 + 3 * (xs 1).toInt.toNat) ≠ 154) ∧ ((32 + 3 * (xs 1).toInt.toNat) ≠ 154))))) ∧ (((((30 + 3 * (xs 1).toInt.toNat) ≠ 154) ∧ ((160 + 2 * (xs 1).toInt.toNat) ≠ 155)) ∧ (((161 + 2 * (xs 1).toInt.toNat) ≠ 155) ∧ (((31 + 3 * (xs 1).toInt.toNat) ≠ 155) ∧ ((32 + 3 * (xs 1).toInt.toNat) ≠ 155)))) ∧ ((((30 + 3 * (xs 1).toInt.toNat) ≠ 155) ∧ ((160 + 2 * (xs 1).toInt.toNat) ≠ 194)) ∧ (((161 + 2 * (xs 1).toInt.toNat) ≠ 194) ∧ (((160 + 2 * (xs 1).toInt.toNat) ≠ 0) ∧ ((161 + 2 * (xs 1).toInt.toNat) ≠ 0))))))))) := ⟨⟨⟨⟨⟨⟨⟨by omega, by omega⟩, ⟨by omega, by omega⟩⟩, ⟨⟨by omega, by omega⟩, ⟨by omega, ⟨by omega, by omega⟩⟩⟩⟩, ⟨⟨⟨by omega, by omega⟩, ⟨by omega, by omega⟩⟩, ⟨⟨by omega, by omega⟩, ⟨by omega, ⟨by omega, by omega⟩⟩⟩⟩⟩, ⟨⟨⟨⟨by omega, by omega⟩, ⟨by omega, by omega⟩⟩, ⟨⟨by omega, by omega⟩, ⟨by omega, ⟨by omega, by omega⟩⟩⟩⟩, ⟨⟨⟨by omega, by omega⟩, ⟨by omega, by omega⟩⟩, ⟨⟨by omega, by omega⟩, ⟨by omega, ⟨by omega, by omega⟩⟩⟩⟩⟩⟩, ⟨⟨⟨⟨⟨by omega, by omega⟩, ⟨by omega, by omega⟩⟩, ⟨⟨by omega, by omega⟩, ⟨by omega, ⟨by omega, by omega⟩⟩⟩⟩, ⟨⟨⟨by omega, by omega⟩, ⟨by omega, by omega⟩⟩, ⟨⟨by omega, by omega⟩, ⟨by omega, ⟨by omega, by omega⟩⟩⟩⟩⟩, ⟨⟨⟨⟨by omega, by omega⟩, ⟨by omega, by omega⟩⟩, ⟨⟨by omega, by omega⟩, ⟨by omega, ⟨by omega, by omega⟩⟩⟩⟩, ⟨⟨⟨by omega, by omega⟩, ⟨by omega, by omega⟩⟩, ⟨⟨by omega, by omega⟩, ⟨by omega, ⟨by omega, by omega⟩⟩⟩⟩⟩⟩⟩, ⟨⟨⟨⟨⟨⟨by omega, by omega⟩, ⟨by omega, by omega⟩⟩, ⟨⟨by omega, by omega⟩, ⟨by omega, ⟨by omega, by omega⟩⟩⟩⟩, ⟨⟨⟨by omega, by omega⟩, ⟨by omega, by omega⟩⟩, ⟨⟨by omega, by omega⟩, ⟨by omega, ⟨by omega, by omega⟩⟩⟩⟩⟩, ⟨⟨⟨⟨by omega, by omega⟩, ⟨by omega, by omega⟩⟩, ⟨⟨by omega, by omega⟩, ⟨by omega, ⟨by omega, by omega⟩⟩⟩⟩, ⟨⟨⟨by omega, by omega⟩, ⟨by omega, by omega⟩⟩, ⟨⟨by omega, by omega⟩, ⟨by omega, ⟨by omega, by omega⟩⟩⟩⟩⟩⟩, ⟨⟨⟨⟨⟨by omega, by omega⟩, ⟨by omega, by omega⟩⟩, ⟨⟨by omega, by omega⟩, ⟨by omega, ⟨by omega, by omega⟩⟩⟩⟩, ⟨⟨⟨by omega, by omega⟩, ⟨by omega, by omega⟩⟩, ⟨⟨by omega, by omega⟩, ⟨by omega, ⟨by omega, by omega⟩⟩⟩⟩⟩, ⟨⟨⟨⟨by omega, by omega⟩, ⟨by omega, by omega⟩⟩, ⟨⟨by omega, by omega⟩, ⟨by omega, ⟨by omega, by omega⟩⟩⟩⟩, ⟨⟨⟨by omega, by omega⟩, ⟨by omega, ⟨by omega, by omega⟩⟩⟩, ⟨⟨by omega, by omega⟩, ⟨by omega, ⟨by omega, by omega⟩⟩⟩⟩⟩⟩⟩⟩
  refine ⟨(((((((((((((((((((((((((((((W0 6 xs).set 16 (Sum.inr (4, [Value.int 0, Value.ref 17, Value.int 0, Value.int 0]))).set 18 (Sum.inl (0, 8, xup (xup (fun _ => Value.int 0) (0 : Int32).toInt.toNat (Value.int (xlo (xfo (xvv xs))))) (1 : Int32).toInt.toNat (Value.int (xhi (xfo (xvv xs))))))).set 17 (Sum.inr (3, [Value.ref 18, Value.int 2]))).set 16 (Sum.inr (4, [Value.int 0, Value.ref 17, Value.int ((xfd (xvv xs)) - (1075 : Int32)), Value.int 0]))).set (30 + 3 * (xs 1).toInt.toNat) (Sum.inr (2, [Value.int 64, Value.int 3, Value.int 0, Value.int (B + ((xfd (xvv xs)) - (1075 : Int32))), Value.ref (31 + 3 * (xs 1).toInt.toNat)]))).set (32 + 3 * (xs 1).toInt.toNat) (Sum.inl (0, 8, xup (xup (fun _ => Value.int 0) (1 : Int32).toInt.toNat (Value.int (xbf 2 (xlo (xfo (xvv xs))) (xhi (xfo (xvv xs))) ((32 : Int32) - K)))) (0 : Int32).toInt.toNat (Value.int (xbf 2 (xlo (xfo (xvv xs))) (xhi (xfo (xvv xs))) ((0 : Int32) - K)))))).set (31 + 3 * (xs 1).toInt.toNat) (Sum.inr (3, [Value.ref (32 + 3 * (xs 1).toInt.toNat), Value.int 2]))).set 194 (Sum.inl (3, 1, xup (fun _ => Value.long 0) (0 : Int32).toInt.toNat (Value.long 0)))).set 128 (Sum.inr (12, [Value.ref 129, Value.ref 131, Value.ref 133, Value.ref 135, Value.ref 137, Value.ref 139, Value.ref 141, Value.ref 143, Value.ref 145, Value.ref 147, Value.ref 149, Value.ref 151, Value.ref 153, Value.ref 154, Value.ref 155, Value.ref 156, Value.ref 157, Value.int (-16384), Value.int 16384, Value.int 0, Value.int 0, Value.int 0, Value.ref 158, Value.ref 159, Value.int 0, Value.int 0, Value.int 0, Value.int 0, Value.int 0, Value.int 0, Value.int 0, Value.int 0]))).set 129 (Sum.inr (13, [Value.ref 130, Value.int 0]))).set 130 (Sum.inl (0, 4700, xup (fun _ => Value.int 0) (0 : Int32).toInt.toNat (Value.int (xq (xfo (xvv xs))))))).set 129 (Sum.inr (13, [Value.ref 130, Value.int 1]))).set 130 (Sum.inl (0, 4700, xup (xup (fun _ => Value.int 0) (0 : Int32).toInt.toNat (Value.int (xq (xfo (xvv xs))))) (1 : Int32).toInt.toNat (Value.int (xq (xqs (xfo (xvv xs)))))))).set 129 (Sum.inr (13, [Value.ref 130, Value.int 2]))).set 130 (Sum.inl (0, 4700, xup (xup (xup (fun _ => Value.int 0) (0 : Int32).toInt.toNat (Value.int (xq (xfo (xvv xs))))) (1 : Int32).toInt.toNat (Value.int (xq (xqs (xfo (xvv xs)))))) (2 : Int32).toInt.toNat (Value.int (xq (xqs (xqs (xfo (xvv xs))))))))).set 129 (Sum.inr (13, [Value.ref 130, Value.int 3]))).set 156 (Sum.inl (2, 17, xup (fun _ => Value.int 0) (xs 1).toInt.toNat (Value.int 0)))).set 136 (Sum.inl (0, 4700, xcp (xup (xup (xup (fun _ => Value.int 0) (0 : Int32).toInt.toNat (Value.int (xq (xfo (xvv xs))))) (1 : Int32).toInt.toNat (Value.int (xq (xqs (xfo (xvv xs)))))) (2 : Int32).toInt.toNat (Value.int (xq (xqs (xqs (xfo (xvv xs))))))) (fun _ => Value.int 0) (0 : Int32).toInt.toNat (0 : Int32).toInt.toNat (3 : Int32).toInt.toNat))).set 135 (Sum.inr (13, [Value.ref 136, Value.int 3]))).set 136 (Sum.inl (0, 4700, xup (xup (xup (xup (xup (xup (xup (xcp (xup (xup (xup (fun _ => Value.int 0) (0 : Int32).toInt.toNat (Value.int (xq (xfo (xvv xs))))) (1 : Int32).toInt.toNat (Value.int (xq (xqs (xfo (xvv xs)))))) (2 : Int32).toInt.toNat (Value.int (xq (xqs (xqs (xfo (xvv xs))))))) (fun _ => Value.int 0) (0 : Int32).toInt.toNat (0 : Int32).toInt.toNat (3 : Int32).toInt.toNat) (3 : Int32).toInt.toNat (Value.int 0)) (3 : Int32).toInt.toNat (Value.int 0)) (2 : Int32).toInt.toNat (Value.int (xL (xq (xqs (xqs (xfo (xvv xs))))) P))) (2 : Int32).toInt.toNat (Value.int ((xL (xq (xqs (xqs (xfo (xvv xs))))) P) ||| (xH (xq (xqs (xfo (xvv xs)))) P)))) (1 : Int32).toInt.toNat (Value.int (xL (xq (xqs (xfo (xvv xs)))) P))) (1 : Int32).toInt.toNat (Value.int ((xL (xq (xqs (xfo (xvv xs)))) P) ||| (xH (xq (xfo (xvv xs))) P)))) (0 : Int32).toInt.toNat (Value.int (xL (xq (xfo (xvv xs))) P))))).set 135 (Sum.inr (13, [Value.ref 136, Value.int 3]))).set (160 + 2 * (xs 1).toInt.toNat) (Sum.inr (13, [Value.ref (161 + 2 * (xs 1).toInt.toNat), Value.int 0]))).set 138 (Sum.inl (0, 4700, xcp (xup (xup (xup (xup (xup (xup (xup (xcp (xup (xup (xup (fun _ => Value.int 0) (0 : Int32).toInt.toNat (Value.int (xq (xfo (xvv xs))))) (1 : Int32).toInt.toNat (Value.int (xq (xqs (xfo (xvv xs)))))) (2 : Int32).toInt.toNat (Value.int (xq (xqs (xqs (xfo (xvv xs))))))) (fun _ => Value.int 0) (0 : Int32).toInt.toNat (0 : Int32).toInt.toNat (3 : Int32).toInt.toNat) (3 : Int32).toInt.toNat (Value.int 0)) (3 : Int32).toInt.toNat (Value.int 0)) (2 : Int32).toInt.toNat (Value.int (xL (xq (xqs (xqs (xfo (xvv xs))))) P))) (2 : Int32).toInt.toNat (Value.int ((xL (xq (xqs (xqs (xfo (xvv xs))))) P) ||| (xH (xq (xqs (xfo (xvv xs)))) P)))) (1 : Int32).toInt.toNat (Value.int (xL (xq (xqs (xfo (xvv xs)))) P))) (1 : Int32).toInt.toNat (Value.int ((xL (xq (xqs (xfo (xvv xs)))) P) ||| (xH (xq (xfo (xvv xs))) P)))) (0 : Int32).toInt.toNat (Value.int (xL (xq (xfo (xvv xs))) P))) (fun _ => Value.int 0) (0 : Int32).toInt.toNat (0 : Int32).toInt.toNat (3 : Int32).toInt.toNat))).set 137 (Sum.inr (13, [Value.ref 138, Value.int 3]))).set (161 + 2 * (xs 1).toInt.toNat) (Sum.inl (0, 140, xcp (xcp (xup (xup (xup (xup (xup (xup (xup (xcp (xup (xup (xup (fun _ => Value.int 0) (0 : Int32).toInt.toNat (Value.int (xq (xfo (xvv xs))))) (1 : Int32).toInt.toNat (Value.int (xq (xqs (xfo (xvv xs)))))) (2 : Int32).toInt.toNat (Value.int (xq (xqs (xqs (xfo (xvv xs))))))) (fun _ => Value.int 0) (0 : Int32).toInt.toNat (0 : Int32).toInt.toNat (3 : Int32).toInt.toNat) (3 : Int32).toInt.toNat (Value.int 0)) (3 : Int32).toInt.toNat (Value.int 0)) (2 : Int32).toInt.toNat (Value.int (xL (xq (xqs (xqs (xfo (xvv xs))))) P))) (2 : Int32).toInt.toNat (Value.int ((xL (xq (xqs (xqs (xfo (xvv xs))))) P) ||| (xH (xq (xqs (xfo (xvv xs)))) P)))) (1 : Int32).toInt.toNat (Value.int (xL (xq (xqs (xfo (xvv xs)))) P))) (1 : Int32).toInt.toNat (Value.int ((xL (xq (xqs (xfo (xvv xs)))) P) ||| (xH (xq (xfo (xvv xs))) P)))) (0 : Int32).toInt.toNat (Value.int (xL (xq (xfo (xvv xs))) P))) (fun _ => Value.int 0) (0 : Int32).toInt.toNat (0 : Int32).toInt.toNat (3 : Int32).toInt.toNat) (fun _ => Value.int 0) (0 : Int32).toInt.toNat (0 : Int32).toInt.toNat (3 : Int32).toInt.toNat))).set (160 + 2 * (xs 1).toInt.toNat) (Sum.inr (13, [Value.ref (161 + 2 * (xs 1).toInt.toNat), Value.int 3]))).set 154 (Sum.inl (0, 17, xup (fun _ => Value.int 0) (xs 1).toInt.toNat (Value.int 3)))).set 155 (Sum.inl (0, 17, xup (fun _ => Value.int 0) (xs 1).toInt.toNat (Value.int ((64 : Int32) + ((B + ((xfd (xvv xs)) - (1075 : Int32))) - (64 : Int32))))))), ?_, (show xLs _ 220 200000 from ?_)⟩
  · refine i_287_23 (x := 0) rfl ?_
    refine i_287_25 (x := 0) rfl ?_
    refine i_287_26 (c := 6) W0_0 (by decide) ?_
    refine i_287_27 ?_
    refine i_287_29 (c := 0) (by decide) ?_
    refine i_287_30 (fun h => absurd h (by decide)) (fun _ => ?_)
    refine i_287_33 (x := 0) rfl ?_
    refine i_287_34 (x := 0) rfl ?_
    refine i_287_36 (v := Value.int (xs 0)) W0_0 (by decide) (by decide) rfl ?_
    refine i_287_37 ?_
    refine i_287_39 (c := 16) (show ((xs 0) &&& (31 : Int32)) = 16 from (xge_c (n := 16) (by omega) rfl)) ?_
    refine i_287_40_16 rfl ?_
    refine i_287_1540 (x := 7) rfl ?_
    refine i_287_1541 (x := 0) rfl ?_
    refine i_287_1542 (x := 0) rfl ?_
    refine i_287_1544 ?_
    refine i_287_1545 (c := 1) (by decide) ?_
    refine i_287_1546 (v := Value.int (xs 1)) W0_0 (by decide) (by decide) rfl ?_
    refine i_287_1547 (x := 0) rfl ?_
    refine i_287_1548 (x := 0) rfl ?_
    refine i_287_1550 ?_
    refine i_287_1551 (c := 2) (by decide) ?_
    refine i_287_1552 (v := Value.int (xs 2)) W0_0 (by decide) (by decide) rfl ?_
    refine i_287_1553 (c := (xs 2).toInt64) rfl ?_
    refine i_287_1554 ?_
    refine i_287_1556 (c := (xsh (xs 2) (32 : Int32))) rfl ?_
    refine i_287_1557 (x := 0) rfl ?_
    refine i_287_1558 (x := 0) rfl ?_
    refine i_287_1560 ?_
    refine i_287_1561 (c := 3) (by decide) ?_
    refine i_287_1562 (v := Value.int (xs 3)) W0_0 (by decide) (by decide) rfl ?_
    refine i_287_1563 (c := (xs 3).toInt64) rfl ?_
    refine i_287_1564 ?_
    refine i_287_1567 (c := (((xs 3).toInt64) &&& (4294967295 : Int64))) rfl ?_
    refine i_287_1568 (c := (xvv xs)) rfl ?_
    refine i_287_1569 (x := 0) rfl ?_
    refine i_287_1570 (x := 0) rfl ?_
    refine i_287_1572 ?_
    refine i_287_1573 (c := 4) (by decide) ?_
    refine i_287_1574 (v := Value.int (xs 4)) W0_0 (by decide) (by decide) rfl ?_
    refine i_287_1575 (x := 194) rfl ?_
    refine i_287_1576 (Nat.le_of_ble_eq_true rfl) (r_127_19 W0_7 (G.1.1.1.1.1.1.1) (G.1.1.1.1.1.1.2) (G.1.1.1.1.1.2.1) (G.1.1.1.1.1.2.2) W0_8 (greg_at (by omega)) (G.1.1.1.1.2.1.1) (G.1.1.1.1.2.1.2) (G.1.1.1.1.2.2.1) W0_16 W0_17 W0_18 (G.1.1.1.1.2.2.2.1) W0_78 (show ((64 : Int32) - (xnlz (xhi (xfo (xvv xs))))) = B from (xge_i (by omega))) (G.1.1.1.1.2.2.2.2) (G.1.1.1.2.1.1.1) (G.1.1.1.2.1.1.2) (W0_reg (by omega)) (G.1.1.1.2.1.2.1) (show ((B + ((xfd (xvv xs)) - (1075 : Int32))) - ((B + ((xfd (xvv xs)) - (1075 : Int32))) - (64 : Int32))) = 64 from (xge_c (n := 64) (by omega) rfl)) (G.1.1.1.2.1.2.2) (G.1.1.1.2.2.1.1) (G.1.1.1.2.2.1.2) (G.1.1.1.2.2.2.1) (show ((64 : Int32) - B) = K from (xge_i (by omega))) (G.1.1.1.2.2.2.2.1) (G.1.1.1.2.2.2.2.2) (G.1.1.2.1.1.1.1) (G.1.1.2.1.1.1.2) (W0_man (by omega)) (show (B + K) = 64 from (xge_c (n := 64) (by omega) rfl)) (G.1.1.2.1.1.2.1) (G.1.1.2.1.1.2.2) (G.1.1.2.1.2.1.1) (G.1.1.2.1.2.1.2) (W0_mw (by omega)) (G.1.1.2.1.2.2.1) (G.1.1.2.1.2.2.2.1) (G.1.1.2.1.2.2.2.2) (G.1.1.2.2.1.1.1) (G.1.1.2.2.1.1.2) (G.1.1.2.2.1.2.1) (G.1.1.2.2.1.2.2) (G.1.1.2.2.2.1.1) (G.1.1.2.2.2.1.2) (G.1.1.2.2.2.2.1) (G.1.1.2.2.2.2.2.1) (G.1.1.2.2.2.2.2.2) (G.1.2.1.1.1.1.1) (G.1.2.1.1.1.1.2) (G.1.2.1.1.1.2.1) (G.1.2.1.1.1.2.2) (G.1.2.1.1.2.1.1) (G.1.2.1.1.2.1.2) (G.1.2.1.1.2.2.1) (G.1.2.1.1.2.2.2.1) (G.1.2.1.1.2.2.2.2) W0_194) ?_
    refine i_287_1579 (lv2 := [(5, Value.int 0), (4, Value.int 0), (3, Value.ref 194), (2, Value.ref 128), (1, Value.ref 7), (0, Value.ref 0)]) rfl ?_
    refine i_287_1581 (x := 128) rfl ?_
    refine i_287_1582 (x := 0) rfl ?_
    refine i_287_1583 (x := 0) rfl ?_
    refine i_287_1585 ?_
    refine i_287_1586 (c := 1) (by decide) ?_
    refine i_287_1587 (v := Value.int (xs 1)) (xgn (by decide) (xgn (G.1.2.1.2.1.1.1) (xgn (G.1.2.1.2.1.1.2) (xgn (G.1.2.1.2.1.2.1) (xgn (by decide) (xgn (by decide) (xgn (by decide) (xgn (by decide) W0_0)))))))) (by decide) (by decide) rfl ?_
    refine i_287_1588 (x := 0) rfl ?_
    refine i_287_1589 (x := 0) rfl ?_
    refine i_287_1591 ?_
    refine i_287_1592 (c := 2) (by decide) ?_
    refine i_287_1593 (v := Value.int (xs 2)) (xgn (by decide) (xgn (G.1.2.1.2.1.1.1) (xgn (G.1.2.1.2.1.1.2) (xgn (G.1.2.1.2.1.2.1) (xgn (by decide) (xgn (by decide) (xgn (by decide) (xgn (by decide) W0_0)))))))) (by decide) (by decide) rfl ?_
    refine i_287_1594 (c := (xs 2).toInt64) rfl ?_
    refine i_287_1595 ?_
    refine i_287_1597 (c := (xsh (xs 2) (32 : Int32))) rfl ?_
    refine i_287_1598 (x := 0) rfl ?_
    refine i_287_1599 (x := 0) rfl ?_
    refine i_287_1601 ?_
    refine i_287_1602 (c := 3) (by decide) ?_
    refine i_287_1603 (v := Value.int (xs 3)) (xgn (by decide) (xgn (G.1.2.1.2.1.1.1) (xgn (G.1.2.1.2.1.1.2) (xgn (G.1.2.1.2.1.2.1) (xgn (by decide) (xgn (by decide) (xgn (by decide) (xgn (by decide) W0_0)))))))) (by decide) (by decide) rfl ?_
    refine i_287_1604 (c := (xs 3).toInt64) rfl ?_
    refine i_287_1605 ?_
    refine i_287_1608 (c := (((xs 3).toInt64) &&& (4294967295 : Int64))) rfl ?_
    refine i_287_1609 (c := (xvv xs)) rfl ?_
    refine i_287_1610 (x := 0) rfl ?_
    refine i_287_1611 (x := 0) rfl ?_
    refine i_287_1613 ?_
    refine i_287_1614 (c := 4) (by decide) ?_
    refine i_287_1615 (v := Value.int (xs 4)) (xgn (by decide) (xgn (G.1.2.1.2.1.1.1) (xgn (G.1.2.1.2.1.1.2) (xgn (G.1.2.1.2.1.2.1) (xgn (by decide) (xgn (by decide) (xgn (by decide) (xgn (by decide) W0_0)))))))) (by decide) (by decide) rfl ?_
    refine i_287_1616 (xgn (by decide) (xgn (G.1.2.1.2.1.2.2) (xgn (G.1.2.1.2.2.1.1) (xgn (G.1.2.1.2.2.1.2) (xgn (by decide) (xgn (by decide) (xgn (by decide) (xgn (by decide) W0_128)))))))) (Nat.le_of_ble_eq_true rfl) (r_247_30 (xgn (by decide) (xgn (G.1.2.1.2.1.2.2) (xgn (G.1.2.1.2.2.1.1) (xgn (G.1.2.1.2.2.1.2) (xgn (by decide) (xgn (by decide) (xgn (by decide) (xgn (by decide) W0_128)))))))) (G.1.1.1.1.1.1.1) (G.1.2.1.2.2.2.1) (G.1.1.1.1.1.2.1) (G.1.1.1.1.1.2.2) (show (xfe (xvv xs)) = (xfd (xvv xs)) from (xfe_eq _)) (G.1.1.1.1.2.1.2) (G.1.1.1.1.2.2.1) (xgn (by decide) (xgn (G.1.2.1.2.2.2.2.1) (xgn (G.1.2.1.2.2.2.2.2) (xgn (G.1.2.2.1.1.1.1) (xgn (by decide) (xgn (by decide) (xgn (by decide) (xgn (by decide) W0_129)))))))) (G.1.2.2.1.1.1.2) (xgn (by decide) (xgn (G.1.2.2.1.1.2.1) (xgn (G.1.2.2.1.1.2.2) (xgn (G.1.2.2.1.2.1.1) (xgn (by decide) (xgn (by decide) (xgn (by decide) (xgn (by decide) W0_130)))))))) (G.1.2.2.1.2.1.2) (G.1.2.2.1.2.2.1) (show (lg_cmp (xqs (xqs (xqs (xfo (xvv xs))))) (0 : Int64)) = 0 from (xge_c (n := 0) (by omega) rfl)) (G.1.1.1.1.2.1.1) (xgn (by decide) (xgn (G.1.2.2.1.2.2.2.1) (xgn (G.1.2.2.1.2.2.2.2) (xgn (G.1.2.2.2.1.1.1) (xgn (by decide) (xgn (by decide) (xgn (by decide) (xgn (by decide) W0_153)))))))) (G.1.2.2.2.1.1.2) (gprec_at (by omega)) (show ((60 : Int32) + (xbn (xq (xqs (xqs (xfo (xvv xs))))))) = B from (xge_i (by omega))) (G.1.2.2.2.1.2.1) (xgn (by decide) (xgn (G.1.2.2.2.1.2.2) (xgn (G.1.2.2.2.2.1.1) (xgn (G.1.2.2.2.2.1.2) (xgn (by decide) (xgn (by decide) (xgn (by decide) (xgn (by decide) W0_156)))))))) (xgn (by decide) (xgn (G.1.2.2.2.2.2.1) (xgn (G.1.2.2.2.2.2.2.1) (xgn (G.1.2.2.2.2.2.2.2) (xgn (by decide) (xgn (by decide) (xgn (by decide) (xgn (by decide) W0_135)))))))) (xgn (by decide) (xgn (G.2.1.1.1.1.1.1) (xgn (G.2.1.1.1.1.1.2) (xgn (G.2.1.1.1.1.2.1) (xgn (by decide) (xgn (by decide) (xgn (by decide) (xgn (by decide) W0_136)))))))) (G.1.1.1.2.1.2.1) (show (-(((B + ((xfd (xvv xs)) - (1075 : Int32))) - (64 : Int32)) - ((xfd (xvv xs)) - (1075 : Int32)))) = K from (xge_i (by omega))) (G.2.1.1.1.1.2.2) (show (K / (30 : Int32)) = 0 from c21) (show (K - K / (30 : Int32) * (30 : Int32)) = P from c22) (show ((0 : Int32) ||| (xH (xq (xqs (xqs (xfo (xvv xs))))) P)) = 0 from (xge_c (n := 0) (by omega) rfl)) (G.2.1.1.1.2.1.1) (show ((60 : Int32) + (xbn ((xL (xq (xqs (xqs (xfo (xvv xs))))) P) ||| (xH (xq (xqs (xfo (xvv xs)))) P)))) = 64 from (xge_c (n := 64) (by omega) rfl)) (G.2.1.1.1.2.1.2) (G.2.1.1.1.2.2.1) (G.2.1.1.1.2.2.2.1) (xgn (by decide) (xgn (G.2.1.1.1.2.2.2.2) (xgn (G.2.1.1.2.1.1.1) (xgn (G.2.1.1.2.1.1.2) (xgn (by decide) (xgn (by decide) (xgn (by decide) (xgn (by decide) W0_157)))))))) (gpart_at (by omega)) (G.2.1.1.2.1.2.1) (G.2.1.1.2.1.2.2) (G.2.1.1.2.2.1.1) (G.2.1.1.2.2.1.2) (G.2.1.1.2.2.2.1) (G.2.1.1.2.2.2.2.1) (xgn (G.2.1.1.2.2.2.2.2) (xgn (G.2.1.2.1.1.1.1) (xgn (G.2.1.2.1.1.1.2) (xgn (G.2.1.2.1.1.2.1) (xgn (G.2.1.2.1.1.2.2) (xgn (G.2.1.2.1.2.1.1) (xgn (G.2.1.2.1.2.1.2) (xgn (G.2.1.2.1.1.2.2) (W0_part (by omega)))))))))) (G.2.1.2.1.2.2.1) (G.2.1.2.1.2.2.2.1) (G.2.1.2.1.2.2.2.2) (xgn (by decide) (xgn (G.2.1.2.2.1.1.1) (xgn (G.2.1.2.2.1.1.2) (xgn (G.2.1.2.2.1.2.1) (xgn (by decide) (xgn (by decide) (xgn (by decide) (xgn (by decide) W0_137)))))))) (G.2.1.2.2.1.2.2) (G.2.1.2.2.2.1.1) (G.2.1.2.2.2.1.2) (xgn (by decide) (xgn (G.2.1.2.2.2.2.1) (xgn (G.2.1.2.2.2.2.2.1) (xgn (G.2.1.2.2.2.2.2.2) (xgn (by decide) (xgn (by decide) (xgn (by decide) (xgn (by decide) W0_138)))))))) (G.2.2.1.1.1.1.1) (G.2.2.1.1.1.1.2) (G.2.2.1.1.1.2.1) (G.2.2.1.1.1.2.2) (G.2.2.1.1.2.1.1) (G.2.2.1.1.2.1.2) (G.2.2.1.1.2.2.1) (G.2.2.1.1.2.2.2.1) (G.2.2.1.1.2.2.2.2) (G.2.2.1.2.1.1.1) (G.2.2.1.2.1.1.2) (G.2.2.1.2.1.2.1) (xgn (G.2.2.1.2.1.2.2) (xgn (G.2.2.1.2.2.1.1) (xgn (G.2.2.1.2.2.1.2) (xgn (G.2.2.1.2.2.2.1) (xgn (G.2.2.1.2.2.2.2.1) (xgn (G.2.2.1.2.2.2.2.2) (xgn (G.2.2.2.1.1.1.1) (xgn (G.2.2.1.2.2.2.2.1) (W0_pw (by omega)))))))))) (G.2.2.2.1.1.1.2) (G.2.2.2.1.1.2.1) (G.2.2.2.1.1.2.2) (G.2.2.2.1.2.1.1) (G.2.2.2.1.2.1.2) (G.2.2.2.1.2.2.1) (xgn (by decide) (xgn (G.2.2.2.1.2.2.2.1) (xgn (G.2.2.2.1.2.2.2.2) (xgn (G.2.2.2.2.1.1.1) (xgn (by decide) (xgn (by decide) (xgn (by decide) (xgn (by decide) W0_154)))))))) (G.2.2.2.2.1.1.2) (G.2.2.2.2.1.2.1) (xgn (by decide) (xgn (G.2.2.2.2.1.2.2.1) (xgn (G.2.2.2.2.1.2.2.2) (xgn (G.2.2.2.2.2.1.1) (xgn (by decide) (xgn (by decide) (xgn (by decide) (xgn (by decide) W0_155))))))))) ?_
    refine i_287_1619 (lv2 := [(6, Value.int 0), (5, Value.int 0), (4, Value.int 0), (3, Value.ref 194), (2, Value.ref 128), (1, Value.ref 7), (0, Value.ref 0)]) rfl ?_
    refine i_287_1621 (x := 128) rfl ?_
    refine i_287_1622 (xgn (by decide) (xgn (by decide) (xgn (G.2.1.2.1.2.2.2.1) (xgn (G.2.2.2.1.2.1.1) (xgn (by decide) (xgn (by decide) (xgn (G.2.1.2.1.2.2.2.1) (xgn (by decide) (xgn (by decide) (xgn (by decide) (xgn (by decide) (xgn (by decide) (xgn (by decide) (xgn (by decide) (xgn (by decide) (xgn (by decide) (xgn (by decide) (xgn (by decide) (xgn (by decide) (xgs (xgn (by decide) (xgn (G.1.2.1.2.1.2.2) (xgn (G.1.2.1.2.2.1.1) (xgn (G.1.2.1.2.2.1.2) (xgn (by decide) (xgn (by decide) (xgn (by decide) (xgn (by decide) W0_128)))))))))))))))))))))))))))) (Nat.le_of_ble_eq_true rfl) (r_165_1 (xgn (by decide) (xgn (by decide) (xgn (G.2.1.2.1.2.2.2.1) (xgn (G.2.2.2.1.2.1.1) (xgn (by decide) (xgn (by decide) (xgn (G.2.1.2.1.2.2.2.1) (xgn (by decide) (xgn (by decide) (xgn (by decide) (xgn (by decide) (xgn (by decide) (xgn (by decide) (xgn (by decide) (xgn (by decide) (xgn (by decide) (xgn (by decide) (xgn (by decide) (xgn (by decide) (xgs (xgn (by decide) (xgn (G.1.2.1.2.1.2.2) (xgn (G.1.2.1.2.2.1.1) (xgn (G.1.2.1.2.2.1.2) (xgn (by decide) (xgn (by decide) (xgn (by decide) (xgn (by decide) W0_128))))))))))))))))))))))))))))) ?_
    refine i_287_1625 (x := 0) rfl ?_
    refine i_287_1627 (fun _ => ?_) (fun h => absurd h (by decide))
    refine i_287_1632 (x := 0) rfl ?_
    refine i_287_1634 (fun h => absurd h (by decide)) (fun _ => ?_)
    refine i_287_1637 (x := 194) rfl ?_
    refine i_287_1638 ?_
    refine i_287_1639 (v := Value.long 0) (xgn (by decide) (xgn (by decide) (xgn (G.2.2.2.2.2.1.2) (xgn (G.2.2.2.2.2.2.1) (xgn (by decide) (xgn (by decide) (xgn (G.2.2.2.2.2.1.2) (xgn (by decide) (xgn (by decide) (xgn (by decide) (xgn (by decide) (xgn (by decide) (xgn (by decide) (xgn (by decide) (xgn (by decide) (xgn (by decide) (xgn (by decide) (xgn (by decide) (xgn (by decide) (xgn (by decide) (xgs (xgn (G.1.2.1.1.2.2.1) (xgn (G.1.2.1.1.2.2.2.1) (xgn (G.1.2.1.1.2.2.2.2) (xgn (by decide) (xgn (by decide) (xgn (by decide) (xgn (by decide) W0_194)))))))))))))))))))))))))))) (by decide) (by decide) xup_s ?_
    refine i_287_1640 (x := 0) rfl ?_
    refine i_287_1642 (c := 0) (by decide) ?_
    refine i_287_1643 (c := 0) (by decide) ?_
    refine i_287_1644 (fun _ => ?_) (fun h => absurd h (by decide))
    refine i_287_1649 ?_
    refine i_287_2154 (x := 0) (c := 6) (lv2 := [(4, Value.int 6), (6, Value.int 0), (5, Value.int 0), (3, Value.ref 194), (2, Value.ref 128), (1, Value.ref 7), (0, Value.ref 0)]) rfl (by decide) rfl ?_
    refine i_287_2157 ?_
    refine i_287_23 (x := 6) rfl ?_
    refine i_287_25 (x := 0) rfl ?_
    refine i_287_26 (c := 6) (xgn (by decide) (xgn (by decide) (xgn (G.2.2.2.2.2.2.2.1) (xgn (G.2.2.2.2.2.2.2.2) (xgn (by decide) (xgn (by decide) (xgn (G.2.2.2.2.2.2.2.1) (xgn (by decide) (xgn (by decide) (xgn (by decide) (xgn (by decide) (xgn (by decide) (xgn (by decide) (xgn (by decide) (xgn (by decide) (xgn (by decide) (xgn (by decide) (xgn (by decide) (xgn (by decide) (xgn (by decide) (xgn (by decide) (xgn (G.1.2.1.2.1.1.1) (xgn (G.1.2.1.2.1.1.2) (xgn (G.1.2.1.2.1.2.1) (xgn (by decide) (xgn (by decide) (xgn (by decide) (xgn (by decide) W0_0)))))))))))))))))))))))))))) (by decide) ?_
    refine i_287_27 ?_
    refine i_287_29 (c := 0) (by decide) ?_
    refine i_287_30 (fun _ => ?_) (fun h => absurd h (by decide))
    refine i_287_2160 ?_
    exact i_287_2161 rfl ⟨rfl, rfl⟩
  · refine xLs.set ?_ (xgn (by decide) (xgn (G.2.2.2.2.1.1.2) (xgn (G.2.2.2.2.1.2.1) (xgn (by decide) (xgn (by decide) (xgn (G.2.2.2.2.1.1.2) (xgn (by decide) (xgn (by decide) (xgn (by decide) (xgn (by decide) (xgn (by decide) (xgn (by decide) (xgn (by decide) (xgn (by decide) (xgn (by decide) (xgn (by decide) (xgn (by decide) (xgn (by decide) (xgn (by decide) (xgn (by decide) (xgn (G.2.2.2.2.1.2.2.1) (xgn (G.2.2.2.2.1.2.2.2) (xgn (G.2.2.2.2.2.1.1) (xgn (by decide) (xgn (by decide) (xgn (by decide) (xgn (by decide) W0_155))))))))))))))))))))))))))) xcs_a
    refine xLs.set ?_ (xgn (G.2.2.2.1.2.1.2) (xgn (G.2.2.2.1.2.2.1) (xgn (by decide) (xgn (by decide) (xgn (G.2.2.2.1.2.1.2) (xgn (by decide) (xgn (by decide) (xgn (by decide) (xgn (by decide) (xgn (by decide) (xgn (by decide) (xgn (by decide) (xgn (by decide) (xgn (by decide) (xgn (by decide) (xgn (by decide) (xgn (by decide) (xgn (by decide) (xgn (by decide) (xgn (G.2.2.2.1.2.2.2.1) (xgn (G.2.2.2.1.2.2.2.2) (xgn (G.2.2.2.2.1.1.1) (xgn (by decide) (xgn (by decide) (xgn (by decide) (xgn (by decide) W0_154)))))))))))))))))))))))))) xcs_a
    refine xLs.set ?_ (xgn (G.2.2.2.1.1.2.2) (xgn (G.2.2.1.1.1.1.2) (xgn (G.2.2.1.1.1.2.1) (xgs (xgn (G.2.1.1.2.1.2.1) (xgn (G.2.1.1.2.1.2.2) (xgn (G.2.1.1.2.1.2.1) (xgn (G.2.1.1.2.1.2.2) (xgn (G.2.1.1.2.2.1.1) (xgn (G.2.1.1.2.2.1.2) (xgn (G.2.1.1.2.2.2.1) (xgn (G.2.1.1.2.2.1.2) (xgn (G.2.1.1.2.2.2.1) (xgn (G.2.1.1.2.2.1.2) (xgn (G.2.1.1.2.2.2.1) (xgn (G.2.1.1.2.2.1.2) (xgn (G.2.1.1.2.2.2.2.1) (xgn (G.2.1.1.2.2.2.2.2) (xgn (G.2.1.2.1.1.1.1) (xgn (G.2.1.2.1.1.1.2) (xgn (G.2.1.2.1.1.2.1) (xgn (G.2.1.2.1.1.2.2) (xgn (G.2.1.2.1.2.1.1) (xgn (G.2.1.2.1.2.1.2) (xgn (G.2.1.2.1.1.2.2) (W0_part (by omega))))))))))))))))))))))))))) xcs_o
    refine xLs.set ?_ (xgn (G.2.2.1.1.1.2.2) (xgn (G.2.2.1.1.2.1.1) (xgn (G.2.2.1.1.2.1.2) (xgn (G.2.2.1.1.2.2.1) (xgn (G.2.2.1.1.2.2.2.1) (xgn (G.2.2.1.1.2.2.1) (xgn (G.2.2.1.1.2.2.2.1) (xgn (G.2.2.1.1.2.2.2.2) (xgn (G.2.2.1.2.1.1.1) (xgn (G.2.2.1.2.1.1.2) (xgn (G.2.2.1.2.1.1.1) (xgn (G.2.2.1.2.1.1.2) (xgn (G.2.2.1.2.1.1.1) (xgn (G.2.2.1.2.1.1.2) (xgn (G.2.2.1.2.1.1.1) (xgn (G.2.2.1.2.1.2.1) (xgn (G.2.2.1.2.1.2.2) (xgn (G.2.2.1.2.2.1.1) (xgn (G.2.2.1.2.2.1.2) (xgn (G.2.2.1.2.2.2.1) (xgn (G.2.2.1.2.2.2.2.1) (xgn (G.2.2.1.2.2.2.2.2) (xgn (G.2.2.2.1.1.1.1) (xgn (G.2.2.1.2.2.2.2.1) (W0_pw (by omega)))))))))))))))))))))))))) xcs_a
    refine xLs.set ?_ (xgn (by decide) (xgn (G.2.1.2.1.2.2.2.2) (xgn (by decide) (xgn (by decide) (xgn (by decide) (xgn (by decide) (xgn (by decide) (xgn (by decide) (xgn (by decide) (xgn (by decide) (xgn (by decide) (xgn (by decide) (xgn (by decide) (xgn (by decide) (xgn (by decide) (xgn (by decide) (xgn (G.2.1.2.2.1.1.1) (xgn (G.2.1.2.2.1.1.2) (xgn (G.2.1.2.2.1.2.1) (xgn (by decide) (xgn (by decide) (xgn (by decide) (xgn (by decide) W0_137))))))))))))))))))))))) xcs_o
    refine xLs.set ?_ (xgn (G.2.1.2.2.2.1.2) (xgn (by decide) (xgn (by decide) (xgn (by decide) (xgn (by decide) (xgn (by decide) (xgn (by decide) (xgn (by decide) (xgn (by decide) (xgn (by decide) (xgn (by decide) (xgn (by decide) (xgn (by decide) (xgn (by decide) (xgn (by decide) (xgn (G.2.1.2.2.2.2.1) (xgn (G.2.1.2.2.2.2.2.1) (xgn (G.2.1.2.2.2.2.2.2) (xgn (by decide) (xgn (by decide) (xgn (by decide) (xgn (by decide) W0_138)))))))))))))))))))))) xcs_a
    refine xLs.set ?_ (xgn (G.2.1.1.2.1.2.1) (xgn (G.2.1.1.2.1.2.2) (xgn (G.2.1.1.2.1.2.1) (xgn (G.2.1.1.2.1.2.2) (xgn (G.2.1.1.2.2.1.1) (xgn (G.2.1.1.2.2.1.2) (xgn (G.2.1.1.2.2.2.1) (xgn (G.2.1.1.2.2.1.2) (xgn (G.2.1.1.2.2.2.1) (xgn (G.2.1.1.2.2.1.2) (xgn (G.2.1.1.2.2.2.1) (xgn (G.2.1.1.2.2.1.2) (xgn (G.2.1.1.2.2.2.2.1) (xgn (G.2.1.1.2.2.2.2.2) (xgn (G.2.1.2.1.1.1.1) (xgn (G.2.1.2.1.1.1.2) (xgn (G.2.1.2.1.1.2.1) (xgn (G.2.1.2.1.1.2.2) (xgn (G.2.1.2.1.2.1.1) (xgn (G.2.1.2.1.2.1.2) (xgn (G.2.1.2.1.1.2.2) (W0_part (by omega))))))))))))))))))))))) xcs_o
    refine xLs.set ?_ (xgn (by decide) (xgs (xgn (by decide) (xgn (by decide) (xgn (by decide) (xgn (by decide) (xgn (by decide) (xgn (by decide) (xgn (by decide) (xgn (by decide) (xgn (by decide) (xgn (by decide) (xgn (by decide) (xgn (G.1.2.2.2.2.2.1) (xgn (G.1.2.2.2.2.2.2.1) (xgn (G.1.2.2.2.2.2.2.2) (xgn (by decide) (xgn (by decide) (xgn (by decide) (xgn (by decide) W0_135)))))))))))))))))))) xcs_o
    refine xLs.set ?_ (xgn (by decide) (xgs (xgn (by decide) (xgn (by decide) (xgn (by decide) (xgn (by decide) (xgn (by decide) (xgn (by decide) (xgn (by decide) (xgn (by decide) (xgn (by decide) (xgn (by decide) (xgn (G.2.1.1.1.1.1.1) (xgn (G.2.1.1.1.1.1.2) (xgn (G.2.1.1.1.1.2.1) (xgn (by decide) (xgn (by decide) (xgn (by decide) (xgn (by decide) W0_136))))))))))))))))))) xcs_a
    refine xLs.set ?_ (xgn (by decide) (xgn (by decide) (xgn (by decide) (xgn (by decide) (xgn (by decide) (xgn (by decide) (xgn (by decide) (xgn (by decide) (xgn (by decide) (xgn (by decide) (xgn (by decide) (xgn (G.1.2.2.2.2.2.1) (xgn (G.1.2.2.2.2.2.2.1) (xgn (G.1.2.2.2.2.2.2.2) (xgn (by decide) (xgn (by decide) (xgn (by decide) (xgn (by decide) W0_135)))))))))))))))))) xcs_o
    refine xLs.set ?_ (xgn (by decide) (xgn (by decide) (xgn (by decide) (xgn (by decide) (xgn (by decide) (xgn (by decide) (xgn (by decide) (xgn (by decide) (xgn (by decide) (xgn (by decide) (xgn (G.2.1.1.1.1.1.1) (xgn (G.2.1.1.1.1.1.2) (xgn (G.2.1.1.1.1.2.1) (xgn (by decide) (xgn (by decide) (xgn (by decide) (xgn (by decide) W0_136))))))))))))))))) xcs_a
    refine xLs.set ?_ (xgn (by decide) (xgn (by decide) (xgn (by decide) (xgn (by decide) (xgn (by decide) (xgn (by decide) (xgn (by decide) (xgn (by decide) (xgn (by decide) (xgn (G.1.2.2.2.1.2.2) (xgn (G.1.2.2.2.2.1.1) (xgn (G.1.2.2.2.2.1.2) (xgn (by decide) (xgn (by decide) (xgn (by decide) (xgn (by decide) W0_156)))))))))))))))) xcs_a
    refine xLs.set ?_ (xgn (by decide) (xgs (xgn (by decide) (xgs (xgn (by decide) (xgs (xgn (by decide) (xgn (by decide) (xgn (G.1.2.1.2.2.2.2.1) (xgn (G.1.2.1.2.2.2.2.2) (xgn (G.1.2.2.1.1.1.1) (xgn (by decide) (xgn (by decide) (xgn (by decide) (xgn (by decide) W0_129))))))))))))))) xcs_o
    refine xLs.set ?_ (xgn (by decide) (xgs (xgn (by decide) (xgs (xgn (by decide) (xgn (by decide) (xgn (by decide) (xgn (G.1.2.2.1.1.2.1) (xgn (G.1.2.2.1.1.2.2) (xgn (G.1.2.2.1.2.1.1) (xgn (by decide) (xgn (by decide) (xgn (by decide) (xgn (by decide) W0_130)))))))))))))) xcs_a
    refine xLs.set ?_ (xgn (by decide) (xgs (xgn (by decide) (xgs (xgn (by decide) (xgn (by decide) (xgn (G.1.2.1.2.2.2.2.1) (xgn (G.1.2.1.2.2.2.2.2) (xgn (G.1.2.2.1.1.1.1) (xgn (by decide) (xgn (by decide) (xgn (by decide) (xgn (by decide) W0_129))))))))))))) xcs_o
    refine xLs.set ?_ (xgn (by decide) (xgs (xgn (by decide) (xgn (by decide) (xgn (by decide) (xgn (G.1.2.2.1.1.2.1) (xgn (G.1.2.2.1.1.2.2) (xgn (G.1.2.2.1.2.1.1) (xgn (by decide) (xgn (by decide) (xgn (by decide) (xgn (by decide) W0_130)))))))))))) xcs_a
    refine xLs.set ?_ (xgn (by decide) (xgs (xgn (by decide) (xgn (by decide) (xgn (G.1.2.1.2.2.2.2.1) (xgn (G.1.2.1.2.2.2.2.2) (xgn (G.1.2.2.1.1.1.1) (xgn (by decide) (xgn (by decide) (xgn (by decide) (xgn (by decide) W0_129))))))))))) xcs_o
    refine xLs.set ?_ (xgn (by decide) (xgn (by decide) (xgn (by decide) (xgn (G.1.2.2.1.1.2.1) (xgn (G.1.2.2.1.1.2.2) (xgn (G.1.2.2.1.2.1.1) (xgn (by decide) (xgn (by decide) (xgn (by decide) (xgn (by decide) W0_130)))))))))) xcs_a
    refine xLs.set ?_ (xgn (by decide) (xgn (by decide) (xgn (G.1.2.1.2.2.2.2.1) (xgn (G.1.2.1.2.2.2.2.2) (xgn (G.1.2.2.1.1.1.1) (xgn (by decide) (xgn (by decide) (xgn (by decide) (xgn (by decide) W0_129))))))))) xcs_o
    refine xLs.set ?_ (xgn (by decide) (xgn (G.1.2.1.2.1.2.2) (xgn (G.1.2.1.2.2.1.1) (xgn (G.1.2.1.2.2.1.2) (xgn (by decide) (xgn (by decide) (xgn (by decide) (xgn (by decide) W0_128)))))))) xcs_o
    refine xLs.set ?_ (xgn (G.1.2.1.1.2.2.1) (xgn (G.1.2.1.1.2.2.2.1) (xgn (G.1.2.1.1.2.2.2.2) (xgn (by decide) (xgn (by decide) (xgn (by decide) (xgn (by decide) W0_194))))))) xcs_a
    refine xLs.set ?_ (xgn (G.1.1.2.1.2.2.2.2) (xgn (G.1.1.1.2.2.2.2.1) (xgn (G.1.1.1.2.2.2.2.2) (xgn (G.1.1.2.1.1.1.1) (xgn (G.1.1.2.1.1.1.2) (xgn (G.1.1.1.2.2.2.2.2) (W0_man (by omega)))))))) xcs_o
    refine xLs.set ?_ (xgn (G.1.1.2.1.1.2.1) (xgn (G.1.1.2.1.1.2.2) (xgn (G.1.1.2.1.2.1.1) (xgn (G.1.1.2.1.2.1.2) (xgn (G.1.1.2.1.1.2.2) (W0_mw (by omega))))))) xcs_a
    refine xLs.set ?_ (xgn (G.1.1.1.1.2.2.2.2) (xgn (G.1.1.1.2.1.1.1) (xgn (G.1.1.1.2.1.1.2) (xgn (G.1.1.1.1.2.2.2.2) (W0_reg (by omega)))))) xcs_o
    refine xLs.set ?_ (xgn (by decide) (xgn (by decide) (xgs W0_16))) xcs_o
    refine xLs.set ?_ (xgn (by decide) (xgn (by decide) W0_17)) xcs_o
    refine xLs.set ?_ (xgn (by decide) W0_18) xcs_a
    refine xLs.set ?_ (W0_16) xcs_o
    exact ⟨Nat.le_trans (Nat.le_of_eq W0_len) (by decide), Nat.le_trans (Nat.le_of_eq W0_sz) (by decide)⟩
theorem r_28_11 {d : Nat} {w : xW} {a0 : Int32} {g0 : Nat → Value} {a1 : Int32} (hw0 : w[16]? = some (Sum.inr (4, [Value.int 0, Value.ref 17, Value.int a0, Value.int 0]))) (hw1 : w[17]? = some (Sum.inr (3, [Value.ref 18, Value.int 2]))) (hw2 : w[18]? = some (Sum.inl (0, 8, g0))) (hg3 : g0 (1 : Int32).toInt.toNat = Value.int a1) (hg4 : ((64 : Int32) - (xnlz a1)) = 64) : xRun (d + 2) 28 [Value.ref 16] w (.inl (some (Value.int ((64 : Int32) + a0)))) w := by
  refine xRun.of ?_
  refine i_28_0 (x := 16) rfl ?_
  refine i_28_1 (v := Value.ref 17) hw0 rfl ?_
  refine i_28_4 hw1 (Nat.le_of_ble_eq_true rfl) (r_29_3 hw1 hw2 hg3 hg4) ?_
  refine i_28_7 (x := 16) rfl ?_
  refine i_28_8 (v := Value.int a0) hw0 rfl ?_
  refine i_28_11 (c := ((64 : Int32) + a0)) rfl ?_
  exact i_28_12 ⟨rfl, rfl⟩
theorem r_32_11 {d : Nat} {w : xW} {a0 : Int32} {a1 : Int32} (hw0 : w[16]? = some (Sum.inr (4, [Value.int 0, Value.ref 17, Value.int a1, Value.int 0]))) (hg1 : (a0 - a1) = 0) (hw2 : w[17]? = some (Sum.inr (3, [Value.ref 18, Value.int 2]))) : xRun (d + 1) 32 [Value.ref 16, Value.int a0] w (.inl (some (Value.int 1))) w := by
  refine xRun.of ?_
  refine i_32_0 (x := 16) rfl ?_
  refine i_32_1 (v := Value.int 0) hw0 rfl ?_
  refine i_32_4 (fun h => absurd h (by decide)) (fun _ => ?_)
  refine i_32_7 (x := 16) rfl ?_
  refine i_32_8 (v := Value.ref 17) hw0 rfl ?_
  refine i_32_11 (x := a0) rfl ?_
  refine i_32_12 (x := 16) rfl ?_
  refine i_32_13 (v := Value.int a1) hw0 rfl ?_
  refine i_32_16 (c := 0) hg1 ?_
  refine i_32_17 hw2 (Nat.le_of_ble_eq_true rfl) (r_33_1) ?_
  refine i_32_20 (fun h => absurd h (by decide)) (fun _ => ?_)
  refine i_32_23 ?_
  refine i_32_24 ?_
  exact i_32_28 rfl ⟨rfl, rfl⟩
theorem r_31_11 {d : Nat} {w : xW} {a0 : Int32} {a1 : Int32} {a2 : Int32} (hw0 : w[16]? = some (Sum.inr (4, [Value.int 0, Value.ref 17, Value.int a2, Value.int 0]))) (hg1 : (a0 - a2) = 0) (hw2 : w[17]? = some (Sum.inr (3, [Value.ref 18, Value.int 2]))) : xRun (d + 2) 31 [Value.ref 16, Value.int a0, Value.int a1] w (.inl (some (Value.int 0))) w := by
  refine xRun.of ?_
  refine i_31_0 (x := 16) rfl ?_
  refine i_31_1 (x := a0) rfl ?_
  refine i_31_2 hw0 (Nat.le_of_ble_eq_true rfl) (r_32_11 hw0 hg1 hw2) ?_
  refine i_31_5 (fun h => absurd h (by decide)) (fun _ => ?_)
  refine i_31_8 ?_
  exact i_31_9 rfl ⟨rfl, rfl⟩
theorem r_38_11 {d : Nat} {w : xW} {h0 : Nat} {a0 : Int32} {a1 : Int32} {g0 : Nat → Value} {a2 : Int32} {h1 : Nat} {h2 : Nat} {a3 : Int32} (hw0 : w[16]? = some (Sum.inr (4, [Value.int 0, Value.ref 17, Value.int a1, Value.int 0]))) (hw1 : w[17]? = some (Sum.inr (3, [Value.ref 18, Value.int 2]))) (hw2 : w[18]? = some (Sum.inl (0, 8, g0))) (hg3 : g0 (1 : Int32).toInt.toNat = Value.int a2) (hg4 : ((64 : Int32) - (xnlz a2)) = 64) (hg5 : (((64 : Int32) + a1) - a0) = 64) (hw6 : w[h0]? = some (Sum.inr (2, [Value.int 64, Value.int 0, Value.int 0, Value.int 0, Value.ref h1]))) (e7 : 7 ≤ h0) (e8 : h0 ≠ 16) (e9 : h0 ≠ 17) (e10 : h0 ≠ 18) (e11 : h0 ≠ h1) (hw12 : w[h1]? = some (Sum.inr (3, [Value.ref h2, Value.int 0]))) (e13 : h0 ≠ h2) (hw14 : w[h2]? = some (Sum.inl (0, 8, fun _ => Value.int 0))) (e15 : 7 ≤ h2) (e16 : h2 ≠ h1) (e17 : h2 ≠ 17) (e18 : h2 ≠ 18) (hg19 : g0 (0 : Int32).toInt.toNat = Value.int a3) (e20 : 7 ≤ h1) (e21 : h1 ≠ h0) (e22 : h2 ≠ h0) (e23 : h1 ≠ h2) (e24 : a2.toInt ≠ 0) : xRun (d + 3) 38 [Value.ref h0, Value.ref 16, Value.int a0, Value.int 0] w (.inl none) (((w.set h0 (Sum.inr (2, [Value.int 64, Value.int 3, Value.int 0, Value.int ((64 : Int32) + a1), Value.ref h1]))).set h2 (Sum.inl (0, 8, xup (xup (fun _ => Value.int 0) (1 : Int32).toInt.toNat (Value.int a2)) (0 : Int32).toInt.toNat (Value.int a3)))).set h1 (Sum.inr (3, [Value.ref h2, Value.int 2]))) := by
  refine xRun.of ?_
  refine i_38_0 (x := 16) rfl ?_
  refine i_38_1 hw0 (Nat.le_of_ble_eq_true rfl) (r_28_11 hw0 hw1 hw2 hg3 hg4) ?_
  refine i_38_4 (lv2 := [(4, Value.int ((64 : Int32) + a1)), (0, Value.ref h0), (1, Value.ref 16), (2, Value.int a0), (3, Value.int 0)]) rfl ?_
  refine i_38_6 (x := ((64 : Int32) + a1)) rfl ?_
  refine i_38_8 (x := a0) rfl ?_
  refine i_38_9 (c := 64) hg5 ?_
  refine i_38_10 (lv2 := [(5, Value.int 64), (4, Value.int ((64 : Int32) + a1)), (0, Value.ref h0), (1, Value.ref 16), (2, Value.int a0), (3, Value.int 0)]) rfl ?_
  refine i_38_12 (x := 64) rfl ?_
  refine i_38_14 (fun _ => ?_) (fun h => absurd h (by decide))
  refine i_38_31 (x := 64) rfl ?_
  refine i_38_33 (fun _ => ?_) (fun h => absurd h (by decide))
  refine i_38_48 (x := h0) rfl ?_
  refine i_38_49 ?_
  refine i_38_50 (fs2 := [Value.int 64, Value.int 3, Value.int 0, Value.int 0, Value.ref h1]) hw6 (Nat.le_of_ble_eq_true rfl) rfl e7 ?_
  refine i_38_53 (x := h0) rfl ?_
  refine i_38_54 (x := 16) rfl ?_
  refine i_38_55 (v := Value.int 0) (xgn e8 hw0) rfl ?_
  refine i_38_58 (fs2 := [Value.int 64, Value.int 3, Value.int 0, Value.int 0, Value.ref h1]) (xgs hw6) rfl (Nat.le_of_ble_eq_true rfl) rfl e7 ?_
  refine xEv.world (List.set_set _) ?_
  refine i_38_61 (x := h0) rfl ?_
  refine i_38_62 (x := ((64 : Int32) + a1)) rfl ?_
  refine i_38_64 (fs2 := [Value.int 64, Value.int 3, Value.int 0, Value.int ((64 : Int32) + a1), Value.ref h1]) (xgs hw6) (Nat.le_of_ble_eq_true rfl) rfl e7 ?_
  refine xEv.world (List.set_set _) ?_
  refine i_38_67 (x := h0) rfl ?_
  refine i_38_68 (v := Value.ref h1) (xgs hw6) rfl ?_
  refine i_38_71 (x := 16) rfl ?_
  refine i_38_72 (v := Value.ref 17) (xgn e8 hw0) rfl ?_
  refine i_38_75 (x := h0) rfl ?_
  refine i_38_76 (v := Value.int 64) (xgs hw6) rfl ?_
  refine i_38_79 (x := 16) rfl ?_
  refine i_38_80 (v := Value.ref 17) (xgn e8 hw0) rfl ?_
  refine i_38_83 (xgn e9 hw1) (Nat.le_of_ble_eq_true rfl) (r_29_3 (xgn e9 hw1) (xgn e10 hw2) hg3 hg4) ?_
  refine i_38_86 (c := 0) (by decide) ?_
  refine i_38_87 (xgn e11 hw12) (Nat.le_of_ble_eq_true rfl) (r_42_2 (xgn e9 hw1) (xgn e10 hw2) hg3 hg4 (xgn e11 hw12) (xgn e13 hw14) e15 e16 e17 e18 hg19 e20) ?_
  refine i_38_90 (x := h0) rfl ?_
  refine i_38_91 (v := Value.ref h1) (xgn e21 (xgn e22 (xgs hw6))) rfl ?_
  refine i_38_94 (x := h0) rfl ?_
  refine i_38_95 (v := Value.int 64) (xgn e21 (xgn e22 (xgs hw6))) rfl ?_
  refine i_38_98 (x := 64) rfl ?_
  refine i_38_100 (c := 0) (by decide) ?_
  refine i_38_101 (xgs (xgn e16 (xgn e11 hw12))) (Nat.le_of_ble_eq_true rfl) (r_43_0 (xgs (xgn e16 (xgn e11 hw12))) (xgn e23 (xgs (xgn e13 hw14))) (xup_n (by decide) xup_s) e24) ?_
  refine i_38_104 (x := 0) rfl ?_
  refine i_38_105 (fun _ => ?_) (fun h => absurd h (by decide))
  refine i_38_122 (x := h0) rfl ?_
  refine i_38_123 (v := Value.ref h1) (xgn e21 (xgn e22 (xgs hw6))) rfl ?_
  refine i_38_126 (xgs (xgn e16 (xgn e11 hw12))) (Nat.le_of_ble_eq_true rfl) (r_29_4 (xgs (xgn e16 (xgn e11 hw12))) (xgn e23 (xgs (xgn e13 hw14))) (xup_n (by decide) xup_s) hg4) ?_
  refine i_38_129 (x := h0) rfl ?_
  refine i_38_130 (v := Value.int 64) (xgn e21 (xgn e22 (xgs hw6))) rfl ?_
  refine i_38_133 (fun _ => ?_) (fun h => absurd h (by decide))
  exact i_38_148 ⟨rfl, rfl⟩
theorem r_27_11 {d : Nat} {w : xW} {h0 : Nat} {a0 : Int32} {a1 : Int32} {g0 : Nat → Value} {a2 : Int32} {h1 : Nat} {h2 : Nat} {a3 : Int32} (hw0 : w[16]? = some (Sum.inr (4, [Value.int 0, Value.ref 17, Value.int a1, Value.int 0]))) (hw1 : w[17]? = some (Sum.inr (3, [Value.ref 18, Value.int 2]))) (hw2 : w[18]? = some (Sum.inl (0, 8, g0))) (hg3 : g0 (1 : Int32).toInt.toNat = Value.int a2) (hg4 : ((64 : Int32) - (xnlz a2)) = 64) (hw5 : w[h0]? = some (Sum.inr (2, [Value.int 64, Value.int 0, Value.int 0, Value.int 0, Value.ref h1]))) (hw6 : w[78]? = some (Sum.inr (1, [Value.int (-16384), Value.int 16384, Value.int 0, Value.int 0]))) (hg7 : ((((64 : Int32) + a1) - (64 : Int32)) - a1) = 0) (hg8 : (((64 : Int32) + a1) - (((64 : Int32) + a1) - (64 : Int32))) = 64) (e9 : 7 ≤ h0) (e10 : h0 ≠ 16) (e11 : h0 ≠ 17) (e12 : h0 ≠ 18) (e13 : h0 ≠ h1) (hw14 : w[h1]? = some (Sum.inr (3, [Value.ref h2, Value.int 0]))) (e15 : h0 ≠ h2) (hw16 : w[h2]? = some (Sum.inl (0, 8, fun _ => Value.int 0))) (e17 : 7 ≤ h2) (e18 : h2 ≠ h1) (e19 : h2 ≠ 17) (e20 : h2 ≠ 18) (hg21 : g0 (0 : Int32).toInt.toNat = Value.int a3) (e22 : 7 ≤ h1) (e23 : h1 ≠ h0) (e24 : h2 ≠ h0) (e25 : h1 ≠ h2) (e26 : a2.toInt ≠ 0) (e27 : h1 ≠ 78) (e28 : h2 ≠ 78) (e29 : h0 ≠ 78) (e30 : ((64 : Int32) + a1).toInt ≤ 16384) (e31 : (-16384) ≤ ((64 : Int32) + a1).toInt) (e32 : h1 ≠ 16) (e33 : h2 ≠ 16) : xRun (d + 4) 27 [Value.ref 78, Value.ref h0, Value.ref 16, Value.int a0] w (.inl (some (Value.int 0))) (((w.set h0 (Sum.inr (2, [Value.int 64, Value.int 3, Value.int 0, Value.int ((64 : Int32) + a1), Value.ref h1]))).set h2 (Sum.inl (0, 8, xup (xup (fun _ => Value.int 0) (1 : Int32).toInt.toNat (Value.int a2)) (0 : Int32).toInt.toNat (Value.int a3)))).set h1 (Sum.inr (3, [Value.ref h2, Value.int 2]))) := by
  refine xRun.of ?_
  refine i_27_0 (x := 16) rfl ?_
  refine i_27_1 hw0 (Nat.le_of_ble_eq_true rfl) (r_28_11 hw0 hw1 hw2 hg3 hg4) ?_
  refine i_27_4 (lv2 := [(4, Value.int ((64 : Int32) + a1)), (0, Value.ref 78), (1, Value.ref h0), (2, Value.ref 16), (3, Value.int a0)]) rfl ?_
  refine i_27_6 (x := 78) rfl ?_
  refine i_27_7 (x := ((64 : Int32) + a1)) rfl ?_
  refine i_27_9 (x := h0) rfl ?_
  refine i_27_10 (v := Value.int 64) hw5 rfl ?_
  refine i_27_13 hw6 (Nat.le_of_ble_eq_true rfl) (r_30_0 hw6) ?_
  refine i_27_16 (lv2 := [(5, Value.int (((64 : Int32) + a1) - (64 : Int32))), (4, Value.int ((64 : Int32) + a1)), (0, Value.ref 78), (1, Value.ref h0), (2, Value.ref 16), (3, Value.int a0)]) rfl ?_
  refine i_27_18 (x := 16) rfl ?_
  refine i_27_19 (x := (((64 : Int32) + a1) - (64 : Int32))) rfl ?_
  refine i_27_21 (x := a0) rfl ?_
  refine i_27_22 hw0 (Nat.le_of_ble_eq_true rfl) (r_31_11 hw0 hg7 hw1) ?_
  refine i_27_25 (lv2 := [(6, Value.int 0), (5, Value.int (((64 : Int32) + a1) - (64 : Int32))), (4, Value.int ((64 : Int32) + a1)), (0, Value.ref 78), (1, Value.ref h0), (2, Value.ref 16), (3, Value.int a0)]) rfl ?_
  refine i_27_27 (x := 16) rfl ?_
  refine i_27_28 (x := (((64 : Int32) + a1) - (64 : Int32))) rfl ?_
  refine i_27_30 hw0 (Nat.le_of_ble_eq_true rfl) (r_32_11 hw0 hg7 hw1) ?_
  refine i_27_33 (fun h => absurd h (by decide)) (fun _ => ?_)
  refine i_27_36 ?_
  refine i_27_37 ?_
  refine i_27_50 (lv2 := [(7, Value.int 0), (6, Value.int 0), (5, Value.int (((64 : Int32) + a1) - (64 : Int32))), (4, Value.int ((64 : Int32) + a1)), (0, Value.ref 78), (1, Value.ref h0), (2, Value.ref 16), (3, Value.int a0)]) rfl ?_
  refine i_27_52 (x := h0) rfl ?_
  refine i_27_53 (x := 16) rfl ?_
  refine i_27_54 (x := (((64 : Int32) + a1) - (64 : Int32))) rfl ?_
  refine i_27_56 (x := 0) rfl ?_
  refine i_27_58 hw5 (Nat.le_of_ble_eq_true rfl) (r_38_11 hw0 hw1 hw2 hg3 hg4 hg8 hw5 e9 e10 e11 e12 e13 hw14 e15 hw16 e17 e18 e19 e20 hg21 e22 e23 e24 e25 e26) ?_
  refine i_27_61 (x := h0) rfl ?_
  refine i_27_62 (v := Value.int 3) (xgn e23 (xgn e24 (xgs hw5))) rfl ?_
  refine i_27_65 ?_
  refine i_27_66 (fun h => absurd h (by decide)) (fun _ => ?_)
  refine i_27_69 (x := h0) rfl ?_
  refine i_27_70 (v := Value.int ((64 : Int32) + a1)) (xgn e23 (xgn e24 (xgs hw5))) rfl ?_
  refine i_27_73 (x := 78) rfl ?_
  refine i_27_74 (v := Value.int 16384) (xgn e27 (xgn e28 (xgn e29 hw6))) rfl ?_
  refine i_27_77 (fun _ => ?_) (fun h => absurd e30 (Int.not_le.mpr h))
  refine i_27_95 (x := h0) rfl ?_
  refine i_27_96 (v := Value.int 3) (xgn e23 (xgn e24 (xgs hw5))) rfl ?_
  refine i_27_99 ?_
  refine i_27_100 (fun h => absurd h (by decide)) (fun _ => ?_)
  refine i_27_103 (x := 78) rfl ?_
  refine i_27_104 (v := Value.int 0) (xgn e27 (xgn e28 (xgn e29 hw6))) rfl ?_
  refine i_27_107 (fun h => absurd h (by decide)) (fun _ => ?_)
  refine i_27_110 (x := h0) rfl ?_
  refine i_27_111 (v := Value.int ((64 : Int32) + a1)) (xgn e23 (xgn e24 (xgs hw5))) rfl ?_
  refine i_27_114 (x := 78) rfl ?_
  refine i_27_115 (v := Value.int (-16384)) (xgn e27 (xgn e28 (xgn e29 hw6))) rfl ?_
  refine i_27_118 (fun _ => ?_) (fun h => absurd e31 (Int.not_le.mpr h))
  refine i_27_133 (x := 78) rfl ?_
  refine i_27_134 (v := Value.int 0) (xgn e27 (xgn e28 (xgn e29 hw6))) rfl ?_
  refine i_27_137 (fun _ => ?_) (fun h => absurd h (by decide))
  refine i_27_164 (x := 0) rfl ?_
  refine i_27_166 (fun _ => ?_) (fun h => absurd h (by decide))
  refine i_27_179 (x := 16) rfl ?_
  refine i_27_180 (v := Value.int 0) (xgn e32 (xgn e33 (xgn e10 hw0))) rfl ?_
  refine i_27_183 (fun _ => ?_) (fun h => absurd h (by decide))
  refine i_27_192 (x := 0) rfl ?_
  exact i_27_194 ⟨rfl, rfl⟩
theorem r_128_20 {d : Nat} {w : xW} {a0 : Int32} {b0 : Int64} {a1 : Int32} {g0 : Nat → Value} {h0 : Nat} {h1 : Nat} {h2 : Nat} (e0 : 0 ≤ a0.toInt) (e1 : a0.toInt < 16) (e2 : 0 ≤ a1.toInt) (e3 : a1.toInt ≤ 4) (hw4 : w[7]? = some (Sum.inr (0, [Value.ref 8, Value.ref 78, Value.ref 9, Value.ref 10, Value.ref 13, Value.ref 16, Value.ref 19, Value.ref 93, Value.ref 108, Value.ref 113, Value.ref 29, Value.int 0]))) (hw5 : w[8]? = some (Sum.inl (4, 16, g0))) (hg6 : g0 a0.toInt.toNat = Value.ref h0) (e7 : 0 ≤ (lg_cmp b0 (0 : Int64)).toInt) (e8 : (xfd b0).toInt ≠ 2047) (e9 : (xfd b0).toInt ≠ 0) (hw10 : w[16]? = some (Sum.inr (4, [Value.int 0, Value.ref 17, Value.int 0, Value.int 0]))) (hw11 : w[17]? = some (Sum.inr (3, [Value.ref 18, Value.int 0]))) (hw12 : w[18]? = some (Sum.inl (0, 8, fun _ => Value.int 0))) (e13 : (xhi (xfo b0)).toInt ≠ 0) (hw14 : w[78]? = some (Sum.inr (1, [Value.int (-16384), Value.int 16384, Value.int 0, Value.int 0]))) (hg15 : ((64 : Int32) - (xnlz (xhi (xfo b0)))) = 64) (e16 : 16 ≠ h0) (e17 : 17 ≠ h0) (e18 : 18 ≠ h0) (hw19 : w[h0]? = some (Sum.inr (2, [Value.int 64, Value.int 0, Value.int 0, Value.int 0, Value.ref h1]))) (hg20 : ((((64 : Int32) + ((xfd b0) - (1075 : Int32))) - (64 : Int32)) - ((xfd b0) - (1075 : Int32))) = 0) (hg21 : (((64 : Int32) + ((xfd b0) - (1075 : Int32))) - (((64 : Int32) + ((xfd b0) - (1075 : Int32))) - (64 : Int32))) = 64) (e22 : 7 ≤ h0) (e23 : h0 ≠ 16) (e24 : h0 ≠ 17) (e25 : h0 ≠ 18) (e26 : h0 ≠ h1) (e27 : 16 ≠ h1) (e28 : 17 ≠ h1) (e29 : 18 ≠ h1) (hw30 : w[h1]? = some (Sum.inr (3, [Value.ref h2, Value.int 0]))) (e31 : h0 ≠ h2) (e32 : 16 ≠ h2) (e33 : 17 ≠ h2) (e34 : 18 ≠ h2) (hw35 : w[h2]? = some (Sum.inl (0, 8, fun _ => Value.int 0))) (e36 : 7 ≤ h2) (e37 : h2 ≠ h1) (e38 : h2 ≠ 17) (e39 : h2 ≠ 18) (e40 : 7 ≤ h1) (e41 : h1 ≠ h0) (e42 : h2 ≠ h0) (e43 : h1 ≠ h2) (e44 : h1 ≠ 78) (e45 : h2 ≠ 78) (e46 : h0 ≠ 78) (e47 : ((64 : Int32) + ((xfd b0) - (1075 : Int32))).toInt ≤ 16384) (e48 : (-16384) ≤ ((64 : Int32) + ((xfd b0) - (1075 : Int32))).toInt) (e49 : h1 ≠ 16) (e50 : h2 ≠ 16) : xRun (d + 5) 128 [Value.ref 7, Value.int a0, Value.long b0, Value.int a1] w (.inl (some (Value.int 0))) (((((((w.set 16 (Sum.inr (4, [Value.int 0, Value.ref 17, Value.int 0, Value.int 0]))).set 18 (Sum.inl (0, 8, xup (xup (fun _ => Value.int 0) (0 : Int32).toInt.toNat (Value.int (xlo (xfo b0)))) (1 : Int32).toInt.toNat (Value.int (xhi (xfo b0)))))).set 17 (Sum.inr (3, [Value.ref 18, Value.int 2]))).set 16 (Sum.inr (4, [Value.int 0, Value.ref 17, Value.int ((xfd b0) - (1075 : Int32)), Value.int 0]))).set h0 (Sum.inr (2, [Value.int 64, Value.int 3, Value.int 0, Value.int ((64 : Int32) + ((xfd b0) - (1075 : Int32))), Value.ref h1]))).set h2 (Sum.inl (0, 8, xup (xup (fun _ => Value.int 0) (1 : Int32).toInt.toNat (Value.int (xhi (xfo b0)))) (0 : Int32).toInt.toNat (Value.int (xlo (xfo b0)))))).set h1 (Sum.inr (3, [Value.ref h2, Value.int 2]))) := by
  refine xRun.of ?_
  refine i_128_0 (x := a0) rfl ?_
  refine i_128_1 (Nat.le_of_ble_eq_true rfl) (r_15_1 e0 e1) ?_
  refine i_128_4 (fun h => absurd h (by decide)) (fun _ => ?_)
  refine i_128_7 (x := a1) rfl ?_
  refine i_128_9 (Nat.le_of_ble_eq_true rfl) (r_22_2 e2 e3) ?_
  refine i_128_12 (fun _ => ?_) (fun h => absurd h (by decide))
  refine i_128_23 (x := 7) rfl ?_
  refine i_128_24 (v := Value.ref 8) hw4 rfl ?_
  refine i_128_27 (x := a0) rfl ?_
  refine i_128_28 (v := Value.ref h0) hw5 e0 e1 hg6 ?_
  refine i_128_29 (lv2 := [(5, Value.ref h0), (0, Value.ref 7), (1, Value.int a0), (2, Value.long b0), (4, Value.int a1)]) rfl ?_
  refine i_128_31 (x := b0) rfl ?_
  refine i_128_32 ?_
  refine i_128_33 (c := (lg_cmp b0 (0 : Int64))) rfl ?_
  refine i_128_34 (fun _ => ?_) (fun h => absurd e7 (Int.not_le.mpr h))
  refine i_128_41 ?_
  refine i_128_42 (lv2 := [(6, Value.int 0), (5, Value.ref h0), (0, Value.ref 7), (1, Value.int a0), (2, Value.long b0), (4, Value.int a1)]) rfl ?_
  refine i_128_44 (x := b0) rfl ?_
  refine i_128_45 ?_
  refine i_128_47 (c := (xsr b0 52)) rfl ?_
  refine i_128_48 (c := (xsr b0 52).toInt32) rfl ?_
  refine i_128_49 ?_
  refine i_128_52 (c := (xfd b0)) rfl ?_
  refine i_128_53 (lv2 := [(7, Value.int (xfd b0)), (6, Value.int 0), (5, Value.ref h0), (0, Value.ref 7), (1, Value.int a0), (2, Value.long b0), (4, Value.int a1)]) rfl ?_
  refine i_128_55 (x := b0) rfl ?_
  refine i_128_56 ?_
  refine i_128_59 (c := (xfr b0)) rfl ?_
  refine i_128_60 (lv2 := [(8, Value.long (xfr b0)), (7, Value.int (xfd b0)), (6, Value.int 0), (5, Value.ref h0), (0, Value.ref 7), (1, Value.int a0), (2, Value.long b0), (4, Value.int a1)]) rfl ?_
  refine i_128_62 (x := (xfd b0)) rfl ?_
  refine i_128_64 ?_
  refine i_128_67 (fun _ => ?_) (fun h => absurd e8 (fun g => g h))
  refine i_128_90 (x := (xfd b0)) rfl ?_
  refine i_128_92 (fun _ => ?_) (fun h => absurd e9 (fun g => g h))
  refine i_128_110 (x := (xfd b0)) rfl ?_
  refine i_128_112 (fun _ => ?_) (fun h => absurd e9 (fun g => g h))
  refine i_128_132 (x := 7) rfl ?_
  refine i_128_133 (v := Value.ref 16) hw4 rfl ?_
  refine i_128_136 (x := 0) rfl ?_
  refine i_128_138 (x := (xfr b0)) rfl ?_
  refine i_128_140 ?_
  refine i_128_143 (c := (xfo b0)) rfl ?_
  refine i_128_144 (x := (xfd b0)) rfl ?_
  refine i_128_146 ?_
  refine i_128_149 (c := ((xfd b0) - (1075 : Int32))) rfl ?_
  refine i_128_150 hw10 (Nat.le_of_ble_eq_true rfl) (r_24_7 hw10 hw11 hw12 e13) ?_
  refine i_128_153 (x := 7) rfl ?_
  refine i_128_154 (v := Value.ref 78) (xgn (by decide) (xgn (by decide) (xgn (by decide) (xgn (by decide) hw4)))) rfl ?_
  refine i_128_157 (x := h0) rfl ?_
  refine i_128_159 (x := 7) rfl ?_
  refine i_128_160 (v := Value.ref 16) (xgn (by decide) (xgn (by decide) (xgn (by decide) (xgn (by decide) hw4)))) rfl ?_
  refine i_128_163 (x := a1) rfl ?_
  refine i_128_165 (xgn (by decide) (xgn (by decide) (xgn (by decide) (xgn (by decide) hw14)))) (Nat.le_of_ble_eq_true rfl) (r_27_11 (xgs (xgn (by decide) (xgn (by decide) (xgs hw10)))) (xgn (by decide) (xgs (xgn (by decide) (xgn (by decide) hw11)))) (xgn (by decide) (xgn (by decide) (xgs (xgn (by decide) hw12)))) xup_s hg15 (xgn e16 (xgn e17 (xgn e18 (xgn e16 hw19)))) (xgn (by decide) (xgn (by decide) (xgn (by decide) (xgn (by decide) hw14)))) hg20 hg21 e22 e23 e24 e25 e26 (xgn e27 (xgn e28 (xgn e29 (xgn e27 hw30)))) e31 (xgn e32 (xgn e33 (xgn e34 (xgn e32 hw35)))) e36 e37 e38 e39 (xup_n (by decide) xup_s) e40 e41 e42 e43 e13 e44 e45 e46 e47 e48 e49 e50) ?_
  exact i_128_168 ⟨rfl, rfl⟩
theorem r_127_20 {d : Nat} {w : xW} {a0 : Int32} {b0 : Int64} {a1 : Int32} {g0 : Nat → Value} {h0 : Nat} {h1 : Nat} {h2 : Nat} (hw0 : w[7]? = some (Sum.inr (0, [Value.ref 8, Value.ref 78, Value.ref 9, Value.ref 10, Value.ref 13, Value.ref 16, Value.ref 19, Value.ref 93, Value.ref 108, Value.ref 113, Value.ref 29, Value.int 0]))) (e1 : 0 ≤ a0.toInt) (e2 : a0.toInt < 16) (e3 : 0 ≤ a1.toInt) (e4 : a1.toInt ≤ 4) (hw5 : w[8]? = some (Sum.inl (4, 16, g0))) (hg6 : g0 a0.toInt.toNat = Value.ref h0) (e7 : 0 ≤ (lg_cmp b0 (0 : Int64)).toInt) (e8 : (xfd b0).toInt ≠ 2047) (e9 : (xfd b0).toInt ≠ 0) (hw10 : w[16]? = some (Sum.inr (4, [Value.int 0, Value.ref 17, Value.int 0, Value.int 0]))) (hw11 : w[17]? = some (Sum.inr (3, [Value.ref 18, Value.int 0]))) (hw12 : w[18]? = some (Sum.inl (0, 8, fun _ => Value.int 0))) (e13 : (xhi (xfo b0)).toInt ≠ 0) (hw14 : w[78]? = some (Sum.inr (1, [Value.int (-16384), Value.int 16384, Value.int 0, Value.int 0]))) (hg15 : ((64 : Int32) - (xnlz (xhi (xfo b0)))) = 64) (e16 : 16 ≠ h0) (e17 : 17 ≠ h0) (e18 : 18 ≠ h0) (hw19 : w[h0]? = some (Sum.inr (2, [Value.int 64, Value.int 0, Value.int 0, Value.int 0, Value.ref h1]))) (hg20 : ((((64 : Int32) + ((xfd b0) - (1075 : Int32))) - (64 : Int32)) - ((xfd b0) - (1075 : Int32))) = 0) (hg21 : (((64 : Int32) + ((xfd b0) - (1075 : Int32))) - (((64 : Int32) + ((xfd b0) - (1075 : Int32))) - (64 : Int32))) = 64) (e22 : 7 ≤ h0) (e23 : h0 ≠ 16) (e24 : h0 ≠ 17) (e25 : h0 ≠ 18) (e26 : h0 ≠ h1) (e27 : 16 ≠ h1) (e28 : 17 ≠ h1) (e29 : 18 ≠ h1) (hw30 : w[h1]? = some (Sum.inr (3, [Value.ref h2, Value.int 0]))) (e31 : h0 ≠ h2) (e32 : 16 ≠ h2) (e33 : 17 ≠ h2) (e34 : 18 ≠ h2) (hw35 : w[h2]? = some (Sum.inl (0, 8, fun _ => Value.int 0))) (e36 : 7 ≤ h2) (e37 : h2 ≠ h1) (e38 : h2 ≠ 17) (e39 : h2 ≠ 18) (e40 : 7 ≤ h1) (e41 : h1 ≠ h0) (e42 : h2 ≠ h0) (e43 : h1 ≠ h2) (e44 : h1 ≠ 78) (e45 : h2 ≠ 78) (e46 : h0 ≠ 78) (e47 : ((64 : Int32) + ((xfd b0) - (1075 : Int32))).toInt ≤ 16384) (e48 : (-16384) ≤ ((64 : Int32) + ((xfd b0) - (1075 : Int32))).toInt) (e49 : h1 ≠ 16) (e50 : h2 ≠ 16) (e51 : h1 ≠ 194) (e52 : h2 ≠ 194) (e53 : h0 ≠ 194) (hw54 : w[194]? = some (Sum.inl (3, 1, fun _ => Value.long 0))) : xRun (d + 6) 127 [Value.ref 7, Value.int a0, Value.long b0, Value.int a1, Value.ref 194] w (.inl (some (Value.int 0))) ((((((((w.set 16 (Sum.inr (4, [Value.int 0, Value.ref 17, Value.int 0, Value.int 0]))).set 18 (Sum.inl (0, 8, xup (xup (fun _ => Value.int 0) (0 : Int32).toInt.toNat (Value.int (xlo (xfo b0)))) (1 : Int32).toInt.toNat (Value.int (xhi (xfo b0)))))).set 17 (Sum.inr (3, [Value.ref 18, Value.int 2]))).set 16 (Sum.inr (4, [Value.int 0, Value.ref 17, Value.int ((xfd b0) - (1075 : Int32)), Value.int 0]))).set h0 (Sum.inr (2, [Value.int 64, Value.int 3, Value.int 0, Value.int ((64 : Int32) + ((xfd b0) - (1075 : Int32))), Value.ref h1]))).set h2 (Sum.inl (0, 8, xup (xup (fun _ => Value.int 0) (1 : Int32).toInt.toNat (Value.int (xhi (xfo b0)))) (0 : Int32).toInt.toNat (Value.int (xlo (xfo b0)))))).set h1 (Sum.inr (3, [Value.ref h2, Value.int 2]))).set 194 (Sum.inl (3, 1, xup (fun _ => Value.long 0) (0 : Int32).toInt.toNat (Value.long 0)))) := by
  refine xRun.of ?_
  refine i_127_0 (x := 194) rfl ?_
  refine i_127_2 ?_
  refine i_127_3 (x := 7) rfl ?_
  refine i_127_4 (x := a0) rfl ?_
  refine i_127_5 (x := b0) rfl ?_
  refine i_127_6 (x := a1) rfl ?_
  refine i_127_8 hw0 (Nat.le_of_ble_eq_true rfl) (r_128_20 e1 e2 e3 e4 hw0 hw5 hg6 e7 e8 e9 hw10 hw11 hw12 e13 hw14 hg15 e16 e17 e18 hw19 hg20 hg21 e22 e23 e24 e25 e26 e27 e28 e29 hw30 e31 e32 e33 e34 hw35 e36 e37 e38 e39 e40 e41 e42 e43 e44 e45 e46 e47 e48 e49 e50) ?_
  refine i_127_11 (c := 0) (by decide) ?_
  refine i_127_12 (v := Value.long 0) (xgn e51 (xgn e52 (xgn e53 (xgn (by decide) (xgn (by decide) (xgn (by decide) (xgn (by decide) hw54))))))) (by decide) (by decide) (by decide) rfl ?_
  refine i_127_13 ?_
  refine i_127_20 ?_
  exact i_127_21 ⟨rfl, rfl⟩
theorem r_180_23 {d : Nat} {w : xW} {a0 : Int32} {a1 : Int32} {a2 : Int32} {g0 : Nat → Value} {g1 : Nat → Value} {a3 : Int32} {a4 : Int32} {a5 : Int32} {g2 : Nat → Value} {h0 : Nat} {h1 : Nat} (hw0 : w[128]? = some (Sum.inr (12, [Value.ref 129, Value.ref 131, Value.ref 133, Value.ref 135, Value.ref 137, Value.ref 139, Value.ref 141, Value.ref 143, Value.ref 145, Value.ref 147, Value.ref 149, Value.ref 151, Value.ref 153, Value.ref 154, Value.ref 155, Value.ref 156, Value.ref 157, Value.int (-16384), Value.int 16384, Value.int 0, Value.int 0, Value.int 0, Value.ref 158, Value.ref 159, Value.int 0, Value.int 0, Value.int 0, Value.int 0, Value.int 0, Value.int 0, Value.int 0, Value.int 0]))) (hw1 : w[153]? = some (Sum.inl (0, 17, g0))) (e2 : 0 ≤ a0.toInt) (e3 : a0.toInt < 17) (hg4 : g0 a0.toInt.toNat = Value.int 64) (hw5 : w[129]? = some (Sum.inr (13, [Value.ref 130, Value.int 3]))) (hw6 : w[130]? = some (Sum.inl (0, 4700, g1))) (hg7 : g1 (2 : Int32).toInt.toNat = Value.int a3) (hg8 : ((60 : Int32) + (xbn a3)) = 64) (e9 : 0 ≤ a3.toInt) (hg10 : ((((64 : Int32) + a1) - (64 : Int32)) - a1) = 0) (hw11 : w[156]? = some (Sum.inl (2, 17, fun _ => Value.int 0))) (hw12 : w[135]? = some (Sum.inr (13, [Value.ref 136, Value.int 0]))) (hw13 : w[136]? = some (Sum.inl (0, 4700, fun _ => Value.int 0))) (hg14 : g1 (0 : Int32).toInt.toNat = Value.int a4) (hg15 : g1 (1 : Int32).toInt.toNat = Value.int a5) (e16 : ((64 : Int32) + (((64 : Int32) + a1) - (64 : Int32))).toInt ≤ 16384) (e17 : (-16384) ≤ ((64 : Int32) + (((64 : Int32) + a1) - (64 : Int32))).toInt) (hw18 : w[157]? = some (Sum.inl (5, 17, g2))) (hg19 : g2 a0.toInt.toNat = Value.ref h0) (e20 : 135 ≠ h0) (e21 : 136 ≠ h0) (e22 : 156 ≠ h0) (hw23 : w[h0]? = some (Sum.inr (13, [Value.ref h1, Value.int 0]))) (e24 : 7 ≤ h0) (e25 : h0 ≠ 128) (e26 : h0 ≠ 137) (hw27 : w[137]? = some (Sum.inr (13, [Value.ref 138, Value.int 0]))) (e28 : h0 ≠ 135) (e29 : h0 ≠ 136) (e30 : h0 ≠ 138) (hw31 : w[138]? = some (Sum.inl (0, 4700, fun _ => Value.int 0))) (e32 : h0 ≠ 157) (e33 : 137 ≠ h0) (e34 : 138 ≠ h0) (e35 : 137 ≠ h1) (e36 : 138 ≠ h1) (e37 : h0 ≠ h1) (e38 : 135 ≠ h1) (e39 : 136 ≠ h1) (e40 : 156 ≠ h1) (hw41 : w[h1]? = some (Sum.inl (0, 140, fun _ => Value.int 0))) (e42 : 7 ≤ h1) (e43 : h1 ≠ 137) (e44 : h1 ≠ h0) (e45 : h1 ≠ 128) (e46 : h0 ≠ 154) (e47 : h1 ≠ 154) (hw48 : w[154]? = some (Sum.inl (0, 17, fun _ => Value.int 0))) (e49 : h0 ≠ 155) (e50 : h1 ≠ 155) (hw51 : w[155]? = some (Sum.inl (0, 17, fun _ => Value.int 0))) : xRun (d + 3) 180 [Value.ref 128, Value.int a0, Value.ref 129, Value.int a1, Value.int 0, Value.int 0, Value.int a2] w (.inl (some (Value.int 0))) ((((((((((w.set 156 (Sum.inl (2, 17, xup (fun _ => Value.int 0) a0.toInt.toNat (Value.int 0)))).set 136 (Sum.inl (0, 4700, xcp g1 (fun _ => Value.int 0) (0 : Int32).toInt.toNat (0 : Int32).toInt.toNat (3 : Int32).toInt.toNat))).set 135 (Sum.inr (13, [Value.ref 136, Value.int 3]))).set h0 (Sum.inr (13, [Value.ref h1, Value.int 0]))).set 138 (Sum.inl (0, 4700, xcp (xcp g1 (fun _ => Value.int 0) (0 : Int32).toInt.toNat (0 : Int32).toInt.toNat (3 : Int32).toInt.toNat) (fun _ => Value.int 0) (0 : Int32).toInt.toNat (0 : Int32).toInt.toNat (3 : Int32).toInt.toNat))).set 137 (Sum.inr (13, [Value.ref 138, Value.int 3]))).set h1 (Sum.inl (0, 140, xcp (xcp (xcp g1 (fun _ => Value.int 0) (0 : Int32).toInt.toNat (0 : Int32).toInt.toNat (3 : Int32).toInt.toNat) (fun _ => Value.int 0) (0 : Int32).toInt.toNat (0 : Int32).toInt.toNat (3 : Int32).toInt.toNat) (fun _ => Value.int 0) (0 : Int32).toInt.toNat (0 : Int32).toInt.toNat (3 : Int32).toInt.toNat))).set h0 (Sum.inr (13, [Value.ref h1, Value.int 3]))).set 154 (Sum.inl (0, 17, xup (fun _ => Value.int 0) a0.toInt.toNat (Value.int 3)))).set 155 (Sum.inl (0, 17, xup (fun _ => Value.int 0) a0.toInt.toNat (Value.int ((64 : Int32) + (((64 : Int32) + a1) - (64 : Int32))))))) := by
  refine xRun.of ?_
  refine i_180_0 (x := 128) rfl ?_
  refine i_180_1 (v := Value.ref 153) hw0 rfl ?_
  refine i_180_4 (x := a0) rfl ?_
  refine i_180_5 (v := Value.int 64) hw1 e2 e3 hg4 ?_
  refine i_180_6 (lv2 := [(7, Value.int 64), (0, Value.ref 128), (1, Value.int a0), (2, Value.ref 129), (3, Value.int a1), (4, Value.int 0), (5, Value.int 0), (6, Value.int a2)]) rfl ?_
  refine i_180_8 (x := 129) rfl ?_
  refine i_180_9 hw5 (Nat.le_of_ble_eq_true rfl) (mb_run3 hw5 hw6 hg7 e9 hg8) ?_
  refine i_180_12 (x := a1) rfl ?_
  refine i_180_13 (c := ((64 : Int32) + a1)) rfl ?_
  refine i_180_14 (lv2 := [(8, Value.int ((64 : Int32) + a1)), (7, Value.int 64), (0, Value.ref 128), (1, Value.int a0), (2, Value.ref 129), (3, Value.int a1), (4, Value.int 0), (5, Value.int 0), (6, Value.int a2)]) rfl ?_
  refine i_180_16 (x := 128) rfl ?_
  refine i_180_17 (v := Value.int 0) hw0 rfl ?_
  refine i_180_20 (fun h => absurd h (by decide)) (fun _ => ?_)
  refine i_180_23 (x := 128) rfl ?_
  refine i_180_24 (v := Value.int 0) hw0 rfl ?_
  refine i_180_27 (fun _ => ?_) (fun h => absurd h (by decide))
  refine i_180_49 (x := ((64 : Int32) + a1)) rfl ?_
  refine i_180_51 (x := 64) rfl ?_
  refine i_180_53 (c := (((64 : Int32) + a1) - (64 : Int32))) rfl ?_
  refine i_180_54 (lv2 := [(9, Value.int (((64 : Int32) + a1) - (64 : Int32))), (8, Value.int ((64 : Int32) + a1)), (7, Value.int 64), (0, Value.ref 128), (1, Value.int a0), (2, Value.ref 129), (3, Value.int a1), (4, Value.int 0), (5, Value.int 0), (6, Value.int a2)]) rfl ?_
  refine i_180_56 (x := (((64 : Int32) + a1) - (64 : Int32))) rfl ?_
  refine i_180_58 (x := a1) rfl ?_
  refine i_180_59 (c := 0) hg10 ?_
  refine i_180_60 (lv2 := [(10, Value.int 0), (9, Value.int (((64 : Int32) + a1) - (64 : Int32))), (8, Value.int ((64 : Int32) + a1)), (7, Value.int 64), (0, Value.ref 128), (1, Value.int a0), (2, Value.ref 129), (3, Value.int a1), (4, Value.int 0), (5, Value.int 0), (6, Value.int a2)]) rfl ?_
  refine i_180_62 (x := 128) rfl ?_
  refine i_180_63 (v := Value.ref 156) hw0 rfl ?_
  refine i_180_66 (x := a0) rfl ?_
  refine i_180_67 (x := 0) rfl ?_
  refine i_180_69z (v := Value.int 0) hw11 e2 e3 (by decide) rfl ?_
  refine i_180_70 (x := 128) rfl ?_
  refine i_180_71 (v := Value.ref 135) (xgn (by decide) hw0) rfl ?_
  refine i_180_74 (x := 129) rfl ?_
  refine i_180_75 (xgn (by decide) hw12) (Nat.le_of_ble_eq_true rfl) (r_182_8 (xgn (by decide) hw5) (xgn (by decide) hw12) (xgn (by decide) hw6) (xgn (by decide) hw13) hg14 hg15 hg7) ?_
  refine i_180_78 ?_
  refine i_180_79 (lv2 := [(11, Value.int 0), (10, Value.int 0), (9, Value.int (((64 : Int32) + a1) - (64 : Int32))), (8, Value.int ((64 : Int32) + a1)), (7, Value.int 64), (0, Value.ref 128), (1, Value.int a0), (2, Value.ref 129), (3, Value.int a1), (4, Value.int 0), (5, Value.int 0), (6, Value.int a2)]) rfl ?_
  refine i_180_81 (x := 0) rfl ?_
  refine i_180_83 (fun h => absurd h (by decide)) (fun _ => ?_)
  refine i_180_86 ?_
  refine i_180_87 ?_
  refine i_180_91 (lv2 := [(12, Value.int 1), (11, Value.int 0), (10, Value.int 0), (9, Value.int (((64 : Int32) + a1) - (64 : Int32))), (8, Value.int ((64 : Int32) + a1)), (7, Value.int 64), (0, Value.ref 128), (1, Value.int a0), (2, Value.ref 129), (3, Value.int a1), (4, Value.int 0), (5, Value.int 0), (6, Value.int a2)]) rfl ?_
  refine i_180_93 (x := 0) rfl ?_
  refine i_180_95 (fun _ => ?_) (fun h => absurd h (by decide))
  refine i_180_151 (x := 128) rfl ?_
  refine i_180_152 (v := Value.ref 135) (xgn (by decide) (xgn (by decide) (xgn (by decide) hw0))) rfl ?_
  refine i_180_155 (x := 0) rfl ?_
  refine i_180_157 (c := 0) (by decide) ?_
  refine i_180_158 (xgs (xgn (by decide) (xgn (by decide) hw12))) (Nat.le_of_ble_eq_true rfl) (r_188_6 (xgs (xgn (by decide) (xgn (by decide) hw12)))) ?_
  refine i_180_161 (x := 0) rfl ?_
  refine i_180_163 (fun _ => ?_) (fun h => absurd h (by decide))
  refine i_180_174 (x := 128) rfl ?_
  refine i_180_175 (v := Value.ref 135) (xgn (by decide) (xgn (by decide) (xgn (by decide) hw0))) rfl ?_
  refine i_180_178 (xgs (xgn (by decide) (xgn (by decide) hw12))) (Nat.le_of_ble_eq_true rfl) (mb_run3 (xgs (xgn (by decide) (xgn (by decide) hw12))) (xgn (by decide) (xgs (xgn (by decide) hw13))) (xcp_i rfl hg7) e9 hg8) ?_
  refine i_180_181 (x := (((64 : Int32) + a1) - (64 : Int32))) rfl ?_
  refine i_180_183 (c := ((64 : Int32) + (((64 : Int32) + a1) - (64 : Int32)))) rfl ?_
  refine i_180_184 (lv2 := [(13, Value.int ((64 : Int32) + (((64 : Int32) + a1) - (64 : Int32)))), (12, Value.int 1), (11, Value.int 0), (10, Value.int 0), (9, Value.int (((64 : Int32) + a1) - (64 : Int32))), (8, Value.int ((64 : Int32) + a1)), (7, Value.int 64), (0, Value.ref 128), (1, Value.int a0), (2, Value.ref 129), (3, Value.int a1), (4, Value.int 0), (5, Value.int 0), (6, Value.int a2)]) rfl ?_
  refine i_180_186 (x := 1) rfl ?_
  refine i_180_188 (fun h => absurd h (by decide)) (fun _ => ?_)
  refine i_180_191 ?_
  refine i_180_192 ?_
  refine i_180_205 (lv2 := [(14, Value.int 0), (13, Value.int ((64 : Int32) + (((64 : Int32) + a1) - (64 : Int32)))), (12, Value.int 1), (11, Value.int 0), (10, Value.int 0), (9, Value.int (((64 : Int32) + a1) - (64 : Int32))), (8, Value.int ((64 : Int32) + a1)), (7, Value.int 64), (0, Value.ref 128), (1, Value.int a0), (2, Value.ref 129), (3, Value.int a1), (4, Value.int 0), (5, Value.int 0), (6, Value.int a2)]) rfl ?_
  refine i_180_207 (x := 128) rfl ?_
  refine i_180_208 (v := Value.int 0) (xgn (by decide) (xgn (by decide) (xgn (by decide) hw0))) rfl ?_
  refine i_180_211 (fun h => absurd h (by decide)) (fun _ => ?_)
  refine i_180_214 (x := 128) rfl ?_
  refine i_180_215 (v := Value.ref 135) (xgn (by decide) (xgn (by decide) (xgn (by decide) hw0))) rfl ?_
  refine i_180_218 (v := Value.int 3) (xgs (xgn (by decide) (xgn (by decide) hw12))) rfl ?_
  refine i_180_221 (fun h => absurd h (by decide)) (fun _ => ?_)
  refine i_180_224 (x := ((64 : Int32) + (((64 : Int32) + a1) - (64 : Int32)))) rfl ?_
  refine i_180_226 (x := 128) rfl ?_
  refine i_180_227 (v := Value.int 16384) (xgn (by decide) (xgn (by decide) (xgn (by decide) hw0))) rfl ?_
  refine i_180_230 (fun _ => ?_) (fun h => absurd e16 (Int.not_le.mpr h))
  refine i_180_367 (x := 128) rfl ?_
  refine i_180_368 (v := Value.ref 135) (xgn (by decide) (xgn (by decide) (xgn (by decide) hw0))) rfl ?_
  refine i_180_371 (v := Value.int 3) (xgs (xgn (by decide) (xgn (by decide) hw12))) rfl ?_
  refine i_180_374 (fun _ => ?_) (fun h => absurd h (by decide))
  refine i_180_392 (x := 128) rfl ?_
  refine i_180_393 (v := Value.int 0) (xgn (by decide) (xgn (by decide) (xgn (by decide) hw0))) rfl ?_
  refine i_180_396 (fun h => absurd h (by decide)) (fun _ => ?_)
  refine i_180_399 (x := 128) rfl ?_
  refine i_180_400 (v := Value.int 0) (xgn (by decide) (xgn (by decide) (xgn (by decide) hw0))) rfl ?_
  refine i_180_403 (fun h => absurd h (by decide)) (fun _ => ?_)
  refine i_180_406 (x := ((64 : Int32) + (((64 : Int32) + a1) - (64 : Int32)))) rfl ?_
  refine i_180_408 (x := 128) rfl ?_
  refine i_180_409 (v := Value.int (-16384)) (xgn (by decide) (xgn (by decide) (xgn (by decide) hw0))) rfl ?_
  refine i_180_412 (fun _ => ?_) (fun h => absurd e17 (Int.not_le.mpr h))
  refine i_180_580 (x := 128) rfl ?_
  refine i_180_581 (x := a0) rfl ?_
  refine i_180_582 (x := 128) rfl ?_
  refine i_180_583 (v := Value.ref 135) (xgn (by decide) (xgn (by decide) (xgn (by decide) hw0))) rfl ?_
  refine i_180_586 (x := (((64 : Int32) + a1) - (64 : Int32))) rfl ?_
  refine i_180_588 (xgn (by decide) (xgn (by decide) (xgn (by decide) hw0))) (Nat.le_of_ble_eq_true rfl) (r_192_2 (xgn (by decide) (xgn (by decide) (xgn (by decide) hw0))) (xgn (by decide) (xgn (by decide) (xgn (by decide) hw1))) e2 e3 hg4 (xgs (xgn (by decide) (xgn (by decide) hw12))) (xgn (by decide) (xgs (xgn (by decide) hw13))) (xcp_i rfl hg7) hg8 e9 (xgn (by decide) (xgn (by decide) (xgn (by decide) hw18))) hg19 (xgn e20 (xgn e21 (xgn e22 hw23))) e24 e25 e26 (xgn (by decide) (xgn (by decide) (xgn (by decide) hw27))) e28 e29 e30 (xgn (by decide) (xgn (by decide) (xgn (by decide) hw31))) (xcp_i rfl hg14) (xcp_i rfl hg15) e32 e33 e34 e35 e36 e37 (xgn e38 (xgn e39 (xgn e40 hw41))) e42 e43 e44 e45 e46 e47 (xgn (by decide) (xgn (by decide) (xgn (by decide) hw48))) e49 e50 (xgn (by decide) (xgn (by decide) (xgn (by decide) hw51)))) ?_
  refine i_180_591 (x := 128) rfl ?_
  refine i_180_592 (v := Value.int 0) (xgn (by decide) (xgn (by decide) (xgn e25 (xgn e45 (xgn (by decide) (xgn (by decide) (xgn e25 (xgn (by decide) (xgn (by decide) (xgn (by decide) hw0)))))))))) rfl ?_
  refine i_180_595 (fun h => absurd h (by decide)) (fun _ => ?_)
  refine i_180_598 (x := 128) rfl ?_
  refine i_180_599 (v := Value.int 0) (xgn (by decide) (xgn (by decide) (xgn e25 (xgn e45 (xgn (by decide) (xgn (by decide) (xgn e25 (xgn (by decide) (xgn (by decide) (xgn (by decide) hw0)))))))))) rfl ?_
  refine i_180_602 (fun _ => ?_) (fun h => absurd h (by decide))
  refine i_180_629 (x := 0) rfl ?_
  refine i_180_631 (fun _ => ?_) (fun h => absurd h (by decide))
  refine i_180_644 (x := 0) rfl ?_
  refine i_180_646 (fun _ => ?_) (fun h => absurd h (by decide))
  refine i_180_655 (x := 0) rfl ?_
  exact i_180_657 ⟨rfl, rfl⟩
theorem r_248_31 {d : Nat} {w : xW} {a0 : Int32} {b0 : Int64} {a1 : Int32} {a2 : Int32} {g0 : Nat → Value} {g1 : Nat → Value} {h0 : Nat} {h1 : Nat} (e0 : 0 ≤ a0.toInt) (e1 : a0.toInt ≤ 15) (e2 : 0 ≤ a1.toInt) (e3 : a1.toInt ≤ 4) (hg4 : (xfe b0) = a2) (e5 : a2.toInt ≠ 2047) (e6 : a2.toInt ≠ 0) (hw7 : w[128]? = some (Sum.inr (12, [Value.ref 129, Value.ref 131, Value.ref 133, Value.ref 135, Value.ref 137, Value.ref 139, Value.ref 141, Value.ref 143, Value.ref 145, Value.ref 147, Value.ref 149, Value.ref 151, Value.ref 153, Value.ref 154, Value.ref 155, Value.ref 156, Value.ref 157, Value.int (-16384), Value.int 16384, Value.int 0, Value.int 0, Value.int 0, Value.ref 158, Value.ref 159, Value.int 0, Value.int 0, Value.int 0, Value.int 0, Value.int 0, Value.int 0, Value.int 0, Value.int 0]))) (hw8 : w[129]? = some (Sum.inr (13, [Value.ref 130, Value.int 0]))) (e9 : (lg_cmp (xfo b0) (0 : Int64)).toInt ≠ 0) (hw10 : w[130]? = some (Sum.inl (0, 4700, fun _ => Value.int 0))) (e11 : (lg_cmp (xqs (xfo b0)) (0 : Int64)).toInt ≠ 0) (e12 : (lg_cmp (xqs (xqs (xfo b0))) (0 : Int64)).toInt ≠ 0) (hg13 : (lg_cmp (xqs (xqs (xqs (xfo b0)))) (0 : Int64)) = 0) (e14 : 0 ≤ (lg_cmp b0 (0 : Int64)).toInt) (hw15 : w[153]? = some (Sum.inl (0, 17, g0))) (e16 : a0.toInt < 17) (hg17 : g0 a0.toInt.toNat = Value.int 64) (hg18 : ((60 : Int32) + (xbn (xq (xqs (xqs (xfo b0)))))) = 64) (e19 : 0 ≤ (xq (xqs (xqs (xfo b0)))).toInt) (hg20 : ((((64 : Int32) + (a2 - (1075 : Int32))) - (64 : Int32)) - (a2 - (1075 : Int32))) = 0) (hw21 : w[156]? = some (Sum.inl (2, 17, fun _ => Value.int 0))) (hw22 : w[135]? = some (Sum.inr (13, [Value.ref 136, Value.int 0]))) (hw23 : w[136]? = some (Sum.inl (0, 4700, fun _ => Value.int 0))) (e24 : ((64 : Int32) + (((64 : Int32) + (a2 - (1075 : Int32))) - (64 : Int32))).toInt ≤ 16384) (e25 : (-16384) ≤ ((64 : Int32) + (((64 : Int32) + (a2 - (1075 : Int32))) - (64 : Int32))).toInt) (hw26 : w[157]? = some (Sum.inl (5, 17, g1))) (hg27 : g1 a0.toInt.toNat = Value.ref h0) (e28 : 135 ≠ h0) (e29 : 136 ≠ h0) (e30 : 156 ≠ h0) (e31 : 129 ≠ h0) (e32 : 130 ≠ h0) (hw33 : w[h0]? = some (Sum.inr (13, [Value.ref h1, Value.int 0]))) (e34 : 7 ≤ h0) (e35 : h0 ≠ 128) (e36 : h0 ≠ 137) (hw37 : w[137]? = some (Sum.inr (13, [Value.ref 138, Value.int 0]))) (e38 : h0 ≠ 135) (e39 : h0 ≠ 136) (e40 : h0 ≠ 138) (hw41 : w[138]? = some (Sum.inl (0, 4700, fun _ => Value.int 0))) (e42 : h0 ≠ 157) (e43 : 137 ≠ h0) (e44 : 138 ≠ h0) (e45 : 137 ≠ h1) (e46 : 138 ≠ h1) (e47 : h0 ≠ h1) (e48 : 135 ≠ h1) (e49 : 136 ≠ h1) (e50 : 156 ≠ h1) (e51 : 129 ≠ h1) (e52 : 130 ≠ h1) (hw53 : w[h1]? = some (Sum.inl (0, 140, fun _ => Value.int 0))) (e54 : 7 ≤ h1) (e55 : h1 ≠ 137) (e56 : h1 ≠ h0) (e57 : h1 ≠ 128) (e58 : h0 ≠ 154) (e59 : h1 ≠ 154) (hw60 : w[154]? = some (Sum.inl (0, 17, fun _ => Value.int 0))) (e61 : h0 ≠ 155) (e62 : h1 ≠ 155) (hw63 : w[155]? = some (Sum.inl (0, 17, fun _ => Value.int 0))) : xRun (d + 4) 248 [Value.ref 128, Value.int a0, Value.long b0, Value.int a1] w (.inl (some (Value.int 0))) (((((((((((((((((w.set 129 (Sum.inr (13, [Value.ref 130, Value.int 0]))).set 130 (Sum.inl (0, 4700, xup (fun _ => Value.int 0) (0 : Int32).toInt.toNat (Value.int (xq (xfo b0)))))).set 129 (Sum.inr (13, [Value.ref 130, Value.int 1]))).set 130 (Sum.inl (0, 4700, xup (xup (fun _ => Value.int 0) (0 : Int32).toInt.toNat (Value.int (xq (xfo b0)))) (1 : Int32).toInt.toNat (Value.int (xq (xqs (xfo b0))))))).set 129 (Sum.inr (13, [Value.ref 130, Value.int 2]))).set 130 (Sum.inl (0, 4700, xup (xup (xup (fun _ => Value.int 0) (0 : Int32).toInt.toNat (Value.int (xq (xfo b0)))) (1 : Int32).toInt.toNat (Value.int (xq (xqs (xfo b0))))) (2 : Int32).toInt.toNat (Value.int (xq (xqs (xqs (xfo b0)))))))).set 129 (Sum.inr (13, [Value.ref 130, Value.int 3]))).set 156 (Sum.inl (2, 17, xup (fun _ => Value.int 0) a0.toInt.toNat (Value.int 0)))).set 136 (Sum.inl (0, 4700, xcp (xup (xup (xup (fun _ => Value.int 0) (0 : Int32).toInt.toNat (Value.int (xq (xfo b0)))) (1 : Int32).toInt.toNat (Value.int (xq (xqs (xfo b0))))) (2 : Int32).toInt.toNat (Value.int (xq (xqs (xqs (xfo b0)))))) (fun _ => Value.int 0) (0 : Int32).toInt.toNat (0 : Int32).toInt.toNat (3 : Int32).toInt.toNat))).set 135 (Sum.inr (13, [Value.ref 136, Value.int 3]))).set h0 (Sum.inr (13, [Value.ref h1, Value.int 0]))).set 138 (Sum.inl (0, 4700, xcp (xcp (xup (xup (xup (fun _ => Value.int 0) (0 : Int32).toInt.toNat (Value.int (xq (xfo b0)))) (1 : Int32).toInt.toNat (Value.int (xq (xqs (xfo b0))))) (2 : Int32).toInt.toNat (Value.int (xq (xqs (xqs (xfo b0)))))) (fun _ => Value.int 0) (0 : Int32).toInt.toNat (0 : Int32).toInt.toNat (3 : Int32).toInt.toNat) (fun _ => Value.int 0) (0 : Int32).toInt.toNat (0 : Int32).toInt.toNat (3 : Int32).toInt.toNat))).set 137 (Sum.inr (13, [Value.ref 138, Value.int 3]))).set h1 (Sum.inl (0, 140, xcp (xcp (xcp (xup (xup (xup (fun _ => Value.int 0) (0 : Int32).toInt.toNat (Value.int (xq (xfo b0)))) (1 : Int32).toInt.toNat (Value.int (xq (xqs (xfo b0))))) (2 : Int32).toInt.toNat (Value.int (xq (xqs (xqs (xfo b0)))))) (fun _ => Value.int 0) (0 : Int32).toInt.toNat (0 : Int32).toInt.toNat (3 : Int32).toInt.toNat) (fun _ => Value.int 0) (0 : Int32).toInt.toNat (0 : Int32).toInt.toNat (3 : Int32).toInt.toNat) (fun _ => Value.int 0) (0 : Int32).toInt.toNat (0 : Int32).toInt.toNat (3 : Int32).toInt.toNat))).set h0 (Sum.inr (13, [Value.ref h1, Value.int 3]))).set 154 (Sum.inl (0, 17, xup (fun _ => Value.int 0) a0.toInt.toNat (Value.int 3)))).set 155 (Sum.inl (0, 17, xup (fun _ => Value.int 0) a0.toInt.toNat (Value.int ((64 : Int32) + (((64 : Int32) + (a2 - (1075 : Int32))) - (64 : Int32))))))) := by
  refine xRun.of ?_
  refine i_248_0 (x := a0) rfl ?_
  refine i_248_1 (Nat.le_of_ble_eq_true rfl) (r_168_1 e0 e1) ?_
  refine i_248_4 (x := a1) rfl ?_
  refine i_248_6 (Nat.le_of_ble_eq_true rfl) (r_178_2 e2 e3) ?_
  refine i_248_9 (x := b0) rfl ?_
  refine i_248_10 ?_
  refine i_248_12 (c := (b0 >>> ((52 : Int32).toInt64 &&& 63))) rfl ?_
  refine i_248_13 (c := (b0 >>> ((52 : Int32).toInt64 &&& 63)).toInt32) rfl ?_
  refine i_248_14 ?_
  refine i_248_17 (c := a2) hg4 ?_
  refine i_248_18 (lv2 := [(5, Value.int a2), (0, Value.ref 128), (1, Value.int a0), (2, Value.long b0), (4, Value.int a1)]) rfl ?_
  refine i_248_20 (x := b0) rfl ?_
  refine i_248_21 ?_
  refine i_248_24 (c := (xfr b0)) rfl ?_
  refine i_248_25 (lv2 := [(6, Value.long (xfr b0)), (5, Value.int a2), (0, Value.ref 128), (1, Value.int a0), (2, Value.long b0), (4, Value.int a1)]) rfl ?_
  refine i_248_27 (x := a2) rfl ?_
  refine i_248_29 ?_
  refine i_248_32 (fun _ => ?_) (fun h => absurd e5 (fun g => g h))
  refine i_248_71 (x := a2) rfl ?_
  refine i_248_73 (fun _ => ?_) (fun h => absurd e6 (fun g => g h))
  refine i_248_101 (x := 128) rfl ?_
  refine i_248_102 (v := Value.ref 129) hw7 rfl ?_
  refine i_248_105 (x := a2) rfl ?_
  refine i_248_107 (fun _ => ?_) (fun h => absurd e6 (fun g => g h))
  refine i_248_115 (x := (xfr b0)) rfl ?_
  refine i_248_117 ?_
  refine i_248_120 (c := (xfo b0)) rfl ?_
  refine i_248_121 hw8 (Nat.le_of_ble_eq_true rfl) (r_179_3 hw8 e9 hw10 e11 e12 hg13) ?_
  refine i_248_124 (x := 128) rfl ?_
  refine i_248_125 (x := a0) rfl ?_
  refine i_248_126 (x := 128) rfl ?_
  refine i_248_127 (v := Value.ref 129) (xgn (by decide) (xgn (by decide) (xgn (by decide) (xgn (by decide) (xgn (by decide) (xgn (by decide) (xgn (by decide) hw7))))))) rfl ?_
  refine i_248_130 (x := a2) rfl ?_
  refine i_248_132 (fun _ => ?_) (fun h => absurd e6 (fun g => g h))
  refine i_248_139 (x := a2) rfl ?_
  refine i_248_141 ?_
  refine i_248_144 (c := (a2 - (1075 : Int32))) rfl ?_
  refine i_248_145 ?_
  refine i_248_146 (x := b0) rfl ?_
  refine i_248_147 ?_
  refine i_248_148 (c := (lg_cmp b0 (0 : Int64))) rfl ?_
  refine i_248_149 (fun _ => ?_) (fun h => absurd e14 (Int.not_le.mpr h))
  refine i_248_156 ?_
  refine i_248_157 (x := a1) rfl ?_
  refine i_248_159 (xgn (by decide) (xgn (by decide) (xgn (by decide) (xgn (by decide) (xgn (by decide) (xgn (by decide) (xgn (by decide) hw7))))))) (Nat.le_of_ble_eq_true rfl) (r_180_23 (xgn (by decide) (xgn (by decide) (xgn (by decide) (xgn (by decide) (xgn (by decide) (xgn (by decide) (xgn (by decide) hw7))))))) (xgn (by decide) (xgn (by decide) (xgn (by decide) (xgn (by decide) (xgn (by decide) (xgn (by decide) (xgn (by decide) hw15))))))) e0 e16 hg17 (xgs (xgn (by decide) (xgs (xgn (by decide) (xgs (xgn (by decide) (xgs hw8))))))) (xgn (by decide) (xgs (xgn (by decide) (xgs (xgn (by decide) (xgs (xgn (by decide) hw10))))))) xup_s hg18 e19 hg20 (xgn (by decide) (xgn (by decide) (xgn (by decide) (xgn (by decide) (xgn (by decide) (xgn (by decide) (xgn (by decide) hw21))))))) (xgn (by decide) (xgn (by decide) (xgn (by decide) (xgn (by decide) (xgn (by decide) (xgn (by decide) (xgn (by decide) hw22))))))) (xgn (by decide) (xgn (by decide) (xgn (by decide) (xgn (by decide) (xgn (by decide) (xgn (by decide) (xgn (by decide) hw23))))))) (xup_n (by decide) (xup_n (by decide) xup_s)) (xup_n (by decide) xup_s) e24 e25 (xgn (by decide) (xgn (by decide) (xgn (by decide) (xgn (by decide) (xgn (by decide) (xgn (by decide) (xgn (by decide) hw26))))))) hg27 e28 e29 e30 (xgn e31 (xgn e32 (xgn e31 (xgn e32 (xgn e31 (xgn e32 (xgn e31 hw33))))))) e34 e35 e36 (xgn (by decide) (xgn (by decide) (xgn (by decide) (xgn (by decide) (xgn (by decide) (xgn (by decide) (xgn (by decide) hw37))))))) e38 e39 e40 (xgn (by decide) (xgn (by decide) (xgn (by decide) (xgn (by decide) (xgn (by decide) (xgn (by decide) (xgn (by decide) hw41))))))) e42 e43 e44 e45 e46 e47 e48 e49 e50 (xgn e51 (xgn e52 (xgn e51 (xgn e52 (xgn e51 (xgn e52 (xgn e51 hw53))))))) e54 e55 e56 e57 e58 e59 (xgn (by decide) (xgn (by decide) (xgn (by decide) (xgn (by decide) (xgn (by decide) (xgn (by decide) (xgn (by decide) hw60))))))) e61 e62 (xgn (by decide) (xgn (by decide) (xgn (by decide) (xgn (by decide) (xgn (by decide) (xgn (by decide) (xgn (by decide) hw63)))))))) ?_
  exact i_248_162 ⟨rfl, rfl⟩
theorem r_247_31 {d : Nat} {w : xW} {a0 : Int32} {b0 : Int64} {a1 : Int32} {a2 : Int32} {g0 : Nat → Value} {g1 : Nat → Value} {h0 : Nat} {h1 : Nat} (hw0 : w[128]? = some (Sum.inr (12, [Value.ref 129, Value.ref 131, Value.ref 133, Value.ref 135, Value.ref 137, Value.ref 139, Value.ref 141, Value.ref 143, Value.ref 145, Value.ref 147, Value.ref 149, Value.ref 151, Value.ref 153, Value.ref 154, Value.ref 155, Value.ref 156, Value.ref 157, Value.int (-16384), Value.int 16384, Value.int 0, Value.int 0, Value.int 0, Value.ref 158, Value.ref 159, Value.int 0, Value.int 0, Value.int 0, Value.int 0, Value.int 0, Value.int 0, Value.int 0, Value.int 0]))) (e1 : 0 ≤ a0.toInt) (e2 : a0.toInt ≤ 15) (e3 : 0 ≤ a1.toInt) (e4 : a1.toInt ≤ 4) (hg5 : (xfe b0) = a2) (e6 : a2.toInt ≠ 2047) (e7 : a2.toInt ≠ 0) (hw8 : w[129]? = some (Sum.inr (13, [Value.ref 130, Value.int 0]))) (e9 : (lg_cmp (xfo b0) (0 : Int64)).toInt ≠ 0) (hw10 : w[130]? = some (Sum.inl (0, 4700, fun _ => Value.int 0))) (e11 : (lg_cmp (xqs (xfo b0)) (0 : Int64)).toInt ≠ 0) (e12 : (lg_cmp (xqs (xqs (xfo b0))) (0 : Int64)).toInt ≠ 0) (hg13 : (lg_cmp (xqs (xqs (xqs (xfo b0)))) (0 : Int64)) = 0) (e14 : 0 ≤ (lg_cmp b0 (0 : Int64)).toInt) (hw15 : w[153]? = some (Sum.inl (0, 17, g0))) (e16 : a0.toInt < 17) (hg17 : g0 a0.toInt.toNat = Value.int 64) (hg18 : ((60 : Int32) + (xbn (xq (xqs (xqs (xfo b0)))))) = 64) (e19 : 0 ≤ (xq (xqs (xqs (xfo b0)))).toInt) (hg20 : ((((64 : Int32) + (a2 - (1075 : Int32))) - (64 : Int32)) - (a2 - (1075 : Int32))) = 0) (hw21 : w[156]? = some (Sum.inl (2, 17, fun _ => Value.int 0))) (hw22 : w[135]? = some (Sum.inr (13, [Value.ref 136, Value.int 0]))) (hw23 : w[136]? = some (Sum.inl (0, 4700, fun _ => Value.int 0))) (e24 : ((64 : Int32) + (((64 : Int32) + (a2 - (1075 : Int32))) - (64 : Int32))).toInt ≤ 16384) (e25 : (-16384) ≤ ((64 : Int32) + (((64 : Int32) + (a2 - (1075 : Int32))) - (64 : Int32))).toInt) (hw26 : w[157]? = some (Sum.inl (5, 17, g1))) (hg27 : g1 a0.toInt.toNat = Value.ref h0) (e28 : 135 ≠ h0) (e29 : 136 ≠ h0) (e30 : 156 ≠ h0) (e31 : 129 ≠ h0) (e32 : 130 ≠ h0) (e33 : 128 ≠ h0) (hw34 : w[h0]? = some (Sum.inr (13, [Value.ref h1, Value.int 0]))) (e35 : 7 ≤ h0) (e36 : h0 ≠ 128) (e37 : h0 ≠ 137) (hw38 : w[137]? = some (Sum.inr (13, [Value.ref 138, Value.int 0]))) (e39 : h0 ≠ 135) (e40 : h0 ≠ 136) (e41 : h0 ≠ 138) (hw42 : w[138]? = some (Sum.inl (0, 4700, fun _ => Value.int 0))) (e43 : h0 ≠ 157) (e44 : 137 ≠ h0) (e45 : 138 ≠ h0) (e46 : 137 ≠ h1) (e47 : 138 ≠ h1) (e48 : h0 ≠ h1) (e49 : 135 ≠ h1) (e50 : 136 ≠ h1) (e51 : 156 ≠ h1) (e52 : 129 ≠ h1) (e53 : 130 ≠ h1) (e54 : 128 ≠ h1) (hw55 : w[h1]? = some (Sum.inl (0, 140, fun _ => Value.int 0))) (e56 : 7 ≤ h1) (e57 : h1 ≠ 137) (e58 : h1 ≠ h0) (e59 : h1 ≠ 128) (e60 : h0 ≠ 154) (e61 : h1 ≠ 154) (hw62 : w[154]? = some (Sum.inl (0, 17, fun _ => Value.int 0))) (e63 : h0 ≠ 155) (e64 : h1 ≠ 155) (hw65 : w[155]? = some (Sum.inl (0, 17, fun _ => Value.int 0))) : xRun (d + 5) 247 [Value.ref 128, Value.int a0, Value.long b0, Value.int a1] w (.inl (some (Value.int 0))) ((((((((((((((((((w.set 128 (Sum.inr (12, [Value.ref 129, Value.ref 131, Value.ref 133, Value.ref 135, Value.ref 137, Value.ref 139, Value.ref 141, Value.ref 143, Value.ref 145, Value.ref 147, Value.ref 149, Value.ref 151, Value.ref 153, Value.ref 154, Value.ref 155, Value.ref 156, Value.ref 157, Value.int (-16384), Value.int 16384, Value.int 0, Value.int 0, Value.int 0, Value.ref 158, Value.ref 159, Value.int 0, Value.int 0, Value.int 0, Value.int 0, Value.int 0, Value.int 0, Value.int 0, Value.int 0]))).set 129 (Sum.inr (13, [Value.ref 130, Value.int 0]))).set 130 (Sum.inl (0, 4700, xup (fun _ => Value.int 0) (0 : Int32).toInt.toNat (Value.int (xq (xfo b0)))))).set 129 (Sum.inr (13, [Value.ref 130, Value.int 1]))).set 130 (Sum.inl (0, 4700, xup (xup (fun _ => Value.int 0) (0 : Int32).toInt.toNat (Value.int (xq (xfo b0)))) (1 : Int32).toInt.toNat (Value.int (xq (xqs (xfo b0))))))).set 129 (Sum.inr (13, [Value.ref 130, Value.int 2]))).set 130 (Sum.inl (0, 4700, xup (xup (xup (fun _ => Value.int 0) (0 : Int32).toInt.toNat (Value.int (xq (xfo b0)))) (1 : Int32).toInt.toNat (Value.int (xq (xqs (xfo b0))))) (2 : Int32).toInt.toNat (Value.int (xq (xqs (xqs (xfo b0)))))))).set 129 (Sum.inr (13, [Value.ref 130, Value.int 3]))).set 156 (Sum.inl (2, 17, xup (fun _ => Value.int 0) a0.toInt.toNat (Value.int 0)))).set 136 (Sum.inl (0, 4700, xcp (xup (xup (xup (fun _ => Value.int 0) (0 : Int32).toInt.toNat (Value.int (xq (xfo b0)))) (1 : Int32).toInt.toNat (Value.int (xq (xqs (xfo b0))))) (2 : Int32).toInt.toNat (Value.int (xq (xqs (xqs (xfo b0)))))) (fun _ => Value.int 0) (0 : Int32).toInt.toNat (0 : Int32).toInt.toNat (3 : Int32).toInt.toNat))).set 135 (Sum.inr (13, [Value.ref 136, Value.int 3]))).set h0 (Sum.inr (13, [Value.ref h1, Value.int 0]))).set 138 (Sum.inl (0, 4700, xcp (xcp (xup (xup (xup (fun _ => Value.int 0) (0 : Int32).toInt.toNat (Value.int (xq (xfo b0)))) (1 : Int32).toInt.toNat (Value.int (xq (xqs (xfo b0))))) (2 : Int32).toInt.toNat (Value.int (xq (xqs (xqs (xfo b0)))))) (fun _ => Value.int 0) (0 : Int32).toInt.toNat (0 : Int32).toInt.toNat (3 : Int32).toInt.toNat) (fun _ => Value.int 0) (0 : Int32).toInt.toNat (0 : Int32).toInt.toNat (3 : Int32).toInt.toNat))).set 137 (Sum.inr (13, [Value.ref 138, Value.int 3]))).set h1 (Sum.inl (0, 140, xcp (xcp (xcp (xup (xup (xup (fun _ => Value.int 0) (0 : Int32).toInt.toNat (Value.int (xq (xfo b0)))) (1 : Int32).toInt.toNat (Value.int (xq (xqs (xfo b0))))) (2 : Int32).toInt.toNat (Value.int (xq (xqs (xqs (xfo b0)))))) (fun _ => Value.int 0) (0 : Int32).toInt.toNat (0 : Int32).toInt.toNat (3 : Int32).toInt.toNat) (fun _ => Value.int 0) (0 : Int32).toInt.toNat (0 : Int32).toInt.toNat (3 : Int32).toInt.toNat) (fun _ => Value.int 0) (0 : Int32).toInt.toNat (0 : Int32).toInt.toNat (3 : Int32).toInt.toNat))).set h0 (Sum.inr (13, [Value.ref h1, Value.int 3]))).set 154 (Sum.inl (0, 17, xup (fun _ => Value.int 0) a0.toInt.toNat (Value.int 3)))).set 155 (Sum.inl (0, 17, xup (fun _ => Value.int 0) a0.toInt.toNat (Value.int ((64 : Int32) + (((64 : Int32) + (a2 - (1075 : Int32))) - (64 : Int32))))))) := by
  refine xRun.of ?_
  refine i_247_0 (x := 128) rfl ?_
  refine i_247_1 ?_
  refine i_247_2 (fs2 := [Value.ref 129, Value.ref 131, Value.ref 133, Value.ref 135, Value.ref 137, Value.ref 139, Value.ref 141, Value.ref 143, Value.ref 145, Value.ref 147, Value.ref 149, Value.ref 151, Value.ref 153, Value.ref 154, Value.ref 155, Value.ref 156, Value.ref 157, Value.int (-16384), Value.int 16384, Value.int 0, Value.int 0, Value.int 0, Value.ref 158, Value.ref 159, Value.int 0, Value.int 0, Value.int 0, Value.int 0, Value.int 0, Value.int 0, Value.int 0, Value.int 0]) hw0 (Nat.le_of_ble_eq_true rfl) rfl (by decide) ?_
  refine i_247_5 (x := 128) rfl ?_
  refine i_247_6 (x := a0) rfl ?_
  refine i_247_7 (x := b0) rfl ?_
  refine i_247_8 (x := a1) rfl ?_
  refine i_247_10 (xgs hw0) (Nat.le_of_ble_eq_true rfl) (r_248_31 e1 e2 e3 e4 hg5 e6 e7 (xgs hw0) (xgn (by decide) hw8) e9 (xgn (by decide) hw10) e11 e12 hg13 e14 (xgn (by decide) hw15) e16 hg17 hg18 e19 hg20 (xgn (by decide) hw21) (xgn (by decide) hw22) (xgn (by decide) hw23) e24 e25 (xgn (by decide) hw26) hg27 e28 e29 e30 e31 e32 (xgn e33 hw34) e35 e36 e37 (xgn (by decide) hw38) e39 e40 e41 (xgn (by decide) hw42) e43 e44 e45 e46 e47 e48 e49 e50 e51 e52 e53 (xgn e54 hw55) e56 e57 e58 e59 e60 e61 (xgn (by decide) hw62) e63 e64 (xgn (by decide) hw65)) ?_
  exact i_247_13 ⟨rfl, rfl⟩
theorem o_16_36 {d : Nat} {xs : Nat → Int32} {B K G : Int32} (h0 : ((xs 0) &&& (31 : Int32)).toInt = 16) (c0 : 0 ≤ (xs 1).toInt) (c1 : (xs 1).toInt < 16) (c2 : 0 ≤ (xs 4).toInt) (c3 : (xs 4).toInt ≤ 4) (c4 : 0 ≤ (lg_cmp (xvv xs) (0 : Int64)).toInt) (c5 : (xfd (xvv xs)).toInt ≠ 2047) (c6 : (xfd (xvv xs)).toInt ≠ 0) (c7 : K.toInt = 64 - B.toInt) (c8 : 64 ≤ B.toInt) (c9 : B.toInt ≤ 64) (c10 : (xhi (xfo (xvv xs))).toInt ≠ 0) (c11 : (xnlz (xhi (xfo (xvv xs)))).toInt = 64 - B.toInt) (c12 : (xbf 2 (xlo (xfo (xvv xs))) (xhi (xfo (xvv xs))) ((32 : Int32) - K)).toInt ≠ 0) (c13 : (lg_cmp (xfo (xvv xs)) (0 : Int64)).toInt ≠ 0) (c14 : (lg_cmp (xqs (xfo (xvv xs))) (0 : Int64)).toInt ≠ 0) (c15 : (lg_cmp (xqs (xqs (xfo (xvv xs)))) (0 : Int64)).toInt ≠ 0) (c16 : (lg_cmp (xqs (xqs (xqs (xfo (xvv xs))))) (0 : Int64)).toInt = 0) (c17 : (xbn (xq (xqs (xqs (xfo (xvv xs)))))).toInt = B.toInt - 60) (c18 : (xq (xqs (xqs (xfo (xvv xs))))).toInt ≠ 0) (c19 : 0 ≤ (xq (xqs (xqs (xfo (xvv xs))))).toInt) (c20 : K.toInt = 0) (c21 : (xbn (xq (xqs (xqs (xfo (xvv xs)))))).toInt = 4) (c22 : G.toInt = B.toInt - 61) : ∃ w1, xEv (d + 20) 287 23 [(4, Value.int 0), (3, Value.ref 194), (2, Value.ref 128), (1, Value.ref 7), (0, Value.ref 0)] [] (W0 6 xs) (fun o' w' => o' = .inl (some (Value.int 1)) ∧ w' = w1) ∧ w1.length ≤ 220 ∧ xsz w1 ≤ 200000 := by
  have f0 : 0 ≤ (xfd (xvv xs)).toInt := (xfd_b _).1
  have f1 : (xfd (xvv xs)).toInt ≤ 2047 := (xfd_b _).2
  have f2 : ((64 : Int32) - (xnlz (xhi (xfo (xvv xs))))).toInt = 64 - (xnlz (xhi (xfo (xvv xs)))).toInt := xsub_g rfl rfl (by omega) (by omega)
  have f3 : ((xfd (xvv xs)) - (1075 : Int32)).toInt = (xfd (xvv xs)).toInt - 1075 := xsub_g rfl rfl (by omega) (by omega)
  have f4 : ((64 : Int32) + ((xfd (xvv xs)) - (1075 : Int32))).toInt = 64 + ((xfd (xvv xs)) - (1075 : Int32)).toInt := xadd_g rfl rfl (by omega) (by omega)
  have f5 : (((64 : Int32) + ((xfd (xvv xs)) - (1075 : Int32))) - (64 : Int32)).toInt = ((64 : Int32) + ((xfd (xvv xs)) - (1075 : Int32))).toInt - 64 := xsub_g rfl rfl (by omega) (by omega)
  have f6 : ((((64 : Int32) + ((xfd (xvv xs)) - (1075 : Int32))) - (64 : Int32)) - ((xfd (xvv xs)) - (1075 : Int32))).toInt = (((64 : Int32) + ((xfd (xvv xs)) - (1075 : Int32))) - (64 : Int32)).toInt - ((xfd (xvv xs)) - (1075 : Int32)).toInt := xsub_i (by omega) (by omega)
  have f7 : (((64 : Int32) + ((xfd (xvv xs)) - (1075 : Int32))) - (((64 : Int32) + ((xfd (xvv xs)) - (1075 : Int32))) - (64 : Int32))).toInt = ((64 : Int32) + ((xfd (xvv xs)) - (1075 : Int32))).toInt - (((64 : Int32) + ((xfd (xvv xs)) - (1075 : Int32))) - (64 : Int32)).toInt := xsub_i (by omega) (by omega)
  have f8 : ((60 : Int32) + (xbn (xq (xqs (xqs (xfo (xvv xs))))))).toInt = 60 + (xbn (xq (xqs (xqs (xfo (xvv xs)))))).toInt := xadd_g rfl rfl (by omega) (by omega)
  have f9 : ((64 : Int32) + (((64 : Int32) + ((xfd (xvv xs)) - (1075 : Int32))) - (64 : Int32))).toInt = 64 + (((64 : Int32) + ((xfd (xvv xs)) - (1075 : Int32))) - (64 : Int32)).toInt := xadd_g rfl rfl (by omega) (by omega)
  have G : id ((((((((0 ≤ (xs 1).toInt) ∧ ((xs 1).toInt < 16)) ∧ ((0 ≤ (xs 4).toInt) ∧ ((xs 4).toInt ≤ 4))) ∧ (((0 ≤ (lg_cmp (xvv xs) (0 : Int64)).toInt) ∧ ((xfd (xvv xs)).toInt ≠ 2047)) ∧ (((xfd (xvv xs)).toInt ≠ 0) ∧ ((xhi (xfo (xvv xs))).toInt ≠ 0)))) ∧ ((((16 ≠ (30 + 3 * (xs 1).toInt.toNat)) ∧ (17 ≠ (30 + 3 * (xs 1).toInt.toNat))) ∧ ((18 ≠ (30 + 3 * (xs 1).toInt.toNat)) ∧ (7 ≤ (30 + 3 * (xs 1).toInt.toNat)))) ∧ ((((30 + 3 * (xs 1).toInt.toNat) ≠ 16) ∧ ((30 + 3 * (xs 1).toInt.toNat) ≠ 17)) ∧ (((30 + 3 * (xs 1).toInt.toNat) ≠ 18) ∧ (((30 + 3 * (xs 1).toInt.toNat) ≠ (31 + 3 * (xs 1).toInt.toNat)) ∧ (16 ≠ (31 + 3 * (xs 1).toInt.toNat))))))) ∧ (((((17 ≠ (31 + 3 * (xs 1).toInt.toNat)) ∧ (18 ≠ (31 + 3 * (xs 1).toInt.toNat))) ∧ (((30 + 3 * (xs 1).toInt.toNat) ≠ (32 + 3 * (xs 1).toInt.toNat)) ∧ (16 ≠ (32 + 3 * (xs 1).toInt.toNat)))) ∧ (((17 ≠ (32 + 3 * (xs 1).toInt.toNat)) ∧ (18 ≠ (32 + 3 * (xs 1).toInt.toNat))) ∧ ((7 ≤ (32 + 3 * (xs 1).toInt.toNat)) ∧ ((32 + 3 * (xs 1).toInt.toNat) ≠ (31 + 3 * (xs 1).toInt.toNat))))) ∧ (((((32 + 3 * (xs 1).toInt.toNat) ≠ 17) ∧ ((32 + 3 * (xs 1).toInt.toNat) ≠ 18)) ∧ ((7 ≤ (31 + 3 * (xs 1).toInt.toNat)) ∧ ((31 + 3 * (xs 1).toInt.toNat) ≠ (30 + 3 * (xs 1).toInt.toNat)))) ∧ ((((32 + 3 * (xs 1).toInt.toNat) ≠ (30 + 3 * (xs 1).toInt.toNat)) ∧ ((31 + 3 * (xs 1).toInt.toNat) ≠ (32 + 3 * (xs 1).toInt.toNat))) ∧ (((31 + 3 * (xs 1).toInt.toNat) ≠ 78) ∧ (((32 + 3 * (xs 1).toInt.toNat) ≠ 78) ∧ ((30 + 3 * (xs 1).toInt.toNat) ≠ 78))))))) ∧ ((((((((64 : Int32) + ((xfd (xvv xs)) - (1075 : Int32))).toInt ≤ 16384) ∧ ((-16384) ≤ ((64 : Int32) + ((xfd (xvv xs)) - (1075 : Int32))).toInt)) ∧ (((31 + 3 * (xs 1).toInt.toNat) ≠ 16) ∧ ((32 + 3 * (xs 1).toInt.toNat) ≠ 16))) ∧ ((((31 + 3 * (xs 1).toInt.toNat) ≠ 194) ∧ ((32 + 3 * (xs 1).toInt.toNat) ≠ 194)) ∧ (((30 + 3 * (xs 1).toInt.toNat) ≠ 194) ∧ ((31 + 3 * (xs 1).toInt.toNat) ≠ 0)))) ∧ (((((32 + 3 * (xs 1).toInt.toNat) ≠ 0) ∧ ((30 + 3 * (xs 1).toInt.toNat) ≠ 0)) ∧ (((31 + 3 * (xs 1).toInt.toNat) ≠ 128) ∧ ((32 + 3 * (xs 1).toInt.toNat) ≠ 128))) ∧ ((((30 + 3 * (xs 1).toInt.toNat) ≠ 128) ∧ ((xs 1).toInt ≤ 15)) ∧ (((31 + 3 * (xs 1).toInt.toNat) ≠ 129) ∧ (((32 + 3 * (xs 1).toInt.toNat) ≠ 129) ∧ ((30 + 3 * (xs 1).toInt.toNat) ≠ 129)))))) ∧ ((((((lg_cmp (xfo (xvv xs)) (0 : Int64)).toInt ≠ 0) ∧ ((31 + 3 * (xs 1).toInt.toNat) ≠ 130)) ∧ (((32 + 3 * (xs 1).toInt.toNat) ≠ 130) ∧ ((30 + 3 * (xs 1).toInt.toNat) ≠ 130))) ∧ ((((lg_cmp (xqs (xfo (xvv xs))) (0 : Int64)).toInt ≠ 0) ∧ ((lg_cmp (xqs (xqs (xfo (xvv xs)))) (0 : Int64)).toInt ≠ 0)) ∧ (((31 + 3 * (xs 1).toInt.toNat) ≠ 153) ∧ (((32 + 3 * (xs 1).toInt.toNat) ≠ 153) ∧ ((30 + 3 * (xs 1).toInt.toNat) ≠ 153))))) ∧ (((((xs 1).toInt < 17) ∧ (0 ≤ (xq (xqs (xqs (xfo (xvv xs))))).toInt)) ∧ (((31 + 3 * (xs 1).toInt.toNat) ≠ 156) ∧ ((32 + 3 * (xs 1).toInt.toNat) ≠ 156))) ∧ ((((30 + 3 * (xs 1).toInt.toNat) ≠ 156) ∧ ((31 + 3 * (xs 1).toInt.toNat) ≠ 135)) ∧ (((32 + 3 * (xs 1).toInt.toNat) ≠ 135) ∧ (((30 + 3 * (xs 1).toInt.toNat) ≠ 135) ∧ ((31 + 3 * (xs 1).toInt.toNat) ≠ 136)))))))) ∧ ((((((((32 + 3 * (xs 1).toInt.toNat) ≠ 136) ∧ ((30 + 3 * (xs 1).toInt.toNat) ≠ 136)) ∧ ((((64 : Int32) + (((64 : Int32) + ((xfd (xvv xs)) - (1075 : Int32))) - (64 : Int32))).toInt ≤ 16384) ∧ ((-16384) ≤ ((64 : Int32) + (((64 : Int32) + ((xfd (xvv xs)) - (1075 : Int32))) - (64 : Int32))).toInt))) ∧ ((((31 + 3 * (xs 1).toInt.toNat) ≠ 157) ∧ ((32 + 3 * (xs 1).toInt.toNat) ≠ 157)) ∧ (((30 + 3 * (xs 1).toInt.toNat) ≠ 157) ∧ (135 ≠ (160 + 2 * (xs 1).toInt.toNat))))) ∧ ((((136 ≠ (160 + 2 * (xs 1).toInt.toNat)) ∧ (156 ≠ (160 + 2 * (xs 1).toInt.toNat))) ∧ ((129 ≠ (160 + 2 * (xs 1).toInt.toNat)) ∧ (130 ≠ (160 + 2 * (xs 1).toInt.toNat)))) ∧ (((128 ≠ (160 + 2 * (xs 1).toInt.toNat)) ∧ (194 ≠ (160 + 2 * (xs 1).toInt.toNat))) ∧ (((31 + 3 * (xs 1).toInt.toNat) ≠ (160 + 2 * (xs 1).toInt.toNat)) ∧ (((32 + 3 * (xs 1).toInt.toNat) ≠ (160 + 2 * (xs 1).toInt.toNat)) ∧ ((30 + 3 * (xs 1).toInt.toNat) ≠ (160 + 2 * (xs 1).toInt.toNat))))))) ∧ (((((16 ≠ (160 + 2 * (xs 1).toInt.toNat)) ∧ (17 ≠ (160 + 2 * (xs 1).toInt.toNat))) ∧ ((18 ≠ (160 + 2 * (xs 1).toInt.toNat)) ∧ (7 ≤ (160 + 2 * (xs 1).toInt.toNat)))) ∧ ((((160 + 2 * (xs 1).toInt.toNat) ≠ 128) ∧ ((160 + 2 * (xs 1).toInt.toNat) ≠ 137)) ∧ (((31 + 3 * (xs 1).toInt.toNat) ≠ 137) ∧ ((32 + 3 * (xs 1).toInt.toNat) ≠ 137)))) ∧ (((((30 + 3 * (xs 1).toInt.toNat) ≠ 137) ∧ ((160 + 2 * (xs 1).toInt.toNat) ≠ 135)) ∧ (((160 + 2 * (xs 1).toInt.toNat) ≠ 136) ∧ ((160 + 2 * (xs 1).toInt.toNat) ≠ 138))) ∧ ((((31 + 3 * (xs 1).toInt.toNat) ≠ 138) ∧ ((32 + 3 * (xs 1).toInt.toNat) ≠ 138)) ∧ (((30 + 3 * (xs 1).toInt.toNat) ≠ 138) ∧ (((160 + 2 * (xs 1).toInt.toNat) ≠ 157) ∧ (137 ≠ (160 + 2 * (xs 1).toInt.toNat)))))))) ∧ ((((((138 ≠ (160 + 2 * (xs 1).toInt.toNat)) ∧ (137 ≠ (161 + 2 * (xs 1).toInt.toNat))) ∧ ((138 ≠ (161 + 2 * (xs 1).toInt.toNat)) ∧ ((160 + 2 * (xs 1).toInt.toNat) ≠ (161 + 2 * (xs 1).toInt.toNat)))) ∧ (((135 ≠ (161 + 2 * (xs 1).toInt.toNat)) ∧ (136 ≠ (161 + 2 * (xs 1).toInt.toNat))) ∧ ((156 ≠ (161 + 2 * (xs 1).toInt.toNat)) ∧ (129 ≠ (161 + 2 * (xs 1).toInt.toNat))))) ∧ ((((130 ≠ (161 + 2 * (xs 1).toInt.toNat)) ∧ (128 ≠ (161 + 2 * (xs 1).toInt.toNat))) ∧ ((194 ≠ (161 + 2 * (xs 1).toInt.toNat)) ∧ ((31 + 3 * (xs 1).toInt.toNat) ≠ (161 + 2 * (xs 1).toInt.toNat)))) ∧ ((((32 + 3 * (xs 1).toInt.toNat) ≠ (161 + 2 * (xs 1).toInt.toNat)) ∧ ((30 + 3 * (xs 1).toInt.toNat) ≠ (161 + 2 * (xs 1).toInt.toNat))) ∧ ((16 ≠ (161 + 2 * (xs 1).toInt.toNat)) ∧ ((17 ≠ (161 + 2 * (xs 1).toInt.toNat)) ∧ (18 ≠ (161 + 2 * (xs 1).toInt.toNat))))))) ∧ (((((7 ≤ (161 + 2 * (xs 1).toInt.toNat)) ∧ ((161 + 2 * (xs 1).toInt.toNat) ≠ 137)) ∧ (((161 + 2 * (xs 1).toInt.toNat) ≠ (160 + 2 * (xs 1).toInt.toNat)) ∧ ((161 + 2 * (xs 1).toInt.toNat) ≠ 128))) ∧ ((((160 + 2 * (xs 1).toInt.toNat) ≠ 154) ∧ ((161 + 2 * (xs 1).toInt.toNat) ≠ 154)) ∧ (((31 + 3 * (xs 1).toInt.toNat) ≠ 154) ∧ (((32 + 3 * (xs 1).toInt.toNat) ≠ 154) ∧ ((30 + 3 * (xs 1).toInt.toNat) ≠ 154))))) ∧ (((((160 + 2 * (xs 1).toInt.toNat) ≠ 155) ∧ ((161 + 2 * (xs 1).toInt.toNat) ≠ 155)) ∧ (((31 + 3 * (xs 1).toInt.toNat) ≠ 155) ∧ ((32 + 3 * (xs 1).toInt.toNat) ≠ 155))) ∧ ((((30 + 3 * (xs 1).toInt.toNat) ≠ 155) ∧ ((160 + 2 * (xs 1).toInt.toNat) ≠ 194)) ∧ (((161 + 2 * (xs 1).toInt.toNat) ≠ 194) ∧ (((160 + 2 * (xs 1).toInt.toNat) ≠ 0) ∧ ((161 + 2 * (xs 1).toInt.toNat) ≠ 0))))))))) := ⟨⟨⟨⟨⟨⟨⟨by omega, by omega⟩, ⟨by omega, by omega⟩⟩, ⟨⟨by omega, by omega⟩, ⟨by omega, by omega⟩⟩⟩, ⟨⟨⟨by omega, by omega⟩, ⟨by omega, by omega⟩⟩, ⟨⟨by omega, by omega⟩, ⟨by omega, ⟨by omega, by omega⟩⟩⟩⟩⟩, ⟨⟨⟨⟨by omega, by omega⟩, ⟨by omega, by omega⟩⟩, ⟨⟨by omega, by omega⟩, ⟨by omega, by omega⟩⟩⟩, ⟨⟨⟨by omega, by omega⟩, ⟨by omega, by omega⟩⟩, ⟨⟨by omega, by omega⟩, ⟨by omega, ⟨by omega, by omega⟩⟩⟩⟩⟩⟩, ⟨⟨⟨⟨⟨by omega, by omega⟩, ⟨by omega, by omega⟩⟩, ⟨⟨by omega, by omega⟩, ⟨by omega, by omega⟩⟩⟩, ⟨⟨⟨by omega, by omega⟩, ⟨by omega, by omega⟩⟩, ⟨⟨by omega, by omega⟩, ⟨by omega, ⟨by omega, by omega⟩⟩⟩⟩⟩, ⟨⟨⟨⟨by omega, by omega⟩, ⟨by omega, by omega⟩⟩, ⟨⟨by omega, by omega⟩, ⟨by omega, ⟨by omega, by omega⟩⟩⟩⟩, ⟨⟨⟨by omega, by omega⟩, ⟨by omega, by omega⟩⟩, ⟨⟨by omega, by omega⟩, ⟨by omega, ⟨by omega, by omega⟩⟩⟩⟩⟩⟩⟩, ⟨⟨⟨⟨⟨⟨by omega, by omega⟩, ⟨by omega, by omega⟩⟩, ⟨⟨by omega, by omega⟩, ⟨by omega, by omega⟩⟩⟩, ⟨⟨⟨by omega, by omega⟩, ⟨by omega, by omega⟩⟩, ⟨⟨by omega, by omega⟩, ⟨by omega, ⟨by omega, by omega⟩⟩⟩⟩⟩, ⟨⟨⟨⟨by omega, by omega⟩, ⟨by omega, by omega⟩⟩, ⟨⟨by omega, by omega⟩, ⟨by omega, by omega⟩⟩⟩, ⟨⟨⟨by omega, by omega⟩, ⟨by omega, by omega⟩⟩, ⟨⟨by omega, by omega⟩, ⟨by omega, ⟨by omega, by omega⟩⟩⟩⟩⟩⟩, ⟨⟨⟨⟨⟨by omega, by omega⟩, ⟨by omega, by omega⟩⟩, ⟨⟨by omega, by omega⟩, ⟨by omega, by omega⟩⟩⟩, ⟨⟨⟨by omega, by omega⟩, ⟨by omega, by omega⟩⟩, ⟨⟨by omega, by omega⟩, ⟨by omega, ⟨by omega, by omega⟩⟩⟩⟩⟩, ⟨⟨⟨⟨by omega, by omega⟩, ⟨by omega, by omega⟩⟩, ⟨⟨by omega, by omega⟩, ⟨by omega, ⟨by omega, by omega⟩⟩⟩⟩, ⟨⟨⟨by omega, by omega⟩, ⟨by omega, by omega⟩⟩, ⟨⟨by omega, by omega⟩, ⟨by omega, ⟨by omega, by omega⟩⟩⟩⟩⟩⟩⟩⟩
  refine ⟨(((((((((((((((((((((((((((W0 6 xs).set 16 (Sum.inr (4, [Value.int 0, Value.ref 17, Value.int 0, Value.int 0]))).set 18 (Sum.inl (0, 8, xup (xup (fun _ => Value.int 0) (0 : Int32).toInt.toNat (Value.int (xlo (xfo (xvv xs))))) (1 : Int32).toInt.toNat (Value.int (xhi (xfo (xvv xs))))))).set 17 (Sum.inr (3, [Value.ref 18, Value.int 2]))).set 16 (Sum.inr (4, [Value.int 0, Value.ref 17, Value.int ((xfd (xvv xs)) - (1075 : Int32)), Value.int 0]))).set (30 + 3 * (xs 1).toInt.toNat) (Sum.inr (2, [Value.int 64, Value.int 3, Value.int 0, Value.int ((64 : Int32) + ((xfd (xvv xs)) - (1075 : Int32))), Value.ref (31 + 3 * (xs 1).toInt.toNat)]))).set (32 + 3 * (xs 1).toInt.toNat) (Sum.inl (0, 8, xup (xup (fun _ => Value.int 0) (1 : Int32).toInt.toNat (Value.int (xhi (xfo (xvv xs))))) (0 : Int32).toInt.toNat (Value.int (xlo (xfo (xvv xs))))))).set (31 + 3 * (xs 1).toInt.toNat) (Sum.inr (3, [Value.ref (32 + 3 * (xs 1).toInt.toNat), Value.int 2]))).set 194 (Sum.inl (3, 1, xup (fun _ => Value.long 0) (0 : Int32).toInt.toNat (Value.long 0)))).set 128 (Sum.inr (12, [Value.ref 129, Value.ref 131, Value.ref 133, Value.ref 135, Value.ref 137, Value.ref 139, Value.ref 141, Value.ref 143, Value.ref 145, Value.ref 147, Value.ref 149, Value.ref 151, Value.ref 153, Value.ref 154, Value.ref 155, Value.ref 156, Value.ref 157, Value.int (-16384), Value.int 16384, Value.int 0, Value.int 0, Value.int 0, Value.ref 158, Value.ref 159, Value.int 0, Value.int 0, Value.int 0, Value.int 0, Value.int 0, Value.int 0, Value.int 0, Value.int 0]))).set 129 (Sum.inr (13, [Value.ref 130, Value.int 0]))).set 130 (Sum.inl (0, 4700, xup (fun _ => Value.int 0) (0 : Int32).toInt.toNat (Value.int (xq (xfo (xvv xs))))))).set 129 (Sum.inr (13, [Value.ref 130, Value.int 1]))).set 130 (Sum.inl (0, 4700, xup (xup (fun _ => Value.int 0) (0 : Int32).toInt.toNat (Value.int (xq (xfo (xvv xs))))) (1 : Int32).toInt.toNat (Value.int (xq (xqs (xfo (xvv xs)))))))).set 129 (Sum.inr (13, [Value.ref 130, Value.int 2]))).set 130 (Sum.inl (0, 4700, xup (xup (xup (fun _ => Value.int 0) (0 : Int32).toInt.toNat (Value.int (xq (xfo (xvv xs))))) (1 : Int32).toInt.toNat (Value.int (xq (xqs (xfo (xvv xs)))))) (2 : Int32).toInt.toNat (Value.int (xq (xqs (xqs (xfo (xvv xs))))))))).set 129 (Sum.inr (13, [Value.ref 130, Value.int 3]))).set 156 (Sum.inl (2, 17, xup (fun _ => Value.int 0) (xs 1).toInt.toNat (Value.int 0)))).set 136 (Sum.inl (0, 4700, xcp (xup (xup (xup (fun _ => Value.int 0) (0 : Int32).toInt.toNat (Value.int (xq (xfo (xvv xs))))) (1 : Int32).toInt.toNat (Value.int (xq (xqs (xfo (xvv xs)))))) (2 : Int32).toInt.toNat (Value.int (xq (xqs (xqs (xfo (xvv xs))))))) (fun _ => Value.int 0) (0 : Int32).toInt.toNat (0 : Int32).toInt.toNat (3 : Int32).toInt.toNat))).set 135 (Sum.inr (13, [Value.ref 136, Value.int 3]))).set (160 + 2 * (xs 1).toInt.toNat) (Sum.inr (13, [Value.ref (161 + 2 * (xs 1).toInt.toNat), Value.int 0]))).set 138 (Sum.inl (0, 4700, xcp (xcp (xup (xup (xup (fun _ => Value.int 0) (0 : Int32).toInt.toNat (Value.int (xq (xfo (xvv xs))))) (1 : Int32).toInt.toNat (Value.int (xq (xqs (xfo (xvv xs)))))) (2 : Int32).toInt.toNat (Value.int (xq (xqs (xqs (xfo (xvv xs))))))) (fun _ => Value.int 0) (0 : Int32).toInt.toNat (0 : Int32).toInt.toNat (3 : Int32).toInt.toNat) (fun _ => Value.int 0) (0 : Int32).toInt.toNat (0 : Int32).toInt.toNat (3 : Int32).toInt.toNat))).set 137 (Sum.inr (13, [Value.ref 138, Value.int 3]))).set (161 + 2 * (xs 1).toInt.toNat) (Sum.inl (0, 140, xcp (xcp (xcp (xup (xup (xup (fun _ => Value.int 0) (0 : Int32).toInt.toNat (Value.int (xq (xfo (xvv xs))))) (1 : Int32).toInt.toNat (Value.int (xq (xqs (xfo (xvv xs)))))) (2 : Int32).toInt.toNat (Value.int (xq (xqs (xqs (xfo (xvv xs))))))) (fun _ => Value.int 0) (0 : Int32).toInt.toNat (0 : Int32).toInt.toNat (3 : Int32).toInt.toNat) (fun _ => Value.int 0) (0 : Int32).toInt.toNat (0 : Int32).toInt.toNat (3 : Int32).toInt.toNat) (fun _ => Value.int 0) (0 : Int32).toInt.toNat (0 : Int32).toInt.toNat (3 : Int32).toInt.toNat))).set (160 + 2 * (xs 1).toInt.toNat) (Sum.inr (13, [Value.ref (161 + 2 * (xs 1).toInt.toNat), Value.int 3]))).set 154 (Sum.inl (0, 17, xup (fun _ => Value.int 0) (xs 1).toInt.toNat (Value.int 3)))).set 155 (Sum.inl (0, 17, xup (fun _ => Value.int 0) (xs 1).toInt.toNat (Value.int ((64 : Int32) + (((64 : Int32) + ((xfd (xvv xs)) - (1075 : Int32))) - (64 : Int32))))))), ?_, (show xLs _ 220 200000 from ?_)⟩
  · refine i_287_23 (x := 0) rfl ?_
    refine i_287_25 (x := 0) rfl ?_
    refine i_287_26 (c := 6) W0_0 (by decide) ?_
    refine i_287_27 ?_
    refine i_287_29 (c := 0) (by decide) ?_
    refine i_287_30 (fun h => absurd h (by decide)) (fun _ => ?_)
    refine i_287_33 (x := 0) rfl ?_
    refine i_287_34 (x := 0) rfl ?_
    refine i_287_36 (v := Value.int (xs 0)) W0_0 (by decide) (by decide) rfl ?_
    refine i_287_37 ?_
    refine i_287_39 (c := 16) (show ((xs 0) &&& (31 : Int32)) = 16 from (xge_c (n := 16) (by omega) rfl)) ?_
    refine i_287_40_16 rfl ?_
    refine i_287_1540 (x := 7) rfl ?_
    refine i_287_1541 (x := 0) rfl ?_
    refine i_287_1542 (x := 0) rfl ?_
    refine i_287_1544 ?_
    refine i_287_1545 (c := 1) (by decide) ?_
    refine i_287_1546 (v := Value.int (xs 1)) W0_0 (by decide) (by decide) rfl ?_
    refine i_287_1547 (x := 0) rfl ?_
    refine i_287_1548 (x := 0) rfl ?_
    refine i_287_1550 ?_
    refine i_287_1551 (c := 2) (by decide) ?_
    refine i_287_1552 (v := Value.int (xs 2)) W0_0 (by decide) (by decide) rfl ?_
    refine i_287_1553 (c := (xs 2).toInt64) rfl ?_
    refine i_287_1554 ?_
    refine i_287_1556 (c := (xsh (xs 2) (32 : Int32))) rfl ?_
    refine i_287_1557 (x := 0) rfl ?_
    refine i_287_1558 (x := 0) rfl ?_
    refine i_287_1560 ?_
    refine i_287_1561 (c := 3) (by decide) ?_
    refine i_287_1562 (v := Value.int (xs 3)) W0_0 (by decide) (by decide) rfl ?_
    refine i_287_1563 (c := (xs 3).toInt64) rfl ?_
    refine i_287_1564 ?_
    refine i_287_1567 (c := (((xs 3).toInt64) &&& (4294967295 : Int64))) rfl ?_
    refine i_287_1568 (c := (xvv xs)) rfl ?_
    refine i_287_1569 (x := 0) rfl ?_
    refine i_287_1570 (x := 0) rfl ?_
    refine i_287_1572 ?_
    refine i_287_1573 (c := 4) (by decide) ?_
    refine i_287_1574 (v := Value.int (xs 4)) W0_0 (by decide) (by decide) rfl ?_
    refine i_287_1575 (x := 194) rfl ?_
    refine i_287_1576 (Nat.le_of_ble_eq_true rfl) (r_127_20 W0_7 (G.1.1.1.1.1.1.1) (G.1.1.1.1.1.1.2) (G.1.1.1.1.1.2.1) (G.1.1.1.1.1.2.2) W0_8 (greg_at (by omega)) (G.1.1.1.1.2.1.1) (G.1.1.1.1.2.1.2) (G.1.1.1.1.2.2.1) W0_16 W0_17 W0_18 (G.1.1.1.1.2.2.2) W0_78 (show ((64 : Int32) - (xnlz (xhi (xfo (xvv xs))))) = 64 from (xge_c (n := 64) (by omega) rfl)) (G.1.1.1.2.1.1.1) (G.1.1.1.2.1.1.2) (G.1.1.1.2.1.2.1) (W0_reg (by omega)) (show ((((64 : Int32) + ((xfd (xvv xs)) - (1075 : Int32))) - (64 : Int32)) - ((xfd (xvv xs)) - (1075 : Int32))) = 0 from (xge_c (n := 0) (by omega) rfl)) (show (((64 : Int32) + ((xfd (xvv xs)) - (1075 : Int32))) - (((64 : Int32) + ((xfd (xvv xs)) - (1075 : Int32))) - (64 : Int32))) = 64 from (xge_c (n := 64) (by omega) rfl)) (G.1.1.1.2.1.2.2) (G.1.1.1.2.2.1.1) (G.1.1.1.2.2.1.2) (G.1.1.1.2.2.2.1) (G.1.1.1.2.2.2.2.1) (G.1.1.1.2.2.2.2.2) (G.1.1.2.1.1.1.1) (G.1.1.2.1.1.1.2) (W0_man (by omega)) (G.1.1.2.1.1.2.1) (G.1.1.2.1.1.2.2) (G.1.1.2.1.2.1.1) (G.1.1.2.1.2.1.2) (W0_mw (by omega)) (G.1.1.2.1.2.2.1) (G.1.1.2.1.2.2.2) (G.1.1.2.2.1.1.1) (G.1.1.2.2.1.1.2) (G.1.1.2.2.1.2.1) (G.1.1.2.2.1.2.2) (G.1.1.2.2.2.1.1) (G.1.1.2.2.2.1.2) (G.1.1.2.2.2.2.1) (G.1.1.2.2.2.2.2.1) (G.1.1.2.2.2.2.2.2) (G.1.2.1.1.1.1.1) (G.1.2.1.1.1.1.2) (G.1.2.1.1.1.2.1) (G.1.2.1.1.1.2.2) (G.1.2.1.1.2.1.1) (G.1.2.1.1.2.1.2) (G.1.2.1.1.2.2.1) W0_194) ?_
    refine i_287_1579 (lv2 := [(5, Value.int 0), (4, Value.int 0), (3, Value.ref 194), (2, Value.ref 128), (1, Value.ref 7), (0, Value.ref 0)]) rfl ?_
    refine i_287_1581 (x := 128) rfl ?_
    refine i_287_1582 (x := 0) rfl ?_
    refine i_287_1583 (x := 0) rfl ?_
    refine i_287_1585 ?_
    refine i_287_1586 (c := 1) (by decide) ?_
    refine i_287_1587 (v := Value.int (xs 1)) (xgn (by decide) (xgn (G.1.2.1.1.2.2.2) (xgn (G.1.2.1.2.1.1.1) (xgn (G.1.2.1.2.1.1.2) (xgn (by decide) (xgn (by decide) (xgn (by decide) (xgn (by decide) W0_0)))))))) (by decide) (by decide) rfl ?_
    refine i_287_1588 (x := 0) rfl ?_
    refine i_287_1589 (x := 0) rfl ?_
    refine i_287_1591 ?_
    refine i_287_1592 (c := 2) (by decide) ?_
    refine i_287_1593 (v := Value.int (xs 2)) (xgn (by decide) (xgn (G.1.2.1.1.2.2.2) (xgn (G.1.2.1.2.1.1.1) (xgn (G.1.2.1.2.1.1.2) (xgn (by decide) (xgn (by decide) (xgn (by decide) (xgn (by decide) W0_0)))))))) (by decide) (by decide) rfl ?_
    refine i_287_1594 (c := (xs 2).toInt64) rfl ?_
    refine i_287_1595 ?_
    refine i_287_1597 (c := (xsh (xs 2) (32 : Int32))) rfl ?_
    refine i_287_1598 (x := 0) rfl ?_
    refine i_287_1599 (x := 0) rfl ?_
    refine i_287_1601 ?_
    refine i_287_1602 (c := 3) (by decide) ?_
    refine i_287_1603 (v := Value.int (xs 3)) (xgn (by decide) (xgn (G.1.2.1.1.2.2.2) (xgn (G.1.2.1.2.1.1.1) (xgn (G.1.2.1.2.1.1.2) (xgn (by decide) (xgn (by decide) (xgn (by decide) (xgn (by decide) W0_0)))))))) (by decide) (by decide) rfl ?_
    refine i_287_1604 (c := (xs 3).toInt64) rfl ?_
    refine i_287_1605 ?_
    refine i_287_1608 (c := (((xs 3).toInt64) &&& (4294967295 : Int64))) rfl ?_
    refine i_287_1609 (c := (xvv xs)) rfl ?_
    refine i_287_1610 (x := 0) rfl ?_
    refine i_287_1611 (x := 0) rfl ?_
    refine i_287_1613 ?_
    refine i_287_1614 (c := 4) (by decide) ?_
    refine i_287_1615 (v := Value.int (xs 4)) (xgn (by decide) (xgn (G.1.2.1.1.2.2.2) (xgn (G.1.2.1.2.1.1.1) (xgn (G.1.2.1.2.1.1.2) (xgn (by decide) (xgn (by decide) (xgn (by decide) (xgn (by decide) W0_0)))))))) (by decide) (by decide) rfl ?_
    refine i_287_1616 (xgn (by decide) (xgn (G.1.2.1.2.1.2.1) (xgn (G.1.2.1.2.1.2.2) (xgn (G.1.2.1.2.2.1.1) (xgn (by decide) (xgn (by decide) (xgn (by decide) (xgn (by decide) W0_128)))))))) (Nat.le_of_ble_eq_true rfl) (r_247_31 (xgn (by decide) (xgn (G.1.2.1.2.1.2.1) (xgn (G.1.2.1.2.1.2.2) (xgn (G.1.2.1.2.2.1.1) (xgn (by decide) (xgn (by decide) (xgn (by decide) (xgn (by decide) W0_128)))))))) (G.1.1.1.1.1.1.1) (G.1.2.1.2.2.1.2) (G.1.1.1.1.1.2.1) (G.1.1.1.1.1.2.2) (show (xfe (xvv xs)) = (xfd (xvv xs)) from (xfe_eq _)) (G.1.1.1.1.2.1.2) (G.1.1.1.1.2.2.1) (xgn (by decide) (xgn (G.1.2.1.2.2.2.1) (xgn (G.1.2.1.2.2.2.2.1) (xgn (G.1.2.1.2.2.2.2.2) (xgn (by decide) (xgn (by decide) (xgn (by decide) (xgn (by decide) W0_129)))))))) (G.1.2.2.1.1.1.1) (xgn (by decide) (xgn (G.1.2.2.1.1.1.2) (xgn (G.1.2.2.1.1.2.1) (xgn (G.1.2.2.1.1.2.2) (xgn (by decide) (xgn (by decide) (xgn (by decide) (xgn (by decide) W0_130)))))))) (G.1.2.2.1.2.1.1) (G.1.2.2.1.2.1.2) (show (lg_cmp (xqs (xqs (xqs (xfo (xvv xs))))) (0 : Int64)) = 0 from (xge_c (n := 0) (by omega) rfl)) (G.1.1.1.1.2.1.1) (xgn (by decide) (xgn (G.1.2.2.1.2.2.1) (xgn (G.1.2.2.1.2.2.2.1) (xgn (G.1.2.2.1.2.2.2.2) (xgn (by decide) (xgn (by decide) (xgn (by decide) (xgn (by decide) W0_153)))))))) (G.1.2.2.2.1.1.1) (gprec_at (by omega)) (show ((60 : Int32) + (xbn (xq (xqs (xqs (xfo (xvv xs))))))) = 64 from (xge_c (n := 64) (by omega) rfl)) (G.1.2.2.2.1.1.2) (show ((((64 : Int32) + ((xfd (xvv xs)) - (1075 : Int32))) - (64 : Int32)) - ((xfd (xvv xs)) - (1075 : Int32))) = 0 from (xge_c (n := 0) (by omega) rfl)) (xgn (by decide) (xgn (G.1.2.2.2.1.2.1) (xgn (G.1.2.2.2.1.2.2) (xgn (G.1.2.2.2.2.1.1) (xgn (by decide) (xgn (by decide) (xgn (by decide) (xgn (by decide) W0_156)))))))) (xgn (by decide) (xgn (G.1.2.2.2.2.1.2) (xgn (G.1.2.2.2.2.2.1) (xgn (G.1.2.2.2.2.2.2.1) (xgn (by decide) (xgn (by decide) (xgn (by decide) (xgn (by decide) W0_135)))))))) (xgn (by decide) (xgn (G.1.2.2.2.2.2.2.2) (xgn (G.2.1.1.1.1.1.1) (xgn (G.2.1.1.1.1.1.2) (xgn (by decide) (xgn (by decide) (xgn (by decide) (xgn (by decide) W0_136)))))))) (G.2.1.1.1.1.2.1) (G.2.1.1.1.1.2.2) (xgn (by decide) (xgn (G.2.1.1.1.2.1.1) (xgn (G.2.1.1.1.2.1.2) (xgn (G.2.1.1.1.2.2.1) (xgn (by decide) (xgn (by decide) (xgn (by decide) (xgn (by decide) W0_157)))))))) (gpart_at (by omega)) (G.2.1.1.1.2.2.2) (G.2.1.1.2.1.1.1) (G.2.1.1.2.1.1.2) (G.2.1.1.2.1.2.1) (G.2.1.1.2.1.2.2) (G.2.1.1.2.2.1.1) (xgn (G.2.1.1.2.2.1.2) (xgn (G.2.1.1.2.2.2.1) (xgn (G.2.1.1.2.2.2.2.1) (xgn (G.2.1.1.2.2.2.2.2) (xgn (G.2.1.2.1.1.1.1) (xgn (G.2.1.2.1.1.1.2) (xgn (G.2.1.2.1.1.2.1) (xgn (G.2.1.2.1.1.1.1) (W0_part (by omega)))))))))) (G.2.1.2.1.1.2.2) (G.2.1.2.1.2.1.1) (G.2.1.2.1.2.1.2) (xgn (by decide) (xgn (G.2.1.2.1.2.2.1) (xgn (G.2.1.2.1.2.2.2) (xgn (G.2.1.2.2.1.1.1) (xgn (by decide) (xgn (by decide) (xgn (by decide) (xgn (by decide) W0_137)))))))) (G.2.1.2.2.1.1.2) (G.2.1.2.2.1.2.1) (G.2.1.2.2.1.2.2) (xgn (by decide) (xgn (G.2.1.2.2.2.1.1) (xgn (G.2.1.2.2.2.1.2) (xgn (G.2.1.2.2.2.2.1) (xgn (by decide) (xgn (by decide) (xgn (by decide) (xgn (by decide) W0_138)))))))) (G.2.1.2.2.2.2.2.1) (G.2.1.2.2.2.2.2.2) (G.2.2.1.1.1.1.1) (G.2.2.1.1.1.1.2) (G.2.2.1.1.1.2.1) (G.2.2.1.1.1.2.2) (G.2.2.1.1.2.1.1) (G.2.2.1.1.2.1.2) (G.2.2.1.1.2.2.1) (G.2.2.1.1.2.2.2) (G.2.2.1.2.1.1.1) (G.2.2.1.2.1.1.2) (xgn (G.2.2.1.2.1.2.1) (xgn (G.2.2.1.2.1.2.2) (xgn (G.2.2.1.2.2.1.1) (xgn (G.2.2.1.2.2.1.2) (xgn (G.2.2.1.2.2.2.1) (xgn (G.2.2.1.2.2.2.2.1) (xgn (G.2.2.1.2.2.2.2.2) (xgn (G.2.2.1.2.2.2.1) (W0_pw (by omega)))))))))) (G.2.2.2.1.1.1.1) (G.2.2.2.1.1.1.2) (G.2.2.2.1.1.2.1) (G.2.2.2.1.1.2.2) (G.2.2.2.1.2.1.1) (G.2.2.2.1.2.1.2) (xgn (by decide) (xgn (G.2.2.2.1.2.2.1) (xgn (G.2.2.2.1.2.2.2.1) (xgn (G.2.2.2.1.2.2.2.2) (xgn (by decide) (xgn (by decide) (xgn (by decide) (xgn (by decide) W0_154)))))))) (G.2.2.2.2.1.1.1) (G.2.2.2.2.1.1.2) (xgn (by decide) (xgn (G.2.2.2.2.1.2.1) (xgn (G.2.2.2.2.1.2.2) (xgn (G.2.2.2.2.2.1.1) (xgn (by decide) (xgn (by decide) (xgn (by decide) (xgn (by decide) W0_155))))))))) ?_
    refine i_287_1619 (lv2 := [(6, Value.int 0), (5, Value.int 0), (4, Value.int 0), (3, Value.ref 194), (2, Value.ref 128), (1, Value.ref 7), (0, Value.ref 0)]) rfl ?_
    refine i_287_1621 (x := 128) rfl ?_
    refine i_287_1622 (xgn (by decide) (xgn (by decide) (xgn (G.2.1.2.1.2.1.1) (xgn (G.2.2.2.1.1.2.2) (xgn (by decide) (xgn (by decide) (xgn (G.2.1.2.1.2.1.1) (xgn (by decide) (xgn (by decide) (xgn (by decide) (xgn (by decide) (xgn (by decide) (xgn (by decide) (xgn (by decide) (xgn (by decide) (xgn (by decide) (xgn (by decide) (xgs (xgn (by decide) (xgn (G.1.2.1.2.1.2.1) (xgn (G.1.2.1.2.1.2.2) (xgn (G.1.2.1.2.2.1.1) (xgn (by decide) (xgn (by decide) (xgn (by decide) (xgn (by decide) W0_128)))))))))))))))))))))))))) (Nat.le_of_ble_eq_true rfl) (r_165_1 (xgn (by decide) (xgn (by decide) (xgn (G.2.1.2.1.2.1.1) (xgn (G.2.2.2.1.1.2.2) (xgn (by decide) (xgn (by decide) (xgn (G.2.1.2.1.2.1.1) (xgn (by decide) (xgn (by decide) (xgn (by decide) (xgn (by decide) (xgn (by decide) (xgn (by decide) (xgn (by decide) (xgn (by decide) (xgn (by decide) (xgn (by decide) (xgs (xgn (by decide) (xgn (G.1.2.1.2.1.2.1) (xgn (G.1.2.1.2.1.2.2) (xgn (G.1.2.1.2.2.1.1) (xgn (by decide) (xgn (by decide) (xgn (by decide) (xgn (by decide) W0_128))))))))))))))))))))))))))) ?_
    refine i_287_1625 (x := 0) rfl ?_
    refine i_287_1627 (fun _ => ?_) (fun h => absurd h (by decide))
    refine i_287_1632 (x := 0) rfl ?_
    refine i_287_1634 (fun h => absurd h (by decide)) (fun _ => ?_)
    refine i_287_1637 (x := 194) rfl ?_
    refine i_287_1638 ?_
    refine i_287_1639 (v := Value.long 0) (xgn (by decide) (xgn (by decide) (xgn (G.2.2.2.2.2.1.2) (xgn (G.2.2.2.2.2.2.1) (xgn (by decide) (xgn (by decide) (xgn (G.2.2.2.2.2.1.2) (xgn (by decide) (xgn (by decide) (xgn (by decide) (xgn (by decide) (xgn (by decide) (xgn (by decide) (xgn (by decide) (xgn (by decide) (xgn (by decide) (xgn (by decide) (xgn (by decide) (xgs (xgn (G.1.2.1.1.2.1.1) (xgn (G.1.2.1.1.2.1.2) (xgn (G.1.2.1.1.2.2.1) (xgn (by decide) (xgn (by decide) (xgn (by decide) (xgn (by decide) W0_194)))))))))))))))))))))))))) (by decide) (by decide) xup_s ?_
    refine i_287_1640 (x := 0) rfl ?_
    refine i_287_1642 (c := 0) (by decide) ?_
    refine i_287_1643 (c := 0) (by decide) ?_
    refine i_287_1644 (fun _ => ?_) (fun h => absurd h (by decide))
    refine i_287_1649 ?_
    refine i_287_2154 (x := 0) (c := 6) (lv2 := [(4, Value.int 6), (6, Value.int 0), (5, Value.int 0), (3, Value.ref 194), (2, Value.ref 128), (1, Value.ref 7), (0, Value.ref 0)]) rfl (by decide) rfl ?_
    refine i_287_2157 ?_
    refine i_287_23 (x := 6) rfl ?_
    refine i_287_25 (x := 0) rfl ?_
    refine i_287_26 (c := 6) (xgn (by decide) (xgn (by decide) (xgn (G.2.2.2.2.2.2.2.1) (xgn (G.2.2.2.2.2.2.2.2) (xgn (by decide) (xgn (by decide) (xgn (G.2.2.2.2.2.2.2.1) (xgn (by decide) (xgn (by decide) (xgn (by decide) (xgn (by decide) (xgn (by decide) (xgn (by decide) (xgn (by decide) (xgn (by decide) (xgn (by decide) (xgn (by decide) (xgn (by decide) (xgn (by decide) (xgn (G.1.2.1.1.2.2.2) (xgn (G.1.2.1.2.1.1.1) (xgn (G.1.2.1.2.1.1.2) (xgn (by decide) (xgn (by decide) (xgn (by decide) (xgn (by decide) W0_0)))))))))))))))))))))))))) (by decide) ?_
    refine i_287_27 ?_
    refine i_287_29 (c := 0) (by decide) ?_
    refine i_287_30 (fun _ => ?_) (fun h => absurd h (by decide))
    refine i_287_2160 ?_
    exact i_287_2161 rfl ⟨rfl, rfl⟩
  · refine xLs.set ?_ (xgn (by decide) (xgn (G.2.2.2.2.1.1.1) (xgn (G.2.2.2.2.1.1.2) (xgn (by decide) (xgn (by decide) (xgn (G.2.2.2.2.1.1.1) (xgn (by decide) (xgn (by decide) (xgn (by decide) (xgn (by decide) (xgn (by decide) (xgn (by decide) (xgn (by decide) (xgn (by decide) (xgn (by decide) (xgn (by decide) (xgn (by decide) (xgn (by decide) (xgn (G.2.2.2.2.1.2.1) (xgn (G.2.2.2.2.1.2.2) (xgn (G.2.2.2.2.2.1.1) (xgn (by decide) (xgn (by decide) (xgn (by decide) (xgn (by decide) W0_155))))))))))))))))))))))))) xcs_a
    refine xLs.set ?_ (xgn (G.2.2.2.1.2.1.1) (xgn (G.2.2.2.1.2.1.2) (xgn (by decide) (xgn (by decide) (xgn (G.2.2.2.1.2.1.1) (xgn (by decide) (xgn (by decide) (xgn (by decide) (xgn (by decide) (xgn (by decide) (xgn (by decide) (xgn (by decide) (xgn (by decide) (xgn (by decide) (xgn (by decide) (xgn (by decide) (xgn (by decide) (xgn (G.2.2.2.1.2.2.1) (xgn (G.2.2.2.1.2.2.2.1) (xgn (G.2.2.2.1.2.2.2.2) (xgn (by decide) (xgn (by decide) (xgn (by decide) (xgn (by decide) W0_154)))))))))))))))))))))))) xcs_a
    refine xLs.set ?_ (xgn (G.2.2.2.1.1.2.1) (xgn (G.2.1.2.2.2.2.2.2) (xgn (G.2.2.1.1.1.1.1) (xgs (xgn (G.2.1.1.1.2.2.2) (xgn (G.2.1.1.2.1.1.1) (xgn (G.2.1.1.2.1.1.2) (xgn (G.2.1.1.2.1.2.1) (xgn (G.2.1.1.2.1.2.2) (xgn (G.2.1.1.2.1.2.1) (xgn (G.2.1.1.2.1.2.2) (xgn (G.2.1.1.2.1.2.1) (xgn (G.2.1.1.2.1.2.2) (xgn (G.2.1.1.2.1.2.1) (xgn (G.2.1.1.2.2.1.1) (xgn (G.2.1.1.2.2.1.2) (xgn (G.2.1.1.2.2.2.1) (xgn (G.2.1.1.2.2.2.2.1) (xgn (G.2.1.1.2.2.2.2.2) (xgn (G.2.1.2.1.1.1.1) (xgn (G.2.1.2.1.1.1.2) (xgn (G.2.1.2.1.1.2.1) (xgn (G.2.1.2.1.1.1.1) (W0_part (by omega))))))))))))))))))))))))) xcs_o
    refine xLs.set ?_ (xgn (G.2.2.1.1.1.1.2) (xgn (G.2.2.1.1.1.2.1) (xgn (G.2.2.1.1.1.2.2) (xgn (G.2.2.1.1.2.1.1) (xgn (G.2.2.1.1.2.1.2) (xgn (G.2.2.1.1.2.2.1) (xgn (G.2.2.1.1.2.2.2) (xgn (G.2.2.1.2.1.1.1) (xgn (G.2.2.1.1.2.2.2) (xgn (G.2.2.1.2.1.1.1) (xgn (G.2.2.1.1.2.2.2) (xgn (G.2.2.1.2.1.1.1) (xgn (G.2.2.1.1.2.2.2) (xgn (G.2.2.1.2.1.1.2) (xgn (G.2.2.1.2.1.2.1) (xgn (G.2.2.1.2.1.2.2) (xgn (G.2.2.1.2.2.1.1) (xgn (G.2.2.1.2.2.1.2) (xgn (G.2.2.1.2.2.2.1) (xgn (G.2.2.1.2.2.2.2.1) (xgn (G.2.2.1.2.2.2.2.2) (xgn (G.2.2.1.2.2.2.1) (W0_pw (by omega)))))))))))))))))))))))) xcs_a
    refine xLs.set ?_ (xgn (by decide) (xgn (G.2.1.2.1.2.1.2) (xgn (by decide) (xgn (by decide) (xgn (by decide) (xgn (by decide) (xgn (by decide) (xgn (by decide) (xgn (by decide) (xgn (by decide) (xgn (by decide) (xgn (by decide) (xgn (by decide) (xgn (by decide) (xgn (G.2.1.2.1.2.2.1) (xgn (G.2.1.2.1.2.2.2) (xgn (G.2.1.2.2.1.1.1) (xgn (by decide) (xgn (by decide) (xgn (by decide) (xgn (by decide) W0_137))))))))))))))))))))) xcs_o
    refine xLs.set ?_ (xgn (G.2.1.2.2.1.2.2) (xgn (by decide) (xgn (by decide) (xgn (by decide) (xgn (by decide) (xgn (by decide) (xgn (by decide) (xgn (by decide) (xgn (by decide) (xgn (by decide) (xgn (by decide) (xgn (by decide) (xgn (by decide) (xgn (G.2.1.2.2.2.1.1) (xgn (G.2.1.2.2.2.1.2) (xgn (G.2.1.2.2.2.2.1) (xgn (by decide) (xgn (by decide) (xgn (by decide) (xgn (by decide) W0_138)))))))))))))))))))) xcs_a
    refine xLs.set ?_ (xgn (G.2.1.1.1.2.2.2) (xgn (G.2.1.1.2.1.1.1) (xgn (G.2.1.1.2.1.1.2) (xgn (G.2.1.1.2.1.2.1) (xgn (G.2.1.1.2.1.2.2) (xgn (G.2.1.1.2.1.2.1) (xgn (G.2.1.1.2.1.2.2) (xgn (G.2.1.1.2.1.2.1) (xgn (G.2.1.1.2.1.2.2) (xgn (G.2.1.1.2.1.2.1) (xgn (G.2.1.1.2.2.1.1) (xgn (G.2.1.1.2.2.1.2) (xgn (G.2.1.1.2.2.2.1) (xgn (G.2.1.1.2.2.2.2.1) (xgn (G.2.1.1.2.2.2.2.2) (xgn (G.2.1.2.1.1.1.1) (xgn (G.2.1.2.1.1.1.2) (xgn (G.2.1.2.1.1.2.1) (xgn (G.2.1.2.1.1.1.1) (W0_part (by omega))))))))))))))))))))) xcs_o
    refine xLs.set ?_ (xgn (by decide) (xgn (by decide) (xgn (by decide) (xgn (by decide) (xgn (by decide) (xgn (by decide) (xgn (by decide) (xgn (by decide) (xgn (by decide) (xgn (by decide) (xgn (by decide) (xgn (G.1.2.2.2.2.1.2) (xgn (G.1.2.2.2.2.2.1) (xgn (G.1.2.2.2.2.2.2.1) (xgn (by decide) (xgn (by decide) (xgn (by decide) (xgn (by decide) W0_135)))))))))))))))))) xcs_o
    refine xLs.set ?_ (xgn (by decide) (xgn (by decide) (xgn (by decide) (xgn (by decide) (xgn (by decide) (xgn (by decide) (xgn (by decide) (xgn (by decide) (xgn (by decide) (xgn (by decide) (xgn (G.1.2.2.2.2.2.2.2) (xgn (G.2.1.1.1.1.1.1) (xgn (G.2.1.1.1.1.1.2) (xgn (by decide) (xgn (by decide) (xgn (by decide) (xgn (by decide) W0_136))))))))))))))))) xcs_a
    refine xLs.set ?_ (xgn (by decide) (xgn (by decide) (xgn (by decide) (xgn (by decide) (xgn (by decide) (xgn (by decide) (xgn (by decide) (xgn (by decide) (xgn (by decide) (xgn (G.1.2.2.2.1.2.1) (xgn (G.1.2.2.2.1.2.2) (xgn (G.1.2.2.2.2.1.1) (xgn (by decide) (xgn (by decide) (xgn (by decide) (xgn (by decide) W0_156)))))))))))))))) xcs_a
    refine xLs.set ?_ (xgn (by decide) (xgs (xgn (by decide) (xgs (xgn (by decide) (xgs (xgn (by decide) (xgn (by decide) (xgn (G.1.2.1.2.2.2.1) (xgn (G.1.2.1.2.2.2.2.1) (xgn (G.1.2.1.2.2.2.2.2) (xgn (by decide) (xgn (by decide) (xgn (by decide) (xgn (by decide) W0_129))))))))))))))) xcs_o
    refine xLs.set ?_ (xgn (by decide) (xgs (xgn (by decide) (xgs (xgn (by decide) (xgn (by decide) (xgn (by decide) (xgn (G.1.2.2.1.1.1.2) (xgn (G.1.2.2.1.1.2.1) (xgn (G.1.2.2.1.1.2.2) (xgn (by decide) (xgn (by decide) (xgn (by decide) (xgn (by decide) W0_130)))))))))))))) xcs_a
    refine xLs.set ?_ (xgn (by decide) (xgs (xgn (by decide) (xgs (xgn (by decide) (xgn (by decide) (xgn (G.1.2.1.2.2.2.1) (xgn (G.1.2.1.2.2.2.2.1) (xgn (G.1.2.1.2.2.2.2.2) (xgn (by decide) (xgn (by decide) (xgn (by decide) (xgn (by decide) W0_129))))))))))))) xcs_o
    refine xLs.set ?_ (xgn (by decide) (xgs (xgn (by decide) (xgn (by decide) (xgn (by decide) (xgn (G.1.2.2.1.1.1.2) (xgn (G.1.2.2.1.1.2.1) (xgn (G.1.2.2.1.1.2.2) (xgn (by decide) (xgn (by decide) (xgn (by decide) (xgn (by decide) W0_130)))))))))))) xcs_a
    refine xLs.set ?_ (xgn (by decide) (xgs (xgn (by decide) (xgn (by decide) (xgn (G.1.2.1.2.2.2.1) (xgn (G.1.2.1.2.2.2.2.1) (xgn (G.1.2.1.2.2.2.2.2) (xgn (by decide) (xgn (by decide) (xgn (by decide) (xgn (by decide) W0_129))))))))))) xcs_o
    refine xLs.set ?_ (xgn (by decide) (xgn (by decide) (xgn (by decide) (xgn (G.1.2.2.1.1.1.2) (xgn (G.1.2.2.1.1.2.1) (xgn (G.1.2.2.1.1.2.2) (xgn (by decide) (xgn (by decide) (xgn (by decide) (xgn (by decide) W0_130)))))))))) xcs_a
    refine xLs.set ?_ (xgn (by decide) (xgn (by decide) (xgn (G.1.2.1.2.2.2.1) (xgn (G.1.2.1.2.2.2.2.1) (xgn (G.1.2.1.2.2.2.2.2) (xgn (by decide) (xgn (by decide) (xgn (by decide) (xgn (by decide) W0_129))))))))) xcs_o
    refine xLs.set ?_ (xgn (by decide) (xgn (G.1.2.1.2.1.2.1) (xgn (G.1.2.1.2.1.2.2) (xgn (G.1.2.1.2.2.1.1) (xgn (by decide) (xgn (by decide) (xgn (by decide) (xgn (by decide) W0_128)))))))) xcs_o
    refine xLs.set ?_ (xgn (G.1.2.1.1.2.1.1) (xgn (G.1.2.1.1.2.1.2) (xgn (G.1.2.1.1.2.2.1) (xgn (by decide) (xgn (by decide) (xgn (by decide) (xgn (by decide) W0_194))))))) xcs_a
    refine xLs.set ?_ (xgn (G.1.1.2.1.2.2.2) (xgn (G.1.1.1.2.2.2.2.1) (xgn (G.1.1.1.2.2.2.2.2) (xgn (G.1.1.2.1.1.1.1) (xgn (G.1.1.2.1.1.1.2) (xgn (G.1.1.1.2.2.2.2.2) (W0_man (by omega)))))))) xcs_o
    refine xLs.set ?_ (xgn (G.1.1.2.1.1.2.1) (xgn (G.1.1.2.1.1.2.2) (xgn (G.1.1.2.1.2.1.1) (xgn (G.1.1.2.1.2.1.2) (xgn (G.1.1.2.1.1.2.2) (W0_mw (by omega))))))) xcs_a
    refine xLs.set ?_ (xgn (G.1.1.1.2.1.1.1) (xgn (G.1.1.1.2.1.1.2) (xgn (G.1.1.1.2.1.2.1) (xgn (G.1.1.1.2.1.1.1) (W0_reg (by omega)))))) xcs_o
    refine xLs.set ?_ (xgn (by decide) (xgn (by decide) (xgs W0_16))) xcs_o
    refine xLs.set ?_ (xgn (by decide) (xgn (by decide) W0_17)) xcs_o
    refine xLs.set ?_ (xgn (by decide) W0_18) xcs_a
    refine xLs.set ?_ (W0_16) xcs_o
    exact ⟨Nat.le_trans (Nat.le_of_eq W0_len) (by decide), Nat.le_trans (Nat.le_of_eq W0_sz) (by decide)⟩
theorem r_15_2 {d : Nat} {w : xW} {a0 : Int32} (e0 : 0 ≤ a0.toInt) (e1 : 16 ≤ a0.toInt) : xRun d 15 [Value.int a0] w (.inl (some (Value.int 1))) w := by
  refine xRun.of ?_
  refine i_15_0 (x := a0) rfl ?_
  refine i_15_1 (fun h => absurd e0 (Int.not_le.mpr h)) (fun _ => ?_)
  refine i_15_4 (x := a0) rfl ?_
  refine i_15_5 ?_
  refine i_15_7 (fun h => absurd e1 (Int.not_le.mpr h)) (fun _ => ?_)
  refine i_15_10 ?_
  refine i_15_11 ?_
  exact i_15_15 rfl ⟨rfl, rfl⟩
theorem r_128_21 {d : Nat} {w : xW} {a0 : Int32} {b0 : Int64} {a1 : Int32} (e0 : 0 ≤ a0.toInt) (e1 : 16 ≤ a0.toInt) : xRun (d + 6) 128 [Value.ref 7, Value.int a0, Value.long b0, Value.int a1] w (.inr w.length) (w ++ [Sum.inr (14, [])]) := by
  refine xRun.of ?_
  refine i_128_0 (x := a0) rfl ?_
  refine i_128_1 (Nat.le_of_ble_eq_true rfl) (r_15_2 e0 e1) ?_
  refine i_128_4 (fun _ => ?_) (fun h => absurd h (by decide))
  exact i_128_15 (by omega) (Nat.le_of_ble_eq_true rfl) ⟨rfl, rfl⟩
theorem r_127_21 {d : Nat} {w : xW} {a0 : Int32} {b0 : Int64} {a1 : Int32} (hw0 : w[7]? = some (Sum.inr (0, [Value.ref 8, Value.ref 78, Value.ref 9, Value.ref 10, Value.ref 13, Value.ref 16, Value.ref 19, Value.ref 93, Value.ref 108, Value.ref 113, Value.ref 29, Value.int 0]))) (e1 : 0 ≤ a0.toInt) (e2 : 16 ≤ a0.toInt) : xRun (d + 7) 127 [Value.ref 7, Value.int a0, Value.long b0, Value.int a1, Value.ref 194] w (.inl (some (Value.int 1))) (w ++ [Sum.inr (14, [])]) := by
  refine xRun.of ?_
  refine i_127_0 (x := 194) rfl ?_
  refine i_127_2 ?_
  refine i_127_3 (x := 7) rfl ?_
  refine i_127_4 (x := a0) rfl ?_
  refine i_127_5 (x := b0) rfl ?_
  refine i_127_6 (x := a1) rfl ?_
  refine j_127_8 hw0 (Nat.le_of_ble_eq_true rfl) (r_128_21 e1 e2) (xDone.c xgl rfl rfl ?_)
  refine i_127_16 (lv2 := [(6, Value.ref w.length), (0, Value.ref 7), (1, Value.int a0), (2, Value.long b0), (4, Value.int a1), (5, Value.ref 194)]) rfl ?_
  refine i_127_18 ?_
  exact i_127_19 ⟨rfl, rfl⟩
theorem r_169_5 {d : Nat} {w : xW} {a0 : Int32} (e0 : 0 ≤ a0.toInt) (e1 : 15 < a0.toInt) : xRun d 169 [Value.int a0, Value.int 0, Value.int 15] w (.inl (some (Value.int 0))) w := by
  refine xRun.of ?_
  refine i_169_0 (x := a0) rfl ?_
  refine i_169_1 (x := 0) rfl ?_
  refine i_169_2 (fun h => absurd e0 (Int.not_le.mpr h)) (fun _ => ?_)
  refine i_169_5 (x := a0) rfl ?_
  refine i_169_6 (x := 15) rfl ?_
  refine i_169_7 (fun _ => ?_) (fun h => absurd e1 (Int.not_lt.mpr h))
  refine i_169_14 ?_
  exact i_169_15 rfl ⟨rfl, rfl⟩
theorem r_168_2 {d : Nat} {w : xW} {a0 : Int32} (e0 : 0 ≤ a0.toInt) (e1 : 15 < a0.toInt) : xRun (d + 7) 168 [Value.int a0] w (.inr w.length) (w ++ [Sum.inr (14, [])]) := by
  refine xRun.of ?_
  refine i_168_0 (x := a0) rfl ?_
  refine i_168_1 ?_
  refine i_168_2 ?_
  refine i_168_4 (Nat.le_of_ble_eq_true rfl) (r_169_5 e0 e1) ?_
  exact j_168_7 (Nat.le_of_ble_eq_true rfl) (r_170_0) (xDone.t xgl rfl rfl ⟨rfl, rfl⟩)
theorem r_248_32 {d : Nat} {w : xW} {a0 : Int32} {b0 : Int64} {a1 : Int32} (e0 : 0 ≤ a0.toInt) (e1 : 15 < a0.toInt) : xRun (d + 8) 248 [Value.ref 128, Value.int a0, Value.long b0, Value.int a1] w (.inr w.length) (w ++ [Sum.inr (14, [])]) := by
  refine xRun.of ?_
  refine i_248_0 (x := a0) rfl ?_
  exact j_248_1 (Nat.le_of_ble_eq_true rfl) (r_168_2 e0 e1) (xDone.t xgl rfl rfl ⟨rfl, rfl⟩)
theorem r_247_32 {d : Nat} {w : xW} {a0 : Int32} {b0 : Int64} {a1 : Int32} (hw0 : w[128]? = some (Sum.inr (12, [Value.ref 129, Value.ref 131, Value.ref 133, Value.ref 135, Value.ref 137, Value.ref 139, Value.ref 141, Value.ref 143, Value.ref 145, Value.ref 147, Value.ref 149, Value.ref 151, Value.ref 153, Value.ref 154, Value.ref 155, Value.ref 156, Value.ref 157, Value.int (-16384), Value.int 16384, Value.int 0, Value.int 0, Value.int 0, Value.ref 158, Value.ref 159, Value.int 0, Value.int 0, Value.int 0, Value.int 0, Value.int 0, Value.int 0, Value.int 0, Value.int 0]))) (e1 : 0 ≤ a0.toInt) (e2 : 15 < a0.toInt) : xRun (d + 9) 247 [Value.ref 128, Value.int a0, Value.long b0, Value.int a1] w (.inl (some (Value.int 0))) (((w.set 128 (Sum.inr (12, [Value.ref 129, Value.ref 131, Value.ref 133, Value.ref 135, Value.ref 137, Value.ref 139, Value.ref 141, Value.ref 143, Value.ref 145, Value.ref 147, Value.ref 149, Value.ref 151, Value.ref 153, Value.ref 154, Value.ref 155, Value.ref 156, Value.ref 157, Value.int (-16384), Value.int 16384, Value.int 0, Value.int 0, Value.int 0, Value.ref 158, Value.ref 159, Value.int 0, Value.int 0, Value.int 0, Value.int 0, Value.int 0, Value.int 0, Value.int 0, Value.int 0]))) ++ [Sum.inr (14, [])]).set 128 (Sum.inr (12, [Value.ref 129, Value.ref 131, Value.ref 133, Value.ref 135, Value.ref 137, Value.ref 139, Value.ref 141, Value.ref 143, Value.ref 145, Value.ref 147, Value.ref 149, Value.ref 151, Value.ref 153, Value.ref 154, Value.ref 155, Value.ref 156, Value.ref 157, Value.int (-16384), Value.int 16384, Value.int 0, Value.int 0, Value.int 0, Value.ref 158, Value.ref 159, Value.int 0, Value.int 0, Value.int 0, Value.int 0, Value.int 0, Value.int 0, Value.int 0, Value.int 1]))) := by
  refine xRun.of ?_
  refine i_247_0 (x := 128) rfl ?_
  refine i_247_1 ?_
  refine i_247_2 (fs2 := [Value.ref 129, Value.ref 131, Value.ref 133, Value.ref 135, Value.ref 137, Value.ref 139, Value.ref 141, Value.ref 143, Value.ref 145, Value.ref 147, Value.ref 149, Value.ref 151, Value.ref 153, Value.ref 154, Value.ref 155, Value.ref 156, Value.ref 157, Value.int (-16384), Value.int 16384, Value.int 0, Value.int 0, Value.int 0, Value.ref 158, Value.ref 159, Value.int 0, Value.int 0, Value.int 0, Value.int 0, Value.int 0, Value.int 0, Value.int 0, Value.int 0]) hw0 (Nat.le_of_ble_eq_true rfl) rfl (by decide) ?_
  refine i_247_5 (x := 128) rfl ?_
  refine i_247_6 (x := a0) rfl ?_
  refine i_247_7 (x := b0) rfl ?_
  refine i_247_8 (x := a1) rfl ?_
  refine j_247_10 (xgs hw0) (Nat.le_of_ble_eq_true rfl) (r_248_32 e1 e2) (xDone.c xgl rfl rfl ?_)
  refine i_247_14 (lv2 := [(5, Value.ref ((w.set 128 (Sum.inr (12, [Value.ref 129, Value.ref 131, Value.ref 133, Value.ref 135, Value.ref 137, Value.ref 139, Value.ref 141, Value.ref 143, Value.ref 145, Value.ref 147, Value.ref 149, Value.ref 151, Value.ref 153, Value.ref 154, Value.ref 155, Value.ref 156, Value.ref 157, Value.int (-16384), Value.int 16384, Value.int 0, Value.int 0, Value.int 0, Value.ref 158, Value.ref 159, Value.int 0, Value.int 0, Value.int 0, Value.int 0, Value.int 0, Value.int 0, Value.int 0, Value.int 0]))).length)), (0, Value.ref 128), (1, Value.int a0), (2, Value.long b0), (4, Value.int a1)]) rfl ?_
  refine i_247_16 (x := 128) rfl ?_
  refine i_247_17 ?_
  refine i_247_18 (fs2 := [Value.ref 129, Value.ref 131, Value.ref 133, Value.ref 135, Value.ref 137, Value.ref 139, Value.ref 141, Value.ref 143, Value.ref 145, Value.ref 147, Value.ref 149, Value.ref 151, Value.ref 153, Value.ref 154, Value.ref 155, Value.ref 156, Value.ref 157, Value.int (-16384), Value.int 16384, Value.int 0, Value.int 0, Value.int 0, Value.ref 158, Value.ref 159, Value.int 0, Value.int 0, Value.int 0, Value.int 0, Value.int 0, Value.int 0, Value.int 0, Value.int 1]) (xga (xgs hw0)) (Nat.le_of_ble_eq_true rfl) rfl (by decide) ?_
  refine i_247_21 ?_
  exact i_247_22 ⟨rfl, rfl⟩
theorem o_16_37 {d : Nat} {xs : Nat → Int32} (h0 : ((xs 0) &&& (31 : Int32)).toInt = 16) (c0 : 0 ≤ (xs 1).toInt) (c1 : 16 ≤ (xs 1).toInt) : ∃ w1, xEv (d + 20) 287 23 [(4, Value.int 0), (3, Value.ref 194), (2, Value.ref 128), (1, Value.ref 7), (0, Value.ref 0)] [] (W0 6 xs) (fun o' w' => o' = .inl (some (Value.int 1)) ∧ w' = w1) ∧ w1.length ≤ 220 ∧ xsz w1 ≤ 200000 := by
  have f0 : 0 ≤ (xfd (xvv xs)).toInt := (xfd_b _).1
  have f1 : (xfd (xvv xs)).toInt ≤ 2047 := (xfd_b _).2
  have G : id ((0 ≤ (xs 1).toInt) ∧ ((16 ≤ (xs 1).toInt) ∧ (15 < (xs 1).toInt))) := ⟨by omega, ⟨by omega, by omega⟩⟩
  refine ⟨(((((W0 6 xs) ++ [Sum.inr (14, [])]).set 128 (Sum.inr (12, [Value.ref 129, Value.ref 131, Value.ref 133, Value.ref 135, Value.ref 137, Value.ref 139, Value.ref 141, Value.ref 143, Value.ref 145, Value.ref 147, Value.ref 149, Value.ref 151, Value.ref 153, Value.ref 154, Value.ref 155, Value.ref 156, Value.ref 157, Value.int (-16384), Value.int 16384, Value.int 0, Value.int 0, Value.int 0, Value.ref 158, Value.ref 159, Value.int 0, Value.int 0, Value.int 0, Value.int 0, Value.int 0, Value.int 0, Value.int 0, Value.int 0]))) ++ [Sum.inr (14, [])]).set 128 (Sum.inr (12, [Value.ref 129, Value.ref 131, Value.ref 133, Value.ref 135, Value.ref 137, Value.ref 139, Value.ref 141, Value.ref 143, Value.ref 145, Value.ref 147, Value.ref 149, Value.ref 151, Value.ref 153, Value.ref 154, Value.ref 155, Value.ref 156, Value.ref 157, Value.int (-16384), Value.int 16384, Value.int 0, Value.int 0, Value.int 0, Value.ref 158, Value.ref 159, Value.int 0, Value.int 0, Value.int 0, Value.int 0, Value.int 0, Value.int 0, Value.int 0, Value.int 1]))), ?_, (show xLs _ 220 200000 from ?_)⟩
  · refine i_287_23 (x := 0) rfl ?_
    refine i_287_25 (x := 0) rfl ?_
    refine i_287_26 (c := 6) W0_0 (by decide) ?_
    refine i_287_27 ?_
    refine i_287_29 (c := 0) (by decide) ?_
    refine i_287_30 (fun h => absurd h (by decide)) (fun _ => ?_)
    refine i_287_33 (x := 0) rfl ?_
    refine i_287_34 (x := 0) rfl ?_
    refine i_287_36 (v := Value.int (xs 0)) W0_0 (by decide) (by decide) rfl ?_
    refine i_287_37 ?_
    refine i_287_39 (c := 16) (show ((xs 0) &&& (31 : Int32)) = 16 from (xge_c (n := 16) (by omega) rfl)) ?_
    refine i_287_40_16 rfl ?_
    refine i_287_1540 (x := 7) rfl ?_
    refine i_287_1541 (x := 0) rfl ?_
    refine i_287_1542 (x := 0) rfl ?_
    refine i_287_1544 ?_
    refine i_287_1545 (c := 1) (by decide) ?_
    refine i_287_1546 (v := Value.int (xs 1)) W0_0 (by decide) (by decide) rfl ?_
    refine i_287_1547 (x := 0) rfl ?_
    refine i_287_1548 (x := 0) rfl ?_
    refine i_287_1550 ?_
    refine i_287_1551 (c := 2) (by decide) ?_
    refine i_287_1552 (v := Value.int (xs 2)) W0_0 (by decide) (by decide) rfl ?_
    refine i_287_1553 (c := (xs 2).toInt64) rfl ?_
    refine i_287_1554 ?_
    refine i_287_1556 (c := (xsh (xs 2) (32 : Int32))) rfl ?_
    refine i_287_1557 (x := 0) rfl ?_
    refine i_287_1558 (x := 0) rfl ?_
    refine i_287_1560 ?_
    refine i_287_1561 (c := 3) (by decide) ?_
    refine i_287_1562 (v := Value.int (xs 3)) W0_0 (by decide) (by decide) rfl ?_
    refine i_287_1563 (c := (xs 3).toInt64) rfl ?_
    refine i_287_1564 ?_
    refine i_287_1567 (c := (((xs 3).toInt64) &&& (4294967295 : Int64))) rfl ?_
    refine i_287_1568 (c := (xvv xs)) rfl ?_
    refine i_287_1569 (x := 0) rfl ?_
    refine i_287_1570 (x := 0) rfl ?_
    refine i_287_1572 ?_
    refine i_287_1573 (c := 4) (by decide) ?_
    refine i_287_1574 (v := Value.int (xs 4)) W0_0 (by decide) (by decide) rfl ?_
    refine i_287_1575 (x := 194) rfl ?_
    refine i_287_1576 (Nat.le_of_ble_eq_true rfl) (r_127_21 W0_7 (G.1) (G.2.1)) ?_
    refine i_287_1579 (lv2 := [(5, Value.int 1), (4, Value.int 0), (3, Value.ref 194), (2, Value.ref 128), (1, Value.ref 7), (0, Value.ref 0)]) rfl ?_
    refine i_287_1581 (x := 128) rfl ?_
    refine i_287_1582 (x := 0) rfl ?_
    refine i_287_1583 (x := 0) rfl ?_
    refine i_287_1585 ?_
    refine i_287_1586 (c := 1) (by decide) ?_
    refine i_287_1587 (v := Value.int (xs 1)) (xga W0_0) (by decide) (by decide) rfl ?_
    refine i_287_1588 (x := 0) rfl ?_
    refine i_287_1589 (x := 0) rfl ?_
    refine i_287_1591 ?_
    refine i_287_1592 (c := 2) (by decide) ?_
    refine i_287_1593 (v := Value.int (xs 2)) (xga W0_0) (by decide) (by decide) rfl ?_
    refine i_287_1594 (c := (xs 2).toInt64) rfl ?_
    refine i_287_1595 ?_
    refine i_287_1597 (c := (xsh (xs 2) (32 : Int32))) rfl ?_
    refine i_287_1598 (x := 0) rfl ?_
    refine i_287_1599 (x := 0) rfl ?_
    refine i_287_1601 ?_
    refine i_287_1602 (c := 3) (by decide) ?_
    refine i_287_1603 (v := Value.int (xs 3)) (xga W0_0) (by decide) (by decide) rfl ?_
    refine i_287_1604 (c := (xs 3).toInt64) rfl ?_
    refine i_287_1605 ?_
    refine i_287_1608 (c := (((xs 3).toInt64) &&& (4294967295 : Int64))) rfl ?_
    refine i_287_1609 (c := (xvv xs)) rfl ?_
    refine i_287_1610 (x := 0) rfl ?_
    refine i_287_1611 (x := 0) rfl ?_
    refine i_287_1613 ?_
    refine i_287_1614 (c := 4) (by decide) ?_
    refine i_287_1615 (v := Value.int (xs 4)) (xga W0_0) (by decide) (by decide) rfl ?_
    refine i_287_1616 (xga W0_128) (Nat.le_of_ble_eq_true rfl) (r_247_32 (xga W0_128) (G.1) (G.2.2)) ?_
    refine i_287_1619 (lv2 := [(6, Value.int 0), (5, Value.int 1), (4, Value.int 0), (3, Value.ref 194), (2, Value.ref 128), (1, Value.ref 7), (0, Value.ref 0)]) rfl ?_
    refine i_287_1621 (x := 128) rfl ?_
    refine i_287_1622 (xgs (xga (xgs (xga W0_128)))) (Nat.le_of_ble_eq_true rfl) (r_165_0 (xgs (xga (xgs (xga W0_128))))) ?_
    refine i_287_1625 (x := 1) rfl ?_
    refine i_287_1627 (fun _ => ?_) (fun h => absurd h (by decide))
    refine i_287_1632 (x := 1) rfl ?_
    refine i_287_1634 (fun _ => ?_) (fun h => absurd h (by decide))
    refine i_287_1649 ?_
    refine i_287_2154 (x := 0) (c := 6) (lv2 := [(4, Value.int 6), (6, Value.int 0), (5, Value.int 1), (3, Value.ref 194), (2, Value.ref 128), (1, Value.ref 7), (0, Value.ref 0)]) rfl (by decide) rfl ?_
    refine i_287_2157 ?_
    refine i_287_23 (x := 6) rfl ?_
    refine i_287_25 (x := 0) rfl ?_
    refine i_287_26 (c := 6) (xgn (by decide) (xga (xgn (by decide) (xga W0_0)))) (by decide) ?_
    refine i_287_27 ?_
    refine i_287_29 (c := 0) (by decide) ?_
    refine i_287_30 (fun _ => ?_) (fun h => absurd h (by decide))
    refine i_287_2160 ?_
    exact i_287_2161 rfl ⟨rfl, rfl⟩
  · refine xLs.set ?_ (xga (xgs (xga W0_128))) xcs_o
    refine xLs.app (n := 219) (z := 199994) (m := 6) ?_ rfl
    refine xLs.set ?_ (xga W0_128) xcs_o
    refine xLs.app (n := 218) (z := 199988) (m := 6) ?_ rfl
    exact ⟨Nat.le_trans (Nat.le_of_eq W0_len) (by decide), Nat.le_trans (Nat.le_of_eq W0_sz) (by decide)⟩
theorem op_16 {d : Nat} {xs : Nat → Int32} (h0 : ((xs 0) &&& (31 : Int32)).toInt = 16) : ∃ w1, xEv (d + 20) 287 23 [(4, Value.int 0), (3, Value.ref 194), (2, Value.ref 128), (1, Value.ref 7), (0, Value.ref 0)] [] (W0 6 xs) (fun o' w' => o' = .inl (some (Value.int 1)) ∧ w' = w1) ∧ w1.length ≤ 220 ∧ xsz w1 ≤ 200000 := by
  rcases Int.lt_or_le (xs 1).toInt (0) with c0 | c0
  · exact o_16_0 h0 c0
  · rcases Int.lt_or_le (xs 1).toInt (16) with c1 | c1
    · rcases Int.lt_or_le (xs 4).toInt (0) with c2 | c2
      · exact o_16_1 h0 c0 c1 c2
      · rcases Int.lt_or_le (4) (xs 4).toInt with c3 | c3
        · exact o_16_2 h0 c0 c1 c2 c3
        · rcases Int.lt_or_le (lg_cmp (xvv xs) (0 : Int64)).toInt (0) with c4 | c4
          · by_cases c5 : (xfd (xvv xs)).toInt = 2047
            · by_cases c6 : (lg_cmp (xfr (xvv xs)) (0 : Int64)).toInt = 0
              · exact o_16_3 h0 c0 c1 c2 c3 c4 c5 c6
              · exact o_16_4 h0 c0 c1 c2 c3 c4 c5 c6
            · by_cases c6 : (xfd (xvv xs)).toInt = 0
              · by_cases c7 : (lg_cmp (xfr (xvv xs)) (0 : Int64)).toInt = 0
                · exact o_16_5 h0 c0 c1 c2 c3 c4 c5 c6 c7
                · obtain ⟨B, K, P, G, hB, c8, hr⟩ := xreg (m := (xfr (xvv xs))) (xnm_p c7)
                  rcases hr with ⟨c9, c10, c11, c12, c13, c14, c15, c16, c17, c18, c19, c20, c21, c22, c23, c24, c25, c26, c27⟩ | ⟨c9, c10, c11, c12, c13, c14, c15, c16, c17, c18, c19, c20, c21, c22, c23, c24, c25, c26⟩ | ⟨c9, c10, c11, c12, c13, c14, c15, c16, c17, c18, c19, c20, c21, c22, c23, c24, c25, c26, c27, c28⟩ | ⟨c9, c10, c11, c12, c13, c14, c15, c16, c17, c18, c19, c20, c21, c22, c23, c24, c25, c26, c27⟩ | ⟨c9, c10, c11, c12, c13, c14, c15, c16, c17, c18, c19, c20, c21, c22, c23, c24, c25, c26⟩ | ⟨c9, c10, c11, c12, c13, c14, c15, c16, c17, c18, c19, c20, c21, c22, c23, c24, c25, c26, c27, c28⟩ | ⟨c9, c10, c11, c12, c13, c14, c15, c16, c17, c18, c19, c20, c21, c22, c23⟩
                  · exact o_16_6 h0 c0 c1 c2 c3 c4 c5 c6 c7 c8 c9 c10 c11 c12 c13 c14 c15 c16 c17 c18 c19 c20 c21 c22 c23 c24 c25 c26 c27
                  · exact o_16_7 h0 c0 c1 c2 c3 c4 c5 c6 c7 c8 c9 c10 c11 c12 c13 c14 c15 c16 c17 c18 c19 c20 c21 c22 c23 c24 c25 c26
                  · exact o_16_8 h0 c0 c1 c2 c3 c4 c5 c6 c7 c8 c9 c10 c11 c12 c13 c14 c15 c16 c17 c18 c19 c20 c21 c22 c23 c24 c25 c26 c27 c28
                  · exact o_16_9 h0 c0 c1 c2 c3 c4 c5 c6 c7 c8 c9 c10 c11 c12 c13 c14 c15 c16 c17 c18 c19 c20 c21 c22 c23 c24 c25 c26 c27
                  · exact o_16_10 h0 c0 c1 c2 c3 c4 c5 c6 c7 c8 c9 c10 c11 c12 c13 c14 c15 c16 c17 c18 c19 c20 c21 c22 c23 c24 c25 c26
                  · exact o_16_11 h0 c0 c1 c2 c3 c4 c5 c6 c7 c8 c9 c10 c11 c12 c13 c14 c15 c16 c17 c18 c19 c20 c21 c22 c23 c24 c25 c26 c27 c28
                  · exact o_16_12 h0 c0 c1 c2 c3 c4 c5 c6 c7 c8 c9 c10 c11 c12 c13 c14 c15 c16 c17 c18 c19 c20 c21 c22 c23
              · obtain ⟨B, K, P, G, hB, c7, hr⟩ := xreg (m := (xfo (xvv xs))) (xfo_nz _)
                rcases hr with ⟨c8, c9, c10, c11, c12, c13, c14, c15, c16, c17, c18, c19, c20, c21, c22, c23, c24, c25, c26⟩ | ⟨c8, c9, c10, c11, c12, c13, c14, c15, c16, c17, c18, c19, c20, c21, c22, c23, c24, c25⟩ | ⟨c8, c9, c10, c11, c12, c13, c14, c15, c16, c17, c18, c19, c20, c21, c22, c23, c24, c25, c26, c27⟩ | ⟨c8, c9, c10, c11, c12, c13, c14, c15, c16, c17, c18, c19, c20, c21, c22, c23, c24, c25, c26⟩ | ⟨c8, c9, c10, c11, c12, c13, c14, c15, c16, c17, c18, c19, c20, c21, c22, c23, c24, c25⟩ | ⟨c8, c9, c10, c11, c12, c13, c14, c15, c16, c17, c18, c19, c20, c21, c22, c23, c24, c25, c26, c27⟩ | ⟨c8, c9, c10, c11, c12, c13, c14, c15, c16, c17, c18, c19, c20, c21, c22⟩
                · exact o_16_13 h0 c0 c1 c2 c3 c4 c5 c6 c7 c8 c9 c10 c11 c12 c13 c14 c15 c16 c17 c18 c19 c20 c21 c22 c23 c24 c25 c26
                · exact o_16_14 h0 c0 c1 c2 c3 c4 c5 c6 c7 c8 c9 c10 c11 c12 c13 c14 c15 c16 c17 c18 c19 c20 c21 c22 c23 c24 c25
                · exact o_16_15 h0 c0 c1 c2 c3 c4 c5 c6 c7 c8 c9 c10 c11 c12 c13 c14 c15 c16 c17 c18 c19 c20 c21 c22 c23 c24 c25 c26 c27
                · exact o_16_16 h0 c0 c1 c2 c3 c4 c5 c6 c7 c8 c9 c10 c11 c12 c13 c14 c15 c16 c17 c18 c19 c20 c21 c22 c23 c24 c25 c26
                · exact o_16_17 h0 c0 c1 c2 c3 c4 c5 c6 c7 c8 c9 c10 c11 c12 c13 c14 c15 c16 c17 c18 c19 c20 c21 c22 c23 c24 c25
                · exact o_16_18 h0 c0 c1 c2 c3 c4 c5 c6 c7 c8 c9 c10 c11 c12 c13 c14 c15 c16 c17 c18 c19 c20 c21 c22 c23 c24 c25 c26 c27
                · exact o_16_19 h0 c0 c1 c2 c3 c4 c5 c6 c7 c8 c9 c10 c11 c12 c13 c14 c15 c16 c17 c18 c19 c20 c21 c22
          · by_cases c5 : (xfd (xvv xs)).toInt = 2047
            · by_cases c6 : (lg_cmp (xfr (xvv xs)) (0 : Int64)).toInt = 0
              · exact o_16_20 h0 c0 c1 c2 c3 c4 c5 c6
              · exact o_16_21 h0 c0 c1 c2 c3 c4 c5 c6
            · by_cases c6 : (xfd (xvv xs)).toInt = 0
              · by_cases c7 : (lg_cmp (xfr (xvv xs)) (0 : Int64)).toInt = 0
                · exact o_16_22 h0 c0 c1 c2 c3 c4 c5 c6 c7
                · obtain ⟨B, K, P, G, hB, c8, hr⟩ := xreg (m := (xfr (xvv xs))) (xnm_p c7)
                  rcases hr with ⟨c9, c10, c11, c12, c13, c14, c15, c16, c17, c18, c19, c20, c21, c22, c23, c24, c25, c26, c27⟩ | ⟨c9, c10, c11, c12, c13, c14, c15, c16, c17, c18, c19, c20, c21, c22, c23, c24, c25, c26⟩ | ⟨c9, c10, c11, c12, c13, c14, c15, c16, c17, c18, c19, c20, c21, c22, c23, c24, c25, c26, c27, c28⟩ | ⟨c9, c10, c11, c12, c13, c14, c15, c16, c17, c18, c19, c20, c21, c22, c23, c24, c25, c26, c27⟩ | ⟨c9, c10, c11, c12, c13, c14, c15, c16, c17, c18, c19, c20, c21, c22, c23, c24, c25, c26⟩ | ⟨c9, c10, c11, c12, c13, c14, c15, c16, c17, c18, c19, c20, c21, c22, c23, c24, c25, c26, c27, c28⟩ | ⟨c9, c10, c11, c12, c13, c14, c15, c16, c17, c18, c19, c20, c21, c22, c23⟩
                  · exact o_16_23 h0 c0 c1 c2 c3 c4 c5 c6 c7 c8 c9 c10 c11 c12 c13 c14 c15 c16 c17 c18 c19 c20 c21 c22 c23 c24 c25 c26 c27
                  · exact o_16_24 h0 c0 c1 c2 c3 c4 c5 c6 c7 c8 c9 c10 c11 c12 c13 c14 c15 c16 c17 c18 c19 c20 c21 c22 c23 c24 c25 c26
                  · exact o_16_25 h0 c0 c1 c2 c3 c4 c5 c6 c7 c8 c9 c10 c11 c12 c13 c14 c15 c16 c17 c18 c19 c20 c21 c22 c23 c24 c25 c26 c27 c28
                  · exact o_16_26 h0 c0 c1 c2 c3 c4 c5 c6 c7 c8 c9 c10 c11 c12 c13 c14 c15 c16 c17 c18 c19 c20 c21 c22 c23 c24 c25 c26 c27
                  · exact o_16_27 h0 c0 c1 c2 c3 c4 c5 c6 c7 c8 c9 c10 c11 c12 c13 c14 c15 c16 c17 c18 c19 c20 c21 c22 c23 c24 c25 c26
                  · exact o_16_28 h0 c0 c1 c2 c3 c4 c5 c6 c7 c8 c9 c10 c11 c12 c13 c14 c15 c16 c17 c18 c19 c20 c21 c22 c23 c24 c25 c26 c27 c28
                  · exact o_16_29 h0 c0 c1 c2 c3 c4 c5 c6 c7 c8 c9 c10 c11 c12 c13 c14 c15 c16 c17 c18 c19 c20 c21 c22 c23
              · obtain ⟨B, K, P, G, hB, c7, hr⟩ := xreg (m := (xfo (xvv xs))) (xfo_nz _)
                rcases hr with ⟨c8, c9, c10, c11, c12, c13, c14, c15, c16, c17, c18, c19, c20, c21, c22, c23, c24, c25, c26⟩ | ⟨c8, c9, c10, c11, c12, c13, c14, c15, c16, c17, c18, c19, c20, c21, c22, c23, c24, c25⟩ | ⟨c8, c9, c10, c11, c12, c13, c14, c15, c16, c17, c18, c19, c20, c21, c22, c23, c24, c25, c26, c27⟩ | ⟨c8, c9, c10, c11, c12, c13, c14, c15, c16, c17, c18, c19, c20, c21, c22, c23, c24, c25, c26⟩ | ⟨c8, c9, c10, c11, c12, c13, c14, c15, c16, c17, c18, c19, c20, c21, c22, c23, c24, c25⟩ | ⟨c8, c9, c10, c11, c12, c13, c14, c15, c16, c17, c18, c19, c20, c21, c22, c23, c24, c25, c26, c27⟩ | ⟨c8, c9, c10, c11, c12, c13, c14, c15, c16, c17, c18, c19, c20, c21, c22⟩
                · exact o_16_30 h0 c0 c1 c2 c3 c4 c5 c6 c7 c8 c9 c10 c11 c12 c13 c14 c15 c16 c17 c18 c19 c20 c21 c22 c23 c24 c25 c26
                · exact o_16_31 h0 c0 c1 c2 c3 c4 c5 c6 c7 c8 c9 c10 c11 c12 c13 c14 c15 c16 c17 c18 c19 c20 c21 c22 c23 c24 c25
                · exact o_16_32 h0 c0 c1 c2 c3 c4 c5 c6 c7 c8 c9 c10 c11 c12 c13 c14 c15 c16 c17 c18 c19 c20 c21 c22 c23 c24 c25 c26 c27
                · exact o_16_33 h0 c0 c1 c2 c3 c4 c5 c6 c7 c8 c9 c10 c11 c12 c13 c14 c15 c16 c17 c18 c19 c20 c21 c22 c23 c24 c25 c26
                · exact o_16_34 h0 c0 c1 c2 c3 c4 c5 c6 c7 c8 c9 c10 c11 c12 c13 c14 c15 c16 c17 c18 c19 c20 c21 c22 c23 c24 c25
                · exact o_16_35 h0 c0 c1 c2 c3 c4 c5 c6 c7 c8 c9 c10 c11 c12 c13 c14 c15 c16 c17 c18 c19 c20 c21 c22 c23 c24 c25 c26 c27
                · exact o_16_36 h0 c0 c1 c2 c3 c4 c5 c6 c7 c8 c9 c10 c11 c12 c13 c14 c15 c16 c17 c18 c19 c20 c21 c22
    · exact o_16_37 h0 c0 c1
