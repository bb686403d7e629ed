theorem p_231_21 {d : Nat} {w : xW} {a0 : Int32} {a1 : Int32} {a2 : Int32} {a3 : Int32} {a4 : Int32} {a5 : Int32} {a6 : Int32} {g0 : Nat → Value} {a7 : Int32} {a8 : Int32} {a9 : Int32} {a10 : Int32} {a11 : Int32} {a12 : Int32} {a13 : Int32} {a14 : Int32} (e0 : 0 ≤ a0.toInt) (e1 : a0.toInt ≤ 15) (e2 : 0 ≤ a1.toInt) (e3 : a1.toInt ≤ 15) (e4 : 0 ≤ a2.toInt) (e5 : a2.toInt ≤ 15) (e6 : 1 ≤ a3.toInt) (e7 : a3.toInt ≤ 16) (hg8 : (a1 + a3) = a5) (e9 : a5.toInt ≤ 16) (hg10 : (a2 + a3) = a6) (e11 : a6.toInt ≤ 16) (e12 : 0 ≤ a4.toInt) (e13 : a4.toInt ≤ 4) (e14 : 0 < a3.toInt) (hg15 : (a1 + (0 : Int32)) = a1) (hg16 : (a2 + (0 : Int32)) = a2) (hw17 : w[128]? = some (Sum.inr (12, [Value.ref 129, Value.ref 131, Value.ref 133, Value.ref 135, Value.ref 137, Value.ref 139, Value.ref 141, Value.ref 143, Value.ref 145, Value.ref 147, Value.ref 149, Value.ref 151, Value.ref 153, Value.ref 154, Value.ref 155, Value.ref 156, Value.ref 157, Value.int (-16384), Value.int 16384, Value.int 0, Value.int 0, Value.int 0, Value.ref 158, Value.ref 159, Value.int 0, Value.int 0, Value.int 0, Value.int 0, Value.int 0, Value.int 0, Value.int 0, Value.int 0]))) (hw18 : w[154]? = some (Sum.inl (0, 17, fun _ => Value.int 0))) (e19 : a1.toInt < 17) (e20 : a2.toInt < 17) (hw21 : w[156]? = some (Sum.inl (2, 17, fun _ => Value.int 0))) (hw22 : w[155]? = some (Sum.inl (0, 17, fun _ => Value.int 0))) (hw23 : w[153]? = some (Sum.inl (0, 17, g0))) (hg24 : g0 a1.toInt.toNat = Value.int 64) (hg25 : g0 a2.toInt.toNat = Value.int 64) (e26 : 1 < a3.toInt) (hg27 : (a1 + (1 : Int32)) = a7) (hg28 : (a2 + (1 : Int32)) = a8) (e29 : 0 ≤ a7.toInt) (e30 : a7.toInt < 17) (e31 : 0 ≤ a8.toInt) (e32 : a8.toInt < 17) (hg33 : g0 a7.toInt.toNat = Value.int 64) (hg34 : g0 a8.toInt.toNat = Value.int 64) (e35 : 2 < a3.toInt) (hg36 : (a1 + (2 : Int32)) = a9) (hg37 : (a2 + (2 : Int32)) = a10) (e38 : 0 ≤ a9.toInt) (e39 : a9.toInt < 17) (e40 : 0 ≤ a10.toInt) (e41 : a10.toInt < 17) (hg42 : g0 a9.toInt.toNat = Value.int 64) (hg43 : g0 a10.toInt.toNat = Value.int 64) (e44 : 3 < a3.toInt) (hg45 : (a1 + (3 : Int32)) = a11) (hg46 : (a2 + (3 : Int32)) = a12) (e47 : 0 ≤ a11.toInt) (e48 : a11.toInt < 17) (e49 : 0 ≤ a12.toInt) (e50 : a12.toInt < 17) (hg51 : g0 a11.toInt.toNat = Value.int 64) (hg52 : g0 a12.toInt.toNat = Value.int 64) (e53 : 4 < a3.toInt) (hg54 : (a1 + (4 : Int32)) = a13) (hg55 : (a2 + (4 : Int32)) = a14) (e56 : 0 ≤ a13.toInt) (e57 : a13.toInt < 17) (e58 : 0 ≤ a14.toInt) (e59 : a14.toInt < 17) (hg60 : g0 a13.toInt.toNat = Value.int 64) (hg61 : g0 a14.toInt.toNat = Value.int 64) (e62 : a3.toInt ≤ 5) (e63 : a0.toInt < 17) : xRun (d + 2) 231 [Value.ref 128, Value.int a0, Value.int a1, Value.int a2, Value.int a3, Value.int a4] w (.inl (some (Value.int 0))) ((w.set 154 (Sum.inl (0, 17, xup (fun _ => Value.int 0) a0.toInt.toNat (Value.int 0)))).set 156 (Sum.inl (2, 17, xup (fun _ => Value.int 0) a0.toInt.toNat (Value.int 0)))) := by
  refine xRun.of ?_
  refine i_231_0 (x := a0) rfl ?_
  refine i_231_1 (Nat.le_of_ble_eq_true rfl) (p_168_1 e0 e1) ?_
  refine i_231_4 (x := a1) rfl ?_
  refine i_231_5 (Nat.le_of_ble_eq_true rfl) (p_168_1 e2 e3) ?_
  refine i_231_8 (x := a2) rfl ?_
  refine i_231_9 (Nat.le_of_ble_eq_true rfl) (p_168_1 e4 e5) ?_
  refine i_231_12 (x := a3) rfl ?_
  refine i_231_14 ?_
  refine i_231_15 ?_
  refine i_231_17 (Nat.le_of_ble_eq_true rfl) (p_169_44 e6 e7) ?_
  refine i_231_20 (fun h => absurd h (by decide)) (fun _ => ?_)
  refine i_231_23 (x := a1) rfl ?_
  refine i_231_24 (x := a3) rfl ?_
  refine i_231_26 (c := a5) hg8 ?_
  refine i_231_27 ?_
  refine i_231_29 (fun h => absurd e9 (Int.not_le.mpr h)) (fun _ => ?_)
  refine i_231_32 (x := a2) rfl ?_
  refine i_231_33 (x := a3) rfl ?_
  refine i_231_35 (c := a6) hg10 ?_
  refine i_231_36 ?_
  refine i_231_38 (fun h => absurd e11 (Int.not_le.mpr h)) (fun _ => ?_)
  refine i_231_41 ?_
  refine i_231_42 ?_
  refine i_231_46 (Nat.le_of_ble_eq_true rfl) (p_170_1) ?_
  refine i_231_49 (x := a4) rfl ?_
  refine i_231_51 (Nat.le_of_ble_eq_true rfl) (p_178_2 e12 e13) ?_
  refine i_231_54 ?_
  refine i_231_57 (lv2 := [(6, Value.int 2147483647), (0, Value.ref 128), (1, Value.int a0), (2, Value.int a1), (3, Value.int a2), (4, Value.int a3), (5, Value.int a4)]) rfl ?_
  refine i_231_59 ?_
  refine i_231_60 (lv2 := [(7, Value.int 0), (6, Value.int 2147483647), (0, Value.ref 128), (1, Value.int a0), (2, Value.int a1), (3, Value.int a2), (4, Value.int a3), (5, Value.int a4)]) rfl ?_
  refine i_231_62 ?_
  refine i_231_63 (lv2 := [(8, Value.int 0), (7, Value.int 0), (6, Value.int 2147483647), (0, Value.ref 128), (1, Value.int a0), (2, Value.int a1), (3, Value.int a2), (4, Value.int a3), (5, Value.int a4)]) rfl ?_
  refine i_231_65 ?_
  refine i_231_66 (lv2 := [(9, Value.int 0), (8, Value.int 0), (7, Value.int 0), (6, Value.int 2147483647), (0, Value.ref 128), (1, Value.int a0), (2, Value.int a1), (3, Value.int a2), (4, Value.int a3), (5, Value.int a4)]) rfl ?_
  refine i_231_68 ?_
  refine i_231_69 (lv2 := [(10, Value.int 0), (9, Value.int 0), (8, Value.int 0), (7, Value.int 0), (6, Value.int 2147483647), (0, Value.ref 128), (1, Value.int a0), (2, Value.int a1), (3, Value.int a2), (4, Value.int a3), (5, Value.int a4)]) rfl ?_
  refine i_231_71 ?_
  refine i_231_72 (lv2 := [(11, Value.int 0), (10, Value.int 0), (9, Value.int 0), (8, Value.int 0), (7, Value.int 0), (6, Value.int 2147483647), (0, Value.ref 128), (1, Value.int a0), (2, Value.int a1), (3, Value.int a2), (4, Value.int a3), (5, Value.int a4)]) rfl ?_
  refine i_231_74 (x := 0) rfl ?_
  refine i_231_76 (x := a3) rfl ?_
  refine i_231_78 (fun h => absurd e14 (Int.not_lt.mpr h)) (fun _ => ?_)
  refine i_231_81 (x := a1) rfl ?_
  refine i_231_82 (x := 0) rfl ?_
  refine i_231_84 (c := a1) hg15 ?_
  refine i_231_85 (lv2 := [(12, Value.int a1), (11, Value.int 0), (10, Value.int 0), (9, Value.int 0), (8, Value.int 0), (7, Value.int 0), (6, Value.int 2147483647), (0, Value.ref 128), (1, Value.int a0), (2, Value.int a1), (3, Value.int a2), (4, Value.int a3), (5, Value.int a4)]) rfl ?_
  refine i_231_87 (x := a2) rfl ?_
  refine i_231_88 (x := 0) rfl ?_
  refine i_231_90 (c := a2) hg16 ?_
  refine i_231_91 (lv2 := [(13, Value.int a2), (12, Value.int a1), (11, Value.int 0), (10, Value.int 0), (9, Value.int 0), (8, Value.int 0), (7, Value.int 0), (6, Value.int 2147483647), (0, Value.ref 128), (1, Value.int a0), (2, Value.int a1), (3, Value.int a2), (4, Value.int a3), (5, Value.int a4)]) rfl ?_
  refine i_231_93 (x := 0) rfl ?_
  refine i_231_95 (x := 128) rfl ?_
  refine i_231_96 (v := Value.ref 154) hw17 rfl ?_
  refine i_231_99 (x := a1) rfl ?_
  refine i_231_101 (v := Value.int 0) hw18 e2 e19 rfl ?_
  refine i_231_102 (fun _ => ?_) (fun h => absurd h (by decide))
  refine i_231_115 ?_
  refine i_231_116 ?_
  refine i_231_120 (c := 1) (by decide) ?_
  refine i_231_121 (lv2 := [(9, Value.int 1), (13, Value.int a2), (12, Value.int a1), (11, Value.int 0), (10, Value.int 0), (8, Value.int 0), (7, Value.int 0), (6, Value.int 2147483647), (0, Value.ref 128), (1, Value.int a0), (2, Value.int a1), (3, Value.int a2), (4, Value.int a3), (5, Value.int a4)]) rfl ?_
  refine i_231_123 (x := 128) rfl ?_
  refine i_231_124 (v := Value.ref 154) hw17 rfl ?_
  refine i_231_127 (x := a1) rfl ?_
  refine i_231_129 (v := Value.int 0) hw18 e2 e19 rfl ?_
  refine i_231_130 ?_
  refine i_231_131 (fun h => absurd h (by decide)) (fun _ => ?_)
  refine i_231_134 (x := 128) rfl ?_
  refine i_231_135 (v := Value.ref 154) hw17 rfl ?_
  refine i_231_138 (x := a2) rfl ?_
  refine i_231_140 (v := Value.int 0) hw18 e4 e20 rfl ?_
  refine i_231_141 ?_
  refine i_231_142 (fun _ => ?_) (fun h => absurd h (by decide))
  refine i_231_149 ?_
  refine i_231_150 (lv2 := [(14, Value.int 0), (9, Value.int 1), (13, Value.int a2), (12, Value.int a1), (11, Value.int 0), (10, Value.int 0), (8, Value.int 0), (7, Value.int 0), (6, Value.int 2147483647), (0, Value.ref 128), (1, Value.int a0), (2, Value.int a1), (3, Value.int a2), (4, Value.int a3), (5, Value.int a4)]) rfl ?_
  refine i_231_152 (x := 128) rfl ?_
  refine i_231_153 (v := Value.ref 154) hw17 rfl ?_
  refine i_231_156 (x := a1) rfl ?_
  refine i_231_158 (v := Value.int 0) hw18 e2 e19 rfl ?_
  refine i_231_159 ?_
  refine i_231_160 (fun h => absurd h (by decide)) (fun _ => ?_)
  refine i_231_163 (x := 128) rfl ?_
  refine i_231_164 (v := Value.ref 154) hw17 rfl ?_
  refine i_231_167 (x := a2) rfl ?_
  refine i_231_169 (v := Value.int 0) hw18 e4 e20 rfl ?_
  refine i_231_170 ?_
  refine i_231_171 (fun _ => ?_) (fun h => absurd h (by decide))
  refine i_231_178 ?_
  refine i_231_179 (lv2 := [(15, Value.int 0), (14, Value.int 0), (9, Value.int 1), (13, Value.int a2), (12, Value.int a1), (11, Value.int 0), (10, Value.int 0), (8, Value.int 0), (7, Value.int 0), (6, Value.int 2147483647), (0, Value.ref 128), (1, Value.int a0), (2, Value.int a1), (3, Value.int a2), (4, Value.int a3), (5, Value.int a4)]) rfl ?_
  refine i_231_181 (x := 128) rfl ?_
  refine i_231_182 (v := Value.ref 156) hw17 rfl ?_
  refine i_231_185 (x := a1) rfl ?_
  refine i_231_187z (v := Value.int 0) hw21 e2 e19 rfl ?_
  refine i_231_188 (x := 128) rfl ?_
  refine i_231_189 (v := Value.ref 156) hw17 rfl ?_
  refine i_231_192 (x := a2) rfl ?_
  refine i_231_194z (v := Value.int 0) hw21 e4 e20 rfl ?_
  refine i_231_195 (fun _ => ?_) (fun h => absurd h (by decide))
  refine i_231_202 ?_
  refine i_231_203 (lv2 := [(16, Value.int 0), (15, Value.int 0), (14, Value.int 0), (9, Value.int 1), (13, Value.int a2), (12, Value.int a1), (11, Value.int 0), (10, Value.int 0), (8, Value.int 0), (7, Value.int 0), (6, Value.int 2147483647), (0, Value.ref 128), (1, Value.int a0), (2, Value.int a1), (3, Value.int a2), (4, Value.int a3), (5, Value.int a4)]) rfl ?_
  refine i_231_205 (x := 0) rfl ?_
  refine i_231_207 (x := 0) rfl ?_
  refine i_231_209 (fun _ => ?_) (fun h => absurd h (by decide))
  refine i_231_221 ?_
  refine i_231_222 (c := 0) (by decide) ?_
  refine i_231_223 (lv2 := [(10, Value.int 0), (16, Value.int 0), (15, Value.int 0), (14, Value.int 0), (9, Value.int 1), (13, Value.int a2), (12, Value.int a1), (11, Value.int 0), (8, Value.int 0), (7, Value.int 0), (6, Value.int 2147483647), (0, Value.ref 128), (1, Value.int a0), (2, Value.int a1), (3, Value.int a2), (4, Value.int a3), (5, Value.int a4)]) rfl ?_
  refine i_231_225 (x := 0) rfl ?_
  refine i_231_227 (x := 0) rfl ?_
  refine i_231_229 (fun _ => ?_) (fun h => absurd h (by decide))
  refine i_231_241 ?_
  refine i_231_242 (c := 0) (by decide) ?_
  refine i_231_243 (lv2 := [(7, Value.int 0), (10, Value.int 0), (16, Value.int 0), (15, Value.int 0), (14, Value.int 0), (9, Value.int 1), (13, Value.int a2), (12, Value.int a1), (11, Value.int 0), (8, Value.int 0), (6, Value.int 2147483647), (0, Value.ref 128), (1, Value.int a0), (2, Value.int a1), (3, Value.int a2), (4, Value.int a3), (5, Value.int a4)]) rfl ?_
  refine i_231_245 (x := 0) rfl ?_
  refine i_231_247 (x := 0) rfl ?_
  refine i_231_249 (fun _ => ?_) (fun h => absurd h (by decide))
  refine i_231_261 ?_
  refine i_231_262 (c := 0) (by decide) ?_
  refine i_231_263 (lv2 := [(8, Value.int 0), (7, Value.int 0), (10, Value.int 0), (16, Value.int 0), (15, Value.int 0), (14, Value.int 0), (9, Value.int 1), (13, Value.int a2), (12, Value.int a1), (11, Value.int 0), (6, Value.int 2147483647), (0, Value.ref 128), (1, Value.int a0), (2, Value.int a1), (3, Value.int a2), (4, Value.int a3), (5, Value.int a4)]) rfl ?_
  refine i_231_265 (x := 0) rfl ?_
  refine i_231_267 (fun h => absurd h (by decide)) (fun _ => ?_)
  refine i_231_270 (x := 0) rfl ?_
  refine i_231_272 (fun h => absurd h (by decide)) (fun _ => ?_)
  refine i_231_275 (x := 2147483647) rfl ?_
  refine i_231_277 (x := 128) rfl ?_
  refine i_231_278 (x := a1) rfl ?_
  refine i_231_280 hw17 (Nat.le_of_ble_eq_true rfl) (p_196_0 hw17 hw22 e2 e19 hw23 hg24) ?_
  refine i_231_283 (x := 128) rfl ?_
  refine i_231_284 (x := a2) rfl ?_
  refine i_231_286 hw17 (Nat.le_of_ble_eq_true rfl) (p_196_0 hw17 hw22 e4 e20 hw23 hg25) ?_
  refine i_231_289 (c := (-128)) (by decide) ?_
  refine i_231_290 (Nat.le_of_ble_eq_true rfl) (p_272_0) ?_
  refine i_231_293 (lv2 := [(6, Value.int (-128)), (8, Value.int 0), (7, Value.int 0), (10, Value.int 0), (16, Value.int 0), (15, Value.int 0), (14, Value.int 0), (9, Value.int 1), (13, Value.int a2), (12, Value.int a1), (11, Value.int 0), (0, Value.ref 128), (1, Value.int a0), (2, Value.int a1), (3, Value.int a2), (4, Value.int a3), (5, Value.int a4)]) rfl ?_
  refine i_231_295 (x := 0) (c := 1) (lv2 := [(11, Value.int 1), (6, Value.int (-128)), (8, Value.int 0), (7, Value.int 0), (10, Value.int 0), (16, Value.int 0), (15, Value.int 0), (14, Value.int 0), (9, Value.int 1), (13, Value.int a2), (12, Value.int a1), (0, Value.ref 128), (1, Value.int a0), (2, Value.int a1), (3, Value.int a2), (4, Value.int a3), (5, Value.int a4)]) rfl (by decide) rfl ?_
  refine i_231_298 ?_
  refine i_231_74 (x := 1) rfl ?_
  refine i_231_76 (x := a3) rfl ?_
  refine i_231_78 (fun h => absurd e26 (Int.not_lt.mpr h)) (fun _ => ?_)
  refine i_231_81 (x := a1) rfl ?_
  refine i_231_82 (x := 1) rfl ?_
  refine i_231_84 (c := a7) hg27 ?_
  refine i_231_85 (lv2 := [(12, Value.int a7), (11, Value.int 1), (6, Value.int (-128)), (8, Value.int 0), (7, Value.int 0), (10, Value.int 0), (16, Value.int 0), (15, Value.int 0), (14, Value.int 0), (9, Value.int 1), (13, Value.int a2), (0, Value.ref 128), (1, Value.int a0), (2, Value.int a1), (3, Value.int a2), (4, Value.int a3), (5, Value.int a4)]) rfl ?_
  refine i_231_87 (x := a2) rfl ?_
  refine i_231_88 (x := 1) rfl ?_
  refine i_231_90 (c := a8) hg28 ?_
  refine i_231_91 (lv2 := [(13, Value.int a8), (12, Value.int a7), (11, Value.int 1), (6, Value.int (-128)), (8, Value.int 0), (7, Value.int 0), (10, Value.int 0), (16, Value.int 0), (15, Value.int 0), (14, Value.int 0), (9, Value.int 1), (0, Value.ref 128), (1, Value.int a0), (2, Value.int a1), (3, Value.int a2), (4, Value.int a3), (5, Value.int a4)]) rfl ?_
  refine i_231_93 (x := 1) rfl ?_
  refine i_231_95 (x := 128) rfl ?_
  refine i_231_96 (v := Value.ref 154) hw17 rfl ?_
  refine i_231_99 (x := a7) rfl ?_
  refine i_231_101 (v := Value.int 0) hw18 e29 e30 rfl ?_
  refine i_231_102 (fun _ => ?_) (fun h => absurd h (by decide))
  refine i_231_115 ?_
  refine i_231_116 ?_
  refine i_231_120 (c := 1) (by decide) ?_
  refine i_231_121 (lv2 := [(9, Value.int 1), (13, Value.int a8), (12, Value.int a7), (11, Value.int 1), (6, Value.int (-128)), (8, Value.int 0), (7, Value.int 0), (10, Value.int 0), (16, Value.int 0), (15, Value.int 0), (14, Value.int 0), (0, Value.ref 128), (1, Value.int a0), (2, Value.int a1), (3, Value.int a2), (4, Value.int a3), (5, Value.int a4)]) rfl ?_
  refine i_231_123 (x := 128) rfl ?_
  refine i_231_124 (v := Value.ref 154) hw17 rfl ?_
  refine i_231_127 (x := a7) rfl ?_
  refine i_231_129 (v := Value.int 0) hw18 e29 e30 rfl ?_
  refine i_231_130 ?_
  refine i_231_131 (fun h => absurd h (by decide)) (fun _ => ?_)
  refine i_231_134 (x := 128) rfl ?_
  refine i_231_135 (v := Value.ref 154) hw17 rfl ?_
  refine i_231_138 (x := a8) rfl ?_
  refine i_231_140 (v := Value.int 0) hw18 e31 e32 rfl ?_
  refine i_231_141 ?_
  refine i_231_142 (fun _ => ?_) (fun h => absurd h (by decide))
  refine i_231_149 ?_
  refine i_231_150 (lv2 := [(14, Value.int 0), (9, Value.int 1), (13, Value.int a8), (12, Value.int a7), (11, Value.int 1), (6, Value.int (-128)), (8, Value.int 0), (7, Value.int 0), (10, Value.int 0), (16, Value.int 0), (15, Value.int 0), (0, Value.ref 128), (1, Value.int a0), (2, Value.int a1), (3, Value.int a2), (4, Value.int a3), (5, Value.int a4)]) rfl ?_
  refine i_231_152 (x := 128) rfl ?_
  refine i_231_153 (v := Value.ref 154) hw17 rfl ?_
  refine i_231_156 (x := a7) rfl ?_
  refine i_231_158 (v := Value.int 0) hw18 e29 e30 rfl ?_
  refine i_231_159 ?_
  refine i_231_160 (fun h => absurd h (by decide)) (fun _ => ?_)
  refine i_231_163 (x := 128) rfl ?_
  refine i_231_164 (v := Value.ref 154) hw17 rfl ?_
  refine i_231_167 (x := a8) rfl ?_
  refine i_231_169 (v := Value.int 0) hw18 e31 e32 rfl ?_
  refine i_231_170 ?_
  refine i_231_171 (fun _ => ?_) (fun h => absurd h (by decide))
  refine i_231_178 ?_
  refine i_231_179 (lv2 := [(15, Value.int 0), (14, Value.int 0), (9, Value.int 1), (13, Value.int a8), (12, Value.int a7), (11, Value.int 1), (6, Value.int (-128)), (8, Value.int 0), (7, Value.int 0), (10, Value.int 0), (16, Value.int 0), (0, Value.ref 128), (1, Value.int a0), (2, Value.int a1), (3, Value.int a2), (4, Value.int a3), (5, Value.int a4)]) rfl ?_
  refine i_231_181 (x := 128) rfl ?_
  refine i_231_182 (v := Value.ref 156) hw17 rfl ?_
  refine i_231_185 (x := a7) rfl ?_
  refine i_231_187z (v := Value.int 0) hw21 e29 e30 rfl ?_
  refine i_231_188 (x := 128) rfl ?_
  refine i_231_189 (v := Value.ref 156) hw17 rfl ?_
  refine i_231_192 (x := a8) rfl ?_
  refine i_231_194z (v := Value.int 0) hw21 e31 e32 rfl ?_
  refine i_231_195 (fun _ => ?_) (fun h => absurd h (by decide))
  refine i_231_202 ?_
  refine i_231_203 (lv2 := [(16, Value.int 0), (15, Value.int 0), (14, Value.int 0), (9, Value.int 1), (13, Value.int a8), (12, Value.int a7), (11, Value.int 1), (6, Value.int (-128)), (8, Value.int 0), (7, Value.int 0), (10, Value.int 0), (0, Value.ref 128), (1, Value.int a0), (2, Value.int a1), (3, Value.int a2), (4, Value.int a3), (5, Value.int a4)]) rfl ?_
  refine i_231_205 (x := 0) rfl ?_
  refine i_231_207 (x := 0) rfl ?_
  refine i_231_209 (fun _ => ?_) (fun h => absurd h (by decide))
  refine i_231_221 ?_
  refine i_231_222 (c := 0) (by decide) ?_
  refine i_231_223 (lv2 := [(10, Value.int 0), (16, Value.int 0), (15, Value.int 0), (14, Value.int 0), (9, Value.int 1), (13, Value.int a8), (12, Value.int a7), (11, Value.int 1), (6, Value.int (-128)), (8, Value.int 0), (7, Value.int 0), (0, Value.ref 128), (1, Value.int a0), (2, Value.int a1), (3, Value.int a2), (4, Value.int a3), (5, Value.int a4)]) rfl ?_
  refine i_231_225 (x := 0) rfl ?_
  refine i_231_227 (x := 0) rfl ?_
  refine i_231_229 (fun _ => ?_) (fun h => absurd h (by decide))
  refine i_231_241 ?_
  refine i_231_242 (c := 0) (by decide) ?_
  refine i_231_243 (lv2 := [(7, Value.int 0), (10, Value.int 0), (16, Value.int 0), (15, Value.int 0), (14, Value.int 0), (9, Value.int 1), (13, Value.int a8), (12, Value.int a7), (11, Value.int 1), (6, Value.int (-128)), (8, Value.int 0), (0, Value.ref 128), (1, Value.int a0), (2, Value.int a1), (3, Value.int a2), (4, Value.int a3), (5, Value.int a4)]) rfl ?_
  refine i_231_245 (x := 0) rfl ?_
  refine i_231_247 (x := 0) rfl ?_
  refine i_231_249 (fun _ => ?_) (fun h => absurd h (by decide))
  refine i_231_261 ?_
  refine i_231_262 (c := 0) (by decide) ?_
  refine i_231_263 (lv2 := [(8, Value.int 0), (7, Value.int 0), (10, Value.int 0), (16, Value.int 0), (15, Value.int 0), (14, Value.int 0), (9, Value.int 1), (13, Value.int a8), (12, Value.int a7), (11, Value.int 1), (6, Value.int (-128)), (0, Value.ref 128), (1, Value.int a0), (2, Value.int a1), (3, Value.int a2), (4, Value.int a3), (5, Value.int a4)]) rfl ?_
  refine i_231_265 (x := 0) rfl ?_
  refine i_231_267 (fun h => absurd h (by decide)) (fun _ => ?_)
  refine i_231_270 (x := 0) rfl ?_
  refine i_231_272 (fun h => absurd h (by decide)) (fun _ => ?_)
  refine i_231_275 (x := (-128)) rfl ?_
  refine i_231_277 (x := 128) rfl ?_
  refine i_231_278 (x := a7) rfl ?_
  refine i_231_280 hw17 (Nat.le_of_ble_eq_true rfl) (p_196_0 hw17 hw22 e29 e30 hw23 hg33) ?_
  refine i_231_283 (x := 128) rfl ?_
  refine i_231_284 (x := a8) rfl ?_
  refine i_231_286 hw17 (Nat.le_of_ble_eq_true rfl) (p_196_0 hw17 hw22 e31 e32 hw23 hg34) ?_
  refine i_231_289 (c := (-128)) (by decide) ?_
  refine i_231_290 (Nat.le_of_ble_eq_true rfl) (p_272_1) ?_
  refine i_231_293 (lv2 := [(6, Value.int (-128)), (8, Value.int 0), (7, Value.int 0), (10, Value.int 0), (16, Value.int 0), (15, Value.int 0), (14, Value.int 0), (9, Value.int 1), (13, Value.int a8), (12, Value.int a7), (11, Value.int 1), (0, Value.ref 128), (1, Value.int a0), (2, Value.int a1), (3, Value.int a2), (4, Value.int a3), (5, Value.int a4)]) rfl ?_
  refine i_231_295 (x := 1) (c := 2) (lv2 := [(11, Value.int 2), (6, Value.int (-128)), (8, Value.int 0), (7, Value.int 0), (10, Value.int 0), (16, Value.int 0), (15, Value.int 0), (14, Value.int 0), (9, Value.int 1), (13, Value.int a8), (12, Value.int a7), (0, Value.ref 128), (1, Value.int a0), (2, Value.int a1), (3, Value.int a2), (4, Value.int a3), (5, Value.int a4)]) rfl (by decide) rfl ?_
  refine i_231_298 ?_
  refine i_231_74 (x := 2) rfl ?_
  refine i_231_76 (x := a3) rfl ?_
  refine i_231_78 (fun h => absurd e35 (Int.not_lt.mpr h)) (fun _ => ?_)
  refine i_231_81 (x := a1) rfl ?_
  refine i_231_82 (x := 2) rfl ?_
  refine i_231_84 (c := a9) hg36 ?_
  refine i_231_85 (lv2 := [(12, Value.int a9), (11, Value.int 2), (6, Value.int (-128)), (8, Value.int 0), (7, Value.int 0), (10, Value.int 0), (16, Value.int 0), (15, Value.int 0), (14, Value.int 0), (9, Value.int 1), (13, Value.int a8), (0, Value.ref 128), (1, Value.int a0), (2, Value.int a1), (3, Value.int a2), (4, Value.int a3), (5, Value.int a4)]) rfl ?_
  refine i_231_87 (x := a2) rfl ?_
  refine i_231_88 (x := 2) rfl ?_
  refine i_231_90 (c := a10) hg37 ?_
  refine i_231_91 (lv2 := [(13, Value.int a10), (12, Value.int a9), (11, Value.int 2), (6, Value.int (-128)), (8, Value.int 0), (7, Value.int 0), (10, Value.int 0), (16, Value.int 0), (15, Value.int 0), (14, Value.int 0), (9, Value.int 1), (0, Value.ref 128), (1, Value.int a0), (2, Value.int a1), (3, Value.int a2), (4, Value.int a3), (5, Value.int a4)]) rfl ?_
  refine i_231_93 (x := 1) rfl ?_
  refine i_231_95 (x := 128) rfl ?_
  refine i_231_96 (v := Value.ref 154) hw17 rfl ?_
  refine i_231_99 (x := a9) rfl ?_
  refine i_231_101 (v := Value.int 0) hw18 e38 e39 rfl ?_
  refine i_231_102 (fun _ => ?_) (fun h => absurd h (by decide))
  refine i_231_115 ?_
  refine i_231_116 ?_
  refine i_231_120 (c := 1) (by decide) ?_
  refine i_231_121 (lv2 := [(9, Value.int 1), (13, Value.int a10), (12, Value.int a9), (11, Value.int 2), (6, Value.int (-128)), (8, Value.int 0), (7, Value.int 0), (10, Value.int 0), (16, Value.int 0), (15, Value.int 0), (14, Value.int 0), (0, Value.ref 128), (1, Value.int a0), (2, Value.int a1), (3, Value.int a2), (4, Value.int a3), (5, Value.int a4)]) rfl ?_
  refine i_231_123 (x := 128) rfl ?_
  refine i_231_124 (v := Value.ref 154) hw17 rfl ?_
  refine i_231_127 (x := a9) rfl ?_
  refine i_231_129 (v := Value.int 0) hw18 e38 e39 rfl ?_
  refine i_231_130 ?_
  refine i_231_131 (fun h => absurd h (by decide)) (fun _ => ?_)
  refine i_231_134 (x := 128) rfl ?_
  refine i_231_135 (v := Value.ref 154) hw17 rfl ?_
  refine i_231_138 (x := a10) rfl ?_
  refine i_231_140 (v := Value.int 0) hw18 e40 e41 rfl ?_
  refine i_231_141 ?_
  refine i_231_142 (fun _ => ?_) (fun h => absurd h (by decide))
  refine i_231_149 ?_
  refine i_231_150 (lv2 := [(14, Value.int 0), (9, Value.int 1), (13, Value.int a10), (12, Value.int a9), (11, Value.int 2), (6, Value.int (-128)), (8, Value.int 0), (7, Value.int 0), (10, Value.int 0), (16, Value.int 0), (15, Value.int 0), (0, Value.ref 128), (1, Value.int a0), (2, Value.int a1), (3, Value.int a2), (4, Value.int a3), (5, Value.int a4)]) rfl ?_
  refine i_231_152 (x := 128) rfl ?_
  refine i_231_153 (v := Value.ref 154) hw17 rfl ?_
  refine i_231_156 (x := a9) rfl ?_
  refine i_231_158 (v := Value.int 0) hw18 e38 e39 rfl ?_
  refine i_231_159 ?_
  refine i_231_160 (fun h => absurd h (by decide)) (fun _ => ?_)
  refine i_231_163 (x := 128) rfl ?_
  refine i_231_164 (v := Value.ref 154) hw17 rfl ?_
  refine i_231_167 (x := a10) rfl ?_
  refine i_231_169 (v := Value.int 0) hw18 e40 e41 rfl ?_
  refine i_231_170 ?_
  refine i_231_171 (fun _ => ?_) (fun h => absurd h (by decide))
  refine i_231_178 ?_
  refine i_231_179 (lv2 := [(15, Value.int 0), (14, Value.int 0), (9, Value.int 1), (13, Value.int a10), (12, Value.int a9), (11, Value.int 2), (6, Value.int (-128)), (8, Value.int 0), (7, Value.int 0), (10, Value.int 0), (16, Value.int 0), (0, Value.ref 128), (1, Value.int a0), (2, Value.int a1), (3, Value.int a2), (4, Value.int a3), (5, Value.int a4)]) rfl ?_
  refine i_231_181 (x := 128) rfl ?_
  refine i_231_182 (v := Value.ref 156) hw17 rfl ?_
  refine i_231_185 (x := a9) rfl ?_
  refine i_231_187z (v := Value.int 0) hw21 e38 e39 rfl ?_
  refine i_231_188 (x := 128) rfl ?_
  refine i_231_189 (v := Value.ref 156) hw17 rfl ?_
  refine i_231_192 (x := a10) rfl ?_
  refine i_231_194z (v := Value.int 0) hw21 e40 e41 rfl ?_
  refine i_231_195 (fun _ => ?_) (fun h => absurd h (by decide))
  refine i_231_202 ?_
  refine i_231_203 (lv2 := [(16, Value.int 0), (15, Value.int 0), (14, Value.int 0), (9, Value.int 1), (13, Value.int a10), (12, Value.int a9), (11, Value.int 2), (6, Value.int (-128)), (8, Value.int 0), (7, Value.int 0), (10, Value.int 0), (0, Value.ref 128), (1, Value.int a0), (2, Value.int a1), (3, Value.int a2), (4, Value.int a3), (5, Value.int a4)]) rfl ?_
  refine i_231_205 (x := 0) rfl ?_
  refine i_231_207 (x := 0) rfl ?_
  refine i_231_209 (fun _ => ?_) (fun h => absurd h (by decide))
  refine i_231_221 ?_
  refine i_231_222 (c := 0) (by decide) ?_
  refine i_231_223 (lv2 := [(10, Value.int 0), (16, Value.int 0), (15, Value.int 0), (14, Value.int 0), (9, Value.int 1), (13, Value.int a10), (12, Value.int a9), (11, Value.int 2), (6, Value.int (-128)), (8, Value.int 0), (7, Value.int 0), (0, Value.ref 128), (1, Value.int a0), (2, Value.int a1), (3, Value.int a2), (4, Value.int a3), (5, Value.int a4)]) rfl ?_
  refine i_231_225 (x := 0) rfl ?_
  refine i_231_227 (x := 0) rfl ?_
  refine i_231_229 (fun _ => ?_) (fun h => absurd h (by decide))
  refine i_231_241 ?_
  refine i_231_242 (c := 0) (by decide) ?_
  refine i_231_243 (lv2 := [(7, Value.int 0), (10, Value.int 0), (16, Value.int 0), (15, Value.int 0), (14, Value.int 0), (9, Value.int 1), (13, Value.int a10), (12, Value.int a9), (11, Value.int 2), (6, Value.int (-128)), (8, Value.int 0), (0, Value.ref 128), (1, Value.int a0), (2, Value.int a1), (3, Value.int a2), (4, Value.int a3), (5, Value.int a4)]) rfl ?_
  refine i_231_245 (x := 0) rfl ?_
  refine i_231_247 (x := 0) rfl ?_
  refine i_231_249 (fun _ => ?_) (fun h => absurd h (by decide))
  refine i_231_261 ?_
  refine i_231_262 (c := 0) (by decide) ?_
  refine i_231_263 (lv2 := [(8, Value.int 0), (7, Value.int 0), (10, Value.int 0), (16, Value.int 0), (15, Value.int 0), (14, Value.int 0), (9, Value.int 1), (13, Value.int a10), (12, Value.int a9), (11, Value.int 2), (6, Value.int (-128)), (0, Value.ref 128), (1, Value.int a0), (2, Value.int a1), (3, Value.int a2), (4, Value.int a3), (5, Value.int a4)]) rfl ?_
  refine i_231_265 (x := 0) rfl ?_
  refine i_231_267 (fun h => absurd h (by decide)) (fun _ => ?_)
  refine i_231_270 (x := 0) rfl ?_
  refine i_231_272 (fun h => absurd h (by decide)) (fun _ => ?_)
  refine i_231_275 (x := (-128)) rfl ?_
  refine i_231_277 (x := 128) rfl ?_
  refine i_231_278 (x := a9) rfl ?_
  refine i_231_280 hw17 (Nat.le_of_ble_eq_true rfl) (p_196_0 hw17 hw22 e38 e39 hw23 hg42) ?_
  refine i_231_283 (x := 128) rfl ?_
  refine i_231_284 (x := a10) rfl ?_
  refine i_231_286 hw17 (Nat.le_of_ble_eq_true rfl) (p_196_0 hw17 hw22 e40 e41 hw23 hg43) ?_
  refine i_231_289 (c := (-128)) (by decide) ?_
  refine i_231_290 (Nat.le_of_ble_eq_true rfl) (p_272_1) ?_
  refine i_231_293 (lv2 := [(6, Value.int (-128)), (8, Value.int 0), (7, Value.int 0), (10, Value.int 0), (16, Value.int 0), (15, Value.int 0), (14, Value.int 0), (9, Value.int 1), (13, Value.int a10), (12, Value.int a9), (11, Value.int 2), (0, Value.ref 128), (1, Value.int a0), (2, Value.int a1), (3, Value.int a2), (4, Value.int a3), (5, Value.int a4)]) rfl ?_
  refine i_231_295 (x := 2) (c := 3) (lv2 := [(11, Value.int 3), (6, Value.int (-128)), (8, Value.int 0), (7, Value.int 0), (10, Value.int 0), (16, Value.int 0), (15, Value.int 0), (14, Value.int 0), (9, Value.int 1), (13, Value.int a10), (12, Value.int a9), (0, Value.ref 128), (1, Value.int a0), (2, Value.int a1), (3, Value.int a2), (4, Value.int a3), (5, Value.int a4)]) rfl (by decide) rfl ?_
  refine i_231_298 ?_
  refine i_231_74 (x := 3) rfl ?_
  refine i_231_76 (x := a3) rfl ?_
  refine i_231_78 (fun h => absurd e44 (Int.not_lt.mpr h)) (fun _ => ?_)
  refine i_231_81 (x := a1) rfl ?_
  refine i_231_82 (x := 3) rfl ?_
  refine i_231_84 (c := a11) hg45 ?_
  refine i_231_85 (lv2 := [(12, Value.int a11), (11, Value.int 3), (6, Value.int (-128)), (8, Value.int 0), (7, Value.int 0), (10, Value.int 0), (16, Value.int 0), (15, Value.int 0), (14, Value.int 0), (9, Value.int 1), (13, Value.int a10), (0, Value.ref 128), (1, Value.int a0), (2, Value.int a1), (3, Value.int a2), (4, Value.int a3), (5, Value.int a4)]) rfl ?_
  refine i_231_87 (x := a2) rfl ?_
  refine i_231_88 (x := 3) rfl ?_
  refine i_231_90 (c := a12) hg46 ?_
  refine i_231_91 (lv2 := [(13, Value.int a12), (12, Value.int a11), (11, Value.int 3), (6, Value.int (-128)), (8, Value.int 0), (7, Value.int 0), (10, Value.int 0), (16, Value.int 0), (15, Value.int 0), (14, Value.int 0), (9, Value.int 1), (0, Value.ref 128), (1, Value.int a0), (2, Value.int a1), (3, Value.int a2), (4, Value.int a3), (5, Value.int a4)]) rfl ?_
  refine i_231_93 (x := 1) rfl ?_
  refine i_231_95 (x := 128) rfl ?_
  refine i_231_96 (v := Value.ref 154) hw17 rfl ?_
  refine i_231_99 (x := a11) rfl ?_
  refine i_231_101 (v := Value.int 0) hw18 e47 e48 rfl ?_
  refine i_231_102 (fun _ => ?_) (fun h => absurd h (by decide))
  refine i_231_115 ?_
  refine i_231_116 ?_
  refine i_231_120 (c := 1) (by decide) ?_
  refine i_231_121 (lv2 := [(9, Value.int 1), (13, Value.int a12), (12, Value.int a11), (11, Value.int 3), (6, Value.int (-128)), (8, Value.int 0), (7, Value.int 0), (10, Value.int 0), (16, Value.int 0), (15, Value.int 0), (14, Value.int 0), (0, Value.ref 128), (1, Value.int a0), (2, Value.int a1), (3, Value.int a2), (4, Value.int a3), (5, Value.int a4)]) rfl ?_
  refine i_231_123 (x := 128) rfl ?_
  refine i_231_124 (v := Value.ref 154) hw17 rfl ?_
  refine i_231_127 (x := a11) rfl ?_
  refine i_231_129 (v := Value.int 0) hw18 e47 e48 rfl ?_
  refine i_231_130 ?_
  refine i_231_131 (fun h => absurd h (by decide)) (fun _ => ?_)
  refine i_231_134 (x := 128) rfl ?_
  refine i_231_135 (v := Value.ref 154) hw17 rfl ?_
  refine i_231_138 (x := a12) rfl ?_
  refine i_231_140 (v := Value.int 0) hw18 e49 e50 rfl ?_
  refine i_231_141 ?_
  refine i_231_142 (fun _ => ?_) (fun h => absurd h (by decide))
  refine i_231_149 ?_
  refine i_231_150 (lv2 := [(14, Value.int 0), (9, Value.int 1), (13, Value.int a12), (12, Value.int a11), (11, Value.int 3), (6, Value.int (-128)), (8, Value.int 0), (7, Value.int 0), (10, Value.int 0), (16, Value.int 0), (15, Value.int 0), (0, Value.ref 128), (1, Value.int a0), (2, Value.int a1), (3, Value.int a2), (4, Value.int a3), (5, Value.int a4)]) rfl ?_
  refine i_231_152 (x := 128) rfl ?_
  refine i_231_153 (v := Value.ref 154) hw17 rfl ?_
  refine i_231_156 (x := a11) rfl ?_
  refine i_231_158 (v := Value.int 0) hw18 e47 e48 rfl ?_
  refine i_231_159 ?_
  refine i_231_160 (fun h => absurd h (by decide)) (fun _ => ?_)
  refine i_231_163 (x := 128) rfl ?_
  refine i_231_164 (v := Value.ref 154) hw17 rfl ?_
  refine i_231_167 (x := a12) rfl ?_
  refine i_231_169 (v := Value.int 0) hw18 e49 e50 rfl ?_
  refine i_231_170 ?_
  refine i_231_171 (fun _ => ?_) (fun h => absurd h (by decide))
  refine i_231_178 ?_
  refine i_231_179 (lv2 := [(15, Value.int 0), (14, Value.int 0), (9, Value.int 1), (13, Value.int a12), (12, Value.int a11), (11, Value.int 3), (6, Value.int (-128)), (8, Value.int 0), (7, Value.int 0), (10, Value.int 0), (16, Value.int 0), (0, Value.ref 128), (1, Value.int a0), (2, Value.int a1), (3, Value.int a2), (4, Value.int a3), (5, Value.int a4)]) rfl ?_
  refine i_231_181 (x := 128) rfl ?_
  refine i_231_182 (v := Value.ref 156) hw17 rfl ?_
  refine i_231_185 (x := a11) rfl ?_
  refine i_231_187z (v := Value.int 0) hw21 e47 e48 rfl ?_
  refine i_231_188 (x := 128) rfl ?_
  refine i_231_189 (v := Value.ref 156) hw17 rfl ?_
  refine i_231_192 (x := a12) rfl ?_
  refine i_231_194z (v := Value.int 0) hw21 e49 e50 rfl ?_
  refine i_231_195 (fun _ => ?_) (fun h => absurd h (by decide))
  refine i_231_202 ?_
  refine i_231_203 (lv2 := [(16, Value.int 0), (15, Value.int 0), (14, Value.int 0), (9, Value.int 1), (13, Value.int a12), (12, Value.int a11), (11, Value.int 3), (6, Value.int (-128)), (8, Value.int 0), (7, Value.int 0), (10, Value.int 0), (0, Value.ref 128), (1, Value.int a0), (2, Value.int a1), (3, Value.int a2), (4, Value.int a3), (5, Value.int a4)]) rfl ?_
  refine i_231_205 (x := 0) rfl ?_
  refine i_231_207 (x := 0) rfl ?_
  refine i_231_209 (fun _ => ?_) (fun h => absurd h (by decide))
  refine i_231_221 ?_
  refine i_231_222 (c := 0) (by decide) ?_
  refine i_231_223 (lv2 := [(10, Value.int 0), (16, Value.int 0), (15, Value.int 0), (14, Value.int 0), (9, Value.int 1), (13, Value.int a12), (12, Value.int a11), (11, Value.int 3), (6, Value.int (-128)), (8, Value.int 0), (7, Value.int 0), (0, Value.ref 128), (1, Value.int a0), (2, Value.int a1), (3, Value.int a2), (4, Value.int a3), (5, Value.int a4)]) rfl ?_
  refine i_231_225 (x := 0) rfl ?_
  refine i_231_227 (x := 0) rfl ?_
  refine i_231_229 (fun _ => ?_) (fun h => absurd h (by decide))
  refine i_231_241 ?_
  refine i_231_242 (c := 0) (by decide) ?_
  refine i_231_243 (lv2 := [(7, Value.int 0), (10, Value.int 0), (16, Value.int 0), (15, Value.int 0), (14, Value.int 0), (9, Value.int 1), (13, Value.int a12), (12, Value.int a11), (11, Value.int 3), (6, Value.int (-128)), (8, Value.int 0), (0, Value.ref 128), (1, Value.int a0), (2, Value.int a1), (3, Value.int a2), (4, Value.int a3), (5, Value.int a4)]) rfl ?_
  refine i_231_245 (x := 0) rfl ?_
  refine i_231_247 (x := 0) rfl ?_
  refine i_231_249 (fun _ => ?_) (fun h => absurd h (by decide))
  refine i_231_261 ?_
  refine i_231_262 (c := 0) (by decide) ?_
  refine i_231_263 (lv2 := [(8, Value.int 0), (7, Value.int 0), (10, Value.int 0), (16, Value.int 0), (15, Value.int 0), (14, Value.int 0), (9, Value.int 1), (13, Value.int a12), (12, Value.int a11), (11, Value.int 3), (6, Value.int (-128)), (0, Value.ref 128), (1, Value.int a0), (2, Value.int a1), (3, Value.int a2), (4, Value.int a3), (5, Value.int a4)]) rfl ?_
  refine i_231_265 (x := 0) rfl ?_
  refine i_231_267 (fun h => absurd h (by decide)) (fun _ => ?_)
  refine i_231_270 (x := 0) rfl ?_
  refine i_231_272 (fun h => absurd h (by decide)) (fun _ => ?_)
  refine i_231_275 (x := (-128)) rfl ?_
  refine i_231_277 (x := 128) rfl ?_
  refine i_231_278 (x := a11) rfl ?_
  refine i_231_280 hw17 (Nat.le_of_ble_eq_true rfl) (p_196_0 hw17 hw22 e47 e48 hw23 hg51) ?_
  refine i_231_283 (x := 128) rfl ?_
  refine i_231_284 (x := a12) rfl ?_
  refine i_231_286 hw17 (Nat.le_of_ble_eq_true rfl) (p_196_0 hw17 hw22 e49 e50 hw23 hg52) ?_
  refine i_231_289 (c := (-128)) (by decide) ?_
  refine i_231_290 (Nat.le_of_ble_eq_true rfl) (p_272_1) ?_
  refine i_231_293 (lv2 := [(6, Value.int (-128)), (8, Value.int 0), (7, Value.int 0), (10, Value.int 0), (16, Value.int 0), (15, Value.int 0), (14, Value.int 0), (9, Value.int 1), (13, Value.int a12), (12, Value.int a11), (11, Value.int 3), (0, Value.ref 128), (1, Value.int a0), (2, Value.int a1), (3, Value.int a2), (4, Value.int a3), (5, Value.int a4)]) rfl ?_
  refine i_231_295 (x := 3) (c := 4) (lv2 := [(11, Value.int 4), (6, Value.int (-128)), (8, Value.int 0), (7, Value.int 0), (10, Value.int 0), (16, Value.int 0), (15, Value.int 0), (14, Value.int 0), (9, Value.int 1), (13, Value.int a12), (12, Value.int a11), (0, Value.ref 128), (1, Value.int a0), (2, Value.int a1), (3, Value.int a2), (4, Value.int a3), (5, Value.int a4)]) rfl (by decide) rfl ?_
  refine i_231_298 ?_
  refine i_231_74 (x := 4) rfl ?_
  refine i_231_76 (x := a3) rfl ?_
  refine i_231_78 (fun h => absurd e53 (Int.not_lt.mpr h)) (fun _ => ?_)
  refine i_231_81 (x := a1) rfl ?_
  refine i_231_82 (x := 4) rfl ?_
  refine i_231_84 (c := a13) hg54 ?_
  refine i_231_85 (lv2 := [(12, Value.int a13), (11, Value.int 4), (6, Value.int (-128)), (8, Value.int 0), (7, Value.int 0), (10, Value.int 0), (16, Value.int 0), (15, Value.int 0), (14, Value.int 0), (9, Value.int 1), (13, Value.int a12), (0, Value.ref 128), (1, Value.int a0), (2, Value.int a1), (3, Value.int a2), (4, Value.int a3), (5, Value.int a4)]) rfl ?_
  refine i_231_87 (x := a2) rfl ?_
  refine i_231_88 (x := 4) rfl ?_
  refine i_231_90 (c := a14) hg55 ?_
  refine i_231_91 (lv2 := [(13, Value.int a14), (12, Value.int a13), (11, Value.int 4), (6, Value.int (-128)), (8, Value.int 0), (7, Value.int 0), (10, Value.int 0), (16, Value.int 0), (15, Value.int 0), (14, Value.int 0), (9, Value.int 1), (0, Value.ref 128), (1, Value.int a0), (2, Value.int a1), (3, Value.int a2), (4, Value.int a3), (5, Value.int a4)]) rfl ?_
  refine i_231_93 (x := 1) rfl ?_
  refine i_231_95 (x := 128) rfl ?_
  refine i_231_96 (v := Value.ref 154) hw17 rfl ?_
  refine i_231_99 (x := a13) rfl ?_
  refine i_231_101 (v := Value.int 0) hw18 e56 e57 rfl ?_
  refine i_231_102 (fun _ => ?_) (fun h => absurd h (by decide))
  refine i_231_115 ?_
  refine i_231_116 ?_
  refine i_231_120 (c := 1) (by decide) ?_
  refine i_231_121 (lv2 := [(9, Value.int 1), (13, Value.int a14), (12, Value.int a13), (11, Value.int 4), (6, Value.int (-128)), (8, Value.int 0), (7, Value.int 0), (10, Value.int 0), (16, Value.int 0), (15, Value.int 0), (14, Value.int 0), (0, Value.ref 128), (1, Value.int a0), (2, Value.int a1), (3, Value.int a2), (4, Value.int a3), (5, Value.int a4)]) rfl ?_
  refine i_231_123 (x := 128) rfl ?_
  refine i_231_124 (v := Value.ref 154) hw17 rfl ?_
  refine i_231_127 (x := a13) rfl ?_
  refine i_231_129 (v := Value.int 0) hw18 e56 e57 rfl ?_
  refine i_231_130 ?_
  refine i_231_131 (fun h => absurd h (by decide)) (fun _ => ?_)
  refine i_231_134 (x := 128) rfl ?_
  refine i_231_135 (v := Value.ref 154) hw17 rfl ?_
  refine i_231_138 (x := a14) rfl ?_
  refine i_231_140 (v := Value.int 0) hw18 e58 e59 rfl ?_
  refine i_231_141 ?_
  refine i_231_142 (fun _ => ?_) (fun h => absurd h (by decide))
  refine i_231_149 ?_
  refine i_231_150 (lv2 := [(14, Value.int 0), (9, Value.int 1), (13, Value.int a14), (12, Value.int a13), (11, Value.int 4), (6, Value.int (-128)), (8, Value.int 0), (7, Value.int 0), (10, Value.int 0), (16, Value.int 0), (15, Value.int 0), (0, Value.ref 128), (1, Value.int a0), (2, Value.int a1), (3, Value.int a2), (4, Value.int a3), (5, Value.int a4)]) rfl ?_
  refine i_231_152 (x := 128) rfl ?_
  refine i_231_153 (v := Value.ref 154) hw17 rfl ?_
  refine i_231_156 (x := a13) rfl ?_
  refine i_231_158 (v := Value.int 0) hw18 e56 e57 rfl ?_
  refine i_231_159 ?_
  refine i_231_160 (fun h => absurd h (by decide)) (fun _ => ?_)
  refine i_231_163 (x := 128) rfl ?_
  refine i_231_164 (v := Value.ref 154) hw17 rfl ?_
  refine i_231_167 (x := a14) rfl ?_
  refine i_231_169 (v := Value.int 0) hw18 e58 e59 rfl ?_
  refine i_231_170 ?_
  refine i_231_171 (fun _ => ?_) (fun h => absurd h (by decide))
  refine i_231_178 ?_
  refine i_231_179 (lv2 := [(15, Value.int 0), (14, Value.int 0), (9, Value.int 1), (13, Value.int a14), (12, Value.int a13), (11, Value.int 4), (6, Value.int (-128)), (8, Value.int 0), (7, Value.int 0), (10, Value.int 0), (16, Value.int 0), (0, Value.ref 128), (1, Value.int a0), (2, Value.int a1), (3, Value.int a2), (4, Value.int a3), (5, Value.int a4)]) rfl ?_
  refine i_231_181 (x := 128) rfl ?_
  refine i_231_182 (v := Value.ref 156) hw17 rfl ?_
  refine i_231_185 (x := a13) rfl ?_
  refine i_231_187z (v := Value.int 0) hw21 e56 e57 rfl ?_
  refine i_231_188 (x := 128) rfl ?_
  refine i_231_189 (v := Value.ref 156) hw17 rfl ?_
  refine i_231_192 (x := a14) rfl ?_
  refine i_231_194z (v := Value.int 0) hw21 e58 e59 rfl ?_
  refine i_231_195 (fun _ => ?_) (fun h => absurd h (by decide))
  refine i_231_202 ?_
  refine i_231_203 (lv2 := [(16, Value.int 0), (15, Value.int 0), (14, Value.int 0), (9, Value.int 1), (13, Value.int a14), (12, Value.int a13), (11, Value.int 4), (6, Value.int (-128)), (8, Value.int 0), (7, Value.int 0), (10, Value.int 0), (0, Value.ref 128), (1, Value.int a0), (2, Value.int a1), (3, Value.int a2), (4, Value.int a3), (5, Value.int a4)]) rfl ?_
  refine i_231_205 (x := 0) rfl ?_
  refine i_231_207 (x := 0) rfl ?_
  refine i_231_209 (fun _ => ?_) (fun h => absurd h (by decide))
  refine i_231_221 ?_
  refine i_231_222 (c := 0) (by decide) ?_
  refine i_231_223 (lv2 := [(10, Value.int 0), (16, Value.int 0), (15, Value.int 0), (14, Value.int 0), (9, Value.int 1), (13, Value.int a14), (12, Value.int a13), (11, Value.int 4), (6, Value.int (-128)), (8, Value.int 0), (7, Value.int 0), (0, Value.ref 128), (1, Value.int a0), (2, Value.int a1), (3, Value.int a2), (4, Value.int a3), (5, Value.int a4)]) rfl ?_
  refine i_231_225 (x := 0) rfl ?_
  refine i_231_227 (x := 0) rfl ?_
  refine i_231_229 (fun _ => ?_) (fun h => absurd h (by decide))
  refine i_231_241 ?_
  refine i_231_242 (c := 0) (by decide) ?_
  refine i_231_243 (lv2 := [(7, Value.int 0), (10, Value.int 0), (16, Value.int 0), (15, Value.int 0), (14, Value.int 0), (9, Value.int 1), (13, Value.int a14), (12, Value.int a13), (11, Value.int 4), (6, Value.int (-128)), (8, Value.int 0), (0, Value.ref 128), (1, Value.int a0), (2, Value.int a1), (3, Value.int a2), (4, Value.int a3), (5, Value.int a4)]) rfl ?_
  refine i_231_245 (x := 0) rfl ?_
  refine i_231_247 (x := 0) rfl ?_
  refine i_231_249 (fun _ => ?_) (fun h => absurd h (by decide))
  refine i_231_261 ?_
  refine i_231_262 (c := 0) (by decide) ?_
  refine i_231_263 (lv2 := [(8, Value.int 0), (7, Value.int 0), (10, Value.int 0), (16, Value.int 0), (15, Value.int 0), (14, Value.int 0), (9, Value.int 1), (13, Value.int a14), (12, Value.int a13), (11, Value.int 4), (6, Value.int (-128)), (0, Value.ref 128), (1, Value.int a0), (2, Value.int a1), (3, Value.int a2), (4, Value.int a3), (5, Value.int a4)]) rfl ?_
  refine i_231_265 (x := 0) rfl ?_
  refine i_231_267 (fun h => absurd h (by decide)) (fun _ => ?_)
  refine i_231_270 (x := 0) rfl ?_
  refine i_231_272 (fun h => absurd h (by decide)) (fun _ => ?_)
  refine i_231_275 (x := (-128)) rfl ?_
  refine i_231_277 (x := 128) rfl ?_
  refine i_231_278 (x := a13) rfl ?_
  refine i_231_280 hw17 (Nat.le_of_ble_eq_true rfl) (p_196_0 hw17 hw22 e56 e57 hw23 hg60) ?_
  refine i_231_283 (x := 128) rfl ?_
  refine i_231_284 (x := a14) rfl ?_
  refine i_231_286 hw17 (Nat.le_of_ble_eq_true rfl) (p_196_0 hw17 hw22 e58 e59 hw23 hg61) ?_
  refine i_231_289 (c := (-128)) (by decide) ?_
  refine i_231_290 (Nat.le_of_ble_eq_true rfl) (p_272_1) ?_
  refine i_231_293 (lv2 := [(6, Value.int (-128)), (8, Value.int 0), (7, Value.int 0), (10, Value.int 0), (16, Value.int 0), (15, Value.int 0), (14, Value.int 0), (9, Value.int 1), (13, Value.int a14), (12, Value.int a13), (11, Value.int 4), (0, Value.ref 128), (1, Value.int a0), (2, Value.int a1), (3, Value.int a2), (4, Value.int a3), (5, Value.int a4)]) rfl ?_
  refine i_231_295 (x := 4) (c := 5) (lv2 := [(11, Value.int 5), (6, Value.int (-128)), (8, Value.int 0), (7, Value.int 0), (10, Value.int 0), (16, Value.int 0), (15, Value.int 0), (14, Value.int 0), (9, Value.int 1), (13, Value.int a14), (12, Value.int a13), (0, Value.ref 128), (1, Value.int a0), (2, Value.int a1), (3, Value.int a2), (4, Value.int a3), (5, Value.int a4)]) rfl (by decide) rfl ?_
  refine i_231_298 ?_
  refine i_231_74 (x := 5) rfl ?_
  refine i_231_76 (x := a3) rfl ?_
  refine i_231_78 (fun _ => ?_) (fun h => absurd e62 (Int.not_le.mpr h))
  refine i_231_301 (x := 1) rfl ?_
  refine i_231_303 (fun h => absurd h (by decide)) (fun _ => ?_)
  refine i_231_306 (x := 128) rfl ?_
  refine i_231_307 (x := a0) rfl ?_
  refine i_231_308 ?_
  refine i_231_309 ?_
  refine i_231_310 hw17 (Nat.le_of_ble_eq_true rfl) (p_171_0 hw17 hw18 e0 e63 hw21) ?_
  exact i_231_313 ⟨rfl, rfl⟩
theorem p_230_21 {d : Nat} {w : xW} {a0 : Int32} {a1 : Int32} {a2 : Int32} {a3 : Int32} {a4 : Int32} {a5 : Int32} {a6 : Int32} {g0 : Nat → Value} {a7 : Int32} {a8 : Int32} {a9 : Int32} {a10 : Int32} {a11 : Int32} {a12 : Int32} {a13 : Int32} {a14 : Int32} (hw0 : w[128]? = some (Sum.inr (12, [Value.ref 129, Value.ref 131, Value.ref 133, Value.ref 135, Value.ref 137, Value.ref 139, Value.ref 141, Value.ref 143, Value.ref 145, Value.ref 147, Value.ref 149, Value.ref 151, Value.ref 153, Value.ref 154, Value.ref 155, Value.ref 156, Value.ref 157, Value.int (-16384), Value.int 16384, Value.int 0, Value.int 0, Value.int 0, Value.ref 158, Value.ref 159, Value.int 0, Value.int 0, Value.int 0, Value.int 0, Value.int 0, Value.int 0, Value.int 0, Value.int 0]))) (e1 : 0 ≤ a0.toInt) (e2 : a0.toInt ≤ 15) (e3 : 0 ≤ a1.toInt) (e4 : a1.toInt ≤ 15) (e5 : 0 ≤ a2.toInt) (e6 : a2.toInt ≤ 15) (e7 : 1 ≤ a3.toInt) (e8 : a3.toInt ≤ 16) (hg9 : (a1 + a3) = a5) (e10 : a5.toInt ≤ 16) (hg11 : (a2 + a3) = a6) (e12 : a6.toInt ≤ 16) (e13 : 0 ≤ a4.toInt) (e14 : a4.toInt ≤ 4) (e15 : 0 < a3.toInt) (hg16 : (a1 + (0 : Int32)) = a1) (hg17 : (a2 + (0 : Int32)) = a2) (hw18 : w[154]? = some (Sum.inl (0, 17, fun _ => Value.int 0))) (e19 : a1.toInt < 17) (e20 : a2.toInt < 17) (hw21 : w[156]? = some (Sum.inl (2, 17, fun _ => Value.int 0))) (hw22 : w[155]? = some (Sum.inl (0, 17, fun _ => Value.int 0))) (hw23 : w[153]? = some (Sum.inl (0, 17, g0))) (hg24 : g0 a1.toInt.toNat = Value.int 64) (hg25 : g0 a2.toInt.toNat = Value.int 64) (e26 : 1 < a3.toInt) (hg27 : (a1 + (1 : Int32)) = a7) (hg28 : (a2 + (1 : Int32)) = a8) (e29 : 0 ≤ a7.toInt) (e30 : a7.toInt < 17) (e31 : 0 ≤ a8.toInt) (e32 : a8.toInt < 17) (hg33 : g0 a7.toInt.toNat = Value.int 64) (hg34 : g0 a8.toInt.toNat = Value.int 64) (e35 : 2 < a3.toInt) (hg36 : (a1 + (2 : Int32)) = a9) (hg37 : (a2 + (2 : Int32)) = a10) (e38 : 0 ≤ a9.toInt) (e39 : a9.toInt < 17) (e40 : 0 ≤ a10.toInt) (e41 : a10.toInt < 17) (hg42 : g0 a9.toInt.toNat = Value.int 64) (hg43 : g0 a10.toInt.toNat = Value.int 64) (e44 : 3 < a3.toInt) (hg45 : (a1 + (3 : Int32)) = a11) (hg46 : (a2 + (3 : Int32)) = a12) (e47 : 0 ≤ a11.toInt) (e48 : a11.toInt < 17) (e49 : 0 ≤ a12.toInt) (e50 : a12.toInt < 17) (hg51 : g0 a11.toInt.toNat = Value.int 64) (hg52 : g0 a12.toInt.toNat = Value.int 64) (e53 : 4 < a3.toInt) (hg54 : (a1 + (4 : Int32)) = a13) (hg55 : (a2 + (4 : Int32)) = a14) (e56 : 0 ≤ a13.toInt) (e57 : a13.toInt < 17) (e58 : 0 ≤ a14.toInt) (e59 : a14.toInt < 17) (hg60 : g0 a13.toInt.toNat = Value.int 64) (hg61 : g0 a14.toInt.toNat = Value.int 64) (e62 : a3.toInt ≤ 5) (e63 : a0.toInt < 17) : xRun (d + 3) 230 [Value.ref 128, Value.int a0, Value.int a1, Value.int a2, Value.int a3, Value.int a4] w (.inl (some (Value.int 0))) (((w.set 128 (Sum.inr (12, [Value.ref 129, Value.ref 131, Value.ref 133, Value.ref 135, Value.ref 137, Value.ref 139, Value.ref 141, Value.ref 143, Value.ref 145, Value.ref 147, Value.ref 149, Value.ref 151, Value.ref 153, Value.ref 154, Value.ref 155, Value.ref 156, Value.ref 157, Value.int (-16384), Value.int 16384, Value.int 0, Value.int 0, Value.int 0, Value.ref 158, Value.ref 159, Value.int 0, Value.int 0, Value.int 0, Value.int 0, Value.int 0, Value.int 0, Value.int 0, Value.int 0]))).set 154 (Sum.inl (0, 17, xup (fun _ => Value.int 0) a0.toInt.toNat (Value.int 0)))).set 156 (Sum.inl (2, 17, xup (fun _ => Value.int 0) a0.toInt.toNat (Value.int 0)))) := by
  refine xRun.of ?_
  refine i_230_0 (x := 128) rfl ?_
  refine i_230_1 ?_
  refine i_230_2 (fs2 := [Value.ref 129, Value.ref 131, Value.ref 133, Value.ref 135, Value.ref 137, Value.ref 139, Value.ref 141, Value.ref 143, Value.ref 145, Value.ref 147, Value.ref 149, Value.ref 151, Value.ref 153, Value.ref 154, Value.ref 155, Value.ref 156, Value.ref 157, Value.int (-16384), Value.int 16384, Value.int 0, Value.int 0, Value.int 0, Value.ref 158, Value.ref 159, Value.int 0, Value.int 0, Value.int 0, Value.int 0, Value.int 0, Value.int 0, Value.int 0, Value.int 0]) hw0 (Nat.le_of_ble_eq_true rfl) rfl (by decide) ?_
  refine i_230_5 (x := 128) rfl ?_
  refine i_230_6 (x := a0) rfl ?_
  refine i_230_7 (x := a1) rfl ?_
  refine i_230_8 (x := a2) rfl ?_
  refine i_230_9 (x := a3) rfl ?_
  refine i_230_11 (x := a4) rfl ?_
  refine i_230_13 (xgs hw0) (Nat.le_of_ble_eq_true rfl) (p_231_21 e1 e2 e3 e4 e5 e6 e7 e8 hg9 e10 hg11 e12 e13 e14 e15 hg16 hg17 (xgs hw0) (xgn (by decide) hw18) e19 e20 (xgn (by decide) hw21) (xgn (by decide) hw22) (xgn (by decide) hw23) hg24 hg25 e26 hg27 hg28 e29 e30 e31 e32 hg33 hg34 e35 hg36 hg37 e38 e39 e40 e41 hg42 hg43 e44 hg45 hg46 e47 e48 e49 e50 hg51 hg52 e53 hg54 hg55 e56 e57 e58 e59 hg60 hg61 e62 e63) ?_
  exact i_230_16 ⟨rfl, rfl⟩
theorem g_11_26 {z0 z1 z2 z3 z4 z5 z6 z7 z8 z9 z10 z11 z12 z13 z14 z15 : Int} (h0 : z0 = 11) (c0 : 0 ≤ z1) (c1 : z1 < 16) (c2 : 0 ≤ z2) (c3 : z2 < 16) (c4 : 1 ≤ z3) (c5 : z3 ≤ 16) (nN6 : z4 = z2 + z3) (c7 : z4 ≤ 16) (c8 : 0 ≤ z5) (c9 : z5 < 16) (nN10 : z6 = z5 + z3) (c11 : z6 ≤ 16) (c12 : 0 ≤ z7) (c13 : z7 ≤ 4) (c14 : 1 < z3) (nN15 : z8 = z2 + 1) (nN16 : z9 = z5 + 1) (c17 : 2 < z3) (nN18 : z10 = z2 + 2) (nN19 : z11 = z5 + 2) (c20 : 3 < z3) (nN21 : z12 = z2 + 3) (nN22 : z13 = z5 + 3) (c23 : 4 < z3) (nN24 : z14 = z2 + 4) (nN25 : z15 = z5 + 4) (c26 : z3 ≤ 5) : (((((((0 ≤ z1) ∧ ((z1 < 16) ∧ (0 ≤ z2))) ∧ ((z2 < 16) ∧ ((1 ≤ z3) ∧ (z3 ≤ 16)))) ∧ (((z4 ≤ 16) ∧ ((0 ≤ z5) ∧ (z5 < 16))) ∧ (((z6 ≤ 16) ∧ (0 ≤ z7)) ∧ ((z7 ≤ 4) ∧ (0 < z3))))) ∧ ((((z2.toNat < 16) ∧ ((z5.toNat < 16) ∧ (19 ≠ (30 + 3 * z2.toNat)))) ∧ (((22 ≠ (30 + 3 * z2.toNat)) ∧ (20 ≠ (30 + 3 * z2.toNat))) ∧ ((19 ≠ (30 + 3 * z5.toNat)) ∧ (22 ≠ (30 + 3 * z5.toNat))))) ∧ (((20 ≠ (30 + 3 * z5.toNat)) ∧ ((1 < z3) ∧ (0 ≤ z8))) ∧ (((z8 < 16) ∧ (z8.toNat < 16)) ∧ ((0 ≤ z9) ∧ (z9 < 16)))))) ∧ (((((z9.toNat < 16) ∧ ((19 ≠ (30 + 3 * z8.toNat)) ∧ (22 ≠ (30 + 3 * z8.toNat)))) ∧ (((20 ≠ (30 + 3 * z8.toNat)) ∧ (19 ≠ (30 + 3 * z9.toNat))) ∧ ((22 ≠ (30 + 3 * z9.toNat)) ∧ (20 ≠ (30 + 3 * z9.toNat))))) ∧ (((2 < z3) ∧ ((0 ≤ z10) ∧ (z10 < 16))) ∧ (((z10.toNat < 16) ∧ (0 ≤ z11)) ∧ ((z11 < 16) ∧ (z11.toNat < 16))))) ∧ ((((19 ≠ (30 + 3 * z10.toNat)) ∧ ((22 ≠ (30 + 3 * z10.toNat)) ∧ (20 ≠ (30 + 3 * z10.toNat)))) ∧ (((19 ≠ (30 + 3 * z11.toNat)) ∧ (22 ≠ (30 + 3 * z11.toNat))) ∧ ((20 ≠ (30 + 3 * z11.toNat)) ∧ (3 < z3)))) ∧ (((0 ≤ z12) ∧ ((z12 < 16) ∧ (z12.toNat < 16))) ∧ (((0 ≤ z13) ∧ (z13 < 16)) ∧ ((z13.toNat < 16) ∧ (19 ≠ (30 + 3 * z12.toNat)))))))) ∧ ((((((22 ≠ (30 + 3 * z12.toNat)) ∧ ((20 ≠ (30 + 3 * z12.toNat)) ∧ (19 ≠ (30 + 3 * z13.toNat)))) ∧ ((22 ≠ (30 + 3 * z13.toNat)) ∧ ((20 ≠ (30 + 3 * z13.toNat)) ∧ (4 < z3)))) ∧ (((0 ≤ z14) ∧ ((z14 < 16) ∧ (z14.toNat < 16))) ∧ (((0 ≤ z15) ∧ (z15 < 16)) ∧ ((z15.toNat < 16) ∧ (19 ≠ (30 + 3 * z14.toNat)))))) ∧ ((((22 ≠ (30 + 3 * z14.toNat)) ∧ ((20 ≠ (30 + 3 * z14.toNat)) ∧ (19 ≠ (30 + 3 * z15.toNat)))) ∧ (((22 ≠ (30 + 3 * z15.toNat)) ∧ (20 ≠ (30 + 3 * z15.toNat))) ∧ ((z3 ≤ 5) ∧ (z1.toNat < 16)))) ∧ (((19 ≠ (30 + 3 * z1.toNat)) ∧ ((22 ≠ (30 + 3 * z1.toNat)) ∧ (20 ≠ (30 + 3 * z1.toNat)))) ∧ (((7 ≤ (30 + 3 * z1.toNat)) ∧ ((30 + 3 * z1.toNat) ≠ 194)) ∧ (((30 + 3 * z1.toNat) ≠ 0) ∧ ((30 + 3 * z1.toNat) ≠ 128)))))) ∧ (((((z1 ≤ 15) ∧ ((z2 ≤ 15) ∧ (z5 ≤ 15))) ∧ ((((30 + 3 * z1.toNat) ≠ 154) ∧ (z2 < 17)) ∧ ((z5 < 17) ∧ ((30 + 3 * z1.toNat) ≠ 156)))) ∧ ((((30 + 3 * z1.toNat) ≠ 155) ∧ (((30 + 3 * z1.toNat) ≠ 153) ∧ (z2.toNat < 17))) ∧ (((z5.toNat < 17) ∧ (z8 < 17)) ∧ ((z9 < 17) ∧ (z8.toNat < 17))))) ∧ ((((z9.toNat < 17) ∧ ((z10 < 17) ∧ (z11 < 17))) ∧ (((z10.toNat < 17) ∧ (z11.toNat < 17)) ∧ ((z12 < 17) ∧ (z13 < 17)))) ∧ (((z12.toNat < 17) ∧ ((z13.toNat < 17) ∧ (z14 < 17))) ∧ (((z15 < 17) ∧ (z14.toNat < 17)) ∧ ((z15.toNat < 17) ∧ (z1 < 17)))))))) := by
  subst nN25; subst nN24; subst nN22; subst nN21; subst nN19; subst nN18; subst nN16; subst nN15; subst nN10; subst nN6; exact ⟨⟨⟨⟨⟨⟨by omega, ⟨by omega, by omega⟩⟩, ⟨by omega, ⟨by omega, by omega⟩⟩⟩, ⟨⟨by omega, ⟨by omega, by omega⟩⟩, ⟨⟨by omega, by omega⟩, ⟨by omega, by omega⟩⟩⟩⟩, ⟨⟨⟨by omega, ⟨by omega, by omega⟩⟩, ⟨⟨by omega, by omega⟩, ⟨by omega, by omega⟩⟩⟩, ⟨⟨by omega, ⟨by omega, by omega⟩⟩, ⟨⟨by omega, by omega⟩, ⟨by omega, by omega⟩⟩⟩⟩⟩, ⟨⟨⟨⟨by omega, ⟨by omega, by omega⟩⟩, ⟨⟨by omega, by omega⟩, ⟨by omega, by omega⟩⟩⟩, ⟨⟨by omega, ⟨by omega, by omega⟩⟩, ⟨⟨by omega, by omega⟩, ⟨by omega, by omega⟩⟩⟩⟩, ⟨⟨⟨by omega, ⟨by omega, by omega⟩⟩, ⟨⟨by omega, by omega⟩, ⟨by omega, by omega⟩⟩⟩, ⟨⟨by omega, ⟨by omega, by omega⟩⟩, ⟨⟨by omega, by omega⟩, ⟨by omega, by omega⟩⟩⟩⟩⟩⟩, ⟨⟨⟨⟨⟨by omega, ⟨by omega, by omega⟩⟩, ⟨by omega, ⟨by omega, by omega⟩⟩⟩, ⟨⟨by omega, ⟨by omega, by omega⟩⟩, ⟨⟨by omega, by omega⟩, ⟨by omega, by omega⟩⟩⟩⟩, ⟨⟨⟨by omega, ⟨by omega, by omega⟩⟩, ⟨⟨by omega, by omega⟩, ⟨by omega, by omega⟩⟩⟩, ⟨⟨by omega, ⟨by omega, by omega⟩⟩, ⟨⟨by omega, by omega⟩, ⟨by omega, by omega⟩⟩⟩⟩⟩, ⟨⟨⟨⟨by omega, ⟨by omega, by omega⟩⟩, ⟨⟨by omega, by omega⟩, ⟨by omega, by omega⟩⟩⟩, ⟨⟨by omega, ⟨by omega, by omega⟩⟩, ⟨⟨by omega, by omega⟩, ⟨by omega, by omega⟩⟩⟩⟩, ⟨⟨⟨by omega, ⟨by omega, by omega⟩⟩, ⟨⟨by omega, by omega⟩, ⟨by omega, by omega⟩⟩⟩, ⟨⟨by omega, ⟨by omega, by omega⟩⟩, ⟨⟨by omega, by omega⟩, ⟨by omega, by omega⟩⟩⟩⟩⟩⟩⟩
theorem o_11_26 {d : Nat} {xs : Nat → Int32} {N6 N10 N15 N16 N18 N19 N21 N22 N24 N25 : Int32} (h0 : ((xs 0) &&& (31 : Int32)).toInt = 11) (c0 : 0 ≤ (xs 1).toInt) (c1 : (xs 1).toInt < 16) (c2 : 0 ≤ (xs 2).toInt) (c3 : (xs 2).toInt < 16) (c4 : 1 ≤ (xs 4).toInt) (c5 : (xs 4).toInt ≤ 16) (eN6 : ((xs 2) + (xs 4)) = N6) (nN6 : N6.toInt = (xs 2).toInt + (xs 4).toInt) (c7 : N6.toInt ≤ 16) (c8 : 0 ≤ (xs 3).toInt) (c9 : (xs 3).toInt < 16) (eN10 : ((xs 3) + (xs 4)) = N10) (nN10 : N10.toInt = (xs 3).toInt + (xs 4).toInt) (c11 : N10.toInt ≤ 16) (c12 : 0 ≤ (xs 5).toInt) (c13 : (xs 5).toInt ≤ 4) (c14 : 1 < (xs 4).toInt) (eN15 : ((xs 2) + (1 : Int32)) = N15) (nN15 : N15.toInt = (xs 2).toInt + 1) (eN16 : ((xs 3) + (1 : Int32)) = N16) (nN16 : N16.toInt = (xs 3).toInt + 1) (c17 : 2 < (xs 4).toInt) (eN18 : ((xs 2) + (2 : Int32)) = N18) (nN18 : N18.toInt = (xs 2).toInt + 2) (eN19 : ((xs 3) + (2 : Int32)) = N19) (nN19 : N19.toInt = (xs 3).toInt + 2) (c20 : 3 < (xs 4).toInt) (eN21 : ((xs 2) + (3 : Int32)) = N21) (nN21 : N21.toInt = (xs 2).toInt + 3) (eN22 : ((xs 3) + (3 : Int32)) = N22) (nN22 : N22.toInt = (xs 3).toInt + 3) (c23 : 4 < (xs 4).toInt) (eN24 : ((xs 2) + (4 : Int32)) = N24) (nN24 : N24.toInt = (xs 2).toInt + 4) (eN25 : ((xs 3) + (4 : Int32)) = N25) (nN25 : N25.toInt = (xs 3).toInt + 4) (c26 : (xs 4).toInt ≤ 5) : ∃ w1, xEv (d + 20) 287 23 [(4, Value.int 0), (3, Value.ref 194), (2, Value.ref 128), (1, Value.ref 7), (0, Value.ref 0)] [] (W0 6 xs) (fun o' w' => o' = .inl (some (Value.int 1)) ∧ w' = w1) ∧ w1.length ≤ 220 ∧ xsz w1 ≤ 200000 := by
  have G : id (((((((0 ≤ (xs 1).toInt) ∧ (((xs 1).toInt < 16) ∧ (0 ≤ (xs 2).toInt))) ∧ (((xs 2).toInt < 16) ∧ ((1 ≤ (xs 4).toInt) ∧ ((xs 4).toInt ≤ 16)))) ∧ (((N6.toInt ≤ 16) ∧ ((0 ≤ (xs 3).toInt) ∧ ((xs 3).toInt < 16))) ∧ (((N10.toInt ≤ 16) ∧ (0 ≤ (xs 5).toInt)) ∧ (((xs 5).toInt ≤ 4) ∧ (0 < (xs 4).toInt))))) ∧ (((((xs 2).toInt.toNat < 16) ∧ (((xs 3).toInt.toNat < 16) ∧ (19 ≠ (30 + 3 * (xs 2).toInt.toNat)))) ∧ (((22 ≠ (30 + 3 * (xs 2).toInt.toNat)) ∧ (20 ≠ (30 + 3 * (xs 2).toInt.toNat))) ∧ ((19 ≠ (30 + 3 * (xs 3).toInt.toNat)) ∧ (22 ≠ (30 + 3 * (xs 3).toInt.toNat))))) ∧ (((20 ≠ (30 + 3 * (xs 3).toInt.toNat)) ∧ ((1 < (xs 4).toInt) ∧ (0 ≤ N15.toInt))) ∧ (((N15.toInt < 16) ∧ (N15.toInt.toNat < 16)) ∧ ((0 ≤ N16.toInt) ∧ (N16.toInt < 16)))))) ∧ (((((N16.toInt.toNat < 16) ∧ ((19 ≠ (30 + 3 * N15.toInt.toNat)) ∧ (22 ≠ (30 + 3 * N15.toInt.toNat)))) ∧ (((20 ≠ (30 + 3 * N15.toInt.toNat)) ∧ (19 ≠ (30 + 3 * N16.toInt.toNat))) ∧ ((22 ≠ (30 + 3 * N16.toInt.toNat)) ∧ (20 ≠ (30 + 3 * N16.toInt.toNat))))) ∧ (((2 < (xs 4).toInt) ∧ ((0 ≤ N18.toInt) ∧ (N18.toInt < 16))) ∧ (((N18.toInt.toNat < 16) ∧ (0 ≤ N19.toInt)) ∧ ((N19.toInt < 16) ∧ (N19.toInt.toNat < 16))))) ∧ ((((19 ≠ (30 + 3 * N18.toInt.toNat)) ∧ ((22 ≠ (30 + 3 * N18.toInt.toNat)) ∧ (20 ≠ (30 + 3 * N18.toInt.toNat)))) ∧ (((19 ≠ (30 + 3 * N19.toInt.toNat)) ∧ (22 ≠ (30 + 3 * N19.toInt.toNat))) ∧ ((20 ≠ (30 + 3 * N19.toInt.toNat)) ∧ (3 < (xs 4).toInt)))) ∧ (((0 ≤ N21.toInt) ∧ ((N21.toInt < 16) ∧ (N21.toInt.toNat < 16))) ∧ (((0 ≤ N22.toInt) ∧ (N22.toInt < 16)) ∧ ((N22.toInt.toNat < 16) ∧ (19 ≠ (30 + 3 * N21.toInt.toNat)))))))) ∧ ((((((22 ≠ (30 + 3 * N21.toInt.toNat)) ∧ ((20 ≠ (30 + 3 * N21.toInt.toNat)) ∧ (19 ≠ (30 + 3 * N22.toInt.toNat)))) ∧ ((22 ≠ (30 + 3 * N22.toInt.toNat)) ∧ ((20 ≠ (30 + 3 * N22.toInt.toNat)) ∧ (4 < (xs 4).toInt)))) ∧ (((0 ≤ N24.toInt) ∧ ((N24.toInt < 16) ∧ (N24.toInt.toNat < 16))) ∧ (((0 ≤ N25.toInt) ∧ (N25.toInt < 16)) ∧ ((N25.toInt.toNat < 16) ∧ (19 ≠ (30 + 3 * N24.toInt.toNat)))))) ∧ ((((22 ≠ (30 + 3 * N24.toInt.toNat)) ∧ ((20 ≠ (30 + 3 * N24.toInt.toNat)) ∧ (19 ≠ (30 + 3 * N25.toInt.toNat)))) ∧ (((22 ≠ (30 + 3 * N25.toInt.toNat)) ∧ (20 ≠ (30 + 3 * N25.toInt.toNat))) ∧ (((xs 4).toInt ≤ 5) ∧ ((xs 1).toInt.toNat < 16)))) ∧ (((19 ≠ (30 + 3 * (xs 1).toInt.toNat)) ∧ ((22 ≠ (30 + 3 * (xs 1).toInt.toNat)) ∧ (20 ≠ (30 + 3 * (xs 1).toInt.toNat)))) ∧ (((7 ≤ (30 + 3 * (xs 1).toInt.toNat)) ∧ ((30 + 3 * (xs 1).toInt.toNat) ≠ 194)) ∧ (((30 + 3 * (xs 1).toInt.toNat) ≠ 0) ∧ ((30 + 3 * (xs 1).toInt.toNat) ≠ 128)))))) ∧ ((((((xs 1).toInt ≤ 15) ∧ (((xs 2).toInt ≤ 15) ∧ ((xs 3).toInt ≤ 15))) ∧ ((((30 + 3 * (xs 1).toInt.toNat) ≠ 154) ∧ ((xs 2).toInt < 17)) ∧ (((xs 3).toInt < 17) ∧ ((30 + 3 * (xs 1).toInt.toNat) ≠ 156)))) ∧ ((((30 + 3 * (xs 1).toInt.toNat) ≠ 155) ∧ (((30 + 3 * (xs 1).toInt.toNat) ≠ 153) ∧ ((xs 2).toInt.toNat < 17))) ∧ ((((xs 3).toInt.toNat < 17) ∧ (N15.toInt < 17)) ∧ ((N16.toInt < 17) ∧ (N15.toInt.toNat < 17))))) ∧ ((((N16.toInt.toNat < 17) ∧ ((N18.toInt < 17) ∧ (N19.toInt < 17))) ∧ (((N18.toInt.toNat < 17) ∧ (N19.toInt.toNat < 17)) ∧ ((N21.toInt < 17) ∧ (N22.toInt < 17)))) ∧ (((N21.toInt.toNat < 17) ∧ ((N22.toInt.toNat < 17) ∧ (N24.toInt < 17))) ∧ (((N25.toInt < 17) ∧ (N24.toInt.toNat < 17)) ∧ ((N25.toInt.toNat < 17) ∧ ((xs 1).toInt < 17)))))))) := g_11_26 h0 c0 c1 c2 c3 c4 c5 nN6 c7 c8 c9 nN10 c11 c12 c13 c14 nN15 nN16 c17 nN18 nN19 c20 nN21 nN22 c23 nN24 nN25 c26
  refine ⟨((((((((((((((W0 6 xs).set 20 (Sum.inr (3, [Value.ref 21, Value.int 0]))).set 22 (Sum.inr (3, [Value.ref 23, Value.int 0]))).set 19 (Sum.inr (5, [Value.ref 20, Value.ref 22, Value.ref 24, Value.ref 26, Value.int 0, Value.int 0, Value.int 0, Value.int 0, Value.int 0, Value.int 0, Value.int 0, Value.int 0]))).set 19 (Sum.inr (5, [Value.ref 20, Value.ref 22, Value.ref 24, Value.ref 26, Value.int 0, Value.int 1, Value.int 0, Value.int 0, Value.int 0, Value.int 0, Value.int 0, Value.int 0]))).set 19 (Sum.inr (5, [Value.ref 20, Value.ref 22, Value.ref 24, Value.ref 26, Value.int 0, Value.int 1, Value.int 0, Value.int 0, Value.int 0, Value.int 0, Value.int 0, Value.int 0]))).set 19 (Sum.inr (5, [Value.ref 20, Value.ref 22, Value.ref 24, Value.ref 26, Value.int 0, Value.int 1, Value.int 0, Value.int 0, Value.int 0, Value.int 0, Value.int 0, Value.int 0]))).set 19 (Sum.inr (5, [Value.ref 20, Value.ref 22, Value.ref 24, Value.ref 26, Value.int 0, Value.int 1, Value.int 0, Value.int 0, Value.int 0, Value.int 0, Value.int 0, Value.int 0]))).set 19 (Sum.inr (5, [Value.ref 20, Value.ref 22, Value.ref 24, Value.ref 26, Value.int 0, Value.int 1, Value.int 0, Value.int 0, Value.int 0, Value.int 0, Value.int 0, Value.int 0]))).set (30 + 3 * (xs 1).toInt.toNat) (Sum.inr (2, [Value.int 64, Value.int 0, Value.int 0, Value.int 0, Value.ref (31 + 3 * (xs 1).toInt.toNat)]))).set 194 (Sum.inl (3, 1, xup (fun _ => Value.long 0) (0 : Int32).toInt.toNat (Value.long 0)))).set 128 (Sum.inr (12, [Value.ref 129, Value.ref 131, Value.ref 133, Value.ref 135, Value.ref 137, Value.ref 139, Value.ref 141, Value.ref 143, Value.ref 145, Value.ref 147, Value.ref 149, Value.ref 151, Value.ref 153, Value.ref 154, Value.ref 155, Value.ref 156, Value.ref 157, Value.int (-16384), Value.int 16384, Value.int 0, Value.int 0, Value.int 0, Value.ref 158, Value.ref 159, Value.int 0, Value.int 0, Value.int 0, Value.int 0, Value.int 0, Value.int 0, Value.int 0, Value.int 0]))).set 154 (Sum.inl (0, 17, xup (fun _ => Value.int 0) (xs 1).toInt.toNat (Value.int 0)))).set 156 (Sum.inl (2, 17, xup (fun _ => Value.int 0) (xs 1).toInt.toNat (Value.int 0)))), ?_, (show xLs _ 220 200000 from ?_)⟩
  · refine i_287_23 (x := 0) rfl ?_
    refine i_287_25 (x := 0) rfl ?_
    refine i_287_26 (c := 6) W0_0 (by decide) ?_
    refine i_287_27 ?_
    refine i_287_29 (c := 0) (by decide) ?_
    refine i_287_30 (fun h => absurd h (by decide)) (fun _ => ?_)
    refine i_287_33 (x := 0) rfl ?_
    refine i_287_34 (x := 0) rfl ?_
    refine i_287_36 (v := Value.int (xs 0)) W0_0 (by decide) (by decide) rfl ?_
    refine i_287_37 ?_
    refine i_287_39 (c := 11) (show ((xs 0) &&& (31 : Int32)) = 11 from (xge_c (n := 11) h0 rfl)) ?_
    refine i_287_40_11 rfl ?_
    refine i_287_1149 (x := 7) rfl ?_
    refine i_287_1150 (x := 0) rfl ?_
    refine i_287_1151 (x := 0) rfl ?_
    refine i_287_1153 ?_
    refine i_287_1154 (c := 1) (by decide) ?_
    refine i_287_1155 (v := Value.int (xs 1)) W0_0 (by decide) (by decide) rfl ?_
    refine i_287_1156 (x := 0) rfl ?_
    refine i_287_1157 (x := 0) rfl ?_
    refine i_287_1159 ?_
    refine i_287_1160 (c := 2) (by decide) ?_
    refine i_287_1161 (v := Value.int (xs 2)) W0_0 (by decide) (by decide) rfl ?_
    refine i_287_1162 (x := 0) rfl ?_
    refine i_287_1163 (x := 0) rfl ?_
    refine i_287_1165 ?_
    refine i_287_1166 (c := 3) (by decide) ?_
    refine i_287_1167 (v := Value.int (xs 3)) W0_0 (by decide) (by decide) rfl ?_
    refine i_287_1168 (x := 0) rfl ?_
    refine i_287_1169 (x := 0) rfl ?_
    refine i_287_1171 ?_
    refine i_287_1172 (c := 4) (by decide) ?_
    refine i_287_1173 (v := Value.int (xs 4)) W0_0 (by decide) (by decide) rfl ?_
    refine i_287_1174 (x := 0) rfl ?_
    refine i_287_1175 (x := 0) rfl ?_
    refine i_287_1177 ?_
    refine i_287_1178 (c := 5) (by decide) ?_
    refine i_287_1179 (v := Value.int (xs 5)) W0_0 (by decide) (by decide) rfl ?_
    refine i_287_1180 (x := 194) rfl ?_
    refine i_287_1181 (Nat.le_of_ble_eq_true rfl) (p_114_20 W0_7 (G.1.1.1.1.1.1) (G.1.1.1.1.1.2.1) (G.1.1.1.1.1.2.2) (G.1.1.1.1.2.1) (G.1.1.1.1.2.2.1) (G.1.1.1.1.2.2.2) (show ((xs 2) + (xs 4)) = N6 from eN6) (G.1.1.1.2.1.1) (G.1.1.1.2.1.2.1) (G.1.1.1.2.1.2.2) (show ((xs 3) + (xs 4)) = N10 from eN10) (G.1.1.1.2.2.1.1) (G.1.1.1.2.2.1.2) (G.1.1.1.2.2.2.1) W0_19 W0_20 W0_22 (G.1.1.1.2.2.2.2) (show ((xs 2) + (0 : Int32)) = (xs 2) from (xadd_z _)) W0_8 (greg_at G.1.1.2.1.1.1) (show ((xs 3) + (0 : Int32)) = (xs 3) from (xadd_z _)) (greg_at G.1.1.2.1.1.2.1) (G.1.1.2.1.1.2.2) (G.1.1.2.1.2.1.1) (G.1.1.2.1.2.1.2) (W0_reg G.1.1.2.1.1.1) (G.1.1.2.1.2.2.1) (G.1.1.2.1.2.2.2) (G.1.1.2.2.1.1) (W0_reg G.1.1.2.1.1.2.1) (G.1.1.2.2.1.2.1) (show ((xs 2) + (1 : Int32)) = N15 from eN15) (G.1.1.2.2.1.2.2) (G.1.1.2.2.2.1.1) (greg_at G.1.1.2.2.2.1.2) (show ((xs 3) + (1 : Int32)) = N16 from eN16) (G.1.1.2.2.2.2.1) (G.1.1.2.2.2.2.2) (greg_at G.1.2.1.1.1.1) (G.1.2.1.1.1.2.1) (G.1.2.1.1.1.2.2) (G.1.2.1.1.2.1.1) (W0_reg G.1.1.2.2.2.1.2) (G.1.2.1.1.2.1.2) (G.1.2.1.1.2.2.1) (G.1.2.1.1.2.2.2) (W0_reg G.1.2.1.1.1.1) (G.1.2.1.2.1.1) (show ((xs 2) + (2 : Int32)) = N18 from eN18) (G.1.2.1.2.1.2.1) (G.1.2.1.2.1.2.2) (greg_at G.1.2.1.2.2.1.1) (show ((xs 3) + (2 : Int32)) = N19 from eN19) (G.1.2.1.2.2.1.2) (G.1.2.1.2.2.2.1) (greg_at G.1.2.1.2.2.2.2) (G.1.2.2.1.1.1) (G.1.2.2.1.1.2.1) (G.1.2.2.1.1.2.2) (W0_reg G.1.2.1.2.2.1.1) (G.1.2.2.1.2.1.1) (G.1.2.2.1.2.1.2) (G.1.2.2.1.2.2.1) (W0_reg G.1.2.1.2.2.2.2) (G.1.2.2.1.2.2.2) (show ((xs 2) + (3 : Int32)) = N21 from eN21) (G.1.2.2.2.1.1) (G.1.2.2.2.1.2.1) (greg_at G.1.2.2.2.1.2.2) (show ((xs 3) + (3 : Int32)) = N22 from eN22) (G.1.2.2.2.2.1.1) (G.1.2.2.2.2.1.2) (greg_at G.1.2.2.2.2.2.1) (G.1.2.2.2.2.2.2) (G.2.1.1.1.1.1) (G.2.1.1.1.1.2.1) (W0_reg G.1.2.2.2.1.2.2) (G.2.1.1.1.1.2.2) (G.2.1.1.1.2.1) (G.2.1.1.1.2.2.1) (W0_reg G.1.2.2.2.2.2.1) (G.2.1.1.1.2.2.2) (show ((xs 2) + (4 : Int32)) = N24 from eN24) (G.2.1.1.2.1.1) (G.2.1.1.2.1.2.1) (greg_at G.2.1.1.2.1.2.2) (show ((xs 3) + (4 : Int32)) = N25 from eN25) (G.2.1.1.2.2.1.1) (G.2.1.1.2.2.1.2) (greg_at G.2.1.1.2.2.2.1) (G.2.1.1.2.2.2.2) (G.2.1.2.1.1.1) (G.2.1.2.1.1.2.1) (W0_reg G.2.1.1.2.1.2.2) (G.2.1.2.1.1.2.2) (G.2.1.2.1.2.1.1) (G.2.1.2.1.2.1.2) (W0_reg G.2.1.1.2.2.2.1) (G.2.1.2.1.2.2.1) (greg_at G.2.1.2.1.2.2.2) (G.2.1.2.2.1.1) (G.2.1.2.2.1.2.1) (G.2.1.2.2.1.2.2) (W0_reg G.2.1.2.1.2.2.2) (G.2.1.2.2.2.1.1) (G.2.1.2.2.2.1.2) W0_194) ?_
    refine i_287_1184 (lv2 := [(5, Value.int 0), (4, Value.int 0), (3, Value.ref 194), (2, Value.ref 128), (1, Value.ref 7), (0, Value.ref 0)]) rfl ?_
    refine i_287_1186 (x := 128) rfl ?_
    refine i_287_1187 (x := 0) rfl ?_
    refine i_287_1188 (x := 0) rfl ?_
    refine i_287_1190 ?_
    refine i_287_1191 (c := 1) (by decide) ?_
    refine i_287_1192 (v := Value.int (xs 1)) (xgn (by decide) (xgn (G.2.1.2.2.2.2.1) (xgn (by decide) (xgn (by decide) (xgn (by decide) (xgn (by decide) (xgn (by decide) (xgn (by decide) (xgn (by decide) (xgn (by decide) W0_0)))))))))) (by decide) (by decide) rfl ?_
    refine i_287_1193 (x := 0) rfl ?_
    refine i_287_1194 (x := 0) rfl ?_
    refine i_287_1196 ?_
    refine i_287_1197 (c := 2) (by decide) ?_
    refine i_287_1198 (v := Value.int (xs 2)) (xgn (by decide) (xgn (G.2.1.2.2.2.2.1) (xgn (by decide) (xgn (by decide) (xgn (by decide) (xgn (by decide) (xgn (by decide) (xgn (by decide) (xgn (by decide) (xgn (by decide) W0_0)))))))))) (by decide) (by decide) rfl ?_
    refine i_287_1199 (x := 0) rfl ?_
    refine i_287_1200 (x := 0) rfl ?_
    refine i_287_1202 ?_
    refine i_287_1203 (c := 3) (by decide) ?_
    refine i_287_1204 (v := Value.int (xs 3)) (xgn (by decide) (xgn (G.2.1.2.2.2.2.1) (xgn (by decide) (xgn (by decide) (xgn (by decide) (xgn (by decide) (xgn (by decide) (xgn (by decide) (xgn (by decide) (xgn (by decide) W0_0)))))))))) (by decide) (by decide) rfl ?_
    refine i_287_1205 (x := 0) rfl ?_
    refine i_287_1206 (x := 0) rfl ?_
    refine i_287_1208 ?_
    refine i_287_1209 (c := 4) (by decide) ?_
    refine i_287_1210 (v := Value.int (xs 4)) (xgn (by decide) (xgn (G.2.1.2.2.2.2.1) (xgn (by decide) (xgn (by decide) (xgn (by decide) (xgn (by decide) (xgn (by decide) (xgn (by decide) (xgn (by decide) (xgn (by decide) W0_0)))))))))) (by decide) (by decide) rfl ?_
    refine i_287_1211 (x := 0) rfl ?_
    refine i_287_1212 (x := 0) rfl ?_
    refine i_287_1214 ?_
    refine i_287_1215 (c := 5) (by decide) ?_
    refine i_287_1216 (v := Value.int (xs 5)) (xgn (by decide) (xgn (G.2.1.2.2.2.2.1) (xgn (by decide) (xgn (by decide) (xgn (by decide) (xgn (by decide) (xgn (by decide) (xgn (by decide) (xgn (by decide) (xgn (by decide) W0_0)))))))))) (by decide) (by decide) rfl ?_
    refine i_287_1217 (xgn (by decide) (xgn (G.2.1.2.2.2.2.2) (xgn (by decide) (xgn (by decide) (xgn (by decide) (xgn (by decide) (xgn (by decide) (xgn (by decide) (xgn (by decide) (xgn (by decide) W0_128)))))))))) (Nat.le_of_ble_eq_true rfl) (p_230_21 (xgn (by decide) (xgn (G.2.1.2.2.2.2.2) (xgn (by decide) (xgn (by decide) (xgn (by decide) (xgn (by decide) (xgn (by decide) (xgn (by decide) (xgn (by decide) (xgn (by decide) W0_128)))))))))) (G.1.1.1.1.1.1) (G.2.2.1.1.1.1) (G.1.1.1.1.1.2.2) (G.2.2.1.1.1.2.1) (G.1.1.1.2.1.2.1) (G.2.2.1.1.1.2.2) (G.1.1.1.1.2.2.1) (G.1.1.1.1.2.2.2) (show ((xs 2) + (xs 4)) = N6 from eN6) (G.1.1.1.2.1.1) (show ((xs 3) + (xs 4)) = N10 from eN10) (G.1.1.1.2.2.1.1) (G.1.1.1.2.2.1.2) (G.1.1.1.2.2.2.1) (G.1.1.1.2.2.2.2) (show ((xs 2) + (0 : Int32)) = (xs 2) from (xadd_z _)) (show ((xs 3) + (0 : Int32)) = (xs 3) from (xadd_z _)) (xgn (by decide) (xgn (G.2.2.1.1.2.1.1) (xgn (by decide) (xgn (by decide) (xgn (by decide) (xgn (by decide) (xgn (by decide) (xgn (by decide) (xgn (by decide) (xgn (by decide) W0_154)))))))))) (G.2.2.1.1.2.1.2) (G.2.2.1.1.2.2.1) (xgn (by decide) (xgn (G.2.2.1.1.2.2.2) (xgn (by decide) (xgn (by decide) (xgn (by decide) (xgn (by decide) (xgn (by decide) (xgn (by decide) (xgn (by decide) (xgn (by decide) W0_156)))))))))) (xgn (by decide) (xgn (G.2.2.1.2.1.1) (xgn (by decide) (xgn (by decide) (xgn (by decide) (xgn (by decide) (xgn (by decide) (xgn (by decide) (xgn (by decide) (xgn (by decide) W0_155)))))))))) (xgn (by decide) (xgn (G.2.2.1.2.1.2.1) (xgn (by decide) (xgn (by decide) (xgn (by decide) (xgn (by decide) (xgn (by decide) (xgn (by decide) (xgn (by decide) (xgn (by decide) W0_153)))))))))) (gprec_at G.2.2.1.2.1.2.2) (gprec_at G.2.2.1.2.2.1.1) (G.1.1.2.2.1.2.1) (show ((xs 2) + (1 : Int32)) = N15 from eN15) (show ((xs 3) + (1 : Int32)) = N16 from eN16) (G.1.1.2.2.1.2.2) (G.2.2.1.2.2.1.2) (G.1.1.2.2.2.2.1) (G.2.2.1.2.2.2.1) (gprec_at G.2.2.1.2.2.2.2) (gprec_at G.2.2.2.1.1.1) (G.1.2.1.2.1.1) (show ((xs 2) + (2 : Int32)) = N18 from eN18) (show ((xs 3) + (2 : Int32)) = N19 from eN19) (G.1.2.1.2.1.2.1) (G.2.2.2.1.1.2.1) (G.1.2.1.2.2.1.2) (G.2.2.2.1.1.2.2) (gprec_at G.2.2.2.1.2.1.1) (gprec_at G.2.2.2.1.2.1.2) (G.1.2.2.1.2.2.2) (show ((xs 2) + (3 : Int32)) = N21 from eN21) (show ((xs 3) + (3 : Int32)) = N22 from eN22) (G.1.2.2.2.1.1) (G.2.2.2.1.2.2.1) (G.1.2.2.2.2.1.1) (G.2.2.2.1.2.2.2) (gprec_at G.2.2.2.2.1.1) (gprec_at G.2.2.2.2.1.2.1) (G.2.1.1.1.2.2.2) (show ((xs 2) + (4 : Int32)) = N24 from eN24) (show ((xs 3) + (4 : Int32)) = N25 from eN25) (G.2.1.1.2.1.1) (G.2.2.2.2.1.2.2) (G.2.1.1.2.2.1.1) (G.2.2.2.2.2.1.1) (gprec_at G.2.2.2.2.2.1.2) (gprec_at G.2.2.2.2.2.2.1) (G.2.1.2.1.2.2.1) (G.2.2.2.2.2.2.2)) ?_
    refine i_287_1220 (lv2 := [(6, Value.int 0), (5, Value.int 0), (4, Value.int 0), (3, Value.ref 194), (2, Value.ref 128), (1, Value.ref 7), (0, Value.ref 0)]) rfl ?_
    refine i_287_1222 (x := 128) rfl ?_
    refine i_287_1223 (xgn (by decide) (xgn (by decide) (xgs (xgn (by decide) (xgn (G.2.1.2.2.2.2.2) (xgn (by decide) (xgn (by decide) (xgn (by decide) (xgn (by decide) (xgn (by decide) (xgn (by decide) (xgn (by decide) (xgn (by decide) W0_128))))))))))))) (Nat.le_of_ble_eq_true rfl) (p_165_1 (xgn (by decide) (xgn (by decide) (xgs (xgn (by decide) (xgn (G.2.1.2.2.2.2.2) (xgn (by decide) (xgn (by decide) (xgn (by decide) (xgn (by decide) (xgn (by decide) (xgn (by decide) (xgn (by decide) (xgn (by decide) W0_128)))))))))))))) ?_
    refine i_287_1226 (x := 0) rfl ?_
    refine i_287_1228 (fun _ => ?_) (fun h => absurd h (by decide))
    refine i_287_1233 (x := 0) rfl ?_
    refine i_287_1235 (fun h => absurd h (by decide)) (fun _ => ?_)
    refine i_287_1238 (x := 194) rfl ?_
    refine i_287_1239 ?_
    refine i_287_1240 (v := Value.long 0) (xgn (by decide) (xgn (by decide) (xgn (by decide) (xgs (xgn (G.2.1.2.2.2.1.2) (xgn (by decide) (xgn (by decide) (xgn (by decide) (xgn (by decide) (xgn (by decide) (xgn (by decide) (xgn (by decide) (xgn (by decide) W0_194))))))))))))) (by decide) (by decide) xup_s ?_
    refine i_287_1241 (x := 0) rfl ?_
    refine i_287_1243 (c := 0) (by decide) ?_
    refine i_287_1244 (c := 0) (by decide) ?_
    refine i_287_1245 (fun _ => ?_) (fun h => absurd h (by decide))
    refine i_287_1250 ?_
    refine i_287_2154 (x := 0) (c := 6) (lv2 := [(4, Value.int 6), (6, Value.int 0), (5, Value.int 0), (3, Value.ref 194), (2, Value.ref 128), (1, Value.ref 7), (0, Value.ref 0)]) rfl (by decide) rfl ?_
    refine i_287_2157 ?_
    refine i_287_23 (x := 6) rfl ?_
    refine i_287_25 (x := 0) rfl ?_
    refine i_287_26 (c := 6) (xgn (by decide) (xgn (by decide) (xgn (by decide) (xgn (by decide) (xgn (G.2.1.2.2.2.2.1) (xgn (by decide) (xgn (by decide) (xgn (by decide) (xgn (by decide) (xgn (by decide) (xgn (by decide) (xgn (by decide) (xgn (by decide) W0_0))))))))))))) (by decide) ?_
    refine i_287_27 ?_
    refine i_287_29 (c := 0) (by decide) ?_
    refine i_287_30 (fun _ => ?_) (fun h => absurd h (by decide))
    refine i_287_2160 ?_
    exact i_287_2161 rfl ⟨rfl, rfl⟩
  · refine xLs.set ?_ (xgn (by decide) (xgn (by decide) (xgn (by decide) (xgn (G.2.2.1.1.2.2.2) (xgn (by decide) (xgn (by decide) (xgn (by decide) (xgn (by decide) (xgn (by decide) (xgn (by decide) (xgn (by decide) (xgn (by decide) W0_156)))))))))))) xcs_a
    refine xLs.set ?_ (xgn (by decide) (xgn (by decide) (xgn (G.2.2.1.1.2.1.1) (xgn (by decide) (xgn (by decide) (xgn (by decide) (xgn (by decide) (xgn (by decide) (xgn (by decide) (xgn (by decide) (xgn (by decide) W0_154))))))))))) xcs_a
    refine xLs.set ?_ (xgn (by decide) (xgn (G.2.1.2.2.2.2.2) (xgn (by decide) (xgn (by decide) (xgn (by decide) (xgn (by decide) (xgn (by decide) (xgn (by decide) (xgn (by decide) (xgn (by decide) W0_128)))))))))) xcs_o
    refine xLs.set ?_ (xgn (G.2.1.2.2.2.1.2) (xgn (by decide) (xgn (by decide) (xgn (by decide) (xgn (by decide) (xgn (by decide) (xgn (by decide) (xgn (by decide) (xgn (by decide) W0_194))))))))) xcs_a
    refine xLs.set ?_ (xgn (G.2.1.2.2.1.1) (xgn (G.2.1.2.2.1.1) (xgn (G.2.1.2.2.1.1) (xgn (G.2.1.2.2.1.1) (xgn (G.2.1.2.2.1.1) (xgn (G.2.1.2.2.1.1) (xgn (G.2.1.2.2.1.2.1) (xgn (G.2.1.2.2.1.2.2) (W0_reg G.2.1.2.1.2.2.2))))))))) xcs_o
    refine xLs.set ?_ (xgs (xgs (xgs (xgs (xgs (xgn (by decide) (xgn (by decide) W0_19))))))) xcs_o
    refine xLs.set ?_ (xgs (xgs (xgs (xgs (xgn (by decide) (xgn (by decide) W0_19)))))) xcs_o
    refine xLs.set ?_ (xgs (xgs (xgs (xgn (by decide) (xgn (by decide) W0_19))))) xcs_o
    refine xLs.set ?_ (xgs (xgs (xgn (by decide) (xgn (by decide) W0_19)))) xcs_o
    refine xLs.set ?_ (xgs (xgn (by decide) (xgn (by decide) W0_19))) xcs_o
    refine xLs.set ?_ (xgn (by decide) (xgn (by decide) W0_19)) xcs_o
    refine xLs.set ?_ (xgn (by decide) W0_22) xcs_o
    refine xLs.set ?_ (W0_20) xcs_o
    exact ⟨Nat.le_trans (Nat.le_of_eq W0_len) (by decide), Nat.le_trans (Nat.le_of_eq W0_sz) (by decide)⟩
theorem p_115_21 {d : Nat} {w : xW} {a0 : Int32} {a1 : Int32} {a2 : Int32} {a3 : Int32} {a4 : Int32} {a5 : Int32} {a6 : Int32} {g0 : Nat → Value} {h0 : Nat} {h1 : Nat} {h2 : Nat} {h3 : Nat} {a7 : Int32} {h4 : Nat} {a8 : Int32} {h5 : Nat} {h6 : Nat} {h7 : Nat} {a9 : Int32} {h8 : Nat} {a10 : Int32} {h9 : Nat} {h10 : Nat} {h11 : Nat} {a11 : Int32} {h12 : Nat} {a12 : Int32} {h13 : Nat} {h14 : Nat} {h15 : Nat} {h16 : Nat} {h17 : Nat} (e0 : 0 ≤ a0.toInt) (e1 : a0.toInt < 16) (e2 : 0 ≤ a1.toInt) (e3 : a1.toInt < 16) (e4 : 1 ≤ a3.toInt) (e5 : a3.toInt ≤ 16) (hg6 : (a1 + a3) = a5) (e7 : a5.toInt ≤ 16) (e8 : 0 ≤ a2.toInt) (e9 : a2.toInt < 16) (hg10 : (a2 + a3) = a6) (e11 : a6.toInt ≤ 16) (e12 : 0 ≤ a4.toInt) (e13 : a4.toInt ≤ 4) (hw14 : w[7]? = some (Sum.inr (0, [Value.ref 8, Value.ref 78, Value.ref 9, Value.ref 10, Value.ref 13, Value.ref 16, Value.ref 19, Value.ref 93, Value.ref 108, Value.ref 113, Value.ref 29, Value.int 0]))) (hw15 : w[19]? = some (Sum.inr (5, [Value.ref 20, Value.ref 22, Value.ref 24, Value.ref 26, Value.int 0, Value.int 0, Value.int 0, Value.int 0, Value.int 0, Value.int 0, Value.int 0, Value.int 0]))) (hw16 : w[20]? = some (Sum.inr (3, [Value.ref 21, Value.int 0]))) (hw17 : w[22]? = some (Sum.inr (3, [Value.ref 23, Value.int 0]))) (e18 : 0 < a3.toInt) (hg19 : (a1 + (0 : Int32)) = a1) (hw20 : w[8]? = some (Sum.inl (4, 16, g0))) (hg21 : g0 a1.toInt.toNat = Value.ref h0) (hg22 : (a2 + (0 : Int32)) = a2) (hg23 : g0 a2.toInt.toNat = Value.ref h1) (e24 : 19 ≠ h0) (e25 : 22 ≠ h0) (e26 : 20 ≠ h0) (hw27 : w[h0]? = some (Sum.inr (2, [Value.int 64, Value.int 0, Value.int 0, Value.int 0, Value.ref h2]))) (e28 : 19 ≠ h1) (e29 : 22 ≠ h1) (e30 : 20 ≠ h1) (hw31 : w[h1]? = some (Sum.inr (2, [Value.int 64, Value.int 0, Value.int 0, Value.int 0, Value.ref h3]))) (e32 : 1 < a3.toInt) (hg33 : (a1 + (1 : Int32)) = a7) (e34 : 0 ≤ a7.toInt) (e35 : a7.toInt < 16) (hg36 : g0 a7.toInt.toNat = Value.ref h4) (hg37 : (a2 + (1 : Int32)) = a8) (e38 : 0 ≤ a8.toInt) (e39 : a8.toInt < 16) (hg40 : g0 a8.toInt.toNat = Value.ref h5) (e41 : 19 ≠ h4) (e42 : 22 ≠ h4) (e43 : 20 ≠ h4) (hw44 : w[h4]? = some (Sum.inr (2, [Value.int 64, Value.int 0, Value.int 0, Value.int 0, Value.ref h6]))) (e45 : 19 ≠ h5) (e46 : 22 ≠ h5) (e47 : 20 ≠ h5) (hw48 : w[h5]? = some (Sum.inr (2, [Value.int 64, Value.int 0, Value.int 0, Value.int 0, Value.ref h7]))) (e49 : 2 < a3.toInt) (hg50 : (a1 + (2 : Int32)) = a9) (e51 : 0 ≤ a9.toInt) (e52 : a9.toInt < 16) (hg53 : g0 a9.toInt.toNat = Value.ref h8) (hg54 : (a2 + (2 : Int32)) = a10) (e55 : 0 ≤ a10.toInt) (e56 : a10.toInt < 16) (hg57 : g0 a10.toInt.toNat = Value.ref h9) (e58 : 19 ≠ h8) (e59 : 22 ≠ h8) (e60 : 20 ≠ h8) (hw61 : w[h8]? = some (Sum.inr (2, [Value.int 64, Value.int 0, Value.int 0, Value.int 0, Value.ref h10]))) (e62 : 19 ≠ h9) (e63 : 22 ≠ h9) (e64 : 20 ≠ h9) (hw65 : w[h9]? = some (Sum.inr (2, [Value.int 64, Value.int 0, Value.int 0, Value.int 0, Value.ref h11]))) (e66 : 3 < a3.toInt) (hg67 : (a1 + (3 : Int32)) = a11) (e68 : 0 ≤ a11.toInt) (e69 : a11.toInt < 16) (hg70 : g0 a11.toInt.toNat = Value.ref h12) (hg71 : (a2 + (3 : Int32)) = a12) (e72 : 0 ≤ a12.toInt) (e73 : a12.toInt < 16) (hg74 : g0 a12.toInt.toNat = Value.ref h13) (e75 : 19 ≠ h12) (e76 : 22 ≠ h12) (e77 : 20 ≠ h12) (hw78 : w[h12]? = some (Sum.inr (2, [Value.int 64, Value.int 0, Value.int 0, Value.int 0, Value.ref h14]))) (e79 : 19 ≠ h13) (e80 : 22 ≠ h13) (e81 : 20 ≠ h13) (hw82 : w[h13]? = some (Sum.inr (2, [Value.int 64, Value.int 0, Value.int 0, Value.int 0, Value.ref h15]))) (e83 : a3.toInt ≤ 4) (hg84 : g0 a0.toInt.toNat = Value.ref h16) (e85 : 19 ≠ h16) (e86 : 22 ≠ h16) (e87 : 20 ≠ h16) (hw88 : w[h16]? = some (Sum.inr (2, [Value.int 64, Value.int 0, Value.int 0, Value.int 0, Value.ref h17]))) (e89 : 7 ≤ h16) : xRun (d + 3) 115 [Value.ref 7, Value.int a0, Value.int a1, Value.int a2, Value.int a3, Value.int a4] w (.inl (some (Value.int 0))) ((((((((w.set 20 (Sum.inr (3, [Value.ref 21, Value.int 0]))).set 22 (Sum.inr (3, [Value.ref 23, Value.int 0]))).set 19 (Sum.inr (5, [Value.ref 20, Value.ref 22, Value.ref 24, Value.ref 26, Value.int 0, Value.int 0, Value.int 0, Value.int 0, Value.int 0, Value.int 0, Value.int 0, Value.int 0]))).set 19 (Sum.inr (5, [Value.ref 20, Value.ref 22, Value.ref 24, Value.ref 26, Value.int 0, Value.int 1, Value.int 0, Value.int 0, Value.int 0, Value.int 0, Value.int 0, Value.int 0]))).set 19 (Sum.inr (5, [Value.ref 20, Value.ref 22, Value.ref 24, Value.ref 26, Value.int 0, Value.int 1, Value.int 0, Value.int 0, Value.int 0, Value.int 0, Value.int 0, Value.int 0]))).set 19 (Sum.inr (5, [Value.ref 20, Value.ref 22, Value.ref 24, Value.ref 26, Value.int 0, Value.int 1, Value.int 0, Value.int 0, Value.int 0, Value.int 0, Value.int 0, Value.int 0]))).set 19 (Sum.inr (5, [Value.ref 20, Value.ref 22, Value.ref 24, Value.ref 26, Value.int 0, Value.int 1, Value.int 0, Value.int 0, Value.int 0, Value.int 0, Value.int 0, Value.int 0]))).set h16 (Sum.inr (2, [Value.int 64, Value.int 0, Value.int 0, Value.int 0, Value.ref h17]))) := by
  refine xRun.of ?_
  refine i_115_0 (x := a0) rfl ?_
  refine i_115_1 (Nat.le_of_ble_eq_true rfl) (p_15_1 e0 e1) ?_
  refine i_115_4 (fun h => absurd h (by decide)) (fun _ => ?_)
  refine i_115_7 (x := a1) rfl ?_
  refine i_115_8 (x := a3) rfl ?_
  refine i_115_10 (Nat.le_of_ble_eq_true rfl) (p_113_4 e2 e3 e4 e5 hg6 e7) ?_
  refine i_115_13 (fun h => absurd h (by decide)) (fun _ => ?_)
  refine i_115_16 (x := a2) rfl ?_
  refine i_115_17 (x := a3) rfl ?_
  refine i_115_19 (Nat.le_of_ble_eq_true rfl) (p_113_4 e8 e9 e4 e5 hg10 e11) ?_
  refine i_115_22 (fun h => absurd h (by decide)) (fun _ => ?_)
  refine i_115_25 (x := a4) rfl ?_
  refine i_115_27 (Nat.le_of_ble_eq_true rfl) (p_22_2 e12 e13) ?_
  refine i_115_30 (fun _ => ?_) (fun h => absurd h (by decide))
  refine i_115_41 (x := 7) rfl ?_
  refine i_115_42 (v := Value.ref 19) hw14 rfl ?_
  refine i_115_45 hw15 (Nat.le_of_ble_eq_true rfl) (p_59_0 hw15 hw16 hw17) ?_
  refine i_115_48 ?_
  refine i_115_49 (lv2 := [(6, Value.int 0), (0, Value.ref 7), (1, Value.int a0), (2, Value.int a1), (3, Value.int a2), (4, Value.int a3), (5, Value.int a4)]) rfl ?_
  refine i_115_51 (x := 0) rfl ?_
  refine i_115_53 (x := a3) rfl ?_
  refine i_115_55 (fun h => absurd e18 (Int.not_lt.mpr h)) (fun _ => ?_)
  refine i_115_58 (x := 7) rfl ?_
  refine i_115_59 (v := Value.ref 19) (xgn (by decide) (xgn (by decide) (xgn (by decide) hw14))) rfl ?_
  refine i_115_62 (x := 7) rfl ?_
  refine i_115_63 (v := Value.ref 8) (xgn (by decide) (xgn (by decide) (xgn (by decide) hw14))) rfl ?_
  refine i_115_66 (x := a1) rfl ?_
  refine i_115_67 (x := 0) rfl ?_
  refine i_115_69 (c := a1) hg19 ?_
  refine i_115_70 (v := Value.ref h0) (xgn (by decide) (xgn (by decide) (xgn (by decide) hw20))) e2 e3 hg21 ?_
  refine i_115_71 (x := 7) rfl ?_
  refine i_115_72 (v := Value.ref 8) (xgn (by decide) (xgn (by decide) (xgn (by decide) hw14))) rfl ?_
  refine i_115_75 (x := a2) rfl ?_
  refine i_115_76 (x := 0) rfl ?_
  refine i_115_78 (c := a2) hg22 ?_
  refine i_115_79 (v := Value.ref h1) (xgn (by decide) (xgn (by decide) (xgn (by decide) hw20))) e8 e9 hg23 ?_
  refine i_115_80 (xgs (xgn (by decide) (xgn (by decide) hw15))) (Nat.le_of_ble_eq_true rfl) (p_96_0 (xgn e24 (xgn e25 (xgn e26 hw27))) (xgn e28 (xgn e29 (xgn e30 hw31))) (xgs (xgn (by decide) (xgn (by decide) hw15)))) ?_
  refine i_115_83 (x := 0) (c := 1) (lv2 := [(6, Value.int 1), (0, Value.ref 7), (1, Value.int a0), (2, Value.int a1), (3, Value.int a2), (4, Value.int a3), (5, Value.int a4)]) rfl (by decide) rfl ?_
  refine i_115_86 ?_
  refine i_115_51 (x := 1) rfl ?_
  refine i_115_53 (x := a3) rfl ?_
  refine i_115_55 (fun h => absurd e32 (Int.not_lt.mpr h)) (fun _ => ?_)
  refine i_115_58 (x := 7) rfl ?_
  refine i_115_59 (v := Value.ref 19) (xgn (by decide) (xgn (by decide) (xgn (by decide) (xgn (by decide) hw14)))) rfl ?_
  refine i_115_62 (x := 7) rfl ?_
  refine i_115_63 (v := Value.ref 8) (xgn (by decide) (xgn (by decide) (xgn (by decide) (xgn (by decide) hw14)))) rfl ?_
  refine i_115_66 (x := a1) rfl ?_
  refine i_115_67 (x := 1) rfl ?_
  refine i_115_69 (c := a7) hg33 ?_
  refine i_115_70 (v := Value.ref h4) (xgn (by decide) (xgn (by decide) (xgn (by decide) (xgn (by decide) hw20)))) e34 e35 hg36 ?_
  refine i_115_71 (x := 7) rfl ?_
  refine i_115_72 (v := Value.ref 8) (xgn (by decide) (xgn (by decide) (xgn (by decide) (xgn (by decide) hw14)))) rfl ?_
  refine i_115_75 (x := a2) rfl ?_
  refine i_115_76 (x := 1) rfl ?_
  refine i_115_78 (c := a8) hg37 ?_
  refine i_115_79 (v := Value.ref h5) (xgn (by decide) (xgn (by decide) (xgn (by decide) (xgn (by decide) hw20)))) e38 e39 hg40 ?_
  refine i_115_80 (xgs (xgs (xgn (by decide) (xgn (by decide) hw15)))) (Nat.le_of_ble_eq_true rfl) (p_96_1 (xgn e41 (xgn e41 (xgn e42 (xgn e43 hw44)))) (xgn e45 (xgn e45 (xgn e46 (xgn e47 hw48)))) (xgs (xgs (xgn (by decide) (xgn (by decide) hw15))))) ?_
  refine i_115_83 (x := 1) (c := 2) (lv2 := [(6, Value.int 2), (0, Value.ref 7), (1, Value.int a0), (2, Value.int a1), (3, Value.int a2), (4, Value.int a3), (5, Value.int a4)]) rfl (by decide) rfl ?_
  refine i_115_86 ?_
  refine i_115_51 (x := 2) rfl ?_
  refine i_115_53 (x := a3) rfl ?_
  refine i_115_55 (fun h => absurd e49 (Int.not_lt.mpr h)) (fun _ => ?_)
  refine i_115_58 (x := 7) rfl ?_
  refine i_115_59 (v := Value.ref 19) (xgn (by decide) (xgn (by decide) (xgn (by decide) (xgn (by decide) (xgn (by decide) hw14))))) rfl ?_
  refine i_115_62 (x := 7) rfl ?_
  refine i_115_63 (v := Value.ref 8) (xgn (by decide) (xgn (by decide) (xgn (by decide) (xgn (by decide) (xgn (by decide) hw14))))) rfl ?_
  refine i_115_66 (x := a1) rfl ?_
  refine i_115_67 (x := 2) rfl ?_
  refine i_115_69 (c := a9) hg50 ?_
  refine i_115_70 (v := Value.ref h8) (xgn (by decide) (xgn (by decide) (xgn (by decide) (xgn (by decide) (xgn (by decide) hw20))))) e51 e52 hg53 ?_
  refine i_115_71 (x := 7) rfl ?_
  refine i_115_72 (v := Value.ref 8) (xgn (by decide) (xgn (by decide) (xgn (by decide) (xgn (by decide) (xgn (by decide) hw14))))) rfl ?_
  refine i_115_75 (x := a2) rfl ?_
  refine i_115_76 (x := 2) rfl ?_
  refine i_115_78 (c := a10) hg54 ?_
  refine i_115_79 (v := Value.ref h9) (xgn (by decide) (xgn (by decide) (xgn (by decide) (xgn (by decide) (xgn (by decide) hw20))))) e55 e56 hg57 ?_
  refine i_115_80 (xgs (xgs (xgs (xgn (by decide) (xgn (by decide) hw15))))) (Nat.le_of_ble_eq_true rfl) (p_96_1 (xgn e58 (xgn e58 (xgn e58 (xgn e59 (xgn e60 hw61))))) (xgn e62 (xgn e62 (xgn e62 (xgn e63 (xgn e64 hw65))))) (xgs (xgs (xgs (xgn (by decide) (xgn (by decide) hw15)))))) ?_
  refine i_115_83 (x := 2) (c := 3) (lv2 := [(6, Value.int 3), (0, Value.ref 7), (1, Value.int a0), (2, Value.int a1), (3, Value.int a2), (4, Value.int a3), (5, Value.int a4)]) rfl (by decide) rfl ?_
  refine i_115_86 ?_
  refine i_115_51 (x := 3) rfl ?_
  refine i_115_53 (x := a3) rfl ?_
  refine i_115_55 (fun h => absurd e66 (Int.not_lt.mpr h)) (fun _ => ?_)
  refine i_115_58 (x := 7) rfl ?_
  refine i_115_59 (v := Value.ref 19) (xgn (by decide) (xgn (by decide) (xgn (by decide) (xgn (by decide) (xgn (by decide) (xgn (by decide) hw14)))))) rfl ?_
  refine i_115_62 (x := 7) rfl ?_
  refine i_115_63 (v := Value.ref 8) (xgn (by decide) (xgn (by decide) (xgn (by decide) (xgn (by decide) (xgn (by decide) (xgn (by decide) hw14)))))) rfl ?_
  refine i_115_66 (x := a1) rfl ?_
  refine i_115_67 (x := 3) rfl ?_
  refine i_115_69 (c := a11) hg67 ?_
  refine i_115_70 (v := Value.ref h12) (xgn (by decide) (xgn (by decide) (xgn (by decide) (xgn (by decide) (xgn (by decide) (xgn (by decide) hw20)))))) e68 e69 hg70 ?_
  refine i_115_71 (x := 7) rfl ?_
  refine i_115_72 (v := Value.ref 8) (xgn (by decide) (xgn (by decide) (xgn (by decide) (xgn (by decide) (xgn (by decide) (xgn (by decide) hw14)))))) rfl ?_
  refine i_115_75 (x := a2) rfl ?_
  refine i_115_76 (x := 3) rfl ?_
  refine i_115_78 (c := a12) hg71 ?_
  refine i_115_79 (v := Value.ref h13) (xgn (by decide) (xgn (by decide) (xgn (by decide) (xgn (by decide) (xgn (by decide) (xgn (by decide) hw20)))))) e72 e73 hg74 ?_
  refine i_115_80 (xgs (xgs (xgs (xgs (xgn (by decide) (xgn (by decide) hw15)))))) (Nat.le_of_ble_eq_true rfl) (p_96_1 (xgn e75 (xgn e75 (xgn e75 (xgn e75 (xgn e76 (xgn e77 hw78)))))) (xgn e79 (xgn e79 (xgn e79 (xgn e79 (xgn e80 (xgn e81 hw82)))))) (xgs (xgs (xgs (xgs (xgn (by decide) (xgn (by decide) hw15))))))) ?_
  refine i_115_83 (x := 3) (c := 4) (lv2 := [(6, Value.int 4), (0, Value.ref 7), (1, Value.int a0), (2, Value.int a1), (3, Value.int a2), (4, Value.int a3), (5, Value.int a4)]) rfl (by decide) rfl ?_
  refine i_115_86 ?_
  refine i_115_51 (x := 4) rfl ?_
  refine i_115_53 (x := a3) rfl ?_
  refine i_115_55 (fun _ => ?_) (fun h => absurd e83 (Int.not_le.mpr h))
  refine i_115_89 (x := 7) rfl ?_
  refine i_115_90 (v := Value.ref 19) (xgn (by decide) (xgn (by decide) (xgn (by decide) (xgn (by decide) (xgn (by decide) (xgn (by decide) (xgn (by decide) hw14))))))) rfl ?_
  refine i_115_93 (x := 7) rfl ?_
  refine i_115_94 (v := Value.ref 78) (xgn (by decide) (xgn (by decide) (xgn (by decide) (xgn (by decide) (xgn (by decide) (xgn (by decide) (xgn (by decide) hw14))))))) rfl ?_
  refine i_115_97 (x := 7) rfl ?_
  refine i_115_98 (v := Value.ref 8) (xgn (by decide) (xgn (by decide) (xgn (by decide) (xgn (by decide) (xgn (by decide) (xgn (by decide) (xgn (by decide) hw14))))))) rfl ?_
  refine i_115_101 (x := a0) rfl ?_
  refine i_115_102 (v := Value.ref h16) (xgn (by decide) (xgn (by decide) (xgn (by decide) (xgn (by decide) (xgn (by decide) (xgn (by decide) (xgn (by decide) hw20))))))) e0 e1 hg84 ?_
  refine i_115_103 (x := a4) rfl ?_
  refine i_115_105 (xgs (xgs (xgs (xgs (xgs (xgn (by decide) (xgn (by decide) hw15))))))) (Nat.le_of_ble_eq_true rfl) (p_64_0 (xgs (xgs (xgs (xgs (xgs (xgn (by decide) (xgn (by decide) hw15))))))) (xgn e85 (xgn e85 (xgn e85 (xgn e85 (xgn e85 (xgn e86 (xgn e87 hw88))))))) e89) ?_
  exact i_115_108 ⟨rfl, rfl⟩
theorem p_114_21 {d : Nat} {w : xW} {a0 : Int32} {a1 : Int32} {a2 : Int32} {a3 : Int32} {a4 : Int32} {a5 : Int32} {a6 : Int32} {g0 : Nat → Value} {h0 : Nat} {h1 : Nat} {h2 : Nat} {h3 : Nat} {a7 : Int32} {h4 : Nat} {a8 : Int32} {h5 : Nat} {h6 : Nat} {h7 : Nat} {a9 : Int32} {h8 : Nat} {a10 : Int32} {h9 : Nat} {h10 : Nat} {h11 : Nat} {a11 : Int32} {h12 : Nat} {a12 : Int32} {h13 : Nat} {h14 : Nat} {h15 : Nat} {h16 : Nat} {h17 : Nat} (hw0 : w[7]? = some (Sum.inr (0, [Value.ref 8, Value.ref 78, Value.ref 9, Value.ref 10, Value.ref 13, Value.ref 16, Value.ref 19, Value.ref 93, Value.ref 108, Value.ref 113, Value.ref 29, Value.int 0]))) (e1 : 0 ≤ a0.toInt) (e2 : a0.toInt < 16) (e3 : 0 ≤ a1.toInt) (e4 : a1.toInt < 16) (e5 : 1 ≤ a3.toInt) (e6 : a3.toInt ≤ 16) (hg7 : (a1 + a3) = a5) (e8 : a5.toInt ≤ 16) (e9 : 0 ≤ a2.toInt) (e10 : a2.toInt < 16) (hg11 : (a2 + a3) = a6) (e12 : a6.toInt ≤ 16) (e13 : 0 ≤ a4.toInt) (e14 : a4.toInt ≤ 4) (hw15 : w[19]? = some (Sum.inr (5, [Value.ref 20, Value.ref 22, Value.ref 24, Value.ref 26, Value.int 0, Value.int 0, Value.int 0, Value.int 0, Value.int 0, Value.int 0, Value.int 0, Value.int 0]))) (hw16 : w[20]? = some (Sum.inr (3, [Value.ref 21, Value.int 0]))) (hw17 : w[22]? = some (Sum.inr (3, [Value.ref 23, Value.int 0]))) (e18 : 0 < a3.toInt) (hg19 : (a1 + (0 : Int32)) = a1) (hw20 : w[8]? = some (Sum.inl (4, 16, g0))) (hg21 : g0 a1.toInt.toNat = Value.ref h0) (hg22 : (a2 + (0 : Int32)) = a2) (hg23 : g0 a2.toInt.toNat = Value.ref h1) (e24 : 19 ≠ h0) (e25 : 22 ≠ h0) (e26 : 20 ≠ h0) (hw27 : w[h0]? = some (Sum.inr (2, [Value.int 64, Value.int 0, Value.int 0, Value.int 0, Value.ref h2]))) (e28 : 19 ≠ h1) (e29 : 22 ≠ h1) (e30 : 20 ≠ h1) (hw31 : w[h1]? = some (Sum.inr (2, [Value.int 64, Value.int 0, Value.int 0, Value.int 0, Value.ref h3]))) (e32 : 1 < a3.toInt) (hg33 : (a1 + (1 : Int32)) = a7) (e34 : 0 ≤ a7.toInt) (e35 : a7.toInt < 16) (hg36 : g0 a7.toInt.toNat = Value.ref h4) (hg37 : (a2 + (1 : Int32)) = a8) (e38 : 0 ≤ a8.toInt) (e39 : a8.toInt < 16) (hg40 : g0 a8.toInt.toNat = Value.ref h5) (e41 : 19 ≠ h4) (e42 : 22 ≠ h4) (e43 : 20 ≠ h4) (hw44 : w[h4]? = some (Sum.inr (2, [Value.int 64, Value.int 0, Value.int 0, Value.int 0, Value.ref h6]))) (e45 : 19 ≠ h5) (e46 : 22 ≠ h5) (e47 : 20 ≠ h5) (hw48 : w[h5]? = some (Sum.inr (2, [Value.int 64, Value.int 0, Value.int 0, Value.int 0, Value.ref h7]))) (e49 : 2 < a3.toInt) (hg50 : (a1 + (2 : Int32)) = a9) (e51 : 0 ≤ a9.toInt) (e52 : a9.toInt < 16) (hg53 : g0 a9.toInt.toNat = Value.ref h8) (hg54 : (a2 + (2 : Int32)) = a10) (e55 : 0 ≤ a10.toInt) (e56 : a10.toInt < 16) (hg57 : g0 a10.toInt.toNat = Value.ref h9) (e58 : 19 ≠ h8) (e59 : 22 ≠ h8) (e60 : 20 ≠ h8) (hw61 : w[h8]? = some (Sum.inr (2, [Value.int 64, Value.int 0, Value.int 0, Value.int 0, Value.ref h10]))) (e62 : 19 ≠ h9) (e63 : 22 ≠ h9) (e64 : 20 ≠ h9) (hw65 : w[h9]? = some (Sum.inr (2, [Value.int 64, Value.int 0, Value.int 0, Value.int 0, Value.ref h11]))) (e66 : 3 < a3.toInt) (hg67 : (a1 + (3 : Int32)) = a11) (e68 : 0 ≤ a11.toInt) (e69 : a11.toInt < 16) (hg70 : g0 a11.toInt.toNat = Value.ref h12) (hg71 : (a2 + (3 : Int32)) = a12) (e72 : 0 ≤ a12.toInt) (e73 : a12.toInt < 16) (hg74 : g0 a12.toInt.toNat = Value.ref h13) (e75 : 19 ≠ h12) (e76 : 22 ≠ h12) (e77 : 20 ≠ h12) (hw78 : w[h12]? = some (Sum.inr (2, [Value.int 64, Value.int 0, Value.int 0, Value.int 0, Value.ref h14]))) (e79 : 19 ≠ h13) (e80 : 22 ≠ h13) (e81 : 20 ≠ h13) (hw82 : w[h13]? = some (Sum.inr (2, [Value.int 64, Value.int 0, Value.int 0, Value.int 0, Value.ref h15]))) (e83 : a3.toInt ≤ 4) (hg84 : g0 a0.toInt.toNat = Value.ref h16) (e85 : 19 ≠ h16) (e86 : 22 ≠ h16) (e87 : 20 ≠ h16) (hw88 : w[h16]? = some (Sum.inr (2, [Value.int 64, Value.int 0, Value.int 0, Value.int 0, Value.ref h17]))) (e89 : 7 ≤ h16) (e90 : h16 ≠ 194) (hw91 : w[194]? = some (Sum.inl (3, 1, fun _ => Value.long 0))) : xRun (d + 4) 114 [Value.ref 7, Value.int a0, Value.int a1, Value.int a2, Value.int a3, Value.int a4, Value.ref 194] w (.inl (some (Value.int 0))) (((((((((w.set 20 (Sum.inr (3, [Value.ref 21, Value.int 0]))).set 22 (Sum.inr (3, [Value.ref 23, Value.int 0]))).set 19 (Sum.inr (5, [Value.ref 20, Value.ref 22, Value.ref 24, Value.ref 26, Value.int 0, Value.int 0, Value.int 0, Value.int 0, Value.int 0, Value.int 0, Value.int 0, Value.int 0]))).set 19 (Sum.inr (5, [Value.ref 20, Value.ref 22, Value.ref 24, Value.ref 26, Value.int 0, Value.int 1, Value.int 0, Value.int 0, Value.int 0, Value.int 0, Value.int 0, Value.int 0]))).set 19 (Sum.inr (5, [Value.ref 20, Value.ref 22, Value.ref 24, Value.ref 26, Value.int 0, Value.int 1, Value.int 0, Value.int 0, Value.int 0, Value.int 0, Value.int 0, Value.int 0]))).set 19 (Sum.inr (5, [Value.ref 20, Value.ref 22, Value.ref 24, Value.ref 26, Value.int 0, Value.int 1, Value.int 0, Value.int 0, Value.int 0, Value.int 0, Value.int 0, Value.int 0]))).set 19 (Sum.inr (5, [Value.ref 20, Value.ref 22, Value.ref 24, Value.ref 26, Value.int 0, Value.int 1, Value.int 0, Value.int 0, Value.int 0, Value.int 0, Value.int 0, Value.int 0]))).set h16 (Sum.inr (2, [Value.int 64, Value.int 0, Value.int 0, Value.int 0, Value.ref h17]))).set 194 (Sum.inl (3, 1, xup (fun _ => Value.long 0) (0 : Int32).toInt.toNat (Value.long 0)))) := by
  refine xRun.of ?_
  refine i_114_0 (x := 194) rfl ?_
  refine i_114_2 ?_
  refine i_114_3 (x := 7) rfl ?_
  refine i_114_4 (x := a0) rfl ?_
  refine i_114_5 (x := a1) rfl ?_
  refine i_114_6 (x := a2) rfl ?_
  refine i_114_7 (x := a3) rfl ?_
  refine i_114_9 (x := a4) rfl ?_
  refine i_114_11 hw0 (Nat.le_of_ble_eq_true rfl) (p_115_21 e1 e2 e3 e4 e5 e6 hg7 e8 e9 e10 hg11 e12 e13 e14 hw0 hw15 hw16 hw17 e18 hg19 hw20 hg21 hg22 hg23 e24 e25 e26 hw27 e28 e29 e30 hw31 e32 hg33 e34 e35 hg36 hg37 e38 e39 hg40 e41 e42 e43 hw44 e45 e46 e47 hw48 e49 hg50 e51 e52 hg53 hg54 e55 e56 hg57 e58 e59 e60 hw61 e62 e63 e64 hw65 e66 hg67 e68 e69 hg70 hg71 e72 e73 hg74 e75 e76 e77 hw78 e79 e80 e81 hw82 e83 hg84 e85 e86 e87 hw88 e89) ?_
  refine i_114_14 (c := 0) (by decide) ?_
  refine i_114_15 (v := Value.long 0) (xgn e90 (xgn (by decide) (xgn (by decide) (xgn (by decide) (xgn (by decide) (xgn (by decide) (xgn (by decide) (xgn (by decide) hw91)))))))) (by decide) (by decide) (by decide) rfl ?_
  refine i_114_16 ?_
  refine i_114_23 ?_
  exact i_114_24 ⟨rfl, rfl⟩
theorem p_231_22 {d : Nat} {w : xW} {a0 : Int32} {a1 : Int32} {a2 : Int32} {a3 : Int32} {a4 : Int32} {a5 : Int32} {a6 : Int32} {g0 : Nat → Value} {a7 : Int32} {a8 : Int32} {a9 : Int32} {a10 : Int32} {a11 : Int32} {a12 : Int32} (e0 : 0 ≤ a0.toInt) (e1 : a0.toInt ≤ 15) (e2 : 0 ≤ a1.toInt) (e3 : a1.toInt ≤ 15) (e4 : 0 ≤ a2.toInt) (e5 : a2.toInt ≤ 15) (e6 : 1 ≤ a3.toInt) (e7 : a3.toInt ≤ 16) (hg8 : (a1 + a3) = a5) (e9 : a5.toInt ≤ 16) (hg10 : (a2 + a3) = a6) (e11 : a6.toInt ≤ 16) (e12 : 0 ≤ a4.toInt) (e13 : a4.toInt ≤ 4) (e14 : 0 < a3.toInt) (hg15 : (a1 + (0 : Int32)) = a1) (hg16 : (a2 + (0 : Int32)) = a2) (hw17 : w[128]? = some (Sum.inr (12, [Value.ref 129, Value.ref 131, Value.ref 133, Value.ref 135, Value.ref 137, Value.ref 139, Value.ref 141, Value.ref 143, Value.ref 145, Value.ref 147, Value.ref 149, Value.ref 151, Value.ref 153, Value.ref 154, Value.ref 155, Value.ref 156, Value.ref 157, Value.int (-16384), Value.int 16384, Value.int 0, Value.int 0, Value.int 0, Value.ref 158, Value.ref 159, Value.int 0, Value.int 0, Value.int 0, Value.int 0, Value.int 0, Value.int 0, Value.int 0, Value.int 0]))) (hw18 : w[154]? = some (Sum.inl (0, 17, fun _ => Value.int 0))) (e19 : a1.toInt < 17) (e20 : a2.toInt < 17) (hw21 : w[156]? = some (Sum.inl (2, 17, fun _ => Value.int 0))) (hw22 : w[155]? = some (Sum.inl (0, 17, fun _ => Value.int 0))) (hw23 : w[153]? = some (Sum.inl (0, 17, g0))) (hg24 : g0 a1.toInt.toNat = Value.int 64) (hg25 : g0 a2.toInt.toNat = Value.int 64) (e26 : 1 < a3.toInt) (hg27 : (a1 + (1 : Int32)) = a7) (hg28 : (a2 + (1 : Int32)) = a8) (e29 : 0 ≤ a7.toInt) (e30 : a7.toInt < 17) (e31 : 0 ≤ a8.toInt) (e32 : a8.toInt < 17) (hg33 : g0 a7.toInt.toNat = Value.int 64) (hg34 : g0 a8.toInt.toNat = Value.int 64) (e35 : 2 < a3.toInt) (hg36 : (a1 + (2 : Int32)) = a9) (hg37 : (a2 + (2 : Int32)) = a10) (e38 : 0 ≤ a9.toInt) (e39 : a9.toInt < 17) (e40 : 0 ≤ a10.toInt) (e41 : a10.toInt < 17) (hg42 : g0 a9.toInt.toNat = Value.int 64) (hg43 : g0 a10.toInt.toNat = Value.int 64) (e44 : 3 < a3.toInt) (hg45 : (a1 + (3 : Int32)) = a11) (hg46 : (a2 + (3 : Int32)) = a12) (e47 : 0 ≤ a11.toInt) (e48 : a11.toInt < 17) (e49 : 0 ≤ a12.toInt) (e50 : a12.toInt < 17) (hg51 : g0 a11.toInt.toNat = Value.int 64) (hg52 : g0 a12.toInt.toNat = Value.int 64) (e53 : a3.toInt ≤ 4) (e54 : a0.toInt < 17) : xRun (d + 2) 231 [Value.ref 128, Value.int a0, Value.int a1, Value.int a2, Value.int a3, Value.int a4] w (.inl (some (Value.int 0))) ((w.set 154 (Sum.inl (0, 17, xup (fun _ => Value.int 0) a0.toInt.toNat (Value.int 0)))).set 156 (Sum.inl (2, 17, xup (fun _ => Value.int 0) a0.toInt.toNat (Value.int 0)))) := by
  refine xRun.of ?_
  refine i_231_0 (x := a0) rfl ?_
  refine i_231_1 (Nat.le_of_ble_eq_true rfl) (p_168_1 e0 e1) ?_
  refine i_231_4 (x := a1) rfl ?_
  refine i_231_5 (Nat.le_of_ble_eq_true rfl) (p_168_1 e2 e3) ?_
  refine i_231_8 (x := a2) rfl ?_
  refine i_231_9 (Nat.le_of_ble_eq_true rfl) (p_168_1 e4 e5) ?_
  refine i_231_12 (x := a3) rfl ?_
  refine i_231_14 ?_
  refine i_231_15 ?_
  refine i_231_17 (Nat.le_of_ble_eq_true rfl) (p_169_44 e6 e7) ?_
  refine i_231_20 (fun h => absurd h (by decide)) (fun _ => ?_)
  refine i_231_23 (x := a1) rfl ?_
  refine i_231_24 (x := a3) rfl ?_
  refine i_231_26 (c := a5) hg8 ?_
  refine i_231_27 ?_
  refine i_231_29 (fun h => absurd e9 (Int.not_le.mpr h)) (fun _ => ?_)
  refine i_231_32 (x := a2) rfl ?_
  refine i_231_33 (x := a3) rfl ?_
  refine i_231_35 (c := a6) hg10 ?_
  refine i_231_36 ?_
  refine i_231_38 (fun h => absurd e11 (Int.not_le.mpr h)) (fun _ => ?_)
  refine i_231_41 ?_
  refine i_231_42 ?_
  refine i_231_46 (Nat.le_of_ble_eq_true rfl) (p_170_1) ?_
  refine i_231_49 (x := a4) rfl ?_
  refine i_231_51 (Nat.le_of_ble_eq_true rfl) (p_178_2 e12 e13) ?_
  refine i_231_54 ?_
  refine i_231_57 (lv2 := [(6, Value.int 2147483647), (0, Value.ref 128), (1, Value.int a0), (2, Value.int a1), (3, Value.int a2), (4, Value.int a3), (5, Value.int a4)]) rfl ?_
  refine i_231_59 ?_
  refine i_231_60 (lv2 := [(7, Value.int 0), (6, Value.int 2147483647), (0, Value.ref 128), (1, Value.int a0), (2, Value.int a1), (3, Value.int a2), (4, Value.int a3), (5, Value.int a4)]) rfl ?_
  refine i_231_62 ?_
  refine i_231_63 (lv2 := [(8, Value.int 0), (7, Value.int 0), (6, Value.int 2147483647), (0, Value.ref 128), (1, Value.int a0), (2, Value.int a1), (3, Value.int a2), (4, Value.int a3), (5, Value.int a4)]) rfl ?_
  refine i_231_65 ?_
  refine i_231_66 (lv2 := [(9, Value.int 0), (8, Value.int 0), (7, Value.int 0), (6, Value.int 2147483647), (0, Value.ref 128), (1, Value.int a0), (2, Value.int a1), (3, Value.int a2), (4, Value.int a3), (5, Value.int a4)]) rfl ?_
  refine i_231_68 ?_
  refine i_231_69 (lv2 := [(10, Value.int 0), (9, Value.int 0), (8, Value.int 0), (7, Value.int 0), (6, Value.int 2147483647), (0, Value.ref 128), (1, Value.int a0), (2, Value.int a1), (3, Value.int a2), (4, Value.int a3), (5, Value.int a4)]) rfl ?_
  refine i_231_71 ?_
  refine i_231_72 (lv2 := [(11, Value.int 0), (10, Value.int 0), (9, Value.int 0), (8, Value.int 0), (7, Value.int 0), (6, Value.int 2147483647), (0, Value.ref 128), (1, Value.int a0), (2, Value.int a1), (3, Value.int a2), (4, Value.int a3), (5, Value.int a4)]) rfl ?_
  refine i_231_74 (x := 0) rfl ?_
  refine i_231_76 (x := a3) rfl ?_
  refine i_231_78 (fun h => absurd e14 (Int.not_lt.mpr h)) (fun _ => ?_)
  refine i_231_81 (x := a1) rfl ?_
  refine i_231_82 (x := 0) rfl ?_
  refine i_231_84 (c := a1) hg15 ?_
  refine i_231_85 (lv2 := [(12, Value.int a1), (11, Value.int 0), (10, Value.int 0), (9, Value.int 0), (8, Value.int 0), (7, Value.int 0), (6, Value.int 2147483647), (0, Value.ref 128), (1, Value.int a0), (2, Value.int a1), (3, Value.int a2), (4, Value.int a3), (5, Value.int a4)]) rfl ?_
  refine i_231_87 (x := a2) rfl ?_
  refine i_231_88 (x := 0) rfl ?_
  refine i_231_90 (c := a2) hg16 ?_
  refine i_231_91 (lv2 := [(13, Value.int a2), (12, Value.int a1), (11, Value.int 0), (10, Value.int 0), (9, Value.int 0), (8, Value.int 0), (7, Value.int 0), (6, Value.int 2147483647), (0, Value.ref 128), (1, Value.int a0), (2, Value.int a1), (3, Value.int a2), (4, Value.int a3), (5, Value.int a4)]) rfl ?_
  refine i_231_93 (x := 0) rfl ?_
  refine i_231_95 (x := 128) rfl ?_
  refine i_231_96 (v := Value.ref 154) hw17 rfl ?_
  refine i_231_99 (x := a1) rfl ?_
  refine i_231_101 (v := Value.int 0) hw18 e2 e19 rfl ?_
  refine i_231_102 (fun _ => ?_) (fun h => absurd h (by decide))
  refine i_231_115 ?_
  refine i_231_116 ?_
  refine i_231_120 (c := 1) (by decide) ?_
  refine i_231_121 (lv2 := [(9, Value.int 1), (13, Value.int a2), (12, Value.int a1), (11, Value.int 0), (10, Value.int 0), (8, Value.int 0), (7, Value.int 0), (6, Value.int 2147483647), (0, Value.ref 128), (1, Value.int a0), (2, Value.int a1), (3, Value.int a2), (4, Value.int a3), (5, Value.int a4)]) rfl ?_
  refine i_231_123 (x := 128) rfl ?_
  refine i_231_124 (v := Value.ref 154) hw17 rfl ?_
  refine i_231_127 (x := a1) rfl ?_
  refine i_231_129 (v := Value.int 0) hw18 e2 e19 rfl ?_
  refine i_231_130 ?_
  refine i_231_131 (fun h => absurd h (by decide)) (fun _ => ?_)
  refine i_231_134 (x := 128) rfl ?_
  refine i_231_135 (v := Value.ref 154) hw17 rfl ?_
  refine i_231_138 (x := a2) rfl ?_
  refine i_231_140 (v := Value.int 0) hw18 e4 e20 rfl ?_
  refine i_231_141 ?_
  refine i_231_142 (fun _ => ?_) (fun h => absurd h (by decide))
  refine i_231_149 ?_
  refine i_231_150 (lv2 := [(14, Value.int 0), (9, Value.int 1), (13, Value.int a2), (12, Value.int a1), (11, Value.int 0), (10, Value.int 0), (8, Value.int 0), (7, Value.int 0), (6, Value.int 2147483647), (0, Value.ref 128), (1, Value.int a0), (2, Value.int a1), (3, Value.int a2), (4, Value.int a3), (5, Value.int a4)]) rfl ?_
  refine i_231_152 (x := 128) rfl ?_
  refine i_231_153 (v := Value.ref 154) hw17 rfl ?_
  refine i_231_156 (x := a1) rfl ?_
  refine i_231_158 (v := Value.int 0) hw18 e2 e19 rfl ?_
  refine i_231_159 ?_
  refine i_231_160 (fun h => absurd h (by decide)) (fun _ => ?_)
  refine i_231_163 (x := 128) rfl ?_
  refine i_231_164 (v := Value.ref 154) hw17 rfl ?_
  refine i_231_167 (x := a2) rfl ?_
  refine i_231_169 (v := Value.int 0) hw18 e4 e20 rfl ?_
  refine i_231_170 ?_
  refine i_231_171 (fun _ => ?_) (fun h => absurd h (by decide))
  refine i_231_178 ?_
  refine i_231_179 (lv2 := [(15, Value.int 0), (14, Value.int 0), (9, Value.int 1), (13, Value.int a2), (12, Value.int a1), (11, Value.int 0), (10, Value.int 0), (8, Value.int 0), (7, Value.int 0), (6, Value.int 2147483647), (0, Value.ref 128), (1, Value.int a0), (2, Value.int a1), (3, Value.int a2), (4, Value.int a3), (5, Value.int a4)]) rfl ?_
  refine i_231_181 (x := 128) rfl ?_
  refine i_231_182 (v := Value.ref 156) hw17 rfl ?_
  refine i_231_185 (x := a1) rfl ?_
  refine i_231_187z (v := Value.int 0) hw21 e2 e19 rfl ?_
  refine i_231_188 (x := 128) rfl ?_
  refine i_231_189 (v := Value.ref 156) hw17 rfl ?_
  refine i_231_192 (x := a2) rfl ?_
  refine i_231_194z (v := Value.int 0) hw21 e4 e20 rfl ?_
  refine i_231_195 (fun _ => ?_) (fun h => absurd h (by decide))
  refine i_231_202 ?_
  refine i_231_203 (lv2 := [(16, Value.int 0), (15, Value.int 0), (14, Value.int 0), (9, Value.int 1), (13, Value.int a2), (12, Value.int a1), (11, Value.int 0), (10, Value.int 0), (8, Value.int 0), (7, Value.int 0), (6, Value.int 2147483647), (0, Value.ref 128), (1, Value.int a0), (2, Value.int a1), (3, Value.int a2), (4, Value.int a3), (5, Value.int a4)]) rfl ?_
  refine i_231_205 (x := 0) rfl ?_
  refine i_231_207 (x := 0) rfl ?_
  refine i_231_209 (fun _ => ?_) (fun h => absurd h (by decide))
  refine i_231_221 ?_
  refine i_231_222 (c := 0) (by decide) ?_
  refine i_231_223 (lv2 := [(10, Value.int 0), (16, Value.int 0), (15, Value.int 0), (14, Value.int 0), (9, Value.int 1), (13, Value.int a2), (12, Value.int a1), (11, Value.int 0), (8, Value.int 0), (7, Value.int 0), (6, Value.int 2147483647), (0, Value.ref 128), (1, Value.int a0), (2, Value.int a1), (3, Value.int a2), (4, Value.int a3), (5, Value.int a4)]) rfl ?_
  refine i_231_225 (x := 0) rfl ?_
  refine i_231_227 (x := 0) rfl ?_
  refine i_231_229 (fun _ => ?_) (fun h => absurd h (by decide))
  refine i_231_241 ?_
  refine i_231_242 (c := 0) (by decide) ?_
  refine i_231_243 (lv2 := [(7, Value.int 0), (10, Value.int 0), (16, Value.int 0), (15, Value.int 0), (14, Value.int 0), (9, Value.int 1), (13, Value.int a2), (12, Value.int a1), (11, Value.int 0), (8, Value.int 0), (6, Value.int 2147483647), (0, Value.ref 128), (1, Value.int a0), (2, Value.int a1), (3, Value.int a2), (4, Value.int a3), (5, Value.int a4)]) rfl ?_
  refine i_231_245 (x := 0) rfl ?_
  refine i_231_247 (x := 0) rfl ?_
  refine i_231_249 (fun _ => ?_) (fun h => absurd h (by decide))
  refine i_231_261 ?_
  refine i_231_262 (c := 0) (by decide) ?_
  refine i_231_263 (lv2 := [(8, Value.int 0), (7, Value.int 0), (10, Value.int 0), (16, Value.int 0), (15, Value.int 0), (14, Value.int 0), (9, Value.int 1), (13, Value.int a2), (12, Value.int a1), (11, Value.int 0), (6, Value.int 2147483647), (0, Value.ref 128), (1, Value.int a0), (2, Value.int a1), (3, Value.int a2), (4, Value.int a3), (5, Value.int a4)]) rfl ?_
  refine i_231_265 (x := 0) rfl ?_
  refine i_231_267 (fun h => absurd h (by decide)) (fun _ => ?_)
  refine i_231_270 (x := 0) rfl ?_
  refine i_231_272 (fun h => absurd h (by decide)) (fun _ => ?_)
  refine i_231_275 (x := 2147483647) rfl ?_
  refine i_231_277 (x := 128) rfl ?_
  refine i_231_278 (x := a1) rfl ?_
  refine i_231_280 hw17 (Nat.le_of_ble_eq_true rfl) (p_196_0 hw17 hw22 e2 e19 hw23 hg24) ?_
  refine i_231_283 (x := 128) rfl ?_
  refine i_231_284 (x := a2) rfl ?_
  refine i_231_286 hw17 (Nat.le_of_ble_eq_true rfl) (p_196_0 hw17 hw22 e4 e20 hw23 hg25) ?_
  refine i_231_289 (c := (-128)) (by decide) ?_
  refine i_231_290 (Nat.le_of_ble_eq_true rfl) (p_272_0) ?_
  refine i_231_293 (lv2 := [(6, Value.int (-128)), (8, Value.int 0), (7, Value.int 0), (10, Value.int 0), (16, Value.int 0), (15, Value.int 0), (14, Value.int 0), (9, Value.int 1), (13, Value.int a2), (12, Value.int a1), (11, Value.int 0), (0, Value.ref 128), (1, Value.int a0), (2, Value.int a1), (3, Value.int a2), (4, Value.int a3), (5, Value.int a4)]) rfl ?_
  refine i_231_295 (x := 0) (c := 1) (lv2 := [(11, Value.int 1), (6, Value.int (-128)), (8, Value.int 0), (7, Value.int 0), (10, Value.int 0), (16, Value.int 0), (15, Value.int 0), (14, Value.int 0), (9, Value.int 1), (13, Value.int a2), (12, Value.int a1), (0, Value.ref 128), (1, Value.int a0), (2, Value.int a1), (3, Value.int a2), (4, Value.int a3), (5, Value.int a4)]) rfl (by decide) rfl ?_
  refine i_231_298 ?_
  refine i_231_74 (x := 1) rfl ?_
  refine i_231_76 (x := a3) rfl ?_
  refine i_231_78 (fun h => absurd e26 (Int.not_lt.mpr h)) (fun _ => ?_)
  refine i_231_81 (x := a1) rfl ?_
  refine i_231_82 (x := 1) rfl ?_
  refine i_231_84 (c := a7) hg27 ?_
  refine i_231_85 (lv2 := [(12, Value.int a7), (11, Value.int 1), (6, Value.int (-128)), (8, Value.int 0), (7, Value.int 0), (10, Value.int 0), (16, Value.int 0), (15, Value.int 0), (14, Value.int 0), (9, Value.int 1), (13, Value.int a2), (0, Value.ref 128), (1, Value.int a0), (2, Value.int a1), (3, Value.int a2), (4, Value.int a3), (5, Value.int a4)]) rfl ?_
  refine i_231_87 (x := a2) rfl ?_
  refine i_231_88 (x := 1) rfl ?_
  refine i_231_90 (c := a8) hg28 ?_
  refine i_231_91 (lv2 := [(13, Value.int a8), (12, Value.int a7), (11, Value.int 1), (6, Value.int (-128)), (8, Value.int 0), (7, Value.int 0), (10, Value.int 0), (16, Value.int 0), (15, Value.int 0), (14, Value.int 0), (9, Value.int 1), (0, Value.ref 128), (1, Value.int a0), (2, Value.int a1), (3, Value.int a2), (4, Value.int a3), (5, Value.int a4)]) rfl ?_
  refine i_231_93 (x := 1) rfl ?_
  refine i_231_95 (x := 128) rfl ?_
  refine i_231_96 (v := Value.ref 154) hw17 rfl ?_
  refine i_231_99 (x := a7) rfl ?_
  refine i_231_101 (v := Value.int 0) hw18 e29 e30 rfl ?_
  refine i_231_102 (fun _ => ?_) (fun h => absurd h (by decide))
  refine i_231_115 ?_
  refine i_231_116 ?_
  refine i_231_120 (c := 1) (by decide) ?_
  refine i_231_121 (lv2 := [(9, Value.int 1), (13, Value.int a8), (12, Value.int a7), (11, Value.int 1), (6, Value.int (-128)), (8, Value.int 0), (7, Value.int 0), (10, Value.int 0), (16, Value.int 0), (15, Value.int 0), (14, Value.int 0), (0, Value.ref 128), (1, Value.int a0), (2, Value.int a1), (3, Value.int a2), (4, Value.int a3), (5, Value.int a4)]) rfl ?_
  refine i_231_123 (x := 128) rfl ?_
  refine i_231_124 (v := Value.ref 154) hw17 rfl ?_
  refine i_231_127 (x := a7) rfl ?_
  refine i_231_129 (v := Value.int 0) hw18 e29 e30 rfl ?_
  refine i_231_130 ?_
  refine i_231_131 (fun h => absurd h (by decide)) (fun _ => ?_)
  refine i_231_134 (x := 128) rfl ?_
  refine i_231_135 (v := Value.ref 154) hw17 rfl ?_
  refine i_231_138 (x := a8) rfl ?_
  refine i_231_140 (v := Value.int 0) hw18 e31 e32 rfl ?_
  refine i_231_141 ?_
  refine i_231_142 (fun _ => ?_) (fun h => absurd h (by decide))
  refine i_231_149 ?_
  refine i_231_150 (lv2 := [(14, Value.int 0), (9, Value.int 1), (13, Value.int a8), (12, Value.int a7), (11, Value.int 1), (6, Value.int (-128)), (8, Value.int 0), (7, Value.int 0), (10, Value.int 0), (16, Value.int 0), (15, Value.int 0), (0, Value.ref 128), (1, Value.int a0), (2, Value.int a1), (3, Value.int a2), (4, Value.int a3), (5, Value.int a4)]) rfl ?_
  refine i_231_152 (x := 128) rfl ?_
  refine i_231_153 (v := Value.ref 154) hw17 rfl ?_
  refine i_231_156 (x := a7) rfl ?_
  refine i_231_158 (v := Value.int 0) hw18 e29 e30 rfl ?_
  refine i_231_159 ?_
  refine i_231_160 (fun h => absurd h (by decide)) (fun _ => ?_)
  refine i_231_163 (x := 128) rfl ?_
  refine i_231_164 (v := Value.ref 154) hw17 rfl ?_
  refine i_231_167 (x := a8) rfl ?_
  refine i_231_169 (v := Value.int 0) hw18 e31 e32 rfl ?_
  refine i_231_170 ?_
  refine i_231_171 (fun _ => ?_) (fun h => absurd h (by decide))
  refine i_231_178 ?_
  refine i_231_179 (lv2 := [(15, Value.int 0), (14, Value.int 0), (9, Value.int 1), (13, Value.int a8), (12, Value.int a7), (11, Value.int 1), (6, Value.int (-128)), (8, Value.int 0), (7, Value.int 0), (10, Value.int 0), (16, Value.int 0), (0, Value.ref 128), (1, Value.int a0), (2, Value.int a1), (3, Value.int a2), (4, Value.int a3), (5, Value.int a4)]) rfl ?_
  refine i_231_181 (x := 128) rfl ?_
  refine i_231_182 (v := Value.ref 156) hw17 rfl ?_
  refine i_231_185 (x := a7) rfl ?_
  refine i_231_187z (v := Value.int 0) hw21 e29 e30 rfl ?_
  refine i_231_188 (x := 128) rfl ?_
  refine i_231_189 (v := Value.ref 156) hw17 rfl ?_
  refine i_231_192 (x := a8) rfl ?_
  refine i_231_194z (v := Value.int 0) hw21 e31 e32 rfl ?_
  refine i_231_195 (fun _ => ?_) (fun h => absurd h (by decide))
  refine i_231_202 ?_
  refine i_231_203 (lv2 := [(16, Value.int 0), (15, Value.int 0), (14, Value.int 0), (9, Value.int 1), (13, Value.int a8), (12, Value.int a7), (11, Value.int 1), (6, Value.int (-128)), (8, Value.int 0), (7, Value.int 0), (10, Value.int 0), (0, Value.ref 128), (1, Value.int a0), (2, Value.int a1), (3, Value.int a2), (4, Value.int a3), (5, Value.int a4)]) rfl ?_
  refine i_231_205 (x := 0) rfl ?_
  refine i_231_207 (x := 0) rfl ?_
  refine i_231_209 (fun _ => ?_) (fun h => absurd h (by decide))
  refine i_231_221 ?_
  refine i_231_222 (c := 0) (by decide) ?_
  refine i_231_223 (lv2 := [(10, Value.int 0), (16, Value.int 0), (15, Value.int 0), (14, Value.int 0), (9, Value.int 1), (13, Value.int a8), (12, Value.int a7), (11, Value.int 1), (6, Value.int (-128)), (8, Value.int 0), (7, Value.int 0), (0, Value.ref 128), (1, Value.int a0), (2, Value.int a1), (3, Value.int a2), (4, Value.int a3), (5, Value.int a4)]) rfl ?_
  refine i_231_225 (x := 0) rfl ?_
  refine i_231_227 (x := 0) rfl ?_
  refine i_231_229 (fun _ => ?_) (fun h => absurd h (by decide))
  refine i_231_241 ?_
  refine i_231_242 (c := 0) (by decide) ?_
  refine i_231_243 (lv2 := [(7, Value.int 0), (10, Value.int 0), (16, Value.int 0), (15, Value.int 0), (14, Value.int 0), (9, Value.int 1), (13, Value.int a8), (12, Value.int a7), (11, Value.int 1), (6, Value.int (-128)), (8, Value.int 0), (0, Value.ref 128), (1, Value.int a0), (2, Value.int a1), (3, Value.int a2), (4, Value.int a3), (5, Value.int a4)]) rfl ?_
  refine i_231_245 (x := 0) rfl ?_
  refine i_231_247 (x := 0) rfl ?_
  refine i_231_249 (fun _ => ?_) (fun h => absurd h (by decide))
  refine i_231_261 ?_
  refine i_231_262 (c := 0) (by decide) ?_
  refine i_231_263 (lv2 := [(8, Value.int 0), (7, Value.int 0), (10, Value.int 0), (16, Value.int 0), (15, Value.int 0), (14, Value.int 0), (9, Value.int 1), (13, Value.int a8), (12, Value.int a7), (11, Value.int 1), (6, Value.int (-128)), (0, Value.ref 128), (1, Value.int a0), (2, Value.int a1), (3, Value.int a2), (4, Value.int a3), (5, Value.int a4)]) rfl ?_
  refine i_231_265 (x := 0) rfl ?_
  refine i_231_267 (fun h => absurd h (by decide)) (fun _ => ?_)
  refine i_231_270 (x := 0) rfl ?_
  refine i_231_272 (fun h => absurd h (by decide)) (fun _ => ?_)
  refine i_231_275 (x := (-128)) rfl ?_
  refine i_231_277 (x := 128) rfl ?_
  refine i_231_278 (x := a7) rfl ?_
  refine i_231_280 hw17 (Nat.le_of_ble_eq_true rfl) (p_196_0 hw17 hw22 e29 e30 hw23 hg33) ?_
  refine i_231_283 (x := 128) rfl ?_
  refine i_231_284 (x := a8) rfl ?_
  refine i_231_286 hw17 (Nat.le_of_ble_eq_true rfl) (p_196_0 hw17 hw22 e31 e32 hw23 hg34) ?_
  refine i_231_289 (c := (-128)) (by decide) ?_
  refine i_231_290 (Nat.le_of_ble_eq_true rfl) (p_272_1) ?_
  refine i_231_293 (lv2 := [(6, Value.int (-128)), (8, Value.int 0), (7, Value.int 0), (10, Value.int 0), (16, Value.int 0), (15, Value.int 0), (14, Value.int 0), (9, Value.int 1), (13, Value.int a8), (12, Value.int a7), (11, Value.int 1), (0, Value.ref 128), (1, Value.int a0), (2, Value.int a1), (3, Value.int a2), (4, Value.int a3), (5, Value.int a4)]) rfl ?_
  refine i_231_295 (x := 1) (c := 2) (lv2 := [(11, Value.int 2), (6, Value.int (-128)), (8, Value.int 0), (7, Value.int 0), (10, Value.int 0), (16, Value.int 0), (15, Value.int 0), (14, Value.int 0), (9, Value.int 1), (13, Value.int a8), (12, Value.int a7), (0, Value.ref 128), (1, Value.int a0), (2, Value.int a1), (3, Value.int a2), (4, Value.int a3), (5, Value.int a4)]) rfl (by decide) rfl ?_
  refine i_231_298 ?_
  refine i_231_74 (x := 2) rfl ?_
  refine i_231_76 (x := a3) rfl ?_
  refine i_231_78 (fun h => absurd e35 (Int.not_lt.mpr h)) (fun _ => ?_)
  refine i_231_81 (x := a1) rfl ?_
  refine i_231_82 (x := 2) rfl ?_
  refine i_231_84 (c := a9) hg36 ?_
  refine i_231_85 (lv2 := [(12, Value.int a9), (11, Value.int 2), (6, Value.int (-128)), (8, Value.int 0), (7, Value.int 0), (10, Value.int 0), (16, Value.int 0), (15, Value.int 0), (14, Value.int 0), (9, Value.int 1), (13, Value.int a8), (0, Value.ref 128), (1, Value.int a0), (2, Value.int a1), (3, Value.int a2), (4, Value.int a3), (5, Value.int a4)]) rfl ?_
  refine i_231_87 (x := a2) rfl ?_
  refine i_231_88 (x := 2) rfl ?_
  refine i_231_90 (c := a10) hg37 ?_
  refine i_231_91 (lv2 := [(13, Value.int a10), (12, Value.int a9), (11, Value.int 2), (6, Value.int (-128)), (8, Value.int 0), (7, Value.int 0), (10, Value.int 0), (16, Value.int 0), (15, Value.int 0), (14, Value.int 0), (9, Value.int 1), (0, Value.ref 128), (1, Value.int a0), (2, Value.int a1), (3, Value.int a2), (4, Value.int a3), (5, Value.int a4)]) rfl ?_
  refine i_231_93 (x := 1) rfl ?_
  refine i_231_95 (x := 128) rfl ?_
  refine i_231_96 (v := Value.ref 154) hw17 rfl ?_
  refine i_231_99 (x := a9) rfl ?_
  refine i_231_101 (v := Value.int 0) hw18 e38 e39 rfl ?_
  refine i_231_102 (fun _ => ?_) (fun h => absurd h (by decide))
  refine i_231_115 ?_
  refine i_231_116 ?_
  refine i_231_120 (c := 1) (by decide) ?_
  refine i_231_121 (lv2 := [(9, Value.int 1), (13, Value.int a10), (12, Value.int a9), (11, Value.int 2), (6, Value.int (-128)), (8, Value.int 0), (7, Value.int 0), (10, Value.int 0), (16, Value.int 0), (15, Value.int 0), (14, Value.int 0), (0, Value.ref 128), (1, Value.int a0), (2, Value.int a1), (3, Value.int a2), (4, Value.int a3), (5, Value.int a4)]) rfl ?_
  refine i_231_123 (x := 128) rfl ?_
  refine i_231_124 (v := Value.ref 154) hw17 rfl ?_
  refine i_231_127 (x := a9) rfl ?_
  refine i_231_129 (v := Value.int 0) hw18 e38 e39 rfl ?_
  refine i_231_130 ?_
  refine i_231_131 (fun h => absurd h (by decide)) (fun _ => ?_)
  refine i_231_134 (x := 128) rfl ?_
  refine i_231_135 (v := Value.ref 154) hw17 rfl ?_
  refine i_231_138 (x := a10) rfl ?_
  refine i_231_140 (v := Value.int 0) hw18 e40 e41 rfl ?_
  refine i_231_141 ?_
  refine i_231_142 (fun _ => ?_) (fun h => absurd h (by decide))
  refine i_231_149 ?_
  refine i_231_150 (lv2 := [(14, Value.int 0), (9, Value.int 1), (13, Value.int a10), (12, Value.int a9), (11, Value.int 2), (6, Value.int (-128)), (8, Value.int 0), (7, Value.int 0), (10, Value.int 0), (16, Value.int 0), (15, Value.int 0), (0, Value.ref 128), (1, Value.int a0), (2, Value.int a1), (3, Value.int a2), (4, Value.int a3), (5, Value.int a4)]) rfl ?_
  refine i_231_152 (x := 128) rfl ?_
  refine i_231_153 (v := Value.ref 154) hw17 rfl ?_
  refine i_231_156 (x := a9) rfl ?_
  refine i_231_158 (v := Value.int 0) hw18 e38 e39 rfl ?_
  refine i_231_159 ?_
  refine i_231_160 (fun h => absurd h (by decide)) (fun _ => ?_)
  refine i_231_163 (x := 128) rfl ?_
  refine i_231_164 (v := Value.ref 154) hw17 rfl ?_
  refine i_231_167 (x := a10) rfl ?_
  refine i_231_169 (v := Value.int 0) hw18 e40 e41 rfl ?_
  refine i_231_170 ?_
  refine i_231_171 (fun _ => ?_) (fun h => absurd h (by decide))
  refine i_231_178 ?_
  refine i_231_179 (lv2 := [(15, Value.int 0), (14, Value.int 0), (9, Value.int 1), (13, Value.int a10), (12, Value.int a9), (11, Value.int 2), (6, Value.int (-128)), (8, Value.int 0), (7, Value.int 0), (10, Value.int 0), (16, Value.int 0), (0, Value.ref 128), (1, Value.int a0), (2, Value.int a1), (3, Value.int a2), (4, Value.int a3), (5, Value.int a4)]) rfl ?_
  refine i_231_181 (x := 128) rfl ?_
  refine i_231_182 (v := Value.ref 156) hw17 rfl ?_
  refine i_231_185 (x := a9) rfl ?_
  refine i_231_187z (v := Value.int 0) hw21 e38 e39 rfl ?_
  refine i_231_188 (x := 128) rfl ?_
  refine i_231_189 (v := Value.ref 156) hw17 rfl ?_
  refine i_231_192 (x := a10) rfl ?_
  refine i_231_194z (v := Value.int 0) hw21 e40 e41 rfl ?_
  refine i_231_195 (fun _ => ?_) (fun h => absurd h (by decide))
  refine i_231_202 ?_
  refine i_231_203 (lv2 := [(16, Value.int 0), (15, Value.int 0), (14, Value.int 0), (9, Value.int 1), (13, Value.int a10), (12, Value.int a9), (11, Value.int 2), (6, Value.int (-128)), (8, Value.int 0), (7, Value.int 0), (10, Value.int 0), (0, Value.ref 128), (1, Value.int a0), (2, Value.int a1), (3, Value.int a2), (4, Value.int a3), (5, Value.int a4)]) rfl ?_
  refine i_231_205 (x := 0) rfl ?_
  refine i_231_207 (x := 0) rfl ?_
  refine i_231_209 (fun _ => ?_) (fun h => absurd h (by decide))
  refine i_231_221 ?_
  refine i_231_222 (c := 0) (by decide) ?_
  refine i_231_223 (lv2 := [(10, Value.int 0), (16, Value.int 0), (15, Value.int 0), (14, Value.int 0), (9, Value.int 1), (13, Value.int a10), (12, Value.int a9), (11, Value.int 2), (6, Value.int (-128)), (8, Value.int 0), (7, Value.int 0), (0, Value.ref 128), (1, Value.int a0), (2, Value.int a1), (3, Value.int a2), (4, Value.int a3), (5, Value.int a4)]) rfl ?_
  refine i_231_225 (x := 0) rfl ?_
  refine i_231_227 (x := 0) rfl ?_
  refine i_231_229 (fun _ => ?_) (fun h => absurd h (by decide))
  refine i_231_241 ?_
  refine i_231_242 (c := 0) (by decide) ?_
  refine i_231_243 (lv2 := [(7, Value.int 0), (10, Value.int 0), (16, Value.int 0), (15, Value.int 0), (14, Value.int 0), (9, Value.int 1), (13, Value.int a10), (12, Value.int a9), (11, Value.int 2), (6, Value.int (-128)), (8, Value.int 0), (0, Value.ref 128), (1, Value.int a0), (2, Value.int a1), (3, Value.int a2), (4, Value.int a3), (5, Value.int a4)]) rfl ?_
  refine i_231_245 (x := 0) rfl ?_
  refine i_231_247 (x := 0) rfl ?_
  refine i_231_249 (fun _ => ?_) (fun h => absurd h (by decide))
  refine i_231_261 ?_
  refine i_231_262 (c := 0) (by decide) ?_
  refine i_231_263 (lv2 := [(8, Value.int 0), (7, Value.int 0), (10, Value.int 0), (16, Value.int 0), (15, Value.int 0), (14, Value.int 0), (9, Value.int 1), (13, Value.int a10), (12, Value.int a9), (11, Value.int 2), (6, Value.int (-128)), (0, Value.ref 128), (1, Value.int a0), (2, Value.int a1), (3, Value.int a2), (4, Value.int a3), (5, Value.int a4)]) rfl ?_
  refine i_231_265 (x := 0) rfl ?_
  refine i_231_267 (fun h => absurd h (by decide)) (fun _ => ?_)
  refine i_231_270 (x := 0) rfl ?_
  refine i_231_272 (fun h => absurd h (by decide)) (fun _ => ?_)
  refine i_231_275 (x := (-128)) rfl ?_
  refine i_231_277 (x := 128) rfl ?_
  refine i_231_278 (x := a9) rfl ?_
  refine i_231_280 hw17 (Nat.le_of_ble_eq_true rfl) (p_196_0 hw17 hw22 e38 e39 hw23 hg42) ?_
  refine i_231_283 (x := 128) rfl ?_
  refine i_231_284 (x := a10) rfl ?_
  refine i_231_286 hw17 (Nat.le_of_ble_eq_true rfl) (p_196_0 hw17 hw22 e40 e41 hw23 hg43) ?_
  refine i_231_289 (c := (-128)) (by decide) ?_
  refine i_231_290 (Nat.le_of_ble_eq_true rfl) (p_272_1) ?_
  refine i_231_293 (lv2 := [(6, Value.int (-128)), (8, Value.int 0), (7, Value.int 0), (10, Value.int 0), (16, Value.int 0), (15, Value.int 0), (14, Value.int 0), (9, Value.int 1), (13, Value.int a10), (12, Value.int a9), (11, Value.int 2), (0, Value.ref 128), (1, Value.int a0), (2, Value.int a1), (3, Value.int a2), (4, Value.int a3), (5, Value.int a4)]) rfl ?_
  refine i_231_295 (x := 2) (c := 3) (lv2 := [(11, Value.int 3), (6, Value.int (-128)), (8, Value.int 0), (7, Value.int 0), (10, Value.int 0), (16, Value.int 0), (15, Value.int 0), (14, Value.int 0), (9, Value.int 1), (13, Value.int a10), (12, Value.int a9), (0, Value.ref 128), (1, Value.int a0), (2, Value.int a1), (3, Value.int a2), (4, Value.int a3), (5, Value.int a4)]) rfl (by decide) rfl ?_
  refine i_231_298 ?_
  refine i_231_74 (x := 3) rfl ?_
  refine i_231_76 (x := a3) rfl ?_
  refine i_231_78 (fun h => absurd e44 (Int.not_lt.mpr h)) (fun _ => ?_)
  refine i_231_81 (x := a1) rfl ?_
  refine i_231_82 (x := 3) rfl ?_
  refine i_231_84 (c := a11) hg45 ?_
  refine i_231_85 (lv2 := [(12, Value.int a11), (11, Value.int 3), (6, Value.int (-128)), (8, Value.int 0), (7, Value.int 0), (10, Value.int 0), (16, Value.int 0), (15, Value.int 0), (14, Value.int 0), (9, Value.int 1), (13, Value.int a10), (0, Value.ref 128), (1, Value.int a0), (2, Value.int a1), (3, Value.int a2), (4, Value.int a3), (5, Value.int a4)]) rfl ?_
  refine i_231_87 (x := a2) rfl ?_
  refine i_231_88 (x := 3) rfl ?_
  refine i_231_90 (c := a12) hg46 ?_
  refine i_231_91 (lv2 := [(13, Value.int a12), (12, Value.int a11), (11, Value.int 3), (6, Value.int (-128)), (8, Value.int 0), (7, Value.int 0), (10, Value.int 0), (16, Value.int 0), (15, Value.int 0), (14, Value.int 0), (9, Value.int 1), (0, Value.ref 128), (1, Value.int a0), (2, Value.int a1), (3, Value.int a2), (4, Value.int a3), (5, Value.int a4)]) rfl ?_
  refine i_231_93 (x := 1) rfl ?_
  refine i_231_95 (x := 128) rfl ?_
  refine i_231_96 (v := Value.ref 154) hw17 rfl ?_
  refine i_231_99 (x := a11) rfl ?_
  refine i_231_101 (v := Value.int 0) hw18 e47 e48 rfl ?_
  refine i_231_102 (fun _ => ?_) (fun h => absurd h (by decide))
  refine i_231_115 ?_
  refine i_231_116 ?_
  refine i_231_120 (c := 1) (by decide) ?_
  refine i_231_121 (lv2 := [(9, Value.int 1), (13, Value.int a12), (12, Value.int a11), (11, Value.int 3), (6, Value.int (-128)), (8, Value.int 0), (7, Value.int 0), (10, Value.int 0), (16, Value.int 0), (15, Value.int 0), (14, Value.int 0), (0, Value.ref 128), (1, Value.int a0), (2, Value.int a1), (3, Value.int a2), (4, Value.int a3), (5, Value.int a4)]) rfl ?_
  refine i_231_123 (x := 128) rfl ?_
  refine i_231_124 (v := Value.ref 154) hw17 rfl ?_
  refine i_231_127 (x := a11) rfl ?_
  refine i_231_129 (v := Value.int 0) hw18 e47 e48 rfl ?_
  refine i_231_130 ?_
  refine i_231_131 (fun h => absurd h (by decide)) (fun _ => ?_)
  refine i_231_134 (x := 128) rfl ?_
  refine i_231_135 (v := Value.ref 154) hw17 rfl ?_
  refine i_231_138 (x := a12) rfl ?_
  refine i_231_140 (v := Value.int 0) hw18 e49 e50 rfl ?_
  refine i_231_141 ?_
  refine i_231_142 (fun _ => ?_) (fun h => absurd h (by decide))
  refine i_231_149 ?_
  refine i_231_150 (lv2 := [(14, Value.int 0), (9, Value.int 1), (13, Value.int a12), (12, Value.int a11), (11, Value.int 3), (6, Value.int (-128)), (8, Value.int 0), (7, Value.int 0), (10, Value.int 0), (16, Value.int 0), (15, Value.int 0), (0, Value.ref 128), (1, Value.int a0), (2, Value.int a1), (3, Value.int a2), (4, Value.int a3), (5, Value.int a4)]) rfl ?_
  refine i_231_152 (x := 128) rfl ?_
  refine i_231_153 (v := Value.ref 154) hw17 rfl ?_
  refine i_231_156 (x := a11) rfl ?_
  refine i_231_158 (v := Value.int 0) hw18 e47 e48 rfl ?_
  refine i_231_159 ?_
  refine i_231_160 (fun h => absurd h (by decide)) (fun _ => ?_)
  refine i_231_163 (x := 128) rfl ?_
  refine i_231_164 (v := Value.ref 154) hw17 rfl ?_
  refine i_231_167 (x := a12) rfl ?_
  refine i_231_169 (v := Value.int 0) hw18 e49 e50 rfl ?_
  refine i_231_170 ?_
  refine i_231_171 (fun _ => ?_) (fun h => absurd h (by decide))
  refine i_231_178 ?_
  refine i_231_179 (lv2 := [(15, Value.int 0), (14, Value.int 0), (9, Value.int 1), (13, Value.int a12), (12, Value.int a11), (11, Value.int 3), (6, Value.int (-128)), (8, Value.int 0), (7, Value.int 0), (10, Value.int 0), (16, Value.int 0), (0, Value.ref 128), (1, Value.int a0), (2, Value.int a1), (3, Value.int a2), (4, Value.int a3), (5, Value.int a4)]) rfl ?_
  refine i_231_181 (x := 128) rfl ?_
  refine i_231_182 (v := Value.ref 156) hw17 rfl ?_
  refine i_231_185 (x := a11) rfl ?_
  refine i_231_187z (v := Value.int 0) hw21 e47 e48 rfl ?_
  refine i_231_188 (x := 128) rfl ?_
  refine i_231_189 (v := Value.ref 156) hw17 rfl ?_
  refine i_231_192 (x := a12) rfl ?_
  refine i_231_194z (v := Value.int 0) hw21 e49 e50 rfl ?_
  refine i_231_195 (fun _ => ?_) (fun h => absurd h (by decide))
  refine i_231_202 ?_
  refine i_231_203 (lv2 := [(16, Value.int 0), (15, Value.int 0), (14, Value.int 0), (9, Value.int 1), (13, Value.int a12), (12, Value.int a11), (11, Value.int 3), (6, Value.int (-128)), (8, Value.int 0), (7, Value.int 0), (10, Value.int 0), (0, Value.ref 128), (1, Value.int a0), (2, Value.int a1), (3, Value.int a2), (4, Value.int a3), (5, Value.int a4)]) rfl ?_
  refine i_231_205 (x := 0) rfl ?_
  refine i_231_207 (x := 0) rfl ?_
  refine i_231_209 (fun _ => ?_) (fun h => absurd h (by decide))
  refine i_231_221 ?_
  refine i_231_222 (c := 0) (by decide) ?_
  refine i_231_223 (lv2 := [(10, Value.int 0), (16, Value.int 0), (15, Value.int 0), (14, Value.int 0), (9, Value.int 1), (13, Value.int a12), (12, Value.int a11), (11, Value.int 3), (6, Value.int (-128)), (8, Value.int 0), (7, Value.int 0), (0, Value.ref 128), (1, Value.int a0), (2, Value.int a1), (3, Value.int a2), (4, Value.int a3), (5, Value.int a4)]) rfl ?_
  refine i_231_225 (x := 0) rfl ?_
  refine i_231_227 (x := 0) rfl ?_
  refine i_231_229 (fun _ => ?_) (fun h => absurd h (by decide))
  refine i_231_241 ?_
  refine i_231_242 (c := 0) (by decide) ?_
  refine i_231_243 (lv2 := [(7, Value.int 0), (10, Value.int 0), (16, Value.int 0), (15, Value.int 0), (14, Value.int 0), (9, Value.int 1), (13, Value.int a12), (12, Value.int a11), (11, Value.int 3), (6, Value.int (-128)), (8, Value.int 0), (0, Value.ref 128), (1, Value.int a0), (2, Value.int a1), (3, Value.int a2), (4, Value.int a3), (5, Value.int a4)]) rfl ?_
  refine i_231_245 (x := 0) rfl ?_
  refine i_231_247 (x := 0) rfl ?_
  refine i_231_249 (fun _ => ?_) (fun h => absurd h (by decide))
  refine i_231_261 ?_
  refine i_231_262 (c := 0) (by decide) ?_
  refine i_231_263 (lv2 := [(8, Value.int 0), (7, Value.int 0), (10, Value.int 0), (16, Value.int 0), (15, Value.int 0), (14, Value.int 0), (9, Value.int 1), (13, Value.int a12), (12, Value.int a11), (11, Value.int 3), (6, Value.int (-128)), (0, Value.ref 128), (1, Value.int a0), (2, Value.int a1), (3, Value.int a2), (4, Value.int a3), (5, Value.int a4)]) rfl ?_
  refine i_231_265 (x := 0) rfl ?_
  refine i_231_267 (fun h => absurd h (by decide)) (fun _ => ?_)
  refine i_231_270 (x := 0) rfl ?_
  refine i_231_272 (fun h => absurd h (by decide)) (fun _ => ?_)
  refine i_231_275 (x := (-128)) rfl ?_
  refine i_231_277 (x := 128) rfl ?_
  refine i_231_278 (x := a11) rfl ?_
  refine i_231_280 hw17 (Nat.le_of_ble_eq_true rfl) (p_196_0 hw17 hw22 e47 e48 hw23 hg51) ?_
  refine i_231_283 (x := 128) rfl ?_
  refine i_231_284 (x := a12) rfl ?_
  refine i_231_286 hw17 (Nat.le_of_ble_eq_true rfl) (p_196_0 hw17 hw22 e49 e50 hw23 hg52) ?_
  refine i_231_289 (c := (-128)) (by decide) ?_
  refine i_231_290 (Nat.le_of_ble_eq_true rfl) (p_272_1) ?_
  refine i_231_293 (lv2 := [(6, Value.int (-128)), (8, Value.int 0), (7, Value.int 0), (10, Value.int 0), (16, Value.int 0), (15, Value.int 0), (14, Value.int 0), (9, Value.int 1), (13, Value.int a12), (12, Value.int a11), (11, Value.int 3), (0, Value.ref 128), (1, Value.int a0), (2, Value.int a1), (3, Value.int a2), (4, Value.int a3), (5, Value.int a4)]) rfl ?_
  refine i_231_295 (x := 3) (c := 4) (lv2 := [(11, Value.int 4), (6, Value.int (-128)), (8, Value.int 0), (7, Value.int 0), (10, Value.int 0), (16, Value.int 0), (15, Value.int 0), (14, Value.int 0), (9, Value.int 1), (13, Value.int a12), (12, Value.int a11), (0, Value.ref 128), (1, Value.int a0), (2, Value.int a1), (3, Value.int a2), (4, Value.int a3), (5, Value.int a4)]) rfl (by decide) rfl ?_
  refine i_231_298 ?_
  refine i_231_74 (x := 4) rfl ?_
  refine i_231_76 (x := a3) rfl ?_
  refine i_231_78 (fun _ => ?_) (fun h => absurd e53 (Int.not_le.mpr h))
  refine i_231_301 (x := 1) rfl ?_
  refine i_231_303 (fun h => absurd h (by decide)) (fun _ => ?_)
  refine i_231_306 (x := 128) rfl ?_
  refine i_231_307 (x := a0) rfl ?_
  refine i_231_308 ?_
  refine i_231_309 ?_
  refine i_231_310 hw17 (Nat.le_of_ble_eq_true rfl) (p_171_0 hw17 hw18 e0 e54 hw21) ?_
  exact i_231_313 ⟨rfl, rfl⟩
theorem p_230_22 {d : Nat} {w : xW} {a0 : Int32} {a1 : Int32} {a2 : Int32} {a3 : Int32} {a4 : Int32} {a5 : Int32} {a6 : Int32} {g0 : Nat → Value} {a7 : Int32} {a8 : Int32} {a9 : Int32} {a10 : Int32} {a11 : Int32} {a12 : Int32} (hw0 : w[128]? = some (Sum.inr (12, [Value.ref 129, Value.ref 131, Value.ref 133, Value.ref 135, Value.ref 137, Value.ref 139, Value.ref 141, Value.ref 143, Value.ref 145, Value.ref 147, Value.ref 149, Value.ref 151, Value.ref 153, Value.ref 154, Value.ref 155, Value.ref 156, Value.ref 157, Value.int (-16384), Value.int 16384, Value.int 0, Value.int 0, Value.int 0, Value.ref 158, Value.ref 159, Value.int 0, Value.int 0, Value.int 0, Value.int 0, Value.int 0, Value.int 0, Value.int 0, Value.int 0]))) (e1 : 0 ≤ a0.toInt) (e2 : a0.toInt ≤ 15) (e3 : 0 ≤ a1.toInt) (e4 : a1.toInt ≤ 15) (e5 : 0 ≤ a2.toInt) (e6 : a2.toInt ≤ 15) (e7 : 1 ≤ a3.toInt) (e8 : a3.toInt ≤ 16) (hg9 : (a1 + a3) = a5) (e10 : a5.toInt ≤ 16) (hg11 : (a2 + a3) = a6) (e12 : a6.toInt ≤ 16) (e13 : 0 ≤ a4.toInt) (e14 : a4.toInt ≤ 4) (e15 : 0 < a3.toInt) (hg16 : (a1 + (0 : Int32)) = a1) (hg17 : (a2 + (0 : Int32)) = a2) (hw18 : w[154]? = some (Sum.inl (0, 17, fun _ => Value.int 0))) (e19 : a1.toInt < 17) (e20 : a2.toInt < 17) (hw21 : w[156]? = some (Sum.inl (2, 17, fun _ => Value.int 0))) (hw22 : w[155]? = some (Sum.inl (0, 17, fun _ => Value.int 0))) (hw23 : w[153]? = some (Sum.inl (0, 17, g0))) (hg24 : g0 a1.toInt.toNat = Value.int 64) (hg25 : g0 a2.toInt.toNat = Value.int 64) (e26 : 1 < a3.toInt) (hg27 : (a1 + (1 : Int32)) = a7) (hg28 : (a2 + (1 : Int32)) = a8) (e29 : 0 ≤ a7.toInt) (e30 : a7.toInt < 17) (e31 : 0 ≤ a8.toInt) (e32 : a8.toInt < 17) (hg33 : g0 a7.toInt.toNat = Value.int 64) (hg34 : g0 a8.toInt.toNat = Value.int 64) (e35 : 2 < a3.toInt) (hg36 : (a1 + (2 : Int32)) = a9) (hg37 : (a2 + (2 : Int32)) = a10) (e38 : 0 ≤ a9.toInt) (e39 : a9.toInt < 17) (e40 : 0 ≤ a10.toInt) (e41 : a10.toInt < 17) (hg42 : g0 a9.toInt.toNat = Value.int 64) (hg43 : g0 a10.toInt.toNat = Value.int 64) (e44 : 3 < a3.toInt) (hg45 : (a1 + (3 : Int32)) = a11) (hg46 : (a2 + (3 : Int32)) = a12) (e47 : 0 ≤ a11.toInt) (e48 : a11.toInt < 17) (e49 : 0 ≤ a12.toInt) (e50 : a12.toInt < 17) (hg51 : g0 a11.toInt.toNat = Value.int 64) (hg52 : g0 a12.toInt.toNat = Value.int 64) (e53 : a3.toInt ≤ 4) (e54 : a0.toInt < 17) : xRun (d + 3) 230 [Value.ref 128, Value.int a0, Value.int a1, Value.int a2, Value.int a3, Value.int a4] w (.inl (some (Value.int 0))) (((w.set 128 (Sum.inr (12, [Value.ref 129, Value.ref 131, Value.ref 133, Value.ref 135, Value.ref 137, Value.ref 139, Value.ref 141, Value.ref 143, Value.ref 145, Value.ref 147, Value.ref 149, Value.ref 151, Value.ref 153, Value.ref 154, Value.ref 155, Value.ref 156, Value.ref 157, Value.int (-16384), Value.int 16384, Value.int 0, Value.int 0, Value.int 0, Value.ref 158, Value.ref 159, Value.int 0, Value.int 0, Value.int 0, Value.int 0, Value.int 0, Value.int 0, Value.int 0, Value.int 0]))).set 154 (Sum.inl (0, 17, xup (fun _ => Value.int 0) a0.toInt.toNat (Value.int 0)))).set 156 (Sum.inl (2, 17, xup (fun _ => Value.int 0) a0.toInt.toNat (Value.int 0)))) := by
  refine xRun.of ?_
  refine i_230_0 (x := 128) rfl ?_
  refine i_230_1 ?_
  refine i_230_2 (fs2 := [Value.ref 129, Value.ref 131, Value.ref 133, Value.ref 135, Value.ref 137, Value.ref 139, Value.ref 141, Value.ref 143, Value.ref 145, Value.ref 147, Value.ref 149, Value.ref 151, Value.ref 153, Value.ref 154, Value.ref 155, Value.ref 156, Value.ref 157, Value.int (-16384), Value.int 16384, Value.int 0, Value.int 0, Value.int 0, Value.ref 158, Value.ref 159, Value.int 0, Value.int 0, Value.int 0, Value.int 0, Value.int 0, Value.int 0, Value.int 0, Value.int 0]) hw0 (Nat.le_of_ble_eq_true rfl) rfl (by decide) ?_
  refine i_230_5 (x := 128) rfl ?_
  refine i_230_6 (x := a0) rfl ?_
  refine i_230_7 (x := a1) rfl ?_
  refine i_230_8 (x := a2) rfl ?_
  refine i_230_9 (x := a3) rfl ?_
  refine i_230_11 (x := a4) rfl ?_
  refine i_230_13 (xgs hw0) (Nat.le_of_ble_eq_true rfl) (p_231_22 e1 e2 e3 e4 e5 e6 e7 e8 hg9 e10 hg11 e12 e13 e14 e15 hg16 hg17 (xgs hw0) (xgn (by decide) hw18) e19 e20 (xgn (by decide) hw21) (xgn (by decide) hw22) (xgn (by decide) hw23) hg24 hg25 e26 hg27 hg28 e29 e30 e31 e32 hg33 hg34 e35 hg36 hg37 e38 e39 e40 e41 hg42 hg43 e44 hg45 hg46 e47 e48 e49 e50 hg51 hg52 e53 e54) ?_
  exact i_230_16 ⟨rfl, rfl⟩
theorem g_11_27 {z0 z1 z2 z3 z4 z5 z6 z7 z8 z9 z10 z11 z12 z13 : Int} (h0 : z0 = 11) (c0 : 0 ≤ z1) (c1 : z1 < 16) (c2 : 0 ≤ z2) (c3 : z2 < 16) (c4 : 1 ≤ z3) (c5 : z3 ≤ 16) (nN6 : z4 = z2 + z3) (c7 : z4 ≤ 16) (c8 : 0 ≤ z5) (c9 : z5 < 16) (nN10 : z6 = z5 + z3) (c11 : z6 ≤ 16) (c12 : 0 ≤ z7) (c13 : z7 ≤ 4) (c14 : 1 < z3) (nN15 : z8 = z2 + 1) (nN16 : z9 = z5 + 1) (c17 : 2 < z3) (nN18 : z10 = z2 + 2) (nN19 : z11 = z5 + 2) (c20 : 3 < z3) (nN21 : z12 = z2 + 3) (nN22 : z13 = z5 + 3) (c23 : z3 ≤ 4) : (((((((0 ≤ z1) ∧ (z1 < 16)) ∧ ((0 ≤ z2) ∧ ((z2 < 16) ∧ (1 ≤ z3)))) ∧ (((z3 ≤ 16) ∧ ((z4 ≤ 16) ∧ (0 ≤ z5))) ∧ ((z5 < 16) ∧ ((z6 ≤ 16) ∧ (0 ≤ z7))))) ∧ ((((z7 ≤ 4) ∧ ((0 < z3) ∧ (z2.toNat < 16))) ∧ ((z5.toNat < 16) ∧ ((19 ≠ (30 + 3 * z2.toNat)) ∧ (22 ≠ (30 + 3 * z2.toNat))))) ∧ (((20 ≠ (30 + 3 * z2.toNat)) ∧ ((19 ≠ (30 + 3 * z5.toNat)) ∧ (22 ≠ (30 + 3 * z5.toNat)))) ∧ ((20 ≠ (30 + 3 * z5.toNat)) ∧ ((1 < z3) ∧ (0 ≤ z8)))))) ∧ (((((z8 < 16) ∧ (z8.toNat < 16)) ∧ ((0 ≤ z9) ∧ ((z9 < 16) ∧ (z9.toNat < 16)))) ∧ (((19 ≠ (30 + 3 * z8.toNat)) ∧ ((22 ≠ (30 + 3 * z8.toNat)) ∧ (20 ≠ (30 + 3 * z8.toNat)))) ∧ ((19 ≠ (30 + 3 * z9.toNat)) ∧ ((22 ≠ (30 + 3 * z9.toNat)) ∧ (20 ≠ (30 + 3 * z9.toNat)))))) ∧ ((((2 < z3) ∧ ((0 ≤ z10) ∧ (z10 < 16))) ∧ ((z10.toNat < 16) ∧ ((0 ≤ z11) ∧ (z11 < 16)))) ∧ (((z11.toNat < 16) ∧ ((19 ≠ (30 + 3 * z10.toNat)) ∧ (22 ≠ (30 + 3 * z10.toNat)))) ∧ ((20 ≠ (30 + 3 * z10.toNat)) ∧ ((19 ≠ (30 + 3 * z11.toNat)) ∧ (22 ≠ (30 + 3 * z11.toNat)))))))) ∧ ((((((20 ≠ (30 + 3 * z11.toNat)) ∧ (3 < z3)) ∧ ((0 ≤ z12) ∧ ((z12 < 16) ∧ (z12.toNat < 16)))) ∧ (((0 ≤ z13) ∧ ((z13 < 16) ∧ (z13.toNat < 16))) ∧ ((19 ≠ (30 + 3 * z12.toNat)) ∧ ((22 ≠ (30 + 3 * z12.toNat)) ∧ (20 ≠ (30 + 3 * z12.toNat)))))) ∧ ((((19 ≠ (30 + 3 * z13.toNat)) ∧ ((22 ≠ (30 + 3 * z13.toNat)) ∧ (20 ≠ (30 + 3 * z13.toNat)))) ∧ ((z3 ≤ 4) ∧ ((z1.toNat < 16) ∧ (19 ≠ (30 + 3 * z1.toNat))))) ∧ (((22 ≠ (30 + 3 * z1.toNat)) ∧ ((20 ≠ (30 + 3 * z1.toNat)) ∧ (7 ≤ (30 + 3 * z1.toNat)))) ∧ (((30 + 3 * z1.toNat) ≠ 194) ∧ (((30 + 3 * z1.toNat) ≠ 0) ∧ ((30 + 3 * z1.toNat) ≠ 128)))))) ∧ (((((z1 ≤ 15) ∧ ((z2 ≤ 15) ∧ (z5 ≤ 15))) ∧ (((30 + 3 * z1.toNat) ≠ 154) ∧ ((z2 < 17) ∧ (z5 < 17)))) ∧ ((((30 + 3 * z1.toNat) ≠ 156) ∧ (((30 + 3 * z1.toNat) ≠ 155) ∧ ((30 + 3 * z1.toNat) ≠ 153))) ∧ ((z2.toNat < 17) ∧ ((z5.toNat < 17) ∧ (z8 < 17))))) ∧ ((((z9 < 17) ∧ ((z8.toNat < 17) ∧ (z9.toNat < 17))) ∧ ((z10 < 17) ∧ ((z11 < 17) ∧ (z10.toNat < 17)))) ∧ (((z11.toNat < 17) ∧ ((z12 < 17) ∧ (z13 < 17))) ∧ ((z12.toNat < 17) ∧ ((z13.toNat < 17) ∧ (z1 < 17)))))))) := by
  subst nN22; subst nN21; subst nN19; subst nN18; subst nN16; subst nN15; subst nN10; subst nN6; exact ⟨⟨⟨⟨⟨⟨by omega, by omega⟩, ⟨by omega, ⟨by omega, by omega⟩⟩⟩, ⟨⟨by omega, ⟨by omega, by omega⟩⟩, ⟨by omega, ⟨by omega, by omega⟩⟩⟩⟩, ⟨⟨⟨by omega, ⟨by omega, by omega⟩⟩, ⟨by omega, ⟨by omega, by omega⟩⟩⟩, ⟨⟨by omega, ⟨by omega, by omega⟩⟩, ⟨by omega, ⟨by omega, by omega⟩⟩⟩⟩⟩, ⟨⟨⟨⟨by omega, by omega⟩, ⟨by omega, ⟨by omega, by omega⟩⟩⟩, ⟨⟨by omega, ⟨by omega, by omega⟩⟩, ⟨by omega, ⟨by omega, by omega⟩⟩⟩⟩, ⟨⟨⟨by omega, ⟨by omega, by omega⟩⟩, ⟨by omega, ⟨by omega, by omega⟩⟩⟩, ⟨⟨by omega, ⟨by omega, by omega⟩⟩, ⟨by omega, ⟨by omega, by omega⟩⟩⟩⟩⟩⟩, ⟨⟨⟨⟨⟨by omega, by omega⟩, ⟨by omega, ⟨by omega, by omega⟩⟩⟩, ⟨⟨by omega, ⟨by omega, by omega⟩⟩, ⟨by omega, ⟨by omega, by omega⟩⟩⟩⟩, ⟨⟨⟨by omega, ⟨by omega, by omega⟩⟩, ⟨by omega, ⟨by omega, by omega⟩⟩⟩, ⟨⟨by omega, ⟨by omega, by omega⟩⟩, ⟨by omega, ⟨by omega, by omega⟩⟩⟩⟩⟩, ⟨⟨⟨⟨by omega, ⟨by omega, by omega⟩⟩, ⟨by omega, ⟨by omega, by omega⟩⟩⟩, ⟨⟨by omega, ⟨by omega, by omega⟩⟩, ⟨by omega, ⟨by omega, by omega⟩⟩⟩⟩, ⟨⟨⟨by omega, ⟨by omega, by omega⟩⟩, ⟨by omega, ⟨by omega, by omega⟩⟩⟩, ⟨⟨by omega, ⟨by omega, by omega⟩⟩, ⟨by omega, ⟨by omega, by omega⟩⟩⟩⟩⟩⟩⟩
theorem o_11_27 {d : Nat} {xs : Nat → Int32} {N6 N10 N15 N16 N18 N19 N21 N22 : Int32} (h0 : ((xs 0) &&& (31 : Int32)).toInt = 11) (c0 : 0 ≤ (xs 1).toInt) (c1 : (xs 1).toInt < 16) (c2 : 0 ≤ (xs 2).toInt) (c3 : (xs 2).toInt < 16) (c4 : 1 ≤ (xs 4).toInt) (c5 : (xs 4).toInt ≤ 16) (eN6 : ((xs 2) + (xs 4)) = N6) (nN6 : N6.toInt = (xs 2).toInt + (xs 4).toInt) (c7 : N6.toInt ≤ 16) (c8 : 0 ≤ (xs 3).toInt) (c9 : (xs 3).toInt < 16) (eN10 : ((xs 3) + (xs 4)) = N10) (nN10 : N10.toInt = (xs 3).toInt + (xs 4).toInt) (c11 : N10.toInt ≤ 16) (c12 : 0 ≤ (xs 5).toInt) (c13 : (xs 5).toInt ≤ 4) (c14 : 1 < (xs 4).toInt) (eN15 : ((xs 2) + (1 : Int32)) = N15) (nN15 : N15.toInt = (xs 2).toInt + 1) (eN16 : ((xs 3) + (1 : Int32)) = N16) (nN16 : N16.toInt = (xs 3).toInt + 1) (c17 : 2 < (xs 4).toInt) (eN18 : ((xs 2) + (2 : Int32)) = N18) (nN18 : N18.toInt = (xs 2).toInt + 2) (eN19 : ((xs 3) + (2 : Int32)) = N19) (nN19 : N19.toInt = (xs 3).toInt + 2) (c20 : 3 < (xs 4).toInt) (eN21 : ((xs 2) + (3 : Int32)) = N21) (nN21 : N21.toInt = (xs 2).toInt + 3) (eN22 : ((xs 3) + (3 : Int32)) = N22) (nN22 : N22.toInt = (xs 3).toInt + 3) (c23 : (xs 4).toInt ≤ 4) : ∃ w1, xEv (d + 20) 287 23 [(4, Value.int 0), (3, Value.ref 194), (2, Value.ref 128), (1, Value.ref 7), (0, Value.ref 0)] [] (W0 6 xs) (fun o' w' => o' = .inl (some (Value.int 1)) ∧ w' = w1) ∧ w1.length ≤ 220 ∧ xsz w1 ≤ 200000 := by
  have G : id (((((((0 ≤ (xs 1).toInt) ∧ ((xs 1).toInt < 16)) ∧ ((0 ≤ (xs 2).toInt) ∧ (((xs 2).toInt < 16) ∧ (1 ≤ (xs 4).toInt)))) ∧ ((((xs 4).toInt ≤ 16) ∧ ((N6.toInt ≤ 16) ∧ (0 ≤ (xs 3).toInt))) ∧ (((xs 3).toInt < 16) ∧ ((N10.toInt ≤ 16) ∧ (0 ≤ (xs 5).toInt))))) ∧ (((((xs 5).toInt ≤ 4) ∧ ((0 < (xs 4).toInt) ∧ ((xs 2).toInt.toNat < 16))) ∧ (((xs 3).toInt.toNat < 16) ∧ ((19 ≠ (30 + 3 * (xs 2).toInt.toNat)) ∧ (22 ≠ (30 + 3 * (xs 2).toInt.toNat))))) ∧ (((20 ≠ (30 + 3 * (xs 2).toInt.toNat)) ∧ ((19 ≠ (30 + 3 * (xs 3).toInt.toNat)) ∧ (22 ≠ (30 + 3 * (xs 3).toInt.toNat)))) ∧ ((20 ≠ (30 + 3 * (xs 3).toInt.toNat)) ∧ ((1 < (xs 4).toInt) ∧ (0 ≤ N15.toInt)))))) ∧ (((((N15.toInt < 16) ∧ (N15.toInt.toNat < 16)) ∧ ((0 ≤ N16.toInt) ∧ ((N16.toInt < 16) ∧ (N16.toInt.toNat < 16)))) ∧ (((19 ≠ (30 + 3 * N15.toInt.toNat)) ∧ ((22 ≠ (30 + 3 * N15.toInt.toNat)) ∧ (20 ≠ (30 + 3 * N15.toInt.toNat)))) ∧ ((19 ≠ (30 + 3 * N16.toInt.toNat)) ∧ ((22 ≠ (30 + 3 * N16.toInt.toNat)) ∧ (20 ≠ (30 + 3 * N16.toInt.toNat)))))) ∧ ((((2 < (xs 4).toInt) ∧ ((0 ≤ N18.toInt) ∧ (N18.toInt < 16))) ∧ ((N18.toInt.toNat < 16) ∧ ((0 ≤ N19.toInt) ∧ (N19.toInt < 16)))) ∧ (((N19.toInt.toNat < 16) ∧ ((19 ≠ (30 + 3 * N18.toInt.toNat)) ∧ (22 ≠ (30 + 3 * N18.toInt.toNat)))) ∧ ((20 ≠ (30 + 3 * N18.toInt.toNat)) ∧ ((19 ≠ (30 + 3 * N19.toInt.toNat)) ∧ (22 ≠ (30 + 3 * N19.toInt.toNat)))))))) ∧ ((((((20 ≠ (30 + 3 * N19.toInt.toNat)) ∧ (3 < (xs 4).toInt)) ∧ ((0 ≤ N21.toInt) ∧ ((N21.toInt < 16) ∧ (N21.toInt.toNat < 16)))) ∧ (((0 ≤ N22.toInt) ∧ ((N22.toInt < 16) ∧ (N22.toInt.toNat < 16))) ∧ ((19 ≠ (30 + 3 * N21.toInt.toNat)) ∧ ((22 ≠ (30 + 3 * N21.toInt.toNat)) ∧ (20 ≠ (30 + 3 * N21.toInt.toNat)))))) ∧ ((((19 ≠ (30 + 3 * N22.toInt.toNat)) ∧ ((22 ≠ (30 + 3 * N22.toInt.toNat)) ∧ (20 ≠ (30 + 3 * N22.toInt.toNat)))) ∧ (((xs 4).toInt ≤ 4) ∧ (((xs 1).toInt.toNat < 16) ∧ (19 ≠ (30 + 3 * (xs 1).toInt.toNat))))) ∧ (((22 ≠ (30 + 3 * (xs 1).toInt.toNat)) ∧ ((20 ≠ (30 + 3 * (xs 1).toInt.toNat)) ∧ (7 ≤ (30 + 3 * (xs 1).toInt.toNat)))) ∧ (((30 + 3 * (xs 1).toInt.toNat) ≠ 194) ∧ (((30 + 3 * (xs 1).toInt.toNat) ≠ 0) ∧ ((30 + 3 * (xs 1).toInt.toNat) ≠ 128)))))) ∧ ((((((xs 1).toInt ≤ 15) ∧ (((xs 2).toInt ≤ 15) ∧ ((xs 3).toInt ≤ 15))) ∧ (((30 + 3 * (xs 1).toInt.toNat) ≠ 154) ∧ (((xs 2).toInt < 17) ∧ ((xs 3).toInt < 17)))) ∧ ((((30 + 3 * (xs 1).toInt.toNat) ≠ 156) ∧ (((30 + 3 * (xs 1).toInt.toNat) ≠ 155) ∧ ((30 + 3 * (xs 1).toInt.toNat) ≠ 153))) ∧ (((xs 2).toInt.toNat < 17) ∧ (((xs 3).toInt.toNat < 17) ∧ (N15.toInt < 17))))) ∧ ((((N16.toInt < 17) ∧ ((N15.toInt.toNat < 17) ∧ (N16.toInt.toNat < 17))) ∧ ((N18.toInt < 17) ∧ ((N19.toInt < 17) ∧ (N18.toInt.toNat < 17)))) ∧ (((N19.toInt.toNat < 17) ∧ ((N21.toInt < 17) ∧ (N22.toInt < 17))) ∧ ((N21.toInt.toNat < 17) ∧ ((N22.toInt.toNat < 17) ∧ ((xs 1).toInt < 17)))))))) := g_11_27 h0 c0 c1 c2 c3 c4 c5 nN6 c7 c8 c9 nN10 c11 c12 c13 c14 nN15 nN16 c17 nN18 nN19 c20 nN21 nN22 c23
  refine ⟨(((((((((((((W0 6 xs).set 20 (Sum.inr (3, [Value.ref 21, Value.int 0]))).set 22 (Sum.inr (3, [Value.ref 23, Value.int 0]))).set 19 (Sum.inr (5, [Value.ref 20, Value.ref 22, Value.ref 24, Value.ref 26, Value.int 0, Value.int 0, Value.int 0, Value.int 0, Value.int 0, Value.int 0, Value.int 0, Value.int 0]))).set 19 (Sum.inr (5, [Value.ref 20, Value.ref 22, Value.ref 24, Value.ref 26, Value.int 0, Value.int 1, Value.int 0, Value.int 0, Value.int 0, Value.int 0, Value.int 0, Value.int 0]))).set 19 (Sum.inr (5, [Value.ref 20, Value.ref 22, Value.ref 24, Value.ref 26, Value.int 0, Value.int 1, Value.int 0, Value.int 0, Value.int 0, Value.int 0, Value.int 0, Value.int 0]))).set 19 (Sum.inr (5, [Value.ref 20, Value.ref 22, Value.ref 24, Value.ref 26, Value.int 0, Value.int 1, Value.int 0, Value.int 0, Value.int 0, Value.int 0, Value.int 0, Value.int 0]))).set 19 (Sum.inr (5, [Value.ref 20, Value.ref 22, Value.ref 24, Value.ref 26, Value.int 0, Value.int 1, Value.int 0, Value.int 0, Value.int 0, Value.int 0, Value.int 0, Value.int 0]))).set (30 + 3 * (xs 1).toInt.toNat) (Sum.inr (2, [Value.int 64, Value.int 0, Value.int 0, Value.int 0, Value.ref (31 + 3 * (xs 1).toInt.toNat)]))).set 194 (Sum.inl (3, 1, xup (fun _ => Value.long 0) (0 : Int32).toInt.toNat (Value.long 0)))).set 128 (Sum.inr (12, [Value.ref 129, Value.ref 131, Value.ref 133, Value.ref 135, Value.ref 137, Value.ref 139, Value.ref 141, Value.ref 143, Value.ref 145, Value.ref 147, Value.ref 149, Value.ref 151, Value.ref 153, Value.ref 154, Value.ref 155, Value.ref 156, Value.ref 157, Value.int (-16384), Value.int 16384, Value.int 0, Value.int 0, Value.int 0, Value.ref 158, Value.ref 159, Value.int 0, Value.int 0, Value.int 0, Value.int 0, Value.int 0, Value.int 0, Value.int 0, Value.int 0]))).set 154 (Sum.inl (0, 17, xup (fun _ => Value.int 0) (xs 1).toInt.toNat (Value.int 0)))).set 156 (Sum.inl (2, 17, xup (fun _ => Value.int 0) (xs 1).toInt.toNat (Value.int 0)))), ?_, (show xLs _ 220 200000 from ?_)⟩
  · refine i_287_23 (x := 0) rfl ?_
    refine i_287_25 (x := 0) rfl ?_
    refine i_287_26 (c := 6) W0_0 (by decide) ?_
    refine i_287_27 ?_
    refine i_287_29 (c := 0) (by decide) ?_
    refine i_287_30 (fun h => absurd h (by decide)) (fun _ => ?_)
    refine i_287_33 (x := 0) rfl ?_
    refine i_287_34 (x := 0) rfl ?_
    refine i_287_36 (v := Value.int (xs 0)) W0_0 (by decide) (by decide) rfl ?_
    refine i_287_37 ?_
    refine i_287_39 (c := 11) (show ((xs 0) &&& (31 : Int32)) = 11 from (xge_c (n := 11) h0 rfl)) ?_
    refine i_287_40_11 rfl ?_
    refine i_287_1149 (x := 7) rfl ?_
    refine i_287_1150 (x := 0) rfl ?_
    refine i_287_1151 (x := 0) rfl ?_
    refine i_287_1153 ?_
    refine i_287_1154 (c := 1) (by decide) ?_
    refine i_287_1155 (v := Value.int (xs 1)) W0_0 (by decide) (by decide) rfl ?_
    refine i_287_1156 (x := 0) rfl ?_
    refine i_287_1157 (x := 0) rfl ?_
    refine i_287_1159 ?_
    refine i_287_1160 (c := 2) (by decide) ?_
    refine i_287_1161 (v := Value.int (xs 2)) W0_0 (by decide) (by decide) rfl ?_
    refine i_287_1162 (x := 0) rfl ?_
    refine i_287_1163 (x := 0) rfl ?_
    refine i_287_1165 ?_
    refine i_287_1166 (c := 3) (by decide) ?_
    refine i_287_1167 (v := Value.int (xs 3)) W0_0 (by decide) (by decide) rfl ?_
    refine i_287_1168 (x := 0) rfl ?_
    refine i_287_1169 (x := 0) rfl ?_
    refine i_287_1171 ?_
    refine i_287_1172 (c := 4) (by decide) ?_
    refine i_287_1173 (v := Value.int (xs 4)) W0_0 (by decide) (by decide) rfl ?_
    refine i_287_1174 (x := 0) rfl ?_
    refine i_287_1175 (x := 0) rfl ?_
    refine i_287_1177 ?_
    refine i_287_1178 (c := 5) (by decide) ?_
    refine i_287_1179 (v := Value.int (xs 5)) W0_0 (by decide) (by decide) rfl ?_
    refine i_287_1180 (x := 194) rfl ?_
    refine i_287_1181 (Nat.le_of_ble_eq_true rfl) (p_114_21 W0_7 (G.1.1.1.1.1.1) (G.1.1.1.1.1.2) (G.1.1.1.1.2.1) (G.1.1.1.1.2.2.1) (G.1.1.1.1.2.2.2) (G.1.1.1.2.1.1) (show ((xs 2) + (xs 4)) = N6 from eN6) (G.1.1.1.2.1.2.1) (G.1.1.1.2.1.2.2) (G.1.1.1.2.2.1) (show ((xs 3) + (xs 4)) = N10 from eN10) (G.1.1.1.2.2.2.1) (G.1.1.1.2.2.2.2) (G.1.1.2.1.1.1) W0_19 W0_20 W0_22 (G.1.1.2.1.1.2.1) (show ((xs 2) + (0 : Int32)) = (xs 2) from (xadd_z _)) W0_8 (greg_at G.1.1.2.1.1.2.2) (show ((xs 3) + (0 : Int32)) = (xs 3) from (xadd_z _)) (greg_at G.1.1.2.1.2.1) (G.1.1.2.1.2.2.1) (G.1.1.2.1.2.2.2) (G.1.1.2.2.1.1) (W0_reg G.1.1.2.1.1.2.2) (G.1.1.2.2.1.2.1) (G.1.1.2.2.1.2.2) (G.1.1.2.2.2.1) (W0_reg G.1.1.2.1.2.1) (G.1.1.2.2.2.2.1) (show ((xs 2) + (1 : Int32)) = N15 from eN15) (G.1.1.2.2.2.2.2) (G.1.2.1.1.1.1) (greg_at G.1.2.1.1.1.2) (show ((xs 3) + (1 : Int32)) = N16 from eN16) (G.1.2.1.1.2.1) (G.1.2.1.1.2.2.1) (greg_at G.1.2.1.1.2.2.2) (G.1.2.1.2.1.1) (G.1.2.1.2.1.2.1) (G.1.2.1.2.1.2.2) (W0_reg G.1.2.1.1.1.2) (G.1.2.1.2.2.1) (G.1.2.1.2.2.2.1) (G.1.2.1.2.2.2.2) (W0_reg G.1.2.1.1.2.2.2) (G.1.2.2.1.1.1) (show ((xs 2) + (2 : Int32)) = N18 from eN18) (G.1.2.2.1.1.2.1) (G.1.2.2.1.1.2.2) (greg_at G.1.2.2.1.2.1) (show ((xs 3) + (2 : Int32)) = N19 from eN19) (G.1.2.2.1.2.2.1) (G.1.2.2.1.2.2.2) (greg_at G.1.2.2.2.1.1) (G.1.2.2.2.1.2.1) (G.1.2.2.2.1.2.2) (G.1.2.2.2.2.1) (W0_reg G.1.2.2.1.2.1) (G.1.2.2.2.2.2.1) (G.1.2.2.2.2.2.2) (G.2.1.1.1.1.1) (W0_reg G.1.2.2.2.1.1) (G.2.1.1.1.1.2) (show ((xs 2) + (3 : Int32)) = N21 from eN21) (G.2.1.1.1.2.1) (G.2.1.1.1.2.2.1) (greg_at G.2.1.1.1.2.2.2) (show ((xs 3) + (3 : Int32)) = N22 from eN22) (G.2.1.1.2.1.1) (G.2.1.1.2.1.2.1) (greg_at G.2.1.1.2.1.2.2) (G.2.1.1.2.2.1) (G.2.1.1.2.2.2.1) (G.2.1.1.2.2.2.2) (W0_reg G.2.1.1.1.2.2.2) (G.2.1.2.1.1.1) (G.2.1.2.1.1.2.1) (G.2.1.2.1.1.2.2) (W0_reg G.2.1.1.2.1.2.2) (G.2.1.2.1.2.1) (greg_at G.2.1.2.1.2.2.1) (G.2.1.2.1.2.2.2) (G.2.1.2.2.1.1) (G.2.1.2.2.1.2.1) (W0_reg G.2.1.2.1.2.2.1) (G.2.1.2.2.1.2.2) (G.2.1.2.2.2.1) W0_194) ?_
    refine i_287_1184 (lv2 := [(5, Value.int 0), (4, Value.int 0), (3, Value.ref 194), (2, Value.ref 128), (1, Value.ref 7), (0, Value.ref 0)]) rfl ?_
    refine i_287_1186 (x := 128) rfl ?_
    refine i_287_1187 (x := 0) rfl ?_
    refine i_287_1188 (x := 0) rfl ?_
    refine i_287_1190 ?_
    refine i_287_1191 (c := 1) (by decide) ?_
    refine i_287_1192 (v := Value.int (xs 1)) (xgn (by decide) (xgn (G.2.1.2.2.2.2.1) (xgn (by decide) (xgn (by decide) (xgn (by decide) (xgn (by decide) (xgn (by decide) (xgn (by decide) (xgn (by decide) W0_0))))))))) (by decide) (by decide) rfl ?_
    refine i_287_1193 (x := 0) rfl ?_
    refine i_287_1194 (x := 0) rfl ?_
    refine i_287_1196 ?_
    refine i_287_1197 (c := 2) (by decide) ?_
    refine i_287_1198 (v := Value.int (xs 2)) (xgn (by decide) (xgn (G.2.1.2.2.2.2.1) (xgn (by decide) (xgn (by decide) (xgn (by decide) (xgn (by decide) (xgn (by decide) (xgn (by decide) (xgn (by decide) W0_0))))))))) (by decide) (by decide) rfl ?_
    refine i_287_1199 (x := 0) rfl ?_
    refine i_287_1200 (x := 0) rfl ?_
    refine i_287_1202 ?_
    refine i_287_1203 (c := 3) (by decide) ?_
    refine i_287_1204 (v := Value.int (xs 3)) (xgn (by decide) (xgn (G.2.1.2.2.2.2.1) (xgn (by decide) (xgn (by decide) (xgn (by decide) (xgn (by decide) (xgn (by decide) (xgn (by decide) (xgn (by decide) W0_0))))))))) (by decide) (by decide) rfl ?_
    refine i_287_1205 (x := 0) rfl ?_
    refine i_287_1206 (x := 0) rfl ?_
    refine i_287_1208 ?_
    refine i_287_1209 (c := 4) (by decide) ?_
    refine i_287_1210 (v := Value.int (xs 4)) (xgn (by decide) (xgn (G.2.1.2.2.2.2.1) (xgn (by decide) (xgn (by decide) (xgn (by decide) (xgn (by decide) (xgn (by decide) (xgn (by decide) (xgn (by decide) W0_0))))))))) (by decide) (by decide) rfl ?_
    refine i_287_1211 (x := 0) rfl ?_
    refine i_287_1212 (x := 0) rfl ?_
    refine i_287_1214 ?_
    refine i_287_1215 (c := 5) (by decide) ?_
    refine i_287_1216 (v := Value.int (xs 5)) (xgn (by decide) (xgn (G.2.1.2.2.2.2.1) (xgn (by decide) (xgn (by decide) (xgn (by decide) (xgn (by decide) (xgn (by decide) (xgn (by decide) (xgn (by decide) W0_0))))))))) (by decide) (by decide) rfl ?_
    refine i_287_1217 (xgn (by decide) (xgn (G.2.1.2.2.2.2.2) (xgn (by decide) (xgn (by decide) (xgn (by decide) (xgn (by decide) (xgn (by decide) (xgn (by decide) (xgn (by decide) W0_128))))))))) (Nat.le_of_ble_eq_true rfl) (p_230_22 (xgn (by decide) (xgn (G.2.1.2.2.2.2.2) (xgn (by decide) (xgn (by decide) (xgn (by decide) (xgn (by decide) (xgn (by decide) (xgn (by decide) (xgn (by decide) W0_128))))))))) (G.1.1.1.1.1.1) (G.2.2.1.1.1.1) (G.1.1.1.1.2.1) (G.2.2.1.1.1.2.1) (G.1.1.1.2.1.2.2) (G.2.2.1.1.1.2.2) (G.1.1.1.1.2.2.2) (G.1.1.1.2.1.1) (show ((xs 2) + (xs 4)) = N6 from eN6) (G.1.1.1.2.1.2.1) (show ((xs 3) + (xs 4)) = N10 from eN10) (G.1.1.1.2.2.2.1) (G.1.1.1.2.2.2.2) (G.1.1.2.1.1.1) (G.1.1.2.1.1.2.1) (show ((xs 2) + (0 : Int32)) = (xs 2) from (xadd_z _)) (show ((xs 3) + (0 : Int32)) = (xs 3) from (xadd_z _)) (xgn (by decide) (xgn (G.2.2.1.1.2.1) (xgn (by decide) (xgn (by decide) (xgn (by decide) (xgn (by decide) (xgn (by decide) (xgn (by decide) (xgn (by decide) W0_154))))))))) (G.2.2.1.1.2.2.1) (G.2.2.1.1.2.2.2) (xgn (by decide) (xgn (G.2.2.1.2.1.1) (xgn (by decide) (xgn (by decide) (xgn (by decide) (xgn (by decide) (xgn (by decide) (xgn (by decide) (xgn (by decide) W0_156))))))))) (xgn (by decide) (xgn (G.2.2.1.2.1.2.1) (xgn (by decide) (xgn (by decide) (xgn (by decide) (xgn (by decide) (xgn (by decide) (xgn (by decide) (xgn (by decide) W0_155))))))))) (xgn (by decide) (xgn (G.2.2.1.2.1.2.2) (xgn (by decide) (xgn (by decide) (xgn (by decide) (xgn (by decide) (xgn (by decide) (xgn (by decide) (xgn (by decide) W0_153))))))))) (gprec_at G.2.2.1.2.2.1) (gprec_at G.2.2.1.2.2.2.1) (G.1.1.2.2.2.2.1) (show ((xs 2) + (1 : Int32)) = N15 from eN15) (show ((xs 3) + (1 : Int32)) = N16 from eN16) (G.1.1.2.2.2.2.2) (G.2.2.1.2.2.2.2) (G.1.2.1.1.2.1) (G.2.2.2.1.1.1) (gprec_at G.2.2.2.1.1.2.1) (gprec_at G.2.2.2.1.1.2.2) (G.1.2.2.1.1.1) (show ((xs 2) + (2 : Int32)) = N18 from eN18) (show ((xs 3) + (2 : Int32)) = N19 from eN19) (G.1.2.2.1.1.2.1) (G.2.2.2.1.2.1) (G.1.2.2.1.2.2.1) (G.2.2.2.1.2.2.1) (gprec_at G.2.2.2.1.2.2.2) (gprec_at G.2.2.2.2.1.1) (G.2.1.1.1.1.2) (show ((xs 2) + (3 : Int32)) = N21 from eN21) (show ((xs 3) + (3 : Int32)) = N22 from eN22) (G.2.1.1.1.2.1) (G.2.2.2.2.1.2.1) (G.2.1.1.2.1.1) (G.2.2.2.2.1.2.2) (gprec_at G.2.2.2.2.2.1) (gprec_at G.2.2.2.2.2.2.1) (G.2.1.2.1.2.1) (G.2.2.2.2.2.2.2)) ?_
    refine i_287_1220 (lv2 := [(6, Value.int 0), (5, Value.int 0), (4, Value.int 0), (3, Value.ref 194), (2, Value.ref 128), (1, Value.ref 7), (0, Value.ref 0)]) rfl ?_
    refine i_287_1222 (x := 128) rfl ?_
    refine i_287_1223 (xgn (by decide) (xgn (by decide) (xgs (xgn (by decide) (xgn (G.2.1.2.2.2.2.2) (xgn (by decide) (xgn (by decide) (xgn (by decide) (xgn (by decide) (xgn (by decide) (xgn (by decide) (xgn (by decide) W0_128)))))))))))) (Nat.le_of_ble_eq_true rfl) (p_165_1 (xgn (by decide) (xgn (by decide) (xgs (xgn (by decide) (xgn (G.2.1.2.2.2.2.2) (xgn (by decide) (xgn (by decide) (xgn (by decide) (xgn (by decide) (xgn (by decide) (xgn (by decide) (xgn (by decide) W0_128))))))))))))) ?_
    refine i_287_1226 (x := 0) rfl ?_
    refine i_287_1228 (fun _ => ?_) (fun h => absurd h (by decide))
    refine i_287_1233 (x := 0) rfl ?_
    refine i_287_1235 (fun h => absurd h (by decide)) (fun _ => ?_)
    refine i_287_1238 (x := 194) rfl ?_
    refine i_287_1239 ?_
    refine i_287_1240 (v := Value.long 0) (xgn (by decide) (xgn (by decide) (xgn (by decide) (xgs (xgn (G.2.1.2.2.2.1) (xgn (by decide) (xgn (by decide) (xgn (by decide) (xgn (by decide) (xgn (by decide) (xgn (by decide) (xgn (by decide) W0_194)))))))))))) (by decide) (by decide) xup_s ?_
    refine i_287_1241 (x := 0) rfl ?_
    refine i_287_1243 (c := 0) (by decide) ?_
    refine i_287_1244 (c := 0) (by decide) ?_
    refine i_287_1245 (fun _ => ?_) (fun h => absurd h (by decide))
    refine i_287_1250 ?_
    refine i_287_2154 (x := 0) (c := 6) (lv2 := [(4, Value.int 6), (6, Value.int 0), (5, Value.int 0), (3, Value.ref 194), (2, Value.ref 128), (1, Value.ref 7), (0, Value.ref 0)]) rfl (by decide) rfl ?_
    refine i_287_2157 ?_
    refine i_287_23 (x := 6) rfl ?_
    refine i_287_25 (x := 0) rfl ?_
    refine i_287_26 (c := 6) (xgn (by decide) (xgn (by decide) (xgn (by decide) (xgn (by decide) (xgn (G.2.1.2.2.2.2.1) (xgn (by decide) (xgn (by decide) (xgn (by decide) (xgn (by decide) (xgn (by decide) (xgn (by decide) (xgn (by decide) W0_0)))))))))))) (by decide) ?_
    refine i_287_27 ?_
    refine i_287_29 (c := 0) (by decide) ?_
    refine i_287_30 (fun _ => ?_) (fun h => absurd h (by decide))
    refine i_287_2160 ?_
    exact i_287_2161 rfl ⟨rfl, rfl⟩
  · refine xLs.set ?_ (xgn (by decide) (xgn (by decide) (xgn (by decide) (xgn (G.2.2.1.2.1.1) (xgn (by decide) (xgn (by decide) (xgn (by decide) (xgn (by decide) (xgn (by decide) (xgn (by decide) (xgn (by decide) W0_156))))))))))) xcs_a
    refine xLs.set ?_ (xgn (by decide) (xgn (by decide) (xgn (G.2.2.1.1.2.1) (xgn (by decide) (xgn (by decide) (xgn (by decide) (xgn (by decide) (xgn (by decide) (xgn (by decide) (xgn (by decide) W0_154)))))))))) xcs_a
    refine xLs.set ?_ (xgn (by decide) (xgn (G.2.1.2.2.2.2.2) (xgn (by decide) (xgn (by decide) (xgn (by decide) (xgn (by decide) (xgn (by decide) (xgn (by decide) (xgn (by decide) W0_128))))))))) xcs_o
    refine xLs.set ?_ (xgn (G.2.1.2.2.2.1) (xgn (by decide) (xgn (by decide) (xgn (by decide) (xgn (by decide) (xgn (by decide) (xgn (by decide) (xgn (by decide) W0_194)))))))) xcs_a
    refine xLs.set ?_ (xgn (G.2.1.2.1.2.2.2) (xgn (G.2.1.2.1.2.2.2) (xgn (G.2.1.2.1.2.2.2) (xgn (G.2.1.2.1.2.2.2) (xgn (G.2.1.2.1.2.2.2) (xgn (G.2.1.2.2.1.1) (xgn (G.2.1.2.2.1.2.1) (W0_reg G.2.1.2.1.2.2.1)))))))) xcs_o
    refine xLs.set ?_ (xgs (xgs (xgs (xgs (xgn (by decide) (xgn (by decide) W0_19)))))) xcs_o
    refine xLs.set ?_ (xgs (xgs (xgs (xgn (by decide) (xgn (by decide) W0_19))))) xcs_o
    refine xLs.set ?_ (xgs (xgs (xgn (by decide) (xgn (by decide) W0_19)))) xcs_o
    refine xLs.set ?_ (xgs (xgn (by decide) (xgn (by decide) W0_19))) xcs_o
    refine xLs.set ?_ (xgn (by decide) (xgn (by decide) W0_19)) xcs_o
    refine xLs.set ?_ (xgn (by decide) W0_22) xcs_o
    refine xLs.set ?_ (W0_20) xcs_o
    exact ⟨Nat.le_trans (Nat.le_of_eq W0_len) (by decide), Nat.le_trans (Nat.le_of_eq W0_sz) (by decide)⟩
theorem p_115_22 {d : Nat} {w : xW} {a0 : Int32} {a1 : Int32} {a2 : Int32} {a3 : Int32} {a4 : Int32} {a5 : Int32} {a6 : Int32} {g0 : Nat → Value} {h0 : Nat} {h1 : Nat} {h2 : Nat} {h3 : Nat} {a7 : Int32} {h4 : Nat} {a8 : Int32} {h5 : Nat} {h6 : Nat} {h7 : Nat} {a9 : Int32} {h8 : Nat} {a10 : Int32} {h9 : Nat} {h10 : Nat} {h11 : Nat} {h12 : Nat} {h13 : Nat} (e0 : 0 ≤ a0.toInt) (e1 : a0.toInt < 16) (e2 : 0 ≤ a1.toInt) (e3 : a1.toInt < 16) (e4 : 1 ≤ a3.toInt) (e5 : a3.toInt ≤ 16) (hg6 : (a1 + a3) = a5) (e7 : a5.toInt ≤ 16) (e8 : 0 ≤ a2.toInt) (e9 : a2.toInt < 16) (hg10 : (a2 + a3) = a6) (e11 : a6.toInt ≤ 16) (e12 : 0 ≤ a4.toInt) (e13 : a4.toInt ≤ 4) (hw14 : w[7]? = some (Sum.inr (0, [Value.ref 8, Value.ref 78, Value.ref 9, Value.ref 10, Value.ref 13, Value.ref 16, Value.ref 19, Value.ref 93, Value.ref 108, Value.ref 113, Value.ref 29, Value.int 0]))) (hw15 : w[19]? = some (Sum.inr (5, [Value.ref 20, Value.ref 22, Value.ref 24, Value.ref 26, Value.int 0, Value.int 0, Value.int 0, Value.int 0, Value.int 0, Value.int 0, Value.int 0, Value.int 0]))) (hw16 : w[20]? = some (Sum.inr (3, [Value.ref 21, Value.int 0]))) (hw17 : w[22]? = some (Sum.inr (3, [Value.ref 23, Value.int 0]))) (e18 : 0 < a3.toInt) (hg19 : (a1 + (0 : Int32)) = a1) (hw20 : w[8]? = some (Sum.inl (4, 16, g0))) (hg21 : g0 a1.toInt.toNat = Value.ref h0) (hg22 : (a2 + (0 : Int32)) = a2) (hg23 : g0 a2.toInt.toNat = Value.ref h1) (e24 : 19 ≠ h0) (e25 : 22 ≠ h0) (e26 : 20 ≠ h0) (hw27 : w[h0]? = some (Sum.inr (2, [Value.int 64, Value.int 0, Value.int 0, Value.int 0, Value.ref h2]))) (e28 : 19 ≠ h1) (e29 : 22 ≠ h1) (e30 : 20 ≠ h1) (hw31 : w[h1]? = some (Sum.inr (2, [Value.int 64, Value.int 0, Value.int 0, Value.int 0, Value.ref h3]))) (e32 : 1 < a3.toInt) (hg33 : (a1 + (1 : Int32)) = a7) (e34 : 0 ≤ a7.toInt) (e35 : a7.toInt < 16) (hg36 : g0 a7.toInt.toNat = Value.ref h4) (hg37 : (a2 + (1 : Int32)) = a8) (e38 : 0 ≤ a8.toInt) (e39 : a8.toInt < 16) (hg40 : g0 a8.toInt.toNat = Value.ref h5) (e41 : 19 ≠ h4) (e42 : 22 ≠ h4) (e43 : 20 ≠ h4) (hw44 : w[h4]? = some (Sum.inr (2, [Value.int 64, Value.int 0, Value.int 0, Value.int 0, Value.ref h6]))) (e45 : 19 ≠ h5) (e46 : 22 ≠ h5) (e47 : 20 ≠ h5) (hw48 : w[h5]? = some (Sum.inr (2, [Value.int 64, Value.int 0, Value.int 0, Value.int 0, Value.ref h7]))) (e49 : 2 < a3.toInt) (hg50 : (a1 + (2 : Int32)) = a9) (e51 : 0 ≤ a9.toInt) (e52 : a9.toInt < 16) (hg53 : g0 a9.toInt.toNat = Value.ref h8) (hg54 : (a2 + (2 : Int32)) = a10) (e55 : 0 ≤ a10.toInt) (e56 : a10.toInt < 16) (hg57 : g0 a10.toInt.toNat = Value.ref h9) (e58 : 19 ≠ h8) (e59 : 22 ≠ h8) (e60 : 20 ≠ h8) (hw61 : w[h8]? = some (Sum.inr (2, [Value.int 64, Value.int 0, Value.int 0, Value.int 0, Value.ref h10]))) (e62 : 19 ≠ h9) (e63 : 22 ≠ h9) (e64 : 20 ≠ h9) (hw65 : w[h9]? = some (Sum.inr (2, [Value.int 64, Value.int 0, Value.int 0, Value.int 0, Value.ref h11]))) (e66 : a3.toInt ≤ 3) (hg67 : g0 a0.toInt.toNat = Value.ref h12) (e68 : 19 ≠ h12) (e69 : 22 ≠ h12) (e70 : 20 ≠ h12) (hw71 : w[h12]? = some (Sum.inr (2, [Value.int 64, Value.int 0, Value.int 0, Value.int 0, Value.ref h13]))) (e72 : 7 ≤ h12) : xRun (d + 3) 115 [Value.ref 7, Value.int a0, Value.int a1, Value.int a2, Value.int a3, Value.int a4] w (.inl (some (Value.int 0))) (((((((w.set 20 (Sum.inr (3, [Value.ref 21, Value.int 0]))).set 22 (Sum.inr (3, [Value.ref 23, Value.int 0]))).set 19 (Sum.inr (5, [Value.ref 20, Value.ref 22, Value.ref 24, Value.ref 26, Value.int 0, Value.int 0, Value.int 0, Value.int 0, Value.int 0, Value.int 0, Value.int 0, Value.int 0]))).set 19 (Sum.inr (5, [Value.ref 20, Value.ref 22, Value.ref 24, Value.ref 26, Value.int 0, Value.int 1, Value.int 0, Value.int 0, Value.int 0, Value.int 0, Value.int 0, Value.int 0]))).set 19 (Sum.inr (5, [Value.ref 20, Value.ref 22, Value.ref 24, Value.ref 26, Value.int 0, Value.int 1, Value.int 0, Value.int 0, Value.int 0, Value.int 0, Value.int 0, Value.int 0]))).set 19 (Sum.inr (5, [Value.ref 20, Value.ref 22, Value.ref 24, Value.ref 26, Value.int 0, Value.int 1, Value.int 0, Value.int 0, Value.int 0, Value.int 0, Value.int 0, Value.int 0]))).set h12 (Sum.inr (2, [Value.int 64, Value.int 0, Value.int 0, Value.int 0, Value.ref h13]))) := by
  refine xRun.of ?_
  refine i_115_0 (x := a0) rfl ?_
  refine i_115_1 (Nat.le_of_ble_eq_true rfl) (p_15_1 e0 e1) ?_
  refine i_115_4 (fun h => absurd h (by decide)) (fun _ => ?_)
  refine i_115_7 (x := a1) rfl ?_
  refine i_115_8 (x := a3) rfl ?_
  refine i_115_10 (Nat.le_of_ble_eq_true rfl) (p_113_4 e2 e3 e4 e5 hg6 e7) ?_
  refine i_115_13 (fun h => absurd h (by decide)) (fun _ => ?_)
  refine i_115_16 (x := a2) rfl ?_
  refine i_115_17 (x := a3) rfl ?_
  refine i_115_19 (Nat.le_of_ble_eq_true rfl) (p_113_4 e8 e9 e4 e5 hg10 e11) ?_
  refine i_115_22 (fun h => absurd h (by decide)) (fun _ => ?_)
  refine i_115_25 (x := a4) rfl ?_
  refine i_115_27 (Nat.le_of_ble_eq_true rfl) (p_22_2 e12 e13) ?_
  refine i_115_30 (fun _ => ?_) (fun h => absurd h (by decide))
  refine i_115_41 (x := 7) rfl ?_
  refine i_115_42 (v := Value.ref 19) hw14 rfl ?_
  refine i_115_45 hw15 (Nat.le_of_ble_eq_true rfl) (p_59_0 hw15 hw16 hw17) ?_
  refine i_115_48 ?_
  refine i_115_49 (lv2 := [(6, Value.int 0), (0, Value.ref 7), (1, Value.int a0), (2, Value.int a1), (3, Value.int a2), (4, Value.int a3), (5, Value.int a4)]) rfl ?_
  refine i_115_51 (x := 0) rfl ?_
  refine i_115_53 (x := a3) rfl ?_
  refine i_115_55 (fun h => absurd e18 (Int.not_lt.mpr h)) (fun _ => ?_)
  refine i_115_58 (x := 7) rfl ?_
  refine i_115_59 (v := Value.ref 19) (xgn (by decide) (xgn (by decide) (xgn (by decide) hw14))) rfl ?_
  refine i_115_62 (x := 7) rfl ?_
  refine i_115_63 (v := Value.ref 8) (xgn (by decide) (xgn (by decide) (xgn (by decide) hw14))) rfl ?_
  refine i_115_66 (x := a1) rfl ?_
  refine i_115_67 (x := 0) rfl ?_
  refine i_115_69 (c := a1) hg19 ?_
  refine i_115_70 (v := Value.ref h0) (xgn (by decide) (xgn (by decide) (xgn (by decide) hw20))) e2 e3 hg21 ?_
  refine i_115_71 (x := 7) rfl ?_
  refine i_115_72 (v := Value.ref 8) (xgn (by decide) (xgn (by decide) (xgn (by decide) hw14))) rfl ?_
  refine i_115_75 (x := a2) rfl ?_
  refine i_115_76 (x := 0) rfl ?_
  refine i_115_78 (c := a2) hg22 ?_
  refine i_115_79 (v := Value.ref h1) (xgn (by decide) (xgn (by decide) (xgn (by decide) hw20))) e8 e9 hg23 ?_
  refine i_115_80 (xgs (xgn (by decide) (xgn (by decide) hw15))) (Nat.le_of_ble_eq_true rfl) (p_96_0 (xgn e24 (xgn e25 (xgn e26 hw27))) (xgn e28 (xgn e29 (xgn e30 hw31))) (xgs (xgn (by decide) (xgn (by decide) hw15)))) ?_
  refine i_115_83 (x := 0) (c := 1) (lv2 := [(6, Value.int 1), (0, Value.ref 7), (1, Value.int a0), (2, Value.int a1), (3, Value.int a2), (4, Value.int a3), (5, Value.int a4)]) rfl (by decide) rfl ?_
  refine i_115_86 ?_
  refine i_115_51 (x := 1) rfl ?_
  refine i_115_53 (x := a3) rfl ?_
  refine i_115_55 (fun h => absurd e32 (Int.not_lt.mpr h)) (fun _ => ?_)
  refine i_115_58 (x := 7) rfl ?_
  refine i_115_59 (v := Value.ref 19) (xgn (by decide) (xgn (by decide) (xgn (by decide) (xgn (by decide) hw14)))) rfl ?_
  refine i_115_62 (x := 7) rfl ?_
  refine i_115_63 (v := Value.ref 8) (xgn (by decide) (xgn (by decide) (xgn (by decide) (xgn (by decide) hw14)))) rfl ?_
  refine i_115_66 (x := a1) rfl ?_
  refine i_115_67 (x := 1) rfl ?_
  refine i_115_69 (c := a7) hg33 ?_
  refine i_115_70 (v := Value.ref h4) (xgn (by decide) (xgn (by decide) (xgn (by decide) (xgn (by decide) hw20)))) e34 e35 hg36 ?_
  refine i_115_71 (x := 7) rfl ?_
  refine i_115_72 (v := Value.ref 8) (xgn (by decide) (xgn (by decide) (xgn (by decide) (xgn (by decide) hw14)))) rfl ?_
  refine i_115_75 (x := a2) rfl ?_
  refine i_115_76 (x := 1) rfl ?_
  refine i_115_78 (c := a8) hg37 ?_
  refine i_115_79 (v := Value.ref h5) (xgn (by decide) (xgn (by decide) (xgn (by decide) (xgn (by decide) hw20)))) e38 e39 hg40 ?_
  refine i_115_80 (xgs (xgs (xgn (by decide) (xgn (by decide) hw15)))) (Nat.le_of_ble_eq_true rfl) (p_96_1 (xgn e41 (xgn e41 (xgn e42 (xgn e43 hw44)))) (xgn e45 (xgn e45 (xgn e46 (xgn e47 hw48)))) (xgs (xgs (xgn (by decide) (xgn (by decide) hw15))))) ?_
  refine i_115_83 (x := 1) (c := 2) (lv2 := [(6, Value.int 2), (0, Value.ref 7), (1, Value.int a0), (2, Value.int a1), (3, Value.int a2), (4, Value.int a3), (5, Value.int a4)]) rfl (by decide) rfl ?_
  refine i_115_86 ?_
  refine i_115_51 (x := 2) rfl ?_
  refine i_115_53 (x := a3) rfl ?_
  refine i_115_55 (fun h => absurd e49 (Int.not_lt.mpr h)) (fun _ => ?_)
  refine i_115_58 (x := 7) rfl ?_
  refine i_115_59 (v := Value.ref 19) (xgn (by decide) (xgn (by decide) (xgn (by decide) (xgn (by decide) (xgn (by decide) hw14))))) rfl ?_
  refine i_115_62 (x := 7) rfl ?_
  refine i_115_63 (v := Value.ref 8) (xgn (by decide) (xgn (by decide) (xgn (by decide) (xgn (by decide) (xgn (by decide) hw14))))) rfl ?_
  refine i_115_66 (x := a1) rfl ?_
  refine i_115_67 (x := 2) rfl ?_
  refine i_115_69 (c := a9) hg50 ?_
  refine i_115_70 (v := Value.ref h8) (xgn (by decide) (xgn (by decide) (xgn (by decide) (xgn (by decide) (xgn (by decide) hw20))))) e51 e52 hg53 ?_
  refine i_115_71 (x := 7) rfl ?_
  refine i_115_72 (v := Value.ref 8) (xgn (by decide) (xgn (by decide) (xgn (by decide) (xgn (by decide) (xgn (by decide) hw14))))) rfl ?_
  refine i_115_75 (x := a2) rfl ?_
  refine i_115_76 (x := 2) rfl ?_
  refine i_115_78 (c := a10) hg54 ?_
  refine i_115_79 (v := Value.ref h9) (xgn (by decide) (xgn (by decide) (xgn (by decide) (xgn (by decide) (xgn (by decide) hw20))))) e55 e56 hg57 ?_
  refine i_115_80 (xgs (xgs (xgs (xgn (by decide) (xgn (by decide) hw15))))) (Nat.le_of_ble_eq_true rfl) (p_96_1 (xgn e58 (xgn e58 (xgn e58 (xgn e59 (xgn e60 hw61))))) (xgn e62 (xgn e62 (xgn e62 (xgn e63 (xgn e64 hw65))))) (xgs (xgs (xgs (xgn (by decide) (xgn (by decide) hw15)))))) ?_
  refine i_115_83 (x := 2) (c := 3) (lv2 := [(6, Value.int 3), (0, Value.ref 7), (1, Value.int a0), (2, Value.int a1), (3, Value.int a2), (4, Value.int a3), (5, Value.int a4)]) rfl (by decide) rfl ?_
  refine i_115_86 ?_
  refine i_115_51 (x := 3) rfl ?_
  refine i_115_53 (x := a3) rfl ?_
  refine i_115_55 (fun _ => ?_) (fun h => absurd e66 (Int.not_le.mpr h))
  refine i_115_89 (x := 7) rfl ?_
  refine i_115_90 (v := Value.ref 19) (xgn (by decide) (xgn (by decide) (xgn (by decide) (xgn (by decide) (xgn (by decide) (xgn (by decide) hw14)))))) rfl ?_
  refine i_115_93 (x := 7) rfl ?_
  refine i_115_94 (v := Value.ref 78) (xgn (by decide) (xgn (by decide) (xgn (by decide) (xgn (by decide) (xgn (by decide) (xgn (by decide) hw14)))))) rfl ?_
  refine i_115_97 (x := 7) rfl ?_
  refine i_115_98 (v := Value.ref 8) (xgn (by decide) (xgn (by decide) (xgn (by decide) (xgn (by decide) (xgn (by decide) (xgn (by decide) hw14)))))) rfl ?_
  refine i_115_101 (x := a0) rfl ?_
  refine i_115_102 (v := Value.ref h12) (xgn (by decide) (xgn (by decide) (xgn (by decide) (xgn (by decide) (xgn (by decide) (xgn (by decide) hw20)))))) e0 e1 hg67 ?_
  refine i_115_103 (x := a4) rfl ?_
  refine i_115_105 (xgs (xgs (xgs (xgs (xgn (by decide) (xgn (by decide) hw15)))))) (Nat.le_of_ble_eq_true rfl) (p_64_0 (xgs (xgs (xgs (xgs (xgn (by decide) (xgn (by decide) hw15)))))) (xgn e68 (xgn e68 (xgn e68 (xgn e68 (xgn e69 (xgn e70 hw71)))))) e72) ?_
  exact i_115_108 ⟨rfl, rfl⟩
theorem p_114_22 {d : Nat} {w : xW} {a0 : Int32} {a1 : Int32} {a2 : Int32} {a3 : Int32} {a4 : Int32} {a5 : Int32} {a6 : Int32} {g0 : Nat → Value} {h0 : Nat} {h1 : Nat} {h2 : Nat} {h3 : Nat} {a7 : Int32} {h4 : Nat} {a8 : Int32} {h5 : Nat} {h6 : Nat} {h7 : Nat} {a9 : Int32} {h8 : Nat} {a10 : Int32} {h9 : Nat} {h10 : Nat} {h11 : Nat} {h12 : Nat} {h13 : Nat} (hw0 : w[7]? = some (Sum.inr (0, [Value.ref 8, Value.ref 78, Value.ref 9, Value.ref 10, Value.ref 13, Value.ref 16, Value.ref 19, Value.ref 93, Value.ref 108, Value.ref 113, Value.ref 29, Value.int 0]))) (e1 : 0 ≤ a0.toInt) (e2 : a0.toInt < 16) (e3 : 0 ≤ a1.toInt) (e4 : a1.toInt < 16) (e5 : 1 ≤ a3.toInt) (e6 : a3.toInt ≤ 16) (hg7 : (a1 + a3) = a5) (e8 : a5.toInt ≤ 16) (e9 : 0 ≤ a2.toInt) (e10 : a2.toInt < 16) (hg11 : (a2 + a3) = a6) (e12 : a6.toInt ≤ 16) (e13 : 0 ≤ a4.toInt) (e14 : a4.toInt ≤ 4) (hw15 : w[19]? = some (Sum.inr (5, [Value.ref 20, Value.ref 22, Value.ref 24, Value.ref 26, Value.int 0, Value.int 0, Value.int 0, Value.int 0, Value.int 0, Value.int 0, Value.int 0, Value.int 0]))) (hw16 : w[20]? = some (Sum.inr (3, [Value.ref 21, Value.int 0]))) (hw17 : w[22]? = some (Sum.inr (3, [Value.ref 23, Value.int 0]))) (e18 : 0 < a3.toInt) (hg19 : (a1 + (0 : Int32)) = a1) (hw20 : w[8]? = some (Sum.inl (4, 16, g0))) (hg21 : g0 a1.toInt.toNat = Value.ref h0) (hg22 : (a2 + (0 : Int32)) = a2) (hg23 : g0 a2.toInt.toNat = Value.ref h1) (e24 : 19 ≠ h0) (e25 : 22 ≠ h0) (e26 : 20 ≠ h0) (hw27 : w[h0]? = some (Sum.inr (2, [Value.int 64, Value.int 0, Value.int 0, Value.int 0, Value.ref h2]))) (e28 : 19 ≠ h1) (e29 : 22 ≠ h1) (e30 : 20 ≠ h1) (hw31 : w[h1]? = some (Sum.inr (2, [Value.int 64, Value.int 0, Value.int 0, Value.int 0, Value.ref h3]))) (e32 : 1 < a3.toInt) (hg33 : (a1 + (1 : Int32)) = a7) (e34 : 0 ≤ a7.toInt) (e35 : a7.toInt < 16) (hg36 : g0 a7.toInt.toNat = Value.ref h4) (hg37 : (a2 + (1 : Int32)) = a8) (e38 : 0 ≤ a8.toInt) (e39 : a8.toInt < 16) (hg40 : g0 a8.toInt.toNat = Value.ref h5) (e41 : 19 ≠ h4) (e42 : 22 ≠ h4) (e43 : 20 ≠ h4) (hw44 : w[h4]? = some (Sum.inr (2, [Value.int 64, Value.int 0, Value.int 0, Value.int 0, Value.ref h6]))) (e45 : 19 ≠ h5) (e46 : 22 ≠ h5) (e47 : 20 ≠ h5) (hw48 : w[h5]? = some (Sum.inr (2, [Value.int 64, Value.int 0, Value.int 0, Value.int 0, Value.ref h7]))) (e49 : 2 < a3.toInt) (hg50 : (a1 + (2 : Int32)) = a9) (e51 : 0 ≤ a9.toInt) (e52 : a9.toInt < 16) (hg53 : g0 a9.toInt.toNat = Value.ref h8) (hg54 : (a2 + (2 : Int32)) = a10) (e55 : 0 ≤ a10.toInt) (e56 : a10.toInt < 16) (hg57 : g0 a10.toInt.toNat = Value.ref h9) (e58 : 19 ≠ h8) (e59 : 22 ≠ h8) (e60 : 20 ≠ h8) (hw61 : w[h8]? = some (Sum.inr (2, [Value.int 64, Value.int 0, Value.int 0, Value.int 0, Value.ref h10]))) (e62 : 19 ≠ h9) (e63 : 22 ≠ h9) (e64 : 20 ≠ h9) (hw65 : w[h9]? = some (Sum.inr (2, [Value.int 64, Value.int 0, Value.int 0, Value.int 0, Value.ref h11]))) (e66 : a3.toInt ≤ 3) (hg67 : g0 a0.toInt.toNat = Value.ref h12) (e68 : 19 ≠ h12) (e69 : 22 ≠ h12) (e70 : 20 ≠ h12) (hw71 : w[h12]? = some (Sum.inr (2, [Value.int 64, Value.int 0, Value.int 0, Value.int 0, Value.ref h13]))) (e72 : 7 ≤ h12) (e73 : h12 ≠ 194) (hw74 : w[194]? = some (Sum.inl (3, 1, fun _ => Value.long 0))) : xRun (d + 4) 114 [Value.ref 7, Value.int a0, Value.int a1, Value.int a2, Value.int a3, Value.int a4, Value.ref 194] w (.inl (some (Value.int 0))) ((((((((w.set 20 (Sum.inr (3, [Value.ref 21, Value.int 0]))).set 22 (Sum.inr (3, [Value.ref 23, Value.int 0]))).set 19 (Sum.inr (5, [Value.ref 20, Value.ref 22, Value.ref 24, Value.ref 26, Value.int 0, Value.int 0, Value.int 0, Value.int 0, Value.int 0, Value.int 0, Value.int 0, Value.int 0]))).set 19 (Sum.inr (5, [Value.ref 20, Value.ref 22, Value.ref 24, Value.ref 26, Value.int 0, Value.int 1, Value.int 0, Value.int 0, Value.int 0, Value.int 0, Value.int 0, Value.int 0]))).set 19 (Sum.inr (5, [Value.ref 20, Value.ref 22, Value.ref 24, Value.ref 26, Value.int 0, Value.int 1, Value.int 0, Value.int 0, Value.int 0, Value.int 0, Value.int 0, Value.int 0]))).set 19 (Sum.inr (5, [Value.ref 20, Value.ref 22, Value.ref 24, Value.ref 26, Value.int 0, Value.int 1, Value.int 0, Value.int 0, Value.int 0, Value.int 0, Value.int 0, Value.int 0]))).set h12 (Sum.inr (2, [Value.int 64, Value.int 0, Value.int 0, Value.int 0, Value.ref h13]))).set 194 (Sum.inl (3, 1, xup (fun _ => Value.long 0) (0 : Int32).toInt.toNat (Value.long 0)))) := by
  refine xRun.of ?_
  refine i_114_0 (x := 194) rfl ?_
  refine i_114_2 ?_
  refine i_114_3 (x := 7) rfl ?_
  refine i_114_4 (x := a0) rfl ?_
  refine i_114_5 (x := a1) rfl ?_
  refine i_114_6 (x := a2) rfl ?_
  refine i_114_7 (x := a3) rfl ?_
  refine i_114_9 (x := a4) rfl ?_
  refine i_114_11 hw0 (Nat.le_of_ble_eq_true rfl) (p_115_22 e1 e2 e3 e4 e5 e6 hg7 e8 e9 e10 hg11 e12 e13 e14 hw0 hw15 hw16 hw17 e18 hg19 hw20 hg21 hg22 hg23 e24 e25 e26 hw27 e28 e29 e30 hw31 e32 hg33 e34 e35 hg36 hg37 e38 e39 hg40 e41 e42 e43 hw44 e45 e46 e47 hw48 e49 hg50 e51 e52 hg53 hg54 e55 e56 hg57 e58 e59 e60 hw61 e62 e63 e64 hw65 e66 hg67 e68 e69 e70 hw71 e72) ?_
  refine i_114_14 (c := 0) (by decide) ?_
  refine i_114_15 (v := Value.long 0) (xgn e73 (xgn (by decide) (xgn (by decide) (xgn (by decide) (xgn (by decide) (xgn (by decide) (xgn (by decide) hw74))))))) (by decide) (by decide) (by decide) rfl ?_
  refine i_114_16 ?_
  refine i_114_23 ?_
  exact i_114_24 ⟨rfl, rfl⟩
theorem p_231_23 {d : Nat} {w : xW} {a0 : Int32} {a1 : Int32} {a2 : Int32} {a3 : Int32} {a4 : Int32} {a5 : Int32} {a6 : Int32} {g0 : Nat → Value} {a7 : Int32} {a8 : Int32} {a9 : Int32} {a10 : Int32} (e0 : 0 ≤ a0.toInt) (e1 : a0.toInt ≤ 15) (e2 : 0 ≤ a1.toInt) (e3 : a1.toInt ≤ 15) (e4 : 0 ≤ a2.toInt) (e5 : a2.toInt ≤ 15) (e6 : 1 ≤ a3.toInt) (e7 : a3.toInt ≤ 16) (hg8 : (a1 + a3) = a5) (e9 : a5.toInt ≤ 16) (hg10 : (a2 + a3) = a6) (e11 : a6.toInt ≤ 16) (e12 : 0 ≤ a4.toInt) (e13 : a4.toInt ≤ 4) (e14 : 0 < a3.toInt) (hg15 : (a1 + (0 : Int32)) = a1) (hg16 : (a2 + (0 : Int32)) = a2) (hw17 : w[128]? = some (Sum.inr (12, [Value.ref 129, Value.ref 131, Value.ref 133, Value.ref 135, Value.ref 137, Value.ref 139, Value.ref 141, Value.ref 143, Value.ref 145, Value.ref 147, Value.ref 149, Value.ref 151, Value.ref 153, Value.ref 154, Value.ref 155, Value.ref 156, Value.ref 157, Value.int (-16384), Value.int 16384, Value.int 0, Value.int 0, Value.int 0, Value.ref 158, Value.ref 159, Value.int 0, Value.int 0, Value.int 0, Value.int 0, Value.int 0, Value.int 0, Value.int 0, Value.int 0]))) (hw18 : w[154]? = some (Sum.inl (0, 17, fun _ => Value.int 0))) (e19 : a1.toInt < 17) (e20 : a2.toInt < 17) (hw21 : w[156]? = some (Sum.inl (2, 17, fun _ => Value.int 0))) (hw22 : w[155]? = some (Sum.inl (0, 17, fun _ => Value.int 0))) (hw23 : w[153]? = some (Sum.inl (0, 17, g0))) (hg24 : g0 a1.toInt.toNat = Value.int 64) (hg25 : g0 a2.toInt.toNat = Value.int 64) (e26 : 1 < a3.toInt) (hg27 : (a1 + (1 : Int32)) = a7) (hg28 : (a2 + (1 : Int32)) = a8) (e29 : 0 ≤ a7.toInt) (e30 : a7.toInt < 17) (e31 : 0 ≤ a8.toInt) (e32 : a8.toInt < 17) (hg33 : g0 a7.toInt.toNat = Value.int 64) (hg34 : g0 a8.toInt.toNat = Value.int 64) (e35 : 2 < a3.toInt) (hg36 : (a1 + (2 : Int32)) = a9) (hg37 : (a2 + (2 : Int32)) = a10) (e38 : 0 ≤ a9.toInt) (e39 : a9.toInt < 17) (e40 : 0 ≤ a10.toInt) (e41 : a10.toInt < 17) (hg42 : g0 a9.toInt.toNat = Value.int 64) (hg43 : g0 a10.toInt.toNat = Value.int 64) (e44 : a3.toInt ≤ 3) (e45 : a0.toInt < 17) : xRun (d + 2) 231 [Value.ref 128, Value.int a0, Value.int a1, Value.int a2, Value.int a3, Value.int a4] w (.inl (some (Value.int 0))) ((w.set 154 (Sum.inl (0, 17, xup (fun _ => Value.int 0) a0.toInt.toNat (Value.int 0)))).set 156 (Sum.inl (2, 17, xup (fun _ => Value.int 0) a0.toInt.toNat (Value.int 0)))) := by
  refine xRun.of ?_
  refine i_231_0 (x := a0) rfl ?_
  refine i_231_1 (Nat.le_of_ble_eq_true rfl) (p_168_1 e0 e1) ?_
  refine i_231_4 (x := a1) rfl ?_
  refine i_231_5 (Nat.le_of_ble_eq_true rfl) (p_168_1 e2 e3) ?_
  refine i_231_8 (x := a2) rfl ?_
  refine i_231_9 (Nat.le_of_ble_eq_true rfl) (p_168_1 e4 e5) ?_
  refine i_231_12 (x := a3) rfl ?_
  refine i_231_14 ?_
  refine i_231_15 ?_
  refine i_231_17 (Nat.le_of_ble_eq_true rfl) (p_169_44 e6 e7) ?_
  refine i_231_20 (fun h => absurd h (by decide)) (fun _ => ?_)
  refine i_231_23 (x := a1) rfl ?_
  refine i_231_24 (x := a3) rfl ?_
  refine i_231_26 (c := a5) hg8 ?_
  refine i_231_27 ?_
  refine i_231_29 (fun h => absurd e9 (Int.not_le.mpr h)) (fun _ => ?_)
  refine i_231_32 (x := a2) rfl ?_
  refine i_231_33 (x := a3) rfl ?_
  refine i_231_35 (c := a6) hg10 ?_
  refine i_231_36 ?_
  refine i_231_38 (fun h => absurd e11 (Int.not_le.mpr h)) (fun _ => ?_)
  refine i_231_41 ?_
  refine i_231_42 ?_
  refine i_231_46 (Nat.le_of_ble_eq_true rfl) (p_170_1) ?_
  refine i_231_49 (x := a4) rfl ?_
  refine i_231_51 (Nat.le_of_ble_eq_true rfl) (p_178_2 e12 e13) ?_
  refine i_231_54 ?_
  refine i_231_57 (lv2 := [(6, Value.int 2147483647), (0, Value.ref 128), (1, Value.int a0), (2, Value.int a1), (3, Value.int a2), (4, Value.int a3), (5, Value.int a4)]) rfl ?_
  refine i_231_59 ?_
  refine i_231_60 (lv2 := [(7, Value.int 0), (6, Value.int 2147483647), (0, Value.ref 128), (1, Value.int a0), (2, Value.int a1), (3, Value.int a2), (4, Value.int a3), (5, Value.int a4)]) rfl ?_
  refine i_231_62 ?_
  refine i_231_63 (lv2 := [(8, Value.int 0), (7, Value.int 0), (6, Value.int 2147483647), (0, Value.ref 128), (1, Value.int a0), (2, Value.int a1), (3, Value.int a2), (4, Value.int a3), (5, Value.int a4)]) rfl ?_
  refine i_231_65 ?_
  refine i_231_66 (lv2 := [(9, Value.int 0), (8, Value.int 0), (7, Value.int 0), (6, Value.int 2147483647), (0, Value.ref 128), (1, Value.int a0), (2, Value.int a1), (3, Value.int a2), (4, Value.int a3), (5, Value.int a4)]) rfl ?_
  refine i_231_68 ?_
  refine i_231_69 (lv2 := [(10, Value.int 0), (9, Value.int 0), (8, Value.int 0), (7, Value.int 0), (6, Value.int 2147483647), (0, Value.ref 128), (1, Value.int a0), (2, Value.int a1), (3, Value.int a2), (4, Value.int a3), (5, Value.int a4)]) rfl ?_
  refine i_231_71 ?_
  refine i_231_72 (lv2 := [(11, Value.int 0), (10, Value.int 0), (9, Value.int 0), (8, Value.int 0), (7, Value.int 0), (6, Value.int 2147483647), (0, Value.ref 128), (1, Value.int a0), (2, Value.int a1), (3, Value.int a2), (4, Value.int a3), (5, Value.int a4)]) rfl ?_
  refine i_231_74 (x := 0) rfl ?_
  refine i_231_76 (x := a3) rfl ?_
  refine i_231_78 (fun h => absurd e14 (Int.not_lt.mpr h)) (fun _ => ?_)
  refine i_231_81 (x := a1) rfl ?_
  refine i_231_82 (x := 0) rfl ?_
  refine i_231_84 (c := a1) hg15 ?_
  refine i_231_85 (lv2 := [(12, Value.int a1), (11, Value.int 0), (10, Value.int 0), (9, Value.int 0), (8, Value.int 0), (7, Value.int 0), (6, Value.int 2147483647), (0, Value.ref 128), (1, Value.int a0), (2, Value.int a1), (3, Value.int a2), (4, Value.int a3), (5, Value.int a4)]) rfl ?_
  refine i_231_87 (x := a2) rfl ?_
  refine i_231_88 (x := 0) rfl ?_
  refine i_231_90 (c := a2) hg16 ?_
  refine i_231_91 (lv2 := [(13, Value.int a2), (12, Value.int a1), (11, Value.int 0), (10, Value.int 0), (9, Value.int 0), (8, Value.int 0), (7, Value.int 0), (6, Value.int 2147483647), (0, Value.ref 128), (1, Value.int a0), (2, Value.int a1), (3, Value.int a2), (4, Value.int a3), (5, Value.int a4)]) rfl ?_
  refine i_231_93 (x := 0) rfl ?_
  refine i_231_95 (x := 128) rfl ?_
  refine i_231_96 (v := Value.ref 154) hw17 rfl ?_
  refine i_231_99 (x := a1) rfl ?_
  refine i_231_101 (v := Value.int 0) hw18 e2 e19 rfl ?_
  refine i_231_102 (fun _ => ?_) (fun h => absurd h (by decide))
  refine i_231_115 ?_
  refine i_231_116 ?_
  refine i_231_120 (c := 1) (by decide) ?_
  refine i_231_121 (lv2 := [(9, Value.int 1), (13, Value.int a2), (12, Value.int a1), (11, Value.int 0), (10, Value.int 0), (8, Value.int 0), (7, Value.int 0), (6, Value.int 2147483647), (0, Value.ref 128), (1, Value.int a0), (2, Value.int a1), (3, Value.int a2), (4, Value.int a3), (5, Value.int a4)]) rfl ?_
  refine i_231_123 (x := 128) rfl ?_
  refine i_231_124 (v := Value.ref 154) hw17 rfl ?_
  refine i_231_127 (x := a1) rfl ?_
  refine i_231_129 (v := Value.int 0) hw18 e2 e19 rfl ?_
  refine i_231_130 ?_
  refine i_231_131 (fun h => absurd h (by decide)) (fun _ => ?_)
  refine i_231_134 (x := 128) rfl ?_
  refine i_231_135 (v := Value.ref 154) hw17 rfl ?_
  refine i_231_138 (x := a2) rfl ?_
  refine i_231_140 (v := Value.int 0) hw18 e4 e20 rfl ?_
  refine i_231_141 ?_
  refine i_231_142 (fun _ => ?_) (fun h => absurd h (by decide))
  refine i_231_149 ?_
  refine i_231_150 (lv2 := [(14, Value.int 0), (9, Value.int 1), (13, Value.int a2), (12, Value.int a1), (11, Value.int 0), (10, Value.int 0), (8, Value.int 0), (7, Value.int 0), (6, Value.int 2147483647), (0, Value.ref 128), (1, Value.int a0), (2, Value.int a1), (3, Value.int a2), (4, Value.int a3), (5, Value.int a4)]) rfl ?_
  refine i_231_152 (x := 128) rfl ?_
  refine i_231_153 (v := Value.ref 154) hw17 rfl ?_
  refine i_231_156 (x := a1) rfl ?_
  refine i_231_158 (v := Value.int 0) hw18 e2 e19 rfl ?_
  refine i_231_159 ?_
  refine i_231_160 (fun h => absurd h (by decide)) (fun _ => ?_)
  refine i_231_163 (x := 128) rfl ?_
  refine i_231_164 (v := Value.ref 154) hw17 rfl ?_
  refine i_231_167 (x := a2) rfl ?_
  refine i_231_169 (v := Value.int 0) hw18 e4 e20 rfl ?_
  refine i_231_170 ?_
  refine i_231_171 (fun _ => ?_) (fun h => absurd h (by decide))
  refine i_231_178 ?_
  refine i_231_179 (lv2 := [(15, Value.int 0), (14, Value.int 0), (9, Value.int 1), (13, Value.int a2), (12, Value.int a1), (11, Value.int 0), (10, Value.int 0), (8, Value.int 0), (7, Value.int 0), (6, Value.int 2147483647), (0, Value.ref 128), (1, Value.int a0), (2, Value.int a1), (3, Value.int a2), (4, Value.int a3), (5, Value.int a4)]) rfl ?_
  refine i_231_181 (x := 128) rfl ?_
  refine i_231_182 (v := Value.ref 156) hw17 rfl ?_
  refine i_231_185 (x := a1) rfl ?_
  refine i_231_187z (v := Value.int 0) hw21 e2 e19 rfl ?_
  refine i_231_188 (x := 128) rfl ?_
  refine i_231_189 (v := Value.ref 156) hw17 rfl ?_
  refine i_231_192 (x := a2) rfl ?_
  refine i_231_194z (v := Value.int 0) hw21 e4 e20 rfl ?_
  refine i_231_195 (fun _ => ?_) (fun h => absurd h (by decide))
  refine i_231_202 ?_
  refine i_231_203 (lv2 := [(16, Value.int 0), (15, Value.int 0), (14, Value.int 0), (9, Value.int 1), (13, Value.int a2), (12, Value.int a1), (11, Value.int 0), (10, Value.int 0), (8, Value.int 0), (7, Value.int 0), (6, Value.int 2147483647), (0, Value.ref 128), (1, Value.int a0), (2, Value.int a1), (3, Value.int a2), (4, Value.int a3), (5, Value.int a4)]) rfl ?_
  refine i_231_205 (x := 0) rfl ?_
  refine i_231_207 (x := 0) rfl ?_
  refine i_231_209 (fun _ => ?_) (fun h => absurd h (by decide))
  refine i_231_221 ?_
  refine i_231_222 (c := 0) (by decide) ?_
  refine i_231_223 (lv2 := [(10, Value.int 0), (16, Value.int 0), (15, Value.int 0), (14, Value.int 0), (9, Value.int 1), (13, Value.int a2), (12, Value.int a1), (11, Value.int 0), (8, Value.int 0), (7, Value.int 0), (6, Value.int 2147483647), (0, Value.ref 128), (1, Value.int a0), (2, Value.int a1), (3, Value.int a2), (4, Value.int a3), (5, Value.int a4)]) rfl ?_
  refine i_231_225 (x := 0) rfl ?_
  refine i_231_227 (x := 0) rfl ?_
  refine i_231_229 (fun _ => ?_) (fun h => absurd h (by decide))
  refine i_231_241 ?_
  refine i_231_242 (c := 0) (by decide) ?_
  refine i_231_243 (lv2 := [(7, Value.int 0), (10, Value.int 0), (16, Value.int 0), (15, Value.int 0), (14, Value.int 0), (9, Value.int 1), (13, Value.int a2), (12, Value.int a1), (11, Value.int 0), (8, Value.int 0), (6, Value.int 2147483647), (0, Value.ref 128), (1, Value.int a0), (2, Value.int a1), (3, Value.int a2), (4, Value.int a3), (5, Value.int a4)]) rfl ?_
  refine i_231_245 (x := 0) rfl ?_
  refine i_231_247 (x := 0) rfl ?_
  refine i_231_249 (fun _ => ?_) (fun h => absurd h (by decide))
  refine i_231_261 ?_
  refine i_231_262 (c := 0) (by decide) ?_
  refine i_231_263 (lv2 := [(8, Value.int 0), (7, Value.int 0), (10, Value.int 0), (16, Value.int 0), (15, Value.int 0), (14, Value.int 0), (9, Value.int 1), (13, Value.int a2), (12, Value.int a1), (11, Value.int 0), (6, Value.int 2147483647), (0, Value.ref 128), (1, Value.int a0), (2, Value.int a1), (3, Value.int a2), (4, Value.int a3), (5, Value.int a4)]) rfl ?_
  refine i_231_265 (x := 0) rfl ?_
  refine i_231_267 (fun h => absurd h (by decide)) (fun _ => ?_)
  refine i_231_270 (x := 0) rfl ?_
  refine i_231_272 (fun h => absurd h (by decide)) (fun _ => ?_)
  refine i_231_275 (x := 2147483647) rfl ?_
  refine i_231_277 (x := 128) rfl ?_
  refine i_231_278 (x := a1) rfl ?_
  refine i_231_280 hw17 (Nat.le_of_ble_eq_true rfl) (p_196_0 hw17 hw22 e2 e19 hw23 hg24) ?_
  refine i_231_283 (x := 128) rfl ?_
  refine i_231_284 (x := a2) rfl ?_
  refine i_231_286 hw17 (Nat.le_of_ble_eq_true rfl) (p_196_0 hw17 hw22 e4 e20 hw23 hg25) ?_
  refine i_231_289 (c := (-128)) (by decide) ?_
  refine i_231_290 (Nat.le_of_ble_eq_true rfl) (p_272_0) ?_
  refine i_231_293 (lv2 := [(6, Value.int (-128)), (8, Value.int 0), (7, Value.int 0), (10, Value.int 0), (16, Value.int 0), (15, Value.int 0), (14, Value.int 0), (9, Value.int 1), (13, Value.int a2), (12, Value.int a1), (11, Value.int 0), (0, Value.ref 128), (1, Value.int a0), (2, Value.int a1), (3, Value.int a2), (4, Value.int a3), (5, Value.int a4)]) rfl ?_
  refine i_231_295 (x := 0) (c := 1) (lv2 := [(11, Value.int 1), (6, Value.int (-128)), (8, Value.int 0), (7, Value.int 0), (10, Value.int 0), (16, Value.int 0), (15, Value.int 0), (14, Value.int 0), (9, Value.int 1), (13, Value.int a2), (12, Value.int a1), (0, Value.ref 128), (1, Value.int a0), (2, Value.int a1), (3, Value.int a2), (4, Value.int a3), (5, Value.int a4)]) rfl (by decide) rfl ?_
  refine i_231_298 ?_
  refine i_231_74 (x := 1) rfl ?_
  refine i_231_76 (x := a3) rfl ?_
  refine i_231_78 (fun h => absurd e26 (Int.not_lt.mpr h)) (fun _ => ?_)
  refine i_231_81 (x := a1) rfl ?_
  refine i_231_82 (x := 1) rfl ?_
  refine i_231_84 (c := a7) hg27 ?_
  refine i_231_85 (lv2 := [(12, Value.int a7), (11, Value.int 1), (6, Value.int (-128)), (8, Value.int 0), (7, Value.int 0), (10, Value.int 0), (16, Value.int 0), (15, Value.int 0), (14, Value.int 0), (9, Value.int 1), (13, Value.int a2), (0, Value.ref 128), (1, Value.int a0), (2, Value.int a1), (3, Value.int a2), (4, Value.int a3), (5, Value.int a4)]) rfl ?_
  refine i_231_87 (x := a2) rfl ?_
  refine i_231_88 (x := 1) rfl ?_
  refine i_231_90 (c := a8) hg28 ?_
  refine i_231_91 (lv2 := [(13, Value.int a8), (12, Value.int a7), (11, Value.int 1), (6, Value.int (-128)), (8, Value.int 0), (7, Value.int 0), (10, Value.int 0), (16, Value.int 0), (15, Value.int 0), (14, Value.int 0), (9, Value.int 1), (0, Value.ref 128), (1, Value.int a0), (2, Value.int a1), (3, Value.int a2), (4, Value.int a3), (5, Value.int a4)]) rfl ?_
  refine i_231_93 (x := 1) rfl ?_
  refine i_231_95 (x := 128) rfl ?_
  refine i_231_96 (v := Value.ref 154) hw17 rfl ?_
  refine i_231_99 (x := a7) rfl ?_
  refine i_231_101 (v := Value.int 0) hw18 e29 e30 rfl ?_
  refine i_231_102 (fun _ => ?_) (fun h => absurd h (by decide))
  refine i_231_115 ?_
  refine i_231_116 ?_
  refine i_231_120 (c := 1) (by decide) ?_
  refine i_231_121 (lv2 := [(9, Value.int 1), (13, Value.int a8), (12, Value.int a7), (11, Value.int 1), (6, Value.int (-128)), (8, Value.int 0), (7, Value.int 0), (10, Value.int 0), (16, Value.int 0), (15, Value.int 0), (14, Value.int 0), (0, Value.ref 128), (1, Value.int a0), (2, Value.int a1), (3, Value.int a2), (4, Value.int a3), (5, Value.int a4)]) rfl ?_
  refine i_231_123 (x := 128) rfl ?_
  refine i_231_124 (v := Value.ref 154) hw17 rfl ?_
  refine i_231_127 (x := a7) rfl ?_
  refine i_231_129 (v := Value.int 0) hw18 e29 e30 rfl ?_
  refine i_231_130 ?_
  refine i_231_131 (fun h => absurd h (by decide)) (fun _ => ?_)
  refine i_231_134 (x := 128) rfl ?_
  refine i_231_135 (v := Value.ref 154) hw17 rfl ?_
  refine i_231_138 (x := a8) rfl ?_
  refine i_231_140 (v := Value.int 0) hw18 e31 e32 rfl ?_
  refine i_231_141 ?_
  refine i_231_142 (fun _ => ?_) (fun h => absurd h (by decide))
  refine i_231_149 ?_
  refine i_231_150 (lv2 := [(14, Value.int 0), (9, Value.int 1), (13, Value.int a8), (12, Value.int a7), (11, Value.int 1), (6, Value.int (-128)), (8, Value.int 0), (7, Value.int 0), (10, Value.int 0), (16, Value.int 0), (15, Value.int 0), (0, Value.ref 128), (1, Value.int a0), (2, Value.int a1), (3, Value.int a2), (4, Value.int a3), (5, Value.int a4)]) rfl ?_
  refine i_231_152 (x := 128) rfl ?_
  refine i_231_153 (v := Value.ref 154) hw17 rfl ?_
  refine i_231_156 (x := a7) rfl ?_
  refine i_231_158 (v := Value.int 0) hw18 e29 e30 rfl ?_
  refine i_231_159 ?_
  refine i_231_160 (fun h => absurd h (by decide)) (fun _ => ?_)
  refine i_231_163 (x := 128) rfl ?_
  refine i_231_164 (v := Value.ref 154) hw17 rfl ?_
  refine i_231_167 (x := a8) rfl ?_
  refine i_231_169 (v := Value.int 0) hw18 e31 e32 rfl ?_
  refine i_231_170 ?_
  refine i_231_171 (fun _ => ?_) (fun h => absurd h (by decide))
  refine i_231_178 ?_
  refine i_231_179 (lv2 := [(15, Value.int 0), (14, Value.int 0), (9, Value.int 1), (13, Value.int a8), (12, Value.int a7), (11, Value.int 1), (6, Value.int (-128)), (8, Value.int 0), (7, Value.int 0), (10, Value.int 0), (16, Value.int 0), (0, Value.ref 128), (1, Value.int a0), (2, Value.int a1), (3, Value.int a2), (4, Value.int a3), (5, Value.int a4)]) rfl ?_
  refine i_231_181 (x := 128) rfl ?_
  refine i_231_182 (v := Value.ref 156) hw17 rfl ?_
  refine i_231_185 (x := a7) rfl ?_
  refine i_231_187z (v := Value.int 0) hw21 e29 e30 rfl ?_
  refine i_231_188 (x := 128) rfl ?_
  refine i_231_189 (v := Value.ref 156) hw17 rfl ?_
  refine i_231_192 (x := a8) rfl ?_
  refine i_231_194z (v := Value.int 0) hw21 e31 e32 rfl ?_
  refine i_231_195 (fun _ => ?_) (fun h => absurd h (by decide))
  refine i_231_202 ?_
  refine i_231_203 (lv2 := [(16, Value.int 0), (15, Value.int 0), (14, Value.int 0), (9, Value.int 1), (13, Value.int a8), (12, Value.int a7), (11, Value.int 1), (6, Value.int (-128)), (8, Value.int 0), (7, Value.int 0), (10, Value.int 0), (0, Value.ref 128), (1, Value.int a0), (2, Value.int a1), (3, Value.int a2), (4, Value.int a3), (5, Value.int a4)]) rfl ?_
  refine i_231_205 (x := 0) rfl ?_
  refine i_231_207 (x := 0) rfl ?_
  refine i_231_209 (fun _ => ?_) (fun h => absurd h (by decide))
  refine i_231_221 ?_
  refine i_231_222 (c := 0) (by decide) ?_
  refine i_231_223 (lv2 := [(10, Value.int 0), (16, Value.int 0), (15, Value.int 0), (14, Value.int 0), (9, Value.int 1), (13, Value.int a8), (12, Value.int a7), (11, Value.int 1), (6, Value.int (-128)), (8, Value.int 0), (7, Value.int 0), (0, Value.ref 128), (1, Value.int a0), (2, Value.int a1), (3, Value.int a2), (4, Value.int a3), (5, Value.int a4)]) rfl ?_
  refine i_231_225 (x := 0) rfl ?_
  refine i_231_227 (x := 0) rfl ?_
  refine i_231_229 (fun _ => ?_) (fun h => absurd h (by decide))
  refine i_231_241 ?_
  refine i_231_242 (c := 0) (by decide) ?_
  refine i_231_243 (lv2 := [(7, Value.int 0), (10, Value.int 0), (16, Value.int 0), (15, Value.int 0), (14, Value.int 0), (9, Value.int 1), (13, Value.int a8), (12, Value.int a7), (11, Value.int 1), (6, Value.int (-128)), (8, Value.int 0), (0, Value.ref 128), (1, Value.int a0), (2, Value.int a1), (3, Value.int a2), (4, Value.int a3), (5, Value.int a4)]) rfl ?_
  refine i_231_245 (x := 0) rfl ?_
  refine i_231_247 (x := 0) rfl ?_
  refine i_231_249 (fun _ => ?_) (fun h => absurd h (by decide))
  refine i_231_261 ?_
  refine i_231_262 (c := 0) (by decide) ?_
  refine i_231_263 (lv2 := [(8, Value.int 0), (7, Value.int 0), (10, Value.int 0), (16, Value.int 0), (15, Value.int 0), (14, Value.int 0), (9, Value.int 1), (13, Value.int a8), (12, Value.int a7), (11, Value.int 1), (6, Value.int (-128)), (0, Value.ref 128), (1, Value.int a0), (2, Value.int a1), (3, Value.int a2), (4, Value.int a3), (5, Value.int a4)]) rfl ?_
  refine i_231_265 (x := 0) rfl ?_
  refine i_231_267 (fun h => absurd h (by decide)) (fun _ => ?_)
  refine i_231_270 (x := 0) rfl ?_
  refine i_231_272 (fun h => absurd h (by decide)) (fun _ => ?_)
  refine i_231_275 (x := (-128)) rfl ?_
  refine i_231_277 (x := 128) rfl ?_
  refine i_231_278 (x := a7) rfl ?_
  refine i_231_280 hw17 (Nat.le_of_ble_eq_true rfl) (p_196_0 hw17 hw22 e29 e30 hw23 hg33) ?_
  refine i_231_283 (x := 128) rfl ?_
  refine i_231_284 (x := a8) rfl ?_
  refine i_231_286 hw17 (Nat.le_of_ble_eq_true rfl) (p_196_0 hw17 hw22 e31 e32 hw23 hg34) ?_
  refine i_231_289 (c := (-128)) (by decide) ?_
  refine i_231_290 (Nat.le_of_ble_eq_true rfl) (p_272_1) ?_
  refine i_231_293 (lv2 := [(6, Value.int (-128)), (8, Value.int 0), (7, Value.int 0), (10, Value.int 0), (16, Value.int 0), (15, Value.int 0), (14, Value.int 0), (9, Value.int 1), (13, Value.int a8), (12, Value.int a7), (11, Value.int 1), (0, Value.ref 128), (1, Value.int a0), (2, Value.int a1), (3, Value.int a2), (4, Value.int a3), (5, Value.int a4)]) rfl ?_
  refine i_231_295 (x := 1) (c := 2) (lv2 := [(11, Value.int 2), (6, Value.int (-128)), (8, Value.int 0), (7, Value.int 0), (10, Value.int 0), (16, Value.int 0), (15, Value.int 0), (14, Value.int 0), (9, Value.int 1), (13, Value.int a8), (12, Value.int a7), (0, Value.ref 128), (1, Value.int a0), (2, Value.int a1), (3, Value.int a2), (4, Value.int a3), (5, Value.int a4)]) rfl (by decide) rfl ?_
  refine i_231_298 ?_
  refine i_231_74 (x := 2) rfl ?_
  refine i_231_76 (x := a3) rfl ?_
  refine i_231_78 (fun h => absurd e35 (Int.not_lt.mpr h)) (fun _ => ?_)
  refine i_231_81 (x := a1) rfl ?_
  refine i_231_82 (x := 2) rfl ?_
  refine i_231_84 (c := a9) hg36 ?_
  refine i_231_85 (lv2 := [(12, Value.int a9), (11, Value.int 2), (6, Value.int (-128)), (8, Value.int 0), (7, Value.int 0), (10, Value.int 0), (16, Value.int 0), (15, Value.int 0), (14, Value.int 0), (9, Value.int 1), (13, Value.int a8), (0, Value.ref 128), (1, Value.int a0), (2, Value.int a1), (3, Value.int a2), (4, Value.int a3), (5, Value.int a4)]) rfl ?_
  refine i_231_87 (x := a2) rfl ?_
  refine i_231_88 (x := 2) rfl ?_
  refine i_231_90 (c := a10) hg37 ?_
  refine i_231_91 (lv2 := [(13, Value.int a10), (12, Value.int a9), (11, Value.int 2), (6, Value.int (-128)), (8, Value.int 0), (7, Value.int 0), (10, Value.int 0), (16, Value.int 0), (15, Value.int 0), (14, Value.int 0), (9, Value.int 1), (0, Value.ref 128), (1, Value.int a0), (2, Value.int a1), (3, Value.int a2), (4, Value.int a3), (5, Value.int a4)]) rfl ?_
  refine i_231_93 (x := 1) rfl ?_
  refine i_231_95 (x := 128) rfl ?_
  refine i_231_96 (v := Value.ref 154) hw17 rfl ?_
  refine i_231_99 (x := a9) rfl ?_
  refine i_231_101 (v := Value.int 0) hw18 e38 e39 rfl ?_
  refine i_231_102 (fun _ => ?_) (fun h => absurd h (by decide))
  refine i_231_115 ?_
  refine i_231_116 ?_
  refine i_231_120 (c := 1) (by decide) ?_
  refine i_231_121 (lv2 := [(9, Value.int 1), (13, Value.int a10), (12, Value.int a9), (11, Value.int 2), (6, Value.int (-128)), (8, Value.int 0), (7, Value.int 0), (10, Value.int 0), (16, Value.int 0), (15, Value.int 0), (14, Value.int 0), (0, Value.ref 128), (1, Value.int a0), (2, Value.int a1), (3, Value.int a2), (4, Value.int a3), (5, Value.int a4)]) rfl ?_
  refine i_231_123 (x := 128) rfl ?_
  refine i_231_124 (v := Value.ref 154) hw17 rfl ?_
  refine i_231_127 (x := a9) rfl ?_
  refine i_231_129 (v := Value.int 0) hw18 e38 e39 rfl ?_
  refine i_231_130 ?_
  refine i_231_131 (fun h => absurd h (by decide)) (fun _ => ?_)
  refine i_231_134 (x := 128) rfl ?_
  refine i_231_135 (v := Value.ref 154) hw17 rfl ?_
  refine i_231_138 (x := a10) rfl ?_
  refine i_231_140 (v := Value.int 0) hw18 e40 e41 rfl ?_
  refine i_231_141 ?_
  refine i_231_142 (fun _ => ?_) (fun h => absurd h (by decide))
  refine i_231_149 ?_
  refine i_231_150 (lv2 := [(14, Value.int 0), (9, Value.int 1), (13, Value.int a10), (12, Value.int a9), (11, Value.int 2), (6, Value.int (-128)), (8, Value.int 0), (7, Value.int 0), (10, Value.int 0), (16, Value.int 0), (15, Value.int 0), (0, Value.ref 128), (1, Value.int a0), (2, Value.int a1), (3, Value.int a2), (4, Value.int a3), (5, Value.int a4)]) rfl ?_
  refine i_231_152 (x := 128) rfl ?_
  refine i_231_153 (v := Value.ref 154) hw17 rfl ?_
  refine i_231_156 (x := a9) rfl ?_
  refine i_231_158 (v := Value.int 0) hw18 e38 e39 rfl ?_
  refine i_231_159 ?_
  refine i_231_160 (fun h => absurd h (by decide)) (fun _ => ?_)
  refine i_231_163 (x := 128) rfl ?_
  refine i_231_164 (v := Value.ref 154) hw17 rfl ?_
  refine i_231_167 (x := a10) rfl ?_
  refine i_231_169 (v := Value.int 0) hw18 e40 e41 rfl ?_
  refine i_231_170 ?_
  refine i_231_171 (fun _ => ?_) (fun h => absurd h (by decide))
  refine i_231_178 ?_
  refine i_231_179 (lv2 := [(15, Value.int 0), (14, Value.int 0), (9, Value.int 1), (13, Value.int a10), (12, Value.int a9), (11, Value.int 2), (6, Value.int (-128)), (8, Value.int 0), (7, Value.int 0), (10, Value.int 0), (16, Value.int 0), (0, Value.ref 128), (1, Value.int a0), (2, Value.int a1), (3, Value.int a2), (4, Value.int a3), (5, Value.int a4)]) rfl ?_
  refine i_231_181 (x := 128) rfl ?_
  refine i_231_182 (v := Value.ref 156) hw17 rfl ?_
  refine i_231_185 (x := a9) rfl ?_
  refine i_231_187z (v := Value.int 0) hw21 e38 e39 rfl ?_
  refine i_231_188 (x := 128) rfl ?_
  refine i_231_189 (v := Value.ref 156) hw17 rfl ?_
  refine i_231_192 (x := a10) rfl ?_
  refine i_231_194z (v := Value.int 0) hw21 e40 e41 rfl ?_
  refine i_231_195 (fun _ => ?_) (fun h => absurd h (by decide))
  refine i_231_202 ?_
  refine i_231_203 (lv2 := [(16, Value.int 0), (15, Value.int 0), (14, Value.int 0), (9, Value.int 1), (13, Value.int a10), (12, Value.int a9), (11, Value.int 2), (6, Value.int (-128)), (8, Value.int 0), (7, Value.int 0), (10, Value.int 0), (0, Value.ref 128), (1, Value.int a0), (2, Value.int a1), (3, Value.int a2), (4, Value.int a3), (5, Value.int a4)]) rfl ?_
  refine i_231_205 (x := 0) rfl ?_
  refine i_231_207 (x := 0) rfl ?_
  refine i_231_209 (fun _ => ?_) (fun h => absurd h (by decide))
  refine i_231_221 ?_
  refine i_231_222 (c := 0) (by decide) ?_
  refine i_231_223 (lv2 := [(10, Value.int 0), (16, Value.int 0), (15, Value.int 0), (14, Value.int 0), (9, Value.int 1), (13, Value.int a10), (12, Value.int a9), (11, Value.int 2), (6, Value.int (-128)), (8, Value.int 0), (7, Value.int 0), (0, Value.ref 128), (1, Value.int a0), (2, Value.int a1), (3, Value.int a2), (4, Value.int a3), (5, Value.int a4)]) rfl ?_
  refine i_231_225 (x := 0) rfl ?_
  refine i_231_227 (x := 0) rfl ?_
  refine i_231_229 (fun _ => ?_) (fun h => absurd h (by decide))
  refine i_231_241 ?_
  refine i_231_242 (c := 0) (by decide) ?_
  refine i_231_243 (lv2 := [(7, Value.int 0), (10, Value.int 0), (16, Value.int 0), (15, Value.int 0), (14, Value.int 0), (9, Value.int 1), (13, Value.int a10), (12, Value.int a9), (11, Value.int 2), (6, Value.int (-128)), (8, Value.int 0), (0, Value.ref 128), (1, Value.int a0), (2, Value.int a1), (3, Value.int a2), (4, Value.int a3), (5, Value.int a4)]) rfl ?_
  refine i_231_245 (x := 0) rfl ?_
  refine i_231_247 (x := 0) rfl ?_
  refine i_231_249 (fun _ => ?_) (fun h => absurd h (by decide))
  refine i_231_261 ?_
  refine i_231_262 (c := 0) (by decide) ?_
  refine i_231_263 (lv2 := [(8, Value.int 0), (7, Value.int 0), (10, Value.int 0), (16, Value.int 0), (15, Value.int 0), (14, Value.int 0), (9, Value.int 1), (13, Value.int a10), (12, Value.int a9), (11, Value.int 2), (6, Value.int (-128)), (0, Value.ref 128), (1, Value.int a0), (2, Value.int a1), (3, Value.int a2), (4, Value.int a3), (5, Value.int a4)]) rfl ?_
  refine i_231_265 (x := 0) rfl ?_
  refine i_231_267 (fun h => absurd h (by decide)) (fun _ => ?_)
  refine i_231_270 (x := 0) rfl ?_
  refine i_231_272 (fun h => absurd h (by decide)) (fun _ => ?_)
  refine i_231_275 (x := (-128)) rfl ?_
  refine i_231_277 (x := 128) rfl ?_
  refine i_231_278 (x := a9) rfl ?_
  refine i_231_280 hw17 (Nat.le_of_ble_eq_true rfl) (p_196_0 hw17 hw22 e38 e39 hw23 hg42) ?_
  refine i_231_283 (x := 128) rfl ?_
  refine i_231_284 (x := a10) rfl ?_
  refine i_231_286 hw17 (Nat.le_of_ble_eq_true rfl) (p_196_0 hw17 hw22 e40 e41 hw23 hg43) ?_
  refine i_231_289 (c := (-128)) (by decide) ?_
  refine i_231_290 (Nat.le_of_ble_eq_true rfl) (p_272_1) ?_
  refine i_231_293 (lv2 := [(6, Value.int (-128)), (8, Value.int 0), (7, Value.int 0), (10, Value.int 0), (16, Value.int 0), (15, Value.int 0), (14, Value.int 0), (9, Value.int 1), (13, Value.int a10), (12, Value.int a9), (11, Value.int 2), (0, Value.ref 128), (1, Value.int a0), (2, Value.int a1), (3, Value.int a2), (4, Value.int a3), (5, Value.int a4)]) rfl ?_
  refine i_231_295 (x := 2) (c := 3) (lv2 := [(11, Value.int 3), (6, Value.int (-128)), (8, Value.int 0), (7, Value.int 0), (10, Value.int 0), (16, Value.int 0), (15, Value.int 0), (14, Value.int 0), (9, Value.int 1), (13, Value.int a10), (12, Value.int a9), (0, Value.ref 128), (1, Value.int a0), (2, Value.int a1), (3, Value.int a2), (4, Value.int a3), (5, Value.int a4)]) rfl (by decide) rfl ?_
  refine i_231_298 ?_
  refine i_231_74 (x := 3) rfl ?_
  refine i_231_76 (x := a3) rfl ?_
  refine i_231_78 (fun _ => ?_) (fun h => absurd e44 (Int.not_le.mpr h))
  refine i_231_301 (x := 1) rfl ?_
  refine i_231_303 (fun h => absurd h (by decide)) (fun _ => ?_)
  refine i_231_306 (x := 128) rfl ?_
  refine i_231_307 (x := a0) rfl ?_
  refine i_231_308 ?_
  refine i_231_309 ?_
  refine i_231_310 hw17 (Nat.le_of_ble_eq_true rfl) (p_171_0 hw17 hw18 e0 e45 hw21) ?_
  exact i_231_313 ⟨rfl, rfl⟩
theorem p_230_23 {d : Nat} {w : xW} {a0 : Int32} {a1 : Int32} {a2 : Int32} {a3 : Int32} {a4 : Int32} {a5 : Int32} {a6 : Int32} {g0 : Nat → Value} {a7 : Int32} {a8 : Int32} {a9 : Int32} {a10 : Int32} (hw0 : w[128]? = some (Sum.inr (12, [Value.ref 129, Value.ref 131, Value.ref 133, Value.ref 135, Value.ref 137, Value.ref 139, Value.ref 141, Value.ref 143, Value.ref 145, Value.ref 147, Value.ref 149, Value.ref 151, Value.ref 153, Value.ref 154, Value.ref 155, Value.ref 156, Value.ref 157, Value.int (-16384), Value.int 16384, Value.int 0, Value.int 0, Value.int 0, Value.ref 158, Value.ref 159, Value.int 0, Value.int 0, Value.int 0, Value.int 0, Value.int 0, Value.int 0, Value.int 0, Value.int 0]))) (e1 : 0 ≤ a0.toInt) (e2 : a0.toInt ≤ 15) (e3 : 0 ≤ a1.toInt) (e4 : a1.toInt ≤ 15) (e5 : 0 ≤ a2.toInt) (e6 : a2.toInt ≤ 15) (e7 : 1 ≤ a3.toInt) (e8 : a3.toInt ≤ 16) (hg9 : (a1 + a3) = a5) (e10 : a5.toInt ≤ 16) (hg11 : (a2 + a3) = a6) (e12 : a6.toInt ≤ 16) (e13 : 0 ≤ a4.toInt) (e14 : a4.toInt ≤ 4) (e15 : 0 < a3.toInt) (hg16 : (a1 + (0 : Int32)) = a1) (hg17 : (a2 + (0 : Int32)) = a2) (hw18 : w[154]? = some (Sum.inl (0, 17, fun _ => Value.int 0))) (e19 : a1.toInt < 17) (e20 : a2.toInt < 17) (hw21 : w[156]? = some (Sum.inl (2, 17, fun _ => Value.int 0))) (hw22 : w[155]? = some (Sum.inl (0, 17, fun _ => Value.int 0))) (hw23 : w[153]? = some (Sum.inl (0, 17, g0))) (hg24 : g0 a1.toInt.toNat = Value.int 64) (hg25 : g0 a2.toInt.toNat = Value.int 64) (e26 : 1 < a3.toInt) (hg27 : (a1 + (1 : Int32)) = a7) (hg28 : (a2 + (1 : Int32)) = a8) (e29 : 0 ≤ a7.toInt) (e30 : a7.toInt < 17) (e31 : 0 ≤ a8.toInt) (e32 : a8.toInt < 17) (hg33 : g0 a7.toInt.toNat = Value.int 64) (hg34 : g0 a8.toInt.toNat = Value.int 64) (e35 : 2 < a3.toInt) (hg36 : (a1 + (2 : Int32)) = a9) (hg37 : (a2 + (2 : Int32)) = a10) (e38 : 0 ≤ a9.toInt) (e39 : a9.toInt < 17) (e40 : 0 ≤ a10.toInt) (e41 : a10.toInt < 17) (hg42 : g0 a9.toInt.toNat = Value.int 64) (hg43 : g0 a10.toInt.toNat = Value.int 64) (e44 : a3.toInt ≤ 3) (e45 : a0.toInt < 17) : xRun (d + 3) 230 [Value.ref 128, Value.int a0, Value.int a1, Value.int a2, Value.int a3, Value.int a4] w (.inl (some (Value.int 0))) (((w.set 128 (Sum.inr (12, [Value.ref 129, Value.ref 131, Value.ref 133, Value.ref 135, Value.ref 137, Value.ref 139, Value.ref 141, Value.ref 143, Value.ref 145, Value.ref 147, Value.ref 149, Value.ref 151, Value.ref 153, Value.ref 154, Value.ref 155, Value.ref 156, Value.ref 157, Value.int (-16384), Value.int 16384, Value.int 0, Value.int 0, Value.int 0, Value.ref 158, Value.ref 159, Value.int 0, Value.int 0, Value.int 0, Value.int 0, Value.int 0, Value.int 0, Value.int 0, Value.int 0]))).set 154 (Sum.inl (0, 17, xup (fun _ => Value.int 0) a0.toInt.toNat (Value.int 0)))).set 156 (Sum.inl (2, 17, xup (fun _ => Value.int 0) a0.toInt.toNat (Value.int 0)))) := by
  refine xRun.of ?_
  refine i_230_0 (x := 128) rfl ?_
  refine i_230_1 ?_
  refine i_230_2 (fs2 := [Value.ref 129, Value.ref 131, Value.ref 133, Value.ref 135, Value.ref 137, Value.ref 139, Value.ref 141, Value.ref 143, Value.ref 145, Value.ref 147, Value.ref 149, Value.ref 151, Value.ref 153, Value.ref 154, Value.ref 155, Value.ref 156, Value.ref 157, Value.int (-16384), Value.int 16384, Value.int 0, Value.int 0, Value.int 0, Value.ref 158, Value.ref 159, Value.int 0, Value.int 0, Value.int 0, Value.int 0, Value.int 0, Value.int 0, Value.int 0, Value.int 0]) hw0 (Nat.le_of_ble_eq_true rfl) rfl (by decide) ?_
  refine i_230_5 (x := 128) rfl ?_
  refine i_230_6 (x := a0) rfl ?_
  refine i_230_7 (x := a1) rfl ?_
  refine i_230_8 (x := a2) rfl ?_
  refine i_230_9 (x := a3) rfl ?_
  refine i_230_11 (x := a4) rfl ?_
  refine i_230_13 (xgs hw0) (Nat.le_of_ble_eq_true rfl) (p_231_23 e1 e2 e3 e4 e5 e6 e7 e8 hg9 e10 hg11 e12 e13 e14 e15 hg16 hg17 (xgs hw0) (xgn (by decide) hw18) e19 e20 (xgn (by decide) hw21) (xgn (by decide) hw22) (xgn (by decide) hw23) hg24 hg25 e26 hg27 hg28 e29 e30 e31 e32 hg33 hg34 e35 hg36 hg37 e38 e39 e40 e41 hg42 hg43 e44 e45) ?_
  exact i_230_16 ⟨rfl, rfl⟩
theorem g_11_28 {z0 z1 z2 z3 z4 z5 z6 z7 z8 z9 z10 z11 : Int} (h0 : z0 = 11) (c0 : 0 ≤ z1) (c1 : z1 < 16) (c2 : 0 ≤ z2) (c3 : z2 < 16) (c4 : 1 ≤ z3) (c5 : z3 ≤ 16) (nN6 : z4 = z2 + z3) (c7 : z4 ≤ 16) (c8 : 0 ≤ z5) (c9 : z5 < 16) (nN10 : z6 = z5 + z3) (c11 : z6 ≤ 16) (c12 : 0 ≤ z7) (c13 : z7 ≤ 4) (c14 : 1 < z3) (nN15 : z8 = z2 + 1) (nN16 : z9 = z5 + 1) (c17 : 2 < z3) (nN18 : z10 = z2 + 2) (nN19 : z11 = z5 + 2) (c20 : z3 ≤ 3) : (((((((0 ≤ z1) ∧ (z1 < 16)) ∧ ((0 ≤ z2) ∧ (z2 < 16))) ∧ (((1 ≤ z3) ∧ (z3 ≤ 16)) ∧ ((z4 ≤ 16) ∧ ((0 ≤ z5) ∧ (z5 < 16))))) ∧ ((((z6 ≤ 16) ∧ (0 ≤ z7)) ∧ ((z7 ≤ 4) ∧ ((0 < z3) ∧ (z2.toNat < 16)))) ∧ (((z5.toNat < 16) ∧ (19 ≠ (30 + 3 * z2.toNat))) ∧ ((22 ≠ (30 + 3 * z2.toNat)) ∧ ((20 ≠ (30 + 3 * z2.toNat)) ∧ (19 ≠ (30 + 3 * z5.toNat))))))) ∧ (((((22 ≠ (30 + 3 * z5.toNat)) ∧ (20 ≠ (30 + 3 * z5.toNat))) ∧ ((1 < z3) ∧ (0 ≤ z8))) ∧ (((z8 < 16) ∧ (z8.toNat < 16)) ∧ ((0 ≤ z9) ∧ ((z9 < 16) ∧ (z9.toNat < 16))))) ∧ ((((19 ≠ (30 + 3 * z8.toNat)) ∧ (22 ≠ (30 + 3 * z8.toNat))) ∧ ((20 ≠ (30 + 3 * z8.toNat)) ∧ ((19 ≠ (30 + 3 * z9.toNat)) ∧ (22 ≠ (30 + 3 * z9.toNat))))) ∧ (((20 ≠ (30 + 3 * z9.toNat)) ∧ (2 < z3)) ∧ ((0 ≤ z10) ∧ ((z10 < 16) ∧ (z10.toNat < 16))))))) ∧ ((((((0 ≤ z11) ∧ (z11 < 16)) ∧ ((z11.toNat < 16) ∧ (19 ≠ (30 + 3 * z10.toNat)))) ∧ (((22 ≠ (30 + 3 * z10.toNat)) ∧ (20 ≠ (30 + 3 * z10.toNat))) ∧ ((19 ≠ (30 + 3 * z11.toNat)) ∧ ((22 ≠ (30 + 3 * z11.toNat)) ∧ (20 ≠ (30 + 3 * z11.toNat)))))) ∧ ((((z3 ≤ 3) ∧ (z1.toNat < 16)) ∧ ((19 ≠ (30 + 3 * z1.toNat)) ∧ ((22 ≠ (30 + 3 * z1.toNat)) ∧ (20 ≠ (30 + 3 * z1.toNat))))) ∧ (((7 ≤ (30 + 3 * z1.toNat)) ∧ ((30 + 3 * z1.toNat) ≠ 194)) ∧ (((30 + 3 * z1.toNat) ≠ 0) ∧ (((30 + 3 * z1.toNat) ≠ 128) ∧ (z1 ≤ 15)))))) ∧ (((((z2 ≤ 15) ∧ (z5 ≤ 15)) ∧ (((30 + 3 * z1.toNat) ≠ 154) ∧ (z2 < 17))) ∧ (((z5 < 17) ∧ ((30 + 3 * z1.toNat) ≠ 156)) ∧ (((30 + 3 * z1.toNat) ≠ 155) ∧ (((30 + 3 * z1.toNat) ≠ 153) ∧ (z2.toNat < 17))))) ∧ ((((z5.toNat < 17) ∧ (z8 < 17)) ∧ ((z9 < 17) ∧ ((z8.toNat < 17) ∧ (z9.toNat < 17)))) ∧ (((z10 < 17) ∧ (z11 < 17)) ∧ ((z10.toNat < 17) ∧ ((z11.toNat < 17) ∧ (z1 < 17)))))))) := by
  subst nN19; subst nN18; subst nN16; subst nN15; subst nN10; subst nN6; exact ⟨⟨⟨⟨⟨⟨by omega, by omega⟩, ⟨by omega, by omega⟩⟩, ⟨⟨by omega, by omega⟩, ⟨by omega, ⟨by omega, by omega⟩⟩⟩⟩, ⟨⟨⟨by omega, by omega⟩, ⟨by omega, ⟨by omega, by omega⟩⟩⟩, ⟨⟨by omega, by omega⟩, ⟨by omega, ⟨by omega, by omega⟩⟩⟩⟩⟩, ⟨⟨⟨⟨by omega, by omega⟩, ⟨by omega, by omega⟩⟩, ⟨⟨by omega, by omega⟩, ⟨by omega, ⟨by omega, by omega⟩⟩⟩⟩, ⟨⟨⟨by omega, by omega⟩, ⟨by omega, ⟨by omega, by omega⟩⟩⟩, ⟨⟨by omega, by omega⟩, ⟨by omega, ⟨by omega, by omega⟩⟩⟩⟩⟩⟩, ⟨⟨⟨⟨⟨by omega, by omega⟩, ⟨by omega, by omega⟩⟩, ⟨⟨by omega, by omega⟩, ⟨by omega, ⟨by omega, by omega⟩⟩⟩⟩, ⟨⟨⟨by omega, by omega⟩, ⟨by omega, ⟨by omega, by omega⟩⟩⟩, ⟨⟨by omega, by omega⟩, ⟨by omega, ⟨by omega, by omega⟩⟩⟩⟩⟩, ⟨⟨⟨⟨by omega, by omega⟩, ⟨by omega, by omega⟩⟩, ⟨⟨by omega, by omega⟩, ⟨by omega, ⟨by omega, by omega⟩⟩⟩⟩, ⟨⟨⟨by omega, by omega⟩, ⟨by omega, ⟨by omega, by omega⟩⟩⟩, ⟨⟨by omega, by omega⟩, ⟨by omega, ⟨by omega, by omega⟩⟩⟩⟩⟩⟩⟩
theorem o_11_28 {d : Nat} {xs : Nat → Int32} {N6 N10 N15 N16 N18 N19 : Int32} (h0 : ((xs 0) &&& (31 : Int32)).toInt = 11) (c0 : 0 ≤ (xs 1).toInt) (c1 : (xs 1).toInt < 16) (c2 : 0 ≤ (xs 2).toInt) (c3 : (xs 2).toInt < 16) (c4 : 1 ≤ (xs 4).toInt) (c5 : (xs 4).toInt ≤ 16) (eN6 : ((xs 2) + (xs 4)) = N6) (nN6 : N6.toInt = (xs 2).toInt + (xs 4).toInt) (c7 : N6.toInt ≤ 16) (c8 : 0 ≤ (xs 3).toInt) (c9 : (xs 3).toInt < 16) (eN10 : ((xs 3) + (xs 4)) = N10) (nN10 : N10.toInt = (xs 3).toInt + (xs 4).toInt) (c11 : N10.toInt ≤ 16) (c12 : 0 ≤ (xs 5).toInt) (c13 : (xs 5).toInt ≤ 4) (c14 : 1 < (xs 4).toInt) (eN15 : ((xs 2) + (1 : Int32)) = N15) (nN15 : N15.toInt = (xs 2).toInt + 1) (eN16 : ((xs 3) + (1 : Int32)) = N16) (nN16 : N16.toInt = (xs 3).toInt + 1) (c17 : 2 < (xs 4).toInt) (eN18 : ((xs 2) + (2 : Int32)) = N18) (nN18 : N18.toInt = (xs 2).toInt + 2) (eN19 : ((xs 3) + (2 : Int32)) = N19) (nN19 : N19.toInt = (xs 3).toInt + 2) (c20 : (xs 4).toInt ≤ 3) : ∃ w1, xEv (d + 20) 287 23 [(4, Value.int 0), (3, Value.ref 194), (2, Value.ref 128), (1, Value.ref 7), (0, Value.ref 0)] [] (W0 6 xs) (fun o' w' => o' = .inl (some (Value.int 1)) ∧ w' = w1) ∧ w1.length ≤ 220 ∧ xsz w1 ≤ 200000 := by
  have G : id (((((((0 ≤ (xs 1).toInt) ∧ ((xs 1).toInt < 16)) ∧ ((0 ≤ (xs 2).toInt) ∧ ((xs 2).toInt < 16))) ∧ (((1 ≤ (xs 4).toInt) ∧ ((xs 4).toInt ≤ 16)) ∧ ((N6.toInt ≤ 16) ∧ ((0 ≤ (xs 3).toInt) ∧ ((xs 3).toInt < 16))))) ∧ ((((N10.toInt ≤ 16) ∧ (0 ≤ (xs 5).toInt)) ∧ (((xs 5).toInt ≤ 4) ∧ ((0 < (xs 4).toInt) ∧ ((xs 2).toInt.toNat < 16)))) ∧ ((((xs 3).toInt.toNat < 16) ∧ (19 ≠ (30 + 3 * (xs 2).toInt.toNat))) ∧ ((22 ≠ (30 + 3 * (xs 2).toInt.toNat)) ∧ ((20 ≠ (30 + 3 * (xs 2).toInt.toNat)) ∧ (19 ≠ (30 + 3 * (xs 3).toInt.toNat))))))) ∧ (((((22 ≠ (30 + 3 * (xs 3).toInt.toNat)) ∧ (20 ≠ (30 + 3 * (xs 3).toInt.toNat))) ∧ ((1 < (xs 4).toInt) ∧ (0 ≤ N15.toInt))) ∧ (((N15.toInt < 16) ∧ (N15.toInt.toNat < 16)) ∧ ((0 ≤ N16.toInt) ∧ ((N16.toInt < 16) ∧ (N16.toInt.toNat < 16))))) ∧ ((((19 ≠ (30 + 3 * N15.toInt.toNat)) ∧ (22 ≠ (30 + 3 * N15.toInt.toNat))) ∧ ((20 ≠ (30 + 3 * N15.toInt.toNat)) ∧ ((19 ≠ (30 + 3 * N16.toInt.toNat)) ∧ (22 ≠ (30 + 3 * N16.toInt.toNat))))) ∧ (((20 ≠ (30 + 3 * N16.toInt.toNat)) ∧ (2 < (xs 4).toInt)) ∧ ((0 ≤ N18.toInt) ∧ ((N18.toInt < 16) ∧ (N18.toInt.toNat < 16))))))) ∧ ((((((0 ≤ N19.toInt) ∧ (N19.toInt < 16)) ∧ ((N19.toInt.toNat < 16) ∧ (19 ≠ (30 + 3 * N18.toInt.toNat)))) ∧ (((22 ≠ (30 + 3 * N18.toInt.toNat)) ∧ (20 ≠ (30 + 3 * N18.toInt.toNat))) ∧ ((19 ≠ (30 + 3 * N19.toInt.toNat)) ∧ ((22 ≠ (30 + 3 * N19.toInt.toNat)) ∧ (20 ≠ (30 + 3 * N19.toInt.toNat)))))) ∧ (((((xs 4).toInt ≤ 3) ∧ ((xs 1).toInt.toNat < 16)) ∧ ((19 ≠ (30 + 3 * (xs 1).toInt.toNat)) ∧ ((22 ≠ (30 + 3 * (xs 1).toInt.toNat)) ∧ (20 ≠ (30 + 3 * (xs 1).toInt.toNat))))) ∧ (((7 ≤ (30 + 3 * (xs 1).toInt.toNat)) ∧ ((30 + 3 * (xs 1).toInt.toNat) ≠ 194)) ∧ (((30 + 3 * (xs 1).toInt.toNat) ≠ 0) ∧ (((30 + 3 * (xs 1).toInt.toNat) ≠ 128) ∧ ((xs 1).toInt ≤ 15)))))) ∧ ((((((xs 2).toInt ≤ 15) ∧ ((xs 3).toInt ≤ 15)) ∧ (((30 + 3 * (xs 1).toInt.toNat) ≠ 154) ∧ ((xs 2).toInt < 17))) ∧ ((((xs 3).toInt < 17) ∧ ((30 + 3 * (xs 1).toInt.toNat) ≠ 156)) ∧ (((30 + 3 * (xs 1).toInt.toNat) ≠ 155) ∧ (((30 + 3 * (xs 1).toInt.toNat) ≠ 153) ∧ ((xs 2).toInt.toNat < 17))))) ∧ (((((xs 3).toInt.toNat < 17) ∧ (N15.toInt < 17)) ∧ ((N16.toInt < 17) ∧ ((N15.toInt.toNat < 17) ∧ (N16.toInt.toNat < 17)))) ∧ (((N18.toInt < 17) ∧ (N19.toInt < 17)) ∧ ((N18.toInt.toNat < 17) ∧ ((N19.toInt.toNat < 17) ∧ ((xs 1).toInt < 17)))))))) := g_11_28 h0 c0 c1 c2 c3 c4 c5 nN6 c7 c8 c9 nN10 c11 c12 c13 c14 nN15 nN16 c17 nN18 nN19 c20
  refine ⟨((((((((((((W0 6 xs).set 20 (Sum.inr (3, [Value.ref 21, Value.int 0]))).set 22 (Sum.inr (3, [Value.ref 23, Value.int 0]))).set 19 (Sum.inr (5, [Value.ref 20, Value.ref 22, Value.ref 24, Value.ref 26, Value.int 0, Value.int 0, Value.int 0, Value.int 0, Value.int 0, Value.int 0, Value.int 0, Value.int 0]))).set 19 (Sum.inr (5, [Value.ref 20, Value.ref 22, Value.ref 24, Value.ref 26, Value.int 0, Value.int 1, Value.int 0, Value.int 0, Value.int 0, Value.int 0, Value.int 0, Value.int 0]))).set 19 (Sum.inr (5, [Value.ref 20, Value.ref 22, Value.ref 24, Value.ref 26, Value.int 0, Value.int 1, Value.int 0, Value.int 0, Value.int 0, Value.int 0, Value.int 0, Value.int 0]))).set 19 (Sum.inr (5, [Value.ref 20, Value.ref 22, Value.ref 24, Value.ref 26, Value.int 0, Value.int 1, Value.int 0, Value.int 0, Value.int 0, Value.int 0, Value.int 0, Value.int 0]))).set (30 + 3 * (xs 1).toInt.toNat) (Sum.inr (2, [Value.int 64, Value.int 0, Value.int 0, Value.int 0, Value.ref (31 + 3 * (xs 1).toInt.toNat)]))).set 194 (Sum.inl (3, 1, xup (fun _ => Value.long 0) (0 : Int32).toInt.toNat (Value.long 0)))).set 128 (Sum.inr (12, [Value.ref 129, Value.ref 131, Value.ref 133, Value.ref 135, Value.ref 137, Value.ref 139, Value.ref 141, Value.ref 143, Value.ref 145, Value.ref 147, Value.ref 149, Value.ref 151, Value.ref 153, Value.ref 154, Value.ref 155, Value.ref 156, Value.ref 157, Value.int (-16384), Value.int 16384, Value.int 0, Value.int 0, Value.int 0, Value.ref 158, Value.ref 159, Value.int 0, Value.int 0, Value.int 0, Value.int 0, Value.int 0, Value.int 0, Value.int 0, Value.int 0]))).set 154 (Sum.inl (0, 17, xup (fun _ => Value.int 0) (xs 1).toInt.toNat (Value.int 0)))).set 156 (Sum.inl (2, 17, xup (fun _ => Value.int 0) (xs 1).toInt.toNat (Value.int 0)))), ?_, (show xLs _ 220 200000 from ?_)⟩
  · refine i_287_23 (x := 0) rfl ?_
    refine i_287_25 (x := 0) rfl ?_
    refine i_287_26 (c := 6) W0_0 (by decide) ?_
    refine i_287_27 ?_
    refine i_287_29 (c := 0) (by decide) ?_
    refine i_287_30 (fun h => absurd h (by decide)) (fun _ => ?_)
    refine i_287_33 (x := 0) rfl ?_
    refine i_287_34 (x := 0) rfl ?_
    refine i_287_36 (v := Value.int (xs 0)) W0_0 (by decide) (by decide) rfl ?_
    refine i_287_37 ?_
    refine i_287_39 (c := 11) (show ((xs 0) &&& (31 : Int32)) = 11 from (xge_c (n := 11) h0 rfl)) ?_
    refine i_287_40_11 rfl ?_
    refine i_287_1149 (x := 7) rfl ?_
    refine i_287_1150 (x := 0) rfl ?_
    refine i_287_1151 (x := 0) rfl ?_
    refine i_287_1153 ?_
    refine i_287_1154 (c := 1) (by decide) ?_
    refine i_287_1155 (v := Value.int (xs 1)) W0_0 (by decide) (by decide) rfl ?_
    refine i_287_1156 (x := 0) rfl ?_
    refine i_287_1157 (x := 0) rfl ?_
    refine i_287_1159 ?_
    refine i_287_1160 (c := 2) (by decide) ?_
    refine i_287_1161 (v := Value.int (xs 2)) W0_0 (by decide) (by decide) rfl ?_
    refine i_287_1162 (x := 0) rfl ?_
    refine i_287_1163 (x := 0) rfl ?_
    refine i_287_1165 ?_
    refine i_287_1166 (c := 3) (by decide) ?_
    refine i_287_1167 (v := Value.int (xs 3)) W0_0 (by decide) (by decide) rfl ?_
    refine i_287_1168 (x := 0) rfl ?_
    refine i_287_1169 (x := 0) rfl ?_
    refine i_287_1171 ?_
    refine i_287_1172 (c := 4) (by decide) ?_
    refine i_287_1173 (v := Value.int (xs 4)) W0_0 (by decide) (by decide) rfl ?_
    refine i_287_1174 (x := 0) rfl ?_
    refine i_287_1175 (x := 0) rfl ?_
    refine i_287_1177 ?_
    refine i_287_1178 (c := 5) (by decide) ?_
    refine i_287_1179 (v := Value.int (xs 5)) W0_0 (by decide) (by decide) rfl ?_
    refine i_287_1180 (x := 194) rfl ?_
    refine i_287_1181 (Nat.le_of_ble_eq_true rfl) (p_114_22 W0_7 (G.1.1.1.1.1.1) (G.1.1.1.1.1.2) (G.1.1.1.1.2.1) (G.1.1.1.1.2.2) (G.1.1.1.2.1.1) (G.1.1.1.2.1.2) (show ((xs 2) + (xs 4)) = N6 from eN6) (G.1.1.1.2.2.1) (G.1.1.1.2.2.2.1) (G.1.1.1.2.2.2.2) (show ((xs 3) + (xs 4)) = N10 from eN10) (G.1.1.2.1.1.1) (G.1.1.2.1.1.2) (G.1.1.2.1.2.1) W0_19 W0_20 W0_22 (G.1.1.2.1.2.2.1) (show ((xs 2) + (0 : Int32)) = (xs 2) from (xadd_z _)) W0_8 (greg_at G.1.1.2.1.2.2.2) (show ((xs 3) + (0 : Int32)) = (xs 3) from (xadd_z _)) (greg_at G.1.1.2.2.1.1) (G.1.1.2.2.1.2) (G.1.1.2.2.2.1) (G.1.1.2.2.2.2.1) (W0_reg G.1.1.2.1.2.2.2) (G.1.1.2.2.2.2.2) (G.1.2.1.1.1.1) (G.1.2.1.1.1.2) (W0_reg G.1.1.2.2.1.1) (G.1.2.1.1.2.1) (show ((xs 2) + (1 : Int32)) = N15 from eN15) (G.1.2.1.1.2.2) (G.1.2.1.2.1.1) (greg_at G.1.2.1.2.1.2) (show ((xs 3) + (1 : Int32)) = N16 from eN16) (G.1.2.1.2.2.1) (G.1.2.1.2.2.2.1) (greg_at G.1.2.1.2.2.2.2) (G.1.2.2.1.1.1) (G.1.2.2.1.1.2) (G.1.2.2.1.2.1) (W0_reg G.1.2.1.2.1.2) (G.1.2.2.1.2.2.1) (G.1.2.2.1.2.2.2) (G.1.2.2.2.1.1) (W0_reg G.1.2.1.2.2.2.2) (G.1.2.2.2.1.2) (show ((xs 2) + (2 : Int32)) = N18 from eN18) (G.1.2.2.2.2.1) (G.1.2.2.2.2.2.1) (greg_at G.1.2.2.2.2.2.2) (show ((xs 3) + (2 : Int32)) = N19 from eN19) (G.2.1.1.1.1.1) (G.2.1.1.1.1.2) (greg_at G.2.1.1.1.2.1) (G.2.1.1.1.2.2) (G.2.1.1.2.1.1) (G.2.1.1.2.1.2) (W0_reg G.1.2.2.2.2.2.2) (G.2.1.1.2.2.1) (G.2.1.1.2.2.2.1) (G.2.1.1.2.2.2.2) (W0_reg G.2.1.1.1.2.1) (G.2.1.2.1.1.1) (greg_at G.2.1.2.1.1.2) (G.2.1.2.1.2.1) (G.2.1.2.1.2.2.1) (G.2.1.2.1.2.2.2) (W0_reg G.2.1.2.1.1.2) (G.2.1.2.2.1.1) (G.2.1.2.2.1.2) W0_194) ?_
    refine i_287_1184 (lv2 := [(5, Value.int 0), (4, Value.int 0), (3, Value.ref 194), (2, Value.ref 128), (1, Value.ref 7), (0, Value.ref 0)]) rfl ?_
    refine i_287_1186 (x := 128) rfl ?_
    refine i_287_1187 (x := 0) rfl ?_
    refine i_287_1188 (x := 0) rfl ?_
    refine i_287_1190 ?_
    refine i_287_1191 (c := 1) (by decide) ?_
    refine i_287_1192 (v := Value.int (xs 1)) (xgn (by decide) (xgn (G.2.1.2.2.2.1) (xgn (by decide) (xgn (by decide) (xgn (by decide) (xgn (by decide) (xgn (by decide) (xgn (by decide) W0_0)))))))) (by decide) (by decide) rfl ?_
    refine i_287_1193 (x := 0) rfl ?_
    refine i_287_1194 (x := 0) rfl ?_
    refine i_287_1196 ?_
    refine i_287_1197 (c := 2) (by decide) ?_
    refine i_287_1198 (v := Value.int (xs 2)) (xgn (by decide) (xgn (G.2.1.2.2.2.1) (xgn (by decide) (xgn (by decide) (xgn (by decide) (xgn (by decide) (xgn (by decide) (xgn (by decide) W0_0)))))))) (by decide) (by decide) rfl ?_
    refine i_287_1199 (x := 0) rfl ?_
    refine i_287_1200 (x := 0) rfl ?_
    refine i_287_1202 ?_
    refine i_287_1203 (c := 3) (by decide) ?_
    refine i_287_1204 (v := Value.int (xs 3)) (xgn (by decide) (xgn (G.2.1.2.2.2.1) (xgn (by decide) (xgn (by decide) (xgn (by decide) (xgn (by decide) (xgn (by decide) (xgn (by decide) W0_0)))))))) (by decide) (by decide) rfl ?_
    refine i_287_1205 (x := 0) rfl ?_
    refine i_287_1206 (x := 0) rfl ?_
    refine i_287_1208 ?_
    refine i_287_1209 (c := 4) (by decide) ?_
    refine i_287_1210 (v := Value.int (xs 4)) (xgn (by decide) (xgn (G.2.1.2.2.2.1) (xgn (by decide) (xgn (by decide) (xgn (by decide) (xgn (by decide) (xgn (by decide) (xgn (by decide) W0_0)))))))) (by decide) (by decide) rfl ?_
    refine i_287_1211 (x := 0) rfl ?_
    refine i_287_1212 (x := 0) rfl ?_
    refine i_287_1214 ?_
    refine i_287_1215 (c := 5) (by decide) ?_
    refine i_287_1216 (v := Value.int (xs 5)) (xgn (by decide) (xgn (G.2.1.2.2.2.1) (xgn (by decide) (xgn (by decide) (xgn (by decide) (xgn (by decide) (xgn (by decide) (xgn (by decide) W0_0)))))))) (by decide) (by decide) rfl ?_
    refine i_287_1217 (xgn (by decide) (xgn (G.2.1.2.2.2.2.1) (xgn (by decide) (xgn (by decide) (xgn (by decide) (xgn (by decide) (xgn (by decide) (xgn (by decide) W0_128)))))))) (Nat.le_of_ble_eq_true rfl) (p_230_23 (xgn (by decide) (xgn (G.2.1.2.2.2.2.1) (xgn (by decide) (xgn (by decide) (xgn (by decide) (xgn (by decide) (xgn (by decide) (xgn (by decide) W0_128)))))))) (G.1.1.1.1.1.1) (G.2.1.2.2.2.2.2) (G.1.1.1.1.2.1) (G.2.2.1.1.1.1) (G.1.1.1.2.2.2.1) (G.2.2.1.1.1.2) (G.1.1.1.2.1.1) (G.1.1.1.2.1.2) (show ((xs 2) + (xs 4)) = N6 from eN6) (G.1.1.1.2.2.1) (show ((xs 3) + (xs 4)) = N10 from eN10) (G.1.1.2.1.1.1) (G.1.1.2.1.1.2) (G.1.1.2.1.2.1) (G.1.1.2.1.2.2.1) (show ((xs 2) + (0 : Int32)) = (xs 2) from (xadd_z _)) (show ((xs 3) + (0 : Int32)) = (xs 3) from (xadd_z _)) (xgn (by decide) (xgn (G.2.2.1.1.2.1) (xgn (by decide) (xgn (by decide) (xgn (by decide) (xgn (by decide) (xgn (by decide) (xgn (by decide) W0_154)))))))) (G.2.2.1.1.2.2) (G.2.2.1.2.1.1) (xgn (by decide) (xgn (G.2.2.1.2.1.2) (xgn (by decide) (xgn (by decide) (xgn (by decide) (xgn (by decide) (xgn (by decide) (xgn (by decide) W0_156)))))))) (xgn (by decide) (xgn (G.2.2.1.2.2.1) (xgn (by decide) (xgn (by decide) (xgn (by decide) (xgn (by decide) (xgn (by decide) (xgn (by decide) W0_155)))))))) (xgn (by decide) (xgn (G.2.2.1.2.2.2.1) (xgn (by decide) (xgn (by decide) (xgn (by decide) (xgn (by decide) (xgn (by decide) (xgn (by decide) W0_153)))))))) (gprec_at G.2.2.1.2.2.2.2) (gprec_at G.2.2.2.1.1.1) (G.1.2.1.1.2.1) (show ((xs 2) + (1 : Int32)) = N15 from eN15) (show ((xs 3) + (1 : Int32)) = N16 from eN16) (G.1.2.1.1.2.2) (G.2.2.2.1.1.2) (G.1.2.1.2.2.1) (G.2.2.2.1.2.1) (gprec_at G.2.2.2.1.2.2.1) (gprec_at G.2.2.2.1.2.2.2) (G.1.2.2.2.1.2) (show ((xs 2) + (2 : Int32)) = N18 from eN18) (show ((xs 3) + (2 : Int32)) = N19 from eN19) (G.1.2.2.2.2.1) (G.2.2.2.2.1.1) (G.2.1.1.1.1.1) (G.2.2.2.2.1.2) (gprec_at G.2.2.2.2.2.1) (gprec_at G.2.2.2.2.2.2.1) (G.2.1.2.1.1.1) (G.2.2.2.2.2.2.2)) ?_
    refine i_287_1220 (lv2 := [(6, Value.int 0), (5, Value.int 0), (4, Value.int 0), (3, Value.ref 194), (2, Value.ref 128), (1, Value.ref 7), (0, Value.ref 0)]) rfl ?_
    refine i_287_1222 (x := 128) rfl ?_
    refine i_287_1223 (xgn (by decide) (xgn (by decide) (xgs (xgn (by decide) (xgn (G.2.1.2.2.2.2.1) (xgn (by decide) (xgn (by decide) (xgn (by decide) (xgn (by decide) (xgn (by decide) (xgn (by decide) W0_128))))))))))) (Nat.le_of_ble_eq_true rfl) (p_165_1 (xgn (by decide) (xgn (by decide) (xgs (xgn (by decide) (xgn (G.2.1.2.2.2.2.1) (xgn (by decide) (xgn (by decide) (xgn (by decide) (xgn (by decide) (xgn (by decide) (xgn (by decide) W0_128)))))))))))) ?_
    refine i_287_1226 (x := 0) rfl ?_
    refine i_287_1228 (fun _ => ?_) (fun h => absurd h (by decide))
    refine i_287_1233 (x := 0) rfl ?_
    refine i_287_1235 (fun h => absurd h (by decide)) (fun _ => ?_)
    refine i_287_1238 (x := 194) rfl ?_
    refine i_287_1239 ?_
    refine i_287_1240 (v := Value.long 0) (xgn (by decide) (xgn (by decide) (xgn (by decide) (xgs (xgn (G.2.1.2.2.1.2) (xgn (by decide) (xgn (by decide) (xgn (by decide) (xgn (by decide) (xgn (by decide) (xgn (by decide) W0_194))))))))))) (by decide) (by decide) xup_s ?_
    refine i_287_1241 (x := 0) rfl ?_
    refine i_287_1243 (c := 0) (by decide) ?_
    refine i_287_1244 (c := 0) (by decide) ?_
    refine i_287_1245 (fun _ => ?_) (fun h => absurd h (by decide))
    refine i_287_1250 ?_
    refine i_287_2154 (x := 0) (c := 6) (lv2 := [(4, Value.int 6), (6, Value.int 0), (5, Value.int 0), (3, Value.ref 194), (2, Value.ref 128), (1, Value.ref 7), (0, Value.ref 0)]) rfl (by decide) rfl ?_
    refine i_287_2157 ?_
    refine i_287_23 (x := 6) rfl ?_
    refine i_287_25 (x := 0) rfl ?_
    refine i_287_26 (c := 6) (xgn (by decide) (xgn (by decide) (xgn (by decide) (xgn (by decide) (xgn (G.2.1.2.2.2.1) (xgn (by decide) (xgn (by decide) (xgn (by decide) (xgn (by decide) (xgn (by decide) (xgn (by decide) W0_0))))))))))) (by decide) ?_
    refine i_287_27 ?_
    refine i_287_29 (c := 0) (by decide) ?_
    refine i_287_30 (fun _ => ?_) (fun h => absurd h (by decide))
    refine i_287_2160 ?_
    exact i_287_2161 rfl ⟨rfl, rfl⟩
  · refine xLs.set ?_ (xgn (by decide) (xgn (by decide) (xgn (by decide) (xgn (G.2.2.1.2.1.2) (xgn (by decide) (xgn (by decide) (xgn (by decide) (xgn (by decide) (xgn (by decide) (xgn (by decide) W0_156)))))))))) xcs_a
    refine xLs.set ?_ (xgn (by decide) (xgn (by decide) (xgn (G.2.2.1.1.2.1) (xgn (by decide) (xgn (by decide) (xgn (by decide) (xgn (by decide) (xgn (by decide) (xgn (by decide) W0_154))))))))) xcs_a
    refine xLs.set ?_ (xgn (by decide) (xgn (G.2.1.2.2.2.2.1) (xgn (by decide) (xgn (by decide) (xgn (by decide) (xgn (by decide) (xgn (by decide) (xgn (by decide) W0_128)))))))) xcs_o
    refine xLs.set ?_ (xgn (G.2.1.2.2.1.2) (xgn (by decide) (xgn (by decide) (xgn (by decide) (xgn (by decide) (xgn (by decide) (xgn (by decide) W0_194))))))) xcs_a
    refine xLs.set ?_ (xgn (G.2.1.2.1.2.1) (xgn (G.2.1.2.1.2.1) (xgn (G.2.1.2.1.2.1) (xgn (G.2.1.2.1.2.1) (xgn (G.2.1.2.1.2.2.1) (xgn (G.2.1.2.1.2.2.2) (W0_reg G.2.1.2.1.1.2))))))) xcs_o
    refine xLs.set ?_ (xgs (xgs (xgs (xgn (by decide) (xgn (by decide) W0_19))))) xcs_o
    refine xLs.set ?_ (xgs (xgs (xgn (by decide) (xgn (by decide) W0_19)))) xcs_o
    refine xLs.set ?_ (xgs (xgn (by decide) (xgn (by decide) W0_19))) xcs_o
    refine xLs.set ?_ (xgn (by decide) (xgn (by decide) W0_19)) xcs_o
    refine xLs.set ?_ (xgn (by decide) W0_22) xcs_o
    refine xLs.set ?_ (W0_20) xcs_o
    exact ⟨Nat.le_trans (Nat.le_of_eq W0_len) (by decide), Nat.le_trans (Nat.le_of_eq W0_sz) (by decide)⟩
theorem p_115_23 {d : Nat} {w : xW} {a0 : Int32} {a1 : Int32} {a2 : Int32} {a3 : Int32} {a4 : Int32} {a5 : Int32} {a6 : Int32} {g0 : Nat → Value} {h0 : Nat} {h1 : Nat} {h2 : Nat} {h3 : Nat} {a7 : Int32} {h4 : Nat} {a8 : Int32} {h5 : Nat} {h6 : Nat} {h7 : Nat} {h8 : Nat} {h9 : Nat} (e0 : 0 ≤ a0.toInt) (e1 : a0.toInt < 16) (e2 : 0 ≤ a1.toInt) (e3 : a1.toInt < 16) (e4 : 1 ≤ a3.toInt) (e5 : a3.toInt ≤ 16) (hg6 : (a1 + a3) = a5) (e7 : a5.toInt ≤ 16) (e8 : 0 ≤ a2.toInt) (e9 : a2.toInt < 16) (hg10 : (a2 + a3) = a6) (e11 : a6.toInt ≤ 16) (e12 : 0 ≤ a4.toInt) (e13 : a4.toInt ≤ 4) (hw14 : w[7]? = some (Sum.inr (0, [Value.ref 8, Value.ref 78, Value.ref 9, Value.ref 10, Value.ref 13, Value.ref 16, Value.ref 19, Value.ref 93, Value.ref 108, Value.ref 113, Value.ref 29, Value.int 0]))) (hw15 : w[19]? = some (Sum.inr (5, [Value.ref 20, Value.ref 22, Value.ref 24, Value.ref 26, Value.int 0, Value.int 0, Value.int 0, Value.int 0, Value.int 0, Value.int 0, Value.int 0, Value.int 0]))) (hw16 : w[20]? = some (Sum.inr (3, [Value.ref 21, Value.int 0]))) (hw17 : w[22]? = some (Sum.inr (3, [Value.ref 23, Value.int 0]))) (e18 : 0 < a3.toInt) (hg19 : (a1 + (0 : Int32)) = a1) (hw20 : w[8]? = some (Sum.inl (4, 16, g0))) (hg21 : g0 a1.toInt.toNat = Value.ref h0) (hg22 : (a2 + (0 : Int32)) = a2) (hg23 : g0 a2.toInt.toNat = Value.ref h1) (e24 : 19 ≠ h0) (e25 : 22 ≠ h0) (e26 : 20 ≠ h0) (hw27 : w[h0]? = some (Sum.inr (2, [Value.int 64, Value.int 0, Value.int 0, Value.int 0, Value.ref h2]))) (e28 : 19 ≠ h1) (e29 : 22 ≠ h1) (e30 : 20 ≠ h1) (hw31 : w[h1]? = some (Sum.inr (2, [Value.int 64, Value.int 0, Value.int 0, Value.int 0, Value.ref h3]))) (e32 : 1 < a3.toInt) (hg33 : (a1 + (1 : Int32)) = a7) (e34 : 0 ≤ a7.toInt) (e35 : a7.toInt < 16) (hg36 : g0 a7.toInt.toNat = Value.ref h4) (hg37 : (a2 + (1 : Int32)) = a8) (e38 : 0 ≤ a8.toInt) (e39 : a8.toInt < 16) (hg40 : g0 a8.toInt.toNat = Value.ref h5) (e41 : 19 ≠ h4) (e42 : 22 ≠ h4) (e43 : 20 ≠ h4) (hw44 : w[h4]? = some (Sum.inr (2, [Value.int 64, Value.int 0, Value.int 0, Value.int 0, Value.ref h6]))) (e45 : 19 ≠ h5) (e46 : 22 ≠ h5) (e47 : 20 ≠ h5) (hw48 : w[h5]? = some (Sum.inr (2, [Value.int 64, Value.int 0, Value.int 0, Value.int 0, Value.ref h7]))) (e49 : a3.toInt ≤ 2) (hg50 : g0 a0.toInt.toNat = Value.ref h8) (e51 : 19 ≠ h8) (e52 : 22 ≠ h8) (e53 : 20 ≠ h8) (hw54 : w[h8]? = some (Sum.inr (2, [Value.int 64, Value.int 0, Value.int 0, Value.int 0, Value.ref h9]))) (e55 : 7 ≤ h8) : xRun (d + 3) 115 [Value.ref 7, Value.int a0, Value.int a1, Value.int a2, Value.int a3, Value.int a4] w (.inl (some (Value.int 0))) ((((((w.set 20 (Sum.inr (3, [Value.ref 21, Value.int 0]))).set 22 (Sum.inr (3, [Value.ref 23, Value.int 0]))).set 19 (Sum.inr (5, [Value.ref 20, Value.ref 22, Value.ref 24, Value.ref 26, Value.int 0, Value.int 0, Value.int 0, Value.int 0, Value.int 0, Value.int 0, Value.int 0, Value.int 0]))).set 19 (Sum.inr (5, [Value.ref 20, Value.ref 22, Value.ref 24, Value.ref 26, Value.int 0, Value.int 1, Value.int 0, Value.int 0, Value.int 0, Value.int 0, Value.int 0, Value.int 0]))).set 19 (Sum.inr (5, [Value.ref 20, Value.ref 22, Value.ref 24, Value.ref 26, Value.int 0, Value.int 1, Value.int 0, Value.int 0, Value.int 0, Value.int 0, Value.int 0, Value.int 0]))).set h8 (Sum.inr (2, [Value.int 64, Value.int 0, Value.int 0, Value.int 0, Value.ref h9]))) := by
  refine xRun.of ?_
  refine i_115_0 (x := a0) rfl ?_
  refine i_115_1 (Nat.le_of_ble_eq_true rfl) (p_15_1 e0 e1) ?_
  refine i_115_4 (fun h => absurd h (by decide)) (fun _ => ?_)
  refine i_115_7 (x := a1) rfl ?_
  refine i_115_8 (x := a3) rfl ?_
  refine i_115_10 (Nat.le_of_ble_eq_true rfl) (p_113_4 e2 e3 e4 e5 hg6 e7) ?_
  refine i_115_13 (fun h => absurd h (by decide)) (fun _ => ?_)
  refine i_115_16 (x := a2) rfl ?_
  refine i_115_17 (x := a3) rfl ?_
  refine i_115_19 (Nat.le_of_ble_eq_true rfl) (p_113_4 e8 e9 e4 e5 hg10 e11) ?_
  refine i_115_22 (fun h => absurd h (by decide)) (fun _ => ?_)
  refine i_115_25 (x := a4) rfl ?_
  refine i_115_27 (Nat.le_of_ble_eq_true rfl) (p_22_2 e12 e13) ?_
  refine i_115_30 (fun _ => ?_) (fun h => absurd h (by decide))
  refine i_115_41 (x := 7) rfl ?_
  refine i_115_42 (v := Value.ref 19) hw14 rfl ?_
  refine i_115_45 hw15 (Nat.le_of_ble_eq_true rfl) (p_59_0 hw15 hw16 hw17) ?_
  refine i_115_48 ?_
  refine i_115_49 (lv2 := [(6, Value.int 0), (0, Value.ref 7), (1, Value.int a0), (2, Value.int a1), (3, Value.int a2), (4, Value.int a3), (5, Value.int a4)]) rfl ?_
  refine i_115_51 (x := 0) rfl ?_
  refine i_115_53 (x := a3) rfl ?_
  refine i_115_55 (fun h => absurd e18 (Int.not_lt.mpr h)) (fun _ => ?_)
  refine i_115_58 (x := 7) rfl ?_
  refine i_115_59 (v := Value.ref 19) (xgn (by decide) (xgn (by decide) (xgn (by decide) hw14))) rfl ?_
  refine i_115_62 (x := 7) rfl ?_
  refine i_115_63 (v := Value.ref 8) (xgn (by decide) (xgn (by decide) (xgn (by decide) hw14))) rfl ?_
  refine i_115_66 (x := a1) rfl ?_
  refine i_115_67 (x := 0) rfl ?_
  refine i_115_69 (c := a1) hg19 ?_
  refine i_115_70 (v := Value.ref h0) (xgn (by decide) (xgn (by decide) (xgn (by decide) hw20))) e2 e3 hg21 ?_
  refine i_115_71 (x := 7) rfl ?_
  refine i_115_72 (v := Value.ref 8) (xgn (by decide) (xgn (by decide) (xgn (by decide) hw14))) rfl ?_
  refine i_115_75 (x := a2) rfl ?_
  refine i_115_76 (x := 0) rfl ?_
  refine i_115_78 (c := a2) hg22 ?_
  refine i_115_79 (v := Value.ref h1) (xgn (by decide) (xgn (by decide) (xgn (by decide) hw20))) e8 e9 hg23 ?_
  refine i_115_80 (xgs (xgn (by decide) (xgn (by decide) hw15))) (Nat.le_of_ble_eq_true rfl) (p_96_0 (xgn e24 (xgn e25 (xgn e26 hw27))) (xgn e28 (xgn e29 (xgn e30 hw31))) (xgs (xgn (by decide) (xgn (by decide) hw15)))) ?_
  refine i_115_83 (x := 0) (c := 1) (lv2 := [(6, Value.int 1), (0, Value.ref 7), (1, Value.int a0), (2, Value.int a1), (3, Value.int a2), (4, Value.int a3), (5, Value.int a4)]) rfl (by decide) rfl ?_
  refine i_115_86 ?_
  refine i_115_51 (x := 1) rfl ?_
  refine i_115_53 (x := a3) rfl ?_
  refine i_115_55 (fun h => absurd e32 (Int.not_lt.mpr h)) (fun _ => ?_)
  refine i_115_58 (x := 7) rfl ?_
  refine i_115_59 (v := Value.ref 19) (xgn (by decide) (xgn (by decide) (xgn (by decide) (xgn (by decide) hw14)))) rfl ?_
  refine i_115_62 (x := 7) rfl ?_
  refine i_115_63 (v := Value.ref 8) (xgn (by decide) (xgn (by decide) (xgn (by decide) (xgn (by decide) hw14)))) rfl ?_
  refine i_115_66 (x := a1) rfl ?_
  refine i_115_67 (x := 1) rfl ?_
  refine i_115_69 (c := a7) hg33 ?_
  refine i_115_70 (v := Value.ref h4) (xgn (by decide) (xgn (by decide) (xgn (by decide) (xgn (by decide) hw20)))) e34 e35 hg36 ?_
  refine i_115_71 (x := 7) rfl ?_
  refine i_115_72 (v := Value.ref 8) (xgn (by decide) (xgn (by decide) (xgn (by decide) (xgn (by decide) hw14)))) rfl ?_
  refine i_115_75 (x := a2) rfl ?_
  refine i_115_76 (x := 1) rfl ?_
  refine i_115_78 (c := a8) hg37 ?_
  refine i_115_79 (v := Value.ref h5) (xgn (by decide) (xgn (by decide) (xgn (by decide) (xgn (by decide) hw20)))) e38 e39 hg40 ?_
  refine i_115_80 (xgs (xgs (xgn (by decide) (xgn (by decide) hw15)))) (Nat.le_of_ble_eq_true rfl) (p_96_1 (xgn e41 (xgn e41 (xgn e42 (xgn e43 hw44)))) (xgn e45 (xgn e45 (xgn e46 (xgn e47 hw48)))) (xgs (xgs (xgn (by decide) (xgn (by decide) hw15))))) ?_
  refine i_115_83 (x := 1) (c := 2) (lv2 := [(6, Value.int 2), (0, Value.ref 7), (1, Value.int a0), (2, Value.int a1), (3, Value.int a2), (4, Value.int a3), (5, Value.int a4)]) rfl (by decide) rfl ?_
  refine i_115_86 ?_
  refine i_115_51 (x := 2) rfl ?_
  refine i_115_53 (x := a3) rfl ?_
  refine i_115_55 (fun _ => ?_) (fun h => absurd e49 (Int.not_le.mpr h))
  refine i_115_89 (x := 7) rfl ?_
  refine i_115_90 (v := Value.ref 19) (xgn (by decide) (xgn (by decide) (xgn (by decide) (xgn (by decide) (xgn (by decide) hw14))))) rfl ?_
  refine i_115_93 (x := 7) rfl ?_
  refine i_115_94 (v := Value.ref 78) (xgn (by decide) (xgn (by decide) (xgn (by decide) (xgn (by decide) (xgn (by decide) hw14))))) rfl ?_
  refine i_115_97 (x := 7) rfl ?_
  refine i_115_98 (v := Value.ref 8) (xgn (by decide) (xgn (by decide) (xgn (by decide) (xgn (by decide) (xgn (by decide) hw14))))) rfl ?_
  refine i_115_101 (x := a0) rfl ?_
  refine i_115_102 (v := Value.ref h8) (xgn (by decide) (xgn (by decide) (xgn (by decide) (xgn (by decide) (xgn (by decide) hw20))))) e0 e1 hg50 ?_
  refine i_115_103 (x := a4) rfl ?_
  refine i_115_105 (xgs (xgs (xgs (xgn (by decide) (xgn (by decide) hw15))))) (Nat.le_of_ble_eq_true rfl) (p_64_0 (xgs (xgs (xgs (xgn (by decide) (xgn (by decide) hw15))))) (xgn e51 (xgn e51 (xgn e51 (xgn e52 (xgn e53 hw54))))) e55) ?_
  exact i_115_108 ⟨rfl, rfl⟩
theorem p_114_23 {d : Nat} {w : xW} {a0 : Int32} {a1 : Int32} {a2 : Int32} {a3 : Int32} {a4 : Int32} {a5 : Int32} {a6 : Int32} {g0 : Nat → Value} {h0 : Nat} {h1 : Nat} {h2 : Nat} {h3 : Nat} {a7 : Int32} {h4 : Nat} {a8 : Int32} {h5 : Nat} {h6 : Nat} {h7 : Nat} {h8 : Nat} {h9 : Nat} (hw0 : w[7]? = some (Sum.inr (0, [Value.ref 8, Value.ref 78, Value.ref 9, Value.ref 10, Value.ref 13, Value.ref 16, Value.ref 19, Value.ref 93, Value.ref 108, Value.ref 113, Value.ref 29, Value.int 0]))) (e1 : 0 ≤ a0.toInt) (e2 : a0.toInt < 16) (e3 : 0 ≤ a1.toInt) (e4 : a1.toInt < 16) (e5 : 1 ≤ a3.toInt) (e6 : a3.toInt ≤ 16) (hg7 : (a1 + a3) = a5) (e8 : a5.toInt ≤ 16) (e9 : 0 ≤ a2.toInt) (e10 : a2.toInt < 16) (hg11 : (a2 + a3) = a6) (e12 : a6.toInt ≤ 16) (e13 : 0 ≤ a4.toInt) (e14 : a4.toInt ≤ 4) (hw15 : w[19]? = some (Sum.inr (5, [Value.ref 20, Value.ref 22, Value.ref 24, Value.ref 26, Value.int 0, Value.int 0, Value.int 0, Value.int 0, Value.int 0, Value.int 0, Value.int 0, Value.int 0]))) (hw16 : w[20]? = some (Sum.inr (3, [Value.ref 21, Value.int 0]))) (hw17 : w[22]? = some (Sum.inr (3, [Value.ref 23, Value.int 0]))) (e18 : 0 < a3.toInt) (hg19 : (a1 + (0 : Int32)) = a1) (hw20 : w[8]? = some (Sum.inl (4, 16, g0))) (hg21 : g0 a1.toInt.toNat = Value.ref h0) (hg22 : (a2 + (0 : Int32)) = a2) (hg23 : g0 a2.toInt.toNat = Value.ref h1) (e24 : 19 ≠ h0) (e25 : 22 ≠ h0) (e26 : 20 ≠ h0) (hw27 : w[h0]? = some (Sum.inr (2, [Value.int 64, Value.int 0, Value.int 0, Value.int 0, Value.ref h2]))) (e28 : 19 ≠ h1) (e29 : 22 ≠ h1) (e30 : 20 ≠ h1) (hw31 : w[h1]? = some (Sum.inr (2, [Value.int 64, Value.int 0, Value.int 0, Value.int 0, Value.ref h3]))) (e32 : 1 < a3.toInt) (hg33 : (a1 + (1 : Int32)) = a7) (e34 : 0 ≤ a7.toInt) (e35 : a7.toInt < 16) (hg36 : g0 a7.toInt.toNat = Value.ref h4) (hg37 : (a2 + (1 : Int32)) = a8) (e38 : 0 ≤ a8.toInt) (e39 : a8.toInt < 16) (hg40 : g0 a8.toInt.toNat = Value.ref h5) (e41 : 19 ≠ h4) (e42 : 22 ≠ h4) (e43 : 20 ≠ h4) (hw44 : w[h4]? = some (Sum.inr (2, [Value.int 64, Value.int 0, Value.int 0, Value.int 0, Value.ref h6]))) (e45 : 19 ≠ h5) (e46 : 22 ≠ h5) (e47 : 20 ≠ h5) (hw48 : w[h5]? = some (Sum.inr (2, [Value.int 64, Value.int 0, Value.int 0, Value.int 0, Value.ref h7]))) (e49 : a3.toInt ≤ 2) (hg50 : g0 a0.toInt.toNat = Value.ref h8) (e51 : 19 ≠ h8) (e52 : 22 ≠ h8) (e53 : 20 ≠ h8) (hw54 : w[h8]? = some (Sum.inr (2, [Value.int 64, Value.int 0, Value.int 0, Value.int 0, Value.ref h9]))) (e55 : 7 ≤ h8) (e56 : h8 ≠ 194) (hw57 : w[194]? = some (Sum.inl (3, 1, fun _ => Value.long 0))) : xRun (d + 4) 114 [Value.ref 7, Value.int a0, Value.int a1, Value.int a2, Value.int a3, Value.int a4, Value.ref 194] w (.inl (some (Value.int 0))) (((((((w.set 20 (Sum.inr (3, [Value.ref 21, Value.int 0]))).set 22 (Sum.inr (3, [Value.ref 23, Value.int 0]))).set 19 (Sum.inr (5, [Value.ref 20, Value.ref 22, Value.ref 24, Value.ref 26, Value.int 0, Value.int 0, Value.int 0, Value.int 0, Value.int 0, Value.int 0, Value.int 0, Value.int 0]))).set 19 (Sum.inr (5, [Value.ref 20, Value.ref 22, Value.ref 24, Value.ref 26, Value.int 0, Value.int 1, Value.int 0, Value.int 0, Value.int 0, Value.int 0, Value.int 0, Value.int 0]))).set 19 (Sum.inr (5, [Value.ref 20, Value.ref 22, Value.ref 24, Value.ref 26, Value.int 0, Value.int 1, Value.int 0, Value.int 0, Value.int 0, Value.int 0, Value.int 0, Value.int 0]))).set h8 (Sum.inr (2, [Value.int 64, Value.int 0, Value.int 0, Value.int 0, Value.ref h9]))).set 194 (Sum.inl (3, 1, xup (fun _ => Value.long 0) (0 : Int32).toInt.toNat (Value.long 0)))) := by
  refine xRun.of ?_
  refine i_114_0 (x := 194) rfl ?_
  refine i_114_2 ?_
  refine i_114_3 (x := 7) rfl ?_
  refine i_114_4 (x := a0) rfl ?_
  refine i_114_5 (x := a1) rfl ?_
  refine i_114_6 (x := a2) rfl ?_
  refine i_114_7 (x := a3) rfl ?_
  refine i_114_9 (x := a4) rfl ?_
  refine i_114_11 hw0 (Nat.le_of_ble_eq_true rfl) (p_115_23 e1 e2 e3 e4 e5 e6 hg7 e8 e9 e10 hg11 e12 e13 e14 hw0 hw15 hw16 hw17 e18 hg19 hw20 hg21 hg22 hg23 e24 e25 e26 hw27 e28 e29 e30 hw31 e32 hg33 e34 e35 hg36 hg37 e38 e39 hg40 e41 e42 e43 hw44 e45 e46 e47 hw48 e49 hg50 e51 e52 e53 hw54 e55) ?_
  refine i_114_14 (c := 0) (by decide) ?_
  refine i_114_15 (v := Value.long 0) (xgn e56 (xgn (by decide) (xgn (by decide) (xgn (by decide) (xgn (by decide) (xgn (by decide) hw57)))))) (by decide) (by decide) (by decide) rfl ?_
  refine i_114_16 ?_
  refine i_114_23 ?_
  exact i_114_24 ⟨rfl, rfl⟩
theorem p_231_24 {d : Nat} {w : xW} {a0 : Int32} {a1 : Int32} {a2 : Int32} {a3 : Int32} {a4 : Int32} {a5 : Int32} {a6 : Int32} {g0 : Nat → Value} {a7 : Int32} {a8 : Int32} (e0 : 0 ≤ a0.toInt) (e1 : a0.toInt ≤ 15) (e2 : 0 ≤ a1.toInt) (e3 : a1.toInt ≤ 15) (e4 : 0 ≤ a2.toInt) (e5 : a2.toInt ≤ 15) (e6 : 1 ≤ a3.toInt) (e7 : a3.toInt ≤ 16) (hg8 : (a1 + a3) = a5) (e9 : a5.toInt ≤ 16) (hg10 : (a2 + a3) = a6) (e11 : a6.toInt ≤ 16) (e12 : 0 ≤ a4.toInt) (e13 : a4.toInt ≤ 4) (e14 : 0 < a3.toInt) (hg15 : (a1 + (0 : Int32)) = a1) (hg16 : (a2 + (0 : Int32)) = a2) (hw17 : w[128]? = some (Sum.inr (12, [Value.ref 129, Value.ref 131, Value.ref 133, Value.ref 135, Value.ref 137, Value.ref 139, Value.ref 141, Value.ref 143, Value.ref 145, Value.ref 147, Value.ref 149, Value.ref 151, Value.ref 153, Value.ref 154, Value.ref 155, Value.ref 156, Value.ref 157, Value.int (-16384), Value.int 16384, Value.int 0, Value.int 0, Value.int 0, Value.ref 158, Value.ref 159, Value.int 0, Value.int 0, Value.int 0, Value.int 0, Value.int 0, Value.int 0, Value.int 0, Value.int 0]))) (hw18 : w[154]? = some (Sum.inl (0, 17, fun _ => Value.int 0))) (e19 : a1.toInt < 17) (e20 : a2.toInt < 17) (hw21 : w[156]? = some (Sum.inl (2, 17, fun _ => Value.int 0))) (hw22 : w[155]? = some (Sum.inl (0, 17, fun _ => Value.int 0))) (hw23 : w[153]? = some (Sum.inl (0, 17, g0))) (hg24 : g0 a1.toInt.toNat = Value.int 64) (hg25 : g0 a2.toInt.toNat = Value.int 64) (e26 : 1 < a3.toInt) (hg27 : (a1 + (1 : Int32)) = a7) (hg28 : (a2 + (1 : Int32)) = a8) (e29 : 0 ≤ a7.toInt) (e30 : a7.toInt < 17) (e31 : 0 ≤ a8.toInt) (e32 : a8.toInt < 17) (hg33 : g0 a7.toInt.toNat = Value.int 64) (hg34 : g0 a8.toInt.toNat = Value.int 64) (e35 : a3.toInt ≤ 2) (e36 : a0.toInt < 17) : xRun (d + 2) 231 [Value.ref 128, Value.int a0, Value.int a1, Value.int a2, Value.int a3, Value.int a4] w (.inl (some (Value.int 0))) ((w.set 154 (Sum.inl (0, 17, xup (fun _ => Value.int 0) a0.toInt.toNat (Value.int 0)))).set 156 (Sum.inl (2, 17, xup (fun _ => Value.int 0) a0.toInt.toNat (Value.int 0)))) := by
  refine xRun.of ?_
  refine i_231_0 (x := a0) rfl ?_
  refine i_231_1 (Nat.le_of_ble_eq_true rfl) (p_168_1 e0 e1) ?_
  refine i_231_4 (x := a1) rfl ?_
  refine i_231_5 (Nat.le_of_ble_eq_true rfl) (p_168_1 e2 e3) ?_
  refine i_231_8 (x := a2) rfl ?_
  refine i_231_9 (Nat.le_of_ble_eq_true rfl) (p_168_1 e4 e5) ?_
  refine i_231_12 (x := a3) rfl ?_
  refine i_231_14 ?_
  refine i_231_15 ?_
  refine i_231_17 (Nat.le_of_ble_eq_true rfl) (p_169_44 e6 e7) ?_
  refine i_231_20 (fun h => absurd h (by decide)) (fun _ => ?_)
  refine i_231_23 (x := a1) rfl ?_
  refine i_231_24 (x := a3) rfl ?_
  refine i_231_26 (c := a5) hg8 ?_
  refine i_231_27 ?_
  refine i_231_29 (fun h => absurd e9 (Int.not_le.mpr h)) (fun _ => ?_)
  refine i_231_32 (x := a2) rfl ?_
  refine i_231_33 (x := a3) rfl ?_
  refine i_231_35 (c := a6) hg10 ?_
  refine i_231_36 ?_
  refine i_231_38 (fun h => absurd e11 (Int.not_le.mpr h)) (fun _ => ?_)
  refine i_231_41 ?_
  refine i_231_42 ?_
  refine i_231_46 (Nat.le_of_ble_eq_true rfl) (p_170_1) ?_
  refine i_231_49 (x := a4) rfl ?_
  refine i_231_51 (Nat.le_of_ble_eq_true rfl) (p_178_2 e12 e13) ?_
  refine i_231_54 ?_
  refine i_231_57 (lv2 := [(6, Value.int 2147483647), (0, Value.ref 128), (1, Value.int a0), (2, Value.int a1), (3, Value.int a2), (4, Value.int a3), (5, Value.int a4)]) rfl ?_
  refine i_231_59 ?_
  refine i_231_60 (lv2 := [(7, Value.int 0), (6, Value.int 2147483647), (0, Value.ref 128), (1, Value.int a0), (2, Value.int a1), (3, Value.int a2), (4, Value.int a3), (5, Value.int a4)]) rfl ?_
  refine i_231_62 ?_
  refine i_231_63 (lv2 := [(8, Value.int 0), (7, Value.int 0), (6, Value.int 2147483647), (0, Value.ref 128), (1, Value.int a0), (2, Value.int a1), (3, Value.int a2), (4, Value.int a3), (5, Value.int a4)]) rfl ?_
  refine i_231_65 ?_
  refine i_231_66 (lv2 := [(9, Value.int 0), (8, Value.int 0), (7, Value.int 0), (6, Value.int 2147483647), (0, Value.ref 128), (1, Value.int a0), (2, Value.int a1), (3, Value.int a2), (4, Value.int a3), (5, Value.int a4)]) rfl ?_
  refine i_231_68 ?_
  refine i_231_69 (lv2 := [(10, Value.int 0), (9, Value.int 0), (8, Value.int 0), (7, Value.int 0), (6, Value.int 2147483647), (0, Value.ref 128), (1, Value.int a0), (2, Value.int a1), (3, Value.int a2), (4, Value.int a3), (5, Value.int a4)]) rfl ?_
  refine i_231_71 ?_
  refine i_231_72 (lv2 := [(11, Value.int 0), (10, Value.int 0), (9, Value.int 0), (8, Value.int 0), (7, Value.int 0), (6, Value.int 2147483647), (0, Value.ref 128), (1, Value.int a0), (2, Value.int a1), (3, Value.int a2), (4, Value.int a3), (5, Value.int a4)]) rfl ?_
  refine i_231_74 (x := 0) rfl ?_
  refine i_231_76 (x := a3) rfl ?_
  refine i_231_78 (fun h => absurd e14 (Int.not_lt.mpr h)) (fun _ => ?_)
  refine i_231_81 (x := a1) rfl ?_
  refine i_231_82 (x := 0) rfl ?_
  refine i_231_84 (c := a1) hg15 ?_
  refine i_231_85 (lv2 := [(12, Value.int a1), (11, Value.int 0), (10, Value.int 0), (9, Value.int 0), (8, Value.int 0), (7, Value.int 0), (6, Value.int 2147483647), (0, Value.ref 128), (1, Value.int a0), (2, Value.int a1), (3, Value.int a2), (4, Value.int a3), (5, Value.int a4)]) rfl ?_
  refine i_231_87 (x := a2) rfl ?_
  refine i_231_88 (x := 0) rfl ?_
  refine i_231_90 (c := a2) hg16 ?_
  refine i_231_91 (lv2 := [(13, Value.int a2), (12, Value.int a1), (11, Value.int 0), (10, Value.int 0), (9, Value.int 0), (8, Value.int 0), (7, Value.int 0), (6, Value.int 2147483647), (0, Value.ref 128), (1, Value.int a0), (2, Value.int a1), (3, Value.int a2), (4, Value.int a3), (5, Value.int a4)]) rfl ?_
  refine i_231_93 (x := 0) rfl ?_
  refine i_231_95 (x := 128) rfl ?_
  refine i_231_96 (v := Value.ref 154) hw17 rfl ?_
  refine i_231_99 (x := a1) rfl ?_
  refine i_231_101 (v := Value.int 0) hw18 e2 e19 rfl ?_
  refine i_231_102 (fun _ => ?_) (fun h => absurd h (by decide))
  refine i_231_115 ?_
  refine i_231_116 ?_
  refine i_231_120 (c := 1) (by decide) ?_
  refine i_231_121 (lv2 := [(9, Value.int 1), (13, Value.int a2), (12, Value.int a1), (11, Value.int 0), (10, Value.int 0), (8, Value.int 0), (7, Value.int 0), (6, Value.int 2147483647), (0, Value.ref 128), (1, Value.int a0), (2, Value.int a1), (3, Value.int a2), (4, Value.int a3), (5, Value.int a4)]) rfl ?_
  refine i_231_123 (x := 128) rfl ?_
  refine i_231_124 (v := Value.ref 154) hw17 rfl ?_
  refine i_231_127 (x := a1) rfl ?_
  refine i_231_129 (v := Value.int 0) hw18 e2 e19 rfl ?_
  refine i_231_130 ?_
  refine i_231_131 (fun h => absurd h (by decide)) (fun _ => ?_)
  refine i_231_134 (x := 128) rfl ?_
  refine i_231_135 (v := Value.ref 154) hw17 rfl ?_
  refine i_231_138 (x := a2) rfl ?_
  refine i_231_140 (v := Value.int 0) hw18 e4 e20 rfl ?_
  refine i_231_141 ?_
  refine i_231_142 (fun _ => ?_) (fun h => absurd h (by decide))
  refine i_231_149 ?_
  refine i_231_150 (lv2 := [(14, Value.int 0), (9, Value.int 1), (13, Value.int a2), (12, Value.int a1), (11, Value.int 0), (10, Value.int 0), (8, Value.int 0), (7, Value.int 0), (6, Value.int 2147483647), (0, Value.ref 128), (1, Value.int a0), (2, Value.int a1), (3, Value.int a2), (4, Value.int a3), (5, Value.int a4)]) rfl ?_
  refine i_231_152 (x := 128) rfl ?_
  refine i_231_153 (v := Value.ref 154) hw17 rfl ?_
  refine i_231_156 (x := a1) rfl ?_
  refine i_231_158 (v := Value.int 0) hw18 e2 e19 rfl ?_
  refine i_231_159 ?_
  refine i_231_160 (fun h => absurd h (by decide)) (fun _ => ?_)
  refine i_231_163 (x := 128) rfl ?_
  refine i_231_164 (v := Value.ref 154) hw17 rfl ?_
  refine i_231_167 (x := a2) rfl ?_
  refine i_231_169 (v := Value.int 0) hw18 e4 e20 rfl ?_
  refine i_231_170 ?_
  refine i_231_171 (fun _ => ?_) (fun h => absurd h (by decide))
  refine i_231_178 ?_
  refine i_231_179 (lv2 := [(15, Value.int 0), (14, Value.int 0), (9, Value.int 1), (13, Value.int a2), (12, Value.int a1), (11, Value.int 0), (10, Value.int 0), (8, Value.int 0), (7, Value.int 0), (6, Value.int 2147483647), (0, Value.ref 128), (1, Value.int a0), (2, Value.int a1), (3, Value.int a2), (4, Value.int a3), (5, Value.int a4)]) rfl ?_
  refine i_231_181 (x := 128) rfl ?_
  refine i_231_182 (v := Value.ref 156) hw17 rfl ?_
  refine i_231_185 (x := a1) rfl ?_
  refine i_231_187z (v := Value.int 0) hw21 e2 e19 rfl ?_
  refine i_231_188 (x := 128) rfl ?_
  refine i_231_189 (v := Value.ref 156) hw17 rfl ?_
  refine i_231_192 (x := a2) rfl ?_
  refine i_231_194z (v := Value.int 0) hw21 e4 e20 rfl ?_
  refine i_231_195 (fun _ => ?_) (fun h => absurd h (by decide))
  refine i_231_202 ?_
  refine i_231_203 (lv2 := [(16, Value.int 0), (15, Value.int 0), (14, Value.int 0), (9, Value.int 1), (13, Value.int a2), (12, Value.int a1), (11, Value.int 0), (10, Value.int 0), (8, Value.int 0), (7, Value.int 0), (6, Value.int 2147483647), (0, Value.ref 128), (1, Value.int a0), (2, Value.int a1), (3, Value.int a2), (4, Value.int a3), (5, Value.int a4)]) rfl ?_
  refine i_231_205 (x := 0) rfl ?_
  refine i_231_207 (x := 0) rfl ?_
  refine i_231_209 (fun _ => ?_) (fun h => absurd h (by decide))
  refine i_231_221 ?_
  refine i_231_222 (c := 0) (by decide) ?_
  refine i_231_223 (lv2 := [(10, Value.int 0), (16, Value.int 0), (15, Value.int 0), (14, Value.int 0), (9, Value.int 1), (13, Value.int a2), (12, Value.int a1), (11, Value.int 0), (8, Value.int 0), (7, Value.int 0), (6, Value.int 2147483647), (0, Value.ref 128), (1, Value.int a0), (2, Value.int a1), (3, Value.int a2), (4, Value.int a3), (5, Value.int a4)]) rfl ?_
  refine i_231_225 (x := 0) rfl ?_
  refine i_231_227 (x := 0) rfl ?_
  refine i_231_229 (fun _ => ?_) (fun h => absurd h (by decide))
  refine i_231_241 ?_
  refine i_231_242 (c := 0) (by decide) ?_
  refine i_231_243 (lv2 := [(7, Value.int 0), (10, Value.int 0), (16, Value.int 0), (15, Value.int 0), (14, Value.int 0), (9, Value.int 1), (13, Value.int a2), (12, Value.int a1), (11, Value.int 0), (8, Value.int 0), (6, Value.int 2147483647), (0, Value.ref 128), (1, Value.int a0), (2, Value.int a1), (3, Value.int a2), (4, Value.int a3), (5, Value.int a4)]) rfl ?_
  refine i_231_245 (x := 0) rfl ?_
  refine i_231_247 (x := 0) rfl ?_
  refine i_231_249 (fun _ => ?_) (fun h => absurd h (by decide))
  refine i_231_261 ?_
  refine i_231_262 (c := 0) (by decide) ?_
  refine i_231_263 (lv2 := [(8, Value.int 0), (7, Value.int 0), (10, Value.int 0), (16, Value.int 0), (15, Value.int 0), (14, Value.int 0), (9, Value.int 1), (13, Value.int a2), (12, Value.int a1), (11, Value.int 0), (6, Value.int 2147483647), (0, Value.ref 128), (1, Value.int a0), (2, Value.int a1), (3, Value.int a2), (4, Value.int a3), (5, Value.int a4)]) rfl ?_
  refine i_231_265 (x := 0) rfl ?_
  refine i_231_267 (fun h => absurd h (by decide)) (fun _ => ?_)
  refine i_231_270 (x := 0) rfl ?_
  refine i_231_272 (fun h => absurd h (by decide)) (fun _ => ?_)
  refine i_231_275 (x := 2147483647) rfl ?_
  refine i_231_277 (x := 128) rfl ?_
  refine i_231_278 (x := a1) rfl ?_
  refine i_231_280 hw17 (Nat.le_of_ble_eq_true rfl) (p_196_0 hw17 hw22 e2 e19 hw23 hg24) ?_
  refine i_231_283 (x := 128) rfl ?_
  refine i_231_284 (x := a2) rfl ?_
  refine i_231_286 hw17 (Nat.le_of_ble_eq_true rfl) (p_196_0 hw17 hw22 e4 e20 hw23 hg25) ?_
  refine i_231_289 (c := (-128)) (by decide) ?_
  refine i_231_290 (Nat.le_of_ble_eq_true rfl) (p_272_0) ?_
  refine i_231_293 (lv2 := [(6, Value.int (-128)), (8, Value.int 0), (7, Value.int 0), (10, Value.int 0), (16, Value.int 0), (15, Value.int 0), (14, Value.int 0), (9, Value.int 1), (13, Value.int a2), (12, Value.int a1), (11, Value.int 0), (0, Value.ref 128), (1, Value.int a0), (2, Value.int a1), (3, Value.int a2), (4, Value.int a3), (5, Value.int a4)]) rfl ?_
  refine i_231_295 (x := 0) (c := 1) (lv2 := [(11, Value.int 1), (6, Value.int (-128)), (8, Value.int 0), (7, Value.int 0), (10, Value.int 0), (16, Value.int 0), (15, Value.int 0), (14, Value.int 0), (9, Value.int 1), (13, Value.int a2), (12, Value.int a1), (0, Value.ref 128), (1, Value.int a0), (2, Value.int a1), (3, Value.int a2), (4, Value.int a3), (5, Value.int a4)]) rfl (by decide) rfl ?_
  refine i_231_298 ?_
  refine i_231_74 (x := 1) rfl ?_
  refine i_231_76 (x := a3) rfl ?_
  refine i_231_78 (fun h => absurd e26 (Int.not_lt.mpr h)) (fun _ => ?_)
  refine i_231_81 (x := a1) rfl ?_
  refine i_231_82 (x := 1) rfl ?_
  refine i_231_84 (c := a7) hg27 ?_
  refine i_231_85 (lv2 := [(12, Value.int a7), (11, Value.int 1), (6, Value.int (-128)), (8, Value.int 0), (7, Value.int 0), (10, Value.int 0), (16, Value.int 0), (15, Value.int 0), (14, Value.int 0), (9, Value.int 1), (13, Value.int a2), (0, Value.ref 128), (1, Value.int a0), (2, Value.int a1), (3, Value.int a2), (4, Value.int a3), (5, Value.int a4)]) rfl ?_
  refine i_231_87 (x := a2) rfl ?_
  refine i_231_88 (x := 1) rfl ?_
  refine i_231_90 (c := a8) hg28 ?_
  refine i_231_91 (lv2 := [(13, Value.int a8), (12, Value.int a7), (11, Value.int 1), (6, Value.int (-128)), (8, Value.int 0), (7, Value.int 0), (10, Value.int 0), (16, Value.int 0), (15, Value.int 0), (14, Value.int 0), (9, Value.int 1), (0, Value.ref 128), (1, Value.int a0), (2, Value.int a1), (3, Value.int a2), (4, Value.int a3), (5, Value.int a4)]) rfl ?_
  refine i_231_93 (x := 1) rfl ?_
  refine i_231_95 (x := 128) rfl ?_
  refine i_231_96 (v := Value.ref 154) hw17 rfl ?_
  refine i_231_99 (x := a7) rfl ?_
  refine i_231_101 (v := Value.int 0) hw18 e29 e30 rfl ?_
  refine i_231_102 (fun _ => ?_) (fun h => absurd h (by decide))
  refine i_231_115 ?_
  refine i_231_116 ?_
  refine i_231_120 (c := 1) (by decide) ?_
  refine i_231_121 (lv2 := [(9, Value.int 1), (13, Value.int a8), (12, Value.int a7), (11, Value.int 1), (6, Value.int (-128)), (8, Value.int 0), (7, Value.int 0), (10, Value.int 0), (16, Value.int 0), (15, Value.int 0), (14, Value.int 0), (0, Value.ref 128), (1, Value.int a0), (2, Value.int a1), (3, Value.int a2), (4, Value.int a3), (5, Value.int a4)]) rfl ?_
  refine i_231_123 (x := 128) rfl ?_
  refine i_231_124 (v := Value.ref 154) hw17 rfl ?_
  refine i_231_127 (x := a7) rfl ?_
  refine i_231_129 (v := Value.int 0) hw18 e29 e30 rfl ?_
  refine i_231_130 ?_
  refine i_231_131 (fun h => absurd h (by decide)) (fun _ => ?_)
  refine i_231_134 (x := 128) rfl ?_
  refine i_231_135 (v := Value.ref 154) hw17 rfl ?_
  refine i_231_138 (x := a8) rfl ?_
  refine i_231_140 (v := Value.int 0) hw18 e31 e32 rfl ?_
  refine i_231_141 ?_
  refine i_231_142 (fun _ => ?_) (fun h => absurd h (by decide))
  refine i_231_149 ?_
  refine i_231_150 (lv2 := [(14, Value.int 0), (9, Value.int 1), (13, Value.int a8), (12, Value.int a7), (11, Value.int 1), (6, Value.int (-128)), (8, Value.int 0), (7, Value.int 0), (10, Value.int 0), (16, Value.int 0), (15, Value.int 0), (0, Value.ref 128), (1, Value.int a0), (2, Value.int a1), (3, Value.int a2), (4, Value.int a3), (5, Value.int a4)]) rfl ?_
  refine i_231_152 (x := 128) rfl ?_
  refine i_231_153 (v := Value.ref 154) hw17 rfl ?_
  refine i_231_156 (x := a7) rfl ?_
  refine i_231_158 (v := Value.int 0) hw18 e29 e30 rfl ?_
  refine i_231_159 ?_
  refine i_231_160 (fun h => absurd h (by decide)) (fun _ => ?_)
  refine i_231_163 (x := 128) rfl ?_
  refine i_231_164 (v := Value.ref 154) hw17 rfl ?_
  refine i_231_167 (x := a8) rfl ?_
  refine i_231_169 (v := Value.int 0) hw18 e31 e32 rfl ?_
  refine i_231_170 ?_
  refine i_231_171 (fun _ => ?_) (fun h => absurd h (by decide))
  refine i_231_178 ?_
  refine i_231_179 (lv2 := [(15, Value.int 0), (14, Value.int 0), (9, Value.int 1), (13, Value.int a8), (12, Value.int a7), (11, Value.int 1), (6, Value.int (-128)), (8, Value.int 0), (7, Value.int 0), (10, Value.int 0), (16, Value.int 0), (0, Value.ref 128), (1, Value.int a0), (2, Value.int a1), (3, Value.int a2), (4, Value.int a3), (5, Value.int a4)]) rfl ?_
  refine i_231_181 (x := 128) rfl ?_
  refine i_231_182 (v := Value.ref 156) hw17 rfl ?_
  refine i_231_185 (x := a7) rfl ?_
  refine i_231_187z (v := Value.int 0) hw21 e29 e30 rfl ?_
  refine i_231_188 (x := 128) rfl ?_
  refine i_231_189 (v := Value.ref 156) hw17 rfl ?_
  refine i_231_192 (x := a8) rfl ?_
  refine i_231_194z (v := Value.int 0) hw21 e31 e32 rfl ?_
  refine i_231_195 (fun _ => ?_) (fun h => absurd h (by decide))
  refine i_231_202 ?_
  refine i_231_203 (lv2 := [(16, Value.int 0), (15, Value.int 0), (14, Value.int 0), (9, Value.int 1), (13, Value.int a8), (12, Value.int a7), (11, Value.int 1), (6, Value.int (-128)), (8, Value.int 0), (7, Value.int 0), (10, Value.int 0), (0, Value.ref 128), (1, Value.int a0), (2, Value.int a1), (3, Value.int a2), (4, Value.int a3), (5, Value.int a4)]) rfl ?_
  refine i_231_205 (x := 0) rfl ?_
  refine i_231_207 (x := 0) rfl ?_
  refine i_231_209 (fun _ => ?_) (fun h => absurd h (by decide))
  refine i_231_221 ?_
  refine i_231_222 (c := 0) (by decide) ?_
  refine i_231_223 (lv2 := [(10, Value.int 0), (16, Value.int 0), (15, Value.int 0), (14, Value.int 0), (9, Value.int 1), (13, Value.int a8), (12, Value.int a7), (11, Value.int 1), (6, Value.int (-128)), (8, Value.int 0), (7, Value.int 0), (0, Value.ref 128), (1, Value.int a0), (2, Value.int a1), (3, Value.int a2), (4, Value.int a3), (5, Value.int a4)]) rfl ?_
  refine i_231_225 (x := 0) rfl ?_
  refine i_231_227 (x := 0) rfl ?_
  refine i_231_229 (fun _ => ?_) (fun h => absurd h (by decide))
  refine i_231_241 ?_
  refine i_231_242 (c := 0) (by decide) ?_
  refine i_231_243 (lv2 := [(7, Value.int 0), (10, Value.int 0), (16, Value.int 0), (15, Value.int 0), (14, Value.int 0), (9, Value.int 1), (13, Value.int a8), (12, Value.int a7), (11, Value.int 1), (6, Value.int (-128)), (8, Value.int 0), (0, Value.ref 128), (1, Value.int a0), (2, Value.int a1), (3, Value.int a2), (4, Value.int a3), (5, Value.int a4)]) rfl ?_
  refine i_231_245 (x := 0) rfl ?_
  refine i_231_247 (x := 0) rfl ?_
  refine i_231_249 (fun _ => ?_) (fun h => absurd h (by decide))
  refine i_231_261 ?_
  refine i_231_262 (c := 0) (by decide) ?_
  refine i_231_263 (lv2 := [(8, Value.int 0), (7, Value.int 0), (10, Value.int 0), (16, Value.int 0), (15, Value.int 0), (14, Value.int 0), (9, Value.int 1), (13, Value.int a8), (12, Value.int a7), (11, Value.int 1), (6, Value.int (-128)), (0, Value.ref 128), (1, Value.int a0), (2, Value.int a1), (3, Value.int a2), (4, Value.int a3), (5, Value.int a4)]) rfl ?_
  refine i_231_265 (x := 0) rfl ?_
  refine i_231_267 (fun h => absurd h (by decide)) (fun _ => ?_)
  refine i_231_270 (x := 0) rfl ?_
  refine i_231_272 (fun h => absurd h (by decide)) (fun _ => ?_)
  refine i_231_275 (x := (-128)) rfl ?_
  refine i_231_277 (x := 128) rfl ?_
  refine i_231_278 (x := a7) rfl ?_
  refine i_231_280 hw17 (Nat.le_of_ble_eq_true rfl) (p_196_0 hw17 hw22 e29 e30 hw23 hg33) ?_
  refine i_231_283 (x := 128) rfl ?_
  refine i_231_284 (x := a8) rfl ?_
  refine i_231_286 hw17 (Nat.le_of_ble_eq_true rfl) (p_196_0 hw17 hw22 e31 e32 hw23 hg34) ?_
  refine i_231_289 (c := (-128)) (by decide) ?_
  refine i_231_290 (Nat.le_of_ble_eq_true rfl) (p_272_1) ?_
  refine i_231_293 (lv2 := [(6, Value.int (-128)), (8, Value.int 0), (7, Value.int 0), (10, Value.int 0), (16, Value.int 0), (15, Value.int 0), (14, Value.int 0), (9, Value.int 1), (13, Value.int a8), (12, Value.int a7), (11, Value.int 1), (0, Value.ref 128), (1, Value.int a0), (2, Value.int a1), (3, Value.int a2), (4, Value.int a3), (5, Value.int a4)]) rfl ?_
  refine i_231_295 (x := 1) (c := 2) (lv2 := [(11, Value.int 2), (6, Value.int (-128)), (8, Value.int 0), (7, Value.int 0), (10, Value.int 0), (16, Value.int 0), (15, Value.int 0), (14, Value.int 0), (9, Value.int 1), (13, Value.int a8), (12, Value.int a7), (0, Value.ref 128), (1, Value.int a0), (2, Value.int a1), (3, Value.int a2), (4, Value.int a3), (5, Value.int a4)]) rfl (by decide) rfl ?_
  refine i_231_298 ?_
  refine i_231_74 (x := 2) rfl ?_
  refine i_231_76 (x := a3) rfl ?_
  refine i_231_78 (fun _ => ?_) (fun h => absurd e35 (Int.not_le.mpr h))
  refine i_231_301 (x := 1) rfl ?_
  refine i_231_303 (fun h => absurd h (by decide)) (fun _ => ?_)
  refine i_231_306 (x := 128) rfl ?_
  refine i_231_307 (x := a0) rfl ?_
  refine i_231_308 ?_
  refine i_231_309 ?_
  refine i_231_310 hw17 (Nat.le_of_ble_eq_true rfl) (p_171_0 hw17 hw18 e0 e36 hw21) ?_
  exact i_231_313 ⟨rfl, rfl⟩
theorem p_230_24 {d : Nat} {w : xW} {a0 : Int32} {a1 : Int32} {a2 : Int32} {a3 : Int32} {a4 : Int32} {a5 : Int32} {a6 : Int32} {g0 : Nat → Value} {a7 : Int32} {a8 : Int32} (hw0 : w[128]? = some (Sum.inr (12, [Value.ref 129, Value.ref 131, Value.ref 133, Value.ref 135, Value.ref 137, Value.ref 139, Value.ref 141, Value.ref 143, Value.ref 145, Value.ref 147, Value.ref 149, Value.ref 151, Value.ref 153, Value.ref 154, Value.ref 155, Value.ref 156, Value.ref 157, Value.int (-16384), Value.int 16384, Value.int 0, Value.int 0, Value.int 0, Value.ref 158, Value.ref 159, Value.int 0, Value.int 0, Value.int 0, Value.int 0, Value.int 0, Value.int 0, Value.int 0, Value.int 0]))) (e1 : 0 ≤ a0.toInt) (e2 : a0.toInt ≤ 15) (e3 : 0 ≤ a1.toInt) (e4 : a1.toInt ≤ 15) (e5 : 0 ≤ a2.toInt) (e6 : a2.toInt ≤ 15) (e7 : 1 ≤ a3.toInt) (e8 : a3.toInt ≤ 16) (hg9 : (a1 + a3) = a5) (e10 : a5.toInt ≤ 16) (hg11 : (a2 + a3) = a6) (e12 : a6.toInt ≤ 16) (e13 : 0 ≤ a4.toInt) (e14 : a4.toInt ≤ 4) (e15 : 0 < a3.toInt) (hg16 : (a1 + (0 : Int32)) = a1) (hg17 : (a2 + (0 : Int32)) = a2) (hw18 : w[154]? = some (Sum.inl (0, 17, fun _ => Value.int 0))) (e19 : a1.toInt < 17) (e20 : a2.toInt < 17) (hw21 : w[156]? = some (Sum.inl (2, 17, fun _ => Value.int 0))) (hw22 : w[155]? = some (Sum.inl (0, 17, fun _ => Value.int 0))) (hw23 : w[153]? = some (Sum.inl (0, 17, g0))) (hg24 : g0 a1.toInt.toNat = Value.int 64) (hg25 : g0 a2.toInt.toNat = Value.int 64) (e26 : 1 < a3.toInt) (hg27 : (a1 + (1 : Int32)) = a7) (hg28 : (a2 + (1 : Int32)) = a8) (e29 : 0 ≤ a7.toInt) (e30 : a7.toInt < 17) (e31 : 0 ≤ a8.toInt) (e32 : a8.toInt < 17) (hg33 : g0 a7.toInt.toNat = Value.int 64) (hg34 : g0 a8.toInt.toNat = Value.int 64) (e35 : a3.toInt ≤ 2) (e36 : a0.toInt < 17) : xRun (d + 3) 230 [Value.ref 128, Value.int a0, Value.int a1, Value.int a2, Value.int a3, Value.int a4] w (.inl (some (Value.int 0))) (((w.set 128 (Sum.inr (12, [Value.ref 129, Value.ref 131, Value.ref 133, Value.ref 135, Value.ref 137, Value.ref 139, Value.ref 141, Value.ref 143, Value.ref 145, Value.ref 147, Value.ref 149, Value.ref 151, Value.ref 153, Value.ref 154, Value.ref 155, Value.ref 156, Value.ref 157, Value.int (-16384), Value.int 16384, Value.int 0, Value.int 0, Value.int 0, Value.ref 158, Value.ref 159, Value.int 0, Value.int 0, Value.int 0, Value.int 0, Value.int 0, Value.int 0, Value.int 0, Value.int 0]))).set 154 (Sum.inl (0, 17, xup (fun _ => Value.int 0) a0.toInt.toNat (Value.int 0)))).set 156 (Sum.inl (2, 17, xup (fun _ => Value.int 0) a0.toInt.toNat (Value.int 0)))) := by
  refine xRun.of ?_
  refine i_230_0 (x := 128) rfl ?_
  refine i_230_1 ?_
  refine i_230_2 (fs2 := [Value.ref 129, Value.ref 131, Value.ref 133, Value.ref 135, Value.ref 137, Value.ref 139, Value.ref 141, Value.ref 143, Value.ref 145, Value.ref 147, Value.ref 149, Value.ref 151, Value.ref 153, Value.ref 154, Value.ref 155, Value.ref 156, Value.ref 157, Value.int (-16384), Value.int 16384, Value.int 0, Value.int 0, Value.int 0, Value.ref 158, Value.ref 159, Value.int 0, Value.int 0, Value.int 0, Value.int 0, Value.int 0, Value.int 0, Value.int 0, Value.int 0]) hw0 (Nat.le_of_ble_eq_true rfl) rfl (by decide) ?_
  refine i_230_5 (x := 128) rfl ?_
  refine i_230_6 (x := a0) rfl ?_
  refine i_230_7 (x := a1) rfl ?_
  refine i_230_8 (x := a2) rfl ?_
  refine i_230_9 (x := a3) rfl ?_
  refine i_230_11 (x := a4) rfl ?_
  refine i_230_13 (xgs hw0) (Nat.le_of_ble_eq_true rfl) (p_231_24 e1 e2 e3 e4 e5 e6 e7 e8 hg9 e10 hg11 e12 e13 e14 e15 hg16 hg17 (xgs hw0) (xgn (by decide) hw18) e19 e20 (xgn (by decide) hw21) (xgn (by decide) hw22) (xgn (by decide) hw23) hg24 hg25 e26 hg27 hg28 e29 e30 e31 e32 hg33 hg34 e35 e36) ?_
  exact i_230_16 ⟨rfl, rfl⟩
theorem g_11_29 {z0 z1 z2 z3 z4 z5 z6 z7 z8 z9 : Int} (h0 : z0 = 11) (c0 : 0 ≤ z1) (c1 : z1 < 16) (c2 : 0 ≤ z2) (c3 : z2 < 16) (c4 : 1 ≤ z3) (c5 : z3 ≤ 16) (nN6 : z4 = z2 + z3) (c7 : z4 ≤ 16) (c8 : 0 ≤ z5) (c9 : z5 < 16) (nN10 : z6 = z5 + z3) (c11 : z6 ≤ 16) (c12 : 0 ≤ z7) (c13 : z7 ≤ 4) (c14 : 1 < z3) (nN15 : z8 = z2 + 1) (nN16 : z9 = z5 + 1) (c17 : z3 ≤ 2) : ((((((0 ≤ z1) ∧ ((z1 < 16) ∧ (0 ≤ z2))) ∧ (((z2 < 16) ∧ (1 ≤ z3)) ∧ ((z3 ≤ 16) ∧ (z4 ≤ 16)))) ∧ (((0 ≤ z5) ∧ ((z5 < 16) ∧ (z6 ≤ 16))) ∧ (((0 ≤ z7) ∧ (z7 ≤ 4)) ∧ ((0 < z3) ∧ (z2.toNat < 16))))) ∧ ((((z5.toNat < 16) ∧ ((19 ≠ (30 + 3 * z2.toNat)) ∧ (22 ≠ (30 + 3 * z2.toNat)))) ∧ (((20 ≠ (30 + 3 * z2.toNat)) ∧ (19 ≠ (30 + 3 * z5.toNat))) ∧ ((22 ≠ (30 + 3 * z5.toNat)) ∧ (20 ≠ (30 + 3 * z5.toNat))))) ∧ ((((1 < z3) ∧ (0 ≤ z8)) ∧ ((z8 < 16) ∧ (z8.toNat < 16))) ∧ (((0 ≤ z9) ∧ (z9 < 16)) ∧ ((z9.toNat < 16) ∧ (19 ≠ (30 + 3 * z8.toNat))))))) ∧ (((((22 ≠ (30 + 3 * z8.toNat)) ∧ ((20 ≠ (30 + 3 * z8.toNat)) ∧ (19 ≠ (30 + 3 * z9.toNat)))) ∧ (((22 ≠ (30 + 3 * z9.toNat)) ∧ (20 ≠ (30 + 3 * z9.toNat))) ∧ ((z3 ≤ 2) ∧ (z1.toNat < 16)))) ∧ ((((19 ≠ (30 + 3 * z1.toNat)) ∧ (22 ≠ (30 + 3 * z1.toNat))) ∧ ((20 ≠ (30 + 3 * z1.toNat)) ∧ (7 ≤ (30 + 3 * z1.toNat)))) ∧ ((((30 + 3 * z1.toNat) ≠ 194) ∧ ((30 + 3 * z1.toNat) ≠ 0)) ∧ (((30 + 3 * z1.toNat) ≠ 128) ∧ (z1 ≤ 15))))) ∧ ((((z2 ≤ 15) ∧ ((z5 ≤ 15) ∧ ((30 + 3 * z1.toNat) ≠ 154))) ∧ (((z2 < 17) ∧ (z5 < 17)) ∧ (((30 + 3 * z1.toNat) ≠ 156) ∧ ((30 + 3 * z1.toNat) ≠ 155)))) ∧ (((((30 + 3 * z1.toNat) ≠ 153) ∧ (z2.toNat < 17)) ∧ ((z5.toNat < 17) ∧ (z8 < 17))) ∧ (((z9 < 17) ∧ (z8.toNat < 17)) ∧ ((z9.toNat < 17) ∧ (z1 < 17))))))) := by
  subst nN16; subst nN15; subst nN10; subst nN6; exact ⟨⟨⟨⟨⟨by omega, ⟨by omega, by omega⟩⟩, ⟨⟨by omega, by omega⟩, ⟨by omega, by omega⟩⟩⟩, ⟨⟨by omega, ⟨by omega, by omega⟩⟩, ⟨⟨by omega, by omega⟩, ⟨by omega, by omega⟩⟩⟩⟩, ⟨⟨⟨by omega, ⟨by omega, by omega⟩⟩, ⟨⟨by omega, by omega⟩, ⟨by omega, by omega⟩⟩⟩, ⟨⟨⟨by omega, by omega⟩, ⟨by omega, by omega⟩⟩, ⟨⟨by omega, by omega⟩, ⟨by omega, by omega⟩⟩⟩⟩⟩, ⟨⟨⟨⟨by omega, ⟨by omega, by omega⟩⟩, ⟨⟨by omega, by omega⟩, ⟨by omega, by omega⟩⟩⟩, ⟨⟨⟨by omega, by omega⟩, ⟨by omega, by omega⟩⟩, ⟨⟨by omega, by omega⟩, ⟨by omega, by omega⟩⟩⟩⟩, ⟨⟨⟨by omega, ⟨by omega, by omega⟩⟩, ⟨⟨by omega, by omega⟩, ⟨by omega, by omega⟩⟩⟩, ⟨⟨⟨by omega, by omega⟩, ⟨by omega, by omega⟩⟩, ⟨⟨by omega, by omega⟩, ⟨by omega, by omega⟩⟩⟩⟩⟩⟩
theorem o_11_29 {d : Nat} {xs : Nat → Int32} {N6 N10 N15 N16 : Int32} (h0 : ((xs 0) &&& (31 : Int32)).toInt = 11) (c0 : 0 ≤ (xs 1).toInt) (c1 : (xs 1).toInt < 16) (c2 : 0 ≤ (xs 2).toInt) (c3 : (xs 2).toInt < 16) (c4 : 1 ≤ (xs 4).toInt) (c5 : (xs 4).toInt ≤ 16) (eN6 : ((xs 2) + (xs 4)) = N6) (nN6 : N6.toInt = (xs 2).toInt + (xs 4).toInt) (c7 : N6.toInt ≤ 16) (c8 : 0 ≤ (xs 3).toInt) (c9 : (xs 3).toInt < 16) (eN10 : ((xs 3) + (xs 4)) = N10) (nN10 : N10.toInt = (xs 3).toInt + (xs 4).toInt) (c11 : N10.toInt ≤ 16) (c12 : 0 ≤ (xs 5).toInt) (c13 : (xs 5).toInt ≤ 4) (c14 : 1 < (xs 4).toInt) (eN15 : ((xs 2) + (1 : Int32)) = N15) (nN15 : N15.toInt = (xs 2).toInt + 1) (eN16 : ((xs 3) + (1 : Int32)) = N16) (nN16 : N16.toInt = (xs 3).toInt + 1) (c17 : (xs 4).toInt ≤ 2) : ∃ w1, xEv (d + 20) 287 23 [(4, Value.int 0), (3, Value.ref 194), (2, Value.ref 128), (1, Value.ref 7), (0, Value.ref 0)] [] (W0 6 xs) (fun o' w' => o' = .inl (some (Value.int 1)) ∧ w' = w1) ∧ w1.length ≤ 220 ∧ xsz w1 ≤ 200000 := by
  have G : id ((((((0 ≤ (xs 1).toInt) ∧ (((xs 1).toInt < 16) ∧ (0 ≤ (xs 2).toInt))) ∧ ((((xs 2).toInt < 16) ∧ (1 ≤ (xs 4).toInt)) ∧ (((xs 4).toInt ≤ 16) ∧ (N6.toInt ≤ 16)))) ∧ (((0 ≤ (xs 3).toInt) ∧ (((xs 3).toInt < 16) ∧ (N10.toInt ≤ 16))) ∧ (((0 ≤ (xs 5).toInt) ∧ ((xs 5).toInt ≤ 4)) ∧ ((0 < (xs 4).toInt) ∧ ((xs 2).toInt.toNat < 16))))) ∧ (((((xs 3).toInt.toNat < 16) ∧ ((19 ≠ (30 + 3 * (xs 2).toInt.toNat)) ∧ (22 ≠ (30 + 3 * (xs 2).toInt.toNat)))) ∧ (((20 ≠ (30 + 3 * (xs 2).toInt.toNat)) ∧ (19 ≠ (30 + 3 * (xs 3).toInt.toNat))) ∧ ((22 ≠ (30 + 3 * (xs 3).toInt.toNat)) ∧ (20 ≠ (30 + 3 * (xs 3).toInt.toNat))))) ∧ ((((1 < (xs 4).toInt) ∧ (0 ≤ N15.toInt)) ∧ ((N15.toInt < 16) ∧ (N15.toInt.toNat < 16))) ∧ (((0 ≤ N16.toInt) ∧ (N16.toInt < 16)) ∧ ((N16.toInt.toNat < 16) ∧ (19 ≠ (30 + 3 * N15.toInt.toNat))))))) ∧ (((((22 ≠ (30 + 3 * N15.toInt.toNat)) ∧ ((20 ≠ (30 + 3 * N15.toInt.toNat)) ∧ (19 ≠ (30 + 3 * N16.toInt.toNat)))) ∧ (((22 ≠ (30 + 3 * N16.toInt.toNat)) ∧ (20 ≠ (30 + 3 * N16.toInt.toNat))) ∧ (((xs 4).toInt ≤ 2) ∧ ((xs 1).toInt.toNat < 16)))) ∧ ((((19 ≠ (30 + 3 * (xs 1).toInt.toNat)) ∧ (22 ≠ (30 + 3 * (xs 1).toInt.toNat))) ∧ ((20 ≠ (30 + 3 * (xs 1).toInt.toNat)) ∧ (7 ≤ (30 + 3 * (xs 1).toInt.toNat)))) ∧ ((((30 + 3 * (xs 1).toInt.toNat) ≠ 194) ∧ ((30 + 3 * (xs 1).toInt.toNat) ≠ 0)) ∧ (((30 + 3 * (xs 1).toInt.toNat) ≠ 128) ∧ ((xs 1).toInt ≤ 15))))) ∧ (((((xs 2).toInt ≤ 15) ∧ (((xs 3).toInt ≤ 15) ∧ ((30 + 3 * (xs 1).toInt.toNat) ≠ 154))) ∧ ((((xs 2).toInt < 17) ∧ ((xs 3).toInt < 17)) ∧ (((30 + 3 * (xs 1).toInt.toNat) ≠ 156) ∧ ((30 + 3 * (xs 1).toInt.toNat) ≠ 155)))) ∧ (((((30 + 3 * (xs 1).toInt.toNat) ≠ 153) ∧ ((xs 2).toInt.toNat < 17)) ∧ (((xs 3).toInt.toNat < 17) ∧ (N15.toInt < 17))) ∧ (((N16.toInt < 17) ∧ (N15.toInt.toNat < 17)) ∧ ((N16.toInt.toNat < 17) ∧ ((xs 1).toInt < 17))))))) := g_11_29 h0 c0 c1 c2 c3 c4 c5 nN6 c7 c8 c9 nN10 c11 c12 c13 c14 nN15 nN16 c17
  refine ⟨(((((((((((W0 6 xs).set 20 (Sum.inr (3, [Value.ref 21, Value.int 0]))).set 22 (Sum.inr (3, [Value.ref 23, Value.int 0]))).set 19 (Sum.inr (5, [Value.ref 20, Value.ref 22, Value.ref 24, Value.ref 26, Value.int 0, Value.int 0, Value.int 0, Value.int 0, Value.int 0, Value.int 0, Value.int 0, Value.int 0]))).set 19 (Sum.inr (5, [Value.ref 20, Value.ref 22, Value.ref 24, Value.ref 26, Value.int 0, Value.int 1, Value.int 0, Value.int 0, Value.int 0, Value.int 0, Value.int 0, Value.int 0]))).set 19 (Sum.inr (5, [Value.ref 20, Value.ref 22, Value.ref 24, Value.ref 26, Value.int 0, Value.int 1, Value.int 0, Value.int 0, Value.int 0, Value.int 0, Value.int 0, Value.int 0]))).set (30 + 3 * (xs 1).toInt.toNat) (Sum.inr (2, [Value.int 64, Value.int 0, Value.int 0, Value.int 0, Value.ref (31 + 3 * (xs 1).toInt.toNat)]))).set 194 (Sum.inl (3, 1, xup (fun _ => Value.long 0) (0 : Int32).toInt.toNat (Value.long 0)))).set 128 (Sum.inr (12, [Value.ref 129, Value.ref 131, Value.ref 133, Value.ref 135, Value.ref 137, Value.ref 139, Value.ref 141, Value.ref 143, Value.ref 145, Value.ref 147, Value.ref 149, Value.ref 151, Value.ref 153, Value.ref 154, Value.ref 155, Value.ref 156, Value.ref 157, Value.int (-16384), Value.int 16384, Value.int 0, Value.int 0, Value.int 0, Value.ref 158, Value.ref 159, Value.int 0, Value.int 0, Value.int 0, Value.int 0, Value.int 0, Value.int 0, Value.int 0, Value.int 0]))).set 154 (Sum.inl (0, 17, xup (fun _ => Value.int 0) (xs 1).toInt.toNat (Value.int 0)))).set 156 (Sum.inl (2, 17, xup (fun _ => Value.int 0) (xs 1).toInt.toNat (Value.int 0)))), ?_, (show xLs _ 220 200000 from ?_)⟩
  · refine i_287_23 (x := 0) rfl ?_
    refine i_287_25 (x := 0) rfl ?_
    refine i_287_26 (c := 6) W0_0 (by decide) ?_
    refine i_287_27 ?_
    refine i_287_29 (c := 0) (by decide) ?_
    refine i_287_30 (fun h => absurd h (by decide)) (fun _ => ?_)
    refine i_287_33 (x := 0) rfl ?_
    refine i_287_34 (x := 0) rfl ?_
    refine i_287_36 (v := Value.int (xs 0)) W0_0 (by decide) (by decide) rfl ?_
    refine i_287_37 ?_
    refine i_287_39 (c := 11) (show ((xs 0) &&& (31 : Int32)) = 11 from (xge_c (n := 11) h0 rfl)) ?_
    refine i_287_40_11 rfl ?_
    refine i_287_1149 (x := 7) rfl ?_
    refine i_287_1150 (x := 0) rfl ?_
    refine i_287_1151 (x := 0) rfl ?_
    refine i_287_1153 ?_
    refine i_287_1154 (c := 1) (by decide) ?_
    refine i_287_1155 (v := Value.int (xs 1)) W0_0 (by decide) (by decide) rfl ?_
    refine i_287_1156 (x := 0) rfl ?_
    refine i_287_1157 (x := 0) rfl ?_
    refine i_287_1159 ?_
    refine i_287_1160 (c := 2) (by decide) ?_
    refine i_287_1161 (v := Value.int (xs 2)) W0_0 (by decide) (by decide) rfl ?_
    refine i_287_1162 (x := 0) rfl ?_
    refine i_287_1163 (x := 0) rfl ?_
    refine i_287_1165 ?_
    refine i_287_1166 (c := 3) (by decide) ?_
    refine i_287_1167 (v := Value.int (xs 3)) W0_0 (by decide) (by decide) rfl ?_
    refine i_287_1168 (x := 0) rfl ?_
    refine i_287_1169 (x := 0) rfl ?_
    refine i_287_1171 ?_
    refine i_287_1172 (c := 4) (by decide) ?_
    refine i_287_1173 (v := Value.int (xs 4)) W0_0 (by decide) (by decide) rfl ?_
    refine i_287_1174 (x := 0) rfl ?_
    refine i_287_1175 (x := 0) rfl ?_
    refine i_287_1177 ?_
    refine i_287_1178 (c := 5) (by decide) ?_
    refine i_287_1179 (v := Value.int (xs 5)) W0_0 (by decide) (by decide) rfl ?_
    refine i_287_1180 (x := 194) rfl ?_
    refine i_287_1181 (Nat.le_of_ble_eq_true rfl) (p_114_23 W0_7 (G.1.1.1.1.1) (G.1.1.1.1.2.1) (G.1.1.1.1.2.2) (G.1.1.1.2.1.1) (G.1.1.1.2.1.2) (G.1.1.1.2.2.1) (show ((xs 2) + (xs 4)) = N6 from eN6) (G.1.1.1.2.2.2) (G.1.1.2.1.1) (G.1.1.2.1.2.1) (show ((xs 3) + (xs 4)) = N10 from eN10) (G.1.1.2.1.2.2) (G.1.1.2.2.1.1) (G.1.1.2.2.1.2) W0_19 W0_20 W0_22 (G.1.1.2.2.2.1) (show ((xs 2) + (0 : Int32)) = (xs 2) from (xadd_z _)) W0_8 (greg_at G.1.1.2.2.2.2) (show ((xs 3) + (0 : Int32)) = (xs 3) from (xadd_z _)) (greg_at G.1.2.1.1.1) (G.1.2.1.1.2.1) (G.1.2.1.1.2.2) (G.1.2.1.2.1.1) (W0_reg G.1.1.2.2.2.2) (G.1.2.1.2.1.2) (G.1.2.1.2.2.1) (G.1.2.1.2.2.2) (W0_reg G.1.2.1.1.1) (G.1.2.2.1.1.1) (show ((xs 2) + (1 : Int32)) = N15 from eN15) (G.1.2.2.1.1.2) (G.1.2.2.1.2.1) (greg_at G.1.2.2.1.2.2) (show ((xs 3) + (1 : Int32)) = N16 from eN16) (G.1.2.2.2.1.1) (G.1.2.2.2.1.2) (greg_at G.1.2.2.2.2.1) (G.1.2.2.2.2.2) (G.2.1.1.1.1) (G.2.1.1.1.2.1) (W0_reg G.1.2.2.1.2.2) (G.2.1.1.1.2.2) (G.2.1.1.2.1.1) (G.2.1.1.2.1.2) (W0_reg G.1.2.2.2.2.1) (G.2.1.1.2.2.1) (greg_at G.2.1.1.2.2.2) (G.2.1.2.1.1.1) (G.2.1.2.1.1.2) (G.2.1.2.1.2.1) (W0_reg G.2.1.1.2.2.2) (G.2.1.2.1.2.2) (G.2.1.2.2.1.1) W0_194) ?_
    refine i_287_1184 (lv2 := [(5, Value.int 0), (4, Value.int 0), (3, Value.ref 194), (2, Value.ref 128), (1, Value.ref 7), (0, Value.ref 0)]) rfl ?_
    refine i_287_1186 (x := 128) rfl ?_
    refine i_287_1187 (x := 0) rfl ?_
    refine i_287_1188 (x := 0) rfl ?_
    refine i_287_1190 ?_
    refine i_287_1191 (c := 1) (by decide) ?_
    refine i_287_1192 (v := Value.int (xs 1)) (xgn (by decide) (xgn (G.2.1.2.2.1.2) (xgn (by decide) (xgn (by decide) (xgn (by decide) (xgn (by decide) (xgn (by decide) W0_0))))))) (by decide) (by decide) rfl ?_
    refine i_287_1193 (x := 0) rfl ?_
    refine i_287_1194 (x := 0) rfl ?_
    refine i_287_1196 ?_
    refine i_287_1197 (c := 2) (by decide) ?_
    refine i_287_1198 (v := Value.int (xs 2)) (xgn (by decide) (xgn (G.2.1.2.2.1.2) (xgn (by decide) (xgn (by decide) (xgn (by decide) (xgn (by decide) (xgn (by decide) W0_0))))))) (by decide) (by decide) rfl ?_
    refine i_287_1199 (x := 0) rfl ?_
    refine i_287_1200 (x := 0) rfl ?_
    refine i_287_1202 ?_
    refine i_287_1203 (c := 3) (by decide) ?_
    refine i_287_1204 (v := Value.int (xs 3)) (xgn (by decide) (xgn (G.2.1.2.2.1.2) (xgn (by decide) (xgn (by decide) (xgn (by decide) (xgn (by decide) (xgn (by decide) W0_0))))))) (by decide) (by decide) rfl ?_
    refine i_287_1205 (x := 0) rfl ?_
    refine i_287_1206 (x := 0) rfl ?_
    refine i_287_1208 ?_
    refine i_287_1209 (c := 4) (by decide) ?_
    refine i_287_1210 (v := Value.int (xs 4)) (xgn (by decide) (xgn (G.2.1.2.2.1.2) (xgn (by decide) (xgn (by decide) (xgn (by decide) (xgn (by decide) (xgn (by decide) W0_0))))))) (by decide) (by decide) rfl ?_
    refine i_287_1211 (x := 0) rfl ?_
    refine i_287_1212 (x := 0) rfl ?_
    refine i_287_1214 ?_
    refine i_287_1215 (c := 5) (by decide) ?_
    refine i_287_1216 (v := Value.int (xs 5)) (xgn (by decide) (xgn (G.2.1.2.2.1.2) (xgn (by decide) (xgn (by decide) (xgn (by decide) (xgn (by decide) (xgn (by decide) W0_0))))))) (by decide) (by decide) rfl ?_
    refine i_287_1217 (xgn (by decide) (xgn (G.2.1.2.2.2.1) (xgn (by decide) (xgn (by decide) (xgn (by decide) (xgn (by decide) (xgn (by decide) W0_128))))))) (Nat.le_of_ble_eq_true rfl) (p_230_24 (xgn (by decide) (xgn (G.2.1.2.2.2.1) (xgn (by decide) (xgn (by decide) (xgn (by decide) (xgn (by decide) (xgn (by decide) W0_128))))))) (G.1.1.1.1.1) (G.2.1.2.2.2.2) (G.1.1.1.1.2.2) (G.2.2.1.1.1) (G.1.1.2.1.1) (G.2.2.1.1.2.1) (G.1.1.1.2.1.2) (G.1.1.1.2.2.1) (show ((xs 2) + (xs 4)) = N6 from eN6) (G.1.1.1.2.2.2) (show ((xs 3) + (xs 4)) = N10 from eN10) (G.1.1.2.1.2.2) (G.1.1.2.2.1.1) (G.1.1.2.2.1.2) (G.1.1.2.2.2.1) (show ((xs 2) + (0 : Int32)) = (xs 2) from (xadd_z _)) (show ((xs 3) + (0 : Int32)) = (xs 3) from (xadd_z _)) (xgn (by decide) (xgn (G.2.2.1.1.2.2) (xgn (by decide) (xgn (by decide) (xgn (by decide) (xgn (by decide) (xgn (by decide) W0_154))))))) (G.2.2.1.2.1.1) (G.2.2.1.2.1.2) (xgn (by decide) (xgn (G.2.2.1.2.2.1) (xgn (by decide) (xgn (by decide) (xgn (by decide) (xgn (by decide) (xgn (by decide) W0_156))))))) (xgn (by decide) (xgn (G.2.2.1.2.2.2) (xgn (by decide) (xgn (by decide) (xgn (by decide) (xgn (by decide) (xgn (by decide) W0_155))))))) (xgn (by decide) (xgn (G.2.2.2.1.1.1) (xgn (by decide) (xgn (by decide) (xgn (by decide) (xgn (by decide) (xgn (by decide) W0_153))))))) (gprec_at G.2.2.2.1.1.2) (gprec_at G.2.2.2.1.2.1) (G.1.2.2.1.1.1) (show ((xs 2) + (1 : Int32)) = N15 from eN15) (show ((xs 3) + (1 : Int32)) = N16 from eN16) (G.1.2.2.1.1.2) (G.2.2.2.1.2.2) (G.1.2.2.2.1.1) (G.2.2.2.2.1.1) (gprec_at G.2.2.2.2.1.2) (gprec_at G.2.2.2.2.2.1) (G.2.1.1.2.2.1) (G.2.2.2.2.2.2)) ?_
    refine i_287_1220 (lv2 := [(6, Value.int 0), (5, Value.int 0), (4, Value.int 0), (3, Value.ref 194), (2, Value.ref 128), (1, Value.ref 7), (0, Value.ref 0)]) rfl ?_
    refine i_287_1222 (x := 128) rfl ?_
    refine i_287_1223 (xgn (by decide) (xgn (by decide) (xgs (xgn (by decide) (xgn (G.2.1.2.2.2.1) (xgn (by decide) (xgn (by decide) (xgn (by decide) (xgn (by decide) (xgn (by decide) W0_128)))))))))) (Nat.le_of_ble_eq_true rfl) (p_165_1 (xgn (by decide) (xgn (by decide) (xgs (xgn (by decide) (xgn (G.2.1.2.2.2.1) (xgn (by decide) (xgn (by decide) (xgn (by decide) (xgn (by decide) (xgn (by decide) W0_128))))))))))) ?_
    refine i_287_1226 (x := 0) rfl ?_
    refine i_287_1228 (fun _ => ?_) (fun h => absurd h (by decide))
    refine i_287_1233 (x := 0) rfl ?_
    refine i_287_1235 (fun h => absurd h (by decide)) (fun _ => ?_)
    refine i_287_1238 (x := 194) rfl ?_
    refine i_287_1239 ?_
    refine i_287_1240 (v := Value.long 0) (xgn (by decide) (xgn (by decide) (xgn (by decide) (xgs (xgn (G.2.1.2.2.1.1) (xgn (by decide) (xgn (by decide) (xgn (by decide) (xgn (by decide) (xgn (by decide) W0_194)))))))))) (by decide) (by decide) xup_s ?_
    refine i_287_1241 (x := 0) rfl ?_
    refine i_287_1243 (c := 0) (by decide) ?_
    refine i_287_1244 (c := 0) (by decide) ?_
    refine i_287_1245 (fun _ => ?_) (fun h => absurd h (by decide))
    refine i_287_1250 ?_
    refine i_287_2154 (x := 0) (c := 6) (lv2 := [(4, Value.int 6), (6, Value.int 0), (5, Value.int 0), (3, Value.ref 194), (2, Value.ref 128), (1, Value.ref 7), (0, Value.ref 0)]) rfl (by decide) rfl ?_
    refine i_287_2157 ?_
    refine i_287_23 (x := 6) rfl ?_
    refine i_287_25 (x := 0) rfl ?_
    refine i_287_26 (c := 6) (xgn (by decide) (xgn (by decide) (xgn (by decide) (xgn (by decide) (xgn (G.2.1.2.2.1.2) (xgn (by decide) (xgn (by decide) (xgn (by decide) (xgn (by decide) (xgn (by decide) W0_0)))))))))) (by decide) ?_
    refine i_287_27 ?_
    refine i_287_29 (c := 0) (by decide) ?_
    refine i_287_30 (fun _ => ?_) (fun h => absurd h (by decide))
    refine i_287_2160 ?_
    exact i_287_2161 rfl ⟨rfl, rfl⟩
  · refine xLs.set ?_ (xgn (by decide) (xgn (by decide) (xgn (by decide) (xgn (G.2.2.1.2.2.1) (xgn (by decide) (xgn (by decide) (xgn (by decide) (xgn (by decide) (xgn (by decide) W0_156))))))))) xcs_a
    refine xLs.set ?_ (xgn (by decide) (xgn (by decide) (xgn (G.2.2.1.1.2.2) (xgn (by decide) (xgn (by decide) (xgn (by decide) (xgn (by decide) (xgn (by decide) W0_154)))))))) xcs_a
    refine xLs.set ?_ (xgn (by decide) (xgn (G.2.1.2.2.2.1) (xgn (by decide) (xgn (by decide) (xgn (by decide) (xgn (by decide) (xgn (by decide) W0_128))))))) xcs_o
    refine xLs.set ?_ (xgn (G.2.1.2.2.1.1) (xgn (by decide) (xgn (by decide) (xgn (by decide) (xgn (by decide) (xgn (by decide) W0_194)))))) xcs_a
    refine xLs.set ?_ (xgn (G.2.1.2.1.1.1) (xgn (G.2.1.2.1.1.1) (xgn (G.2.1.2.1.1.1) (xgn (G.2.1.2.1.1.2) (xgn (G.2.1.2.1.2.1) (W0_reg G.2.1.1.2.2.2)))))) xcs_o
    refine xLs.set ?_ (xgs (xgs (xgn (by decide) (xgn (by decide) W0_19)))) xcs_o
    refine xLs.set ?_ (xgs (xgn (by decide) (xgn (by decide) W0_19))) xcs_o
    refine xLs.set ?_ (xgn (by decide) (xgn (by decide) W0_19)) xcs_o
    refine xLs.set ?_ (xgn (by decide) W0_22) xcs_o
    refine xLs.set ?_ (W0_20) xcs_o
    exact ⟨Nat.le_trans (Nat.le_of_eq W0_len) (by decide), Nat.le_trans (Nat.le_of_eq W0_sz) (by decide)⟩
theorem p_115_24 {d : Nat} {w : xW} {a0 : Int32} {a1 : Int32} {a2 : Int32} {a3 : Int32} {a4 : Int32} {a5 : Int32} {a6 : Int32} {g0 : Nat → Value} {h0 : Nat} {h1 : Nat} {h2 : Nat} {h3 : Nat} {h4 : Nat} {h5 : Nat} (e0 : 0 ≤ a0.toInt) (e1 : a0.toInt < 16) (e2 : 0 ≤ a1.toInt) (e3 : a1.toInt < 16) (e4 : 1 ≤ a3.toInt) (e5 : a3.toInt ≤ 16) (hg6 : (a1 + a3) = a5) (e7 : a5.toInt ≤ 16) (e8 : 0 ≤ a2.toInt) (e9 : a2.toInt < 16) (hg10 : (a2 + a3) = a6) (e11 : a6.toInt ≤ 16) (e12 : 0 ≤ a4.toInt) (e13 : a4.toInt ≤ 4) (hw14 : w[7]? = some (Sum.inr (0, [Value.ref 8, Value.ref 78, Value.ref 9, Value.ref 10, Value.ref 13, Value.ref 16, Value.ref 19, Value.ref 93, Value.ref 108, Value.ref 113, Value.ref 29, Value.int 0]))) (hw15 : w[19]? = some (Sum.inr (5, [Value.ref 20, Value.ref 22, Value.ref 24, Value.ref 26, Value.int 0, Value.int 0, Value.int 0, Value.int 0, Value.int 0, Value.int 0, Value.int 0, Value.int 0]))) (hw16 : w[20]? = some (Sum.inr (3, [Value.ref 21, Value.int 0]))) (hw17 : w[22]? = some (Sum.inr (3, [Value.ref 23, Value.int 0]))) (e18 : 0 < a3.toInt) (hg19 : (a1 + (0 : Int32)) = a1) (hw20 : w[8]? = some (Sum.inl (4, 16, g0))) (hg21 : g0 a1.toInt.toNat = Value.ref h0) (hg22 : (a2 + (0 : Int32)) = a2) (hg23 : g0 a2.toInt.toNat = Value.ref h1) (e24 : 19 ≠ h0) (e25 : 22 ≠ h0) (e26 : 20 ≠ h0) (hw27 : w[h0]? = some (Sum.inr (2, [Value.int 64, Value.int 0, Value.int 0, Value.int 0, Value.ref h2]))) (e28 : 19 ≠ h1) (e29 : 22 ≠ h1) (e30 : 20 ≠ h1) (hw31 : w[h1]? = some (Sum.inr (2, [Value.int 64, Value.int 0, Value.int 0, Value.int 0, Value.ref h3]))) (e32 : a3.toInt ≤ 1) (hg33 : g0 a0.toInt.toNat = Value.ref h4) (e34 : 19 ≠ h4) (e35 : 22 ≠ h4) (e36 : 20 ≠ h4) (hw37 : w[h4]? = some (Sum.inr (2, [Value.int 64, Value.int 0, Value.int 0, Value.int 0, Value.ref h5]))) (e38 : 7 ≤ h4) : xRun (d + 3) 115 [Value.ref 7, Value.int a0, Value.int a1, Value.int a2, Value.int a3, Value.int a4] w (.inl (some (Value.int 0))) (((((w.set 20 (Sum.inr (3, [Value.ref 21, Value.int 0]))).set 22 (Sum.inr (3, [Value.ref 23, Value.int 0]))).set 19 (Sum.inr (5, [Value.ref 20, Value.ref 22, Value.ref 24, Value.ref 26, Value.int 0, Value.int 0, Value.int 0, Value.int 0, Value.int 0, Value.int 0, Value.int 0, Value.int 0]))).set 19 (Sum.inr (5, [Value.ref 20, Value.ref 22, Value.ref 24, Value.ref 26, Value.int 0, Value.int 1, Value.int 0, Value.int 0, Value.int 0, Value.int 0, Value.int 0, Value.int 0]))).set h4 (Sum.inr (2, [Value.int 64, Value.int 0, Value.int 0, Value.int 0, Value.ref h5]))) := by
  refine xRun.of ?_
  refine i_115_0 (x := a0) rfl ?_
  refine i_115_1 (Nat.le_of_ble_eq_true rfl) (p_15_1 e0 e1) ?_
  refine i_115_4 (fun h => absurd h (by decide)) (fun _ => ?_)
  refine i_115_7 (x := a1) rfl ?_
  refine i_115_8 (x := a3) rfl ?_
  refine i_115_10 (Nat.le_of_ble_eq_true rfl) (p_113_4 e2 e3 e4 e5 hg6 e7) ?_
  refine i_115_13 (fun h => absurd h (by decide)) (fun _ => ?_)
  refine i_115_16 (x := a2) rfl ?_
  refine i_115_17 (x := a3) rfl ?_
  refine i_115_19 (Nat.le_of_ble_eq_true rfl) (p_113_4 e8 e9 e4 e5 hg10 e11) ?_
  refine i_115_22 (fun h => absurd h (by decide)) (fun _ => ?_)
  refine i_115_25 (x := a4) rfl ?_
  refine i_115_27 (Nat.le_of_ble_eq_true rfl) (p_22_2 e12 e13) ?_
  refine i_115_30 (fun _ => ?_) (fun h => absurd h (by decide))
  refine i_115_41 (x := 7) rfl ?_
  refine i_115_42 (v := Value.ref 19) hw14 rfl ?_
  refine i_115_45 hw15 (Nat.le_of_ble_eq_true rfl) (p_59_0 hw15 hw16 hw17) ?_
  refine i_115_48 ?_
  refine i_115_49 (lv2 := [(6, Value.int 0), (0, Value.ref 7), (1, Value.int a0), (2, Value.int a1), (3, Value.int a2), (4, Value.int a3), (5, Value.int a4)]) rfl ?_
  refine i_115_51 (x := 0) rfl ?_
  refine i_115_53 (x := a3) rfl ?_
  refine i_115_55 (fun h => absurd e18 (Int.not_lt.mpr h)) (fun _ => ?_)
  refine i_115_58 (x := 7) rfl ?_
  refine i_115_59 (v := Value.ref 19) (xgn (by decide) (xgn (by decide) (xgn (by decide) hw14))) rfl ?_
  refine i_115_62 (x := 7) rfl ?_
  refine i_115_63 (v := Value.ref 8) (xgn (by decide) (xgn (by decide) (xgn (by decide) hw14))) rfl ?_
  refine i_115_66 (x := a1) rfl ?_
  refine i_115_67 (x := 0) rfl ?_
  refine i_115_69 (c := a1) hg19 ?_
  refine i_115_70 (v := Value.ref h0) (xgn (by decide) (xgn (by decide) (xgn (by decide) hw20))) e2 e3 hg21 ?_
  refine i_115_71 (x := 7) rfl ?_
  refine i_115_72 (v := Value.ref 8) (xgn (by decide) (xgn (by decide) (xgn (by decide) hw14))) rfl ?_
  refine i_115_75 (x := a2) rfl ?_
  refine i_115_76 (x := 0) rfl ?_
  refine i_115_78 (c := a2) hg22 ?_
  refine i_115_79 (v := Value.ref h1) (xgn (by decide) (xgn (by decide) (xgn (by decide) hw20))) e8 e9 hg23 ?_
  refine i_115_80 (xgs (xgn (by decide) (xgn (by decide) hw15))) (Nat.le_of_ble_eq_true rfl) (p_96_0 (xgn e24 (xgn e25 (xgn e26 hw27))) (xgn e28 (xgn e29 (xgn e30 hw31))) (xgs (xgn (by decide) (xgn (by decide) hw15)))) ?_
  refine i_115_83 (x := 0) (c := 1) (lv2 := [(6, Value.int 1), (0, Value.ref 7), (1, Value.int a0), (2, Value.int a1), (3, Value.int a2), (4, Value.int a3), (5, Value.int a4)]) rfl (by decide) rfl ?_
  refine i_115_86 ?_
  refine i_115_51 (x := 1) rfl ?_
  refine i_115_53 (x := a3) rfl ?_
  refine i_115_55 (fun _ => ?_) (fun h => absurd e32 (Int.not_le.mpr h))
  refine i_115_89 (x := 7) rfl ?_
  refine i_115_90 (v := Value.ref 19) (xgn (by decide) (xgn (by decide) (xgn (by decide) (xgn (by decide) hw14)))) rfl ?_
  refine i_115_93 (x := 7) rfl ?_
  refine i_115_94 (v := Value.ref 78) (xgn (by decide) (xgn (by decide) (xgn (by decide) (xgn (by decide) hw14)))) rfl ?_
  refine i_115_97 (x := 7) rfl ?_
  refine i_115_98 (v := Value.ref 8) (xgn (by decide) (xgn (by decide) (xgn (by decide) (xgn (by decide) hw14)))) rfl ?_
  refine i_115_101 (x := a0) rfl ?_
  refine i_115_102 (v := Value.ref h4) (xgn (by decide) (xgn (by decide) (xgn (by decide) (xgn (by decide) hw20)))) e0 e1 hg33 ?_
  refine i_115_103 (x := a4) rfl ?_
  refine i_115_105 (xgs (xgs (xgn (by decide) (xgn (by decide) hw15)))) (Nat.le_of_ble_eq_true rfl) (p_64_0 (xgs (xgs (xgn (by decide) (xgn (by decide) hw15)))) (xgn e34 (xgn e34 (xgn e35 (xgn e36 hw37)))) e38) ?_
  exact i_115_108 ⟨rfl, rfl⟩
theorem p_114_24 {d : Nat} {w : xW} {a0 : Int32} {a1 : Int32} {a2 : Int32} {a3 : Int32} {a4 : Int32} {a5 : Int32} {a6 : Int32} {g0 : Nat → Value} {h0 : Nat} {h1 : Nat} {h2 : Nat} {h3 : Nat} {h4 : Nat} {h5 : Nat} (hw0 : w[7]? = some (Sum.inr (0, [Value.ref 8, Value.ref 78, Value.ref 9, Value.ref 10, Value.ref 13, Value.ref 16, Value.ref 19, Value.ref 93, Value.ref 108, Value.ref 113, Value.ref 29, Value.int 0]))) (e1 : 0 ≤ a0.toInt) (e2 : a0.toInt < 16) (e3 : 0 ≤ a1.toInt) (e4 : a1.toInt < 16) (e5 : 1 ≤ a3.toInt) (e6 : a3.toInt ≤ 16) (hg7 : (a1 + a3) = a5) (e8 : a5.toInt ≤ 16) (e9 : 0 ≤ a2.toInt) (e10 : a2.toInt < 16) (hg11 : (a2 + a3) = a6) (e12 : a6.toInt ≤ 16) (e13 : 0 ≤ a4.toInt) (e14 : a4.toInt ≤ 4) (hw15 : w[19]? = some (Sum.inr (5, [Value.ref 20, Value.ref 22, Value.ref 24, Value.ref 26, Value.int 0, Value.int 0, Value.int 0, Value.int 0, Value.int 0, Value.int 0, Value.int 0, Value.int 0]))) (hw16 : w[20]? = some (Sum.inr (3, [Value.ref 21, Value.int 0]))) (hw17 : w[22]? = some (Sum.inr (3, [Value.ref 23, Value.int 0]))) (e18 : 0 < a3.toInt) (hg19 : (a1 + (0 : Int32)) = a1) (hw20 : w[8]? = some (Sum.inl (4, 16, g0))) (hg21 : g0 a1.toInt.toNat = Value.ref h0) (hg22 : (a2 + (0 : Int32)) = a2) (hg23 : g0 a2.toInt.toNat = Value.ref h1) (e24 : 19 ≠ h0) (e25 : 22 ≠ h0) (e26 : 20 ≠ h0) (hw27 : w[h0]? = some (Sum.inr (2, [Value.int 64, Value.int 0, Value.int 0, Value.int 0, Value.ref h2]))) (e28 : 19 ≠ h1) (e29 : 22 ≠ h1) (e30 : 20 ≠ h1) (hw31 : w[h1]? = some (Sum.inr (2, [Value.int 64, Value.int 0, Value.int 0, Value.int 0, Value.ref h3]))) (e32 : a3.toInt ≤ 1) (hg33 : g0 a0.toInt.toNat = Value.ref h4) (e34 : 19 ≠ h4) (e35 : 22 ≠ h4) (e36 : 20 ≠ h4) (hw37 : w[h4]? = some (Sum.inr (2, [Value.int 64, Value.int 0, Value.int 0, Value.int 0, Value.ref h5]))) (e38 : 7 ≤ h4) (e39 : h4 ≠ 194) (hw40 : w[194]? = some (Sum.inl (3, 1, fun _ => Value.long 0))) : xRun (d + 4) 114 [Value.ref 7, Value.int a0, Value.int a1, Value.int a2, Value.int a3, Value.int a4, Value.ref 194] w (.inl (some (Value.int 0))) ((((((w.set 20 (Sum.inr (3, [Value.ref 21, Value.int 0]))).set 22 (Sum.inr (3, [Value.ref 23, Value.int 0]))).set 19 (Sum.inr (5, [Value.ref 20, Value.ref 22, Value.ref 24, Value.ref 26, Value.int 0, Value.int 0, Value.int 0, Value.int 0, Value.int 0, Value.int 0, Value.int 0, Value.int 0]))).set 19 (Sum.inr (5, [Value.ref 20, Value.ref 22, Value.ref 24, Value.ref 26, Value.int 0, Value.int 1, Value.int 0, Value.int 0, Value.int 0, Value.int 0, Value.int 0, Value.int 0]))).set h4 (Sum.inr (2, [Value.int 64, Value.int 0, Value.int 0, Value.int 0, Value.ref h5]))).set 194 (Sum.inl (3, 1, xup (fun _ => Value.long 0) (0 : Int32).toInt.toNat (Value.long 0)))) := by
  refine xRun.of ?_
  refine i_114_0 (x := 194) rfl ?_
  refine i_114_2 ?_
  refine i_114_3 (x := 7) rfl ?_
  refine i_114_4 (x := a0) rfl ?_
  refine i_114_5 (x := a1) rfl ?_
  refine i_114_6 (x := a2) rfl ?_
  refine i_114_7 (x := a3) rfl ?_
  refine i_114_9 (x := a4) rfl ?_
  refine i_114_11 hw0 (Nat.le_of_ble_eq_true rfl) (p_115_24 e1 e2 e3 e4 e5 e6 hg7 e8 e9 e10 hg11 e12 e13 e14 hw0 hw15 hw16 hw17 e18 hg19 hw20 hg21 hg22 hg23 e24 e25 e26 hw27 e28 e29 e30 hw31 e32 hg33 e34 e35 e36 hw37 e38) ?_
  refine i_114_14 (c := 0) (by decide) ?_
  refine i_114_15 (v := Value.long 0) (xgn e39 (xgn (by decide) (xgn (by decide) (xgn (by decide) (xgn (by decide) hw40))))) (by decide) (by decide) (by decide) rfl ?_
  refine i_114_16 ?_
  refine i_114_23 ?_
  exact i_114_24 ⟨rfl, rfl⟩
theorem p_231_25 {d : Nat} {w : xW} {a0 : Int32} {a1 : Int32} {a2 : Int32} {a3 : Int32} {a4 : Int32} {a5 : Int32} {a6 : Int32} {g0 : Nat → Value} (e0 : 0 ≤ a0.toInt) (e1 : a0.toInt ≤ 15) (e2 : 0 ≤ a1.toInt) (e3 : a1.toInt ≤ 15) (e4 : 0 ≤ a2.toInt) (e5 : a2.toInt ≤ 15) (e6 : 1 ≤ a3.toInt) (e7 : a3.toInt ≤ 16) (hg8 : (a1 + a3) = a5) (e9 : a5.toInt ≤ 16) (hg10 : (a2 + a3) = a6) (e11 : a6.toInt ≤ 16) (e12 : 0 ≤ a4.toInt) (e13 : a4.toInt ≤ 4) (e14 : 0 < a3.toInt) (hg15 : (a1 + (0 : Int32)) = a1) (hg16 : (a2 + (0 : Int32)) = a2) (hw17 : w[128]? = some (Sum.inr (12, [Value.ref 129, Value.ref 131, Value.ref 133, Value.ref 135, Value.ref 137, Value.ref 139, Value.ref 141, Value.ref 143, Value.ref 145, Value.ref 147, Value.ref 149, Value.ref 151, Value.ref 153, Value.ref 154, Value.ref 155, Value.ref 156, Value.ref 157, Value.int (-16384), Value.int 16384, Value.int 0, Value.int 0, Value.int 0, Value.ref 158, Value.ref 159, Value.int 0, Value.int 0, Value.int 0, Value.int 0, Value.int 0, Value.int 0, Value.int 0, Value.int 0]))) (hw18 : w[154]? = some (Sum.inl (0, 17, fun _ => Value.int 0))) (e19 : a1.toInt < 17) (e20 : a2.toInt < 17) (hw21 : w[156]? = some (Sum.inl (2, 17, fun _ => Value.int 0))) (hw22 : w[155]? = some (Sum.inl (0, 17, fun _ => Value.int 0))) (hw23 : w[153]? = some (Sum.inl (0, 17, g0))) (hg24 : g0 a1.toInt.toNat = Value.int 64) (hg25 : g0 a2.toInt.toNat = Value.int 64) (e26 : a3.toInt ≤ 1) (e27 : a0.toInt < 17) : xRun (d + 2) 231 [Value.ref 128, Value.int a0, Value.int a1, Value.int a2, Value.int a3, Value.int a4] w (.inl (some (Value.int 0))) ((w.set 154 (Sum.inl (0, 17, xup (fun _ => Value.int 0) a0.toInt.toNat (Value.int 0)))).set 156 (Sum.inl (2, 17, xup (fun _ => Value.int 0) a0.toInt.toNat (Value.int 0)))) := by
  refine xRun.of ?_
  refine i_231_0 (x := a0) rfl ?_
  refine i_231_1 (Nat.le_of_ble_eq_true rfl) (p_168_1 e0 e1) ?_
  refine i_231_4 (x := a1) rfl ?_
  refine i_231_5 (Nat.le_of_ble_eq_true rfl) (p_168_1 e2 e3) ?_
  refine i_231_8 (x := a2) rfl ?_
  refine i_231_9 (Nat.le_of_ble_eq_true rfl) (p_168_1 e4 e5) ?_
  refine i_231_12 (x := a3) rfl ?_
  refine i_231_14 ?_
  refine i_231_15 ?_
  refine i_231_17 (Nat.le_of_ble_eq_true rfl) (p_169_44 e6 e7) ?_
  refine i_231_20 (fun h => absurd h (by decide)) (fun _ => ?_)
  refine i_231_23 (x := a1) rfl ?_
  refine i_231_24 (x := a3) rfl ?_
  refine i_231_26 (c := a5) hg8 ?_
  refine i_231_27 ?_
  refine i_231_29 (fun h => absurd e9 (Int.not_le.mpr h)) (fun _ => ?_)
  refine i_231_32 (x := a2) rfl ?_
  refine i_231_33 (x := a3) rfl ?_
  refine i_231_35 (c := a6) hg10 ?_
  refine i_231_36 ?_
  refine i_231_38 (fun h => absurd e11 (Int.not_le.mpr h)) (fun _ => ?_)
  refine i_231_41 ?_
  refine i_231_42 ?_
  refine i_231_46 (Nat.le_of_ble_eq_true rfl) (p_170_1) ?_
  refine i_231_49 (x := a4) rfl ?_
  refine i_231_51 (Nat.le_of_ble_eq_true rfl) (p_178_2 e12 e13) ?_
  refine i_231_54 ?_
  refine i_231_57 (lv2 := [(6, Value.int 2147483647), (0, Value.ref 128), (1, Value.int a0), (2, Value.int a1), (3, Value.int a2), (4, Value.int a3), (5, Value.int a4)]) rfl ?_
  refine i_231_59 ?_
  refine i_231_60 (lv2 := [(7, Value.int 0), (6, Value.int 2147483647), (0, Value.ref 128), (1, Value.int a0), (2, Value.int a1), (3, Value.int a2), (4, Value.int a3), (5, Value.int a4)]) rfl ?_
  refine i_231_62 ?_
  refine i_231_63 (lv2 := [(8, Value.int 0), (7, Value.int 0), (6, Value.int 2147483647), (0, Value.ref 128), (1, Value.int a0), (2, Value.int a1), (3, Value.int a2), (4, Value.int a3), (5, Value.int a4)]) rfl ?_
  refine i_231_65 ?_
  refine i_231_66 (lv2 := [(9, Value.int 0), (8, Value.int 0), (7, Value.int 0), (6, Value.int 2147483647), (0, Value.ref 128), (1, Value.int a0), (2, Value.int a1), (3, Value.int a2), (4, Value.int a3), (5, Value.int a4)]) rfl ?_
  refine i_231_68 ?_
  refine i_231_69 (lv2 := [(10, Value.int 0), (9, Value.int 0), (8, Value.int 0), (7, Value.int 0), (6, Value.int 2147483647), (0, Value.ref 128), (1, Value.int a0), (2, Value.int a1), (3, Value.int a2), (4, Value.int a3), (5, Value.int a4)]) rfl ?_
  refine i_231_71 ?_
  refine i_231_72 (lv2 := [(11, Value.int 0), (10, Value.int 0), (9, Value.int 0), (8, Value.int 0), (7, Value.int 0), (6, Value.int 2147483647), (0, Value.ref 128), (1, Value.int a0), (2, Value.int a1), (3, Value.int a2), (4, Value.int a3), (5, Value.int a4)]) rfl ?_
  refine i_231_74 (x := 0) rfl ?_
  refine i_231_76 (x := a3) rfl ?_
  refine i_231_78 (fun h => absurd e14 (Int.not_lt.mpr h)) (fun _ => ?_)
  refine i_231_81 (x := a1) rfl ?_
  refine i_231_82 (x := 0) rfl ?_
  refine i_231_84 (c := a1) hg15 ?_
  refine i_231_85 (lv2 := [(12, Value.int a1), (11, Value.int 0), (10, Value.int 0), (9, Value.int 0), (8, Value.int 0), (7, Value.int 0), (6, Value.int 2147483647), (0, Value.ref 128), (1, Value.int a0), (2, Value.int a1), (3, Value.int a2), (4, Value.int a3), (5, Value.int a4)]) rfl ?_
  refine i_231_87 (x := a2) rfl ?_
  refine i_231_88 (x := 0) rfl ?_
  refine i_231_90 (c := a2) hg16 ?_
  refine i_231_91 (lv2 := [(13, Value.int a2), (12, Value.int a1), (11, Value.int 0), (10, Value.int 0), (9, Value.int 0), (8, Value.int 0), (7, Value.int 0), (6, Value.int 2147483647), (0, Value.ref 128), (1, Value.int a0), (2, Value.int a1), (3, Value.int a2), (4, Value.int a3), (5, Value.int a4)]) rfl ?_
  refine i_231_93 (x := 0) rfl ?_
  refine i_231_95 (x := 128) rfl ?_
  refine i_231_96 (v := Value.ref 154) hw17 rfl ?_
  refine i_231_99 (x := a1) rfl ?_
  refine i_231_101 (v := Value.int 0) hw18 e2 e19 rfl ?_
  refine i_231_102 (fun _ => ?_) (fun h => absurd h (by decide))
  refine i_231_115 ?_
  refine i_231_116 ?_
  refine i_231_120 (c := 1) (by decide) ?_
  refine i_231_121 (lv2 := [(9, Value.int 1), (13, Value.int a2), (12, Value.int a1), (11, Value.int 0), (10, Value.int 0), (8, Value.int 0), (7, Value.int 0), (6, Value.int 2147483647), (0, Value.ref 128), (1, Value.int a0), (2, Value.int a1), (3, Value.int a2), (4, Value.int a3), (5, Value.int a4)]) rfl ?_
  refine i_231_123 (x := 128) rfl ?_
  refine i_231_124 (v := Value.ref 154) hw17 rfl ?_
  refine i_231_127 (x := a1) rfl ?_
  refine i_231_129 (v := Value.int 0) hw18 e2 e19 rfl ?_
  refine i_231_130 ?_
  refine i_231_131 (fun h => absurd h (by decide)) (fun _ => ?_)
  refine i_231_134 (x := 128) rfl ?_
  refine i_231_135 (v := Value.ref 154) hw17 rfl ?_
  refine i_231_138 (x := a2) rfl ?_
  refine i_231_140 (v := Value.int 0) hw18 e4 e20 rfl ?_
  refine i_231_141 ?_
  refine i_231_142 (fun _ => ?_) (fun h => absurd h (by decide))
  refine i_231_149 ?_
  refine i_231_150 (lv2 := [(14, Value.int 0), (9, Value.int 1), (13, Value.int a2), (12, Value.int a1), (11, Value.int 0), (10, Value.int 0), (8, Value.int 0), (7, Value.int 0), (6, Value.int 2147483647), (0, Value.ref 128), (1, Value.int a0), (2, Value.int a1), (3, Value.int a2), (4, Value.int a3), (5, Value.int a4)]) rfl ?_
  refine i_231_152 (x := 128) rfl ?_
  refine i_231_153 (v := Value.ref 154) hw17 rfl ?_
  refine i_231_156 (x := a1) rfl ?_
  refine i_231_158 (v := Value.int 0) hw18 e2 e19 rfl ?_
  refine i_231_159 ?_
  refine i_231_160 (fun h => absurd h (by decide)) (fun _ => ?_)
  refine i_231_163 (x := 128) rfl ?_
  refine i_231_164 (v := Value.ref 154) hw17 rfl ?_
  refine i_231_167 (x := a2) rfl ?_
  refine i_231_169 (v := Value.int 0) hw18 e4 e20 rfl ?_
  refine i_231_170 ?_
  refine i_231_171 (fun _ => ?_) (fun h => absurd h (by decide))
  refine i_231_178 ?_
  refine i_231_179 (lv2 := [(15, Value.int 0), (14, Value.int 0), (9, Value.int 1), (13, Value.int a2), (12, Value.int a1), (11, Value.int 0), (10, Value.int 0), (8, Value.int 0), (7, Value.int 0), (6, Value.int 2147483647), (0, Value.ref 128), (1, Value.int a0), (2, Value.int a1), (3, Value.int a2), (4, Value.int a3), (5, Value.int a4)]) rfl ?_
  refine i_231_181 (x := 128) rfl ?_
  refine i_231_182 (v := Value.ref 156) hw17 rfl ?_
  refine i_231_185 (x := a1) rfl ?_
  refine i_231_187z (v := Value.int 0) hw21 e2 e19 rfl ?_
  refine i_231_188 (x := 128) rfl ?_
  refine i_231_189 (v := Value.ref 156) hw17 rfl ?_
  refine i_231_192 (x := a2) rfl ?_
  refine i_231_194z (v := Value.int 0) hw21 e4 e20 rfl ?_
  refine i_231_195 (fun _ => ?_) (fun h => absurd h (by decide))
  refine i_231_202 ?_
  refine i_231_203 (lv2 := [(16, Value.int 0), (15, Value.int 0), (14, Value.int 0), (9, Value.int 1), (13, Value.int a2), (12, Value.int a1), (11, Value.int 0), (10, Value.int 0), (8, Value.int 0), (7, Value.int 0), (6, Value.int 2147483647), (0, Value.ref 128), (1, Value.int a0), (2, Value.int a1), (3, Value.int a2), (4, Value.int a3), (5, Value.int a4)]) rfl ?_
  refine i_231_205 (x := 0) rfl ?_
  refine i_231_207 (x := 0) rfl ?_
  refine i_231_209 (fun _ => ?_) (fun h => absurd h (by decide))
  refine i_231_221 ?_
  refine i_231_222 (c := 0) (by decide) ?_
  refine i_231_223 (lv2 := [(10, Value.int 0), (16, Value.int 0), (15, Value.int 0), (14, Value.int 0), (9, Value.int 1), (13, Value.int a2), (12, Value.int a1), (11, Value.int 0), (8, Value.int 0), (7, Value.int 0), (6, Value.int 2147483647), (0, Value.ref 128), (1, Value.int a0), (2, Value.int a1), (3, Value.int a2), (4, Value.int a3), (5, Value.int a4)]) rfl ?_
  refine i_231_225 (x := 0) rfl ?_
  refine i_231_227 (x := 0) rfl ?_
  refine i_231_229 (fun _ => ?_) (fun h => absurd h (by decide))
  refine i_231_241 ?_
  refine i_231_242 (c := 0) (by decide) ?_
  refine i_231_243 (lv2 := [(7, Value.int 0), (10, Value.int 0), (16, Value.int 0), (15, Value.int 0), (14, Value.int 0), (9, Value.int 1), (13, Value.int a2), (12, Value.int a1), (11, Value.int 0), (8, Value.int 0), (6, Value.int 2147483647), (0, Value.ref 128), (1, Value.int a0), (2, Value.int a1), (3, Value.int a2), (4, Value.int a3), (5, Value.int a4)]) rfl ?_
  refine i_231_245 (x := 0) rfl ?_
  refine i_231_247 (x := 0) rfl ?_
  refine i_231_249 (fun _ => ?_) (fun h => absurd h (by decide))
  refine i_231_261 ?_
  refine i_231_262 (c := 0) (by decide) ?_
  refine i_231_263 (lv2 := [(8, Value.int 0), (7, Value.int 0), (10, Value.int 0), (16, Value.int 0), (15, Value.int 0), (14, Value.int 0), (9, Value.int 1), (13, Value.int a2), (12, Value.int a1), (11, Value.int 0), (6, Value.int 2147483647), (0, Value.ref 128), (1, Value.int a0), (2, Value.int a1), (3, Value.int a2), (4, Value.int a3), (5, Value.int a4)]) rfl ?_
  refine i_231_265 (x := 0) rfl ?_
  refine i_231_267 (fun h => absurd h (by decide)) (fun _ => ?_)
  refine i_231_270 (x := 0) rfl ?_
  refine i_231_272 (fun h => absurd h (by decide)) (fun _ => ?_)
  refine i_231_275 (x := 2147483647) rfl ?_
  refine i_231_277 (x := 128) rfl ?_
  refine i_231_278 (x := a1) rfl ?_
  refine i_231_280 hw17 (Nat.le_of_ble_eq_true rfl) (p_196_0 hw17 hw22 e2 e19 hw23 hg24) ?_
  refine i_231_283 (x := 128) rfl ?_
  refine i_231_284 (x := a2) rfl ?_
  refine i_231_286 hw17 (Nat.le_of_ble_eq_true rfl) (p_196_0 hw17 hw22 e4 e20 hw23 hg25) ?_
  refine i_231_289 (c := (-128)) (by decide) ?_
  refine i_231_290 (Nat.le_of_ble_eq_true rfl) (p_272_0) ?_
  refine i_231_293 (lv2 := [(6, Value.int (-128)), (8, Value.int 0), (7, Value.int 0), (10, Value.int 0), (16, Value.int 0), (15, Value.int 0), (14, Value.int 0), (9, Value.int 1), (13, Value.int a2), (12, Value.int a1), (11, Value.int 0), (0, Value.ref 128), (1, Value.int a0), (2, Value.int a1), (3, Value.int a2), (4, Value.int a3), (5, Value.int a4)]) rfl ?_
  refine i_231_295 (x := 0) (c := 1) (lv2 := [(11, Value.int 1), (6, Value.int (-128)), (8, Value.int 0), (7, Value.int 0), (10, Value.int 0), (16, Value.int 0), (15, Value.int 0), (14, Value.int 0), (9, Value.int 1), (13, Value.int a2), (12, Value.int a1), (0, Value.ref 128), (1, Value.int a0), (2, Value.int a1), (3, Value.int a2), (4, Value.int a3), (5, Value.int a4)]) rfl (by decide) rfl ?_
  refine i_231_298 ?_
  refine i_231_74 (x := 1) rfl ?_
  refine i_231_76 (x := a3) rfl ?_
  refine i_231_78 (fun _ => ?_) (fun h => absurd e26 (Int.not_le.mpr h))
  refine i_231_301 (x := 1) rfl ?_
  refine i_231_303 (fun h => absurd h (by decide)) (fun _ => ?_)
  refine i_231_306 (x := 128) rfl ?_
  refine i_231_307 (x := a0) rfl ?_
  refine i_231_308 ?_
  refine i_231_309 ?_
  refine i_231_310 hw17 (Nat.le_of_ble_eq_true rfl) (p_171_0 hw17 hw18 e0 e27 hw21) ?_
  exact i_231_313 ⟨rfl, rfl⟩
theorem p_230_25 {d : Nat} {w : xW} {a0 : Int32} {a1 : Int32} {a2 : Int32} {a3 : Int32} {a4 : Int32} {a5 : Int32} {a6 : Int32} {g0 : Nat → Value} (hw0 : w[128]? = some (Sum.inr (12, [Value.ref 129, Value.ref 131, Value.ref 133, Value.ref 135, Value.ref 137, Value.ref 139, Value.ref 141, Value.ref 143, Value.ref 145, Value.ref 147, Value.ref 149, Value.ref 151, Value.ref 153, Value.ref 154, Value.ref 155, Value.ref 156, Value.ref 157, Value.int (-16384), Value.int 16384, Value.int 0, Value.int 0, Value.int 0, Value.ref 158, Value.ref 159, Value.int 0, Value.int 0, Value.int 0, Value.int 0, Value.int 0, Value.int 0, Value.int 0, Value.int 0]))) (e1 : 0 ≤ a0.toInt) (e2 : a0.toInt ≤ 15) (e3 : 0 ≤ a1.toInt) (e4 : a1.toInt ≤ 15) (e5 : 0 ≤ a2.toInt) (e6 : a2.toInt ≤ 15) (e7 : 1 ≤ a3.toInt) (e8 : a3.toInt ≤ 16) (hg9 : (a1 + a3) = a5) (e10 : a5.toInt ≤ 16) (hg11 : (a2 + a3) = a6) (e12 : a6.toInt ≤ 16) (e13 : 0 ≤ a4.toInt) (e14 : a4.toInt ≤ 4) (e15 : 0 < a3.toInt) (hg16 : (a1 + (0 : Int32)) = a1) (hg17 : (a2 + (0 : Int32)) = a2) (hw18 : w[154]? = some (Sum.inl (0, 17, fun _ => Value.int 0))) (e19 : a1.toInt < 17) (e20 : a2.toInt < 17) (hw21 : w[156]? = some (Sum.inl (2, 17, fun _ => Value.int 0))) (hw22 : w[155]? = some (Sum.inl (0, 17, fun _ => Value.int 0))) (hw23 : w[153]? = some (Sum.inl (0, 17, g0))) (hg24 : g0 a1.toInt.toNat = Value.int 64) (hg25 : g0 a2.toInt.toNat = Value.int 64) (e26 : a3.toInt ≤ 1) (e27 : a0.toInt < 17) : xRun (d + 3) 230 [Value.ref 128, Value.int a0, Value.int a1, Value.int a2, Value.int a3, Value.int a4] w (.inl (some (Value.int 0))) (((w.set 128 (Sum.inr (12, [Value.ref 129, Value.ref 131, Value.ref 133, Value.ref 135, Value.ref 137, Value.ref 139, Value.ref 141, Value.ref 143, Value.ref 145, Value.ref 147, Value.ref 149, Value.ref 151, Value.ref 153, Value.ref 154, Value.ref 155, Value.ref 156, Value.ref 157, Value.int (-16384), Value.int 16384, Value.int 0, Value.int 0, Value.int 0, Value.ref 158, Value.ref 159, Value.int 0, Value.int 0, Value.int 0, Value.int 0, Value.int 0, Value.int 0, Value.int 0, Value.int 0]))).set 154 (Sum.inl (0, 17, xup (fun _ => Value.int 0) a0.toInt.toNat (Value.int 0)))).set 156 (Sum.inl (2, 17, xup (fun _ => Value.int 0) a0.toInt.toNat (Value.int 0)))) := by
  refine xRun.of ?_
  refine i_230_0 (x := 128) rfl ?_
  refine i_230_1 ?_
  refine i_230_2 (fs2 := [Value.ref 129, Value.ref 131, Value.ref 133, Value.ref 135, Value.ref 137, Value.ref 139, Value.ref 141, Value.ref 143, Value.ref 145, Value.ref 147, Value.ref 149, Value.ref 151, Value.ref 153, Value.ref 154, Value.ref 155, Value.ref 156, Value.ref 157, Value.int (-16384), Value.int 16384, Value.int 0, Value.int 0, Value.int 0, Value.ref 158, Value.ref 159, Value.int 0, Value.int 0, Value.int 0, Value.int 0, Value.int 0, Value.int 0, Value.int 0, Value.int 0]) hw0 (Nat.le_of_ble_eq_true rfl) rfl (by decide) ?_
  refine i_230_5 (x := 128) rfl ?_
  refine i_230_6 (x := a0) rfl ?_
  refine i_230_7 (x := a1) rfl ?_
  refine i_230_8 (x := a2) rfl ?_
  refine i_230_9 (x := a3) rfl ?_
  refine i_230_11 (x := a4) rfl ?_
  refine i_230_13 (xgs hw0) (Nat.le_of_ble_eq_true rfl) (p_231_25 e1 e2 e3 e4 e5 e6 e7 e8 hg9 e10 hg11 e12 e13 e14 e15 hg16 hg17 (xgs hw0) (xgn (by decide) hw18) e19 e20 (xgn (by decide) hw21) (xgn (by decide) hw22) (xgn (by decide) hw23) hg24 hg25 e26 e27) ?_
  exact i_230_16 ⟨rfl, rfl⟩
theorem g_11_30 {z0 z1 z2 z3 z4 z5 z6 z7 : Int} (h0 : z0 = 11) (c0 : 0 ≤ z1) (c1 : z1 < 16) (c2 : 0 ≤ z2) (c3 : z2 < 16) (c4 : 1 ≤ z3) (c5 : z3 ≤ 16) (nN6 : z4 = z2 + z3) (c7 : z4 ≤ 16) (c8 : 0 ≤ z5) (c9 : z5 < 16) (nN10 : z6 = z5 + z3) (c11 : z6 ≤ 16) (c12 : 0 ≤ z7) (c13 : z7 ≤ 4) (c14 : z3 ≤ 1) : ((((((0 ≤ z1) ∧ (z1 < 16)) ∧ ((0 ≤ z2) ∧ ((z2 < 16) ∧ (1 ≤ z3)))) ∧ (((z3 ≤ 16) ∧ (z4 ≤ 16)) ∧ ((0 ≤ z5) ∧ ((z5 < 16) ∧ (z6 ≤ 16))))) ∧ ((((0 ≤ z7) ∧ (z7 ≤ 4)) ∧ ((0 < z3) ∧ ((z2.toNat < 16) ∧ (z5.toNat < 16)))) ∧ (((19 ≠ (30 + 3 * z2.toNat)) ∧ ((22 ≠ (30 + 3 * z2.toNat)) ∧ (20 ≠ (30 + 3 * z2.toNat)))) ∧ ((19 ≠ (30 + 3 * z5.toNat)) ∧ ((22 ≠ (30 + 3 * z5.toNat)) ∧ (20 ≠ (30 + 3 * z5.toNat))))))) ∧ (((((z3 ≤ 1) ∧ (z1.toNat < 16)) ∧ ((19 ≠ (30 + 3 * z1.toNat)) ∧ ((22 ≠ (30 + 3 * z1.toNat)) ∧ (20 ≠ (30 + 3 * z1.toNat))))) ∧ (((7 ≤ (30 + 3 * z1.toNat)) ∧ ((30 + 3 * z1.toNat) ≠ 194)) ∧ (((30 + 3 * z1.toNat) ≠ 0) ∧ (((30 + 3 * z1.toNat) ≠ 128) ∧ (z1 ≤ 15))))) ∧ ((((z2 ≤ 15) ∧ (z5 ≤ 15)) ∧ (((30 + 3 * z1.toNat) ≠ 154) ∧ ((z2 < 17) ∧ (z5 < 17)))) ∧ ((((30 + 3 * z1.toNat) ≠ 156) ∧ (((30 + 3 * z1.toNat) ≠ 155) ∧ ((30 + 3 * z1.toNat) ≠ 153))) ∧ ((z2.toNat < 17) ∧ ((z5.toNat < 17) ∧ (z1 < 17))))))) := by
  subst nN10; subst nN6; exact ⟨⟨⟨⟨⟨by omega, by omega⟩, ⟨by omega, ⟨by omega, by omega⟩⟩⟩, ⟨⟨by omega, by omega⟩, ⟨by omega, ⟨by omega, by omega⟩⟩⟩⟩, ⟨⟨⟨by omega, by omega⟩, ⟨by omega, ⟨by omega, by omega⟩⟩⟩, ⟨⟨by omega, ⟨by omega, by omega⟩⟩, ⟨by omega, ⟨by omega, by omega⟩⟩⟩⟩⟩, ⟨⟨⟨⟨by omega, by omega⟩, ⟨by omega, ⟨by omega, by omega⟩⟩⟩, ⟨⟨by omega, by omega⟩, ⟨by omega, ⟨by omega, by omega⟩⟩⟩⟩, ⟨⟨⟨by omega, by omega⟩, ⟨by omega, ⟨by omega, by omega⟩⟩⟩, ⟨⟨by omega, ⟨by omega, by omega⟩⟩, ⟨by omega, ⟨by omega, by omega⟩⟩⟩⟩⟩⟩
theorem o_11_30 {d : Nat} {xs : Nat → Int32} {N6 N10 : Int32} (h0 : ((xs 0) &&& (31 : Int32)).toInt = 11) (c0 : 0 ≤ (xs 1).toInt) (c1 : (xs 1).toInt < 16) (c2 : 0 ≤ (xs 2).toInt) (c3 : (xs 2).toInt < 16) (c4 : 1 ≤ (xs 4).toInt) (c5 : (xs 4).toInt ≤ 16) (eN6 : ((xs 2) + (xs 4)) = N6) (nN6 : N6.toInt = (xs 2).toInt + (xs 4).toInt) (c7 : N6.toInt ≤ 16) (c8 : 0 ≤ (xs 3).toInt) (c9 : (xs 3).toInt < 16) (eN10 : ((xs 3) + (xs 4)) = N10) (nN10 : N10.toInt = (xs 3).toInt + (xs 4).toInt) (c11 : N10.toInt ≤ 16) (c12 : 0 ≤ (xs 5).toInt) (c13 : (xs 5).toInt ≤ 4) (c14 : (xs 4).toInt ≤ 1) : ∃ w1, xEv (d + 20) 287 23 [(4, Value.int 0), (3, Value.ref 194), (2, Value.ref 128), (1, Value.ref 7), (0, Value.ref 0)] [] (W0 6 xs) (fun o' w' => o' = .inl (some (Value.int 1)) ∧ w' = w1) ∧ w1.length ≤ 220 ∧ xsz w1 ≤ 200000 := by
  have G : id ((((((0 ≤ (xs 1).toInt) ∧ ((xs 1).toInt < 16)) ∧ ((0 ≤ (xs 2).toInt) ∧ (((xs 2).toInt < 16) ∧ (1 ≤ (xs 4).toInt)))) ∧ ((((xs 4).toInt ≤ 16) ∧ (N6.toInt ≤ 16)) ∧ ((0 ≤ (xs 3).toInt) ∧ (((xs 3).toInt < 16) ∧ (N10.toInt ≤ 16))))) ∧ ((((0 ≤ (xs 5).toInt) ∧ ((xs 5).toInt ≤ 4)) ∧ ((0 < (xs 4).toInt) ∧ (((xs 2).toInt.toNat < 16) ∧ ((xs 3).toInt.toNat < 16)))) ∧ (((19 ≠ (30 + 3 * (xs 2).toInt.toNat)) ∧ ((22 ≠ (30 + 3 * (xs 2).toInt.toNat)) ∧ (20 ≠ (30 + 3 * (xs 2).toInt.toNat)))) ∧ ((19 ≠ (30 + 3 * (xs 3).toInt.toNat)) ∧ ((22 ≠ (30 + 3 * (xs 3).toInt.toNat)) ∧ (20 ≠ (30 + 3 * (xs 3).toInt.toNat))))))) ∧ ((((((xs 4).toInt ≤ 1) ∧ ((xs 1).toInt.toNat < 16)) ∧ ((19 ≠ (30 + 3 * (xs 1).toInt.toNat)) ∧ ((22 ≠ (30 + 3 * (xs 1).toInt.toNat)) ∧ (20 ≠ (30 + 3 * (xs 1).toInt.toNat))))) ∧ (((7 ≤ (30 + 3 * (xs 1).toInt.toNat)) ∧ ((30 + 3 * (xs 1).toInt.toNat) ≠ 194)) ∧ (((30 + 3 * (xs 1).toInt.toNat) ≠ 0) ∧ (((30 + 3 * (xs 1).toInt.toNat) ≠ 128) ∧ ((xs 1).toInt ≤ 15))))) ∧ (((((xs 2).toInt ≤ 15) ∧ ((xs 3).toInt ≤ 15)) ∧ (((30 + 3 * (xs 1).toInt.toNat) ≠ 154) ∧ (((xs 2).toInt < 17) ∧ ((xs 3).toInt < 17)))) ∧ ((((30 + 3 * (xs 1).toInt.toNat) ≠ 156) ∧ (((30 + 3 * (xs 1).toInt.toNat) ≠ 155) ∧ ((30 + 3 * (xs 1).toInt.toNat) ≠ 153))) ∧ (((xs 2).toInt.toNat < 17) ∧ (((xs 3).toInt.toNat < 17) ∧ ((xs 1).toInt < 17))))))) := g_11_30 h0 c0 c1 c2 c3 c4 c5 nN6 c7 c8 c9 nN10 c11 c12 c13 c14
  refine ⟨((((((((((W0 6 xs).set 20 (Sum.inr (3, [Value.ref 21, Value.int 0]))).set 22 (Sum.inr (3, [Value.ref 23, Value.int 0]))).set 19 (Sum.inr (5, [Value.ref 20, Value.ref 22, Value.ref 24, Value.ref 26, Value.int 0, Value.int 0, Value.int 0, Value.int 0, Value.int 0, Value.int 0, Value.int 0, Value.int 0]))).set 19 (Sum.inr (5, [Value.ref 20, Value.ref 22, Value.ref 24, Value.ref 26, Value.int 0, Value.int 1, Value.int 0, Value.int 0, Value.int 0, Value.int 0, Value.int 0, Value.int 0]))).set (30 + 3 * (xs 1).toInt.toNat) (Sum.inr (2, [Value.int 64, Value.int 0, Value.int 0, Value.int 0, Value.ref (31 + 3 * (xs 1).toInt.toNat)]))).set 194 (Sum.inl (3, 1, xup (fun _ => Value.long 0) (0 : Int32).toInt.toNat (Value.long 0)))).set 128 (Sum.inr (12, [Value.ref 129, Value.ref 131, Value.ref 133, Value.ref 135, Value.ref 137, Value.ref 139, Value.ref 141, Value.ref 143, Value.ref 145, Value.ref 147, Value.ref 149, Value.ref 151, Value.ref 153, Value.ref 154, Value.ref 155, Value.ref 156, Value.ref 157, Value.int (-16384), Value.int 16384, Value.int 0, Value.int 0, Value.int 0, Value.ref 158, Value.ref 159, Value.int 0, Value.int 0, Value.int 0, Value.int 0, Value.int 0, Value.int 0, Value.int 0, Value.int 0]))).set 154 (Sum.inl (0, 17, xup (fun _ => Value.int 0) (xs 1).toInt.toNat (Value.int 0)))).set 156 (Sum.inl (2, 17, xup (fun _ => Value.int 0) (xs 1).toInt.toNat (Value.int 0)))), ?_, (show xLs _ 220 200000 from ?_)⟩
  · refine i_287_23 (x := 0) rfl ?_
    refine i_287_25 (x := 0) rfl ?_
    refine i_287_26 (c := 6) W0_0 (by decide) ?_
    refine i_287_27 ?_
    refine i_287_29 (c := 0) (by decide) ?_
    refine i_287_30 (fun h => absurd h (by decide)) (fun _ => ?_)
    refine i_287_33 (x := 0) rfl ?_
    refine i_287_34 (x := 0) rfl ?_
    refine i_287_36 (v := Value.int (xs 0)) W0_0 (by decide) (by decide) rfl ?_
    refine i_287_37 ?_
    refine i_287_39 (c := 11) (show ((xs 0) &&& (31 : Int32)) = 11 from (xge_c (n := 11) h0 rfl)) ?_
    refine i_287_40_11 rfl ?_
    refine i_287_1149 (x := 7) rfl ?_
    refine i_287_1150 (x := 0) rfl ?_
    refine i_287_1151 (x := 0) rfl ?_
    refine i_287_1153 ?_
    refine i_287_1154 (c := 1) (by decide) ?_
    refine i_287_1155 (v := Value.int (xs 1)) W0_0 (by decide) (by decide) rfl ?_
    refine i_287_1156 (x := 0) rfl ?_
    refine i_287_1157 (x := 0) rfl ?_
    refine i_287_1159 ?_
    refine i_287_1160 (c := 2) (by decide) ?_
    refine i_287_1161 (v := Value.int (xs 2)) W0_0 (by decide) (by decide) rfl ?_
    refine i_287_1162 (x := 0) rfl ?_
    refine i_287_1163 (x := 0) rfl ?_
    refine i_287_1165 ?_
    refine i_287_1166 (c := 3) (by decide) ?_
    refine i_287_1167 (v := Value.int (xs 3)) W0_0 (by decide) (by decide) rfl ?_
    refine i_287_1168 (x := 0) rfl ?_
    refine i_287_1169 (x := 0) rfl ?_
    refine i_287_1171 ?_
    refine i_287_1172 (c := 4) (by decide) ?_
    refine i_287_1173 (v := Value.int (xs 4)) W0_0 (by decide) (by decide) rfl ?_
    refine i_287_1174 (x := 0) rfl ?_
    refine i_287_1175 (x := 0) rfl ?_
    refine i_287_1177 ?_
    refine i_287_1178 (c := 5) (by decide) ?_
    refine i_287_1179 (v := Value.int (xs 5)) W0_0 (by decide) (by decide) rfl ?_
    refine i_287_1180 (x := 194) rfl ?_
    refine i_287_1181 (Nat.le_of_ble_eq_true rfl) (p_114_24 W0_7 (G.1.1.1.1.1) (G.1.1.1.1.2) (G.1.1.1.2.1) (G.1.1.1.2.2.1) (G.1.1.1.2.2.2) (G.1.1.2.1.1) (show ((xs 2) + (xs 4)) = N6 from eN6) (G.1.1.2.1.2) (G.1.1.2.2.1) (G.1.1.2.2.2.1) (show ((xs 3) + (xs 4)) = N10 from eN10) (G.1.1.2.2.2.2) (G.1.2.1.1.1) (G.1.2.1.1.2) W0_19 W0_20 W0_22 (G.1.2.1.2.1) (show ((xs 2) + (0 : Int32)) = (xs 2) from (xadd_z _)) W0_8 (greg_at G.1.2.1.2.2.1) (show ((xs 3) + (0 : Int32)) = (xs 3) from (xadd_z _)) (greg_at G.1.2.1.2.2.2) (G.1.2.2.1.1) (G.1.2.2.1.2.1) (G.1.2.2.1.2.2) (W0_reg G.1.2.1.2.2.1) (G.1.2.2.2.1) (G.1.2.2.2.2.1) (G.1.2.2.2.2.2) (W0_reg G.1.2.1.2.2.2) (G.2.1.1.1.1) (greg_at G.2.1.1.1.2) (G.2.1.1.2.1) (G.2.1.1.2.2.1) (G.2.1.1.2.2.2) (W0_reg G.2.1.1.1.2) (G.2.1.2.1.1) (G.2.1.2.1.2) W0_194) ?_
    refine i_287_1184 (lv2 := [(5, Value.int 0), (4, Value.int 0), (3, Value.ref 194), (2, Value.ref 128), (1, Value.ref 7), (0, Value.ref 0)]) rfl ?_
    refine i_287_1186 (x := 128) rfl ?_
    refine i_287_1187 (x := 0) rfl ?_
    refine i_287_1188 (x := 0) rfl ?_
    refine i_287_1190 ?_
    refine i_287_1191 (c := 1) (by decide) ?_
    refine i_287_1192 (v := Value.int (xs 1)) (xgn (by decide) (xgn (G.2.1.2.2.1) (xgn (by decide) (xgn (by decide) (xgn (by decide) (xgn (by decide) W0_0)))))) (by decide) (by decide) rfl ?_
    refine i_287_1193 (x := 0) rfl ?_
    refine i_287_1194 (x := 0) rfl ?_
    refine i_287_1196 ?_
    refine i_287_1197 (c := 2) (by decide) ?_
    refine i_287_1198 (v := Value.int (xs 2)) (xgn (by decide) (xgn (G.2.1.2.2.1) (xgn (by decide) (xgn (by decide) (xgn (by decide) (xgn (by decide) W0_0)))))) (by decide) (by decide) rfl ?_
    refine i_287_1199 (x := 0) rfl ?_
    refine i_287_1200 (x := 0) rfl ?_
    refine i_287_1202 ?_
    refine i_287_1203 (c := 3) (by decide) ?_
    refine i_287_1204 (v := Value.int (xs 3)) (xgn (by decide) (xgn (G.2.1.2.2.1) (xgn (by decide) (xgn (by decide) (xgn (by decide) (xgn (by decide) W0_0)))))) (by decide) (by decide) rfl ?_
    refine i_287_1205 (x := 0) rfl ?_
    refine i_287_1206 (x := 0) rfl ?_
    refine i_287_1208 ?_
    refine i_287_1209 (c := 4) (by decide) ?_
    refine i_287_1210 (v := Value.int (xs 4)) (xgn (by decide) (xgn (G.2.1.2.2.1) (xgn (by decide) (xgn (by decide) (xgn (by decide) (xgn (by decide) W0_0)))))) (by decide) (by decide) rfl ?_
    refine i_287_1211 (x := 0) rfl ?_
    refine i_287_1212 (x := 0) rfl ?_
    refine i_287_1214 ?_
    refine i_287_1215 (c := 5) (by decide) ?_
    refine i_287_1216 (v := Value.int (xs 5)) (xgn (by decide) (xgn (G.2.1.2.2.1) (xgn (by decide) (xgn (by decide) (xgn (by decide) (xgn (by decide) W0_0)))))) (by decide) (by decide) rfl ?_
    refine i_287_1217 (xgn (by decide) (xgn (G.2.1.2.2.2.1) (xgn (by decide) (xgn (by decide) (xgn (by decide) (xgn (by decide) W0_128)))))) (Nat.le_of_ble_eq_true rfl) (p_230_25 (xgn (by decide) (xgn (G.2.1.2.2.2.1) (xgn (by decide) (xgn (by decide) (xgn (by decide) (xgn (by decide) W0_128)))))) (G.1.1.1.1.1) (G.2.1.2.2.2.2) (G.1.1.1.2.1) (G.2.2.1.1.1) (G.1.1.2.2.1) (G.2.2.1.1.2) (G.1.1.1.2.2.2) (G.1.1.2.1.1) (show ((xs 2) + (xs 4)) = N6 from eN6) (G.1.1.2.1.2) (show ((xs 3) + (xs 4)) = N10 from eN10) (G.1.1.2.2.2.2) (G.1.2.1.1.1) (G.1.2.1.1.2) (G.1.2.1.2.1) (show ((xs 2) + (0 : Int32)) = (xs 2) from (xadd_z _)) (show ((xs 3) + (0 : Int32)) = (xs 3) from (xadd_z _)) (xgn (by decide) (xgn (G.2.2.1.2.1) (xgn (by decide) (xgn (by decide) (xgn (by decide) (xgn (by decide) W0_154)))))) (G.2.2.1.2.2.1) (G.2.2.1.2.2.2) (xgn (by decide) (xgn (G.2.2.2.1.1) (xgn (by decide) (xgn (by decide) (xgn (by decide) (xgn (by decide) W0_156)))))) (xgn (by decide) (xgn (G.2.2.2.1.2.1) (xgn (by decide) (xgn (by decide) (xgn (by decide) (xgn (by decide) W0_155)))))) (xgn (by decide) (xgn (G.2.2.2.1.2.2) (xgn (by decide) (xgn (by decide) (xgn (by decide) (xgn (by decide) W0_153)))))) (gprec_at G.2.2.2.2.1) (gprec_at G.2.2.2.2.2.1) (G.2.1.1.1.1) (G.2.2.2.2.2.2)) ?_
    refine i_287_1220 (lv2 := [(6, Value.int 0), (5, Value.int 0), (4, Value.int 0), (3, Value.ref 194), (2, Value.ref 128), (1, Value.ref 7), (0, Value.ref 0)]) rfl ?_
    refine i_287_1222 (x := 128) rfl ?_
    refine i_287_1223 (xgn (by decide) (xgn (by decide) (xgs (xgn (by decide) (xgn (G.2.1.2.2.2.1) (xgn (by decide) (xgn (by decide) (xgn (by decide) (xgn (by decide) W0_128))))))))) (Nat.le_of_ble_eq_true rfl) (p_165_1 (xgn (by decide) (xgn (by decide) (xgs (xgn (by decide) (xgn (G.2.1.2.2.2.1) (xgn (by decide) (xgn (by decide) (xgn (by decide) (xgn (by decide) W0_128)))))))))) ?_
    refine i_287_1226 (x := 0) rfl ?_
    refine i_287_1228 (fun _ => ?_) (fun h => absurd h (by decide))
    refine i_287_1233 (x := 0) rfl ?_
    refine i_287_1235 (fun h => absurd h (by decide)) (fun _ => ?_)
    refine i_287_1238 (x := 194) rfl ?_
    refine i_287_1239 ?_
    refine i_287_1240 (v := Value.long 0) (xgn (by decide) (xgn (by decide) (xgn (by decide) (xgs (xgn (G.2.1.2.1.2) (xgn (by decide) (xgn (by decide) (xgn (by decide) (xgn (by decide) W0_194))))))))) (by decide) (by decide) xup_s ?_
    refine i_287_1241 (x := 0) rfl ?_
    refine i_287_1243 (c := 0) (by decide) ?_
    refine i_287_1244 (c := 0) (by decide) ?_
    refine i_287_1245 (fun _ => ?_) (fun h => absurd h (by decide))
    refine i_287_1250 ?_
    refine i_287_2154 (x := 0) (c := 6) (lv2 := [(4, Value.int 6), (6, Value.int 0), (5, Value.int 0), (3, Value.ref 194), (2, Value.ref 128), (1, Value.ref 7), (0, Value.ref 0)]) rfl (by decide) rfl ?_
    refine i_287_2157 ?_
    refine i_287_23 (x := 6) rfl ?_
    refine i_287_25 (x := 0) rfl ?_
    refine i_287_26 (c := 6) (xgn (by decide) (xgn (by decide) (xgn (by decide) (xgn (by decide) (xgn (G.2.1.2.2.1) (xgn (by decide) (xgn (by decide) (xgn (by decide) (xgn (by decide) W0_0))))))))) (by decide) ?_
    refine i_287_27 ?_
    refine i_287_29 (c := 0) (by decide) ?_
    refine i_287_30 (fun _ => ?_) (fun h => absurd h (by decide))
    refine i_287_2160 ?_
    exact i_287_2161 rfl ⟨rfl, rfl⟩
  · refine xLs.set ?_ (xgn (by decide) (xgn (by decide) (xgn (by decide) (xgn (G.2.2.2.1.1) (xgn (by decide) (xgn (by decide) (xgn (by decide) (xgn (by decide) W0_156)))))))) xcs_a
    refine xLs.set ?_ (xgn (by decide) (xgn (by decide) (xgn (G.2.2.1.2.1) (xgn (by decide) (xgn (by decide) (xgn (by decide) (xgn (by decide) W0_154))))))) xcs_a
    refine xLs.set ?_ (xgn (by decide) (xgn (G.2.1.2.2.2.1) (xgn (by decide) (xgn (by decide) (xgn (by decide) (xgn (by decide) W0_128)))))) xcs_o
    refine xLs.set ?_ (xgn (G.2.1.2.1.2) (xgn (by decide) (xgn (by decide) (xgn (by decide) (xgn (by decide) W0_194))))) xcs_a
    refine xLs.set ?_ (xgn (G.2.1.1.2.1) (xgn (G.2.1.1.2.1) (xgn (G.2.1.1.2.2.1) (xgn (G.2.1.1.2.2.2) (W0_reg G.2.1.1.1.2))))) xcs_o
    refine xLs.set ?_ (xgs (xgn (by decide) (xgn (by decide) W0_19))) xcs_o
    refine xLs.set ?_ (xgn (by decide) (xgn (by decide) W0_19)) xcs_o
    refine xLs.set ?_ (xgn (by decide) W0_22) xcs_o
    refine xLs.set ?_ (W0_20) xcs_o
    exact ⟨Nat.le_trans (Nat.le_of_eq W0_len) (by decide), Nat.le_trans (Nat.le_of_eq W0_sz) (by decide)⟩
theorem p_115_25 {d : Nat} {w : xW} {a0 : Int32} {a1 : Int32} {a2 : Int32} {a3 : Int32} {a4 : Int32} {a5 : Int32} (e0 : 0 ≤ a0.toInt) (e1 : a0.toInt < 16) (e2 : 0 ≤ a1.toInt) (e3 : a1.toInt < 16) (e4 : 1 ≤ a3.toInt) (e5 : a3.toInt ≤ 16) (hg6 : (a1 + a3) = a5) (e7 : a5.toInt ≤ 16) (e8 : 0 ≤ a2.toInt) (e9 : 16 ≤ a2.toInt) : xRun (d + 6) 115 [Value.ref 7, Value.int a0, Value.int a1, Value.int a2, Value.int a3, Value.int a4] w (.inr w.length) (w ++ [Sum.inr (14, [])]) := by
  refine xRun.of ?_
  refine i_115_0 (x := a0) rfl ?_
  refine i_115_1 (Nat.le_of_ble_eq_true rfl) (p_15_1 e0 e1) ?_
  refine i_115_4 (fun h => absurd h (by decide)) (fun _ => ?_)
  refine i_115_7 (x := a1) rfl ?_
  refine i_115_8 (x := a3) rfl ?_
  refine i_115_10 (Nat.le_of_ble_eq_true rfl) (p_113_4 e2 e3 e4 e5 hg6 e7) ?_
  refine i_115_13 (fun h => absurd h (by decide)) (fun _ => ?_)
  refine i_115_16 (x := a2) rfl ?_
  refine i_115_17 (x := a3) rfl ?_
  refine i_115_19 (Nat.le_of_ble_eq_true rfl) (p_113_5 e8 e9) ?_
  refine i_115_22 (fun _ => ?_) (fun h => absurd h (by decide))
  exact i_115_33 (by omega) (Nat.le_of_ble_eq_true rfl) ⟨rfl, rfl⟩
theorem p_114_25 {d : Nat} {w : xW} {a0 : Int32} {a1 : Int32} {a2 : Int32} {a3 : Int32} {a4 : Int32} {a5 : Int32} (hw0 : w[7]? = some (Sum.inr (0, [Value.ref 8, Value.ref 78, Value.ref 9, Value.ref 10, Value.ref 13, Value.ref 16, Value.ref 19, Value.ref 93, Value.ref 108, Value.ref 113, Value.ref 29, Value.int 0]))) (e1 : 0 ≤ a0.toInt) (e2 : a0.toInt < 16) (e3 : 0 ≤ a1.toInt) (e4 : a1.toInt < 16) (e5 : 1 ≤ a3.toInt) (e6 : a3.toInt ≤ 16) (hg7 : (a1 + a3) = a5) (e8 : a5.toInt ≤ 16) (e9 : 0 ≤ a2.toInt) (e10 : 16 ≤ a2.toInt) : xRun (d + 7) 114 [Value.ref 7, Value.int a0, Value.int a1, Value.int a2, Value.int a3, Value.int a4, Value.ref 194] w (.inl (some (Value.int 1))) (w ++ [Sum.inr (14, [])]) := by
  refine xRun.of ?_
  refine i_114_0 (x := 194) rfl ?_
  refine i_114_2 ?_
  refine i_114_3 (x := 7) rfl ?_
  refine i_114_4 (x := a0) rfl ?_
  refine i_114_5 (x := a1) rfl ?_
  refine i_114_6 (x := a2) rfl ?_
  refine i_114_7 (x := a3) rfl ?_
  refine i_114_9 (x := a4) rfl ?_
  refine j_114_11 hw0 (Nat.le_of_ble_eq_true rfl) (p_115_25 e1 e2 e3 e4 e5 e6 hg7 e8 e9 e10) (xDone.c xgl rfl rfl ?_)
  refine i_114_19 (lv2 := [(7, Value.ref w.length), (0, Value.ref 7), (1, Value.int a0), (2, Value.int a1), (3, Value.int a2), (4, Value.int a3), (5, Value.int a4), (6, Value.ref 194)]) rfl ?_
  refine i_114_21 ?_
  exact i_114_22 ⟨rfl, rfl⟩
theorem g_11_31 {z0 z1 z2 z3 z4 z5 : Int} (h0 : z0 = 11) (c0 : 0 ≤ z1) (c1 : z1 < 16) (c2 : 0 ≤ z2) (c3 : z2 < 16) (c4 : 1 ≤ z3) (c5 : z3 ≤ 16) (nN6 : z4 = z2 + z3) (c7 : z4 ≤ 16) (c8 : 0 ≤ z5) (c9 : 16 ≤ z5) : ((((0 ≤ z1) ∧ ((z1 < 16) ∧ (0 ≤ z2))) ∧ ((z2 < 16) ∧ ((1 ≤ z3) ∧ (z3 ≤ 16)))) ∧ (((z4 ≤ 16) ∧ ((0 ≤ z5) ∧ (16 ≤ z5))) ∧ ((z1 ≤ 15) ∧ ((z2 ≤ 15) ∧ (15 < z5))))) := by
  subst nN6; exact ⟨⟨⟨by omega, ⟨by omega, by omega⟩⟩, ⟨by omega, ⟨by omega, by omega⟩⟩⟩, ⟨⟨by omega, ⟨by omega, by omega⟩⟩, ⟨by omega, ⟨by omega, by omega⟩⟩⟩⟩
theorem o_11_31 {d : Nat} {xs : Nat → Int32} {N6 : Int32} (h0 : ((xs 0) &&& (31 : Int32)).toInt = 11) (c0 : 0 ≤ (xs 1).toInt) (c1 : (xs 1).toInt < 16) (c2 : 0 ≤ (xs 2).toInt) (c3 : (xs 2).toInt < 16) (c4 : 1 ≤ (xs 4).toInt) (c5 : (xs 4).toInt ≤ 16) (eN6 : ((xs 2) + (xs 4)) = N6) (nN6 : N6.toInt = (xs 2).toInt + (xs 4).toInt) (c7 : N6.toInt ≤ 16) (c8 : 0 ≤ (xs 3).toInt) (c9 : 16 ≤ (xs 3).toInt) : ∃ w1, xEv (d + 20) 287 23 [(4, Value.int 0), (3, Value.ref 194), (2, Value.ref 128), (1, Value.ref 7), (0, Value.ref 0)] [] (W0 6 xs) (fun o' w' => o' = .inl (some (Value.int 1)) ∧ w' = w1) ∧ w1.length ≤ 220 ∧ xsz w1 ≤ 200000 := by
  have G : id ((((0 ≤ (xs 1).toInt) ∧ (((xs 1).toInt < 16) ∧ (0 ≤ (xs 2).toInt))) ∧ (((xs 2).toInt < 16) ∧ ((1 ≤ (xs 4).toInt) ∧ ((xs 4).toInt ≤ 16)))) ∧ (((N6.toInt ≤ 16) ∧ ((0 ≤ (xs 3).toInt) ∧ (16 ≤ (xs 3).toInt))) ∧ (((xs 1).toInt ≤ 15) ∧ (((xs 2).toInt ≤ 15) ∧ (15 < (xs 3).toInt))))) := g_11_31 h0 c0 c1 c2 c3 c4 c5 nN6 c7 c8 c9
  refine ⟨(((((W0 6 xs) ++ [Sum.inr (14, [])]).set 128 (Sum.inr (12, [Value.ref 129, Value.ref 131, Value.ref 133, Value.ref 135, Value.ref 137, Value.ref 139, Value.ref 141, Value.ref 143, Value.ref 145, Value.ref 147, Value.ref 149, Value.ref 151, Value.ref 153, Value.ref 154, Value.ref 155, Value.ref 156, Value.ref 157, Value.int (-16384), Value.int 16384, Value.int 0, Value.int 0, Value.int 0, Value.ref 158, Value.ref 159, Value.int 0, Value.int 0, Value.int 0, Value.int 0, Value.int 0, Value.int 0, Value.int 0, Value.int 0]))) ++ [Sum.inr (14, [])]).set 128 (Sum.inr (12, [Value.ref 129, Value.ref 131, Value.ref 133, Value.ref 135, Value.ref 137, Value.ref 139, Value.ref 141, Value.ref 143, Value.ref 145, Value.ref 147, Value.ref 149, Value.ref 151, Value.ref 153, Value.ref 154, Value.ref 155, Value.ref 156, Value.ref 157, Value.int (-16384), Value.int 16384, Value.int 0, Value.int 0, Value.int 0, Value.ref 158, Value.ref 159, Value.int 0, Value.int 0, Value.int 0, Value.int 0, Value.int 0, Value.int 0, Value.int 0, Value.int 1]))), ?_, (show xLs _ 220 200000 from ?_)⟩
  · refine i_287_23 (x := 0) rfl ?_
    refine i_287_25 (x := 0) rfl ?_
    refine i_287_26 (c := 6) W0_0 (by decide) ?_
    refine i_287_27 ?_
    refine i_287_29 (c := 0) (by decide) ?_
    refine i_287_30 (fun h => absurd h (by decide)) (fun _ => ?_)
    refine i_287_33 (x := 0) rfl ?_
    refine i_287_34 (x := 0) rfl ?_
    refine i_287_36 (v := Value.int (xs 0)) W0_0 (by decide) (by decide) rfl ?_
    refine i_287_37 ?_
    refine i_287_39 (c := 11) (show ((xs 0) &&& (31 : Int32)) = 11 from (xge_c (n := 11) h0 rfl)) ?_
    refine i_287_40_11 rfl ?_
    refine i_287_1149 (x := 7) rfl ?_
    refine i_287_1150 (x := 0) rfl ?_
    refine i_287_1151 (x := 0) rfl ?_
    refine i_287_1153 ?_
    refine i_287_1154 (c := 1) (by decide) ?_
    refine i_287_1155 (v := Value.int (xs 1)) W0_0 (by decide) (by decide) rfl ?_
    refine i_287_1156 (x := 0) rfl ?_
    refine i_287_1157 (x := 0) rfl ?_
    refine i_287_1159 ?_
    refine i_287_1160 (c := 2) (by decide) ?_
    refine i_287_1161 (v := Value.int (xs 2)) W0_0 (by decide) (by decide) rfl ?_
    refine i_287_1162 (x := 0) rfl ?_
    refine i_287_1163 (x := 0) rfl ?_
    refine i_287_1165 ?_
    refine i_287_1166 (c := 3) (by decide) ?_
    refine i_287_1167 (v := Value.int (xs 3)) W0_0 (by decide) (by decide) rfl ?_
    refine i_287_1168 (x := 0) rfl ?_
    refine i_287_1169 (x := 0) rfl ?_
    refine i_287_1171 ?_
    refine i_287_1172 (c := 4) (by decide) ?_
    refine i_287_1173 (v := Value.int (xs 4)) W0_0 (by decide) (by decide) rfl ?_
    refine i_287_1174 (x := 0) rfl ?_
    refine i_287_1175 (x := 0) rfl ?_
    refine i_287_1177 ?_
    refine i_287_1178 (c := 5) (by decide) ?_
    refine i_287_1179 (v := Value.int (xs 5)) W0_0 (by decide) (by decide) rfl ?_
    refine i_287_1180 (x := 194) rfl ?_
    refine i_287_1181 (Nat.le_of_ble_eq_true rfl) (p_114_25 W0_7 (G.1.1.1) (G.1.1.2.1) (G.1.1.2.2) (G.1.2.1) (G.1.2.2.1) (G.1.2.2.2) (show ((xs 2) + (xs 4)) = N6 from eN6) (G.2.1.1) (G.2.1.2.1) (G.2.1.2.2)) ?_
    refine i_287_1184 (lv2 := [(5, Value.int 1), (4, Value.int 0), (3, Value.ref 194), (2, Value.ref 128), (1, Value.ref 7), (0, Value.ref 0)]) rfl ?_
    refine i_287_1186 (x := 128) rfl ?_
    refine i_287_1187 (x := 0) rfl ?_
    refine i_287_1188 (x := 0) rfl ?_
    refine i_287_1190 ?_
    refine i_287_1191 (c := 1) (by decide) ?_
    refine i_287_1192 (v := Value.int (xs 1)) (xga W0_0) (by decide) (by decide) rfl ?_
    refine i_287_1193 (x := 0) rfl ?_
    refine i_287_1194 (x := 0) rfl ?_
    refine i_287_1196 ?_
    refine i_287_1197 (c := 2) (by decide) ?_
    refine i_287_1198 (v := Value.int (xs 2)) (xga W0_0) (by decide) (by decide) rfl ?_
    refine i_287_1199 (x := 0) rfl ?_
    refine i_287_1200 (x := 0) rfl ?_
    refine i_287_1202 ?_
    refine i_287_1203 (c := 3) (by decide) ?_
    refine i_287_1204 (v := Value.int (xs 3)) (xga W0_0) (by decide) (by decide) rfl ?_
    refine i_287_1205 (x := 0) rfl ?_
    refine i_287_1206 (x := 0) rfl ?_
    refine i_287_1208 ?_
    refine i_287_1209 (c := 4) (by decide) ?_
    refine i_287_1210 (v := Value.int (xs 4)) (xga W0_0) (by decide) (by decide) rfl ?_
    refine i_287_1211 (x := 0) rfl ?_
    refine i_287_1212 (x := 0) rfl ?_
    refine i_287_1214 ?_
    refine i_287_1215 (c := 5) (by decide) ?_
    refine i_287_1216 (v := Value.int (xs 5)) (xga W0_0) (by decide) (by decide) rfl ?_
    refine i_287_1217 (xga W0_128) (Nat.le_of_ble_eq_true rfl) (p_230_3 (xga W0_128) (G.1.1.1) (G.2.2.1) (G.1.1.2.2) (G.2.2.2.1) (G.2.1.2.1) (G.2.2.2.2)) ?_
    refine i_287_1220 (lv2 := [(6, Value.int 0), (5, Value.int 1), (4, Value.int 0), (3, Value.ref 194), (2, Value.ref 128), (1, Value.ref 7), (0, Value.ref 0)]) rfl ?_
    refine i_287_1222 (x := 128) rfl ?_
    refine i_287_1223 (xgs (xga (xgs (xga W0_128)))) (Nat.le_of_ble_eq_true rfl) (p_165_0 (xgs (xga (xgs (xga W0_128))))) ?_
    refine i_287_1226 (x := 1) rfl ?_
    refine i_287_1228 (fun _ => ?_) (fun h => absurd h (by decide))
    refine i_287_1233 (x := 1) rfl ?_
    refine i_287_1235 (fun _ => ?_) (fun h => absurd h (by decide))
    refine i_287_1250 ?_
    refine i_287_2154 (x := 0) (c := 6) (lv2 := [(4, Value.int 6), (6, Value.int 0), (5, Value.int 1), (3, Value.ref 194), (2, Value.ref 128), (1, Value.ref 7), (0, Value.ref 0)]) rfl (by decide) rfl ?_
    refine i_287_2157 ?_
    refine i_287_23 (x := 6) rfl ?_
    refine i_287_25 (x := 0) rfl ?_
    refine i_287_26 (c := 6) (xgn (by decide) (xga (xgn (by decide) (xga W0_0)))) (by decide) ?_
    refine i_287_27 ?_
    refine i_287_29 (c := 0) (by decide) ?_
    refine i_287_30 (fun _ => ?_) (fun h => absurd h (by decide))
    refine i_287_2160 ?_
    exact i_287_2161 rfl ⟨rfl, rfl⟩
  · refine xLs.set ?_ (xga (xgs (xga W0_128))) xcs_o
    refine xLs.app (n := 219) (z := 199994) (m := 6) ?_ rfl
    refine xLs.set ?_ (xga W0_128) xcs_o
    refine xLs.app (n := 218) (z := 199988) (m := 6) ?_ rfl
    exact ⟨Nat.le_trans (Nat.le_of_eq W0_len) (by decide), Nat.le_trans (Nat.le_of_eq W0_sz) (by decide)⟩
theorem p_115_26 {d : Nat} {w : xW} {a0 : Int32} {a1 : Int32} {a2 : Int32} {a3 : Int32} {a4 : Int32} (e0 : 0 ≤ a0.toInt) (e1 : a0.toInt < 16) (e2 : 0 ≤ a1.toInt) (e3 : 16 ≤ a1.toInt) : xRun (d + 6) 115 [Value.ref 7, Value.int a0, Value.int a1, Value.int a2, Value.int a3, Value.int a4] w (.inr w.length) (w ++ [Sum.inr (14, [])]) := by
  refine xRun.of ?_
  refine i_115_0 (x := a0) rfl ?_
  refine i_115_1 (Nat.le_of_ble_eq_true rfl) (p_15_1 e0 e1) ?_
  refine i_115_4 (fun h => absurd h (by decide)) (fun _ => ?_)
  refine i_115_7 (x := a1) rfl ?_
  refine i_115_8 (x := a3) rfl ?_
  refine i_115_10 (Nat.le_of_ble_eq_true rfl) (p_113_5 e2 e3) ?_
  refine i_115_13 (fun _ => ?_) (fun h => absurd h (by decide))
  exact i_115_33 (by omega) (Nat.le_of_ble_eq_true rfl) ⟨rfl, rfl⟩
theorem p_114_26 {d : Nat} {w : xW} {a0 : Int32} {a1 : Int32} {a2 : Int32} {a3 : Int32} {a4 : Int32} (hw0 : w[7]? = some (Sum.inr (0, [Value.ref 8, Value.ref 78, Value.ref 9, Value.ref 10, Value.ref 13, Value.ref 16, Value.ref 19, Value.ref 93, Value.ref 108, Value.ref 113, Value.ref 29, Value.int 0]))) (e1 : 0 ≤ a0.toInt) (e2 : a0.toInt < 16) (e3 : 0 ≤ a1.toInt) (e4 : 16 ≤ a1.toInt) : xRun (d + 7) 114 [Value.ref 7, Value.int a0, Value.int a1, Value.int a2, Value.int a3, Value.int a4, Value.ref 194] w (.inl (some (Value.int 1))) (w ++ [Sum.inr (14, [])]) := by
  refine xRun.of ?_
  refine i_114_0 (x := 194) rfl ?_
  refine i_114_2 ?_
  refine i_114_3 (x := 7) rfl ?_
  refine i_114_4 (x := a0) rfl ?_
  refine i_114_5 (x := a1) rfl ?_
  refine i_114_6 (x := a2) rfl ?_
  refine i_114_7 (x := a3) rfl ?_
  refine i_114_9 (x := a4) rfl ?_
  refine j_114_11 hw0 (Nat.le_of_ble_eq_true rfl) (p_115_26 e1 e2 e3 e4) (xDone.c xgl rfl rfl ?_)
  refine i_114_19 (lv2 := [(7, Value.ref w.length), (0, Value.ref 7), (1, Value.int a0), (2, Value.int a1), (3, Value.int a2), (4, Value.int a3), (5, Value.int a4), (6, Value.ref 194)]) rfl ?_
  refine i_114_21 ?_
  exact i_114_22 ⟨rfl, rfl⟩
theorem p_231_26 {d : Nat} {w : xW} {a0 : Int32} {a1 : Int32} {a2 : Int32} {a3 : Int32} {a4 : Int32} (e0 : 0 ≤ a0.toInt) (e1 : a0.toInt ≤ 15) (e2 : 0 ≤ a1.toInt) (e3 : 15 < a1.toInt) : xRun (d + 8) 231 [Value.ref 128, Value.int a0, Value.int a1, Value.int a2, Value.int a3, Value.int a4] w (.inr w.length) (w ++ [Sum.inr (14, [])]) := by
  refine xRun.of ?_
  refine i_231_0 (x := a0) rfl ?_
  refine i_231_1 (Nat.le_of_ble_eq_true rfl) (p_168_1 e0 e1) ?_
  refine i_231_4 (x := a1) rfl ?_
  exact j_231_5 (Nat.le_of_ble_eq_true rfl) (p_168_2 e2 e3) (xDone.t xgl rfl rfl ⟨rfl, rfl⟩)
theorem p_230_26 {d : Nat} {w : xW} {a0 : Int32} {a1 : Int32} {a2 : Int32} {a3 : Int32} {a4 : Int32} (hw0 : w[128]? = some (Sum.inr (12, [Value.ref 129, Value.ref 131, Value.ref 133, Value.ref 135, Value.ref 137, Value.ref 139, Value.ref 141, Value.ref 143, Value.ref 145, Value.ref 147, Value.ref 149, Value.ref 151, Value.ref 153, Value.ref 154, Value.ref 155, Value.ref 156, Value.ref 157, Value.int (-16384), Value.int 16384, Value.int 0, Value.int 0, Value.int 0, Value.ref 158, Value.ref 159, Value.int 0, Value.int 0, Value.int 0, Value.int 0, Value.int 0, Value.int 0, Value.int 0, Value.int 0]))) (e1 : 0 ≤ a0.toInt) (e2 : a0.toInt ≤ 15) (e3 : 0 ≤ a1.toInt) (e4 : 15 < a1.toInt) : xRun (d + 9) 230 [Value.ref 128, Value.int a0, Value.int a1, Value.int a2, Value.int a3, Value.int a4] w (.inl (some (Value.int 0))) (((w.set 128 (Sum.inr (12, [Value.ref 129, Value.ref 131, Value.ref 133, Value.ref 135, Value.ref 137, Value.ref 139, Value.ref 141, Value.ref 143, Value.ref 145, Value.ref 147, Value.ref 149, Value.ref 151, Value.ref 153, Value.ref 154, Value.ref 155, Value.ref 156, Value.ref 157, Value.int (-16384), Value.int 16384, Value.int 0, Value.int 0, Value.int 0, Value.ref 158, Value.ref 159, Value.int 0, Value.int 0, Value.int 0, Value.int 0, Value.int 0, Value.int 0, Value.int 0, Value.int 0]))) ++ [Sum.inr (14, [])]).set 128 (Sum.inr (12, [Value.ref 129, Value.ref 131, Value.ref 133, Value.ref 135, Value.ref 137, Value.ref 139, Value.ref 141, Value.ref 143, Value.ref 145, Value.ref 147, Value.ref 149, Value.ref 151, Value.ref 153, Value.ref 154, Value.ref 155, Value.ref 156, Value.ref 157, Value.int (-16384), Value.int 16384, Value.int 0, Value.int 0, Value.int 0, Value.ref 158, Value.ref 159, Value.int 0, Value.int 0, Value.int 0, Value.int 0, Value.int 0, Value.int 0, Value.int 0, Value.int 1]))) := by
  refine xRun.of ?_
  refine i_230_0 (x := 128) rfl ?_
  refine i_230_1 ?_
  refine i_230_2 (fs2 := [Value.ref 129, Value.ref 131, Value.ref 133, Value.ref 135, Value.ref 137, Value.ref 139, Value.ref 141, Value.ref 143, Value.ref 145, Value.ref 147, Value.ref 149, Value.ref 151, Value.ref 153, Value.ref 154, Value.ref 155, Value.ref 156, Value.ref 157, Value.int (-16384), Value.int 16384, Value.int 0, Value.int 0, Value.int 0, Value.ref 158, Value.ref 159, Value.int 0, Value.int 0, Value.int 0, Value.int 0, Value.int 0, Value.int 0, Value.int 0, Value.int 0]) hw0 (Nat.le_of_ble_eq_true rfl) rfl (by decide) ?_
  refine i_230_5 (x := 128) rfl ?_
  refine i_230_6 (x := a0) rfl ?_
  refine i_230_7 (x := a1) rfl ?_
  refine i_230_8 (x := a2) rfl ?_
  refine i_230_9 (x := a3) rfl ?_
  refine i_230_11 (x := a4) rfl ?_
  refine j_230_13 (xgs hw0) (Nat.le_of_ble_eq_true rfl) (p_231_26 e1 e2 e3 e4) (xDone.c xgl rfl rfl ?_)
  refine i_230_17 (lv2 := [(6, Value.ref ((w.set 128 (Sum.inr (12, [Value.ref 129, Value.ref 131, Value.ref 133, Value.ref 135, Value.ref 137, Value.ref 139, Value.ref 141, Value.ref 143, Value.ref 145, Value.ref 147, Value.ref 149, Value.ref 151, Value.ref 153, Value.ref 154, Value.ref 155, Value.ref 156, Value.ref 157, Value.int (-16384), Value.int 16384, Value.int 0, Value.int 0, Value.int 0, Value.ref 158, Value.ref 159, Value.int 0, Value.int 0, Value.int 0, Value.int 0, Value.int 0, Value.int 0, Value.int 0, Value.int 0]))).length)), (0, Value.ref 128), (1, Value.int a0), (2, Value.int a1), (3, Value.int a2), (4, Value.int a3), (5, Value.int a4)]) rfl ?_
  refine i_230_19 (x := 128) rfl ?_
  refine i_230_20 ?_
  refine i_230_21 (fs2 := [Value.ref 129, Value.ref 131, Value.ref 133, Value.ref 135, Value.ref 137, Value.ref 139, Value.ref 141, Value.ref 143, Value.ref 145, Value.ref 147, Value.ref 149, Value.ref 151, Value.ref 153, Value.ref 154, Value.ref 155, Value.ref 156, Value.ref 157, Value.int (-16384), Value.int 16384, Value.int 0, Value.int 0, Value.int 0, Value.ref 158, Value.ref 159, Value.int 0, Value.int 0, Value.int 0, Value.int 0, Value.int 0, Value.int 0, Value.int 0, Value.int 1]) (xga (xgs hw0)) (Nat.le_of_ble_eq_true rfl) rfl (by decide) ?_
  refine i_230_24 ?_
  exact i_230_25 ⟨rfl, rfl⟩
theorem g_11_32 {z0 z1 z2 : Int} (h0 : z0 = 11) (c0 : 0 ≤ z1) (c1 : z1 < 16) (c2 : 0 ≤ z2) (c3 : 16 ≤ z2) : (((0 ≤ z1) ∧ ((z1 < 16) ∧ (0 ≤ z2))) ∧ ((16 ≤ z2) ∧ ((z1 ≤ 15) ∧ (15 < z2)))) := by
  exact ⟨⟨by omega, ⟨by omega, by omega⟩⟩, ⟨by omega, ⟨by omega, by omega⟩⟩⟩
theorem o_11_32 {d : Nat} {xs : Nat → Int32} (h0 : ((xs 0) &&& (31 : Int32)).toInt = 11) (c0 : 0 ≤ (xs 1).toInt) (c1 : (xs 1).toInt < 16) (c2 : 0 ≤ (xs 2).toInt) (c3 : 16 ≤ (xs 2).toInt) : ∃ w1, xEv (d + 20) 287 23 [(4, Value.int 0), (3, Value.ref 194), (2, Value.ref 128), (1, Value.ref 7), (0, Value.ref 0)] [] (W0 6 xs) (fun o' w' => o' = .inl (some (Value.int 1)) ∧ w' = w1) ∧ w1.length ≤ 220 ∧ xsz w1 ≤ 200000 := by
  have G : id (((0 ≤ (xs 1).toInt) ∧ (((xs 1).toInt < 16) ∧ (0 ≤ (xs 2).toInt))) ∧ ((16 ≤ (xs 2).toInt) ∧ (((xs 1).toInt ≤ 15) ∧ (15 < (xs 2).toInt)))) := g_11_32 h0 c0 c1 c2 c3
  refine ⟨(((((W0 6 xs) ++ [Sum.inr (14, [])]).set 128 (Sum.inr (12, [Value.ref 129, Value.ref 131, Value.ref 133, Value.ref 135, Value.ref 137, Value.ref 139, Value.ref 141, Value.ref 143, Value.ref 145, Value.ref 147, Value.ref 149, Value.ref 151, Value.ref 153, Value.ref 154, Value.ref 155, Value.ref 156, Value.ref 157, Value.int (-16384), Value.int 16384, Value.int 0, Value.int 0, Value.int 0, Value.ref 158, Value.ref 159, Value.int 0, Value.int 0, Value.int 0, Value.int 0, Value.int 0, Value.int 0, Value.int 0, Value.int 0]))) ++ [Sum.inr (14, [])]).set 128 (Sum.inr (12, [Value.ref 129, Value.ref 131, Value.ref 133, Value.ref 135, Value.ref 137, Value.ref 139, Value.ref 141, Value.ref 143, Value.ref 145, Value.ref 147, Value.ref 149, Value.ref 151, Value.ref 153, Value.ref 154, Value.ref 155, Value.ref 156, Value.ref 157, Value.int (-16384), Value.int 16384, Value.int 0, Value.int 0, Value.int 0, Value.ref 158, Value.ref 159, Value.int 0, Value.int 0, Value.int 0, Value.int 0, Value.int 0, Value.int 0, Value.int 0, Value.int 1]))), ?_, (show xLs _ 220 200000 from ?_)⟩
  · refine i_287_23 (x := 0) rfl ?_
    refine i_287_25 (x := 0) rfl ?_
    refine i_287_26 (c := 6) W0_0 (by decide) ?_
    refine i_287_27 ?_
    refine i_287_29 (c := 0) (by decide) ?_
    refine i_287_30 (fun h => absurd h (by decide)) (fun _ => ?_)
    refine i_287_33 (x := 0) rfl ?_
    refine i_287_34 (x := 0) rfl ?_
    refine i_287_36 (v := Value.int (xs 0)) W0_0 (by decide) (by decide) rfl ?_
    refine i_287_37 ?_
    refine i_287_39 (c := 11) (show ((xs 0) &&& (31 : Int32)) = 11 from (xge_c (n := 11) h0 rfl)) ?_
    refine i_287_40_11 rfl ?_
    refine i_287_1149 (x := 7) rfl ?_
    refine i_287_1150 (x := 0) rfl ?_
    refine i_287_1151 (x := 0) rfl ?_
    refine i_287_1153 ?_
    refine i_287_1154 (c := 1) (by decide) ?_
    refine i_287_1155 (v := Value.int (xs 1)) W0_0 (by decide) (by decide) rfl ?_
    refine i_287_1156 (x := 0) rfl ?_
    refine i_287_1157 (x := 0) rfl ?_
    refine i_287_1159 ?_
    refine i_287_1160 (c := 2) (by decide) ?_
    refine i_287_1161 (v := Value.int (xs 2)) W0_0 (by decide) (by decide) rfl ?_
    refine i_287_1162 (x := 0) rfl ?_
    refine i_287_1163 (x := 0) rfl ?_
    refine i_287_1165 ?_
    refine i_287_1166 (c := 3) (by decide) ?_
    refine i_287_1167 (v := Value.int (xs 3)) W0_0 (by decide) (by decide) rfl ?_
    refine i_287_1168 (x := 0) rfl ?_
    refine i_287_1169 (x := 0) rfl ?_
    refine i_287_1171 ?_
    refine i_287_1172 (c := 4) (by decide) ?_
    refine i_287_1173 (v := Value.int (xs 4)) W0_0 (by decide) (by decide) rfl ?_
    refine i_287_1174 (x := 0) rfl ?_
    refine i_287_1175 (x := 0) rfl ?_
    refine i_287_1177 ?_
    refine i_287_1178 (c := 5) (by decide) ?_
    refine i_287_1179 (v := Value.int (xs 5)) W0_0 (by decide) (by decide) rfl ?_
    refine i_287_1180 (x := 194) rfl ?_
    refine i_287_1181 (Nat.le_of_ble_eq_true rfl) (p_114_26 W0_7 (G.1.1) (G.1.2.1) (G.1.2.2) (G.2.1)) ?_
    refine i_287_1184 (lv2 := [(5, Value.int 1), (4, Value.int 0), (3, Value.ref 194), (2, Value.ref 128), (1, Value.ref 7), (0, Value.ref 0)]) rfl ?_
    refine i_287_1186 (x := 128) rfl ?_
    refine i_287_1187 (x := 0) rfl ?_
    refine i_287_1188 (x := 0) rfl ?_
    refine i_287_1190 ?_
    refine i_287_1191 (c := 1) (by decide) ?_
    refine i_287_1192 (v := Value.int (xs 1)) (xga W0_0) (by decide) (by decide) rfl ?_
    refine i_287_1193 (x := 0) rfl ?_
    refine i_287_1194 (x := 0) rfl ?_
    refine i_287_1196 ?_
    refine i_287_1197 (c := 2) (by decide) ?_
    refine i_287_1198 (v := Value.int (xs 2)) (xga W0_0) (by decide) (by decide) rfl ?_
    refine i_287_1199 (x := 0) rfl ?_
    refine i_287_1200 (x := 0) rfl ?_
    refine i_287_1202 ?_
    refine i_287_1203 (c := 3) (by decide) ?_
    refine i_287_1204 (v := Value.int (xs 3)) (xga W0_0) (by decide) (by decide) rfl ?_
    refine i_287_1205 (x := 0) rfl ?_
    refine i_287_1206 (x := 0) rfl ?_
    refine i_287_1208 ?_
    refine i_287_1209 (c := 4) (by decide) ?_
    refine i_287_1210 (v := Value.int (xs 4)) (xga W0_0) (by decide) (by decide) rfl ?_
    refine i_287_1211 (x := 0) rfl ?_
    refine i_287_1212 (x := 0) rfl ?_
    refine i_287_1214 ?_
    refine i_287_1215 (c := 5) (by decide) ?_
    refine i_287_1216 (v := Value.int (xs 5)) (xga W0_0) (by decide) (by decide) rfl ?_
    refine i_287_1217 (xga W0_128) (Nat.le_of_ble_eq_true rfl) (p_230_26 (xga W0_128) (G.1.1) (G.2.2.1) (G.1.2.2) (G.2.2.2)) ?_
    refine i_287_1220 (lv2 := [(6, Value.int 0), (5, Value.int 1), (4, Value.int 0), (3, Value.ref 194), (2, Value.ref 128), (1, Value.ref 7), (0, Value.ref 0)]) rfl ?_
    refine i_287_1222 (x := 128) rfl ?_
    refine i_287_1223 (xgs (xga (xgs (xga W0_128)))) (Nat.le_of_ble_eq_true rfl) (p_165_0 (xgs (xga (xgs (xga W0_128))))) ?_
    refine i_287_1226 (x := 1) rfl ?_
    refine i_287_1228 (fun _ => ?_) (fun h => absurd h (by decide))
    refine i_287_1233 (x := 1) rfl ?_
    refine i_287_1235 (fun _ => ?_) (fun h => absurd h (by decide))
    refine i_287_1250 ?_
    refine i_287_2154 (x := 0) (c := 6) (lv2 := [(4, Value.int 6), (6, Value.int 0), (5, Value.int 1), (3, Value.ref 194), (2, Value.ref 128), (1, Value.ref 7), (0, Value.ref 0)]) rfl (by decide) rfl ?_
    refine i_287_2157 ?_
    refine i_287_23 (x := 6) rfl ?_
    refine i_287_25 (x := 0) rfl ?_
    refine i_287_26 (c := 6) (xgn (by decide) (xga (xgn (by decide) (xga W0_0)))) (by decide) ?_
    refine i_287_27 ?_
    refine i_287_29 (c := 0) (by decide) ?_
    refine i_287_30 (fun _ => ?_) (fun h => absurd h (by decide))
    refine i_287_2160 ?_
    exact i_287_2161 rfl ⟨rfl, rfl⟩
  · refine xLs.set ?_ (xga (xgs (xga W0_128))) xcs_o
    refine xLs.app (n := 219) (z := 199994) (m := 6) ?_ rfl
    refine xLs.set ?_ (xga W0_128) xcs_o
    refine xLs.app (n := 218) (z := 199988) (m := 6) ?_ rfl
    exact ⟨Nat.le_trans (Nat.le_of_eq W0_len) (by decide), Nat.le_trans (Nat.le_of_eq W0_sz) (by decide)⟩
theorem p_115_27 {d : Nat} {w : xW} {a0 : Int32} {a1 : Int32} {a2 : Int32} {a3 : Int32} {a4 : Int32} (e0 : 0 ≤ a0.toInt) (e1 : 16 ≤ a0.toInt) : xRun (d + 6) 115 [Value.ref 7, Value.int a0, Value.int a1, Value.int a2, Value.int a3, Value.int a4] w (.inr w.length) (w ++ [Sum.inr (14, [])]) := by
  refine xRun.of ?_
  refine i_115_0 (x := a0) rfl ?_
  refine i_115_1 (Nat.le_of_ble_eq_true rfl) (p_15_2 e0 e1) ?_
  refine i_115_4 (fun _ => ?_) (fun h => absurd h (by decide))
  exact i_115_33 (by omega) (Nat.le_of_ble_eq_true rfl) ⟨rfl, rfl⟩
theorem p_114_27 {d : Nat} {w : xW} {a0 : Int32} {a1 : Int32} {a2 : Int32} {a3 : Int32} {a4 : Int32} (hw0 : w[7]? = some (Sum.inr (0, [Value.ref 8, Value.ref 78, Value.ref 9, Value.ref 10, Value.ref 13, Value.ref 16, Value.ref 19, Value.ref 93, Value.ref 108, Value.ref 113, Value.ref 29, Value.int 0]))) (e1 : 0 ≤ a0.toInt) (e2 : 16 ≤ a0.toInt) : xRun (d + 7) 114 [Value.ref 7, Value.int a0, Value.int a1, Value.int a2, Value.int a3, Value.int a4, Value.ref 194] w (.inl (some (Value.int 1))) (w ++ [Sum.inr (14, [])]) := by
  refine xRun.of ?_
  refine i_114_0 (x := 194) rfl ?_
  refine i_114_2 ?_
  refine i_114_3 (x := 7) rfl ?_
  refine i_114_4 (x := a0) rfl ?_
  refine i_114_5 (x := a1) rfl ?_
  refine i_114_6 (x := a2) rfl ?_
  refine i_114_7 (x := a3) rfl ?_
  refine i_114_9 (x := a4) rfl ?_
  refine j_114_11 hw0 (Nat.le_of_ble_eq_true rfl) (p_115_27 e1 e2) (xDone.c xgl rfl rfl ?_)
  refine i_114_19 (lv2 := [(7, Value.ref w.length), (0, Value.ref 7), (1, Value.int a0), (2, Value.int a1), (3, Value.int a2), (4, Value.int a3), (5, Value.int a4), (6, Value.ref 194)]) rfl ?_
  refine i_114_21 ?_
  exact i_114_22 ⟨rfl, rfl⟩
theorem p_231_27 {d : Nat} {w : xW} {a0 : Int32} {a1 : Int32} {a2 : Int32} {a3 : Int32} {a4 : Int32} (e0 : 0 ≤ a0.toInt) (e1 : 15 < a0.toInt) : xRun (d + 8) 231 [Value.ref 128, Value.int a0, Value.int a1, Value.int a2, Value.int a3, Value.int a4] w (.inr w.length) (w ++ [Sum.inr (14, [])]) := by
  refine xRun.of ?_
  refine i_231_0 (x := a0) rfl ?_
  exact j_231_1 (Nat.le_of_ble_eq_true rfl) (p_168_2 e0 e1) (xDone.t xgl rfl rfl ⟨rfl, rfl⟩)
theorem p_230_27 {d : Nat} {w : xW} {a0 : Int32} {a1 : Int32} {a2 : Int32} {a3 : Int32} {a4 : Int32} (hw0 : w[128]? = some (Sum.inr (12, [Value.ref 129, Value.ref 131, Value.ref 133, Value.ref 135, Value.ref 137, Value.ref 139, Value.ref 141, Value.ref 143, Value.ref 145, Value.ref 147, Value.ref 149, Value.ref 151, Value.ref 153, Value.ref 154, Value.ref 155, Value.ref 156, Value.ref 157, Value.int (-16384), Value.int 16384, Value.int 0, Value.int 0, Value.int 0, Value.ref 158, Value.ref 159, Value.int 0, Value.int 0, Value.int 0, Value.int 0, Value.int 0, Value.int 0, Value.int 0, Value.int 0]))) (e1 : 0 ≤ a0.toInt) (e2 : 15 < a0.toInt) : xRun (d + 9) 230 [Value.ref 128, Value.int a0, Value.int a1, Value.int a2, Value.int a3, Value.int a4] w (.inl (some (Value.int 0))) (((w.set 128 (Sum.inr (12, [Value.ref 129, Value.ref 131, Value.ref 133, Value.ref 135, Value.ref 137, Value.ref 139, Value.ref 141, Value.ref 143, Value.ref 145, Value.ref 147, Value.ref 149, Value.ref 151, Value.ref 153, Value.ref 154, Value.ref 155, Value.ref 156, Value.ref 157, Value.int (-16384), Value.int 16384, Value.int 0, Value.int 0, Value.int 0, Value.ref 158, Value.ref 159, Value.int 0, Value.int 0, Value.int 0, Value.int 0, Value.int 0, Value.int 0, Value.int 0, Value.int 0]))) ++ [Sum.inr (14, [])]).set 128 (Sum.inr (12, [Value.ref 129, Value.ref 131, Value.ref 133, Value.ref 135, Value.ref 137, Value.ref 139, Value.ref 141, Value.ref 143, Value.ref 145, Value.ref 147, Value.ref 149, Value.ref 151, Value.ref 153, Value.ref 154, Value.ref 155, Value.ref 156, Value.ref 157, Value.int (-16384), Value.int 16384, Value.int 0, Value.int 0, Value.int 0, Value.ref 158, Value.ref 159, Value.int 0, Value.int 0, Value.int 0, Value.int 0, Value.int 0, Value.int 0, Value.int 0, Value.int 1]))) := by
  refine xRun.of ?_
  refine i_230_0 (x := 128) rfl ?_
  refine i_230_1 ?_
  refine i_230_2 (fs2 := [Value.ref 129, Value.ref 131, Value.ref 133, Value.ref 135, Value.ref 137, Value.ref 139, Value.ref 141, Value.ref 143, Value.ref 145, Value.ref 147, Value.ref 149, Value.ref 151, Value.ref 153, Value.ref 154, Value.ref 155, Value.ref 156, Value.ref 157, Value.int (-16384), Value.int 16384, Value.int 0, Value.int 0, Value.int 0, Value.ref 158, Value.ref 159, Value.int 0, Value.int 0, Value.int 0, Value.int 0, Value.int 0, Value.int 0, Value.int 0, Value.int 0]) hw0 (Nat.le_of_ble_eq_true rfl) rfl (by decide) ?_
  refine i_230_5 (x := 128) rfl ?_
  refine i_230_6 (x := a0) rfl ?_
  refine i_230_7 (x := a1) rfl ?_
  refine i_230_8 (x := a2) rfl ?_
  refine i_230_9 (x := a3) rfl ?_
  refine i_230_11 (x := a4) rfl ?_
  refine j_230_13 (xgs hw0) (Nat.le_of_ble_eq_true rfl) (p_231_27 e1 e2) (xDone.c xgl rfl rfl ?_)
  refine i_230_17 (lv2 := [(6, Value.ref ((w.set 128 (Sum.inr (12, [Value.ref 129, Value.ref 131, Value.ref 133, Value.ref 135, Value.ref 137, Value.ref 139, Value.ref 141, Value.ref 143, Value.ref 145, Value.ref 147, Value.ref 149, Value.ref 151, Value.ref 153, Value.ref 154, Value.ref 155, Value.ref 156, Value.ref 157, Value.int (-16384), Value.int 16384, Value.int 0, Value.int 0, Value.int 0, Value.ref 158, Value.ref 159, Value.int 0, Value.int 0, Value.int 0, Value.int 0, Value.int 0, Value.int 0, Value.int 0, Value.int 0]))).length)), (0, Value.ref 128), (1, Value.int a0), (2, Value.int a1), (3, Value.int a2), (4, Value.int a3), (5, Value.int a4)]) rfl ?_
  refine i_230_19 (x := 128) rfl ?_
  refine i_230_20 ?_
  refine i_230_21 (fs2 := [Value.ref 129, Value.ref 131, Value.ref 133, Value.ref 135, Value.ref 137, Value.ref 139, Value.ref 141, Value.ref 143, Value.ref 145, Value.ref 147, Value.ref 149, Value.ref 151, Value.ref 153, Value.ref 154, Value.ref 155, Value.ref 156, Value.ref 157, Value.int (-16384), Value.int 16384, Value.int 0, Value.int 0, Value.int 0, Value.ref 158, Value.ref 159, Value.int 0, Value.int 0, Value.int 0, Value.int 0, Value.int 0, Value.int 0, Value.int 0, Value.int 1]) (xga (xgs hw0)) (Nat.le_of_ble_eq_true rfl) rfl (by decide) ?_
  refine i_230_24 ?_
  exact i_230_25 ⟨rfl, rfl⟩
theorem g_11_33 {z0 z1 : Int} (h0 : z0 = 11) (c0 : 0 ≤ z1) (c1 : 16 ≤ z1) : ((0 ≤ z1) ∧ ((16 ≤ z1) ∧ (15 < z1))) := by
  exact ⟨by omega, ⟨by omega, by omega⟩⟩
theorem o_11_33 {d : Nat} {xs : Nat → Int32} (h0 : ((xs 0) &&& (31 : Int32)).toInt = 11) (c0 : 0 ≤ (xs 1).toInt) (c1 : 16 ≤ (xs 1).toInt) : ∃ w1, xEv (d + 20) 287 23 [(4, Value.int 0), (3, Value.ref 194), (2, Value.ref 128), (1, Value.ref 7), (0, Value.ref 0)] [] (W0 6 xs) (fun o' w' => o' = .inl (some (Value.int 1)) ∧ w' = w1) ∧ w1.length ≤ 220 ∧ xsz w1 ≤ 200000 := by
  have G : id ((0 ≤ (xs 1).toInt) ∧ ((16 ≤ (xs 1).toInt) ∧ (15 < (xs 1).toInt))) := g_11_33 h0 c0 c1
  refine ⟨(((((W0 6 xs) ++ [Sum.inr (14, [])]).set 128 (Sum.inr (12, [Value.ref 129, Value.ref 131, Value.ref 133, Value.ref 135, Value.ref 137, Value.ref 139, Value.ref 141, Value.ref 143, Value.ref 145, Value.ref 147, Value.ref 149, Value.ref 151, Value.ref 153, Value.ref 154, Value.ref 155, Value.ref 156, Value.ref 157, Value.int (-16384), Value.int 16384, Value.int 0, Value.int 0, Value.int 0, Value.ref 158, Value.ref 159, Value.int 0, Value.int 0, Value.int 0, Value.int 0, Value.int 0, Value.int 0, Value.int 0, Value.int 0]))) ++ [Sum.inr (14, [])]).set 128 (Sum.inr (12, [Value.ref 129, Value.ref 131, Value.ref 133, Value.ref 135, Value.ref 137, Value.ref 139, Value.ref 141, Value.ref 143, Value.ref 145, Value.ref 147, Value.ref 149, Value.ref 151, Value.ref 153, Value.ref 154, Value.ref 155, Value.ref 156, Value.ref 157, Value.int (-16384), Value.int 16384, Value.int 0, Value.int 0, Value.int 0, Value.ref 158, Value.ref 159, Value.int 0, Value.int 0, Value.int 0, Value.int 0, Value.int 0, Value.int 0, Value.int 0, Value.int 1]))), ?_, (show xLs _ 220 200000 from ?_)⟩
  · refine i_287_23 (x := 0) rfl ?_
    refine i_287_25 (x := 0) rfl ?_
    refine i_287_26 (c := 6) W0_0 (by decide) ?_
    refine i_287_27 ?_
    refine i_287_29 (c := 0) (by decide) ?_
    refine i_287_30 (fun h => absurd h (by decide)) (fun _ => ?_)
    refine i_287_33 (x := 0) rfl ?_
    refine i_287_34 (x := 0) rfl ?_
    refine i_287_36 (v := Value.int (xs 0)) W0_0 (by decide) (by decide) rfl ?_
    refine i_287_37 ?_
    refine i_287_39 (c := 11) (show ((xs 0) &&& (31 : Int32)) = 11 from (xge_c (n := 11) h0 rfl)) ?_
    refine i_287_40_11 rfl ?_
    refine i_287_1149 (x := 7) rfl ?_
    refine i_287_1150 (x := 0) rfl ?_
    refine i_287_1151 (x := 0) rfl ?_
    refine i_287_1153 ?_
    refine i_287_1154 (c := 1) (by decide) ?_
    refine i_287_1155 (v := Value.int (xs 1)) W0_0 (by decide) (by decide) rfl ?_
    refine i_287_1156 (x := 0) rfl ?_
    refine i_287_1157 (x := 0) rfl ?_
    refine i_287_1159 ?_
    refine i_287_1160 (c := 2) (by decide) ?_
    refine i_287_1161 (v := Value.int (xs 2)) W0_0 (by decide) (by decide) rfl ?_
    refine i_287_1162 (x := 0) rfl ?_
    refine i_287_1163 (x := 0) rfl ?_
    refine i_287_1165 ?_
    refine i_287_1166 (c := 3) (by decide) ?_
    refine i_287_1167 (v := Value.int (xs 3)) W0_0 (by decide) (by decide) rfl ?_
    refine i_287_1168 (x := 0) rfl ?_
    refine i_287_1169 (x := 0) rfl ?_
    refine i_287_1171 ?_
    refine i_287_1172 (c := 4) (by decide) ?_
    refine i_287_1173 (v := Value.int (xs 4)) W0_0 (by decide) (by decide) rfl ?_
    refine i_287_1174 (x := 0) rfl ?_
    refine i_287_1175 (x := 0) rfl ?_
    refine i_287_1177 ?_
    refine i_287_1178 (c := 5) (by decide) ?_
    refine i_287_1179 (v := Value.int (xs 5)) W0_0 (by decide) (by decide) rfl ?_
    refine i_287_1180 (x := 194) rfl ?_
    refine i_287_1181 (Nat.le_of_ble_eq_true rfl) (p_114_27 W0_7 (G.1) (G.2.1)) ?_
    refine i_287_1184 (lv2 := [(5, Value.int 1), (4, Value.int 0), (3, Value.ref 194), (2, Value.ref 128), (1, Value.ref 7), (0, Value.ref 0)]) rfl ?_
    refine i_287_1186 (x := 128) rfl ?_
    refine i_287_1187 (x := 0) rfl ?_
    refine i_287_1188 (x := 0) rfl ?_
    refine i_287_1190 ?_
    refine i_287_1191 (c := 1) (by decide) ?_
    refine i_287_1192 (v := Value.int (xs 1)) (xga W0_0) (by decide) (by decide) rfl ?_
    refine i_287_1193 (x := 0) rfl ?_
    refine i_287_1194 (x := 0) rfl ?_
    refine i_287_1196 ?_
    refine i_287_1197 (c := 2) (by decide) ?_
    refine i_287_1198 (v := Value.int (xs 2)) (xga W0_0) (by decide) (by decide) rfl ?_
    refine i_287_1199 (x := 0) rfl ?_
    refine i_287_1200 (x := 0) rfl ?_
    refine i_287_1202 ?_
    refine i_287_1203 (c := 3) (by decide) ?_
    refine i_287_1204 (v := Value.int (xs 3)) (xga W0_0) (by decide) (by decide) rfl ?_
    refine i_287_1205 (x := 0) rfl ?_
    refine i_287_1206 (x := 0) rfl ?_
    refine i_287_1208 ?_
    refine i_287_1209 (c := 4) (by decide) ?_
    refine i_287_1210 (v := Value.int (xs 4)) (xga W0_0) (by decide) (by decide) rfl ?_
    refine i_287_1211 (x := 0) rfl ?_
    refine i_287_1212 (x := 0) rfl ?_
    refine i_287_1214 ?_
    refine i_287_1215 (c := 5) (by decide) ?_
    refine i_287_1216 (v := Value.int (xs 5)) (xga W0_0) (by decide) (by decide) rfl ?_
    refine i_287_1217 (xga W0_128) (Nat.le_of_ble_eq_true rfl) (p_230_27 (xga W0_128) (G.1) (G.2.2)) ?_
    refine i_287_1220 (lv2 := [(6, Value.int 0), (5, Value.int 1), (4, Value.int 0), (3, Value.ref 194), (2, Value.ref 128), (1, Value.ref 7), (0, Value.ref 0)]) rfl ?_
    refine i_287_1222 (x := 128) rfl ?_
    refine i_287_1223 (xgs (xga (xgs (xga W0_128)))) (Nat.le_of_ble_eq_true rfl) (p_165_0 (xgs (xga (xgs (xga W0_128))))) ?_
    refine i_287_1226 (x := 1) rfl ?_
    refine i_287_1228 (fun _ => ?_) (fun h => absurd h (by decide))
    refine i_287_1233 (x := 1) rfl ?_
    refine i_287_1235 (fun _ => ?_) (fun h => absurd h (by decide))
    refine i_287_1250 ?_
    refine i_287_2154 (x := 0) (c := 6) (lv2 := [(4, Value.int 6), (6, Value.int 0), (5, Value.int 1), (3, Value.ref 194), (2, Value.ref 128), (1, Value.ref 7), (0, Value.ref 0)]) rfl (by decide) rfl ?_
    refine i_287_2157 ?_
    refine i_287_23 (x := 6) rfl ?_
    refine i_287_25 (x := 0) rfl ?_
    refine i_287_26 (c := 6) (xgn (by decide) (xga (xgn (by decide) (xga W0_0)))) (by decide) ?_
    refine i_287_27 ?_
    refine i_287_29 (c := 0) (by decide) ?_
    refine i_287_30 (fun _ => ?_) (fun h => absurd h (by decide))
    refine i_287_2160 ?_
    exact i_287_2161 rfl ⟨rfl, rfl⟩
  · refine xLs.set ?_ (xga (xgs (xga W0_128))) xcs_o
    refine xLs.app (n := 219) (z := 199994) (m := 6) ?_ rfl
    refine xLs.set ?_ (xga W0_128) xcs_o
    refine xLs.app (n := 218) (z := 199988) (m := 6) ?_ rfl
    exact ⟨Nat.le_trans (Nat.le_of_eq W0_len) (by decide), Nat.le_trans (Nat.le_of_eq W0_sz) (by decide)⟩
