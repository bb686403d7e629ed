theorem p_231_11 {d : Nat} {w : xW} {a0 : Int32} {a1 : Int32} {a2 : Int32} {a3 : Int32} {a4 : Int32} {a5 : Int32} {a6 : Int32} {g0 : Nat → Value} {a7 : Int32} {a8 : Int32} {a9 : Int32} {a10 : Int32} {a11 : Int32} {a12 : Int32} {a13 : Int32} {a14 : Int32} {a15 : Int32} {a16 : Int32} {a17 : Int32} {a18 : Int32} {a19 : Int32} {a20 : Int32} {a21 : Int32} {a22 : Int32} {a23 : Int32} {a24 : Int32} {a25 : Int32} {a26 : Int32} {a27 : Int32} {a28 : Int32} {a29 : Int32} {a30 : Int32} {a31 : Int32} {a32 : Int32} {a33 : Int32} {a34 : Int32} (e0 : 0 ≤ a0.toInt) (e1 : a0.toInt ≤ 15) (e2 : 0 ≤ a1.toInt) (e3 : a1.toInt ≤ 15) (e4 : 0 ≤ a2.toInt) (e5 : a2.toInt ≤ 15) (e6 : 1 ≤ a3.toInt) (e7 : a3.toInt ≤ 16) (hg8 : (a1 + a3) = a5) (e9 : a5.toInt ≤ 16) (hg10 : (a2 + a3) = a6) (e11 : a6.toInt ≤ 16) (e12 : 0 ≤ a4.toInt) (e13 : a4.toInt ≤ 4) (e14 : 0 < a3.toInt) (hg15 : (a1 + (0 : Int32)) = a1) (hg16 : (a2 + (0 : Int32)) = a2) (hw17 : w[128]? = some (Sum.inr (12, [Value.ref 129, Value.ref 131, Value.ref 133, Value.ref 135, Value.ref 137, Value.ref 139, Value.ref 141, Value.ref 143, Value.ref 145, Value.ref 147, Value.ref 149, Value.ref 151, Value.ref 153, Value.ref 154, Value.ref 155, Value.ref 156, Value.ref 157, Value.int (-16384), Value.int 16384, Value.int 0, Value.int 0, Value.int 0, Value.ref 158, Value.ref 159, Value.int 0, Value.int 0, Value.int 0, Value.int 0, Value.int 0, Value.int 0, Value.int 0, Value.int 0]))) (hw18 : w[154]? = some (Sum.inl (0, 17, fun _ => Value.int 0))) (e19 : a1.toInt < 17) (e20 : a2.toInt < 17) (hw21 : w[156]? = some (Sum.inl (2, 17, fun _ => Value.int 0))) (hw22 : w[155]? = some (Sum.inl (0, 17, fun _ => Value.int 0))) (hw23 : w[153]? = some (Sum.inl (0, 17, g0))) (hg24 : g0 a1.toInt.toNat = Value.int 64) (hg25 : g0 a2.toInt.toNat = Value.int 64) (e26 : 1 < a3.toInt) (hg27 : (a1 + (1 : Int32)) = a7) (hg28 : (a2 + (1 : Int32)) = a8) (e29 : 0 ≤ a7.toInt) (e30 : a7.toInt < 17) (e31 : 0 ≤ a8.toInt) (e32 : a8.toInt < 17) (hg33 : g0 a7.toInt.toNat = Value.int 64) (hg34 : g0 a8.toInt.toNat = Value.int 64) (e35 : 2 < a3.toInt) (hg36 : (a1 + (2 : Int32)) = a9) (hg37 : (a2 + (2 : Int32)) = a10) (e38 : 0 ≤ a9.toInt) (e39 : a9.toInt < 17) (e40 : 0 ≤ a10.toInt) (e41 : a10.toInt < 17) (hg42 : g0 a9.toInt.toNat = Value.int 64) (hg43 : g0 a10.toInt.toNat = Value.int 64) (e44 : 3 < a3.toInt) (hg45 : (a1 + (3 : Int32)) = a11) (hg46 : (a2 + (3 : Int32)) = a12) (e47 : 0 ≤ a11.toInt) (e48 : a11.toInt < 17) (e49 : 0 ≤ a12.toInt) (e50 : a12.toInt < 17) (hg51 : g0 a11.toInt.toNat = Value.int 64) (hg52 : g0 a12.toInt.toNat = Value.int 64) (e53 : 4 < a3.toInt) (hg54 : (a1 + (4 : Int32)) = a13) (hg55 : (a2 + (4 : Int32)) = a14) (e56 : 0 ≤ a13.toInt) (e57 : a13.toInt < 17) (e58 : 0 ≤ a14.toInt) (e59 : a14.toInt < 17) (hg60 : g0 a13.toInt.toNat = Value.int 64) (hg61 : g0 a14.toInt.toNat = Value.int 64) (e62 : 5 < a3.toInt) (hg63 : (a1 + (5 : Int32)) = a15) (hg64 : (a2 + (5 : Int32)) = a16) (e65 : 0 ≤ a15.toInt) (e66 : a15.toInt < 17) (e67 : 0 ≤ a16.toInt) (e68 : a16.toInt < 17) (hg69 : g0 a15.toInt.toNat = Value.int 64) (hg70 : g0 a16.toInt.toNat = Value.int 64) (e71 : 6 < a3.toInt) (hg72 : (a1 + (6 : Int32)) = a17) (hg73 : (a2 + (6 : Int32)) = a18) (e74 : 0 ≤ a17.toInt) (e75 : a17.toInt < 17) (e76 : 0 ≤ a18.toInt) (e77 : a18.toInt < 17) (hg78 : g0 a17.toInt.toNat = Value.int 64) (hg79 : g0 a18.toInt.toNat = Value.int 64) (e80 : 7 < a3.toInt) (hg81 : (a1 + (7 : Int32)) = a19) (hg82 : (a2 + (7 : Int32)) = a20) (e83 : 0 ≤ a19.toInt) (e84 : a19.toInt < 17) (e85 : 0 ≤ a20.toInt) (e86 : a20.toInt < 17) (hg87 : g0 a19.toInt.toNat = Value.int 64) (hg88 : g0 a20.toInt.toNat = Value.int 64) (e89 : 8 < a3.toInt) (hg90 : (a1 + (8 : Int32)) = a21) (hg91 : (a2 + (8 : Int32)) = a22) (e92 : 0 ≤ a21.toInt) (e93 : a21.toInt < 17) (e94 : 0 ≤ a22.toInt) (e95 : a22.toInt < 17) (hg96 : g0 a21.toInt.toNat = Value.int 64) (hg97 : g0 a22.toInt.toNat = Value.int 64) (e98 : 9 < a3.toInt) (hg99 : (a1 + (9 : Int32)) = a23) (hg100 : (a2 + (9 : Int32)) = a24) (e101 : 0 ≤ a23.toInt) (e102 : a23.toInt < 17) (e103 : 0 ≤ a24.toInt) (e104 : a24.toInt < 17) (hg105 : g0 a23.toInt.toNat = Value.int 64) (hg106 : g0 a24.toInt.toNat = Value.int 64) (e107 : 10 < a3.toInt) (hg108 : (a1 + (10 : Int32)) = a25) (hg109 : (a2 + (10 : Int32)) = a26) (e110 : 0 ≤ a25.toInt) (e111 : a25.toInt < 17) (e112 : 0 ≤ a26.toInt) (e113 : a26.toInt < 17) (hg114 : g0 a25.toInt.toNat = Value.int 64) (hg115 : g0 a26.toInt.toNat = Value.int 64) (e116 : 11 < a3.toInt) (hg117 : (a1 + (11 : Int32)) = a27) (hg118 : (a2 + (11 : Int32)) = a28) (e119 : 0 ≤ a27.toInt) (e120 : a27.toInt < 17) (e121 : 0 ≤ a28.toInt) (e122 : a28.toInt < 17) (hg123 : g0 a27.toInt.toNat = Value.int 64) (hg124 : g0 a28.toInt.toNat = Value.int 64) (e125 : 12 < a3.toInt) (hg126 : (a1 + (12 : Int32)) = a29) (hg127 : (a2 + (12 : Int32)) = a30) (e128 : 0 ≤ a29.toInt) (e129 : a29.toInt < 17) (e130 : 0 ≤ a30.toInt) (e131 : a30.toInt < 17) (hg132 : g0 a29.toInt.toNat = Value.int 64) (hg133 : g0 a30.toInt.toNat = Value.int 64) (e134 : 13 < a3.toInt) (hg135 : (a1 + (13 : Int32)) = a31) (hg136 : (a2 + (13 : Int32)) = a32) (e137 : 0 ≤ a31.toInt) (e138 : a31.toInt < 17) (e139 : 0 ≤ a32.toInt) (e140 : a32.toInt < 17) (hg141 : g0 a31.toInt.toNat = Value.int 64) (hg142 : g0 a32.toInt.toNat = Value.int 64) (e143 : 14 < a3.toInt) (hg144 : (a1 + (14 : Int32)) = a33) (hg145 : (a2 + (14 : Int32)) = a34) (e146 : 0 ≤ a33.toInt) (e147 : a33.toInt < 17) (e148 : 0 ≤ a34.toInt) (e149 : a34.toInt < 17) (hg150 : g0 a33.toInt.toNat = Value.int 64) (hg151 : g0 a34.toInt.toNat = Value.int 64) (e152 : a3.toInt ≤ 15) (e153 : a0.toInt < 17) : xRun (d + 2) 231 [Value.ref 128, Value.int a0, Value.int a1, Value.int a2, Value.int a3, Value.int a4] w (.inl (some (Value.int 0))) ((w.set 154 (Sum.inl (0, 17, xup (fun _ => Value.int 0) a0.toInt.toNat (Value.int 0)))).set 156 (Sum.inl (2, 17, xup (fun _ => Value.int 0) a0.toInt.toNat (Value.int 0)))) := by
  refine xRun.of ?_
  refine i_231_0 (x := a0) rfl ?_
  refine i_231_1 (Nat.le_of_ble_eq_true rfl) (p_168_1 e0 e1) ?_
  refine i_231_4 (x := a1) rfl ?_
  refine i_231_5 (Nat.le_of_ble_eq_true rfl) (p_168_1 e2 e3) ?_
  refine i_231_8 (x := a2) rfl ?_
  refine i_231_9 (Nat.le_of_ble_eq_true rfl) (p_168_1 e4 e5) ?_
  refine i_231_12 (x := a3) rfl ?_
  refine i_231_14 ?_
  refine i_231_15 ?_
  refine i_231_17 (Nat.le_of_ble_eq_true rfl) (p_169_44 e6 e7) ?_
  refine i_231_20 (fun h => absurd h (by decide)) (fun _ => ?_)
  refine i_231_23 (x := a1) rfl ?_
  refine i_231_24 (x := a3) rfl ?_
  refine i_231_26 (c := a5) hg8 ?_
  refine i_231_27 ?_
  refine i_231_29 (fun h => absurd e9 (Int.not_le.mpr h)) (fun _ => ?_)
  refine i_231_32 (x := a2) rfl ?_
  refine i_231_33 (x := a3) rfl ?_
  refine i_231_35 (c := a6) hg10 ?_
  refine i_231_36 ?_
  refine i_231_38 (fun h => absurd e11 (Int.not_le.mpr h)) (fun _ => ?_)
  refine i_231_41 ?_
  refine i_231_42 ?_
  refine i_231_46 (Nat.le_of_ble_eq_true rfl) (p_170_1) ?_
  refine i_231_49 (x := a4) rfl ?_
  refine i_231_51 (Nat.le_of_ble_eq_true rfl) (p_178_2 e12 e13) ?_
  refine i_231_54 ?_
  refine i_231_57 (lv2 := [(6, Value.int 2147483647), (0, Value.ref 128), (1, Value.int a0), (2, Value.int a1), (3, Value.int a2), (4, Value.int a3), (5, Value.int a4)]) rfl ?_
  refine i_231_59 ?_
  refine i_231_60 (lv2 := [(7, Value.int 0), (6, Value.int 2147483647), (0, Value.ref 128), (1, Value.int a0), (2, Value.int a1), (3, Value.int a2), (4, Value.int a3), (5, Value.int a4)]) rfl ?_
  refine i_231_62 ?_
  refine i_231_63 (lv2 := [(8, Value.int 0), (7, Value.int 0), (6, Value.int 2147483647), (0, Value.ref 128), (1, Value.int a0), (2, Value.int a1), (3, Value.int a2), (4, Value.int a3), (5, Value.int a4)]) rfl ?_
  refine i_231_65 ?_
  refine i_231_66 (lv2 := [(9, Value.int 0), (8, Value.int 0), (7, Value.int 0), (6, Value.int 2147483647), (0, Value.ref 128), (1, Value.int a0), (2, Value.int a1), (3, Value.int a2), (4, Value.int a3), (5, Value.int a4)]) rfl ?_
  refine i_231_68 ?_
  refine i_231_69 (lv2 := [(10, Value.int 0), (9, Value.int 0), (8, Value.int 0), (7, Value.int 0), (6, Value.int 2147483647), (0, Value.ref 128), (1, Value.int a0), (2, Value.int a1), (3, Value.int a2), (4, Value.int a3), (5, Value.int a4)]) rfl ?_
  refine i_231_71 ?_
  refine i_231_72 (lv2 := [(11, Value.int 0), (10, Value.int 0), (9, Value.int 0), (8, Value.int 0), (7, Value.int 0), (6, Value.int 2147483647), (0, Value.ref 128), (1, Value.int a0), (2, Value.int a1), (3, Value.int a2), (4, Value.int a3), (5, Value.int a4)]) rfl ?_
  refine i_231_74 (x := 0) rfl ?_
  refine i_231_76 (x := a3) rfl ?_
  refine i_231_78 (fun h => absurd e14 (Int.not_lt.mpr h)) (fun _ => ?_)
  refine i_231_81 (x := a1) rfl ?_
  refine i_231_82 (x := 0) rfl ?_
  refine i_231_84 (c := a1) hg15 ?_
  refine i_231_85 (lv2 := [(12, Value.int a1), (11, Value.int 0), (10, Value.int 0), (9, Value.int 0), (8, Value.int 0), (7, Value.int 0), (6, Value.int 2147483647), (0, Value.ref 128), (1, Value.int a0), (2, Value.int a1), (3, Value.int a2), (4, Value.int a3), (5, Value.int a4)]) rfl ?_
  refine i_231_87 (x := a2) rfl ?_
  refine i_231_88 (x := 0) rfl ?_
  refine i_231_90 (c := a2) hg16 ?_
  refine i_231_91 (lv2 := [(13, Value.int a2), (12, Value.int a1), (11, Value.int 0), (10, Value.int 0), (9, Value.int 0), (8, Value.int 0), (7, Value.int 0), (6, Value.int 2147483647), (0, Value.ref 128), (1, Value.int a0), (2, Value.int a1), (3, Value.int a2), (4, Value.int a3), (5, Value.int a4)]) rfl ?_
  refine i_231_93 (x := 0) rfl ?_
  refine i_231_95 (x := 128) rfl ?_
  refine i_231_96 (v := Value.ref 154) hw17 rfl ?_
  refine i_231_99 (x := a1) rfl ?_
  refine i_231_101 (v := Value.int 0) hw18 e2 e19 rfl ?_
  refine i_231_102 (fun _ => ?_) (fun h => absurd h (by decide))
  refine i_231_115 ?_
  refine i_231_116 ?_
  refine i_231_120 (c := 1) (by decide) ?_
  refine i_231_121 (lv2 := [(9, Value.int 1), (13, Value.int a2), (12, Value.int a1), (11, Value.int 0), (10, Value.int 0), (8, Value.int 0), (7, Value.int 0), (6, Value.int 2147483647), (0, Value.ref 128), (1, Value.int a0), (2, Value.int a1), (3, Value.int a2), (4, Value.int a3), (5, Value.int a4)]) rfl ?_
  refine i_231_123 (x := 128) rfl ?_
  refine i_231_124 (v := Value.ref 154) hw17 rfl ?_
  refine i_231_127 (x := a1) rfl ?_
  refine i_231_129 (v := Value.int 0) hw18 e2 e19 rfl ?_
  refine i_231_130 ?_
  refine i_231_131 (fun h => absurd h (by decide)) (fun _ => ?_)
  refine i_231_134 (x := 128) rfl ?_
  refine i_231_135 (v := Value.ref 154) hw17 rfl ?_
  refine i_231_138 (x := a2) rfl ?_
  refine i_231_140 (v := Value.int 0) hw18 e4 e20 rfl ?_
  refine i_231_141 ?_
  refine i_231_142 (fun _ => ?_) (fun h => absurd h (by decide))
  refine i_231_149 ?_
  refine i_231_150 (lv2 := [(14, Value.int 0), (9, Value.int 1), (13, Value.int a2), (12, Value.int a1), (11, Value.int 0), (10, Value.int 0), (8, Value.int 0), (7, Value.int 0), (6, Value.int 2147483647), (0, Value.ref 128), (1, Value.int a0), (2, Value.int a1), (3, Value.int a2), (4, Value.int a3), (5, Value.int a4)]) rfl ?_
  refine i_231_152 (x := 128) rfl ?_
  refine i_231_153 (v := Value.ref 154) hw17 rfl ?_
  refine i_231_156 (x := a1) rfl ?_
  refine i_231_158 (v := Value.int 0) hw18 e2 e19 rfl ?_
  refine i_231_159 ?_
  refine i_231_160 (fun h => absurd h (by decide)) (fun _ => ?_)
  refine i_231_163 (x := 128) rfl ?_
  refine i_231_164 (v := Value.ref 154) hw17 rfl ?_
  refine i_231_167 (x := a2) rfl ?_
  refine i_231_169 (v := Value.int 0) hw18 e4 e20 rfl ?_
  refine i_231_170 ?_
  refine i_231_171 (fun _ => ?_) (fun h => absurd h (by decide))
  refine i_231_178 ?_
  refine i_231_179 (lv2 := [(15, Value.int 0), (14, Value.int 0), (9, Value.int 1), (13, Value.int a2), (12, Value.int a1), (11, Value.int 0), (10, Value.int 0), (8, Value.int 0), (7, Value.int 0), (6, Value.int 2147483647), (0, Value.ref 128), (1, Value.int a0), (2, Value.int a1), (3, Value.int a2), (4, Value.int a3), (5, Value.int a4)]) rfl ?_
  refine i_231_181 (x := 128) rfl ?_
  refine i_231_182 (v := Value.ref 156) hw17 rfl ?_
  refine i_231_185 (x := a1) rfl ?_
  refine i_231_187z (v := Value.int 0) hw21 e2 e19 rfl ?_
  refine i_231_188 (x := 128) rfl ?_
  refine i_231_189 (v := Value.ref 156) hw17 rfl ?_
  refine i_231_192 (x := a2) rfl ?_
  refine i_231_194z (v := Value.int 0) hw21 e4 e20 rfl ?_
  refine i_231_195 (fun _ => ?_) (fun h => absurd h (by decide))
  refine i_231_202 ?_
  refine i_231_203 (lv2 := [(16, Value.int 0), (15, Value.int 0), (14, Value.int 0), (9, Value.int 1), (13, Value.int a2), (12, Value.int a1), (11, Value.int 0), (10, Value.int 0), (8, Value.int 0), (7, Value.int 0), (6, Value.int 2147483647), (0, Value.ref 128), (1, Value.int a0), (2, Value.int a1), (3, Value.int a2), (4, Value.int a3), (5, Value.int a4)]) rfl ?_
  refine i_231_205 (x := 0) rfl ?_
  refine i_231_207 (x := 0) rfl ?_
  refine i_231_209 (fun _ => ?_) (fun h => absurd h (by decide))
  refine i_231_221 ?_
  refine i_231_222 (c := 0) (by decide) ?_
  refine i_231_223 (lv2 := [(10, Value.int 0), (16, Value.int 0), (15, Value.int 0), (14, Value.int 0), (9, Value.int 1), (13, Value.int a2), (12, Value.int a1), (11, Value.int 0), (8, Value.int 0), (7, Value.int 0), (6, Value.int 2147483647), (0, Value.ref 128), (1, Value.int a0), (2, Value.int a1), (3, Value.int a2), (4, Value.int a3), (5, Value.int a4)]) rfl ?_
  refine i_231_225 (x := 0) rfl ?_
  refine i_231_227 (x := 0) rfl ?_
  refine i_231_229 (fun _ => ?_) (fun h => absurd h (by decide))
  refine i_231_241 ?_
  refine i_231_242 (c := 0) (by decide) ?_
  refine i_231_243 (lv2 := [(7, Value.int 0), (10, Value.int 0), (16, Value.int 0), (15, Value.int 0), (14, Value.int 0), (9, Value.int 1), (13, Value.int a2), (12, Value.int a1), (11, Value.int 0), (8, Value.int 0), (6, Value.int 2147483647), (0, Value.ref 128), (1, Value.int a0), (2, Value.int a1), (3, Value.int a2), (4, Value.int a3), (5, Value.int a4)]) rfl ?_
  refine i_231_245 (x := 0) rfl ?_
  refine i_231_247 (x := 0) rfl ?_
  refine i_231_249 (fun _ => ?_) (fun h => absurd h (by decide))
  refine i_231_261 ?_
  refine i_231_262 (c := 0) (by decide) ?_
  refine i_231_263 (lv2 := [(8, Value.int 0), (7, Value.int 0), (10, Value.int 0), (16, Value.int 0), (15, Value.int 0), (14, Value.int 0), (9, Value.int 1), (13, Value.int a2), (12, Value.int a1), (11, Value.int 0), (6, Value.int 2147483647), (0, Value.ref 128), (1, Value.int a0), (2, Value.int a1), (3, Value.int a2), (4, Value.int a3), (5, Value.int a4)]) rfl ?_
  refine i_231_265 (x := 0) rfl ?_
  refine i_231_267 (fun h => absurd h (by decide)) (fun _ => ?_)
  refine i_231_270 (x := 0) rfl ?_
  refine i_231_272 (fun h => absurd h (by decide)) (fun _ => ?_)
  refine i_231_275 (x := 2147483647) rfl ?_
  refine i_231_277 (x := 128) rfl ?_
  refine i_231_278 (x := a1) rfl ?_
  refine i_231_280 hw17 (Nat.le_of_ble_eq_true rfl) (p_196_0 hw17 hw22 e2 e19 hw23 hg24) ?_
  refine i_231_283 (x := 128) rfl ?_
  refine i_231_284 (x := a2) rfl ?_
  refine i_231_286 hw17 (Nat.le_of_ble_eq_true rfl) (p_196_0 hw17 hw22 e4 e20 hw23 hg25) ?_
  refine i_231_289 (c := (-128)) (by decide) ?_
  refine i_231_290 (Nat.le_of_ble_eq_true rfl) (p_272_0) ?_
  refine i_231_293 (lv2 := [(6, Value.int (-128)), (8, Value.int 0), (7, Value.int 0), (10, Value.int 0), (16, Value.int 0), (15, Value.int 0), (14, Value.int 0), (9, Value.int 1), (13, Value.int a2), (12, Value.int a1), (11, Value.int 0), (0, Value.ref 128), (1, Value.int a0), (2, Value.int a1), (3, Value.int a2), (4, Value.int a3), (5, Value.int a4)]) rfl ?_
  refine i_231_295 (x := 0) (c := 1) (lv2 := [(11, Value.int 1), (6, Value.int (-128)), (8, Value.int 0), (7, Value.int 0), (10, Value.int 0), (16, Value.int 0), (15, Value.int 0), (14, Value.int 0), (9, Value.int 1), (13, Value.int a2), (12, Value.int a1), (0, Value.ref 128), (1, Value.int a0), (2, Value.int a1), (3, Value.int a2), (4, Value.int a3), (5, Value.int a4)]) rfl (by decide) rfl ?_
  refine i_231_298 ?_
  refine i_231_74 (x := 1) rfl ?_
  refine i_231_76 (x := a3) rfl ?_
  refine i_231_78 (fun h => absurd e26 (Int.not_lt.mpr h)) (fun _ => ?_)
  refine i_231_81 (x := a1) rfl ?_
  refine i_231_82 (x := 1) rfl ?_
  refine i_231_84 (c := a7) hg27 ?_
  refine i_231_85 (lv2 := [(12, Value.int a7), (11, Value.int 1), (6, Value.int (-128)), (8, Value.int 0), (7, Value.int 0), (10, Value.int 0), (16, Value.int 0), (15, Value.int 0), (14, Value.int 0), (9, Value.int 1), (13, Value.int a2), (0, Value.ref 128), (1, Value.int a0), (2, Value.int a1), (3, Value.int a2), (4, Value.int a3), (5, Value.int a4)]) rfl ?_
  refine i_231_87 (x := a2) rfl ?_
  refine i_231_88 (x := 1) rfl ?_
  refine i_231_90 (c := a8) hg28 ?_
  refine i_231_91 (lv2 := [(13, Value.int a8), (12, Value.int a7), (11, Value.int 1), (6, Value.int (-128)), (8, Value.int 0), (7, Value.int 0), (10, Value.int 0), (16, Value.int 0), (15, Value.int 0), (14, Value.int 0), (9, Value.int 1), (0, Value.ref 128), (1, Value.int a0), (2, Value.int a1), (3, Value.int a2), (4, Value.int a3), (5, Value.int a4)]) rfl ?_
  refine i_231_93 (x := 1) rfl ?_
  refine i_231_95 (x := 128) rfl ?_
  refine i_231_96 (v := Value.ref 154) hw17 rfl ?_
  refine i_231_99 (x := a7) rfl ?_
  refine i_231_101 (v := Value.int 0) hw18 e29 e30 rfl ?_
  refine i_231_102 (fun _ => ?_) (fun h => absurd h (by decide))
  refine i_231_115 ?_
  refine i_231_116 ?_
  refine i_231_120 (c := 1) (by decide) ?_
  refine i_231_121 (lv2 := [(9, Value.int 1), (13, Value.int a8), (12, Value.int a7), (11, Value.int 1), (6, Value.int (-128)), (8, Value.int 0), (7, Value.int 0), (10, Value.int 0), (16, Value.int 0), (15, Value.int 0), (14, Value.int 0), (0, Value.ref 128), (1, Value.int a0), (2, Value.int a1), (3, Value.int a2), (4, Value.int a3), (5, Value.int a4)]) rfl ?_
  refine i_231_123 (x := 128) rfl ?_
  refine i_231_124 (v := Value.ref 154) hw17 rfl ?_
  refine i_231_127 (x := a7) rfl ?_
  refine i_231_129 (v := Value.int 0) hw18 e29 e30 rfl ?_
  refine i_231_130 ?_
  refine i_231_131 (fun h => absurd h (by decide)) (fun _ => ?_)
  refine i_231_134 (x := 128) rfl ?_
  refine i_231_135 (v := Value.ref 154) hw17 rfl ?_
  refine i_231_138 (x := a8) rfl ?_
  refine i_231_140 (v := Value.int 0) hw18 e31 e32 rfl ?_
  refine i_231_141 ?_
  refine i_231_142 (fun _ => ?_) (fun h => absurd h (by decide))
  refine i_231_149 ?_
  refine i_231_150 (lv2 := [(14, Value.int 0), (9, Value.int 1), (13, Value.int a8), (12, Value.int a7), (11, Value.int 1), (6, Value.int (-128)), (8, Value.int 0), (7, Value.int 0), (10, Value.int 0), (16, Value.int 0), (15, Value.int 0), (0, Value.ref 128), (1, Value.int a0), (2, Value.int a1), (3, Value.int a2), (4, Value.int a3), (5, Value.int a4)]) rfl ?_
  refine i_231_152 (x := 128) rfl ?_
  refine i_231_153 (v := Value.ref 154) hw17 rfl ?_
  refine i_231_156 (x := a7) rfl ?_
  refine i_231_158 (v := Value.int 0) hw18 e29 e30 rfl ?_
  refine i_231_159 ?_
  refine i_231_160 (fun h => absurd h (by decide)) (fun _ => ?_)
  refine i_231_163 (x := 128) rfl ?_
  refine i_231_164 (v := Value.ref 154) hw17 rfl ?_
  refine i_231_167 (x := a8) rfl ?_
  refine i_231_169 (v := Value.int 0) hw18 e31 e32 rfl ?_
  refine i_231_170 ?_
  refine i_231_171 (fun _ => ?_) (fun h => absurd h (by decide))
  refine i_231_178 ?_
  refine i_231_179 (lv2 := [(15, Value.int 0), (14, Value.int 0), (9, Value.int 1), (13, Value.int a8), (12, Value.int a7), (11, Value.int 1), (6, Value.int (-128)), (8, Value.int 0), (7, Value.int 0), (10, Value.int 0), (16, Value.int 0), (0, Value.ref 128), (1, Value.int a0), (2, Value.int a1), (3, Value.int a2), (4, Value.int a3), (5, Value.int a4)]) rfl ?_
  refine i_231_181 (x := 128) rfl ?_
  refine i_231_182 (v := Value.ref 156) hw17 rfl ?_
  refine i_231_185 (x := a7) rfl ?_
  refine i_231_187z (v := Value.int 0) hw21 e29 e30 rfl ?_
  refine i_231_188 (x := 128) rfl ?_
  refine i_231_189 (v := Value.ref 156) hw17 rfl ?_
  refine i_231_192 (x := a8) rfl ?_
  refine i_231_194z (v := Value.int 0) hw21 e31 e32 rfl ?_
  refine i_231_195 (fun _ => ?_) (fun h => absurd h (by decide))
  refine i_231_202 ?_
  refine i_231_203 (lv2 := [(16, Value.int 0), (15, Value.int 0), (14, Value.int 0), (9, Value.int 1), (13, Value.int a8), (12, Value.int a7), (11, Value.int 1), (6, Value.int (-128)), (8, Value.int 0), (7, Value.int 0), (10, Value.int 0), (0, Value.ref 128), (1, Value.int a0), (2, Value.int a1), (3, Value.int a2), (4, Value.int a3), (5, Value.int a4)]) rfl ?_
  refine i_231_205 (x := 0) rfl ?_
  refine i_231_207 (x := 0) rfl ?_
  refine i_231_209 (fun _ => ?_) (fun h => absurd h (by decide))
  refine i_231_221 ?_
  refine i_231_222 (c := 0) (by decide) ?_
  refine i_231_223 (lv2 := [(10, Value.int 0), (16, Value.int 0), (15, Value.int 0), (14, Value.int 0), (9, Value.int 1), (13, Value.int a8), (12, Value.int a7), (11, Value.int 1), (6, Value.int (-128)), (8, Value.int 0), (7, Value.int 0), (0, Value.ref 128), (1, Value.int a0), (2, Value.int a1), (3, Value.int a2), (4, Value.int a3), (5, Value.int a4)]) rfl ?_
  refine i_231_225 (x := 0) rfl ?_
  refine i_231_227 (x := 0) rfl ?_
  refine i_231_229 (fun _ => ?_) (fun h => absurd h (by decide))
  refine i_231_241 ?_
  refine i_231_242 (c := 0) (by decide) ?_
  refine i_231_243 (lv2 := [(7, Value.int 0), (10, Value.int 0), (16, Value.int 0), (15, Value.int 0), (14, Value.int 0), (9, Value.int 1), (13, Value.int a8), (12, Value.int a7), (11, Value.int 1), (6, Value.int (-128)), (8, Value.int 0), (0, Value.ref 128), (1, Value.int a0), (2, Value.int a1), (3, Value.int a2), (4, Value.int a3), (5, Value.int a4)]) rfl ?_
  refine i_231_245 (x := 0) rfl ?_
  refine i_231_247 (x := 0) rfl ?_
  refine i_231_249 (fun _ => ?_) (fun h => absurd h (by decide))
  refine i_231_261 ?_
  refine i_231_262 (c := 0) (by decide) ?_
  refine i_231_263 (lv2 := [(8, Value.int 0), (7, Value.int 0), (10, Value.int 0), (16, Value.int 0), (15, Value.int 0), (14, Value.int 0), (9, Value.int 1), (13, Value.int a8), (12, Value.int a7), (11, Value.int 1), (6, Value.int (-128)), (0, Value.ref 128), (1, Value.int a0), (2, Value.int a1), (3, Value.int a2), (4, Value.int a3), (5, Value.int a4)]) rfl ?_
  refine i_231_265 (x := 0) rfl ?_
  refine i_231_267 (fun h => absurd h (by decide)) (fun _ => ?_)
  refine i_231_270 (x := 0) rfl ?_
  refine i_231_272 (fun h => absurd h (by decide)) (fun _ => ?_)
  refine i_231_275 (x := (-128)) rfl ?_
  refine i_231_277 (x := 128) rfl ?_
  refine i_231_278 (x := a7) rfl ?_
  refine i_231_280 hw17 (Nat.le_of_ble_eq_true rfl) (p_196_0 hw17 hw22 e29 e30 hw23 hg33) ?_
  refine i_231_283 (x := 128) rfl ?_
  refine i_231_284 (x := a8) rfl ?_
  refine i_231_286 hw17 (Nat.le_of_ble_eq_true rfl) (p_196_0 hw17 hw22 e31 e32 hw23 hg34) ?_
  refine i_231_289 (c := (-128)) (by decide) ?_
  refine i_231_290 (Nat.le_of_ble_eq_true rfl) (p_272_1) ?_
  refine i_231_293 (lv2 := [(6, Value.int (-128)), (8, Value.int 0), (7, Value.int 0), (10, Value.int 0), (16, Value.int 0), (15, Value.int 0), (14, Value.int 0), (9, Value.int 1), (13, Value.int a8), (12, Value.int a7), (11, Value.int 1), (0, Value.ref 128), (1, Value.int a0), (2, Value.int a1), (3, Value.int a2), (4, Value.int a3), (5, Value.int a4)]) rfl ?_
  refine i_231_295 (x := 1) (c := 2) (lv2 := [(11, Value.int 2), (6, Value.int (-128)), (8, Value.int 0), (7, Value.int 0), (10, Value.int 0), (16, Value.int 0), (15, Value.int 0), (14, Value.int 0), (9, Value.int 1), (13, Value.int a8), (12, Value.int a7), (0, Value.ref 128), (1, Value.int a0), (2, Value.int a1), (3, Value.int a2), (4, Value.int a3), (5, Value.int a4)]) rfl (by decide) rfl ?_
  refine i_231_298 ?_
  refine i_231_74 (x := 2) rfl ?_
  refine i_231_76 (x := a3) rfl ?_
  refine i_231_78 (fun h => absurd e35 (Int.not_lt.mpr h)) (fun _ => ?_)
  refine i_231_81 (x := a1) rfl ?_
  refine i_231_82 (x := 2) rfl ?_
  refine i_231_84 (c := a9) hg36 ?_
  refine i_231_85 (lv2 := [(12, Value.int a9), (11, Value.int 2), (6, Value.int (-128)), (8, Value.int 0), (7, Value.int 0), (10, Value.int 0), (16, Value.int 0), (15, Value.int 0), (14, Value.int 0), (9, Value.int 1), (13, Value.int a8), (0, Value.ref 128), (1, Value.int a0), (2, Value.int a1), (3, Value.int a2), (4, Value.int a3), (5, Value.int a4)]) rfl ?_
  refine i_231_87 (x := a2) rfl ?_
  refine i_231_88 (x := 2) rfl ?_
  refine i_231_90 (c := a10) hg37 ?_
  refine i_231_91 (lv2 := [(13, Value.int a10), (12, Value.int a9), (11, Value.int 2), (6, Value.int (-128)), (8, Value.int 0), (7, Value.int 0), (10, Value.int 0), (16, Value.int 0), (15, Value.int 0), (14, Value.int 0), (9, Value.int 1), (0, Value.ref 128), (1, Value.int a0), (2, Value.int a1), (3, Value.int a2), (4, Value.int a3), (5, Value.int a4)]) rfl ?_
  refine i_231_93 (x := 1) rfl ?_
  refine i_231_95 (x := 128) rfl ?_
  refine i_231_96 (v := Value.ref 154) hw17 rfl ?_
  refine i_231_99 (x := a9) rfl ?_
  refine i_231_101 (v := Value.int 0) hw18 e38 e39 rfl ?_
  refine i_231_102 (fun _ => ?_) (fun h => absurd h (by decide))
  refine i_231_115 ?_
  refine i_231_116 ?_
  refine i_231_120 (c := 1) (by decide) ?_
  refine i_231_121 (lv2 := [(9, Value.int 1), (13, Value.int a10), (12, Value.int a9), (11, Value.int 2), (6, Value.int (-128)), (8, Value.int 0), (7, Value.int 0), (10, Value.int 0), (16, Value.int 0), (15, Value.int 0), (14, Value.int 0), (0, Value.ref 128), (1, Value.int a0), (2, Value.int a1), (3, Value.int a2), (4, Value.int a3), (5, Value.int a4)]) rfl ?_
  refine i_231_123 (x := 128) rfl ?_
  refine i_231_124 (v := Value.ref 154) hw17 rfl ?_
  refine i_231_127 (x := a9) rfl ?_
  refine i_231_129 (v := Value.int 0) hw18 e38 e39 rfl ?_
  refine i_231_130 ?_
  refine i_231_131 (fun h => absurd h (by decide)) (fun _ => ?_)
  refine i_231_134 (x := 128) rfl ?_
  refine i_231_135 (v := Value.ref 154) hw17 rfl ?_
  refine i_231_138 (x := a10) rfl ?_
  refine i_231_140 (v := Value.int 0) hw18 e40 e41 rfl ?_
  refine i_231_141 ?_
  refine i_231_142 (fun _ => ?_) (fun h => absurd h (by decide))
  refine i_231_149 ?_
  refine i_231_150 (lv2 := [(14, Value.int 0), (9, Value.int 1), (13, Value.int a10), (12, Value.int a9), (11, Value.int 2), (6, Value.int (-128)), (8, Value.int 0), (7, Value.int 0), (10, Value.int 0), (16, Value.int 0), (15, Value.int 0), (0, Value.ref 128), (1, Value.int a0), (2, Value.int a1), (3, Value.int a2), (4, Value.int a3), (5, Value.int a4)]) rfl ?_
  refine i_231_152 (x := 128) rfl ?_
  refine i_231_153 (v := Value.ref 154) hw17 rfl ?_
  refine i_231_156 (x := a9) rfl ?_
  refine i_231_158 (v := Value.int 0) hw18 e38 e39 rfl ?_
  refine i_231_159 ?_
  refine i_231_160 (fun h => absurd h (by decide)) (fun _ => ?_)
  refine i_231_163 (x := 128) rfl ?_
  refine i_231_164 (v := Value.ref 154) hw17 rfl ?_
  refine i_231_167 (x := a10) rfl ?_
  refine i_231_169 (v := Value.int 0) hw18 e40 e41 rfl ?_
  refine i_231_170 ?_
  refine i_231_171 (fun _ => ?_) (fun h => absurd h (by decide))
  refine i_231_178 ?_
  refine i_231_179 (lv2 := [(15, Value.int 0), (14, Value.int 0), (9, Value.int 1), (13, Value.int a10), (12, Value.int a9), (11, Value.int 2), (6, Value.int (-128)), (8, Value.int 0), (7, Value.int 0), (10, Value.int 0), (16, Value.int 0), (0, Value.ref 128), (1, Value.int a0), (2, Value.int a1), (3, Value.int a2), (4, Value.int a3), (5, Value.int a4)]) rfl ?_
  refine i_231_181 (x := 128) rfl ?_
  refine i_231_182 (v := Value.ref 156) hw17 rfl ?_
  refine i_231_185 (x := a9) rfl ?_
  refine i_231_187z (v := Value.int 0) hw21 e38 e39 rfl ?_
  refine i_231_188 (x := 128) rfl ?_
  refine i_231_189 (v := Value.ref 156) hw17 rfl ?_
  refine i_231_192 (x := a10) rfl ?_
  refine i_231_194z (v := Value.int 0) hw21 e40 e41 rfl ?_
  refine i_231_195 (fun _ => ?_) (fun h => absurd h (by decide))
  refine i_231_202 ?_
  refine i_231_203 (lv2 := [(16, Value.int 0), (15, Value.int 0), (14, Value.int 0), (9, Value.int 1), (13, Value.int a10), (12, Value.int a9), (11, Value.int 2), (6, Value.int (-128)), (8, Value.int 0), (7, Value.int 0), (10, Value.int 0), (0, Value.ref 128), (1, Value.int a0), (2, Value.int a1), (3, Value.int a2), (4, Value.int a3), (5, Value.int a4)]) rfl ?_
  refine i_231_205 (x := 0) rfl ?_
  refine i_231_207 (x := 0) rfl ?_
  refine i_231_209 (fun _ => ?_) (fun h => absurd h (by decide))
  refine i_231_221 ?_
  refine i_231_222 (c := 0) (by decide) ?_
  refine i_231_223 (lv2 := [(10, Value.int 0), (16, Value.int 0), (15, Value.int 0), (14, Value.int 0), (9, Value.int 1), (13, Value.int a10), (12, Value.int a9), (11, Value.int 2), (6, Value.int (-128)), (8, Value.int 0), (7, Value.int 0), (0, Value.ref 128), (1, Value.int a0), (2, Value.int a1), (3, Value.int a2), (4, Value.int a3), (5, Value.int a4)]) rfl ?_
  refine i_231_225 (x := 0) rfl ?_
  refine i_231_227 (x := 0) rfl ?_
  refine i_231_229 (fun _ => ?_) (fun h => absurd h (by decide))
  refine i_231_241 ?_
  refine i_231_242 (c := 0) (by decide) ?_
  refine i_231_243 (lv2 := [(7, Value.int 0), (10, Value.int 0), (16, Value.int 0), (15, Value.int 0), (14, Value.int 0), (9, Value.int 1), (13, Value.int a10), (12, Value.int a9), (11, Value.int 2), (6, Value.int (-128)), (8, Value.int 0), (0, Value.ref 128), (1, Value.int a0), (2, Value.int a1), (3, Value.int a2), (4, Value.int a3), (5, Value.int a4)]) rfl ?_
  refine i_231_245 (x := 0) rfl ?_
  refine i_231_247 (x := 0) rfl ?_
  refine i_231_249 (fun _ => ?_) (fun h => absurd h (by decide))
  refine i_231_261 ?_
  refine i_231_262 (c := 0) (by decide) ?_
  refine i_231_263 (lv2 := [(8, Value.int 0), (7, Value.int 0), (10, Value.int 0), (16, Value.int 0), (15, Value.int 0), (14, Value.int 0), (9, Value.int 1), (13, Value.int a10), (12, Value.int a9), (11, Value.int 2), (6, Value.int (-128)), (0, Value.ref 128), (1, Value.int a0), (2, Value.int a1), (3, Value.int a2), (4, Value.int a3), (5, Value.int a4)]) rfl ?_
  refine i_231_265 (x := 0) rfl ?_
  refine i_231_267 (fun h => absurd h (by decide)) (fun _ => ?_)
  refine i_231_270 (x := 0) rfl ?_
  refine i_231_272 (fun h => absurd h (by decide)) (fun _ => ?_)
  refine i_231_275 (x := (-128)) rfl ?_
  refine i_231_277 (x := 128) rfl ?_
  refine i_231_278 (x := a9) rfl ?_
  refine i_231_280 hw17 (Nat.le_of_ble_eq_true rfl) (p_196_0 hw17 hw22 e38 e39 hw23 hg42) ?_
  refine i_231_283 (x := 128) rfl ?_
  refine i_231_284 (x := a10) rfl ?_
  refine i_231_286 hw17 (Nat.le_of_ble_eq_true rfl) (p_196_0 hw17 hw22 e40 e41 hw23 hg43) ?_
  refine i_231_289 (c := (-128)) (by decide) ?_
  refine i_231_290 (Nat.le_of_ble_eq_true rfl) (p_272_1) ?_
  refine i_231_293 (lv2 := [(6, Value.int (-128)), (8, Value.int 0), (7, Value.int 0), (10, Value.int 0), (16, Value.int 0), (15, Value.int 0), (14, Value.int 0), (9, Value.int 1), (13, Value.int a10), (12, Value.int a9), (11, Value.int 2), (0, Value.ref 128), (1, Value.int a0), (2, Value.int a1), (3, Value.int a2), (4, Value.int a3), (5, Value.int a4)]) rfl ?_
  refine i_231_295 (x := 2) (c := 3) (lv2 := [(11, Value.int 3), (6, Value.int (-128)), (8, Value.int 0), (7, Value.int 0), (10, Value.int 0), (16, Value.int 0), (15, Value.int 0), (14, Value.int 0), (9, Value.int 1), (13, Value.int a10), (12, Value.int a9), (0, Value.ref 128), (1, Value.int a0), (2, Value.int a1), (3, Value.int a2), (4, Value.int a3), (5, Value.int a4)]) rfl (by decide) rfl ?_
  refine i_231_298 ?_
  refine i_231_74 (x := 3) rfl ?_
  refine i_231_76 (x := a3) rfl ?_
  refine i_231_78 (fun h => absurd e44 (Int.not_lt.mpr h)) (fun _ => ?_)
  refine i_231_81 (x := a1) rfl ?_
  refine i_231_82 (x := 3) rfl ?_
  refine i_231_84 (c := a11) hg45 ?_
  refine i_231_85 (lv2 := [(12, Value.int a11), (11, Value.int 3), (6, Value.int (-128)), (8, Value.int 0), (7, Value.int 0), (10, Value.int 0), (16, Value.int 0), (15, Value.int 0), (14, Value.int 0), (9, Value.int 1), (13, Value.int a10), (0, Value.ref 128), (1, Value.int a0), (2, Value.int a1), (3, Value.int a2), (4, Value.int a3), (5, Value.int a4)]) rfl ?_
  refine i_231_87 (x := a2) rfl ?_
  refine i_231_88 (x := 3) rfl ?_
  refine i_231_90 (c := a12) hg46 ?_
  refine i_231_91 (lv2 := [(13, Value.int a12), (12, Value.int a11), (11, Value.int 3), (6, Value.int (-128)), (8, Value.int 0), (7, Value.int 0), (10, Value.int 0), (16, Value.int 0), (15, Value.int 0), (14, Value.int 0), (9, Value.int 1), (0, Value.ref 128), (1, Value.int a0), (2, Value.int a1), (3, Value.int a2), (4, Value.int a3), (5, Value.int a4)]) rfl ?_
  refine i_231_93 (x := 1) rfl ?_
  refine i_231_95 (x := 128) rfl ?_
  refine i_231_96 (v := Value.ref 154) hw17 rfl ?_
  refine i_231_99 (x := a11) rfl ?_
  refine i_231_101 (v := Value.int 0) hw18 e47 e48 rfl ?_
  refine i_231_102 (fun _ => ?_) (fun h => absurd h (by decide))
  refine i_231_115 ?_
  refine i_231_116 ?_
  refine i_231_120 (c := 1) (by decide) ?_
  refine i_231_121 (lv2 := [(9, Value.int 1), (13, Value.int a12), (12, Value.int a11), (11, Value.int 3), (6, Value.int (-128)), (8, Value.int 0), (7, Value.int 0), (10, Value.int 0), (16, Value.int 0), (15, Value.int 0), (14, Value.int 0), (0, Value.ref 128), (1, Value.int a0), (2, Value.int a1), (3, Value.int a2), (4, Value.int a3), (5, Value.int a4)]) rfl ?_
  refine i_231_123 (x := 128) rfl ?_
  refine i_231_124 (v := Value.ref 154) hw17 rfl ?_
  refine i_231_127 (x := a11) rfl ?_
  refine i_231_129 (v := Value.int 0) hw18 e47 e48 rfl ?_
  refine i_231_130 ?_
  refine i_231_131 (fun h => absurd h (by decide)) (fun _ => ?_)
  refine i_231_134 (x := 128) rfl ?_
  refine i_231_135 (v := Value.ref 154) hw17 rfl ?_
  refine i_231_138 (x := a12) rfl ?_
  refine i_231_140 (v := Value.int 0) hw18 e49 e50 rfl ?_
  refine i_231_141 ?_
  refine i_231_142 (fun _ => ?_) (fun h => absurd h (by decide))
  refine i_231_149 ?_
  refine i_231_150 (lv2 := [(14, Value.int 0), (9, Value.int 1), (13, Value.int a12), (12, Value.int a11), (11, Value.int 3), (6, Value.int (-128)), (8, Value.int 0), (7, Value.int 0), (10, Value.int 0), (16, Value.int 0), (15, Value.int 0), (0, Value.ref 128), (1, Value.int a0), (2, Value.int a1), (3, Value.int a2), (4, Value.int a3), (5, Value.int a4)]) rfl ?_
  refine i_231_152 (x := 128) rfl ?_
  refine i_231_153 (v := Value.ref 154) hw17 rfl ?_
  refine i_231_156 (x := a11) rfl ?_
  refine i_231_158 (v := Value.int 0) hw18 e47 e48 rfl ?_
  refine i_231_159 ?_
  refine i_231_160 (fun h => absurd h (by decide)) (fun _ => ?_)
  refine i_231_163 (x := 128) rfl ?_
  refine i_231_164 (v := Value.ref 154) hw17 rfl ?_
  refine i_231_167 (x := a12) rfl ?_
  refine i_231_169 (v := Value.int 0) hw18 e49 e50 rfl ?_
  refine i_231_170 ?_
  refine i_231_171 (fun _ => ?_) (fun h => absurd h (by decide))
  refine i_231_178 ?_
  refine i_231_179 (lv2 := [(15, Value.int 0), (14, Value.int 0), (9, Value.int 1), (13, Value.int a12), (12, Value.int a11), (11, Value.int 3), (6, Value.int (-128)), (8, Value.int 0), (7, Value.int 0), (10, Value.int 0), (16, Value.int 0), (0, Value.ref 128), (1, Value.int a0), (2, Value.int a1), (3, Value.int a2), (4, Value.int a3), (5, Value.int a4)]) rfl ?_
  refine i_231_181 (x := 128) rfl ?_
  refine i_231_182 (v := Value.ref 156) hw17 rfl ?_
  refine i_231_185 (x := a11) rfl ?_
  refine i_231_187z (v := Value.int 0) hw21 e47 e48 rfl ?_
  refine i_231_188 (x := 128) rfl ?_
  refine i_231_189 (v := Value.ref 156) hw17 rfl ?_
  refine i_231_192 (x := a12) rfl ?_
  refine i_231_194z (v := Value.int 0) hw21 e49 e50 rfl ?_
  refine i_231_195 (fun _ => ?_) (fun h => absurd h (by decide))
  refine i_231_202 ?_
  refine i_231_203 (lv2 := [(16, Value.int 0), (15, Value.int 0), (14, Value.int 0), (9, Value.int 1), (13, Value.int a12), (12, Value.int a11), (11, Value.int 3), (6, Value.int (-128)), (8, Value.int 0), (7, Value.int 0), (10, Value.int 0), (0, Value.ref 128), (1, Value.int a0), (2, Value.int a1), (3, Value.int a2), (4, Value.int a3), (5, Value.int a4)]) rfl ?_
  refine i_231_205 (x := 0) rfl ?_
  refine i_231_207 (x := 0) rfl ?_
  refine i_231_209 (fun _ => ?_) (fun h => absurd h (by decide))
  refine i_231_221 ?_
  refine i_231_222 (c := 0) (by decide) ?_
  refine i_231_223 (lv2 := [(10, Value.int 0), (16, Value.int 0), (15, Value.int 0), (14, Value.int 0), (9, Value.int 1), (13, Value.int a12), (12, Value.int a11), (11, Value.int 3), (6, Value.int (-128)), (8, Value.int 0), (7, Value.int 0), (0, Value.ref 128), (1, Value.int a0), (2, Value.int a1), (3, Value.int a2), (4, Value.int a3), (5, Value.int a4)]) rfl ?_
  refine i_231_225 (x := 0) rfl ?_
  refine i_231_227 (x := 0) rfl ?_
  refine i_231_229 (fun _ => ?_) (fun h => absurd h (by decide))
  refine i_231_241 ?_
  refine i_231_242 (c := 0) (by decide) ?_
  refine i_231_243 (lv2 := [(7, Value.int 0), (10, Value.int 0), (16, Value.int 0), (15, Value.int 0), (14, Value.int 0), (9, Value.int 1), (13, Value.int a12), (12, Value.int a11), (11, Value.int 3), (6, Value.int (-128)), (8, Value.int 0), (0, Value.ref 128), (1, Value.int a0), (2, Value.int a1), (3, Value.int a2), (4, Value.int a3), (5, Value.int a4)]) rfl ?_
  refine i_231_245 (x := 0) rfl ?_
  refine i_231_247 (x := 0) rfl ?_
  refine i_231_249 (fun _ => ?_) (fun h => absurd h (by decide))
  refine i_231_261 ?_
  refine i_231_262 (c := 0) (by decide) ?_
  refine i_231_263 (lv2 := [(8, Value.int 0), (7, Value.int 0), (10, Value.int 0), (16, Value.int 0), (15, Value.int 0), (14, Value.int 0), (9, Value.int 1), (13, Value.int a12), (12, Value.int a11), (11, Value.int 3), (6, Value.int (-128)), (0, Value.ref 128), (1, Value.int a0), (2, Value.int a1), (3, Value.int a2), (4, Value.int a3), (5, Value.int a4)]) rfl ?_
  refine i_231_265 (x := 0) rfl ?_
  refine i_231_267 (fun h => absurd h (by decide)) (fun _ => ?_)
  refine i_231_270 (x := 0) rfl ?_
  refine i_231_272 (fun h => absurd h (by decide)) (fun _ => ?_)
  refine i_231_275 (x := (-128)) rfl ?_
  refine i_231_277 (x := 128) rfl ?_
  refine i_231_278 (x := a11) rfl ?_
  refine i_231_280 hw17 (Nat.le_of_ble_eq_true rfl) (p_196_0 hw17 hw22 e47 e48 hw23 hg51) ?_
  refine i_231_283 (x := 128) rfl ?_
  refine i_231_284 (x := a12) rfl ?_
  refine i_231_286 hw17 (Nat.le_of_ble_eq_true rfl) (p_196_0 hw17 hw22 e49 e50 hw23 hg52) ?_
  refine i_231_289 (c := (-128)) (by decide) ?_
  refine i_231_290 (Nat.le_of_ble_eq_true rfl) (p_272_1) ?_
  refine i_231_293 (lv2 := [(6, Value.int (-128)), (8, Value.int 0), (7, Value.int 0), (10, Value.int 0), (16, Value.int 0), (15, Value.int 0), (14, Value.int 0), (9, Value.int 1), (13, Value.int a12), (12, Value.int a11), (11, Value.int 3), (0, Value.ref 128), (1, Value.int a0), (2, Value.int a1), (3, Value.int a2), (4, Value.int a3), (5, Value.int a4)]) rfl ?_
  refine i_231_295 (x := 3) (c := 4) (lv2 := [(11, Value.int 4), (6, Value.int (-128)), (8, Value.int 0), (7, Value.int 0), (10, Value.int 0), (16, Value.int 0), (15, Value.int 0), (14, Value.int 0), (9, Value.int 1), (13, Value.int a12), (12, Value.int a11), (0, Value.ref 128), (1, Value.int a0), (2, Value.int a1), (3, Value.int a2), (4, Value.int a3), (5, Value.int a4)]) rfl (by decide) rfl ?_
  refine i_231_298 ?_
  refine i_231_74 (x := 4) rfl ?_
  refine i_231_76 (x := a3) rfl ?_
  refine i_231_78 (fun h => absurd e53 (Int.not_lt.mpr h)) (fun _ => ?_)
  refine i_231_81 (x := a1) rfl ?_
  refine i_231_82 (x := 4) rfl ?_
  refine i_231_84 (c := a13) hg54 ?_
  refine i_231_85 (lv2 := [(12, Value.int a13), (11, Value.int 4), (6, Value.int (-128)), (8, Value.int 0), (7, Value.int 0), (10, Value.int 0), (16, Value.int 0), (15, Value.int 0), (14, Value.int 0), (9, Value.int 1), (13, Value.int a12), (0, Value.ref 128), (1, Value.int a0), (2, Value.int a1), (3, Value.int a2), (4, Value.int a3), (5, Value.int a4)]) rfl ?_
  refine i_231_87 (x := a2) rfl ?_
  refine i_231_88 (x := 4) rfl ?_
  refine i_231_90 (c := a14) hg55 ?_
  refine i_231_91 (lv2 := [(13, Value.int a14), (12, Value.int a13), (11, Value.int 4), (6, Value.int (-128)), (8, Value.int 0), (7, Value.int 0), (10, Value.int 0), (16, Value.int 0), (15, Value.int 0), (14, Value.int 0), (9, Value.int 1), (0, Value.ref 128), (1, Value.int a0), (2, Value.int a1), (3, Value.int a2), (4, Value.int a3), (5, Value.int a4)]) rfl ?_
  refine i_231_93 (x := 1) rfl ?_
  refine i_231_95 (x := 128) rfl ?_
  refine i_231_96 (v := Value.ref 154) hw17 rfl ?_
  refine i_231_99 (x := a13) rfl ?_
  refine i_231_101 (v := Value.int 0) hw18 e56 e57 rfl ?_
  refine i_231_102 (fun _ => ?_) (fun h => absurd h (by decide))
  refine i_231_115 ?_
  refine i_231_116 ?_
  refine i_231_120 (c := 1) (by decide) ?_
  refine i_231_121 (lv2 := [(9, Value.int 1), (13, Value.int a14), (12, Value.int a13), (11, Value.int 4), (6, Value.int (-128)), (8, Value.int 0), (7, Value.int 0), (10, Value.int 0), (16, Value.int 0), (15, Value.int 0), (14, Value.int 0), (0, Value.ref 128), (1, Value.int a0), (2, Value.int a1), (3, Value.int a2), (4, Value.int a3), (5, Value.int a4)]) rfl ?_
  refine i_231_123 (x := 128) rfl ?_
  refine i_231_124 (v := Value.ref 154) hw17 rfl ?_
  refine i_231_127 (x := a13) rfl ?_
  refine i_231_129 (v := Value.int 0) hw18 e56 e57 rfl ?_
  refine i_231_130 ?_
  refine i_231_131 (fun h => absurd h (by decide)) (fun _ => ?_)
  refine i_231_134 (x := 128) rfl ?_
  refine i_231_135 (v := Value.ref 154) hw17 rfl ?_
  refine i_231_138 (x := a14) rfl ?_
  refine i_231_140 (v := Value.int 0) hw18 e58 e59 rfl ?_
  refine i_231_141 ?_
  refine i_231_142 (fun _ => ?_) (fun h => absurd h (by decide))
  refine i_231_149 ?_
  refine i_231_150 (lv2 := [(14, Value.int 0), (9, Value.int 1), (13, Value.int a14), (12, Value.int a13), (11, Value.int 4), (6, Value.int (-128)), (8, Value.int 0), (7, Value.int 0), (10, Value.int 0), (16, Value.int 0), (15, Value.int 0), (0, Value.ref 128), (1, Value.int a0), (2, Value.int a1), (3, Value.int a2), (4, Value.int a3), (5, Value.int a4)]) rfl ?_
  refine i_231_152 (x := 128) rfl ?_
  refine i_231_153 (v := Value.ref 154) hw17 rfl ?_
  refine i_231_156 (x := a13) rfl ?_
  refine i_231_158 (v := Value.int 0) hw18 e56 e57 rfl ?_
  refine i_231_159 ?_
  refine i_231_160 (fun h => absurd h (by decide)) (fun _ => ?_)
  refine i_231_163 (x := 128) rfl ?_
  refine i_231_164 (v := Value.ref 154) hw17 rfl ?_
  refine i_231_167 (x := a14) rfl ?_
  refine i_231_169 (v := Value.int 0) hw18 e58 e59 rfl ?_
  refine i_231_170 ?_
  refine i_231_171 (fun _ => ?_) (fun h => absurd h (by decide))
  refine i_231_178 ?_
  refine i_231_179 (lv2 := [(15, Value.int 0), (14, Value.int 0), (9, Value.int 1), (13, Value.int a14), (12, Value.int a13), (11, Value.int 4), (6, Value.int (-128)), (8, Value.int 0), (7, Value.int 0), (10, Value.int 0), (16, Value.int 0), (0, Value.ref 128), (1, Value.int a0), (2, Value.int a1), (3, Value.int a2), (4, Value.int a3), (5, Value.int a4)]) rfl ?_
  refine i_231_181 (x := 128) rfl ?_
  refine i_231_182 (v := Value.ref 156) hw17 rfl ?_
  refine i_231_185 (x := a13) rfl ?_
  refine i_231_187z (v := Value.int 0) hw21 e56 e57 rfl ?_
  refine i_231_188 (x := 128) rfl ?_
  refine i_231_189 (v := Value.ref 156) hw17 rfl ?_
  refine i_231_192 (x := a14) rfl ?_
  refine i_231_194z (v := Value.int 0) hw21 e58 e59 rfl ?_
  refine i_231_195 (fun _ => ?_) (fun h => absurd h (by decide))
  refine i_231_202 ?_
  refine i_231_203 (lv2 := [(16, Value.int 0), (15, Value.int 0), (14, Value.int 0), (9, Value.int 1), (13, Value.int a14), (12, Value.int a13), (11, Value.int 4), (6, Value.int (-128)), (8, Value.int 0), (7, Value.int 0), (10, Value.int 0), (0, Value.ref 128), (1, Value.int a0), (2, Value.int a1), (3, Value.int a2), (4, Value.int a3), (5, Value.int a4)]) rfl ?_
  refine i_231_205 (x := 0) rfl ?_
  refine i_231_207 (x := 0) rfl ?_
  refine i_231_209 (fun _ => ?_) (fun h => absurd h (by decide))
  refine i_231_221 ?_
  refine i_231_222 (c := 0) (by decide) ?_
  refine i_231_223 (lv2 := [(10, Value.int 0), (16, Value.int 0), (15, Value.int 0), (14, Value.int 0), (9, Value.int 1), (13, Value.int a14), (12, Value.int a13), (11, Value.int 4), (6, Value.int (-128)), (8, Value.int 0), (7, Value.int 0), (0, Value.ref 128), (1, Value.int a0), (2, Value.int a1), (3, Value.int a2), (4, Value.int a3), (5, Value.int a4)]) rfl ?_
  refine i_231_225 (x := 0) rfl ?_
  refine i_231_227 (x := 0) rfl ?_
  refine i_231_229 (fun _ => ?_) (fun h => absurd h (by decide))
  refine i_231_241 ?_
  refine i_231_242 (c := 0) (by decide) ?_
  refine i_231_243 (lv2 := [(7, Value.int 0), (10, Value.int 0), (16, Value.int 0), (15, Value.int 0), (14, Value.int 0), (9, Value.int 1), (13, Value.int a14), (12, Value.int a13), (11, Value.int 4), (6, Value.int (-128)), (8, Value.int 0), (0, Value.ref 128), (1, Value.int a0), (2, Value.int a1), (3, Value.int a2), (4, Value.int a3), (5, Value.int a4)]) rfl ?_
  refine i_231_245 (x := 0) rfl ?_
  refine i_231_247 (x := 0) rfl ?_
  refine i_231_249 (fun _ => ?_) (fun h => absurd h (by decide))
  refine i_231_261 ?_
  refine i_231_262 (c := 0) (by decide) ?_
  refine i_231_263 (lv2 := [(8, Value.int 0), (7, Value.int 0), (10, Value.int 0), (16, Value.int 0), (15, Value.int 0), (14, Value.int 0), (9, Value.int 1), (13, Value.int a14), (12, Value.int a13), (11, Value.int 4), (6, Value.int (-128)), (0, Value.ref 128), (1, Value.int a0), (2, Value.int a1), (3, Value.int a2), (4, Value.int a3), (5, Value.int a4)]) rfl ?_
  refine i_231_265 (x := 0) rfl ?_
  refine i_231_267 (fun h => absurd h (by decide)) (fun _ => ?_)
  refine i_231_270 (x := 0) rfl ?_
  refine i_231_272 (fun h => absurd h (by decide)) (fun _ => ?_)
  refine i_231_275 (x := (-128)) rfl ?_
  refine i_231_277 (x := 128) rfl ?_
  refine i_231_278 (x := a13) rfl ?_
  refine i_231_280 hw17 (Nat.le_of_ble_eq_true rfl) (p_196_0 hw17 hw22 e56 e57 hw23 hg60) ?_
  refine i_231_283 (x := 128) rfl ?_
  refine i_231_284 (x := a14) rfl ?_
  refine i_231_286 hw17 (Nat.le_of_ble_eq_true rfl) (p_196_0 hw17 hw22 e58 e59 hw23 hg61) ?_
  refine i_231_289 (c := (-128)) (by decide) ?_
  refine i_231_290 (Nat.le_of_ble_eq_true rfl) (p_272_1) ?_
  refine i_231_293 (lv2 := [(6, Value.int (-128)), (8, Value.int 0), (7, Value.int 0), (10, Value.int 0), (16, Value.int 0), (15, Value.int 0), (14, Value.int 0), (9, Value.int 1), (13, Value.int a14), (12, Value.int a13), (11, Value.int 4), (0, Value.ref 128), (1, Value.int a0), (2, Value.int a1), (3, Value.int a2), (4, Value.int a3), (5, Value.int a4)]) rfl ?_
  refine i_231_295 (x := 4) (c := 5) (lv2 := [(11, Value.int 5), (6, Value.int (-128)), (8, Value.int 0), (7, Value.int 0), (10, Value.int 0), (16, Value.int 0), (15, Value.int 0), (14, Value.int 0), (9, Value.int 1), (13, Value.int a14), (12, Value.int a13), (0, Value.ref 128), (1, Value.int a0), (2, Value.int a1), (3, Value.int a2), (4, Value.int a3), (5, Value.int a4)]) rfl (by decide) rfl ?_
  refine i_231_298 ?_
  refine i_231_74 (x := 5) rfl ?_
  refine i_231_76 (x := a3) rfl ?_
  refine i_231_78 (fun h => absurd e62 (Int.not_lt.mpr h)) (fun _ => ?_)
  refine i_231_81 (x := a1) rfl ?_
  refine i_231_82 (x := 5) rfl ?_
  refine i_231_84 (c := a15) hg63 ?_
  refine i_231_85 (lv2 := [(12, Value.int a15), (11, Value.int 5), (6, Value.int (-128)), (8, Value.int 0), (7, Value.int 0), (10, Value.int 0), (16, Value.int 0), (15, Value.int 0), (14, Value.int 0), (9, Value.int 1), (13, Value.int a14), (0, Value.ref 128), (1, Value.int a0), (2, Value.int a1), (3, Value.int a2), (4, Value.int a3), (5, Value.int a4)]) rfl ?_
  refine i_231_87 (x := a2) rfl ?_
  refine i_231_88 (x := 5) rfl ?_
  refine i_231_90 (c := a16) hg64 ?_
  refine i_231_91 (lv2 := [(13, Value.int a16), (12, Value.int a15), (11, Value.int 5), (6, Value.int (-128)), (8, Value.int 0), (7, Value.int 0), (10, Value.int 0), (16, Value.int 0), (15, Value.int 0), (14, Value.int 0), (9, Value.int 1), (0, Value.ref 128), (1, Value.int a0), (2, Value.int a1), (3, Value.int a2), (4, Value.int a3), (5, Value.int a4)]) rfl ?_
  refine i_231_93 (x := 1) rfl ?_
  refine i_231_95 (x := 128) rfl ?_
  refine i_231_96 (v := Value.ref 154) hw17 rfl ?_
  refine i_231_99 (x := a15) rfl ?_
  refine i_231_101 (v := Value.int 0) hw18 e65 e66 rfl ?_
  refine i_231_102 (fun _ => ?_) (fun h => absurd h (by decide))
  refine i_231_115 ?_
  refine i_231_116 ?_
  refine i_231_120 (c := 1) (by decide) ?_
  refine i_231_121 (lv2 := [(9, Value.int 1), (13, Value.int a16), (12, Value.int a15), (11, Value.int 5), (6, Value.int (-128)), (8, Value.int 0), (7, Value.int 0), (10, Value.int 0), (16, Value.int 0), (15, Value.int 0), (14, Value.int 0), (0, Value.ref 128), (1, Value.int a0), (2, Value.int a1), (3, Value.int a2), (4, Value.int a3), (5, Value.int a4)]) rfl ?_
  refine i_231_123 (x := 128) rfl ?_
  refine i_231_124 (v := Value.ref 154) hw17 rfl ?_
  refine i_231_127 (x := a15) rfl ?_
  refine i_231_129 (v := Value.int 0) hw18 e65 e66 rfl ?_
  refine i_231_130 ?_
  refine i_231_131 (fun h => absurd h (by decide)) (fun _ => ?_)
  refine i_231_134 (x := 128) rfl ?_
  refine i_231_135 (v := Value.ref 154) hw17 rfl ?_
  refine i_231_138 (x := a16) rfl ?_
  refine i_231_140 (v := Value.int 0) hw18 e67 e68 rfl ?_
  refine i_231_141 ?_
  refine i_231_142 (fun _ => ?_) (fun h => absurd h (by decide))
  refine i_231_149 ?_
  refine i_231_150 (lv2 := [(14, Value.int 0), (9, Value.int 1), (13, Value.int a16), (12, Value.int a15), (11, Value.int 5), (6, Value.int (-128)), (8, Value.int 0), (7, Value.int 0), (10, Value.int 0), (16, Value.int 0), (15, Value.int 0), (0, Value.ref 128), (1, Value.int a0), (2, Value.int a1), (3, Value.int a2), (4, Value.int a3), (5, Value.int a4)]) rfl ?_
  refine i_231_152 (x := 128) rfl ?_
  refine i_231_153 (v := Value.ref 154) hw17 rfl ?_
  refine i_231_156 (x := a15) rfl ?_
  refine i_231_158 (v := Value.int 0) hw18 e65 e66 rfl ?_
  refine i_231_159 ?_
  refine i_231_160 (fun h => absurd h (by decide)) (fun _ => ?_)
  refine i_231_163 (x := 128) rfl ?_
  refine i_231_164 (v := Value.ref 154) hw17 rfl ?_
  refine i_231_167 (x := a16) rfl ?_
  refine i_231_169 (v := Value.int 0) hw18 e67 e68 rfl ?_
  refine i_231_170 ?_
  refine i_231_171 (fun _ => ?_) (fun h => absurd h (by decide))
  refine i_231_178 ?_
  refine i_231_179 (lv2 := [(15, Value.int 0), (14, Value.int 0), (9, Value.int 1), (13, Value.int a16), (12, Value.int a15), (11, Value.int 5), (6, Value.int (-128)), (8, Value.int 0), (7, Value.int 0), (10, Value.int 0), (16, Value.int 0), (0, Value.ref 128), (1, Value.int a0), (2, Value.int a1), (3, Value.int a2), (4, Value.int a3), (5, Value.int a4)]) rfl ?_
  refine i_231_181 (x := 128) rfl ?_
  refine i_231_182 (v := Value.ref 156) hw17 rfl ?_
  refine i_231_185 (x := a15) rfl ?_
  refine i_231_187z (v := Value.int 0) hw21 e65 e66 rfl ?_
  refine i_231_188 (x := 128) rfl ?_
  refine i_231_189 (v := Value.ref 156) hw17 rfl ?_
  refine i_231_192 (x := a16) rfl ?_
  refine i_231_194z (v := Value.int 0) hw21 e67 e68 rfl ?_
  refine i_231_195 (fun _ => ?_) (fun h => absurd h (by decide))
  refine i_231_202 ?_
  refine i_231_203 (lv2 := [(16, Value.int 0), (15, Value.int 0), (14, Value.int 0), (9, Value.int 1), (13, Value.int a16), (12, Value.int a15), (11, Value.int 5), (6, Value.int (-128)), (8, Value.int 0), (7, Value.int 0), (10, Value.int 0), (0, Value.ref 128), (1, Value.int a0), (2, Value.int a1), (3, Value.int a2), (4, Value.int a3), (5, Value.int a4)]) rfl ?_
  refine i_231_205 (x := 0) rfl ?_
  refine i_231_207 (x := 0) rfl ?_
  refine i_231_209 (fun _ => ?_) (fun h => absurd h (by decide))
  refine i_231_221 ?_
  refine i_231_222 (c := 0) (by decide) ?_
  refine i_231_223 (lv2 := [(10, Value.int 0), (16, Value.int 0), (15, Value.int 0), (14, Value.int 0), (9, Value.int 1), (13, Value.int a16), (12, Value.int a15), (11, Value.int 5), (6, Value.int (-128)), (8, Value.int 0), (7, Value.int 0), (0, Value.ref 128), (1, Value.int a0), (2, Value.int a1), (3, Value.int a2), (4, Value.int a3), (5, Value.int a4)]) rfl ?_
  refine i_231_225 (x := 0) rfl ?_
  refine i_231_227 (x := 0) rfl ?_
  refine i_231_229 (fun _ => ?_) (fun h => absurd h (by decide))
  refine i_231_241 ?_
  refine i_231_242 (c := 0) (by decide) ?_
  refine i_231_243 (lv2 := [(7, Value.int 0), (10, Value.int 0), (16, Value.int 0), (15, Value.int 0), (14, Value.int 0), (9, Value.int 1), (13, Value.int a16), (12, Value.int a15), (11, Value.int 5), (6, Value.int (-128)), (8, Value.int 0), (0, Value.ref 128), (1, Value.int a0), (2, Value.int a1), (3, Value.int a2), (4, Value.int a3), (5, Value.int a4)]) rfl ?_
  refine i_231_245 (x := 0) rfl ?_
  refine i_231_247 (x := 0) rfl ?_
  refine i_231_249 (fun _ => ?_) (fun h => absurd h (by decide))
  refine i_231_261 ?_
  refine i_231_262 (c := 0) (by decide) ?_
  refine i_231_263 (lv2 := [(8, Value.int 0), (7, Value.int 0), (10, Value.int 0), (16, Value.int 0), (15, Value.int 0), (14, Value.int 0), (9, Value.int 1), (13, Value.int a16), (12, Value.int a15), (11, Value.int 5), (6, Value.int (-128)), (0, Value.ref 128), (1, Value.int a0), (2, Value.int a1), (3, Value.int a2), (4, Value.int a3), (5, Value.int a4)]) rfl ?_
  refine i_231_265 (x := 0) rfl ?_
  refine i_231_267 (fun h => absurd h (by decide)) (fun _ => ?_)
  refine i_231_270 (x := 0) rfl ?_
  refine i_231_272 (fun h => absurd h (by decide)) (fun _ => ?_)
  refine i_231_275 (x := (-128)) rfl ?_
  refine i_231_277 (x := 128) rfl ?_
  refine i_231_278 (x := a15) rfl ?_
  refine i_231_280 hw17 (Nat.le_of_ble_eq_true rfl) (p_196_0 hw17 hw22 e65 e66 hw23 hg69) ?_
  refine i_231_283 (x := 128) rfl ?_
  refine i_231_284 (x := a16) rfl ?_
  refine i_231_286 hw17 (Nat.le_of_ble_eq_true rfl) (p_196_0 hw17 hw22 e67 e68 hw23 hg70) ?_
  refine i_231_289 (c := (-128)) (by decide) ?_
  refine i_231_290 (Nat.le_of_ble_eq_true rfl) (p_272_1) ?_
  refine i_231_293 (lv2 := [(6, Value.int (-128)), (8, Value.int 0), (7, Value.int 0), (10, Value.int 0), (16, Value.int 0), (15, Value.int 0), (14, Value.int 0), (9, Value.int 1), (13, Value.int a16), (12, Value.int a15), (11, Value.int 5), (0, Value.ref 128), (1, Value.int a0), (2, Value.int a1), (3, Value.int a2), (4, Value.int a3), (5, Value.int a4)]) rfl ?_
  refine i_231_295 (x := 5) (c := 6) (lv2 := [(11, Value.int 6), (6, Value.int (-128)), (8, Value.int 0), (7, Value.int 0), (10, Value.int 0), (16, Value.int 0), (15, Value.int 0), (14, Value.int 0), (9, Value.int 1), (13, Value.int a16), (12, Value.int a15), (0, Value.ref 128), (1, Value.int a0), (2, Value.int a1), (3, Value.int a2), (4, Value.int a3), (5, Value.int a4)]) rfl (by decide) rfl ?_
  refine i_231_298 ?_
  refine i_231_74 (x := 6) rfl ?_
  refine i_231_76 (x := a3) rfl ?_
  refine i_231_78 (fun h => absurd e71 (Int.not_lt.mpr h)) (fun _ => ?_)
  refine i_231_81 (x := a1) rfl ?_
  refine i_231_82 (x := 6) rfl ?_
  refine i_231_84 (c := a17) hg72 ?_
  refine i_231_85 (lv2 := [(12, Value.int a17), (11, Value.int 6), (6, Value.int (-128)), (8, Value.int 0), (7, Value.int 0), (10, Value.int 0), (16, Value.int 0), (15, Value.int 0), (14, Value.int 0), (9, Value.int 1), (13, Value.int a16), (0, Value.ref 128), (1, Value.int a0), (2, Value.int a1), (3, Value.int a2), (4, Value.int a3), (5, Value.int a4)]) rfl ?_
  refine i_231_87 (x := a2) rfl ?_
  refine i_231_88 (x := 6) rfl ?_
  refine i_231_90 (c := a18) hg73 ?_
  refine i_231_91 (lv2 := [(13, Value.int a18), (12, Value.int a17), (11, Value.int 6), (6, Value.int (-128)), (8, Value.int 0), (7, Value.int 0), (10, Value.int 0), (16, Value.int 0), (15, Value.int 0), (14, Value.int 0), (9, Value.int 1), (0, Value.ref 128), (1, Value.int a0), (2, Value.int a1), (3, Value.int a2), (4, Value.int a3), (5, Value.int a4)]) rfl ?_
  refine i_231_93 (x := 1) rfl ?_
  refine i_231_95 (x := 128) rfl ?_
  refine i_231_96 (v := Value.ref 154) hw17 rfl ?_
  refine i_231_99 (x := a17) rfl ?_
  refine i_231_101 (v := Value.int 0) hw18 e74 e75 rfl ?_
  refine i_231_102 (fun _ => ?_) (fun h => absurd h (by decide))
  refine i_231_115 ?_
  refine i_231_116 ?_
  refine i_231_120 (c := 1) (by decide) ?_
  refine i_231_121 (lv2 := [(9, Value.int 1), (13, Value.int a18), (12, Value.int a17), (11, Value.int 6), (6, Value.int (-128)), (8, Value.int 0), (7, Value.int 0), (10, Value.int 0), (16, Value.int 0), (15, Value.int 0), (14, Value.int 0), (0, Value.ref 128), (1, Value.int a0), (2, Value.int a1), (3, Value.int a2), (4, Value.int a3), (5, Value.int a4)]) rfl ?_
  refine i_231_123 (x := 128) rfl ?_
  refine i_231_124 (v := Value.ref 154) hw17 rfl ?_
  refine i_231_127 (x := a17) rfl ?_
  refine i_231_129 (v := Value.int 0) hw18 e74 e75 rfl ?_
  refine i_231_130 ?_
  refine i_231_131 (fun h => absurd h (by decide)) (fun _ => ?_)
  refine i_231_134 (x := 128) rfl ?_
  refine i_231_135 (v := Value.ref 154) hw17 rfl ?_
  refine i_231_138 (x := a18) rfl ?_
  refine i_231_140 (v := Value.int 0) hw18 e76 e77 rfl ?_
  refine i_231_141 ?_
  refine i_231_142 (fun _ => ?_) (fun h => absurd h (by decide))
  refine i_231_149 ?_
  refine i_231_150 (lv2 := [(14, Value.int 0), (9, Value.int 1), (13, Value.int a18), (12, Value.int a17), (11, Value.int 6), (6, Value.int (-128)), (8, Value.int 0), (7, Value.int 0), (10, Value.int 0), (16, Value.int 0), (15, Value.int 0), (0, Value.ref 128), (1, Value.int a0), (2, Value.int a1), (3, Value.int a2), (4, Value.int a3), (5, Value.int a4)]) rfl ?_
  refine i_231_152 (x := 128) rfl ?_
  refine i_231_153 (v := Value.ref 154) hw17 rfl ?_
  refine i_231_156 (x := a17) rfl ?_
  refine i_231_158 (v := Value.int 0) hw18 e74 e75 rfl ?_
  refine i_231_159 ?_
  refine i_231_160 (fun h => absurd h (by decide)) (fun _ => ?_)
  refine i_231_163 (x := 128) rfl ?_
  refine i_231_164 (v := Value.ref 154) hw17 rfl ?_
  refine i_231_167 (x := a18) rfl ?_
  refine i_231_169 (v := Value.int 0) hw18 e76 e77 rfl ?_
  refine i_231_170 ?_
  refine i_231_171 (fun _ => ?_) (fun h => absurd h (by decide))
  refine i_231_178 ?_
  refine i_231_179 (lv2 := [(15, Value.int 0), (14, Value.int 0), (9, Value.int 1), (13, Value.int a18), (12, Value.int a17), (11, Value.int 6), (6, Value.int (-128)), (8, Value.int 0), (7, Value.int 0), (10, Value.int 0), (16, Value.int 0), (0, Value.ref 128), (1, Value.int a0), (2, Value.int a1), (3, Value.int a2), (4, Value.int a3), (5, Value.int a4)]) rfl ?_
  refine i_231_181 (x := 128) rfl ?_
  refine i_231_182 (v := Value.ref 156) hw17 rfl ?_
  refine i_231_185 (x := a17) rfl ?_
  refine i_231_187z (v := Value.int 0) hw21 e74 e75 rfl ?_
  refine i_231_188 (x := 128) rfl ?_
  refine i_231_189 (v := Value.ref 156) hw17 rfl ?_
  refine i_231_192 (x := a18) rfl ?_
  refine i_231_194z (v := Value.int 0) hw21 e76 e77 rfl ?_
  refine i_231_195 (fun _ => ?_) (fun h => absurd h (by decide))
  refine i_231_202 ?_
  refine i_231_203 (lv2 := [(16, Value.int 0), (15, Value.int 0), (14, Value.int 0), (9, Value.int 1), (13, Value.int a18), (12, Value.int a17), (11, Value.int 6), (6, Value.int (-128)), (8, Value.int 0), (7, Value.int 0), (10, Value.int 0), (0, Value.ref 128), (1, Value.int a0), (2, Value.int a1), (3, Value.int a2), (4, Value.int a3), (5, Value.int a4)]) rfl ?_
  refine i_231_205 (x := 0) rfl ?_
  refine i_231_207 (x := 0) rfl ?_
  refine i_231_209 (fun _ => ?_) (fun h => absurd h (by decide))
  refine i_231_221 ?_
  refine i_231_222 (c := 0) (by decide) ?_
  refine i_231_223 (lv2 := [(10, Value.int 0), (16, Value.int 0), (15, Value.int 0), (14, Value.int 0), (9, Value.int 1), (13, Value.int a18), (12, Value.int a17), (11, Value.int 6), (6, Value.int (-128)), (8, Value.int 0), (7, Value.int 0), (0, Value.ref 128), (1, Value.int a0), (2, Value.int a1), (3, Value.int a2), (4, Value.int a3), (5, Value.int a4)]) rfl ?_
  refine i_231_225 (x := 0) rfl ?_
  refine i_231_227 (x := 0) rfl ?_
  refine i_231_229 (fun _ => ?_) (fun h => absurd h (by decide))
  refine i_231_241 ?_
  refine i_231_242 (c := 0) (by decide) ?_
  refine i_231_243 (lv2 := [(7, Value.int 0), (10, Value.int 0), (16, Value.int 0), (15, Value.int 0), (14, Value.int 0), (9, Value.int 1), (13, Value.int a18), (12, Value.int a17), (11, Value.int 6), (6, Value.int (-128)), (8, Value.int 0), (0, Value.ref 128), (1, Value.int a0), (2, Value.int a1), (3, Value.int a2), (4, Value.int a3), (5, Value.int a4)]) rfl ?_
  refine i_231_245 (x := 0) rfl ?_
  refine i_231_247 (x := 0) rfl ?_
  refine i_231_249 (fun _ => ?_) (fun h => absurd h (by decide))
  refine i_231_261 ?_
  refine i_231_262 (c := 0) (by decide) ?_
  refine i_231_263 (lv2 := [(8, Value.int 0), (7, Value.int 0), (10, Value.int 0), (16, Value.int 0), (15, Value.int 0), (14, Value.int 0), (9, Value.int 1), (13, Value.int a18), (12, Value.int a17), (11, Value.int 6), (6, Value.int (-128)), (0, Value.ref 128), (1, Value.int a0), (2, Value.int a1), (3, Value.int a2), (4, Value.int a3), (5, Value.int a4)]) rfl ?_
  refine i_231_265 (x := 0) rfl ?_
  refine i_231_267 (fun h => absurd h (by decide)) (fun _ => ?_)
  refine i_231_270 (x := 0) rfl ?_
  refine i_231_272 (fun h => absurd h (by decide)) (fun _ => ?_)
  refine i_231_275 (x := (-128)) rfl ?_
  refine i_231_277 (x := 128) rfl ?_
  refine i_231_278 (x := a17) rfl ?_
  refine i_231_280 hw17 (Nat.le_of_ble_eq_true rfl) (p_196_0 hw17 hw22 e74 e75 hw23 hg78) ?_
  refine i_231_283 (x := 128) rfl ?_
  refine i_231_284 (x := a18) rfl ?_
  refine i_231_286 hw17 (Nat.le_of_ble_eq_true rfl) (p_196_0 hw17 hw22 e76 e77 hw23 hg79) ?_
  refine i_231_289 (c := (-128)) (by decide) ?_
  refine i_231_290 (Nat.le_of_ble_eq_true rfl) (p_272_1) ?_
  refine i_231_293 (lv2 := [(6, Value.int (-128)), (8, Value.int 0), (7, Value.int 0), (10, Value.int 0), (16, Value.int 0), (15, Value.int 0), (14, Value.int 0), (9, Value.int 1), (13, Value.int a18), (12, Value.int a17), (11, Value.int 6), (0, Value.ref 128), (1, Value.int a0), (2, Value.int a1), (3, Value.int a2), (4, Value.int a3), (5, Value.int a4)]) rfl ?_
  refine i_231_295 (x := 6) (c := 7) (lv2 := [(11, Value.int 7), (6, Value.int (-128)), (8, Value.int 0), (7, Value.int 0), (10, Value.int 0), (16, Value.int 0), (15, Value.int 0), (14, Value.int 0), (9, Value.int 1), (13, Value.int a18), (12, Value.int a17), (0, Value.ref 128), (1, Value.int a0), (2, Value.int a1), (3, Value.int a2), (4, Value.int a3), (5, Value.int a4)]) rfl (by decide) rfl ?_
  refine i_231_298 ?_
  refine i_231_74 (x := 7) rfl ?_
  refine i_231_76 (x := a3) rfl ?_
  refine i_231_78 (fun h => absurd e80 (Int.not_lt.mpr h)) (fun _ => ?_)
  refine i_231_81 (x := a1) rfl ?_
  refine i_231_82 (x := 7) rfl ?_
  refine i_231_84 (c := a19) hg81 ?_
  refine i_231_85 (lv2 := [(12, Value.int a19), (11, Value.int 7), (6, Value.int (-128)), (8, Value.int 0), (7, Value.int 0), (10, Value.int 0), (16, Value.int 0), (15, Value.int 0), (14, Value.int 0), (9, Value.int 1), (13, Value.int a18), (0, Value.ref 128), (1, Value.int a0), (2, Value.int a1), (3, Value.int a2), (4, Value.int a3), (5, Value.int a4)]) rfl ?_
  refine i_231_87 (x := a2) rfl ?_
  refine i_231_88 (x := 7) rfl ?_
  refine i_231_90 (c := a20) hg82 ?_
  refine i_231_91 (lv2 := [(13, Value.int a20), (12, Value.int a19), (11, Value.int 7), (6, Value.int (-128)), (8, Value.int 0), (7, Value.int 0), (10, Value.int 0), (16, Value.int 0), (15, Value.int 0), (14, Value.int 0), (9, Value.int 1), (0, Value.ref 128), (1, Value.int a0), (2, Value.int a1), (3, Value.int a2), (4, Value.int a3), (5, Value.int a4)]) rfl ?_
  refine i_231_93 (x := 1) rfl ?_
  refine i_231_95 (x := 128) rfl ?_
  refine i_231_96 (v := Value.ref 154) hw17 rfl ?_
  refine i_231_99 (x := a19) rfl ?_
  refine i_231_101 (v := Value.int 0) hw18 e83 e84 rfl ?_
  refine i_231_102 (fun _ => ?_) (fun h => absurd h (by decide))
  refine i_231_115 ?_
  refine i_231_116 ?_
  refine i_231_120 (c := 1) (by decide) ?_
  refine i_231_121 (lv2 := [(9, Value.int 1), (13, Value.int a20), (12, Value.int a19), (11, Value.int 7), (6, Value.int (-128)), (8, Value.int 0), (7, Value.int 0), (10, Value.int 0), (16, Value.int 0), (15, Value.int 0), (14, Value.int 0), (0, Value.ref 128), (1, Value.int a0), (2, Value.int a1), (3, Value.int a2), (4, Value.int a3), (5, Value.int a4)]) rfl ?_
  refine i_231_123 (x := 128) rfl ?_
  refine i_231_124 (v := Value.ref 154) hw17 rfl ?_
  refine i_231_127 (x := a19) rfl ?_
  refine i_231_129 (v := Value.int 0) hw18 e83 e84 rfl ?_
  refine i_231_130 ?_
  refine i_231_131 (fun h => absurd h (by decide)) (fun _ => ?_)
  refine i_231_134 (x := 128) rfl ?_
  refine i_231_135 (v := Value.ref 154) hw17 rfl ?_
  refine i_231_138 (x := a20) rfl ?_
  refine i_231_140 (v := Value.int 0) hw18 e85 e86 rfl ?_
  refine i_231_141 ?_
  refine i_231_142 (fun _ => ?_) (fun h => absurd h (by decide))
  refine i_231_149 ?_
  refine i_231_150 (lv2 := [(14, Value.int 0), (9, Value.int 1), (13, Value.int a20), (12, Value.int a19), (11, Value.int 7), (6, Value.int (-128)), (8, Value.int 0), (7, Value.int 0), (10, Value.int 0), (16, Value.int 0), (15, Value.int 0), (0, Value.ref 128), (1, Value.int a0), (2, Value.int a1), (3, Value.int a2), (4, Value.int a3), (5, Value.int a4)]) rfl ?_
  refine i_231_152 (x := 128) rfl ?_
  refine i_231_153 (v := Value.ref 154) hw17 rfl ?_
  refine i_231_156 (x := a19) rfl ?_
  refine i_231_158 (v := Value.int 0) hw18 e83 e84 rfl ?_
  refine i_231_159 ?_
  refine i_231_160 (fun h => absurd h (by decide)) (fun _ => ?_)
  refine i_231_163 (x := 128) rfl ?_
  refine i_231_164 (v := Value.ref 154) hw17 rfl ?_
  refine i_231_167 (x := a20) rfl ?_
  refine i_231_169 (v := Value.int 0) hw18 e85 e86 rfl ?_
  refine i_231_170 ?_
  refine i_231_171 (fun _ => ?_) (fun h => absurd h (by decide))
  refine i_231_178 ?_
  refine i_231_179 (lv2 := [(15, Value.int 0), (14, Value.int 0), (9, Value.int 1), (13, Value.int a20), (12, Value.int a19), (11, Value.int 7), (6, Value.int (-128)), (8, Value.int 0), (7, Value.int 0), (10, Value.int 0), (16, Value.int 0), (0, Value.ref 128), (1, Value.int a0), (2, Value.int a1), (3, Value.int a2), (4, Value.int a3), (5, Value.int a4)]) rfl ?_
  refine i_231_181 (x := 128) rfl ?_
  refine i_231_182 (v := Value.ref 156) hw17 rfl ?_
  refine i_231_185 (x := a19) rfl ?_
  refine i_231_187z (v := Value.int 0) hw21 e83 e84 rfl ?_
  refine i_231_188 (x := 128) rfl ?_
  refine i_231_189 (v := Value.ref 156) hw17 rfl ?_
  refine i_231_192 (x := a20) rfl ?_
  refine i_231_194z (v := Value.int 0) hw21 e85 e86 rfl ?_
  refine i_231_195 (fun _ => ?_) (fun h => absurd h (by decide))
  refine i_231_202 ?_
  refine i_231_203 (lv2 := [(16, Value.int 0), (15, Value.int 0), (14, Value.int 0), (9, Value.int 1), (13, Value.int a20), (12, Value.int a19), (11, Value.int 7), (6, Value.int (-128)), (8, Value.int 0), (7, Value.int 0), (10, Value.int 0), (0, Value.ref 128), (1, Value.int a0), (2, Value.int a1), (3, Value.int a2), (4, Value.int a3), (5, Value.int a4)]) rfl ?_
  refine i_231_205 (x := 0) rfl ?_
  refine i_231_207 (x := 0) rfl ?_
  refine i_231_209 (fun _ => ?_) (fun h => absurd h (by decide))
  refine i_231_221 ?_
  refine i_231_222 (c := 0) (by decide) ?_
  refine i_231_223 (lv2 := [(10, Value.int 0), (16, Value.int 0), (15, Value.int 0), (14, Value.int 0), (9, Value.int 1), (13, Value.int a20), (12, Value.int a19), (11, Value.int 7), (6, Value.int (-128)), (8, Value.int 0), (7, Value.int 0), (0, Value.ref 128), (1, Value.int a0), (2, Value.int a1), (3, Value.int a2), (4, Value.int a3), (5, Value.int a4)]) rfl ?_
  refine i_231_225 (x := 0) rfl ?_
  refine i_231_227 (x := 0) rfl ?_
  refine i_231_229 (fun _ => ?_) (fun h => absurd h (by decide))
  refine i_231_241 ?_
  refine i_231_242 (c := 0) (by decide) ?_
  refine i_231_243 (lv2 := [(7, Value.int 0), (10, Value.int 0), (16, Value.int 0), (15, Value.int 0), (14, Value.int 0), (9, Value.int 1), (13, Value.int a20), (12, Value.int a19), (11, Value.int 7), (6, Value.int (-128)), (8, Value.int 0), (0, Value.ref 128), (1, Value.int a0), (2, Value.int a1), (3, Value.int a2), (4, Value.int a3), (5, Value.int a4)]) rfl ?_
  refine i_231_245 (x := 0) rfl ?_
  refine i_231_247 (x := 0) rfl ?_
  refine i_231_249 (fun _ => ?_) (fun h => absurd h (by decide))
  refine i_231_261 ?_
  refine i_231_262 (c := 0) (by decide) ?_
  refine i_231_263 (lv2 := [(8, Value.int 0), (7, Value.int 0), (10, Value.int 0), (16, Value.int 0), (15, Value.int 0), (14, Value.int 0), (9, Value.int 1), (13, Value.int a20), (12, Value.int a19), (11, Value.int 7), (6, Value.int (-128)), (0, Value.ref 128), (1, Value.int a0), (2, Value.int a1), (3, Value.int a2), (4, Value.int a3), (5, Value.int a4)]) rfl ?_
  refine i_231_265 (x := 0) rfl ?_
  refine i_231_267 (fun h => absurd h (by decide)) (fun _ => ?_)
  refine i_231_270 (x := 0) rfl ?_
  refine i_231_272 (fun h => absurd h (by decide)) (fun _ => ?_)
  refine i_231_275 (x := (-128)) rfl ?_
  refine i_231_277 (x := 128) rfl ?_
  refine i_231_278 (x := a19) rfl ?_
  refine i_231_280 hw17 (Nat.le_of_ble_eq_true rfl) (p_196_0 hw17 hw22 e83 e84 hw23 hg87) ?_
  refine i_231_283 (x := 128) rfl ?_
  refine i_231_284 (x := a20) rfl ?_
  refine i_231_286 hw17 (Nat.le_of_ble_eq_true rfl) (p_196_0 hw17 hw22 e85 e86 hw23 hg88) ?_
  refine i_231_289 (c := (-128)) (by decide) ?_
  refine i_231_290 (Nat.le_of_ble_eq_true rfl) (p_272_1) ?_
  refine i_231_293 (lv2 := [(6, Value.int (-128)), (8, Value.int 0), (7, Value.int 0), (10, Value.int 0), (16, Value.int 0), (15, Value.int 0), (14, Value.int 0), (9, Value.int 1), (13, Value.int a20), (12, Value.int a19), (11, Value.int 7), (0, Value.ref 128), (1, Value.int a0), (2, Value.int a1), (3, Value.int a2), (4, Value.int a3), (5, Value.int a4)]) rfl ?_
  refine i_231_295 (x := 7) (c := 8) (lv2 := [(11, Value.int 8), (6, Value.int (-128)), (8, Value.int 0), (7, Value.int 0), (10, Value.int 0), (16, Value.int 0), (15, Value.int 0), (14, Value.int 0), (9, Value.int 1), (13, Value.int a20), (12, Value.int a19), (0, Value.ref 128), (1, Value.int a0), (2, Value.int a1), (3, Value.int a2), (4, Value.int a3), (5, Value.int a4)]) rfl (by decide) rfl ?_
  refine i_231_298 ?_
  refine i_231_74 (x := 8) rfl ?_
  refine i_231_76 (x := a3) rfl ?_
  refine i_231_78 (fun h => absurd e89 (Int.not_lt.mpr h)) (fun _ => ?_)
  refine i_231_81 (x := a1) rfl ?_
  refine i_231_82 (x := 8) rfl ?_
  refine i_231_84 (c := a21) hg90 ?_
  refine i_231_85 (lv2 := [(12, Value.int a21), (11, Value.int 8), (6, Value.int (-128)), (8, Value.int 0), (7, Value.int 0), (10, Value.int 0), (16, Value.int 0), (15, Value.int 0), (14, Value.int 0), (9, Value.int 1), (13, Value.int a20), (0, Value.ref 128), (1, Value.int a0), (2, Value.int a1), (3, Value.int a2), (4, Value.int a3), (5, Value.int a4)]) rfl ?_
  refine i_231_87 (x := a2) rfl ?_
  refine i_231_88 (x := 8) rfl ?_
  refine i_231_90 (c := a22) hg91 ?_
  refine i_231_91 (lv2 := [(13, Value.int a22), (12, Value.int a21), (11, Value.int 8), (6, Value.int (-128)), (8, Value.int 0), (7, Value.int 0), (10, Value.int 0), (16, Value.int 0), (15, Value.int 0), (14, Value.int 0), (9, Value.int 1), (0, Value.ref 128), (1, Value.int a0), (2, Value.int a1), (3, Value.int a2), (4, Value.int a3), (5, Value.int a4)]) rfl ?_
  refine i_231_93 (x := 1) rfl ?_
  refine i_231_95 (x := 128) rfl ?_
  refine i_231_96 (v := Value.ref 154) hw17 rfl ?_
  refine i_231_99 (x := a21) rfl ?_
  refine i_231_101 (v := Value.int 0) hw18 e92 e93 rfl ?_
  refine i_231_102 (fun _ => ?_) (fun h => absurd h (by decide))
  refine i_231_115 ?_
  refine i_231_116 ?_
  refine i_231_120 (c := 1) (by decide) ?_
  refine i_231_121 (lv2 := [(9, Value.int 1), (13, Value.int a22), (12, Value.int a21), (11, Value.int 8), (6, Value.int (-128)), (8, Value.int 0), (7, Value.int 0), (10, Value.int 0), (16, Value.int 0), (15, Value.int 0), (14, Value.int 0), (0, Value.ref 128), (1, Value.int a0), (2, Value.int a1), (3, Value.int a2), (4, Value.int a3), (5, Value.int a4)]) rfl ?_
  refine i_231_123 (x := 128) rfl ?_
  refine i_231_124 (v := Value.ref 154) hw17 rfl ?_
  refine i_231_127 (x := a21) rfl ?_
  refine i_231_129 (v := Value.int 0) hw18 e92 e93 rfl ?_
  refine i_231_130 ?_
  refine i_231_131 (fun h => absurd h (by decide)) (fun _ => ?_)
  refine i_231_134 (x := 128) rfl ?_
  refine i_231_135 (v := Value.ref 154) hw17 rfl ?_
  refine i_231_138 (x := a22) rfl ?_
  refine i_231_140 (v := Value.int 0) hw18 e94 e95 rfl ?_
  refine i_231_141 ?_
  refine i_231_142 (fun _ => ?_) (fun h => absurd h (by decide))
  refine i_231_149 ?_
  refine i_231_150 (lv2 := [(14, Value.int 0), (9, Value.int 1), (13, Value.int a22), (12, Value.int a21), (11, Value.int 8), (6, Value.int (-128)), (8, Value.int 0), (7, Value.int 0), (10, Value.int 0), (16, Value.int 0), (15, Value.int 0), (0, Value.ref 128), (1, Value.int a0), (2, Value.int a1), (3, Value.int a2), (4, Value.int a3), (5, Value.int a4)]) rfl ?_
  refine i_231_152 (x := 128) rfl ?_
  refine i_231_153 (v := Value.ref 154) hw17 rfl ?_
  refine i_231_156 (x := a21) rfl ?_
  refine i_231_158 (v := Value.int 0) hw18 e92 e93 rfl ?_
  refine i_231_159 ?_
  refine i_231_160 (fun h => absurd h (by decide)) (fun _ => ?_)
  refine i_231_163 (x := 128) rfl ?_
  refine i_231_164 (v := Value.ref 154) hw17 rfl ?_
  refine i_231_167 (x := a22) rfl ?_
  refine i_231_169 (v := Value.int 0) hw18 e94 e95 rfl ?_
  refine i_231_170 ?_
  refine i_231_171 (fun _ => ?_) (fun h => absurd h (by decide))
  refine i_231_178 ?_
  refine i_231_179 (lv2 := [(15, Value.int 0), (14, Value.int 0), (9, Value.int 1), (13, Value.int a22), (12, Value.int a21), (11, Value.int 8), (6, Value.int (-128)), (8, Value.int 0), (7, Value.int 0), (10, Value.int 0), (16, Value.int 0), (0, Value.ref 128), (1, Value.int a0), (2, Value.int a1), (3, Value.int a2), (4, Value.int a3), (5, Value.int a4)]) rfl ?_
  refine i_231_181 (x := 128) rfl ?_
  refine i_231_182 (v := Value.ref 156) hw17 rfl ?_
  refine i_231_185 (x := a21) rfl ?_
  refine i_231_187z (v := Value.int 0) hw21 e92 e93 rfl ?_
  refine i_231_188 (x := 128) rfl ?_
  refine i_231_189 (v := Value.ref 156) hw17 rfl ?_
  refine i_231_192 (x := a22) rfl ?_
  refine i_231_194z (v := Value.int 0) hw21 e94 e95 rfl ?_
  refine i_231_195 (fun _ => ?_) (fun h => absurd h (by decide))
  refine i_231_202 ?_
  refine i_231_203 (lv2 := [(16, Value.int 0), (15, Value.int 0), (14, Value.int 0), (9, Value.int 1), (13, Value.int a22), (12, Value.int a21), (11, Value.int 8), (6, Value.int (-128)), (8, Value.int 0), (7, Value.int 0), (10, Value.int 0), (0, Value.ref 128), (1, Value.int a0), (2, Value.int a1), (3, Value.int a2), (4, Value.int a3), (5, Value.int a4)]) rfl ?_
  refine i_231_205 (x := 0) rfl ?_
  refine i_231_207 (x := 0) rfl ?_
  refine i_231_209 (fun _ => ?_) (fun h => absurd h (by decide))
  refine i_231_221 ?_
  refine i_231_222 (c := 0) (by decide) ?_
  refine i_231_223 (lv2 := [(10, Value.int 0), (16, Value.int 0), (15, Value.int 0), (14, Value.int 0), (9, Value.int 1), (13, Value.int a22), (12, Value.int a21), (11, Value.int 8), (6, Value.int (-128)), (8, Value.int 0), (7, Value.int 0), (0, Value.ref 128), (1, Value.int a0), (2, Value.int a1), (3, Value.int a2), (4, Value.int a3), (5, Value.int a4)]) rfl ?_
  refine i_231_225 (x := 0) rfl ?_
  refine i_231_227 (x := 0) rfl ?_
  refine i_231_229 (fun _ => ?_) (fun h => absurd h (by decide))
  refine i_231_241 ?_
  refine i_231_242 (c := 0) (by decide) ?_
  refine i_231_243 (lv2 := [(7, Value.int 0), (10, Value.int 0), (16, Value.int 0), (15, Value.int 0), (14, Value.int 0), (9, Value.int 1), (13, Value.int a22), (12, Value.int a21), (11, Value.int 8), (6, Value.int (-128)), (8, Value.int 0), (0, Value.ref 128), (1, Value.int a0), (2, Value.int a1), (3, Value.int a2), (4, Value.int a3), (5, Value.int a4)]) rfl ?_
  refine i_231_245 (x := 0) rfl ?_
  refine i_231_247 (x := 0) rfl ?_
  refine i_231_249 (fun _ => ?_) (fun h => absurd h (by decide))
  refine i_231_261 ?_
  refine i_231_262 (c := 0) (by decide) ?_
  refine i_231_263 (lv2 := [(8, Value.int 0), (7, Value.int 0), (10, Value.int 0), (16, Value.int 0), (15, Value.int 0), (14, Value.int 0), (9, Value.int 1), (13, Value.int a22), (12, Value.int a21), (11, Value.int 8), (6, Value.int (-128)), (0, Value.ref 128), (1, Value.int a0), (2, Value.int a1), (3, Value.int a2), (4, Value.int a3), (5, Value.int a4)]) rfl ?_
  refine i_231_265 (x := 0) rfl ?_
  refine i_231_267 (fun h => absurd h (by decide)) (fun _ => ?_)
  refine i_231_270 (x := 0) rfl ?_
  refine i_231_272 (fun h => absurd h (by decide)) (fun _ => ?_)
  refine i_231_275 (x := (-128)) rfl ?_
  refine i_231_277 (x := 128) rfl ?_
  refine i_231_278 (x := a21) rfl ?_
  refine i_231_280 hw17 (Nat.le_of_ble_eq_true rfl) (p_196_0 hw17 hw22 e92 e93 hw23 hg96) ?_
  refine i_231_283 (x := 128) rfl ?_
  refine i_231_284 (x := a22) rfl ?_
  refine i_231_286 hw17 (Nat.le_of_ble_eq_true rfl) (p_196_0 hw17 hw22 e94 e95 hw23 hg97) ?_
  refine i_231_289 (c := (-128)) (by decide) ?_
  refine i_231_290 (Nat.le_of_ble_eq_true rfl) (p_272_1) ?_
  refine i_231_293 (lv2 := [(6, Value.int (-128)), (8, Value.int 0), (7, Value.int 0), (10, Value.int 0), (16, Value.int 0), (15, Value.int 0), (14, Value.int 0), (9, Value.int 1), (13, Value.int a22), (12, Value.int a21), (11, Value.int 8), (0, Value.ref 128), (1, Value.int a0), (2, Value.int a1), (3, Value.int a2), (4, Value.int a3), (5, Value.int a4)]) rfl ?_
  refine i_231_295 (x := 8) (c := 9) (lv2 := [(11, Value.int 9), (6, Value.int (-128)), (8, Value.int 0), (7, Value.int 0), (10, Value.int 0), (16, Value.int 0), (15, Value.int 0), (14, Value.int 0), (9, Value.int 1), (13, Value.int a22), (12, Value.int a21), (0, Value.ref 128), (1, Value.int a0), (2, Value.int a1), (3, Value.int a2), (4, Value.int a3), (5, Value.int a4)]) rfl (by decide) rfl ?_
  refine i_231_298 ?_
  refine i_231_74 (x := 9) rfl ?_
  refine i_231_76 (x := a3) rfl ?_
  refine i_231_78 (fun h => absurd e98 (Int.not_lt.mpr h)) (fun _ => ?_)
  refine i_231_81 (x := a1) rfl ?_
  refine i_231_82 (x := 9) rfl ?_
  refine i_231_84 (c := a23) hg99 ?_
  refine i_231_85 (lv2 := [(12, Value.int a23), (11, Value.int 9), (6, Value.int (-128)), (8, Value.int 0), (7, Value.int 0), (10, Value.int 0), (16, Value.int 0), (15, Value.int 0), (14, Value.int 0), (9, Value.int 1), (13, Value.int a22), (0, Value.ref 128), (1, Value.int a0), (2, Value.int a1), (3, Value.int a2), (4, Value.int a3), (5, Value.int a4)]) rfl ?_
  refine i_231_87 (x := a2) rfl ?_
  refine i_231_88 (x := 9) rfl ?_
  refine i_231_90 (c := a24) hg100 ?_
  refine i_231_91 (lv2 := [(13, Value.int a24), (12, Value.int a23), (11, Value.int 9), (6, Value.int (-128)), (8, Value.int 0), (7, Value.int 0), (10, Value.int 0), (16, Value.int 0), (15, Value.int 0), (14, Value.int 0), (9, Value.int 1), (0, Value.ref 128), (1, Value.int a0), (2, Value.int a1), (3, Value.int a2), (4, Value.int a3), (5, Value.int a4)]) rfl ?_
  refine i_231_93 (x := 1) rfl ?_
  refine i_231_95 (x := 128) rfl ?_
  refine i_231_96 (v := Value.ref 154) hw17 rfl ?_
  refine i_231_99 (x := a23) rfl ?_
  refine i_231_101 (v := Value.int 0) hw18 e101 e102 rfl ?_
  refine i_231_102 (fun _ => ?_) (fun h => absurd h (by decide))
  refine i_231_115 ?_
  refine i_231_116 ?_
  refine i_231_120 (c := 1) (by decide) ?_
  refine i_231_121 (lv2 := [(9, Value.int 1), (13, Value.int a24), (12, Value.int a23), (11, Value.int 9), (6, Value.int (-128)), (8, Value.int 0), (7, Value.int 0), (10, Value.int 0), (16, Value.int 0), (15, Value.int 0), (14, Value.int 0), (0, Value.ref 128), (1, Value.int a0), (2, Value.int a1), (3, Value.int a2), (4, Value.int a3), (5, Value.int a4)]) rfl ?_
  refine i_231_123 (x := 128) rfl ?_
  refine i_231_124 (v := Value.ref 154) hw17 rfl ?_
  refine i_231_127 (x := a23) rfl ?_
  refine i_231_129 (v := Value.int 0) hw18 e101 e102 rfl ?_
  refine i_231_130 ?_
  refine i_231_131 (fun h => absurd h (by decide)) (fun _ => ?_)
  refine i_231_134 (x := 128) rfl ?_
  refine i_231_135 (v := Value.ref 154) hw17 rfl ?_
  refine i_231_138 (x := a24) rfl ?_
  refine i_231_140 (v := Value.int 0) hw18 e103 e104 rfl ?_
  refine i_231_141 ?_
  refine i_231_142 (fun _ => ?_) (fun h => absurd h (by decide))
  refine i_231_149 ?_
  refine i_231_150 (lv2 := [(14, Value.int 0), (9, Value.int 1), (13, Value.int a24), (12, Value.int a23), (11, Value.int 9), (6, Value.int (-128)), (8, Value.int 0), (7, Value.int 0), (10, Value.int 0), (16, Value.int 0), (15, Value.int 0), (0, Value.ref 128), (1, Value.int a0), (2, Value.int a1), (3, Value.int a2), (4, Value.int a3), (5, Value.int a4)]) rfl ?_
  refine i_231_152 (x := 128) rfl ?_
  refine i_231_153 (v := Value.ref 154) hw17 rfl ?_
  refine i_231_156 (x := a23) rfl ?_
  refine i_231_158 (v := Value.int 0) hw18 e101 e102 rfl ?_
  refine i_231_159 ?_
  refine i_231_160 (fun h => absurd h (by decide)) (fun _ => ?_)
  refine i_231_163 (x := 128) rfl ?_
  refine i_231_164 (v := Value.ref 154) hw17 rfl ?_
  refine i_231_167 (x := a24) rfl ?_
  refine i_231_169 (v := Value.int 0) hw18 e103 e104 rfl ?_
  refine i_231_170 ?_
  refine i_231_171 (fun _ => ?_) (fun h => absurd h (by decide))
  refine i_231_178 ?_
  refine i_231_179 (lv2 := [(15, Value.int 0), (14, Value.int 0), (9, Value.int 1), (13, Value.int a24), (12, Value.int a23), (11, Value.int 9), (6, Value.int (-128)), (8, Value.int 0), (7, Value.int 0), (10, Value.int 0), (16, Value.int 0), (0, Value.ref 128), (1, Value.int a0), (2, Value.int a1), (3, Value.int a2), (4, Value.int a3), (5, Value.int a4)]) rfl ?_
  refine i_231_181 (x := 128) rfl ?_
  refine i_231_182 (v := Value.ref 156) hw17 rfl ?_
  refine i_231_185 (x := a23) rfl ?_
  refine i_231_187z (v := Value.int 0) hw21 e101 e102 rfl ?_
  refine i_231_188 (x := 128) rfl ?_
  refine i_231_189 (v := Value.ref 156) hw17 rfl ?_
  refine i_231_192 (x := a24) rfl ?_
  refine i_231_194z (v := Value.int 0) hw21 e103 e104 rfl ?_
  refine i_231_195 (fun _ => ?_) (fun h => absurd h (by decide))
  refine i_231_202 ?_
  refine i_231_203 (lv2 := [(16, Value.int 0), (15, Value.int 0), (14, Value.int 0), (9, Value.int 1), (13, Value.int a24), (12, Value.int a23), (11, Value.int 9), (6, Value.int (-128)), (8, Value.int 0), (7, Value.int 0), (10, Value.int 0), (0, Value.ref 128), (1, Value.int a0), (2, Value.int a1), (3, Value.int a2), (4, Value.int a3), (5, Value.int a4)]) rfl ?_
  refine i_231_205 (x := 0) rfl ?_
  refine i_231_207 (x := 0) rfl ?_
  refine i_231_209 (fun _ => ?_) (fun h => absurd h (by decide))
  refine i_231_221 ?_
  refine i_231_222 (c := 0) (by decide) ?_
  refine i_231_223 (lv2 := [(10, Value.int 0), (16, Value.int 0), (15, Value.int 0), (14, Value.int 0), (9, Value.int 1), (13, Value.int a24), (12, Value.int a23), (11, Value.int 9), (6, Value.int (-128)), (8, Value.int 0), (7, Value.int 0), (0, Value.ref 128), (1, Value.int a0), (2, Value.int a1), (3, Value.int a2), (4, Value.int a3), (5, Value.int a4)]) rfl ?_
  refine i_231_225 (x := 0) rfl ?_
  refine i_231_227 (x := 0) rfl ?_
  refine i_231_229 (fun _ => ?_) (fun h => absurd h (by decide))
  refine i_231_241 ?_
  refine i_231_242 (c := 0) (by decide) ?_
  refine i_231_243 (lv2 := [(7, Value.int 0), (10, Value.int 0), (16, Value.int 0), (15, Value.int 0), (14, Value.int 0), (9, Value.int 1), (13, Value.int a24), (12, Value.int a23), (11, Value.int 9), (6, Value.int (-128)), (8, Value.int 0), (0, Value.ref 128), (1, Value.int a0), (2, Value.int a1), (3, Value.int a2), (4, Value.int a3), (5, Value.int a4)]) rfl ?_
  refine i_231_245 (x := 0) rfl ?_
  refine i_231_247 (x := 0) rfl ?_
  refine i_231_249 (fun _ => ?_) (fun h => absurd h (by decide))
  refine i_231_261 ?_
  refine i_231_262 (c := 0) (by decide) ?_
  refine i_231_263 (lv2 := [(8, Value.int 0), (7, Value.int 0), (10, Value.int 0), (16, Value.int 0), (15, Value.int 0), (14, Value.int 0), (9, Value.int 1), (13, Value.int a24), (12, Value.int a23), (11, Value.int 9), (6, Value.int (-128)), (0, Value.ref 128), (1, Value.int a0), (2, Value.int a1), (3, Value.int a2), (4, Value.int a3), (5, Value.int a4)]) rfl ?_
  refine i_231_265 (x := 0) rfl ?_
  refine i_231_267 (fun h => absurd h (by decide)) (fun _ => ?_)
  refine i_231_270 (x := 0) rfl ?_
  refine i_231_272 (fun h => absurd h (by decide)) (fun _ => ?_)
  refine i_231_275 (x := (-128)) rfl ?_
  refine i_231_277 (x := 128) rfl ?_
  refine i_231_278 (x := a23) rfl ?_
  refine i_231_280 hw17 (Nat.le_of_ble_eq_true rfl) (p_196_0 hw17 hw22 e101 e102 hw23 hg105) ?_
  refine i_231_283 (x := 128) rfl ?_
  refine i_231_284 (x := a24) rfl ?_
  refine i_231_286 hw17 (Nat.le_of_ble_eq_true rfl) (p_196_0 hw17 hw22 e103 e104 hw23 hg106) ?_
  refine i_231_289 (c := (-128)) (by decide) ?_
  refine i_231_290 (Nat.le_of_ble_eq_true rfl) (p_272_1) ?_
  refine i_231_293 (lv2 := [(6, Value.int (-128)), (8, Value.int 0), (7, Value.int 0), (10, Value.int 0), (16, Value.int 0), (15, Value.int 0), (14, Value.int 0), (9, Value.int 1), (13, Value.int a24), (12, Value.int a23), (11, Value.int 9), (0, Value.ref 128), (1, Value.int a0), (2, Value.int a1), (3, Value.int a2), (4, Value.int a3), (5, Value.int a4)]) rfl ?_
  refine i_231_295 (x := 9) (c := 10) (lv2 := [(11, Value.int 10), (6, Value.int (-128)), (8, Value.int 0), (7, Value.int 0), (10, Value.int 0), (16, Value.int 0), (15, Value.int 0), (14, Value.int 0), (9, Value.int 1), (13, Value.int a24), (12, Value.int a23), (0, Value.ref 128), (1, Value.int a0), (2, Value.int a1), (3, Value.int a2), (4, Value.int a3), (5, Value.int a4)]) rfl (by decide) rfl ?_
  refine i_231_298 ?_
  refine i_231_74 (x := 10) rfl ?_
  refine i_231_76 (x := a3) rfl ?_
  refine i_231_78 (fun h => absurd e107 (Int.not_lt.mpr h)) (fun _ => ?_)
  refine i_231_81 (x := a1) rfl ?_
  refine i_231_82 (x := 10) rfl ?_
  refine i_231_84 (c := a25) hg108 ?_
  refine i_231_85 (lv2 := [(12, Value.int a25), (11, Value.int 10), (6, Value.int (-128)), (8, Value.int 0), (7, Value.int 0), (10, Value.int 0), (16, Value.int 0), (15, Value.int 0), (14, Value.int 0), (9, Value.int 1), (13, Value.int a24), (0, Value.ref 128), (1, Value.int a0), (2, Value.int a1), (3, Value.int a2), (4, Value.int a3), (5, Value.int a4)]) rfl ?_
  refine i_231_87 (x := a2) rfl ?_
  refine i_231_88 (x := 10) rfl ?_
  refine i_231_90 (c := a26) hg109 ?_
  refine i_231_91 (lv2 := [(13, Value.int a26), (12, Value.int a25), (11, Value.int 10), (6, Value.int (-128)), (8, Value.int 0), (7, Value.int 0), (10, Value.int 0), (16, Value.int 0), (15, Value.int 0), (14, Value.int 0), (9, Value.int 1), (0, Value.ref 128), (1, Value.int a0), (2, Value.int a1), (3, Value.int a2), (4, Value.int a3), (5, Value.int a4)]) rfl ?_
  refine i_231_93 (x := 1) rfl ?_
  refine i_231_95 (x := 128) rfl ?_
  refine i_231_96 (v := Value.ref 154) hw17 rfl ?_
  refine i_231_99 (x := a25) rfl ?_
  refine i_231_101 (v := Value.int 0) hw18 e110 e111 rfl ?_
  refine i_231_102 (fun _ => ?_) (fun h => absurd h (by decide))
  refine i_231_115 ?_
  refine i_231_116 ?_
  refine i_231_120 (c := 1) (by decide) ?_
  refine i_231_121 (lv2 := [(9, Value.int 1), (13, Value.int a26), (12, Value.int a25), (11, Value.int 10), (6, Value.int (-128)), (8, Value.int 0), (7, Value.int 0), (10, Value.int 0), (16, Value.int 0), (15, Value.int 0), (14, Value.int 0), (0, Value.ref 128), (1, Value.int a0), (2, Value.int a1), (3, Value.int a2), (4, Value.int a3), (5, Value.int a4)]) rfl ?_
  refine i_231_123 (x := 128) rfl ?_
  refine i_231_124 (v := Value.ref 154) hw17 rfl ?_
  refine i_231_127 (x := a25) rfl ?_
  refine i_231_129 (v := Value.int 0) hw18 e110 e111 rfl ?_
  refine i_231_130 ?_
  refine i_231_131 (fun h => absurd h (by decide)) (fun _ => ?_)
  refine i_231_134 (x := 128) rfl ?_
  refine i_231_135 (v := Value.ref 154) hw17 rfl ?_
  refine i_231_138 (x := a26) rfl ?_
  refine i_231_140 (v := Value.int 0) hw18 e112 e113 rfl ?_
  refine i_231_141 ?_
  refine i_231_142 (fun _ => ?_) (fun h => absurd h (by decide))
  refine i_231_149 ?_
  refine i_231_150 (lv2 := [(14, Value.int 0), (9, Value.int 1), (13, Value.int a26), (12, Value.int a25), (11, Value.int 10), (6, Value.int (-128)), (8, Value.int 0), (7, Value.int 0), (10, Value.int 0), (16, Value.int 0), (15, Value.int 0), (0, Value.ref 128), (1, Value.int a0), (2, Value.int a1), (3, Value.int a2), (4, Value.int a3), (5, Value.int a4)]) rfl ?_
  refine i_231_152 (x := 128) rfl ?_
  refine i_231_153 (v := Value.ref 154) hw17 rfl ?_
  refine i_231_156 (x := a25) rfl ?_
  refine i_231_158 (v := Value.int 0) hw18 e110 e111 rfl ?_
  refine i_231_159 ?_
  refine i_231_160 (fun h => absurd h (by decide)) (fun _ => ?_)
  refine i_231_163 (x := 128) rfl ?_
  refine i_231_164 (v := Value.ref 154) hw17 rfl ?_
  refine i_231_167 (x := a26) rfl ?_
  refine i_231_169 (v := Value.int 0) hw18 e112 e113 rfl ?_
  refine i_231_170 ?_
  refine i_231_171 (fun _ => ?_) (fun h => absurd h (by decide))
  refine i_231_178 ?_
  refine i_231_179 (lv2 := [(15, Value.int 0), (14, Value.int 0), (9, Value.int 1), (13, Value.int a26), (12, Value.int a25), (11, Value.int 10), (6, Value.int (-128)), (8, Value.int 0), (7, Value.int 0), (10, Value.int 0), (16, Value.int 0), (0, Value.ref 128), (1, Value.int a0), (2, Value.int a1), (3, Value.int a2), (4, Value.int a3), (5, Value.int a4)]) rfl ?_
  refine i_231_181 (x := 128) rfl ?_
  refine i_231_182 (v := Value.ref 156) hw17 rfl ?_
  refine i_231_185 (x := a25) rfl ?_
  refine i_231_187z (v := Value.int 0) hw21 e110 e111 rfl ?_
  refine i_231_188 (x := 128) rfl ?_
  refine i_231_189 (v := Value.ref 156) hw17 rfl ?_
  refine i_231_192 (x := a26) rfl ?_
  refine i_231_194z (v := Value.int 0) hw21 e112 e113 rfl ?_
  refine i_231_195 (fun _ => ?_) (fun h => absurd h (by decide))
  refine i_231_202 ?_
  refine i_231_203 (lv2 := [(16, Value.int 0), (15, Value.int 0), (14, Value.int 0), (9, Value.int 1), (13, Value.int a26), (12, Value.int a25), (11, Value.int 10), (6, Value.int (-128)), (8, Value.int 0), (7, Value.int 0), (10, Value.int 0), (0, Value.ref 128), (1, Value.int a0), (2, Value.int a1), (3, Value.int a2), (4, Value.int a3), (5, Value.int a4)]) rfl ?_
  refine i_231_205 (x := 0) rfl ?_
  refine i_231_207 (x := 0) rfl ?_
  refine i_231_209 (fun _ => ?_) (fun h => absurd h (by decide))
  refine i_231_221 ?_
  refine i_231_222 (c := 0) (by decide) ?_
  refine i_231_223 (lv2 := [(10, Value.int 0), (16, Value.int 0), (15, Value.int 0), (14, Value.int 0), (9, Value.int 1), (13, Value.int a26), (12, Value.int a25), (11, Value.int 10), (6, Value.int (-128)), (8, Value.int 0), (7, Value.int 0), (0, Value.ref 128), (1, Value.int a0), (2, Value.int a1), (3, Value.int a2), (4, Value.int a3), (5, Value.int a4)]) rfl ?_
  refine i_231_225 (x := 0) rfl ?_
  refine i_231_227 (x := 0) rfl ?_
  refine i_231_229 (fun _ => ?_) (fun h => absurd h (by decide))
  refine i_231_241 ?_
  refine i_231_242 (c := 0) (by decide) ?_
  refine i_231_243 (lv2 := [(7, Value.int 0), (10, Value.int 0), (16, Value.int 0), (15, Value.int 0), (14, Value.int 0), (9, Value.int 1), (13, Value.int a26), (12, Value.int a25), (11, Value.int 10), (6, Value.int (-128)), (8, Value.int 0), (0, Value.ref 128), (1, Value.int a0), (2, Value.int a1), (3, Value.int a2), (4, Value.int a3), (5, Value.int a4)]) rfl ?_
  refine i_231_245 (x := 0) rfl ?_
  refine i_231_247 (x := 0) rfl ?_
  refine i_231_249 (fun _ => ?_) (fun h => absurd h (by decide))
  refine i_231_261 ?_
  refine i_231_262 (c := 0) (by decide) ?_
  refine i_231_263 (lv2 := [(8, Value.int 0), (7, Value.int 0), (10, Value.int 0), (16, Value.int 0), (15, Value.int 0), (14, Value.int 0), (9, Value.int 1), (13, Value.int a26), (12, Value.int a25), (11, Value.int 10), (6, Value.int (-128)), (0, Value.ref 128), (1, Value.int a0), (2, Value.int a1), (3, Value.int a2), (4, Value.int a3), (5, Value.int a4)]) rfl ?_
  refine i_231_265 (x := 0) rfl ?_
  refine i_231_267 (fun h => absurd h (by decide)) (fun _ => ?_)
  refine i_231_270 (x := 0) rfl ?_
  refine i_231_272 (fun h => absurd h (by decide)) (fun _ => ?_)
  refine i_231_275 (x := (-128)) rfl ?_
  refine i_231_277 (x := 128) rfl ?_
  refine i_231_278 (x := a25) rfl ?_
  refine i_231_280 hw17 (Nat.le_of_ble_eq_true rfl) (p_196_0 hw17 hw22 e110 e111 hw23 hg114) ?_
  refine i_231_283 (x := 128) rfl ?_
  refine i_231_284 (x := a26) rfl ?_
  refine i_231_286 hw17 (Nat.le_of_ble_eq_true rfl) (p_196_0 hw17 hw22 e112 e113 hw23 hg115) ?_
  refine i_231_289 (c := (-128)) (by decide) ?_
  refine i_231_290 (Nat.le_of_ble_eq_true rfl) (p_272_1) ?_
  refine i_231_293 (lv2 := [(6, Value.int (-128)), (8, Value.int 0), (7, Value.int 0), (10, Value.int 0), (16, Value.int 0), (15, Value.int 0), (14, Value.int 0), (9, Value.int 1), (13, Value.int a26), (12, Value.int a25), (11, Value.int 10), (0, Value.ref 128), (1, Value.int a0), (2, Value.int a1), (3, Value.int a2), (4, Value.int a3), (5, Value.int a4)]) rfl ?_
  refine i_231_295 (x := 10) (c := 11) (lv2 := [(11, Value.int 11), (6, Value.int (-128)), (8, Value.int 0), (7, Value.int 0), (10, Value.int 0), (16, Value.int 0), (15, Value.int 0), (14, Value.int 0), (9, Value.int 1), (13, Value.int a26), (12, Value.int a25), (0, Value.ref 128), (1, Value.int a0), (2, Value.int a1), (3, Value.int a2), (4, Value.int a3), (5, Value.int a4)]) rfl (by decide) rfl ?_
  refine i_231_298 ?_
  refine i_231_74 (x := 11) rfl ?_
  refine i_231_76 (x := a3) rfl ?_
  refine i_231_78 (fun h => absurd e116 (Int.not_lt.mpr h)) (fun _ => ?_)
  refine i_231_81 (x := a1) rfl ?_
  refine i_231_82 (x := 11) rfl ?_
  refine i_231_84 (c := a27) hg117 ?_
  refine i_231_85 (lv2 := [(12, Value.int a27), (11, Value.int 11), (6, Value.int (-128)), (8, Value.int 0), (7, Value.int 0), (10, Value.int 0), (16, Value.int 0), (15, Value.int 0), (14, Value.int 0), (9, Value.int 1), (13, Value.int a26), (0, Value.ref 128), (1, Value.int a0), (2, Value.int a1), (3, Value.int a2), (4, Value.int a3), (5, Value.int a4)]) rfl ?_
  refine i_231_87 (x := a2) rfl ?_
  refine i_231_88 (x := 11) rfl ?_
  refine i_231_90 (c := a28) hg118 ?_
  refine i_231_91 (lv2 := [(13, Value.int a28), (12, Value.int a27), (11, Value.int 11), (6, Value.int (-128)), (8, Value.int 0), (7, Value.int 0), (10, Value.int 0), (16, Value.int 0), (15, Value.int 0), (14, Value.int 0), (9, Value.int 1), (0, Value.ref 128), (1, Value.int a0), (2, Value.int a1), (3, Value.int a2), (4, Value.int a3), (5, Value.int a4)]) rfl ?_
  refine i_231_93 (x := 1) rfl ?_
  refine i_231_95 (x := 128) rfl ?_
  refine i_231_96 (v := Value.ref 154) hw17 rfl ?_
  refine i_231_99 (x := a27) rfl ?_
  refine i_231_101 (v := Value.int 0) hw18 e119 e120 rfl ?_
  refine i_231_102 (fun _ => ?_) (fun h => absurd h (by decide))
  refine i_231_115 ?_
  refine i_231_116 ?_
  refine i_231_120 (c := 1) (by decide) ?_
  refine i_231_121 (lv2 := [(9, Value.int 1), (13, Value.int a28), (12, Value.int a27), (11, Value.int 11), (6, Value.int (-128)), (8, Value.int 0), (7, Value.int 0), (10, Value.int 0), (16, Value.int 0), (15, Value.int 0), (14, Value.int 0), (0, Value.ref 128), (1, Value.int a0), (2, Value.int a1), (3, Value.int a2), (4, Value.int a3), (5, Value.int a4)]) rfl ?_
  refine i_231_123 (x := 128) rfl ?_
  refine i_231_124 (v := Value.ref 154) hw17 rfl ?_
  refine i_231_127 (x := a27) rfl ?_
  refine i_231_129 (v := Value.int 0) hw18 e119 e120 rfl ?_
  refine i_231_130 ?_
  refine i_231_131 (fun h => absurd h (by decide)) (fun _ => ?_)
  refine i_231_134 (x := 128) rfl ?_
  refine i_231_135 (v := Value.ref 154) hw17 rfl ?_
  refine i_231_138 (x := a28) rfl ?_
  refine i_231_140 (v := Value.int 0) hw18 e121 e122 rfl ?_
  refine i_231_141 ?_
  refine i_231_142 (fun _ => ?_) (fun h => absurd h (by decide))
  refine i_231_149 ?_
  refine i_231_150 (lv2 := [(14, Value.int 0), (9, Value.int 1), (13, Value.int a28), (12, Value.int a27), (11, Value.int 11), (6, Value.int (-128)), (8, Value.int 0), (7, Value.int 0), (10, Value.int 0), (16, Value.int 0), (15, Value.int 0), (0, Value.ref 128), (1, Value.int a0), (2, Value.int a1), (3, Value.int a2), (4, Value.int a3), (5, Value.int a4)]) rfl ?_
  refine i_231_152 (x := 128) rfl ?_
  refine i_231_153 (v := Value.ref 154) hw17 rfl ?_
  refine i_231_156 (x := a27) rfl ?_
  refine i_231_158 (v := Value.int 0) hw18 e119 e120 rfl ?_
  refine i_231_159 ?_
  refine i_231_160 (fun h => absurd h (by decide)) (fun _ => ?_)
  refine i_231_163 (x := 128) rfl ?_
  refine i_231_164 (v := Value.ref 154) hw17 rfl ?_
  refine i_231_167 (x := a28) rfl ?_
  refine i_231_169 (v := Value.int 0) hw18 e121 e122 rfl ?_
  refine i_231_170 ?_
  refine i_231_171 (fun _ => ?_) (fun h => absurd h (by decide))
  refine i_231_178 ?_
  refine i_231_179 (lv2 := [(15, Value.int 0), (14, Value.int 0), (9, Value.int 1), (13, Value.int a28), (12, Value.int a27), (11, Value.int 11), (6, Value.int (-128)), (8, Value.int 0), (7, Value.int 0), (10, Value.int 0), (16, Value.int 0), (0, Value.ref 128), (1, Value.int a0), (2, Value.int a1), (3, Value.int a2), (4, Value.int a3), (5, Value.int a4)]) rfl ?_
  refine i_231_181 (x := 128) rfl ?_
  refine i_231_182 (v := Value.ref 156) hw17 rfl ?_
  refine i_231_185 (x := a27) rfl ?_
  refine i_231_187z (v := Value.int 0) hw21 e119 e120 rfl ?_
  refine i_231_188 (x := 128) rfl ?_
  refine i_231_189 (v := Value.ref 156) hw17 rfl ?_
  refine i_231_192 (x := a28) rfl ?_
  refine i_231_194z (v := Value.int 0) hw21 e121 e122 rfl ?_
  refine i_231_195 (fun _ => ?_) (fun h => absurd h (by decide))
  refine i_231_202 ?_
  refine i_231_203 (lv2 := [(16, Value.int 0), (15, Value.int 0), (14, Value.int 0), (9, Value.int 1), (13, Value.int a28), (12, Value.int a27), (11, Value.int 11), (6, Value.int (-128)), (8, Value.int 0), (7, Value.int 0), (10, Value.int 0), (0, Value.ref 128), (1, Value.int a0), (2, Value.int a1), (3, Value.int a2), (4, Value.int a3), (5, Value.int a4)]) rfl ?_
  refine i_231_205 (x := 0) rfl ?_
  refine i_231_207 (x := 0) rfl ?_
  refine i_231_209 (fun _ => ?_) (fun h => absurd h (by decide))
  refine i_231_221 ?_
  refine i_231_222 (c := 0) (by decide) ?_
  refine i_231_223 (lv2 := [(10, Value.int 0), (16, Value.int 0), (15, Value.int 0), (14, Value.int 0), (9, Value.int 1), (13, Value.int a28), (12, Value.int a27), (11, Value.int 11), (6, Value.int (-128)), (8, Value.int 0), (7, Value.int 0), (0, Value.ref 128), (1, Value.int a0), (2, Value.int a1), (3, Value.int a2), (4, Value.int a3), (5, Value.int a4)]) rfl ?_
  refine i_231_225 (x := 0) rfl ?_
  refine i_231_227 (x := 0) rfl ?_
  refine i_231_229 (fun _ => ?_) (fun h => absurd h (by decide))
  refine i_231_241 ?_
  refine i_231_242 (c := 0) (by decide) ?_
  refine i_231_243 (lv2 := [(7, Value.int 0), (10, Value.int 0), (16, Value.int 0), (15, Value.int 0), (14, Value.int 0), (9, Value.int 1), (13, Value.int a28), (12, Value.int a27), (11, Value.int 11), (6, Value.int (-128)), (8, Value.int 0), (0, Value.ref 128), (1, Value.int a0), (2, Value.int a1), (3, Value.int a2), (4, Value.int a3), (5, Value.int a4)]) rfl ?_
  refine i_231_245 (x := 0) rfl ?_
  refine i_231_247 (x := 0) rfl ?_
  refine i_231_249 (fun _ => ?_) (fun h => absurd h (by decide))
  refine i_231_261 ?_
  refine i_231_262 (c := 0) (by decide) ?_
  refine i_231_263 (lv2 := [(8, Value.int 0), (7, Value.int 0), (10, Value.int 0), (16, Value.int 0), (15, Value.int 0), (14, Value.int 0), (9, Value.int 1), (13, Value.int a28), (12, Value.int a27), (11, Value.int 11), (6, Value.int (-128)), (0, Value.ref 128), (1, Value.int a0), (2, Value.int a1), (3, Value.int a2), (4, Value.int a3), (5, Value.int a4)]) rfl ?_
  refine i_231_265 (x := 0) rfl ?_
  refine i_231_267 (fun h => absurd h (by decide)) (fun _ => ?_)
  refine i_231_270 (x := 0) rfl ?_
  refine i_231_272 (fun h => absurd h (by decide)) (fun _ => ?_)
  refine i_231_275 (x := (-128)) rfl ?_
  refine i_231_277 (x := 128) rfl ?_
  refine i_231_278 (x := a27) rfl ?_
  refine i_231_280 hw17 (Nat.le_of_ble_eq_true rfl) (p_196_0 hw17 hw22 e119 e120 hw23 hg123) ?_
  refine i_231_283 (x := 128) rfl ?_
  refine i_231_284 (x := a28) rfl ?_
  refine i_231_286 hw17 (Nat.le_of_ble_eq_true rfl) (p_196_0 hw17 hw22 e121 e122 hw23 hg124) ?_
  refine i_231_289 (c := (-128)) (by decide) ?_
  refine i_231_290 (Nat.le_of_ble_eq_true rfl) (p_272_1) ?_
  refine i_231_293 (lv2 := [(6, Value.int (-128)), (8, Value.int 0), (7, Value.int 0), (10, Value.int 0), (16, Value.int 0), (15, Value.int 0), (14, Value.int 0), (9, Value.int 1), (13, Value.int a28), (12, Value.int a27), (11, Value.int 11), (0, Value.ref 128), (1, Value.int a0), (2, Value.int a1), (3, Value.int a2), (4, Value.int a3), (5, Value.int a4)]) rfl ?_
  refine i_231_295 (x := 11) (c := 12) (lv2 := [(11, Value.int 12), (6, Value.int (-128)), (8, Value.int 0), (7, Value.int 0), (10, Value.int 0), (16, Value.int 0), (15, Value.int 0), (14, Value.int 0), (9, Value.int 1), (13, Value.int a28), (12, Value.int a27), (0, Value.ref 128), (1, Value.int a0), (2, Value.int a1), (3, Value.int a2), (4, Value.int a3), (5, Value.int a4)]) rfl (by decide) rfl ?_
  refine i_231_298 ?_
  refine i_231_74 (x := 12) rfl ?_
  refine i_231_76 (x := a3) rfl ?_
  refine i_231_78 (fun h => absurd e125 (Int.not_lt.mpr h)) (fun _ => ?_)
  refine i_231_81 (x := a1) rfl ?_
  refine i_231_82 (x := 12) rfl ?_
  refine i_231_84 (c := a29) hg126 ?_
  refine i_231_85 (lv2 := [(12, Value.int a29), (11, Value.int 12), (6, Value.int (-128)), (8, Value.int 0), (7, Value.int 0), (10, Value.int 0), (16, Value.int 0), (15, Value.int 0), (14, Value.int 0), (9, Value.int 1), (13, Value.int a28), (0, Value.ref 128), (1, Value.int a0), (2, Value.int a1), (3, Value.int a2), (4, Value.int a3), (5, Value.int a4)]) rfl ?_
  refine i_231_87 (x := a2) rfl ?_
  refine i_231_88 (x := 12) rfl ?_
  refine i_231_90 (c := a30) hg127 ?_
  refine i_231_91 (lv2 := [(13, Value.int a30), (12, Value.int a29), (11, Value.int 12), (6, Value.int (-128)), (8, Value.int 0), (7, Value.int 0), (10, Value.int 0), (16, Value.int 0), (15, Value.int 0), (14, Value.int 0), (9, Value.int 1), (0, Value.ref 128), (1, Value.int a0), (2, Value.int a1), (3, Value.int a2), (4, Value.int a3), (5, Value.int a4)]) rfl ?_
  refine i_231_93 (x := 1) rfl ?_
  refine i_231_95 (x := 128) rfl ?_
  refine i_231_96 (v := Value.ref 154) hw17 rfl ?_
  refine i_231_99 (x := a29) rfl ?_
  refine i_231_101 (v := Value.int 0) hw18 e128 e129 rfl ?_
  refine i_231_102 (fun _ => ?_) (fun h => absurd h (by decide))
  refine i_231_115 ?_
  refine i_231_116 ?_
  refine i_231_120 (c := 1) (by decide) ?_
  refine i_231_121 (lv2 := [(9, Value.int 1), (13, Value.int a30), (12, Value.int a29), (11, Value.int 12), (6, Value.int (-128)), (8, Value.int 0), (7, Value.int 0), (10, Value.int 0), (16, Value.int 0), (15, Value.int 0), (14, Value.int 0), (0, Value.ref 128), (1, Value.int a0), (2, Value.int a1), (3, Value.int a2), (4, Value.int a3), (5, Value.int a4)]) rfl ?_
  refine i_231_123 (x := 128) rfl ?_
  refine i_231_124 (v := Value.ref 154) hw17 rfl ?_
  refine i_231_127 (x := a29) rfl ?_
  refine i_231_129 (v := Value.int 0) hw18 e128 e129 rfl ?_
  refine i_231_130 ?_
  refine i_231_131 (fun h => absurd h (by decide)) (fun _ => ?_)
  refine i_231_134 (x := 128) rfl ?_
  refine i_231_135 (v := Value.ref 154) hw17 rfl ?_
  refine i_231_138 (x := a30) rfl ?_
  refine i_231_140 (v := Value.int 0) hw18 e130 e131 rfl ?_
  refine i_231_141 ?_
  refine i_231_142 (fun _ => ?_) (fun h => absurd h (by decide))
  refine i_231_149 ?_
  refine i_231_150 (lv2 := [(14, Value.int 0), (9, Value.int 1), (13, Value.int a30), (12, Value.int a29), (11, Value.int 12), (6, Value.int (-128)), (8, Value.int 0), (7, Value.int 0), (10, Value.int 0), (16, Value.int 0), (15, Value.int 0), (0, Value.ref 128), (1, Value.int a0), (2, Value.int a1), (3, Value.int a2), (4, Value.int a3), (5, Value.int a4)]) rfl ?_
  refine i_231_152 (x := 128) rfl ?_
  refine i_231_153 (v := Value.ref 154) hw17 rfl ?_
  refine i_231_156 (x := a29) rfl ?_
  refine i_231_158 (v := Value.int 0) hw18 e128 e129 rfl ?_
  refine i_231_159 ?_
  refine i_231_160 (fun h => absurd h (by decide)) (fun _ => ?_)
  refine i_231_163 (x := 128) rfl ?_
  refine i_231_164 (v := Value.ref 154) hw17 rfl ?_
  refine i_231_167 (x := a30) rfl ?_
  refine i_231_169 (v := Value.int 0) hw18 e130 e131 rfl ?_
  refine i_231_170 ?_
  refine i_231_171 (fun _ => ?_) (fun h => absurd h (by decide))
  refine i_231_178 ?_
  refine i_231_179 (lv2 := [(15, Value.int 0), (14, Value.int 0), (9, Value.int 1), (13, Value.int a30), (12, Value.int a29), (11, Value.int 12), (6, Value.int (-128)), (8, Value.int 0), (7, Value.int 0), (10, Value.int 0), (16, Value.int 0), (0, Value.ref 128), (1, Value.int a0), (2, Value.int a1), (3, Value.int a2), (4, Value.int a3), (5, Value.int a4)]) rfl ?_
  refine i_231_181 (x := 128) rfl ?_
  refine i_231_182 (v := Value.ref 156) hw17 rfl ?_
  refine i_231_185 (x := a29) rfl ?_
  refine i_231_187z (v := Value.int 0) hw21 e128 e129 rfl ?_
  refine i_231_188 (x := 128) rfl ?_
  refine i_231_189 (v := Value.ref 156) hw17 rfl ?_
  refine i_231_192 (x := a30) rfl ?_
  refine i_231_194z (v := Value.int 0) hw21 e130 e131 rfl ?_
  refine i_231_195 (fun _ => ?_) (fun h => absurd h (by decide))
  refine i_231_202 ?_
  refine i_231_203 (lv2 := [(16, Value.int 0), (15, Value.int 0), (14, Value.int 0), (9, Value.int 1), (13, Value.int a30), (12, Value.int a29), (11, Value.int 12), (6, Value.int (-128)), (8, Value.int 0), (7, Value.int 0), (10, Value.int 0), (0, Value.ref 128), (1, Value.int a0), (2, Value.int a1), (3, Value.int a2), (4, Value.int a3), (5, Value.int a4)]) rfl ?_
  refine i_231_205 (x := 0) rfl ?_
  refine i_231_207 (x := 0) rfl ?_
  refine i_231_209 (fun _ => ?_) (fun h => absurd h (by decide))
  refine i_231_221 ?_
  refine i_231_222 (c := 0) (by decide) ?_
  refine i_231_223 (lv2 := [(10, Value.int 0), (16, Value.int 0), (15, Value.int 0), (14, Value.int 0), (9, Value.int 1), (13, Value.int a30), (12, Value.int a29), (11, Value.int 12), (6, Value.int (-128)), (8, Value.int 0), (7, Value.int 0), (0, Value.ref 128), (1, Value.int a0), (2, Value.int a1), (3, Value.int a2), (4, Value.int a3), (5, Value.int a4)]) rfl ?_
  refine i_231_225 (x := 0) rfl ?_
  refine i_231_227 (x := 0) rfl ?_
  refine i_231_229 (fun _ => ?_) (fun h => absurd h (by decide))
  refine i_231_241 ?_
  refine i_231_242 (c := 0) (by decide) ?_
  refine i_231_243 (lv2 := [(7, Value.int 0), (10, Value.int 0), (16, Value.int 0), (15, Value.int 0), (14, Value.int 0), (9, Value.int 1), (13, Value.int a30), (12, Value.int a29), (11, Value.int 12), (6, Value.int (-128)), (8, Value.int 0), (0, Value.ref 128), (1, Value.int a0), (2, Value.int a1), (3, Value.int a2), (4, Value.int a3), (5, Value.int a4)]) rfl ?_
  refine i_231_245 (x := 0) rfl ?_
  refine i_231_247 (x := 0) rfl ?_
  refine i_231_249 (fun _ => ?_) (fun h => absurd h (by decide))
  refine i_231_261 ?_
  refine i_231_262 (c := 0) (by decide) ?_
  refine i_231_263 (lv2 := [(8, Value.int 0), (7, Value.int 0), (10, Value.int 0), (16, Value.int 0), (15, Value.int 0), (14, Value.int 0), (9, Value.int 1), (13, Value.int a30), (12, Value.int a29), (11, Value.int 12), (6, Value.int (-128)), (0, Value.ref 128), (1, Value.int a0), (2, Value.int a1), (3, Value.int a2), (4, Value.int a3), (5, Value.int a4)]) rfl ?_
  refine i_231_265 (x := 0) rfl ?_
  refine i_231_267 (fun h => absurd h (by decide)) (fun _ => ?_)
  refine i_231_270 (x := 0) rfl ?_
  refine i_231_272 (fun h => absurd h (by decide)) (fun _ => ?_)
  refine i_231_275 (x := (-128)) rfl ?_
  refine i_231_277 (x := 128) rfl ?_
  refine i_231_278 (x := a29) rfl ?_
  refine i_231_280 hw17 (Nat.le_of_ble_eq_true rfl) (p_196_0 hw17 hw22 e128 e129 hw23 hg132) ?_
  refine i_231_283 (x := 128) rfl ?_
  refine i_231_284 (x := a30) rfl ?_
  refine i_231_286 hw17 (Nat.le_of_ble_eq_true rfl) (p_196_0 hw17 hw22 e130 e131 hw23 hg133) ?_
  refine i_231_289 (c := (-128)) (by decide) ?_
  refine i_231_290 (Nat.le_of_ble_eq_true rfl) (p_272_1) ?_
  refine i_231_293 (lv2 := [(6, Value.int (-128)), (8, Value.int 0), (7, Value.int 0), (10, Value.int 0), (16, Value.int 0), (15, Value.int 0), (14, Value.int 0), (9, Value.int 1), (13, Value.int a30), (12, Value.int a29), (11, Value.int 12), (0, Value.ref 128), (1, Value.int a0), (2, Value.int a1), (3, Value.int a2), (4, Value.int a3), (5, Value.int a4)]) rfl ?_
  refine i_231_295 (x := 12) (c := 13) (lv2 := [(11, Value.int 13), (6, Value.int (-128)), (8, Value.int 0), (7, Value.int 0), (10, Value.int 0), (16, Value.int 0), (15, Value.int 0), (14, Value.int 0), (9, Value.int 1), (13, Value.int a30), (12, Value.int a29), (0, Value.ref 128), (1, Value.int a0), (2, Value.int a1), (3, Value.int a2), (4, Value.int a3), (5, Value.int a4)]) rfl (by decide) rfl ?_
  refine i_231_298 ?_
  refine i_231_74 (x := 13) rfl ?_
  refine i_231_76 (x := a3) rfl ?_
  refine i_231_78 (fun h => absurd e134 (Int.not_lt.mpr h)) (fun _ => ?_)
  refine i_231_81 (x := a1) rfl ?_
  refine i_231_82 (x := 13) rfl ?_
  refine i_231_84 (c := a31) hg135 ?_
  refine i_231_85 (lv2 := [(12, Value.int a31), (11, Value.int 13), (6, Value.int (-128)), (8, Value.int 0), (7, Value.int 0), (10, Value.int 0), (16, Value.int 0), (15, Value.int 0), (14, Value.int 0), (9, Value.int 1), (13, Value.int a30), (0, Value.ref 128), (1, Value.int a0), (2, Value.int a1), (3, Value.int a2), (4, Value.int a3), (5, Value.int a4)]) rfl ?_
  refine i_231_87 (x := a2) rfl ?_
  refine i_231_88 (x := 13) rfl ?_
  refine i_231_90 (c := a32) hg136 ?_
  refine i_231_91 (lv2 := [(13, Value.int a32), (12, Value.int a31), (11, Value.int 13), (6, Value.int (-128)), (8, Value.int 0), (7, Value.int 0), (10, Value.int 0), (16, Value.int 0), (15, Value.int 0), (14, Value.int 0), (9, Value.int 1), (0, Value.ref 128), (1, Value.int a0), (2, Value.int a1), (3, Value.int a2), (4, Value.int a3), (5, Value.int a4)]) rfl ?_
  refine i_231_93 (x := 1) rfl ?_
  refine i_231_95 (x := 128) rfl ?_
  refine i_231_96 (v := Value.ref 154) hw17 rfl ?_
  refine i_231_99 (x := a31) rfl ?_
  refine i_231_101 (v := Value.int 0) hw18 e137 e138 rfl ?_
  refine i_231_102 (fun _ => ?_) (fun h => absurd h (by decide))
  refine i_231_115 ?_
  refine i_231_116 ?_
  refine i_231_120 (c := 1) (by decide) ?_
  refine i_231_121 (lv2 := [(9, Value.int 1), (13, Value.int a32), (12, Value.int a31), (11, Value.int 13), (6, Value.int (-128)), (8, Value.int 0), (7, Value.int 0), (10, Value.int 0), (16, Value.int 0), (15, Value.int 0), (14, Value.int 0), (0, Value.ref 128), (1, Value.int a0), (2, Value.int a1), (3, Value.int a2), (4, Value.int a3), (5, Value.int a4)]) rfl ?_
  refine i_231_123 (x := 128) rfl ?_
  refine i_231_124 (v := Value.ref 154) hw17 rfl ?_
  refine i_231_127 (x := a31) rfl ?_
  refine i_231_129 (v := Value.int 0) hw18 e137 e138 rfl ?_
  refine i_231_130 ?_
  refine i_231_131 (fun h => absurd h (by decide)) (fun _ => ?_)
  refine i_231_134 (x := 128) rfl ?_
  refine i_231_135 (v := Value.ref 154) hw17 rfl ?_
  refine i_231_138 (x := a32) rfl ?_
  refine i_231_140 (v := Value.int 0) hw18 e139 e140 rfl ?_
  refine i_231_141 ?_
  refine i_231_142 (fun _ => ?_) (fun h => absurd h (by decide))
  refine i_231_149 ?_
  refine i_231_150 (lv2 := [(14, Value.int 0), (9, Value.int 1), (13, Value.int a32), (12, Value.int a31), (11, Value.int 13), (6, Value.int (-128)), (8, Value.int 0), (7, Value.int 0), (10, Value.int 0), (16, Value.int 0), (15, Value.int 0), (0, Value.ref 128), (1, Value.int a0), (2, Value.int a1), (3, Value.int a2), (4, Value.int a3), (5, Value.int a4)]) rfl ?_
  refine i_231_152 (x := 128) rfl ?_
  refine i_231_153 (v := Value.ref 154) hw17 rfl ?_
  refine i_231_156 (x := a31) rfl ?_
  refine i_231_158 (v := Value.int 0) hw18 e137 e138 rfl ?_
  refine i_231_159 ?_
  refine i_231_160 (fun h => absurd h (by decide)) (fun _ => ?_)
  refine i_231_163 (x := 128) rfl ?_
  refine i_231_164 (v := Value.ref 154) hw17 rfl ?_
  refine i_231_167 (x := a32) rfl ?_
  refine i_231_169 (v := Value.int 0) hw18 e139 e140 rfl ?_
  refine i_231_170 ?_
  refine i_231_171 (fun _ => ?_) (fun h => absurd h (by decide))
  refine i_231_178 ?_
  refine i_231_179 (lv2 := [(15, Value.int 0), (14, Value.int 0), (9, Value.int 1), (13, Value.int a32), (12, Value.int a31), (11, Value.int 13), (6, Value.int (-128)), (8, Value.int 0), (7, Value.int 0), (10, Value.int 0), (16, Value.int 0), (0, Value.ref 128), (1, Value.int a0), (2, Value.int a1), (3, Value.int a2), (4, Value.int a3), (5, Value.int a4)]) rfl ?_
  refine i_231_181 (x := 128) rfl ?_
  refine i_231_182 (v := Value.ref 156) hw17 rfl ?_
  refine i_231_185 (x := a31) rfl ?_
  refine i_231_187z (v := Value.int 0) hw21 e137 e138 rfl ?_
  refine i_231_188 (x := 128) rfl ?_
  refine i_231_189 (v := Value.ref 156) hw17 rfl ?_
  refine i_231_192 (x := a32) rfl ?_
  refine i_231_194z (v := Value.int 0) hw21 e139 e140 rfl ?_
  refine i_231_195 (fun _ => ?_) (fun h => absurd h (by decide))
  refine i_231_202 ?_
  refine i_231_203 (lv2 := [(16, Value.int 0), (15, Value.int 0), (14, Value.int 0), (9, Value.int 1), (13, Value.int a32), (12, Value.int a31), (11, Value.int 13), (6, Value.int (-128)), (8, Value.int 0), (7, Value.int 0), (10, Value.int 0), (0, Value.ref 128), (1, Value.int a0), (2, Value.int a1), (3, Value.int a2), (4, Value.int a3), (5, Value.int a4)]) rfl ?_
  refine i_231_205 (x := 0) rfl ?_
  refine i_231_207 (x := 0) rfl ?_
  refine i_231_209 (fun _ => ?_) (fun h => absurd h (by decide))
  refine i_231_221 ?_
  refine i_231_222 (c := 0) (by decide) ?_
  refine i_231_223 (lv2 := [(10, Value.int 0), (16, Value.int 0), (15, Value.int 0), (14, Value.int 0), (9, Value.int 1), (13, Value.int a32), (12, Value.int a31), (11, Value.int 13), (6, Value.int (-128)), (8, Value.int 0), (7, Value.int 0), (0, Value.ref 128), (1, Value.int a0), (2, Value.int a1), (3, Value.int a2), (4, Value.int a3), (5, Value.int a4)]) rfl ?_
  refine i_231_225 (x := 0) rfl ?_
  refine i_231_227 (x := 0) rfl ?_
  refine i_231_229 (fun _ => ?_) (fun h => absurd h (by decide))
  refine i_231_241 ?_
  refine i_231_242 (c := 0) (by decide) ?_
  refine i_231_243 (lv2 := [(7, Value.int 0), (10, Value.int 0), (16, Value.int 0), (15, Value.int 0), (14, Value.int 0), (9, Value.int 1), (13, Value.int a32), (12, Value.int a31), (11, Value.int 13), (6, Value.int (-128)), (8, Value.int 0), (0, Value.ref 128), (1, Value.int a0), (2, Value.int a1), (3, Value.int a2), (4, Value.int a3), (5, Value.int a4)]) rfl ?_
  refine i_231_245 (x := 0) rfl ?_
  refine i_231_247 (x := 0) rfl ?_
  refine i_231_249 (fun _ => ?_) (fun h => absurd h (by decide))
  refine i_231_261 ?_
  refine i_231_262 (c := 0) (by decide) ?_
  refine i_231_263 (lv2 := [(8, Value.int 0), (7, Value.int 0), (10, Value.int 0), (16, Value.int 0), (15, Value.int 0), (14, Value.int 0), (9, Value.int 1), (13, Value.int a32), (12, Value.int a31), (11, Value.int 13), (6, Value.int (-128)), (0, Value.ref 128), (1, Value.int a0), (2, Value.int a1), (3, Value.int a2), (4, Value.int a3), (5, Value.int a4)]) rfl ?_
  refine i_231_265 (x := 0) rfl ?_
  refine i_231_267 (fun h => absurd h (by decide)) (fun _ => ?_)
  refine i_231_270 (x := 0) rfl ?_
  refine i_231_272 (fun h => absurd h (by decide)) (fun _ => ?_)
  refine i_231_275 (x := (-128)) rfl ?_
  refine i_231_277 (x := 128) rfl ?_
  refine i_231_278 (x := a31) rfl ?_
  refine i_231_280 hw17 (Nat.le_of_ble_eq_true rfl) (p_196_0 hw17 hw22 e137 e138 hw23 hg141) ?_
  refine i_231_283 (x := 128) rfl ?_
  refine i_231_284 (x := a32) rfl ?_
  refine i_231_286 hw17 (Nat.le_of_ble_eq_true rfl) (p_196_0 hw17 hw22 e139 e140 hw23 hg142) ?_
  refine i_231_289 (c := (-128)) (by decide) ?_
  refine i_231_290 (Nat.le_of_ble_eq_true rfl) (p_272_1) ?_
  refine i_231_293 (lv2 := [(6, Value.int (-128)), (8, Value.int 0), (7, Value.int 0), (10, Value.int 0), (16, Value.int 0), (15, Value.int 0), (14, Value.int 0), (9, Value.int 1), (13, Value.int a32), (12, Value.int a31), (11, Value.int 13), (0, Value.ref 128), (1, Value.int a0), (2, Value.int a1), (3, Value.int a2), (4, Value.int a3), (5, Value.int a4)]) rfl ?_
  refine i_231_295 (x := 13) (c := 14) (lv2 := [(11, Value.int 14), (6, Value.int (-128)), (8, Value.int 0), (7, Value.int 0), (10, Value.int 0), (16, Value.int 0), (15, Value.int 0), (14, Value.int 0), (9, Value.int 1), (13, Value.int a32), (12, Value.int a31), (0, Value.ref 128), (1, Value.int a0), (2, Value.int a1), (3, Value.int a2), (4, Value.int a3), (5, Value.int a4)]) rfl (by decide) rfl ?_
  refine i_231_298 ?_
  refine i_231_74 (x := 14) rfl ?_
  refine i_231_76 (x := a3) rfl ?_
  refine i_231_78 (fun h => absurd e143 (Int.not_lt.mpr h)) (fun _ => ?_)
  refine i_231_81 (x := a1) rfl ?_
  refine i_231_82 (x := 14) rfl ?_
  refine i_231_84 (c := a33) hg144 ?_
  refine i_231_85 (lv2 := [(12, Value.int a33), (11, Value.int 14), (6, Value.int (-128)), (8, Value.int 0), (7, Value.int 0), (10, Value.int 0), (16, Value.int 0), (15, Value.int 0), (14, Value.int 0), (9, Value.int 1), (13, Value.int a32), (0, Value.ref 128), (1, Value.int a0), (2, Value.int a1), (3, Value.int a2), (4, Value.int a3), (5, Value.int a4)]) rfl ?_
  refine i_231_87 (x := a2) rfl ?_
  refine i_231_88 (x := 14) rfl ?_
  refine i_231_90 (c := a34) hg145 ?_
  refine i_231_91 (lv2 := [(13, Value.int a34), (12, Value.int a33), (11, Value.int 14), (6, Value.int (-128)), (8, Value.int 0), (7, Value.int 0), (10, Value.int 0), (16, Value.int 0), (15, Value.int 0), (14, Value.int 0), (9, Value.int 1), (0, Value.ref 128), (1, Value.int a0), (2, Value.int a1), (3, Value.int a2), (4, Value.int a3), (5, Value.int a4)]) rfl ?_
  refine i_231_93 (x := 1) rfl ?_
  refine i_231_95 (x := 128) rfl ?_
  refine i_231_96 (v := Value.ref 154) hw17 rfl ?_
  refine i_231_99 (x := a33) rfl ?_
  refine i_231_101 (v := Value.int 0) hw18 e146 e147 rfl ?_
  refine i_231_102 (fun _ => ?_) (fun h => absurd h (by decide))
  refine i_231_115 ?_
  refine i_231_116 ?_
  refine i_231_120 (c := 1) (by decide) ?_
  refine i_231_121 (lv2 := [(9, Value.int 1), (13, Value.int a34), (12, Value.int a33), (11, Value.int 14), (6, Value.int (-128)), (8, Value.int 0), (7, Value.int 0), (10, Value.int 0), (16, Value.int 0), (15, Value.int 0), (14, Value.int 0), (0, Value.ref 128), (1, Value.int a0), (2, Value.int a1), (3, Value.int a2), (4, Value.int a3), (5, Value.int a4)]) rfl ?_
  refine i_231_123 (x := 128) rfl ?_
  refine i_231_124 (v := Value.ref 154) hw17 rfl ?_
  refine i_231_127 (x := a33) rfl ?_
  refine i_231_129 (v := Value.int 0) hw18 e146 e147 rfl ?_
  refine i_231_130 ?_
  refine i_231_131 (fun h => absurd h (by decide)) (fun _ => ?_)
  refine i_231_134 (x := 128) rfl ?_
  refine i_231_135 (v := Value.ref 154) hw17 rfl ?_
  refine i_231_138 (x := a34) rfl ?_
  refine i_231_140 (v := Value.int 0) hw18 e148 e149 rfl ?_
  refine i_231_141 ?_
  refine i_231_142 (fun _ => ?_) (fun h => absurd h (by decide))
  refine i_231_149 ?_
  refine i_231_150 (lv2 := [(14, Value.int 0), (9, Value.int 1), (13, Value.int a34), (12, Value.int a33), (11, Value.int 14), (6, Value.int (-128)), (8, Value.int 0), (7, Value.int 0), (10, Value.int 0), (16, Value.int 0), (15, Value.int 0), (0, Value.ref 128), (1, Value.int a0), (2, Value.int a1), (3, Value.int a2), (4, Value.int a3), (5, Value.int a4)]) rfl ?_
  refine i_231_152 (x := 128) rfl ?_
  refine i_231_153 (v := Value.ref 154) hw17 rfl ?_
  refine i_231_156 (x := a33) rfl ?_
  refine i_231_158 (v := Value.int 0) hw18 e146 e147 rfl ?_
  refine i_231_159 ?_
  refine i_231_160 (fun h => absurd h (by decide)) (fun _ => ?_)
  refine i_231_163 (x := 128) rfl ?_
  refine i_231_164 (v := Value.ref 154) hw17 rfl ?_
  refine i_231_167 (x := a34) rfl ?_
  refine i_231_169 (v := Value.int 0) hw18 e148 e149 rfl ?_
  refine i_231_170 ?_
  refine i_231_171 (fun _ => ?_) (fun h => absurd h (by decide))
  refine i_231_178 ?_
  refine i_231_179 (lv2 := [(15, Value.int 0), (14, Value.int 0), (9, Value.int 1), (13, Value.int a34), (12, Value.int a33), (11, Value.int 14), (6, Value.int (-128)), (8, Value.int 0), (7, Value.int 0), (10, Value.int 0), (16, Value.int 0), (0, Value.ref 128), (1, Value.int a0), (2, Value.int a1), (3, Value.int a2), (4, Value.int a3), (5, Value.int a4)]) rfl ?_
  refine i_231_181 (x := 128) rfl ?_
  refine i_231_182 (v := Value.ref 156) hw17 rfl ?_
  refine i_231_185 (x := a33) rfl ?_
  refine i_231_187z (v := Value.int 0) hw21 e146 e147 rfl ?_
  refine i_231_188 (x := 128) rfl ?_
  refine i_231_189 (v := Value.ref 156) hw17 rfl ?_
  refine i_231_192 (x := a34) rfl ?_
  refine i_231_194z (v := Value.int 0) hw21 e148 e149 rfl ?_
  refine i_231_195 (fun _ => ?_) (fun h => absurd h (by decide))
  refine i_231_202 ?_
  refine i_231_203 (lv2 := [(16, Value.int 0), (15, Value.int 0), (14, Value.int 0), (9, Value.int 1), (13, Value.int a34), (12, Value.int a33), (11, Value.int 14), (6, Value.int (-128)), (8, Value.int 0), (7, Value.int 0), (10, Value.int 0), (0, Value.ref 128), (1, Value.int a0), (2, Value.int a1), (3, Value.int a2), (4, Value.int a3), (5, Value.int a4)]) rfl ?_
  refine i_231_205 (x := 0) rfl ?_
  refine i_231_207 (x := 0) rfl ?_
  refine i_231_209 (fun _ => ?_) (fun h => absurd h (by decide))
  refine i_231_221 ?_
  refine i_231_222 (c := 0) (by decide) ?_
  refine i_231_223 (lv2 := [(10, Value.int 0), (16, Value.int 0), (15, Value.int 0), (14, Value.int 0), (9, Value.int 1), (13, Value.int a34), (12, Value.int a33), (11, Value.int 14), (6, Value.int (-128)), (8, Value.int 0), (7, Value.int 0), (0, Value.ref 128), (1, Value.int a0), (2, Value.int a1), (3, Value.int a2), (4, Value.int a3), (5, Value.int a4)]) rfl ?_
  refine i_231_225 (x := 0) rfl ?_
  refine i_231_227 (x := 0) rfl ?_
  refine i_231_229 (fun _ => ?_) (fun h => absurd h (by decide))
  refine i_231_241 ?_
  refine i_231_242 (c := 0) (by decide) ?_
  refine i_231_243 (lv2 := [(7, Value.int 0), (10, Value.int 0), (16, Value.int 0), (15, Value.int 0), (14, Value.int 0), (9, Value.int 1), (13, Value.int a34), (12, Value.int a33), (11, Value.int 14), (6, Value.int (-128)), (8, Value.int 0), (0, Value.ref 128), (1, Value.int a0), (2, Value.int a1), (3, Value.int a2), (4, Value.int a3), (5, Value.int a4)]) rfl ?_
  refine i_231_245 (x := 0) rfl ?_
  refine i_231_247 (x := 0) rfl ?_
  refine i_231_249 (fun _ => ?_) (fun h => absurd h (by decide))
  refine i_231_261 ?_
  refine i_231_262 (c := 0) (by decide) ?_
  refine i_231_263 (lv2 := [(8, Value.int 0), (7, Value.int 0), (10, Value.int 0), (16, Value.int 0), (15, Value.int 0), (14, Value.int 0), (9, Value.int 1), (13, Value.int a34), (12, Value.int a33), (11, Value.int 14), (6, Value.int (-128)), (0, Value.ref 128), (1, Value.int a0), (2, Value.int a1), (3, Value.int a2), (4, Value.int a3), (5, Value.int a4)]) rfl ?_
  refine i_231_265 (x := 0) rfl ?_
  refine i_231_267 (fun h => absurd h (by decide)) (fun _ => ?_)
  refine i_231_270 (x := 0) rfl ?_
  refine i_231_272 (fun h => absurd h (by decide)) (fun _ => ?_)
  refine i_231_275 (x := (-128)) rfl ?_
  refine i_231_277 (x := 128) rfl ?_
  refine i_231_278 (x := a33) rfl ?_
  refine i_231_280 hw17 (Nat.le_of_ble_eq_true rfl) (p_196_0 hw17 hw22 e146 e147 hw23 hg150) ?_
  refine i_231_283 (x := 128) rfl ?_
  refine i_231_284 (x := a34) rfl ?_
  refine i_231_286 hw17 (Nat.le_of_ble_eq_true rfl) (p_196_0 hw17 hw22 e148 e149 hw23 hg151) ?_
  refine i_231_289 (c := (-128)) (by decide) ?_
  refine i_231_290 (Nat.le_of_ble_eq_true rfl) (p_272_1) ?_
  refine i_231_293 (lv2 := [(6, Value.int (-128)), (8, Value.int 0), (7, Value.int 0), (10, Value.int 0), (16, Value.int 0), (15, Value.int 0), (14, Value.int 0), (9, Value.int 1), (13, Value.int a34), (12, Value.int a33), (11, Value.int 14), (0, Value.ref 128), (1, Value.int a0), (2, Value.int a1), (3, Value.int a2), (4, Value.int a3), (5, Value.int a4)]) rfl ?_
  refine i_231_295 (x := 14) (c := 15) (lv2 := [(11, Value.int 15), (6, Value.int (-128)), (8, Value.int 0), (7, Value.int 0), (10, Value.int 0), (16, Value.int 0), (15, Value.int 0), (14, Value.int 0), (9, Value.int 1), (13, Value.int a34), (12, Value.int a33), (0, Value.ref 128), (1, Value.int a0), (2, Value.int a1), (3, Value.int a2), (4, Value.int a3), (5, Value.int a4)]) rfl (by decide) rfl ?_
  refine i_231_298 ?_
  refine i_231_74 (x := 15) rfl ?_
  refine i_231_76 (x := a3) rfl ?_
  refine i_231_78 (fun _ => ?_) (fun h => absurd e152 (Int.not_le.mpr h))
  refine i_231_301 (x := 1) rfl ?_
  refine i_231_303 (fun h => absurd h (by decide)) (fun _ => ?_)
  refine i_231_306 (x := 128) rfl ?_
  refine i_231_307 (x := a0) rfl ?_
  refine i_231_308 ?_
  refine i_231_309 ?_
  refine i_231_310 hw17 (Nat.le_of_ble_eq_true rfl) (p_171_0 hw17 hw18 e0 e153 hw21) ?_
  exact i_231_313 ⟨rfl, rfl⟩
theorem p_230_11 {d : Nat} {w : xW} {a0 : Int32} {a1 : Int32} {a2 : Int32} {a3 : Int32} {a4 : Int32} {a5 : Int32} {a6 : Int32} {g0 : Nat → Value} {a7 : Int32} {a8 : Int32} {a9 : Int32} {a10 : Int32} {a11 : Int32} {a12 : Int32} {a13 : Int32} {a14 : Int32} {a15 : Int32} {a16 : Int32} {a17 : Int32} {a18 : Int32} {a19 : Int32} {a20 : Int32} {a21 : Int32} {a22 : Int32} {a23 : Int32} {a24 : Int32} {a25 : Int32} {a26 : Int32} {a27 : Int32} {a28 : Int32} {a29 : Int32} {a30 : Int32} {a31 : Int32} {a32 : Int32} {a33 : Int32} {a34 : Int32} (hw0 : w[128]? = some (Sum.inr (12, [Value.ref 129, Value.ref 131, Value.ref 133, Value.ref 135, Value.ref 137, Value.ref 139, Value.ref 141, Value.ref 143, Value.ref 145, Value.ref 147, Value.ref 149, Value.ref 151, Value.ref 153, Value.ref 154, Value.ref 155, Value.ref 156, Value.ref 157, Value.int (-16384), Value.int 16384, Value.int 0, Value.int 0, Value.int 0, Value.ref 158, Value.ref 159, Value.int 0, Value.int 0, Value.int 0, Value.int 0, Value.int 0, Value.int 0, Value.int 0, Value.int 0]))) (e1 : 0 ≤ a0.toInt) (e2 : a0.toInt ≤ 15) (e3 : 0 ≤ a1.toInt) (e4 : a1.toInt ≤ 15) (e5 : 0 ≤ a2.toInt) (e6 : a2.toInt ≤ 15) (e7 : 1 ≤ a3.toInt) (e8 : a3.toInt ≤ 16) (hg9 : (a1 + a3) = a5) (e10 : a5.toInt ≤ 16) (hg11 : (a2 + a3) = a6) (e12 : a6.toInt ≤ 16) (e13 : 0 ≤ a4.toInt) (e14 : a4.toInt ≤ 4) (e15 : 0 < a3.toInt) (hg16 : (a1 + (0 : Int32)) = a1) (hg17 : (a2 + (0 : Int32)) = a2) (hw18 : w[154]? = some (Sum.inl (0, 17, fun _ => Value.int 0))) (e19 : a1.toInt < 17) (e20 : a2.toInt < 17) (hw21 : w[156]? = some (Sum.inl (2, 17, fun _ => Value.int 0))) (hw22 : w[155]? = some (Sum.inl (0, 17, fun _ => Value.int 0))) (hw23 : w[153]? = some (Sum.inl (0, 17, g0))) (hg24 : g0 a1.toInt.toNat = Value.int 64) (hg25 : g0 a2.toInt.toNat = Value.int 64) (e26 : 1 < a3.toInt) (hg27 : (a1 + (1 : Int32)) = a7) (hg28 : (a2 + (1 : Int32)) = a8) (e29 : 0 ≤ a7.toInt) (e30 : a7.toInt < 17) (e31 : 0 ≤ a8.toInt) (e32 : a8.toInt < 17) (hg33 : g0 a7.toInt.toNat = Value.int 64) (hg34 : g0 a8.toInt.toNat = Value.int 64) (e35 : 2 < a3.toInt) (hg36 : (a1 + (2 : Int32)) = a9) (hg37 : (a2 + (2 : Int32)) = a10) (e38 : 0 ≤ a9.toInt) (e39 : a9.toInt < 17) (e40 : 0 ≤ a10.toInt) (e41 : a10.toInt < 17) (hg42 : g0 a9.toInt.toNat = Value.int 64) (hg43 : g0 a10.toInt.toNat = Value.int 64) (e44 : 3 < a3.toInt) (hg45 : (a1 + (3 : Int32)) = a11) (hg46 : (a2 + (3 : Int32)) = a12) (e47 : 0 ≤ a11.toInt) (e48 : a11.toInt < 17) (e49 : 0 ≤ a12.toInt) (e50 : a12.toInt < 17) (hg51 : g0 a11.toInt.toNat = Value.int 64) (hg52 : g0 a12.toInt.toNat = Value.int 64) (e53 : 4 < a3.toInt) (hg54 : (a1 + (4 : Int32)) = a13) (hg55 : (a2 + (4 : Int32)) = a14) (e56 : 0 ≤ a13.toInt) (e57 : a13.toInt < 17) (e58 : 0 ≤ a14.toInt) (e59 : a14.toInt < 17) (hg60 : g0 a13.toInt.toNat = Value.int 64) (hg61 : g0 a14.toInt.toNat = Value.int 64) (e62 : 5 < a3.toInt) (hg63 : (a1 + (5 : Int32)) = a15) (hg64 : (a2 + (5 : Int32)) = a16) (e65 : 0 ≤ a15.toInt) (e66 : a15.toInt < 17) (e67 : 0 ≤ a16.toInt) (e68 : a16.toInt < 17) (hg69 : g0 a15.toInt.toNat = Value.int 64) (hg70 : g0 a16.toInt.toNat = Value.int 64) (e71 : 6 < a3.toInt) (hg72 : (a1 + (6 : Int32)) = a17) (hg73 : (a2 + (6 : Int32)) = a18) (e74 : 0 ≤ a17.toInt) (e75 : a17.toInt < 17) (e76 : 0 ≤ a18.toInt) (e77 : a18.toInt < 17) (hg78 : g0 a17.toInt.toNat = Value.int 64) (hg79 : g0 a18.toInt.toNat = Value.int 64) (e80 : 7 < a3.toInt) (hg81 : (a1 + (7 : Int32)) = a19) (hg82 : (a2 + (7 : Int32)) = a20) (e83 : 0 ≤ a19.toInt) (e84 : a19.toInt < 17) (e85 : 0 ≤ a20.toInt) (e86 : a20.toInt < 17) (hg87 : g0 a19.toInt.toNat = Value.int 64) (hg88 : g0 a20.toInt.toNat = Value.int 64) (e89 : 8 < a3.toInt) (hg90 : (a1 + (8 : Int32)) = a21) (hg91 : (a2 + (8 : Int32)) = a22) (e92 : 0 ≤ a21.toInt) (e93 : a21.toInt < 17) (e94 : 0 ≤ a22.toInt) (e95 : a22.toInt < 17) (hg96 : g0 a21.toInt.toNat = Value.int 64) (hg97 : g0 a22.toInt.toNat = Value.int 64) (e98 : 9 < a3.toInt) (hg99 : (a1 + (9 : Int32)) = a23) (hg100 : (a2 + (9 : Int32)) = a24) (e101 : 0 ≤ a23.toInt) (e102 : a23.toInt < 17) (e103 : 0 ≤ a24.toInt) (e104 : a24.toInt < 17) (hg105 : g0 a23.toInt.toNat = Value.int 64) (hg106 : g0 a24.toInt.toNat = Value.int 64) (e107 : 10 < a3.toInt) (hg108 : (a1 + (10 : Int32)) = a25) (hg109 : (a2 + (10 : Int32)) = a26) (e110 : 0 ≤ a25.toInt) (e111 : a25.toInt < 17) (e112 : 0 ≤ a26.toInt) (e113 : a26.toInt < 17) (hg114 : g0 a25.toInt.toNat = Value.int 64) (hg115 : g0 a26.toInt.toNat = Value.int 64) (e116 : 11 < a3.toInt) (hg117 : (a1 + (11 : Int32)) = a27) (hg118 : (a2 + (11 : Int32)) = a28) (e119 : 0 ≤ a27.toInt) (e120 : a27.toInt < 17) (e121 : 0 ≤ a28.toInt) (e122 : a28.toInt < 17) (hg123 : g0 a27.toInt.toNat = Value.int 64) (hg124 : g0 a28.toInt.toNat = Value.int 64) (e125 : 12 < a3.toInt) (hg126 : (a1 + (12 : Int32)) = a29) (hg127 : (a2 + (12 : Int32)) = a30) (e128 : 0 ≤ a29.toInt) (e129 : a29.toInt < 17) (e130 : 0 ≤ a30.toInt) (e131 : a30.toInt < 17) (hg132 : g0 a29.toInt.toNat = Value.int 64) (hg133 : g0 a30.toInt.toNat = Value.int 64) (e134 : 13 < a3.toInt) (hg135 : (a1 + (13 : Int32)) = a31) (hg136 : (a2 + (13 : Int32)) = a32) (e137 : 0 ≤ a31.toInt) (e138 : a31.toInt < 17) (e139 : 0 ≤ a32.toInt) (e140 : a32.toInt < 17) (hg141 : g0 a31.toInt.toNat = Value.int 64) (hg142 : g0 a32.toInt.toNat = Value.int 64) (e143 : 14 < a3.toInt) (hg144 : (a1 + (14 : Int32)) = a33) (hg145 : (a2 + (14 : Int32)) = a34) (e146 : 0 ≤ a33.toInt) (e147 : a33.toInt < 17) (e148 : 0 ≤ a34.toInt) (e149 : a34.toInt < 17) (hg150 : g0 a33.toInt.toNat = Value.int 64) (hg151 : g0 a34.toInt.toNat = Value.int 64) (e152 : a3.toInt ≤ 15) (e153 : a0.toInt < 17) : xRun (d + 3) 230 [Value.ref 128, Value.int a0, Value.int a1, Value.int a2, Value.int a3, Value.int a4] w (.inl (some (Value.int 0))) (((w.set 128 (Sum.inr (12, [Value.ref 129, Value.ref 131, Value.ref 133, Value.ref 135, Value.ref 137, Value.ref 139, Value.ref 141, Value.ref 143, Value.ref 145, Value.ref 147, Value.ref 149, Value.ref 151, Value.ref 153, Value.ref 154, Value.ref 155, Value.ref 156, Value.ref 157, Value.int (-16384), Value.int 16384, Value.int 0, Value.int 0, Value.int 0, Value.ref 158, Value.ref 159, Value.int 0, Value.int 0, Value.int 0, Value.int 0, Value.int 0, Value.int 0, Value.int 0, Value.int 0]))).set 154 (Sum.inl (0, 17, xup (fun _ => Value.int 0) a0.toInt.toNat (Value.int 0)))).set 156 (Sum.inl (2, 17, xup (fun _ => Value.int 0) a0.toInt.toNat (Value.int 0)))) := by
  refine xRun.of ?_
  refine i_230_0 (x := 128) rfl ?_
  refine i_230_1 ?_
  refine i_230_2 (fs2 := [Value.ref 129, Value.ref 131, Value.ref 133, Value.ref 135, Value.ref 137, Value.ref 139, Value.ref 141, Value.ref 143, Value.ref 145, Value.ref 147, Value.ref 149, Value.ref 151, Value.ref 153, Value.ref 154, Value.ref 155, Value.ref 156, Value.ref 157, Value.int (-16384), Value.int 16384, Value.int 0, Value.int 0, Value.int 0, Value.ref 158, Value.ref 159, Value.int 0, Value.int 0, Value.int 0, Value.int 0, Value.int 0, Value.int 0, Value.int 0, Value.int 0]) hw0 (Nat.le_of_ble_eq_true rfl) rfl (by decide) ?_
  refine i_230_5 (x := 128) rfl ?_
  refine i_230_6 (x := a0) rfl ?_
  refine i_230_7 (x := a1) rfl ?_
  refine i_230_8 (x := a2) rfl ?_
  refine i_230_9 (x := a3) rfl ?_
  refine i_230_11 (x := a4) rfl ?_
  refine i_230_13 (xgs hw0) (Nat.le_of_ble_eq_true rfl) (p_231_11 e1 e2 e3 e4 e5 e6 e7 e8 hg9 e10 hg11 e12 e13 e14 e15 hg16 hg17 (xgs hw0) (xgn (by decide) hw18) e19 e20 (xgn (by decide) hw21) (xgn (by decide) hw22) (xgn (by decide) hw23) hg24 hg25 e26 hg27 hg28 e29 e30 e31 e32 hg33 hg34 e35 hg36 hg37 e38 e39 e40 e41 hg42 hg43 e44 hg45 hg46 e47 e48 e49 e50 hg51 hg52 e53 hg54 hg55 e56 e57 e58 e59 hg60 hg61 e62 hg63 hg64 e65 e66 e67 e68 hg69 hg70 e71 hg72 hg73 e74 e75 e76 e77 hg78 hg79 e80 hg81 hg82 e83 e84 e85 e86 hg87 hg88 e89 hg90 hg91 e92 e93 e94 e95 hg96 hg97 e98 hg99 hg100 e101 e102 e103 e104 hg105 hg106 e107 hg108 hg109 e110 e111 e112 e113 hg114 hg115 e116 hg117 hg118 e119 e120 e121 e122 hg123 hg124 e125 hg126 hg127 e128 e129 e130 e131 hg132 hg133 e134 hg135 hg136 e137 e138 e139 e140 hg141 hg142 e143 hg144 hg145 e146 e147 e148 e149 hg150 hg151 e152 e153) ?_
  exact i_230_16 ⟨rfl, rfl⟩
theorem g_11_16 {z0 z1 z2 z3 z4 z5 z6 z7 z8 z9 z10 z11 z12 z13 z14 z15 z16 z17 z18 z19 z20 z21 z22 z23 z24 z25 z26 z27 z28 z29 z30 z31 z32 z33 z34 z35 : Int} (h0 : z0 = 11) (c0 : 0 ≤ z1) (c1 : z1 < 16) (c2 : 0 ≤ z2) (c3 : z2 < 16) (c4 : 1 ≤ z3) (c5 : z3 ≤ 16) (nN6 : z4 = z2 + z3) (c7 : z4 ≤ 16) (c8 : 0 ≤ z5) (c9 : z5 < 16) (nN10 : z6 = z5 + z3) (c11 : z6 ≤ 16) (c12 : 0 ≤ z7) (c13 : z7 ≤ 4) (c14 : 1 < z3) (nN15 : z8 = z2 + 1) (nN16 : z9 = z5 + 1) (c17 : 2 < z3) (nN18 : z10 = z2 + 2) (nN19 : z11 = z5 + 2) (c20 : 3 < z3) (nN21 : z12 = z2 + 3) (nN22 : z13 = z5 + 3) (c23 : 4 < z3) (nN24 : z14 = z2 + 4) (nN25 : z15 = z5 + 4) (c26 : 5 < z3) (nN27 : z16 = z2 + 5) (nN28 : z17 = z5 + 5) (c29 : 6 < z3) (nN30 : z18 = z2 + 6) (nN31 : z19 = z5 + 6) (c32 : 7 < z3) (nN33 : z20 = z2 + 7) (nN34 : z21 = z5 + 7) (c35 : 8 < z3) (nN36 : z22 = z2 + 8) (nN37 : z23 = z5 + 8) (c38 : 9 < z3) (nN39 : z24 = z2 + 9) (nN40 : z25 = z5 + 9) (c41 : 10 < z3) (nN42 : z26 = z2 + 10) (nN43 : z27 = z5 + 10) (c44 : 11 < z3) (nN45 : z28 = z2 + 11) (nN46 : z29 = z5 + 11) (c47 : 12 < z3) (nN48 : z30 = z2 + 12) (nN49 : z31 = z5 + 12) (c50 : 13 < z3) (nN51 : z32 = z2 + 13) (nN52 : z33 = z5 + 13) (c53 : 14 < z3) (nN54 : z34 = z2 + 14) (nN55 : z35 = z5 + 14) (c56 : z3 ≤ 15) : (((((((((0 ≤ z1) ∧ (z1 < 16)) ∧ ((0 ≤ z2) ∧ (z2 < 16))) ∧ (((1 ≤ z3) ∧ (z3 ≤ 16)) ∧ ((z4 ≤ 16) ∧ (0 ≤ z5)))) ∧ ((((z5 < 16) ∧ (z6 ≤ 16)) ∧ ((0 ≤ z7) ∧ (z7 ≤ 4))) ∧ (((0 < z3) ∧ (z2.toNat < 16)) ∧ ((z5.toNat < 16) ∧ ((19 ≠ (30 + 3 * z2.toNat)) ∧ (22 ≠ (30 + 3 * z2.toNat))))))) ∧ (((((20 ≠ (30 + 3 * z2.toNat)) ∧ (19 ≠ (30 + 3 * z5.toNat))) ∧ ((22 ≠ (30 + 3 * z5.toNat)) ∧ (20 ≠ (30 + 3 * z5.toNat)))) ∧ (((1 < z3) ∧ (0 ≤ z8)) ∧ ((z8 < 16) ∧ ((z8.toNat < 16) ∧ (0 ≤ z9))))) ∧ ((((z9 < 16) ∧ (z9.toNat < 16)) ∧ ((19 ≠ (30 + 3 * z8.toNat)) ∧ (22 ≠ (30 + 3 * z8.toNat)))) ∧ (((20 ≠ (30 + 3 * z8.toNat)) ∧ (19 ≠ (30 + 3 * z9.toNat))) ∧ ((22 ≠ (30 + 3 * z9.toNat)) ∧ ((20 ≠ (30 + 3 * z9.toNat)) ∧ (2 < z3))))))) ∧ ((((((0 ≤ z10) ∧ (z10 < 16)) ∧ ((z10.toNat < 16) ∧ (0 ≤ z11))) ∧ (((z11 < 16) ∧ (z11.toNat < 16)) ∧ ((19 ≠ (30 + 3 * z10.toNat)) ∧ (22 ≠ (30 + 3 * z10.toNat))))) ∧ ((((20 ≠ (30 + 3 * z10.toNat)) ∧ (19 ≠ (30 + 3 * z11.toNat))) ∧ ((22 ≠ (30 + 3 * z11.toNat)) ∧ (20 ≠ (30 + 3 * z11.toNat)))) ∧ (((3 < z3) ∧ (0 ≤ z12)) ∧ ((z12 < 16) ∧ ((z12.toNat < 16) ∧ (0 ≤ z13)))))) ∧ (((((z13 < 16) ∧ (z13.toNat < 16)) ∧ ((19 ≠ (30 + 3 * z12.toNat)) ∧ (22 ≠ (30 + 3 * z12.toNat)))) ∧ (((20 ≠ (30 + 3 * z12.toNat)) ∧ (19 ≠ (30 + 3 * z13.toNat))) ∧ ((22 ≠ (30 + 3 * z13.toNat)) ∧ ((20 ≠ (30 + 3 * z13.toNat)) ∧ (4 < z3))))) ∧ ((((0 ≤ z14) ∧ (z14 < 16)) ∧ ((z14.toNat < 16) ∧ (0 ≤ z15))) ∧ (((z15 < 16) ∧ (z15.toNat < 16)) ∧ ((19 ≠ (30 + 3 * z14.toNat)) ∧ ((22 ≠ (30 + 3 * z14.toNat)) ∧ (20 ≠ (30 + 3 * z14.toNat))))))))) ∧ (((((((19 ≠ (30 + 3 * z15.toNat)) ∧ (22 ≠ (30 + 3 * z15.toNat))) ∧ ((20 ≠ (30 + 3 * z15.toNat)) ∧ (5 < z3))) ∧ (((0 ≤ z16) ∧ (z16 < 16)) ∧ ((z16.toNat < 16) ∧ (0 ≤ z17)))) ∧ ((((z17 < 16) ∧ (z17.toNat < 16)) ∧ ((19 ≠ (30 + 3 * z16.toNat)) ∧ (22 ≠ (30 + 3 * z16.toNat)))) ∧ (((20 ≠ (30 + 3 * z16.toNat)) ∧ (19 ≠ (30 + 3 * z17.toNat))) ∧ ((22 ≠ (30 + 3 * z17.toNat)) ∧ ((20 ≠ (30 + 3 * z17.toNat)) ∧ (6 < z3)))))) ∧ (((((0 ≤ z18) ∧ (z18 < 16)) ∧ ((z18.toNat < 16) ∧ (0 ≤ z19))) ∧ (((z19 < 16) ∧ (z19.toNat < 16)) ∧ ((19 ≠ (30 + 3 * z18.toNat)) ∧ ((22 ≠ (30 + 3 * z18.toNat)) ∧ (20 ≠ (30 + 3 * z18.toNat)))))) ∧ ((((19 ≠ (30 + 3 * z19.toNat)) ∧ (22 ≠ (30 + 3 * z19.toNat))) ∧ ((20 ≠ (30 + 3 * z19.toNat)) ∧ (7 < z3))) ∧ (((0 ≤ z20) ∧ (z20 < 16)) ∧ ((z20.toNat < 16) ∧ ((0 ≤ z21) ∧ (z21 < 16))))))) ∧ ((((((z21.toNat < 16) ∧ (19 ≠ (30 + 3 * z20.toNat))) ∧ ((22 ≠ (30 + 3 * z20.toNat)) ∧ (20 ≠ (30 + 3 * z20.toNat)))) ∧ (((19 ≠ (30 + 3 * z21.toNat)) ∧ (22 ≠ (30 + 3 * z21.toNat))) ∧ ((20 ≠ (30 + 3 * z21.toNat)) ∧ (8 < z3)))) ∧ ((((0 ≤ z22) ∧ (z22 < 16)) ∧ ((z22.toNat < 16) ∧ (0 ≤ z23))) ∧ (((z23 < 16) ∧ (z23.toNat < 16)) ∧ ((19 ≠ (30 + 3 * z22.toNat)) ∧ ((22 ≠ (30 + 3 * z22.toNat)) ∧ (20 ≠ (30 + 3 * z22.toNat))))))) ∧ (((((19 ≠ (30 + 3 * z23.toNat)) ∧ (22 ≠ (30 + 3 * z23.toNat))) ∧ ((20 ≠ (30 + 3 * z23.toNat)) ∧ (9 < z3))) ∧ (((0 ≤ z24) ∧ (z24 < 16)) ∧ ((z24.toNat < 16) ∧ ((0 ≤ z25) ∧ (z25 < 16))))) ∧ ((((z25.toNat < 16) ∧ (19 ≠ (30 + 3 * z24.toNat))) ∧ ((22 ≠ (30 + 3 * z24.toNat)) ∧ (20 ≠ (30 + 3 * z24.toNat)))) ∧ (((19 ≠ (30 + 3 * z25.toNat)) ∧ (22 ≠ (30 + 3 * z25.toNat))) ∧ ((20 ≠ (30 + 3 * z25.toNat)) ∧ ((10 < z3) ∧ (0 ≤ z26))))))))) ∧ ((((((((z26 < 16) ∧ (z26.toNat < 16)) ∧ ((0 ≤ z27) ∧ (z27 < 16))) ∧ (((z27.toNat < 16) ∧ (19 ≠ (30 + 3 * z26.toNat))) ∧ ((22 ≠ (30 + 3 * z26.toNat)) ∧ (20 ≠ (30 + 3 * z26.toNat))))) ∧ ((((19 ≠ (30 + 3 * z27.toNat)) ∧ (22 ≠ (30 + 3 * z27.toNat))) ∧ ((20 ≠ (30 + 3 * z27.toNat)) ∧ (11 < z3))) ∧ (((0 ≤ z28) ∧ (z28 < 16)) ∧ ((z28.toNat < 16) ∧ ((0 ≤ z29) ∧ (z29 < 16)))))) ∧ (((((z29.toNat < 16) ∧ (19 ≠ (30 + 3 * z28.toNat))) ∧ ((22 ≠ (30 + 3 * z28.toNat)) ∧ (20 ≠ (30 + 3 * z28.toNat)))) ∧ (((19 ≠ (30 + 3 * z29.toNat)) ∧ (22 ≠ (30 + 3 * z29.toNat))) ∧ ((20 ≠ (30 + 3 * z29.toNat)) ∧ ((12 < z3) ∧ (0 ≤ z30))))) ∧ ((((z30 < 16) ∧ (z30.toNat < 16)) ∧ ((0 ≤ z31) ∧ (z31 < 16))) ∧ (((z31.toNat < 16) ∧ (19 ≠ (30 + 3 * z30.toNat))) ∧ ((22 ≠ (30 + 3 * z30.toNat)) ∧ ((20 ≠ (30 + 3 * z30.toNat)) ∧ (19 ≠ (30 + 3 * z31.toNat)))))))) ∧ ((((((22 ≠ (30 + 3 * z31.toNat)) ∧ (20 ≠ (30 + 3 * z31.toNat))) ∧ ((13 < z3) ∧ (0 ≤ z32))) ∧ (((z32 < 16) ∧ (z32.toNat < 16)) ∧ ((0 ≤ z33) ∧ (z33 < 16)))) ∧ ((((z33.toNat < 16) ∧ (19 ≠ (30 + 3 * z32.toNat))) ∧ ((22 ≠ (30 + 3 * z32.toNat)) ∧ (20 ≠ (30 + 3 * z32.toNat)))) ∧ (((19 ≠ (30 + 3 * z33.toNat)) ∧ (22 ≠ (30 + 3 * z33.toNat))) ∧ ((20 ≠ (30 + 3 * z33.toNat)) ∧ ((14 < z3) ∧ (0 ≤ z34)))))) ∧ (((((z34 < 16) ∧ (z34.toNat < 16)) ∧ ((0 ≤ z35) ∧ (z35 < 16))) ∧ (((z35.toNat < 16) ∧ (19 ≠ (30 + 3 * z34.toNat))) ∧ ((22 ≠ (30 + 3 * z34.toNat)) ∧ ((20 ≠ (30 + 3 * z34.toNat)) ∧ (19 ≠ (30 + 3 * z35.toNat)))))) ∧ ((((22 ≠ (30 + 3 * z35.toNat)) ∧ (20 ≠ (30 + 3 * z35.toNat))) ∧ ((z3 ≤ 15) ∧ (z1.toNat < 16))) ∧ (((19 ≠ (30 + 3 * z1.toNat)) ∧ (22 ≠ (30 + 3 * z1.toNat))) ∧ ((20 ≠ (30 + 3 * z1.toNat)) ∧ ((7 ≤ (30 + 3 * z1.toNat)) ∧ ((30 + 3 * z1.toNat) ≠ 194)))))))) ∧ ((((((((30 + 3 * z1.toNat) ≠ 0) ∧ ((30 + 3 * z1.toNat) ≠ 128)) ∧ ((z1 ≤ 15) ∧ (z2 ≤ 15))) ∧ (((z5 ≤ 15) ∧ ((30 + 3 * z1.toNat) ≠ 154)) ∧ ((z2 < 17) ∧ (z5 < 17)))) ∧ (((((30 + 3 * z1.toNat) ≠ 156) ∧ ((30 + 3 * z1.toNat) ≠ 155)) ∧ (((30 + 3 * z1.toNat) ≠ 153) ∧ (z2.toNat < 17))) ∧ (((z5.toNat < 17) ∧ (z8 < 17)) ∧ ((z9 < 17) ∧ ((z8.toNat < 17) ∧ (z9.toNat < 17)))))) ∧ (((((z10 < 17) ∧ (z11 < 17)) ∧ ((z10.toNat < 17) ∧ (z11.toNat < 17))) ∧ (((z12 < 17) ∧ (z13 < 17)) ∧ ((z12.toNat < 17) ∧ ((z13.toNat < 17) ∧ (z14 < 17))))) ∧ ((((z15 < 17) ∧ (z14.toNat < 17)) ∧ ((z15.toNat < 17) ∧ (z16 < 17))) ∧ (((z17 < 17) ∧ (z16.toNat < 17)) ∧ ((z17.toNat < 17) ∧ ((z18 < 17) ∧ (z19 < 17))))))) ∧ ((((((z18.toNat < 17) ∧ (z19.toNat < 17)) ∧ ((z20 < 17) ∧ (z21 < 17))) ∧ (((z20.toNat < 17) ∧ (z21.toNat < 17)) ∧ ((z22 < 17) ∧ (z23 < 17)))) ∧ ((((z22.toNat < 17) ∧ (z23.toNat < 17)) ∧ ((z24 < 17) ∧ (z25 < 17))) ∧ (((z24.toNat < 17) ∧ (z25.toNat < 17)) ∧ ((z26 < 17) ∧ ((z27 < 17) ∧ (z26.toNat < 17)))))) ∧ (((((z27.toNat < 17) ∧ (z28 < 17)) ∧ ((z29 < 17) ∧ (z28.toNat < 17))) ∧ (((z29.toNat < 17) ∧ (z30 < 17)) ∧ ((z31 < 17) ∧ ((z30.toNat < 17) ∧ (z31.toNat < 17))))) ∧ ((((z32 < 17) ∧ (z33 < 17)) ∧ ((z32.toNat < 17) ∧ (z33.toNat < 17))) ∧ (((z34 < 17) ∧ (z35 < 17)) ∧ ((z34.toNat < 17) ∧ ((z35.toNat < 17) ∧ (z1 < 17)))))))))) := by
  subst nN55; subst nN54; subst nN52; subst nN51; subst nN49; subst nN48; subst nN46; subst nN45; subst nN43; subst nN42; subst nN40; subst nN39; subst nN37; subst nN36; subst nN34; subst nN33; subst nN31; subst nN30; subst nN28; subst nN27; subst nN25; subst nN24; subst nN22; subst nN21; subst nN19; subst nN18; subst nN16; subst nN15; subst nN10; subst nN6; exact ⟨⟨⟨⟨⟨⟨⟨⟨by omega, by omega⟩, ⟨by omega, by omega⟩⟩, ⟨⟨by omega, by omega⟩, ⟨by omega, by omega⟩⟩⟩, ⟨⟨⟨by omega, by omega⟩, ⟨by omega, by omega⟩⟩, ⟨⟨by omega, by omega⟩, ⟨by omega, ⟨by omega, by omega⟩⟩⟩⟩⟩, ⟨⟨⟨⟨by omega, by omega⟩, ⟨by omega, by omega⟩⟩, ⟨⟨by omega, by omega⟩, ⟨by omega, ⟨by omega, by omega⟩⟩⟩⟩, ⟨⟨⟨by omega, by omega⟩, ⟨by omega, by omega⟩⟩, ⟨⟨by omega, by omega⟩, ⟨by omega, ⟨by omega, by omega⟩⟩⟩⟩⟩⟩, ⟨⟨⟨⟨⟨by omega, by omega⟩, ⟨by omega, by omega⟩⟩, ⟨⟨by omega, by omega⟩, ⟨by omega, by omega⟩⟩⟩, ⟨⟨⟨by omega, by omega⟩, ⟨by omega, by omega⟩⟩, ⟨⟨by omega, by omega⟩, ⟨by omega, ⟨by omega, by omega⟩⟩⟩⟩⟩, ⟨⟨⟨⟨by omega, by omega⟩, ⟨by omega, by omega⟩⟩, ⟨⟨by omega, by omega⟩, ⟨by omega, ⟨by omega, by omega⟩⟩⟩⟩, ⟨⟨⟨by omega, by omega⟩, ⟨by omega, by omega⟩⟩, ⟨⟨by omega, by omega⟩, ⟨by omega, ⟨by omega, by omega⟩⟩⟩⟩⟩⟩⟩, ⟨⟨⟨⟨⟨⟨by omega, by omega⟩, ⟨by omega, by omega⟩⟩, ⟨⟨by omega, by omega⟩, ⟨by omega, by omega⟩⟩⟩, ⟨⟨⟨by omega, by omega⟩, ⟨by omega, by omega⟩⟩, ⟨⟨by omega, by omega⟩, ⟨by omega, ⟨by omega, by omega⟩⟩⟩⟩⟩, ⟨⟨⟨⟨by omega, by omega⟩, ⟨by omega, by omega⟩⟩, ⟨⟨by omega, by omega⟩, ⟨by omega, ⟨by omega, by omega⟩⟩⟩⟩, ⟨⟨⟨by omega, by omega⟩, ⟨by omega, by omega⟩⟩, ⟨⟨by omega, by omega⟩, ⟨by omega, ⟨by omega, by omega⟩⟩⟩⟩⟩⟩, ⟨⟨⟨⟨⟨by omega, by omega⟩, ⟨by omega, by omega⟩⟩, ⟨⟨by omega, by omega⟩, ⟨by omega, by omega⟩⟩⟩, ⟨⟨⟨by omega, by omega⟩, ⟨by omega, by omega⟩⟩, ⟨⟨by omega, by omega⟩, ⟨by omega, ⟨by omega, by omega⟩⟩⟩⟩⟩, ⟨⟨⟨⟨by omega, by omega⟩, ⟨by omega, by omega⟩⟩, ⟨⟨by omega, by omega⟩, ⟨by omega, ⟨by omega, by omega⟩⟩⟩⟩, ⟨⟨⟨by omega, by omega⟩, ⟨by omega, by omega⟩⟩, ⟨⟨by omega, by omega⟩, ⟨by omega, ⟨by omega, by omega⟩⟩⟩⟩⟩⟩⟩⟩, ⟨⟨⟨⟨⟨⟨⟨by omega, by omega⟩, ⟨by omega, by omega⟩⟩, ⟨⟨by omega, by omega⟩, ⟨by omega, by omega⟩⟩⟩, ⟨⟨⟨by omega, by omega⟩, ⟨by omega, by omega⟩⟩, ⟨⟨by omega, by omega⟩, ⟨by omega, ⟨by omega, by omega⟩⟩⟩⟩⟩, ⟨⟨⟨⟨by omega, by omega⟩, ⟨by omega, by omega⟩⟩, ⟨⟨by omega, by omega⟩, ⟨by omega, ⟨by omega, by omega⟩⟩⟩⟩, ⟨⟨⟨by omega, by omega⟩, ⟨by omega, by omega⟩⟩, ⟨⟨by omega, by omega⟩, ⟨by omega, ⟨by omega, by omega⟩⟩⟩⟩⟩⟩, ⟨⟨⟨⟨⟨by omega, by omega⟩, ⟨by omega, by omega⟩⟩, ⟨⟨by omega, by omega⟩, ⟨by omega, by omega⟩⟩⟩, ⟨⟨⟨by omega, by omega⟩, ⟨by omega, by omega⟩⟩, ⟨⟨by omega, by omega⟩, ⟨by omega, ⟨by omega, by omega⟩⟩⟩⟩⟩, ⟨⟨⟨⟨by omega, by omega⟩, ⟨by omega, by omega⟩⟩, ⟨⟨by omega, by omega⟩, ⟨by omega, ⟨by omega, by omega⟩⟩⟩⟩, ⟨⟨⟨by omega, by omega⟩, ⟨by omega, by omega⟩⟩, ⟨⟨by omega, by omega⟩, ⟨by omega, ⟨by omega, by omega⟩⟩⟩⟩⟩⟩⟩, ⟨⟨⟨⟨⟨⟨by omega, by omega⟩, ⟨by omega, by omega⟩⟩, ⟨⟨by omega, by omega⟩, ⟨by omega, by omega⟩⟩⟩, ⟨⟨⟨by omega, by omega⟩, ⟨by omega, by omega⟩⟩, ⟨⟨by omega, by omega⟩, ⟨by omega, ⟨by omega, by omega⟩⟩⟩⟩⟩, ⟨⟨⟨⟨by omega, by omega⟩, ⟨by omega, by omega⟩⟩, ⟨⟨by omega, by omega⟩, ⟨by omega, ⟨by omega, by omega⟩⟩⟩⟩, ⟨⟨⟨by omega, by omega⟩, ⟨by omega, by omega⟩⟩, ⟨⟨by omega, by omega⟩, ⟨by omega, ⟨by omega, by omega⟩⟩⟩⟩⟩⟩, ⟨⟨⟨⟨⟨by omega, by omega⟩, ⟨by omega, by omega⟩⟩, ⟨⟨by omega, by omega⟩, ⟨by omega, by omega⟩⟩⟩, ⟨⟨⟨by omega, by omega⟩, ⟨by omega, by omega⟩⟩, ⟨⟨by omega, by omega⟩, ⟨by omega, ⟨by omega, by omega⟩⟩⟩⟩⟩, ⟨⟨⟨⟨by omega, by omega⟩, ⟨by omega, by omega⟩⟩, ⟨⟨by omega, by omega⟩, ⟨by omega, ⟨by omega, by omega⟩⟩⟩⟩, ⟨⟨⟨by omega, by omega⟩, ⟨by omega, by omega⟩⟩, ⟨⟨by omega, by omega⟩, ⟨by omega, ⟨by omega, by omega⟩⟩⟩⟩⟩⟩⟩⟩⟩
theorem o_11_16 {d : Nat} {xs : Nat → Int32} {N6 N10 N15 N16 N18 N19 N21 N22 N24 N25 N27 N28 N30 N31 N33 N34 N36 N37 N39 N40 N42 N43 N45 N46 N48 N49 N51 N52 N54 N55 : Int32} (h0 : ((xs 0) &&& (31 : Int32)).toInt = 11) (c0 : 0 ≤ (xs 1).toInt) (c1 : (xs 1).toInt < 16) (c2 : 0 ≤ (xs 2).toInt) (c3 : (xs 2).toInt < 16) (c4 : 1 ≤ (xs 4).toInt) (c5 : (xs 4).toInt ≤ 16) (eN6 : ((xs 2) + (xs 4)) = N6) (nN6 : N6.toInt = (xs 2).toInt + (xs 4).toInt) (c7 : N6.toInt ≤ 16) (c8 : 0 ≤ (xs 3).toInt) (c9 : (xs 3).toInt < 16) (eN10 : ((xs 3) + (xs 4)) = N10) (nN10 : N10.toInt = (xs 3).toInt + (xs 4).toInt) (c11 : N10.toInt ≤ 16) (c12 : 0 ≤ (xs 5).toInt) (c13 : (xs 5).toInt ≤ 4) (c14 : 1 < (xs 4).toInt) (eN15 : ((xs 2) + (1 : Int32)) = N15) (nN15 : N15.toInt = (xs 2).toInt + 1) (eN16 : ((xs 3) + (1 : Int32)) = N16) (nN16 : N16.toInt = (xs 3).toInt + 1) (c17 : 2 < (xs 4).toInt) (eN18 : ((xs 2) + (2 : Int32)) = N18) (nN18 : N18.toInt = (xs 2).toInt + 2) (eN19 : ((xs 3) + (2 : Int32)) = N19) (nN19 : N19.toInt = (xs 3).toInt + 2) (c20 : 3 < (xs 4).toInt) (eN21 : ((xs 2) + (3 : Int32)) = N21) (nN21 : N21.toInt = (xs 2).toInt + 3) (eN22 : ((xs 3) + (3 : Int32)) = N22) (nN22 : N22.toInt = (xs 3).toInt + 3) (c23 : 4 < (xs 4).toInt) (eN24 : ((xs 2) + (4 : Int32)) = N24) (nN24 : N24.toInt = (xs 2).toInt + 4) (eN25 : ((xs 3) + (4 : Int32)) = N25) (nN25 : N25.toInt = (xs 3).toInt + 4) (c26 : 5 < (xs 4).toInt) (eN27 : ((xs 2) + (5 : Int32)) = N27) (nN27 : N27.toInt = (xs 2).toInt + 5) (eN28 : ((xs 3) + (5 : Int32)) = N28) (nN28 : N28.toInt = (xs 3).toInt + 5) (c29 : 6 < (xs 4).toInt) (eN30 : ((xs 2) + (6 : Int32)) = N30) (nN30 : N30.toInt = (xs 2).toInt + 6) (eN31 : ((xs 3) + (6 : Int32)) = N31) (nN31 : N31.toInt = (xs 3).toInt + 6) (c32 : 7 < (xs 4).toInt) (eN33 : ((xs 2) + (7 : Int32)) = N33) (nN33 : N33.toInt = (xs 2).toInt + 7) (eN34 : ((xs 3) + (7 : Int32)) = N34) (nN34 : N34.toInt = (xs 3).toInt + 7) (c35 : 8 < (xs 4).toInt) (eN36 : ((xs 2) + (8 : Int32)) = N36) (nN36 : N36.toInt = (xs 2).toInt + 8) (eN37 : ((xs 3) + (8 : Int32)) = N37) (nN37 : N37.toInt = (xs 3).toInt + 8) (c38 : 9 < (xs 4).toInt) (eN39 : ((xs 2) + (9 : Int32)) = N39) (nN39 : N39.toInt = (xs 2).toInt + 9) (eN40 : ((xs 3) + (9 : Int32)) = N40) (nN40 : N40.toInt = (xs 3).toInt + 9) (c41 : 10 < (xs 4).toInt) (eN42 : ((xs 2) + (10 : Int32)) = N42) (nN42 : N42.toInt = (xs 2).toInt + 10) (eN43 : ((xs 3) + (10 : Int32)) = N43) (nN43 : N43.toInt = (xs 3).toInt + 10) (c44 : 11 < (xs 4).toInt) (eN45 : ((xs 2) + (11 : Int32)) = N45) (nN45 : N45.toInt = (xs 2).toInt + 11) (eN46 : ((xs 3) + (11 : Int32)) = N46) (nN46 : N46.toInt = (xs 3).toInt + 11) (c47 : 12 < (xs 4).toInt) (eN48 : ((xs 2) + (12 : Int32)) = N48) (nN48 : N48.toInt = (xs 2).toInt + 12) (eN49 : ((xs 3) + (12 : Int32)) = N49) (nN49 : N49.toInt = (xs 3).toInt + 12) (c50 : 13 < (xs 4).toInt) (eN51 : ((xs 2) + (13 : Int32)) = N51) (nN51 : N51.toInt = (xs 2).toInt + 13) (eN52 : ((xs 3) + (13 : Int32)) = N52) (nN52 : N52.toInt = (xs 3).toInt + 13) (c53 : 14 < (xs 4).toInt) (eN54 : ((xs 2) + (14 : Int32)) = N54) (nN54 : N54.toInt = (xs 2).toInt + 14) (eN55 : ((xs 3) + (14 : Int32)) = N55) (nN55 : N55.toInt = (xs 3).toInt + 14) (c56 : (xs 4).toInt ≤ 15) : ∃ w1, xEv (d + 20) 287 23 [(4, Value.int 0), (3, Value.ref 194), (2, Value.ref 128), (1, Value.ref 7), (0, Value.ref 0)] [] (W0 6 xs) (fun o' w' => o' = .inl (some (Value.int 1)) ∧ w' = w1) ∧ w1.length ≤ 220 ∧ xsz w1 ≤ 200000 := by
  have G : id (((((((((0 ≤ (xs 1).toInt) ∧ ((xs 1).toInt < 16)) ∧ ((0 ≤ (xs 2).toInt) ∧ ((xs 2).toInt < 16))) ∧ (((1 ≤ (xs 4).toInt) ∧ ((xs 4).toInt ≤ 16)) ∧ ((N6.toInt ≤ 16) ∧ (0 ≤ (xs 3).toInt)))) ∧ (((((xs 3).toInt < 16) ∧ (N10.toInt ≤ 16)) ∧ ((0 ≤ (xs 5).toInt) ∧ ((xs 5).toInt ≤ 4))) ∧ (((0 < (xs 4).toInt) ∧ ((xs 2).toInt.toNat < 16)) ∧ (((xs 3).toInt.toNat < 16) ∧ ((19 ≠ (30 + 3 * (xs 2).toInt.toNat)) ∧ (22 ≠ (30 + 3 * (xs 2).toInt.toNat))))))) ∧ (((((20 ≠ (30 + 3 * (xs 2).toInt.toNat)) ∧ (19 ≠ (30 + 3 * (xs 3).toInt.toNat))) ∧ ((22 ≠ (30 + 3 * (xs 3).toInt.toNat)) ∧ (20 ≠ (30 + 3 * (xs 3).toInt.toNat)))) ∧ (((1 < (xs 4).toInt) ∧ (0 ≤ N15.toInt)) ∧ ((N15.toInt < 16) ∧ ((N15.toInt.toNat < 16) ∧ (0 ≤ N16.toInt))))) ∧ ((((N16.toInt < 16) ∧ (N16.toInt.toNat < 16)) ∧ ((19 ≠ (30 + 3 * N15.toInt.toNat)) ∧ (22 ≠ (30 + 3 * N15.toInt.toNat)))) ∧ (((20 ≠ (30 + 3 * N15.toInt.toNat)) ∧ (19 ≠ (30 + 3 * N16.toInt.toNat))) ∧ ((22 ≠ (30 + 3 * N16.toInt.toNat)) ∧ ((20 ≠ (30 + 3 * N16.toInt.toNat)) ∧ (2 < (xs 4).toInt))))))) ∧ ((((((0 ≤ N18.toInt) ∧ (N18.toInt < 16)) ∧ ((N18.toInt.toNat < 16) ∧ (0 ≤ N19.toInt))) ∧ (((N19.toInt < 16) ∧ (N19.toInt.toNat < 16)) ∧ ((19 ≠ (30 + 3 * N18.toInt.toNat)) ∧ (22 ≠ (30 + 3 * N18.toInt.toNat))))) ∧ ((((20 ≠ (30 + 3 * N18.toInt.toNat)) ∧ (19 ≠ (30 + 3 * N19.toInt.toNat))) ∧ ((22 ≠ (30 + 3 * N19.toInt.toNat)) ∧ (20 ≠ (30 + 3 * N19.toInt.toNat)))) ∧ (((3 < (xs 4).toInt) ∧ (0 ≤ N21.toInt)) ∧ ((N21.toInt < 16) ∧ ((N21.toInt.toNat < 16) ∧ (0 ≤ N22.toInt)))))) ∧ (((((N22.toInt < 16) ∧ (N22.toInt.toNat < 16)) ∧ ((19 ≠ (30 + 3 * N21.toInt.toNat)) ∧ (22 ≠ (30 + 3 * N21.toInt.toNat)))) ∧ (((20 ≠ (30 + 3 * N21.toInt.toNat)) ∧ (19 ≠ (30 + 3 * N22.toInt.toNat))) ∧ ((22 ≠ (30 + 3 * N22.toInt.toNat)) ∧ ((20 ≠ (30 + 3 * N22.toInt.toNat)) ∧ (4 < (xs 4).toInt))))) ∧ ((((0 ≤ N24.toInt) ∧ (N24.toInt < 16)) ∧ ((N24.toInt.toNat < 16) ∧ (0 ≤ N25.toInt))) ∧ (((N25.toInt < 16) ∧ (N25.toInt.toNat < 16)) ∧ ((19 ≠ (30 + 3 * N24.toInt.toNat)) ∧ ((22 ≠ (30 + 3 * N24.toInt.toNat)) ∧ (20 ≠ (30 + 3 * N24.toInt.toNat))))))))) ∧ (((((((19 ≠ (30 + 3 * N25.toInt.toNat)) ∧ (22 ≠ (30 + 3 * N25.toInt.toNat))) ∧ ((20 ≠ (30 + 3 * N25.toInt.toNat)) ∧ (5 < (xs 4).toInt))) ∧ (((0 ≤ N27.toInt) ∧ (N27.toInt < 16)) ∧ ((N27.toInt.toNat < 16) ∧ (0 ≤ N28.toInt)))) ∧ ((((N28.toInt < 16) ∧ (N28.toInt.toNat < 16)) ∧ ((19 ≠ (30 + 3 * N27.toInt.toNat)) ∧ (22 ≠ (30 + 3 * N27.toInt.toNat)))) ∧ (((20 ≠ (30 + 3 * N27.toInt.toNat)) ∧ (19 ≠ (30 + 3 * N28.toInt.toNat))) ∧ ((22 ≠ (30 + 3 * N28.toInt.toNat)) ∧ ((20 ≠ (30 + 3 * N28.toInt.toNat)) ∧ (6 < (xs 4).toInt)))))) ∧ (((((0 ≤ N30.toInt) ∧ (N30.toInt < 16)) ∧ ((N30.toInt.toNat < 16) ∧ (0 ≤ N31.toInt))) ∧ (((N31.toInt < 16) ∧ (N31.toInt.toNat < 16)) ∧ ((19 ≠ (30 + 3 * N30.toInt.toNat)) ∧ ((22 ≠ (30 + 3 * N30.toInt.toNat)) ∧ (20 ≠ (30 + 3 * N30.toInt.toNat)))))) ∧ ((((19 ≠ (30 + 3 * N31.toInt.toNat)) ∧ (22 ≠ (30 + 3 * N31.toInt.toNat))) ∧ ((20 ≠ (30 + 3 * N31.toInt.toNat)) ∧ (7 < (xs 4).toInt))) ∧ (((0 ≤ N33.toInt) ∧ (N33.toInt < 16)) ∧ ((N33.toInt.toNat < 16) ∧ ((0 ≤ N34.toInt) ∧ (N34.toInt < 16))))))) ∧ ((((((N34.toInt.toNat < 16) ∧ (19 ≠ (30 + 3 * N33.toInt.toNat))) ∧ ((22 ≠ (30 + 3 * N33.toInt.toNat)) ∧ (20 ≠ (30 + 3 * N33.toInt.toNat)))) ∧ (((19 ≠ (30 + 3 * N34.toInt.toNat)) ∧ (22 ≠ (30 + 3 * N34.toInt.toNat))) ∧ ((20 ≠ (30 + 3 * N34.toInt.toNat)) ∧ (8 < (xs 4).toInt)))) ∧ ((((0 ≤ N36.toInt) ∧ (N36.toInt < 16)) ∧ ((N36.toInt.toNat < 16) ∧ (0 ≤ N37.toInt))) ∧ (((N37.toInt < 16) ∧ (N37.toInt.toNat < 16)) ∧ ((19 ≠ (30 + 3 * N36.toInt.toNat)) ∧ ((22 ≠ (30 + 3 * N36.toInt.toNat)) ∧ (20 ≠ (30 + 3 * N36.toInt.toNat))))))) ∧ (((((19 ≠ (30 + 3 * N37.toInt.toNat)) ∧ (22 ≠ (30 + 3 * N37.toInt.toNat))) ∧ ((20 ≠ (30 + 3 * N37.toInt.toNat)) ∧ (9 < (xs 4).toInt))) ∧ (((0 ≤ N39.toInt) ∧ (N39.toInt < 16)) ∧ ((N39.toInt.toNat < 16) ∧ ((0 ≤ N40.toInt) ∧ (N40.toInt < 16))))) ∧ ((((N40.toInt.toNat < 16) ∧ (19 ≠ (30 + 3 * N39.toInt.toNat))) ∧ ((22 ≠ (30 + 3 * N39.toInt.toNat)) ∧ (20 ≠ (30 + 3 * N39.toInt.toNat)))) ∧ (((19 ≠ (30 + 3 * N40.toInt.toNat)) ∧ (22 ≠ (30 + 3 * N40.toInt.toNat))) ∧ ((20 ≠ (30 + 3 * N40.toInt.toNat)) ∧ ((10 < (xs 4).toInt) ∧ (0 ≤ N42.toInt))))))))) ∧ ((((((((N42.toInt < 16) ∧ (N42.toInt.toNat < 16)) ∧ ((0 ≤ N43.toInt) ∧ (N43.toInt < 16))) ∧ (((N43.toInt.toNat < 16) ∧ (19 ≠ (30 + 3 * N42.toInt.toNat))) ∧ ((22 ≠ (30 + 3 * N42.toInt.toNat)) ∧ (20 ≠ (30 + 3 * N42.toInt.toNat))))) ∧ ((((19 ≠ (30 + 3 * N43.toInt.toNat)) ∧ (22 ≠ (30 + 3 * N43.toInt.toNat))) ∧ ((20 ≠ (30 + 3 * N43.toInt.toNat)) ∧ (11 < (xs 4).toInt))) ∧ (((0 ≤ N45.toInt) ∧ (N45.toInt < 16)) ∧ ((N45.toInt.toNat < 16) ∧ ((0 ≤ N46.toInt) ∧ (N46.toInt < 16)))))) ∧ (((((N46.toInt.toNat < 16) ∧ (19 ≠ (30 + 3 * N45.toInt.toNat))) ∧ ((22 ≠ (30 + 3 * N45.toInt.toNat)) ∧ (20 ≠ (30 + 3 * N45.toInt.toNat)))) ∧ (((19 ≠ (30 + 3 * N46.toInt.toNat)) ∧ (22 ≠ (30 + 3 * N46.toInt.toNat))) ∧ ((20 ≠ (30 + 3 * N46.toInt.toNat)) ∧ ((12 < (xs 4).toInt) ∧ (0 ≤ N48.toInt))))) ∧ ((((N48.toInt < 16) ∧ (N48.toInt.toNat < 16)) ∧ ((0 ≤ N49.toInt) ∧ (N49.toInt < 16))) ∧ (((N49.toInt.toNat < 16) ∧ (19 ≠ (30 + 3 * N48.toInt.toNat))) ∧ ((22 ≠ (30 + 3 * N48.toInt.toNat)) ∧ ((20 ≠ (30 + 3 * N48.toInt.toNat)) ∧ (19 ≠ (30 + 3 * N49.toInt.toNat)))))))) ∧ ((((((22 ≠ (30 + 3 * N49.toInt.toNat)) ∧ (20 ≠ (30 + 3 * N49.toInt.toNat))) ∧ ((13 < (xs 4).toInt) ∧ (0 ≤ N51.toInt))) ∧ (((N51.toInt < 16) ∧ (N51.toInt.toNat < 16)) ∧ ((0 ≤ N52.toInt) ∧ (N52.toInt < 16)))) ∧ ((((N52.toInt.toNat < 16) ∧ (19 ≠ (30 + 3 * N51.toInt.toNat))) ∧ ((22 ≠ (30 + 3 * N51.toInt.toNat)) ∧ (20 ≠ (30 + 3 * N51.toInt.toNat)))) ∧ (((19 ≠ (30 + 3 * N52.toInt.toNat)) ∧ (22 ≠ (30 + 3 * N52.toInt.toNat))) ∧ ((20 ≠ (30 + 3 * N52.toInt.toNat)) ∧ ((14 < (xs 4).toInt) ∧ (0 ≤ N54.toInt)))))) ∧ (((((N54.toInt < 16) ∧ (N54.toInt.toNat < 16)) ∧ ((0 ≤ N55.toInt) ∧ (N55.toInt < 16))) ∧ (((N55.toInt.toNat < 16) ∧ (19 ≠ (30 + 3 * N54.toInt.toNat))) ∧ ((22 ≠ (30 + 3 * N54.toInt.toNat)) ∧ ((20 ≠ (30 + 3 * N54.toInt.toNat)) ∧ (19 ≠ (30 + 3 * N55.toInt.toNat)))))) ∧ ((((22 ≠ (30 + 3 * N55.toInt.toNat)) ∧ (20 ≠ (30 + 3 * N55.toInt.toNat))) ∧ (((xs 4).toInt ≤ 15) ∧ ((xs 1).toInt.toNat < 16))) ∧ (((19 ≠ (30 + 3 * (xs 1).toInt.toNat)) ∧ (22 ≠ (30 + 3 * (xs 1).toInt.toNat))) ∧ ((20 ≠ (30 + 3 * (xs 1).toInt.toNat)) ∧ ((7 ≤ (30 + 3 * (xs 1).toInt.toNat)) ∧ ((30 + 3 * (xs 1).toInt.toNat) ≠ 194)))))))) ∧ ((((((((30 + 3 * (xs 1).toInt.toNat) ≠ 0) ∧ ((30 + 3 * (xs 1).toInt.toNat) ≠ 128)) ∧ (((xs 1).toInt ≤ 15) ∧ ((xs 2).toInt ≤ 15))) ∧ ((((xs 3).toInt ≤ 15) ∧ ((30 + 3 * (xs 1).toInt.toNat) ≠ 154)) ∧ (((xs 2).toInt < 17) ∧ ((xs 3).toInt < 17)))) ∧ (((((30 + 3 * (xs 1).toInt.toNat) ≠ 156) ∧ ((30 + 3 * (xs 1).toInt.toNat) ≠ 155)) ∧ (((30 + 3 * (xs 1).toInt.toNat) ≠ 153) ∧ ((xs 2).toInt.toNat < 17))) ∧ ((((xs 3).toInt.toNat < 17) ∧ (N15.toInt < 17)) ∧ ((N16.toInt < 17) ∧ ((N15.toInt.toNat < 17) ∧ (N16.toInt.toNat < 17)))))) ∧ (((((N18.toInt < 17) ∧ (N19.toInt < 17)) ∧ ((N18.toInt.toNat < 17) ∧ (N19.toInt.toNat < 17))) ∧ (((N21.toInt < 17) ∧ (N22.toInt < 17)) ∧ ((N21.toInt.toNat < 17) ∧ ((N22.toInt.toNat < 17) ∧ (N24.toInt < 17))))) ∧ ((((N25.toInt < 17) ∧ (N24.toInt.toNat < 17)) ∧ ((N25.toInt.toNat < 17) ∧ (N27.toInt < 17))) ∧ (((N28.toInt < 17) ∧ (N27.toInt.toNat < 17)) ∧ ((N28.toInt.toNat < 17) ∧ ((N30.toInt < 17) ∧ (N31.toInt < 17))))))) ∧ ((((((N30.toInt.toNat < 17) ∧ (N31.toInt.toNat < 17)) ∧ ((N33.toInt < 17) ∧ (N34.toInt < 17))) ∧ (((N33.toInt.toNat < 17) ∧ (N34.toInt.toNat < 17)) ∧ ((N36.toInt < 17) ∧ (N37.toInt < 17)))) ∧ ((((N36.toInt.toNat < 17) ∧ (N37.toInt.toNat < 17)) ∧ ((N39.toInt < 17) ∧ (N40.toInt < 17))) ∧ (((N39.toInt.toNat < 17) ∧ (N40.toInt.toNat < 17)) ∧ ((N42.toInt < 17) ∧ ((N43.toInt < 17) ∧ (N42.toInt.toNat < 17)))))) ∧ (((((N43.toInt.toNat < 17) ∧ (N45.toInt < 17)) ∧ ((N46.toInt < 17) ∧ (N45.toInt.toNat < 17))) ∧ (((N46.toInt.toNat < 17) ∧ (N48.toInt < 17)) ∧ ((N49.toInt < 17) ∧ ((N48.toInt.toNat < 17) ∧ (N49.toInt.toNat < 17))))) ∧ ((((N51.toInt < 17) ∧ (N52.toInt < 17)) ∧ ((N51.toInt.toNat < 17) ∧ (N52.toInt.toNat < 17))) ∧ (((N54.toInt < 17) ∧ (N55.toInt < 17)) ∧ ((N54.toInt.toNat < 17) ∧ ((N55.toInt.toNat < 17) ∧ ((xs 1).toInt < 17)))))))))) := g_11_16 h0 c0 c1 c2 c3 c4 c5 nN6 c7 c8 c9 nN10 c11 c12 c13 c14 nN15 nN16 c17 nN18 nN19 c20 nN21 nN22 c23 nN24 nN25 c26 nN27 nN28 c29 nN30 nN31 c32 nN33 nN34 c35 nN36 nN37 c38 nN39 nN40 c41 nN42 nN43 c44 nN45 nN46 c47 nN48 nN49 c50 nN51 nN52 c53 nN54 nN55 c56
  refine ⟨((((((((((((((((((((((((W0 6 xs).set 20 (Sum.inr (3, [Value.ref 21, Value.int 0]))).set 22 (Sum.inr (3, [Value.ref 23, Value.int 0]))).set 19 (Sum.inr (5, [Value.ref 20, Value.ref 22, Value.ref 24, Value.ref 26, Value.int 0, Value.int 0, Value.int 0, Value.int 0, Value.int 0, Value.int 0, Value.int 0, Value.int 0]))).set 19 (Sum.inr (5, [Value.ref 20, Value.ref 22, Value.ref 24, Value.ref 26, Value.int 0, Value.int 1, Value.int 0, Value.int 0, Value.int 0, Value.int 0, Value.int 0, Value.int 0]))).set 19 (Sum.inr (5, [Value.ref 20, Value.ref 22, Value.ref 24, Value.ref 26, Value.int 0, Value.int 1, Value.int 0, Value.int 0, Value.int 0, Value.int 0, Value.int 0, Value.int 0]))).set 19 (Sum.inr (5, [Value.ref 20, Value.ref 22, Value.ref 24, Value.ref 26, Value.int 0, Value.int 1, Value.int 0, Value.int 0, Value.int 0, Value.int 0, Value.int 0, Value.int 0]))).set 19 (Sum.inr (5, [Value.ref 20, Value.ref 22, Value.ref 24, Value.ref 26, Value.int 0, Value.int 1, Value.int 0, Value.int 0, Value.int 0, Value.int 0, Value.int 0, Value.int 0]))).set 19 (Sum.inr (5, [Value.ref 20, Value.ref 22, Value.ref 24, Value.ref 26, Value.int 0, Value.int 1, Value.int 0, Value.int 0, Value.int 0, Value.int 0, Value.int 0, Value.int 0]))).set 19 (Sum.inr (5, [Value.ref 20, Value.ref 22, Value.ref 24, Value.ref 26, Value.int 0, Value.int 1, Value.int 0, Value.int 0, Value.int 0, Value.int 0, Value.int 0, Value.int 0]))).set 19 (Sum.inr (5, [Value.ref 20, Value.ref 22, Value.ref 24, Value.ref 26, Value.int 0, Value.int 1, Value.int 0, Value.int 0, Value.int 0, Value.int 0, Value.int 0, Value.int 0]))).set 19 (Sum.inr (5, [Value.ref 20, Value.ref 22, Value.ref 24, Value.ref 26, Value.int 0, Value.int 1, Value.int 0, Value.int 0, Value.int 0, Value.int 0, Value.int 0, Value.int 0]))).set 19 (Sum.inr (5, [Value.ref 20, Value.ref 22, Value.ref 24, Value.ref 26, Value.int 0, Value.int 1, Value.int 0, Value.int 0, Value.int 0, Value.int 0, Value.int 0, Value.int 0]))).set 19 (Sum.inr (5, [Value.ref 20, Value.ref 22, Value.ref 24, Value.ref 26, Value.int 0, Value.int 1, Value.int 0, Value.int 0, Value.int 0, Value.int 0, Value.int 0, Value.int 0]))).set 19 (Sum.inr (5, [Value.ref 20, Value.ref 22, Value.ref 24, Value.ref 26, Value.int 0, Value.int 1, Value.int 0, Value.int 0, Value.int 0, Value.int 0, Value.int 0, Value.int 0]))).set 19 (Sum.inr (5, [Value.ref 20, Value.ref 22, Value.ref 24, Value.ref 26, Value.int 0, Value.int 1, Value.int 0, Value.int 0, Value.int 0, Value.int 0, Value.int 0, Value.int 0]))).set 19 (Sum.inr (5, [Value.ref 20, Value.ref 22, Value.ref 24, Value.ref 26, Value.int 0, Value.int 1, Value.int 0, Value.int 0, Value.int 0, Value.int 0, Value.int 0, Value.int 0]))).set 19 (Sum.inr (5, [Value.ref 20, Value.ref 22, Value.ref 24, Value.ref 26, Value.int 0, Value.int 1, Value.int 0, Value.int 0, Value.int 0, Value.int 0, Value.int 0, Value.int 0]))).set 19 (Sum.inr (5, [Value.ref 20, Value.ref 22, Value.ref 24, Value.ref 26, Value.int 0, Value.int 1, Value.int 0, Value.int 0, Value.int 0, Value.int 0, Value.int 0, Value.int 0]))).set (30 + 3 * (xs 1).toInt.toNat) (Sum.inr (2, [Value.int 64, Value.int 0, Value.int 0, Value.int 0, Value.ref (31 + 3 * (xs 1).toInt.toNat)]))).set 194 (Sum.inl (3, 1, xup (fun _ => Value.long 0) (0 : Int32).toInt.toNat (Value.long 0)))).set 128 (Sum.inr (12, [Value.ref 129, Value.ref 131, Value.ref 133, Value.ref 135, Value.ref 137, Value.ref 139, Value.ref 141, Value.ref 143, Value.ref 145, Value.ref 147, Value.ref 149, Value.ref 151, Value.ref 153, Value.ref 154, Value.ref 155, Value.ref 156, Value.ref 157, Value.int (-16384), Value.int 16384, Value.int 0, Value.int 0, Value.int 0, Value.ref 158, Value.ref 159, Value.int 0, Value.int 0, Value.int 0, Value.int 0, Value.int 0, Value.int 0, Value.int 0, Value.int 0]))).set 154 (Sum.inl (0, 17, xup (fun _ => Value.int 0) (xs 1).toInt.toNat (Value.int 0)))).set 156 (Sum.inl (2, 17, xup (fun _ => Value.int 0) (xs 1).toInt.toNat (Value.int 0)))), ?_, (show xLs _ 220 200000 from ?_)⟩
  · refine i_287_23 (x := 0) rfl ?_
    refine i_287_25 (x := 0) rfl ?_
    refine i_287_26 (c := 6) W0_0 (by decide) ?_
    refine i_287_27 ?_
    refine i_287_29 (c := 0) (by decide) ?_
    refine i_287_30 (fun h => absurd h (by decide)) (fun _ => ?_)
    refine i_287_33 (x := 0) rfl ?_
    refine i_287_34 (x := 0) rfl ?_
    refine i_287_36 (v := Value.int (xs 0)) W0_0 (by decide) (by decide) rfl ?_
    refine i_287_37 ?_
    refine i_287_39 (c := 11) (show ((xs 0) &&& (31 : Int32)) = 11 from (xge_c (n := 11) h0 rfl)) ?_
    refine i_287_40_11 rfl ?_
    refine i_287_1149 (x := 7) rfl ?_
    refine i_287_1150 (x := 0) rfl ?_
    refine i_287_1151 (x := 0) rfl ?_
    refine i_287_1153 ?_
    refine i_287_1154 (c := 1) (by decide) ?_
    refine i_287_1155 (v := Value.int (xs 1)) W0_0 (by decide) (by decide) rfl ?_
    refine i_287_1156 (x := 0) rfl ?_
    refine i_287_1157 (x := 0) rfl ?_
    refine i_287_1159 ?_
    refine i_287_1160 (c := 2) (by decide) ?_
    refine i_287_1161 (v := Value.int (xs 2)) W0_0 (by decide) (by decide) rfl ?_
    refine i_287_1162 (x := 0) rfl ?_
    refine i_287_1163 (x := 0) rfl ?_
    refine i_287_1165 ?_
    refine i_287_1166 (c := 3) (by decide) ?_
    refine i_287_1167 (v := Value.int (xs 3)) W0_0 (by decide) (by decide) rfl ?_
    refine i_287_1168 (x := 0) rfl ?_
    refine i_287_1169 (x := 0) rfl ?_
    refine i_287_1171 ?_
    refine i_287_1172 (c := 4) (by decide) ?_
    refine i_287_1173 (v := Value.int (xs 4)) W0_0 (by decide) (by decide) rfl ?_
    refine i_287_1174 (x := 0) rfl ?_
    refine i_287_1175 (x := 0) rfl ?_
    refine i_287_1177 ?_
    refine i_287_1178 (c := 5) (by decide) ?_
    refine i_287_1179 (v := Value.int (xs 5)) W0_0 (by decide) (by decide) rfl ?_
    refine i_287_1180 (x := 194) rfl ?_
    refine i_287_1181 (Nat.le_of_ble_eq_true rfl) (p_114_10 W0_7 (G.1.1.1.1.1.1.1.1) (G.1.1.1.1.1.1.1.2) (G.1.1.1.1.1.1.2.1) (G.1.1.1.1.1.1.2.2) (G.1.1.1.1.1.2.1.1) (G.1.1.1.1.1.2.1.2) (show ((xs 2) + (xs 4)) = N6 from eN6) (G.1.1.1.1.1.2.2.1) (G.1.1.1.1.1.2.2.2) (G.1.1.1.1.2.1.1.1) (show ((xs 3) + (xs 4)) = N10 from eN10) (G.1.1.1.1.2.1.1.2) (G.1.1.1.1.2.1.2.1) (G.1.1.1.1.2.1.2.2) W0_19 W0_20 W0_22 (G.1.1.1.1.2.2.1.1) (show ((xs 2) + (0 : Int32)) = (xs 2) from (xadd_z _)) W0_8 (greg_at G.1.1.1.1.2.2.1.2) (show ((xs 3) + (0 : Int32)) = (xs 3) from (xadd_z _)) (greg_at G.1.1.1.1.2.2.2.1) (G.1.1.1.1.2.2.2.2.1) (G.1.1.1.1.2.2.2.2.2) (G.1.1.1.2.1.1.1.1) (W0_reg G.1.1.1.1.2.2.1.2) (G.1.1.1.2.1.1.1.2) (G.1.1.1.2.1.1.2.1) (G.1.1.1.2.1.1.2.2) (W0_reg G.1.1.1.1.2.2.2.1) (G.1.1.1.2.1.2.1.1) (show ((xs 2) + (1 : Int32)) = N15 from eN15) (G.1.1.1.2.1.2.1.2) (G.1.1.1.2.1.2.2.1) (greg_at G.1.1.1.2.1.2.2.2.1) (show ((xs 3) + (1 : Int32)) = N16 from eN16) (G.1.1.1.2.1.2.2.2.2) (G.1.1.1.2.2.1.1.1) (greg_at G.1.1.1.2.2.1.1.2) (G.1.1.1.2.2.1.2.1) (G.1.1.1.2.2.1.2.2) (G.1.1.1.2.2.2.1.1) (W0_reg G.1.1.1.2.1.2.2.2.1) (G.1.1.1.2.2.2.1.2) (G.1.1.1.2.2.2.2.1) (G.1.1.1.2.2.2.2.2.1) (W0_reg G.1.1.1.2.2.1.1.2) (G.1.1.1.2.2.2.2.2.2) (show ((xs 2) + (2 : Int32)) = N18 from eN18) (G.1.1.2.1.1.1.1.1) (G.1.1.2.1.1.1.1.2) (greg_at G.1.1.2.1.1.1.2.1) (show ((xs 3) + (2 : Int32)) = N19 from eN19) (G.1.1.2.1.1.1.2.2) (G.1.1.2.1.1.2.1.1) (greg_at G.1.1.2.1.1.2.1.2) (G.1.1.2.1.1.2.2.1) (G.1.1.2.1.1.2.2.2) (G.1.1.2.1.2.1.1.1) (W0_reg G.1.1.2.1.1.1.2.1) (G.1.1.2.1.2.1.1.2) (G.1.1.2.1.2.1.2.1) (G.1.1.2.1.2.1.2.2) (W0_reg G.1.1.2.1.1.2.1.2) (G.1.1.2.1.2.2.1.1) (show ((xs 2) + (3 : Int32)) = N21 from eN21) (G.1.1.2.1.2.2.1.2) (G.1.1.2.1.2.2.2.1) (greg_at G.1.1.2.1.2.2.2.2.1) (show ((xs 3) + (3 : Int32)) = N22 from eN22) (G.1.1.2.1.2.2.2.2.2) (G.1.1.2.2.1.1.1.1) (greg_at G.1.1.2.2.1.1.1.2) (G.1.1.2.2.1.1.2.1) (G.1.1.2.2.1.1.2.2) (G.1.1.2.2.1.2.1.1) (W0_reg G.1.1.2.1.2.2.2.2.1) (G.1.1.2.2.1.2.1.2) (G.1.1.2.2.1.2.2.1) (G.1.1.2.2.1.2.2.2.1) (W0_reg G.1.1.2.2.1.1.1.2) (G.1.1.2.2.1.2.2.2.2) (show ((xs 2) + (4 : Int32)) = N24 from eN24) (G.1.1.2.2.2.1.1.1) (G.1.1.2.2.2.1.1.2) (greg_at G.1.1.2.2.2.1.2.1) (show ((xs 3) + (4 : Int32)) = N25 from eN25) (G.1.1.2.2.2.1.2.2) (G.1.1.2.2.2.2.1.1) (greg_at G.1.1.2.2.2.2.1.2) (G.1.1.2.2.2.2.2.1) (G.1.1.2.2.2.2.2.2.1) (G.1.1.2.2.2.2.2.2.2) (W0_reg G.1.1.2.2.2.1.2.1) (G.1.2.1.1.1.1.1.1) (G.1.2.1.1.1.1.1.2) (G.1.2.1.1.1.1.2.1) (W0_reg G.1.1.2.2.2.2.1.2) (G.1.2.1.1.1.1.2.2) (show ((xs 2) + (5 : Int32)) = N27 from eN27) (G.1.2.1.1.1.2.1.1) (G.1.2.1.1.1.2.1.2) (greg_at G.1.2.1.1.1.2.2.1) (show ((xs 3) + (5 : Int32)) = N28 from eN28) (G.1.2.1.1.1.2.2.2) (G.1.2.1.1.2.1.1.1) (greg_at G.1.2.1.1.2.1.1.2) (G.1.2.1.1.2.1.2.1) (G.1.2.1.1.2.1.2.2) (G.1.2.1.1.2.2.1.1) (W0_reg G.1.2.1.1.1.2.2.1) (G.1.2.1.1.2.2.1.2) (G.1.2.1.1.2.2.2.1) (G.1.2.1.1.2.2.2.2.1) (W0_reg G.1.2.1.1.2.1.1.2) (G.1.2.1.1.2.2.2.2.2) (show ((xs 2) + (6 : Int32)) = N30 from eN30) (G.1.2.1.2.1.1.1.1) (G.1.2.1.2.1.1.1.2) (greg_at G.1.2.1.2.1.1.2.1) (show ((xs 3) + (6 : Int32)) = N31 from eN31) (G.1.2.1.2.1.1.2.2) (G.1.2.1.2.1.2.1.1) (greg_at G.1.2.1.2.1.2.1.2) (G.1.2.1.2.1.2.2.1) (G.1.2.1.2.1.2.2.2.1) (G.1.2.1.2.1.2.2.2.2) (W0_reg G.1.2.1.2.1.1.2.1) (G.1.2.1.2.2.1.1.1) (G.1.2.1.2.2.1.1.2) (G.1.2.1.2.2.1.2.1) (W0_reg G.1.2.1.2.1.2.1.2) (G.1.2.1.2.2.1.2.2) (show ((xs 2) + (7 : Int32)) = N33 from eN33) (G.1.2.1.2.2.2.1.1) (G.1.2.1.2.2.2.1.2) (greg_at G.1.2.1.2.2.2.2.1) (show ((xs 3) + (7 : Int32)) = N34 from eN34) (G.1.2.1.2.2.2.2.2.1) (G.1.2.1.2.2.2.2.2.2) (greg_at G.1.2.2.1.1.1.1.1) (G.1.2.2.1.1.1.1.2) (G.1.2.2.1.1.1.2.1) (G.1.2.2.1.1.1.2.2) (W0_reg G.1.2.1.2.2.2.2.1) (G.1.2.2.1.1.2.1.1) (G.1.2.2.1.1.2.1.2) (G.1.2.2.1.1.2.2.1) (W0_reg G.1.2.2.1.1.1.1.1) (G.1.2.2.1.1.2.2.2) (show ((xs 2) + (8 : Int32)) = N36 from eN36) (G.1.2.2.1.2.1.1.1) (G.1.2.2.1.2.1.1.2) (greg_at G.1.2.2.1.2.1.2.1) (show ((xs 3) + (8 : Int32)) = N37 from eN37) (G.1.2.2.1.2.1.2.2) (G.1.2.2.1.2.2.1.1) (greg_at G.1.2.2.1.2.2.1.2) (G.1.2.2.1.2.2.2.1) (G.1.2.2.1.2.2.2.2.1) (G.1.2.2.1.2.2.2.2.2) (W0_reg G.1.2.2.1.2.1.2.1) (G.1.2.2.2.1.1.1.1) (G.1.2.2.2.1.1.1.2) (G.1.2.2.2.1.1.2.1) (W0_reg G.1.2.2.1.2.2.1.2) (G.1.2.2.2.1.1.2.2) (show ((xs 2) + (9 : Int32)) = N39 from eN39) (G.1.2.2.2.1.2.1.1) (G.1.2.2.2.1.2.1.2) (greg_at G.1.2.2.2.1.2.2.1) (show ((xs 3) + (9 : Int32)) = N40 from eN40) (G.1.2.2.2.1.2.2.2.1) (G.1.2.2.2.1.2.2.2.2) (greg_at G.1.2.2.2.2.1.1.1) (G.1.2.2.2.2.1.1.2) (G.1.2.2.2.2.1.2.1) (G.1.2.2.2.2.1.2.2) (W0_reg G.1.2.2.2.1.2.2.1) (G.1.2.2.2.2.2.1.1) (G.1.2.2.2.2.2.1.2) (G.1.2.2.2.2.2.2.1) (W0_reg G.1.2.2.2.2.1.1.1) (G.1.2.2.2.2.2.2.2.1) (show ((xs 2) + (10 : Int32)) = N42 from eN42) (G.1.2.2.2.2.2.2.2.2) (G.2.1.1.1.1.1.1.1) (greg_at G.2.1.1.1.1.1.1.2) (show ((xs 3) + (10 : Int32)) = N43 from eN43) (G.2.1.1.1.1.1.2.1) (G.2.1.1.1.1.1.2.2) (greg_at G.2.1.1.1.1.2.1.1) (G.2.1.1.1.1.2.1.2) (G.2.1.1.1.1.2.2.1) (G.2.1.1.1.1.2.2.2) (W0_reg G.2.1.1.1.1.1.1.2) (G.2.1.1.1.2.1.1.1) (G.2.1.1.1.2.1.1.2) (G.2.1.1.1.2.1.2.1) (W0_reg G.2.1.1.1.1.2.1.1) (G.2.1.1.1.2.1.2.2) (show ((xs 2) + (11 : Int32)) = N45 from eN45) (G.2.1.1.1.2.2.1.1) (G.2.1.1.1.2.2.1.2) (greg_at G.2.1.1.1.2.2.2.1) (show ((xs 3) + (11 : Int32)) = N46 from eN46) (G.2.1.1.1.2.2.2.2.1) (G.2.1.1.1.2.2.2.2.2) (greg_at G.2.1.1.2.1.1.1.1) (G.2.1.1.2.1.1.1.2) (G.2.1.1.2.1.1.2.1) (G.2.1.1.2.1.1.2.2) (W0_reg G.2.1.1.1.2.2.2.1) (G.2.1.1.2.1.2.1.1) (G.2.1.1.2.1.2.1.2) (G.2.1.1.2.1.2.2.1) (W0_reg G.2.1.1.2.1.1.1.1) (G.2.1.1.2.1.2.2.2.1) (show ((xs 2) + (12 : Int32)) = N48 from eN48) (G.2.1.1.2.1.2.2.2.2) (G.2.1.1.2.2.1.1.1) (greg_at G.2.1.1.2.2.1.1.2) (show ((xs 3) + (12 : Int32)) = N49 from eN49) (G.2.1.1.2.2.1.2.1) (G.2.1.1.2.2.1.2.2) (greg_at G.2.1.1.2.2.2.1.1) (G.2.1.1.2.2.2.1.2) (G.2.1.1.2.2.2.2.1) (G.2.1.1.2.2.2.2.2.1) (W0_reg G.2.1.1.2.2.1.1.2) (G.2.1.1.2.2.2.2.2.2) (G.2.1.2.1.1.1.1.1) (G.2.1.2.1.1.1.1.2) (W0_reg G.2.1.1.2.2.2.1.1) (G.2.1.2.1.1.1.2.1) (show ((xs 2) + (13 : Int32)) = N51 from eN51) (G.2.1.2.1.1.1.2.2) (G.2.1.2.1.1.2.1.1) (greg_at G.2.1.2.1.1.2.1.2) (show ((xs 3) + (13 : Int32)) = N52 from eN52) (G.2.1.2.1.1.2.2.1) (G.2.1.2.1.1.2.2.2) (greg_at G.2.1.2.1.2.1.1.1) (G.2.1.2.1.2.1.1.2) (G.2.1.2.1.2.1.2.1) (G.2.1.2.1.2.1.2.2) (W0_reg G.2.1.2.1.1.2.1.2) (G.2.1.2.1.2.2.1.1) (G.2.1.2.1.2.2.1.2) (G.2.1.2.1.2.2.2.1) (W0_reg G.2.1.2.1.2.1.1.1) (G.2.1.2.1.2.2.2.2.1) (show ((xs 2) + (14 : Int32)) = N54 from eN54) (G.2.1.2.1.2.2.2.2.2) (G.2.1.2.2.1.1.1.1) (greg_at G.2.1.2.2.1.1.1.2) (show ((xs 3) + (14 : Int32)) = N55 from eN55) (G.2.1.2.2.1.1.2.1) (G.2.1.2.2.1.1.2.2) (greg_at G.2.1.2.2.1.2.1.1) (G.2.1.2.2.1.2.1.2) (G.2.1.2.2.1.2.2.1) (G.2.1.2.2.1.2.2.2.1) (W0_reg G.2.1.2.2.1.1.1.2) (G.2.1.2.2.1.2.2.2.2) (G.2.1.2.2.2.1.1.1) (G.2.1.2.2.2.1.1.2) (W0_reg G.2.1.2.2.1.2.1.1) (G.2.1.2.2.2.1.2.1) (greg_at G.2.1.2.2.2.1.2.2) (G.2.1.2.2.2.2.1.1) (G.2.1.2.2.2.2.1.2) (G.2.1.2.2.2.2.2.1) (W0_reg G.2.1.2.2.2.1.2.2) (G.2.1.2.2.2.2.2.2.1) (G.2.1.2.2.2.2.2.2.2) W0_194) ?_
    refine i_287_1184 (lv2 := [(5, Value.int 0), (4, Value.int 0), (3, Value.ref 194), (2, Value.ref 128), (1, Value.ref 7), (0, Value.ref 0)]) rfl ?_
    refine i_287_1186 (x := 128) rfl ?_
    refine i_287_1187 (x := 0) rfl ?_
    refine i_287_1188 (x := 0) rfl ?_
    refine i_287_1190 ?_
    refine i_287_1191 (c := 1) (by decide) ?_
    refine i_287_1192 (v := Value.int (xs 1)) (xgn (by decide) (xgn (G.2.2.1.1.1.1.1.1) (xgn (by decide) (xgn (by decide) (xgn (by decide) (xgn (by decide) (xgn (by decide) (xgn (by decide) (xgn (by decide) (xgn (by decide) (xgn (by decide) (xgn (by decide) (xgn (by decide) (xgn (by decide) (xgn (by decide) (xgn (by decide) (xgn (by decide) (xgn (by decide) (xgn (by decide) (xgn (by decide) W0_0)))))))))))))))))))) (by decide) (by decide) rfl ?_
    refine i_287_1193 (x := 0) rfl ?_
    refine i_287_1194 (x := 0) rfl ?_
    refine i_287_1196 ?_
    refine i_287_1197 (c := 2) (by decide) ?_
    refine i_287_1198 (v := Value.int (xs 2)) (xgn (by decide) (xgn (G.2.2.1.1.1.1.1.1) (xgn (by decide) (xgn (by decide) (xgn (by decide) (xgn (by decide) (xgn (by decide) (xgn (by decide) (xgn (by decide) (xgn (by decide) (xgn (by decide) (xgn (by decide) (xgn (by decide) (xgn (by decide) (xgn (by decide) (xgn (by decide) (xgn (by decide) (xgn (by decide) (xgn (by decide) (xgn (by decide) W0_0)))))))))))))))))))) (by decide) (by decide) rfl ?_
    refine i_287_1199 (x := 0) rfl ?_
    refine i_287_1200 (x := 0) rfl ?_
    refine i_287_1202 ?_
    refine i_287_1203 (c := 3) (by decide) ?_
    refine i_287_1204 (v := Value.int (xs 3)) (xgn (by decide) (xgn (G.2.2.1.1.1.1.1.1) (xgn (by decide) (xgn (by decide) (xgn (by decide) (xgn (by decide) (xgn (by decide) (xgn (by decide) (xgn (by decide) (xgn (by decide) (xgn (by decide) (xgn (by decide) (xgn (by decide) (xgn (by decide) (xgn (by decide) (xgn (by decide) (xgn (by decide) (xgn (by decide) (xgn (by decide) (xgn (by decide) W0_0)))))))))))))))))))) (by decide) (by decide) rfl ?_
    refine i_287_1205 (x := 0) rfl ?_
    refine i_287_1206 (x := 0) rfl ?_
    refine i_287_1208 ?_
    refine i_287_1209 (c := 4) (by decide) ?_
    refine i_287_1210 (v := Value.int (xs 4)) (xgn (by decide) (xgn (G.2.2.1.1.1.1.1.1) (xgn (by decide) (xgn (by decide) (xgn (by decide) (xgn (by decide) (xgn (by decide) (xgn (by decide) (xgn (by decide) (xgn (by decide) (xgn (by decide) (xgn (by decide) (xgn (by decide) (xgn (by decide) (xgn (by decide) (xgn (by decide) (xgn (by decide) (xgn (by decide) (xgn (by decide) (xgn (by decide) W0_0)))))))))))))))))))) (by decide) (by decide) rfl ?_
    refine i_287_1211 (x := 0) rfl ?_
    refine i_287_1212 (x := 0) rfl ?_
    refine i_287_1214 ?_
    refine i_287_1215 (c := 5) (by decide) ?_
    refine i_287_1216 (v := Value.int (xs 5)) (xgn (by decide) (xgn (G.2.2.1.1.1.1.1.1) (xgn (by decide) (xgn (by decide) (xgn (by decide) (xgn (by decide) (xgn (by decide) (xgn (by decide) (xgn (by decide) (xgn (by decide) (xgn (by decide) (xgn (by decide) (xgn (by decide) (xgn (by decide) (xgn (by decide) (xgn (by decide) (xgn (by decide) (xgn (by decide) (xgn (by decide) (xgn (by decide) W0_0)))))))))))))))))))) (by decide) (by decide) rfl ?_
    refine i_287_1217 (xgn (by decide) (xgn (G.2.2.1.1.1.1.1.2) (xgn (by decide) (xgn (by decide) (xgn (by decide) (xgn (by decide) (xgn (by decide) (xgn (by decide) (xgn (by decide) (xgn (by decide) (xgn (by decide) (xgn (by decide) (xgn (by decide) (xgn (by decide) (xgn (by decide) (xgn (by decide) (xgn (by decide) (xgn (by decide) (xgn (by decide) (xgn (by decide) W0_128)))))))))))))))))))) (Nat.le_of_ble_eq_true rfl) (p_230_11 (xgn (by decide) (xgn (G.2.2.1.1.1.1.1.2) (xgn (by decide) (xgn (by decide) (xgn (by decide) (xgn (by decide) (xgn (by decide) (xgn (by decide) (xgn (by decide) (xgn (by decide) (xgn (by decide) (xgn (by decide) (xgn (by decide) (xgn (by decide) (xgn (by decide) (xgn (by decide) (xgn (by decide) (xgn (by decide) (xgn (by decide) (xgn (by decide) W0_128)))))))))))))))))))) (G.1.1.1.1.1.1.1.1) (G.2.2.1.1.1.1.2.1) (G.1.1.1.1.1.1.2.1) (G.2.2.1.1.1.1.2.2) (G.1.1.1.1.1.2.2.2) (G.2.2.1.1.1.2.1.1) (G.1.1.1.1.1.2.1.1) (G.1.1.1.1.1.2.1.2) (show ((xs 2) + (xs 4)) = N6 from eN6) (G.1.1.1.1.1.2.2.1) (show ((xs 3) + (xs 4)) = N10 from eN10) (G.1.1.1.1.2.1.1.2) (G.1.1.1.1.2.1.2.1) (G.1.1.1.1.2.1.2.2) (G.1.1.1.1.2.2.1.1) (show ((xs 2) + (0 : Int32)) = (xs 2) from (xadd_z _)) (show ((xs 3) + (0 : Int32)) = (xs 3) from (xadd_z _)) (xgn (by decide) (xgn (G.2.2.1.1.1.2.1.2) (xgn (by decide) (xgn (by decide) (xgn (by decide) (xgn (by decide) (xgn (by decide) (xgn (by decide) (xgn (by decide) (xgn (by decide) (xgn (by decide) (xgn (by decide) (xgn (by decide) (xgn (by decide) (xgn (by decide) (xgn (by decide) (xgn (by decide) (xgn (by decide) (xgn (by decide) (xgn (by decide) W0_154)))))))))))))))))))) (G.2.2.1.1.1.2.2.1) (G.2.2.1.1.1.2.2.2) (xgn (by decide) (xgn (G.2.2.1.1.2.1.1.1) (xgn (by decide) (xgn (by decide) (xgn (by decide) (xgn (by decide) (xgn (by decide) (xgn (by decide) (xgn (by decide) (xgn (by decide) (xgn (by decide) (xgn (by decide) (xgn (by decide) (xgn (by decide) (xgn (by decide) (xgn (by decide) (xgn (by decide) (xgn (by decide) (xgn (by decide) (xgn (by decide) W0_156)))))))))))))))))))) (xgn (by decide) (xgn (G.2.2.1.1.2.1.1.2) (xgn (by decide) (xgn (by decide) (xgn (by decide) (xgn (by decide) (xgn (by decide) (xgn (by decide) (xgn (by decide) (xgn (by decide) (xgn (by decide) (xgn (by decide) (xgn (by decide) (xgn (by decide) (xgn (by decide) (xgn (by decide) (xgn (by decide) (xgn (by decide) (xgn (by decide) (xgn (by decide) W0_155)))))))))))))))))))) (xgn (by decide) (xgn (G.2.2.1.1.2.1.2.1) (xgn (by decide) (xgn (by decide) (xgn (by decide) (xgn (by decide) (xgn (by decide) (xgn (by decide) (xgn (by decide) (xgn (by decide) (xgn (by decide) (xgn (by decide) (xgn (by decide) (xgn (by decide) (xgn (by decide) (xgn (by decide) (xgn (by decide) (xgn (by decide) (xgn (by decide) (xgn (by decide) W0_153)))))))))))))))))))) (gprec_at G.2.2.1.1.2.1.2.2) (gprec_at G.2.2.1.1.2.2.1.1) (G.1.1.1.2.1.2.1.1) (show ((xs 2) + (1 : Int32)) = N15 from eN15) (show ((xs 3) + (1 : Int32)) = N16 from eN16) (G.1.1.1.2.1.2.1.2) (G.2.2.1.1.2.2.1.2) (G.1.1.1.2.1.2.2.2.2) (G.2.2.1.1.2.2.2.1) (gprec_at G.2.2.1.1.2.2.2.2.1) (gprec_at G.2.2.1.1.2.2.2.2.2) (G.1.1.1.2.2.2.2.2.2) (show ((xs 2) + (2 : Int32)) = N18 from eN18) (show ((xs 3) + (2 : Int32)) = N19 from eN19) (G.1.1.2.1.1.1.1.1) (G.2.2.1.2.1.1.1.1) (G.1.1.2.1.1.1.2.2) (G.2.2.1.2.1.1.1.2) (gprec_at G.2.2.1.2.1.1.2.1) (gprec_at G.2.2.1.2.1.1.2.2) (G.1.1.2.1.2.2.1.1) (show ((xs 2) + (3 : Int32)) = N21 from eN21) (show ((xs 3) + (3 : Int32)) = N22 from eN22) (G.1.1.2.1.2.2.1.2) (G.2.2.1.2.1.2.1.1) (G.1.1.2.1.2.2.2.2.2) (G.2.2.1.2.1.2.1.2) (gprec_at G.2.2.1.2.1.2.2.1) (gprec_at G.2.2.1.2.1.2.2.2.1) (G.1.1.2.2.1.2.2.2.2) (show ((xs 2) + (4 : Int32)) = N24 from eN24) (show ((xs 3) + (4 : Int32)) = N25 from eN25) (G.1.1.2.2.2.1.1.1) (G.2.2.1.2.1.2.2.2.2) (G.1.1.2.2.2.1.2.2) (G.2.2.1.2.2.1.1.1) (gprec_at G.2.2.1.2.2.1.1.2) (gprec_at G.2.2.1.2.2.1.2.1) (G.1.2.1.1.1.1.2.2) (show ((xs 2) + (5 : Int32)) = N27 from eN27) (show ((xs 3) + (5 : Int32)) = N28 from eN28) (G.1.2.1.1.1.2.1.1) (G.2.2.1.2.2.1.2.2) (G.1.2.1.1.1.2.2.2) (G.2.2.1.2.2.2.1.1) (gprec_at G.2.2.1.2.2.2.1.2) (gprec_at G.2.2.1.2.2.2.2.1) (G.1.2.1.1.2.2.2.2.2) (show ((xs 2) + (6 : Int32)) = N30 from eN30) (show ((xs 3) + (6 : Int32)) = N31 from eN31) (G.1.2.1.2.1.1.1.1) (G.2.2.1.2.2.2.2.2.1) (G.1.2.1.2.1.1.2.2) (G.2.2.1.2.2.2.2.2.2) (gprec_at G.2.2.2.1.1.1.1.1) (gprec_at G.2.2.2.1.1.1.1.2) (G.1.2.1.2.2.1.2.2) (show ((xs 2) + (7 : Int32)) = N33 from eN33) (show ((xs 3) + (7 : Int32)) = N34 from eN34) (G.1.2.1.2.2.2.1.1) (G.2.2.2.1.1.1.2.1) (G.1.2.1.2.2.2.2.2.1) (G.2.2.2.1.1.1.2.2) (gprec_at G.2.2.2.1.1.2.1.1) (gprec_at G.2.2.2.1.1.2.1.2) (G.1.2.2.1.1.2.2.2) (show ((xs 2) + (8 : Int32)) = N36 from eN36) (show ((xs 3) + (8 : Int32)) = N37 from eN37) (G.1.2.2.1.2.1.1.1) (G.2.2.2.1.1.2.2.1) (G.1.2.2.1.2.1.2.2) (G.2.2.2.1.1.2.2.2) (gprec_at G.2.2.2.1.2.1.1.1) (gprec_at G.2.2.2.1.2.1.1.2) (G.1.2.2.2.1.1.2.2) (show ((xs 2) + (9 : Int32)) = N39 from eN39) (show ((xs 3) + (9 : Int32)) = N40 from eN40) (G.1.2.2.2.1.2.1.1) (G.2.2.2.1.2.1.2.1) (G.1.2.2.2.1.2.2.2.1) (G.2.2.2.1.2.1.2.2) (gprec_at G.2.2.2.1.2.2.1.1) (gprec_at G.2.2.2.1.2.2.1.2) (G.1.2.2.2.2.2.2.2.1) (show ((xs 2) + (10 : Int32)) = N42 from eN42) (show ((xs 3) + (10 : Int32)) = N43 from eN43) (G.1.2.2.2.2.2.2.2.2) (G.2.2.2.1.2.2.2.1) (G.2.1.1.1.1.1.2.1) (G.2.2.2.1.2.2.2.2.1) (gprec_at G.2.2.2.1.2.2.2.2.2) (gprec_at G.2.2.2.2.1.1.1.1) (G.2.1.1.1.2.1.2.2) (show ((xs 2) + (11 : Int32)) = N45 from eN45) (show ((xs 3) + (11 : Int32)) = N46 from eN46) (G.2.1.1.1.2.2.1.1) (G.2.2.2.2.1.1.1.2) (G.2.1.1.1.2.2.2.2.1) (G.2.2.2.2.1.1.2.1) (gprec_at G.2.2.2.2.1.1.2.2) (gprec_at G.2.2.2.2.1.2.1.1) (G.2.1.1.2.1.2.2.2.1) (show ((xs 2) + (12 : Int32)) = N48 from eN48) (show ((xs 3) + (12 : Int32)) = N49 from eN49) (G.2.1.1.2.1.2.2.2.2) (G.2.2.2.2.1.2.1.2) (G.2.1.1.2.2.1.2.1) (G.2.2.2.2.1.2.2.1) (gprec_at G.2.2.2.2.1.2.2.2.1) (gprec_at G.2.2.2.2.1.2.2.2.2) (G.2.1.2.1.1.1.2.1) (show ((xs 2) + (13 : Int32)) = N51 from eN51) (show ((xs 3) + (13 : Int32)) = N52 from eN52) (G.2.1.2.1.1.1.2.2) (G.2.2.2.2.2.1.1.1) (G.2.1.2.1.1.2.2.1) (G.2.2.2.2.2.1.1.2) (gprec_at G.2.2.2.2.2.1.2.1) (gprec_at G.2.2.2.2.2.1.2.2) (G.2.1.2.1.2.2.2.2.1) (show ((xs 2) + (14 : Int32)) = N54 from eN54) (show ((xs 3) + (14 : Int32)) = N55 from eN55) (G.2.1.2.1.2.2.2.2.2) (G.2.2.2.2.2.2.1.1) (G.2.1.2.2.1.1.2.1) (G.2.2.2.2.2.2.1.2) (gprec_at G.2.2.2.2.2.2.2.1) (gprec_at G.2.2.2.2.2.2.2.2.1) (G.2.1.2.2.2.1.2.1) (G.2.2.2.2.2.2.2.2.2)) ?_
    refine i_287_1220 (lv2 := [(6, Value.int 0), (5, Value.int 0), (4, Value.int 0), (3, Value.ref 194), (2, Value.ref 128), (1, Value.ref 7), (0, Value.ref 0)]) rfl ?_
    refine i_287_1222 (x := 128) rfl ?_
    refine i_287_1223 (xgn (by decide) (xgn (by decide) (xgs (xgn (by decide) (xgn (G.2.2.1.1.1.1.1.2) (xgn (by decide) (xgn (by decide) (xgn (by decide) (xgn (by decide) (xgn (by decide) (xgn (by decide) (xgn (by decide) (xgn (by decide) (xgn (by decide) (xgn (by decide) (xgn (by decide) (xgn (by decide) (xgn (by decide) (xgn (by decide) (xgn (by decide) (xgn (by decide) (xgn (by decide) (xgn (by decide) W0_128))))))))))))))))))))))) (Nat.le_of_ble_eq_true rfl) (p_165_1 (xgn (by decide) (xgn (by decide) (xgs (xgn (by decide) (xgn (G.2.2.1.1.1.1.1.2) (xgn (by decide) (xgn (by decide) (xgn (by decide) (xgn (by decide) (xgn (by decide) (xgn (by decide) (xgn (by decide) (xgn (by decide) (xgn (by decide) (xgn (by decide) (xgn (by decide) (xgn (by decide) (xgn (by decide) (xgn (by decide) (xgn (by decide) (xgn (by decide) (xgn (by decide) (xgn (by decide) W0_128)))))))))))))))))))))))) ?_
    refine i_287_1226 (x := 0) rfl ?_
    refine i_287_1228 (fun _ => ?_) (fun h => absurd h (by decide))
    refine i_287_1233 (x := 0) rfl ?_
    refine i_287_1235 (fun h => absurd h (by decide)) (fun _ => ?_)
    refine i_287_1238 (x := 194) rfl ?_
    refine i_287_1239 ?_
    refine i_287_1240 (v := Value.long 0) (xgn (by decide) (xgn (by decide) (xgn (by decide) (xgs (xgn (G.2.1.2.2.2.2.2.2.2) (xgn (by decide) (xgn (by decide) (xgn (by decide) (xgn (by decide) (xgn (by decide) (xgn (by decide) (xgn (by decide) (xgn (by decide) (xgn (by decide) (xgn (by decide) (xgn (by decide) (xgn (by decide) (xgn (by decide) (xgn (by decide) (xgn (by decide) (xgn (by decide) (xgn (by decide) (xgn (by decide) W0_194))))))))))))))))))))))) (by decide) (by decide) xup_s ?_
    refine i_287_1241 (x := 0) rfl ?_
    refine i_287_1243 (c := 0) (by decide) ?_
    refine i_287_1244 (c := 0) (by decide) ?_
    refine i_287_1245 (fun _ => ?_) (fun h => absurd h (by decide))
    refine i_287_1250 ?_
    refine i_287_2154 (x := 0) (c := 6) (lv2 := [(4, Value.int 6), (6, Value.int 0), (5, Value.int 0), (3, Value.ref 194), (2, Value.ref 128), (1, Value.ref 7), (0, Value.ref 0)]) rfl (by decide) rfl ?_
    refine i_287_2157 ?_
    refine i_287_23 (x := 6) rfl ?_
    refine i_287_25 (x := 0) rfl ?_
    refine i_287_26 (c := 6) (xgn (by decide) (xgn (by decide) (xgn (by decide) (xgn (by decide) (xgn (G.2.2.1.1.1.1.1.1) (xgn (by decide) (xgn (by decide) (xgn (by decide) (xgn (by decide) (xgn (by decide) (xgn (by decide) (xgn (by decide) (xgn (by decide) (xgn (by decide) (xgn (by decide) (xgn (by decide) (xgn (by decide) (xgn (by decide) (xgn (by decide) (xgn (by decide) (xgn (by decide) (xgn (by decide) (xgn (by decide) W0_0))))))))))))))))))))))) (by decide) ?_
    refine i_287_27 ?_
    refine i_287_29 (c := 0) (by decide) ?_
    refine i_287_30 (fun _ => ?_) (fun h => absurd h (by decide))
    refine i_287_2160 ?_
    exact i_287_2161 rfl ⟨rfl, rfl⟩
  · refine xLs.set ?_ (xgn (by decide) (xgn (by decide) (xgn (by decide) (xgn (G.2.2.1.1.2.1.1.1) (xgn (by decide) (xgn (by decide) (xgn (by decide) (xgn (by decide) (xgn (by decide) (xgn (by decide) (xgn (by decide) (xgn (by decide) (xgn (by decide) (xgn (by decide) (xgn (by decide) (xgn (by decide) (xgn (by decide) (xgn (by decide) (xgn (by decide) (xgn (by decide) (xgn (by decide) (xgn (by decide) W0_156)))))))))))))))))))))) xcs_a
    refine xLs.set ?_ (xgn (by decide) (xgn (by decide) (xgn (G.2.2.1.1.1.2.1.2) (xgn (by decide) (xgn (by decide) (xgn (by decide) (xgn (by decide) (xgn (by decide) (xgn (by decide) (xgn (by decide) (xgn (by decide) (xgn (by decide) (xgn (by decide) (xgn (by decide) (xgn (by decide) (xgn (by decide) (xgn (by decide) (xgn (by decide) (xgn (by decide) (xgn (by decide) (xgn (by decide) W0_154))))))))))))))))))))) xcs_a
    refine xLs.set ?_ (xgn (by decide) (xgn (G.2.2.1.1.1.1.1.2) (xgn (by decide) (xgn (by decide) (xgn (by decide) (xgn (by decide) (xgn (by decide) (xgn (by decide) (xgn (by decide) (xgn (by decide) (xgn (by decide) (xgn (by decide) (xgn (by decide) (xgn (by decide) (xgn (by decide) (xgn (by decide) (xgn (by decide) (xgn (by decide) (xgn (by decide) (xgn (by decide) W0_128)))))))))))))))))))) xcs_o
    refine xLs.set ?_ (xgn (G.2.1.2.2.2.2.2.2.2) (xgn (by decide) (xgn (by decide) (xgn (by decide) (xgn (by decide) (xgn (by decide) (xgn (by decide) (xgn (by decide) (xgn (by decide) (xgn (by decide) (xgn (by decide) (xgn (by decide) (xgn (by decide) (xgn (by decide) (xgn (by decide) (xgn (by decide) (xgn (by decide) (xgn (by decide) (xgn (by decide) W0_194))))))))))))))))))) xcs_a
    refine xLs.set ?_ (xgn (G.2.1.2.2.2.2.1.1) (xgn (G.2.1.2.2.2.2.1.1) (xgn (G.2.1.2.2.2.2.1.1) (xgn (G.2.1.2.2.2.2.1.1) (xgn (G.2.1.2.2.2.2.1.1) (xgn (G.2.1.2.2.2.2.1.1) (xgn (G.2.1.2.2.2.2.1.1) (xgn (G.2.1.2.2.2.2.1.1) (xgn (G.2.1.2.2.2.2.1.1) (xgn (G.2.1.2.2.2.2.1.1) (xgn (G.2.1.2.2.2.2.1.1) (xgn (G.2.1.2.2.2.2.1.1) (xgn (G.2.1.2.2.2.2.1.1) (xgn (G.2.1.2.2.2.2.1.1) (xgn (G.2.1.2.2.2.2.1.1) (xgn (G.2.1.2.2.2.2.1.1) (xgn (G.2.1.2.2.2.2.1.2) (xgn (G.2.1.2.2.2.2.2.1) (W0_reg G.2.1.2.2.2.1.2.2))))))))))))))))))) xcs_o
    refine xLs.set ?_ (xgs (xgs (xgs (xgs (xgs (xgs (xgs (xgs (xgs (xgs (xgs (xgs (xgs (xgs (xgs (xgn (by decide) (xgn (by decide) W0_19))))))))))))))))) xcs_o
    refine xLs.set ?_ (xgs (xgs (xgs (xgs (xgs (xgs (xgs (xgs (xgs (xgs (xgs (xgs (xgs (xgs (xgn (by decide) (xgn (by decide) W0_19)))))))))))))))) xcs_o
    refine xLs.set ?_ (xgs (xgs (xgs (xgs (xgs (xgs (xgs (xgs (xgs (xgs (xgs (xgs (xgs (xgn (by decide) (xgn (by decide) W0_19))))))))))))))) xcs_o
    refine xLs.set ?_ (xgs (xgs (xgs (xgs (xgs (xgs (xgs (xgs (xgs (xgs (xgs (xgs (xgn (by decide) (xgn (by decide) W0_19)))))))))))))) xcs_o
    refine xLs.set ?_ (xgs (xgs (xgs (xgs (xgs (xgs (xgs (xgs (xgs (xgs (xgs (xgn (by decide) (xgn (by decide) W0_19))))))))))))) xcs_o
    refine xLs.set ?_ (xgs (xgs (xgs (xgs (xgs (xgs (xgs (xgs (xgs (xgs (xgn (by decide) (xgn (by decide) W0_19)))))))))))) xcs_o
    refine xLs.set ?_ (xgs (xgs (xgs (xgs (xgs (xgs (xgs (xgs (xgs (xgn (by decide) (xgn (by decide) W0_19))))))))))) xcs_o
    refine xLs.set ?_ (xgs (xgs (xgs (xgs (xgs (xgs (xgs (xgs (xgn (by decide) (xgn (by decide) W0_19)))))))))) xcs_o
    refine xLs.set ?_ (xgs (xgs (xgs (xgs (xgs (xgs (xgs (xgn (by decide) (xgn (by decide) W0_19))))))))) xcs_o
    refine xLs.set ?_ (xgs (xgs (xgs (xgs (xgs (xgs (xgn (by decide) (xgn (by decide) W0_19)))))))) xcs_o
    refine xLs.set ?_ (xgs (xgs (xgs (xgs (xgs (xgn (by decide) (xgn (by decide) W0_19))))))) xcs_o
    refine xLs.set ?_ (xgs (xgs (xgs (xgs (xgn (by decide) (xgn (by decide) W0_19)))))) xcs_o
    refine xLs.set ?_ (xgs (xgs (xgs (xgn (by decide) (xgn (by decide) W0_19))))) xcs_o
    refine xLs.set ?_ (xgs (xgs (xgn (by decide) (xgn (by decide) W0_19)))) xcs_o
    refine xLs.set ?_ (xgs (xgn (by decide) (xgn (by decide) W0_19))) xcs_o
    refine xLs.set ?_ (xgn (by decide) (xgn (by decide) W0_19)) xcs_o
    refine xLs.set ?_ (xgn (by decide) W0_22) xcs_o
    refine xLs.set ?_ (W0_20) xcs_o
    exact ⟨Nat.le_trans (Nat.le_of_eq W0_len) (by decide), Nat.le_trans (Nat.le_of_eq W0_sz) (by decide)⟩
theorem p_115_11 {d : Nat} {w : xW} {a0 : Int32} {a1 : Int32} {a2 : Int32} {a3 : Int32} {a4 : Int32} {a5 : Int32} {a6 : Int32} {g0 : Nat → Value} {h0 : Nat} {h1 : Nat} {h2 : Nat} {h3 : Nat} {a7 : Int32} {h4 : Nat} {a8 : Int32} {h5 : Nat} {h6 : Nat} {h7 : Nat} {a9 : Int32} {h8 : Nat} {a10 : Int32} {h9 : Nat} {h10 : Nat} {h11 : Nat} {a11 : Int32} {h12 : Nat} {a12 : Int32} {h13 : Nat} {h14 : Nat} {h15 : Nat} {a13 : Int32} {h16 : Nat} {a14 : Int32} {h17 : Nat} {h18 : Nat} {h19 : Nat} {a15 : Int32} {h20 : Nat} {a16 : Int32} {h21 : Nat} {h22 : Nat} {h23 : Nat} {a17 : Int32} {h24 : Nat} {a18 : Int32} {h25 : Nat} {h26 : Nat} {h27 : Nat} {a19 : Int32} {h28 : Nat} {a20 : Int32} {h29 : Nat} {h30 : Nat} {h31 : Nat} {a21 : Int32} {h32 : Nat} {a22 : Int32} {h33 : Nat} {h34 : Nat} {h35 : Nat} {a23 : Int32} {h36 : Nat} {a24 : Int32} {h37 : Nat} {h38 : Nat} {h39 : Nat} {a25 : Int32} {h40 : Nat} {a26 : Int32} {h41 : Nat} {h42 : Nat} {h43 : Nat} {a27 : Int32} {h44 : Nat} {a28 : Int32} {h45 : Nat} {h46 : Nat} {h47 : Nat} {a29 : Int32} {h48 : Nat} {a30 : Int32} {h49 : Nat} {h50 : Nat} {h51 : Nat} {a31 : Int32} {h52 : Nat} {a32 : Int32} {h53 : Nat} {h54 : Nat} {h55 : Nat} {h56 : Nat} {h57 : Nat} (e0 : 0 ≤ a0.toInt) (e1 : a0.toInt < 16) (e2 : 0 ≤ a1.toInt) (e3 : a1.toInt < 16) (e4 : 1 ≤ a3.toInt) (e5 : a3.toInt ≤ 16) (hg6 : (a1 + a3) = a5) (e7 : a5.toInt ≤ 16) (e8 : 0 ≤ a2.toInt) (e9 : a2.toInt < 16) (hg10 : (a2 + a3) = a6) (e11 : a6.toInt ≤ 16) (e12 : 0 ≤ a4.toInt) (e13 : a4.toInt ≤ 4) (hw14 : w[7]? = some (Sum.inr (0, [Value.ref 8, Value.ref 78, Value.ref 9, Value.ref 10, Value.ref 13, Value.ref 16, Value.ref 19, Value.ref 93, Value.ref 108, Value.ref 113, Value.ref 29, Value.int 0]))) (hw15 : w[19]? = some (Sum.inr (5, [Value.ref 20, Value.ref 22, Value.ref 24, Value.ref 26, Value.int 0, Value.int 0, Value.int 0, Value.int 0, Value.int 0, Value.int 0, Value.int 0, Value.int 0]))) (hw16 : w[20]? = some (Sum.inr (3, [Value.ref 21, Value.int 0]))) (hw17 : w[22]? = some (Sum.inr (3, [Value.ref 23, Value.int 0]))) (e18 : 0 < a3.toInt) (hg19 : (a1 + (0 : Int32)) = a1) (hw20 : w[8]? = some (Sum.inl (4, 16, g0))) (hg21 : g0 a1.toInt.toNat = Value.ref h0) (hg22 : (a2 + (0 : Int32)) = a2) (hg23 : g0 a2.toInt.toNat = Value.ref h1) (e24 : 19 ≠ h0) (e25 : 22 ≠ h0) (e26 : 20 ≠ h0) (hw27 : w[h0]? = some (Sum.inr (2, [Value.int 64, Value.int 0, Value.int 0, Value.int 0, Value.ref h2]))) (e28 : 19 ≠ h1) (e29 : 22 ≠ h1) (e30 : 20 ≠ h1) (hw31 : w[h1]? = some (Sum.inr (2, [Value.int 64, Value.int 0, Value.int 0, Value.int 0, Value.ref h3]))) (e32 : 1 < a3.toInt) (hg33 : (a1 + (1 : Int32)) = a7) (e34 : 0 ≤ a7.toInt) (e35 : a7.toInt < 16) (hg36 : g0 a7.toInt.toNat = Value.ref h4) (hg37 : (a2 + (1 : Int32)) = a8) (e38 : 0 ≤ a8.toInt) (e39 : a8.toInt < 16) (hg40 : g0 a8.toInt.toNat = Value.ref h5) (e41 : 19 ≠ h4) (e42 : 22 ≠ h4) (e43 : 20 ≠ h4) (hw44 : w[h4]? = some (Sum.inr (2, [Value.int 64, Value.int 0, Value.int 0, Value.int 0, Value.ref h6]))) (e45 : 19 ≠ h5) (e46 : 22 ≠ h5) (e47 : 20 ≠ h5) (hw48 : w[h5]? = some (Sum.inr (2, [Value.int 64, Value.int 0, Value.int 0, Value.int 0, Value.ref h7]))) (e49 : 2 < a3.toInt) (hg50 : (a1 + (2 : Int32)) = a9) (e51 : 0 ≤ a9.toInt) (e52 : a9.toInt < 16) (hg53 : g0 a9.toInt.toNat = Value.ref h8) (hg54 : (a2 + (2 : Int32)) = a10) (e55 : 0 ≤ a10.toInt) (e56 : a10.toInt < 16) (hg57 : g0 a10.toInt.toNat = Value.ref h9) (e58 : 19 ≠ h8) (e59 : 22 ≠ h8) (e60 : 20 ≠ h8) (hw61 : w[h8]? = some (Sum.inr (2, [Value.int 64, Value.int 0, Value.int 0, Value.int 0, Value.ref h10]))) (e62 : 19 ≠ h9) (e63 : 22 ≠ h9) (e64 : 20 ≠ h9) (hw65 : w[h9]? = some (Sum.inr (2, [Value.int 64, Value.int 0, Value.int 0, Value.int 0, Value.ref h11]))) (e66 : 3 < a3.toInt) (hg67 : (a1 + (3 : Int32)) = a11) (e68 : 0 ≤ a11.toInt) (e69 : a11.toInt < 16) (hg70 : g0 a11.toInt.toNat = Value.ref h12) (hg71 : (a2 + (3 : Int32)) = a12) (e72 : 0 ≤ a12.toInt) (e73 : a12.toInt < 16) (hg74 : g0 a12.toInt.toNat = Value.ref h13) (e75 : 19 ≠ h12) (e76 : 22 ≠ h12) (e77 : 20 ≠ h12) (hw78 : w[h12]? = some (Sum.inr (2, [Value.int 64, Value.int 0, Value.int 0, Value.int 0, Value.ref h14]))) (e79 : 19 ≠ h13) (e80 : 22 ≠ h13) (e81 : 20 ≠ h13) (hw82 : w[h13]? = some (Sum.inr (2, [Value.int 64, Value.int 0, Value.int 0, Value.int 0, Value.ref h15]))) (e83 : 4 < a3.toInt) (hg84 : (a1 + (4 : Int32)) = a13) (e85 : 0 ≤ a13.toInt) (e86 : a13.toInt < 16) (hg87 : g0 a13.toInt.toNat = Value.ref h16) (hg88 : (a2 + (4 : Int32)) = a14) (e89 : 0 ≤ a14.toInt) (e90 : a14.toInt < 16) (hg91 : g0 a14.toInt.toNat = Value.ref h17) (e92 : 19 ≠ h16) (e93 : 22 ≠ h16) (e94 : 20 ≠ h16) (hw95 : w[h16]? = some (Sum.inr (2, [Value.int 64, Value.int 0, Value.int 0, Value.int 0, Value.ref h18]))) (e96 : 19 ≠ h17) (e97 : 22 ≠ h17) (e98 : 20 ≠ h17) (hw99 : w[h17]? = some (Sum.inr (2, [Value.int 64, Value.int 0, Value.int 0, Value.int 0, Value.ref h19]))) (e100 : 5 < a3.toInt) (hg101 : (a1 + (5 : Int32)) = a15) (e102 : 0 ≤ a15.toInt) (e103 : a15.toInt < 16) (hg104 : g0 a15.toInt.toNat = Value.ref h20) (hg105 : (a2 + (5 : Int32)) = a16) (e106 : 0 ≤ a16.toInt) (e107 : a16.toInt < 16) (hg108 : g0 a16.toInt.toNat = Value.ref h21) (e109 : 19 ≠ h20) (e110 : 22 ≠ h20) (e111 : 20 ≠ h20) (hw112 : w[h20]? = some (Sum.inr (2, [Value.int 64, Value.int 0, Value.int 0, Value.int 0, Value.ref h22]))) (e113 : 19 ≠ h21) (e114 : 22 ≠ h21) (e115 : 20 ≠ h21) (hw116 : w[h21]? = some (Sum.inr (2, [Value.int 64, Value.int 0, Value.int 0, Value.int 0, Value.ref h23]))) (e117 : 6 < a3.toInt) (hg118 : (a1 + (6 : Int32)) = a17) (e119 : 0 ≤ a17.toInt) (e120 : a17.toInt < 16) (hg121 : g0 a17.toInt.toNat = Value.ref h24) (hg122 : (a2 + (6 : Int32)) = a18) (e123 : 0 ≤ a18.toInt) (e124 : a18.toInt < 16) (hg125 : g0 a18.toInt.toNat = Value.ref h25) (e126 : 19 ≠ h24) (e127 : 22 ≠ h24) (e128 : 20 ≠ h24) (hw129 : w[h24]? = some (Sum.inr (2, [Value.int 64, Value.int 0, Value.int 0, Value.int 0, Value.ref h26]))) (e130 : 19 ≠ h25) (e131 : 22 ≠ h25) (e132 : 20 ≠ h25) (hw133 : w[h25]? = some (Sum.inr (2, [Value.int 64, Value.int 0, Value.int 0, Value.int 0, Value.ref h27]))) (e134 : 7 < a3.toInt) (hg135 : (a1 + (7 : Int32)) = a19) (e136 : 0 ≤ a19.toInt) (e137 : a19.toInt < 16) (hg138 : g0 a19.toInt.toNat = Value.ref h28) (hg139 : (a2 + (7 : Int32)) = a20) (e140 : 0 ≤ a20.toInt) (e141 : a20.toInt < 16) (hg142 : g0 a20.toInt.toNat = Value.ref h29) (e143 : 19 ≠ h28) (e144 : 22 ≠ h28) (e145 : 20 ≠ h28) (hw146 : w[h28]? = some (Sum.inr (2, [Value.int 64, Value.int 0, Value.int 0, Value.int 0, Value.ref h30]))) (e147 : 19 ≠ h29) (e148 : 22 ≠ h29) (e149 : 20 ≠ h29) (hw150 : w[h29]? = some (Sum.inr (2, [Value.int 64, Value.int 0, Value.int 0, Value.int 0, Value.ref h31]))) (e151 : 8 < a3.toInt) (hg152 : (a1 + (8 : Int32)) = a21) (e153 : 0 ≤ a21.toInt) (e154 : a21.toInt < 16) (hg155 : g0 a21.toInt.toNat = Value.ref h32) (hg156 : (a2 + (8 : Int32)) = a22) (e157 : 0 ≤ a22.toInt) (e158 : a22.toInt < 16) (hg159 : g0 a22.toInt.toNat = Value.ref h33) (e160 : 19 ≠ h32) (e161 : 22 ≠ h32) (e162 : 20 ≠ h32) (hw163 : w[h32]? = some (Sum.inr (2, [Value.int 64, Value.int 0, Value.int 0, Value.int 0, Value.ref h34]))) (e164 : 19 ≠ h33) (e165 : 22 ≠ h33) (e166 : 20 ≠ h33) (hw167 : w[h33]? = some (Sum.inr (2, [Value.int 64, Value.int 0, Value.int 0, Value.int 0, Value.ref h35]))) (e168 : 9 < a3.toInt) (hg169 : (a1 + (9 : Int32)) = a23) (e170 : 0 ≤ a23.toInt) (e171 : a23.toInt < 16) (hg172 : g0 a23.toInt.toNat = Value.ref h36) (hg173 : (a2 + (9 : Int32)) = a24) (e174 : 0 ≤ a24.toInt) (e175 : a24.toInt < 16) (hg176 : g0 a24.toInt.toNat = Value.ref h37) (e177 : 19 ≠ h36) (e178 : 22 ≠ h36) (e179 : 20 ≠ h36) (hw180 : w[h36]? = some (Sum.inr (2, [Value.int 64, Value.int 0, Value.int 0, Value.int 0, Value.ref h38]))) (e181 : 19 ≠ h37) (e182 : 22 ≠ h37) (e183 : 20 ≠ h37) (hw184 : w[h37]? = some (Sum.inr (2, [Value.int 64, Value.int 0, Value.int 0, Value.int 0, Value.ref h39]))) (e185 : 10 < a3.toInt) (hg186 : (a1 + (10 : Int32)) = a25) (e187 : 0 ≤ a25.toInt) (e188 : a25.toInt < 16) (hg189 : g0 a25.toInt.toNat = Value.ref h40) (hg190 : (a2 + (10 : Int32)) = a26) (e191 : 0 ≤ a26.toInt) (e192 : a26.toInt < 16) (hg193 : g0 a26.toInt.toNat = Value.ref h41) (e194 : 19 ≠ h40) (e195 : 22 ≠ h40) (e196 : 20 ≠ h40) (hw197 : w[h40]? = some (Sum.inr (2, [Value.int 64, Value.int 0, Value.int 0, Value.int 0, Value.ref h42]))) (e198 : 19 ≠ h41) (e199 : 22 ≠ h41) (e200 : 20 ≠ h41) (hw201 : w[h41]? = some (Sum.inr (2, [Value.int 64, Value.int 0, Value.int 0, Value.int 0, Value.ref h43]))) (e202 : 11 < a3.toInt) (hg203 : (a1 + (11 : Int32)) = a27) (e204 : 0 ≤ a27.toInt) (e205 : a27.toInt < 16) (hg206 : g0 a27.toInt.toNat = Value.ref h44) (hg207 : (a2 + (11 : Int32)) = a28) (e208 : 0 ≤ a28.toInt) (e209 : a28.toInt < 16) (hg210 : g0 a28.toInt.toNat = Value.ref h45) (e211 : 19 ≠ h44) (e212 : 22 ≠ h44) (e213 : 20 ≠ h44) (hw214 : w[h44]? = some (Sum.inr (2, [Value.int 64, Value.int 0, Value.int 0, Value.int 0, Value.ref h46]))) (e215 : 19 ≠ h45) (e216 : 22 ≠ h45) (e217 : 20 ≠ h45) (hw218 : w[h45]? = some (Sum.inr (2, [Value.int 64, Value.int 0, Value.int 0, Value.int 0, Value.ref h47]))) (e219 : 12 < a3.toInt) (hg220 : (a1 + (12 : Int32)) = a29) (e221 : 0 ≤ a29.toInt) (e222 : a29.toInt < 16) (hg223 : g0 a29.toInt.toNat = Value.ref h48) (hg224 : (a2 + (12 : Int32)) = a30) (e225 : 0 ≤ a30.toInt) (e226 : a30.toInt < 16) (hg227 : g0 a30.toInt.toNat = Value.ref h49) (e228 : 19 ≠ h48) (e229 : 22 ≠ h48) (e230 : 20 ≠ h48) (hw231 : w[h48]? = some (Sum.inr (2, [Value.int 64, Value.int 0, Value.int 0, Value.int 0, Value.ref h50]))) (e232 : 19 ≠ h49) (e233 : 22 ≠ h49) (e234 : 20 ≠ h49) (hw235 : w[h49]? = some (Sum.inr (2, [Value.int 64, Value.int 0, Value.int 0, Value.int 0, Value.ref h51]))) (e236 : 13 < a3.toInt) (hg237 : (a1 + (13 : Int32)) = a31) (e238 : 0 ≤ a31.toInt) (e239 : a31.toInt < 16) (hg240 : g0 a31.toInt.toNat = Value.ref h52) (hg241 : (a2 + (13 : Int32)) = a32) (e242 : 0 ≤ a32.toInt) (e243 : a32.toInt < 16) (hg244 : g0 a32.toInt.toNat = Value.ref h53) (e245 : 19 ≠ h52) (e246 : 22 ≠ h52) (e247 : 20 ≠ h52) (hw248 : w[h52]? = some (Sum.inr (2, [Value.int 64, Value.int 0, Value.int 0, Value.int 0, Value.ref h54]))) (e249 : 19 ≠ h53) (e250 : 22 ≠ h53) (e251 : 20 ≠ h53) (hw252 : w[h53]? = some (Sum.inr (2, [Value.int 64, Value.int 0, Value.int 0, Value.int 0, Value.ref h55]))) (e253 : a3.toInt ≤ 14) (hg254 : g0 a0.toInt.toNat = Value.ref h56) (e255 : 19 ≠ h56) (e256 : 22 ≠ h56) (e257 : 20 ≠ h56) (hw258 : w[h56]? = some (Sum.inr (2, [Value.int 64, Value.int 0, Value.int 0, Value.int 0, Value.ref h57]))) (e259 : 7 ≤ h56) : xRun (d + 3) 115 [Value.ref 7, Value.int a0, Value.int a1, Value.int a2, Value.int a3, Value.int a4] w (.inl (some (Value.int 0))) ((((((((((((((((((w.set 20 (Sum.inr (3, [Value.ref 21, Value.int 0]))).set 22 (Sum.inr (3, [Value.ref 23, Value.int 0]))).set 19 (Sum.inr (5, [Value.ref 20, Value.ref 22, Value.ref 24, Value.ref 26, Value.int 0, Value.int 0, Value.int 0, Value.int 0, Value.int 0, Value.int 0, Value.int 0, Value.int 0]))).set 19 (Sum.inr (5, [Value.ref 20, Value.ref 22, Value.ref 24, Value.ref 26, Value.int 0, Value.int 1, Value.int 0, Value.int 0, Value.int 0, Value.int 0, Value.int 0, Value.int 0]))).set 19 (Sum.inr (5, [Value.ref 20, Value.ref 22, Value.ref 24, Value.ref 26, Value.int 0, Value.int 1, Value.int 0, Value.int 0, Value.int 0, Value.int 0, Value.int 0, Value.int 0]))).set 19 (Sum.inr (5, [Value.ref 20, Value.ref 22, Value.ref 24, Value.ref 26, Value.int 0, Value.int 1, Value.int 0, Value.int 0, Value.int 0, Value.int 0, Value.int 0, Value.int 0]))).set 19 (Sum.inr (5, [Value.ref 20, Value.ref 22, Value.ref 24, Value.ref 26, Value.int 0, Value.int 1, Value.int 0, Value.int 0, Value.int 0, Value.int 0, Value.int 0, Value.int 0]))).set 19 (Sum.inr (5, [Value.ref 20, Value.ref 22, Value.ref 24, Value.ref 26, Value.int 0, Value.int 1, Value.int 0, Value.int 0, Value.int 0, Value.int 0, Value.int 0, Value.int 0]))).set 19 (Sum.inr (5, [Value.ref 20, Value.ref 22, Value.ref 24, Value.ref 26, Value.int 0, Value.int 1, Value.int 0, Value.int 0, Value.int 0, Value.int 0, Value.int 0, Value.int 0]))).set 19 (Sum.inr (5, [Value.ref 20, Value.ref 22, Value.ref 24, Value.ref 26, Value.int 0, Value.int 1, Value.int 0, Value.int 0, Value.int 0, Value.int 0, Value.int 0, Value.int 0]))).set 19 (Sum.inr (5, [Value.ref 20, Value.ref 22, Value.ref 24, Value.ref 26, Value.int 0, Value.int 1, Value.int 0, Value.int 0, Value.int 0, Value.int 0, Value.int 0, Value.int 0]))).set 19 (Sum.inr (5, [Value.ref 20, Value.ref 22, Value.ref 24, Value.ref 26, Value.int 0, Value.int 1, Value.int 0, Value.int 0, Value.int 0, Value.int 0, Value.int 0, Value.int 0]))).set 19 (Sum.inr (5, [Value.ref 20, Value.ref 22, Value.ref 24, Value.ref 26, Value.int 0, Value.int 1, Value.int 0, Value.int 0, Value.int 0, Value.int 0, Value.int 0, Value.int 0]))).set 19 (Sum.inr (5, [Value.ref 20, Value.ref 22, Value.ref 24, Value.ref 26, Value.int 0, Value.int 1, Value.int 0, Value.int 0, Value.int 0, Value.int 0, Value.int 0, Value.int 0]))).set 19 (Sum.inr (5, [Value.ref 20, Value.ref 22, Value.ref 24, Value.ref 26, Value.int 0, Value.int 1, Value.int 0, Value.int 0, Value.int 0, Value.int 0, Value.int 0, Value.int 0]))).set 19 (Sum.inr (5, [Value.ref 20, Value.ref 22, Value.ref 24, Value.ref 26, Value.int 0, Value.int 1, Value.int 0, Value.int 0, Value.int 0, Value.int 0, Value.int 0, Value.int 0]))).set 19 (Sum.inr (5, [Value.ref 20, Value.ref 22, Value.ref 24, Value.ref 26, Value.int 0, Value.int 1, Value.int 0, Value.int 0, Value.int 0, Value.int 0, Value.int 0, Value.int 0]))).set h56 (Sum.inr (2, [Value.int 64, Value.int 0, Value.int 0, Value.int 0, Value.ref h57]))) := by
  refine xRun.of ?_
  refine i_115_0 (x := a0) rfl ?_
  refine i_115_1 (Nat.le_of_ble_eq_true rfl) (p_15_1 e0 e1) ?_
  refine i_115_4 (fun h => absurd h (by decide)) (fun _ => ?_)
  refine i_115_7 (x := a1) rfl ?_
  refine i_115_8 (x := a3) rfl ?_
  refine i_115_10 (Nat.le_of_ble_eq_true rfl) (p_113_4 e2 e3 e4 e5 hg6 e7) ?_
  refine i_115_13 (fun h => absurd h (by decide)) (fun _ => ?_)
  refine i_115_16 (x := a2) rfl ?_
  refine i_115_17 (x := a3) rfl ?_
  refine i_115_19 (Nat.le_of_ble_eq_true rfl) (p_113_4 e8 e9 e4 e5 hg10 e11) ?_
  refine i_115_22 (fun h => absurd h (by decide)) (fun _ => ?_)
  refine i_115_25 (x := a4) rfl ?_
  refine i_115_27 (Nat.le_of_ble_eq_true rfl) (p_22_2 e12 e13) ?_
  refine i_115_30 (fun _ => ?_) (fun h => absurd h (by decide))
  refine i_115_41 (x := 7) rfl ?_
  refine i_115_42 (v := Value.ref 19) hw14 rfl ?_
  refine i_115_45 hw15 (Nat.le_of_ble_eq_true rfl) (p_59_0 hw15 hw16 hw17) ?_
  refine i_115_48 ?_
  refine i_115_49 (lv2 := [(6, Value.int 0), (0, Value.ref 7), (1, Value.int a0), (2, Value.int a1), (3, Value.int a2), (4, Value.int a3), (5, Value.int a4)]) rfl ?_
  refine i_115_51 (x := 0) rfl ?_
  refine i_115_53 (x := a3) rfl ?_
  refine i_115_55 (fun h => absurd e18 (Int.not_lt.mpr h)) (fun _ => ?_)
  refine i_115_58 (x := 7) rfl ?_
  refine i_115_59 (v := Value.ref 19) (xgn (by decide) (xgn (by decide) (xgn (by decide) hw14))) rfl ?_
  refine i_115_62 (x := 7) rfl ?_
  refine i_115_63 (v := Value.ref 8) (xgn (by decide) (xgn (by decide) (xgn (by decide) hw14))) rfl ?_
  refine i_115_66 (x := a1) rfl ?_
  refine i_115_67 (x := 0) rfl ?_
  refine i_115_69 (c := a1) hg19 ?_
  refine i_115_70 (v := Value.ref h0) (xgn (by decide) (xgn (by decide) (xgn (by decide) hw20))) e2 e3 hg21 ?_
  refine i_115_71 (x := 7) rfl ?_
  refine i_115_72 (v := Value.ref 8) (xgn (by decide) (xgn (by decide) (xgn (by decide) hw14))) rfl ?_
  refine i_115_75 (x := a2) rfl ?_
  refine i_115_76 (x := 0) rfl ?_
  refine i_115_78 (c := a2) hg22 ?_
  refine i_115_79 (v := Value.ref h1) (xgn (by decide) (xgn (by decide) (xgn (by decide) hw20))) e8 e9 hg23 ?_
  refine i_115_80 (xgs (xgn (by decide) (xgn (by decide) hw15))) (Nat.le_of_ble_eq_true rfl) (p_96_0 (xgn e24 (xgn e25 (xgn e26 hw27))) (xgn e28 (xgn e29 (xgn e30 hw31))) (xgs (xgn (by decide) (xgn (by decide) hw15)))) ?_
  refine i_115_83 (x := 0) (c := 1) (lv2 := [(6, Value.int 1), (0, Value.ref 7), (1, Value.int a0), (2, Value.int a1), (3, Value.int a2), (4, Value.int a3), (5, Value.int a4)]) rfl (by decide) rfl ?_
  refine i_115_86 ?_
  refine i_115_51 (x := 1) rfl ?_
  refine i_115_53 (x := a3) rfl ?_
  refine i_115_55 (fun h => absurd e32 (Int.not_lt.mpr h)) (fun _ => ?_)
  refine i_115_58 (x := 7) rfl ?_
  refine i_115_59 (v := Value.ref 19) (xgn (by decide) (xgn (by decide) (xgn (by decide) (xgn (by decide) hw14)))) rfl ?_
  refine i_115_62 (x := 7) rfl ?_
  refine i_115_63 (v := Value.ref 8) (xgn (by decide) (xgn (by decide) (xgn (by decide) (xgn (by decide) hw14)))) rfl ?_
  refine i_115_66 (x := a1) rfl ?_
  refine i_115_67 (x := 1) rfl ?_
  refine i_115_69 (c := a7) hg33 ?_
  refine i_115_70 (v := Value.ref h4) (xgn (by decide) (xgn (by decide) (xgn (by decide) (xgn (by decide) hw20)))) e34 e35 hg36 ?_
  refine i_115_71 (x := 7) rfl ?_
  refine i_115_72 (v := Value.ref 8) (xgn (by decide) (xgn (by decide) (xgn (by decide) (xgn (by decide) hw14)))) rfl ?_
  refine i_115_75 (x := a2) rfl ?_
  refine i_115_76 (x := 1) rfl ?_
  refine i_115_78 (c := a8) hg37 ?_
  refine i_115_79 (v := Value.ref h5) (xgn (by decide) (xgn (by decide) (xgn (by decide) (xgn (by decide) hw20)))) e38 e39 hg40 ?_
  refine i_115_80 (xgs (xgs (xgn (by decide) (xgn (by decide) hw15)))) (Nat.le_of_ble_eq_true rfl) (p_96_1 (xgn e41 (xgn e41 (xgn e42 (xgn e43 hw44)))) (xgn e45 (xgn e45 (xgn e46 (xgn e47 hw48)))) (xgs (xgs (xgn (by decide) (xgn (by decide) hw15))))) ?_
  refine i_115_83 (x := 1) (c := 2) (lv2 := [(6, Value.int 2), (0, Value.ref 7), (1, Value.int a0), (2, Value.int a1), (3, Value.int a2), (4, Value.int a3), (5, Value.int a4)]) rfl (by decide) rfl ?_
  refine i_115_86 ?_
  refine i_115_51 (x := 2) rfl ?_
  refine i_115_53 (x := a3) rfl ?_
  refine i_115_55 (fun h => absurd e49 (Int.not_lt.mpr h)) (fun _ => ?_)
  refine i_115_58 (x := 7) rfl ?_
  refine i_115_59 (v := Value.ref 19) (xgn (by decide) (xgn (by decide) (xgn (by decide) (xgn (by decide) (xgn (by decide) hw14))))) rfl ?_
  refine i_115_62 (x := 7) rfl ?_
  refine i_115_63 (v := Value.ref 8) (xgn (by decide) (xgn (by decide) (xgn (by decide) (xgn (by decide) (xgn (by decide) hw14))))) rfl ?_
  refine i_115_66 (x := a1) rfl ?_
  refine i_115_67 (x := 2) rfl ?_
  refine i_115_69 (c := a9) hg50 ?_
  refine i_115_70 (v := Value.ref h8) (xgn (by decide) (xgn (by decide) (xgn (by decide) (xgn (by decide) (xgn (by decide) hw20))))) e51 e52 hg53 ?_
  refine i_115_71 (x := 7) rfl ?_
  refine i_115_72 (v := Value.ref 8) (xgn (by decide) (xgn (by decide) (xgn (by decide) (xgn (by decide) (xgn (by decide) hw14))))) rfl ?_
  refine i_115_75 (x := a2) rfl ?_
  refine i_115_76 (x := 2) rfl ?_
  refine i_115_78 (c := a10) hg54 ?_
  refine i_115_79 (v := Value.ref h9) (xgn (by decide) (xgn (by decide) (xgn (by decide) (xgn (by decide) (xgn (by decide) hw20))))) e55 e56 hg57 ?_
  refine i_115_80 (xgs (xgs (xgs (xgn (by decide) (xgn (by decide) hw15))))) (Nat.le_of_ble_eq_true rfl) (p_96_1 (xgn e58 (xgn e58 (xgn e58 (xgn e59 (xgn e60 hw61))))) (xgn e62 (xgn e62 (xgn e62 (xgn e63 (xgn e64 hw65))))) (xgs (xgs (xgs (xgn (by decide) (xgn (by decide) hw15)))))) ?_
  refine i_115_83 (x := 2) (c := 3) (lv2 := [(6, Value.int 3), (0, Value.ref 7), (1, Value.int a0), (2, Value.int a1), (3, Value.int a2), (4, Value.int a3), (5, Value.int a4)]) rfl (by decide) rfl ?_
  refine i_115_86 ?_
  refine i_115_51 (x := 3) rfl ?_
  refine i_115_53 (x := a3) rfl ?_
  refine i_115_55 (fun h => absurd e66 (Int.not_lt.mpr h)) (fun _ => ?_)
  refine i_115_58 (x := 7) rfl ?_
  refine i_115_59 (v := Value.ref 19) (xgn (by decide) (xgn (by decide) (xgn (by decide) (xgn (by decide) (xgn (by decide) (xgn (by decide) hw14)))))) rfl ?_
  refine i_115_62 (x := 7) rfl ?_
  refine i_115_63 (v := Value.ref 8) (xgn (by decide) (xgn (by decide) (xgn (by decide) (xgn (by decide) (xgn (by decide) (xgn (by decide) hw14)))))) rfl ?_
  refine i_115_66 (x := a1) rfl ?_
  refine i_115_67 (x := 3) rfl ?_
  refine i_115_69 (c := a11) hg67 ?_
  refine i_115_70 (v := Value.ref h12) (xgn (by decide) (xgn (by decide) (xgn (by decide) (xgn (by decide) (xgn (by decide) (xgn (by decide) hw20)))))) e68 e69 hg70 ?_
  refine i_115_71 (x := 7) rfl ?_
  refine i_115_72 (v := Value.ref 8) (xgn (by decide) (xgn (by decide) (xgn (by decide) (xgn (by decide) (xgn (by decide) (xgn (by decide) hw14)))))) rfl ?_
  refine i_115_75 (x := a2) rfl ?_
  refine i_115_76 (x := 3) rfl ?_
  refine i_115_78 (c := a12) hg71 ?_
  refine i_115_79 (v := Value.ref h13) (xgn (by decide) (xgn (by decide) (xgn (by decide) (xgn (by decide) (xgn (by decide) (xgn (by decide) hw20)))))) e72 e73 hg74 ?_
  refine i_115_80 (xgs (xgs (xgs (xgs (xgn (by decide) (xgn (by decide) hw15)))))) (Nat.le_of_ble_eq_true rfl) (p_96_1 (xgn e75 (xgn e75 (xgn e75 (xgn e75 (xgn e76 (xgn e77 hw78)))))) (xgn e79 (xgn e79 (xgn e79 (xgn e79 (xgn e80 (xgn e81 hw82)))))) (xgs (xgs (xgs (xgs (xgn (by decide) (xgn (by decide) hw15))))))) ?_
  refine i_115_83 (x := 3) (c := 4) (lv2 := [(6, Value.int 4), (0, Value.ref 7), (1, Value.int a0), (2, Value.int a1), (3, Value.int a2), (4, Value.int a3), (5, Value.int a4)]) rfl (by decide) rfl ?_
  refine i_115_86 ?_
  refine i_115_51 (x := 4) rfl ?_
  refine i_115_53 (x := a3) rfl ?_
  refine i_115_55 (fun h => absurd e83 (Int.not_lt.mpr h)) (fun _ => ?_)
  refine i_115_58 (x := 7) rfl ?_
  refine i_115_59 (v := Value.ref 19) (xgn (by decide) (xgn (by decide) (xgn (by decide) (xgn (by decide) (xgn (by decide) (xgn (by decide) (xgn (by decide) hw14))))))) rfl ?_
  refine i_115_62 (x := 7) rfl ?_
  refine i_115_63 (v := Value.ref 8) (xgn (by decide) (xgn (by decide) (xgn (by decide) (xgn (by decide) (xgn (by decide) (xgn (by decide) (xgn (by decide) hw14))))))) rfl ?_
  refine i_115_66 (x := a1) rfl ?_
  refine i_115_67 (x := 4) rfl ?_
  refine i_115_69 (c := a13) hg84 ?_
  refine i_115_70 (v := Value.ref h16) (xgn (by decide) (xgn (by decide) (xgn (by decide) (xgn (by decide) (xgn (by decide) (xgn (by decide) (xgn (by decide) hw20))))))) e85 e86 hg87 ?_
  refine i_115_71 (x := 7) rfl ?_
  refine i_115_72 (v := Value.ref 8) (xgn (by decide) (xgn (by decide) (xgn (by decide) (xgn (by decide) (xgn (by decide) (xgn (by decide) (xgn (by decide) hw14))))))) rfl ?_
  refine i_115_75 (x := a2) rfl ?_
  refine i_115_76 (x := 4) rfl ?_
  refine i_115_78 (c := a14) hg88 ?_
  refine i_115_79 (v := Value.ref h17) (xgn (by decide) (xgn (by decide) (xgn (by decide) (xgn (by decide) (xgn (by decide) (xgn (by decide) (xgn (by decide) hw20))))))) e89 e90 hg91 ?_
  refine i_115_80 (xgs (xgs (xgs (xgs (xgs (xgn (by decide) (xgn (by decide) hw15))))))) (Nat.le_of_ble_eq_true rfl) (p_96_1 (xgn e92 (xgn e92 (xgn e92 (xgn e92 (xgn e92 (xgn e93 (xgn e94 hw95))))))) (xgn e96 (xgn e96 (xgn e96 (xgn e96 (xgn e96 (xgn e97 (xgn e98 hw99))))))) (xgs (xgs (xgs (xgs (xgs (xgn (by decide) (xgn (by decide) hw15)))))))) ?_
  refine i_115_83 (x := 4) (c := 5) (lv2 := [(6, Value.int 5), (0, Value.ref 7), (1, Value.int a0), (2, Value.int a1), (3, Value.int a2), (4, Value.int a3), (5, Value.int a4)]) rfl (by decide) rfl ?_
  refine i_115_86 ?_
  refine i_115_51 (x := 5) rfl ?_
  refine i_115_53 (x := a3) rfl ?_
  refine i_115_55 (fun h => absurd e100 (Int.not_lt.mpr h)) (fun _ => ?_)
  refine i_115_58 (x := 7) rfl ?_
  refine i_115_59 (v := Value.ref 19) (xgn (by decide) (xgn (by decide) (xgn (by decide) (xgn (by decide) (xgn (by decide) (xgn (by decide) (xgn (by decide) (xgn (by decide) hw14)))))))) rfl ?_
  refine i_115_62 (x := 7) rfl ?_
  refine i_115_63 (v := Value.ref 8) (xgn (by decide) (xgn (by decide) (xgn (by decide) (xgn (by decide) (xgn (by decide) (xgn (by decide) (xgn (by decide) (xgn (by decide) hw14)))))))) rfl ?_
  refine i_115_66 (x := a1) rfl ?_
  refine i_115_67 (x := 5) rfl ?_
  refine i_115_69 (c := a15) hg101 ?_
  refine i_115_70 (v := Value.ref h20) (xgn (by decide) (xgn (by decide) (xgn (by decide) (xgn (by decide) (xgn (by decide) (xgn (by decide) (xgn (by decide) (xgn (by decide) hw20)))))))) e102 e103 hg104 ?_
  refine i_115_71 (x := 7) rfl ?_
  refine i_115_72 (v := Value.ref 8) (xgn (by decide) (xgn (by decide) (xgn (by decide) (xgn (by decide) (xgn (by decide) (xgn (by decide) (xgn (by decide) (xgn (by decide) hw14)))))))) rfl ?_
  refine i_115_75 (x := a2) rfl ?_
  refine i_115_76 (x := 5) rfl ?_
  refine i_115_78 (c := a16) hg105 ?_
  refine i_115_79 (v := Value.ref h21) (xgn (by decide) (xgn (by decide) (xgn (by decide) (xgn (by decide) (xgn (by decide) (xgn (by decide) (xgn (by decide) (xgn (by decide) hw20)))))))) e106 e107 hg108 ?_
  refine i_115_80 (xgs (xgs (xgs (xgs (xgs (xgs (xgn (by decide) (xgn (by decide) hw15)))))))) (Nat.le_of_ble_eq_true rfl) (p_96_1 (xgn e109 (xgn e109 (xgn e109 (xgn e109 (xgn e109 (xgn e109 (xgn e110 (xgn e111 hw112)))))))) (xgn e113 (xgn e113 (xgn e113 (xgn e113 (xgn e113 (xgn e113 (xgn e114 (xgn e115 hw116)))))))) (xgs (xgs (xgs (xgs (xgs (xgs (xgn (by decide) (xgn (by decide) hw15))))))))) ?_
  refine i_115_83 (x := 5) (c := 6) (lv2 := [(6, Value.int 6), (0, Value.ref 7), (1, Value.int a0), (2, Value.int a1), (3, Value.int a2), (4, Value.int a3), (5, Value.int a4)]) rfl (by decide) rfl ?_
  refine i_115_86 ?_
  refine i_115_51 (x := 6) rfl ?_
  refine i_115_53 (x := a3) rfl ?_
  refine i_115_55 (fun h => absurd e117 (Int.not_lt.mpr h)) (fun _ => ?_)
  refine i_115_58 (x := 7) rfl ?_
  refine i_115_59 (v := Value.ref 19) (xgn (by decide) (xgn (by decide) (xgn (by decide) (xgn (by decide) (xgn (by decide) (xgn (by decide) (xgn (by decide) (xgn (by decide) (xgn (by decide) hw14))))))))) rfl ?_
  refine i_115_62 (x := 7) rfl ?_
  refine i_115_63 (v := Value.ref 8) (xgn (by decide) (xgn (by decide) (xgn (by decide) (xgn (by decide) (xgn (by decide) (xgn (by decide) (xgn (by decide) (xgn (by decide) (xgn (by decide) hw14))))))))) rfl ?_
  refine i_115_66 (x := a1) rfl ?_
  refine i_115_67 (x := 6) rfl ?_
  refine i_115_69 (c := a17) hg118 ?_
  refine i_115_70 (v := Value.ref h24) (xgn (by decide) (xgn (by decide) (xgn (by decide) (xgn (by decide) (xgn (by decide) (xgn (by decide) (xgn (by decide) (xgn (by decide) (xgn (by decide) hw20))))))))) e119 e120 hg121 ?_
  refine i_115_71 (x := 7) rfl ?_
  refine i_115_72 (v := Value.ref 8) (xgn (by decide) (xgn (by decide) (xgn (by decide) (xgn (by decide) (xgn (by decide) (xgn (by decide) (xgn (by decide) (xgn (by decide) (xgn (by decide) hw14))))))))) rfl ?_
  refine i_115_75 (x := a2) rfl ?_
  refine i_115_76 (x := 6) rfl ?_
  refine i_115_78 (c := a18) hg122 ?_
  refine i_115_79 (v := Value.ref h25) (xgn (by decide) (xgn (by decide) (xgn (by decide) (xgn (by decide) (xgn (by decide) (xgn (by decide) (xgn (by decide) (xgn (by decide) (xgn (by decide) hw20))))))))) e123 e124 hg125 ?_
  refine i_115_80 (xgs (xgs (xgs (xgs (xgs (xgs (xgs (xgn (by decide) (xgn (by decide) hw15))))))))) (Nat.le_of_ble_eq_true rfl) (p_96_1 (xgn e126 (xgn e126 (xgn e126 (xgn e126 (xgn e126 (xgn e126 (xgn e126 (xgn e127 (xgn e128 hw129))))))))) (xgn e130 (xgn e130 (xgn e130 (xgn e130 (xgn e130 (xgn e130 (xgn e130 (xgn e131 (xgn e132 hw133))))))))) (xgs (xgs (xgs (xgs (xgs (xgs (xgs (xgn (by decide) (xgn (by decide) hw15)))))))))) ?_
  refine i_115_83 (x := 6) (c := 7) (lv2 := [(6, Value.int 7), (0, Value.ref 7), (1, Value.int a0), (2, Value.int a1), (3, Value.int a2), (4, Value.int a3), (5, Value.int a4)]) rfl (by decide) rfl ?_
  refine i_115_86 ?_
  refine i_115_51 (x := 7) rfl ?_
  refine i_115_53 (x := a3) rfl ?_
  refine i_115_55 (fun h => absurd e134 (Int.not_lt.mpr h)) (fun _ => ?_)
  refine i_115_58 (x := 7) rfl ?_
  refine i_115_59 (v := Value.ref 19) (xgn (by decide) (xgn (by decide) (xgn (by decide) (xgn (by decide) (xgn (by decide) (xgn (by decide) (xgn (by decide) (xgn (by decide) (xgn (by decide) (xgn (by decide) hw14)))))))))) rfl ?_
  refine i_115_62 (x := 7) rfl ?_
  refine i_115_63 (v := Value.ref 8) (xgn (by decide) (xgn (by decide) (xgn (by decide) (xgn (by decide) (xgn (by decide) (xgn (by decide) (xgn (by decide) (xgn (by decide) (xgn (by decide) (xgn (by decide) hw14)))))))))) rfl ?_
  refine i_115_66 (x := a1) rfl ?_
  refine i_115_67 (x := 7) rfl ?_
  refine i_115_69 (c := a19) hg135 ?_
  refine i_115_70 (v := Value.ref h28) (xgn (by decide) (xgn (by decide) (xgn (by decide) (xgn (by decide) (xgn (by decide) (xgn (by decide) (xgn (by decide) (xgn (by decide) (xgn (by decide) (xgn (by decide) hw20)))))))))) e136 e137 hg138 ?_
  refine i_115_71 (x := 7) rfl ?_
  refine i_115_72 (v := Value.ref 8) (xgn (by decide) (xgn (by decide) (xgn (by decide) (xgn (by decide) (xgn (by decide) (xgn (by decide) (xgn (by decide) (xgn (by decide) (xgn (by decide) (xgn (by decide) hw14)))))))))) rfl ?_
  refine i_115_75 (x := a2) rfl ?_
  refine i_115_76 (x := 7) rfl ?_
  refine i_115_78 (c := a20) hg139 ?_
  refine i_115_79 (v := Value.ref h29) (xgn (by decide) (xgn (by decide) (xgn (by decide) (xgn (by decide) (xgn (by decide) (xgn (by decide) (xgn (by decide) (xgn (by decide) (xgn (by decide) (xgn (by decide) hw20)))))))))) e140 e141 hg142 ?_
  refine i_115_80 (xgs (xgs (xgs (xgs (xgs (xgs (xgs (xgs (xgn (by decide) (xgn (by decide) hw15)))))))))) (Nat.le_of_ble_eq_true rfl) (p_96_1 (xgn e143 (xgn e143 (xgn e143 (xgn e143 (xgn e143 (xgn e143 (xgn e143 (xgn e143 (xgn e144 (xgn e145 hw146)))))))))) (xgn e147 (xgn e147 (xgn e147 (xgn e147 (xgn e147 (xgn e147 (xgn e147 (xgn e147 (xgn e148 (xgn e149 hw150)))))))))) (xgs (xgs (xgs (xgs (xgs (xgs (xgs (xgs (xgn (by decide) (xgn (by decide) hw15))))))))))) ?_
  refine i_115_83 (x := 7) (c := 8) (lv2 := [(6, Value.int 8), (0, Value.ref 7), (1, Value.int a0), (2, Value.int a1), (3, Value.int a2), (4, Value.int a3), (5, Value.int a4)]) rfl (by decide) rfl ?_
  refine i_115_86 ?_
  refine i_115_51 (x := 8) rfl ?_
  refine i_115_53 (x := a3) rfl ?_
  refine i_115_55 (fun h => absurd e151 (Int.not_lt.mpr h)) (fun _ => ?_)
  refine i_115_58 (x := 7) rfl ?_
  refine i_115_59 (v := Value.ref 19) (xgn (by decide) (xgn (by decide) (xgn (by decide) (xgn (by decide) (xgn (by decide) (xgn (by decide) (xgn (by decide) (xgn (by decide) (xgn (by decide) (xgn (by decide) (xgn (by decide) hw14))))))))))) rfl ?_
  refine i_115_62 (x := 7) rfl ?_
  refine i_115_63 (v := Value.ref 8) (xgn (by decide) (xgn (by decide) (xgn (by decide) (xgn (by decide) (xgn (by decide) (xgn (by decide) (xgn (by decide) (xgn (by decide) (xgn (by decide) (xgn (by decide) (xgn (by decide) hw14))))))))))) rfl ?_
  refine i_115_66 (x := a1) rfl ?_
  refine i_115_67 (x := 8) rfl ?_
  refine i_115_69 (c := a21) hg152 ?_
  refine i_115_70 (v := Value.ref h32) (xgn (by decide) (xgn (by decide) (xgn (by decide) (xgn (by decide) (xgn (by decide) (xgn (by decide) (xgn (by decide) (xgn (by decide) (xgn (by decide) (xgn (by decide) (xgn (by decide) hw20))))))))))) e153 e154 hg155 ?_
  refine i_115_71 (x := 7) rfl ?_
  refine i_115_72 (v := Value.ref 8) (xgn (by decide) (xgn (by decide) (xgn (by decide) (xgn (by decide) (xgn (by decide) (xgn (by decide) (xgn (by decide) (xgn (by decide) (xgn (by decide) (xgn (by decide) (xgn (by decide) hw14))))))))))) rfl ?_
  refine i_115_75 (x := a2) rfl ?_
  refine i_115_76 (x := 8) rfl ?_
  refine i_115_78 (c := a22) hg156 ?_
  refine i_115_79 (v := Value.ref h33) (xgn (by decide) (xgn (by decide) (xgn (by decide) (xgn (by decide) (xgn (by decide) (xgn (by decide) (xgn (by decide) (xgn (by decide) (xgn (by decide) (xgn (by decide) (xgn (by decide) hw20))))))))))) e157 e158 hg159 ?_
  refine i_115_80 (xgs (xgs (xgs (xgs (xgs (xgs (xgs (xgs (xgs (xgn (by decide) (xgn (by decide) hw15))))))))))) (Nat.le_of_ble_eq_true rfl) (p_96_1 (xgn e160 (xgn e160 (xgn e160 (xgn e160 (xgn e160 (xgn e160 (xgn e160 (xgn e160 (xgn e160 (xgn e161 (xgn e162 hw163))))))))))) (xgn e164 (xgn e164 (xgn e164 (xgn e164 (xgn e164 (xgn e164 (xgn e164 (xgn e164 (xgn e164 (xgn e165 (xgn e166 hw167))))))))))) (xgs (xgs (xgs (xgs (xgs (xgs (xgs (xgs (xgs (xgn (by decide) (xgn (by decide) hw15)))))))))))) ?_
  refine i_115_83 (x := 8) (c := 9) (lv2 := [(6, Value.int 9), (0, Value.ref 7), (1, Value.int a0), (2, Value.int a1), (3, Value.int a2), (4, Value.int a3), (5, Value.int a4)]) rfl (by decide) rfl ?_
  refine i_115_86 ?_
  refine i_115_51 (x := 9) rfl ?_
  refine i_115_53 (x := a3) rfl ?_
  refine i_115_55 (fun h => absurd e168 (Int.not_lt.mpr h)) (fun _ => ?_)
  refine i_115_58 (x := 7) rfl ?_
  refine i_115_59 (v := Value.ref 19) (xgn (by decide) (xgn (by decide) (xgn (by decide) (xgn (by decide) (xgn (by decide) (xgn (by decide) (xgn (by decide) (xgn (by decide) (xgn (by decide) (xgn (by decide) (xgn (by decide) (xgn (by decide) hw14)))))))))))) rfl ?_
  refine i_115_62 (x := 7) rfl ?_
  refine i_115_63 (v := Value.ref 8) (xgn (by decide) (xgn (by decide) (xgn (by decide) (xgn (by decide) (xgn (by decide) (xgn (by decide) (xgn (by decide) (xgn (by decide) (xgn (by decide) (xgn (by decide) (xgn (by decide) (xgn (by decide) hw14)))))))))))) rfl ?_
  refine i_115_66 (x := a1) rfl ?_
  refine i_115_67 (x := 9) rfl ?_
  refine i_115_69 (c := a23) hg169 ?_
  refine i_115_70 (v := Value.ref h36) (xgn (by decide) (xgn (by decide) (xgn (by decide) (xgn (by decide) (xgn (by decide) (xgn (by decide) (xgn (by decide) (xgn (by decide) (xgn (by decide) (xgn (by decide) (xgn (by decide) (xgn (by decide) hw20)))))))))))) e170 e171 hg172 ?_
  refine i_115_71 (x := 7) rfl ?_
  refine i_115_72 (v := Value.ref 8) (xgn (by decide) (xgn (by decide) (xgn (by decide) (xgn (by decide) (xgn (by decide) (xgn (by decide) (xgn (by decide) (xgn (by decide) (xgn (by decide) (xgn (by decide) (xgn (by decide) (xgn (by decide) hw14)))))))))))) rfl ?_
  refine i_115_75 (x := a2) rfl ?_
  refine i_115_76 (x := 9) rfl ?_
  refine i_115_78 (c := a24) hg173 ?_
  refine i_115_79 (v := Value.ref h37) (xgn (by decide) (xgn (by decide) (xgn (by decide) (xgn (by decide) (xgn (by decide) (xgn (by decide) (xgn (by decide) (xgn (by decide) (xgn (by decide) (xgn (by decide) (xgn (by decide) (xgn (by decide) hw20)))))))))))) e174 e175 hg176 ?_
  refine i_115_80 (xgs (xgs (xgs (xgs (xgs (xgs (xgs (xgs (xgs (xgs (xgn (by decide) (xgn (by decide) hw15)))))))))))) (Nat.le_of_ble_eq_true rfl) (p_96_1 (xgn e177 (xgn e177 (xgn e177 (xgn e177 (xgn e177 (xgn e177 (xgn e177 (xgn e177 (xgn e177 (xgn e177 (xgn e178 (xgn e179 hw180)))))))))))) (xgn e181 (xgn e181 (xgn e181 (xgn e181 (xgn e181 (xgn e181 (xgn e181 (xgn e181 (xgn e181 (xgn e181 (xgn e182 (xgn e183 hw184)))))))))))) (xgs (xgs (xgs (xgs (xgs (xgs (xgs (xgs (xgs (xgs (xgn (by decide) (xgn (by decide) hw15))))))))))))) ?_
  refine i_115_83 (x := 9) (c := 10) (lv2 := [(6, Value.int 10), (0, Value.ref 7), (1, Value.int a0), (2, Value.int a1), (3, Value.int a2), (4, Value.int a3), (5, Value.int a4)]) rfl (by decide) rfl ?_
  refine i_115_86 ?_
  refine i_115_51 (x := 10) rfl ?_
  refine i_115_53 (x := a3) rfl ?_
  refine i_115_55 (fun h => absurd e185 (Int.not_lt.mpr h)) (fun _ => ?_)
  refine i_115_58 (x := 7) rfl ?_
  refine i_115_59 (v := Value.ref 19) (xgn (by decide) (xgn (by decide) (xgn (by decide) (xgn (by decide) (xgn (by decide) (xgn (by decide) (xgn (by decide) (xgn (by decide) (xgn (by decide) (xgn (by decide) (xgn (by decide) (xgn (by decide) (xgn (by decide) hw14))))))))))))) rfl ?_
  refine i_115_62 (x := 7) rfl ?_
  refine i_115_63 (v := Value.ref 8) (xgn (by decide) (xgn (by decide) (xgn (by decide) (xgn (by decide) (xgn (by decide) (xgn (by decide) (xgn (by decide) (xgn (by decide) (xgn (by decide) (xgn (by decide) (xgn (by decide) (xgn (by decide) (xgn (by decide) hw14))))))))))))) rfl ?_
  refine i_115_66 (x := a1) rfl ?_
  refine i_115_67 (x := 10) rfl ?_
  refine i_115_69 (c := a25) hg186 ?_
  refine i_115_70 (v := Value.ref h40) (xgn (by decide) (xgn (by decide) (xgn (by decide) (xgn (by decide) (xgn (by decide) (xgn (by decide) (xgn (by decide) (xgn (by decide) (xgn (by decide) (xgn (by decide) (xgn (by decide) (xgn (by decide) (xgn (by decide) hw20))))))))))))) e187 e188 hg189 ?_
  refine i_115_71 (x := 7) rfl ?_
  refine i_115_72 (v := Value.ref 8) (xgn (by decide) (xgn (by decide) (xgn (by decide) (xgn (by decide) (xgn (by decide) (xgn (by decide) (xgn (by decide) (xgn (by decide) (xgn (by decide) (xgn (by decide) (xgn (by decide) (xgn (by decide) (xgn (by decide) hw14))))))))))))) rfl ?_
  refine i_115_75 (x := a2) rfl ?_
  refine i_115_76 (x := 10) rfl ?_
  refine i_115_78 (c := a26) hg190 ?_
  refine i_115_79 (v := Value.ref h41) (xgn (by decide) (xgn (by decide) (xgn (by decide) (xgn (by decide) (xgn (by decide) (xgn (by decide) (xgn (by decide) (xgn (by decide) (xgn (by decide) (xgn (by decide) (xgn (by decide) (xgn (by decide) (xgn (by decide) hw20))))))))))))) e191 e192 hg193 ?_
  refine i_115_80 (xgs (xgs (xgs (xgs (xgs (xgs (xgs (xgs (xgs (xgs (xgs (xgn (by decide) (xgn (by decide) hw15))))))))))))) (Nat.le_of_ble_eq_true rfl) (p_96_1 (xgn e194 (xgn e194 (xgn e194 (xgn e194 (xgn e194 (xgn e194 (xgn e194 (xgn e194 (xgn e194 (xgn e194 (xgn e194 (xgn e195 (xgn e196 hw197))))))))))))) (xgn e198 (xgn e198 (xgn e198 (xgn e198 (xgn e198 (xgn e198 (xgn e198 (xgn e198 (xgn e198 (xgn e198 (xgn e198 (xgn e199 (xgn e200 hw201))))))))))))) (xgs (xgs (xgs (xgs (xgs (xgs (xgs (xgs (xgs (xgs (xgs (xgn (by decide) (xgn (by decide) hw15)))))))))))))) ?_
  refine i_115_83 (x := 10) (c := 11) (lv2 := [(6, Value.int 11), (0, Value.ref 7), (1, Value.int a0), (2, Value.int a1), (3, Value.int a2), (4, Value.int a3), (5, Value.int a4)]) rfl (by decide) rfl ?_
  refine i_115_86 ?_
  refine i_115_51 (x := 11) rfl ?_
  refine i_115_53 (x := a3) rfl ?_
  refine i_115_55 (fun h => absurd e202 (Int.not_lt.mpr h)) (fun _ => ?_)
  refine i_115_58 (x := 7) rfl ?_
  refine i_115_59 (v := Value.ref 19) (xgn (by decide) (xgn (by decide) (xgn (by decide) (xgn (by decide) (xgn (by decide) (xgn (by decide) (xgn (by decide) (xgn (by decide) (xgn (by decide) (xgn (by decide) (xgn (by decide) (xgn (by decide) (xgn (by decide) (xgn (by decide) hw14)))))))))))))) rfl ?_
  refine i_115_62 (x := 7) rfl ?_
  refine i_115_63 (v := Value.ref 8) (xgn (by decide) (xgn (by decide) (xgn (by decide) (xgn (by decide) (xgn (by decide) (xgn (by decide) (xgn (by decide) (xgn (by decide) (xgn (by decide) (xgn (by decide) (xgn (by decide) (xgn (by decide) (xgn (by decide) (xgn (by decide) hw14)))))))))))))) rfl ?_
  refine i_115_66 (x := a1) rfl ?_
  refine i_115_67 (x := 11) rfl ?_
  refine i_115_69 (c := a27) hg203 ?_
  refine i_115_70 (v := Value.ref h44) (xgn (by decide) (xgn (by decide) (xgn (by decide) (xgn (by decide) (xgn (by decide) (xgn (by decide) (xgn (by decide) (xgn (by decide) (xgn (by decide) (xgn (by decide) (xgn (by decide) (xgn (by decide) (xgn (by decide) (xgn (by decide) hw20)))))))))))))) e204 e205 hg206 ?_
  refine i_115_71 (x := 7) rfl ?_
  refine i_115_72 (v := Value.ref 8) (xgn (by decide) (xgn (by decide) (xgn (by decide) (xgn (by decide) (xgn (by decide) (xgn (by decide) (xgn (by decide) (xgn (by decide) (xgn (by decide) (xgn (by decide) (xgn (by decide) (xgn (by decide) (xgn (by decide) (xgn (by decide) hw14)))))))))))))) rfl ?_
  refine i_115_75 (x := a2) rfl ?_
  refine i_115_76 (x := 11) rfl ?_
  refine i_115_78 (c := a28) hg207 ?_
  refine i_115_79 (v := Value.ref h45) (xgn (by decide) (xgn (by decide) (xgn (by decide) (xgn (by decide) (xgn (by decide) (xgn (by decide) (xgn (by decide) (xgn (by decide) (xgn (by decide) (xgn (by decide) (xgn (by decide) (xgn (by decide) (xgn (by decide) (xgn (by decide) hw20)))))))))))))) e208 e209 hg210 ?_
  refine i_115_80 (xgs (xgs (xgs (xgs (xgs (xgs (xgs (xgs (xgs (xgs (xgs (xgs (xgn (by decide) (xgn (by decide) hw15)))))))))))))) (Nat.le_of_ble_eq_true rfl) (p_96_1 (xgn e211 (xgn e211 (xgn e211 (xgn e211 (xgn e211 (xgn e211 (xgn e211 (xgn e211 (xgn e211 (xgn e211 (xgn e211 (xgn e211 (xgn e212 (xgn e213 hw214)))))))))))))) (xgn e215 (xgn e215 (xgn e215 (xgn e215 (xgn e215 (xgn e215 (xgn e215 (xgn e215 (xgn e215 (xgn e215 (xgn e215 (xgn e215 (xgn e216 (xgn e217 hw218)))))))))))))) (xgs (xgs (xgs (xgs (xgs (xgs (xgs (xgs (xgs (xgs (xgs (xgs (xgn (by decide) (xgn (by decide) hw15))))))))))))))) ?_
  refine i_115_83 (x := 11) (c := 12) (lv2 := [(6, Value.int 12), (0, Value.ref 7), (1, Value.int a0), (2, Value.int a1), (3, Value.int a2), (4, Value.int a3), (5, Value.int a4)]) rfl (by decide) rfl ?_
  refine i_115_86 ?_
  refine i_115_51 (x := 12) rfl ?_
  refine i_115_53 (x := a3) rfl ?_
  refine i_115_55 (fun h => absurd e219 (Int.not_lt.mpr h)) (fun _ => ?_)
  refine i_115_58 (x := 7) rfl ?_
  refine i_115_59 (v := Value.ref 19) (xgn (by decide) (xgn (by decide) (xgn (by decide) (xgn (by decide) (xgn (by decide) (xgn (by decide) (xgn (by decide) (xgn (by decide) (xgn (by decide) (xgn (by decide) (xgn (by decide) (xgn (by decide) (xgn (by decide) (xgn (by decide) (xgn (by decide) hw14))))))))))))))) rfl ?_
  refine i_115_62 (x := 7) rfl ?_
  refine i_115_63 (v := Value.ref 8) (xgn (by decide) (xgn (by decide) (xgn (by decide) (xgn (by decide) (xgn (by decide) (xgn (by decide) (xgn (by decide) (xgn (by decide) (xgn (by decide) (xgn (by decide) (xgn (by decide) (xgn (by decide) (xgn (by decide) (xgn (by decide) (xgn (by decide) hw14))))))))))))))) rfl ?_
  refine i_115_66 (x := a1) rfl ?_
  refine i_115_67 (x := 12) rfl ?_
  refine i_115_69 (c := a29) hg220 ?_
  refine i_115_70 (v := Value.ref h48) (xgn (by decide) (xgn (by decide) (xgn (by decide) (xgn (by decide) (xgn (by decide) (xgn (by decide) (xgn (by decide) (xgn (by decide) (xgn (by decide) (xgn (by decide) (xgn (by decide) (xgn (by decide) (xgn (by decide) (xgn (by decide) (xgn (by decide) hw20))))))))))))))) e221 e222 hg223 ?_
  refine i_115_71 (x := 7) rfl ?_
  refine i_115_72 (v := Value.ref 8) (xgn (by decide) (xgn (by decide) (xgn (by decide) (xgn (by decide) (xgn (by decide) (xgn (by decide) (xgn (by decide) (xgn (by decide) (xgn (by decide) (xgn (by decide) (xgn (by decide) (xgn (by decide) (xgn (by decide) (xgn (by decide) (xgn (by decide) hw14))))))))))))))) rfl ?_
  refine i_115_75 (x := a2) rfl ?_
  refine i_115_76 (x := 12) rfl ?_
  refine i_115_78 (c := a30) hg224 ?_
  refine i_115_79 (v := Value.ref h49) (xgn (by decide) (xgn (by decide) (xgn (by decide) (xgn (by decide) (xgn (by decide) (xgn (by decide) (xgn (by decide) (xgn (by decide) (xgn (by decide) (xgn (by decide) (xgn (by decide) (xgn (by decide) (xgn (by decide) (xgn (by decide) (xgn (by decide) hw20))))))))))))))) e225 e226 hg227 ?_
  refine i_115_80 (xgs (xgs (xgs (xgs (xgs (xgs (xgs (xgs (xgs (xgs (xgs (xgs (xgs (xgn (by decide) (xgn (by decide) hw15))))))))))))))) (Nat.le_of_ble_eq_true rfl) (p_96_1 (xgn e228 (xgn e228 (xgn e228 (xgn e228 (xgn e228 (xgn e228 (xgn e228 (xgn e228 (xgn e228 (xgn e228 (xgn e228 (xgn e228 (xgn e228 (xgn e229 (xgn e230 hw231))))))))))))))) (xgn e232 (xgn e232 (xgn e232 (xgn e232 (xgn e232 (xgn e232 (xgn e232 (xgn e232 (xgn e232 (xgn e232 (xgn e232 (xgn e232 (xgn e232 (xgn e233 (xgn e234 hw235))))))))))))))) (xgs (xgs (xgs (xgs (xgs (xgs (xgs (xgs (xgs (xgs (xgs (xgs (xgs (xgn (by decide) (xgn (by decide) hw15)))))))))))))))) ?_
  refine i_115_83 (x := 12) (c := 13) (lv2 := [(6, Value.int 13), (0, Value.ref 7), (1, Value.int a0), (2, Value.int a1), (3, Value.int a2), (4, Value.int a3), (5, Value.int a4)]) rfl (by decide) rfl ?_
  refine i_115_86 ?_
  refine i_115_51 (x := 13) rfl ?_
  refine i_115_53 (x := a3) rfl ?_
  refine i_115_55 (fun h => absurd e236 (Int.not_lt.mpr h)) (fun _ => ?_)
  refine i_115_58 (x := 7) rfl ?_
  refine i_115_59 (v := Value.ref 19) (xgn (by decide) (xgn (by decide) (xgn (by decide) (xgn (by decide) (xgn (by decide) (xgn (by decide) (xgn (by decide) (xgn (by decide) (xgn (by decide) (xgn (by decide) (xgn (by decide) (xgn (by decide) (xgn (by decide) (xgn (by decide) (xgn (by decide) (xgn (by decide) hw14)))))))))))))))) rfl ?_
  refine i_115_62 (x := 7) rfl ?_
  refine i_115_63 (v := Value.ref 8) (xgn (by decide) (xgn (by decide) (xgn (by decide) (xgn (by decide) (xgn (by decide) (xgn (by decide) (xgn (by decide) (xgn (by decide) (xgn (by decide) (xgn (by decide) (xgn (by decide) (xgn (by decide) (xgn (by decide) (xgn (by decide) (xgn (by decide) (xgn (by decide) hw14)))))))))))))))) rfl ?_
  refine i_115_66 (x := a1) rfl ?_
  refine i_115_67 (x := 13) rfl ?_
  refine i_115_69 (c := a31) hg237 ?_
  refine i_115_70 (v := Value.ref h52) (xgn (by decide) (xgn (by decide) (xgn (by decide) (xgn (by decide) (xgn (by decide) (xgn (by decide) (xgn (by decide) (xgn (by decide) (xgn (by decide) (xgn (by decide) (xgn (by decide) (xgn (by decide) (xgn (by decide) (xgn (by decide) (xgn (by decide) (xgn (by decide) hw20)))))))))))))))) e238 e239 hg240 ?_
  refine i_115_71 (x := 7) rfl ?_
  refine i_115_72 (v := Value.ref 8) (xgn (by decide) (xgn (by decide) (xgn (by decide) (xgn (by decide) (xgn (by decide) (xgn (by decide) (xgn (by decide) (xgn (by decide) (xgn (by decide) (xgn (by decide) (xgn (by decide) (xgn (by decide) (xgn (by decide) (xgn (by decide) (xgn (by decide) (xgn (by decide) hw14)))))))))))))))) rfl ?_
  refine i_115_75 (x := a2) rfl ?_
  refine i_115_76 (x := 13) rfl ?_
  refine i_115_78 (c := a32) hg241 ?_
  refine i_115_79 (v := Value.ref h53) (xgn (by decide) (xgn (by decide) (xgn (by decide) (xgn (by decide) (xgn (by decide) (xgn (by decide) (xgn (by decide) (xgn (by decide) (xgn (by decide) (xgn (by decide) (xgn (by decide) (xgn (by decide) (xgn (by decide) (xgn (by decide) (xgn (by decide) (xgn (by decide) hw20)))))))))))))))) e242 e243 hg244 ?_
  refine i_115_80 (xgs (xgs (xgs (xgs (xgs (xgs (xgs (xgs (xgs (xgs (xgs (xgs (xgs (xgs (xgn (by decide) (xgn (by decide) hw15)))))))))))))))) (Nat.le_of_ble_eq_true rfl) (p_96_1 (xgn e245 (xgn e245 (xgn e245 (xgn e245 (xgn e245 (xgn e245 (xgn e245 (xgn e245 (xgn e245 (xgn e245 (xgn e245 (xgn e245 (xgn e245 (xgn e245 (xgn e246 (xgn e247 hw248)))))))))))))))) (xgn e249 (xgn e249 (xgn e249 (xgn e249 (xgn e249 (xgn e249 (xgn e249 (xgn e249 (xgn e249 (xgn e249 (xgn e249 (xgn e249 (xgn e249 (xgn e249 (xgn e250 (xgn e251 hw252)))))))))))))))) (xgs (xgs (xgs (xgs (xgs (xgs (xgs (xgs (xgs (xgs (xgs (xgs (xgs (xgs (xgn (by decide) (xgn (by decide) hw15))))))))))))))))) ?_
  refine i_115_83 (x := 13) (c := 14) (lv2 := [(6, Value.int 14), (0, Value.ref 7), (1, Value.int a0), (2, Value.int a1), (3, Value.int a2), (4, Value.int a3), (5, Value.int a4)]) rfl (by decide) rfl ?_
  refine i_115_86 ?_
  refine i_115_51 (x := 14) rfl ?_
  refine i_115_53 (x := a3) rfl ?_
  refine i_115_55 (fun _ => ?_) (fun h => absurd e253 (Int.not_le.mpr h))
  refine i_115_89 (x := 7) rfl ?_
  refine i_115_90 (v := Value.ref 19) (xgn (by decide) (xgn (by decide) (xgn (by decide) (xgn (by decide) (xgn (by decide) (xgn (by decide) (xgn (by decide) (xgn (by decide) (xgn (by decide) (xgn (by decide) (xgn (by decide) (xgn (by decide) (xgn (by decide) (xgn (by decide) (xgn (by decide) (xgn (by decide) (xgn (by decide) hw14))))))))))))))))) rfl ?_
  refine i_115_93 (x := 7) rfl ?_
  refine i_115_94 (v := Value.ref 78) (xgn (by decide) (xgn (by decide) (xgn (by decide) (xgn (by decide) (xgn (by decide) (xgn (by decide) (xgn (by decide) (xgn (by decide) (xgn (by decide) (xgn (by decide) (xgn (by decide) (xgn (by decide) (xgn (by decide) (xgn (by decide) (xgn (by decide) (xgn (by decide) (xgn (by decide) hw14))))))))))))))))) rfl ?_
  refine i_115_97 (x := 7) rfl ?_
  refine i_115_98 (v := Value.ref 8) (xgn (by decide) (xgn (by decide) (xgn (by decide) (xgn (by decide) (xgn (by decide) (xgn (by decide) (xgn (by decide) (xgn (by decide) (xgn (by decide) (xgn (by decide) (xgn (by decide) (xgn (by decide) (xgn (by decide) (xgn (by decide) (xgn (by decide) (xgn (by decide) (xgn (by decide) hw14))))))))))))))))) rfl ?_
  refine i_115_101 (x := a0) rfl ?_
  refine i_115_102 (v := Value.ref h56) (xgn (by decide) (xgn (by decide) (xgn (by decide) (xgn (by decide) (xgn (by decide) (xgn (by decide) (xgn (by decide) (xgn (by decide) (xgn (by decide) (xgn (by decide) (xgn (by decide) (xgn (by decide) (xgn (by decide) (xgn (by decide) (xgn (by decide) (xgn (by decide) (xgn (by decide) hw20))))))))))))))))) e0 e1 hg254 ?_
  refine i_115_103 (x := a4) rfl ?_
  refine i_115_105 (xgs (xgs (xgs (xgs (xgs (xgs (xgs (xgs (xgs (xgs (xgs (xgs (xgs (xgs (xgs (xgn (by decide) (xgn (by decide) hw15))))))))))))))))) (Nat.le_of_ble_eq_true rfl) (p_64_0 (xgs (xgs (xgs (xgs (xgs (xgs (xgs (xgs (xgs (xgs (xgs (xgs (xgs (xgs (xgs (xgn (by decide) (xgn (by decide) hw15))))))))))))))))) (xgn e255 (xgn e255 (xgn e255 (xgn e255 (xgn e255 (xgn e255 (xgn e255 (xgn e255 (xgn e255 (xgn e255 (xgn e255 (xgn e255 (xgn e255 (xgn e255 (xgn e255 (xgn e256 (xgn e257 hw258))))))))))))))))) e259) ?_
  exact i_115_108 ⟨rfl, rfl⟩
theorem p_114_11 {d : Nat} {w : xW} {a0 : Int32} {a1 : Int32} {a2 : Int32} {a3 : Int32} {a4 : Int32} {a5 : Int32} {a6 : Int32} {g0 : Nat → Value} {h0 : Nat} {h1 : Nat} {h2 : Nat} {h3 : Nat} {a7 : Int32} {h4 : Nat} {a8 : Int32} {h5 : Nat} {h6 : Nat} {h7 : Nat} {a9 : Int32} {h8 : Nat} {a10 : Int32} {h9 : Nat} {h10 : Nat} {h11 : Nat} {a11 : Int32} {h12 : Nat} {a12 : Int32} {h13 : Nat} {h14 : Nat} {h15 : Nat} {a13 : Int32} {h16 : Nat} {a14 : Int32} {h17 : Nat} {h18 : Nat} {h19 : Nat} {a15 : Int32} {h20 : Nat} {a16 : Int32} {h21 : Nat} {h22 : Nat} {h23 : Nat} {a17 : Int32} {h24 : Nat} {a18 : Int32} {h25 : Nat} {h26 : Nat} {h27 : Nat} {a19 : Int32} {h28 : Nat} {a20 : Int32} {h29 : Nat} {h30 : Nat} {h31 : Nat} {a21 : Int32} {h32 : Nat} {a22 : Int32} {h33 : Nat} {h34 : Nat} {h35 : Nat} {a23 : Int32} {h36 : Nat} {a24 : Int32} {h37 : Nat} {h38 : Nat} {h39 : Nat} {a25 : Int32} {h40 : Nat} {a26 : Int32} {h41 : Nat} {h42 : Nat} {h43 : Nat} {a27 : Int32} {h44 : Nat} {a28 : Int32} {h45 : Nat} {h46 : Nat} {h47 : Nat} {a29 : Int32} {h48 : Nat} {a30 : Int32} {h49 : Nat} {h50 : Nat} {h51 : Nat} {a31 : Int32} {h52 : Nat} {a32 : Int32} {h53 : Nat} {h54 : Nat} {h55 : Nat} {h56 : Nat} {h57 : Nat} (hw0 : w[7]? = some (Sum.inr (0, [Value.ref 8, Value.ref 78, Value.ref 9, Value.ref 10, Value.ref 13, Value.ref 16, Value.ref 19, Value.ref 93, Value.ref 108, Value.ref 113, Value.ref 29, Value.int 0]))) (e1 : 0 ≤ a0.toInt) (e2 : a0.toInt < 16) (e3 : 0 ≤ a1.toInt) (e4 : a1.toInt < 16) (e5 : 1 ≤ a3.toInt) (e6 : a3.toInt ≤ 16) (hg7 : (a1 + a3) = a5) (e8 : a5.toInt ≤ 16) (e9 : 0 ≤ a2.toInt) (e10 : a2.toInt < 16) (hg11 : (a2 + a3) = a6) (e12 : a6.toInt ≤ 16) (e13 : 0 ≤ a4.toInt) (e14 : a4.toInt ≤ 4) (hw15 : w[19]? = some (Sum.inr (5, [Value.ref 20, Value.ref 22, Value.ref 24, Value.ref 26, Value.int 0, Value.int 0, Value.int 0, Value.int 0, Value.int 0, Value.int 0, Value.int 0, Value.int 0]))) (hw16 : w[20]? = some (Sum.inr (3, [Value.ref 21, Value.int 0]))) (hw17 : w[22]? = some (Sum.inr (3, [Value.ref 23, Value.int 0]))) (e18 : 0 < a3.toInt) (hg19 : (a1 + (0 : Int32)) = a1) (hw20 : w[8]? = some (Sum.inl (4, 16, g0))) (hg21 : g0 a1.toInt.toNat = Value.ref h0) (hg22 : (a2 + (0 : Int32)) = a2) (hg23 : g0 a2.toInt.toNat = Value.ref h1) (e24 : 19 ≠ h0) (e25 : 22 ≠ h0) (e26 : 20 ≠ h0) (hw27 : w[h0]? = some (Sum.inr (2, [Value.int 64, Value.int 0, Value.int 0, Value.int 0, Value.ref h2]))) (e28 : 19 ≠ h1) (e29 : 22 ≠ h1) (e30 : 20 ≠ h1) (hw31 : w[h1]? = some (Sum.inr (2, [Value.int 64, Value.int 0, Value.int 0, Value.int 0, Value.ref h3]))) (e32 : 1 < a3.toInt) (hg33 : (a1 + (1 : Int32)) = a7) (e34 : 0 ≤ a7.toInt) (e35 : a7.toInt < 16) (hg36 : g0 a7.toInt.toNat = Value.ref h4) (hg37 : (a2 + (1 : Int32)) = a8) (e38 : 0 ≤ a8.toInt) (e39 : a8.toInt < 16) (hg40 : g0 a8.toInt.toNat = Value.ref h5) (e41 : 19 ≠ h4) (e42 : 22 ≠ h4) (e43 : 20 ≠ h4) (hw44 : w[h4]? = some (Sum.inr (2, [Value.int 64, Value.int 0, Value.int 0, Value.int 0, Value.ref h6]))) (e45 : 19 ≠ h5) (e46 : 22 ≠ h5) (e47 : 20 ≠ h5) (hw48 : w[h5]? = some (Sum.inr (2, [Value.int 64, Value.int 0, Value.int 0, Value.int 0, Value.ref h7]))) (e49 : 2 < a3.toInt) (hg50 : (a1 + (2 : Int32)) = a9) (e51 : 0 ≤ a9.toInt) (e52 : a9.toInt < 16) (hg53 : g0 a9.toInt.toNat = Value.ref h8) (hg54 : (a2 + (2 : Int32)) = a10) (e55 : 0 ≤ a10.toInt) (e56 : a10.toInt < 16) (hg57 : g0 a10.toInt.toNat = Value.ref h9) (e58 : 19 ≠ h8) (e59 : 22 ≠ h8) (e60 : 20 ≠ h8) (hw61 : w[h8]? = some (Sum.inr (2, [Value.int 64, Value.int 0, Value.int 0, Value.int 0, Value.ref h10]))) (e62 : 19 ≠ h9) (e63 : 22 ≠ h9) (e64 : 20 ≠ h9) (hw65 : w[h9]? = some (Sum.inr (2, [Value.int 64, Value.int 0, Value.int 0, Value.int 0, Value.ref h11]))) (e66 : 3 < a3.toInt) (hg67 : (a1 + (3 : Int32)) = a11) (e68 : 0 ≤ a11.toInt) (e69 : a11.toInt < 16) (hg70 : g0 a11.toInt.toNat = Value.ref h12) (hg71 : (a2 + (3 : Int32)) = a12) (e72 : 0 ≤ a12.toInt) (e73 : a12.toInt < 16) (hg74 : g0 a12.toInt.toNat = Value.ref h13) (e75 : 19 ≠ h12) (e76 : 22 ≠ h12) (e77 : 20 ≠ h12) (hw78 : w[h12]? = some (Sum.inr (2, [Value.int 64, Value.int 0, Value.int 0, Value.int 0, Value.ref h14]))) (e79 : 19 ≠ h13) (e80 : 22 ≠ h13) (e81 : 20 ≠ h13) (hw82 : w[h13]? = some (Sum.inr (2, [Value.int 64, Value.int 0, Value.int 0, Value.int 0, Value.ref h15]))) (e83 : 4 < a3.toInt) (hg84 : (a1 + (4 : Int32)) = a13) (e85 : 0 ≤ a13.toInt) (e86 : a13.toInt < 16) (hg87 : g0 a13.toInt.toNat = Value.ref h16) (hg88 : (a2 + (4 : Int32)) = a14) (e89 : 0 ≤ a14.toInt) (e90 : a14.toInt < 16) (hg91 : g0 a14.toInt.toNat = Value.ref h17) (e92 : 19 ≠ h16) (e93 : 22 ≠ h16) (e94 : 20 ≠ h16) (hw95 : w[h16]? = some (Sum.inr (2, [Value.int 64, Value.int 0, Value.int 0, Value.int 0, Value.ref h18]))) (e96 : 19 ≠ h17) (e97 : 22 ≠ h17) (e98 : 20 ≠ h17) (hw99 : w[h17]? = some (Sum.inr (2, [Value.int 64, Value.int 0, Value.int 0, Value.int 0, Value.ref h19]))) (e100 : 5 < a3.toInt) (hg101 : (a1 + (5 : Int32)) = a15) (e102 : 0 ≤ a15.toInt) (e103 : a15.toInt < 16) (hg104 : g0 a15.toInt.toNat = Value.ref h20) (hg105 : (a2 + (5 : Int32)) = a16) (e106 : 0 ≤ a16.toInt) (e107 : a16.toInt < 16) (hg108 : g0 a16.toInt.toNat = Value.ref h21) (e109 : 19 ≠ h20) (e110 : 22 ≠ h20) (e111 : 20 ≠ h20) (hw112 : w[h20]? = some (Sum.inr (2, [Value.int 64, Value.int 0, Value.int 0, Value.int 0, Value.ref h22]))) (e113 : 19 ≠ h21) (e114 : 22 ≠ h21) (e115 : 20 ≠ h21) (hw116 : w[h21]? = some (Sum.inr (2, [Value.int 64, Value.int 0, Value.int 0, Value.int 0, Value.ref h23]))) (e117 : 6 < a3.toInt) (hg118 : (a1 + (6 : Int32)) = a17) (e119 : 0 ≤ a17.toInt) (e120 : a17.toInt < 16) (hg121 : g0 a17.toInt.toNat = Value.ref h24) (hg122 : (a2 + (6 : Int32)) = a18) (e123 : 0 ≤ a18.toInt) (e124 : a18.toInt < 16) (hg125 : g0 a18.toInt.toNat = Value.ref h25) (e126 : 19 ≠ h24) (e127 : 22 ≠ h24) (e128 : 20 ≠ h24) (hw129 : w[h24]? = some (Sum.inr (2, [Value.int 64, Value.int 0, Value.int 0, Value.int 0, Value.ref h26]))) (e130 : 19 ≠ h25) (e131 : 22 ≠ h25) (e132 : 20 ≠ h25) (hw133 : w[h25]? = some (Sum.inr (2, [Value.int 64, Value.int 0, Value.int 0, Value.int 0, Value.ref h27]))) (e134 : 7 < a3.toInt) (hg135 : (a1 + (7 : Int32)) = a19) (e136 : 0 ≤ a19.toInt) (e137 : a19.toInt < 16) (hg138 : g0 a19.toInt.toNat = Value.ref h28) (hg139 : (a2 + (7 : Int32)) = a20) (e140 : 0 ≤ a20.toInt) (e141 : a20.toInt < 16) (hg142 : g0 a20.toInt.toNat = Value.ref h29) (e143 : 19 ≠ h28) (e144 : 22 ≠ h28) (e145 : 20 ≠ h28) (hw146 : w[h28]? = some (Sum.inr (2, [Value.int 64, Value.int 0, Value.int 0, Value.int 0, Value.ref h30]))) (e147 : 19 ≠ h29) (e148 : 22 ≠ h29) (e149 : 20 ≠ h29) (hw150 : w[h29]? = some (Sum.inr (2, [Value.int 64, Value.int 0, Value.int 0, Value.int 0, Value.ref h31]))) (e151 : 8 < a3.toInt) (hg152 : (a1 + (8 : Int32)) = a21) (e153 : 0 ≤ a21.toInt) (e154 : a21.toInt < 16) (hg155 : g0 a21.toInt.toNat = Value.ref h32) (hg156 : (a2 + (8 : Int32)) = a22) (e157 : 0 ≤ a22.toInt) (e158 : a22.toInt < 16) (hg159 : g0 a22.toInt.toNat = Value.ref h33) (e160 : 19 ≠ h32) (e161 : 22 ≠ h32) (e162 : 20 ≠ h32) (hw163 : w[h32]? = some (Sum.inr (2, [Value.int 64, Value.int 0, Value.int 0, Value.int 0, Value.ref h34]))) (e164 : 19 ≠ h33) (e165 : 22 ≠ h33) (e166 : 20 ≠ h33) (hw167 : w[h33]? = some (Sum.inr (2, [Value.int 64, Value.int 0, Value.int 0, Value.int 0, Value.ref h35]))) (e168 : 9 < a3.toInt) (hg169 : (a1 + (9 : Int32)) = a23) (e170 : 0 ≤ a23.toInt) (e171 : a23.toInt < 16) (hg172 : g0 a23.toInt.toNat = Value.ref h36) (hg173 : (a2 + (9 : Int32)) = a24) (e174 : 0 ≤ a24.toInt) (e175 : a24.toInt < 16) (hg176 : g0 a24.toInt.toNat = Value.ref h37) (e177 : 19 ≠ h36) (e178 : 22 ≠ h36) (e179 : 20 ≠ h36) (hw180 : w[h36]? = some (Sum.inr (2, [Value.int 64, Value.int 0, Value.int 0, Value.int 0, Value.ref h38]))) (e181 : 19 ≠ h37) (e182 : 22 ≠ h37) (e183 : 20 ≠ h37) (hw184 : w[h37]? = some (Sum.inr (2, [Value.int 64, Value.int 0, Value.int 0, Value.int 0, Value.ref h39]))) (e185 : 10 < a3.toInt) (hg186 : (a1 + (10 : Int32)) = a25) (e187 : 0 ≤ a25.toInt) (e188 : a25.toInt < 16) (hg189 : g0 a25.toInt.toNat = Value.ref h40) (hg190 : (a2 + (10 : Int32)) = a26) (e191 : 0 ≤ a26.toInt) (e192 : a26.toInt < 16) (hg193 : g0 a26.toInt.toNat = Value.ref h41) (e194 : 19 ≠ h40) (e195 : 22 ≠ h40) (e196 : 20 ≠ h40) (hw197 : w[h40]? = some (Sum.inr (2, [Value.int 64, Value.int 0, Value.int 0, Value.int 0, Value.ref h42]))) (e198 : 19 ≠ h41) (e199 : 22 ≠ h41) (e200 : 20 ≠ h41) (hw201 : w[h41]? = some (Sum.inr (2, [Value.int 64, Value.int 0, Value.int 0, Value.int 0, Value.ref h43]))) (e202 : 11 < a3.toInt) (hg203 : (a1 + (11 : Int32)) = a27) (e204 : 0 ≤ a27.toInt) (e205 : a27.toInt < 16) (hg206 : g0 a27.toInt.toNat = Value.ref h44) (hg207 : (a2 + (11 : Int32)) = a28) (e208 : 0 ≤ a28.toInt) (e209 : a28.toInt < 16) (hg210 : g0 a28.toInt.toNat = Value.ref h45) (e211 : 19 ≠ h44) (e212 : 22 ≠ h44) (e213 : 20 ≠ h44) (hw214 : w[h44]? = some (Sum.inr (2, [Value.int 64, Value.int 0, Value.int 0, Value.int 0, Value.ref h46]))) (e215 : 19 ≠ h45) (e216 : 22 ≠ h45) (e217 : 20 ≠ h45) (hw218 : w[h45]? = some (Sum.inr (2, [Value.int 64, Value.int 0, Value.int 0, Value.int 0, Value.ref h47]))) (e219 : 12 < a3.toInt) (hg220 : (a1 + (12 : Int32)) = a29) (e221 : 0 ≤ a29.toInt) (e222 : a29.toInt < 16) (hg223 : g0 a29.toInt.toNat = Value.ref h48) (hg224 : (a2 + (12 : Int32)) = a30) (e225 : 0 ≤ a30.toInt) (e226 : a30.toInt < 16) (hg227 : g0 a30.toInt.toNat = Value.ref h49) (e228 : 19 ≠ h48) (e229 : 22 ≠ h48) (e230 : 20 ≠ h48) (hw231 : w[h48]? = some (Sum.inr (2, [Value.int 64, Value.int 0, Value.int 0, Value.int 0, Value.ref h50]))) (e232 : 19 ≠ h49) (e233 : 22 ≠ h49) (e234 : 20 ≠ h49) (hw235 : w[h49]? = some (Sum.inr (2, [Value.int 64, Value.int 0, Value.int 0, Value.int 0, Value.ref h51]))) (e236 : 13 < a3.toInt) (hg237 : (a1 + (13 : Int32)) = a31) (e238 : 0 ≤ a31.toInt) (e239 : a31.toInt < 16) (hg240 : g0 a31.toInt.toNat = Value.ref h52) (hg241 : (a2 + (13 : Int32)) = a32) (e242 : 0 ≤ a32.toInt) (e243 : a32.toInt < 16) (hg244 : g0 a32.toInt.toNat = Value.ref h53) (e245 : 19 ≠ h52) (e246 : 22 ≠ h52) (e247 : 20 ≠ h52) (hw248 : w[h52]? = some (Sum.inr (2, [Value.int 64, Value.int 0, Value.int 0, Value.int 0, Value.ref h54]))) (e249 : 19 ≠ h53) (e250 : 22 ≠ h53) (e251 : 20 ≠ h53) (hw252 : w[h53]? = some (Sum.inr (2, [Value.int 64, Value.int 0, Value.int 0, Value.int 0, Value.ref h55]))) (e253 : a3.toInt ≤ 14) (hg254 : g0 a0.toInt.toNat = Value.ref h56) (e255 : 19 ≠ h56) (e256 : 22 ≠ h56) (e257 : 20 ≠ h56) (hw258 : w[h56]? = some (Sum.inr (2, [Value.int 64, Value.int 0, Value.int 0, Value.int 0, Value.ref h57]))) (e259 : 7 ≤ h56) (e260 : h56 ≠ 194) (hw261 : w[194]? = some (Sum.inl (3, 1, fun _ => Value.long 0))) : xRun (d + 4) 114 [Value.ref 7, Value.int a0, Value.int a1, Value.int a2, Value.int a3, Value.int a4, Value.ref 194] w (.inl (some (Value.int 0))) (((((((((((((((((((w.set 20 (Sum.inr (3, [Value.ref 21, Value.int 0]))).set 22 (Sum.inr (3, [Value.ref 23, Value.int 0]))).set 19 (Sum.inr (5, [Value.ref 20, Value.ref 22, Value.ref 24, Value.ref 26, Value.int 0, Value.int 0, Value.int 0, Value.int 0, Value.int 0, Value.int 0, Value.int 0, Value.int 0]))).set 19 (Sum.inr (5, [Value.ref 20, Value.ref 22, Value.ref 24, Value.ref 26, Value.int 0, Value.int 1, Value.int 0, Value.int 0, Value.int 0, Value.int 0, Value.int 0, Value.int 0]))).set 19 (Sum.inr (5, [Value.ref 20, Value.ref 22, Value.ref 24, Value.ref 26, Value.int 0, Value.int 1, Value.int 0, Value.int 0, Value.int 0, Value.int 0, Value.int 0, Value.int 0]))).set 19 (Sum.inr (5, [Value.ref 20, Value.ref 22, Value.ref 24, Value.ref 26, Value.int 0, Value.int 1, Value.int 0, Value.int 0, Value.int 0, Value.int 0, Value.int 0, Value.int 0]))).set 19 (Sum.inr (5, [Value.ref 20, Value.ref 22, Value.ref 24, Value.ref 26, Value.int 0, Value.int 1, Value.int 0, Value.int 0, Value.int 0, Value.int 0, Value.int 0, Value.int 0]))).set 19 (Sum.inr (5, [Value.ref 20, Value.ref 22, Value.ref 24, Value.ref 26, Value.int 0, Value.int 1, Value.int 0, Value.int 0, Value.int 0, Value.int 0, Value.int 0, Value.int 0]))).set 19 (Sum.inr (5, [Value.ref 20, Value.ref 22, Value.ref 24, Value.ref 26, Value.int 0, Value.int 1, Value.int 0, Value.int 0, Value.int 0, Value.int 0, Value.int 0, Value.int 0]))).set 19 (Sum.inr (5, [Value.ref 20, Value.ref 22, Value.ref 24, Value.ref 26, Value.int 0, Value.int 1, Value.int 0, Value.int 0, Value.int 0, Value.int 0, Value.int 0, Value.int 0]))).set 19 (Sum.inr (5, [Value.ref 20, Value.ref 22, Value.ref 24, Value.ref 26, Value.int 0, Value.int 1, Value.int 0, Value.int 0, Value.int 0, Value.int 0, Value.int 0, Value.int 0]))).set 19 (Sum.inr (5, [Value.ref 20, Value.ref 22, Value.ref 24, Value.ref 26, Value.int 0, Value.int 1, Value.int 0, Value.int 0, Value.int 0, Value.int 0, Value.int 0, Value.int 0]))).set 19 (Sum.inr (5, [Value.ref 20, Value.ref 22, Value.ref 24, Value.ref 26, Value.int 0, Value.int 1, Value.int 0, Value.int 0, Value.int 0, Value.int 0, Value.int 0, Value.int 0]))).set 19 (Sum.inr (5, [Value.ref 20, Value.ref 22, Value.ref 24, Value.ref 26, Value.int 0, Value.int 1, Value.int 0, Value.int 0, Value.int 0, Value.int 0, Value.int 0, Value.int 0]))).set 19 (Sum.inr (5, [Value.ref 20, Value.ref 22, Value.ref 24, Value.ref 26, Value.int 0, Value.int 1, Value.int 0, Value.int 0, Value.int 0, Value.int 0, Value.int 0, Value.int 0]))).set 19 (Sum.inr (5, [Value.ref 20, Value.ref 22, Value.ref 24, Value.ref 26, Value.int 0, Value.int 1, Value.int 0, Value.int 0, Value.int 0, Value.int 0, Value.int 0, Value.int 0]))).set 19 (Sum.inr (5, [Value.ref 20, Value.ref 22, Value.ref 24, Value.ref 26, Value.int 0, Value.int 1, Value.int 0, Value.int 0, Value.int 0, Value.int 0, Value.int 0, Value.int 0]))).set h56 (Sum.inr (2, [Value.int 64, Value.int 0, Value.int 0, Value.int 0, Value.ref h57]))).set 194 (Sum.inl (3, 1, xup (fun _ => Value.long 0) (0 : Int32).toInt.toNat (Value.long 0)))) := by
  refine xRun.of ?_
  refine i_114_0 (x := 194) rfl ?_
  refine i_114_2 ?_
  refine i_114_3 (x := 7) rfl ?_
  refine i_114_4 (x := a0) rfl ?_
  refine i_114_5 (x := a1) rfl ?_
  refine i_114_6 (x := a2) rfl ?_
  refine i_114_7 (x := a3) rfl ?_
  refine i_114_9 (x := a4) rfl ?_
  refine i_114_11 hw0 (Nat.le_of_ble_eq_true rfl) (p_115_11 e1 e2 e3 e4 e5 e6 hg7 e8 e9 e10 hg11 e12 e13 e14 hw0 hw15 hw16 hw17 e18 hg19 hw20 hg21 hg22 hg23 e24 e25 e26 hw27 e28 e29 e30 hw31 e32 hg33 e34 e35 hg36 hg37 e38 e39 hg40 e41 e42 e43 hw44 e45 e46 e47 hw48 e49 hg50 e51 e52 hg53 hg54 e55 e56 hg57 e58 e59 e60 hw61 e62 e63 e64 hw65 e66 hg67 e68 e69 hg70 hg71 e72 e73 hg74 e75 e76 e77 hw78 e79 e80 e81 hw82 e83 hg84 e85 e86 hg87 hg88 e89 e90 hg91 e92 e93 e94 hw95 e96 e97 e98 hw99 e100 hg101 e102 e103 hg104 hg105 e106 e107 hg108 e109 e110 e111 hw112 e113 e114 e115 hw116 e117 hg118 e119 e120 hg121 hg122 e123 e124 hg125 e126 e127 e128 hw129 e130 e131 e132 hw133 e134 hg135 e136 e137 hg138 hg139 e140 e141 hg142 e143 e144 e145 hw146 e147 e148 e149 hw150 e151 hg152 e153 e154 hg155 hg156 e157 e158 hg159 e160 e161 e162 hw163 e164 e165 e166 hw167 e168 hg169 e170 e171 hg172 hg173 e174 e175 hg176 e177 e178 e179 hw180 e181 e182 e183 hw184 e185 hg186 e187 e188 hg189 hg190 e191 e192 hg193 e194 e195 e196 hw197 e198 e199 e200 hw201 e202 hg203 e204 e205 hg206 hg207 e208 e209 hg210 e211 e212 e213 hw214 e215 e216 e217 hw218 e219 hg220 e221 e222 hg223 hg224 e225 e226 hg227 e228 e229 e230 hw231 e232 e233 e234 hw235 e236 hg237 e238 e239 hg240 hg241 e242 e243 hg244 e245 e246 e247 hw248 e249 e250 e251 hw252 e253 hg254 e255 e256 e257 hw258 e259) ?_
  refine i_114_14 (c := 0) (by decide) ?_
  refine i_114_15 (v := Value.long 0) (xgn e260 (xgn (by decide) (xgn (by decide) (xgn (by decide) (xgn (by decide) (xgn (by decide) (xgn (by decide) (xgn (by decide) (xgn (by decide) (xgn (by decide) (xgn (by decide) (xgn (by decide) (xgn (by decide) (xgn (by decide) (xgn (by decide) (xgn (by decide) (xgn (by decide) (xgn (by decide) hw261)))))))))))))))))) (by decide) (by decide) (by decide) rfl ?_
  refine i_114_16 ?_
  refine i_114_23 ?_
  exact i_114_24 ⟨rfl, rfl⟩
