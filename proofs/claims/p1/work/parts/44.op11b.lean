theorem p_231_10 {d : Nat} {w : xW} {a0 : Int32} {a1 : Int32} {a2 : Int32} {a3 : Int32} {a4 : Int32} {a5 : Int32} {a6 : Int32} {g0 : Nat → Value} {a7 : Int32} {a8 : Int32} {a9 : Int32} {a10 : Int32} {a11 : Int32} {a12 : Int32} {a13 : Int32} {a14 : Int32} {a15 : Int32} {a16 : Int32} {a17 : Int32} {a18 : Int32} {a19 : Int32} {a20 : Int32} {a21 : Int32} {a22 : Int32} {a23 : Int32} {a24 : Int32} {a25 : Int32} {a26 : Int32} {a27 : Int32} {a28 : Int32} {a29 : Int32} {a30 : Int32} {a31 : Int32} {a32 : Int32} {a33 : Int32} {a34 : Int32} (e0 : 0 ≤ a0.toInt) (e1 : a0.toInt ≤ 15) (e2 : 0 ≤ a1.toInt) (e3 : a1.toInt ≤ 15) (e4 : 0 ≤ a2.toInt) (e5 : a2.toInt ≤ 15) (e6 : 1 ≤ a3.toInt) (e7 : a3.toInt ≤ 16) (hg8 : (a1 + a3) = a5) (e9 : a5.toInt ≤ 16) (hg10 : (a2 + a3) = a6) (e11 : a6.toInt ≤ 16) (e12 : 0 ≤ a4.toInt) (e13 : a4.toInt ≤ 4) (e14 : 0 < a3.toInt) (hg15 : (a1 + (0 : Int32)) = 0) (hg16 : (a2 + (0 : Int32)) = 0) (hw17 : w[128]? = some (Sum.inr (12, [Value.ref 129, Value.ref 131, Value.ref 133, Value.ref 135, Value.ref 137, Value.ref 139, Value.ref 141, Value.ref 143, Value.ref 145, Value.ref 147, Value.ref 149, Value.ref 151, Value.ref 153, Value.ref 154, Value.ref 155, Value.ref 156, Value.ref 157, Value.int (-16384), Value.int 16384, Value.int 0, Value.int 0, Value.int 0, Value.ref 158, Value.ref 159, Value.int 0, Value.int 0, Value.int 0, Value.int 0, Value.int 0, Value.int 0, Value.int 0, Value.int 0]))) (hw18 : w[154]? = some (Sum.inl (0, 17, fun _ => Value.int 0))) (hw19 : w[156]? = some (Sum.inl (2, 17, fun _ => Value.int 0))) (hw20 : w[155]? = some (Sum.inl (0, 17, fun _ => Value.int 0))) (hw21 : w[153]? = some (Sum.inl (0, 17, g0))) (hg22 : g0 (0 : Int32).toInt.toNat = Value.int 64) (e23 : 1 < a3.toInt) (hg24 : (a1 + (1 : Int32)) = a7) (hg25 : (a2 + (1 : Int32)) = a8) (e26 : 0 ≤ a7.toInt) (e27 : a7.toInt < 17) (e28 : 0 ≤ a8.toInt) (e29 : a8.toInt < 17) (hg30 : g0 a7.toInt.toNat = Value.int 64) (hg31 : g0 a8.toInt.toNat = Value.int 64) (e32 : 2 < a3.toInt) (hg33 : (a1 + (2 : Int32)) = a9) (hg34 : (a2 + (2 : Int32)) = a10) (e35 : 0 ≤ a9.toInt) (e36 : a9.toInt < 17) (e37 : 0 ≤ a10.toInt) (e38 : a10.toInt < 17) (hg39 : g0 a9.toInt.toNat = Value.int 64) (hg40 : g0 a10.toInt.toNat = Value.int 64) (e41 : 3 < a3.toInt) (hg42 : (a1 + (3 : Int32)) = a11) (hg43 : (a2 + (3 : Int32)) = a12) (e44 : 0 ≤ a11.toInt) (e45 : a11.toInt < 17) (e46 : 0 ≤ a12.toInt) (e47 : a12.toInt < 17) (hg48 : g0 a11.toInt.toNat = Value.int 64) (hg49 : g0 a12.toInt.toNat = Value.int 64) (e50 : 4 < a3.toInt) (hg51 : (a1 + (4 : Int32)) = a13) (hg52 : (a2 + (4 : Int32)) = a14) (e53 : 0 ≤ a13.toInt) (e54 : a13.toInt < 17) (e55 : 0 ≤ a14.toInt) (e56 : a14.toInt < 17) (hg57 : g0 a13.toInt.toNat = Value.int 64) (hg58 : g0 a14.toInt.toNat = Value.int 64) (e59 : 5 < a3.toInt) (hg60 : (a1 + (5 : Int32)) = a15) (hg61 : (a2 + (5 : Int32)) = a16) (e62 : 0 ≤ a15.toInt) (e63 : a15.toInt < 17) (e64 : 0 ≤ a16.toInt) (e65 : a16.toInt < 17) (hg66 : g0 a15.toInt.toNat = Value.int 64) (hg67 : g0 a16.toInt.toNat = Value.int 64) (e68 : 6 < a3.toInt) (hg69 : (a1 + (6 : Int32)) = a17) (hg70 : (a2 + (6 : Int32)) = a18) (e71 : 0 ≤ a17.toInt) (e72 : a17.toInt < 17) (e73 : 0 ≤ a18.toInt) (e74 : a18.toInt < 17) (hg75 : g0 a17.toInt.toNat = Value.int 64) (hg76 : g0 a18.toInt.toNat = Value.int 64) (e77 : 7 < a3.toInt) (hg78 : (a1 + (7 : Int32)) = a19) (hg79 : (a2 + (7 : Int32)) = a20) (e80 : 0 ≤ a19.toInt) (e81 : a19.toInt < 17) (e82 : 0 ≤ a20.toInt) (e83 : a20.toInt < 17) (hg84 : g0 a19.toInt.toNat = Value.int 64) (hg85 : g0 a20.toInt.toNat = Value.int 64) (e86 : 8 < a3.toInt) (hg87 : (a1 + (8 : Int32)) = a21) (hg88 : (a2 + (8 : Int32)) = a22) (e89 : 0 ≤ a21.toInt) (e90 : a21.toInt < 17) (e91 : 0 ≤ a22.toInt) (e92 : a22.toInt < 17) (hg93 : g0 a21.toInt.toNat = Value.int 64) (hg94 : g0 a22.toInt.toNat = Value.int 64) (e95 : 9 < a3.toInt) (hg96 : (a1 + (9 : Int32)) = a23) (hg97 : (a2 + (9 : Int32)) = a24) (e98 : 0 ≤ a23.toInt) (e99 : a23.toInt < 17) (e100 : 0 ≤ a24.toInt) (e101 : a24.toInt < 17) (hg102 : g0 a23.toInt.toNat = Value.int 64) (hg103 : g0 a24.toInt.toNat = Value.int 64) (e104 : 10 < a3.toInt) (hg105 : (a1 + (10 : Int32)) = a25) (hg106 : (a2 + (10 : Int32)) = a26) (e107 : 0 ≤ a25.toInt) (e108 : a25.toInt < 17) (e109 : 0 ≤ a26.toInt) (e110 : a26.toInt < 17) (hg111 : g0 a25.toInt.toNat = Value.int 64) (hg112 : g0 a26.toInt.toNat = Value.int 64) (e113 : 11 < a3.toInt) (hg114 : (a1 + (11 : Int32)) = a27) (hg115 : (a2 + (11 : Int32)) = a28) (e116 : 0 ≤ a27.toInt) (e117 : a27.toInt < 17) (e118 : 0 ≤ a28.toInt) (e119 : a28.toInt < 17) (hg120 : g0 a27.toInt.toNat = Value.int 64) (hg121 : g0 a28.toInt.toNat = Value.int 64) (e122 : 12 < a3.toInt) (hg123 : (a1 + (12 : Int32)) = a29) (hg124 : (a2 + (12 : Int32)) = a30) (e125 : 0 ≤ a29.toInt) (e126 : a29.toInt < 17) (e127 : 0 ≤ a30.toInt) (e128 : a30.toInt < 17) (hg129 : g0 a29.toInt.toNat = Value.int 64) (hg130 : g0 a30.toInt.toNat = Value.int 64) (e131 : 13 < a3.toInt) (hg132 : (a1 + (13 : Int32)) = a31) (hg133 : (a2 + (13 : Int32)) = a32) (e134 : 0 ≤ a31.toInt) (e135 : a31.toInt < 17) (e136 : 0 ≤ a32.toInt) (e137 : a32.toInt < 17) (hg138 : g0 a31.toInt.toNat = Value.int 64) (hg139 : g0 a32.toInt.toNat = Value.int 64) (e140 : 14 < a3.toInt) (hg141 : (a1 + (14 : Int32)) = a33) (hg142 : (a2 + (14 : Int32)) = a34) (e143 : 0 ≤ a33.toInt) (e144 : a33.toInt < 17) (e145 : 0 ≤ a34.toInt) (e146 : a34.toInt < 17) (hg147 : g0 a33.toInt.toNat = Value.int 64) (hg148 : g0 a34.toInt.toNat = Value.int 64) (e149 : 15 < a3.toInt) (hg150 : (a1 + (15 : Int32)) = 15) (hg151 : (a2 + (15 : Int32)) = 15) (hg152 : g0 (15 : Int32).toInt.toNat = Value.int 64) (e153 : a0.toInt < 17) : xRun (d + 2) 231 [Value.ref 128, Value.int a0, Value.int a1, Value.int a2, Value.int a3, Value.int a4] w (.inl (some (Value.int 0))) ((w.set 154 (Sum.inl (0, 17, xup (fun _ => Value.int 0) a0.toInt.toNat (Value.int 0)))).set 156 (Sum.inl (2, 17, xup (fun _ => Value.int 0) a0.toInt.toNat (Value.int 0)))) := by
  refine xRun.of ?_
  refine i_231_0 (x := a0) rfl ?_
  refine i_231_1 (Nat.le_of_ble_eq_true rfl) (p_168_1 e0 e1) ?_
  refine i_231_4 (x := a1) rfl ?_
  refine i_231_5 (Nat.le_of_ble_eq_true rfl) (p_168_1 e2 e3) ?_
  refine i_231_8 (x := a2) rfl ?_
  refine i_231_9 (Nat.le_of_ble_eq_true rfl) (p_168_1 e4 e5) ?_
  refine i_231_12 (x := a3) rfl ?_
  refine i_231_14 ?_
  refine i_231_15 ?_
  refine i_231_17 (Nat.le_of_ble_eq_true rfl) (p_169_44 e6 e7) ?_
  refine i_231_20 (fun h => absurd h (by decide)) (fun _ => ?_)
  refine i_231_23 (x := a1) rfl ?_
  refine i_231_24 (x := a3) rfl ?_
  refine i_231_26 (c := a5) hg8 ?_
  refine i_231_27 ?_
  refine i_231_29 (fun h => absurd e9 (Int.not_le.mpr h)) (fun _ => ?_)
  refine i_231_32 (x := a2) rfl ?_
  refine i_231_33 (x := a3) rfl ?_
  refine i_231_35 (c := a6) hg10 ?_
  refine i_231_36 ?_
  refine i_231_38 (fun h => absurd e11 (Int.not_le.mpr h)) (fun _ => ?_)
  refine i_231_41 ?_
  refine i_231_42 ?_
  refine i_231_46 (Nat.le_of_ble_eq_true rfl) (p_170_1) ?_
  refine i_231_49 (x := a4) rfl ?_
  refine i_231_51 (Nat.le_of_ble_eq_true rfl) (p_178_2 e12 e13) ?_
  refine i_231_54 ?_
  refine i_231_57 (lv2 := [(6, Value.int 2147483647), (0, Value.ref 128), (1, Value.int a0), (2, Value.int a1), (3, Value.int a2), (4, Value.int a3), (5, Value.int a4)]) rfl ?_
  refine i_231_59 ?_
  refine i_231_60 (lv2 := [(7, Value.int 0), (6, Value.int 2147483647), (0, Value.ref 128), (1, Value.int a0), (2, Value.int a1), (3, Value.int a2), (4, Value.int a3), (5, Value.int a4)]) rfl ?_
  refine i_231_62 ?_
  refine i_231_63 (lv2 := [(8, Value.int 0), (7, Value.int 0), (6, Value.int 2147483647), (0, Value.ref 128), (1, Value.int a0), (2, Value.int a1), (3, Value.int a2), (4, Value.int a3), (5, Value.int a4)]) rfl ?_
  refine i_231_65 ?_
  refine i_231_66 (lv2 := [(9, Value.int 0), (8, Value.int 0), (7, Value.int 0), (6, Value.int 2147483647), (0, Value.ref 128), (1, Value.int a0), (2, Value.int a1), (3, Value.int a2), (4, Value.int a3), (5, Value.int a4)]) rfl ?_
  refine i_231_68 ?_
  refine i_231_69 (lv2 := [(10, Value.int 0), (9, Value.int 0), (8, Value.int 0), (7, Value.int 0), (6, Value.int 2147483647), (0, Value.ref 128), (1, Value.int a0), (2, Value.int a1), (3, Value.int a2), (4, Value.int a3), (5, Value.int a4)]) rfl ?_
  refine i_231_71 ?_
  refine i_231_72 (lv2 := [(11, Value.int 0), (10, Value.int 0), (9, Value.int 0), (8, Value.int 0), (7, Value.int 0), (6, Value.int 2147483647), (0, Value.ref 128), (1, Value.int a0), (2, Value.int a1), (3, Value.int a2), (4, Value.int a3), (5, Value.int a4)]) rfl ?_
  refine i_231_74 (x := 0) rfl ?_
  refine i_231_76 (x := a3) rfl ?_
  refine i_231_78 (fun h => absurd e14 (Int.not_lt.mpr h)) (fun _ => ?_)
  refine i_231_81 (x := a1) rfl ?_
  refine i_231_82 (x := 0) rfl ?_
  refine i_231_84 (c := 0) hg15 ?_
  refine i_231_85 (lv2 := [(12, Value.int 0), (11, Value.int 0), (10, Value.int 0), (9, Value.int 0), (8, Value.int 0), (7, Value.int 0), (6, Value.int 2147483647), (0, Value.ref 128), (1, Value.int a0), (2, Value.int a1), (3, Value.int a2), (4, Value.int a3), (5, Value.int a4)]) rfl ?_
  refine i_231_87 (x := a2) rfl ?_
  refine i_231_88 (x := 0) rfl ?_
  refine i_231_90 (c := 0) hg16 ?_
  refine i_231_91 (lv2 := [(13, Value.int 0), (12, Value.int 0), (11, Value.int 0), (10, Value.int 0), (9, Value.int 0), (8, Value.int 0), (7, Value.int 0), (6, Value.int 2147483647), (0, Value.ref 128), (1, Value.int a0), (2, Value.int a1), (3, Value.int a2), (4, Value.int a3), (5, Value.int a4)]) rfl ?_
  refine i_231_93 (x := 0) rfl ?_
  refine i_231_95 (x := 128) rfl ?_
  refine i_231_96 (v := Value.ref 154) hw17 rfl ?_
  refine i_231_99 (x := 0) rfl ?_
  refine i_231_101 (v := Value.int 0) hw18 (by decide) (by decide) rfl ?_
  refine i_231_102 (fun _ => ?_) (fun h => absurd h (by decide))
  refine i_231_115 ?_
  refine i_231_116 ?_
  refine i_231_120 (c := 1) (by decide) ?_
  refine i_231_121 (lv2 := [(9, Value.int 1), (13, Value.int 0), (12, Value.int 0), (11, Value.int 0), (10, Value.int 0), (8, Value.int 0), (7, Value.int 0), (6, Value.int 2147483647), (0, Value.ref 128), (1, Value.int a0), (2, Value.int a1), (3, Value.int a2), (4, Value.int a3), (5, Value.int a4)]) rfl ?_
  refine i_231_123 (x := 128) rfl ?_
  refine i_231_124 (v := Value.ref 154) hw17 rfl ?_
  refine i_231_127 (x := 0) rfl ?_
  refine i_231_129 (v := Value.int 0) hw18 (by decide) (by decide) rfl ?_
  refine i_231_130 ?_
  refine i_231_131 (fun h => absurd h (by decide)) (fun _ => ?_)
  refine i_231_134 (x := 128) rfl ?_
  refine i_231_135 (v := Value.ref 154) hw17 rfl ?_
  refine i_231_138 (x := 0) rfl ?_
  refine i_231_140 (v := Value.int 0) hw18 (by decide) (by decide) rfl ?_
  refine i_231_141 ?_
  refine i_231_142 (fun _ => ?_) (fun h => absurd h (by decide))
  refine i_231_149 ?_
  refine i_231_150 (lv2 := [(14, Value.int 0), (9, Value.int 1), (13, Value.int 0), (12, Value.int 0), (11, Value.int 0), (10, Value.int 0), (8, Value.int 0), (7, Value.int 0), (6, Value.int 2147483647), (0, Value.ref 128), (1, Value.int a0), (2, Value.int a1), (3, Value.int a2), (4, Value.int a3), (5, Value.int a4)]) rfl ?_
  refine i_231_152 (x := 128) rfl ?_
  refine i_231_153 (v := Value.ref 154) hw17 rfl ?_
  refine i_231_156 (x := 0) rfl ?_
  refine i_231_158 (v := Value.int 0) hw18 (by decide) (by decide) rfl ?_
  refine i_231_159 ?_
  refine i_231_160 (fun h => absurd h (by decide)) (fun _ => ?_)
  refine i_231_163 (x := 128) rfl ?_
  refine i_231_164 (v := Value.ref 154) hw17 rfl ?_
  refine i_231_167 (x := 0) rfl ?_
  refine i_231_169 (v := Value.int 0) hw18 (by decide) (by decide) rfl ?_
  refine i_231_170 ?_
  refine i_231_171 (fun _ => ?_) (fun h => absurd h (by decide))
  refine i_231_178 ?_
  refine i_231_179 (lv2 := [(15, Value.int 0), (14, Value.int 0), (9, Value.int 1), (13, Value.int 0), (12, Value.int 0), (11, Value.int 0), (10, Value.int 0), (8, Value.int 0), (7, Value.int 0), (6, Value.int 2147483647), (0, Value.ref 128), (1, Value.int a0), (2, Value.int a1), (3, Value.int a2), (4, Value.int a3), (5, Value.int a4)]) rfl ?_
  refine i_231_181 (x := 128) rfl ?_
  refine i_231_182 (v := Value.ref 156) hw17 rfl ?_
  refine i_231_185 (x := 0) rfl ?_
  refine i_231_187z (v := Value.int 0) hw19 (by decide) (by decide) rfl ?_
  refine i_231_188 (x := 128) rfl ?_
  refine i_231_189 (v := Value.ref 156) hw17 rfl ?_
  refine i_231_192 (x := 0) rfl ?_
  refine i_231_194z (v := Value.int 0) hw19 (by decide) (by decide) rfl ?_
  refine i_231_195 (fun _ => ?_) (fun h => absurd h (by decide))
  refine i_231_202 ?_
  refine i_231_203 (lv2 := [(16, Value.int 0), (15, Value.int 0), (14, Value.int 0), (9, Value.int 1), (13, Value.int 0), (12, Value.int 0), (11, Value.int 0), (10, Value.int 0), (8, Value.int 0), (7, Value.int 0), (6, Value.int 2147483647), (0, Value.ref 128), (1, Value.int a0), (2, Value.int a1), (3, Value.int a2), (4, Value.int a3), (5, Value.int a4)]) rfl ?_
  refine i_231_205 (x := 0) rfl ?_
  refine i_231_207 (x := 0) rfl ?_
  refine i_231_209 (fun _ => ?_) (fun h => absurd h (by decide))
  refine i_231_221 ?_
  refine i_231_222 (c := 0) (by decide) ?_
  refine i_231_223 (lv2 := [(10, Value.int 0), (16, Value.int 0), (15, Value.int 0), (14, Value.int 0), (9, Value.int 1), (13, Value.int 0), (12, Value.int 0), (11, Value.int 0), (8, Value.int 0), (7, Value.int 0), (6, Value.int 2147483647), (0, Value.ref 128), (1, Value.int a0), (2, Value.int a1), (3, Value.int a2), (4, Value.int a3), (5, Value.int a4)]) rfl ?_
  refine i_231_225 (x := 0) rfl ?_
  refine i_231_227 (x := 0) rfl ?_
  refine i_231_229 (fun _ => ?_) (fun h => absurd h (by decide))
  refine i_231_241 ?_
  refine i_231_242 (c := 0) (by decide) ?_
  refine i_231_243 (lv2 := [(7, Value.int 0), (10, Value.int 0), (16, Value.int 0), (15, Value.int 0), (14, Value.int 0), (9, Value.int 1), (13, Value.int 0), (12, Value.int 0), (11, Value.int 0), (8, Value.int 0), (6, Value.int 2147483647), (0, Value.ref 128), (1, Value.int a0), (2, Value.int a1), (3, Value.int a2), (4, Value.int a3), (5, Value.int a4)]) rfl ?_
  refine i_231_245 (x := 0) rfl ?_
  refine i_231_247 (x := 0) rfl ?_
  refine i_231_249 (fun _ => ?_) (fun h => absurd h (by decide))
  refine i_231_261 ?_
  refine i_231_262 (c := 0) (by decide) ?_
  refine i_231_263 (lv2 := [(8, Value.int 0), (7, Value.int 0), (10, Value.int 0), (16, Value.int 0), (15, Value.int 0), (14, Value.int 0), (9, Value.int 1), (13, Value.int 0), (12, Value.int 0), (11, Value.int 0), (6, Value.int 2147483647), (0, Value.ref 128), (1, Value.int a0), (2, Value.int a1), (3, Value.int a2), (4, Value.int a3), (5, Value.int a4)]) rfl ?_
  refine i_231_265 (x := 0) rfl ?_
  refine i_231_267 (fun h => absurd h (by decide)) (fun _ => ?_)
  refine i_231_270 (x := 0) rfl ?_
  refine i_231_272 (fun h => absurd h (by decide)) (fun _ => ?_)
  refine i_231_275 (x := 2147483647) rfl ?_
  refine i_231_277 (x := 128) rfl ?_
  refine i_231_278 (x := 0) rfl ?_
  refine i_231_280 hw17 (Nat.le_of_ble_eq_true rfl) (p_196_0 hw17 hw20 hw21 hg22) ?_
  refine i_231_283 (x := 128) rfl ?_
  refine i_231_284 (x := 0) rfl ?_
  refine i_231_286 hw17 (Nat.le_of_ble_eq_true rfl) (p_196_0 hw17 hw20 hw21 hg22) ?_
  refine i_231_289 (c := (-128)) (by decide) ?_
  refine i_231_290 (Nat.le_of_ble_eq_true rfl) (p_272_0) ?_
  refine i_231_293 (lv2 := [(6, Value.int (-128)), (8, Value.int 0), (7, Value.int 0), (10, Value.int 0), (16, Value.int 0), (15, Value.int 0), (14, Value.int 0), (9, Value.int 1), (13, Value.int 0), (12, Value.int 0), (11, Value.int 0), (0, Value.ref 128), (1, Value.int a0), (2, Value.int a1), (3, Value.int a2), (4, Value.int a3), (5, Value.int a4)]) rfl ?_
  refine i_231_295 (x := 0) (c := 1) (lv2 := [(11, Value.int 1), (6, Value.int (-128)), (8, Value.int 0), (7, Value.int 0), (10, Value.int 0), (16, Value.int 0), (15, Value.int 0), (14, Value.int 0), (9, Value.int 1), (13, Value.int 0), (12, Value.int 0), (0, Value.ref 128), (1, Value.int a0), (2, Value.int a1), (3, Value.int a2), (4, Value.int a3), (5, Value.int a4)]) rfl (by decide) rfl ?_
  refine i_231_298 ?_
  refine i_231_74 (x := 1) rfl ?_
  refine i_231_76 (x := a3) rfl ?_
  refine i_231_78 (fun h => absurd e23 (Int.not_lt.mpr h)) (fun _ => ?_)
  refine i_231_81 (x := a1) rfl ?_
  refine i_231_82 (x := 1) rfl ?_
  refine i_231_84 (c := a7) hg24 ?_
  refine i_231_85 (lv2 := [(12, Value.int a7), (11, Value.int 1), (6, Value.int (-128)), (8, Value.int 0), (7, Value.int 0), (10, Value.int 0), (16, Value.int 0), (15, Value.int 0), (14, Value.int 0), (9, Value.int 1), (13, Value.int 0), (0, Value.ref 128), (1, Value.int a0), (2, Value.int a1), (3, Value.int a2), (4, Value.int a3), (5, Value.int a4)]) rfl ?_
  refine i_231_87 (x := a2) rfl ?_
  refine i_231_88 (x := 1) rfl ?_
  refine i_231_90 (c := a8) hg25 ?_
  refine i_231_91 (lv2 := [(13, Value.int a8), (12, Value.int a7), (11, Value.int 1), (6, Value.int (-128)), (8, Value.int 0), (7, Value.int 0), (10, Value.int 0), (16, Value.int 0), (15, Value.int 0), (14, Value.int 0), (9, Value.int 1), (0, Value.ref 128), (1, Value.int a0), (2, Value.int a1), (3, Value.int a2), (4, Value.int a3), (5, Value.int a4)]) rfl ?_
  refine i_231_93 (x := 1) rfl ?_
  refine i_231_95 (x := 128) rfl ?_
  refine i_231_96 (v := Value.ref 154) hw17 rfl ?_
  refine i_231_99 (x := a7) rfl ?_
  refine i_231_101 (v := Value.int 0) hw18 e26 e27 rfl ?_
  refine i_231_102 (fun _ => ?_) (fun h => absurd h (by decide))
  refine i_231_115 ?_
  refine i_231_116 ?_
  refine i_231_120 (c := 1) (by decide) ?_
  refine i_231_121 (lv2 := [(9, Value.int 1), (13, Value.int a8), (12, Value.int a7), (11, Value.int 1), (6, Value.int (-128)), (8, Value.int 0), (7, Value.int 0), (10, Value.int 0), (16, Value.int 0), (15, Value.int 0), (14, Value.int 0), (0, Value.ref 128), (1, Value.int a0), (2, Value.int a1), (3, Value.int a2), (4, Value.int a3), (5, Value.int a4)]) rfl ?_
  refine i_231_123 (x := 128) rfl ?_
  refine i_231_124 (v := Value.ref 154) hw17 rfl ?_
  refine i_231_127 (x := a7) rfl ?_
  refine i_231_129 (v := Value.int 0) hw18 e26 e27 rfl ?_
  refine i_231_130 ?_
  refine i_231_131 (fun h => absurd h (by decide)) (fun _ => ?_)
  refine i_231_134 (x := 128) rfl ?_
  refine i_231_135 (v := Value.ref 154) hw17 rfl ?_
  refine i_231_138 (x := a8) rfl ?_
  refine i_231_140 (v := Value.int 0) hw18 e28 e29 rfl ?_
  refine i_231_141 ?_
  refine i_231_142 (fun _ => ?_) (fun h => absurd h (by decide))
  refine i_231_149 ?_
  refine i_231_150 (lv2 := [(14, Value.int 0), (9, Value.int 1), (13, Value.int a8), (12, Value.int a7), (11, Value.int 1), (6, Value.int (-128)), (8, Value.int 0), (7, Value.int 0), (10, Value.int 0), (16, Value.int 0), (15, Value.int 0), (0, Value.ref 128), (1, Value.int a0), (2, Value.int a1), (3, Value.int a2), (4, Value.int a3), (5, Value.int a4)]) rfl ?_
  refine i_231_152 (x := 128) rfl ?_
  refine i_231_153 (v := Value.ref 154) hw17 rfl ?_
  refine i_231_156 (x := a7) rfl ?_
  refine i_231_158 (v := Value.int 0) hw18 e26 e27 rfl ?_
  refine i_231_159 ?_
  refine i_231_160 (fun h => absurd h (by decide)) (fun _ => ?_)
  refine i_231_163 (x := 128) rfl ?_
  refine i_231_164 (v := Value.ref 154) hw17 rfl ?_
  refine i_231_167 (x := a8) rfl ?_
  refine i_231_169 (v := Value.int 0) hw18 e28 e29 rfl ?_
  refine i_231_170 ?_
  refine i_231_171 (fun _ => ?_) (fun h => absurd h (by decide))
  refine i_231_178 ?_
  refine i_231_179 (lv2 := [(15, Value.int 0), (14, Value.int 0), (9, Value.int 1), (13, Value.int a8), (12, Value.int a7), (11, Value.int 1), (6, Value.int (-128)), (8, Value.int 0), (7, Value.int 0), (10, Value.int 0), (16, Value.int 0), (0, Value.ref 128), (1, Value.int a0), (2, Value.int a1), (3, Value.int a2), (4, Value.int a3), (5, Value.int a4)]) rfl ?_
  refine i_231_181 (x := 128) rfl ?_
  refine i_231_182 (v := Value.ref 156) hw17 rfl ?_
  refine i_231_185 (x := a7) rfl ?_
  refine i_231_187z (v := Value.int 0) hw19 e26 e27 rfl ?_
  refine i_231_188 (x := 128) rfl ?_
  refine i_231_189 (v := Value.ref 156) hw17 rfl ?_
  refine i_231_192 (x := a8) rfl ?_
  refine i_231_194z (v := Value.int 0) hw19 e28 e29 rfl ?_
  refine i_231_195 (fun _ => ?_) (fun h => absurd h (by decide))
  refine i_231_202 ?_
  refine i_231_203 (lv2 := [(16, Value.int 0), (15, Value.int 0), (14, Value.int 0), (9, Value.int 1), (13, Value.int a8), (12, Value.int a7), (11, Value.int 1), (6, Value.int (-128)), (8, Value.int 0), (7, Value.int 0), (10, Value.int 0), (0, Value.ref 128), (1, Value.int a0), (2, Value.int a1), (3, Value.int a2), (4, Value.int a3), (5, Value.int a4)]) rfl ?_
  refine i_231_205 (x := 0) rfl ?_
  refine i_231_207 (x := 0) rfl ?_
  refine i_231_209 (fun _ => ?_) (fun h => absurd h (by decide))
  refine i_231_221 ?_
  refine i_231_222 (c := 0) (by decide) ?_
  refine i_231_223 (lv2 := [(10, Value.int 0), (16, Value.int 0), (15, Value.int 0), (14, Value.int 0), (9, Value.int 1), (13, Value.int a8), (12, Value.int a7), (11, Value.int 1), (6, Value.int (-128)), (8, Value.int 0), (7, Value.int 0), (0, Value.ref 128), (1, Value.int a0), (2, Value.int a1), (3, Value.int a2), (4, Value.int a3), (5, Value.int a4)]) rfl ?_
  refine i_231_225 (x := 0) rfl ?_
  refine i_231_227 (x := 0) rfl ?_
  refine i_231_229 (fun _ => ?_) (fun h => absurd h (by decide))
  refine i_231_241 ?_
  refine i_231_242 (c := 0) (by decide) ?_
  refine i_231_243 (lv2 := [(7, Value.int 0), (10, Value.int 0), (16, Value.int 0), (15, Value.int 0), (14, Value.int 0), (9, Value.int 1), (13, Value.int a8), (12, Value.int a7), (11, Value.int 1), (6, Value.int (-128)), (8, Value.int 0), (0, Value.ref 128), (1, Value.int a0), (2, Value.int a1), (3, Value.int a2), (4, Value.int a3), (5, Value.int a4)]) rfl ?_
  refine i_231_245 (x := 0) rfl ?_
  refine i_231_247 (x := 0) rfl ?_
  refine i_231_249 (fun _ => ?_) (fun h => absurd h (by decide))
  refine i_231_261 ?_
  refine i_231_262 (c := 0) (by decide) ?_
  refine i_231_263 (lv2 := [(8, Value.int 0), (7, Value.int 0), (10, Value.int 0), (16, Value.int 0), (15, Value.int 0), (14, Value.int 0), (9, Value.int 1), (13, Value.int a8), (12, Value.int a7), (11, Value.int 1), (6, Value.int (-128)), (0, Value.ref 128), (1, Value.int a0), (2, Value.int a1), (3, Value.int a2), (4, Value.int a3), (5, Value.int a4)]) rfl ?_
  refine i_231_265 (x := 0) rfl ?_
  refine i_231_267 (fun h => absurd h (by decide)) (fun _ => ?_)
  refine i_231_270 (x := 0) rfl ?_
  refine i_231_272 (fun h => absurd h (by decide)) (fun _ => ?_)
  refine i_231_275 (x := (-128)) rfl ?_
  refine i_231_277 (x := 128) rfl ?_
  refine i_231_278 (x := a7) rfl ?_
  refine i_231_280 hw17 (Nat.le_of_ble_eq_true rfl) (p_196_1 hw17 hw20 e26 e27 hw21 hg30) ?_
  refine i_231_283 (x := 128) rfl ?_
  refine i_231_284 (x := a8) rfl ?_
  refine i_231_286 hw17 (Nat.le_of_ble_eq_true rfl) (p_196_1 hw17 hw20 e28 e29 hw21 hg31) ?_
  refine i_231_289 (c := (-128)) (by decide) ?_
  refine i_231_290 (Nat.le_of_ble_eq_true rfl) (p_272_1) ?_
  refine i_231_293 (lv2 := [(6, Value.int (-128)), (8, Value.int 0), (7, Value.int 0), (10, Value.int 0), (16, Value.int 0), (15, Value.int 0), (14, Value.int 0), (9, Value.int 1), (13, Value.int a8), (12, Value.int a7), (11, Value.int 1), (0, Value.ref 128), (1, Value.int a0), (2, Value.int a1), (3, Value.int a2), (4, Value.int a3), (5, Value.int a4)]) rfl ?_
  refine i_231_295 (x := 1) (c := 2) (lv2 := [(11, Value.int 2), (6, Value.int (-128)), (8, Value.int 0), (7, Value.int 0), (10, Value.int 0), (16, Value.int 0), (15, Value.int 0), (14, Value.int 0), (9, Value.int 1), (13, Value.int a8), (12, Value.int a7), (0, Value.ref 128), (1, Value.int a0), (2, Value.int a1), (3, Value.int a2), (4, Value.int a3), (5, Value.int a4)]) rfl (by decide) rfl ?_
  refine i_231_298 ?_
  refine i_231_74 (x := 2) rfl ?_
  refine i_231_76 (x := a3) rfl ?_
  refine i_231_78 (fun h => absurd e32 (Int.not_lt.mpr h)) (fun _ => ?_)
  refine i_231_81 (x := a1) rfl ?_
  refine i_231_82 (x := 2) rfl ?_
  refine i_231_84 (c := a9) hg33 ?_
  refine i_231_85 (lv2 := [(12, Value.int a9), (11, Value.int 2), (6, Value.int (-128)), (8, Value.int 0), (7, Value.int 0), (10, Value.int 0), (16, Value.int 0), (15, Value.int 0), (14, Value.int 0), (9, Value.int 1), (13, Value.int a8), (0, Value.ref 128), (1, Value.int a0), (2, Value.int a1), (3, Value.int a2), (4, Value.int a3), (5, Value.int a4)]) rfl ?_
  refine i_231_87 (x := a2) rfl ?_
  refine i_231_88 (x := 2) rfl ?_
  refine i_231_90 (c := a10) hg34 ?_
  refine i_231_91 (lv2 := [(13, Value.int a10), (12, Value.int a9), (11, Value.int 2), (6, Value.int (-128)), (8, Value.int 0), (7, Value.int 0), (10, Value.int 0), (16, Value.int 0), (15, Value.int 0), (14, Value.int 0), (9, Value.int 1), (0, Value.ref 128), (1, Value.int a0), (2, Value.int a1), (3, Value.int a2), (4, Value.int a3), (5, Value.int a4)]) rfl ?_
  refine i_231_93 (x := 1) rfl ?_
  refine i_231_95 (x := 128) rfl ?_
  refine i_231_96 (v := Value.ref 154) hw17 rfl ?_
  refine i_231_99 (x := a9) rfl ?_
  refine i_231_101 (v := Value.int 0) hw18 e35 e36 rfl ?_
  refine i_231_102 (fun _ => ?_) (fun h => absurd h (by decide))
  refine i_231_115 ?_
  refine i_231_116 ?_
  refine i_231_120 (c := 1) (by decide) ?_
  refine i_231_121 (lv2 := [(9, Value.int 1), (13, Value.int a10), (12, Value.int a9), (11, Value.int 2), (6, Value.int (-128)), (8, Value.int 0), (7, Value.int 0), (10, Value.int 0), (16, Value.int 0), (15, Value.int 0), (14, Value.int 0), (0, Value.ref 128), (1, Value.int a0), (2, Value.int a1), (3, Value.int a2), (4, Value.int a3), (5, Value.int a4)]) rfl ?_
  refine i_231_123 (x := 128) rfl ?_
  refine i_231_124 (v := Value.ref 154) hw17 rfl ?_
  refine i_231_127 (x := a9) rfl ?_
  refine i_231_129 (v := Value.int 0) hw18 e35 e36 rfl ?_
  refine i_231_130 ?_
  refine i_231_131 (fun h => absurd h (by decide)) (fun _ => ?_)
  refine i_231_134 (x := 128) rfl ?_
  refine i_231_135 (v := Value.ref 154) hw17 rfl ?_
  refine i_231_138 (x := a10) rfl ?_
  refine i_231_140 (v := Value.int 0) hw18 e37 e38 rfl ?_
  refine i_231_141 ?_
  refine i_231_142 (fun _ => ?_) (fun h => absurd h (by decide))
  refine i_231_149 ?_
  refine i_231_150 (lv2 := [(14, Value.int 0), (9, Value.int 1), (13, Value.int a10), (12, Value.int a9), (11, Value.int 2), (6, Value.int (-128)), (8, Value.int 0), (7, Value.int 0), (10, Value.int 0), (16, Value.int 0), (15, Value.int 0), (0, Value.ref 128), (1, Value.int a0), (2, Value.int a1), (3, Value.int a2), (4, Value.int a3), (5, Value.int a4)]) rfl ?_
  refine i_231_152 (x := 128) rfl ?_
  refine i_231_153 (v := Value.ref 154) hw17 rfl ?_
  refine i_231_156 (x := a9) rfl ?_
  refine i_231_158 (v := Value.int 0) hw18 e35 e36 rfl ?_
  refine i_231_159 ?_
  refine i_231_160 (fun h => absurd h (by decide)) (fun _ => ?_)
  refine i_231_163 (x := 128) rfl ?_
  refine i_231_164 (v := Value.ref 154) hw17 rfl ?_
  refine i_231_167 (x := a10) rfl ?_
  refine i_231_169 (v := Value.int 0) hw18 e37 e38 rfl ?_
  refine i_231_170 ?_
  refine i_231_171 (fun _ => ?_) (fun h => absurd h (by decide))
  refine i_231_178 ?_
  refine i_231_179 (lv2 := [(15, Value.int 0), (14, Value.int 0), (9, Value.int 1), (13, Value.int a10), (12, Value.int a9), (11, Value.int 2), (6, Value.int (-128)), (8, Value.int 0), (7, Value.int 0), (10, Value.int 0), (16, Value.int 0), (0, Value.ref 128), (1, Value.int a0), (2, Value.int a1), (3, Value.int a2), (4, Value.int a3), (5, Value.int a4)]) rfl ?_
  refine i_231_181 (x := 128) rfl ?_
  refine i_231_182 (v := Value.ref 156) hw17 rfl ?_
  refine i_231_185 (x := a9) rfl ?_
  refine i_231_187z (v := Value.int 0) hw19 e35 e36 rfl ?_
  refine i_231_188 (x := 128) rfl ?_
  refine i_231_189 (v := Value.ref 156) hw17 rfl ?_
  refine i_231_192 (x := a10) rfl ?_
  refine i_231_194z (v := Value.int 0) hw19 e37 e38 rfl ?_
  refine i_231_195 (fun _ => ?_) (fun h => absurd h (by decide))
  refine i_231_202 ?_
  refine i_231_203 (lv2 := [(16, Value.int 0), (15, Value.int 0), (14, Value.int 0), (9, Value.int 1), (13, Value.int a10), (12, Value.int a9), (11, Value.int 2), (6, Value.int (-128)), (8, Value.int 0), (7, Value.int 0), (10, Value.int 0), (0, Value.ref 128), (1, Value.int a0), (2, Value.int a1), (3, Value.int a2), (4, Value.int a3), (5, Value.int a4)]) rfl ?_
  refine i_231_205 (x := 0) rfl ?_
  refine i_231_207 (x := 0) rfl ?_
  refine i_231_209 (fun _ => ?_) (fun h => absurd h (by decide))
  refine i_231_221 ?_
  refine i_231_222 (c := 0) (by decide) ?_
  refine i_231_223 (lv2 := [(10, Value.int 0), (16, Value.int 0), (15, Value.int 0), (14, Value.int 0), (9, Value.int 1), (13, Value.int a10), (12, Value.int a9), (11, Value.int 2), (6, Value.int (-128)), (8, Value.int 0), (7, Value.int 0), (0, Value.ref 128), (1, Value.int a0), (2, Value.int a1), (3, Value.int a2), (4, Value.int a3), (5, Value.int a4)]) rfl ?_
  refine i_231_225 (x := 0) rfl ?_
  refine i_231_227 (x := 0) rfl ?_
  refine i_231_229 (fun _ => ?_) (fun h => absurd h (by decide))
  refine i_231_241 ?_
  refine i_231_242 (c := 0) (by decide) ?_
  refine i_231_243 (lv2 := [(7, Value.int 0), (10, Value.int 0), (16, Value.int 0), (15, Value.int 0), (14, Value.int 0), (9, Value.int 1), (13, Value.int a10), (12, Value.int a9), (11, Value.int 2), (6, Value.int (-128)), (8, Value.int 0), (0, Value.ref 128), (1, Value.int a0), (2, Value.int a1), (3, Value.int a2), (4, Value.int a3), (5, Value.int a4)]) rfl ?_
  refine i_231_245 (x := 0) rfl ?_
  refine i_231_247 (x := 0) rfl ?_
  refine i_231_249 (fun _ => ?_) (fun h => absurd h (by decide))
  refine i_231_261 ?_
  refine i_231_262 (c := 0) (by decide) ?_
  refine i_231_263 (lv2 := [(8, Value.int 0), (7, Value.int 0), (10, Value.int 0), (16, Value.int 0), (15, Value.int 0), (14, Value.int 0), (9, Value.int 1), (13, Value.int a10), (12, Value.int a9), (11, Value.int 2), (6, Value.int (-128)), (0, Value.ref 128), (1, Value.int a0), (2, Value.int a1), (3, Value.int a2), (4, Value.int a3), (5, Value.int a4)]) rfl ?_
  refine i_231_265 (x := 0) rfl ?_
  refine i_231_267 (fun h => absurd h (by decide)) (fun _ => ?_)
  refine i_231_270 (x := 0) rfl ?_
  refine i_231_272 (fun h => absurd h (by decide)) (fun _ => ?_)
  refine i_231_275 (x := (-128)) rfl ?_
  refine i_231_277 (x := 128) rfl ?_
  refine i_231_278 (x := a9) rfl ?_
  refine i_231_280 hw17 (Nat.le_of_ble_eq_true rfl) (p_196_1 hw17 hw20 e35 e36 hw21 hg39) ?_
  refine i_231_283 (x := 128) rfl ?_
  refine i_231_284 (x := a10) rfl ?_
  refine i_231_286 hw17 (Nat.le_of_ble_eq_true rfl) (p_196_1 hw17 hw20 e37 e38 hw21 hg40) ?_
  refine i_231_289 (c := (-128)) (by decide) ?_
  refine i_231_290 (Nat.le_of_ble_eq_true rfl) (p_272_1) ?_
  refine i_231_293 (lv2 := [(6, Value.int (-128)), (8, Value.int 0), (7, Value.int 0), (10, Value.int 0), (16, Value.int 0), (15, Value.int 0), (14, Value.int 0), (9, Value.int 1), (13, Value.int a10), (12, Value.int a9), (11, Value.int 2), (0, Value.ref 128), (1, Value.int a0), (2, Value.int a1), (3, Value.int a2), (4, Value.int a3), (5, Value.int a4)]) rfl ?_
  refine i_231_295 (x := 2) (c := 3) (lv2 := [(11, Value.int 3), (6, Value.int (-128)), (8, Value.int 0), (7, Value.int 0), (10, Value.int 0), (16, Value.int 0), (15, Value.int 0), (14, Value.int 0), (9, Value.int 1), (13, Value.int a10), (12, Value.int a9), (0, Value.ref 128), (1, Value.int a0), (2, Value.int a1), (3, Value.int a2), (4, Value.int a3), (5, Value.int a4)]) rfl (by decide) rfl ?_
  refine i_231_298 ?_
  refine i_231_74 (x := 3) rfl ?_
  refine i_231_76 (x := a3) rfl ?_
  refine i_231_78 (fun h => absurd e41 (Int.not_lt.mpr h)) (fun _ => ?_)
  refine i_231_81 (x := a1) rfl ?_
  refine i_231_82 (x := 3) rfl ?_
  refine i_231_84 (c := a11) hg42 ?_
  refine i_231_85 (lv2 := [(12, Value.int a11), (11, Value.int 3), (6, Value.int (-128)), (8, Value.int 0), (7, Value.int 0), (10, Value.int 0), (16, Value.int 0), (15, Value.int 0), (14, Value.int 0), (9, Value.int 1), (13, Value.int a10), (0, Value.ref 128), (1, Value.int a0), (2, Value.int a1), (3, Value.int a2), (4, Value.int a3), (5, Value.int a4)]) rfl ?_
  refine i_231_87 (x := a2) rfl ?_
  refine i_231_88 (x := 3) rfl ?_
  refine i_231_90 (c := a12) hg43 ?_
  refine i_231_91 (lv2 := [(13, Value.int a12), (12, Value.int a11), (11, Value.int 3), (6, Value.int (-128)), (8, Value.int 0), (7, Value.int 0), (10, Value.int 0), (16, Value.int 0), (15, Value.int 0), (14, Value.int 0), (9, Value.int 1), (0, Value.ref 128), (1, Value.int a0), (2, Value.int a1), (3, Value.int a2), (4, Value.int a3), (5, Value.int a4)]) rfl ?_
  refine i_231_93 (x := 1) rfl ?_
  refine i_231_95 (x := 128) rfl ?_
  refine i_231_96 (v := Value.ref 154) hw17 rfl ?_
  refine i_231_99 (x := a11) rfl ?_
  refine i_231_101 (v := Value.int 0) hw18 e44 e45 rfl ?_
  refine i_231_102 (fun _ => ?_) (fun h => absurd h (by decide))
  refine i_231_115 ?_
  refine i_231_116 ?_
  refine i_231_120 (c := 1) (by decide) ?_
  refine i_231_121 (lv2 := [(9, Value.int 1), (13, Value.int a12), (12, Value.int a11), (11, Value.int 3), (6, Value.int (-128)), (8, Value.int 0), (7, Value.int 0), (10, Value.int 0), (16, Value.int 0), (15, Value.int 0), (14, Value.int 0), (0, Value.ref 128), (1, Value.int a0), (2, Value.int a1), (3, Value.int a2), (4, Value.int a3), (5, Value.int a4)]) rfl ?_
  refine i_231_123 (x := 128) rfl ?_
  refine i_231_124 (v := Value.ref 154) hw17 rfl ?_
  refine i_231_127 (x := a11) rfl ?_
  refine i_231_129 (v := Value.int 0) hw18 e44 e45 rfl ?_
  refine i_231_130 ?_
  refine i_231_131 (fun h => absurd h (by decide)) (fun _ => ?_)
  refine i_231_134 (x := 128) rfl ?_
  refine i_231_135 (v := Value.ref 154) hw17 rfl ?_
  refine i_231_138 (x := a12) rfl ?_
  refine i_231_140 (v := Value.int 0) hw18 e46 e47 rfl ?_
  refine i_231_141 ?_
  refine i_231_142 (fun _ => ?_) (fun h => absurd h (by decide))
  refine i_231_149 ?_
  refine i_231_150 (lv2 := [(14, Value.int 0), (9, Value.int 1), (13, Value.int a12), (12, Value.int a11), (11, Value.int 3), (6, Value.int (-128)), (8, Value.int 0), (7, Value.int 0), (10, Value.int 0), (16, Value.int 0), (15, Value.int 0), (0, Value.ref 128), (1, Value.int a0), (2, Value.int a1), (3, Value.int a2), (4, Value.int a3), (5, Value.int a4)]) rfl ?_
  refine i_231_152 (x := 128) rfl ?_
  refine i_231_153 (v := Value.ref 154) hw17 rfl ?_
  refine i_231_156 (x := a11) rfl ?_
  refine i_231_158 (v := Value.int 0) hw18 e44 e45 rfl ?_
  refine i_231_159 ?_
  refine i_231_160 (fun h => absurd h (by decide)) (fun _ => ?_)
  refine i_231_163 (x := 128) rfl ?_
  refine i_231_164 (v := Value.ref 154) hw17 rfl ?_
  refine i_231_167 (x := a12) rfl ?_
  refine i_231_169 (v := Value.int 0) hw18 e46 e47 rfl ?_
  refine i_231_170 ?_
  refine i_231_171 (fun _ => ?_) (fun h => absurd h (by decide))
  refine i_231_178 ?_
  refine i_231_179 (lv2 := [(15, Value.int 0), (14, Value.int 0), (9, Value.int 1), (13, Value.int a12), (12, Value.int a11), (11, Value.int 3), (6, Value.int (-128)), (8, Value.int 0), (7, Value.int 0), (10, Value.int 0), (16, Value.int 0), (0, Value.ref 128), (1, Value.int a0), (2, Value.int a1), (3, Value.int a2), (4, Value.int a3), (5, Value.int a4)]) rfl ?_
  refine i_231_181 (x := 128) rfl ?_
  refine i_231_182 (v := Value.ref 156) hw17 rfl ?_
  refine i_231_185 (x := a11) rfl ?_
  refine i_231_187z (v := Value.int 0) hw19 e44 e45 rfl ?_
  refine i_231_188 (x := 128) rfl ?_
  refine i_231_189 (v := Value.ref 156) hw17 rfl ?_
  refine i_231_192 (x := a12) rfl ?_
  refine i_231_194z (v := Value.int 0) hw19 e46 e47 rfl ?_
  refine i_231_195 (fun _ => ?_) (fun h => absurd h (by decide))
  refine i_231_202 ?_
  refine i_231_203 (lv2 := [(16, Value.int 0), (15, Value.int 0), (14, Value.int 0), (9, Value.int 1), (13, Value.int a12), (12, Value.int a11), (11, Value.int 3), (6, Value.int (-128)), (8, Value.int 0), (7, Value.int 0), (10, Value.int 0), (0, Value.ref 128), (1, Value.int a0), (2, Value.int a1), (3, Value.int a2), (4, Value.int a3), (5, Value.int a4)]) rfl ?_
  refine i_231_205 (x := 0) rfl ?_
  refine i_231_207 (x := 0) rfl ?_
  refine i_231_209 (fun _ => ?_) (fun h => absurd h (by decide))
  refine i_231_221 ?_
  refine i_231_222 (c := 0) (by decide) ?_
  refine i_231_223 (lv2 := [(10, Value.int 0), (16, Value.int 0), (15, Value.int 0), (14, Value.int 0), (9, Value.int 1), (13, Value.int a12), (12, Value.int a11), (11, Value.int 3), (6, Value.int (-128)), (8, Value.int 0), (7, Value.int 0), (0, Value.ref 128), (1, Value.int a0), (2, Value.int a1), (3, Value.int a2), (4, Value.int a3), (5, Value.int a4)]) rfl ?_
  refine i_231_225 (x := 0) rfl ?_
  refine i_231_227 (x := 0) rfl ?_
  refine i_231_229 (fun _ => ?_) (fun h => absurd h (by decide))
  refine i_231_241 ?_
  refine i_231_242 (c := 0) (by decide) ?_
  refine i_231_243 (lv2 := [(7, Value.int 0), (10, Value.int 0), (16, Value.int 0), (15, Value.int 0), (14, Value.int 0), (9, Value.int 1), (13, Value.int a12), (12, Value.int a11), (11, Value.int 3), (6, Value.int (-128)), (8, Value.int 0), (0, Value.ref 128), (1, Value.int a0), (2, Value.int a1), (3, Value.int a2), (4, Value.int a3), (5, Value.int a4)]) rfl ?_
  refine i_231_245 (x := 0) rfl ?_
  refine i_231_247 (x := 0) rfl ?_
  refine i_231_249 (fun _ => ?_) (fun h => absurd h (by decide))
  refine i_231_261 ?_
  refine i_231_262 (c := 0) (by decide) ?_
  refine i_231_263 (lv2 := [(8, Value.int 0), (7, Value.int 0), (10, Value.int 0), (16, Value.int 0), (15, Value.int 0), (14, Value.int 0), (9, Value.int 1), (13, Value.int a12), (12, Value.int a11), (11, Value.int 3), (6, Value.int (-128)), (0, Value.ref 128), (1, Value.int a0), (2, Value.int a1), (3, Value.int a2), (4, Value.int a3), (5, Value.int a4)]) rfl ?_
  refine i_231_265 (x := 0) rfl ?_
  refine i_231_267 (fun h => absurd h (by decide)) (fun _ => ?_)
  refine i_231_270 (x := 0) rfl ?_
  refine i_231_272 (fun h => absurd h (by decide)) (fun _ => ?_)
  refine i_231_275 (x := (-128)) rfl ?_
  refine i_231_277 (x := 128) rfl ?_
  refine i_231_278 (x := a11) rfl ?_
  refine i_231_280 hw17 (Nat.le_of_ble_eq_true rfl) (p_196_1 hw17 hw20 e44 e45 hw21 hg48) ?_
  refine i_231_283 (x := 128) rfl ?_
  refine i_231_284 (x := a12) rfl ?_
  refine i_231_286 hw17 (Nat.le_of_ble_eq_true rfl) (p_196_1 hw17 hw20 e46 e47 hw21 hg49) ?_
  refine i_231_289 (c := (-128)) (by decide) ?_
  refine i_231_290 (Nat.le_of_ble_eq_true rfl) (p_272_1) ?_
  refine i_231_293 (lv2 := [(6, Value.int (-128)), (8, Value.int 0), (7, Value.int 0), (10, Value.int 0), (16, Value.int 0), (15, Value.int 0), (14, Value.int 0), (9, Value.int 1), (13, Value.int a12), (12, Value.int a11), (11, Value.int 3), (0, Value.ref 128), (1, Value.int a0), (2, Value.int a1), (3, Value.int a2), (4, Value.int a3), (5, Value.int a4)]) rfl ?_
  refine i_231_295 (x := 3) (c := 4) (lv2 := [(11, Value.int 4), (6, Value.int (-128)), (8, Value.int 0), (7, Value.int 0), (10, Value.int 0), (16, Value.int 0), (15, Value.int 0), (14, Value.int 0), (9, Value.int 1), (13, Value.int a12), (12, Value.int a11), (0, Value.ref 128), (1, Value.int a0), (2, Value.int a1), (3, Value.int a2), (4, Value.int a3), (5, Value.int a4)]) rfl (by decide) rfl ?_
  refine i_231_298 ?_
  refine i_231_74 (x := 4) rfl ?_
  refine i_231_76 (x := a3) rfl ?_
  refine i_231_78 (fun h => absurd e50 (Int.not_lt.mpr h)) (fun _ => ?_)
  refine i_231_81 (x := a1) rfl ?_
  refine i_231_82 (x := 4) rfl ?_
  refine i_231_84 (c := a13) hg51 ?_
  refine i_231_85 (lv2 := [(12, Value.int a13), (11, Value.int 4), (6, Value.int (-128)), (8, Value.int 0), (7, Value.int 0), (10, Value.int 0), (16, Value.int 0), (15, Value.int 0), (14, Value.int 0), (9, Value.int 1), (13, Value.int a12), (0, Value.ref 128), (1, Value.int a0), (2, Value.int a1), (3, Value.int a2), (4, Value.int a3), (5, Value.int a4)]) rfl ?_
  refine i_231_87 (x := a2) rfl ?_
  refine i_231_88 (x := 4) rfl ?_
  refine i_231_90 (c := a14) hg52 ?_
  refine i_231_91 (lv2 := [(13, Value.int a14), (12, Value.int a13), (11, Value.int 4), (6, Value.int (-128)), (8, Value.int 0), (7, Value.int 0), (10, Value.int 0), (16, Value.int 0), (15, Value.int 0), (14, Value.int 0), (9, Value.int 1), (0, Value.ref 128), (1, Value.int a0), (2, Value.int a1), (3, Value.int a2), (4, Value.int a3), (5, Value.int a4)]) rfl ?_
  refine i_231_93 (x := 1) rfl ?_
  refine i_231_95 (x := 128) rfl ?_
  refine i_231_96 (v := Value.ref 154) hw17 rfl ?_
  refine i_231_99 (x := a13) rfl ?_
  refine i_231_101 (v := Value.int 0) hw18 e53 e54 rfl ?_
  refine i_231_102 (fun _ => ?_) (fun h => absurd h (by decide))
  refine i_231_115 ?_
  refine i_231_116 ?_
  refine i_231_120 (c := 1) (by decide) ?_
  refine i_231_121 (lv2 := [(9, Value.int 1), (13, Value.int a14), (12, Value.int a13), (11, Value.int 4), (6, Value.int (-128)), (8, Value.int 0), (7, Value.int 0), (10, Value.int 0), (16, Value.int 0), (15, Value.int 0), (14, Value.int 0), (0, Value.ref 128), (1, Value.int a0), (2, Value.int a1), (3, Value.int a2), (4, Value.int a3), (5, Value.int a4)]) rfl ?_
  refine i_231_123 (x := 128) rfl ?_
  refine i_231_124 (v := Value.ref 154) hw17 rfl ?_
  refine i_231_127 (x := a13) rfl ?_
  refine i_231_129 (v := Value.int 0) hw18 e53 e54 rfl ?_
  refine i_231_130 ?_
  refine i_231_131 (fun h => absurd h (by decide)) (fun _ => ?_)
  refine i_231_134 (x := 128) rfl ?_
  refine i_231_135 (v := Value.ref 154) hw17 rfl ?_
  refine i_231_138 (x := a14) rfl ?_
  refine i_231_140 (v := Value.int 0) hw18 e55 e56 rfl ?_
  refine i_231_141 ?_
  refine i_231_142 (fun _ => ?_) (fun h => absurd h (by decide))
  refine i_231_149 ?_
  refine i_231_150 (lv2 := [(14, Value.int 0), (9, Value.int 1), (13, Value.int a14), (12, Value.int a13), (11, Value.int 4), (6, Value.int (-128)), (8, Value.int 0), (7, Value.int 0), (10, Value.int 0), (16, Value.int 0), (15, Value.int 0), (0, Value.ref 128), (1, Value.int a0), (2, Value.int a1), (3, Value.int a2), (4, Value.int a3), (5, Value.int a4)]) rfl ?_
  refine i_231_152 (x := 128) rfl ?_
  refine i_231_153 (v := Value.ref 154) hw17 rfl ?_
  refine i_231_156 (x := a13) rfl ?_
  refine i_231_158 (v := Value.int 0) hw18 e53 e54 rfl ?_
  refine i_231_159 ?_
  refine i_231_160 (fun h => absurd h (by decide)) (fun _ => ?_)
  refine i_231_163 (x := 128) rfl ?_
  refine i_231_164 (v := Value.ref 154) hw17 rfl ?_
  refine i_231_167 (x := a14) rfl ?_
  refine i_231_169 (v := Value.int 0) hw18 e55 e56 rfl ?_
  refine i_231_170 ?_
  refine i_231_171 (fun _ => ?_) (fun h => absurd h (by decide))
  refine i_231_178 ?_
  refine i_231_179 (lv2 := [(15, Value.int 0), (14, Value.int 0), (9, Value.int 1), (13, Value.int a14), (12, Value.int a13), (11, Value.int 4), (6, Value.int (-128)), (8, Value.int 0), (7, Value.int 0), (10, Value.int 0), (16, Value.int 0), (0, Value.ref 128), (1, Value.int a0), (2, Value.int a1), (3, Value.int a2), (4, Value.int a3), (5, Value.int a4)]) rfl ?_
  refine i_231_181 (x := 128) rfl ?_
  refine i_231_182 (v := Value.ref 156) hw17 rfl ?_
  refine i_231_185 (x := a13) rfl ?_
  refine i_231_187z (v := Value.int 0) hw19 e53 e54 rfl ?_
  refine i_231_188 (x := 128) rfl ?_
  refine i_231_189 (v := Value.ref 156) hw17 rfl ?_
  refine i_231_192 (x := a14) rfl ?_
  refine i_231_194z (v := Value.int 0) hw19 e55 e56 rfl ?_
  refine i_231_195 (fun _ => ?_) (fun h => absurd h (by decide))
  refine i_231_202 ?_
  refine i_231_203 (lv2 := [(16, Value.int 0), (15, Value.int 0), (14, Value.int 0), (9, Value.int 1), (13, Value.int a14), (12, Value.int a13), (11, Value.int 4), (6, Value.int (-128)), (8, Value.int 0), (7, Value.int 0), (10, Value.int 0), (0, Value.ref 128), (1, Value.int a0), (2, Value.int a1), (3, Value.int a2), (4, Value.int a3), (5, Value.int a4)]) rfl ?_
  refine i_231_205 (x := 0) rfl ?_
  refine i_231_207 (x := 0) rfl ?_
  refine i_231_209 (fun _ => ?_) (fun h => absurd h (by decide))
  refine i_231_221 ?_
  refine i_231_222 (c := 0) (by decide) ?_
  refine i_231_223 (lv2 := [(10, Value.int 0), (16, Value.int 0), (15, Value.int 0), (14, Value.int 0), (9, Value.int 1), (13, Value.int a14), (12, Value.int a13), (11, Value.int 4), (6, Value.int (-128)), (8, Value.int 0), (7, Value.int 0), (0, Value.ref 128), (1, Value.int a0), (2, Value.int a1), (3, Value.int a2), (4, Value.int a3), (5, Value.int a4)]) rfl ?_
  refine i_231_225 (x := 0) rfl ?_
  refine i_231_227 (x := 0) rfl ?_
  refine i_231_229 (fun _ => ?_) (fun h => absurd h (by decide))
  refine i_231_241 ?_
  refine i_231_242 (c := 0) (by decide) ?_
  refine i_231_243 (lv2 := [(7, Value.int 0), (10, Value.int 0), (16, Value.int 0), (15, Value.int 0), (14, Value.int 0), (9, Value.int 1), (13, Value.int a14), (12, Value.int a13), (11, Value.int 4), (6, Value.int (-128)), (8, Value.int 0), (0, Value.ref 128), (1, Value.int a0), (2, Value.int a1), (3, Value.int a2), (4, Value.int a3), (5, Value.int a4)]) rfl ?_
  refine i_231_245 (x := 0) rfl ?_
  refine i_231_247 (x := 0) rfl ?_
  refine i_231_249 (fun _ => ?_) (fun h => absurd h (by decide))
  refine i_231_261 ?_
  refine i_231_262 (c := 0) (by decide) ?_
  refine i_231_263 (lv2 := [(8, Value.int 0), (7, Value.int 0), (10, Value.int 0), (16, Value.int 0), (15, Value.int 0), (14, Value.int 0), (9, Value.int 1), (13, Value.int a14), (12, Value.int a13), (11, Value.int 4), (6, Value.int (-128)), (0, Value.ref 128), (1, Value.int a0), (2, Value.int a1), (3, Value.int a2), (4, Value.int a3), (5, Value.int a4)]) rfl ?_
  refine i_231_265 (x := 0) rfl ?_
  refine i_231_267 (fun h => absurd h (by decide)) (fun _ => ?_)
  refine i_231_270 (x := 0) rfl ?_
  refine i_231_272 (fun h => absurd h (by decide)) (fun _ => ?_)
  refine i_231_275 (x := (-128)) rfl ?_
  refine i_231_277 (x := 128) rfl ?_
  refine i_231_278 (x := a13) rfl ?_
  refine i_231_280 hw17 (Nat.le_of_ble_eq_true rfl) (p_196_1 hw17 hw20 e53 e54 hw21 hg57) ?_
  refine i_231_283 (x := 128) rfl ?_
  refine i_231_284 (x := a14) rfl ?_
  refine i_231_286 hw17 (Nat.le_of_ble_eq_true rfl) (p_196_1 hw17 hw20 e55 e56 hw21 hg58) ?_
  refine i_231_289 (c := (-128)) (by decide) ?_
  refine i_231_290 (Nat.le_of_ble_eq_true rfl) (p_272_1) ?_
  refine i_231_293 (lv2 := [(6, Value.int (-128)), (8, Value.int 0), (7, Value.int 0), (10, Value.int 0), (16, Value.int 0), (15, Value.int 0), (14, Value.int 0), (9, Value.int 1), (13, Value.int a14), (12, Value.int a13), (11, Value.int 4), (0, Value.ref 128), (1, Value.int a0), (2, Value.int a1), (3, Value.int a2), (4, Value.int a3), (5, Value.int a4)]) rfl ?_
  refine i_231_295 (x := 4) (c := 5) (lv2 := [(11, Value.int 5), (6, Value.int (-128)), (8, Value.int 0), (7, Value.int 0), (10, Value.int 0), (16, Value.int 0), (15, Value.int 0), (14, Value.int 0), (9, Value.int 1), (13, Value.int a14), (12, Value.int a13), (0, Value.ref 128), (1, Value.int a0), (2, Value.int a1), (3, Value.int a2), (4, Value.int a3), (5, Value.int a4)]) rfl (by decide) rfl ?_
  refine i_231_298 ?_
  refine i_231_74 (x := 5) rfl ?_
  refine i_231_76 (x := a3) rfl ?_
  refine i_231_78 (fun h => absurd e59 (Int.not_lt.mpr h)) (fun _ => ?_)
  refine i_231_81 (x := a1) rfl ?_
  refine i_231_82 (x := 5) rfl ?_
  refine i_231_84 (c := a15) hg60 ?_
  refine i_231_85 (lv2 := [(12, Value.int a15), (11, Value.int 5), (6, Value.int (-128)), (8, Value.int 0), (7, Value.int 0), (10, Value.int 0), (16, Value.int 0), (15, Value.int 0), (14, Value.int 0), (9, Value.int 1), (13, Value.int a14), (0, Value.ref 128), (1, Value.int a0), (2, Value.int a1), (3, Value.int a2), (4, Value.int a3), (5, Value.int a4)]) rfl ?_
  refine i_231_87 (x := a2) rfl ?_
  refine i_231_88 (x := 5) rfl ?_
  refine i_231_90 (c := a16) hg61 ?_
  refine i_231_91 (lv2 := [(13, Value.int a16), (12, Value.int a15), (11, Value.int 5), (6, Value.int (-128)), (8, Value.int 0), (7, Value.int 0), (10, Value.int 0), (16, Value.int 0), (15, Value.int 0), (14, Value.int 0), (9, Value.int 1), (0, Value.ref 128), (1, Value.int a0), (2, Value.int a1), (3, Value.int a2), (4, Value.int a3), (5, Value.int a4)]) rfl ?_
  refine i_231_93 (x := 1) rfl ?_
  refine i_231_95 (x := 128) rfl ?_
  refine i_231_96 (v := Value.ref 154) hw17 rfl ?_
  refine i_231_99 (x := a15) rfl ?_
  refine i_231_101 (v := Value.int 0) hw18 e62 e63 rfl ?_
  refine i_231_102 (fun _ => ?_) (fun h => absurd h (by decide))
  refine i_231_115 ?_
  refine i_231_116 ?_
  refine i_231_120 (c := 1) (by decide) ?_
  refine i_231_121 (lv2 := [(9, Value.int 1), (13, Value.int a16), (12, Value.int a15), (11, Value.int 5), (6, Value.int (-128)), (8, Value.int 0), (7, Value.int 0), (10, Value.int 0), (16, Value.int 0), (15, Value.int 0), (14, Value.int 0), (0, Value.ref 128), (1, Value.int a0), (2, Value.int a1), (3, Value.int a2), (4, Value.int a3), (5, Value.int a4)]) rfl ?_
  refine i_231_123 (x := 128) rfl ?_
  refine i_231_124 (v := Value.ref 154) hw17 rfl ?_
  refine i_231_127 (x := a15) rfl ?_
  refine i_231_129 (v := Value.int 0) hw18 e62 e63 rfl ?_
  refine i_231_130 ?_
  refine i_231_131 (fun h => absurd h (by decide)) (fun _ => ?_)
  refine i_231_134 (x := 128) rfl ?_
  refine i_231_135 (v := Value.ref 154) hw17 rfl ?_
  refine i_231_138 (x := a16) rfl ?_
  refine i_231_140 (v := Value.int 0) hw18 e64 e65 rfl ?_
  refine i_231_141 ?_
  refine i_231_142 (fun _ => ?_) (fun h => absurd h (by decide))
  refine i_231_149 ?_
  refine i_231_150 (lv2 := [(14, Value.int 0), (9, Value.int 1), (13, Value.int a16), (12, Value.int a15), (11, Value.int 5), (6, Value.int (-128)), (8, Value.int 0), (7, Value.int 0), (10, Value.int 0), (16, Value.int 0), (15, Value.int 0), (0, Value.ref 128), (1, Value.int a0), (2, Value.int a1), (3, Value.int a2), (4, Value.int a3), (5, Value.int a4)]) rfl ?_
  refine i_231_152 (x := 128) rfl ?_
  refine i_231_153 (v := Value.ref 154) hw17 rfl ?_
  refine i_231_156 (x := a15) rfl ?_
  refine i_231_158 (v := Value.int 0) hw18 e62 e63 rfl ?_
  refine i_231_159 ?_
  refine i_231_160 (fun h => absurd h (by decide)) (fun _ => ?_)
  refine i_231_163 (x := 128) rfl ?_
  refine i_231_164 (v := Value.ref 154) hw17 rfl ?_
  refine i_231_167 (x := a16) rfl ?_
  refine i_231_169 (v := Value.int 0) hw18 e64 e65 rfl ?_
  refine i_231_170 ?_
  refine i_231_171 (fun _ => ?_) (fun h => absurd h (by decide))
  refine i_231_178 ?_
  refine i_231_179 (lv2 := [(15, Value.int 0), (14, Value.int 0), (9, Value.int 1), (13, Value.int a16), (12, Value.int a15), (11, Value.int 5), (6, Value.int (-128)), (8, Value.int 0), (7, Value.int 0), (10, Value.int 0), (16, Value.int 0), (0, Value.ref 128), (1, Value.int a0), (2, Value.int a1), (3, Value.int a2), (4, Value.int a3), (5, Value.int a4)]) rfl ?_
  refine i_231_181 (x := 128) rfl ?_
  refine i_231_182 (v := Value.ref 156) hw17 rfl ?_
  refine i_231_185 (x := a15) rfl ?_
  refine i_231_187z (v := Value.int 0) hw19 e62 e63 rfl ?_
  refine i_231_188 (x := 128) rfl ?_
  refine i_231_189 (v := Value.ref 156) hw17 rfl ?_
  refine i_231_192 (x := a16) rfl ?_
  refine i_231_194z (v := Value.int 0) hw19 e64 e65 rfl ?_
  refine i_231_195 (fun _ => ?_) (fun h => absurd h (by decide))
  refine i_231_202 ?_
  refine i_231_203 (lv2 := [(16, Value.int 0), (15, Value.int 0), (14, Value.int 0), (9, Value.int 1), (13, Value.int a16), (12, Value.int a15), (11, Value.int 5), (6, Value.int (-128)), (8, Value.int 0), (7, Value.int 0), (10, Value.int 0), (0, Value.ref 128), (1, Value.int a0), (2, Value.int a1), (3, Value.int a2), (4, Value.int a3), (5, Value.int a4)]) rfl ?_
  refine i_231_205 (x := 0) rfl ?_
  refine i_231_207 (x := 0) rfl ?_
  refine i_231_209 (fun _ => ?_) (fun h => absurd h (by decide))
  refine i_231_221 ?_
  refine i_231_222 (c := 0) (by decide) ?_
  refine i_231_223 (lv2 := [(10, Value.int 0), (16, Value.int 0), (15, Value.int 0), (14, Value.int 0), (9, Value.int 1), (13, Value.int a16), (12, Value.int a15), (11, Value.int 5), (6, Value.int (-128)), (8, Value.int 0), (7, Value.int 0), (0, Value.ref 128), (1, Value.int a0), (2, Value.int a1), (3, Value.int a2), (4, Value.int a3), (5, Value.int a4)]) rfl ?_
  refine i_231_225 (x := 0) rfl ?_
  refine i_231_227 (x := 0) rfl ?_
  refine i_231_229 (fun _ => ?_) (fun h => absurd h (by decide))
  refine i_231_241 ?_
  refine i_231_242 (c := 0) (by decide) ?_
  refine i_231_243 (lv2 := [(7, Value.int 0), (10, Value.int 0), (16, Value.int 0), (15, Value.int 0), (14, Value.int 0), (9, Value.int 1), (13, Value.int a16), (12, Value.int a15), (11, Value.int 5), (6, Value.int (-128)), (8, Value.int 0), (0, Value.ref 128), (1, Value.int a0), (2, Value.int a1), (3, Value.int a2), (4, Value.int a3), (5, Value.int a4)]) rfl ?_
  refine i_231_245 (x := 0) rfl ?_
  refine i_231_247 (x := 0) rfl ?_
  refine i_231_249 (fun _ => ?_) (fun h => absurd h (by decide))
  refine i_231_261 ?_
  refine i_231_262 (c := 0) (by decide) ?_
  refine i_231_263 (lv2 := [(8, Value.int 0), (7, Value.int 0), (10, Value.int 0), (16, Value.int 0), (15, Value.int 0), (14, Value.int 0), (9, Value.int 1), (13, Value.int a16), (12, Value.int a15), (11, Value.int 5), (6, Value.int (-128)), (0, Value.ref 128), (1, Value.int a0), (2, Value.int a1), (3, Value.int a2), (4, Value.int a3), (5, Value.int a4)]) rfl ?_
  refine i_231_265 (x := 0) rfl ?_
  refine i_231_267 (fun h => absurd h (by decide)) (fun _ => ?_)
  refine i_231_270 (x := 0) rfl ?_
  refine i_231_272 (fun h => absurd h (by decide)) (fun _ => ?_)
  refine i_231_275 (x := (-128)) rfl ?_
  refine i_231_277 (x := 128) rfl ?_
  refine i_231_278 (x := a15) rfl ?_
  refine i_231_280 hw17 (Nat.le_of_ble_eq_true rfl) (p_196_1 hw17 hw20 e62 e63 hw21 hg66) ?_
  refine i_231_283 (x := 128) rfl ?_
  refine i_231_284 (x := a16) rfl ?_
  refine i_231_286 hw17 (Nat.le_of_ble_eq_true rfl) (p_196_1 hw17 hw20 e64 e65 hw21 hg67) ?_
  refine i_231_289 (c := (-128)) (by decide) ?_
  refine i_231_290 (Nat.le_of_ble_eq_true rfl) (p_272_1) ?_
  refine i_231_293 (lv2 := [(6, Value.int (-128)), (8, Value.int 0), (7, Value.int 0), (10, Value.int 0), (16, Value.int 0), (15, Value.int 0), (14, Value.int 0), (9, Value.int 1), (13, Value.int a16), (12, Value.int a15), (11, Value.int 5), (0, Value.ref 128), (1, Value.int a0), (2, Value.int a1), (3, Value.int a2), (4, Value.int a3), (5, Value.int a4)]) rfl ?_
  refine i_231_295 (x := 5) (c := 6) (lv2 := [(11, Value.int 6), (6, Value.int (-128)), (8, Value.int 0), (7, Value.int 0), (10, Value.int 0), (16, Value.int 0), (15, Value.int 0), (14, Value.int 0), (9, Value.int 1), (13, Value.int a16), (12, Value.int a15), (0, Value.ref 128), (1, Value.int a0), (2, Value.int a1), (3, Value.int a2), (4, Value.int a3), (5, Value.int a4)]) rfl (by decide) rfl ?_
  refine i_231_298 ?_
  refine i_231_74 (x := 6) rfl ?_
  refine i_231_76 (x := a3) rfl ?_
  refine i_231_78 (fun h => absurd e68 (Int.not_lt.mpr h)) (fun _ => ?_)
  refine i_231_81 (x := a1) rfl ?_
  refine i_231_82 (x := 6) rfl ?_
  refine i_231_84 (c := a17) hg69 ?_
  refine i_231_85 (lv2 := [(12, Value.int a17), (11, Value.int 6), (6, Value.int (-128)), (8, Value.int 0), (7, Value.int 0), (10, Value.int 0), (16, Value.int 0), (15, Value.int 0), (14, Value.int 0), (9, Value.int 1), (13, Value.int a16), (0, Value.ref 128), (1, Value.int a0), (2, Value.int a1), (3, Value.int a2), (4, Value.int a3), (5, Value.int a4)]) rfl ?_
  refine i_231_87 (x := a2) rfl ?_
  refine i_231_88 (x := 6) rfl ?_
  refine i_231_90 (c := a18) hg70 ?_
  refine i_231_91 (lv2 := [(13, Value.int a18), (12, Value.int a17), (11, Value.int 6), (6, Value.int (-128)), (8, Value.int 0), (7, Value.int 0), (10, Value.int 0), (16, Value.int 0), (15, Value.int 0), (14, Value.int 0), (9, Value.int 1), (0, Value.ref 128), (1, Value.int a0), (2, Value.int a1), (3, Value.int a2), (4, Value.int a3), (5, Value.int a4)]) rfl ?_
  refine i_231_93 (x := 1) rfl ?_
  refine i_231_95 (x := 128) rfl ?_
  refine i_231_96 (v := Value.ref 154) hw17 rfl ?_
  refine i_231_99 (x := a17) rfl ?_
  refine i_231_101 (v := Value.int 0) hw18 e71 e72 rfl ?_
  refine i_231_102 (fun _ => ?_) (fun h => absurd h (by decide))
  refine i_231_115 ?_
  refine i_231_116 ?_
  refine i_231_120 (c := 1) (by decide) ?_
  refine i_231_121 (lv2 := [(9, Value.int 1), (13, Value.int a18), (12, Value.int a17), (11, Value.int 6), (6, Value.int (-128)), (8, Value.int 0), (7, Value.int 0), (10, Value.int 0), (16, Value.int 0), (15, Value.int 0), (14, Value.int 0), (0, Value.ref 128), (1, Value.int a0), (2, Value.int a1), (3, Value.int a2), (4, Value.int a3), (5, Value.int a4)]) rfl ?_
  refine i_231_123 (x := 128) rfl ?_
  refine i_231_124 (v := Value.ref 154) hw17 rfl ?_
  refine i_231_127 (x := a17) rfl ?_
  refine i_231_129 (v := Value.int 0) hw18 e71 e72 rfl ?_
  refine i_231_130 ?_
  refine i_231_131 (fun h => absurd h (by decide)) (fun _ => ?_)
  refine i_231_134 (x := 128) rfl ?_
  refine i_231_135 (v := Value.ref 154) hw17 rfl ?_
  refine i_231_138 (x := a18) rfl ?_
  refine i_231_140 (v := Value.int 0) hw18 e73 e74 rfl ?_
  refine i_231_141 ?_
  refine i_231_142 (fun _ => ?_) (fun h => absurd h (by decide))
  refine i_231_149 ?_
  refine i_231_150 (lv2 := [(14, Value.int 0), (9, Value.int 1), (13, Value.int a18), (12, Value.int a17), (11, Value.int 6), (6, Value.int (-128)), (8, Value.int 0), (7, Value.int 0), (10, Value.int 0), (16, Value.int 0), (15, Value.int 0), (0, Value.ref 128), (1, Value.int a0), (2, Value.int a1), (3, Value.int a2), (4, Value.int a3), (5, Value.int a4)]) rfl ?_
  refine i_231_152 (x := 128) rfl ?_
  refine i_231_153 (v := Value.ref 154) hw17 rfl ?_
  refine i_231_156 (x := a17) rfl ?_
  refine i_231_158 (v := Value.int 0) hw18 e71 e72 rfl ?_
  refine i_231_159 ?_
  refine i_231_160 (fun h => absurd h (by decide)) (fun _ => ?_)
  refine i_231_163 (x := 128) rfl ?_
  refine i_231_164 (v := Value.ref 154) hw17 rfl ?_
  refine i_231_167 (x := a18) rfl ?_
  refine i_231_169 (v := Value.int 0) hw18 e73 e74 rfl ?_
  refine i_231_170 ?_
  refine i_231_171 (fun _ => ?_) (fun h => absurd h (by decide))
  refine i_231_178 ?_
  refine i_231_179 (lv2 := [(15, Value.int 0), (14, Value.int 0), (9, Value.int 1), (13, Value.int a18), (12, Value.int a17), (11, Value.int 6), (6, Value.int (-128)), (8, Value.int 0), (7, Value.int 0), (10, Value.int 0), (16, Value.int 0), (0, Value.ref 128), (1, Value.int a0), (2, Value.int a1), (3, Value.int a2), (4, Value.int a3), (5, Value.int a4)]) rfl ?_
  refine i_231_181 (x := 128) rfl ?_
  refine i_231_182 (v := Value.ref 156) hw17 rfl ?_
  refine i_231_185 (x := a17) rfl ?_
  refine i_231_187z (v := Value.int 0) hw19 e71 e72 rfl ?_
  refine i_231_188 (x := 128) rfl ?_
  refine i_231_189 (v := Value.ref 156) hw17 rfl ?_
  refine i_231_192 (x := a18) rfl ?_
  refine i_231_194z (v := Value.int 0) hw19 e73 e74 rfl ?_
  refine i_231_195 (fun _ => ?_) (fun h => absurd h (by decide))
  refine i_231_202 ?_
  refine i_231_203 (lv2 := [(16, Value.int 0), (15, Value.int 0), (14, Value.int 0), (9, Value.int 1), (13, Value.int a18), (12, Value.int a17), (11, Value.int 6), (6, Value.int (-128)), (8, Value.int 0), (7, Value.int 0), (10, Value.int 0), (0, Value.ref 128), (1, Value.int a0), (2, Value.int a1), (3, Value.int a2), (4, Value.int a3), (5, Value.int a4)]) rfl ?_
  refine i_231_205 (x := 0) rfl ?_
  refine i_231_207 (x := 0) rfl ?_
  refine i_231_209 (fun _ => ?_) (fun h => absurd h (by decide))
  refine i_231_221 ?_
  refine i_231_222 (c := 0) (by decide) ?_
  refine i_231_223 (lv2 := [(10, Value.int 0), (16, Value.int 0), (15, Value.int 0), (14, Value.int 0), (9, Value.int 1), (13, Value.int a18), (12, Value.int a17), (11, Value.int 6), (6, Value.int (-128)), (8, Value.int 0), (7, Value.int 0), (0, Value.ref 128), (1, Value.int a0), (2, Value.int a1), (3, Value.int a2), (4, Value.int a3), (5, Value.int a4)]) rfl ?_
  refine i_231_225 (x := 0) rfl ?_
  refine i_231_227 (x := 0) rfl ?_
  refine i_231_229 (fun _ => ?_) (fun h => absurd h (by decide))
  refine i_231_241 ?_
  refine i_231_242 (c := 0) (by decide) ?_
  refine i_231_243 (lv2 := [(7, Value.int 0), (10, Value.int 0), (16, Value.int 0), (15, Value.int 0), (14, Value.int 0), (9, Value.int 1), (13, Value.int a18), (12, Value.int a17), (11, Value.int 6), (6, Value.int (-128)), (8, Value.int 0), (0, Value.ref 128), (1, Value.int a0), (2, Value.int a1), (3, Value.int a2), (4, Value.int a3), (5, Value.int a4)]) rfl ?_
  refine i_231_245 (x := 0) rfl ?_
  refine i_231_247 (x := 0) rfl ?_
  refine i_231_249 (fun _ => ?_) (fun h => absurd h (by decide))
  refine i_231_261 ?_
  refine i_231_262 (c := 0) (by decide) ?_
  refine i_231_263 (lv2 := [(8, Value.int 0), (7, Value.int 0), (10, Value.int 0), (16, Value.int 0), (15, Value.int 0), (14, Value.int 0), (9, Value.int 1), (13, Value.int a18), (12, Value.int a17), (11, Value.int 6), (6, Value.int (-128)), (0, Value.ref 128), (1, Value.int a0), (2, Value.int a1), (3, Value.int a2), (4, Value.int a3), (5, Value.int a4)]) rfl ?_
  refine i_231_265 (x := 0) rfl ?_
  refine i_231_267 (fun h => absurd h (by decide)) (fun _ => ?_)
  refine i_231_270 (x := 0) rfl ?_
  refine i_231_272 (fun h => absurd h (by decide)) (fun _ => ?_)
  refine i_231_275 (x := (-128)) rfl ?_
  refine i_231_277 (x := 128) rfl ?_
  refine i_231_278 (x := a17) rfl ?_
  refine i_231_280 hw17 (Nat.le_of_ble_eq_true rfl) (p_196_1 hw17 hw20 e71 e72 hw21 hg75) ?_
  refine i_231_283 (x := 128) rfl ?_
  refine i_231_284 (x := a18) rfl ?_
  refine i_231_286 hw17 (Nat.le_of_ble_eq_true rfl) (p_196_1 hw17 hw20 e73 e74 hw21 hg76) ?_
  refine i_231_289 (c := (-128)) (by decide) ?_
  refine i_231_290 (Nat.le_of_ble_eq_true rfl) (p_272_1) ?_
  refine i_231_293 (lv2 := [(6, Value.int (-128)), (8, Value.int 0), (7, Value.int 0), (10, Value.int 0), (16, Value.int 0), (15, Value.int 0), (14, Value.int 0), (9, Value.int 1), (13, Value.int a18), (12, Value.int a17), (11, Value.int 6), (0, Value.ref 128), (1, Value.int a0), (2, Value.int a1), (3, Value.int a2), (4, Value.int a3), (5, Value.int a4)]) rfl ?_
  refine i_231_295 (x := 6) (c := 7) (lv2 := [(11, Value.int 7), (6, Value.int (-128)), (8, Value.int 0), (7, Value.int 0), (10, Value.int 0), (16, Value.int 0), (15, Value.int 0), (14, Value.int 0), (9, Value.int 1), (13, Value.int a18), (12, Value.int a17), (0, Value.ref 128), (1, Value.int a0), (2, Value.int a1), (3, Value.int a2), (4, Value.int a3), (5, Value.int a4)]) rfl (by decide) rfl ?_
  refine i_231_298 ?_
  refine i_231_74 (x := 7) rfl ?_
  refine i_231_76 (x := a3) rfl ?_
  refine i_231_78 (fun h => absurd e77 (Int.not_lt.mpr h)) (fun _ => ?_)
  refine i_231_81 (x := a1) rfl ?_
  refine i_231_82 (x := 7) rfl ?_
  refine i_231_84 (c := a19) hg78 ?_
  refine i_231_85 (lv2 := [(12, Value.int a19), (11, Value.int 7), (6, Value.int (-128)), (8, Value.int 0), (7, Value.int 0), (10, Value.int 0), (16, Value.int 0), (15, Value.int 0), (14, Value.int 0), (9, Value.int 1), (13, Value.int a18), (0, Value.ref 128), (1, Value.int a0), (2, Value.int a1), (3, Value.int a2), (4, Value.int a3), (5, Value.int a4)]) rfl ?_
  refine i_231_87 (x := a2) rfl ?_
  refine i_231_88 (x := 7) rfl ?_
  refine i_231_90 (c := a20) hg79 ?_
  refine i_231_91 (lv2 := [(13, Value.int a20), (12, Value.int a19), (11, Value.int 7), (6, Value.int (-128)), (8, Value.int 0), (7, Value.int 0), (10, Value.int 0), (16, Value.int 0), (15, Value.int 0), (14, Value.int 0), (9, Value.int 1), (0, Value.ref 128), (1, Value.int a0), (2, Value.int a1), (3, Value.int a2), (4, Value.int a3), (5, Value.int a4)]) rfl ?_
  refine i_231_93 (x := 1) rfl ?_
  refine i_231_95 (x := 128) rfl ?_
  refine i_231_96 (v := Value.ref 154) hw17 rfl ?_
  refine i_231_99 (x := a19) rfl ?_
  refine i_231_101 (v := Value.int 0) hw18 e80 e81 rfl ?_
  refine i_231_102 (fun _ => ?_) (fun h => absurd h (by decide))
  refine i_231_115 ?_
  refine i_231_116 ?_
  refine i_231_120 (c := 1) (by decide) ?_
  refine i_231_121 (lv2 := [(9, Value.int 1), (13, Value.int a20), (12, Value.int a19), (11, Value.int 7), (6, Value.int (-128)), (8, Value.int 0), (7, Value.int 0), (10, Value.int 0), (16, Value.int 0), (15, Value.int 0), (14, Value.int 0), (0, Value.ref 128), (1, Value.int a0), (2, Value.int a1), (3, Value.int a2), (4, Value.int a3), (5, Value.int a4)]) rfl ?_
  refine i_231_123 (x := 128) rfl ?_
  refine i_231_124 (v := Value.ref 154) hw17 rfl ?_
  refine i_231_127 (x := a19) rfl ?_
  refine i_231_129 (v := Value.int 0) hw18 e80 e81 rfl ?_
  refine i_231_130 ?_
  refine i_231_131 (fun h => absurd h (by decide)) (fun _ => ?_)
  refine i_231_134 (x := 128) rfl ?_
  refine i_231_135 (v := Value.ref 154) hw17 rfl ?_
  refine i_231_138 (x := a20) rfl ?_
  refine i_231_140 (v := Value.int 0) hw18 e82 e83 rfl ?_
  refine i_231_141 ?_
  refine i_231_142 (fun _ => ?_) (fun h => absurd h (by decide))
  refine i_231_149 ?_
  refine i_231_150 (lv2 := [(14, Value.int 0), (9, Value.int 1), (13, Value.int a20), (12, Value.int a19), (11, Value.int 7), (6, Value.int (-128)), (8, Value.int 0), (7, Value.int 0), (10, Value.int 0), (16, Value.int 0), (15, Value.int 0), (0, Value.ref 128), (1, Value.int a0), (2, Value.int a1), (3, Value.int a2), (4, Value.int a3), (5, Value.int a4)]) rfl ?_
  refine i_231_152 (x := 128) rfl ?_
  refine i_231_153 (v := Value.ref 154) hw17 rfl ?_
  refine i_231_156 (x := a19) rfl ?_
  refine i_231_158 (v := Value.int 0) hw18 e80 e81 rfl ?_
  refine i_231_159 ?_
  refine i_231_160 (fun h => absurd h (by decide)) (fun _ => ?_)
  refine i_231_163 (x := 128) rfl ?_
  refine i_231_164 (v := Value.ref 154) hw17 rfl ?_
  refine i_231_167 (x := a20) rfl ?_
  refine i_231_169 (v := Value.int 0) hw18 e82 e83 rfl ?_
  refine i_231_170 ?_
  refine i_231_171 (fun _ => ?_) (fun h => absurd h (by decide))
  refine i_231_178 ?_
  refine i_231_179 (lv2 := [(15, Value.int 0), (14, Value.int 0), (9, Value.int 1), (13, Value.int a20), (12, Value.int a19), (11, Value.int 7), (6, Value.int (-128)), (8, Value.int 0), (7, Value.int 0), (10, Value.int 0), (16, Value.int 0), (0, Value.ref 128), (1, Value.int a0), (2, Value.int a1), (3, Value.int a2), (4, Value.int a3), (5, Value.int a4)]) rfl ?_
  refine i_231_181 (x := 128) rfl ?_
  refine i_231_182 (v := Value.ref 156) hw17 rfl ?_
  refine i_231_185 (x := a19) rfl ?_
  refine i_231_187z (v := Value.int 0) hw19 e80 e81 rfl ?_
  refine i_231_188 (x := 128) rfl ?_
  refine i_231_189 (v := Value.ref 156) hw17 rfl ?_
  refine i_231_192 (x := a20) rfl ?_
  refine i_231_194z (v := Value.int 0) hw19 e82 e83 rfl ?_
  refine i_231_195 (fun _ => ?_) (fun h => absurd h (by decide))
  refine i_231_202 ?_
  refine i_231_203 (lv2 := [(16, Value.int 0), (15, Value.int 0), (14, Value.int 0), (9, Value.int 1), (13, Value.int a20), (12, Value.int a19), (11, Value.int 7), (6, Value.int (-128)), (8, Value.int 0), (7, Value.int 0), (10, Value.int 0), (0, Value.ref 128), (1, Value.int a0), (2, Value.int a1), (3, Value.int a2), (4, Value.int a3), (5, Value.int a4)]) rfl ?_
  refine i_231_205 (x := 0) rfl ?_
  refine i_231_207 (x := 0) rfl ?_
  refine i_231_209 (fun _ => ?_) (fun h => absurd h (by decide))
  refine i_231_221 ?_
  refine i_231_222 (c := 0) (by decide) ?_
  refine i_231_223 (lv2 := [(10, Value.int 0), (16, Value.int 0), (15, Value.int 0), (14, Value.int 0), (9, Value.int 1), (13, Value.int a20), (12, Value.int a19), (11, Value.int 7), (6, Value.int (-128)), (8, Value.int 0), (7, Value.int 0), (0, Value.ref 128), (1, Value.int a0), (2, Value.int a1), (3, Value.int a2), (4, Value.int a3), (5, Value.int a4)]) rfl ?_
  refine i_231_225 (x := 0) rfl ?_
  refine i_231_227 (x := 0) rfl ?_
  refine i_231_229 (fun _ => ?_) (fun h => absurd h (by decide))
  refine i_231_241 ?_
  refine i_231_242 (c := 0) (by decide) ?_
  refine i_231_243 (lv2 := [(7, Value.int 0), (10, Value.int 0), (16, Value.int 0), (15, Value.int 0), (14, Value.int 0), (9, Value.int 1), (13, Value.int a20), (12, Value.int a19), (11, Value.int 7), (6, Value.int (-128)), (8, Value.int 0), (0, Value.ref 128), (1, Value.int a0), (2, Value.int a1), (3, Value.int a2), (4, Value.int a3), (5, Value.int a4)]) rfl ?_
  refine i_231_245 (x := 0) rfl ?_
  refine i_231_247 (x := 0) rfl ?_
  refine i_231_249 (fun _ => ?_) (fun h => absurd h (by decide))
  refine i_231_261 ?_
  refine i_231_262 (c := 0) (by decide) ?_
  refine i_231_263 (lv2 := [(8, Value.int 0), (7, Value.int 0), (10, Value.int 0), (16, Value.int 0), (15, Value.int 0), (14, Value.int 0), (9, Value.int 1), (13, Value.int a20), (12, Value.int a19), (11, Value.int 7), (6, Value.int (-128)), (0, Value.ref 128), (1, Value.int a0), (2, Value.int a1), (3, Value.int a2), (4, Value.int a3), (5, Value.int a4)]) rfl ?_
  refine i_231_265 (x := 0) rfl ?_
  refine i_231_267 (fun h => absurd h (by decide)) (fun _ => ?_)
  refine i_231_270 (x := 0) rfl ?_
  refine i_231_272 (fun h => absurd h (by decide)) (fun _ => ?_)
  refine i_231_275 (x := (-128)) rfl ?_
  refine i_231_277 (x := 128) rfl ?_
  refine i_231_278 (x := a19) rfl ?_
  refine i_231_280 hw17 (Nat.le_of_ble_eq_true rfl) (p_196_1 hw17 hw20 e80 e81 hw21 hg84) ?_
  refine i_231_283 (x := 128) rfl ?_
  refine i_231_284 (x := a20) rfl ?_
  refine i_231_286 hw17 (Nat.le_of_ble_eq_true rfl) (p_196_1 hw17 hw20 e82 e83 hw21 hg85) ?_
  refine i_231_289 (c := (-128)) (by decide) ?_
  refine i_231_290 (Nat.le_of_ble_eq_true rfl) (p_272_1) ?_
  refine i_231_293 (lv2 := [(6, Value.int (-128)), (8, Value.int 0), (7, Value.int 0), (10, Value.int 0), (16, Value.int 0), (15, Value.int 0), (14, Value.int 0), (9, Value.int 1), (13, Value.int a20), (12, Value.int a19), (11, Value.int 7), (0, Value.ref 128), (1, Value.int a0), (2, Value.int a1), (3, Value.int a2), (4, Value.int a3), (5, Value.int a4)]) rfl ?_
  refine i_231_295 (x := 7) (c := 8) (lv2 := [(11, Value.int 8), (6, Value.int (-128)), (8, Value.int 0), (7, Value.int 0), (10, Value.int 0), (16, Value.int 0), (15, Value.int 0), (14, Value.int 0), (9, Value.int 1), (13, Value.int a20), (12, Value.int a19), (0, Value.ref 128), (1, Value.int a0), (2, Value.int a1), (3, Value.int a2), (4, Value.int a3), (5, Value.int a4)]) rfl (by decide) rfl ?_
  refine i_231_298 ?_
  refine i_231_74 (x := 8) rfl ?_
  refine i_231_76 (x := a3) rfl ?_
  refine i_231_78 (fun h => absurd e86 (Int.not_lt.mpr h)) (fun _ => ?_)
  refine i_231_81 (x := a1) rfl ?_
  refine i_231_82 (x := 8) rfl ?_
  refine i_231_84 (c := a21) hg87 ?_
  refine i_231_85 (lv2 := [(12, Value.int a21), (11, Value.int 8), (6, Value.int (-128)), (8, Value.int 0), (7, Value.int 0), (10, Value.int 0), (16, Value.int 0), (15, Value.int 0), (14, Value.int 0), (9, Value.int 1), (13, Value.int a20), (0, Value.ref 128), (1, Value.int a0), (2, Value.int a1), (3, Value.int a2), (4, Value.int a3), (5, Value.int a4)]) rfl ?_
  refine i_231_87 (x := a2) rfl ?_
  refine i_231_88 (x := 8) rfl ?_
  refine i_231_90 (c := a22) hg88 ?_
  refine i_231_91 (lv2 := [(13, Value.int a22), (12, Value.int a21), (11, Value.int 8), (6, Value.int (-128)), (8, Value.int 0), (7, Value.int 0), (10, Value.int 0), (16, Value.int 0), (15, Value.int 0), (14, Value.int 0), (9, Value.int 1), (0, Value.ref 128), (1, Value.int a0), (2, Value.int a1), (3, Value.int a2), (4, Value.int a3), (5, Value.int a4)]) rfl ?_
  refine i_231_93 (x := 1) rfl ?_
  refine i_231_95 (x := 128) rfl ?_
  refine i_231_96 (v := Value.ref 154) hw17 rfl ?_
  refine i_231_99 (x := a21) rfl ?_
  refine i_231_101 (v := Value.int 0) hw18 e89 e90 rfl ?_
  refine i_231_102 (fun _ => ?_) (fun h => absurd h (by decide))
  refine i_231_115 ?_
  refine i_231_116 ?_
  refine i_231_120 (c := 1) (by decide) ?_
  refine i_231_121 (lv2 := [(9, Value.int 1), (13, Value.int a22), (12, Value.int a21), (11, Value.int 8), (6, Value.int (-128)), (8, Value.int 0), (7, Value.int 0), (10, Value.int 0), (16, Value.int 0), (15, Value.int 0), (14, Value.int 0), (0, Value.ref 128), (1, Value.int a0), (2, Value.int a1), (3, Value.int a2), (4, Value.int a3), (5, Value.int a4)]) rfl ?_
  refine i_231_123 (x := 128) rfl ?_
  refine i_231_124 (v := Value.ref 154) hw17 rfl ?_
  refine i_231_127 (x := a21) rfl ?_
  refine i_231_129 (v := Value.int 0) hw18 e89 e90 rfl ?_
  refine i_231_130 ?_
  refine i_231_131 (fun h => absurd h (by decide)) (fun _ => ?_)
  refine i_231_134 (x := 128) rfl ?_
  refine i_231_135 (v := Value.ref 154) hw17 rfl ?_
  refine i_231_138 (x := a22) rfl ?_
  refine i_231_140 (v := Value.int 0) hw18 e91 e92 rfl ?_
  refine i_231_141 ?_
  refine i_231_142 (fun _ => ?_) (fun h => absurd h (by decide))
  refine i_231_149 ?_
  refine i_231_150 (lv2 := [(14, Value.int 0), (9, Value.int 1), (13, Value.int a22), (12, Value.int a21), (11, Value.int 8), (6, Value.int (-128)), (8, Value.int 0), (7, Value.int 0), (10, Value.int 0), (16, Value.int 0), (15, Value.int 0), (0, Value.ref 128), (1, Value.int a0), (2, Value.int a1), (3, Value.int a2), (4, Value.int a3), (5, Value.int a4)]) rfl ?_
  refine i_231_152 (x := 128) rfl ?_
  refine i_231_153 (v := Value.ref 154) hw17 rfl ?_
  refine i_231_156 (x := a21) rfl ?_
  refine i_231_158 (v := Value.int 0) hw18 e89 e90 rfl ?_
  refine i_231_159 ?_
  refine i_231_160 (fun h => absurd h (by decide)) (fun _ => ?_)
  refine i_231_163 (x := 128) rfl ?_
  refine i_231_164 (v := Value.ref 154) hw17 rfl ?_
  refine i_231_167 (x := a22) rfl ?_
  refine i_231_169 (v := Value.int 0) hw18 e91 e92 rfl ?_
  refine i_231_170 ?_
  refine i_231_171 (fun _ => ?_) (fun h => absurd h (by decide))
  refine i_231_178 ?_
  refine i_231_179 (lv2 := [(15, Value.int 0), (14, Value.int 0), (9, Value.int 1), (13, Value.int a22), (12, Value.int a21), (11, Value.int 8), (6, Value.int (-128)), (8, Value.int 0), (7, Value.int 0), (10, Value.int 0), (16, Value.int 0), (0, Value.ref 128), (1, Value.int a0), (2, Value.int a1), (3, Value.int a2), (4, Value.int a3), (5, Value.int a4)]) rfl ?_
  refine i_231_181 (x := 128) rfl ?_
  refine i_231_182 (v := Value.ref 156) hw17 rfl ?_
  refine i_231_185 (x := a21) rfl ?_
  refine i_231_187z (v := Value.int 0) hw19 e89 e90 rfl ?_
  refine i_231_188 (x := 128) rfl ?_
  refine i_231_189 (v := Value.ref 156) hw17 rfl ?_
  refine i_231_192 (x := a22) rfl ?_
  refine i_231_194z (v := Value.int 0) hw19 e91 e92 rfl ?_
  refine i_231_195 (fun _ => ?_) (fun h => absurd h (by decide))
  refine i_231_202 ?_
  refine i_231_203 (lv2 := [(16, Value.int 0), (15, Value.int 0), (14, Value.int 0), (9, Value.int 1), (13, Value.int a22), (12, Value.int a21), (11, Value.int 8), (6, Value.int (-128)), (8, Value.int 0), (7, Value.int 0), (10, Value.int 0), (0, Value.ref 128), (1, Value.int a0), (2, Value.int a1), (3, Value.int a2), (4, Value.int a3), (5, Value.int a4)]) rfl ?_
  refine i_231_205 (x := 0) rfl ?_
  refine i_231_207 (x := 0) rfl ?_
  refine i_231_209 (fun _ => ?_) (fun h => absurd h (by decide))
  refine i_231_221 ?_
  refine i_231_222 (c := 0) (by decide) ?_
  refine i_231_223 (lv2 := [(10, Value.int 0), (16, Value.int 0), (15, Value.int 0), (14, Value.int 0), (9, Value.int 1), (13, Value.int a22), (12, Value.int a21), (11, Value.int 8), (6, Value.int (-128)), (8, Value.int 0), (7, Value.int 0), (0, Value.ref 128), (1, Value.int a0), (2, Value.int a1), (3, Value.int a2), (4, Value.int a3), (5, Value.int a4)]) rfl ?_
  refine i_231_225 (x := 0) rfl ?_
  refine i_231_227 (x := 0) rfl ?_
  refine i_231_229 (fun _ => ?_) (fun h => absurd h (by decide))
  refine i_231_241 ?_
  refine i_231_242 (c := 0) (by decide) ?_
  refine i_231_243 (lv2 := [(7, Value.int 0), (10, Value.int 0), (16, Value.int 0), (15, Value.int 0), (14, Value.int 0), (9, Value.int 1), (13, Value.int a22), (12, Value.int a21), (11, Value.int 8), (6, Value.int (-128)), (8, Value.int 0), (0, Value.ref 128), (1, Value.int a0), (2, Value.int a1), (3, Value.int a2), (4, Value.int a3), (5, Value.int a4)]) rfl ?_
  refine i_231_245 (x := 0) rfl ?_
  refine i_231_247 (x := 0) rfl ?_
  refine i_231_249 (fun _ => ?_) (fun h => absurd h (by decide))
  refine i_231_261 ?_
  refine i_231_262 (c := 0) (by decide) ?_
  refine i_231_263 (lv2 := [(8, Value.int 0), (7, Value.int 0), (10, Value.int 0), (16, Value.int 0), (15, Value.int 0), (14, Value.int 0), (9, Value.int 1), (13, Value.int a22), (12, Value.int a21), (11, Value.int 8), (6, Value.int (-128)), (0, Value.ref 128), (1, Value.int a0), (2, Value.int a1), (3, Value.int a2), (4, Value.int a3), (5, Value.int a4)]) rfl ?_
  refine i_231_265 (x := 0) rfl ?_
  refine i_231_267 (fun h => absurd h (by decide)) (fun _ => ?_)
  refine i_231_270 (x := 0) rfl ?_
  refine i_231_272 (fun h => absurd h (by decide)) (fun _ => ?_)
  refine i_231_275 (x := (-128)) rfl ?_
  refine i_231_277 (x := 128) rfl ?_
  refine i_231_278 (x := a21) rfl ?_
  refine i_231_280 hw17 (Nat.le_of_ble_eq_true rfl) (p_196_1 hw17 hw20 e89 e90 hw21 hg93) ?_
  refine i_231_283 (x := 128) rfl ?_
  refine i_231_284 (x := a22) rfl ?_
  refine i_231_286 hw17 (Nat.le_of_ble_eq_true rfl) (p_196_1 hw17 hw20 e91 e92 hw21 hg94) ?_
  refine i_231_289 (c := (-128)) (by decide) ?_
  refine i_231_290 (Nat.le_of_ble_eq_true rfl) (p_272_1) ?_
  refine i_231_293 (lv2 := [(6, Value.int (-128)), (8, Value.int 0), (7, Value.int 0), (10, Value.int 0), (16, Value.int 0), (15, Value.int 0), (14, Value.int 0), (9, Value.int 1), (13, Value.int a22), (12, Value.int a21), (11, Value.int 8), (0, Value.ref 128), (1, Value.int a0), (2, Value.int a1), (3, Value.int a2), (4, Value.int a3), (5, Value.int a4)]) rfl ?_
  refine i_231_295 (x := 8) (c := 9) (lv2 := [(11, Value.int 9), (6, Value.int (-128)), (8, Value.int 0), (7, Value.int 0), (10, Value.int 0), (16, Value.int 0), (15, Value.int 0), (14, Value.int 0), (9, Value.int 1), (13, Value.int a22), (12, Value.int a21), (0, Value.ref 128), (1, Value.int a0), (2, Value.int a1), (3, Value.int a2), (4, Value.int a3), (5, Value.int a4)]) rfl (by decide) rfl ?_
  refine i_231_298 ?_
  refine i_231_74 (x := 9) rfl ?_
  refine i_231_76 (x := a3) rfl ?_
  refine i_231_78 (fun h => absurd e95 (Int.not_lt.mpr h)) (fun _ => ?_)
  refine i_231_81 (x := a1) rfl ?_
  refine i_231_82 (x := 9) rfl ?_
  refine i_231_84 (c := a23) hg96 ?_
  refine i_231_85 (lv2 := [(12, Value.int a23), (11, Value.int 9), (6, Value.int (-128)), (8, Value.int 0), (7, Value.int 0), (10, Value.int 0), (16, Value.int 0), (15, Value.int 0), (14, Value.int 0), (9, Value.int 1), (13, Value.int a22), (0, Value.ref 128), (1, Value.int a0), (2, Value.int a1), (3, Value.int a2), (4, Value.int a3), (5, Value.int a4)]) rfl ?_
  refine i_231_87 (x := a2) rfl ?_
  refine i_231_88 (x := 9) rfl ?_
  refine i_231_90 (c := a24) hg97 ?_
  refine i_231_91 (lv2 := [(13, Value.int a24), (12, Value.int a23), (11, Value.int 9), (6, Value.int (-128)), (8, Value.int 0), (7, Value.int 0), (10, Value.int 0), (16, Value.int 0), (15, Value.int 0), (14, Value.int 0), (9, Value.int 1), (0, Value.ref 128), (1, Value.int a0), (2, Value.int a1), (3, Value.int a2), (4, Value.int a3), (5, Value.int a4)]) rfl ?_
  refine i_231_93 (x := 1) rfl ?_
  refine i_231_95 (x := 128) rfl ?_
  refine i_231_96 (v := Value.ref 154) hw17 rfl ?_
  refine i_231_99 (x := a23) rfl ?_
  refine i_231_101 (v := Value.int 0) hw18 e98 e99 rfl ?_
  refine i_231_102 (fun _ => ?_) (fun h => absurd h (by decide))
  refine i_231_115 ?_
  refine i_231_116 ?_
  refine i_231_120 (c := 1) (by decide) ?_
  refine i_231_121 (lv2 := [(9, Value.int 1), (13, Value.int a24), (12, Value.int a23), (11, Value.int 9), (6, Value.int (-128)), (8, Value.int 0), (7, Value.int 0), (10, Value.int 0), (16, Value.int 0), (15, Value.int 0), (14, Value.int 0), (0, Value.ref 128), (1, Value.int a0), (2, Value.int a1), (3, Value.int a2), (4, Value.int a3), (5, Value.int a4)]) rfl ?_
  refine i_231_123 (x := 128) rfl ?_
  refine i_231_124 (v := Value.ref 154) hw17 rfl ?_
  refine i_231_127 (x := a23) rfl ?_
  refine i_231_129 (v := Value.int 0) hw18 e98 e99 rfl ?_
  refine i_231_130 ?_
  refine i_231_131 (fun h => absurd h (by decide)) (fun _ => ?_)
  refine i_231_134 (x := 128) rfl ?_
  refine i_231_135 (v := Value.ref 154) hw17 rfl ?_
  refine i_231_138 (x := a24) rfl ?_
  refine i_231_140 (v := Value.int 0) hw18 e100 e101 rfl ?_
  refine i_231_141 ?_
  refine i_231_142 (fun _ => ?_) (fun h => absurd h (by decide))
  refine i_231_149 ?_
  refine i_231_150 (lv2 := [(14, Value.int 0), (9, Value.int 1), (13, Value.int a24), (12, Value.int a23), (11, Value.int 9), (6, Value.int (-128)), (8, Value.int 0), (7, Value.int 0), (10, Value.int 0), (16, Value.int 0), (15, Value.int 0), (0, Value.ref 128), (1, Value.int a0), (2, Value.int a1), (3, Value.int a2), (4, Value.int a3), (5, Value.int a4)]) rfl ?_
  refine i_231_152 (x := 128) rfl ?_
  refine i_231_153 (v := Value.ref 154) hw17 rfl ?_
  refine i_231_156 (x := a23) rfl ?_
  refine i_231_158 (v := Value.int 0) hw18 e98 e99 rfl ?_
  refine i_231_159 ?_
  refine i_231_160 (fun h => absurd h (by decide)) (fun _ => ?_)
  refine i_231_163 (x := 128) rfl ?_
  refine i_231_164 (v := Value.ref 154) hw17 rfl ?_
  refine i_231_167 (x := a24) rfl ?_
  refine i_231_169 (v := Value.int 0) hw18 e100 e101 rfl ?_
  refine i_231_170 ?_
  refine i_231_171 (fun _ => ?_) (fun h => absurd h (by decide))
  refine i_231_178 ?_
  refine i_231_179 (lv2 := [(15, Value.int 0), (14, Value.int 0), (9, Value.int 1), (13, Value.int a24), (12, Value.int a23), (11, Value.int 9), (6, Value.int (-128)), (8, Value.int 0), (7, Value.int 0), (10, Value.int 0), (16, Value.int 0), (0, Value.ref 128), (1, Value.int a0), (2, Value.int a1), (3, Value.int a2), (4, Value.int a3), (5, Value.int a4)]) rfl ?_
  refine i_231_181 (x := 128) rfl ?_
  refine i_231_182 (v := Value.ref 156) hw17 rfl ?_
  refine i_231_185 (x := a23) rfl ?_
  refine i_231_187z (v := Value.int 0) hw19 e98 e99 rfl ?_
  refine i_231_188 (x := 128) rfl ?_
  refine i_231_189 (v := Value.ref 156) hw17 rfl ?_
  refine i_231_192 (x := a24) rfl ?_
  refine i_231_194z (v := Value.int 0) hw19 e100 e101 rfl ?_
  refine i_231_195 (fun _ => ?_) (fun h => absurd h (by decide))
  refine i_231_202 ?_
  refine i_231_203 (lv2 := [(16, Value.int 0), (15, Value.int 0), (14, Value.int 0), (9, Value.int 1), (13, Value.int a24), (12, Value.int a23), (11, Value.int 9), (6, Value.int (-128)), (8, Value.int 0), (7, Value.int 0), (10, Value.int 0), (0, Value.ref 128), (1, Value.int a0), (2, Value.int a1), (3, Value.int a2), (4, Value.int a3), (5, Value.int a4)]) rfl ?_
  refine i_231_205 (x := 0) rfl ?_
  refine i_231_207 (x := 0) rfl ?_
  refine i_231_209 (fun _ => ?_) (fun h => absurd h (by decide))
  refine i_231_221 ?_
  refine i_231_222 (c := 0) (by decide) ?_
  refine i_231_223 (lv2 := [(10, Value.int 0), (16, Value.int 0), (15, Value.int 0), (14, Value.int 0), (9, Value.int 1), (13, Value.int a24), (12, Value.int a23), (11, Value.int 9), (6, Value.int (-128)), (8, Value.int 0), (7, Value.int 0), (0, Value.ref 128), (1, Value.int a0), (2, Value.int a1), (3, Value.int a2), (4, Value.int a3), (5, Value.int a4)]) rfl ?_
  refine i_231_225 (x := 0) rfl ?_
  refine i_231_227 (x := 0) rfl ?_
  refine i_231_229 (fun _ => ?_) (fun h => absurd h (by decide))
  refine i_231_241 ?_
  refine i_231_242 (c := 0) (by decide) ?_
  refine i_231_243 (lv2 := [(7, Value.int 0), (10, Value.int 0), (16, Value.int 0), (15, Value.int 0), (14, Value.int 0), (9, Value.int 1), (13, Value.int a24), (12, Value.int a23), (11, Value.int 9), (6, Value.int (-128)), (8, Value.int 0), (0, Value.ref 128), (1, Value.int a0), (2, Value.int a1), (3, Value.int a2), (4, Value.int a3), (5, Value.int a4)]) rfl ?_
  refine i_231_245 (x := 0) rfl ?_
  refine i_231_247 (x := 0) rfl ?_
  refine i_231_249 (fun _ => ?_) (fun h => absurd h (by decide))
  refine i_231_261 ?_
  refine i_231_262 (c := 0) (by decide) ?_
  refine i_231_263 (lv2 := [(8, Value.int 0), (7, Value.int 0), (10, Value.int 0), (16, Value.int 0), (15, Value.int 0), (14, Value.int 0), (9, Value.int 1), (13, Value.int a24), (12, Value.int a23), (11, Value.int 9), (6, Value.int (-128)), (0, Value.ref 128), (1, Value.int a0), (2, Value.int a1), (3, Value.int a2), (4, Value.int a3), (5, Value.int a4)]) rfl ?_
  refine i_231_265 (x := 0) rfl ?_
  refine i_231_267 (fun h => absurd h (by decide)) (fun _ => ?_)
  refine i_231_270 (x := 0) rfl ?_
  refine i_231_272 (fun h => absurd h (by decide)) (fun _ => ?_)
  refine i_231_275 (x := (-128)) rfl ?_
  refine i_231_277 (x := 128) rfl ?_
  refine i_231_278 (x := a23) rfl ?_
  refine i_231_280 hw17 (Nat.le_of_ble_eq_true rfl) (p_196_1 hw17 hw20 e98 e99 hw21 hg102) ?_
  refine i_231_283 (x := 128) rfl ?_
  refine i_231_284 (x := a24) rfl ?_
  refine i_231_286 hw17 (Nat.le_of_ble_eq_true rfl) (p_196_1 hw17 hw20 e100 e101 hw21 hg103) ?_
  refine i_231_289 (c := (-128)) (by decide) ?_
  refine i_231_290 (Nat.le_of_ble_eq_true rfl) (p_272_1) ?_
  refine i_231_293 (lv2 := [(6, Value.int (-128)), (8, Value.int 0), (7, Value.int 0), (10, Value.int 0), (16, Value.int 0), (15, Value.int 0), (14, Value.int 0), (9, Value.int 1), (13, Value.int a24), (12, Value.int a23), (11, Value.int 9), (0, Value.ref 128), (1, Value.int a0), (2, Value.int a1), (3, Value.int a2), (4, Value.int a3), (5, Value.int a4)]) rfl ?_
  refine i_231_295 (x := 9) (c := 10) (lv2 := [(11, Value.int 10), (6, Value.int (-128)), (8, Value.int 0), (7, Value.int 0), (10, Value.int 0), (16, Value.int 0), (15, Value.int 0), (14, Value.int 0), (9, Value.int 1), (13, Value.int a24), (12, Value.int a23), (0, Value.ref 128), (1, Value.int a0), (2, Value.int a1), (3, Value.int a2), (4, Value.int a3), (5, Value.int a4)]) rfl (by decide) rfl ?_
  refine i_231_298 ?_
  refine i_231_74 (x := 10) rfl ?_
  refine i_231_76 (x := a3) rfl ?_
  refine i_231_78 (fun h => absurd e104 (Int.not_lt.mpr h)) (fun _ => ?_)
  refine i_231_81 (x := a1) rfl ?_
  refine i_231_82 (x := 10) rfl ?_
  refine i_231_84 (c := a25) hg105 ?_
  refine i_231_85 (lv2 := [(12, Value.int a25), (11, Value.int 10), (6, Value.int (-128)), (8, Value.int 0), (7, Value.int 0), (10, Value.int 0), (16, Value.int 0), (15, Value.int 0), (14, Value.int 0), (9, Value.int 1), (13, Value.int a24), (0, Value.ref 128), (1, Value.int a0), (2, Value.int a1), (3, Value.int a2), (4, Value.int a3), (5, Value.int a4)]) rfl ?_
  refine i_231_87 (x := a2) rfl ?_
  refine i_231_88 (x := 10) rfl ?_
  refine i_231_90 (c := a26) hg106 ?_
  refine i_231_91 (lv2 := [(13, Value.int a26), (12, Value.int a25), (11, Value.int 10), (6, Value.int (-128)), (8, Value.int 0), (7, Value.int 0), (10, Value.int 0), (16, Value.int 0), (15, Value.int 0), (14, Value.int 0), (9, Value.int 1), (0, Value.ref 128), (1, Value.int a0), (2, Value.int a1), (3, Value.int a2), (4, Value.int a3), (5, Value.int a4)]) rfl ?_
  refine i_231_93 (x := 1) rfl ?_
  refine i_231_95 (x := 128) rfl ?_
  refine i_231_96 (v := Value.ref 154) hw17 rfl ?_
  refine i_231_99 (x := a25) rfl ?_
  refine i_231_101 (v := Value.int 0) hw18 e107 e108 rfl ?_
  refine i_231_102 (fun _ => ?_) (fun h => absurd h (by decide))
  refine i_231_115 ?_
  refine i_231_116 ?_
  refine i_231_120 (c := 1) (by decide) ?_
  refine i_231_121 (lv2 := [(9, Value.int 1), (13, Value.int a26), (12, Value.int a25), (11, Value.int 10), (6, Value.int (-128)), (8, Value.int 0), (7, Value.int 0), (10, Value.int 0), (16, Value.int 0), (15, Value.int 0), (14, Value.int 0), (0, Value.ref 128), (1, Value.int a0), (2, Value.int a1), (3, Value.int a2), (4, Value.int a3), (5, Value.int a4)]) rfl ?_
  refine i_231_123 (x := 128) rfl ?_
  refine i_231_124 (v := Value.ref 154) hw17 rfl ?_
  refine i_231_127 (x := a25) rfl ?_
  refine i_231_129 (v := Value.int 0) hw18 e107 e108 rfl ?_
  refine i_231_130 ?_
  refine i_231_131 (fun h => absurd h (by decide)) (fun _ => ?_)
  refine i_231_134 (x := 128) rfl ?_
  refine i_231_135 (v := Value.ref 154) hw17 rfl ?_
  refine i_231_138 (x := a26) rfl ?_
  refine i_231_140 (v := Value.int 0) hw18 e109 e110 rfl ?_
  refine i_231_141 ?_
  refine i_231_142 (fun _ => ?_) (fun h => absurd h (by decide))
  refine i_231_149 ?_
  refine i_231_150 (lv2 := [(14, Value.int 0), (9, Value.int 1), (13, Value.int a26), (12, Value.int a25), (11, Value.int 10), (6, Value.int (-128)), (8, Value.int 0), (7, Value.int 0), (10, Value.int 0), (16, Value.int 0), (15, Value.int 0), (0, Value.ref 128), (1, Value.int a0), (2, Value.int a1), (3, Value.int a2), (4, Value.int a3), (5, Value.int a4)]) rfl ?_
  refine i_231_152 (x := 128) rfl ?_
  refine i_231_153 (v := Value.ref 154) hw17 rfl ?_
  refine i_231_156 (x := a25) rfl ?_
  refine i_231_158 (v := Value.int 0) hw18 e107 e108 rfl ?_
  refine i_231_159 ?_
  refine i_231_160 (fun h => absurd h (by decide)) (fun _ => ?_)
  refine i_231_163 (x := 128) rfl ?_
  refine i_231_164 (v := Value.ref 154) hw17 rfl ?_
  refine i_231_167 (x := a26) rfl ?_
  refine i_231_169 (v := Value.int 0) hw18 e109 e110 rfl ?_
  refine i_231_170 ?_
  refine i_231_171 (fun _ => ?_) (fun h => absurd h (by decide))
  refine i_231_178 ?_
  refine i_231_179 (lv2 := [(15, Value.int 0), (14, Value.int 0), (9, Value.int 1), (13, Value.int a26), (12, Value.int a25), (11, Value.int 10), (6, Value.int (-128)), (8, Value.int 0), (7, Value.int 0), (10, Value.int 0), (16, Value.int 0), (0, Value.ref 128), (1, Value.int a0), (2, Value.int a1), (3, Value.int a2), (4, Value.int a3), (5, Value.int a4)]) rfl ?_
  refine i_231_181 (x := 128) rfl ?_
  refine i_231_182 (v := Value.ref 156) hw17 rfl ?_
  refine i_231_185 (x := a25) rfl ?_
  refine i_231_187z (v := Value.int 0) hw19 e107 e108 rfl ?_
  refine i_231_188 (x := 128) rfl ?_
  refine i_231_189 (v := Value.ref 156) hw17 rfl ?_
  refine i_231_192 (x := a26) rfl ?_
  refine i_231_194z (v := Value.int 0) hw19 e109 e110 rfl ?_
  refine i_231_195 (fun _ => ?_) (fun h => absurd h (by decide))
  refine i_231_202 ?_
  refine i_231_203 (lv2 := [(16, Value.int 0), (15, Value.int 0), (14, Value.int 0), (9, Value.int 1), (13, Value.int a26), (12, Value.int a25), (11, Value.int 10), (6, Value.int (-128)), (8, Value.int 0), (7, Value.int 0), (10, Value.int 0), (0, Value.ref 128), (1, Value.int a0), (2, Value.int a1), (3, Value.int a2), (4, Value.int a3), (5, Value.int a4)]) rfl ?_
  refine i_231_205 (x := 0) rfl ?_
  refine i_231_207 (x := 0) rfl ?_
  refine i_231_209 (fun _ => ?_) (fun h => absurd h (by decide))
  refine i_231_221 ?_
  refine i_231_222 (c := 0) (by decide) ?_
  refine i_231_223 (lv2 := [(10, Value.int 0), (16, Value.int 0), (15, Value.int 0), (14, Value.int 0), (9, Value.int 1), (13, Value.int a26), (12, Value.int a25), (11, Value.int 10), (6, Value.int (-128)), (8, Value.int 0), (7, Value.int 0), (0, Value.ref 128), (1, Value.int a0), (2, Value.int a1), (3, Value.int a2), (4, Value.int a3), (5, Value.int a4)]) rfl ?_
  refine i_231_225 (x := 0) rfl ?_
  refine i_231_227 (x := 0) rfl ?_
  refine i_231_229 (fun _ => ?_) (fun h => absurd h (by decide))
  refine i_231_241 ?_
  refine i_231_242 (c := 0) (by decide) ?_
  refine i_231_243 (lv2 := [(7, Value.int 0), (10, Value.int 0), (16, Value.int 0), (15, Value.int 0), (14, Value.int 0), (9, Value.int 1), (13, Value.int a26), (12, Value.int a25), (11, Value.int 10), (6, Value.int (-128)), (8, Value.int 0), (0, Value.ref 128), (1, Value.int a0), (2, Value.int a1), (3, Value.int a2), (4, Value.int a3), (5, Value.int a4)]) rfl ?_
  refine i_231_245 (x := 0) rfl ?_
  refine i_231_247 (x := 0) rfl ?_
  refine i_231_249 (fun _ => ?_) (fun h => absurd h (by decide))
  refine i_231_261 ?_
  refine i_231_262 (c := 0) (by decide) ?_
  refine i_231_263 (lv2 := [(8, Value.int 0), (7, Value.int 0), (10, Value.int 0), (16, Value.int 0), (15, Value.int 0), (14, Value.int 0), (9, Value.int 1), (13, Value.int a26), (12, Value.int a25), (11, Value.int 10), (6, Value.int (-128)), (0, Value.ref 128), (1, Value.int a0), (2, Value.int a1), (3, Value.int a2), (4, Value.int a3), (5, Value.int a4)]) rfl ?_
  refine i_231_265 (x := 0) rfl ?_
  refine i_231_267 (fun h => absurd h (by decide)) (fun _ => ?_)
  refine i_231_270 (x := 0) rfl ?_
  refine i_231_272 (fun h => absurd h (by decide)) (fun _ => ?_)
  refine i_231_275 (x := (-128)) rfl ?_
  refine i_231_277 (x := 128) rfl ?_
  refine i_231_278 (x := a25) rfl ?_
  refine i_231_280 hw17 (Nat.le_of_ble_eq_true rfl) (p_196_1 hw17 hw20 e107 e108 hw21 hg111) ?_
  refine i_231_283 (x := 128) rfl ?_
  refine i_231_284 (x := a26) rfl ?_
  refine i_231_286 hw17 (Nat.le_of_ble_eq_true rfl) (p_196_1 hw17 hw20 e109 e110 hw21 hg112) ?_
  refine i_231_289 (c := (-128)) (by decide) ?_
  refine i_231_290 (Nat.le_of_ble_eq_true rfl) (p_272_1) ?_
  refine i_231_293 (lv2 := [(6, Value.int (-128)), (8, Value.int 0), (7, Value.int 0), (10, Value.int 0), (16, Value.int 0), (15, Value.int 0), (14, Value.int 0), (9, Value.int 1), (13, Value.int a26), (12, Value.int a25), (11, Value.int 10), (0, Value.ref 128), (1, Value.int a0), (2, Value.int a1), (3, Value.int a2), (4, Value.int a3), (5, Value.int a4)]) rfl ?_
  refine i_231_295 (x := 10) (c := 11) (lv2 := [(11, Value.int 11), (6, Value.int (-128)), (8, Value.int 0), (7, Value.int 0), (10, Value.int 0), (16, Value.int 0), (15, Value.int 0), (14, Value.int 0), (9, Value.int 1), (13, Value.int a26), (12, Value.int a25), (0, Value.ref 128), (1, Value.int a0), (2, Value.int a1), (3, Value.int a2), (4, Value.int a3), (5, Value.int a4)]) rfl (by decide) rfl ?_
  refine i_231_298 ?_
  refine i_231_74 (x := 11) rfl ?_
  refine i_231_76 (x := a3) rfl ?_
  refine i_231_78 (fun h => absurd e113 (Int.not_lt.mpr h)) (fun _ => ?_)
  refine i_231_81 (x := a1) rfl ?_
  refine i_231_82 (x := 11) rfl ?_
  refine i_231_84 (c := a27) hg114 ?_
  refine i_231_85 (lv2 := [(12, Value.int a27), (11, Value.int 11), (6, Value.int (-128)), (8, Value.int 0), (7, Value.int 0), (10, Value.int 0), (16, Value.int 0), (15, Value.int 0), (14, Value.int 0), (9, Value.int 1), (13, Value.int a26), (0, Value.ref 128), (1, Value.int a0), (2, Value.int a1), (3, Value.int a2), (4, Value.int a3), (5, Value.int a4)]) rfl ?_
  refine i_231_87 (x := a2) rfl ?_
  refine i_231_88 (x := 11) rfl ?_
  refine i_231_90 (c := a28) hg115 ?_
  refine i_231_91 (lv2 := [(13, Value.int a28), (12, Value.int a27), (11, Value.int 11), (6, Value.int (-128)), (8, Value.int 0), (7, Value.int 0), (10, Value.int 0), (16, Value.int 0), (15, Value.int 0), (14, Value.int 0), (9, Value.int 1), (0, Value.ref 128), (1, Value.int a0), (2, Value.int a1), (3, Value.int a2), (4, Value.int a3), (5, Value.int a4)]) rfl ?_
  refine i_231_93 (x := 1) rfl ?_
  refine i_231_95 (x := 128) rfl ?_
  refine i_231_96 (v := Value.ref 154) hw17 rfl ?_
  refine i_231_99 (x := a27) rfl ?_
  refine i_231_101 (v := Value.int 0) hw18 e116 e117 rfl ?_
  refine i_231_102 (fun _ => ?_) (fun h => absurd h (by decide))
  refine i_231_115 ?_
  refine i_231_116 ?_
  refine i_231_120 (c := 1) (by decide) ?_
  refine i_231_121 (lv2 := [(9, Value.int 1), (13, Value.int a28), (12, Value.int a27), (11, Value.int 11), (6, Value.int (-128)), (8, Value.int 0), (7, Value.int 0), (10, Value.int 0), (16, Value.int 0), (15, Value.int 0), (14, Value.int 0), (0, Value.ref 128), (1, Value.int a0), (2, Value.int a1), (3, Value.int a2), (4, Value.int a3), (5, Value.int a4)]) rfl ?_
  refine i_231_123 (x := 128) rfl ?_
  refine i_231_124 (v := Value.ref 154) hw17 rfl ?_
  refine i_231_127 (x := a27) rfl ?_
  refine i_231_129 (v := Value.int 0) hw18 e116 e117 rfl ?_
  refine i_231_130 ?_
  refine i_231_131 (fun h => absurd h (by decide)) (fun _ => ?_)
  refine i_231_134 (x := 128) rfl ?_
  refine i_231_135 (v := Value.ref 154) hw17 rfl ?_
  refine i_231_138 (x := a28) rfl ?_
  refine i_231_140 (v := Value.int 0) hw18 e118 e119 rfl ?_
  refine i_231_141 ?_
  refine i_231_142 (fun _ => ?_) (fun h => absurd h (by decide))
  refine i_231_149 ?_
  refine i_231_150 (lv2 := [(14, Value.int 0), (9, Value.int 1), (13, Value.int a28), (12, Value.int a27), (11, Value.int 11), (6, Value.int (-128)), (8, Value.int 0), (7, Value.int 0), (10, Value.int 0), (16, Value.int 0), (15, Value.int 0), (0, Value.ref 128), (1, Value.int a0), (2, Value.int a1), (3, Value.int a2), (4, Value.int a3), (5, Value.int a4)]) rfl ?_
  refine i_231_152 (x := 128) rfl ?_
  refine i_231_153 (v := Value.ref 154) hw17 rfl ?_
  refine i_231_156 (x := a27) rfl ?_
  refine i_231_158 (v := Value.int 0) hw18 e116 e117 rfl ?_
  refine i_231_159 ?_
  refine i_231_160 (fun h => absurd h (by decide)) (fun _ => ?_)
  refine i_231_163 (x := 128) rfl ?_
  refine i_231_164 (v := Value.ref 154) hw17 rfl ?_
  refine i_231_167 (x := a28) rfl ?_
  refine i_231_169 (v := Value.int 0) hw18 e118 e119 rfl ?_
  refine i_231_170 ?_
  refine i_231_171 (fun _ => ?_) (fun h => absurd h (by decide))
  refine i_231_178 ?_
  refine i_231_179 (lv2 := [(15, Value.int 0), (14, Value.int 0), (9, Value.int 1), (13, Value.int a28), (12, Value.int a27), (11, Value.int 11), (6, Value.int (-128)), (8, Value.int 0), (7, Value.int 0), (10, Value.int 0), (16, Value.int 0), (0, Value.ref 128), (1, Value.int a0), (2, Value.int a1), (3, Value.int a2), (4, Value.int a3), (5, Value.int a4)]) rfl ?_
  refine i_231_181 (x := 128) rfl ?_
  refine i_231_182 (v := Value.ref 156) hw17 rfl ?_
  refine i_231_185 (x := a27) rfl ?_
  refine i_231_187z (v := Value.int 0) hw19 e116 e117 rfl ?_
  refine i_231_188 (x := 128) rfl ?_
  refine i_231_189 (v := Value.ref 156) hw17 rfl ?_
  refine i_231_192 (x := a28) rfl ?_
  refine i_231_194z (v := Value.int 0) hw19 e118 e119 rfl ?_
  refine i_231_195 (fun _ => ?_) (fun h => absurd h (by decide))
  refine i_231_202 ?_
  refine i_231_203 (lv2 := [(16, Value.int 0), (15, Value.int 0), (14, Value.int 0), (9, Value.int 1), (13, Value.int a28), (12, Value.int a27), (11, Value.int 11), (6, Value.int (-128)), (8, Value.int 0), (7, Value.int 0), (10, Value.int 0), (0, Value.ref 128), (1, Value.int a0), (2, Value.int a1), (3, Value.int a2), (4, Value.int a3), (5, Value.int a4)]) rfl ?_
  refine i_231_205 (x := 0) rfl ?_
  refine i_231_207 (x := 0) rfl ?_
  refine i_231_209 (fun _ => ?_) (fun h => absurd h (by decide))
  refine i_231_221 ?_
  refine i_231_222 (c := 0) (by decide) ?_
  refine i_231_223 (lv2 := [(10, Value.int 0), (16, Value.int 0), (15, Value.int 0), (14, Value.int 0), (9, Value.int 1), (13, Value.int a28), (12, Value.int a27), (11, Value.int 11), (6, Value.int (-128)), (8, Value.int 0), (7, Value.int 0), (0, Value.ref 128), (1, Value.int a0), (2, Value.int a1), (3, Value.int a2), (4, Value.int a3), (5, Value.int a4)]) rfl ?_
  refine i_231_225 (x := 0) rfl ?_
  refine i_231_227 (x := 0) rfl ?_
  refine i_231_229 (fun _ => ?_) (fun h => absurd h (by decide))
  refine i_231_241 ?_
  refine i_231_242 (c := 0) (by decide) ?_
  refine i_231_243 (lv2 := [(7, Value.int 0), (10, Value.int 0), (16, Value.int 0), (15, Value.int 0), (14, Value.int 0), (9, Value.int 1), (13, Value.int a28), (12, Value.int a27), (11, Value.int 11), (6, Value.int (-128)), (8, Value.int 0), (0, Value.ref 128), (1, Value.int a0), (2, Value.int a1), (3, Value.int a2), (4, Value.int a3), (5, Value.int a4)]) rfl ?_
  refine i_231_245 (x := 0) rfl ?_
  refine i_231_247 (x := 0) rfl ?_
  refine i_231_249 (fun _ => ?_) (fun h => absurd h (by decide))
  refine i_231_261 ?_
  refine i_231_262 (c := 0) (by decide) ?_
  refine i_231_263 (lv2 := [(8, Value.int 0), (7, Value.int 0), (10, Value.int 0), (16, Value.int 0), (15, Value.int 0), (14, Value.int 0), (9, Value.int 1), (13, Value.int a28), (12, Value.int a27), (11, Value.int 11), (6, Value.int (-128)), (0, Value.ref 128), (1, Value.int a0), (2, Value.int a1), (3, Value.int a2), (4, Value.int a3), (5, Value.int a4)]) rfl ?_
  refine i_231_265 (x := 0) rfl ?_
  refine i_231_267 (fun h => absurd h (by decide)) (fun _ => ?_)
  refine i_231_270 (x := 0) rfl ?_
  refine i_231_272 (fun h => absurd h (by decide)) (fun _ => ?_)
  refine i_231_275 (x := (-128)) rfl ?_
  refine i_231_277 (x := 128) rfl ?_
  refine i_231_278 (x := a27) rfl ?_
  refine i_231_280 hw17 (Nat.le_of_ble_eq_true rfl) (p_196_1 hw17 hw20 e116 e117 hw21 hg120) ?_
  refine i_231_283 (x := 128) rfl ?_
  refine i_231_284 (x := a28) rfl ?_
  refine i_231_286 hw17 (Nat.le_of_ble_eq_true rfl) (p_196_1 hw17 hw20 e118 e119 hw21 hg121) ?_
  refine i_231_289 (c := (-128)) (by decide) ?_
  refine i_231_290 (Nat.le_of_ble_eq_true rfl) (p_272_1) ?_
  refine i_231_293 (lv2 := [(6, Value.int (-128)), (8, Value.int 0), (7, Value.int 0), (10, Value.int 0), (16, Value.int 0), (15, Value.int 0), (14, Value.int 0), (9, Value.int 1), (13, Value.int a28), (12, Value.int a27), (11, Value.int 11), (0, Value.ref 128), (1, Value.int a0), (2, Value.int a1), (3, Value.int a2), (4, Value.int a3), (5, Value.int a4)]) rfl ?_
  refine i_231_295 (x := 11) (c := 12) (lv2 := [(11, Value.int 12), (6, Value.int (-128)), (8, Value.int 0), (7, Value.int 0), (10, Value.int 0), (16, Value.int 0), (15, Value.int 0), (14, Value.int 0), (9, Value.int 1), (13, Value.int a28), (12, Value.int a27), (0, Value.ref 128), (1, Value.int a0), (2, Value.int a1), (3, Value.int a2), (4, Value.int a3), (5, Value.int a4)]) rfl (by decide) rfl ?_
  refine i_231_298 ?_
  refine i_231_74 (x := 12) rfl ?_
  refine i_231_76 (x := a3) rfl ?_
  refine i_231_78 (fun h => absurd e122 (Int.not_lt.mpr h)) (fun _ => ?_)
  refine i_231_81 (x := a1) rfl ?_
  refine i_231_82 (x := 12) rfl ?_
  refine i_231_84 (c := a29) hg123 ?_
  refine i_231_85 (lv2 := [(12, Value.int a29), (11, Value.int 12), (6, Value.int (-128)), (8, Value.int 0), (7, Value.int 0), (10, Value.int 0), (16, Value.int 0), (15, Value.int 0), (14, Value.int 0), (9, Value.int 1), (13, Value.int a28), (0, Value.ref 128), (1, Value.int a0), (2, Value.int a1), (3, Value.int a2), (4, Value.int a3), (5, Value.int a4)]) rfl ?_
  refine i_231_87 (x := a2) rfl ?_
  refine i_231_88 (x := 12) rfl ?_
  refine i_231_90 (c := a30) hg124 ?_
  refine i_231_91 (lv2 := [(13, Value.int a30), (12, Value.int a29), (11, Value.int 12), (6, Value.int (-128)), (8, Value.int 0), (7, Value.int 0), (10, Value.int 0), (16, Value.int 0), (15, Value.int 0), (14, Value.int 0), (9, Value.int 1), (0, Value.ref 128), (1, Value.int a0), (2, Value.int a1), (3, Value.int a2), (4, Value.int a3), (5, Value.int a4)]) rfl ?_
  refine i_231_93 (x := 1) rfl ?_
  refine i_231_95 (x := 128) rfl ?_
  refine i_231_96 (v := Value.ref 154) hw17 rfl ?_
  refine i_231_99 (x := a29) rfl ?_
  refine i_231_101 (v := Value.int 0) hw18 e125 e126 rfl ?_
  refine i_231_102 (fun _ => ?_) (fun h => absurd h (by decide))
  refine i_231_115 ?_
  refine i_231_116 ?_
  refine i_231_120 (c := 1) (by decide) ?_
  refine i_231_121 (lv2 := [(9, Value.int 1), (13, Value.int a30), (12, Value.int a29), (11, Value.int 12), (6, Value.int (-128)), (8, Value.int 0), (7, Value.int 0), (10, Value.int 0), (16, Value.int 0), (15, Value.int 0), (14, Value.int 0), (0, Value.ref 128), (1, Value.int a0), (2, Value.int a1), (3, Value.int a2), (4, Value.int a3), (5, Value.int a4)]) rfl ?_
  refine i_231_123 (x := 128) rfl ?_
  refine i_231_124 (v := Value.ref 154) hw17 rfl ?_
  refine i_231_127 (x := a29) rfl ?_
  refine i_231_129 (v := Value.int 0) hw18 e125 e126 rfl ?_
  refine i_231_130 ?_
  refine i_231_131 (fun h => absurd h (by decide)) (fun _ => ?_)
  refine i_231_134 (x := 128) rfl ?_
  refine i_231_135 (v := Value.ref 154) hw17 rfl ?_
  refine i_231_138 (x := a30) rfl ?_
  refine i_231_140 (v := Value.int 0) hw18 e127 e128 rfl ?_
  refine i_231_141 ?_
  refine i_231_142 (fun _ => ?_) (fun h => absurd h (by decide))
  refine i_231_149 ?_
  refine i_231_150 (lv2 := [(14, Value.int 0), (9, Value.int 1), (13, Value.int a30), (12, Value.int a29), (11, Value.int 12), (6, Value.int (-128)), (8, Value.int 0), (7, Value.int 0), (10, Value.int 0), (16, Value.int 0), (15, Value.int 0), (0, Value.ref 128), (1, Value.int a0), (2, Value.int a1), (3, Value.int a2), (4, Value.int a3), (5, Value.int a4)]) rfl ?_
  refine i_231_152 (x := 128) rfl ?_
  refine i_231_153 (v := Value.ref 154) hw17 rfl ?_
  refine i_231_156 (x := a29) rfl ?_
  refine i_231_158 (v := Value.int 0) hw18 e125 e126 rfl ?_
  refine i_231_159 ?_
  refine i_231_160 (fun h => absurd h (by decide)) (fun _ => ?_)
  refine i_231_163 (x := 128) rfl ?_
  refine i_231_164 (v := Value.ref 154) hw17 rfl ?_
  refine i_231_167 (x := a30) rfl ?_
  refine i_231_169 (v := Value.int 0) hw18 e127 e128 rfl ?_
  refine i_231_170 ?_
  refine i_231_171 (fun _ => ?_) (fun h => absurd h (by decide))
  refine i_231_178 ?_
  refine i_231_179 (lv2 := [(15, Value.int 0), (14, Value.int 0), (9, Value.int 1), (13, Value.int a30), (12, Value.int a29), (11, Value.int 12), (6, Value.int (-128)), (8, Value.int 0), (7, Value.int 0), (10, Value.int 0), (16, Value.int 0), (0, Value.ref 128), (1, Value.int a0), (2, Value.int a1), (3, Value.int a2), (4, Value.int a3), (5, Value.int a4)]) rfl ?_
  refine i_231_181 (x := 128) rfl ?_
  refine i_231_182 (v := Value.ref 156) hw17 rfl ?_
  refine i_231_185 (x := a29) rfl ?_
  refine i_231_187z (v := Value.int 0) hw19 e125 e126 rfl ?_
  refine i_231_188 (x := 128) rfl ?_
  refine i_231_189 (v := Value.ref 156) hw17 rfl ?_
  refine i_231_192 (x := a30) rfl ?_
  refine i_231_194z (v := Value.int 0) hw19 e127 e128 rfl ?_
  refine i_231_195 (fun _ => ?_) (fun h => absurd h (by decide))
  refine i_231_202 ?_
  refine i_231_203 (lv2 := [(16, Value.int 0), (15, Value.int 0), (14, Value.int 0), (9, Value.int 1), (13, Value.int a30), (12, Value.int a29), (11, Value.int 12), (6, Value.int (-128)), (8, Value.int 0), (7, Value.int 0), (10, Value.int 0), (0, Value.ref 128), (1, Value.int a0), (2, Value.int a1), (3, Value.int a2), (4, Value.int a3), (5, Value.int a4)]) rfl ?_
  refine i_231_205 (x := 0) rfl ?_
  refine i_231_207 (x := 0) rfl ?_
  refine i_231_209 (fun _ => ?_) (fun h => absurd h (by decide))
  refine i_231_221 ?_
  refine i_231_222 (c := 0) (by decide) ?_
  refine i_231_223 (lv2 := [(10, Value.int 0), (16, Value.int 0), (15, Value.int 0), (14, Value.int 0), (9, Value.int 1), (13, Value.int a30), (12, Value.int a29), (11, Value.int 12), (6, Value.int (-128)), (8, Value.int 0), (7, Value.int 0), (0, Value.ref 128), (1, Value.int a0), (2, Value.int a1), (3, Value.int a2), (4, Value.int a3), (5, Value.int a4)]) rfl ?_
  refine i_231_225 (x := 0) rfl ?_
  refine i_231_227 (x := 0) rfl ?_
  refine i_231_229 (fun _ => ?_) (fun h => absurd h (by decide))
  refine i_231_241 ?_
  refine i_231_242 (c := 0) (by decide) ?_
  refine i_231_243 (lv2 := [(7, Value.int 0), (10, Value.int 0), (16, Value.int 0), (15, Value.int 0), (14, Value.int 0), (9, Value.int 1), (13, Value.int a30), (12, Value.int a29), (11, Value.int 12), (6, Value.int (-128)), (8, Value.int 0), (0, Value.ref 128), (1, Value.int a0), (2, Value.int a1), (3, Value.int a2), (4, Value.int a3), (5, Value.int a4)]) rfl ?_
  refine i_231_245 (x := 0) rfl ?_
  refine i_231_247 (x := 0) rfl ?_
  refine i_231_249 (fun _ => ?_) (fun h => absurd h (by decide))
  refine i_231_261 ?_
  refine i_231_262 (c := 0) (by decide) ?_
  refine i_231_263 (lv2 := [(8, Value.int 0), (7, Value.int 0), (10, Value.int 0), (16, Value.int 0), (15, Value.int 0), (14, Value.int 0), (9, Value.int 1), (13, Value.int a30), (12, Value.int a29), (11, Value.int 12), (6, Value.int (-128)), (0, Value.ref 128), (1, Value.int a0), (2, Value.int a1), (3, Value.int a2), (4, Value.int a3), (5, Value.int a4)]) rfl ?_
  refine i_231_265 (x := 0) rfl ?_
  refine i_231_267 (fun h => absurd h (by decide)) (fun _ => ?_)
  refine i_231_270 (x := 0) rfl ?_
  refine i_231_272 (fun h => absurd h (by decide)) (fun _ => ?_)
  refine i_231_275 (x := (-128)) rfl ?_
  refine i_231_277 (x := 128) rfl ?_
  refine i_231_278 (x := a29) rfl ?_
  refine i_231_280 hw17 (Nat.le_of_ble_eq_true rfl) (p_196_1 hw17 hw20 e125 e126 hw21 hg129) ?_
  refine i_231_283 (x := 128) rfl ?_
  refine i_231_284 (x := a30) rfl ?_
  refine i_231_286 hw17 (Nat.le_of_ble_eq_true rfl) (p_196_1 hw17 hw20 e127 e128 hw21 hg130) ?_
  refine i_231_289 (c := (-128)) (by decide) ?_
  refine i_231_290 (Nat.le_of_ble_eq_true rfl) (p_272_1) ?_
  refine i_231_293 (lv2 := [(6, Value.int (-128)), (8, Value.int 0), (7, Value.int 0), (10, Value.int 0), (16, Value.int 0), (15, Value.int 0), (14, Value.int 0), (9, Value.int 1), (13, Value.int a30), (12, Value.int a29), (11, Value.int 12), (0, Value.ref 128), (1, Value.int a0), (2, Value.int a1), (3, Value.int a2), (4, Value.int a3), (5, Value.int a4)]) rfl ?_
  refine i_231_295 (x := 12) (c := 13) (lv2 := [(11, Value.int 13), (6, Value.int (-128)), (8, Value.int 0), (7, Value.int 0), (10, Value.int 0), (16, Value.int 0), (15, Value.int 0), (14, Value.int 0), (9, Value.int 1), (13, Value.int a30), (12, Value.int a29), (0, Value.ref 128), (1, Value.int a0), (2, Value.int a1), (3, Value.int a2), (4, Value.int a3), (5, Value.int a4)]) rfl (by decide) rfl ?_
  refine i_231_298 ?_
  refine i_231_74 (x := 13) rfl ?_
  refine i_231_76 (x := a3) rfl ?_
  refine i_231_78 (fun h => absurd e131 (Int.not_lt.mpr h)) (fun _ => ?_)
  refine i_231_81 (x := a1) rfl ?_
  refine i_231_82 (x := 13) rfl ?_
  refine i_231_84 (c := a31) hg132 ?_
  refine i_231_85 (lv2 := [(12, Value.int a31), (11, Value.int 13), (6, Value.int (-128)), (8, Value.int 0), (7, Value.int 0), (10, Value.int 0), (16, Value.int 0), (15, Value.int 0), (14, Value.int 0), (9, Value.int 1), (13, Value.int a30), (0, Value.ref 128), (1, Value.int a0), (2, Value.int a1), (3, Value.int a2), (4, Value.int a3), (5, Value.int a4)]) rfl ?_
  refine i_231_87 (x := a2) rfl ?_
  refine i_231_88 (x := 13) rfl ?_
  refine i_231_90 (c := a32) hg133 ?_
  refine i_231_91 (lv2 := [(13, Value.int a32), (12, Value.int a31), (11, Value.int 13), (6, Value.int (-128)), (8, Value.int 0), (7, Value.int 0), (10, Value.int 0), (16, Value.int 0), (15, Value.int 0), (14, Value.int 0), (9, Value.int 1), (0, Value.ref 128), (1, Value.int a0), (2, Value.int a1), (3, Value.int a2), (4, Value.int a3), (5, Value.int a4)]) rfl ?_
  refine i_231_93 (x := 1) rfl ?_
  refine i_231_95 (x := 128) rfl ?_
  refine i_231_96 (v := Value.ref 154) hw17 rfl ?_
  refine i_231_99 (x := a31) rfl ?_
  refine i_231_101 (v := Value.int 0) hw18 e134 e135 rfl ?_
  refine i_231_102 (fun _ => ?_) (fun h => absurd h (by decide))
  refine i_231_115 ?_
  refine i_231_116 ?_
  refine i_231_120 (c := 1) (by decide) ?_
  refine i_231_121 (lv2 := [(9, Value.int 1), (13, Value.int a32), (12, Value.int a31), (11, Value.int 13), (6, Value.int (-128)), (8, Value.int 0), (7, Value.int 0), (10, Value.int 0), (16, Value.int 0), (15, Value.int 0), (14, Value.int 0), (0, Value.ref 128), (1, Value.int a0), (2, Value.int a1), (3, Value.int a2), (4, Value.int a3), (5, Value.int a4)]) rfl ?_
  refine i_231_123 (x := 128) rfl ?_
  refine i_231_124 (v := Value.ref 154) hw17 rfl ?_
  refine i_231_127 (x := a31) rfl ?_
  refine i_231_129 (v := Value.int 0) hw18 e134 e135 rfl ?_
  refine i_231_130 ?_
  refine i_231_131 (fun h => absurd h (by decide)) (fun _ => ?_)
  refine i_231_134 (x := 128) rfl ?_
  refine i_231_135 (v := Value.ref 154) hw17 rfl ?_
  refine i_231_138 (x := a32) rfl ?_
  refine i_231_140 (v := Value.int 0) hw18 e136 e137 rfl ?_
  refine i_231_141 ?_
  refine i_231_142 (fun _ => ?_) (fun h => absurd h (by decide))
  refine i_231_149 ?_
  refine i_231_150 (lv2 := [(14, Value.int 0), (9, Value.int 1), (13, Value.int a32), (12, Value.int a31), (11, Value.int 13), (6, Value.int (-128)), (8, Value.int 0), (7, Value.int 0), (10, Value.int 0), (16, Value.int 0), (15, Value.int 0), (0, Value.ref 128), (1, Value.int a0), (2, Value.int a1), (3, Value.int a2), (4, Value.int a3), (5, Value.int a4)]) rfl ?_
  refine i_231_152 (x := 128) rfl ?_
  refine i_231_153 (v := Value.ref 154) hw17 rfl ?_
  refine i_231_156 (x := a31) rfl ?_
  refine i_231_158 (v := Value.int 0) hw18 e134 e135 rfl ?_
  refine i_231_159 ?_
  refine i_231_160 (fun h => absurd h (by decide)) (fun _ => ?_)
  refine i_231_163 (x := 128) rfl ?_
  refine i_231_164 (v := Value.ref 154) hw17 rfl ?_
  refine i_231_167 (x := a32) rfl ?_
  refine i_231_169 (v := Value.int 0) hw18 e136 e137 rfl ?_
  refine i_231_170 ?_
  refine i_231_171 (fun _ => ?_) (fun h => absurd h (by decide))
  refine i_231_178 ?_
  refine i_231_179 (lv2 := [(15, Value.int 0), (14, Value.int 0), (9, Value.int 1), (13, Value.int a32), (12, Value.int a31), (11, Value.int 13), (6, Value.int (-128)), (8, Value.int 0), (7, Value.int 0), (10, Value.int 0), (16, Value.int 0), (0, Value.ref 128), (1, Value.int a0), (2, Value.int a1), (3, Value.int a2), (4, Value.int a3), (5, Value.int a4)]) rfl ?_
  refine i_231_181 (x := 128) rfl ?_
  refine i_231_182 (v := Value.ref 156) hw17 rfl ?_
  refine i_231_185 (x := a31) rfl ?_
  refine i_231_187z (v := Value.int 0) hw19 e134 e135 rfl ?_
  refine i_231_188 (x := 128) rfl ?_
  refine i_231_189 (v := Value.ref 156) hw17 rfl ?_
  refine i_231_192 (x := a32) rfl ?_
  refine i_231_194z (v := Value.int 0) hw19 e136 e137 rfl ?_
  refine i_231_195 (fun _ => ?_) (fun h => absurd h (by decide))
  refine i_231_202 ?_
  refine i_231_203 (lv2 := [(16, Value.int 0), (15, Value.int 0), (14, Value.int 0), (9, Value.int 1), (13, Value.int a32), (12, Value.int a31), (11, Value.int 13), (6, Value.int (-128)), (8, Value.int 0), (7, Value.int 0), (10, Value.int 0), (0, Value.ref 128), (1, Value.int a0), (2, Value.int a1), (3, Value.int a2), (4, Value.int a3), (5, Value.int a4)]) rfl ?_
  refine i_231_205 (x := 0) rfl ?_
  refine i_231_207 (x := 0) rfl ?_
  refine i_231_209 (fun _ => ?_) (fun h => absurd h (by decide))
  refine i_231_221 ?_
  refine i_231_222 (c := 0) (by decide) ?_
  refine i_231_223 (lv2 := [(10, Value.int 0), (16, Value.int 0), (15, Value.int 0), (14, Value.int 0), (9, Value.int 1), (13, Value.int a32), (12, Value.int a31), (11, Value.int 13), (6, Value.int (-128)), (8, Value.int 0), (7, Value.int 0), (0, Value.ref 128), (1, Value.int a0), (2, Value.int a1), (3, Value.int a2), (4, Value.int a3), (5, Value.int a4)]) rfl ?_
  refine i_231_225 (x := 0) rfl ?_
  refine i_231_227 (x := 0) rfl ?_
  refine i_231_229 (fun _ => ?_) (fun h => absurd h (by decide))
  refine i_231_241 ?_
  refine i_231_242 (c := 0) (by decide) ?_
  refine i_231_243 (lv2 := [(7, Value.int 0), (10, Value.int 0), (16, Value.int 0), (15, Value.int 0), (14, Value.int 0), (9, Value.int 1), (13, Value.int a32), (12, Value.int a31), (11, Value.int 13), (6, Value.int (-128)), (8, Value.int 0), (0, Value.ref 128), (1, Value.int a0), (2, Value.int a1), (3, Value.int a2), (4, Value.int a3), (5, Value.int a4)]) rfl ?_
  refine i_231_245 (x := 0) rfl ?_
  refine i_231_247 (x := 0) rfl ?_
  refine i_231_249 (fun _ => ?_) (fun h => absurd h (by decide))
  refine i_231_261 ?_
  refine i_231_262 (c := 0) (by decide) ?_
  refine i_231_263 (lv2 := [(8, Value.int 0), (7, Value.int 0), (10, Value.int 0), (16, Value.int 0), (15, Value.int 0), (14, Value.int 0), (9, Value.int 1), (13, Value.int a32), (12, Value.int a31), (11, Value.int 13), (6, Value.int (-128)), (0, Value.ref 128), (1, Value.int a0), (2, Value.int a1), (3, Value.int a2), (4, Value.int a3), (5, Value.int a4)]) rfl ?_
  refine i_231_265 (x := 0) rfl ?_
  refine i_231_267 (fun h => absurd h (by decide)) (fun _ => ?_)
  refine i_231_270 (x := 0) rfl ?_
  refine i_231_272 (fun h => absurd h (by decide)) (fun _ => ?_)
  refine i_231_275 (x := (-128)) rfl ?_
  refine i_231_277 (x := 128) rfl ?_
  refine i_231_278 (x := a31) rfl ?_
  refine i_231_280 hw17 (Nat.le_of_ble_eq_true rfl) (p_196_1 hw17 hw20 e134 e135 hw21 hg138) ?_
  refine i_231_283 (x := 128) rfl ?_
  refine i_231_284 (x := a32) rfl ?_
  refine i_231_286 hw17 (Nat.le_of_ble_eq_true rfl) (p_196_1 hw17 hw20 e136 e137 hw21 hg139) ?_
  refine i_231_289 (c := (-128)) (by decide) ?_
  refine i_231_290 (Nat.le_of_ble_eq_true rfl) (p_272_1) ?_
  refine i_231_293 (lv2 := [(6, Value.int (-128)), (8, Value.int 0), (7, Value.int 0), (10, Value.int 0), (16, Value.int 0), (15, Value.int 0), (14, Value.int 0), (9, Value.int 1), (13, Value.int a32), (12, Value.int a31), (11, Value.int 13), (0, Value.ref 128), (1, Value.int a0), (2, Value.int a1), (3, Value.int a2), (4, Value.int a3), (5, Value.int a4)]) rfl ?_
  refine i_231_295 (x := 13) (c := 14) (lv2 := [(11, Value.int 14), (6, Value.int (-128)), (8, Value.int 0), (7, Value.int 0), (10, Value.int 0), (16, Value.int 0), (15, Value.int 0), (14, Value.int 0), (9, Value.int 1), (13, Value.int a32), (12, Value.int a31), (0, Value.ref 128), (1, Value.int a0), (2, Value.int a1), (3, Value.int a2), (4, Value.int a3), (5, Value.int a4)]) rfl (by decide) rfl ?_
  refine i_231_298 ?_
  refine i_231_74 (x := 14) rfl ?_
  refine i_231_76 (x := a3) rfl ?_
  refine i_231_78 (fun h => absurd e140 (Int.not_lt.mpr h)) (fun _ => ?_)
  refine i_231_81 (x := a1) rfl ?_
  refine i_231_82 (x := 14) rfl ?_
  refine i_231_84 (c := a33) hg141 ?_
  refine i_231_85 (lv2 := [(12, Value.int a33), (11, Value.int 14), (6, Value.int (-128)), (8, Value.int 0), (7, Value.int 0), (10, Value.int 0), (16, Value.int 0), (15, Value.int 0), (14, Value.int 0), (9, Value.int 1), (13, Value.int a32), (0, Value.ref 128), (1, Value.int a0), (2, Value.int a1), (3, Value.int a2), (4, Value.int a3), (5, Value.int a4)]) rfl ?_
  refine i_231_87 (x := a2) rfl ?_
  refine i_231_88 (x := 14) rfl ?_
  refine i_231_90 (c := a34) hg142 ?_
  refine i_231_91 (lv2 := [(13, Value.int a34), (12, Value.int a33), (11, Value.int 14), (6, Value.int (-128)), (8, Value.int 0), (7, Value.int 0), (10, Value.int 0), (16, Value.int 0), (15, Value.int 0), (14, Value.int 0), (9, Value.int 1), (0, Value.ref 128), (1, Value.int a0), (2, Value.int a1), (3, Value.int a2), (4, Value.int a3), (5, Value.int a4)]) rfl ?_
  refine i_231_93 (x := 1) rfl ?_
  refine i_231_95 (x := 128) rfl ?_
  refine i_231_96 (v := Value.ref 154) hw17 rfl ?_
  refine i_231_99 (x := a33) rfl ?_
  refine i_231_101 (v := Value.int 0) hw18 e143 e144 rfl ?_
  refine i_231_102 (fun _ => ?_) (fun h => absurd h (by decide))
  refine i_231_115 ?_
  refine i_231_116 ?_
  refine i_231_120 (c := 1) (by decide) ?_
  refine i_231_121 (lv2 := [(9, Value.int 1), (13, Value.int a34), (12, Value.int a33), (11, Value.int 14), (6, Value.int (-128)), (8, Value.int 0), (7, Value.int 0), (10, Value.int 0), (16, Value.int 0), (15, Value.int 0), (14, Value.int 0), (0, Value.ref 128), (1, Value.int a0), (2, Value.int a1), (3, Value.int a2), (4, Value.int a3), (5, Value.int a4)]) rfl ?_
  refine i_231_123 (x := 128) rfl ?_
  refine i_231_124 (v := Value.ref 154) hw17 rfl ?_
  refine i_231_127 (x := a33) rfl ?_
  refine i_231_129 (v := Value.int 0) hw18 e143 e144 rfl ?_
  refine i_231_130 ?_
  refine i_231_131 (fun h => absurd h (by decide)) (fun _ => ?_)
  refine i_231_134 (x := 128) rfl ?_
  refine i_231_135 (v := Value.ref 154) hw17 rfl ?_
  refine i_231_138 (x := a34) rfl ?_
  refine i_231_140 (v := Value.int 0) hw18 e145 e146 rfl ?_
  refine i_231_141 ?_
  refine i_231_142 (fun _ => ?_) (fun h => absurd h (by decide))
  refine i_231_149 ?_
  refine i_231_150 (lv2 := [(14, Value.int 0), (9, Value.int 1), (13, Value.int a34), (12, Value.int a33), (11, Value.int 14), (6, Value.int (-128)), (8, Value.int 0), (7, Value.int 0), (10, Value.int 0), (16, Value.int 0), (15, Value.int 0), (0, Value.ref 128), (1, Value.int a0), (2, Value.int a1), (3, Value.int a2), (4, Value.int a3), (5, Value.int a4)]) rfl ?_
  refine i_231_152 (x := 128) rfl ?_
  refine i_231_153 (v := Value.ref 154) hw17 rfl ?_
  refine i_231_156 (x := a33) rfl ?_
  refine i_231_158 (v := Value.int 0) hw18 e143 e144 rfl ?_
  refine i_231_159 ?_
  refine i_231_160 (fun h => absurd h (by decide)) (fun _ => ?_)
  refine i_231_163 (x := 128) rfl ?_
  refine i_231_164 (v := Value.ref 154) hw17 rfl ?_
  refine i_231_167 (x := a34) rfl ?_
  refine i_231_169 (v := Value.int 0) hw18 e145 e146 rfl ?_
  refine i_231_170 ?_
  refine i_231_171 (fun _ => ?_) (fun h => absurd h (by decide))
  refine i_231_178 ?_
  refine i_231_179 (lv2 := [(15, Value.int 0), (14, Value.int 0), (9, Value.int 1), (13, Value.int a34), (12, Value.int a33), (11, Value.int 14), (6, Value.int (-128)), (8, Value.int 0), (7, Value.int 0), (10, Value.int 0), (16, Value.int 0), (0, Value.ref 128), (1, Value.int a0), (2, Value.int a1), (3, Value.int a2), (4, Value.int a3), (5, Value.int a4)]) rfl ?_
  refine i_231_181 (x := 128) rfl ?_
  refine i_231_182 (v := Value.ref 156) hw17 rfl ?_
  refine i_231_185 (x := a33) rfl ?_
  refine i_231_187z (v := Value.int 0) hw19 e143 e144 rfl ?_
  refine i_231_188 (x := 128) rfl ?_
  refine i_231_189 (v := Value.ref 156) hw17 rfl ?_
  refine i_231_192 (x := a34) rfl ?_
  refine i_231_194z (v := Value.int 0) hw19 e145 e146 rfl ?_
  refine i_231_195 (fun _ => ?_) (fun h => absurd h (by decide))
  refine i_231_202 ?_
  refine i_231_203 (lv2 := [(16, Value.int 0), (15, Value.int 0), (14, Value.int 0), (9, Value.int 1), (13, Value.int a34), (12, Value.int a33), (11, Value.int 14), (6, Value.int (-128)), (8, Value.int 0), (7, Value.int 0), (10, Value.int 0), (0, Value.ref 128), (1, Value.int a0), (2, Value.int a1), (3, Value.int a2), (4, Value.int a3), (5, Value.int a4)]) rfl ?_
  refine i_231_205 (x := 0) rfl ?_
  refine i_231_207 (x := 0) rfl ?_
  refine i_231_209 (fun _ => ?_) (fun h => absurd h (by decide))
  refine i_231_221 ?_
  refine i_231_222 (c := 0) (by decide) ?_
  refine i_231_223 (lv2 := [(10, Value.int 0), (16, Value.int 0), (15, Value.int 0), (14, Value.int 0), (9, Value.int 1), (13, Value.int a34), (12, Value.int a33), (11, Value.int 14), (6, Value.int (-128)), (8, Value.int 0), (7, Value.int 0), (0, Value.ref 128), (1, Value.int a0), (2, Value.int a1), (3, Value.int a2), (4, Value.int a3), (5, Value.int a4)]) rfl ?_
  refine i_231_225 (x := 0) rfl ?_
  refine i_231_227 (x := 0) rfl ?_
  refine i_231_229 (fun _ => ?_) (fun h => absurd h (by decide))
  refine i_231_241 ?_
  refine i_231_242 (c := 0) (by decide) ?_
  refine i_231_243 (lv2 := [(7, Value.int 0), (10, Value.int 0), (16, Value.int 0), (15, Value.int 0), (14, Value.int 0), (9, Value.int 1), (13, Value.int a34), (12, Value.int a33), (11, Value.int 14), (6, Value.int (-128)), (8, Value.int 0), (0, Value.ref 128), (1, Value.int a0), (2, Value.int a1), (3, Value.int a2), (4, Value.int a3), (5, Value.int a4)]) rfl ?_
  refine i_231_245 (x := 0) rfl ?_
  refine i_231_247 (x := 0) rfl ?_
  refine i_231_249 (fun _ => ?_) (fun h => absurd h (by decide))
  refine i_231_261 ?_
  refine i_231_262 (c := 0) (by decide) ?_
  refine i_231_263 (lv2 := [(8, Value.int 0), (7, Value.int 0), (10, Value.int 0), (16, Value.int 0), (15, Value.int 0), (14, Value.int 0), (9, Value.int 1), (13, Value.int a34), (12, Value.int a33), (11, Value.int 14), (6, Value.int (-128)), (0, Value.ref 128), (1, Value.int a0), (2, Value.int a1), (3, Value.int a2), (4, Value.int a3), (5, Value.int a4)]) rfl ?_
  refine i_231_265 (x := 0) rfl ?_
  refine i_231_267 (fun h => absurd h (by decide)) (fun _ => ?_)
  refine i_231_270 (x := 0) rfl ?_
  refine i_231_272 (fun h => absurd h (by decide)) (fun _ => ?_)
  refine i_231_275 (x := (-128)) rfl ?_
  refine i_231_277 (x := 128) rfl ?_
  refine i_231_278 (x := a33) rfl ?_
  refine i_231_280 hw17 (Nat.le_of_ble_eq_true rfl) (p_196_1 hw17 hw20 e143 e144 hw21 hg147) ?_
  refine i_231_283 (x := 128) rfl ?_
  refine i_231_284 (x := a34) rfl ?_
  refine i_231_286 hw17 (Nat.le_of_ble_eq_true rfl) (p_196_1 hw17 hw20 e145 e146 hw21 hg148) ?_
  refine i_231_289 (c := (-128)) (by decide) ?_
  refine i_231_290 (Nat.le_of_ble_eq_true rfl) (p_272_1) ?_
  refine i_231_293 (lv2 := [(6, Value.int (-128)), (8, Value.int 0), (7, Value.int 0), (10, Value.int 0), (16, Value.int 0), (15, Value.int 0), (14, Value.int 0), (9, Value.int 1), (13, Value.int a34), (12, Value.int a33), (11, Value.int 14), (0, Value.ref 128), (1, Value.int a0), (2, Value.int a1), (3, Value.int a2), (4, Value.int a3), (5, Value.int a4)]) rfl ?_
  refine i_231_295 (x := 14) (c := 15) (lv2 := [(11, Value.int 15), (6, Value.int (-128)), (8, Value.int 0), (7, Value.int 0), (10, Value.int 0), (16, Value.int 0), (15, Value.int 0), (14, Value.int 0), (9, Value.int 1), (13, Value.int a34), (12, Value.int a33), (0, Value.ref 128), (1, Value.int a0), (2, Value.int a1), (3, Value.int a2), (4, Value.int a3), (5, Value.int a4)]) rfl (by decide) rfl ?_
  refine i_231_298 ?_
  refine i_231_74 (x := 15) rfl ?_
  refine i_231_76 (x := a3) rfl ?_
  refine i_231_78 (fun h => absurd e149 (Int.not_lt.mpr h)) (fun _ => ?_)
  refine i_231_81 (x := a1) rfl ?_
  refine i_231_82 (x := 15) rfl ?_
  refine i_231_84 (c := 15) hg150 ?_
  refine i_231_85 (lv2 := [(12, Value.int 15), (11, Value.int 15), (6, Value.int (-128)), (8, Value.int 0), (7, Value.int 0), (10, Value.int 0), (16, Value.int 0), (15, Value.int 0), (14, Value.int 0), (9, Value.int 1), (13, Value.int a34), (0, Value.ref 128), (1, Value.int a0), (2, Value.int a1), (3, Value.int a2), (4, Value.int a3), (5, Value.int a4)]) rfl ?_
  refine i_231_87 (x := a2) rfl ?_
  refine i_231_88 (x := 15) rfl ?_
  refine i_231_90 (c := 15) hg151 ?_
  refine i_231_91 (lv2 := [(13, Value.int 15), (12, Value.int 15), (11, Value.int 15), (6, Value.int (-128)), (8, Value.int 0), (7, Value.int 0), (10, Value.int 0), (16, Value.int 0), (15, Value.int 0), (14, Value.int 0), (9, Value.int 1), (0, Value.ref 128), (1, Value.int a0), (2, Value.int a1), (3, Value.int a2), (4, Value.int a3), (5, Value.int a4)]) rfl ?_
  refine i_231_93 (x := 1) rfl ?_
  refine i_231_95 (x := 128) rfl ?_
  refine i_231_96 (v := Value.ref 154) hw17 rfl ?_
  refine i_231_99 (x := 15) rfl ?_
  refine i_231_101 (v := Value.int 0) hw18 (by decide) (by decide) rfl ?_
  refine i_231_102 (fun _ => ?_) (fun h => absurd h (by decide))
  refine i_231_115 ?_
  refine i_231_116 ?_
  refine i_231_120 (c := 1) (by decide) ?_
  refine i_231_121 (lv2 := [(9, Value.int 1), (13, Value.int 15), (12, Value.int 15), (11, Value.int 15), (6, Value.int (-128)), (8, Value.int 0), (7, Value.int 0), (10, Value.int 0), (16, Value.int 0), (15, Value.int 0), (14, Value.int 0), (0, Value.ref 128), (1, Value.int a0), (2, Value.int a1), (3, Value.int a2), (4, Value.int a3), (5, Value.int a4)]) rfl ?_
  refine i_231_123 (x := 128) rfl ?_
  refine i_231_124 (v := Value.ref 154) hw17 rfl ?_
  refine i_231_127 (x := 15) rfl ?_
  refine i_231_129 (v := Value.int 0) hw18 (by decide) (by decide) rfl ?_
  refine i_231_130 ?_
  refine i_231_131 (fun h => absurd h (by decide)) (fun _ => ?_)
  refine i_231_134 (x := 128) rfl ?_
  refine i_231_135 (v := Value.ref 154) hw17 rfl ?_
  refine i_231_138 (x := 15) rfl ?_
  refine i_231_140 (v := Value.int 0) hw18 (by decide) (by decide) rfl ?_
  refine i_231_141 ?_
  refine i_231_142 (fun _ => ?_) (fun h => absurd h (by decide))
  refine i_231_149 ?_
  refine i_231_150 (lv2 := [(14, Value.int 0), (9, Value.int 1), (13, Value.int 15), (12, Value.int 15), (11, Value.int 15), (6, Value.int (-128)), (8, Value.int 0), (7, Value.int 0), (10, Value.int 0), (16, Value.int 0), (15, Value.int 0), (0, Value.ref 128), (1, Value.int a0), (2, Value.int a1), (3, Value.int a2), (4, Value.int a3), (5, Value.int a4)]) rfl ?_
  refine i_231_152 (x := 128) rfl ?_
  refine i_231_153 (v := Value.ref 154) hw17 rfl ?_
  refine i_231_156 (x := 15) rfl ?_
  refine i_231_158 (v := Value.int 0) hw18 (by decide) (by decide) rfl ?_
  refine i_231_159 ?_
  refine i_231_160 (fun h => absurd h (by decide)) (fun _ => ?_)
  refine i_231_163 (x := 128) rfl ?_
  refine i_231_164 (v := Value.ref 154) hw17 rfl ?_
  refine i_231_167 (x := 15) rfl ?_
  refine i_231_169 (v := Value.int 0) hw18 (by decide) (by decide) rfl ?_
  refine i_231_170 ?_
  refine i_231_171 (fun _ => ?_) (fun h => absurd h (by decide))
  refine i_231_178 ?_
  refine i_231_179 (lv2 := [(15, Value.int 0), (14, Value.int 0), (9, Value.int 1), (13, Value.int 15), (12, Value.int 15), (11, Value.int 15), (6, Value.int (-128)), (8, Value.int 0), (7, Value.int 0), (10, Value.int 0), (16, Value.int 0), (0, Value.ref 128), (1, Value.int a0), (2, Value.int a1), (3, Value.int a2), (4, Value.int a3), (5, Value.int a4)]) rfl ?_
  refine i_231_181 (x := 128) rfl ?_
  refine i_231_182 (v := Value.ref 156) hw17 rfl ?_
  refine i_231_185 (x := 15) rfl ?_
  refine i_231_187z (v := Value.int 0) hw19 (by decide) (by decide) rfl ?_
  refine i_231_188 (x := 128) rfl ?_
  refine i_231_189 (v := Value.ref 156) hw17 rfl ?_
  refine i_231_192 (x := 15) rfl ?_
  refine i_231_194z (v := Value.int 0) hw19 (by decide) (by decide) rfl ?_
  refine i_231_195 (fun _ => ?_) (fun h => absurd h (by decide))
  refine i_231_202 ?_
  refine i_231_203 (lv2 := [(16, Value.int 0), (15, Value.int 0), (14, Value.int 0), (9, Value.int 1), (13, Value.int 15), (12, Value.int 15), (11, Value.int 15), (6, Value.int (-128)), (8, Value.int 0), (7, Value.int 0), (10, Value.int 0), (0, Value.ref 128), (1, Value.int a0), (2, Value.int a1), (3, Value.int a2), (4, Value.int a3), (5, Value.int a4)]) rfl ?_
  refine i_231_205 (x := 0) rfl ?_
  refine i_231_207 (x := 0) rfl ?_
  refine i_231_209 (fun _ => ?_) (fun h => absurd h (by decide))
  refine i_231_221 ?_
  refine i_231_222 (c := 0) (by decide) ?_
  refine i_231_223 (lv2 := [(10, Value.int 0), (16, Value.int 0), (15, Value.int 0), (14, Value.int 0), (9, Value.int 1), (13, Value.int 15), (12, Value.int 15), (11, Value.int 15), (6, Value.int (-128)), (8, Value.int 0), (7, Value.int 0), (0, Value.ref 128), (1, Value.int a0), (2, Value.int a1), (3, Value.int a2), (4, Value.int a3), (5, Value.int a4)]) rfl ?_
  refine i_231_225 (x := 0) rfl ?_
  refine i_231_227 (x := 0) rfl ?_
  refine i_231_229 (fun _ => ?_) (fun h => absurd h (by decide))
  refine i_231_241 ?_
  refine i_231_242 (c := 0) (by decide) ?_
  refine i_231_243 (lv2 := [(7, Value.int 0), (10, Value.int 0), (16, Value.int 0), (15, Value.int 0), (14, Value.int 0), (9, Value.int 1), (13, Value.int 15), (12, Value.int 15), (11, Value.int 15), (6, Value.int (-128)), (8, Value.int 0), (0, Value.ref 128), (1, Value.int a0), (2, Value.int a1), (3, Value.int a2), (4, Value.int a3), (5, Value.int a4)]) rfl ?_
  refine i_231_245 (x := 0) rfl ?_
  refine i_231_247 (x := 0) rfl ?_
  refine i_231_249 (fun _ => ?_) (fun h => absurd h (by decide))
  refine i_231_261 ?_
  refine i_231_262 (c := 0) (by decide) ?_
  refine i_231_263 (lv2 := [(8, Value.int 0), (7, Value.int 0), (10, Value.int 0), (16, Value.int 0), (15, Value.int 0), (14, Value.int 0), (9, Value.int 1), (13, Value.int 15), (12, Value.int 15), (11, Value.int 15), (6, Value.int (-128)), (0, Value.ref 128), (1, Value.int a0), (2, Value.int a1), (3, Value.int a2), (4, Value.int a3), (5, Value.int a4)]) rfl ?_
  refine i_231_265 (x := 0) rfl ?_
  refine i_231_267 (fun h => absurd h (by decide)) (fun _ => ?_)
  refine i_231_270 (x := 0) rfl ?_
  refine i_231_272 (fun h => absurd h (by decide)) (fun _ => ?_)
  refine i_231_275 (x := (-128)) rfl ?_
  refine i_231_277 (x := 128) rfl ?_
  refine i_231_278 (x := 15) rfl ?_
  refine i_231_280 hw17 (Nat.le_of_ble_eq_true rfl) (p_196_2 hw17 hw20 hw21 hg152) ?_
  refine i_231_283 (x := 128) rfl ?_
  refine i_231_284 (x := 15) rfl ?_
  refine i_231_286 hw17 (Nat.le_of_ble_eq_true rfl) (p_196_2 hw17 hw20 hw21 hg152) ?_
  refine i_231_289 (c := (-128)) (by decide) ?_
  refine i_231_290 (Nat.le_of_ble_eq_true rfl) (p_272_1) ?_
  refine i_231_293 (lv2 := [(6, Value.int (-128)), (8, Value.int 0), (7, Value.int 0), (10, Value.int 0), (16, Value.int 0), (15, Value.int 0), (14, Value.int 0), (9, Value.int 1), (13, Value.int 15), (12, Value.int 15), (11, Value.int 15), (0, Value.ref 128), (1, Value.int a0), (2, Value.int a1), (3, Value.int a2), (4, Value.int a3), (5, Value.int a4)]) rfl ?_
  refine i_231_295 (x := 15) (c := 16) (lv2 := [(11, Value.int 16), (6, Value.int (-128)), (8, Value.int 0), (7, Value.int 0), (10, Value.int 0), (16, Value.int 0), (15, Value.int 0), (14, Value.int 0), (9, Value.int 1), (13, Value.int 15), (12, Value.int 15), (0, Value.ref 128), (1, Value.int a0), (2, Value.int a1), (3, Value.int a2), (4, Value.int a3), (5, Value.int a4)]) rfl (by decide) rfl ?_
  refine i_231_298 ?_
  refine i_231_74 (x := 16) rfl ?_
  refine i_231_76 (x := a3) rfl ?_
  refine i_231_78 (fun _ => ?_) (fun h => absurd e7 (Int.not_le.mpr h))
  refine i_231_301 (x := 1) rfl ?_
  refine i_231_303 (fun h => absurd h (by decide)) (fun _ => ?_)
  refine i_231_306 (x := 128) rfl ?_
  refine i_231_307 (x := a0) rfl ?_
  refine i_231_308 ?_
  refine i_231_309 ?_
  refine i_231_310 hw17 (Nat.le_of_ble_eq_true rfl) (p_171_0 hw17 hw18 e0 e153 hw19) ?_
  exact i_231_313 ⟨rfl, rfl⟩
theorem p_230_10 {d : Nat} {w : xW} {a0 : Int32} {a1 : Int32} {a2 : Int32} {a3 : Int32} {a4 : Int32} {a5 : Int32} {a6 : Int32} {g0 : Nat → Value} {a7 : Int32} {a8 : Int32} {a9 : Int32} {a10 : Int32} {a11 : Int32} {a12 : Int32} {a13 : Int32} {a14 : Int32} {a15 : Int32} {a16 : Int32} {a17 : Int32} {a18 : Int32} {a19 : Int32} {a20 : Int32} {a21 : Int32} {a22 : Int32} {a23 : Int32} {a24 : Int32} {a25 : Int32} {a26 : Int32} {a27 : Int32} {a28 : Int32} {a29 : Int32} {a30 : Int32} {a31 : Int32} {a32 : Int32} {a33 : Int32} {a34 : Int32} (hw0 : w[128]? = some (Sum.inr (12, [Value.ref 129, Value.ref 131, Value.ref 133, Value.ref 135, Value.ref 137, Value.ref 139, Value.ref 141, Value.ref 143, Value.ref 145, Value.ref 147, Value.ref 149, Value.ref 151, Value.ref 153, Value.ref 154, Value.ref 155, Value.ref 156, Value.ref 157, Value.int (-16384), Value.int 16384, Value.int 0, Value.int 0, Value.int 0, Value.ref 158, Value.ref 159, Value.int 0, Value.int 0, Value.int 0, Value.int 0, Value.int 0, Value.int 0, Value.int 0, Value.int 0]))) (e1 : 0 ≤ a0.toInt) (e2 : a0.toInt ≤ 15) (e3 : 0 ≤ a1.toInt) (e4 : a1.toInt ≤ 15) (e5 : 0 ≤ a2.toInt) (e6 : a2.toInt ≤ 15) (e7 : 1 ≤ a3.toInt) (e8 : a3.toInt ≤ 16) (hg9 : (a1 + a3) = a5) (e10 : a5.toInt ≤ 16) (hg11 : (a2 + a3) = a6) (e12 : a6.toInt ≤ 16) (e13 : 0 ≤ a4.toInt) (e14 : a4.toInt ≤ 4) (e15 : 0 < a3.toInt) (hg16 : (a1 + (0 : Int32)) = 0) (hg17 : (a2 + (0 : Int32)) = 0) (hw18 : w[154]? = some (Sum.inl (0, 17, fun _ => Value.int 0))) (hw19 : w[156]? = some (Sum.inl (2, 17, fun _ => Value.int 0))) (hw20 : w[155]? = some (Sum.inl (0, 17, fun _ => Value.int 0))) (hw21 : w[153]? = some (Sum.inl (0, 17, g0))) (hg22 : g0 (0 : Int32).toInt.toNat = Value.int 64) (e23 : 1 < a3.toInt) (hg24 : (a1 + (1 : Int32)) = a7) (hg25 : (a2 + (1 : Int32)) = a8) (e26 : 0 ≤ a7.toInt) (e27 : a7.toInt < 17) (e28 : 0 ≤ a8.toInt) (e29 : a8.toInt < 17) (hg30 : g0 a7.toInt.toNat = Value.int 64) (hg31 : g0 a8.toInt.toNat = Value.int 64) (e32 : 2 < a3.toInt) (hg33 : (a1 + (2 : Int32)) = a9) (hg34 : (a2 + (2 : Int32)) = a10) (e35 : 0 ≤ a9.toInt) (e36 : a9.toInt < 17) (e37 : 0 ≤ a10.toInt) (e38 : a10.toInt < 17) (hg39 : g0 a9.toInt.toNat = Value.int 64) (hg40 : g0 a10.toInt.toNat = Value.int 64) (e41 : 3 < a3.toInt) (hg42 : (a1 + (3 : Int32)) = a11) (hg43 : (a2 + (3 : Int32)) = a12) (e44 : 0 ≤ a11.toInt) (e45 : a11.toInt < 17) (e46 : 0 ≤ a12.toInt) (e47 : a12.toInt < 17) (hg48 : g0 a11.toInt.toNat = Value.int 64) (hg49 : g0 a12.toInt.toNat = Value.int 64) (e50 : 4 < a3.toInt) (hg51 : (a1 + (4 : Int32)) = a13) (hg52 : (a2 + (4 : Int32)) = a14) (e53 : 0 ≤ a13.toInt) (e54 : a13.toInt < 17) (e55 : 0 ≤ a14.toInt) (e56 : a14.toInt < 17) (hg57 : g0 a13.toInt.toNat = Value.int 64) (hg58 : g0 a14.toInt.toNat = Value.int 64) (e59 : 5 < a3.toInt) (hg60 : (a1 + (5 : Int32)) = a15) (hg61 : (a2 + (5 : Int32)) = a16) (e62 : 0 ≤ a15.toInt) (e63 : a15.toInt < 17) (e64 : 0 ≤ a16.toInt) (e65 : a16.toInt < 17) (hg66 : g0 a15.toInt.toNat = Value.int 64) (hg67 : g0 a16.toInt.toNat = Value.int 64) (e68 : 6 < a3.toInt) (hg69 : (a1 + (6 : Int32)) = a17) (hg70 : (a2 + (6 : Int32)) = a18) (e71 : 0 ≤ a17.toInt) (e72 : a17.toInt < 17) (e73 : 0 ≤ a18.toInt) (e74 : a18.toInt < 17) (hg75 : g0 a17.toInt.toNat = Value.int 64) (hg76 : g0 a18.toInt.toNat = Value.int 64) (e77 : 7 < a3.toInt) (hg78 : (a1 + (7 : Int32)) = a19) (hg79 : (a2 + (7 : Int32)) = a20) (e80 : 0 ≤ a19.toInt) (e81 : a19.toInt < 17) (e82 : 0 ≤ a20.toInt) (e83 : a20.toInt < 17) (hg84 : g0 a19.toInt.toNat = Value.int 64) (hg85 : g0 a20.toInt.toNat = Value.int 64) (e86 : 8 < a3.toInt) (hg87 : (a1 + (8 : Int32)) = a21) (hg88 : (a2 + (8 : Int32)) = a22) (e89 : 0 ≤ a21.toInt) (e90 : a21.toInt < 17) (e91 : 0 ≤ a22.toInt) (e92 : a22.toInt < 17) (hg93 : g0 a21.toInt.toNat = Value.int 64) (hg94 : g0 a22.toInt.toNat = Value.int 64) (e95 : 9 < a3.toInt) (hg96 : (a1 + (9 : Int32)) = a23) (hg97 : (a2 + (9 : Int32)) = a24) (e98 : 0 ≤ a23.toInt) (e99 : a23.toInt < 17) (e100 : 0 ≤ a24.toInt) (e101 : a24.toInt < 17) (hg102 : g0 a23.toInt.toNat = Value.int 64) (hg103 : g0 a24.toInt.toNat = Value.int 64) (e104 : 10 < a3.toInt) (hg105 : (a1 + (10 : Int32)) = a25) (hg106 : (a2 + (10 : Int32)) = a26) (e107 : 0 ≤ a25.toInt) (e108 : a25.toInt < 17) (e109 : 0 ≤ a26.toInt) (e110 : a26.toInt < 17) (hg111 : g0 a25.toInt.toNat = Value.int 64) (hg112 : g0 a26.toInt.toNat = Value.int 64) (e113 : 11 < a3.toInt) (hg114 : (a1 + (11 : Int32)) = a27) (hg115 : (a2 + (11 : Int32)) = a28) (e116 : 0 ≤ a27.toInt) (e117 : a27.toInt < 17) (e118 : 0 ≤ a28.toInt) (e119 : a28.toInt < 17) (hg120 : g0 a27.toInt.toNat = Value.int 64) (hg121 : g0 a28.toInt.toNat = Value.int 64) (e122 : 12 < a3.toInt) (hg123 : (a1 + (12 : Int32)) = a29) (hg124 : (a2 + (12 : Int32)) = a30) (e125 : 0 ≤ a29.toInt) (e126 : a29.toInt < 17) (e127 : 0 ≤ a30.toInt) (e128 : a30.toInt < 17) (hg129 : g0 a29.toInt.toNat = Value.int 64) (hg130 : g0 a30.toInt.toNat = Value.int 64) (e131 : 13 < a3.toInt) (hg132 : (a1 + (13 : Int32)) = a31) (hg133 : (a2 + (13 : Int32)) = a32) (e134 : 0 ≤ a31.toInt) (e135 : a31.toInt < 17) (e136 : 0 ≤ a32.toInt) (e137 : a32.toInt < 17) (hg138 : g0 a31.toInt.toNat = Value.int 64) (hg139 : g0 a32.toInt.toNat = Value.int 64) (e140 : 14 < a3.toInt) (hg141 : (a1 + (14 : Int32)) = a33) (hg142 : (a2 + (14 : Int32)) = a34) (e143 : 0 ≤ a33.toInt) (e144 : a33.toInt < 17) (e145 : 0 ≤ a34.toInt) (e146 : a34.toInt < 17) (hg147 : g0 a33.toInt.toNat = Value.int 64) (hg148 : g0 a34.toInt.toNat = Value.int 64) (e149 : 15 < a3.toInt) (hg150 : (a1 + (15 : Int32)) = 15) (hg151 : (a2 + (15 : Int32)) = 15) (hg152 : g0 (15 : Int32).toInt.toNat = Value.int 64) (e153 : a0.toInt < 17) : xRun (d + 3) 230 [Value.ref 128, Value.int a0, Value.int a1, Value.int a2, Value.int a3, Value.int a4] w (.inl (some (Value.int 0))) (((w.set 128 (Sum.inr (12, [Value.ref 129, Value.ref 131, Value.ref 133, Value.ref 135, Value.ref 137, Value.ref 139, Value.ref 141, Value.ref 143, Value.ref 145, Value.ref 147, Value.ref 149, Value.ref 151, Value.ref 153, Value.ref 154, Value.ref 155, Value.ref 156, Value.ref 157, Value.int (-16384), Value.int 16384, Value.int 0, Value.int 0, Value.int 0, Value.ref 158, Value.ref 159, Value.int 0, Value.int 0, Value.int 0, Value.int 0, Value.int 0, Value.int 0, Value.int 0, Value.int 0]))).set 154 (Sum.inl (0, 17, xup (fun _ => Value.int 0) a0.toInt.toNat (Value.int 0)))).set 156 (Sum.inl (2, 17, xup (fun _ => Value.int 0) a0.toInt.toNat (Value.int 0)))) := by
  refine xRun.of ?_
  refine i_230_0 (x := 128) rfl ?_
  refine i_230_1 ?_
  refine i_230_2 (fs2 := [Value.ref 129, Value.ref 131, Value.ref 133, Value.ref 135, Value.ref 137, Value.ref 139, Value.ref 141, Value.ref 143, Value.ref 145, Value.ref 147, Value.ref 149, Value.ref 151, Value.ref 153, Value.ref 154, Value.ref 155, Value.ref 156, Value.ref 157, Value.int (-16384), Value.int 16384, Value.int 0, Value.int 0, Value.int 0, Value.ref 158, Value.ref 159, Value.int 0, Value.int 0, Value.int 0, Value.int 0, Value.int 0, Value.int 0, Value.int 0, Value.int 0]) hw0 (Nat.le_of_ble_eq_true rfl) rfl (by decide) ?_
  refine i_230_5 (x := 128) rfl ?_
  refine i_230_6 (x := a0) rfl ?_
  refine i_230_7 (x := a1) rfl ?_
  refine i_230_8 (x := a2) rfl ?_
  refine i_230_9 (x := a3) rfl ?_
  refine i_230_11 (x := a4) rfl ?_
  refine i_230_13 (xgs hw0) (Nat.le_of_ble_eq_true rfl) (p_231_10 e1 e2 e3 e4 e5 e6 e7 e8 hg9 e10 hg11 e12 e13 e14 e15 hg16 hg17 (xgs hw0) (xgn (by decide) hw18) (xgn (by decide) hw19) (xgn (by decide) hw20) (xgn (by decide) hw21) hg22 e23 hg24 hg25 e26 e27 e28 e29 hg30 hg31 e32 hg33 hg34 e35 e36 e37 e38 hg39 hg40 e41 hg42 hg43 e44 e45 e46 e47 hg48 hg49 e50 hg51 hg52 e53 e54 e55 e56 hg57 hg58 e59 hg60 hg61 e62 e63 e64 e65 hg66 hg67 e68 hg69 hg70 e71 e72 e73 e74 hg75 hg76 e77 hg78 hg79 e80 e81 e82 e83 hg84 hg85 e86 hg87 hg88 e89 e90 e91 e92 hg93 hg94 e95 hg96 hg97 e98 e99 e100 e101 hg102 hg103 e104 hg105 hg106 e107 e108 e109 e110 hg111 hg112 e113 hg114 hg115 e116 e117 e118 e119 hg120 hg121 e122 hg123 hg124 e125 e126 e127 e128 hg129 hg130 e131 hg132 hg133 e134 e135 e136 e137 hg138 hg139 e140 hg141 hg142 e143 e144 e145 e146 hg147 hg148 e149 hg150 hg151 hg152 e153) ?_
  exact i_230_16 ⟨rfl, rfl⟩
theorem o_11_15 {d : Nat} {xs : Nat → Int32} {N6 N10 N15 N16 N18 N19 N21 N22 N24 N25 N27 N28 N30 N31 N33 N34 N36 N37 N39 N40 N42 N43 N45 N46 N48 N49 N51 N52 N54 N55 : Int32} (h0 : ((xs 0) &&& (31 : Int32)).toInt = 11) (c0 : 0 ≤ (xs 1).toInt) (c1 : (xs 1).toInt < 16) (c2 : 0 ≤ (xs 2).toInt) (c3 : (xs 2).toInt < 16) (c4 : 1 ≤ (xs 4).toInt) (c5 : (xs 4).toInt ≤ 16) (eN6 : ((xs 2) + (xs 4)) = N6) (nN6 : N6.toInt = (xs 2).toInt + (xs 4).toInt) (c7 : N6.toInt ≤ 16) (c8 : 0 ≤ (xs 3).toInt) (c9 : (xs 3).toInt < 16) (eN10 : ((xs 3) + (xs 4)) = N10) (nN10 : N10.toInt = (xs 3).toInt + (xs 4).toInt) (c11 : N10.toInt ≤ 16) (c12 : 0 ≤ (xs 5).toInt) (c13 : (xs 5).toInt ≤ 4) (c14 : 1 < (xs 4).toInt) (eN15 : ((xs 2) + (1 : Int32)) = N15) (nN15 : N15.toInt = (xs 2).toInt + 1) (eN16 : ((xs 3) + (1 : Int32)) = N16) (nN16 : N16.toInt = (xs 3).toInt + 1) (c17 : 2 < (xs 4).toInt) (eN18 : ((xs 2) + (2 : Int32)) = N18) (nN18 : N18.toInt = (xs 2).toInt + 2) (eN19 : ((xs 3) + (2 : Int32)) = N19) (nN19 : N19.toInt = (xs 3).toInt + 2) (c20 : 3 < (xs 4).toInt) (eN21 : ((xs 2) + (3 : Int32)) = N21) (nN21 : N21.toInt = (xs 2).toInt + 3) (eN22 : ((xs 3) + (3 : Int32)) = N22) (nN22 : N22.toInt = (xs 3).toInt + 3) (c23 : 4 < (xs 4).toInt) (eN24 : ((xs 2) + (4 : Int32)) = N24) (nN24 : N24.toInt = (xs 2).toInt + 4) (eN25 : ((xs 3) + (4 : Int32)) = N25) (nN25 : N25.toInt = (xs 3).toInt + 4) (c26 : 5 < (xs 4).toInt) (eN27 : ((xs 2) + (5 : Int32)) = N27) (nN27 : N27.toInt = (xs 2).toInt + 5) (eN28 : ((xs 3) + (5 : Int32)) = N28) (nN28 : N28.toInt = (xs 3).toInt + 5) (c29 : 6 < (xs 4).toInt) (eN30 : ((xs 2) + (6 : Int32)) = N30) (nN30 : N30.toInt = (xs 2).toInt + 6) (eN31 : ((xs 3) + (6 : Int32)) = N31) (nN31 : N31.toInt = (xs 3).toInt + 6) (c32 : 7 < (xs 4).toInt) (eN33 : ((xs 2) + (7 : Int32)) = N33) (nN33 : N33.toInt = (xs 2).toInt + 7) (eN34 : ((xs 3) + (7 : Int32)) = N34) (nN34 : N34.toInt = (xs 3).toInt + 7) (c35 : 8 < (xs 4).toInt) (eN36 : ((xs 2) + (8 : Int32)) = N36) (nN36 : N36.toInt = (xs 2).toInt + 8) (eN37 : ((xs 3) + (8 : Int32)) = N37) (nN37 : N37.toInt = (xs 3).toInt + 8) (c38 : 9 < (xs 4).toInt) (eN39 : ((xs 2) + (9 : Int32)) = N39) (nN39 : N39.toInt = (xs 2).toInt + 9) (eN40 : ((xs 3) + (9 : Int32)) = N40) (nN40 : N40.toInt = (xs 3).toInt + 9) (c41 : 10 < (xs 4).toInt) (eN42 : ((xs 2) + (10 : Int32)) = N42) (nN42 : N42.toInt = (xs 2).toInt + 10) (eN43 : ((xs 3) + (10 : Int32)) = N43) (nN43 : N43.toInt = (xs 3).toInt + 10) (c44 : 11 < (xs 4).toInt) (eN45 : ((xs 2) + (11 : Int32)) = N45) (nN45 : N45.toInt = (xs 2).toInt + 11) (eN46 : ((xs 3) + (11 : Int32)) = N46) (nN46 : N46.toInt = (xs 3).toInt + 11) (c47 : 12 < (xs 4).toInt) (eN48 : ((xs 2) + (12 : Int32)) = N48) (nN48 : N48.toInt = (xs 2).toInt + 12) (eN49 : ((xs 3) + (12 : Int32)) = N49) (nN49 : N49.toInt = (xs 3).toInt + 12) (c50 : 13 < (xs 4).toInt) (eN51 : ((xs 2) + (13 : Int32)) = N51) (nN51 : N51.toInt = (xs 2).toInt + 13) (eN52 : ((xs 3) + (13 : Int32)) = N52) (nN52 : N52.toInt = (xs 3).toInt + 13) (c53 : 14 < (xs 4).toInt) (eN54 : ((xs 2) + (14 : Int32)) = N54) (nN54 : N54.toInt = (xs 2).toInt + 14) (eN55 : ((xs 3) + (14 : Int32)) = N55) (nN55 : N55.toInt = (xs 3).toInt + 14) (c56 : 15 < (xs 4).toInt) : ∃ w1, xEv (d + 20) 287 23 [(4, Value.int 0), (3, Value.ref 194), (2, Value.ref 128), (1, Value.ref 7), (0, Value.ref 0)] [] (W0 6 xs) (fun o' w' => o' = .inl (some (Value.int 1)) ∧ w' = w1) ∧ w1.length ≤ 220 ∧ xsz w1 ≤ 200000 := by
  have f0 : ((xs 2) + (0 : Int32)).toInt = (xs 2).toInt + 0 := xadd_g rfl rfl (by omega) (by omega)
  have f1 : ((xs 3) + (0 : Int32)).toInt = (xs 3).toInt + 0 := xadd_g rfl rfl (by omega) (by omega)
  have f2 : ((xs 2) + (15 : Int32)).toInt = (xs 2).toInt + 15 := xadd_g rfl rfl (by omega) (by omega)
  have f3 : ((xs 3) + (15 : Int32)).toInt = (xs 3).toInt + 15 := xadd_g rfl rfl (by omega) (by omega)
  refine ⟨(((((((((((((((((((((((((W0 6 xs).set 20 (Sum.inr (3, [Value.ref 21, Value.int 0]))).set 22 (Sum.inr (3, [Value.ref 23, Value.int 0]))).set 19 (Sum.inr (5, [Value.ref 20, Value.ref 22, Value.ref 24, Value.ref 26, Value.int 0, Value.int 0, Value.int 0, Value.int 0, Value.int 0, Value.int 0, Value.int 0, Value.int 0]))).set 19 (Sum.inr (5, [Value.ref 20, Value.ref 22, Value.ref 24, Value.ref 26, Value.int 0, Value.int 1, Value.int 0, Value.int 0, Value.int 0, Value.int 0, Value.int 0, Value.int 0]))).set 19 (Sum.inr (5, [Value.ref 20, Value.ref 22, Value.ref 24, Value.ref 26, Value.int 0, Value.int 1, Value.int 0, Value.int 0, Value.int 0, Value.int 0, Value.int 0, Value.int 0]))).set 19 (Sum.inr (5, [Value.ref 20, Value.ref 22, Value.ref 24, Value.ref 26, Value.int 0, Value.int 1, Value.int 0, Value.int 0, Value.int 0, Value.int 0, Value.int 0, Value.int 0]))).set 19 (Sum.inr (5, [Value.ref 20, Value.ref 22, Value.ref 24, Value.ref 26, Value.int 0, Value.int 1, Value.int 0, Value.int 0, Value.int 0, Value.int 0, Value.int 0, Value.int 0]))).set 19 (Sum.inr (5, [Value.ref 20, Value.ref 22, Value.ref 24, Value.ref 26, Value.int 0, Value.int 1, Value.int 0, Value.int 0, Value.int 0, Value.int 0, Value.int 0, Value.int 0]))).set 19 (Sum.inr (5, [Value.ref 20, Value.ref 22, Value.ref 24, Value.ref 26, Value.int 0, Value.int 1, Value.int 0, Value.int 0, Value.int 0, Value.int 0, Value.int 0, Value.int 0]))).set 19 (Sum.inr (5, [Value.ref 20, Value.ref 22, Value.ref 24, Value.ref 26, Value.int 0, Value.int 1, Value.int 0, Value.int 0, Value.int 0, Value.int 0, Value.int 0, Value.int 0]))).set 19 (Sum.inr (5, [Value.ref 20, Value.ref 22, Value.ref 24, Value.ref 26, Value.int 0, Value.int 1, Value.int 0, Value.int 0, Value.int 0, Value.int 0, Value.int 0, Value.int 0]))).set 19 (Sum.inr (5, [Value.ref 20, Value.ref 22, Value.ref 24, Value.ref 26, Value.int 0, Value.int 1, Value.int 0, Value.int 0, Value.int 0, Value.int 0, Value.int 0, Value.int 0]))).set 19 (Sum.inr (5, [Value.ref 20, Value.ref 22, Value.ref 24, Value.ref 26, Value.int 0, Value.int 1, Value.int 0, Value.int 0, Value.int 0, Value.int 0, Value.int 0, Value.int 0]))).set 19 (Sum.inr (5, [Value.ref 20, Value.ref 22, Value.ref 24, Value.ref 26, Value.int 0, Value.int 1, Value.int 0, Value.int 0, Value.int 0, Value.int 0, Value.int 0, Value.int 0]))).set 19 (Sum.inr (5, [Value.ref 20, Value.ref 22, Value.ref 24, Value.ref 26, Value.int 0, Value.int 1, Value.int 0, Value.int 0, Value.int 0, Value.int 0, Value.int 0, Value.int 0]))).set 19 (Sum.inr (5, [Value.ref 20, Value.ref 22, Value.ref 24, Value.ref 26, Value.int 0, Value.int 1, Value.int 0, Value.int 0, Value.int 0, Value.int 0, Value.int 0, Value.int 0]))).set 19 (Sum.inr (5, [Value.ref 20, Value.ref 22, Value.ref 24, Value.ref 26, Value.int 0, Value.int 1, Value.int 0, Value.int 0, Value.int 0, Value.int 0, Value.int 0, Value.int 0]))).set 19 (Sum.inr (5, [Value.ref 20, Value.ref 22, Value.ref 24, Value.ref 26, Value.int 0, Value.int 1, Value.int 0, Value.int 0, Value.int 0, Value.int 0, Value.int 0, Value.int 0]))).set 19 (Sum.inr (5, [Value.ref 20, Value.ref 22, Value.ref 24, Value.ref 26, Value.int 0, Value.int 1, Value.int 0, Value.int 0, Value.int 0, Value.int 0, Value.int 0, Value.int 0]))).set (30 + 3 * (xs 1).toInt.toNat) (Sum.inr (2, [Value.int 64, Value.int 0, Value.int 0, Value.int 0, Value.ref (31 + 3 * (xs 1).toInt.toNat)]))).set 194 (Sum.inl (3, 1, xup (fun _ => Value.long 0) (0 : Int32).toInt.toNat (Value.long 0)))).set 128 (Sum.inr (12, [Value.ref 129, Value.ref 131, Value.ref 133, Value.ref 135, Value.ref 137, Value.ref 139, Value.ref 141, Value.ref 143, Value.ref 145, Value.ref 147, Value.ref 149, Value.ref 151, Value.ref 153, Value.ref 154, Value.ref 155, Value.ref 156, Value.ref 157, Value.int (-16384), Value.int 16384, Value.int 0, Value.int 0, Value.int 0, Value.ref 158, Value.ref 159, Value.int 0, Value.int 0, Value.int 0, Value.int 0, Value.int 0, Value.int 0, Value.int 0, Value.int 0]))).set 154 (Sum.inl (0, 17, xup (fun _ => Value.int 0) (xs 1).toInt.toNat (Value.int 0)))).set 156 (Sum.inl (2, 17, xup (fun _ => Value.int 0) (xs 1).toInt.toNat (Value.int 0)))), ?_, (show xLs _ 220 200000 from ?_)⟩
  · refine i_287_23 (x := 0) rfl ?_
    refine i_287_25 (x := 0) rfl ?_
    refine i_287_26 (c := 6) W0_0 (by decide) ?_
    refine i_287_27 ?_
    refine i_287_29 (c := 0) (by decide) ?_
    refine i_287_30 (fun h => absurd h (by decide)) (fun _ => ?_)
    refine i_287_33 (x := 0) rfl ?_
    refine i_287_34 (x := 0) rfl ?_
    refine i_287_36 (v := Value.int (xs 0)) W0_0 (by decide) (by decide) rfl ?_
    refine i_287_37 ?_
    refine i_287_39 (c := 11) (show ((xs 0) &&& (31 : Int32)) = 11 from (xge_c (n := 11) (by omega) rfl)) ?_
    refine i_287_40_11 rfl ?_
    refine i_287_1149 (x := 7) rfl ?_
    refine i_287_1150 (x := 0) rfl ?_
    refine i_287_1151 (x := 0) rfl ?_
    refine i_287_1153 ?_
    refine i_287_1154 (c := 1) (by decide) ?_
    refine i_287_1155 (v := Value.int (xs 1)) W0_0 (by decide) (by decide) rfl ?_
    refine i_287_1156 (x := 0) rfl ?_
    refine i_287_1157 (x := 0) rfl ?_
    refine i_287_1159 ?_
    refine i_287_1160 (c := 2) (by decide) ?_
    refine i_287_1161 (v := Value.int (xs 2)) W0_0 (by decide) (by decide) rfl ?_
    refine i_287_1162 (x := 0) rfl ?_
    refine i_287_1163 (x := 0) rfl ?_
    refine i_287_1165 ?_
    refine i_287_1166 (c := 3) (by decide) ?_
    refine i_287_1167 (v := Value.int (xs 3)) W0_0 (by decide) (by decide) rfl ?_
    refine i_287_1168 (x := 0) rfl ?_
    refine i_287_1169 (x := 0) rfl ?_
    refine i_287_1171 ?_
    refine i_287_1172 (c := 4) (by decide) ?_
    refine i_287_1173 (v := Value.int (xs 4)) W0_0 (by decide) (by decide) rfl ?_
    refine i_287_1174 (x := 0) rfl ?_
    refine i_287_1175 (x := 0) rfl ?_
    refine i_287_1177 ?_
    refine i_287_1178 (c := 5) (by decide) ?_
    refine i_287_1179 (v := Value.int (xs 5)) W0_0 (by decide) (by decide) rfl ?_
    refine i_287_1180 (x := 194) rfl ?_
    refine i_287_1181 (Nat.le_of_ble_eq_true rfl) (p_114_9 W0_7 (by omega) (by omega) (by omega) (by omega) (by omega) (by omega) (show ((xs 2) + (xs 4)) = N6 from eN6) (by omega) (by omega) (by omega) (show ((xs 3) + (xs 4)) = N10 from eN10) (by omega) (by omega) (by omega) W0_19 W0_20 W0_22 (by omega) (show ((xs 2) + (0 : Int32)) = 0 from (xge_c (n := 0) (by omega) rfl)) W0_8 (greg_at (by decide)) (show ((xs 3) + (0 : Int32)) = 0 from (xge_c (n := 0) (by omega) rfl)) W0_30 (by omega) (show ((xs 2) + (1 : Int32)) = N15 from eN15) (by omega) (by omega) (greg_at (by omega)) (show ((xs 3) + (1 : Int32)) = N16 from eN16) (by omega) (by omega) (greg_at (by omega)) (by omega) (by omega) (by omega) (W0_reg (by omega)) (by omega) (by omega) (by omega) (W0_reg (by omega)) (by omega) (show ((xs 2) + (2 : Int32)) = N18 from eN18) (by omega) (by omega) (greg_at (by omega)) (show ((xs 3) + (2 : Int32)) = N19 from eN19) (by omega) (by omega) (greg_at (by omega)) (by omega) (by omega) (by omega) (W0_reg (by omega)) (by omega) (by omega) (by omega) (W0_reg (by omega)) (by omega) (show ((xs 2) + (3 : Int32)) = N21 from eN21) (by omega) (by omega) (greg_at (by omega)) (show ((xs 3) + (3 : Int32)) = N22 from eN22) (by omega) (by omega) (greg_at (by omega)) (by omega) (by omega) (by omega) (W0_reg (by omega)) (by omega) (by omega) (by omega) (W0_reg (by omega)) (by omega) (show ((xs 2) + (4 : Int32)) = N24 from eN24) (by omega) (by omega) (greg_at (by omega)) (show ((xs 3) + (4 : Int32)) = N25 from eN25) (by omega) (by omega) (greg_at (by omega)) (by omega) (by omega) (by omega) (W0_reg (by omega)) (by omega) (by omega) (by omega) (W0_reg (by omega)) (by omega) (show ((xs 2) + (5 : Int32)) = N27 from eN27) (by omega) (by omega) (greg_at (by omega)) (show ((xs 3) + (5 : Int32)) = N28 from eN28) (by omega) (by omega) (greg_at (by omega)) (by omega) (by omega) (by omega) (W0_reg (by omega)) (by omega) (by omega) (by omega) (W0_reg (by omega)) (by omega) (show ((xs 2) + (6 : Int32)) = N30 from eN30) (by omega) (by omega) (greg_at (by omega)) (show ((xs 3) + (6 : Int32)) = N31 from eN31) (by omega) (by omega) (greg_at (by omega)) (by omega) (by omega) (by omega) (W0_reg (by omega)) (by omega) (by omega) (by omega) (W0_reg (by omega)) (by omega) (show ((xs 2) + (7 : Int32)) = N33 from eN33) (by omega) (by omega) (greg_at (by omega)) (show ((xs 3) + (7 : Int32)) = N34 from eN34) (by omega) (by omega) (greg_at (by omega)) (by omega) (by omega) (by omega) (W0_reg (by omega)) (by omega) (by omega) (by omega) (W0_reg (by omega)) (by omega) (show ((xs 2) + (8 : Int32)) = N36 from eN36) (by omega) (by omega) (greg_at (by omega)) (show ((xs 3) + (8 : Int32)) = N37 from eN37) (by omega) (by omega) (greg_at (by omega)) (by omega) (by omega) (by omega) (W0_reg (by omega)) (by omega) (by omega) (by omega) (W0_reg (by omega)) (by omega) (show ((xs 2) + (9 : Int32)) = N39 from eN39) (by omega) (by omega) (greg_at (by omega)) (show ((xs 3) + (9 : Int32)) = N40 from eN40) (by omega) (by omega) (greg_at (by omega)) (by omega) (by omega) (by omega) (W0_reg (by omega)) (by omega) (by omega) (by omega) (W0_reg (by omega)) (by omega) (show ((xs 2) + (10 : Int32)) = N42 from eN42) (by omega) (by omega) (greg_at (by omega)) (show ((xs 3) + (10 : Int32)) = N43 from eN43) (by omega) (by omega) (greg_at (by omega)) (by omega) (by omega) (by omega) (W0_reg (by omega)) (by omega) (by omega) (by omega) (W0_reg (by omega)) (by omega) (show ((xs 2) + (11 : Int32)) = N45 from eN45) (by omega) (by omega) (greg_at (by omega)) (show ((xs 3) + (11 : Int32)) = N46 from eN46) (by omega) (by omega) (greg_at (by omega)) (by omega) (by omega) (by omega) (W0_reg (by omega)) (by omega) (by omega) (by omega) (W0_reg (by omega)) (by omega) (show ((xs 2) + (12 : Int32)) = N48 from eN48) (by omega) (by omega) (greg_at (by omega)) (show ((xs 3) + (12 : Int32)) = N49 from eN49) (by omega) (by omega) (greg_at (by omega)) (by omega) (by omega) (by omega) (W0_reg (by omega)) (by omega) (by omega) (by omega) (W0_reg (by omega)) (by omega) (show ((xs 2) + (13 : Int32)) = N51 from eN51) (by omega) (by omega) (greg_at (by omega)) (show ((xs 3) + (13 : Int32)) = N52 from eN52) (by omega) (by omega) (greg_at (by omega)) (by omega) (by omega) (by omega) (W0_reg (by omega)) (by omega) (by omega) (by omega) (W0_reg (by omega)) (by omega) (show ((xs 2) + (14 : Int32)) = N54 from eN54) (by omega) (by omega) (greg_at (by omega)) (show ((xs 3) + (14 : Int32)) = N55 from eN55) (by omega) (by omega) (greg_at (by omega)) (by omega) (by omega) (by omega) (W0_reg (by omega)) (by omega) (by omega) (by omega) (W0_reg (by omega)) (by omega) (show ((xs 2) + (15 : Int32)) = 15 from (xge_c (n := 15) (by omega) rfl)) (greg_at (by decide)) (show ((xs 3) + (15 : Int32)) = 15 from (xge_c (n := 15) (by omega) rfl)) W0_75 (greg_at (by omega)) (by omega) (by omega) (by omega) (W0_reg (by omega)) (by omega) (by omega) W0_194) ?_
    refine i_287_1184 (lv2 := [(5, Value.int 0), (4, Value.int 0), (3, Value.ref 194), (2, Value.ref 128), (1, Value.ref 7), (0, Value.ref 0)]) rfl ?_
    refine i_287_1186 (x := 128) rfl ?_
    refine i_287_1187 (x := 0) rfl ?_
    refine i_287_1188 (x := 0) rfl ?_
    refine i_287_1190 ?_
    refine i_287_1191 (c := 1) (by decide) ?_
    refine i_287_1192 (v := Value.int (xs 1)) (xgn (by decide) (xgn (by omega) (xgn (by decide) (xgn (by decide) (xgn (by decide) (xgn (by decide) (xgn (by decide) (xgn (by decide) (xgn (by decide) (xgn (by decide) (xgn (by decide) (xgn (by decide) (xgn (by decide) (xgn (by decide) (xgn (by decide) (xgn (by decide) (xgn (by decide) (xgn (by decide) (xgn (by decide) (xgn (by decide) (xgn (by decide) W0_0))))))))))))))))))))) (by decide) (by decide) rfl ?_
    refine i_287_1193 (x := 0) rfl ?_
    refine i_287_1194 (x := 0) rfl ?_
    refine i_287_1196 ?_
    refine i_287_1197 (c := 2) (by decide) ?_
    refine i_287_1198 (v := Value.int (xs 2)) (xgn (by decide) (xgn (by omega) (xgn (by decide) (xgn (by decide) (xgn (by decide) (xgn (by decide) (xgn (by decide) (xgn (by decide) (xgn (by decide) (xgn (by decide) (xgn (by decide) (xgn (by decide) (xgn (by decide) (xgn (by decide) (xgn (by decide) (xgn (by decide) (xgn (by decide) (xgn (by decide) (xgn (by decide) (xgn (by decide) (xgn (by decide) W0_0))))))))))))))))))))) (by decide) (by decide) rfl ?_
    refine i_287_1199 (x := 0) rfl ?_
    refine i_287_1200 (x := 0) rfl ?_
    refine i_287_1202 ?_
    refine i_287_1203 (c := 3) (by decide) ?_
    refine i_287_1204 (v := Value.int (xs 3)) (xgn (by decide) (xgn (by omega) (xgn (by decide) (xgn (by decide) (xgn (by decide) (xgn (by decide) (xgn (by decide) (xgn (by decide) (xgn (by decide) (xgn (by decide) (xgn (by decide) (xgn (by decide) (xgn (by decide) (xgn (by decide) (xgn (by decide) (xgn (by decide) (xgn (by decide) (xgn (by decide) (xgn (by decide) (xgn (by decide) (xgn (by decide) W0_0))))))))))))))))))))) (by decide) (by decide) rfl ?_
    refine i_287_1205 (x := 0) rfl ?_
    refine i_287_1206 (x := 0) rfl ?_
    refine i_287_1208 ?_
    refine i_287_1209 (c := 4) (by decide) ?_
    refine i_287_1210 (v := Value.int (xs 4)) (xgn (by decide) (xgn (by omega) (xgn (by decide) (xgn (by decide) (xgn (by decide) (xgn (by decide) (xgn (by decide) (xgn (by decide) (xgn (by decide) (xgn (by decide) (xgn (by decide) (xgn (by decide) (xgn (by decide) (xgn (by decide) (xgn (by decide) (xgn (by decide) (xgn (by decide) (xgn (by decide) (xgn (by decide) (xgn (by decide) (xgn (by decide) W0_0))))))))))))))))))))) (by decide) (by decide) rfl ?_
    refine i_287_1211 (x := 0) rfl ?_
    refine i_287_1212 (x := 0) rfl ?_
    refine i_287_1214 ?_
    refine i_287_1215 (c := 5) (by decide) ?_
    refine i_287_1216 (v := Value.int (xs 5)) (xgn (by decide) (xgn (by omega) (xgn (by decide) (xgn (by decide) (xgn (by decide) (xgn (by decide) (xgn (by decide) (xgn (by decide) (xgn (by decide) (xgn (by decide) (xgn (by decide) (xgn (by decide) (xgn (by decide) (xgn (by decide) (xgn (by decide) (xgn (by decide) (xgn (by decide) (xgn (by decide) (xgn (by decide) (xgn (by decide) (xgn (by decide) W0_0))))))))))))))))))))) (by decide) (by decide) rfl ?_
    refine i_287_1217 (xgn (by decide) (xgn (by omega) (xgn (by decide) (xgn (by decide) (xgn (by decide) (xgn (by decide) (xgn (by decide) (xgn (by decide) (xgn (by decide) (xgn (by decide) (xgn (by decide) (xgn (by decide) (xgn (by decide) (xgn (by decide) (xgn (by decide) (xgn (by decide) (xgn (by decide) (xgn (by decide) (xgn (by decide) (xgn (by decide) (xgn (by decide) W0_128))))))))))))))))))))) (Nat.le_of_ble_eq_true rfl) (p_230_10 (xgn (by decide) (xgn (by omega) (xgn (by decide) (xgn (by decide) (xgn (by decide) (xgn (by decide) (xgn (by decide) (xgn (by decide) (xgn (by decide) (xgn (by decide) (xgn (by decide) (xgn (by decide) (xgn (by decide) (xgn (by decide) (xgn (by decide) (xgn (by decide) (xgn (by decide) (xgn (by decide) (xgn (by decide) (xgn (by decide) (xgn (by decide) W0_128))))))))))))))))))))) (by omega) (by omega) (by omega) (by omega) (by omega) (by omega) (by omega) (by omega) (show ((xs 2) + (xs 4)) = N6 from eN6) (by omega) (show ((xs 3) + (xs 4)) = N10 from eN10) (by omega) (by omega) (by omega) (by omega) (show ((xs 2) + (0 : Int32)) = 0 from (xge_c (n := 0) (by omega) rfl)) (show ((xs 3) + (0 : Int32)) = 0 from (xge_c (n := 0) (by omega) rfl)) (xgn (by decide) (xgn (by omega) (xgn (by decide) (xgn (by decide) (xgn (by decide) (xgn (by decide) (xgn (by decide) (xgn (by decide) (xgn (by decide) (xgn (by decide) (xgn (by decide) (xgn (by decide) (xgn (by decide) (xgn (by decide) (xgn (by decide) (xgn (by decide) (xgn (by decide) (xgn (by decide) (xgn (by decide) (xgn (by decide) (xgn (by decide) W0_154))))))))))))))))))))) (xgn (by decide) (xgn (by omega) (xgn (by decide) (xgn (by decide) (xgn (by decide) (xgn (by decide) (xgn (by decide) (xgn (by decide) (xgn (by decide) (xgn (by decide) (xgn (by decide) (xgn (by decide) (xgn (by decide) (xgn (by decide) (xgn (by decide) (xgn (by decide) (xgn (by decide) (xgn (by decide) (xgn (by decide) (xgn (by decide) (xgn (by decide) W0_156))))))))))))))))))))) (xgn (by decide) (xgn (by omega) (xgn (by decide) (xgn (by decide) (xgn (by decide) (xgn (by decide) (xgn (by decide) (xgn (by decide) (xgn (by decide) (xgn (by decide) (xgn (by decide) (xgn (by decide) (xgn (by decide) (xgn (by decide) (xgn (by decide) (xgn (by decide) (xgn (by decide) (xgn (by decide) (xgn (by decide) (xgn (by decide) (xgn (by decide) W0_155))))))))))))))))))))) (xgn (by decide) (xgn (by omega) (xgn (by decide) (xgn (by decide) (xgn (by decide) (xgn (by decide) (xgn (by decide) (xgn (by decide) (xgn (by decide) (xgn (by decide) (xgn (by decide) (xgn (by decide) (xgn (by decide) (xgn (by decide) (xgn (by decide) (xgn (by decide) (xgn (by decide) (xgn (by decide) (xgn (by decide) (xgn (by decide) (xgn (by decide) W0_153))))))))))))))))))))) (gprec_at (by decide)) (by omega) (show ((xs 2) + (1 : Int32)) = N15 from eN15) (show ((xs 3) + (1 : Int32)) = N16 from eN16) (by omega) (by omega) (by omega) (by omega) (gprec_at (by omega)) (gprec_at (by omega)) (by omega) (show ((xs 2) + (2 : Int32)) = N18 from eN18) (show ((xs 3) + (2 : Int32)) = N19 from eN19) (by omega) (by omega) (by omega) (by omega) (gprec_at (by omega)) (gprec_at (by omega)) (by omega) (show ((xs 2) + (3 : Int32)) = N21 from eN21) (show ((xs 3) + (3 : Int32)) = N22 from eN22) (by omega) (by omega) (by omega) (by omega) (gprec_at (by omega)) (gprec_at (by omega)) (by omega) (show ((xs 2) + (4 : Int32)) = N24 from eN24) (show ((xs 3) + (4 : Int32)) = N25 from eN25) (by omega) (by omega) (by omega) (by omega) (gprec_at (by omega)) (gprec_at (by omega)) (by omega) (show ((xs 2) + (5 : Int32)) = N27 from eN27) (show ((xs 3) + (5 : Int32)) = N28 from eN28) (by omega) (by omega) (by omega) (by omega) (gprec_at (by omega)) (gprec_at (by omega)) (by omega) (show ((xs 2) + (6 : Int32)) = N30 from eN30) (show ((xs 3) + (6 : Int32)) = N31 from eN31) (by omega) (by omega) (by omega) (by omega) (gprec_at (by omega)) (gprec_at (by omega)) (by omega) (show ((xs 2) + (7 : Int32)) = N33 from eN33) (show ((xs 3) + (7 : Int32)) = N34 from eN34) (by omega) (by omega) (by omega) (by omega) (gprec_at (by omega)) (gprec_at (by omega)) (by omega) (show ((xs 2) + (8 : Int32)) = N36 from eN36) (show ((xs 3) + (8 : Int32)) = N37 from eN37) (by omega) (by omega) (by omega) (by omega) (gprec_at (by omega)) (gprec_at (by omega)) (by omega) (show ((xs 2) + (9 : Int32)) = N39 from eN39) (show ((xs 3) + (9 : Int32)) = N40 from eN40) (by omega) (by omega) (by omega) (by omega) (gprec_at (by omega)) (gprec_at (by omega)) (by omega) (show ((xs 2) + (10 : Int32)) = N42 from eN42) (show ((xs 3) + (10 : Int32)) = N43 from eN43) (by omega) (by omega) (by omega) (by omega) (gprec_at (by omega)) (gprec_at (by omega)) (by omega) (show ((xs 2) + (11 : Int32)) = N45 from eN45) (show ((xs 3) + (11 : Int32)) = N46 from eN46) (by omega) (by omega) (by omega) (by omega) (gprec_at (by omega)) (gprec_at (by omega)) (by omega) (show ((xs 2) + (12 : Int32)) = N48 from eN48) (show ((xs 3) + (12 : Int32)) = N49 from eN49) (by omega) (by omega) (by omega) (by omega) (gprec_at (by omega)) (gprec_at (by omega)) (by omega) (show ((xs 2) + (13 : Int32)) = N51 from eN51) (show ((xs 3) + (13 : Int32)) = N52 from eN52) (by omega) (by omega) (by omega) (by omega) (gprec_at (by omega)) (gprec_at (by omega)) (by omega) (show ((xs 2) + (14 : Int32)) = N54 from eN54) (show ((xs 3) + (14 : Int32)) = N55 from eN55) (by omega) (by omega) (by omega) (by omega) (gprec_at (by omega)) (gprec_at (by omega)) (by omega) (show ((xs 2) + (15 : Int32)) = 15 from (xge_c (n := 15) (by omega) rfl)) (show ((xs 3) + (15 : Int32)) = 15 from (xge_c (n := 15) (by omega) rfl)) (gprec_at (by decide)) (by omega)) ?_
    refine i_287_1220 (lv2 := [(6, Value.int 0), (5, Value.int 0), (4, Value.int 0), (3, Value.ref 194), (2, Value.ref 128), (1, Value.ref 7), (0, Value.ref 0)]) rfl ?_
    refine i_287_1222 (x := 128) rfl ?_
    refine i_287_1223 (xgn (by decide) (xgn (by decide) (xgs (xgn (by decide) (xgn (by omega) (xgn (by decide) (xgn (by decide) (xgn (by decide) (xgn (by decide) (xgn (by decide) (xgn (by decide) (xgn (by decide) (xgn (by decide) (xgn (by decide) (xgn (by decide) (xgn (by decide) (xgn (by decide) (xgn (by decide) (xgn (by decide) (xgn (by decide) (xgn (by decide) (xgn (by decide) (xgn (by decide) (xgn (by decide) W0_128)))))))))))))))))))))))) (Nat.le_of_ble_eq_true rfl) (p_165_1 (xgn (by decide) (xgn (by decide) (xgs (xgn (by decide) (xgn (by omega) (xgn (by decide) (xgn (by decide) (xgn (by decide) (xgn (by decide) (xgn (by decide) (xgn (by decide) (xgn (by decide) (xgn (by decide) (xgn (by decide) (xgn (by decide) (xgn (by decide) (xgn (by decide) (xgn (by decide) (xgn (by decide) (xgn (by decide) (xgn (by decide) (xgn (by decide) (xgn (by decide) (xgn (by decide) W0_128))))))))))))))))))))))))) ?_
    refine i_287_1226 (x := 0) rfl ?_
    refine i_287_1228 (fun _ => ?_) (fun h => absurd h (by decide))
    refine i_287_1233 (x := 0) rfl ?_
    refine i_287_1235 (fun h => absurd h (by decide)) (fun _ => ?_)
    refine i_287_1238 (x := 194) rfl ?_
    refine i_287_1239 ?_
    refine i_287_1240 (v := Value.long 0) (xgn (by decide) (xgn (by decide) (xgn (by decide) (xgs (xgn (by omega) (xgn (by decide) (xgn (by decide) (xgn (by decide) (xgn (by decide) (xgn (by decide) (xgn (by decide) (xgn (by decide) (xgn (by decide) (xgn (by decide) (xgn (by decide) (xgn (by decide) (xgn (by decide) (xgn (by decide) (xgn (by decide) (xgn (by decide) (xgn (by decide) (xgn (by decide) (xgn (by decide) (xgn (by decide) W0_194)))))))))))))))))))))))) (by decide) (by decide) xup_s ?_
    refine i_287_1241 (x := 0) rfl ?_
    refine i_287_1243 (c := 0) (by decide) ?_
    refine i_287_1244 (c := 0) (by decide) ?_
    refine i_287_1245 (fun _ => ?_) (fun h => absurd h (by decide))
    refine i_287_1250 ?_
    refine i_287_2154 (x := 0) (c := 6) (lv2 := [(4, Value.int 6), (6, Value.int 0), (5, Value.int 0), (3, Value.ref 194), (2, Value.ref 128), (1, Value.ref 7), (0, Value.ref 0)]) rfl (by decide) rfl ?_
    refine i_287_2157 ?_
    refine i_287_23 (x := 6) rfl ?_
    refine i_287_25 (x := 0) rfl ?_
    refine i_287_26 (c := 6) (xgn (by decide) (xgn (by decide) (xgn (by decide) (xgn (by decide) (xgn (by omega) (xgn (by decide) (xgn (by decide) (xgn (by decide) (xgn (by decide) (xgn (by decide) (xgn (by decide) (xgn (by decide) (xgn (by decide) (xgn (by decide) (xgn (by decide) (xgn (by decide) (xgn (by decide) (xgn (by decide) (xgn (by decide) (xgn (by decide) (xgn (by decide) (xgn (by decide) (xgn (by decide) (xgn (by decide) W0_0)))))))))))))))))))))))) (by decide) ?_
    refine i_287_27 ?_
    refine i_287_29 (c := 0) (by decide) ?_
    refine i_287_30 (fun _ => ?_) (fun h => absurd h (by decide))
    refine i_287_2160 ?_
    exact i_287_2161 rfl ⟨rfl, rfl⟩
  · refine xLs.set ?_ (xgn (by decide) (xgn (by decide) (xgn (by decide) (xgn (by omega) (xgn (by decide) (xgn (by decide) (xgn (by decide) (xgn (by decide) (xgn (by decide) (xgn (by decide) (xgn (by decide) (xgn (by decide) (xgn (by decide) (xgn (by decide) (xgn (by decide) (xgn (by decide) (xgn (by decide) (xgn (by decide) (xgn (by decide) (xgn (by decide) (xgn (by decide) (xgn (by decide) (xgn (by decide) W0_156))))))))))))))))))))))) xcs_a
    refine xLs.set ?_ (xgn (by decide) (xgn (by decide) (xgn (by omega) (xgn (by decide) (xgn (by decide) (xgn (by decide) (xgn (by decide) (xgn (by decide) (xgn (by decide) (xgn (by decide) (xgn (by decide) (xgn (by decide) (xgn (by decide) (xgn (by decide) (xgn (by decide) (xgn (by decide) (xgn (by decide) (xgn (by decide) (xgn (by decide) (xgn (by decide) (xgn (by decide) (xgn (by decide) W0_154)))))))))))))))))))))) xcs_a
    refine xLs.set ?_ (xgn (by decide) (xgn (by omega) (xgn (by decide) (xgn (by decide) (xgn (by decide) (xgn (by decide) (xgn (by decide) (xgn (by decide) (xgn (by decide) (xgn (by decide) (xgn (by decide) (xgn (by decide) (xgn (by decide) (xgn (by decide) (xgn (by decide) (xgn (by decide) (xgn (by decide) (xgn (by decide) (xgn (by decide) (xgn (by decide) (xgn (by decide) W0_128))))))))))))))))))))) xcs_o
    refine xLs.set ?_ (xgn (by omega) (xgn (by decide) (xgn (by decide) (xgn (by decide) (xgn (by decide) (xgn (by decide) (xgn (by decide) (xgn (by decide) (xgn (by decide) (xgn (by decide) (xgn (by decide) (xgn (by decide) (xgn (by decide) (xgn (by decide) (xgn (by decide) (xgn (by decide) (xgn (by decide) (xgn (by decide) (xgn (by decide) (xgn (by decide) W0_194)))))))))))))))))))) xcs_a
    refine xLs.set ?_ (xgn (by omega) (xgn (by omega) (xgn (by omega) (xgn (by omega) (xgn (by omega) (xgn (by omega) (xgn (by omega) (xgn (by omega) (xgn (by omega) (xgn (by omega) (xgn (by omega) (xgn (by omega) (xgn (by omega) (xgn (by omega) (xgn (by omega) (xgn (by omega) (xgn (by omega) (xgn (by omega) (xgn (by omega) (W0_reg (by omega))))))))))))))))))))) xcs_o
    refine xLs.set ?_ (xgs (xgs (xgs (xgs (xgs (xgs (xgs (xgs (xgs (xgs (xgs (xgs (xgs (xgs (xgs (xgs (xgn (by decide) (xgn (by decide) W0_19)))))))))))))))))) xcs_o
    refine xLs.set ?_ (xgs (xgs (xgs (xgs (xgs (xgs (xgs (xgs (xgs (xgs (xgs (xgs (xgs (xgs (xgs (xgn (by decide) (xgn (by decide) W0_19))))))))))))))))) xcs_o
    refine xLs.set ?_ (xgs (xgs (xgs (xgs (xgs (xgs (xgs (xgs (xgs (xgs (xgs (xgs (xgs (xgs (xgn (by decide) (xgn (by decide) W0_19)))))))))))))))) xcs_o
    refine xLs.set ?_ (xgs (xgs (xgs (xgs (xgs (xgs (xgs (xgs (xgs (xgs (xgs (xgs (xgs (xgn (by decide) (xgn (by decide) W0_19))))))))))))))) xcs_o
    refine xLs.set ?_ (xgs (xgs (xgs (xgs (xgs (xgs (xgs (xgs (xgs (xgs (xgs (xgs (xgn (by decide) (xgn (by decide) W0_19)))))))))))))) xcs_o
    refine xLs.set ?_ (xgs (xgs (xgs (xgs (xgs (xgs (xgs (xgs (xgs (xgs (xgs (xgn (by decide) (xgn (by decide) W0_19))))))))))))) xcs_o
    refine xLs.set ?_ (xgs (xgs (xgs (xgs (xgs (xgs (xgs (xgs (xgs (xgs (xgn (by decide) (xgn (by decide) W0_19)))))))))))) xcs_o
    refine xLs.set ?_ (xgs (xgs (xgs (xgs (xgs (xgs (xgs (xgs (xgs (xgn (by decide) (xgn (by decide) W0_19))))))))))) xcs_o
    refine xLs.set ?_ (xgs (xgs (xgs (xgs (xgs (xgs (xgs (xgs (xgn (by decide) (xgn (by decide) W0_19)))))))))) xcs_o
    refine xLs.set ?_ (xgs (xgs (xgs (xgs (xgs (xgs (xgs (xgn (by decide) (xgn (by decide) W0_19))))))))) xcs_o
    refine xLs.set ?_ (xgs (xgs (xgs (xgs (xgs (xgs (xgn (by decide) (xgn (by decide) W0_19)))))))) xcs_o
    refine xLs.set ?_ (xgs (xgs (xgs (xgs (xgs (xgn (by decide) (xgn (by decide) W0_19))))))) xcs_o
    refine xLs.set ?_ (xgs (xgs (xgs (xgs (xgn (by decide) (xgn (by decide) W0_19)))))) xcs_o
    refine xLs.set ?_ (xgs (xgs (xgs (xgn (by decide) (xgn (by decide) W0_19))))) xcs_o
    refine xLs.set ?_ (xgs (xgs (xgn (by decide) (xgn (by decide) W0_19)))) xcs_o
    refine xLs.set ?_ (xgs (xgn (by decide) (xgn (by decide) W0_19))) xcs_o
    refine xLs.set ?_ (xgn (by decide) (xgn (by decide) W0_19)) xcs_o
    refine xLs.set ?_ (xgn (by decide) W0_22) xcs_o
    refine xLs.set ?_ (W0_20) xcs_o
    exact ⟨Nat.le_trans (Nat.le_of_eq W0_len) (by decide), Nat.le_trans (Nat.le_of_eq W0_sz) (by decide)⟩
theorem p_115_10 {d : Nat} {w : xW} {a0 : Int32} {a1 : Int32} {a2 : Int32} {a3 : Int32} {a4 : Int32} {a5 : Int32} {a6 : Int32} {g0 : Nat → Value} {h0 : Nat} {h1 : Nat} {h2 : Nat} {h3 : Nat} {a7 : Int32} {h4 : Nat} {a8 : Int32} {h5 : Nat} {h6 : Nat} {h7 : Nat} {a9 : Int32} {h8 : Nat} {a10 : Int32} {h9 : Nat} {h10 : Nat} {h11 : Nat} {a11 : Int32} {h12 : Nat} {a12 : Int32} {h13 : Nat} {h14 : Nat} {h15 : Nat} {a13 : Int32} {h16 : Nat} {a14 : Int32} {h17 : Nat} {h18 : Nat} {h19 : Nat} {a15 : Int32} {h20 : Nat} {a16 : Int32} {h21 : Nat} {h22 : Nat} {h23 : Nat} {a17 : Int32} {h24 : Nat} {a18 : Int32} {h25 : Nat} {h26 : Nat} {h27 : Nat} {a19 : Int32} {h28 : Nat} {a20 : Int32} {h29 : Nat} {h30 : Nat} {h31 : Nat} {a21 : Int32} {h32 : Nat} {a22 : Int32} {h33 : Nat} {h34 : Nat} {h35 : Nat} {a23 : Int32} {h36 : Nat} {a24 : Int32} {h37 : Nat} {h38 : Nat} {h39 : Nat} {a25 : Int32} {h40 : Nat} {a26 : Int32} {h41 : Nat} {h42 : Nat} {h43 : Nat} {a27 : Int32} {h44 : Nat} {a28 : Int32} {h45 : Nat} {h46 : Nat} {h47 : Nat} {a29 : Int32} {h48 : Nat} {a30 : Int32} {h49 : Nat} {h50 : Nat} {h51 : Nat} {a31 : Int32} {h52 : Nat} {a32 : Int32} {h53 : Nat} {h54 : Nat} {h55 : Nat} {a33 : Int32} {h56 : Nat} {a34 : Int32} {h57 : Nat} {h58 : Nat} {h59 : Nat} {h60 : Nat} {h61 : Nat} (e0 : 0 ≤ a0.toInt) (e1 : a0.toInt < 16) (e2 : 0 ≤ a1.toInt) (e3 : a1.toInt < 16) (e4 : 1 ≤ a3.toInt) (e5 : a3.toInt ≤ 16) (hg6 : (a1 + a3) = a5) (e7 : a5.toInt ≤ 16) (e8 : 0 ≤ a2.toInt) (e9 : a2.toInt < 16) (hg10 : (a2 + a3) = a6) (e11 : a6.toInt ≤ 16) (e12 : 0 ≤ a4.toInt) (e13 : a4.toInt ≤ 4) (hw14 : w[7]? = some (Sum.inr (0, [Value.ref 8, Value.ref 78, Value.ref 9, Value.ref 10, Value.ref 13, Value.ref 16, Value.ref 19, Value.ref 93, Value.ref 108, Value.ref 113, Value.ref 29, Value.int 0]))) (hw15 : w[19]? = some (Sum.inr (5, [Value.ref 20, Value.ref 22, Value.ref 24, Value.ref 26, Value.int 0, Value.int 0, Value.int 0, Value.int 0, Value.int 0, Value.int 0, Value.int 0, Value.int 0]))) (hw16 : w[20]? = some (Sum.inr (3, [Value.ref 21, Value.int 0]))) (hw17 : w[22]? = some (Sum.inr (3, [Value.ref 23, Value.int 0]))) (e18 : 0 < a3.toInt) (hg19 : (a1 + (0 : Int32)) = a1) (hw20 : w[8]? = some (Sum.inl (4, 16, g0))) (hg21 : g0 a1.toInt.toNat = Value.ref h0) (hg22 : (a2 + (0 : Int32)) = a2) (hg23 : g0 a2.toInt.toNat = Value.ref h1) (e24 : 19 ≠ h0) (e25 : 22 ≠ h0) (e26 : 20 ≠ h0) (hw27 : w[h0]? = some (Sum.inr (2, [Value.int 64, Value.int 0, Value.int 0, Value.int 0, Value.ref h2]))) (e28 : 19 ≠ h1) (e29 : 22 ≠ h1) (e30 : 20 ≠ h1) (hw31 : w[h1]? = some (Sum.inr (2, [Value.int 64, Value.int 0, Value.int 0, Value.int 0, Value.ref h3]))) (e32 : 1 < a3.toInt) (hg33 : (a1 + (1 : Int32)) = a7) (e34 : 0 ≤ a7.toInt) (e35 : a7.toInt < 16) (hg36 : g0 a7.toInt.toNat = Value.ref h4) (hg37 : (a2 + (1 : Int32)) = a8) (e38 : 0 ≤ a8.toInt) (e39 : a8.toInt < 16) (hg40 : g0 a8.toInt.toNat = Value.ref h5) (e41 : 19 ≠ h4) (e42 : 22 ≠ h4) (e43 : 20 ≠ h4) (hw44 : w[h4]? = some (Sum.inr (2, [Value.int 64, Value.int 0, Value.int 0, Value.int 0, Value.ref h6]))) (e45 : 19 ≠ h5) (e46 : 22 ≠ h5) (e47 : 20 ≠ h5) (hw48 : w[h5]? = some (Sum.inr (2, [Value.int 64, Value.int 0, Value.int 0, Value.int 0, Value.ref h7]))) (e49 : 2 < a3.toInt) (hg50 : (a1 + (2 : Int32)) = a9) (e51 : 0 ≤ a9.toInt) (e52 : a9.toInt < 16) (hg53 : g0 a9.toInt.toNat = Value.ref h8) (hg54 : (a2 + (2 : Int32)) = a10) (e55 : 0 ≤ a10.toInt) (e56 : a10.toInt < 16) (hg57 : g0 a10.toInt.toNat = Value.ref h9) (e58 : 19 ≠ h8) (e59 : 22 ≠ h8) (e60 : 20 ≠ h8) (hw61 : w[h8]? = some (Sum.inr (2, [Value.int 64, Value.int 0, Value.int 0, Value.int 0, Value.ref h10]))) (e62 : 19 ≠ h9) (e63 : 22 ≠ h9) (e64 : 20 ≠ h9) (hw65 : w[h9]? = some (Sum.inr (2, [Value.int 64, Value.int 0, Value.int 0, Value.int 0, Value.ref h11]))) (e66 : 3 < a3.toInt) (hg67 : (a1 + (3 : Int32)) = a11) (e68 : 0 ≤ a11.toInt) (e69 : a11.toInt < 16) (hg70 : g0 a11.toInt.toNat = Value.ref h12) (hg71 : (a2 + (3 : Int32)) = a12) (e72 : 0 ≤ a12.toInt) (e73 : a12.toInt < 16) (hg74 : g0 a12.toInt.toNat = Value.ref h13) (e75 : 19 ≠ h12) (e76 : 22 ≠ h12) (e77 : 20 ≠ h12) (hw78 : w[h12]? = some (Sum.inr (2, [Value.int 64, Value.int 0, Value.int 0, Value.int 0, Value.ref h14]))) (e79 : 19 ≠ h13) (e80 : 22 ≠ h13) (e81 : 20 ≠ h13) (hw82 : w[h13]? = some (Sum.inr (2, [Value.int 64, Value.int 0, Value.int 0, Value.int 0, Value.ref h15]))) (e83 : 4 < a3.toInt) (hg84 : (a1 + (4 : Int32)) = a13) (e85 : 0 ≤ a13.toInt) (e86 : a13.toInt < 16) (hg87 : g0 a13.toInt.toNat = Value.ref h16) (hg88 : (a2 + (4 : Int32)) = a14) (e89 : 0 ≤ a14.toInt) (e90 : a14.toInt < 16) (hg91 : g0 a14.toInt.toNat = Value.ref h17) (e92 : 19 ≠ h16) (e93 : 22 ≠ h16) (e94 : 20 ≠ h16) (hw95 : w[h16]? = some (Sum.inr (2, [Value.int 64, Value.int 0, Value.int 0, Value.int 0, Value.ref h18]))) (e96 : 19 ≠ h17) (e97 : 22 ≠ h17) (e98 : 20 ≠ h17) (hw99 : w[h17]? = some (Sum.inr (2, [Value.int 64, Value.int 0, Value.int 0, Value.int 0, Value.ref h19]))) (e100 : 5 < a3.toInt) (hg101 : (a1 + (5 : Int32)) = a15) (e102 : 0 ≤ a15.toInt) (e103 : a15.toInt < 16) (hg104 : g0 a15.toInt.toNat = Value.ref h20) (hg105 : (a2 + (5 : Int32)) = a16) (e106 : 0 ≤ a16.toInt) (e107 : a16.toInt < 16) (hg108 : g0 a16.toInt.toNat = Value.ref h21) (e109 : 19 ≠ h20) (e110 : 22 ≠ h20) (e111 : 20 ≠ h20) (hw112 : w[h20]? = some (Sum.inr (2, [Value.int 64, Value.int 0, Value.int 0, Value.int 0, Value.ref h22]))) (e113 : 19 ≠ h21) (e114 : 22 ≠ h21) (e115 : 20 ≠ h21) (hw116 : w[h21]? = some (Sum.inr (2, [Value.int 64, Value.int 0, Value.int 0, Value.int 0, Value.ref h23]))) (e117 : 6 < a3.toInt) (hg118 : (a1 + (6 : Int32)) = a17) (e119 : 0 ≤ a17.toInt) (e120 : a17.toInt < 16) (hg121 : g0 a17.toInt.toNat = Value.ref h24) (hg122 : (a2 + (6 : Int32)) = a18) (e123 : 0 ≤ a18.toInt) (e124 : a18.toInt < 16) (hg125 : g0 a18.toInt.toNat = Value.ref h25) (e126 : 19 ≠ h24) (e127 : 22 ≠ h24) (e128 : 20 ≠ h24) (hw129 : w[h24]? = some (Sum.inr (2, [Value.int 64, Value.int 0, Value.int 0, Value.int 0, Value.ref h26]))) (e130 : 19 ≠ h25) (e131 : 22 ≠ h25) (e132 : 20 ≠ h25) (hw133 : w[h25]? = some (Sum.inr (2, [Value.int 64, Value.int 0, Value.int 0, Value.int 0, Value.ref h27]))) (e134 : 7 < a3.toInt) (hg135 : (a1 + (7 : Int32)) = a19) (e136 : 0 ≤ a19.toInt) (e137 : a19.toInt < 16) (hg138 : g0 a19.toInt.toNat = Value.ref h28) (hg139 : (a2 + (7 : Int32)) = a20) (e140 : 0 ≤ a20.toInt) (e141 : a20.toInt < 16) (hg142 : g0 a20.toInt.toNat = Value.ref h29) (e143 : 19 ≠ h28) (e144 : 22 ≠ h28) (e145 : 20 ≠ h28) (hw146 : w[h28]? = some (Sum.inr (2, [Value.int 64, Value.int 0, Value.int 0, Value.int 0, Value.ref h30]))) (e147 : 19 ≠ h29) (e148 : 22 ≠ h29) (e149 : 20 ≠ h29) (hw150 : w[h29]? = some (Sum.inr (2, [Value.int 64, Value.int 0, Value.int 0, Value.int 0, Value.ref h31]))) (e151 : 8 < a3.toInt) (hg152 : (a1 + (8 : Int32)) = a21) (e153 : 0 ≤ a21.toInt) (e154 : a21.toInt < 16) (hg155 : g0 a21.toInt.toNat = Value.ref h32) (hg156 : (a2 + (8 : Int32)) = a22) (e157 : 0 ≤ a22.toInt) (e158 : a22.toInt < 16) (hg159 : g0 a22.toInt.toNat = Value.ref h33) (e160 : 19 ≠ h32) (e161 : 22 ≠ h32) (e162 : 20 ≠ h32) (hw163 : w[h32]? = some (Sum.inr (2, [Value.int 64, Value.int 0, Value.int 0, Value.int 0, Value.ref h34]))) (e164 : 19 ≠ h33) (e165 : 22 ≠ h33) (e166 : 20 ≠ h33) (hw167 : w[h33]? = some (Sum.inr (2, [Value.int 64, Value.int 0, Value.int 0, Value.int 0, Value.ref h35]))) (e168 : 9 < a3.toInt) (hg169 : (a1 + (9 : Int32)) = a23) (e170 : 0 ≤ a23.toInt) (e171 : a23.toInt < 16) (hg172 : g0 a23.toInt.toNat = Value.ref h36) (hg173 : (a2 + (9 : Int32)) = a24) (e174 : 0 ≤ a24.toInt) (e175 : a24.toInt < 16) (hg176 : g0 a24.toInt.toNat = Value.ref h37) (e177 : 19 ≠ h36) (e178 : 22 ≠ h36) (e179 : 20 ≠ h36) (hw180 : w[h36]? = some (Sum.inr (2, [Value.int 64, Value.int 0, Value.int 0, Value.int 0, Value.ref h38]))) (e181 : 19 ≠ h37) (e182 : 22 ≠ h37) (e183 : 20 ≠ h37) (hw184 : w[h37]? = some (Sum.inr (2, [Value.int 64, Value.int 0, Value.int 0, Value.int 0, Value.ref h39]))) (e185 : 10 < a3.toInt) (hg186 : (a1 + (10 : Int32)) = a25) (e187 : 0 ≤ a25.toInt) (e188 : a25.toInt < 16) (hg189 : g0 a25.toInt.toNat = Value.ref h40) (hg190 : (a2 + (10 : Int32)) = a26) (e191 : 0 ≤ a26.toInt) (e192 : a26.toInt < 16) (hg193 : g0 a26.toInt.toNat = Value.ref h41) (e194 : 19 ≠ h40) (e195 : 22 ≠ h40) (e196 : 20 ≠ h40) (hw197 : w[h40]? = some (Sum.inr (2, [Value.int 64, Value.int 0, Value.int 0, Value.int 0, Value.ref h42]))) (e198 : 19 ≠ h41) (e199 : 22 ≠ h41) (e200 : 20 ≠ h41) (hw201 : w[h41]? = some (Sum.inr (2, [Value.int 64, Value.int 0, Value.int 0, Value.int 0, Value.ref h43]))) (e202 : 11 < a3.toInt) (hg203 : (a1 + (11 : Int32)) = a27) (e204 : 0 ≤ a27.toInt) (e205 : a27.toInt < 16) (hg206 : g0 a27.toInt.toNat = Value.ref h44) (hg207 : (a2 + (11 : Int32)) = a28) (e208 : 0 ≤ a28.toInt) (e209 : a28.toInt < 16) (hg210 : g0 a28.toInt.toNat = Value.ref h45) (e211 : 19 ≠ h44) (e212 : 22 ≠ h44) (e213 : 20 ≠ h44) (hw214 : w[h44]? = some (Sum.inr (2, [Value.int 64, Value.int 0, Value.int 0, Value.int 0, Value.ref h46]))) (e215 : 19 ≠ h45) (e216 : 22 ≠ h45) (e217 : 20 ≠ h45) (hw218 : w[h45]? = some (Sum.inr (2, [Value.int 64, Value.int 0, Value.int 0, Value.int 0, Value.ref h47]))) (e219 : 12 < a3.toInt) (hg220 : (a1 + (12 : Int32)) = a29) (e221 : 0 ≤ a29.toInt) (e222 : a29.toInt < 16) (hg223 : g0 a29.toInt.toNat = Value.ref h48) (hg224 : (a2 + (12 : Int32)) = a30) (e225 : 0 ≤ a30.toInt) (e226 : a30.toInt < 16) (hg227 : g0 a30.toInt.toNat = Value.ref h49) (e228 : 19 ≠ h48) (e229 : 22 ≠ h48) (e230 : 20 ≠ h48) (hw231 : w[h48]? = some (Sum.inr (2, [Value.int 64, Value.int 0, Value.int 0, Value.int 0, Value.ref h50]))) (e232 : 19 ≠ h49) (e233 : 22 ≠ h49) (e234 : 20 ≠ h49) (hw235 : w[h49]? = some (Sum.inr (2, [Value.int 64, Value.int 0, Value.int 0, Value.int 0, Value.ref h51]))) (e236 : 13 < a3.toInt) (hg237 : (a1 + (13 : Int32)) = a31) (e238 : 0 ≤ a31.toInt) (e239 : a31.toInt < 16) (hg240 : g0 a31.toInt.toNat = Value.ref h52) (hg241 : (a2 + (13 : Int32)) = a32) (e242 : 0 ≤ a32.toInt) (e243 : a32.toInt < 16) (hg244 : g0 a32.toInt.toNat = Value.ref h53) (e245 : 19 ≠ h52) (e246 : 22 ≠ h52) (e247 : 20 ≠ h52) (hw248 : w[h52]? = some (Sum.inr (2, [Value.int 64, Value.int 0, Value.int 0, Value.int 0, Value.ref h54]))) (e249 : 19 ≠ h53) (e250 : 22 ≠ h53) (e251 : 20 ≠ h53) (hw252 : w[h53]? = some (Sum.inr (2, [Value.int 64, Value.int 0, Value.int 0, Value.int 0, Value.ref h55]))) (e253 : 14 < a3.toInt) (hg254 : (a1 + (14 : Int32)) = a33) (e255 : 0 ≤ a33.toInt) (e256 : a33.toInt < 16) (hg257 : g0 a33.toInt.toNat = Value.ref h56) (hg258 : (a2 + (14 : Int32)) = a34) (e259 : 0 ≤ a34.toInt) (e260 : a34.toInt < 16) (hg261 : g0 a34.toInt.toNat = Value.ref h57) (e262 : 19 ≠ h56) (e263 : 22 ≠ h56) (e264 : 20 ≠ h56) (hw265 : w[h56]? = some (Sum.inr (2, [Value.int 64, Value.int 0, Value.int 0, Value.int 0, Value.ref h58]))) (e266 : 19 ≠ h57) (e267 : 22 ≠ h57) (e268 : 20 ≠ h57) (hw269 : w[h57]? = some (Sum.inr (2, [Value.int 64, Value.int 0, Value.int 0, Value.int 0, Value.ref h59]))) (e270 : a3.toInt ≤ 15) (hg271 : g0 a0.toInt.toNat = Value.ref h60) (e272 : 19 ≠ h60) (e273 : 22 ≠ h60) (e274 : 20 ≠ h60) (hw275 : w[h60]? = some (Sum.inr (2, [Value.int 64, Value.int 0, Value.int 0, Value.int 0, Value.ref h61]))) (e276 : 7 ≤ h60) : xRun (d + 3) 115 [Value.ref 7, Value.int a0, Value.int a1, Value.int a2, Value.int a3, Value.int a4] w (.inl (some (Value.int 0))) (((((((((((((((((((w.set 20 (Sum.inr (3, [Value.ref 21, Value.int 0]))).set 22 (Sum.inr (3, [Value.ref 23, Value.int 0]))).set 19 (Sum.inr (5, [Value.ref 20, Value.ref 22, Value.ref 24, Value.ref 26, Value.int 0, Value.int 0, Value.int 0, Value.int 0, Value.int 0, Value.int 0, Value.int 0, Value.int 0]))).set 19 (Sum.inr (5, [Value.ref 20, Value.ref 22, Value.ref 24, Value.ref 26, Value.int 0, Value.int 1, Value.int 0, Value.int 0, Value.int 0, Value.int 0, Value.int 0, Value.int 0]))).set 19 (Sum.inr (5, [Value.ref 20, Value.ref 22, Value.ref 24, Value.ref 26, Value.int 0, Value.int 1, Value.int 0, Value.int 0, Value.int 0, Value.int 0, Value.int 0, Value.int 0]))).set 19 (Sum.inr (5, [Value.ref 20, Value.ref 22, Value.ref 24, Value.ref 26, Value.int 0, Value.int 1, Value.int 0, Value.int 0, Value.int 0, Value.int 0, Value.int 0, Value.int 0]))).set 19 (Sum.inr (5, [Value.ref 20, Value.ref 22, Value.ref 24, Value.ref 26, Value.int 0, Value.int 1, Value.int 0, Value.int 0, Value.int 0, Value.int 0, Value.int 0, Value.int 0]))).set 19 (Sum.inr (5, [Value.ref 20, Value.ref 22, Value.ref 24, Value.ref 26, Value.int 0, Value.int 1, Value.int 0, Value.int 0, Value.int 0, Value.int 0, Value.int 0, Value.int 0]))).set 19 (Sum.inr (5, [Value.ref 20, Value.ref 22, Value.ref 24, Value.ref 26, Value.int 0, Value.int 1, Value.int 0, Value.int 0, Value.int 0, Value.int 0, Value.int 0, Value.int 0]))).set 19 (Sum.inr (5, [Value.ref 20, Value.ref 22, Value.ref 24, Value.ref 26, Value.int 0, Value.int 1, Value.int 0, Value.int 0, Value.int 0, Value.int 0, Value.int 0, Value.int 0]))).set 19 (Sum.inr (5, [Value.ref 20, Value.ref 22, Value.ref 24, Value.ref 26, Value.int 0, Value.int 1, Value.int 0, Value.int 0, Value.int 0, Value.int 0, Value.int 0, Value.int 0]))).set 19 (Sum.inr (5, [Value.ref 20, Value.ref 22, Value.ref 24, Value.ref 26, Value.int 0, Value.int 1, Value.int 0, Value.int 0, Value.int 0, Value.int 0, Value.int 0, Value.int 0]))).set 19 (Sum.inr (5, [Value.ref 20, Value.ref 22, Value.ref 24, Value.ref 26, Value.int 0, Value.int 1, Value.int 0, Value.int 0, Value.int 0, Value.int 0, Value.int 0, Value.int 0]))).set 19 (Sum.inr (5, [Value.ref 20, Value.ref 22, Value.ref 24, Value.ref 26, Value.int 0, Value.int 1, Value.int 0, Value.int 0, Value.int 0, Value.int 0, Value.int 0, Value.int 0]))).set 19 (Sum.inr (5, [Value.ref 20, Value.ref 22, Value.ref 24, Value.ref 26, Value.int 0, Value.int 1, Value.int 0, Value.int 0, Value.int 0, Value.int 0, Value.int 0, Value.int 0]))).set 19 (Sum.inr (5, [Value.ref 20, Value.ref 22, Value.ref 24, Value.ref 26, Value.int 0, Value.int 1, Value.int 0, Value.int 0, Value.int 0, Value.int 0, Value.int 0, Value.int 0]))).set 19 (Sum.inr (5, [Value.ref 20, Value.ref 22, Value.ref 24, Value.ref 26, Value.int 0, Value.int 1, Value.int 0, Value.int 0, Value.int 0, Value.int 0, Value.int 0, Value.int 0]))).set 19 (Sum.inr (5, [Value.ref 20, Value.ref 22, Value.ref 24, Value.ref 26, Value.int 0, Value.int 1, Value.int 0, Value.int 0, Value.int 0, Value.int 0, Value.int 0, Value.int 0]))).set h60 (Sum.inr (2, [Value.int 64, Value.int 0, Value.int 0, Value.int 0, Value.ref h61]))) := by
  refine xRun.of ?_
  refine i_115_0 (x := a0) rfl ?_
  refine i_115_1 (Nat.le_of_ble_eq_true rfl) (p_15_1 e0 e1) ?_
  refine i_115_4 (fun h => absurd h (by decide)) (fun _ => ?_)
  refine i_115_7 (x := a1) rfl ?_
  refine i_115_8 (x := a3) rfl ?_
  refine i_115_10 (Nat.le_of_ble_eq_true rfl) (p_113_4 e2 e3 e4 e5 hg6 e7) ?_
  refine i_115_13 (fun h => absurd h (by decide)) (fun _ => ?_)
  refine i_115_16 (x := a2) rfl ?_
  refine i_115_17 (x := a3) rfl ?_
  refine i_115_19 (Nat.le_of_ble_eq_true rfl) (p_113_4 e8 e9 e4 e5 hg10 e11) ?_
  refine i_115_22 (fun h => absurd h (by decide)) (fun _ => ?_)
  refine i_115_25 (x := a4) rfl ?_
  refine i_115_27 (Nat.le_of_ble_eq_true rfl) (p_22_2 e12 e13) ?_
  refine i_115_30 (fun _ => ?_) (fun h => absurd h (by decide))
  refine i_115_41 (x := 7) rfl ?_
  refine i_115_42 (v := Value.ref 19) hw14 rfl ?_
  refine i_115_45 hw15 (Nat.le_of_ble_eq_true rfl) (p_59_0 hw15 hw16 hw17) ?_
  refine i_115_48 ?_
  refine i_115_49 (lv2 := [(6, Value.int 0), (0, Value.ref 7), (1, Value.int a0), (2, Value.int a1), (3, Value.int a2), (4, Value.int a3), (5, Value.int a4)]) rfl ?_
  refine i_115_51 (x := 0) rfl ?_
  refine i_115_53 (x := a3) rfl ?_
  refine i_115_55 (fun h => absurd e18 (Int.not_lt.mpr h)) (fun _ => ?_)
  refine i_115_58 (x := 7) rfl ?_
  refine i_115_59 (v := Value.ref 19) (xgn (by decide) (xgn (by decide) (xgn (by decide) hw14))) rfl ?_
  refine i_115_62 (x := 7) rfl ?_
  refine i_115_63 (v := Value.ref 8) (xgn (by decide) (xgn (by decide) (xgn (by decide) hw14))) rfl ?_
  refine i_115_66 (x := a1) rfl ?_
  refine i_115_67 (x := 0) rfl ?_
  refine i_115_69 (c := a1) hg19 ?_
  refine i_115_70 (v := Value.ref h0) (xgn (by decide) (xgn (by decide) (xgn (by decide) hw20))) e2 e3 hg21 ?_
  refine i_115_71 (x := 7) rfl ?_
  refine i_115_72 (v := Value.ref 8) (xgn (by decide) (xgn (by decide) (xgn (by decide) hw14))) rfl ?_
  refine i_115_75 (x := a2) rfl ?_
  refine i_115_76 (x := 0) rfl ?_
  refine i_115_78 (c := a2) hg22 ?_
  refine i_115_79 (v := Value.ref h1) (xgn (by decide) (xgn (by decide) (xgn (by decide) hw20))) e8 e9 hg23 ?_
  refine i_115_80 (xgs (xgn (by decide) (xgn (by decide) hw15))) (Nat.le_of_ble_eq_true rfl) (p_96_0 (xgn e24 (xgn e25 (xgn e26 hw27))) (xgn e28 (xgn e29 (xgn e30 hw31))) (xgs (xgn (by decide) (xgn (by decide) hw15)))) ?_
  refine i_115_83 (x := 0) (c := 1) (lv2 := [(6, Value.int 1), (0, Value.ref 7), (1, Value.int a0), (2, Value.int a1), (3, Value.int a2), (4, Value.int a3), (5, Value.int a4)]) rfl (by decide) rfl ?_
  refine i_115_86 ?_
  refine i_115_51 (x := 1) rfl ?_
  refine i_115_53 (x := a3) rfl ?_
  refine i_115_55 (fun h => absurd e32 (Int.not_lt.mpr h)) (fun _ => ?_)
  refine i_115_58 (x := 7) rfl ?_
  refine i_115_59 (v := Value.ref 19) (xgn (by decide) (xgn (by decide) (xgn (by decide) (xgn (by decide) hw14)))) rfl ?_
  refine i_115_62 (x := 7) rfl ?_
  refine i_115_63 (v := Value.ref 8) (xgn (by decide) (xgn (by decide) (xgn (by decide) (xgn (by decide) hw14)))) rfl ?_
  refine i_115_66 (x := a1) rfl ?_
  refine i_115_67 (x := 1) rfl ?_
  refine i_115_69 (c := a7) hg33 ?_
  refine i_115_70 (v := Value.ref h4) (xgn (by decide) (xgn (by decide) (xgn (by decide) (xgn (by decide) hw20)))) e34 e35 hg36 ?_
  refine i_115_71 (x := 7) rfl ?_
  refine i_115_72 (v := Value.ref 8) (xgn (by decide) (xgn (by decide) (xgn (by decide) (xgn (by decide) hw14)))) rfl ?_
  refine i_115_75 (x := a2) rfl ?_
  refine i_115_76 (x := 1) rfl ?_
  refine i_115_78 (c := a8) hg37 ?_
  refine i_115_79 (v := Value.ref h5) (xgn (by decide) (xgn (by decide) (xgn (by decide) (xgn (by decide) hw20)))) e38 e39 hg40 ?_
  refine i_115_80 (xgs (xgs (xgn (by decide) (xgn (by decide) hw15)))) (Nat.le_of_ble_eq_true rfl) (p_96_2 (xgn e41 (xgn e41 (xgn e42 (xgn e43 hw44)))) (xgn e45 (xgn e45 (xgn e46 (xgn e47 hw48)))) (xgs (xgs (xgn (by decide) (xgn (by decide) hw15))))) ?_
  refine i_115_83 (x := 1) (c := 2) (lv2 := [(6, Value.int 2), (0, Value.ref 7), (1, Value.int a0), (2, Value.int a1), (3, Value.int a2), (4, Value.int a3), (5, Value.int a4)]) rfl (by decide) rfl ?_
  refine i_115_86 ?_
  refine i_115_51 (x := 2) rfl ?_
  refine i_115_53 (x := a3) rfl ?_
  refine i_115_55 (fun h => absurd e49 (Int.not_lt.mpr h)) (fun _ => ?_)
  refine i_115_58 (x := 7) rfl ?_
  refine i_115_59 (v := Value.ref 19) (xgn (by decide) (xgn (by decide) (xgn (by decide) (xgn (by decide) (xgn (by decide) hw14))))) rfl ?_
  refine i_115_62 (x := 7) rfl ?_
  refine i_115_63 (v := Value.ref 8) (xgn (by decide) (xgn (by decide) (xgn (by decide) (xgn (by decide) (xgn (by decide) hw14))))) rfl ?_
  refine i_115_66 (x := a1) rfl ?_
  refine i_115_67 (x := 2) rfl ?_
  refine i_115_69 (c := a9) hg50 ?_
  refine i_115_70 (v := Value.ref h8) (xgn (by decide) (xgn (by decide) (xgn (by decide) (xgn (by decide) (xgn (by decide) hw20))))) e51 e52 hg53 ?_
  refine i_115_71 (x := 7) rfl ?_
  refine i_115_72 (v := Value.ref 8) (xgn (by decide) (xgn (by decide) (xgn (by decide) (xgn (by decide) (xgn (by decide) hw14))))) rfl ?_
  refine i_115_75 (x := a2) rfl ?_
  refine i_115_76 (x := 2) rfl ?_
  refine i_115_78 (c := a10) hg54 ?_
  refine i_115_79 (v := Value.ref h9) (xgn (by decide) (xgn (by decide) (xgn (by decide) (xgn (by decide) (xgn (by decide) hw20))))) e55 e56 hg57 ?_
  refine i_115_80 (xgs (xgs (xgs (xgn (by decide) (xgn (by decide) hw15))))) (Nat.le_of_ble_eq_true rfl) (p_96_2 (xgn e58 (xgn e58 (xgn e58 (xgn e59 (xgn e60 hw61))))) (xgn e62 (xgn e62 (xgn e62 (xgn e63 (xgn e64 hw65))))) (xgs (xgs (xgs (xgn (by decide) (xgn (by decide) hw15)))))) ?_
  refine i_115_83 (x := 2) (c := 3) (lv2 := [(6, Value.int 3), (0, Value.ref 7), (1, Value.int a0), (2, Value.int a1), (3, Value.int a2), (4, Value.int a3), (5, Value.int a4)]) rfl (by decide) rfl ?_
  refine i_115_86 ?_
  refine i_115_51 (x := 3) rfl ?_
  refine i_115_53 (x := a3) rfl ?_
  refine i_115_55 (fun h => absurd e66 (Int.not_lt.mpr h)) (fun _ => ?_)
  refine i_115_58 (x := 7) rfl ?_
  refine i_115_59 (v := Value.ref 19) (xgn (by decide) (xgn (by decide) (xgn (by decide) (xgn (by decide) (xgn (by decide) (xgn (by decide) hw14)))))) rfl ?_
  refine i_115_62 (x := 7) rfl ?_
  refine i_115_63 (v := Value.ref 8) (xgn (by decide) (xgn (by decide) (xgn (by decide) (xgn (by decide) (xgn (by decide) (xgn (by decide) hw14)))))) rfl ?_
  refine i_115_66 (x := a1) rfl ?_
  refine i_115_67 (x := 3) rfl ?_
  refine i_115_69 (c := a11) hg67 ?_
  refine i_115_70 (v := Value.ref h12) (xgn (by decide) (xgn (by decide) (xgn (by decide) (xgn (by decide) (xgn (by decide) (xgn (by decide) hw20)))))) e68 e69 hg70 ?_
  refine i_115_71 (x := 7) rfl ?_
  refine i_115_72 (v := Value.ref 8) (xgn (by decide) (xgn (by decide) (xgn (by decide) (xgn (by decide) (xgn (by decide) (xgn (by decide) hw14)))))) rfl ?_
  refine i_115_75 (x := a2) rfl ?_
  refine i_115_76 (x := 3) rfl ?_
  refine i_115_78 (c := a12) hg71 ?_
  refine i_115_79 (v := Value.ref h13) (xgn (by decide) (xgn (by decide) (xgn (by decide) (xgn (by decide) (xgn (by decide) (xgn (by decide) hw20)))))) e72 e73 hg74 ?_
  refine i_115_80 (xgs (xgs (xgs (xgs (xgn (by decide) (xgn (by decide) hw15)))))) (Nat.le_of_ble_eq_true rfl) (p_96_2 (xgn e75 (xgn e75 (xgn e75 (xgn e75 (xgn e76 (xgn e77 hw78)))))) (xgn e79 (xgn e79 (xgn e79 (xgn e79 (xgn e80 (xgn e81 hw82)))))) (xgs (xgs (xgs (xgs (xgn (by decide) (xgn (by decide) hw15))))))) ?_
  refine i_115_83 (x := 3) (c := 4) (lv2 := [(6, Value.int 4), (0, Value.ref 7), (1, Value.int a0), (2, Value.int a1), (3, Value.int a2), (4, Value.int a3), (5, Value.int a4)]) rfl (by decide) rfl ?_
  refine i_115_86 ?_
  refine i_115_51 (x := 4) rfl ?_
  refine i_115_53 (x := a3) rfl ?_
  refine i_115_55 (fun h => absurd e83 (Int.not_lt.mpr h)) (fun _ => ?_)
  refine i_115_58 (x := 7) rfl ?_
  refine i_115_59 (v := Value.ref 19) (xgn (by decide) (xgn (by decide) (xgn (by decide) (xgn (by decide) (xgn (by decide) (xgn (by decide) (xgn (by decide) hw14))))))) rfl ?_
  refine i_115_62 (x := 7) rfl ?_
  refine i_115_63 (v := Value.ref 8) (xgn (by decide) (xgn (by decide) (xgn (by decide) (xgn (by decide) (xgn (by decide) (xgn (by decide) (xgn (by decide) hw14))))))) rfl ?_
  refine i_115_66 (x := a1) rfl ?_
  refine i_115_67 (x := 4) rfl ?_
  refine i_115_69 (c := a13) hg84 ?_
  refine i_115_70 (v := Value.ref h16) (xgn (by decide) (xgn (by decide) (xgn (by decide) (xgn (by decide) (xgn (by decide) (xgn (by decide) (xgn (by decide) hw20))))))) e85 e86 hg87 ?_
  refine i_115_71 (x := 7) rfl ?_
  refine i_115_72 (v := Value.ref 8) (xgn (by decide) (xgn (by decide) (xgn (by decide) (xgn (by decide) (xgn (by decide) (xgn (by decide) (xgn (by decide) hw14))))))) rfl ?_
  refine i_115_75 (x := a2) rfl ?_
  refine i_115_76 (x := 4) rfl ?_
  refine i_115_78 (c := a14) hg88 ?_
  refine i_115_79 (v := Value.ref h17) (xgn (by decide) (xgn (by decide) (xgn (by decide) (xgn (by decide) (xgn (by decide) (xgn (by decide) (xgn (by decide) hw20))))))) e89 e90 hg91 ?_
  refine i_115_80 (xgs (xgs (xgs (xgs (xgs (xgn (by decide) (xgn (by decide) hw15))))))) (Nat.le_of_ble_eq_true rfl) (p_96_2 (xgn e92 (xgn e92 (xgn e92 (xgn e92 (xgn e92 (xgn e93 (xgn e94 hw95))))))) (xgn e96 (xgn e96 (xgn e96 (xgn e96 (xgn e96 (xgn e97 (xgn e98 hw99))))))) (xgs (xgs (xgs (xgs (xgs (xgn (by decide) (xgn (by decide) hw15)))))))) ?_
  refine i_115_83 (x := 4) (c := 5) (lv2 := [(6, Value.int 5), (0, Value.ref 7), (1, Value.int a0), (2, Value.int a1), (3, Value.int a2), (4, Value.int a3), (5, Value.int a4)]) rfl (by decide) rfl ?_
  refine i_115_86 ?_
  refine i_115_51 (x := 5) rfl ?_
  refine i_115_53 (x := a3) rfl ?_
  refine i_115_55 (fun h => absurd e100 (Int.not_lt.mpr h)) (fun _ => ?_)
  refine i_115_58 (x := 7) rfl ?_
  refine i_115_59 (v := Value.ref 19) (xgn (by decide) (xgn (by decide) (xgn (by decide) (xgn (by decide) (xgn (by decide) (xgn (by decide) (xgn (by decide) (xgn (by decide) hw14)))))))) rfl ?_
  refine i_115_62 (x := 7) rfl ?_
  refine i_115_63 (v := Value.ref 8) (xgn (by decide) (xgn (by decide) (xgn (by decide) (xgn (by decide) (xgn (by decide) (xgn (by decide) (xgn (by decide) (xgn (by decide) hw14)))))))) rfl ?_
  refine i_115_66 (x := a1) rfl ?_
  refine i_115_67 (x := 5) rfl ?_
  refine i_115_69 (c := a15) hg101 ?_
  refine i_115_70 (v := Value.ref h20) (xgn (by decide) (xgn (by decide) (xgn (by decide) (xgn (by decide) (xgn (by decide) (xgn (by decide) (xgn (by decide) (xgn (by decide) hw20)))))))) e102 e103 hg104 ?_
  refine i_115_71 (x := 7) rfl ?_
  refine i_115_72 (v := Value.ref 8) (xgn (by decide) (xgn (by decide) (xgn (by decide) (xgn (by decide) (xgn (by decide) (xgn (by decide) (xgn (by decide) (xgn (by decide) hw14)))))))) rfl ?_
  refine i_115_75 (x := a2) rfl ?_
  refine i_115_76 (x := 5) rfl ?_
  refine i_115_78 (c := a16) hg105 ?_
  refine i_115_79 (v := Value.ref h21) (xgn (by decide) (xgn (by decide) (xgn (by decide) (xgn (by decide) (xgn (by decide) (xgn (by decide) (xgn (by decide) (xgn (by decide) hw20)))))))) e106 e107 hg108 ?_
  refine i_115_80 (xgs (xgs (xgs (xgs (xgs (xgs (xgn (by decide) (xgn (by decide) hw15)))))))) (Nat.le_of_ble_eq_true rfl) (p_96_2 (xgn e109 (xgn e109 (xgn e109 (xgn e109 (xgn e109 (xgn e109 (xgn e110 (xgn e111 hw112)))))))) (xgn e113 (xgn e113 (xgn e113 (xgn e113 (xgn e113 (xgn e113 (xgn e114 (xgn e115 hw116)))))))) (xgs (xgs (xgs (xgs (xgs (xgs (xgn (by decide) (xgn (by decide) hw15))))))))) ?_
  refine i_115_83 (x := 5) (c := 6) (lv2 := [(6, Value.int 6), (0, Value.ref 7), (1, Value.int a0), (2, Value.int a1), (3, Value.int a2), (4, Value.int a3), (5, Value.int a4)]) rfl (by decide) rfl ?_
  refine i_115_86 ?_
  refine i_115_51 (x := 6) rfl ?_
  refine i_115_53 (x := a3) rfl ?_
  refine i_115_55 (fun h => absurd e117 (Int.not_lt.mpr h)) (fun _ => ?_)
  refine i_115_58 (x := 7) rfl ?_
  refine i_115_59 (v := Value.ref 19) (xgn (by decide) (xgn (by decide) (xgn (by decide) (xgn (by decide) (xgn (by decide) (xgn (by decide) (xgn (by decide) (xgn (by decide) (xgn (by decide) hw14))))))))) rfl ?_
  refine i_115_62 (x := 7) rfl ?_
  refine i_115_63 (v := Value.ref 8) (xgn (by decide) (xgn (by decide) (xgn (by decide) (xgn (by decide) (xgn (by decide) (xgn (by decide) (xgn (by decide) (xgn (by decide) (xgn (by decide) hw14))))))))) rfl ?_
  refine i_115_66 (x := a1) rfl ?_
  refine i_115_67 (x := 6) rfl ?_
  refine i_115_69 (c := a17) hg118 ?_
  refine i_115_70 (v := Value.ref h24) (xgn (by decide) (xgn (by decide) (xgn (by decide) (xgn (by decide) (xgn (by decide) (xgn (by decide) (xgn (by decide) (xgn (by decide) (xgn (by decide) hw20))))))))) e119 e120 hg121 ?_
  refine i_115_71 (x := 7) rfl ?_
  refine i_115_72 (v := Value.ref 8) (xgn (by decide) (xgn (by decide) (xgn (by decide) (xgn (by decide) (xgn (by decide) (xgn (by decide) (xgn (by decide) (xgn (by decide) (xgn (by decide) hw14))))))))) rfl ?_
  refine i_115_75 (x := a2) rfl ?_
  refine i_115_76 (x := 6) rfl ?_
  refine i_115_78 (c := a18) hg122 ?_
  refine i_115_79 (v := Value.ref h25) (xgn (by decide) (xgn (by decide) (xgn (by decide) (xgn (by decide) (xgn (by decide) (xgn (by decide) (xgn (by decide) (xgn (by decide) (xgn (by decide) hw20))))))))) e123 e124 hg125 ?_
  refine i_115_80 (xgs (xgs (xgs (xgs (xgs (xgs (xgs (xgn (by decide) (xgn (by decide) hw15))))))))) (Nat.le_of_ble_eq_true rfl) (p_96_2 (xgn e126 (xgn e126 (xgn e126 (xgn e126 (xgn e126 (xgn e126 (xgn e126 (xgn e127 (xgn e128 hw129))))))))) (xgn e130 (xgn e130 (xgn e130 (xgn e130 (xgn e130 (xgn e130 (xgn e130 (xgn e131 (xgn e132 hw133))))))))) (xgs (xgs (xgs (xgs (xgs (xgs (xgs (xgn (by decide) (xgn (by decide) hw15)))))))))) ?_
  refine i_115_83 (x := 6) (c := 7) (lv2 := [(6, Value.int 7), (0, Value.ref 7), (1, Value.int a0), (2, Value.int a1), (3, Value.int a2), (4, Value.int a3), (5, Value.int a4)]) rfl (by decide) rfl ?_
  refine i_115_86 ?_
  refine i_115_51 (x := 7) rfl ?_
  refine i_115_53 (x := a3) rfl ?_
  refine i_115_55 (fun h => absurd e134 (Int.not_lt.mpr h)) (fun _ => ?_)
  refine i_115_58 (x := 7) rfl ?_
  refine i_115_59 (v := Value.ref 19) (xgn (by decide) (xgn (by decide) (xgn (by decide) (xgn (by decide) (xgn (by decide) (xgn (by decide) (xgn (by decide) (xgn (by decide) (xgn (by decide) (xgn (by decide) hw14)))))))))) rfl ?_
  refine i_115_62 (x := 7) rfl ?_
  refine i_115_63 (v := Value.ref 8) (xgn (by decide) (xgn (by decide) (xgn (by decide) (xgn (by decide) (xgn (by decide) (xgn (by decide) (xgn (by decide) (xgn (by decide) (xgn (by decide) (xgn (by decide) hw14)))))))))) rfl ?_
  refine i_115_66 (x := a1) rfl ?_
  refine i_115_67 (x := 7) rfl ?_
  refine i_115_69 (c := a19) hg135 ?_
  refine i_115_70 (v := Value.ref h28) (xgn (by decide) (xgn (by decide) (xgn (by decide) (xgn (by decide) (xgn (by decide) (xgn (by decide) (xgn (by decide) (xgn (by decide) (xgn (by decide) (xgn (by decide) hw20)))))))))) e136 e137 hg138 ?_
  refine i_115_71 (x := 7) rfl ?_
  refine i_115_72 (v := Value.ref 8) (xgn (by decide) (xgn (by decide) (xgn (by decide) (xgn (by decide) (xgn (by decide) (xgn (by decide) (xgn (by decide) (xgn (by decide) (xgn (by decide) (xgn (by decide) hw14)))))))))) rfl ?_
  refine i_115_75 (x := a2) rfl ?_
  refine i_115_76 (x := 7) rfl ?_
  refine i_115_78 (c := a20) hg139 ?_
  refine i_115_79 (v := Value.ref h29) (xgn (by decide) (xgn (by decide) (xgn (by decide) (xgn (by decide) (xgn (by decide) (xgn (by decide) (xgn (by decide) (xgn (by decide) (xgn (by decide) (xgn (by decide) hw20)))))))))) e140 e141 hg142 ?_
  refine i_115_80 (xgs (xgs (xgs (xgs (xgs (xgs (xgs (xgs (xgn (by decide) (xgn (by decide) hw15)))))))))) (Nat.le_of_ble_eq_true rfl) (p_96_2 (xgn e143 (xgn e143 (xgn e143 (xgn e143 (xgn e143 (xgn e143 (xgn e143 (xgn e143 (xgn e144 (xgn e145 hw146)))))))))) (xgn e147 (xgn e147 (xgn e147 (xgn e147 (xgn e147 (xgn e147 (xgn e147 (xgn e147 (xgn e148 (xgn e149 hw150)))))))))) (xgs (xgs (xgs (xgs (xgs (xgs (xgs (xgs (xgn (by decide) (xgn (by decide) hw15))))))))))) ?_
  refine i_115_83 (x := 7) (c := 8) (lv2 := [(6, Value.int 8), (0, Value.ref 7), (1, Value.int a0), (2, Value.int a1), (3, Value.int a2), (4, Value.int a3), (5, Value.int a4)]) rfl (by decide) rfl ?_
  refine i_115_86 ?_
  refine i_115_51 (x := 8) rfl ?_
  refine i_115_53 (x := a3) rfl ?_
  refine i_115_55 (fun h => absurd e151 (Int.not_lt.mpr h)) (fun _ => ?_)
  refine i_115_58 (x := 7) rfl ?_
  refine i_115_59 (v := Value.ref 19) (xgn (by decide) (xgn (by decide) (xgn (by decide) (xgn (by decide) (xgn (by decide) (xgn (by decide) (xgn (by decide) (xgn (by decide) (xgn (by decide) (xgn (by decide) (xgn (by decide) hw14))))))))))) rfl ?_
  refine i_115_62 (x := 7) rfl ?_
  refine i_115_63 (v := Value.ref 8) (xgn (by decide) (xgn (by decide) (xgn (by decide) (xgn (by decide) (xgn (by decide) (xgn (by decide) (xgn (by decide) (xgn (by decide) (xgn (by decide) (xgn (by decide) (xgn (by decide) hw14))))))))))) rfl ?_
  refine i_115_66 (x := a1) rfl ?_
  refine i_115_67 (x := 8) rfl ?_
  refine i_115_69 (c := a21) hg152 ?_
  refine i_115_70 (v := Value.ref h32) (xgn (by decide) (xgn (by decide) (xgn (by decide) (xgn (by decide) (xgn (by decide) (xgn (by decide) (xgn (by decide) (xgn (by decide) (xgn (by decide) (xgn (by decide) (xgn (by decide) hw20))))))))))) e153 e154 hg155 ?_
  refine i_115_71 (x := 7) rfl ?_
  refine i_115_72 (v := Value.ref 8) (xgn (by decide) (xgn (by decide) (xgn (by decide) (xgn (by decide) (xgn (by decide) (xgn (by decide) (xgn (by decide) (xgn (by decide) (xgn (by decide) (xgn (by decide) (xgn (by decide) hw14))))))))))) rfl ?_
  refine i_115_75 (x := a2) rfl ?_
  refine i_115_76 (x := 8) rfl ?_
  refine i_115_78 (c := a22) hg156 ?_
  refine i_115_79 (v := Value.ref h33) (xgn (by decide) (xgn (by decide) (xgn (by decide) (xgn (by decide) (xgn (by decide) (xgn (by decide) (xgn (by decide) (xgn (by decide) (xgn (by decide) (xgn (by decide) (xgn (by decide) hw20))))))))))) e157 e158 hg159 ?_
  refine i_115_80 (xgs (xgs (xgs (xgs (xgs (xgs (xgs (xgs (xgs (xgn (by decide) (xgn (by decide) hw15))))))))))) (Nat.le_of_ble_eq_true rfl) (p_96_2 (xgn e160 (xgn e160 (xgn e160 (xgn e160 (xgn e160 (xgn e160 (xgn e160 (xgn e160 (xgn e160 (xgn e161 (xgn e162 hw163))))))))))) (xgn e164 (xgn e164 (xgn e164 (xgn e164 (xgn e164 (xgn e164 (xgn e164 (xgn e164 (xgn e164 (xgn e165 (xgn e166 hw167))))))))))) (xgs (xgs (xgs (xgs (xgs (xgs (xgs (xgs (xgs (xgn (by decide) (xgn (by decide) hw15)))))))))))) ?_
  refine i_115_83 (x := 8) (c := 9) (lv2 := [(6, Value.int 9), (0, Value.ref 7), (1, Value.int a0), (2, Value.int a1), (3, Value.int a2), (4, Value.int a3), (5, Value.int a4)]) rfl (by decide) rfl ?_
  refine i_115_86 ?_
  refine i_115_51 (x := 9) rfl ?_
  refine i_115_53 (x := a3) rfl ?_
  refine i_115_55 (fun h => absurd e168 (Int.not_lt.mpr h)) (fun _ => ?_)
  refine i_115_58 (x := 7) rfl ?_
  refine i_115_59 (v := Value.ref 19) (xgn (by decide) (xgn (by decide) (xgn (by decide) (xgn (by decide) (xgn (by decide) (xgn (by decide) (xgn (by decide) (xgn (by decide) (xgn (by decide) (xgn (by decide) (xgn (by decide) (xgn (by decide) hw14)))))))))))) rfl ?_
  refine i_115_62 (x := 7) rfl ?_
  refine i_115_63 (v := Value.ref 8) (xgn (by decide) (xgn (by decide) (xgn (by decide) (xgn (by decide) (xgn (by decide) (xgn (by decide) (xgn (by decide) (xgn (by decide) (xgn (by decide) (xgn (by decide) (xgn (by decide) (xgn (by decide) hw14)))))))))))) rfl ?_
  refine i_115_66 (x := a1) rfl ?_
  refine i_115_67 (x := 9) rfl ?_
  refine i_115_69 (c := a23) hg169 ?_
  refine i_115_70 (v := Value.ref h36) (xgn (by decide) (xgn (by decide) (xgn (by decide) (xgn (by decide) (xgn (by decide) (xgn (by decide) (xgn (by decide) (xgn (by decide) (xgn (by decide) (xgn (by decide) (xgn (by decide) (xgn (by decide) hw20)))))))))))) e170 e171 hg172 ?_
  refine i_115_71 (x := 7) rfl ?_
  refine i_115_72 (v := Value.ref 8) (xgn (by decide) (xgn (by decide) (xgn (by decide) (xgn (by decide) (xgn (by decide) (xgn (by decide) (xgn (by decide) (xgn (by decide) (xgn (by decide) (xgn (by decide) (xgn (by decide) (xgn (by decide) hw14)))))))))))) rfl ?_
  refine i_115_75 (x := a2) rfl ?_
  refine i_115_76 (x := 9) rfl ?_
  refine i_115_78 (c := a24) hg173 ?_
  refine i_115_79 (v := Value.ref h37) (xgn (by decide) (xgn (by decide) (xgn (by decide) (xgn (by decide) (xgn (by decide) (xgn (by decide) (xgn (by decide) (xgn (by decide) (xgn (by decide) (xgn (by decide) (xgn (by decide) (xgn (by decide) hw20)))))))))))) e174 e175 hg176 ?_
  refine i_115_80 (xgs (xgs (xgs (xgs (xgs (xgs (xgs (xgs (xgs (xgs (xgn (by decide) (xgn (by decide) hw15)))))))))))) (Nat.le_of_ble_eq_true rfl) (p_96_2 (xgn e177 (xgn e177 (xgn e177 (xgn e177 (xgn e177 (xgn e177 (xgn e177 (xgn e177 (xgn e177 (xgn e177 (xgn e178 (xgn e179 hw180)))))))))))) (xgn e181 (xgn e181 (xgn e181 (xgn e181 (xgn e181 (xgn e181 (xgn e181 (xgn e181 (xgn e181 (xgn e181 (xgn e182 (xgn e183 hw184)))))))))))) (xgs (xgs (xgs (xgs (xgs (xgs (xgs (xgs (xgs (xgs (xgn (by decide) (xgn (by decide) hw15))))))))))))) ?_
  refine i_115_83 (x := 9) (c := 10) (lv2 := [(6, Value.int 10), (0, Value.ref 7), (1, Value.int a0), (2, Value.int a1), (3, Value.int a2), (4, Value.int a3), (5, Value.int a4)]) rfl (by decide) rfl ?_
  refine i_115_86 ?_
  refine i_115_51 (x := 10) rfl ?_
  refine i_115_53 (x := a3) rfl ?_
  refine i_115_55 (fun h => absurd e185 (Int.not_lt.mpr h)) (fun _ => ?_)
  refine i_115_58 (x := 7) rfl ?_
  refine i_115_59 (v := Value.ref 19) (xgn (by decide) (xgn (by decide) (xgn (by decide) (xgn (by decide) (xgn (by decide) (xgn (by decide) (xgn (by decide) (xgn (by decide) (xgn (by decide) (xgn (by decide) (xgn (by decide) (xgn (by decide) (xgn (by decide) hw14))))))))))))) rfl ?_
  refine i_115_62 (x := 7) rfl ?_
  refine i_115_63 (v := Value.ref 8) (xgn (by decide) (xgn (by decide) (xgn (by decide) (xgn (by decide) (xgn (by decide) (xgn (by decide) (xgn (by decide) (xgn (by decide) (xgn (by decide) (xgn (by decide) (xgn (by decide) (xgn (by decide) (xgn (by decide) hw14))))))))))))) rfl ?_
  refine i_115_66 (x := a1) rfl ?_
  refine i_115_67 (x := 10) rfl ?_
  refine i_115_69 (c := a25) hg186 ?_
  refine i_115_70 (v := Value.ref h40) (xgn (by decide) (xgn (by decide) (xgn (by decide) (xgn (by decide) (xgn (by decide) (xgn (by decide) (xgn (by decide) (xgn (by decide) (xgn (by decide) (xgn (by decide) (xgn (by decide) (xgn (by decide) (xgn (by decide) hw20))))))))))))) e187 e188 hg189 ?_
  refine i_115_71 (x := 7) rfl ?_
  refine i_115_72 (v := Value.ref 8) (xgn (by decide) (xgn (by decide) (xgn (by decide) (xgn (by decide) (xgn (by decide) (xgn (by decide) (xgn (by decide) (xgn (by decide) (xgn (by decide) (xgn (by decide) (xgn (by decide) (xgn (by decide) (xgn (by decide) hw14))))))))))))) rfl ?_
  refine i_115_75 (x := a2) rfl ?_
  refine i_115_76 (x := 10) rfl ?_
  refine i_115_78 (c := a26) hg190 ?_
  refine i_115_79 (v := Value.ref h41) (xgn (by decide) (xgn (by decide) (xgn (by decide) (xgn (by decide) (xgn (by decide) (xgn (by decide) (xgn (by decide) (xgn (by decide) (xgn (by decide) (xgn (by decide) (xgn (by decide) (xgn (by decide) (xgn (by decide) hw20))))))))))))) e191 e192 hg193 ?_
  refine i_115_80 (xgs (xgs (xgs (xgs (xgs (xgs (xgs (xgs (xgs (xgs (xgs (xgn (by decide) (xgn (by decide) hw15))))))))))))) (Nat.le_of_ble_eq_true rfl) (p_96_2 (xgn e194 (xgn e194 (xgn e194 (xgn e194 (xgn e194 (xgn e194 (xgn e194 (xgn e194 (xgn e194 (xgn e194 (xgn e194 (xgn e195 (xgn e196 hw197))))))))))))) (xgn e198 (xgn e198 (xgn e198 (xgn e198 (xgn e198 (xgn e198 (xgn e198 (xgn e198 (xgn e198 (xgn e198 (xgn e198 (xgn e199 (xgn e200 hw201))))))))))))) (xgs (xgs (xgs (xgs (xgs (xgs (xgs (xgs (xgs (xgs (xgs (xgn (by decide) (xgn (by decide) hw15)))))))))))))) ?_
  refine i_115_83 (x := 10) (c := 11) (lv2 := [(6, Value.int 11), (0, Value.ref 7), (1, Value.int a0), (2, Value.int a1), (3, Value.int a2), (4, Value.int a3), (5, Value.int a4)]) rfl (by decide) rfl ?_
  refine i_115_86 ?_
  refine i_115_51 (x := 11) rfl ?_
  refine i_115_53 (x := a3) rfl ?_
  refine i_115_55 (fun h => absurd e202 (Int.not_lt.mpr h)) (fun _ => ?_)
  refine i_115_58 (x := 7) rfl ?_
  refine i_115_59 (v := Value.ref 19) (xgn (by decide) (xgn (by decide) (xgn (by decide) (xgn (by decide) (xgn (by decide) (xgn (by decide) (xgn (by decide) (xgn (by decide) (xgn (by decide) (xgn (by decide) (xgn (by decide) (xgn (by decide) (xgn (by decide) (xgn (by decide) hw14)))))))))))))) rfl ?_
  refine i_115_62 (x := 7) rfl ?_
  refine i_115_63 (v := Value.ref 8) (xgn (by decide) (xgn (by decide) (xgn (by decide) (xgn (by decide) (xgn (by decide) (xgn (by decide) (xgn (by decide) (xgn (by decide) (xgn (by decide) (xgn (by decide) (xgn (by decide) (xgn (by decide) (xgn (by decide) (xgn (by decide) hw14)))))))))))))) rfl ?_
  refine i_115_66 (x := a1) rfl ?_
  refine i_115_67 (x := 11) rfl ?_
  refine i_115_69 (c := a27) hg203 ?_
  refine i_115_70 (v := Value.ref h44) (xgn (by decide) (xgn (by decide) (xgn (by decide) (xgn (by decide) (xgn (by decide) (xgn (by decide) (xgn (by decide) (xgn (by decide) (xgn (by decide) (xgn (by decide) (xgn (by decide) (xgn (by decide) (xgn (by decide) (xgn (by decide) hw20)))))))))))))) e204 e205 hg206 ?_
  refine i_115_71 (x := 7) rfl ?_
  refine i_115_72 (v := Value.ref 8) (xgn (by decide) (xgn (by decide) (xgn (by decide) (xgn (by decide) (xgn (by decide) (xgn (by decide) (xgn (by decide) (xgn (by decide) (xgn (by decide) (xgn (by decide) (xgn (by decide) (xgn (by decide) (xgn (by decide) (xgn (by decide) hw14)))))))))))))) rfl ?_
  refine i_115_75 (x := a2) rfl ?_
  refine i_115_76 (x := 11) rfl ?_
  refine i_115_78 (c := a28) hg207 ?_
  refine i_115_79 (v := Value.ref h45) (xgn (by decide) (xgn (by decide) (xgn (by decide) (xgn (by decide) (xgn (by decide) (xgn (by decide) (xgn (by decide) (xgn (by decide) (xgn (by decide) (xgn (by decide) (xgn (by decide) (xgn (by decide) (xgn (by decide) (xgn (by decide) hw20)))))))))))))) e208 e209 hg210 ?_
  refine i_115_80 (xgs (xgs (xgs (xgs (xgs (xgs (xgs (xgs (xgs (xgs (xgs (xgs (xgn (by decide) (xgn (by decide) hw15)))))))))))))) (Nat.le_of_ble_eq_true rfl) (p_96_2 (xgn e211 (xgn e211 (xgn e211 (xgn e211 (xgn e211 (xgn e211 (xgn e211 (xgn e211 (xgn e211 (xgn e211 (xgn e211 (xgn e211 (xgn e212 (xgn e213 hw214)))))))))))))) (xgn e215 (xgn e215 (xgn e215 (xgn e215 (xgn e215 (xgn e215 (xgn e215 (xgn e215 (xgn e215 (xgn e215 (xgn e215 (xgn e215 (xgn e216 (xgn e217 hw218)))))))))))))) (xgs (xgs (xgs (xgs (xgs (xgs (xgs (xgs (xgs (xgs (xgs (xgs (xgn (by decide) (xgn (by decide) hw15))))))))))))))) ?_
  refine i_115_83 (x := 11) (c := 12) (lv2 := [(6, Value.int 12), (0, Value.ref 7), (1, Value.int a0), (2, Value.int a1), (3, Value.int a2), (4, Value.int a3), (5, Value.int a4)]) rfl (by decide) rfl ?_
  refine i_115_86 ?_
  refine i_115_51 (x := 12) rfl ?_
  refine i_115_53 (x := a3) rfl ?_
  refine i_115_55 (fun h => absurd e219 (Int.not_lt.mpr h)) (fun _ => ?_)
  refine i_115_58 (x := 7) rfl ?_
  refine i_115_59 (v := Value.ref 19) (xgn (by decide) (xgn (by decide) (xgn (by decide) (xgn (by decide) (xgn (by decide) (xgn (by decide) (xgn (by decide) (xgn (by decide) (xgn (by decide) (xgn (by decide) (xgn (by decide) (xgn (by decide) (xgn (by decide) (xgn (by decide) (xgn (by decide) hw14))))))))))))))) rfl ?_
  refine i_115_62 (x := 7) rfl ?_
  refine i_115_63 (v := Value.ref 8) (xgn (by decide) (xgn (by decide) (xgn (by decide) (xgn (by decide) (xgn (by decide) (xgn (by decide) (xgn (by decide) (xgn (by decide) (xgn (by decide) (xgn (by decide) (xgn (by decide) (xgn (by decide) (xgn (by decide) (xgn (by decide) (xgn (by decide) hw14))))))))))))))) rfl ?_
  refine i_115_66 (x := a1) rfl ?_
  refine i_115_67 (x := 12) rfl ?_
  refine i_115_69 (c := a29) hg220 ?_
  refine i_115_70 (v := Value.ref h48) (xgn (by decide) (xgn (by decide) (xgn (by decide) (xgn (by decide) (xgn (by decide) (xgn (by decide) (xgn (by decide) (xgn (by decide) (xgn (by decide) (xgn (by decide) (xgn (by decide) (xgn (by decide) (xgn (by decide) (xgn (by decide) (xgn (by decide) hw20))))))))))))))) e221 e222 hg223 ?_
  refine i_115_71 (x := 7) rfl ?_
  refine i_115_72 (v := Value.ref 8) (xgn (by decide) (xgn (by decide) (xgn (by decide) (xgn (by decide) (xgn (by decide) (xgn (by decide) (xgn (by decide) (xgn (by decide) (xgn (by decide) (xgn (by decide) (xgn (by decide) (xgn (by decide) (xgn (by decide) (xgn (by decide) (xgn (by decide) hw14))))))))))))))) rfl ?_
  refine i_115_75 (x := a2) rfl ?_
  refine i_115_76 (x := 12) rfl ?_
  refine i_115_78 (c := a30) hg224 ?_
  refine i_115_79 (v := Value.ref h49) (xgn (by decide) (xgn (by decide) (xgn (by decide) (xgn (by decide) (xgn (by decide) (xgn (by decide) (xgn (by decide) (xgn (by decide) (xgn (by decide) (xgn (by decide) (xgn (by decide) (xgn (by decide) (xgn (by decide) (xgn (by decide) (xgn (by decide) hw20))))))))))))))) e225 e226 hg227 ?_
  refine i_115_80 (xgs (xgs (xgs (xgs (xgs (xgs (xgs (xgs (xgs (xgs (xgs (xgs (xgs (xgn (by decide) (xgn (by decide) hw15))))))))))))))) (Nat.le_of_ble_eq_true rfl) (p_96_2 (xgn e228 (xgn e228 (xgn e228 (xgn e228 (xgn e228 (xgn e228 (xgn e228 (xgn e228 (xgn e228 (xgn e228 (xgn e228 (xgn e228 (xgn e228 (xgn e229 (xgn e230 hw231))))))))))))))) (xgn e232 (xgn e232 (xgn e232 (xgn e232 (xgn e232 (xgn e232 (xgn e232 (xgn e232 (xgn e232 (xgn e232 (xgn e232 (xgn e232 (xgn e232 (xgn e233 (xgn e234 hw235))))))))))))))) (xgs (xgs (xgs (xgs (xgs (xgs (xgs (xgs (xgs (xgs (xgs (xgs (xgs (xgn (by decide) (xgn (by decide) hw15)))))))))))))))) ?_
  refine i_115_83 (x := 12) (c := 13) (lv2 := [(6, Value.int 13), (0, Value.ref 7), (1, Value.int a0), (2, Value.int a1), (3, Value.int a2), (4, Value.int a3), (5, Value.int a4)]) rfl (by decide) rfl ?_
  refine i_115_86 ?_
  refine i_115_51 (x := 13) rfl ?_
  refine i_115_53 (x := a3) rfl ?_
  refine i_115_55 (fun h => absurd e236 (Int.not_lt.mpr h)) (fun _ => ?_)
  refine i_115_58 (x := 7) rfl ?_
  refine i_115_59 (v := Value.ref 19) (xgn (by decide) (xgn (by decide) (xgn (by decide) (xgn (by decide) (xgn (by decide) (xgn (by decide) (xgn (by decide) (xgn (by decide) (xgn (by decide) (xgn (by decide) (xgn (by decide) (xgn (by decide) (xgn (by decide) (xgn (by decide) (xgn (by decide) (xgn (by decide) hw14)))))))))))))))) rfl ?_
  refine i_115_62 (x := 7) rfl ?_
  refine i_115_63 (v := Value.ref 8) (xgn (by decide) (xgn (by decide) (xgn (by decide) (xgn (by decide) (xgn (by decide) (xgn (by decide) (xgn (by decide) (xgn (by decide) (xgn (by decide) (xgn (by decide) (xgn (by decide) (xgn (by decide) (xgn (by decide) (xgn (by decide) (xgn (by decide) (xgn (by decide) hw14)))))))))))))))) rfl ?_
  refine i_115_66 (x := a1) rfl ?_
  refine i_115_67 (x := 13) rfl ?_
  refine i_115_69 (c := a31) hg237 ?_
  refine i_115_70 (v := Value.ref h52) (xgn (by decide) (xgn (by decide) (xgn (by decide) (xgn (by decide) (xgn (by decide) (xgn (by decide) (xgn (by decide) (xgn (by decide) (xgn (by decide) (xgn (by decide) (xgn (by decide) (xgn (by decide) (xgn (by decide) (xgn (by decide) (xgn (by decide) (xgn (by decide) hw20)))))))))))))))) e238 e239 hg240 ?_
  refine i_115_71 (x := 7) rfl ?_
  refine i_115_72 (v := Value.ref 8) (xgn (by decide) (xgn (by decide) (xgn (by decide) (xgn (by decide) (xgn (by decide) (xgn (by decide) (xgn (by decide) (xgn (by decide) (xgn (by decide) (xgn (by decide) (xgn (by decide) (xgn (by decide) (xgn (by decide) (xgn (by decide) (xgn (by decide) (xgn (by decide) hw14)))))))))))))))) rfl ?_
  refine i_115_75 (x := a2) rfl ?_
  refine i_115_76 (x := 13) rfl ?_
  refine i_115_78 (c := a32) hg241 ?_
  refine i_115_79 (v := Value.ref h53) (xgn (by decide) (xgn (by decide) (xgn (by decide) (xgn (by decide) (xgn (by decide) (xgn (by decide) (xgn (by decide) (xgn (by decide) (xgn (by decide) (xgn (by decide) (xgn (by decide) (xgn (by decide) (xgn (by decide) (xgn (by decide) (xgn (by decide) (xgn (by decide) hw20)))))))))))))))) e242 e243 hg244 ?_
  refine i_115_80 (xgs (xgs (xgs (xgs (xgs (xgs (xgs (xgs (xgs (xgs (xgs (xgs (xgs (xgs (xgn (by decide) (xgn (by decide) hw15)))))))))))))))) (Nat.le_of_ble_eq_true rfl) (p_96_2 (xgn e245 (xgn e245 (xgn e245 (xgn e245 (xgn e245 (xgn e245 (xgn e245 (xgn e245 (xgn e245 (xgn e245 (xgn e245 (xgn e245 (xgn e245 (xgn e245 (xgn e246 (xgn e247 hw248)))))))))))))))) (xgn e249 (xgn e249 (xgn e249 (xgn e249 (xgn e249 (xgn e249 (xgn e249 (xgn e249 (xgn e249 (xgn e249 (xgn e249 (xgn e249 (xgn e249 (xgn e249 (xgn e250 (xgn e251 hw252)))))))))))))))) (xgs (xgs (xgs (xgs (xgs (xgs (xgs (xgs (xgs (xgs (xgs (xgs (xgs (xgs (xgn (by decide) (xgn (by decide) hw15))))))))))))))))) ?_
  refine i_115_83 (x := 13) (c := 14) (lv2 := [(6, Value.int 14), (0, Value.ref 7), (1, Value.int a0), (2, Value.int a1), (3, Value.int a2), (4, Value.int a3), (5, Value.int a4)]) rfl (by decide) rfl ?_
  refine i_115_86 ?_
  refine i_115_51 (x := 14) rfl ?_
  refine i_115_53 (x := a3) rfl ?_
  refine i_115_55 (fun h => absurd e253 (Int.not_lt.mpr h)) (fun _ => ?_)
  refine i_115_58 (x := 7) rfl ?_
  refine i_115_59 (v := Value.ref 19) (xgn (by decide) (xgn (by decide) (xgn (by decide) (xgn (by decide) (xgn (by decide) (xgn (by decide) (xgn (by decide) (xgn (by decide) (xgn (by decide) (xgn (by decide) (xgn (by decide) (xgn (by decide) (xgn (by decide) (xgn (by decide) (xgn (by decide) (xgn (by decide) (xgn (by decide) hw14))))))))))))))))) rfl ?_
  refine i_115_62 (x := 7) rfl ?_
  refine i_115_63 (v := Value.ref 8) (xgn (by decide) (xgn (by decide) (xgn (by decide) (xgn (by decide) (xgn (by decide) (xgn (by decide) (xgn (by decide) (xgn (by decide) (xgn (by decide) (xgn (by decide) (xgn (by decide) (xgn (by decide) (xgn (by decide) (xgn (by decide) (xgn (by decide) (xgn (by decide) (xgn (by decide) hw14))))))))))))))))) rfl ?_
  refine i_115_66 (x := a1) rfl ?_
  refine i_115_67 (x := 14) rfl ?_
  refine i_115_69 (c := a33) hg254 ?_
  refine i_115_70 (v := Value.ref h56) (xgn (by decide) (xgn (by decide) (xgn (by decide) (xgn (by decide) (xgn (by decide) (xgn (by decide) (xgn (by decide) (xgn (by decide) (xgn (by decide) (xgn (by decide) (xgn (by decide) (xgn (by decide) (xgn (by decide) (xgn (by decide) (xgn (by decide) (xgn (by decide) (xgn (by decide) hw20))))))))))))))))) e255 e256 hg257 ?_
  refine i_115_71 (x := 7) rfl ?_
  refine i_115_72 (v := Value.ref 8) (xgn (by decide) (xgn (by decide) (xgn (by decide) (xgn (by decide) (xgn (by decide) (xgn (by decide) (xgn (by decide) (xgn (by decide) (xgn (by decide) (xgn (by decide) (xgn (by decide) (xgn (by decide) (xgn (by decide) (xgn (by decide) (xgn (by decide) (xgn (by decide) (xgn (by decide) hw14))))))))))))))))) rfl ?_
  refine i_115_75 (x := a2) rfl ?_
  refine i_115_76 (x := 14) rfl ?_
  refine i_115_78 (c := a34) hg258 ?_
  refine i_115_79 (v := Value.ref h57) (xgn (by decide) (xgn (by decide) (xgn (by decide) (xgn (by decide) (xgn (by decide) (xgn (by decide) (xgn (by decide) (xgn (by decide) (xgn (by decide) (xgn (by decide) (xgn (by decide) (xgn (by decide) (xgn (by decide) (xgn (by decide) (xgn (by decide) (xgn (by decide) (xgn (by decide) hw20))))))))))))))))) e259 e260 hg261 ?_
  refine i_115_80 (xgs (xgs (xgs (xgs (xgs (xgs (xgs (xgs (xgs (xgs (xgs (xgs (xgs (xgs (xgs (xgn (by decide) (xgn (by decide) hw15))))))))))))))))) (Nat.le_of_ble_eq_true rfl) (p_96_2 (xgn e262 (xgn e262 (xgn e262 (xgn e262 (xgn e262 (xgn e262 (xgn e262 (xgn e262 (xgn e262 (xgn e262 (xgn e262 (xgn e262 (xgn e262 (xgn e262 (xgn e262 (xgn e263 (xgn e264 hw265))))))))))))))))) (xgn e266 (xgn e266 (xgn e266 (xgn e266 (xgn e266 (xgn e266 (xgn e266 (xgn e266 (xgn e266 (xgn e266 (xgn e266 (xgn e266 (xgn e266 (xgn e266 (xgn e266 (xgn e267 (xgn e268 hw269))))))))))))))))) (xgs (xgs (xgs (xgs (xgs (xgs (xgs (xgs (xgs (xgs (xgs (xgs (xgs (xgs (xgs (xgn (by decide) (xgn (by decide) hw15)))))))))))))))))) ?_
  refine i_115_83 (x := 14) (c := 15) (lv2 := [(6, Value.int 15), (0, Value.ref 7), (1, Value.int a0), (2, Value.int a1), (3, Value.int a2), (4, Value.int a3), (5, Value.int a4)]) rfl (by decide) rfl ?_
  refine i_115_86 ?_
  refine i_115_51 (x := 15) rfl ?_
  refine i_115_53 (x := a3) rfl ?_
  refine i_115_55 (fun _ => ?_) (fun h => absurd e270 (Int.not_le.mpr h))
  refine i_115_89 (x := 7) rfl ?_
  refine i_115_90 (v := Value.ref 19) (xgn (by decide) (xgn (by decide) (xgn (by decide) (xgn (by decide) (xgn (by decide) (xgn (by decide) (xgn (by decide) (xgn (by decide) (xgn (by decide) (xgn (by decide) (xgn (by decide) (xgn (by decide) (xgn (by decide) (xgn (by decide) (xgn (by decide) (xgn (by decide) (xgn (by decide) (xgn (by decide) hw14)))))))))))))))))) rfl ?_
  refine i_115_93 (x := 7) rfl ?_
  refine i_115_94 (v := Value.ref 78) (xgn (by decide) (xgn (by decide) (xgn (by decide) (xgn (by decide) (xgn (by decide) (xgn (by decide) (xgn (by decide) (xgn (by decide) (xgn (by decide) (xgn (by decide) (xgn (by decide) (xgn (by decide) (xgn (by decide) (xgn (by decide) (xgn (by decide) (xgn (by decide) (xgn (by decide) (xgn (by decide) hw14)))))))))))))))))) rfl ?_
  refine i_115_97 (x := 7) rfl ?_
  refine i_115_98 (v := Value.ref 8) (xgn (by decide) (xgn (by decide) (xgn (by decide) (xgn (by decide) (xgn (by decide) (xgn (by decide) (xgn (by decide) (xgn (by decide) (xgn (by decide) (xgn (by decide) (xgn (by decide) (xgn (by decide) (xgn (by decide) (xgn (by decide) (xgn (by decide) (xgn (by decide) (xgn (by decide) (xgn (by decide) hw14)))))))))))))))))) rfl ?_
  refine i_115_101 (x := a0) rfl ?_
  refine i_115_102 (v := Value.ref h60) (xgn (by decide) (xgn (by decide) (xgn (by decide) (xgn (by decide) (xgn (by decide) (xgn (by decide) (xgn (by decide) (xgn (by decide) (xgn (by decide) (xgn (by decide) (xgn (by decide) (xgn (by decide) (xgn (by decide) (xgn (by decide) (xgn (by decide) (xgn (by decide) (xgn (by decide) (xgn (by decide) hw20)))))))))))))))))) e0 e1 hg271 ?_
  refine i_115_103 (x := a4) rfl ?_
  refine i_115_105 (xgs (xgs (xgs (xgs (xgs (xgs (xgs (xgs (xgs (xgs (xgs (xgs (xgs (xgs (xgs (xgs (xgn (by decide) (xgn (by decide) hw15)))))))))))))))))) (Nat.le_of_ble_eq_true rfl) (p_64_0 (xgs (xgs (xgs (xgs (xgs (xgs (xgs (xgs (xgs (xgs (xgs (xgs (xgs (xgs (xgs (xgs (xgn (by decide) (xgn (by decide) hw15)))))))))))))))))) (xgn e272 (xgn e272 (xgn e272 (xgn e272 (xgn e272 (xgn e272 (xgn e272 (xgn e272 (xgn e272 (xgn e272 (xgn e272 (xgn e272 (xgn e272 (xgn e272 (xgn e272 (xgn e272 (xgn e273 (xgn e274 hw275)))))))))))))))))) e276) ?_
  exact i_115_108 ⟨rfl, rfl⟩
theorem p_114_10 {d : Nat} {w : xW} {a0 : Int32} {a1 : Int32} {a2 : Int32} {a3 : Int32} {a4 : Int32} {a5 : Int32} {a6 : Int32} {g0 : Nat → Value} {h0 : Nat} {h1 : Nat} {h2 : Nat} {h3 : Nat} {a7 : Int32} {h4 : Nat} {a8 : Int32} {h5 : Nat} {h6 : Nat} {h7 : Nat} {a9 : Int32} {h8 : Nat} {a10 : Int32} {h9 : Nat} {h10 : Nat} {h11 : Nat} {a11 : Int32} {h12 : Nat} {a12 : Int32} {h13 : Nat} {h14 : Nat} {h15 : Nat} {a13 : Int32} {h16 : Nat} {a14 : Int32} {h17 : Nat} {h18 : Nat} {h19 : Nat} {a15 : Int32} {h20 : Nat} {a16 : Int32} {h21 : Nat} {h22 : Nat} {h23 : Nat} {a17 : Int32} {h24 : Nat} {a18 : Int32} {h25 : Nat} {h26 : Nat} {h27 : Nat} {a19 : Int32} {h28 : Nat} {a20 : Int32} {h29 : Nat} {h30 : Nat} {h31 : Nat} {a21 : Int32} {h32 : Nat} {a22 : Int32} {h33 : Nat} {h34 : Nat} {h35 : Nat} {a23 : Int32} {h36 : Nat} {a24 : Int32} {h37 : Nat} {h38 : Nat} {h39 : Nat} {a25 : Int32} {h40 : Nat} {a26 : Int32} {h41 : Nat} {h42 : Nat} {h43 : Nat} {a27 : Int32} {h44 : Nat} {a28 : Int32} {h45 : Nat} {h46 : Nat} {h47 : Nat} {a29 : Int32} {h48 : Nat} {a30 : Int32} {h49 : Nat} {h50 : Nat} {h51 : Nat} {a31 : Int32} {h52 : Nat} {a32 : Int32} {h53 : Nat} {h54 : Nat} {h55 : Nat} {a33 : Int32} {h56 : Nat} {a34 : Int32} {h57 : Nat} {h58 : Nat} {h59 : Nat} {h60 : Nat} {h61 : Nat} (hw0 : w[7]? = some (Sum.inr (0, [Value.ref 8, Value.ref 78, Value.ref 9, Value.ref 10, Value.ref 13, Value.ref 16, Value.ref 19, Value.ref 93, Value.ref 108, Value.ref 113, Value.ref 29, Value.int 0]))) (e1 : 0 ≤ a0.toInt) (e2 : a0.toInt < 16) (e3 : 0 ≤ a1.toInt) (e4 : a1.toInt < 16) (e5 : 1 ≤ a3.toInt) (e6 : a3.toInt ≤ 16) (hg7 : (a1 + a3) = a5) (e8 : a5.toInt ≤ 16) (e9 : 0 ≤ a2.toInt) (e10 : a2.toInt < 16) (hg11 : (a2 + a3) = a6) (e12 : a6.toInt ≤ 16) (e13 : 0 ≤ a4.toInt) (e14 : a4.toInt ≤ 4) (hw15 : w[19]? = some (Sum.inr (5, [Value.ref 20, Value.ref 22, Value.ref 24, Value.ref 26, Value.int 0, Value.int 0, Value.int 0, Value.int 0, Value.int 0, Value.int 0, Value.int 0, Value.int 0]))) (hw16 : w[20]? = some (Sum.inr (3, [Value.ref 21, Value.int 0]))) (hw17 : w[22]? = some (Sum.inr (3, [Value.ref 23, Value.int 0]))) (e18 : 0 < a3.toInt) (hg19 : (a1 + (0 : Int32)) = a1) (hw20 : w[8]? = some (Sum.inl (4, 16, g0))) (hg21 : g0 a1.toInt.toNat = Value.ref h0) (hg22 : (a2 + (0 : Int32)) = a2) (hg23 : g0 a2.toInt.toNat = Value.ref h1) (e24 : 19 ≠ h0) (e25 : 22 ≠ h0) (e26 : 20 ≠ h0) (hw27 : w[h0]? = some (Sum.inr (2, [Value.int 64, Value.int 0, Value.int 0, Value.int 0, Value.ref h2]))) (e28 : 19 ≠ h1) (e29 : 22 ≠ h1) (e30 : 20 ≠ h1) (hw31 : w[h1]? = some (Sum.inr (2, [Value.int 64, Value.int 0, Value.int 0, Value.int 0, Value.ref h3]))) (e32 : 1 < a3.toInt) (hg33 : (a1 + (1 : Int32)) = a7) (e34 : 0 ≤ a7.toInt) (e35 : a7.toInt < 16) (hg36 : g0 a7.toInt.toNat = Value.ref h4) (hg37 : (a2 + (1 : Int32)) = a8) (e38 : 0 ≤ a8.toInt) (e39 : a8.toInt < 16) (hg40 : g0 a8.toInt.toNat = Value.ref h5) (e41 : 19 ≠ h4) (e42 : 22 ≠ h4) (e43 : 20 ≠ h4) (hw44 : w[h4]? = some (Sum.inr (2, [Value.int 64, Value.int 0, Value.int 0, Value.int 0, Value.ref h6]))) (e45 : 19 ≠ h5) (e46 : 22 ≠ h5) (e47 : 20 ≠ h5) (hw48 : w[h5]? = some (Sum.inr (2, [Value.int 64, Value.int 0, Value.int 0, Value.int 0, Value.ref h7]))) (e49 : 2 < a3.toInt) (hg50 : (a1 + (2 : Int32)) = a9) (e51 : 0 ≤ a9.toInt) (e52 : a9.toInt < 16) (hg53 : g0 a9.toInt.toNat = Value.ref h8) (hg54 : (a2 + (2 : Int32)) = a10) (e55 : 0 ≤ a10.toInt) (e56 : a10.toInt < 16) (hg57 : g0 a10.toInt.toNat = Value.ref h9) (e58 : 19 ≠ h8) (e59 : 22 ≠ h8) (e60 : 20 ≠ h8) (hw61 : w[h8]? = some (Sum.inr (2, [Value.int 64, Value.int 0, Value.int 0, Value.int 0, Value.ref h10]))) (e62 : 19 ≠ h9) (e63 : 22 ≠ h9) (e64 : 20 ≠ h9) (hw65 : w[h9]? = some (Sum.inr (2, [Value.int 64, Value.int 0, Value.int 0, Value.int 0, Value.ref h11]))) (e66 : 3 < a3.toInt) (hg67 : (a1 + (3 : Int32)) = a11) (e68 : 0 ≤ a11.toInt) (e69 : a11.toInt < 16) (hg70 : g0 a11.toInt.toNat = Value.ref h12) (hg71 : (a2 + (3 : Int32)) = a12) (e72 : 0 ≤ a12.toInt) (e73 : a12.toInt < 16) (hg74 : g0 a12.toInt.toNat = Value.ref h13) (e75 : 19 ≠ h12) (e76 : 22 ≠ h12) (e77 : 20 ≠ h12) (hw78 : w[h12]? = some (Sum.inr (2, [Value.int 64, Value.int 0, Value.int 0, Value.int 0, Value.ref h14]))) (e79 : 19 ≠ h13) (e80 : 22 ≠ h13) (e81 : 20 ≠ h13) (hw82 : w[h13]? = some (Sum.inr (2, [Value.int 64, Value.int 0, Value.int 0, Value.int 0, Value.ref h15]))) (e83 : 4 < a3.toInt) (hg84 : (a1 + (4 : Int32)) = a13) (e85 : 0 ≤ a13.toInt) (e86 : a13.toInt < 16) (hg87 : g0 a13.toInt.toNat = Value.ref h16) (hg88 : (a2 + (4 : Int32)) = a14) (e89 : 0 ≤ a14.toInt) (e90 : a14.toInt < 16) (hg91 : g0 a14.toInt.toNat = Value.ref h17) (e92 : 19 ≠ h16) (e93 : 22 ≠ h16) (e94 : 20 ≠ h16) (hw95 : w[h16]? = some (Sum.inr (2, [Value.int 64, Value.int 0, Value.int 0, Value.int 0, Value.ref h18]))) (e96 : 19 ≠ h17) (e97 : 22 ≠ h17) (e98 : 20 ≠ h17) (hw99 : w[h17]? = some (Sum.inr (2, [Value.int 64, Value.int 0, Value.int 0, Value.int 0, Value.ref h19]))) (e100 : 5 < a3.toInt) (hg101 : (a1 + (5 : Int32)) = a15) (e102 : 0 ≤ a15.toInt) (e103 : a15.toInt < 16) (hg104 : g0 a15.toInt.toNat = Value.ref h20) (hg105 : (a2 + (5 : Int32)) = a16) (e106 : 0 ≤ a16.toInt) (e107 : a16.toInt < 16) (hg108 : g0 a16.toInt.toNat = Value.ref h21) (e109 : 19 ≠ h20) (e110 : 22 ≠ h20) (e111 : 20 ≠ h20) (hw112 : w[h20]? = some (Sum.inr (2, [Value.int 64, Value.int 0, Value.int 0, Value.int 0, Value.ref h22]))) (e113 : 19 ≠ h21) (e114 : 22 ≠ h21) (e115 : 20 ≠ h21) (hw116 : w[h21]? = some (Sum.inr (2, [Value.int 64, Value.int 0, Value.int 0, Value.int 0, Value.ref h23]))) (e117 : 6 < a3.toInt) (hg118 : (a1 + (6 : Int32)) = a17) (e119 : 0 ≤ a17.toInt) (e120 : a17.toInt < 16) (hg121 : g0 a17.toInt.toNat = Value.ref h24) (hg122 : (a2 + (6 : Int32)) = a18) (e123 : 0 ≤ a18.toInt) (e124 : a18.toInt < 16) (hg125 : g0 a18.toInt.toNat = Value.ref h25) (e126 : 19 ≠ h24) (e127 : 22 ≠ h24) (e128 : 20 ≠ h24) (hw129 : w[h24]? = some (Sum.inr (2, [Value.int 64, Value.int 0, Value.int 0, Value.int 0, Value.ref h26]))) (e130 : 19 ≠ h25) (e131 : 22 ≠ h25) (e132 : 20 ≠ h25) (hw133 : w[h25]? = some (Sum.inr (2, [Value.int 64, Value.int 0, Value.int 0, Value.int 0, Value.ref h27]))) (e134 : 7 < a3.toInt) (hg135 : (a1 + (7 : Int32)) = a19) (e136 : 0 ≤ a19.toInt) (e137 : a19.toInt < 16) (hg138 : g0 a19.toInt.toNat = Value.ref h28) (hg139 : (a2 + (7 : Int32)) = a20) (e140 : 0 ≤ a20.toInt) (e141 : a20.toInt < 16) (hg142 : g0 a20.toInt.toNat = Value.ref h29) (e143 : 19 ≠ h28) (e144 : 22 ≠ h28) (e145 : 20 ≠ h28) (hw146 : w[h28]? = some (Sum.inr (2, [Value.int 64, Value.int 0, Value.int 0, Value.int 0, Value.ref h30]))) (e147 : 19 ≠ h29) (e148 : 22 ≠ h29) (e149 : 20 ≠ h29) (hw150 : w[h29]? = some (Sum.inr (2, [Value.int 64, Value.int 0, Value.int 0, Value.int 0, Value.ref h31]))) (e151 : 8 < a3.toInt) (hg152 : (a1 + (8 : Int32)) = a21) (e153 : 0 ≤ a21.toInt) (e154 : a21.toInt < 16) (hg155 : g0 a21.toInt.toNat = Value.ref h32) (hg156 : (a2 + (8 : Int32)) = a22) (e157 : 0 ≤ a22.toInt) (e158 : a22.toInt < 16) (hg159 : g0 a22.toInt.toNat = Value.ref h33) (e160 : 19 ≠ h32) (e161 : 22 ≠ h32) (e162 : 20 ≠ h32) (hw163 : w[h32]? = some (Sum.inr (2, [Value.int 64, Value.int 0, Value.int 0, Value.int 0, Value.ref h34]))) (e164 : 19 ≠ h33) (e165 : 22 ≠ h33) (e166 : 20 ≠ h33) (hw167 : w[h33]? = some (Sum.inr (2, [Value.int 64, Value.int 0, Value.int 0, Value.int 0, Value.ref h35]))) (e168 : 9 < a3.toInt) (hg169 : (a1 + (9 : Int32)) = a23) (e170 : 0 ≤ a23.toInt) (e171 : a23.toInt < 16) (hg172 : g0 a23.toInt.toNat = Value.ref h36) (hg173 : (a2 + (9 : Int32)) = a24) (e174 : 0 ≤ a24.toInt) (e175 : a24.toInt < 16) (hg176 : g0 a24.toInt.toNat = Value.ref h37) (e177 : 19 ≠ h36) (e178 : 22 ≠ h36) (e179 : 20 ≠ h36) (hw180 : w[h36]? = some (Sum.inr (2, [Value.int 64, Value.int 0, Value.int 0, Value.int 0, Value.ref h38]))) (e181 : 19 ≠ h37) (e182 : 22 ≠ h37) (e183 : 20 ≠ h37) (hw184 : w[h37]? = some (Sum.inr (2, [Value.int 64, Value.int 0, Value.int 0, Value.int 0, Value.ref h39]))) (e185 : 10 < a3.toInt) (hg186 : (a1 + (10 : Int32)) = a25) (e187 : 0 ≤ a25.toInt) (e188 : a25.toInt < 16) (hg189 : g0 a25.toInt.toNat = Value.ref h40) (hg190 : (a2 + (10 : Int32)) = a26) (e191 : 0 ≤ a26.toInt) (e192 : a26.toInt < 16) (hg193 : g0 a26.toInt.toNat = Value.ref h41) (e194 : 19 ≠ h40) (e195 : 22 ≠ h40) (e196 : 20 ≠ h40) (hw197 : w[h40]? = some (Sum.inr (2, [Value.int 64, Value.int 0, Value.int 0, Value.int 0, Value.ref h42]))) (e198 : 19 ≠ h41) (e199 : 22 ≠ h41) (e200 : 20 ≠ h41) (hw201 : w[h41]? = some (Sum.inr (2, [Value.int 64, Value.int 0, Value.int 0, Value.int 0, Value.ref h43]))) (e202 : 11 < a3.toInt) (hg203 : (a1 + (11 : Int32)) = a27) (e204 : 0 ≤ a27.toInt) (e205 : a27.toInt < 16) (hg206 : g0 a27.toInt.toNat = Value.ref h44) (hg207 : (a2 + (11 : Int32)) = a28) (e208 : 0 ≤ a28.toInt) (e209 : a28.toInt < 16) (hg210 : g0 a28.toInt.toNat = Value.ref h45) (e211 : 19 ≠ h44) (e212 : 22 ≠ h44) (e213 : 20 ≠ h44) (hw214 : w[h44]? = some (Sum.inr (2, [Value.int 64, Value.int 0, Value.int 0, Value.int 0, Value.ref h46]))) (e215 : 19 ≠ h45) (e216 : 22 ≠ h45) (e217 : 20 ≠ h45) (hw218 : w[h45]? = some (Sum.inr (2, [Value.int 64, Value.int 0, Value.int 0, Value.int 0, Value.ref h47]))) (e219 : 12 < a3.toInt) (hg220 : (a1 + (12 : Int32)) = a29) (e221 : 0 ≤ a29.toInt) (e222 : a29.toInt < 16) (hg223 : g0 a29.toInt.toNat = Value.ref h48) (hg224 : (a2 + (12 : Int32)) = a30) (e225 : 0 ≤ a30.toInt) (e226 : a30.toInt < 16) (hg227 : g0 a30.toInt.toNat = Value.ref h49) (e228 : 19 ≠ h48) (e229 : 22 ≠ h48) (e230 : 20 ≠ h48) (hw231 : w[h48]? = some (Sum.inr (2, [Value.int 64, Value.int 0, Value.int 0, Value.int 0, Value.ref h50]))) (e232 : 19 ≠ h49) (e233 : 22 ≠ h49) (e234 : 20 ≠ h49) (hw235 : w[h49]? = some (Sum.inr (2, [Value.int 64, Value.int 0, Value.int 0, Value.int 0, Value.ref h51]))) (e236 : 13 < a3.toInt) (hg237 : (a1 + (13 : Int32)) = a31) (e238 : 0 ≤ a31.toInt) (e239 : a31.toInt < 16) (hg240 : g0 a31.toInt.toNat = Value.ref h52) (hg241 : (a2 + (13 : Int32)) = a32) (e242 : 0 ≤ a32.toInt) (e243 : a32.toInt < 16) (hg244 : g0 a32.toInt.toNat = Value.ref h53) (e245 : 19 ≠ h52) (e246 : 22 ≠ h52) (e247 : 20 ≠ h52) (hw248 : w[h52]? = some (Sum.inr (2, [Value.int 64, Value.int 0, Value.int 0, Value.int 0, Value.ref h54]))) (e249 : 19 ≠ h53) (e250 : 22 ≠ h53) (e251 : 20 ≠ h53) (hw252 : w[h53]? = some (Sum.inr (2, [Value.int 64, Value.int 0, Value.int 0, Value.int 0, Value.ref h55]))) (e253 : 14 < a3.toInt) (hg254 : (a1 + (14 : Int32)) = a33) (e255 : 0 ≤ a33.toInt) (e256 : a33.toInt < 16) (hg257 : g0 a33.toInt.toNat = Value.ref h56) (hg258 : (a2 + (14 : Int32)) = a34) (e259 : 0 ≤ a34.toInt) (e260 : a34.toInt < 16) (hg261 : g0 a34.toInt.toNat = Value.ref h57) (e262 : 19 ≠ h56) (e263 : 22 ≠ h56) (e264 : 20 ≠ h56) (hw265 : w[h56]? = some (Sum.inr (2, [Value.int 64, Value.int 0, Value.int 0, Value.int 0, Value.ref h58]))) (e266 : 19 ≠ h57) (e267 : 22 ≠ h57) (e268 : 20 ≠ h57) (hw269 : w[h57]? = some (Sum.inr (2, [Value.int 64, Value.int 0, Value.int 0, Value.int 0, Value.ref h59]))) (e270 : a3.toInt ≤ 15) (hg271 : g0 a0.toInt.toNat = Value.ref h60) (e272 : 19 ≠ h60) (e273 : 22 ≠ h60) (e274 : 20 ≠ h60) (hw275 : w[h60]? = some (Sum.inr (2, [Value.int 64, Value.int 0, Value.int 0, Value.int 0, Value.ref h61]))) (e276 : 7 ≤ h60) (e277 : h60 ≠ 194) (hw278 : w[194]? = some (Sum.inl (3, 1, fun _ => Value.long 0))) : xRun (d + 4) 114 [Value.ref 7, Value.int a0, Value.int a1, Value.int a2, Value.int a3, Value.int a4, Value.ref 194] w (.inl (some (Value.int 0))) ((((((((((((((((((((w.set 20 (Sum.inr (3, [Value.ref 21, Value.int 0]))).set 22 (Sum.inr (3, [Value.ref 23, Value.int 0]))).set 19 (Sum.inr (5, [Value.ref 20, Value.ref 22, Value.ref 24, Value.ref 26, Value.int 0, Value.int 0, Value.int 0, Value.int 0, Value.int 0, Value.int 0, Value.int 0, Value.int 0]))).set 19 (Sum.inr (5, [Value.ref 20, Value.ref 22, Value.ref 24, Value.ref 26, Value.int 0, Value.int 1, Value.int 0, Value.int 0, Value.int 0, Value.int 0, Value.int 0, Value.int 0]))).set 19 (Sum.inr (5, [Value.ref 20, Value.ref 22, Value.ref 24, Value.ref 26, Value.int 0, Value.int 1, Value.int 0, Value.int 0, Value.int 0, Value.int 0, Value.int 0, Value.int 0]))).set 19 (Sum.inr (5, [Value.ref 20, Value.ref 22, Value.ref 24, Value.ref 26, Value.int 0, Value.int 1, Value.int 0, Value.int 0, Value.int 0, Value.int 0, Value.int 0, Value.int 0]))).set 19 (Sum.inr (5, [Value.ref 20, Value.ref 22, Value.ref 24, Value.ref 26, Value.int 0, Value.int 1, Value.int 0, Value.int 0, Value.int 0, Value.int 0, Value.int 0, Value.int 0]))).set 19 (Sum.inr (5, [Value.ref 20, Value.ref 22, Value.ref 24, Value.ref 26, Value.int 0, Value.int 1, Value.int 0, Value.int 0, Value.int 0, Value.int 0, Value.int 0, Value.int 0]))).set 19 (Sum.inr (5, [Value.ref 20, Value.ref 22, Value.ref 24, Value.ref 26, Value.int 0, Value.int 1, Value.int 0, Value.int 0, Value.int 0, Value.int 0, Value.int 0, Value.int 0]))).set 19 (Sum.inr (5, [Value.ref 20, Value.ref 22, Value.ref 24, Value.ref 26, Value.int 0, Value.int 1, Value.int 0, Value.int 0, Value.int 0, Value.int 0, Value.int 0, Value.int 0]))).set 19 (Sum.inr (5, [Value.ref 20, Value.ref 22, Value.ref 24, Value.ref 26, Value.int 0, Value.int 1, Value.int 0, Value.int 0, Value.int 0, Value.int 0, Value.int 0, Value.int 0]))).set 19 (Sum.inr (5, [Value.ref 20, Value.ref 22, Value.ref 24, Value.ref 26, Value.int 0, Value.int 1, Value.int 0, Value.int 0, Value.int 0, Value.int 0, Value.int 0, Value.int 0]))).set 19 (Sum.inr (5, [Value.ref 20, Value.ref 22, Value.ref 24, Value.ref 26, Value.int 0, Value.int 1, Value.int 0, Value.int 0, Value.int 0, Value.int 0, Value.int 0, Value.int 0]))).set 19 (Sum.inr (5, [Value.ref 20, Value.ref 22, Value.ref 24, Value.ref 26, Value.int 0, Value.int 1, Value.int 0, Value.int 0, Value.int 0, Value.int 0, Value.int 0, Value.int 0]))).set 19 (Sum.inr (5, [Value.ref 20, Value.ref 22, Value.ref 24, Value.ref 26, Value.int 0, Value.int 1, Value.int 0, Value.int 0, Value.int 0, Value.int 0, Value.int 0, Value.int 0]))).set 19 (Sum.inr (5, [Value.ref 20, Value.ref 22, Value.ref 24, Value.ref 26, Value.int 0, Value.int 1, Value.int 0, Value.int 0, Value.int 0, Value.int 0, Value.int 0, Value.int 0]))).set 19 (Sum.inr (5, [Value.ref 20, Value.ref 22, Value.ref 24, Value.ref 26, Value.int 0, Value.int 1, Value.int 0, Value.int 0, Value.int 0, Value.int 0, Value.int 0, Value.int 0]))).set 19 (Sum.inr (5, [Value.ref 20, Value.ref 22, Value.ref 24, Value.ref 26, Value.int 0, Value.int 1, Value.int 0, Value.int 0, Value.int 0, Value.int 0, Value.int 0, Value.int 0]))).set h60 (Sum.inr (2, [Value.int 64, Value.int 0, Value.int 0, Value.int 0, Value.ref h61]))).set 194 (Sum.inl (3, 1, xup (fun _ => Value.long 0) (0 : Int32).toInt.toNat (Value.long 0)))) := by
  refine xRun.of ?_
  refine i_114_0 (x := 194) rfl ?_
  refine i_114_2 ?_
  refine i_114_3 (x := 7) rfl ?_
  refine i_114_4 (x := a0) rfl ?_
  refine i_114_5 (x := a1) rfl ?_
  refine i_114_6 (x := a2) rfl ?_
  refine i_114_7 (x := a3) rfl ?_
  refine i_114_9 (x := a4) rfl ?_
  refine i_114_11 hw0 (Nat.le_of_ble_eq_true rfl) (p_115_10 e1 e2 e3 e4 e5 e6 hg7 e8 e9 e10 hg11 e12 e13 e14 hw0 hw15 hw16 hw17 e18 hg19 hw20 hg21 hg22 hg23 e24 e25 e26 hw27 e28 e29 e30 hw31 e32 hg33 e34 e35 hg36 hg37 e38 e39 hg40 e41 e42 e43 hw44 e45 e46 e47 hw48 e49 hg50 e51 e52 hg53 hg54 e55 e56 hg57 e58 e59 e60 hw61 e62 e63 e64 hw65 e66 hg67 e68 e69 hg70 hg71 e72 e73 hg74 e75 e76 e77 hw78 e79 e80 e81 hw82 e83 hg84 e85 e86 hg87 hg88 e89 e90 hg91 e92 e93 e94 hw95 e96 e97 e98 hw99 e100 hg101 e102 e103 hg104 hg105 e106 e107 hg108 e109 e110 e111 hw112 e113 e114 e115 hw116 e117 hg118 e119 e120 hg121 hg122 e123 e124 hg125 e126 e127 e128 hw129 e130 e131 e132 hw133 e134 hg135 e136 e137 hg138 hg139 e140 e141 hg142 e143 e144 e145 hw146 e147 e148 e149 hw150 e151 hg152 e153 e154 hg155 hg156 e157 e158 hg159 e160 e161 e162 hw163 e164 e165 e166 hw167 e168 hg169 e170 e171 hg172 hg173 e174 e175 hg176 e177 e178 e179 hw180 e181 e182 e183 hw184 e185 hg186 e187 e188 hg189 hg190 e191 e192 hg193 e194 e195 e196 hw197 e198 e199 e200 hw201 e202 hg203 e204 e205 hg206 hg207 e208 e209 hg210 e211 e212 e213 hw214 e215 e216 e217 hw218 e219 hg220 e221 e222 hg223 hg224 e225 e226 hg227 e228 e229 e230 hw231 e232 e233 e234 hw235 e236 hg237 e238 e239 hg240 hg241 e242 e243 hg244 e245 e246 e247 hw248 e249 e250 e251 hw252 e253 hg254 e255 e256 hg257 hg258 e259 e260 hg261 e262 e263 e264 hw265 e266 e267 e268 hw269 e270 hg271 e272 e273 e274 hw275 e276) ?_
  refine i_114_14 (c := 0) (by decide) ?_
  refine i_114_15 (v := Value.long 0) (xgn e277 (xgn (by decide) (xgn (by decide) (xgn (by decide) (xgn (by decide) (xgn (by decide) (xgn (by decide) (xgn (by decide) (xgn (by decide) (xgn (by decide) (xgn (by decide) (xgn (by decide) (xgn (by decide) (xgn (by decide) (xgn (by decide) (xgn (by decide) (xgn (by decide) (xgn (by decide) (xgn (by decide) hw278))))))))))))))))))) (by decide) (by decide) (by decide) rfl ?_
  refine i_114_16 ?_
  refine i_114_23 ?_
  exact i_114_24 ⟨rfl, rfl⟩
