/-! the tables of the pure machine say what the words of lw_tbl say (by places in the tables' pieces) -/
theorem xt_1 (j : Nat) {w : Jvm.Cond} (h : tables_1_1[j]? = some w) : w ∈ lw_tbl := List.mem_append_right _ (List.mem_append_left _ (List.mem_of_getElem? h))
theorem xt_2 (j : Nat) {w : Jvm.Cond} (h : tables_1_2[j]? = some w) : w ∈ lw_tbl := List.mem_append_right _ (List.mem_append_right _ (List.mem_append_left _ (List.mem_of_getElem? h)))
theorem xt_3 (j : Nat) {w : Jvm.Cond} (h : tables_1_3[j]? = some w) : w ∈ lw_tbl := List.mem_append_right _ (List.mem_append_right _ (List.mem_append_right _ (List.mem_append_left _ (List.mem_of_getElem? h))))
theorem xt_4 (j : Nat) {w : Jvm.Cond} (h : tables_1_4[j]? = some w) : w ∈ lw_tbl := List.mem_append_right _ (List.mem_append_right _ (List.mem_append_right _ (List.mem_append_right _ (List.mem_append_left _ (List.mem_of_getElem? h)))))
theorem xt_5 (j : Nat) {w : Jvm.Cond} (h : tables_1_5[j]? = some w) : w ∈ lw_tbl := List.mem_append_right _ (List.mem_append_right _ (List.mem_append_right _ (List.mem_append_right _ (List.mem_append_right _ (List.mem_append_left _ (List.mem_of_getElem? h))))))
theorem xt_6 (j : Nat) {w : Jvm.Cond} (h : tables_1_6[j]? = some w) : w ∈ lw_tbl := List.mem_append_right _ (List.mem_append_right _ (List.mem_append_right _ (List.mem_append_right _ (List.mem_append_right _ (List.mem_append_right _ (List.mem_append_left _ (List.mem_of_getElem? h)))))))
theorem xt_7 (j : Nat) {w : Jvm.Cond} (h : tables_1_7[j]? = some w) : w ∈ lw_tbl := List.mem_append_right _ (List.mem_append_right _ (List.mem_append_right _ (List.mem_append_right _ (List.mem_append_right _ (List.mem_append_right _ (List.mem_append_right _ (List.mem_append_left _ (List.mem_of_getElem? h))))))))
theorem xt_8 (j : Nat) {w : Jvm.Cond} (h : tables_1_8[j]? = some w) : w ∈ lw_tbl := List.mem_append_right _ (List.mem_append_right _ (List.mem_append_right _ (List.mem_append_right _ (List.mem_append_right _ (List.mem_append_right _ (List.mem_append_right _ (List.mem_append_right _ (List.mem_append_left _ (List.mem_of_getElem? h)))))))))
theorem xt_9 (j : Nat) {w : Jvm.Cond} (h : tables_1_9[j]? = some w) : w ∈ lw_tbl := List.mem_append_right _ (List.mem_append_right _ (List.mem_append_right _ (List.mem_append_right _ (List.mem_append_right _ (List.mem_append_right _ (List.mem_append_right _ (List.mem_append_right _ (List.mem_append_right _ (List.mem_append_left _ (List.mem_of_getElem? h))))))))))
theorem xt_10 (j : Nat) {w : Jvm.Cond} (h : tables_1_10[j]? = some w) : w ∈ lw_tbl := List.mem_append_right _ (List.mem_append_right _ (List.mem_append_right _ (List.mem_append_right _ (List.mem_append_right _ (List.mem_append_right _ (List.mem_append_right _ (List.mem_append_right _ (List.mem_append_right _ (List.mem_append_right _ (List.mem_of_getElem? h))))))))))
theorem xtp_1 (j : Nat) {y : MethodName} {n : Nat} (h : lw_privs_1[j]? = some (y, n)) : Cond.selects y.cls y y ∈ lw_tbl := List.mem_append_left _ (List.mem_map.mpr ⟨(y, n), List.mem_append_left _ (List.mem_of_getElem? h), rfl⟩)
theorem xtp_2 (j : Nat) {y : MethodName} {n : Nat} (h : lw_privs_2[j]? = some (y, n)) : Cond.selects y.cls y y ∈ lw_tbl := List.mem_append_left _ (List.mem_map.mpr ⟨(y, n), List.mem_append_right _ (List.mem_append_left _ (List.mem_of_getElem? h)), rfl⟩)
theorem xtp_3 (j : Nat) {y : MethodName} {n : Nat} (h : lw_privs_3[j]? = some (y, n)) : Cond.selects y.cls y y ∈ lw_tbl := List.mem_append_left _ (List.mem_map.mpr ⟨(y, n), List.mem_append_right _ (List.mem_append_right _ (List.mem_append_left _ (List.mem_of_getElem? h))), rfl⟩)
theorem xtp_4 (j : Nat) {y : MethodName} {n : Nat} (h : lw_privs_4[j]? = some (y, n)) : Cond.selects y.cls y y ∈ lw_tbl := List.mem_append_left _ (List.mem_map.mpr ⟨(y, n), List.mem_append_right _ (List.mem_append_right _ (List.mem_append_right _ (List.mem_append_left _ (List.mem_of_getElem? h)))), rfl⟩)
theorem xtp_5 (j : Nat) {y : MethodName} {n : Nat} (h : lw_privs_5[j]? = some (y, n)) : Cond.selects y.cls y y ∈ lw_tbl := List.mem_append_left _ (List.mem_map.mpr ⟨(y, n), List.mem_append_right _ (List.mem_append_right _ (List.mem_append_right _ (List.mem_append_right _ (List.mem_append_left _ (List.mem_of_getElem? h))))), rfl⟩)
theorem xtp_6 (j : Nat) {y : MethodName} {n : Nat} (h : lw_privs_6[j]? = some (y, n)) : Cond.selects y.cls y y ∈ lw_tbl := List.mem_append_left _ (List.mem_map.mpr ⟨(y, n), List.mem_append_right _ (List.mem_append_right _ (List.mem_append_right _ (List.mem_append_right _ (List.mem_append_right _ (List.mem_of_getElem? h))))), rfl⟩)
def xown (cn : Nat) : String := xcn.getD cn ""
def xword (cn key k a : Nat) : Option Jvm.Cond := match k with
  | 0 => match xcl[a / 64]? with | some q => bif Nat.blt (a % 64) q.2.2 then some (.fieldLink (xown cn) (key / 4) (q.2.1 (a % 64)).1 (q.2.1 (a % 64)).2.1 (q.2.1 (a % 64)).2.2.1) else none | none => none
  | 1 => (xms[a]?).map fun N => .methodLink (xown cn) (key / 4) (xn N)
  | 2 => (xms[a]?).map fun N => .methodLinkNest (xown cn) (key / 4) (xn N) "TrueFloats"
  | 12 => (xms[a]?).map fun N => .methodLinkNest (xown cn) (key / 4) (xn N) "TrueFloatsModel"
  | 3 => bif Nat.blt a 14 then (xcl[a]?).map fun q => .classLink (xown cn) (key / 4) q.1 else none
  | 8 => bif Nat.blt a 14 || Nat.ble 18 a then none else (xcl[a]?).map fun q => .classLink (xown cn) (key / 4) q.1
  | 4 => match xtys[a]? with | some (.object C) => some (.classLink (xown cn) (key / 4) C) | _ => none
  | 5 => match xks[a]? with | some (.int v) => some (.constant (xown cn) (key / 4) v) | _ => none
  | 6 => match xks[a]? with | some (.long v) => some (.constantLong (xown cn) (key / 4) v) | _ => none
  | 7 => some (.methodLink (xown cn) (key / 4) Lib.objectInit)
  | 11 => some (.methodLink (xown cn) (key / 4) arraycopyName)
  | 13 => match a, cn, key / 4 with | 1, 10, 37 => some (.stringRef "TrueFloats$Reader" 37 "nan") | 3, 10, 50 => some (.stringRef "TrueFloats$Reader" 50 "inf") | _, _, _ => none
  | 14 => match a with | 1 => some (.fieldLink (xown cn) (key / 4) "TrueFloatsModel" "LOG" "[I") | 2 => some (.fieldLink (xown cn) (key / 4) "java/lang/String" "COMPACT_STRINGS" "Z") | 3 => some (.fieldLink (xown cn) (key / 4) "jdk/internal/util/Preconditions" "SIOOBE_FORMATTER" "Ljava/util/function/BiFunction;") | _ => none
  | 15 => match a with | 0 => some (.fieldLinkNest (xown cn) (key / 4) "TrueFloats" "LOGARITHMS_OF_TWO" "[J" "TrueFloats") | _ => none
  | 9 => (xcl[a]?).map fun q => .methodLink (xown cn) (key / 4) ⟨q.1, "<init>", "()V"⟩
  | _ => none
abbrev xlq (cn : Nat) (q : Nat × Nat × Nat × Nat) : Prop := ∃ w, xword cn q.1 q.2.1 q.2.2.1 = some w ∧ w ∈ lw_tbl
theorem xq_0_0 : xlq 0 (4, 7, 0, 120) := ⟨_, rfl, xt_1 38 rfl⟩
theorem xq_0_1 : xlq 0 (36, 3, 2, 123) := ⟨_, rfl, xt_1 41 rfl⟩
theorem xq_0_2 : xlq 0 (37, 4, 4, 123) := ⟨_, rfl, xt_1 41 rfl⟩
theorem xq_0_3 : xlq 0 (44, 0, 0, 530) := ⟨_, rfl, xt_2 208 rfl⟩
theorem xq_0_4 : xlq 0 (60, 3, 1, 125) := ⟨_, rfl, xt_1 43 rfl⟩
theorem xq_0_5 : xlq 0 (68, 1, 1, 127) := ⟨_, rfl, xt_1 45 rfl⟩
theorem xq_0_6 : xlq 0 (80, 0, 2, 532) := ⟨_, rfl, xt_2 210 rfl⟩
theorem xq_0_7 : xlq 0 (96, 2, 2, 150) := ⟨_, rfl, xt_1 68 rfl⟩
theorem xq_0_8 : xlq 0 (100, 0, 3, 533) := ⟨_, rfl, xt_2 211 rfl⟩
theorem xq_0_9 : xlq 0 (116, 0, 4, 534) := ⟨_, rfl, xt_2 212 rfl⟩
theorem xq_0_10 : xlq 0 (128, 3, 4, 220) := ⟨_, rfl, xt_1 138 rfl⟩
theorem xq_0_11 : xlq 0 (136, 2, 4, 222) := ⟨_, rfl, xt_1 140 rfl⟩
theorem xq_0_12 : xlq 0 (140, 0, 5, 535) := ⟨_, rfl, xt_2 213 rfl⟩
theorem xq_0_13 : xlq 0 (156, 3, 5, 264) := ⟨_, rfl, xt_1 182 rfl⟩
theorem xq_0_14 : xlq 0 (164, 2, 5, 266) := ⟨_, rfl, xt_1 184 rfl⟩
theorem xq_0_15 : xlq 0 (168, 0, 6, 536) := ⟨_, rfl, xt_2 214 rfl⟩
theorem xq_0_16 : xlq 0 (184, 0, 10, 540) := ⟨_, rfl, xt_2 218 rfl⟩
theorem xq_0_17 : xlq 0 (200, 0, 11, 541) := ⟨_, rfl, xt_2 219 rfl⟩
theorem xq_0_18 : xlq 0 (216, 3, 6, 311) := ⟨_, rfl, xt_1 229 rfl⟩
theorem xq_0_19 : xlq 0 (224, 2, 6, 313) := ⟨_, rfl, xt_1 231 rfl⟩
theorem xq_0_20 : xlq 0 (228, 3, 7, 344) := ⟨_, rfl, xt_2 22 rfl⟩
theorem xq_0_21 : xlq 0 (236, 2, 7, 346) := ⟨_, rfl, xt_2 24 rfl⟩
theorem xq_0_22 : xlq 0 (240, 0, 128, 178) := ⟨_, rfl, xt_1 96 rfl⟩
theorem xq_0_23 : xlq 0 (252, 0, 1, 531) := ⟨_, rfl, xt_2 209 rfl⟩
theorem xq_0_24 : xlq 0 (264, 3, 8, 369) := ⟨_, rfl, xt_2 47 rfl⟩
theorem xq_0_25 : xlq 0 (272, 1, 8, 371) := ⟨_, rfl, xt_2 49 rfl⟩
theorem xq_0_26 : xlq 0 (284, 0, 7, 537) := ⟨_, rfl, xt_2 215 rfl⟩
theorem xq_0_27 : xlq 0 (300, 3, 10, 440) := ⟨_, rfl, xt_2 118 rfl⟩
theorem xq_0_28 : xlq 0 (308, 1, 10, 442) := ⟨_, rfl, xt_2 120 rfl⟩
theorem xq_0_29 : xlq 0 (320, 0, 8, 538) := ⟨_, rfl, xt_2 216 rfl⟩
theorem xq_0_30 : xlq 0 (336, 3, 11, 478) := ⟨_, rfl, xt_2 156 rfl⟩
theorem xq_0_31 : xlq 0 (344, 1, 11, 480) := ⟨_, rfl, xt_2 158 rfl⟩
theorem xq_0_32 : xlq 0 (348, 0, 9, 539) := ⟨_, rfl, xt_2 217 rfl⟩
theorem xq_0_33 : xlq 0 (364, 1, 15, 579) := ⟨_, rfl, xt_3 17 rfl⟩
theorem xq_0_34 : xlq 0 (380, 8, 14, 582) := ⟨_, rfl, xt_3 20 rfl⟩
theorem xq_0_35 : xlq 0 (388, 9, 14, 624) := ⟨_, rfl, xt_3 62 rfl⟩
theorem xq_0_36 : xlq 0 (392, 1, 16, 647) := ⟨_, rfl, xt_3 85 rfl⟩
theorem xq_0_37 : xlq 0 (408, 0, 65, 134) := ⟨_, rfl, xt_1 52 rfl⟩
theorem xq_0_38 : xlq 0 (420, 0, 64, 132) := ⟨_, rfl, xt_1 50 rfl⟩
theorem xq_0_39 : xlq 0 (432, 0, 66, 136) := ⟨_, rfl, xt_1 54 rfl⟩
theorem xq_0_40 : xlq 0 (448, 0, 67, 138) := ⟨_, rfl, xt_1 56 rfl⟩
theorem xq_0_41 : xlq 0 (460, 5, 0, 669) := ⟨_, rfl, xt_3 107 rfl⟩
theorem xq_0_42 : xlq 0 (464, 5, 1, 670) := ⟨_, rfl, xt_3 108 rfl⟩
theorem xq_0_43 : xlq 0 (468, 1, 22, 671) := ⟨_, rfl, xt_3 109 rfl⟩
theorem xq_0_44 : xlq 0 (480, 1, 23, 674) := ⟨_, rfl, xt_3 112 rfl⟩
theorem xq_0_45 : xlq 0 (496, 1, 24, 678) := ⟨_, rfl, xt_3 116 rfl⟩
theorem xq_0_46 : xlq 0 (512, 1, 27, 690) := ⟨_, rfl, xt_3 128 rfl⟩
theorem xq_0_47 : xlq 0 (528, 0, 130, 194) := ⟨_, rfl, xt_1 112 rfl⟩
theorem xq_0_48 : xlq 0 (540, 1, 54, 1081) := ⟨_, rfl, xt_5 39 rfl⟩
theorem xq_0_49 : xlq 0 (556, 1, 59, 1103) := ⟨_, rfl, xt_5 61 rfl⟩
theorem xq_0_50 : xlq 0 (568, 1, 60, 1107) := ⟨_, rfl, xt_5 65 rfl⟩
theorem xq_0_51 : xlq 0 (584, 1, 64, 1124) := ⟨_, rfl, xt_5 82 rfl⟩
theorem xq_0_52 : xlq 0 (600, 1, 68, 1146) := ⟨_, rfl, xt_5 104 rfl⟩
theorem xq_0_53 : xlq 0 (616, 1, 71, 1160) := ⟨_, rfl, xt_5 118 rfl⟩
theorem xq_0_54 : xlq 0 (628, 1, 78, 1196) := ⟨_, rfl, xt_5 154 rfl⟩
theorem xq_0_55 : xlq 0 (644, 1, 79, 1206) := ⟨_, rfl, xt_5 164 rfl⟩
theorem xq_0_56 : xlq 0 (656, 1, 96, 1297) := ⟨_, rfl, xt_6 15 rfl⟩
theorem xq_0_57 : xlq 0 (672, 1, 99, 1309) := ⟨_, rfl, xt_6 27 rfl⟩
theorem xq_0_58 : xlq 0 (688, 1, 102, 1320) := ⟨_, rfl, xt_6 38 rfl⟩
theorem xq_0_59 : xlq 0 (700, 0, 129, 188) := ⟨_, rfl, xt_1 106 rfl⟩
theorem xq_0_60 : xlq 0 (712, 1, 17, 1349) := ⟨_, rfl, xt_6 67 rfl⟩
theorem xq_0_61 : xlq 0 (728, 1, 107, 1350) := ⟨_, rfl, xt_6 68 rfl⟩
theorem xq_0_62 : xlq 0 (744, 1, 55, 1355) := ⟨_, rfl, xt_6 73 rfl⟩
theorem xq_0_63 : xlq 0 (756, 1, 108, 1356) := ⟨_, rfl, xt_6 74 rfl⟩
theorem xq_0_64 : xlq 0 (772, 0, 257, 242) := ⟨_, rfl, xt_1 160 rfl⟩
theorem xq_0_65 : xlq 0 (788, 0, 193, 170) := ⟨_, rfl, xt_1 88 rfl⟩
theorem xq_0_66 : xlq 0 (808, 0, 256, 234) := ⟨_, rfl, xt_1 152 rfl⟩
theorem xq_0_67 : xlq 0 (812, 1, 109, 1363) := ⟨_, rfl, xt_6 81 rfl⟩
theorem xq_0_68 : xlq 0 (828, 1, 113, 1378) := ⟨_, rfl, xt_6 96 rfl⟩
theorem xq_0_69 : xlq 0 (844, 1, 118, 1395) := ⟨_, rfl, xt_6 113 rfl⟩
theorem xq_0_70 : xlq 0 (856, 1, 48, 1399) := ⟨_, rfl, xt_6 117 rfl⟩
theorem xq_0_71 : xlq 0 (872, 1, 119, 1400) := ⟨_, rfl, xt_6 118 rfl⟩
theorem xq_0_72 : xlq 0 (888, 1, 120, 1405) := ⟨_, rfl, xt_6 123 rfl⟩
theorem xq_0_73 : xlq 0 (900, 8, 15, 1419) := ⟨_, rfl, xt_6 137 rfl⟩
theorem xq_0_74 : xlq 0 (908, 9, 15, 1428) := ⟨_, rfl, xt_6 146 rfl⟩
theorem xq_0_75 : xlq 0 (912, 8, 16, 1442) := ⟨_, rfl, xt_6 160 rfl⟩
theorem xq_0_76 : xlq 0 (920, 9, 16, 1451) := ⟨_, rfl, xt_6 169 rfl⟩
theorem xq_0_77 : xlq 0 (924, 0, 131, 202) := ⟨_, rfl, xt_1 120 rfl⟩
theorem xq_0_78 : xlq 0 (936, 0, 132, 208) := ⟨_, rfl, xt_1 126 rfl⟩
theorem xq_0_79 : xlq 0 (948, 1, 35, 1464) := ⟨_, rfl, xt_6 182 rfl⟩
theorem xq_0_80 : xlq 0 (964, 6, 2, 1465) := ⟨_, rfl, xt_6 183 rfl⟩
theorem xq_0_81 : xlq 0 (972, 6, 5, 1473) := ⟨_, rfl, xt_6 191 rfl⟩
theorem xq_0_82 : xlq 0 (980, 6, 6, 1474) := ⟨_, rfl, xt_6 192 rfl⟩
theorem xq_0_83 : xlq 0 (988, 1, 131, 1482) := ⟨_, rfl, xt_6 200 rfl⟩
theorem xq_0_84 : xlq 0 (1004, 1, 134, 1499) := ⟨_, rfl, xt_6 217 rfl⟩
theorem xq_0_85 : xlq 0 (1020, 1, 135, 1505) := ⟨_, rfl, xt_6 223 rfl⟩
theorem xq_0_86 : xlq 0 (1032, 8, 17, 1519) := ⟨_, rfl, xt_6 237 rfl⟩
theorem xq_0_87 : xlq 0 (1040, 9, 17, 1528) := ⟨_, rfl, xt_7 6 rfl⟩
theorem xq_0_88 : xlq 0 (1044, 1, 138, 1534) := ⟨_, rfl, xt_7 12 rfl⟩
theorem xq_0_89 : xlq 0 (1056, 1, 143, 1552) := ⟨_, rfl, xt_7 30 rfl⟩
theorem xq_0_90 : xlq 0 (1072, 0, 645, 454) := ⟨_, rfl, xt_2 132 rfl⟩
theorem xq_0_91 : xlq 0 (1076, 0, 646, 456) := ⟨_, rfl, xt_2 134 rfl⟩
theorem xq_0_92 : xlq 0 (1080, 1, 149, 1604) := ⟨_, rfl, xt_7 82 rfl⟩
theorem xq_0_93 : xlq 0 (1096, 1, 152, 1632) := ⟨_, rfl, xt_7 110 rfl⟩
theorem xq_0_94 : xlq 0 (1108, 1, 154, 1650) := ⟨_, rfl, xt_7 128 rfl⟩
theorem xq_0_95 : xlq 0 (1120, 1, 159, 1679) := ⟨_, rfl, xt_7 157 rfl⟩
theorem xq_0_96 : xlq 0 (1136, 0, 707, 493) := ⟨_, rfl, xt_2 171 rfl⟩
theorem xq_0_97 : xlq 0 (1148, 0, 706, 491) := ⟨_, rfl, xt_2 169 rfl⟩
set_option maxRecDepth 100000 in
theorem xlkk_0 : ∀ q ∈ xlk_0, xlq 0 q := List.forall_mem_cons.mpr ⟨xq_0_0, List.forall_mem_cons.mpr ⟨xq_0_1, List.forall_mem_cons.mpr ⟨xq_0_2, List.forall_mem_cons.mpr ⟨xq_0_3, List.forall_mem_cons.mpr ⟨xq_0_4, List.forall_mem_cons.mpr ⟨xq_0_5, List.forall_mem_cons.mpr ⟨xq_0_6, List.forall_mem_cons.mpr ⟨xq_0_7, List.forall_mem_cons.mpr ⟨xq_0_8, List.forall_mem_cons.mpr ⟨xq_0_9, List.forall_mem_cons.mpr ⟨xq_0_10, List.forall_mem_cons.mpr ⟨xq_0_11, List.forall_mem_cons.mpr ⟨xq_0_12, List.forall_mem_cons.mpr ⟨xq_0_13, List.forall_mem_cons.mpr ⟨xq_0_14, List.forall_mem_cons.mpr ⟨xq_0_15, List.forall_mem_cons.mpr ⟨xq_0_16, List.forall_mem_cons.mpr ⟨xq_0_17, List.forall_mem_cons.mpr ⟨xq_0_18, List.forall_mem_cons.mpr ⟨xq_0_19, List.forall_mem_cons.mpr ⟨xq_0_20, List.forall_mem_cons.mpr ⟨xq_0_21, List.forall_mem_cons.mpr ⟨xq_0_22, List.forall_mem_cons.mpr ⟨xq_0_23, List.forall_mem_cons.mpr ⟨xq_0_24, List.forall_mem_cons.mpr ⟨xq_0_25, List.forall_mem_cons.mpr ⟨xq_0_26, List.forall_mem_cons.mpr ⟨xq_0_27, List.forall_mem_cons.mpr ⟨xq_0_28, List.forall_mem_cons.mpr ⟨xq_0_29, List.forall_mem_cons.mpr ⟨xq_0_30, List.forall_mem_cons.mpr ⟨xq_0_31, List.forall_mem_cons.mpr ⟨xq_0_32, List.forall_mem_cons.mpr ⟨xq_0_33, List.forall_mem_cons.mpr ⟨xq_0_34, List.forall_mem_cons.mpr ⟨xq_0_35, List.forall_mem_cons.mpr ⟨xq_0_36, List.forall_mem_cons.mpr ⟨xq_0_37, List.forall_mem_cons.mpr ⟨xq_0_38, List.forall_mem_cons.mpr ⟨xq_0_39, List.forall_mem_cons.mpr ⟨xq_0_40, List.forall_mem_cons.mpr ⟨xq_0_41, List.forall_mem_cons.mpr ⟨xq_0_42, List.forall_mem_cons.mpr ⟨xq_0_43, List.forall_mem_cons.mpr ⟨xq_0_44, List.forall_mem_cons.mpr ⟨xq_0_45, List.forall_mem_cons.mpr ⟨xq_0_46, List.forall_mem_cons.mpr ⟨xq_0_47, List.forall_mem_cons.mpr ⟨xq_0_48, List.forall_mem_cons.mpr ⟨xq_0_49, List.forall_mem_cons.mpr ⟨xq_0_50, List.forall_mem_cons.mpr ⟨xq_0_51, List.forall_mem_cons.mpr ⟨xq_0_52, List.forall_mem_cons.mpr ⟨xq_0_53, List.forall_mem_cons.mpr ⟨xq_0_54, List.forall_mem_cons.mpr ⟨xq_0_55, List.forall_mem_cons.mpr ⟨xq_0_56, List.forall_mem_cons.mpr ⟨xq_0_57, List.forall_mem_cons.mpr ⟨xq_0_58, List.forall_mem_cons.mpr ⟨xq_0_59, List.forall_mem_cons.mpr ⟨xq_0_60, List.forall_mem_cons.mpr ⟨xq_0_61, List.forall_mem_cons.mpr ⟨xq_0_62, List.forall_mem_cons.mpr ⟨xq_0_63, List.forall_mem_cons.mpr ⟨xq_0_64, List.forall_mem_cons.mpr ⟨xq_0_65, List.forall_mem_cons.mpr ⟨xq_0_66, List.forall_mem_cons.mpr ⟨xq_0_67, List.forall_mem_cons.mpr ⟨xq_0_68, List.forall_mem_cons.mpr ⟨xq_0_69, List.forall_mem_cons.mpr ⟨xq_0_70, List.forall_mem_cons.mpr ⟨xq_0_71, List.forall_mem_cons.mpr ⟨xq_0_72, List.forall_mem_cons.mpr ⟨xq_0_73, List.forall_mem_cons.mpr ⟨xq_0_74, List.forall_mem_cons.mpr ⟨xq_0_75, List.forall_mem_cons.mpr ⟨xq_0_76, List.forall_mem_cons.mpr ⟨xq_0_77, List.forall_mem_cons.mpr ⟨xq_0_78, List.forall_mem_cons.mpr ⟨xq_0_79, List.forall_mem_cons.mpr ⟨xq_0_80, List.forall_mem_cons.mpr ⟨xq_0_81, List.forall_mem_cons.mpr ⟨xq_0_82, List.forall_mem_cons.mpr ⟨xq_0_83, List.forall_mem_cons.mpr ⟨xq_0_84, List.forall_mem_cons.mpr ⟨xq_0_85, List.forall_mem_cons.mpr ⟨xq_0_86, List.forall_mem_cons.mpr ⟨xq_0_87, List.forall_mem_cons.mpr ⟨xq_0_88, List.forall_mem_cons.mpr ⟨xq_0_89, List.forall_mem_cons.mpr ⟨xq_0_90, List.forall_mem_cons.mpr ⟨xq_0_91, List.forall_mem_cons.mpr ⟨xq_0_92, List.forall_mem_cons.mpr ⟨xq_0_93, List.forall_mem_cons.mpr ⟨xq_0_94, List.forall_mem_cons.mpr ⟨xq_0_95, List.forall_mem_cons.mpr ⟨xq_0_96, List.forall_mem_cons.mpr ⟨xq_0_97, (fun _ h => absurd h List.not_mem_nil)⟩⟩⟩⟩⟩⟩⟩⟩⟩⟩⟩⟩⟩⟩⟩⟩⟩⟩⟩⟩⟩⟩⟩⟩⟩⟩⟩⟩⟩⟩⟩⟩⟩⟩⟩⟩⟩⟩⟩⟩⟩⟩⟩⟩⟩⟩⟩⟩⟩⟩⟩⟩⟩⟩⟩⟩⟩⟩⟩⟩⟩⟩⟩⟩⟩⟩⟩⟩⟩⟩⟩⟩⟩⟩⟩⟩⟩⟩⟩⟩⟩⟩⟩⟩⟩⟩⟩⟩⟩⟩⟩⟩⟩⟩⟩⟩⟩⟩
theorem xq_1_0 : xlq 1 (12, 7, 0, 130) := ⟨_, rfl, xt_1 48 rfl⟩
theorem xq_1_1 : xlq 1 (36, 0, 67, 137) := ⟨_, rfl, xt_1 55 rfl⟩
theorem xq_1_2 : xlq 1 (60, 0, 64, 131) := ⟨_, rfl, xt_1 49 rfl⟩
theorem xq_1_3 : xlq 1 (72, 0, 65, 133) := ⟨_, rfl, xt_1 51 rfl⟩
theorem xq_1_4 : xlq 1 (84, 0, 66, 135) := ⟨_, rfl, xt_1 53 rfl⟩
theorem xq_1_5 : xlq 1 (100, 1, 16, 1133) := ⟨_, rfl, xt_5 91 rfl⟩
theorem xq_1_6 : xlq 1 (124, 1, 28, 694) := ⟨_, rfl, xt_3 132 rfl⟩
theorem xq_1_7 : xlq 1 (144, 0, 128, 183) := ⟨_, rfl, xt_1 101 rfl⟩
theorem xq_1_8 : xlq 1 (156, 1, 30, 706) := ⟨_, rfl, xt_3 144 rfl⟩
theorem xq_1_9 : xlq 1 (172, 1, 31, 710) := ⟨_, rfl, xt_3 148 rfl⟩
theorem xq_1_10 : xlq 1 (188, 1, 32, 739) := ⟨_, rfl, xt_3 177 rfl⟩
theorem xq_1_11 : xlq 1 (204, 1, 38, 740) := ⟨_, rfl, xt_3 178 rfl⟩
theorem xq_1_12 : xlq 1 (220, 0, 129, 187) := ⟨_, rfl, xt_1 105 rfl⟩
theorem xq_1_13 : xlq 1 (232, 0, 131, 201) := ⟨_, rfl, xt_1 119 rfl⟩
theorem xq_1_14 : xlq 1 (240, 0, 256, 230) := ⟨_, rfl, xt_1 148 rfl⟩
theorem xq_1_15 : xlq 1 (252, 1, 46, 1043) := ⟨_, rfl, xt_5 1 rfl⟩
theorem xq_1_16 : xlq 1 (268, 1, 50, 1060) := ⟨_, rfl, xt_5 18 rfl⟩
theorem xq_1_17 : xlq 1 (284, 1, 37, 1047) := ⟨_, rfl, xt_5 5 rfl⟩
theorem xq_1_18 : xlq 1 (300, 1, 47, 1048) := ⟨_, rfl, xt_5 6 rfl⟩
theorem xq_1_19 : xlq 1 (316, 1, 48, 1052) := ⟨_, rfl, xt_5 10 rfl⟩
theorem xq_1_20 : xlq 1 (332, 0, 259, 252) := ⟨_, rfl, xt_1 170 rfl⟩
theorem xq_1_21 : xlq 1 (344, 0, 257, 238) := ⟨_, rfl, xt_1 156 rfl⟩
theorem xq_1_22 : xlq 1 (360, 1, 51, 1064) := ⟨_, rfl, xt_5 22 rfl⟩
theorem xq_1_23 : xlq 1 (380, 1, 29, 1071) := ⟨_, rfl, xt_5 29 rfl⟩
theorem xq_1_24 : xlq 1 (392, 1, 39, 1072) := ⟨_, rfl, xt_5 30 rfl⟩
theorem xq_1_25 : xlq 1 (404, 1, 23, 1073) := ⟨_, rfl, xt_5 31 rfl⟩
theorem xq_1_26 : xlq 1 (416, 0, 130, 195) := ⟨_, rfl, xt_1 113 rfl⟩
theorem xq_1_27 : xlq 1 (420, 1, 55, 1404) := ⟨_, rfl, xt_6 122 rfl⟩
theorem xq_1_28 : xlq 1 (436, 1, 42, 1409) := ⟨_, rfl, xt_6 127 rfl⟩
theorem xq_1_29 : xlq 1 (452, 0, 258, 248) := ⟨_, rfl, xt_1 166 rfl⟩
theorem xq_1_30 : xlq 1 (464, 1, 93, 1410) := ⟨_, rfl, xt_6 128 rfl⟩
set_option maxRecDepth 100000 in
theorem xlkk_1 : ∀ q ∈ xlk_1, xlq 1 q := List.forall_mem_cons.mpr ⟨xq_1_0, List.forall_mem_cons.mpr ⟨xq_1_1, List.forall_mem_cons.mpr ⟨xq_1_2, List.forall_mem_cons.mpr ⟨xq_1_3, List.forall_mem_cons.mpr ⟨xq_1_4, List.forall_mem_cons.mpr ⟨xq_1_5, List.forall_mem_cons.mpr ⟨xq_1_6, List.forall_mem_cons.mpr ⟨xq_1_7, List.forall_mem_cons.mpr ⟨xq_1_8, List.forall_mem_cons.mpr ⟨xq_1_9, List.forall_mem_cons.mpr ⟨xq_1_10, List.forall_mem_cons.mpr ⟨xq_1_11, List.forall_mem_cons.mpr ⟨xq_1_12, List.forall_mem_cons.mpr ⟨xq_1_13, List.forall_mem_cons.mpr ⟨xq_1_14, List.forall_mem_cons.mpr ⟨xq_1_15, List.forall_mem_cons.mpr ⟨xq_1_16, List.forall_mem_cons.mpr ⟨xq_1_17, List.forall_mem_cons.mpr ⟨xq_1_18, List.forall_mem_cons.mpr ⟨xq_1_19, List.forall_mem_cons.mpr ⟨xq_1_20, List.forall_mem_cons.mpr ⟨xq_1_21, List.forall_mem_cons.mpr ⟨xq_1_22, List.forall_mem_cons.mpr ⟨xq_1_23, List.forall_mem_cons.mpr ⟨xq_1_24, List.forall_mem_cons.mpr ⟨xq_1_25, List.forall_mem_cons.mpr ⟨xq_1_26, List.forall_mem_cons.mpr ⟨xq_1_27, List.forall_mem_cons.mpr ⟨xq_1_28, List.forall_mem_cons.mpr ⟨xq_1_29, List.forall_mem_cons.mpr ⟨xq_1_30, (fun _ h => absurd h List.not_mem_nil)⟩⟩⟩⟩⟩⟩⟩⟩⟩⟩⟩⟩⟩⟩⟩⟩⟩⟩⟩⟩⟩⟩⟩⟩⟩⟩⟩⟩⟩⟩⟩
theorem xq_2_0 : xlq 2 (12, 7, 0, 153) := ⟨_, rfl, xt_1 71 rfl⟩
theorem xq_2_1 : xlq 2 (36, 0, 128, 177) := ⟨_, rfl, xt_1 95 rfl⟩
theorem xq_2_2 : xlq 2 (60, 0, 129, 184) := ⟨_, rfl, xt_1 102 rfl⟩
theorem xq_2_3 : xlq 2 (72, 0, 130, 189) := ⟨_, rfl, xt_1 107 rfl⟩
theorem xq_2_4 : xlq 2 (88, 0, 131, 196) := ⟨_, rfl, xt_1 114 rfl⟩
theorem xq_2_5 : xlq 2 (100, 3, 3, 154) := ⟨_, rfl, xt_1 72 rfl⟩
theorem xq_2_6 : xlq 2 (108, 2, 3, 156) := ⟨_, rfl, xt_1 74 rfl⟩
theorem xq_2_7 : xlq 2 (112, 0, 132, 203) := ⟨_, rfl, xt_1 121 rfl⟩
theorem xq_2_8 : xlq 2 (128, 1, 17, 651) := ⟨_, rfl, xt_3 89 rfl⟩
theorem xq_2_9 : xlq 2 (144, 1, 56, 1354) := ⟨_, rfl, xt_6 72 rfl⟩
theorem xq_2_10 : xlq 2 (160, 1, 40, 750) := ⟨_, rfl, xt_3 188 rfl⟩
theorem xq_2_11 : xlq 2 (176, 1, 49, 1056) := ⟨_, rfl, xt_5 14 rfl⟩
theorem xq_2_12 : xlq 2 (188, 1, 28, 744) := ⟨_, rfl, xt_3 182 rfl⟩
theorem xq_2_13 : xlq 2 (208, 0, 256, 233) := ⟨_, rfl, xt_1 151 rfl⟩
theorem xq_2_14 : xlq 2 (212, 1, 23, 745) := ⟨_, rfl, xt_3 183 rfl⟩
theorem xq_2_15 : xlq 2 (228, 1, 39, 746) := ⟨_, rfl, xt_3 184 rfl⟩
theorem xq_2_16 : xlq 2 (244, 0, 257, 241) := ⟨_, rfl, xt_1 159 rfl⟩
theorem xq_2_17 : xlq 2 (256, 1, 29, 1024) := ⟨_, rfl, xt_4 222 rfl⟩
theorem xq_2_18 : xlq 2 (268, 1, 42, 1025) := ⟨_, rfl, xt_4 223 rfl⟩
theorem xq_2_19 : xlq 2 (284, 1, 43, 1030) := ⟨_, rfl, xt_4 228 rfl⟩
theorem xq_2_20 : xlq 2 (296, 1, 44, 1034) := ⟨_, rfl, xt_4 232 rfl⟩
theorem xq_2_21 : xlq 2 (308, 1, 51, 1678) := ⟨_, rfl, xt_7 156 rfl⟩
theorem xq_2_22 : xlq 2 (320, 1, 110, 1366) := ⟨_, rfl, xt_6 84 rfl⟩
theorem xq_2_23 : xlq 2 (332, 1, 92, 1370) := ⟨_, rfl, xt_6 88 rfl⟩
theorem xq_2_24 : xlq 2 (348, 6, 7, 1486) := ⟨_, rfl, xt_6 204 rfl⟩
theorem xq_2_25 : xlq 2 (356, 6, 3, 1487) := ⟨_, rfl, xt_6 205 rfl⟩
theorem xq_2_26 : xlq 2 (364, 6, 8, 1488) := ⟨_, rfl, xt_6 206 rfl⟩
theorem xq_2_27 : xlq 2 (372, 1, 35, 1489) := ⟨_, rfl, xt_6 207 rfl⟩
theorem xq_2_28 : xlq 2 (388, 6, 2, 1490) := ⟨_, rfl, xt_6 208 rfl⟩
theorem xq_2_29 : xlq 2 (396, 6, 5, 1491) := ⟨_, rfl, xt_6 209 rfl⟩
set_option maxRecDepth 100000 in
theorem xlkk_2 : ∀ q ∈ xlk_2, xlq 2 q := List.forall_mem_cons.mpr ⟨xq_2_0, List.forall_mem_cons.mpr ⟨xq_2_1, List.forall_mem_cons.mpr ⟨xq_2_2, List.forall_mem_cons.mpr ⟨xq_2_3, List.forall_mem_cons.mpr ⟨xq_2_4, List.forall_mem_cons.mpr ⟨xq_2_5, List.forall_mem_cons.mpr ⟨xq_2_6, List.forall_mem_cons.mpr ⟨xq_2_7, List.forall_mem_cons.mpr ⟨xq_2_8, List.forall_mem_cons.mpr ⟨xq_2_9, List.forall_mem_cons.mpr ⟨xq_2_10, List.forall_mem_cons.mpr ⟨xq_2_11, List.forall_mem_cons.mpr ⟨xq_2_12, List.forall_mem_cons.mpr ⟨xq_2_13, List.forall_mem_cons.mpr ⟨xq_2_14, List.forall_mem_cons.mpr ⟨xq_2_15, List.forall_mem_cons.mpr ⟨xq_2_16, List.forall_mem_cons.mpr ⟨xq_2_17, List.forall_mem_cons.mpr ⟨xq_2_18, List.forall_mem_cons.mpr ⟨xq_2_19, List.forall_mem_cons.mpr ⟨xq_2_20, List.forall_mem_cons.mpr ⟨xq_2_21, List.forall_mem_cons.mpr ⟨xq_2_22, List.forall_mem_cons.mpr ⟨xq_2_23, List.forall_mem_cons.mpr ⟨xq_2_24, List.forall_mem_cons.mpr ⟨xq_2_25, List.forall_mem_cons.mpr ⟨xq_2_26, List.forall_mem_cons.mpr ⟨xq_2_27, List.forall_mem_cons.mpr ⟨xq_2_28, List.forall_mem_cons.mpr ⟨xq_2_29, (fun _ h => absurd h List.not_mem_nil)⟩⟩⟩⟩⟩⟩⟩⟩⟩⟩⟩⟩⟩⟩⟩⟩⟩⟩⟩⟩⟩⟩⟩⟩⟩⟩⟩⟩⟩⟩
theorem xq_3_0 : xlq 3 (12, 7, 0, 159) := ⟨_, rfl, xt_1 77 rfl⟩
theorem xq_3_1 : xlq 3 (36, 0, 192, 160) := ⟨_, rfl, xt_1 78 rfl⟩
theorem xq_3_2 : xlq 3 (60, 0, 193, 162) := ⟨_, rfl, xt_1 80 rfl⟩
theorem xq_3_3 : xlq 3 (76, 1, 273, 758) := ⟨_, rfl, xt_3 196 rfl⟩
theorem xq_3_4 : xlq 3 (100, 1, 281, 761) := ⟨_, rfl, xt_3 199 rfl⟩
theorem xq_3_5 : xlq 3 (124, 1, 41, 754) := ⟨_, rfl, xt_3 192 rfl⟩
theorem xq_3_6 : xlq 3 (140, 1, 26, 686) := ⟨_, rfl, xt_3 124 rfl⟩
theorem xq_3_7 : xlq 3 (152, 1, 279, 775) := ⟨_, rfl, xt_3 213 rfl⟩
theorem xq_3_8 : xlq 3 (168, 11, 0, 1094) := ⟨_, rfl, xt_5 52 rfl⟩
theorem xq_3_9 : xlq 3 (192, 1, 29, 1029) := ⟨_, rfl, xt_4 227 rfl⟩
theorem xq_3_10 : xlq 3 (208, 1, 35, 729) := ⟨_, rfl, xt_3 167 rfl⟩
theorem xq_3_11 : xlq 3 (224, 1, 277, 702) := ⟨_, rfl, xt_3 140 rfl⟩
theorem xq_3_12 : xlq 3 (244, 1, 272, 722) := ⟨_, rfl, xt_3 160 rfl⟩
theorem xq_3_13 : xlq 3 (256, 1, 278, 1068) := ⟨_, rfl, xt_5 26 rfl⟩
theorem xq_3_14 : xlq 3 (268, 1, 45, 1038) := ⟨_, rfl, xt_4 236 rfl⟩
theorem xq_3_15 : xlq 3 (280, 6, 2, 1042) := ⟨_, rfl, xt_5 0 rfl⟩
theorem xq_3_16 : xlq 3 (288, 1, 70, 1156) := ⟨_, rfl, xt_5 114 rfl⟩
set_option maxRecDepth 100000 in
theorem xlkk_3 : ∀ q ∈ xlk_3, xlq 3 q := List.forall_mem_cons.mpr ⟨xq_3_0, List.forall_mem_cons.mpr ⟨xq_3_1, List.forall_mem_cons.mpr ⟨xq_3_2, List.forall_mem_cons.mpr ⟨xq_3_3, List.forall_mem_cons.mpr ⟨xq_3_4, List.forall_mem_cons.mpr ⟨xq_3_5, List.forall_mem_cons.mpr ⟨xq_3_6, List.forall_mem_cons.mpr ⟨xq_3_7, List.forall_mem_cons.mpr ⟨xq_3_8, List.forall_mem_cons.mpr ⟨xq_3_9, List.forall_mem_cons.mpr ⟨xq_3_10, List.forall_mem_cons.mpr ⟨xq_3_11, List.forall_mem_cons.mpr ⟨xq_3_12, List.forall_mem_cons.mpr ⟨xq_3_13, List.forall_mem_cons.mpr ⟨xq_3_14, List.forall_mem_cons.mpr ⟨xq_3_15, List.forall_mem_cons.mpr ⟨xq_3_16, (fun _ h => absurd h List.not_mem_nil)⟩⟩⟩⟩⟩⟩⟩⟩⟩⟩⟩⟩⟩⟩⟩⟩⟩
theorem xq_4_0 : xlq 4 (12, 7, 0, 225) := ⟨_, rfl, xt_1 143 rfl⟩
theorem xq_4_1 : xlq 4 (36, 3, 3, 226) := ⟨_, rfl, xt_1 144 rfl⟩
theorem xq_4_2 : xlq 4 (44, 2, 3, 227) := ⟨_, rfl, xt_1 145 rfl⟩
theorem xq_4_3 : xlq 4 (48, 0, 257, 235) := ⟨_, rfl, xt_1 153 rfl⟩
theorem xq_4_4 : xlq 4 (72, 0, 256, 228) := ⟨_, rfl, xt_1 146 rfl⟩
theorem xq_4_5 : xlq 4 (88, 1, 25, 682) := ⟨_, rfl, xt_3 120 rfl⟩
theorem xq_4_6 : xlq 4 (104, 0, 258, 243) := ⟨_, rfl, xt_1 161 rfl⟩
theorem xq_4_7 : xlq 4 (120, 0, 259, 249) := ⟨_, rfl, xt_1 167 rfl⟩
theorem xq_4_8 : xlq 4 (132, 0, 130, 192) := ⟨_, rfl, xt_1 110 rfl⟩
theorem xq_4_9 : xlq 4 (144, 0, 132, 204) := ⟨_, rfl, xt_1 122 rfl⟩
theorem xq_4_10 : xlq 4 (156, 1, 56, 1090) := ⟨_, rfl, xt_5 48 rfl⟩
theorem xq_4_11 : xlq 4 (172, 0, 131, 198) := ⟨_, rfl, xt_1 116 rfl⟩
theorem xq_4_12 : xlq 4 (184, 0, 128, 179) := ⟨_, rfl, xt_1 97 rfl⟩
theorem xq_4_13 : xlq 4 (196, 1, 29, 698) := ⟨_, rfl, xt_3 136 rfl⟩
theorem xq_4_14 : xlq 4 (212, 1, 33, 718) := ⟨_, rfl, xt_3 156 rfl⟩
theorem xq_4_15 : xlq 4 (228, 1, 32, 714) := ⟨_, rfl, xt_3 152 rfl⟩
theorem xq_4_16 : xlq 4 (240, 1, 34, 725) := ⟨_, rfl, xt_3 163 rfl⟩
theorem xq_4_17 : xlq 4 (252, 1, 36, 733) := ⟨_, rfl, xt_3 171 rfl⟩
theorem xq_4_18 : xlq 4 (268, 1, 37, 736) := ⟨_, rfl, xt_3 174 rfl⟩
theorem xq_4_19 : xlq 4 (284, 1, 31, 1360) := ⟨_, rfl, xt_6 78 rfl⟩
theorem xq_4_20 : xlq 4 (300, 1, 42, 1361) := ⟨_, rfl, xt_6 79 rfl⟩
theorem xq_4_21 : xlq 4 (316, 1, 44, 1362) := ⟨_, rfl, xt_6 80 rfl⟩
theorem xq_4_22 : xlq 4 (332, 1, 28, 1503) := ⟨_, rfl, xt_6 221 rfl⟩
theorem xq_4_23 : xlq 4 (340, 1, 51, 1504) := ⟨_, rfl, xt_6 222 rfl⟩
theorem xq_4_24 : xlq 4 (352, 0, 193, 169) := ⟨_, rfl, xt_1 87 rfl⟩
theorem xq_4_25 : xlq 4 (364, 1, 35, 1509) := ⟨_, rfl, xt_6 227 rfl⟩
theorem xq_4_26 : xlq 4 (380, 6, 2, 1510) := ⟨_, rfl, xt_6 228 rfl⟩
set_option maxRecDepth 100000 in
theorem xlkk_4 : ∀ q ∈ xlk_4, xlq 4 q := List.forall_mem_cons.mpr ⟨xq_4_0, List.forall_mem_cons.mpr ⟨xq_4_1, List.forall_mem_cons.mpr ⟨xq_4_2, List.forall_mem_cons.mpr ⟨xq_4_3, List.forall_mem_cons.mpr ⟨xq_4_4, List.forall_mem_cons.mpr ⟨xq_4_5, List.forall_mem_cons.mpr ⟨xq_4_6, List.forall_mem_cons.mpr ⟨xq_4_7, List.forall_mem_cons.mpr ⟨xq_4_8, List.forall_mem_cons.mpr ⟨xq_4_9, List.forall_mem_cons.mpr ⟨xq_4_10, List.forall_mem_cons.mpr ⟨xq_4_11, List.forall_mem_cons.mpr ⟨xq_4_12, List.forall_mem_cons.mpr ⟨xq_4_13, List.forall_mem_cons.mpr ⟨xq_4_14, List.forall_mem_cons.mpr ⟨xq_4_15, List.forall_mem_cons.mpr ⟨xq_4_16, List.forall_mem_cons.mpr ⟨xq_4_17, List.forall_mem_cons.mpr ⟨xq_4_18, List.forall_mem_cons.mpr ⟨xq_4_19, List.forall_mem_cons.mpr ⟨xq_4_20, List.forall_mem_cons.mpr ⟨xq_4_21, List.forall_mem_cons.mpr ⟨xq_4_22, List.forall_mem_cons.mpr ⟨xq_4_23, List.forall_mem_cons.mpr ⟨xq_4_24, List.forall_mem_cons.mpr ⟨xq_4_25, List.forall_mem_cons.mpr ⟨xq_4_26, (fun _ h => absurd h List.not_mem_nil)⟩⟩⟩⟩⟩⟩⟩⟩⟩⟩⟩⟩⟩⟩⟩⟩⟩⟩⟩⟩⟩⟩⟩⟩⟩⟩⟩
theorem xq_5_0 : xlq 5 (12, 7, 0, 269) := ⟨_, rfl, xt_1 187 rfl⟩
theorem xq_5_1 : xlq 5 (36, 3, 3, 270) := ⟨_, rfl, xt_1 188 rfl⟩
theorem xq_5_2 : xlq 5 (44, 2, 3, 271) := ⟨_, rfl, xt_1 189 rfl⟩
theorem xq_5_3 : xlq 5 (48, 0, 320, 274) := ⟨_, rfl, xt_1 192 rfl⟩
theorem xq_5_4 : xlq 5 (72, 0, 321, 275) := ⟨_, rfl, xt_1 193 rfl⟩
theorem xq_5_5 : xlq 5 (84, 0, 322, 276) := ⟨_, rfl, xt_1 194 rfl⟩
theorem xq_5_6 : xlq 5 (96, 3, 4, 272) := ⟨_, rfl, xt_1 190 rfl⟩
theorem xq_5_7 : xlq 5 (104, 2, 4, 273) := ⟨_, rfl, xt_1 191 rfl⟩
theorem xq_5_8 : xlq 5 (108, 0, 323, 277) := ⟨_, rfl, xt_1 195 rfl⟩
theorem xq_5_9 : xlq 5 (124, 0, 193, 163) := ⟨_, rfl, xt_1 81 rfl⟩
theorem xq_5_10 : xlq 5 (140, 0, 324, 278) := ⟨_, rfl, xt_1 196 rfl⟩
theorem xq_5_11 : xlq 5 (152, 0, 325, 279) := ⟨_, rfl, xt_1 197 rfl⟩
theorem xq_5_12 : xlq 5 (168, 0, 326, 280) := ⟨_, rfl, xt_1 198 rfl⟩
theorem xq_5_13 : xlq 5 (180, 0, 327, 281) := ⟨_, rfl, xt_1 199 rfl⟩
theorem xq_5_14 : xlq 5 (192, 0, 328, 282) := ⟨_, rfl, xt_1 200 rfl⟩
theorem xq_5_15 : xlq 5 (204, 0, 329, 283) := ⟨_, rfl, xt_1 201 rfl⟩
theorem xq_5_16 : xlq 5 (216, 0, 330, 284) := ⟨_, rfl, xt_1 202 rfl⟩
theorem xq_5_17 : xlq 5 (228, 0, 331, 285) := ⟨_, rfl, xt_1 203 rfl⟩
theorem xq_5_18 : xlq 5 (240, 0, 130, 190) := ⟨_, rfl, xt_1 108 rfl⟩
theorem xq_5_19 : xlq 5 (260, 0, 129, 186) := ⟨_, rfl, xt_1 104 rfl⟩
theorem xq_5_20 : xlq 5 (272, 0, 132, 205) := ⟨_, rfl, xt_1 123 rfl⟩
theorem xq_5_21 : xlq 5 (284, 0, 131, 199) := ⟨_, rfl, xt_1 117 rfl⟩
theorem xq_5_22 : xlq 5 (296, 0, 128, 180) := ⟨_, rfl, xt_1 98 rfl⟩
theorem xq_5_23 : xlq 5 (308, 1, 61, 1111) := ⟨_, rfl, xt_5 69 rfl⟩
theorem xq_5_24 : xlq 5 (324, 1, 63, 1120) := ⟨_, rfl, xt_5 78 rfl⟩
theorem xq_5_25 : xlq 5 (340, 1, 69, 1301) := ⟨_, rfl, xt_6 19 rfl⟩
theorem xq_5_26 : xlq 5 (356, 1, 42, 1115) := ⟨_, rfl, xt_5 73 rfl⟩
theorem xq_5_27 : xlq 5 (372, 1, 62, 1116) := ⟨_, rfl, xt_5 74 rfl⟩
theorem xq_5_28 : xlq 5 (384, 1, 16, 1128) := ⟨_, rfl, xt_5 86 rfl⟩
theorem xq_5_29 : xlq 5 (400, 1, 65, 1129) := ⟨_, rfl, xt_5 87 rfl⟩
theorem xq_5_30 : xlq 5 (424, 1, 47, 1134) := ⟨_, rfl, xt_5 92 rfl⟩
theorem xq_5_31 : xlq 5 (440, 1, 66, 1135) := ⟨_, rfl, xt_5 93 rfl⟩
theorem xq_5_32 : xlq 5 (456, 1, 23, 1139) := ⟨_, rfl, xt_5 97 rfl⟩
theorem xq_5_33 : xlq 5 (468, 0, 256, 231) := ⟨_, rfl, xt_1 149 rfl⟩
theorem xq_5_34 : xlq 5 (472, 0, 257, 239) := ⟨_, rfl, xt_1 157 rfl⟩
theorem xq_5_35 : xlq 5 (484, 1, 56, 1140) := ⟨_, rfl, xt_5 98 rfl⟩
theorem xq_5_36 : xlq 5 (500, 1, 67, 1141) := ⟨_, rfl, xt_5 99 rfl⟩
theorem xq_5_37 : xlq 5 (512, 0, 258, 246) := ⟨_, rfl, xt_1 164 rfl⟩
theorem xq_5_38 : xlq 5 (524, 0, 259, 253) := ⟨_, rfl, xt_1 171 rfl⟩
theorem xq_5_39 : xlq 5 (536, 1, 27, 1145) := ⟨_, rfl, xt_5 103 rfl⟩
set_option maxRecDepth 100000 in
theorem xlkk_5 : ∀ q ∈ xlk_5, xlq 5 q := List.forall_mem_cons.mpr ⟨xq_5_0, List.forall_mem_cons.mpr ⟨xq_5_1, List.forall_mem_cons.mpr ⟨xq_5_2, List.forall_mem_cons.mpr ⟨xq_5_3, List.forall_mem_cons.mpr ⟨xq_5_4, List.forall_mem_cons.mpr ⟨xq_5_5, List.forall_mem_cons.mpr ⟨xq_5_6, List.forall_mem_cons.mpr ⟨xq_5_7, List.forall_mem_cons.mpr ⟨xq_5_8, List.forall_mem_cons.mpr ⟨xq_5_9, List.forall_mem_cons.mpr ⟨xq_5_10, List.forall_mem_cons.mpr ⟨xq_5_11, List.forall_mem_cons.mpr ⟨xq_5_12, List.forall_mem_cons.mpr ⟨xq_5_13, List.forall_mem_cons.mpr ⟨xq_5_14, List.forall_mem_cons.mpr ⟨xq_5_15, List.forall_mem_cons.mpr ⟨xq_5_16, List.forall_mem_cons.mpr ⟨xq_5_17, List.forall_mem_cons.mpr ⟨xq_5_18, List.forall_mem_cons.mpr ⟨xq_5_19, List.forall_mem_cons.mpr ⟨xq_5_20, List.forall_mem_cons.mpr ⟨xq_5_21, List.forall_mem_cons.mpr ⟨xq_5_22, List.forall_mem_cons.mpr ⟨xq_5_23, List.forall_mem_cons.mpr ⟨xq_5_24, List.forall_mem_cons.mpr ⟨xq_5_25, List.forall_mem_cons.mpr ⟨xq_5_26, List.forall_mem_cons.mpr ⟨xq_5_27, List.forall_mem_cons.mpr ⟨xq_5_28, List.forall_mem_cons.mpr ⟨xq_5_29, List.forall_mem_cons.mpr ⟨xq_5_30, List.forall_mem_cons.mpr ⟨xq_5_31, List.forall_mem_cons.mpr ⟨xq_5_32, List.forall_mem_cons.mpr ⟨xq_5_33, List.forall_mem_cons.mpr ⟨xq_5_34, List.forall_mem_cons.mpr ⟨xq_5_35, List.forall_mem_cons.mpr ⟨xq_5_36, List.forall_mem_cons.mpr ⟨xq_5_37, List.forall_mem_cons.mpr ⟨xq_5_38, List.forall_mem_cons.mpr ⟨xq_5_39, (fun _ h => absurd h List.not_mem_nil)⟩⟩⟩⟩⟩⟩⟩⟩⟩⟩⟩⟩⟩⟩⟩⟩⟩⟩⟩⟩⟩⟩⟩⟩⟩⟩⟩⟩⟩⟩⟩⟩⟩⟩⟩⟩⟩⟩⟩⟩
theorem xq_6_0 : xlq 6 (4, 7, 0, 316) := ⟨_, rfl, xt_1 234 rfl⟩
theorem xq_6_1 : xlq 6 (28, 3, 3, 317) := ⟨_, rfl, xt_1 235 rfl⟩
theorem xq_6_2 : xlq 6 (36, 2, 3, 318) := ⟨_, rfl, xt_1 236 rfl⟩
theorem xq_6_3 : xlq 6 (40, 0, 384, 319) := ⟨_, rfl, xt_1 237 rfl⟩
theorem xq_6_4 : xlq 6 (64, 0, 385, 324) := ⟨_, rfl, xt_2 2 rfl⟩
theorem xq_6_5 : xlq 6 (76, 0, 386, 325) := ⟨_, rfl, xt_2 3 rfl⟩
theorem xq_6_6 : xlq 6 (88, 1, 56, 1234) := ⟨_, rfl, xt_5 192 rfl⟩
theorem xq_6_7 : xlq 6 (104, 0, 388, 329) := ⟨_, rfl, xt_2 7 rfl⟩
theorem xq_6_8 : xlq 6 (120, 1, 84, 1235) := ⟨_, rfl, xt_5 193 rfl⟩
theorem xq_6_9 : xlq 6 (136, 1, 25, 1244) := ⟨_, rfl, xt_5 202 rfl⟩
theorem xq_6_10 : xlq 6 (152, 0, 387, 326) := ⟨_, rfl, xt_2 4 rfl⟩
theorem xq_6_11 : xlq 6 (168, 1, 277, 1245) := ⟨_, rfl, xt_5 203 rfl⟩
theorem xq_6_12 : xlq 6 (192, 1, 80, 1246) := ⟨_, rfl, xt_5 204 rfl⟩
theorem xq_6_13 : xlq 6 (204, 1, 86, 1247) := ⟨_, rfl, xt_5 205 rfl⟩
theorem xq_6_14 : xlq 6 (216, 1, 69, 1251) := ⟨_, rfl, xt_5 209 rfl⟩
theorem xq_6_15 : xlq 6 (232, 0, 193, 166) := ⟨_, rfl, xt_1 84 rfl⟩
theorem xq_6_16 : xlq 6 (244, 1, 33, 1239) := ⟨_, rfl, xt_5 197 rfl⟩
theorem xq_6_17 : xlq 6 (260, 1, 85, 1240) := ⟨_, rfl, xt_5 198 rfl⟩
set_option maxRecDepth 100000 in
theorem xlkk_6 : ∀ q ∈ xlk_6, xlq 6 q := List.forall_mem_cons.mpr ⟨xq_6_0, List.forall_mem_cons.mpr ⟨xq_6_1, List.forall_mem_cons.mpr ⟨xq_6_2, List.forall_mem_cons.mpr ⟨xq_6_3, List.forall_mem_cons.mpr ⟨xq_6_4, List.forall_mem_cons.mpr ⟨xq_6_5, List.forall_mem_cons.mpr ⟨xq_6_6, List.forall_mem_cons.mpr ⟨xq_6_7, List.forall_mem_cons.mpr ⟨xq_6_8, List.forall_mem_cons.mpr ⟨xq_6_9, List.forall_mem_cons.mpr ⟨xq_6_10, List.forall_mem_cons.mpr ⟨xq_6_11, List.forall_mem_cons.mpr ⟨xq_6_12, List.forall_mem_cons.mpr ⟨xq_6_13, List.forall_mem_cons.mpr ⟨xq_6_14, List.forall_mem_cons.mpr ⟨xq_6_15, List.forall_mem_cons.mpr ⟨xq_6_16, List.forall_mem_cons.mpr ⟨xq_6_17, (fun _ h => absurd h List.not_mem_nil)⟩⟩⟩⟩⟩⟩⟩⟩⟩⟩⟩⟩⟩⟩⟩⟩⟩⟩
theorem xq_7_0 : xlq 7 (12, 7, 0, 349) := ⟨_, rfl, xt_2 27 rfl⟩
theorem xq_7_1 : xlq 7 (36, 3, 3, 350) := ⟨_, rfl, xt_2 28 rfl⟩
theorem xq_7_2 : xlq 7 (44, 2, 3, 351) := ⟨_, rfl, xt_2 29 rfl⟩
theorem xq_7_3 : xlq 7 (48, 0, 448, 352) := ⟨_, rfl, xt_2 30 rfl⟩
theorem xq_7_4 : xlq 7 (72, 0, 449, 357) := ⟨_, rfl, xt_2 35 rfl⟩
theorem xq_7_5 : xlq 7 (84, 0, 450, 361) := ⟨_, rfl, xt_2 39 rfl⟩
theorem xq_7_6 : xlq 7 (96, 0, 193, 164) := ⟨_, rfl, xt_1 82 rfl⟩
theorem xq_7_7 : xlq 7 (112, 1, 56, 1170) := ⟨_, rfl, xt_5 128 rfl⟩
theorem xq_7_8 : xlq 7 (128, 1, 29, 1171) := ⟨_, rfl, xt_5 129 rfl⟩
theorem xq_7_9 : xlq 7 (144, 1, 42, 1172) := ⟨_, rfl, xt_5 130 rfl⟩
theorem xq_7_10 : xlq 7 (160, 1, 45, 1173) := ⟨_, rfl, xt_5 131 rfl⟩
theorem xq_7_11 : xlq 7 (176, 0, 192, 161) := ⟨_, rfl, xt_1 79 rfl⟩
theorem xq_7_12 : xlq 7 (192, 1, 73, 1174) := ⟨_, rfl, xt_5 132 rfl⟩
theorem xq_7_13 : xlq 7 (208, 1, 26, 1194) := ⟨_, rfl, xt_5 152 rfl⟩
theorem xq_7_14 : xlq 7 (220, 6, 2, 1178) := ⟨_, rfl, xt_5 136 rfl⟩
theorem xq_7_15 : xlq 7 (228, 1, 74, 1179) := ⟨_, rfl, xt_5 137 rfl⟩
theorem xq_7_16 : xlq 7 (244, 1, 75, 1182) := ⟨_, rfl, xt_5 140 rfl⟩
theorem xq_7_17 : xlq 7 (260, 1, 76, 1186) := ⟨_, rfl, xt_5 144 rfl⟩
theorem xq_7_18 : xlq 7 (276, 1, 77, 1190) := ⟨_, rfl, xt_5 148 rfl⟩
theorem xq_7_19 : xlq 7 (292, 6, 3, 1185) := ⟨_, rfl, xt_5 143 rfl⟩
set_option maxRecDepth 100000 in
theorem xlkk_7 : ∀ q ∈ xlk_7, xlq 7 q := List.forall_mem_cons.mpr ⟨xq_7_0, List.forall_mem_cons.mpr ⟨xq_7_1, List.forall_mem_cons.mpr ⟨xq_7_2, List.forall_mem_cons.mpr ⟨xq_7_3, List.forall_mem_cons.mpr ⟨xq_7_4, List.forall_mem_cons.mpr ⟨xq_7_5, List.forall_mem_cons.mpr ⟨xq_7_6, List.forall_mem_cons.mpr ⟨xq_7_7, List.forall_mem_cons.mpr ⟨xq_7_8, List.forall_mem_cons.mpr ⟨xq_7_9, List.forall_mem_cons.mpr ⟨xq_7_10, List.forall_mem_cons.mpr ⟨xq_7_11, List.forall_mem_cons.mpr ⟨xq_7_12, List.forall_mem_cons.mpr ⟨xq_7_13, List.forall_mem_cons.mpr ⟨xq_7_14, List.forall_mem_cons.mpr ⟨xq_7_15, List.forall_mem_cons.mpr ⟨xq_7_16, List.forall_mem_cons.mpr ⟨xq_7_17, List.forall_mem_cons.mpr ⟨xq_7_18, List.forall_mem_cons.mpr ⟨xq_7_19, (fun _ h => absurd h List.not_mem_nil)⟩⟩⟩⟩⟩⟩⟩⟩⟩⟩⟩⟩⟩⟩⟩⟩⟩⟩⟩⟩
theorem xq_8_0 : xlq 8 (12, 7, 0, 374) := ⟨_, rfl, xt_2 52 rfl⟩
theorem xq_8_1 : xlq 8 (36, 3, 4, 375) := ⟨_, rfl, xt_2 53 rfl⟩
theorem xq_8_2 : xlq 8 (44, 2, 4, 376) := ⟨_, rfl, xt_2 54 rfl⟩
theorem xq_8_3 : xlq 8 (48, 0, 516, 422) := ⟨_, rfl, xt_2 100 rfl⟩
theorem xq_8_4 : xlq 8 (72, 3, 3, 377) := ⟨_, rfl, xt_2 55 rfl⟩
theorem xq_8_5 : xlq 8 (80, 2, 3, 378) := ⟨_, rfl, xt_2 56 rfl⟩
theorem xq_8_6 : xlq 8 (84, 0, 517, 423) := ⟨_, rfl, xt_2 101 rfl⟩
theorem xq_8_7 : xlq 8 (100, 0, 518, 424) := ⟨_, rfl, xt_2 102 rfl⟩
theorem xq_8_8 : xlq 8 (112, 0, 512, 418) := ⟨_, rfl, xt_2 96 rfl⟩
theorem xq_8_9 : xlq 8 (128, 0, 513, 419) := ⟨_, rfl, xt_2 97 rfl⟩
theorem xq_8_10 : xlq 8 (144, 0, 514, 420) := ⟨_, rfl, xt_2 98 rfl⟩
theorem xq_8_11 : xlq 8 (160, 3, 9, 379) := ⟨_, rfl, xt_2 57 rfl⟩
theorem xq_8_12 : xlq 8 (168, 1, 9, 381) := ⟨_, rfl, xt_2 59 rfl⟩
theorem xq_8_13 : xlq 8 (180, 0, 515, 421) := ⟨_, rfl, xt_2 99 rfl⟩
theorem xq_8_14 : xlq 8 (196, 0, 129, 185) := ⟨_, rfl, xt_1 103 rfl⟩
theorem xq_8_15 : xlq 8 (220, 1, 17, 1085) := ⟨_, rfl, xt_5 43 rfl⟩
theorem xq_8_16 : xlq 8 (236, 1, 55, 1086) := ⟨_, rfl, xt_5 44 rfl⟩
theorem xq_8_17 : xlq 8 (252, 0, 256, 229) := ⟨_, rfl, xt_1 147 rfl⟩
theorem xq_8_18 : xlq 8 (268, 1, 27, 1095) := ⟨_, rfl, xt_5 53 rfl⟩
theorem xq_8_19 : xlq 8 (292, 0, 130, 191) := ⟨_, rfl, xt_1 109 rfl⟩
theorem xq_8_20 : xlq 8 (296, 1, 16, 1150) := ⟨_, rfl, xt_5 108 rfl⟩
theorem xq_8_21 : xlq 8 (312, 1, 65, 1151) := ⟨_, rfl, xt_5 109 rfl⟩
theorem xq_8_22 : xlq 8 (328, 0, 257, 236) := ⟨_, rfl, xt_1 154 rfl⟩
theorem xq_8_23 : xlq 8 (340, 0, 132, 207) := ⟨_, rfl, xt_1 125 rfl⟩
theorem xq_8_24 : xlq 8 (352, 1, 69, 1152) := ⟨_, rfl, xt_5 110 rfl⟩
theorem xq_8_25 : xlq 8 (368, 0, 131, 200) := ⟨_, rfl, xt_1 118 rfl⟩
theorem xq_8_26 : xlq 8 (380, 0, 128, 182) := ⟨_, rfl, xt_1 100 rfl⟩
theorem xq_8_27 : xlq 8 (392, 0, 258, 244) := ⟨_, rfl, xt_1 162 rfl⟩
theorem xq_8_28 : xlq 8 (404, 0, 259, 250) := ⟨_, rfl, xt_1 168 rfl⟩
theorem xq_8_29 : xlq 8 (416, 0, 67, 139) := ⟨_, rfl, xt_1 57 rfl⟩
theorem xq_8_30 : xlq 8 (428, 1, 273, 1164) := ⟨_, rfl, xt_5 122 rfl⟩
theorem xq_8_31 : xlq 8 (452, 1, 42, 1165) := ⟨_, rfl, xt_5 123 rfl⟩
theorem xq_8_32 : xlq 8 (468, 1, 72, 1166) := ⟨_, rfl, xt_5 124 rfl⟩
theorem xq_8_33 : xlq 8 (488, 0, 448, 354) := ⟨_, rfl, xt_2 32 rfl⟩
theorem xq_8_34 : xlq 8 (500, 1, 56, 1195) := ⟨_, rfl, xt_5 153 rfl⟩
theorem xq_8_35 : xlq 8 (516, 0, 449, 358) := ⟨_, rfl, xt_2 36 rfl⟩
theorem xq_8_36 : xlq 8 (528, 0, 193, 167) := ⟨_, rfl, xt_1 85 rfl⟩
theorem xq_8_37 : xlq 8 (540, 1, 23, 1200) := ⟨_, rfl, xt_5 158 rfl⟩
theorem xq_8_38 : xlq 8 (556, 1, 272, 1201) := ⟨_, rfl, xt_5 159 rfl⟩
theorem xq_8_39 : xlq 8 (568, 1, 34, 1202) := ⟨_, rfl, xt_5 160 rfl⟩
theorem xq_8_40 : xlq 8 (584, 1, 66, 1203) := ⟨_, rfl, xt_5 161 rfl⟩
theorem xq_8_41 : xlq 8 (600, 1, 36, 1204) := ⟨_, rfl, xt_5 162 rfl⟩
theorem xq_8_42 : xlq 8 (616, 1, 67, 1205) := ⟨_, rfl, xt_5 163 rfl⟩
theorem xq_8_43 : xlq 8 (628, 1, 47, 1210) := ⟨_, rfl, xt_5 168 rfl⟩
theorem xq_8_44 : xlq 8 (640, 1, 80, 1211) := ⟨_, rfl, xt_5 169 rfl⟩
theorem xq_8_45 : xlq 8 (652, 1, 62, 1215) := ⟨_, rfl, xt_5 173 rfl⟩
theorem xq_8_46 : xlq 8 (664, 1, 81, 1216) := ⟨_, rfl, xt_5 174 rfl⟩
theorem xq_8_47 : xlq 8 (680, 1, 89, 1265) := ⟨_, rfl, xt_5 223 rfl⟩
theorem xq_8_48 : xlq 8 (696, 1, 24, 1324) := ⟨_, rfl, xt_6 42 rfl⟩
theorem xq_8_49 : xlq 8 (712, 1, 51, 1325) := ⟨_, rfl, xt_6 43 rfl⟩
theorem xq_8_50 : xlq 8 (724, 1, 103, 1326) := ⟨_, rfl, xt_6 44 rfl⟩
theorem xq_8_51 : xlq 8 (740, 5, 4, 1341) := ⟨_, rfl, xt_6 59 rfl⟩
theorem xq_8_52 : xlq 8 (744, 1, 274, 1330) := ⟨_, rfl, xt_6 48 rfl⟩
theorem xq_8_53 : xlq 8 (760, 1, 83, 1333) := ⟨_, rfl, xt_6 51 rfl⟩
theorem xq_8_54 : xlq 8 (784, 0, 384, 323) := ⟨_, rfl, xt_2 1 rfl⟩
theorem xq_8_55 : xlq 8 (796, 0, 387, 328) := ⟨_, rfl, xt_2 6 rfl⟩
theorem xq_8_56 : xlq 8 (800, 0, 388, 331) := ⟨_, rfl, xt_2 9 rfl⟩
theorem xq_8_57 : xlq 8 (812, 1, 104, 1334) := ⟨_, rfl, xt_6 52 rfl⟩
theorem xq_8_58 : xlq 8 (828, 1, 29, 1338) := ⟨_, rfl, xt_6 56 rfl⟩
theorem xq_8_59 : xlq 8 (840, 1, 44, 1340) := ⟨_, rfl, xt_6 58 rfl⟩
theorem xq_8_60 : xlq 8 (852, 1, 40, 1339) := ⟨_, rfl, xt_6 57 rfl⟩
set_option maxRecDepth 100000 in
theorem xlkk_8 : ∀ q ∈ xlk_8, xlq 8 q := List.forall_mem_cons.mpr ⟨xq_8_0, List.forall_mem_cons.mpr ⟨xq_8_1, List.forall_mem_cons.mpr ⟨xq_8_2, List.forall_mem_cons.mpr ⟨xq_8_3, List.forall_mem_cons.mpr ⟨xq_8_4, List.forall_mem_cons.mpr ⟨xq_8_5, List.forall_mem_cons.mpr ⟨xq_8_6, List.forall_mem_cons.mpr ⟨xq_8_7, List.forall_mem_cons.mpr ⟨xq_8_8, List.forall_mem_cons.mpr ⟨xq_8_9, List.forall_mem_cons.mpr ⟨xq_8_10, List.forall_mem_cons.mpr ⟨xq_8_11, List.forall_mem_cons.mpr ⟨xq_8_12, List.forall_mem_cons.mpr ⟨xq_8_13, List.forall_mem_cons.mpr ⟨xq_8_14, List.forall_mem_cons.mpr ⟨xq_8_15, List.forall_mem_cons.mpr ⟨xq_8_16, List.forall_mem_cons.mpr ⟨xq_8_17, List.forall_mem_cons.mpr ⟨xq_8_18, List.forall_mem_cons.mpr ⟨xq_8_19, List.forall_mem_cons.mpr ⟨xq_8_20, List.forall_mem_cons.mpr ⟨xq_8_21, List.forall_mem_cons.mpr ⟨xq_8_22, List.forall_mem_cons.mpr ⟨xq_8_23, List.forall_mem_cons.mpr ⟨xq_8_24, List.forall_mem_cons.mpr ⟨xq_8_25, List.forall_mem_cons.mpr ⟨xq_8_26, List.forall_mem_cons.mpr ⟨xq_8_27, List.forall_mem_cons.mpr ⟨xq_8_28, List.forall_mem_cons.mpr ⟨xq_8_29, List.forall_mem_cons.mpr ⟨xq_8_30, List.forall_mem_cons.mpr ⟨xq_8_31, List.forall_mem_cons.mpr ⟨xq_8_32, List.forall_mem_cons.mpr ⟨xq_8_33, List.forall_mem_cons.mpr ⟨xq_8_34, List.forall_mem_cons.mpr ⟨xq_8_35, List.forall_mem_cons.mpr ⟨xq_8_36, List.forall_mem_cons.mpr ⟨xq_8_37, List.forall_mem_cons.mpr ⟨xq_8_38, List.forall_mem_cons.mpr ⟨xq_8_39, List.forall_mem_cons.mpr ⟨xq_8_40, List.forall_mem_cons.mpr ⟨xq_8_41, List.forall_mem_cons.mpr ⟨xq_8_42, List.forall_mem_cons.mpr ⟨xq_8_43, List.forall_mem_cons.mpr ⟨xq_8_44, List.forall_mem_cons.mpr ⟨xq_8_45, List.forall_mem_cons.mpr ⟨xq_8_46, List.forall_mem_cons.mpr ⟨xq_8_47, List.forall_mem_cons.mpr ⟨xq_8_48, List.forall_mem_cons.mpr ⟨xq_8_49, List.forall_mem_cons.mpr ⟨xq_8_50, List.forall_mem_cons.mpr ⟨xq_8_51, List.forall_mem_cons.mpr ⟨xq_8_52, List.forall_mem_cons.mpr ⟨xq_8_53, List.forall_mem_cons.mpr ⟨xq_8_54, List.forall_mem_cons.mpr ⟨xq_8_55, List.forall_mem_cons.mpr ⟨xq_8_56, List.forall_mem_cons.mpr ⟨xq_8_57, List.forall_mem_cons.mpr ⟨xq_8_58, List.forall_mem_cons.mpr ⟨xq_8_59, List.forall_mem_cons.mpr ⟨xq_8_60, (fun _ h => absurd h List.not_mem_nil)⟩⟩⟩⟩⟩⟩⟩⟩⟩⟩⟩⟩⟩⟩⟩⟩⟩⟩⟩⟩⟩⟩⟩⟩⟩⟩⟩⟩⟩⟩⟩⟩⟩⟩⟩⟩⟩⟩⟩⟩⟩⟩⟩⟩⟩⟩⟩⟩⟩⟩⟩⟩⟩⟩⟩⟩⟩⟩⟩⟩⟩
theorem xq_9_0 : xlq 9 (12, 7, 0, 384) := ⟨_, rfl, xt_2 62 rfl⟩
theorem xq_9_1 : xlq 9 (36, 3, 3, 385) := ⟨_, rfl, xt_2 63 rfl⟩
theorem xq_9_2 : xlq 9 (44, 2, 3, 386) := ⟨_, rfl, xt_2 64 rfl⟩
theorem xq_9_3 : xlq 9 (48, 0, 578, 389) := ⟨_, rfl, xt_2 67 rfl⟩
theorem xq_9_4 : xlq 9 (72, 0, 579, 390) := ⟨_, rfl, xt_2 68 rfl⟩
theorem xq_9_5 : xlq 9 (84, 0, 580, 391) := ⟨_, rfl, xt_2 69 rfl⟩
theorem xq_9_6 : xlq 9 (96, 0, 576, 387) := ⟨_, rfl, xt_2 65 rfl⟩
theorem xq_9_7 : xlq 9 (112, 0, 577, 388) := ⟨_, rfl, xt_2 66 rfl⟩
theorem xq_9_8 : xlq 9 (128, 0, 581, 392) := ⟨_, rfl, xt_2 70 rfl⟩
theorem xq_9_9 : xlq 9 (140, 1, 29, 1220) := ⟨_, rfl, xt_5 178 rfl⟩
theorem xq_9_10 : xlq 9 (156, 1, 275, 1221) := ⟨_, rfl, xt_5 179 rfl⟩
theorem xq_9_11 : xlq 9 (180, 0, 585, 396) := ⟨_, rfl, xt_2 74 rfl⟩
theorem xq_9_12 : xlq 9 (196, 0, 582, 393) := ⟨_, rfl, xt_2 71 rfl⟩
theorem xq_9_13 : xlq 9 (208, 0, 583, 394) := ⟨_, rfl, xt_2 72 rfl⟩
theorem xq_9_14 : xlq 9 (220, 0, 584, 395) := ⟨_, rfl, xt_2 73 rfl⟩
theorem xq_9_15 : xlq 9 (232, 1, 40, 1224) := ⟨_, rfl, xt_5 182 rfl⟩
theorem xq_9_16 : xlq 9 (248, 1, 56, 1225) := ⟨_, rfl, xt_5 183 rfl⟩
theorem xq_9_17 : xlq 9 (264, 1, 82, 1226) := ⟨_, rfl, xt_5 184 rfl⟩
theorem xq_9_18 : xlq 9 (276, 1, 87, 1254) := ⟨_, rfl, xt_5 212 rfl⟩
theorem xq_9_19 : xlq 9 (292, 1, 66, 1263) := ⟨_, rfl, xt_5 221 rfl⟩
theorem xq_9_20 : xlq 9 (308, 1, 272, 1264) := ⟨_, rfl, xt_5 222 rfl⟩
theorem xq_9_21 : xlq 9 (320, 1, 83, 1230) := ⟨_, rfl, xt_5 188 rfl⟩
theorem xq_9_22 : xlq 9 (344, 0, 387, 327) := ⟨_, rfl, xt_2 5 rfl⟩
theorem xq_9_23 : xlq 9 (356, 1, 42, 1252) := ⟨_, rfl, xt_5 210 rfl⟩
theorem xq_9_24 : xlq 9 (372, 0, 384, 321) := ⟨_, rfl, xt_1 239 rfl⟩
theorem xq_9_25 : xlq 9 (384, 1, 72, 1253) := ⟨_, rfl, xt_5 211 rfl⟩
theorem xq_9_26 : xlq 9 (408, 0, 448, 353) := ⟨_, rfl, xt_2 31 rfl⟩
theorem xq_9_27 : xlq 9 (420, 1, 62, 1258) := ⟨_, rfl, xt_5 216 rfl⟩
theorem xq_9_28 : xlq 9 (432, 1, 88, 1259) := ⟨_, rfl, xt_5 217 rfl⟩
theorem xq_9_29 : xlq 9 (448, 1, 43, 1269) := ⟨_, rfl, xt_5 227 rfl⟩
theorem xq_9_30 : xlq 9 (460, 0, 257, 237) := ⟨_, rfl, xt_1 155 rfl⟩
theorem xq_9_31 : xlq 9 (480, 0, 258, 245) := ⟨_, rfl, xt_1 163 rfl⟩
theorem xq_9_32 : xlq 9 (484, 0, 259, 251) := ⟨_, rfl, xt_1 169 rfl⟩
theorem xq_9_33 : xlq 9 (500, 1, 33, 1270) := ⟨_, rfl, xt_5 228 rfl⟩
theorem xq_9_34 : xlq 9 (516, 1, 90, 1271) := ⟨_, rfl, xt_5 229 rfl⟩
theorem xq_9_35 : xlq 9 (532, 1, 93, 1286) := ⟨_, rfl, xt_6 4 rfl⟩
theorem xq_9_36 : xlq 9 (544, 1, 51, 1275) := ⟨_, rfl, xt_5 233 rfl⟩
theorem xq_9_37 : xlq 9 (556, 1, 91, 1276) := ⟨_, rfl, xt_5 234 rfl⟩
theorem xq_9_38 : xlq 9 (568, 0, 388, 330) := ⟨_, rfl, xt_2 8 rfl⟩
theorem xq_9_39 : xlq 9 (580, 1, 44, 1284) := ⟨_, rfl, xt_6 2 rfl⟩
theorem xq_9_40 : xlq 9 (592, 5, 4, 1285) := ⟨_, rfl, xt_6 3 rfl⟩
theorem xq_9_41 : xlq 9 (596, 1, 92, 1280) := ⟨_, rfl, xt_5 238 rfl⟩
set_option maxRecDepth 100000 in
theorem xlkk_9 : ∀ q ∈ xlk_9, xlq 9 q := List.forall_mem_cons.mpr ⟨xq_9_0, List.forall_mem_cons.mpr ⟨xq_9_1, List.forall_mem_cons.mpr ⟨xq_9_2, List.forall_mem_cons.mpr ⟨xq_9_3, List.forall_mem_cons.mpr ⟨xq_9_4, List.forall_mem_cons.mpr ⟨xq_9_5, List.forall_mem_cons.mpr ⟨xq_9_6, List.forall_mem_cons.mpr ⟨xq_9_7, List.forall_mem_cons.mpr ⟨xq_9_8, List.forall_mem_cons.mpr ⟨xq_9_9, List.forall_mem_cons.mpr ⟨xq_9_10, List.forall_mem_cons.mpr ⟨xq_9_11, List.forall_mem_cons.mpr ⟨xq_9_12, List.forall_mem_cons.mpr ⟨xq_9_13, List.forall_mem_cons.mpr ⟨xq_9_14, List.forall_mem_cons.mpr ⟨xq_9_15, List.forall_mem_cons.mpr ⟨xq_9_16, List.forall_mem_cons.mpr ⟨xq_9_17, List.forall_mem_cons.mpr ⟨xq_9_18, List.forall_mem_cons.mpr ⟨xq_9_19, List.forall_mem_cons.mpr ⟨xq_9_20, List.forall_mem_cons.mpr ⟨xq_9_21, List.forall_mem_cons.mpr ⟨xq_9_22, List.forall_mem_cons.mpr ⟨xq_9_23, List.forall_mem_cons.mpr ⟨xq_9_24, List.forall_mem_cons.mpr ⟨xq_9_25, List.forall_mem_cons.mpr ⟨xq_9_26, List.forall_mem_cons.mpr ⟨xq_9_27, List.forall_mem_cons.mpr ⟨xq_9_28, List.forall_mem_cons.mpr ⟨xq_9_29, List.forall_mem_cons.mpr ⟨xq_9_30, List.forall_mem_cons.mpr ⟨xq_9_31, List.forall_mem_cons.mpr ⟨xq_9_32, List.forall_mem_cons.mpr ⟨xq_9_33, List.forall_mem_cons.mpr ⟨xq_9_34, List.forall_mem_cons.mpr ⟨xq_9_35, List.forall_mem_cons.mpr ⟨xq_9_36, List.forall_mem_cons.mpr ⟨xq_9_37, List.forall_mem_cons.mpr ⟨xq_9_38, List.forall_mem_cons.mpr ⟨xq_9_39, List.forall_mem_cons.mpr ⟨xq_9_40, List.forall_mem_cons.mpr ⟨xq_9_41, (fun _ h => absurd h List.not_mem_nil)⟩⟩⟩⟩⟩⟩⟩⟩⟩⟩⟩⟩⟩⟩⟩⟩⟩⟩⟩⟩⟩⟩⟩⟩⟩⟩⟩⟩⟩⟩⟩⟩⟩⟩⟩⟩⟩⟩⟩⟩⟩⟩
theorem xq_10_0 : xlq 10 (12, 7, 0, 445) := ⟨_, rfl, xt_2 123 rfl⟩
theorem xq_10_1 : xlq 10 (36, 3, 3, 446) := ⟨_, rfl, xt_2 124 rfl⟩
theorem xq_10_2 : xlq 10 (44, 2, 3, 447) := ⟨_, rfl, xt_2 125 rfl⟩
theorem xq_10_3 : xlq 10 (48, 0, 642, 450) := ⟨_, rfl, xt_2 128 rfl⟩
theorem xq_10_4 : xlq 10 (72, 0, 643, 451) := ⟨_, rfl, xt_2 129 rfl⟩
theorem xq_10_5 : xlq 10 (84, 0, 640, 448) := ⟨_, rfl, xt_2 126 rfl⟩
theorem xq_10_6 : xlq 10 (100, 0, 641, 449) := ⟨_, rfl, xt_2 127 rfl⟩
theorem xq_10_7 : xlq 10 (116, 0, 644, 452) := ⟨_, rfl, xt_2 130 rfl⟩
theorem xq_10_8 : xlq 10 (132, 0, 646, 455) := ⟨_, rfl, xt_2 133 rfl⟩
theorem xq_10_9 : xlq 10 (148, 13, 1, 1556) := ⟨_, rfl, xt_7 34 rfl⟩
theorem xq_10_10 : xlq 10 (156, 1, 144, 1557) := ⟨_, rfl, xt_7 35 rfl⟩
theorem xq_10_11 : xlq 10 (172, 0, 645, 453) := ⟨_, rfl, xt_2 131 rfl⟩
theorem xq_10_12 : xlq 10 (184, 1, 145, 1585) := ⟨_, rfl, xt_7 63 rfl⟩
theorem xq_10_13 : xlq 10 (200, 13, 3, 1588) := ⟨_, rfl, xt_7 66 rfl⟩
theorem xq_10_14 : xlq 10 (208, 1, 146, 1589) := ⟨_, rfl, xt_7 67 rfl⟩
theorem xq_10_15 : xlq 10 (224, 1, 148, 1598) := ⟨_, rfl, xt_7 76 rfl⟩
theorem xq_10_16 : xlq 10 (240, 0, 193, 165) := ⟨_, rfl, xt_1 83 rfl⟩
theorem xq_10_17 : xlq 10 (252, 1, 282, 1560) := ⟨_, rfl, xt_7 38 rfl⟩
theorem xq_10_18 : xlq 10 (276, 1, 284, 1561) := ⟨_, rfl, xt_7 39 rfl⟩
theorem xq_10_19 : xlq 10 (292, 0, 647, 457) := ⟨_, rfl, xt_2 135 rfl⟩
theorem xq_10_20 : xlq 10 (304, 0, 648, 458) := ⟨_, rfl, xt_2 136 rfl⟩
theorem xq_10_21 : xlq 10 (316, 1, 147, 1593) := ⟨_, rfl, xt_7 71 rfl⟩
theorem xq_10_22 : xlq 10 (332, 5, 9, 1596) := ⟨_, rfl, xt_7 74 rfl⟩
theorem xq_10_23 : xlq 10 (336, 1, 87, 1597) := ⟨_, rfl, xt_7 75 rfl⟩
theorem xq_10_24 : xlq 10 (352, 5, 10, 1602) := ⟨_, rfl, xt_7 80 rfl⟩
theorem xq_10_25 : xlq 10 (356, 1, 272, 1603) := ⟨_, rfl, xt_7 81 rfl⟩
theorem xq_10_26 : xlq 10 (380, 15, 0, 1608) := ⟨_, rfl, xt_7 86 rfl⟩
theorem xq_10_27 : xlq 10 (396, 6, 11, 1610) := ⟨_, rfl, xt_7 88 rfl⟩
theorem xq_10_28 : xlq 10 (404, 6, 12, 1611) := ⟨_, rfl, xt_7 89 rfl⟩
theorem xq_10_29 : xlq 10 (412, 1, 24, 1612) := ⟨_, rfl, xt_7 90 rfl⟩
theorem xq_10_30 : xlq 10 (436, 6, 13, 1613) := ⟨_, rfl, xt_7 91 rfl⟩
theorem xq_10_31 : xlq 10 (444, 1, 278, 1614) := ⟨_, rfl, xt_7 92 rfl⟩
theorem xq_10_32 : xlq 10 (468, 1, 25, 1615) := ⟨_, rfl, xt_7 93 rfl⟩
theorem xq_10_33 : xlq 10 (484, 1, 274, 1616) := ⟨_, rfl, xt_7 94 rfl⟩
theorem xq_10_34 : xlq 10 (496, 5, 4, 1617) := ⟨_, rfl, xt_7 95 rfl⟩
theorem xq_10_35 : xlq 10 (500, 1, 83, 1618) := ⟨_, rfl, xt_7 96 rfl⟩
theorem xq_10_36 : xlq 10 (524, 0, 256, 232) := ⟨_, rfl, xt_1 150 rfl⟩
theorem xq_10_37 : xlq 10 (528, 0, 258, 247) := ⟨_, rfl, xt_1 165 rfl⟩
theorem xq_10_38 : xlq 10 (540, 0, 259, 254) := ⟨_, rfl, xt_1 172 rfl⟩
theorem xq_10_39 : xlq 10 (552, 0, 257, 240) := ⟨_, rfl, xt_1 158 rfl⟩
theorem xq_10_40 : xlq 10 (564, 0, 384, 322) := ⟨_, rfl, xt_2 0 rfl⟩
theorem xq_10_41 : xlq 10 (576, 1, 69, 1619) := ⟨_, rfl, xt_7 97 rfl⟩
theorem xq_10_42 : xlq 10 (592, 1, 29, 1620) := ⟨_, rfl, xt_7 98 rfl⟩
theorem xq_10_43 : xlq 10 (604, 1, 273, 1621) := ⟨_, rfl, xt_7 99 rfl⟩
theorem xq_10_44 : xlq 10 (616, 1, 42, 1622) := ⟨_, rfl, xt_7 100 rfl⟩
theorem xq_10_45 : xlq 10 (632, 1, 72, 1623) := ⟨_, rfl, xt_7 101 rfl⟩
theorem xq_10_46 : xlq 10 (652, 0, 448, 356) := ⟨_, rfl, xt_2 34 rfl⟩
theorem xq_10_47 : xlq 10 (664, 1, 56, 1624) := ⟨_, rfl, xt_7 102 rfl⟩
theorem xq_10_48 : xlq 10 (680, 0, 449, 360) := ⟨_, rfl, xt_2 38 rfl⟩
set_option maxRecDepth 100000 in
theorem xlkk_10 : ∀ q ∈ xlk_10, xlq 10 q := List.forall_mem_cons.mpr ⟨xq_10_0, List.forall_mem_cons.mpr ⟨xq_10_1, List.forall_mem_cons.mpr ⟨xq_10_2, List.forall_mem_cons.mpr ⟨xq_10_3, List.forall_mem_cons.mpr ⟨xq_10_4, List.forall_mem_cons.mpr ⟨xq_10_5, List.forall_mem_cons.mpr ⟨xq_10_6, List.forall_mem_cons.mpr ⟨xq_10_7, List.forall_mem_cons.mpr ⟨xq_10_8, List.forall_mem_cons.mpr ⟨xq_10_9, List.forall_mem_cons.mpr ⟨xq_10_10, List.forall_mem_cons.mpr ⟨xq_10_11, List.forall_mem_cons.mpr ⟨xq_10_12, List.forall_mem_cons.mpr ⟨xq_10_13, List.forall_mem_cons.mpr ⟨xq_10_14, List.forall_mem_cons.mpr ⟨xq_10_15, List.forall_mem_cons.mpr ⟨xq_10_16, List.forall_mem_cons.mpr ⟨xq_10_17, List.forall_mem_cons.mpr ⟨xq_10_18, List.forall_mem_cons.mpr ⟨xq_10_19, List.forall_mem_cons.mpr ⟨xq_10_20, List.forall_mem_cons.mpr ⟨xq_10_21, List.forall_mem_cons.mpr ⟨xq_10_22, List.forall_mem_cons.mpr ⟨xq_10_23, List.forall_mem_cons.mpr ⟨xq_10_24, List.forall_mem_cons.mpr ⟨xq_10_25, List.forall_mem_cons.mpr ⟨xq_10_26, List.forall_mem_cons.mpr ⟨xq_10_27, List.forall_mem_cons.mpr ⟨xq_10_28, List.forall_mem_cons.mpr ⟨xq_10_29, List.forall_mem_cons.mpr ⟨xq_10_30, List.forall_mem_cons.mpr ⟨xq_10_31, List.forall_mem_cons.mpr ⟨xq_10_32, List.forall_mem_cons.mpr ⟨xq_10_33, List.forall_mem_cons.mpr ⟨xq_10_34, List.forall_mem_cons.mpr ⟨xq_10_35, List.forall_mem_cons.mpr ⟨xq_10_36, List.forall_mem_cons.mpr ⟨xq_10_37, List.forall_mem_cons.mpr ⟨xq_10_38, List.forall_mem_cons.mpr ⟨xq_10_39, List.forall_mem_cons.mpr ⟨xq_10_40, List.forall_mem_cons.mpr ⟨xq_10_41, List.forall_mem_cons.mpr ⟨xq_10_42, List.forall_mem_cons.mpr ⟨xq_10_43, List.forall_mem_cons.mpr ⟨xq_10_44, List.forall_mem_cons.mpr ⟨xq_10_45, List.forall_mem_cons.mpr ⟨xq_10_46, List.forall_mem_cons.mpr ⟨xq_10_47, List.forall_mem_cons.mpr ⟨xq_10_48, (fun _ h => absurd h List.not_mem_nil)⟩⟩⟩⟩⟩⟩⟩⟩⟩⟩⟩⟩⟩⟩⟩⟩⟩⟩⟩⟩⟩⟩⟩⟩⟩⟩⟩⟩⟩⟩⟩⟩⟩⟩⟩⟩⟩⟩⟩⟩⟩⟩⟩⟩⟩⟩⟩⟩⟩
theorem xq_11_0 : xlq 11 (12, 7, 0, 483) := ⟨_, rfl, xt_2 161 rfl⟩
theorem xq_11_1 : xlq 11 (44, 0, 706, 490) := ⟨_, rfl, xt_2 168 rfl⟩
theorem xq_11_2 : xlq 11 (60, 0, 707, 492) := ⟨_, rfl, xt_2 170 rfl⟩
theorem xq_11_3 : xlq 11 (76, 3, 3, 484) := ⟨_, rfl, xt_2 162 rfl⟩
theorem xq_11_4 : xlq 11 (84, 2, 3, 485) := ⟨_, rfl, xt_2 163 rfl⟩
theorem xq_11_5 : xlq 11 (88, 0, 708, 494) := ⟨_, rfl, xt_2 172 rfl⟩
theorem xq_11_6 : xlq 11 (104, 0, 709, 495) := ⟨_, rfl, xt_2 173 rfl⟩
theorem xq_11_7 : xlq 11 (116, 0, 710, 496) := ⟨_, rfl, xt_2 174 rfl⟩
theorem xq_11_8 : xlq 11 (128, 0, 711, 497) := ⟨_, rfl, xt_2 175 rfl⟩
theorem xq_11_9 : xlq 11 (140, 0, 712, 498) := ⟨_, rfl, xt_2 176 rfl⟩
theorem xq_11_10 : xlq 11 (152, 0, 704, 488) := ⟨_, rfl, xt_2 166 rfl⟩
theorem xq_11_11 : xlq 11 (168, 0, 705, 489) := ⟨_, rfl, xt_2 167 rfl⟩
theorem xq_11_12 : xlq 11 (184, 3, 2, 486) := ⟨_, rfl, xt_2 164 rfl⟩
theorem xq_11_13 : xlq 11 (192, 2, 2, 487) := ⟨_, rfl, xt_2 165 rfl⟩
theorem xq_11_14 : xlq 11 (196, 0, 713, 499) := ⟨_, rfl, xt_2 177 rfl⟩
theorem xq_11_15 : xlq 11 (212, 0, 714, 500) := ⟨_, rfl, xt_2 178 rfl⟩
theorem xq_11_16 : xlq 11 (224, 1, 278, 1636) := ⟨_, rfl, xt_7 114 rfl⟩
theorem xq_11_17 : xlq 11 (248, 0, 715, 501) := ⟨_, rfl, xt_2 179 rfl⟩
theorem xq_11_18 : xlq 11 (260, 1, 25, 1637) := ⟨_, rfl, xt_7 115 rfl⟩
theorem xq_11_19 : xlq 11 (276, 0, 131, 197) := ⟨_, rfl, xt_1 115 rfl⟩
theorem xq_11_20 : xlq 11 (288, 1, 275, 1638) := ⟨_, rfl, xt_7 116 rfl⟩
theorem xq_11_21 : xlq 11 (312, 0, 716, 502) := ⟨_, rfl, xt_2 180 rfl⟩
theorem xq_11_22 : xlq 11 (324, 15, 0, 1639) := ⟨_, rfl, xt_7 117 rfl⟩
theorem xq_11_23 : xlq 11 (340, 1, 153, 1640) := ⟨_, rfl, xt_7 118 rfl⟩
theorem xq_11_24 : xlq 11 (356, 1, 274, 1644) := ⟨_, rfl, xt_7 122 rfl⟩
theorem xq_11_25 : xlq 11 (368, 5, 4, 1645) := ⟨_, rfl, xt_7 123 rfl⟩
theorem xq_11_26 : xlq 11 (372, 1, 83, 1646) := ⟨_, rfl, xt_7 124 rfl⟩
theorem xq_11_27 : xlq 11 (396, 0, 132, 206) := ⟨_, rfl, xt_1 124 rfl⟩
theorem xq_11_28 : xlq 11 (408, 0, 384, 320) := ⟨_, rfl, xt_1 238 rfl⟩
theorem xq_11_29 : xlq 11 (420, 1, 69, 1647) := ⟨_, rfl, xt_7 125 rfl⟩
theorem xq_11_30 : xlq 11 (436, 1, 29, 1648) := ⟨_, rfl, xt_7 126 rfl⟩
theorem xq_11_31 : xlq 11 (452, 0, 128, 181) := ⟨_, rfl, xt_1 99 rfl⟩
theorem xq_11_32 : xlq 11 (464, 1, 92, 1649) := ⟨_, rfl, xt_7 127 rfl⟩
theorem xq_11_33 : xlq 11 (480, 1, 56, 1663) := ⟨_, rfl, xt_7 141 rfl⟩
theorem xq_11_34 : xlq 11 (496, 1, 273, 1654) := ⟨_, rfl, xt_7 132 rfl⟩
theorem xq_11_35 : xlq 11 (508, 1, 42, 1664) := ⟨_, rfl, xt_7 142 rfl⟩
theorem xq_11_36 : xlq 11 (524, 1, 72, 1665) := ⟨_, rfl, xt_7 143 rfl⟩
theorem xq_11_37 : xlq 11 (544, 0, 449, 359) := ⟨_, rfl, xt_2 37 rfl⟩
theorem xq_11_38 : xlq 11 (556, 0, 193, 168) := ⟨_, rfl, xt_1 86 rfl⟩
theorem xq_11_39 : xlq 11 (568, 1, 66, 1670) := ⟨_, rfl, xt_7 148 rfl⟩
theorem xq_11_40 : xlq 11 (580, 0, 130, 193) := ⟨_, rfl, xt_1 111 rfl⟩
theorem xq_11_41 : xlq 11 (596, 0, 448, 355) := ⟨_, rfl, xt_2 33 rfl⟩
theorem xq_11_42 : xlq 11 (608, 1, 34, 1671) := ⟨_, rfl, xt_7 149 rfl⟩
theorem xq_11_43 : xlq 11 (620, 1, 36, 1672) := ⟨_, rfl, xt_7 150 rfl⟩
theorem xq_11_44 : xlq 11 (644, 1, 155, 1655) := ⟨_, rfl, xt_7 133 rfl⟩
theorem xq_11_45 : xlq 11 (660, 1, 158, 1674) := ⟨_, rfl, xt_7 152 rfl⟩
theorem xq_11_46 : xlq 11 (676, 1, 156, 1659) := ⟨_, rfl, xt_7 137 rfl⟩
theorem xq_11_47 : xlq 11 (692, 1, 157, 1666) := ⟨_, rfl, xt_7 144 rfl⟩
theorem xq_11_48 : xlq 11 (704, 1, 67, 1673) := ⟨_, rfl, xt_7 151 rfl⟩
theorem xq_11_49 : xlq 11 (716, 1, 44, 1683) := ⟨_, rfl, xt_7 161 rfl⟩
theorem xq_11_50 : xlq 11 (728, 1, 272, 1684) := ⟨_, rfl, xt_7 162 rfl⟩
theorem xq_11_51 : xlq 11 (740, 5, 9, 1685) := ⟨_, rfl, xt_7 163 rfl⟩
theorem xq_11_52 : xlq 11 (744, 1, 88, 1686) := ⟨_, rfl, xt_7 164 rfl⟩
theorem xq_11_53 : xlq 11 (756, 1, 160, 1687) := ⟨_, rfl, xt_7 165 rfl⟩
set_option maxRecDepth 100000 in
theorem xlkk_11 : ∀ q ∈ xlk_11, xlq 11 q := List.forall_mem_cons.mpr ⟨xq_11_0, List.forall_mem_cons.mpr ⟨xq_11_1, List.forall_mem_cons.mpr ⟨xq_11_2, List.forall_mem_cons.mpr ⟨xq_11_3, List.forall_mem_cons.mpr ⟨xq_11_4, List.forall_mem_cons.mpr ⟨xq_11_5, List.forall_mem_cons.mpr ⟨xq_11_6, List.forall_mem_cons.mpr ⟨xq_11_7, List.forall_mem_cons.mpr ⟨xq_11_8, List.forall_mem_cons.mpr ⟨xq_11_9, List.forall_mem_cons.mpr ⟨xq_11_10, List.forall_mem_cons.mpr ⟨xq_11_11, List.forall_mem_cons.mpr ⟨xq_11_12, List.forall_mem_cons.mpr ⟨xq_11_13, List.forall_mem_cons.mpr ⟨xq_11_14, List.forall_mem_cons.mpr ⟨xq_11_15, List.forall_mem_cons.mpr ⟨xq_11_16, List.forall_mem_cons.mpr ⟨xq_11_17, List.forall_mem_cons.mpr ⟨xq_11_18, List.forall_mem_cons.mpr ⟨xq_11_19, List.forall_mem_cons.mpr ⟨xq_11_20, List.forall_mem_cons.mpr ⟨xq_11_21, List.forall_mem_cons.mpr ⟨xq_11_22, List.forall_mem_cons.mpr ⟨xq_11_23, List.forall_mem_cons.mpr ⟨xq_11_24, List.forall_mem_cons.mpr ⟨xq_11_25, List.forall_mem_cons.mpr ⟨xq_11_26, List.forall_mem_cons.mpr ⟨xq_11_27, List.forall_mem_cons.mpr ⟨xq_11_28, List.forall_mem_cons.mpr ⟨xq_11_29, List.forall_mem_cons.mpr ⟨xq_11_30, List.forall_mem_cons.mpr ⟨xq_11_31, List.forall_mem_cons.mpr ⟨xq_11_32, List.forall_mem_cons.mpr ⟨xq_11_33, List.forall_mem_cons.mpr ⟨xq_11_34, List.forall_mem_cons.mpr ⟨xq_11_35, List.forall_mem_cons.mpr ⟨xq_11_36, List.forall_mem_cons.mpr ⟨xq_11_37, List.forall_mem_cons.mpr ⟨xq_11_38, List.forall_mem_cons.mpr ⟨xq_11_39, List.forall_mem_cons.mpr ⟨xq_11_40, List.forall_mem_cons.mpr ⟨xq_11_41, List.forall_mem_cons.mpr ⟨xq_11_42, List.forall_mem_cons.mpr ⟨xq_11_43, List.forall_mem_cons.mpr ⟨xq_11_44, List.forall_mem_cons.mpr ⟨xq_11_45, List.forall_mem_cons.mpr ⟨xq_11_46, List.forall_mem_cons.mpr ⟨xq_11_47, List.forall_mem_cons.mpr ⟨xq_11_48, List.forall_mem_cons.mpr ⟨xq_11_49, List.forall_mem_cons.mpr ⟨xq_11_50, List.forall_mem_cons.mpr ⟨xq_11_51, List.forall_mem_cons.mpr ⟨xq_11_52, List.forall_mem_cons.mpr ⟨xq_11_53, (fun _ h => absurd h List.not_mem_nil)⟩⟩⟩⟩⟩⟩⟩⟩⟩⟩⟩⟩⟩⟩⟩⟩⟩⟩⟩⟩⟩⟩⟩⟩⟩⟩⟩⟩⟩⟩⟩⟩⟩⟩⟩⟩⟩⟩⟩⟩⟩⟩⟩⟩⟩⟩⟩⟩⟩⟩⟩⟩⟩⟩
theorem xq_12_0 : xlq 12 (12, 7, 0, 1702) := ⟨_, rfl, xt_7 180 rfl⟩
theorem xq_12_1 : xlq 12 (36, 3, 13, 1703) := ⟨_, rfl, xt_7 181 rfl⟩
theorem xq_12_2 : xlq 12 (37, 4, 5, 1703) := ⟨_, rfl, xt_7 181 rfl⟩
theorem xq_12_3 : xlq 12 (44, 1, 164, 1705) := ⟨_, rfl, xt_7 183 rfl⟩
theorem xq_12_4 : xlq 12 (56, 0, 768, 1719) := ⟨_, rfl, xt_7 197 rfl⟩
theorem xq_12_5 : xlq 12 (72, 0, 769, 1720) := ⟨_, rfl, xt_7 198 rfl⟩
theorem xq_12_6 : xlq 12 (84, 0, 770, 1721) := ⟨_, rfl, xt_7 199 rfl⟩
theorem xq_12_7 : xlq 12 (96, 0, 771, 1722) := ⟨_, rfl, xt_7 200 rfl⟩
theorem xq_12_8 : xlq 12 (108, 0, 772, 1723) := ⟨_, rfl, xt_7 201 rfl⟩
theorem xq_12_9 : xlq 12 (120, 0, 773, 1724) := ⟨_, rfl, xt_7 202 rfl⟩
theorem xq_12_10 : xlq 12 (132, 0, 774, 1725) := ⟨_, rfl, xt_7 203 rfl⟩
theorem xq_12_11 : xlq 12 (144, 0, 775, 1726) := ⟨_, rfl, xt_7 204 rfl⟩
theorem xq_12_12 : xlq 12 (156, 0, 776, 1727) := ⟨_, rfl, xt_7 205 rfl⟩
theorem xq_12_13 : xlq 12 (168, 0, 777, 1728) := ⟨_, rfl, xt_7 206 rfl⟩
theorem xq_12_14 : xlq 12 (180, 0, 778, 1729) := ⟨_, rfl, xt_7 207 rfl⟩
theorem xq_12_15 : xlq 12 (192, 0, 779, 1730) := ⟨_, rfl, xt_7 208 rfl⟩
theorem xq_12_16 : xlq 12 (204, 0, 780, 1731) := ⟨_, rfl, xt_7 209 rfl⟩
theorem xq_12_17 : xlq 12 (220, 0, 781, 1732) := ⟨_, rfl, xt_7 210 rfl⟩
theorem xq_12_18 : xlq 12 (232, 0, 782, 1733) := ⟨_, rfl, xt_7 211 rfl⟩
theorem xq_12_19 : xlq 12 (244, 0, 783, 1734) := ⟨_, rfl, xt_7 212 rfl⟩
theorem xq_12_20 : xlq 12 (260, 0, 784, 1735) := ⟨_, rfl, xt_7 213 rfl⟩
theorem xq_12_21 : xlq 12 (276, 0, 785, 1736) := ⟨_, rfl, xt_7 214 rfl⟩
theorem xq_12_22 : xlq 12 (292, 0, 786, 1737) := ⟨_, rfl, xt_7 215 rfl⟩
theorem xq_12_23 : xlq 12 (304, 0, 790, 1741) := ⟨_, rfl, xt_7 219 rfl⟩
theorem xq_12_24 : xlq 12 (320, 0, 791, 1742) := ⟨_, rfl, xt_7 220 rfl⟩
theorem xq_12_25 : xlq 12 (332, 8, 14, 1825) := ⟨_, rfl, xt_8 63 rfl⟩
theorem xq_12_26 : xlq 12 (334, 8, 14, 1825) := ⟨_, rfl, xt_8 63 rfl⟩
theorem xq_12_27 : xlq 12 (340, 9, 14, 1839) := ⟨_, rfl, xt_8 77 rfl⟩
theorem xq_12_28 : xlq 12 (344, 1, 169, 1833) := ⟨_, rfl, xt_8 71 rfl⟩
theorem xq_12_29 : xlq 12 (360, 1, 170, 1836) := ⟨_, rfl, xt_8 74 rfl⟩
theorem xq_12_30 : xlq 12 (376, 0, 787, 1738) := ⟨_, rfl, xt_7 216 rfl⟩
theorem xq_12_31 : xlq 12 (388, 1, 171, 1840) := ⟨_, rfl, xt_8 78 rfl⟩
theorem xq_12_32 : xlq 12 (404, 1, 181, 1882) := ⟨_, rfl, xt_8 120 rfl⟩
theorem xq_12_33 : xlq 12 (420, 1, 179, 1873) := ⟨_, rfl, xt_8 111 rfl⟩
theorem xq_12_34 : xlq 12 (436, 1, 182, 1886) := ⟨_, rfl, xt_8 124 rfl⟩
theorem xq_12_35 : xlq 12 (448, 1, 186, 1902) := ⟨_, rfl, xt_8 140 rfl⟩
theorem xq_12_36 : xlq 12 (460, 1, 188, 1910) := ⟨_, rfl, xt_8 148 rfl⟩
theorem xq_12_37 : xlq 12 (472, 1, 183, 1891) := ⟨_, rfl, xt_8 129 rfl⟩
theorem xq_12_38 : xlq 12 (488, 1, 184, 1895) := ⟨_, rfl, xt_8 133 rfl⟩
theorem xq_12_39 : xlq 12 (500, 0, 789, 1740) := ⟨_, rfl, xt_7 218 rfl⟩
theorem xq_12_40 : xlq 12 (516, 0, 788, 1739) := ⟨_, rfl, xt_7 217 rfl⟩
theorem xq_12_41 : xlq 12 (528, 1, 185, 1899) := ⟨_, rfl, xt_8 137 rfl⟩
theorem xq_12_42 : xlq 12 (544, 1, 189, 1914) := ⟨_, rfl, xt_8 152 rfl⟩
theorem xq_12_43 : xlq 12 (556, 0, 833, 1712) := ⟨_, rfl, xt_7 190 rfl⟩
theorem xq_12_44 : xlq 12 (568, 1, 190, 1918) := ⟨_, rfl, xt_8 156 rfl⟩
theorem xq_12_45 : xlq 12 (580, 1, 191, 1923) := ⟨_, rfl, xt_8 161 rfl⟩
theorem xq_12_46 : xlq 12 (592, 1, 192, 1927) := ⟨_, rfl, xt_8 165 rfl⟩
theorem xq_12_47 : xlq 12 (608, 1, 168, 1830) := ⟨_, rfl, xt_8 68 rfl⟩
theorem xq_12_48 : xlq 12 (620, 5, 0, 1868) := ⟨_, rfl, xt_8 106 rfl⟩
theorem xq_12_49 : xlq 12 (624, 5, 1, 1869) := ⟨_, rfl, xt_8 107 rfl⟩
theorem xq_12_50 : xlq 12 (628, 1, 178, 1870) := ⟨_, rfl, xt_8 108 rfl⟩
theorem xq_12_51 : xlq 12 (640, 1, 180, 1878) := ⟨_, rfl, xt_8 116 rfl⟩
theorem xq_12_52 : xlq 12 (656, 1, 196, 1943) := ⟨_, rfl, xt_8 181 rfl⟩
theorem xq_12_53 : xlq 12 (672, 1, 195, 1939) := ⟨_, rfl, xt_8 177 rfl⟩
theorem xq_12_54 : xlq 12 (688, 6, 5, 2172) := ⟨_, rfl, xt_9 170 rfl⟩
theorem xq_12_55 : xlq 12 (696, 6, 6, 2173) := ⟨_, rfl, xt_9 171 rfl⟩
theorem xq_12_56 : xlq 12 (704, 0, 794, 1745) := ⟨_, rfl, xt_7 223 rfl⟩
theorem xq_12_57 : xlq 12 (716, 0, 795, 1746) := ⟨_, rfl, xt_7 224 rfl⟩
theorem xq_12_58 : xlq 12 (728, 0, 796, 1747) := ⟨_, rfl, xt_7 225 rfl⟩
theorem xq_12_59 : xlq 12 (740, 0, 797, 1748) := ⟨_, rfl, xt_7 226 rfl⟩
theorem xq_12_60 : xlq 12 (752, 1, 203, 1972) := ⟨_, rfl, xt_8 210 rfl⟩
theorem xq_12_61 : xlq 12 (760, 1, 211, 2014) := ⟨_, rfl, xt_9 12 rfl⟩
theorem xq_12_62 : xlq 12 (776, 1, 213, 2022) := ⟨_, rfl, xt_9 20 rfl⟩
theorem xq_12_63 : xlq 12 (788, 1, 272, 1959) := ⟨_, rfl, xt_8 197 rfl⟩
theorem xq_12_64 : xlq 12 (812, 1, 200, 1960) := ⟨_, rfl, xt_8 198 rfl⟩
theorem xq_12_65 : xlq 12 (824, 1, 202, 1968) := ⟨_, rfl, xt_8 206 rfl⟩
theorem xq_12_66 : xlq 12 (840, 1, 214, 2026) := ⟨_, rfl, xt_9 24 rfl⟩
theorem xq_12_67 : xlq 12 (852, 1, 215, 2030) := ⟨_, rfl, xt_9 28 rfl⟩
theorem xq_12_68 : xlq 12 (864, 1, 201, 1964) := ⟨_, rfl, xt_8 202 rfl⟩
theorem xq_12_69 : xlq 12 (876, 0, 832, 1710) := ⟨_, rfl, xt_7 188 rfl⟩
theorem xq_12_70 : xlq 12 (888, 5, 15, 1998) := ⟨_, rfl, xt_8 236 rfl⟩
theorem xq_12_71 : xlq 12 (892, 6, 16, 1999) := ⟨_, rfl, xt_8 237 rfl⟩
theorem xq_12_72 : xlq 12 (900, 1, 208, 2000) := ⟨_, rfl, xt_8 238 rfl⟩
theorem xq_12_73 : xlq 12 (916, 12, 187, 2005) := ⟨_, rfl, xt_9 3 rfl⟩
theorem xq_12_74 : xlq 12 (928, 5, 14, 2004) := ⟨_, rfl, xt_9 2 rfl⟩
theorem xq_12_75 : xlq 12 (932, 1, 273, 1981) := ⟨_, rfl, xt_8 219 rfl⟩
theorem xq_12_76 : xlq 12 (944, 1, 207, 1994) := ⟨_, rfl, xt_8 232 rfl⟩
theorem xq_12_77 : xlq 12 (960, 1, 218, 2042) := ⟨_, rfl, xt_9 40 rfl⟩
theorem xq_12_78 : xlq 12 (976, 1, 206, 1989) := ⟨_, rfl, xt_8 227 rfl⟩
theorem xq_12_79 : xlq 12 (992, 1, 209, 2006) := ⟨_, rfl, xt_9 4 rfl⟩
theorem xq_12_80 : xlq 12 (1004, 1, 210, 2010) := ⟨_, rfl, xt_9 8 rfl⟩
theorem xq_12_81 : xlq 12 (1016, 1, 277, 1993) := ⟨_, rfl, xt_8 231 rfl⟩
theorem xq_12_82 : xlq 12 (1036, 1, 276, 1982) := ⟨_, rfl, xt_8 220 rfl⟩
theorem xq_12_83 : xlq 12 (1048, 1, 205, 1985) := ⟨_, rfl, xt_8 223 rfl⟩
theorem xq_12_84 : xlq 12 (1060, 1, 204, 1977) := ⟨_, rfl, xt_8 215 rfl⟩
theorem xq_12_85 : xlq 12 (1076, 1, 199, 1955) := ⟨_, rfl, xt_8 193 rfl⟩
theorem xq_12_86 : xlq 12 (1092, 1, 212, 2018) := ⟨_, rfl, xt_9 16 rfl⟩
theorem xq_12_87 : xlq 12 (1100, 1, 216, 2034) := ⟨_, rfl, xt_9 32 rfl⟩
theorem xq_12_88 : xlq 12 (1112, 1, 217, 2038) := ⟨_, rfl, xt_9 36 rfl⟩
theorem xq_12_89 : xlq 12 (1120, 1, 219, 2046) := ⟨_, rfl, xt_9 44 rfl⟩
theorem xq_12_90 : xlq 12 (1132, 1, 274, 2074) := ⟨_, rfl, xt_9 72 rfl⟩
theorem xq_12_91 : xlq 12 (1144, 5, 17, 2091) := ⟨_, rfl, xt_9 89 rfl⟩
theorem xq_12_92 : xlq 12 (1148, 1, 234, 2108) := ⟨_, rfl, xt_9 106 rfl⟩
theorem xq_12_93 : xlq 12 (1160, 1, 235, 2112) := ⟨_, rfl, xt_9 110 rfl⟩
theorem xq_12_94 : xlq 12 (1172, 1, 236, 2116) := ⟨_, rfl, xt_9 114 rfl⟩
theorem xq_12_95 : xlq 12 (1184, 8, 15, 2124) := ⟨_, rfl, xt_9 122 rfl⟩
theorem xq_12_96 : xlq 12 (1186, 8, 15, 2124) := ⟨_, rfl, xt_9 122 rfl⟩
theorem xq_12_97 : xlq 12 (1192, 9, 15, 2133) := ⟨_, rfl, xt_9 131 rfl⟩
theorem xq_12_98 : xlq 12 (1196, 1, 239, 2129) := ⟨_, rfl, xt_9 127 rfl⟩
theorem xq_12_99 : xlq 12 (1208, 1, 240, 2134) := ⟨_, rfl, xt_9 132 rfl⟩
theorem xq_12_100 : xlq 12 (1220, 1, 241, 2138) := ⟨_, rfl, xt_9 136 rfl⟩
theorem xq_12_101 : xlq 12 (1232, 8, 16, 2146) := ⟨_, rfl, xt_9 144 rfl⟩
theorem xq_12_102 : xlq 12 (1234, 8, 16, 2146) := ⟨_, rfl, xt_9 144 rfl⟩
theorem xq_12_103 : xlq 12 (1240, 9, 16, 2154) := ⟨_, rfl, xt_9 152 rfl⟩
theorem xq_12_104 : xlq 12 (1244, 1, 244, 2151) := ⟨_, rfl, xt_9 149 rfl⟩
theorem xq_12_105 : xlq 12 (1256, 6, 11, 2163) := ⟨_, rfl, xt_9 161 rfl⟩
theorem xq_12_106 : xlq 12 (1272, 6, 3, 2182) := ⟨_, rfl, xt_9 180 rfl⟩
theorem xq_12_107 : xlq 12 (1280, 6, 7, 2183) := ⟨_, rfl, xt_9 181 rfl⟩
theorem xq_12_108 : xlq 12 (1288, 6, 8, 2184) := ⟨_, rfl, xt_9 182 rfl⟩
theorem xq_12_109 : xlq 12 (1296, 0, 792, 1743) := ⟨_, rfl, xt_7 221 rfl⟩
theorem xq_12_110 : xlq 12 (1308, 8, 17, 2197) := ⟨_, rfl, xt_9 195 rfl⟩
theorem xq_12_111 : xlq 12 (1310, 8, 17, 2197) := ⟨_, rfl, xt_9 195 rfl⟩
theorem xq_12_112 : xlq 12 (1316, 9, 17, 2202) := ⟨_, rfl, xt_9 200 rfl⟩
theorem xq_12_113 : xlq 12 (1320, 1, 259, 2219) := ⟨_, rfl, xt_9 217 rfl⟩
theorem xq_12_114 : xlq 12 (1336, 1, 260, 2223) := ⟨_, rfl, xt_9 221 rfl⟩
theorem xq_12_115 : xlq 12 (1348, 1, 261, 2226) := ⟨_, rfl, xt_9 224 rfl⟩
theorem xq_12_116 : xlq 12 (1360, 5, 10, 2229) := ⟨_, rfl, xt_9 227 rfl⟩
theorem xq_12_117 : xlq 12 (1364, 1, 262, 2230) := ⟨_, rfl, xt_9 228 rfl⟩
theorem xq_12_118 : xlq 12 (1376, 5, 18, 2234) := ⟨_, rfl, xt_9 232 rfl⟩
theorem xq_12_119 : xlq 12 (1380, 14, 1, 2251) := ⟨_, rfl, xt_10 9 rfl⟩
theorem xq_12_120 : xlq 12 (1392, 1, 267, 2253) := ⟨_, rfl, xt_10 11 rfl⟩
theorem xq_12_121 : xlq 12 (1404, 1, 268, 2257) := ⟨_, rfl, xt_10 15 rfl⟩
theorem xq_12_122 : xlq 12 (1420, 0, 798, 1749) := ⟨_, rfl, xt_7 227 rfl⟩
theorem xq_12_123 : xlq 12 (1432, 1, 266, 2247) := ⟨_, rfl, xt_10 5 rfl⟩
theorem xq_12_124 : xlq 12 (1444, 1, 269, 2261) := ⟨_, rfl, xt_10 19 rfl⟩
theorem xq_12_125 : xlq 12 (1460, 1, 265, 2243) := ⟨_, rfl, xt_10 1 rfl⟩
theorem xq_12_126 : xlq 12 (1472, 0, 793, 1744) := ⟨_, rfl, xt_7 222 rfl⟩
theorem xq_12_127 : xlq 12 (1484, 0, 799, 1750) := ⟨_, rfl, xt_7 228 rfl⟩
theorem xq_12_128 : xlq 12 (1496, 1, 167, 1826) := ⟨_, rfl, xt_8 64 rfl⟩
theorem xq_12_129 : xlq 12 (1508, 1, 173, 1848) := ⟨_, rfl, xt_8 86 rfl⟩
theorem xq_12_130 : xlq 12 (1520, 1, 175, 1856) := ⟨_, rfl, xt_8 94 rfl⟩
theorem xq_12_131 : xlq 12 (1536, 1, 177, 1864) := ⟨_, rfl, xt_8 102 rfl⟩
theorem xq_12_132 : xlq 12 (1552, 1, 194, 1935) := ⟨_, rfl, xt_8 173 rfl⟩
theorem xq_12_133 : xlq 12 (1564, 1, 198, 1951) := ⟨_, rfl, xt_8 189 rfl⟩
theorem xq_12_134 : xlq 12 (1580, 1, 221, 2054) := ⟨_, rfl, xt_9 52 rfl⟩
theorem xq_12_135 : xlq 12 (1592, 1, 223, 2062) := ⟨_, rfl, xt_9 60 rfl⟩
theorem xq_12_136 : xlq 12 (1604, 1, 225, 2070) := ⟨_, rfl, xt_9 68 rfl⟩
theorem xq_12_137 : xlq 12 (1616, 1, 227, 2079) := ⟨_, rfl, xt_9 77 rfl⟩
theorem xq_12_138 : xlq 12 (1628, 1, 229, 2087) := ⟨_, rfl, xt_9 85 rfl⟩
theorem xq_12_139 : xlq 12 (1640, 1, 231, 2096) := ⟨_, rfl, xt_9 94 rfl⟩
theorem xq_12_140 : xlq 12 (1652, 1, 233, 2104) := ⟨_, rfl, xt_9 102 rfl⟩
theorem xq_12_141 : xlq 12 (1668, 1, 238, 2125) := ⟨_, rfl, xt_9 123 rfl⟩
theorem xq_12_142 : xlq 12 (1680, 1, 243, 2147) := ⟨_, rfl, xt_9 145 rfl⟩
theorem xq_12_143 : xlq 12 (1692, 1, 246, 2159) := ⟨_, rfl, xt_9 157 rfl⟩
theorem xq_12_144 : xlq 12 (1708, 1, 248, 2168) := ⟨_, rfl, xt_9 166 rfl⟩
theorem xq_12_145 : xlq 12 (1724, 1, 250, 2178) := ⟨_, rfl, xt_9 176 rfl⟩
theorem xq_12_146 : xlq 12 (1736, 1, 252, 2189) := ⟨_, rfl, xt_9 187 rfl⟩
theorem xq_12_147 : xlq 12 (1748, 1, 254, 2198) := ⟨_, rfl, xt_9 196 rfl⟩
theorem xq_12_148 : xlq 12 (1764, 1, 256, 2207) := ⟨_, rfl, xt_9 205 rfl⟩
theorem xq_12_149 : xlq 12 (1776, 1, 258, 2215) := ⟨_, rfl, xt_9 213 rfl⟩
theorem xq_12_150 : xlq 12 (1792, 1, 264, 2239) := ⟨_, rfl, xt_9 237 rfl⟩
theorem xq_12_151 : xlq 12 (1804, 1, 271, 2269) := ⟨_, rfl, xt_10 27 rfl⟩
set_option maxRecDepth 100000 in
theorem xlkk_12 : ∀ q ∈ xlk_12, xlq 12 q := List.forall_mem_cons.mpr ⟨xq_12_0, List.forall_mem_cons.mpr ⟨xq_12_1, List.forall_mem_cons.mpr ⟨xq_12_2, List.forall_mem_cons.mpr ⟨xq_12_3, List.forall_mem_cons.mpr ⟨xq_12_4, List.forall_mem_cons.mpr ⟨xq_12_5, List.forall_mem_cons.mpr ⟨xq_12_6, List.forall_mem_cons.mpr ⟨xq_12_7, List.forall_mem_cons.mpr ⟨xq_12_8, List.forall_mem_cons.mpr ⟨xq_12_9, List.forall_mem_cons.mpr ⟨xq_12_10, List.forall_mem_cons.mpr ⟨xq_12_11, List.forall_mem_cons.mpr ⟨xq_12_12, List.forall_mem_cons.mpr ⟨xq_12_13, List.forall_mem_cons.mpr ⟨xq_12_14, List.forall_mem_cons.mpr ⟨xq_12_15, List.forall_mem_cons.mpr ⟨xq_12_16, List.forall_mem_cons.mpr ⟨xq_12_17, List.forall_mem_cons.mpr ⟨xq_12_18, List.forall_mem_cons.mpr ⟨xq_12_19, List.forall_mem_cons.mpr ⟨xq_12_20, List.forall_mem_cons.mpr ⟨xq_12_21, List.forall_mem_cons.mpr ⟨xq_12_22, List.forall_mem_cons.mpr ⟨xq_12_23, List.forall_mem_cons.mpr ⟨xq_12_24, List.forall_mem_cons.mpr ⟨xq_12_25, List.forall_mem_cons.mpr ⟨xq_12_26, List.forall_mem_cons.mpr ⟨xq_12_27, List.forall_mem_cons.mpr ⟨xq_12_28, List.forall_mem_cons.mpr ⟨xq_12_29, List.forall_mem_cons.mpr ⟨xq_12_30, List.forall_mem_cons.mpr ⟨xq_12_31, List.forall_mem_cons.mpr ⟨xq_12_32, List.forall_mem_cons.mpr ⟨xq_12_33, List.forall_mem_cons.mpr ⟨xq_12_34, List.forall_mem_cons.mpr ⟨xq_12_35, List.forall_mem_cons.mpr ⟨xq_12_36, List.forall_mem_cons.mpr ⟨xq_12_37, List.forall_mem_cons.mpr ⟨xq_12_38, List.forall_mem_cons.mpr ⟨xq_12_39, List.forall_mem_cons.mpr ⟨xq_12_40, List.forall_mem_cons.mpr ⟨xq_12_41, List.forall_mem_cons.mpr ⟨xq_12_42, List.forall_mem_cons.mpr ⟨xq_12_43, List.forall_mem_cons.mpr ⟨xq_12_44, List.forall_mem_cons.mpr ⟨xq_12_45, List.forall_mem_cons.mpr ⟨xq_12_46, List.forall_mem_cons.mpr ⟨xq_12_47, List.forall_mem_cons.mpr ⟨xq_12_48, List.forall_mem_cons.mpr ⟨xq_12_49, List.forall_mem_cons.mpr ⟨xq_12_50, List.forall_mem_cons.mpr ⟨xq_12_51, List.forall_mem_cons.mpr ⟨xq_12_52, List.forall_mem_cons.mpr ⟨xq_12_53, List.forall_mem_cons.mpr ⟨xq_12_54, List.forall_mem_cons.mpr ⟨xq_12_55, List.forall_mem_cons.mpr ⟨xq_12_56, List.forall_mem_cons.mpr ⟨xq_12_57, List.forall_mem_cons.mpr ⟨xq_12_58, List.forall_mem_cons.mpr ⟨xq_12_59, List.forall_mem_cons.mpr ⟨xq_12_60, List.forall_mem_cons.mpr ⟨xq_12_61, List.forall_mem_cons.mpr ⟨xq_12_62, List.forall_mem_cons.mpr ⟨xq_12_63, List.forall_mem_cons.mpr ⟨xq_12_64, List.forall_mem_cons.mpr ⟨xq_12_65, List.forall_mem_cons.mpr ⟨xq_12_66, List.forall_mem_cons.mpr ⟨xq_12_67, List.forall_mem_cons.mpr ⟨xq_12_68, List.forall_mem_cons.mpr ⟨xq_12_69, List.forall_mem_cons.mpr ⟨xq_12_70, List.forall_mem_cons.mpr ⟨xq_12_71, List.forall_mem_cons.mpr ⟨xq_12_72, List.forall_mem_cons.mpr ⟨xq_12_73, List.forall_mem_cons.mpr ⟨xq_12_74, List.forall_mem_cons.mpr ⟨xq_12_75, List.forall_mem_cons.mpr ⟨xq_12_76, List.forall_mem_cons.mpr ⟨xq_12_77, List.forall_mem_cons.mpr ⟨xq_12_78, List.forall_mem_cons.mpr ⟨xq_12_79, List.forall_mem_cons.mpr ⟨xq_12_80, List.forall_mem_cons.mpr ⟨xq_12_81, List.forall_mem_cons.mpr ⟨xq_12_82, List.forall_mem_cons.mpr ⟨xq_12_83, List.forall_mem_cons.mpr ⟨xq_12_84, List.forall_mem_cons.mpr ⟨xq_12_85, List.forall_mem_cons.mpr ⟨xq_12_86, List.forall_mem_cons.mpr ⟨xq_12_87, List.forall_mem_cons.mpr ⟨xq_12_88, List.forall_mem_cons.mpr ⟨xq_12_89, List.forall_mem_cons.mpr ⟨xq_12_90, List.forall_mem_cons.mpr ⟨xq_12_91, List.forall_mem_cons.mpr ⟨xq_12_92, List.forall_mem_cons.mpr ⟨xq_12_93, List.forall_mem_cons.mpr ⟨xq_12_94, List.forall_mem_cons.mpr ⟨xq_12_95, List.forall_mem_cons.mpr ⟨xq_12_96, List.forall_mem_cons.mpr ⟨xq_12_97, List.forall_mem_cons.mpr ⟨xq_12_98, List.forall_mem_cons.mpr ⟨xq_12_99, List.forall_mem_cons.mpr ⟨xq_12_100, List.forall_mem_cons.mpr ⟨xq_12_101, List.forall_mem_cons.mpr ⟨xq_12_102, List.forall_mem_cons.mpr ⟨xq_12_103, List.forall_mem_cons.mpr ⟨xq_12_104, List.forall_mem_cons.mpr ⟨xq_12_105, List.forall_mem_cons.mpr ⟨xq_12_106, List.forall_mem_cons.mpr ⟨xq_12_107, List.forall_mem_cons.mpr ⟨xq_12_108, List.forall_mem_cons.mpr ⟨xq_12_109, List.forall_mem_cons.mpr ⟨xq_12_110, List.forall_mem_cons.mpr ⟨xq_12_111, List.forall_mem_cons.mpr ⟨xq_12_112, List.forall_mem_cons.mpr ⟨xq_12_113, List.forall_mem_cons.mpr ⟨xq_12_114, List.forall_mem_cons.mpr ⟨xq_12_115, List.forall_mem_cons.mpr ⟨xq_12_116, List.forall_mem_cons.mpr ⟨xq_12_117, List.forall_mem_cons.mpr ⟨xq_12_118, List.forall_mem_cons.mpr ⟨xq_12_119, List.forall_mem_cons.mpr ⟨xq_12_120, List.forall_mem_cons.mpr ⟨xq_12_121, List.forall_mem_cons.mpr ⟨xq_12_122, List.forall_mem_cons.mpr ⟨xq_12_123, List.forall_mem_cons.mpr ⟨xq_12_124, List.forall_mem_cons.mpr ⟨xq_12_125, List.forall_mem_cons.mpr ⟨xq_12_126, List.forall_mem_cons.mpr ⟨xq_12_127, List.forall_mem_cons.mpr ⟨xq_12_128, List.forall_mem_cons.mpr ⟨xq_12_129, List.forall_mem_cons.mpr ⟨xq_12_130, List.forall_mem_cons.mpr ⟨xq_12_131, List.forall_mem_cons.mpr ⟨xq_12_132, List.forall_mem_cons.mpr ⟨xq_12_133, List.forall_mem_cons.mpr ⟨xq_12_134, List.forall_mem_cons.mpr ⟨xq_12_135, List.forall_mem_cons.mpr ⟨xq_12_136, List.forall_mem_cons.mpr ⟨xq_12_137, List.forall_mem_cons.mpr ⟨xq_12_138, List.forall_mem_cons.mpr ⟨xq_12_139, List.forall_mem_cons.mpr ⟨xq_12_140, List.forall_mem_cons.mpr ⟨xq_12_141, List.forall_mem_cons.mpr ⟨xq_12_142, List.forall_mem_cons.mpr ⟨xq_12_143, List.forall_mem_cons.mpr ⟨xq_12_144, List.forall_mem_cons.mpr ⟨xq_12_145, List.forall_mem_cons.mpr ⟨xq_12_146, List.forall_mem_cons.mpr ⟨xq_12_147, List.forall_mem_cons.mpr ⟨xq_12_148, List.forall_mem_cons.mpr ⟨xq_12_149, List.forall_mem_cons.mpr ⟨xq_12_150, List.forall_mem_cons.mpr ⟨xq_12_151, (fun _ h => absurd h List.not_mem_nil)⟩⟩⟩⟩⟩⟩⟩⟩⟩⟩⟩⟩⟩⟩⟩⟩⟩⟩⟩⟩⟩⟩⟩⟩⟩⟩⟩⟩⟩⟩⟩⟩⟩⟩⟩⟩⟩⟩⟩⟩⟩⟩⟩⟩⟩⟩⟩⟩⟩⟩⟩⟩⟩⟩⟩⟩⟩⟩⟩⟩⟩⟩⟩⟩⟩⟩⟩⟩⟩⟩⟩⟩⟩⟩⟩⟩⟩⟩⟩⟩⟩⟩⟩⟩⟩⟩⟩⟩⟩⟩⟩⟩⟩⟩⟩⟩⟩⟩⟩⟩⟩⟩⟩⟩⟩⟩⟩⟩⟩⟩⟩⟩⟩⟩⟩⟩⟩⟩⟩⟩⟩⟩⟩⟩⟩⟩⟩⟩⟩⟩⟩⟩⟩⟩⟩⟩⟩⟩⟩⟩⟩⟩⟩⟩⟩⟩⟩⟩⟩⟩⟩⟩
theorem xq_13_0 : xlq 13 (12, 7, 0, 1708) := ⟨_, rfl, xt_7 186 rfl⟩
theorem xq_13_1 : xlq 13 (36, 0, 832, 1709) := ⟨_, rfl, xt_7 187 rfl⟩
theorem xq_13_2 : xlq 13 (60, 0, 833, 1711) := ⟨_, rfl, xt_7 189 rfl⟩
theorem xq_13_3 : xlq 13 (76, 11, 0, 1890) := ⟨_, rfl, xt_8 128 rfl⟩
theorem xq_13_4 : xlq 13 (100, 5, 14, 1877) := ⟨_, rfl, xt_8 115 rfl⟩
theorem xq_13_5 : xlq 13 (104, 1, 273, 1976) := ⟨_, rfl, xt_8 214 rfl⟩
theorem xq_13_6 : xlq 13 (128, 1, 187, 1906) := ⟨_, rfl, xt_8 144 rfl⟩
theorem xq_13_7 : xlq 13 (144, 1, 279, 1922) := ⟨_, rfl, xt_8 160 rfl⟩
set_option maxRecDepth 100000 in
theorem xlkk_13 : ∀ q ∈ xlk_13, xlq 13 q := List.forall_mem_cons.mpr ⟨xq_13_0, List.forall_mem_cons.mpr ⟨xq_13_1, List.forall_mem_cons.mpr ⟨xq_13_2, List.forall_mem_cons.mpr ⟨xq_13_3, List.forall_mem_cons.mpr ⟨xq_13_4, List.forall_mem_cons.mpr ⟨xq_13_5, List.forall_mem_cons.mpr ⟨xq_13_6, List.forall_mem_cons.mpr ⟨xq_13_7, (fun _ h => absurd h List.not_mem_nil)⟩⟩⟩⟩⟩⟩⟩⟩
theorem xq_14_0 : xlq 14 (28, 1, 14, 575) := ⟨_, rfl, xt_3 13 rfl⟩
theorem xq_14_1 : xlq 14 (32, 3, 0, 115) := ⟨_, rfl, xt_1 33 rfl⟩
theorem xq_14_2 : xlq 14 (54, 8, 14, 574) := ⟨_, rfl, xt_3 12 rfl⟩
theorem xq_14_3 : xlq 14 (60, 1, 19, 658) := ⟨_, rfl, xt_3 96 rfl⟩
theorem xq_14_4 : xlq 14 (76, 1, 21, 665) := ⟨_, rfl, xt_3 103 rfl⟩
theorem xq_14_5 : xlq 14 (92, 1, 53, 1077) := ⟨_, rfl, xt_5 35 rfl⟩
theorem xq_14_6 : xlq 14 (108, 1, 58, 1099) := ⟨_, rfl, xt_5 57 rfl⟩
theorem xq_14_7 : xlq 14 (124, 1, 95, 1293) := ⟨_, rfl, xt_6 11 rfl⟩
theorem xq_14_8 : xlq 14 (136, 1, 98, 1305) := ⟨_, rfl, xt_6 23 rfl⟩
theorem xq_14_9 : xlq 14 (148, 1, 101, 1316) := ⟨_, rfl, xt_6 34 rfl⟩
theorem xq_14_10 : xlq 14 (160, 1, 106, 1345) := ⟨_, rfl, xt_6 63 rfl⟩
theorem xq_14_11 : xlq 14 (172, 1, 112, 1374) := ⟨_, rfl, xt_6 92 rfl⟩
theorem xq_14_12 : xlq 14 (184, 1, 115, 1384) := ⟨_, rfl, xt_6 102 rfl⟩
theorem xq_14_13 : xlq 14 (196, 1, 117, 1391) := ⟨_, rfl, xt_6 109 rfl⟩
theorem xq_14_14 : xlq 14 (212, 1, 122, 1415) := ⟨_, rfl, xt_6 133 rfl⟩
theorem xq_14_15 : xlq 14 (226, 8, 15, 1414) := ⟨_, rfl, xt_6 132 rfl⟩
theorem xq_14_16 : xlq 14 (232, 1, 124, 1438) := ⟨_, rfl, xt_6 156 rfl⟩
theorem xq_14_17 : xlq 14 (246, 8, 16, 1437) := ⟨_, rfl, xt_6 155 rfl⟩
theorem xq_14_18 : xlq 14 (252, 1, 126, 1460) := ⟨_, rfl, xt_6 178 rfl⟩
theorem xq_14_19 : xlq 14 (268, 1, 128, 1469) := ⟨_, rfl, xt_6 187 rfl⟩
theorem xq_14_20 : xlq 14 (284, 1, 130, 1478) := ⟨_, rfl, xt_6 196 rfl⟩
theorem xq_14_21 : xlq 14 (296, 1, 133, 1495) := ⟨_, rfl, xt_6 213 rfl⟩
theorem xq_14_22 : xlq 14 (308, 1, 137, 1515) := ⟨_, rfl, xt_6 233 rfl⟩
theorem xq_14_23 : xlq 14 (326, 8, 17, 1514) := ⟨_, rfl, xt_6 232 rfl⟩
theorem xq_14_24 : xlq 14 (332, 1, 140, 1541) := ⟨_, rfl, xt_7 19 rfl⟩
theorem xq_14_25 : xlq 14 (348, 1, 142, 1548) := ⟨_, rfl, xt_7 26 rfl⟩
theorem xq_14_26 : xlq 14 (364, 1, 151, 1628) := ⟨_, rfl, xt_7 106 rfl⟩
theorem xq_14_27 : xlq 14 (376, 1, 162, 1693) := ⟨_, rfl, xt_7 171 rfl⟩
theorem xq_14_28 : xlq 14 (388, 1, 0, 117) := ⟨_, rfl, xt_1 35 rfl⟩
theorem xq_14_29 : xlq 14 (392, 3, 12, 1697) := ⟨_, rfl, xt_7 175 rfl⟩
theorem xq_14_30 : xlq 14 (400, 1, 163, 1699) := ⟨_, rfl, xt_7 177 rfl⟩
theorem xq_14_31 : xlq 14 (404, 1, 13, 571) := ⟨_, rfl, xt_3 9 rfl⟩
theorem xq_14_32 : xlq 14 (424, 1, 166, 1821) := ⟨_, rfl, xt_8 59 rfl⟩
theorem xq_14_33 : xlq 14 (428, 1, 165, 1817) := ⟨_, rfl, xt_8 55 rfl⟩
theorem xq_14_34 : xlq 14 (444, 1, 18, 655) := ⟨_, rfl, xt_3 93 rfl⟩
theorem xq_14_35 : xlq 14 (456, 1, 172, 1844) := ⟨_, rfl, xt_8 82 rfl⟩
theorem xq_14_36 : xlq 14 (460, 1, 12, 567) := ⟨_, rfl, xt_3 5 rfl⟩
theorem xq_14_37 : xlq 14 (476, 1, 174, 1852) := ⟨_, rfl, xt_8 90 rfl⟩
theorem xq_14_38 : xlq 14 (480, 6, 2, 2273) := ⟨_, rfl, xt_10 31 rfl⟩
theorem xq_14_39 : xlq 14 (488, 1, 20, 662) := ⟨_, rfl, xt_3 100 rfl⟩
theorem xq_14_40 : xlq 14 (500, 1, 176, 1860) := ⟨_, rfl, xt_8 98 rfl⟩
theorem xq_14_41 : xlq 14 (504, 1, 52, 1074) := ⟨_, rfl, xt_5 32 rfl⟩
theorem xq_14_42 : xlq 14 (516, 1, 193, 1931) := ⟨_, rfl, xt_8 169 rfl⟩
theorem xq_14_43 : xlq 14 (520, 1, 57, 1096) := ⟨_, rfl, xt_5 54 rfl⟩
theorem xq_14_44 : xlq 14 (532, 1, 197, 1947) := ⟨_, rfl, xt_8 185 rfl⟩
theorem xq_14_45 : xlq 14 (536, 1, 94, 1290) := ⟨_, rfl, xt_6 8 rfl⟩
theorem xq_14_46 : xlq 14 (544, 1, 220, 2050) := ⟨_, rfl, xt_9 48 rfl⟩
theorem xq_14_47 : xlq 14 (548, 1, 97, 1302) := ⟨_, rfl, xt_6 20 rfl⟩
theorem xq_14_48 : xlq 14 (556, 1, 222, 2058) := ⟨_, rfl, xt_9 56 rfl⟩
theorem xq_14_49 : xlq 14 (560, 1, 100, 1313) := ⟨_, rfl, xt_6 31 rfl⟩
theorem xq_14_50 : xlq 14 (568, 1, 224, 2066) := ⟨_, rfl, xt_9 64 rfl⟩
theorem xq_14_51 : xlq 14 (572, 1, 105, 1342) := ⟨_, rfl, xt_6 60 rfl⟩
theorem xq_14_52 : xlq 14 (580, 1, 226, 2075) := ⟨_, rfl, xt_9 73 rfl⟩
theorem xq_14_53 : xlq 14 (584, 1, 111, 1371) := ⟨_, rfl, xt_6 89 rfl⟩
theorem xq_14_54 : xlq 14 (592, 1, 228, 2083) := ⟨_, rfl, xt_9 81 rfl⟩
theorem xq_14_55 : xlq 14 (596, 1, 114, 1381) := ⟨_, rfl, xt_6 99 rfl⟩
theorem xq_14_56 : xlq 14 (604, 1, 230, 2092) := ⟨_, rfl, xt_9 90 rfl⟩
theorem xq_14_57 : xlq 14 (608, 1, 116, 1388) := ⟨_, rfl, xt_6 106 rfl⟩
theorem xq_14_58 : xlq 14 (620, 1, 232, 2100) := ⟨_, rfl, xt_9 98 rfl⟩
theorem xq_14_59 : xlq 14 (624, 1, 121, 1411) := ⟨_, rfl, xt_6 129 rfl⟩
theorem xq_14_60 : xlq 14 (632, 1, 237, 2120) := ⟨_, rfl, xt_9 118 rfl⟩
theorem xq_14_61 : xlq 14 (636, 1, 123, 1434) := ⟨_, rfl, xt_6 152 rfl⟩
theorem xq_14_62 : xlq 14 (644, 1, 242, 2142) := ⟨_, rfl, xt_9 140 rfl⟩
theorem xq_14_63 : xlq 14 (648, 1, 125, 1457) := ⟨_, rfl, xt_6 175 rfl⟩
theorem xq_14_64 : xlq 14 (656, 1, 245, 2155) := ⟨_, rfl, xt_9 153 rfl⟩
theorem xq_14_65 : xlq 14 (660, 1, 127, 1466) := ⟨_, rfl, xt_6 184 rfl⟩
theorem xq_14_66 : xlq 14 (672, 1, 247, 2164) := ⟨_, rfl, xt_9 162 rfl⟩
theorem xq_14_67 : xlq 14 (676, 1, 129, 1475) := ⟨_, rfl, xt_6 193 rfl⟩
theorem xq_14_68 : xlq 14 (684, 1, 249, 2174) := ⟨_, rfl, xt_9 172 rfl⟩
theorem xq_14_69 : xlq 14 (688, 1, 132, 1492) := ⟨_, rfl, xt_6 210 rfl⟩
theorem xq_14_70 : xlq 14 (696, 1, 251, 2185) := ⟨_, rfl, xt_9 183 rfl⟩
theorem xq_14_71 : xlq 14 (700, 1, 136, 1511) := ⟨_, rfl, xt_6 229 rfl⟩
theorem xq_14_72 : xlq 14 (712, 1, 253, 2193) := ⟨_, rfl, xt_9 191 rfl⟩
theorem xq_14_73 : xlq 14 (716, 1, 139, 1538) := ⟨_, rfl, xt_7 16 rfl⟩
theorem xq_14_74 : xlq 14 (728, 1, 255, 2203) := ⟨_, rfl, xt_9 201 rfl⟩
theorem xq_14_75 : xlq 14 (732, 1, 141, 1545) := ⟨_, rfl, xt_7 23 rfl⟩
theorem xq_14_76 : xlq 14 (744, 1, 257, 2211) := ⟨_, rfl, xt_9 209 rfl⟩
theorem xq_14_77 : xlq 14 (748, 1, 150, 1625) := ⟨_, rfl, xt_7 103 rfl⟩
theorem xq_14_78 : xlq 14 (756, 1, 263, 2235) := ⟨_, rfl, xt_9 233 rfl⟩
theorem xq_14_79 : xlq 14 (760, 1, 161, 1690) := ⟨_, rfl, xt_7 168 rfl⟩
theorem xq_14_80 : xlq 14 (768, 1, 270, 2265) := ⟨_, rfl, xt_10 23 rfl⟩
set_option maxRecDepth 100000 in
theorem xlkk_14 : ∀ q ∈ xlk_14, xlq 14 q := List.forall_mem_cons.mpr ⟨xq_14_0, List.forall_mem_cons.mpr ⟨xq_14_1, List.forall_mem_cons.mpr ⟨xq_14_2, List.forall_mem_cons.mpr ⟨xq_14_3, List.forall_mem_cons.mpr ⟨xq_14_4, List.forall_mem_cons.mpr ⟨xq_14_5, List.forall_mem_cons.mpr ⟨xq_14_6, List.forall_mem_cons.mpr ⟨xq_14_7, List.forall_mem_cons.mpr ⟨xq_14_8, List.forall_mem_cons.mpr ⟨xq_14_9, List.forall_mem_cons.mpr ⟨xq_14_10, List.forall_mem_cons.mpr ⟨xq_14_11, List.forall_mem_cons.mpr ⟨xq_14_12, List.forall_mem_cons.mpr ⟨xq_14_13, List.forall_mem_cons.mpr ⟨xq_14_14, List.forall_mem_cons.mpr ⟨xq_14_15, List.forall_mem_cons.mpr ⟨xq_14_16, List.forall_mem_cons.mpr ⟨xq_14_17, List.forall_mem_cons.mpr ⟨xq_14_18, List.forall_mem_cons.mpr ⟨xq_14_19, List.forall_mem_cons.mpr ⟨xq_14_20, List.forall_mem_cons.mpr ⟨xq_14_21, List.forall_mem_cons.mpr ⟨xq_14_22, List.forall_mem_cons.mpr ⟨xq_14_23, List.forall_mem_cons.mpr ⟨xq_14_24, List.forall_mem_cons.mpr ⟨xq_14_25, List.forall_mem_cons.mpr ⟨xq_14_26, List.forall_mem_cons.mpr ⟨xq_14_27, List.forall_mem_cons.mpr ⟨xq_14_28, List.forall_mem_cons.mpr ⟨xq_14_29, List.forall_mem_cons.mpr ⟨xq_14_30, List.forall_mem_cons.mpr ⟨xq_14_31, List.forall_mem_cons.mpr ⟨xq_14_32, List.forall_mem_cons.mpr ⟨xq_14_33, List.forall_mem_cons.mpr ⟨xq_14_34, List.forall_mem_cons.mpr ⟨xq_14_35, List.forall_mem_cons.mpr ⟨xq_14_36, List.forall_mem_cons.mpr ⟨xq_14_37, List.forall_mem_cons.mpr ⟨xq_14_38, List.forall_mem_cons.mpr ⟨xq_14_39, List.forall_mem_cons.mpr ⟨xq_14_40, List.forall_mem_cons.mpr ⟨xq_14_41, List.forall_mem_cons.mpr ⟨xq_14_42, List.forall_mem_cons.mpr ⟨xq_14_43, List.forall_mem_cons.mpr ⟨xq_14_44, List.forall_mem_cons.mpr ⟨xq_14_45, List.forall_mem_cons.mpr ⟨xq_14_46, List.forall_mem_cons.mpr ⟨xq_14_47, List.forall_mem_cons.mpr ⟨xq_14_48, List.forall_mem_cons.mpr ⟨xq_14_49, List.forall_mem_cons.mpr ⟨xq_14_50, List.forall_mem_cons.mpr ⟨xq_14_51, List.forall_mem_cons.mpr ⟨xq_14_52, List.forall_mem_cons.mpr ⟨xq_14_53, List.forall_mem_cons.mpr ⟨xq_14_54, List.forall_mem_cons.mpr ⟨xq_14_55, List.forall_mem_cons.mpr ⟨xq_14_56, List.forall_mem_cons.mpr ⟨xq_14_57, List.forall_mem_cons.mpr ⟨xq_14_58, List.forall_mem_cons.mpr ⟨xq_14_59, List.forall_mem_cons.mpr ⟨xq_14_60, List.forall_mem_cons.mpr ⟨xq_14_61, List.forall_mem_cons.mpr ⟨xq_14_62, List.forall_mem_cons.mpr ⟨xq_14_63, List.forall_mem_cons.mpr ⟨xq_14_64, List.forall_mem_cons.mpr ⟨xq_14_65, List.forall_mem_cons.mpr ⟨xq_14_66, List.forall_mem_cons.mpr ⟨xq_14_67, List.forall_mem_cons.mpr ⟨xq_14_68, List.forall_mem_cons.mpr ⟨xq_14_69, List.forall_mem_cons.mpr ⟨xq_14_70, List.forall_mem_cons.mpr ⟨xq_14_71, List.forall_mem_cons.mpr ⟨xq_14_72, List.forall_mem_cons.mpr ⟨xq_14_73, List.forall_mem_cons.mpr ⟨xq_14_74, List.forall_mem_cons.mpr ⟨xq_14_75, List.forall_mem_cons.mpr ⟨xq_14_76, List.forall_mem_cons.mpr ⟨xq_14_77, List.forall_mem_cons.mpr ⟨xq_14_78, List.forall_mem_cons.mpr ⟨xq_14_79, List.forall_mem_cons.mpr ⟨xq_14_80, (fun _ h => absurd h List.not_mem_nil)⟩⟩⟩⟩⟩⟩⟩⟩⟩⟩⟩⟩⟩⟩⟩⟩⟩⟩⟩⟩⟩⟩⟩⟩⟩⟩⟩⟩⟩⟩⟩⟩⟩⟩⟩⟩⟩⟩⟩⟩⟩⟩⟩⟩⟩⟩⟩⟩⟩⟩⟩⟩⟩⟩⟩⟩⟩⟩⟩⟩⟩⟩⟩⟩⟩⟩⟩⟩⟩⟩⟩⟩⟩⟩⟩⟩⟩⟩⟩⟩⟩
set_option maxRecDepth 100000 in
theorem xlkk_15 : ∀ q ∈ xlk_15, xlq 15 q := (fun _ h => absurd h List.not_mem_nil)
theorem xq_16_0 : xlq 16 (1056, 5, 19, 705) := ⟨_, rfl, xt_3 143 rfl⟩
set_option maxRecDepth 100000 in
theorem xlkk_16 : ∀ q ∈ xlk_16, xlq 16 q := List.forall_mem_cons.mpr ⟨xq_16_0, (fun _ h => absurd h List.not_mem_nil)⟩
theorem xq_17_0 : xlq 17 (52, 1, 280, 778) := ⟨_, rfl, xt_3 216 rfl⟩
theorem xq_17_1 : xlq 17 (172, 8, 14, 781) := ⟨_, rfl, xt_3 219 rfl⟩
theorem xq_17_2 : xlq 17 (600, 11, 0, 772) := ⟨_, rfl, xt_3 210 rfl⟩
theorem xq_17_3 : xlq 17 (1216, 1, 272, 771) := ⟨_, rfl, xt_3 209 rfl⟩
set_option maxRecDepth 100000 in
theorem xlkk_17 : ∀ q ∈ xlk_17, xlq 17 q := List.forall_mem_cons.mpr ⟨xq_17_0, List.forall_mem_cons.mpr ⟨xq_17_1, List.forall_mem_cons.mpr ⟨xq_17_2, List.forall_mem_cons.mpr ⟨xq_17_3, (fun _ h => absurd h List.not_mem_nil)⟩⟩⟩⟩
theorem xq_18_0 : xlq 18 (36, 0, 1152, 1013) := ⟨_, rfl, xt_4 211 rfl⟩
theorem xq_18_1 : xlq 18 (60, 0, 1153, 1014) := ⟨_, rfl, xt_4 212 rfl⟩
theorem xq_18_2 : xlq 18 (152, 14, 2, 889) := ⟨_, rfl, xt_4 87 rfl⟩
theorem xq_18_3 : xlq 18 (1340, 1, 283, 885) := ⟨_, rfl, xt_4 83 rfl⟩
theorem xq_18_4 : xlq 18 (1968, 1, 285, 1565) := ⟨_, rfl, xt_7 43 rfl⟩
theorem xq_18_5 : xlq 18 (1980, 1, 286, 1569) := ⟨_, rfl, xt_7 47 rfl⟩
theorem xq_18_6 : xlq 18 (4212, 14, 3, 867) := ⟨_, rfl, xt_4 65 rfl⟩
theorem xq_18_7 : xlq 18 (4236, 1, 289, 1575) := ⟨_, rfl, xt_7 53 rfl⟩
set_option maxRecDepth 100000 in
theorem xlkk_18 : ∀ q ∈ xlk_18, xlq 18 q := List.forall_mem_cons.mpr ⟨xq_18_0, List.forall_mem_cons.mpr ⟨xq_18_1, List.forall_mem_cons.mpr ⟨xq_18_2, List.forall_mem_cons.mpr ⟨xq_18_3, List.forall_mem_cons.mpr ⟨xq_18_4, List.forall_mem_cons.mpr ⟨xq_18_5, List.forall_mem_cons.mpr ⟨xq_18_6, List.forall_mem_cons.mpr ⟨xq_18_7, (fun _ h => absurd h List.not_mem_nil)⟩⟩⟩⟩⟩⟩⟩⟩
theorem xq_19_0 : xlq 19 (36, 1, 288, 1572) := ⟨_, rfl, xt_7 50 rfl⟩
set_option maxRecDepth 100000 in
theorem xlkk_19 : ∀ q ∈ xlk_19, xlq 19 q := List.forall_mem_cons.mpr ⟨xq_19_0, (fun _ h => absurd h List.not_mem_nil)⟩
set_option maxRecDepth 100000 in
theorem xlkk_20 : ∀ q ∈ xlk_20, xlq 20 q := (fun _ h => absurd h List.not_mem_nil)
theorem xfind_mem {L : List (Nat × Nat × Nat × Nat)} {key : Nat} {r : Nat × Nat × Nat} (h : xfind L key = some r) : (key, r) ∈ L := by
  induction L with
  | nil => cases h
  | cons q t ih =>
    simp only [xfind] at h
    cases hq : Nat.beq q.1 key with
    | true =>
      rw [hq] at h
      have e : q.1 = key := Nat.eq_of_beq_eq_true hq
      cases h
      rw [← e]
      exact List.mem_cons_self
    | false =>
      rw [hq] at h
      exact List.mem_cons_of_mem _ (ih h)
theorem xlook_ok {cn key k a pos : Nat} (h : xlook cn key = some (k, a, pos)) : ∃ w, xword cn key k a = some w ∧ w ∈ lw_tbl := by
  unfold xlook at h
  match cn, h with
  | 0, h => exact xlkk_0 _ (xfind_mem h)
  | 1, h => exact xlkk_1 _ (xfind_mem h)
  | 2, h => exact xlkk_2 _ (xfind_mem h)
  | 3, h => exact xlkk_3 _ (xfind_mem h)
  | 4, h => exact xlkk_4 _ (xfind_mem h)
  | 5, h => exact xlkk_5 _ (xfind_mem h)
  | 6, h => exact xlkk_6 _ (xfind_mem h)
  | 7, h => exact xlkk_7 _ (xfind_mem h)
  | 8, h => exact xlkk_8 _ (xfind_mem h)
  | 9, h => exact xlkk_9 _ (xfind_mem h)
  | 10, h => exact xlkk_10 _ (xfind_mem h)
  | 11, h => exact xlkk_11 _ (xfind_mem h)
  | 12, h => exact xlkk_12 _ (xfind_mem h)
  | 13, h => exact xlkk_13 _ (xfind_mem h)
  | 14, h => exact xlkk_14 _ (xfind_mem h)
  | 15, h => exact xlkk_15 _ (xfind_mem h)
  | 16, h => exact xlkk_16 _ (xfind_mem h)
  | 17, h => exact xlkk_17 _ (xfind_mem h)
  | 18, h => exact xlkk_18 _ (xfind_mem h)
  | 19, h => exact xlkk_19 _ (xfind_mem h)
  | 20, h => exact xlkk_20 _ (xfind_mem h)
  | _ + 21, h => exact absurd h (by simp [xlk, xfind])
theorem xini_0 : Cond.initialized "TrueFloats" ∈ lw_tbl := xt_1 1 rfl
theorem xini_1 : Cond.initialized "TrueFloats$Range" ∈ lw_tbl := xt_1 2 rfl
theorem xini_2 : Cond.initialized "TrueFloats$Register" ∈ lw_tbl := xt_1 3 rfl
theorem xini_3 : Cond.initialized "TrueFloats$Natural" ∈ lw_tbl := xt_1 4 rfl
theorem xini_4 : Cond.initialized "TrueFloats$Real" ∈ lw_tbl := xt_1 5 rfl
theorem xini_5 : Cond.initialized "TrueFloats$Addition" ∈ lw_tbl := xt_1 6 rfl
theorem xini_6 : Cond.initialized "TrueFloats$Power" ∈ lw_tbl := xt_1 7 rfl
theorem xini_7 : Cond.initialized "TrueFloats$Division" ∈ lw_tbl := xt_1 8 rfl
theorem xini_8 : Cond.initialized "TrueFloats$Reckoner" ∈ lw_tbl := xt_1 9 rfl
theorem xini_9 : Cond.initialized "TrueFloats$RootFinder" ∈ lw_tbl := xt_1 10 rfl
theorem xini_10 : Cond.initialized "TrueFloats$Reader" ∈ lw_tbl := xt_1 11 rfl
theorem xini_11 : Cond.initialized "TrueFloats$Writer" ∈ lw_tbl := xt_1 12 rfl
theorem xini_12 : Cond.initialized "TrueFloatsModel" ∈ lw_tbl := xt_1 13 rfl
theorem xini_13 : Cond.initialized "TrueFloatsModel$Nat" ∈ lw_tbl := xt_1 14 rfl
theorem xini_14 : Cond.initialized "TrueFloatsLaw" ∈ lw_tbl := xt_1 0 rfl
theorem xini_15 : Cond.initialized "java/lang/Math" ∈ lw_tbl := xt_1 20 rfl
theorem xini_16 : Cond.initialized "java/lang/Integer" ∈ lw_tbl := xt_1 19 rfl
theorem xini_17 : Cond.initialized "java/util/Arrays" ∈ lw_tbl := xt_1 21 rfl
theorem xini_18 : Cond.initialized "java/lang/String" ∈ lw_tbl := xt_1 25 rfl
theorem xini_19 : Cond.initialized "java/lang/StringLatin1" ∈ lw_tbl := xt_1 29 rfl
theorem xini_20 : Cond.initialized "jdk/internal/util/Preconditions" ∈ lw_tbl := xt_1 28 rfl
def xclok (i : Nat) : Bool := match xcl[i]?, xft[i]?, xdf[i]? with
  | some q, some ts, some ds => Nat.beq ts.length q.2.2 && Nat.beq ds.length q.2.2 && (List.range q.2.2).all (fun k => decide (parseFieldDescriptor (q.2.1 k).2.2.1 = ts[k]?) && decide (ds[k]? = (ts[k]?).map defaultValue)) && (List.range q.2.2).all (fun a => (List.range q.2.2).all fun b => Nat.beq a b || decide ((q.2.1 a).2.1 ≠ (q.2.1 b).2.1))
  | _, _, _ => false
/-- what is known of an own class -/
def xCok (i : Nat) : Prop := ∃ q, xcl[i]? = some q ∧ (∀ k, k < q.2.2 → u_lay q.1 q.2.1 k ∈ lw_tbl ∧ (q.2.1 k).1 = q.1) ∧ Cond.instantiable q.1 q.2.2 ∈ lw_tbl ∧ Cond.initialized q.1 ∈ lw_tbl ∧ xcn[i]? = some q.1 ∧ xclok i = true
theorem xclk_0 : xclok 0 = true := by decide +kernel
theorem xCk_0 : xCok 0 := by
  refine ⟨_, rfl, fun k hk => ?_, xt_1 34 rfl, xini_0, rfl, xclk_0⟩
  match k, hk with
  | 0, _ => exact ⟨xt_2 220 rfl, rfl⟩
  | 1, _ => exact ⟨xt_2 222 rfl, rfl⟩
  | 2, _ => exact ⟨xt_2 224 rfl, rfl⟩
  | 3, _ => exact ⟨xt_2 226 rfl, rfl⟩
  | 4, _ => exact ⟨xt_2 228 rfl, rfl⟩
  | 5, _ => exact ⟨xt_2 230 rfl, rfl⟩
  | 6, _ => exact ⟨xt_2 232 rfl, rfl⟩
  | 7, _ => exact ⟨xt_2 234 rfl, rfl⟩
  | 8, _ => exact ⟨xt_2 236 rfl, rfl⟩
  | 9, _ => exact ⟨xt_2 238 rfl, rfl⟩
  | 10, _ => exact ⟨xt_3 0 rfl, rfl⟩
  | 11, _ => exact ⟨xt_3 2 rfl, rfl⟩
  | k + 12, hk => exact absurd hk (Nat.not_lt.mpr (Nat.le_add_left _ _))
theorem xclk_1 : xclok 1 = true := by decide +kernel
theorem xCk_1 : xCok 1 := by
  refine ⟨_, rfl, fun k hk => ?_, xt_1 44 rfl, xini_1, rfl, xclk_1⟩
  match k, hk with
  | 0, _ => exact ⟨xt_1 58 rfl, rfl⟩
  | 1, _ => exact ⟨xt_1 60 rfl, rfl⟩
  | 2, _ => exact ⟨xt_1 62 rfl, rfl⟩
  | 3, _ => exact ⟨xt_1 64 rfl, rfl⟩
  | k + 4, hk => exact absurd hk (Nat.not_lt.mpr (Nat.le_add_left _ _))
theorem xclk_2 : xclok 2 = true := by decide +kernel
theorem xCk_2 : xCok 2 := by
  refine ⟨_, rfl, fun k hk => ?_, xt_1 67 rfl, xini_2, rfl, xclk_2⟩
  match k, hk with
  | 0, _ => exact ⟨xt_1 127 rfl, rfl⟩
  | 1, _ => exact ⟨xt_1 129 rfl, rfl⟩
  | 2, _ => exact ⟨xt_1 131 rfl, rfl⟩
  | 3, _ => exact ⟨xt_1 133 rfl, rfl⟩
  | 4, _ => exact ⟨xt_1 135 rfl, rfl⟩
  | k + 5, hk => exact absurd hk (Nat.not_lt.mpr (Nat.le_add_left _ _))
theorem xclk_3 : xclok 3 = true := by decide +kernel
theorem xCk_3 : xCok 3 := by
  refine ⟨_, rfl, fun k hk => ?_, xt_1 73 rfl, xini_3, rfl, xclk_3⟩
  match k, hk with
  | 0, _ => exact ⟨xt_1 89 rfl, rfl⟩
  | 1, _ => exact ⟨xt_1 91 rfl, rfl⟩
  | k + 2, hk => exact absurd hk (Nat.not_lt.mpr (Nat.le_add_left _ _))
theorem xclk_4 : xclok 4 = true := by decide +kernel
theorem xCk_4 : xCok 4 := by
  refine ⟨_, rfl, fun k hk => ?_, xt_1 139 rfl, xini_4, rfl, xclk_4⟩
  match k, hk with
  | 0, _ => exact ⟨xt_1 173 rfl, rfl⟩
  | 1, _ => exact ⟨xt_1 175 rfl, rfl⟩
  | 2, _ => exact ⟨xt_1 177 rfl, rfl⟩
  | 3, _ => exact ⟨xt_1 179 rfl, rfl⟩
  | k + 4, hk => exact absurd hk (Nat.not_lt.mpr (Nat.le_add_left _ _))
theorem xclk_5 : xclok 5 = true := by decide +kernel
theorem xCk_5 : xCok 5 := by
  refine ⟨_, rfl, fun k hk => ?_, xt_1 183 rfl, xini_5, rfl, xclk_5⟩
  match k, hk with
  | 0, _ => exact ⟨xt_1 204 rfl, rfl⟩
  | 1, _ => exact ⟨xt_1 206 rfl, rfl⟩
  | 2, _ => exact ⟨xt_1 208 rfl, rfl⟩
  | 3, _ => exact ⟨xt_1 210 rfl, rfl⟩
  | 4, _ => exact ⟨xt_1 212 rfl, rfl⟩
  | 5, _ => exact ⟨xt_1 214 rfl, rfl⟩
  | 6, _ => exact ⟨xt_1 216 rfl, rfl⟩
  | 7, _ => exact ⟨xt_1 218 rfl, rfl⟩
  | 8, _ => exact ⟨xt_1 220 rfl, rfl⟩
  | 9, _ => exact ⟨xt_1 222 rfl, rfl⟩
  | 10, _ => exact ⟨xt_1 224 rfl, rfl⟩
  | 11, _ => exact ⟨xt_1 226 rfl, rfl⟩
  | k + 12, hk => exact absurd hk (Nat.not_lt.mpr (Nat.le_add_left _ _))
theorem xclk_6 : xclok 6 = true := by decide +kernel
theorem xCk_6 : xCok 6 := by
  refine ⟨_, rfl, fun k hk => ?_, xt_1 230 rfl, xini_6, rfl, xclk_6⟩
  match k, hk with
  | 0, _ => exact ⟨xt_2 10 rfl, rfl⟩
  | 1, _ => exact ⟨xt_2 12 rfl, rfl⟩
  | 2, _ => exact ⟨xt_2 14 rfl, rfl⟩
  | 3, _ => exact ⟨xt_2 16 rfl, rfl⟩
  | 4, _ => exact ⟨xt_2 18 rfl, rfl⟩
  | k + 5, hk => exact absurd hk (Nat.not_lt.mpr (Nat.le_add_left _ _))
theorem xclk_7 : xclok 7 = true := by decide +kernel
theorem xCk_7 : xCok 7 := by
  refine ⟨_, rfl, fun k hk => ?_, xt_2 23 rfl, xini_7, rfl, xclk_7⟩
  match k, hk with
  | 0, _ => exact ⟨xt_2 40 rfl, rfl⟩
  | 1, _ => exact ⟨xt_2 42 rfl, rfl⟩
  | 2, _ => exact ⟨xt_2 44 rfl, rfl⟩
  | k + 3, hk => exact absurd hk (Nat.not_lt.mpr (Nat.le_add_left _ _))
theorem xclk_8 : xclok 8 = true := by decide +kernel
theorem xCk_8 : xCok 8 := by
  refine ⟨_, rfl, fun k hk => ?_, xt_2 48 rfl, xini_8, rfl, xclk_8⟩
  match k, hk with
  | 0, _ => exact ⟨xt_2 103 rfl, rfl⟩
  | 1, _ => exact ⟨xt_2 105 rfl, rfl⟩
  | 2, _ => exact ⟨xt_2 107 rfl, rfl⟩
  | 3, _ => exact ⟨xt_2 109 rfl, rfl⟩
  | 4, _ => exact ⟨xt_2 111 rfl, rfl⟩
  | 5, _ => exact ⟨xt_2 113 rfl, rfl⟩
  | 6, _ => exact ⟨xt_2 115 rfl, rfl⟩
  | k + 7, hk => exact absurd hk (Nat.not_lt.mpr (Nat.le_add_left _ _))
theorem xclk_9 : xclok 9 = true := by decide +kernel
theorem xCk_9 : xCok 9 := by
  refine ⟨_, rfl, fun k hk => ?_, xt_2 58 rfl, xini_9, rfl, xclk_9⟩
  match k, hk with
  | 0, _ => exact ⟨xt_2 75 rfl, rfl⟩
  | 1, _ => exact ⟨xt_2 77 rfl, rfl⟩
  | 2, _ => exact ⟨xt_2 79 rfl, rfl⟩
  | 3, _ => exact ⟨xt_2 81 rfl, rfl⟩
  | 4, _ => exact ⟨xt_2 83 rfl, rfl⟩
  | 5, _ => exact ⟨xt_2 85 rfl, rfl⟩
  | 6, _ => exact ⟨xt_2 87 rfl, rfl⟩
  | 7, _ => exact ⟨xt_2 89 rfl, rfl⟩
  | 8, _ => exact ⟨xt_2 91 rfl, rfl⟩
  | 9, _ => exact ⟨xt_2 93 rfl, rfl⟩
  | k + 10, hk => exact absurd hk (Nat.not_lt.mpr (Nat.le_add_left _ _))
theorem xclk_10 : xclok 10 = true := by decide +kernel
theorem xCk_10 : xCok 10 := by
  refine ⟨_, rfl, fun k hk => ?_, xt_2 119 rfl, xini_10, rfl, xclk_10⟩
  match k, hk with
  | 0, _ => exact ⟨xt_2 137 rfl, rfl⟩
  | 1, _ => exact ⟨xt_2 139 rfl, rfl⟩
  | 2, _ => exact ⟨xt_2 141 rfl, rfl⟩
  | 3, _ => exact ⟨xt_2 143 rfl, rfl⟩
  | 4, _ => exact ⟨xt_2 145 rfl, rfl⟩
  | 5, _ => exact ⟨xt_2 147 rfl, rfl⟩
  | 6, _ => exact ⟨xt_2 149 rfl, rfl⟩
  | 7, _ => exact ⟨xt_2 151 rfl, rfl⟩
  | 8, _ => exact ⟨xt_2 153 rfl, rfl⟩
  | k + 9, hk => exact absurd hk (Nat.not_lt.mpr (Nat.le_add_left _ _))
theorem xclk_11 : xclok 11 = true := by decide +kernel
theorem xCk_11 : xCok 11 := by
  refine ⟨_, rfl, fun k hk => ?_, xt_2 157 rfl, xini_11, rfl, xclk_11⟩
  match k, hk with
  | 0, _ => exact ⟨xt_2 181 rfl, rfl⟩
  | 1, _ => exact ⟨xt_2 183 rfl, rfl⟩
  | 2, _ => exact ⟨xt_2 185 rfl, rfl⟩
  | 3, _ => exact ⟨xt_2 187 rfl, rfl⟩
  | 4, _ => exact ⟨xt_2 189 rfl, rfl⟩
  | 5, _ => exact ⟨xt_2 191 rfl, rfl⟩
  | 6, _ => exact ⟨xt_2 193 rfl, rfl⟩
  | 7, _ => exact ⟨xt_2 195 rfl, rfl⟩
  | 8, _ => exact ⟨xt_2 197 rfl, rfl⟩
  | 9, _ => exact ⟨xt_2 199 rfl, rfl⟩
  | 10, _ => exact ⟨xt_2 201 rfl, rfl⟩
  | 11, _ => exact ⟨xt_2 203 rfl, rfl⟩
  | 12, _ => exact ⟨xt_2 205 rfl, rfl⟩
  | k + 13, hk => exact absurd hk (Nat.not_lt.mpr (Nat.le_add_left _ _))
theorem xclk_12 : xclok 12 = true := by decide +kernel
theorem xCk_12 : xCok 12 := by
  refine ⟨_, rfl, fun k hk => ?_, xt_7 176 rfl, xini_12, rfl, xclk_12⟩
  match k, hk with
  | 0, _ => exact ⟨xt_7 229 rfl, rfl⟩
  | 1, _ => exact ⟨xt_7 231 rfl, rfl⟩
  | 2, _ => exact ⟨xt_7 233 rfl, rfl⟩
  | 3, _ => exact ⟨xt_7 235 rfl, rfl⟩
  | 4, _ => exact ⟨xt_7 237 rfl, rfl⟩
  | 5, _ => exact ⟨xt_7 239 rfl, rfl⟩
  | 6, _ => exact ⟨xt_8 1 rfl, rfl⟩
  | 7, _ => exact ⟨xt_8 3 rfl, rfl⟩
  | 8, _ => exact ⟨xt_8 5 rfl, rfl⟩
  | 9, _ => exact ⟨xt_8 7 rfl, rfl⟩
  | 10, _ => exact ⟨xt_8 9 rfl, rfl⟩
  | 11, _ => exact ⟨xt_8 11 rfl, rfl⟩
  | 12, _ => exact ⟨xt_8 13 rfl, rfl⟩
  | 13, _ => exact ⟨xt_8 15 rfl, rfl⟩
  | 14, _ => exact ⟨xt_8 17 rfl, rfl⟩
  | 15, _ => exact ⟨xt_8 19 rfl, rfl⟩
  | 16, _ => exact ⟨xt_8 21 rfl, rfl⟩
  | 17, _ => exact ⟨xt_8 23 rfl, rfl⟩
  | 18, _ => exact ⟨xt_8 25 rfl, rfl⟩
  | 19, _ => exact ⟨xt_8 27 rfl, rfl⟩
  | 20, _ => exact ⟨xt_8 29 rfl, rfl⟩
  | 21, _ => exact ⟨xt_8 31 rfl, rfl⟩
  | 22, _ => exact ⟨xt_8 33 rfl, rfl⟩
  | 23, _ => exact ⟨xt_8 35 rfl, rfl⟩
  | 24, _ => exact ⟨xt_8 37 rfl, rfl⟩
  | 25, _ => exact ⟨xt_8 39 rfl, rfl⟩
  | 26, _ => exact ⟨xt_8 41 rfl, rfl⟩
  | 27, _ => exact ⟨xt_8 43 rfl, rfl⟩
  | 28, _ => exact ⟨xt_8 45 rfl, rfl⟩
  | 29, _ => exact ⟨xt_8 47 rfl, rfl⟩
  | 30, _ => exact ⟨xt_8 49 rfl, rfl⟩
  | 31, _ => exact ⟨xt_8 51 rfl, rfl⟩
  | k + 32, hk => exact absurd hk (Nat.not_lt.mpr (Nat.le_add_left _ _))
theorem xclk_13 : xclok 13 = true := by decide +kernel
theorem xCk_13 : xCok 13 := by
  refine ⟨_, rfl, fun k hk => ?_, xt_7 182 rfl, xini_13, rfl, xclk_13⟩
  match k, hk with
  | 0, _ => exact ⟨xt_7 191 rfl, rfl⟩
  | 1, _ => exact ⟨xt_7 193 rfl, rfl⟩
  | k + 2, hk => exact absurd hk (Nat.not_lt.mpr (Nat.le_add_left _ _))
theorem xly18_0 : u_lay "java/lang/String" xF_18 0 ∈ lw_tbl := xt_4 213 rfl
theorem xly18_1 : u_lay "java/lang/String" xF_18 1 ∈ lw_tbl := xt_4 215 rfl
theorem xC_ok {i : Nat} (h : i < 14) : xCok i := by
  match i, h with
  | 0, _ => exact xCk_0
  | 1, _ => exact xCk_1
  | 2, _ => exact xCk_2
  | 3, _ => exact xCk_3
  | 4, _ => exact xCk_4
  | 5, _ => exact xCk_5
  | 6, _ => exact xCk_6
  | 7, _ => exact xCk_7
  | 8, _ => exact xCk_8
  | 9, _ => exact xCk_9
  | 10, _ => exact xCk_10
  | 11, _ => exact xCk_11
  | 12, _ => exact xCk_12
  | 13, _ => exact xCk_13
def xcw (M : xM) : Jvm.Cond := match xhh M with
  | [] => .code (xn M) (xby M) (xmx M) (xrt M)
  | h :: r => .codeWith (xn M) (xby M) (xmx M) (xrt M) (h :: r)
def xMok (M : xM) : Prop := xcw M ∈ lw_tbl ∧ Cond.initialized (xn M).cls ∈ lw_tbl ∧
  (xkd M = 0 → Cond.static (xn M) ∈ lw_tbl) ∧
  (xkd M = 1 → Cond.instanceMethod (xn M) ∈ lw_tbl ∧ Cond.selects (xn M).cls (xn M) (xn M) ∈ lw_tbl ∧ (xcl[xcno M]?).map (·.1) = some (xn M).cls) ∧
  (xkd M = 2 → Cond.instanceMethod (xn M) ∈ lw_tbl ∧ (xn M).name = "<init>" ∧ xrt M = none ∧ xhh M = []) ∧
  (parseMethodDescriptor (xn M).desc).map (fun d => d.parameters.length) = some (xna M) ∧ ((xn M).cls ≠ "java/lang/invoke/MethodHandle" ∧ (xn M).cls ≠ "java/lang/invoke/VarHandle") ∧ xcn[xcno M]? = some (xn M).cls ∧ plainFor (xn M) = true ∧ xmx M ≤ 30
theorem xmh_0 : "TrueFloats" ≠ "java/lang/invoke/MethodHandle" ∧ "TrueFloats" ≠ "java/lang/invoke/VarHandle" := by decide +kernel
theorem xpl_0 : plainName "TrueFloats" = true := by decide +kernel
theorem xmh_1 : "TrueFloats$Range" ≠ "java/lang/invoke/MethodHandle" ∧ "TrueFloats$Range" ≠ "java/lang/invoke/VarHandle" := by decide +kernel
theorem xpl_1 : plainName "TrueFloats$Range" = true := by decide +kernel
theorem xmh_2 : "TrueFloats$Register" ≠ "java/lang/invoke/MethodHandle" ∧ "TrueFloats$Register" ≠ "java/lang/invoke/VarHandle" := by decide +kernel
theorem xpl_2 : plainName "TrueFloats$Register" = true := by decide +kernel
theorem xmh_3 : "TrueFloats$Natural" ≠ "java/lang/invoke/MethodHandle" ∧ "TrueFloats$Natural" ≠ "java/lang/invoke/VarHandle" := by decide +kernel
theorem xpl_3 : plainName "TrueFloats$Natural" = true := by decide +kernel
theorem xmh_4 : "TrueFloats$Real" ≠ "java/lang/invoke/MethodHandle" ∧ "TrueFloats$Real" ≠ "java/lang/invoke/VarHandle" := by decide +kernel
theorem xpl_4 : plainName "TrueFloats$Real" = true := by decide +kernel
theorem xmh_5 : "TrueFloats$Addition" ≠ "java/lang/invoke/MethodHandle" ∧ "TrueFloats$Addition" ≠ "java/lang/invoke/VarHandle" := by decide +kernel
theorem xpl_5 : plainName "TrueFloats$Addition" = true := by decide +kernel
theorem xmh_6 : "TrueFloats$Power" ≠ "java/lang/invoke/MethodHandle" ∧ "TrueFloats$Power" ≠ "java/lang/invoke/VarHandle" := by decide +kernel
theorem xpl_6 : plainName "TrueFloats$Power" = true := by decide +kernel
theorem xmh_7 : "TrueFloats$Division" ≠ "java/lang/invoke/MethodHandle" ∧ "TrueFloats$Division" ≠ "java/lang/invoke/VarHandle" := by decide +kernel
theorem xpl_7 : plainName "TrueFloats$Division" = true := by decide +kernel
theorem xmh_8 : "TrueFloats$Reckoner" ≠ "java/lang/invoke/MethodHandle" ∧ "TrueFloats$Reckoner" ≠ "java/lang/invoke/VarHandle" := by decide +kernel
theorem xpl_8 : plainName "TrueFloats$Reckoner" = true := by decide +kernel
theorem xmh_9 : "TrueFloats$RootFinder" ≠ "java/lang/invoke/MethodHandle" ∧ "TrueFloats$RootFinder" ≠ "java/lang/invoke/VarHandle" := by decide +kernel
theorem xpl_9 : plainName "TrueFloats$RootFinder" = true := by decide +kernel
theorem xmh_10 : "TrueFloats$Reader" ≠ "java/lang/invoke/MethodHandle" ∧ "TrueFloats$Reader" ≠ "java/lang/invoke/VarHandle" := by decide +kernel
theorem xpl_10 : plainName "TrueFloats$Reader" = true := by decide +kernel
theorem xmh_11 : "TrueFloats$Writer" ≠ "java/lang/invoke/MethodHandle" ∧ "TrueFloats$Writer" ≠ "java/lang/invoke/VarHandle" := by decide +kernel
theorem xpl_11 : plainName "TrueFloats$Writer" = true := by decide +kernel
theorem xmh_12 : "TrueFloatsModel" ≠ "java/lang/invoke/MethodHandle" ∧ "TrueFloatsModel" ≠ "java/lang/invoke/VarHandle" := by decide +kernel
theorem xpl_12 : plainName "TrueFloatsModel" = true := by decide +kernel
theorem xmh_13 : "TrueFloatsModel$Nat" ≠ "java/lang/invoke/MethodHandle" ∧ "TrueFloatsModel$Nat" ≠ "java/lang/invoke/VarHandle" := by decide +kernel
theorem xpl_13 : plainName "TrueFloatsModel$Nat" = true := by decide +kernel
theorem xmh_14 : "TrueFloatsLaw" ≠ "java/lang/invoke/MethodHandle" ∧ "TrueFloatsLaw" ≠ "java/lang/invoke/VarHandle" := by decide +kernel
theorem xpl_14 : plainName "TrueFloatsLaw" = true := by decide +kernel
theorem xmh_15 : "java/lang/Math" ≠ "java/lang/invoke/MethodHandle" ∧ "java/lang/Math" ≠ "java/lang/invoke/VarHandle" := by decide +kernel
theorem xmh_16 : "java/lang/Integer" ≠ "java/lang/invoke/MethodHandle" ∧ "java/lang/Integer" ≠ "java/lang/invoke/VarHandle" := by decide +kernel
theorem xmh_17 : "java/util/Arrays" ≠ "java/lang/invoke/MethodHandle" ∧ "java/util/Arrays" ≠ "java/lang/invoke/VarHandle" := by decide +kernel
theorem xmh_18 : "java/lang/String" ≠ "java/lang/invoke/MethodHandle" ∧ "java/lang/String" ≠ "java/lang/invoke/VarHandle" := by decide +kernel
theorem xmh_19 : "java/lang/StringLatin1" ≠ "java/lang/invoke/MethodHandle" ∧ "java/lang/StringLatin1" ≠ "java/lang/invoke/VarHandle" := by decide +kernel
theorem xmh_20 : "jdk/internal/util/Preconditions" ≠ "java/lang/invoke/MethodHandle" ∧ "jdk/internal/util/Preconditions" ≠ "java/lang/invoke/VarHandle" := by decide +kernel
theorem xds_0 : (parseMethodDescriptor "()B").map (fun d => d.parameters.length) = some 0 := by decide +kernel
theorem xds_1 : (parseMethodDescriptor "()I").map (fun d => d.parameters.length) = some 0 := by decide +kernel
theorem xds_2 : (parseMethodDescriptor "()J").map (fun d => d.parameters.length) = some 0 := by decide +kernel
theorem xds_3 : (parseMethodDescriptor "()V").map (fun d => d.parameters.length) = some 0 := by decide +kernel
theorem xds_4 : (parseMethodDescriptor "()Z").map (fun d => d.parameters.length) = some 0 := by decide +kernel
theorem xds_5 : (parseMethodDescriptor "(B)I").map (fun d => d.parameters.length) = some 1 := by decide +kernel
theorem xds_6 : (parseMethodDescriptor "(B)Z").map (fun d => d.parameters.length) = some 1 := by decide +kernel
theorem xds_7 : (parseMethodDescriptor "(I)B").map (fun d => d.parameters.length) = some 1 := by decide +kernel
theorem xds_8 : (parseMethodDescriptor "(I)C").map (fun d => d.parameters.length) = some 1 := by decide +kernel
theorem xds_9 : (parseMethodDescriptor "(I)I").map (fun d => d.parameters.length) = some 1 := by decide +kernel
theorem xds_10 : (parseMethodDescriptor "(I)V").map (fun d => d.parameters.length) = some 1 := by decide +kernel
theorem xds_11 : (parseMethodDescriptor "(I)Z").map (fun d => d.parameters.length) = some 1 := by decide +kernel
theorem xds_12 : (parseMethodDescriptor "(II)I").map (fun d => d.parameters.length) = some 2 := by decide +kernel
theorem xds_13 : (parseMethodDescriptor "(II)J").map (fun d => d.parameters.length) = some 2 := by decide +kernel
theorem xds_14 : (parseMethodDescriptor "(II)V").map (fun d => d.parameters.length) = some 2 := by decide +kernel
theorem xds_15 : (parseMethodDescriptor "(II)Z").map (fun d => d.parameters.length) = some 2 := by decide +kernel
theorem xds_16 : (parseMethodDescriptor "(IICCC)Z").map (fun d => d.parameters.length) = some 5 := by decide +kernel
theorem xds_17 : (parseMethodDescriptor "(III)I").map (fun d => d.parameters.length) = some 3 := by decide +kernel
theorem xds_18 : (parseMethodDescriptor "(III)V").map (fun d => d.parameters.length) = some 3 := by decide +kernel
theorem xds_19 : (parseMethodDescriptor "(III)Z").map (fun d => d.parameters.length) = some 3 := by decide +kernel
theorem xds_20 : (parseMethodDescriptor "(IIII)I").map (fun d => d.parameters.length) = some 4 := by decide +kernel
theorem xds_21 : (parseMethodDescriptor "(IIIII)I").map (fun d => d.parameters.length) = some 5 := by decide +kernel
theorem xds_22 : (parseMethodDescriptor "(IIIII)V").map (fun d => d.parameters.length) = some 5 := by decide +kernel
theorem xds_23 : (parseMethodDescriptor "(IIIZI)I").map (fun d => d.parameters.length) = some 5 := by decide +kernel
theorem xds_24 : (parseMethodDescriptor "(IIJ)Z").map (fun d => d.parameters.length) = some 3 := by decide +kernel
theorem xds_25 : (parseMethodDescriptor "(IILjava/util/function/BiFunction;)I").map (fun d => d.parameters.length) = some 3 := by decide +kernel
theorem xds_26 : (parseMethodDescriptor "(IIZ)I").map (fun d => d.parameters.length) = some 3 := by decide +kernel
theorem xds_27 : (parseMethodDescriptor "(IIZ)V").map (fun d => d.parameters.length) = some 3 := by decide +kernel
theorem xds_28 : (parseMethodDescriptor "(IIZI)I").map (fun d => d.parameters.length) = some 4 := by decide +kernel
theorem xds_29 : (parseMethodDescriptor "(IJI)I").map (fun d => d.parameters.length) = some 3 := by decide +kernel
theorem xds_30 : (parseMethodDescriptor "(IJII)I").map (fun d => d.parameters.length) = some 4 := by decide +kernel
theorem xds_31 : (parseMethodDescriptor "(ILTrueFloats$Natural;II)I").map (fun d => d.parameters.length) = some 4 := by decide +kernel
theorem xds_32 : (parseMethodDescriptor "(ILTrueFloats$Real;)V").map (fun d => d.parameters.length) = some 2 := by decide +kernel
theorem xds_33 : (parseMethodDescriptor "(ILTrueFloatsModel$Nat;I)V").map (fun d => d.parameters.length) = some 3 := by decide +kernel
theorem xds_34 : (parseMethodDescriptor "(ILTrueFloatsModel$Nat;ILTrueFloatsModel$Nat;IZI)I").map (fun d => d.parameters.length) = some 7 := by decide +kernel
theorem xds_35 : (parseMethodDescriptor "(ILTrueFloatsModel$Nat;IZZI)I").map (fun d => d.parameters.length) = some 6 := by decide +kernel
theorem xds_36 : (parseMethodDescriptor "(IZ)I").map (fun d => d.parameters.length) = some 2 := by decide +kernel
theorem xds_37 : (parseMethodDescriptor "(IZ)V").map (fun d => d.parameters.length) = some 2 := by decide +kernel
theorem xds_38 : (parseMethodDescriptor "(IZ)Z").map (fun d => d.parameters.length) = some 2 := by decide +kernel
theorem xds_39 : (parseMethodDescriptor "(IZZI)Z").map (fun d => d.parameters.length) = some 4 := by decide +kernel
theorem xds_40 : (parseMethodDescriptor "(J)V").map (fun d => d.parameters.length) = some 1 := by decide +kernel
theorem xds_41 : (parseMethodDescriptor "(JII)Z").map (fun d => d.parameters.length) = some 3 := by decide +kernel
theorem xds_42 : (parseMethodDescriptor "(JJ)J").map (fun d => d.parameters.length) = some 2 := by decide +kernel
theorem xds_43 : (parseMethodDescriptor "(JJ)Z").map (fun d => d.parameters.length) = some 2 := by decide +kernel
theorem xds_44 : (parseMethodDescriptor "(LTrueFloats$Natural;)I").map (fun d => d.parameters.length) = some 1 := by decide +kernel
theorem xds_45 : (parseMethodDescriptor "(LTrueFloats$Natural;)V").map (fun d => d.parameters.length) = some 1 := by decide +kernel
theorem xds_46 : (parseMethodDescriptor "(LTrueFloats$Natural;I)I").map (fun d => d.parameters.length) = some 2 := by decide +kernel
theorem xds_47 : (parseMethodDescriptor "(LTrueFloats$Natural;I)V").map (fun d => d.parameters.length) = some 2 := by decide +kernel
theorem xds_48 : (parseMethodDescriptor "(LTrueFloats$Natural;II)I").map (fun d => d.parameters.length) = some 3 := by decide +kernel
theorem xds_49 : (parseMethodDescriptor "(LTrueFloats$Natural;II)V").map (fun d => d.parameters.length) = some 3 := by decide +kernel
theorem xds_50 : (parseMethodDescriptor "(LTrueFloats$Natural;III)V").map (fun d => d.parameters.length) = some 4 := by decide +kernel
theorem xds_51 : (parseMethodDescriptor "(LTrueFloats$Natural;IZ)V").map (fun d => d.parameters.length) = some 3 := by decide +kernel
theorem xds_52 : (parseMethodDescriptor "(LTrueFloats$Natural;LTrueFloats$Natural;)V").map (fun d => d.parameters.length) = some 2 := by decide +kernel
theorem xds_53 : (parseMethodDescriptor "(LTrueFloats$Power;LTrueFloats$Division;)V").map (fun d => d.parameters.length) = some 2 := by decide +kernel
theorem xds_54 : (parseMethodDescriptor "(LTrueFloats$Range;LTrueFloats$Power;LTrueFloats$Division;)V").map (fun d => d.parameters.length) = some 3 := by decide +kernel
theorem xds_55 : (parseMethodDescriptor "(LTrueFloats$Range;LTrueFloats$Register;I)I").map (fun d => d.parameters.length) = some 3 := by decide +kernel
theorem xds_56 : (parseMethodDescriptor "(LTrueFloats$Real;I)V").map (fun d => d.parameters.length) = some 2 := by decide +kernel
theorem xds_57 : (parseMethodDescriptor "(LTrueFloats$Real;IZ)V").map (fun d => d.parameters.length) = some 3 := by decide +kernel
theorem xds_58 : (parseMethodDescriptor "(LTrueFloats$Register;)I").map (fun d => d.parameters.length) = some 1 := by decide +kernel
theorem xds_59 : (parseMethodDescriptor "(LTrueFloats$Register;)V").map (fun d => d.parameters.length) = some 1 := by decide +kernel
theorem xds_60 : (parseMethodDescriptor "(LTrueFloats$Register;I)V").map (fun d => d.parameters.length) = some 2 := by decide +kernel
theorem xds_61 : (parseMethodDescriptor "(LTrueFloats$Register;LTrueFloats$Real;)V").map (fun d => d.parameters.length) = some 2 := by decide +kernel
theorem xds_62 : (parseMethodDescriptor "(LTrueFloats$Register;LTrueFloats$Real;I)I").map (fun d => d.parameters.length) = some 3 := by decide +kernel
theorem xds_63 : (parseMethodDescriptor "(LTrueFloats$Register;LTrueFloats$Register;)I").map (fun d => d.parameters.length) = some 2 := by decide +kernel
theorem xds_64 : (parseMethodDescriptor "(LTrueFloats$Register;LTrueFloats$Register;)V").map (fun d => d.parameters.length) = some 2 := by decide +kernel
theorem xds_65 : (parseMethodDescriptor "(LTrueFloats$Register;LTrueFloats$Register;II)I").map (fun d => d.parameters.length) = some 4 := by decide +kernel
theorem xds_66 : (parseMethodDescriptor "(LTrueFloats$Register;LTrueFloats$Register;LTrueFloats$Register;I)I").map (fun d => d.parameters.length) = some 4 := by decide +kernel
theorem xds_67 : (parseMethodDescriptor "(LTrueFloats$Register;LTrueFloats$Register;LTrueFloats$Register;ZI)I").map (fun d => d.parameters.length) = some 5 := by decide +kernel
theorem xds_68 : (parseMethodDescriptor "(LTrueFloats$Register;LTrueFloats$Register;ZI)I").map (fun d => d.parameters.length) = some 4 := by decide +kernel
theorem xds_69 : (parseMethodDescriptor "(LTrueFloats$Register;Z)V").map (fun d => d.parameters.length) = some 2 := by decide +kernel
theorem xds_70 : (parseMethodDescriptor "(LTrueFloats$Register;ZI)I").map (fun d => d.parameters.length) = some 3 := by decide +kernel
theorem xds_71 : (parseMethodDescriptor "(LTrueFloats;IIIII)I").map (fun d => d.parameters.length) = some 6 := by decide +kernel
theorem xds_72 : (parseMethodDescriptor "(LTrueFloats;IIIII[J)I").map (fun d => d.parameters.length) = some 7 := by decide +kernel
theorem xds_73 : (parseMethodDescriptor "(LTrueFloats;IIII[J)I").map (fun d => d.parameters.length) = some 6 := by decide +kernel
theorem xds_74 : (parseMethodDescriptor "(LTrueFloats;III[J)I").map (fun d => d.parameters.length) = some 5 := by decide +kernel
theorem xds_75 : (parseMethodDescriptor "(LTrueFloats;IIZ[J)I").map (fun d => d.parameters.length) = some 5 := by decide +kernel
theorem xds_76 : (parseMethodDescriptor "(LTrueFloats;II[J)I").map (fun d => d.parameters.length) = some 4 := by decide +kernel
theorem xds_77 : (parseMethodDescriptor "(LTrueFloats;IJII[J)I").map (fun d => d.parameters.length) = some 6 := by decide +kernel
theorem xds_78 : (parseMethodDescriptor "(LTrueFloats;IJI[J)I").map (fun d => d.parameters.length) = some 5 := by decide +kernel
theorem xds_79 : (parseMethodDescriptor "(LTrueFloats;IZ[J)I").map (fun d => d.parameters.length) = some 4 := by decide +kernel
theorem xds_80 : (parseMethodDescriptor "(LTrueFloats;I[J)I").map (fun d => d.parameters.length) = some 3 := by decide +kernel
theorem xds_81 : (parseMethodDescriptor "(LTrueFloatsModel$Nat;)I").map (fun d => d.parameters.length) = some 1 := by decide +kernel
theorem xds_82 : (parseMethodDescriptor "(LTrueFloatsModel$Nat;)V").map (fun d => d.parameters.length) = some 1 := by decide +kernel
theorem xds_83 : (parseMethodDescriptor "(LTrueFloatsModel$Nat;I)V").map (fun d => d.parameters.length) = some 2 := by decide +kernel
theorem xds_84 : (parseMethodDescriptor "(LTrueFloatsModel$Nat;IZ)V").map (fun d => d.parameters.length) = some 3 := by decide +kernel
theorem xds_85 : (parseMethodDescriptor "(LTrueFloatsModel$Nat;IZZIZ)Z").map (fun d => d.parameters.length) = some 6 := by decide +kernel
theorem xds_86 : (parseMethodDescriptor "(LTrueFloatsModel$Nat;LTrueFloatsModel$Nat;)V").map (fun d => d.parameters.length) = some 2 := by decide +kernel
theorem xds_87 : (parseMethodDescriptor "(LTrueFloatsModel$Nat;LTrueFloatsModel$Nat;LTrueFloatsModel$Nat;)V").map (fun d => d.parameters.length) = some 3 := by decide +kernel
theorem xds_88 : (parseMethodDescriptor "(Z)I").map (fun d => d.parameters.length) = some 1 := by decide +kernel
theorem xds_89 : (parseMethodDescriptor "(Z)V").map (fun d => d.parameters.length) = some 1 := by decide +kernel
theorem xds_90 : (parseMethodDescriptor "(ZI)V").map (fun d => d.parameters.length) = some 2 := by decide +kernel
theorem xds_91 : (parseMethodDescriptor "(ZJI)V").map (fun d => d.parameters.length) = some 3 := by decide +kernel
theorem xds_92 : (parseMethodDescriptor "(ZZI)Z").map (fun d => d.parameters.length) = some 3 := by decide +kernel
theorem xds_93 : (parseMethodDescriptor "([BI)C").map (fun d => d.parameters.length) = some 2 := by decide +kernel
theorem xds_94 : (parseMethodDescriptor "([BII)I").map (fun d => d.parameters.length) = some 3 := by decide +kernel
theorem xds_95 : (parseMethodDescriptor "([BII)Z").map (fun d => d.parameters.length) = some 3 := by decide +kernel
theorem xds_96 : (parseMethodDescriptor "([BIILjava/lang/String;)Z").map (fun d => d.parameters.length) = some 4 := by decide +kernel
theorem xds_97 : (parseMethodDescriptor "([II)[I").map (fun d => d.parameters.length) = some 2 := by decide +kernel
theorem xds_98 : (parseMethodDescriptor "([IIII)V").map (fun d => d.parameters.length) = some 4 := by decide +kernel
theorem xmq_0 : xMok xM_0 := ⟨xt_1 37 rfl, xini_0, fun h => absurd h (by decide), fun h => absurd h (by decide), fun _ => ⟨xt_1 36 rfl, rfl, rfl, rfl⟩, xds_3, xmh_0, rfl, plainFor_of_name xpl_0, by decide⟩
theorem xmq_1 : xMok xM_1 := ⟨xt_1 47 rfl, xini_1, fun h => absurd h (by decide), fun h => absurd h (by decide), fun _ => ⟨xt_1 46 rfl, rfl, rfl, rfl⟩, xds_27, xmh_1, rfl, plainFor_of_name xpl_1, by decide⟩
theorem xmq_2 : xMok xM_2 := ⟨xt_1 70 rfl, xini_2, fun h => absurd h (by decide), fun h => absurd h (by decide), fun _ => ⟨xt_1 69 rfl, rfl, rfl, rfl⟩, xds_3, xmh_2, rfl, plainFor_of_name xpl_2, by decide⟩
theorem xmq_3 : xMok xM_3 := ⟨xt_1 76 rfl, xini_3, fun h => absurd h (by decide), fun h => absurd h (by decide), fun _ => ⟨xt_1 75 rfl, rfl, rfl, rfl⟩, xds_3, xmh_3, rfl, plainFor_of_name xpl_3, by decide⟩
theorem xmq_4 : xMok xM_4 := ⟨xt_1 142 rfl, xini_4, fun h => absurd h (by decide), fun h => absurd h (by decide), fun _ => ⟨xt_1 141 rfl, rfl, rfl, rfl⟩, xds_3, xmh_4, rfl, plainFor_of_name xpl_4, by decide⟩
theorem xmq_5 : xMok xM_5 := ⟨xt_1 186 rfl, xini_5, fun h => absurd h (by decide), fun h => absurd h (by decide), fun _ => ⟨xt_1 185 rfl, rfl, rfl, rfl⟩, xds_3, xmh_5, rfl, plainFor_of_name xpl_5, by decide⟩
theorem xmq_6 : xMok xM_6 := ⟨xt_1 233 rfl, xini_6, fun h => absurd h (by decide), fun h => absurd h (by decide), fun _ => ⟨xt_1 232 rfl, rfl, rfl, rfl⟩, xds_3, xmh_6, rfl, plainFor_of_name xpl_6, by decide⟩
theorem xmq_7 : xMok xM_7 := ⟨xt_2 26 rfl, xini_7, fun h => absurd h (by decide), fun h => absurd h (by decide), fun _ => ⟨xt_2 25 rfl, rfl, rfl, rfl⟩, xds_3, xmh_7, rfl, plainFor_of_name xpl_7, by decide⟩
theorem xmq_8 : xMok xM_8 := ⟨xt_2 51 rfl, xini_8, fun h => absurd h (by decide), fun h => absurd h (by decide), fun _ => ⟨xt_2 50 rfl, rfl, rfl, rfl⟩, xds_54, xmh_8, rfl, plainFor_of_name xpl_8, by decide⟩
theorem xmq_9 : xMok xM_9 := ⟨xt_2 61 rfl, xini_9, fun h => absurd h (by decide), fun h => absurd h (by decide), fun _ => ⟨xt_2 60 rfl, rfl, rfl, rfl⟩, xds_53, xmh_9, rfl, plainFor_of_name xpl_9, by decide⟩
theorem xmq_10 : xMok xM_10 := ⟨xt_2 122 rfl, xini_10, fun h => absurd h (by decide), fun h => absurd h (by decide), fun _ => ⟨xt_2 121 rfl, rfl, rfl, rfl⟩, xds_53, xmh_10, rfl, plainFor_of_name xpl_10, by decide⟩
theorem xmq_11 : xMok xM_11 := ⟨xt_2 160 rfl, xini_11, fun h => absurd h (by decide), fun h => absurd h (by decide), fun _ => ⟨xt_2 159 rfl, rfl, rfl, rfl⟩, xds_53, xmh_11, rfl, plainFor_of_name xpl_11, by decide⟩
theorem xmq_12 : xMok xM_12 := ⟨xt_3 8 rfl, xini_0, fun h => absurd h (by decide), fun _ => ⟨xt_3 6 rfl, xt_3 7 rfl, rfl⟩, fun h => absurd h (by decide), xds_88, xmh_0, rfl, plainFor_of_name xpl_0, by decide⟩
theorem xmq_13 : xMok xM_13 := ⟨xt_3 11 rfl, xini_14, fun _ => xt_3 10 rfl, fun h => absurd h (by decide), fun h => absurd h (by decide), xds_76, xmh_14, rfl, plainFor_of_name xpl_14, by decide⟩
theorem xmq_14 : xMok xM_14 := ⟨xt_3 16 rfl, xini_0, fun h => absurd h (by decide), fun _ => ⟨xt_3 14 rfl, xt_3 15 rfl, rfl⟩, fun h => absurd h (by decide), xds_12, xmh_0, rfl, plainFor_of_name xpl_0, by decide⟩
theorem xmq_15 : xMok xM_15 := ⟨xt_3 19 rfl, xini_0, fun _ => xt_3 18 rfl, fun h => absurd h (by decide), fun h => absurd h (by decide), xds_11, xmh_0, rfl, plainFor_of_name xpl_0, by decide⟩
theorem xmq_16 : xMok xM_16 := ⟨xt_3 88 rfl, xini_2, fun h => absurd h (by decide), fun _ => ⟨xt_3 86 rfl, xt_3 87 rfl, rfl⟩, fun h => absurd h (by decide), xds_1, xmh_2, rfl, plainFor_of_name xpl_2, by decide⟩
theorem xmq_17 : xMok xM_17 := ⟨xt_3 92 rfl, xini_2, fun h => absurd h (by decide), fun _ => ⟨xt_3 90 rfl, xt_3 91 rfl, rfl⟩, fun h => absurd h (by decide), xds_36, xmh_2, rfl, plainFor_of_name xpl_2, by decide⟩
theorem xmq_18 : xMok xM_18 := ⟨xt_3 95 rfl, xini_14, fun _ => xt_3 94 rfl, fun h => absurd h (by decide), fun h => absurd h (by decide), xds_75, xmh_14, rfl, plainFor_of_name xpl_14, by decide⟩
theorem xmq_19 : xMok xM_19 := ⟨xt_3 99 rfl, xini_0, fun h => absurd h (by decide), fun _ => ⟨xt_3 97 rfl, xt_3 98 rfl, rfl⟩, fun h => absurd h (by decide), xds_26, xmh_0, rfl, plainFor_of_name xpl_0, by decide⟩
theorem xmq_20 : xMok xM_20 := ⟨xt_3 102 rfl, xini_14, fun _ => xt_3 101 rfl, fun h => absurd h (by decide), fun h => absurd h (by decide), xds_77, xmh_14, rfl, plainFor_of_name xpl_14, by decide⟩
theorem xmq_21 : xMok xM_21 := ⟨xt_3 106 rfl, xini_0, fun h => absurd h (by decide), fun _ => ⟨xt_3 104 rfl, xt_3 105 rfl, rfl⟩, fun h => absurd h (by decide), xds_30, xmh_0, rfl, plainFor_of_name xpl_0, by decide⟩
theorem xmq_22 : xMok xM_22 := ⟨xt_3 111 rfl, xini_0, fun _ => xt_3 110 rfl, fun h => absurd h (by decide), fun h => absurd h (by decide), xds_11, xmh_0, rfl, plainFor_of_name xpl_0, by decide⟩
theorem xmq_23 : xMok xM_23 := ⟨xt_3 115 rfl, xini_2, fun h => absurd h (by decide), fun _ => ⟨xt_3 113 rfl, xt_3 114 rfl, rfl⟩, fun h => absurd h (by decide), xds_88, xmh_2, rfl, plainFor_of_name xpl_2, by decide⟩
theorem xmq_24 : xMok xM_24 := ⟨xt_3 119 rfl, xini_4, fun h => absurd h (by decide), fun _ => ⟨xt_3 117 rfl, xt_3 118 rfl, rfl⟩, fun h => absurd h (by decide), xds_91, xmh_4, rfl, plainFor_of_name xpl_4, by decide⟩
theorem xmq_25 : xMok xM_25 := ⟨xt_3 123 rfl, xini_3, fun h => absurd h (by decide), fun _ => ⟨xt_3 121 rfl, xt_3 122 rfl, rfl⟩, fun h => absurd h (by decide), xds_40, xmh_3, rfl, plainFor_of_name xpl_3, by decide⟩
theorem xmq_26 : xMok xM_26 := ⟨xt_3 127 rfl, xini_3, fun h => absurd h (by decide), fun _ => ⟨xt_3 125 rfl, xt_3 126 rfl, rfl⟩, fun h => absurd h (by decide), xds_3, xmh_3, rfl, plainFor_of_name xpl_3, by decide⟩
theorem xmq_27 : xMok xM_27 := ⟨xt_3 131 rfl, xini_1, fun h => absurd h (by decide), fun _ => ⟨xt_3 129 rfl, xt_3 130 rfl, rfl⟩, fun h => absurd h (by decide), xds_62, xmh_1, rfl, plainFor_of_name xpl_1, by decide⟩
theorem xmq_28 : xMok xM_28 := ⟨xt_3 135 rfl, xini_4, fun h => absurd h (by decide), fun _ => ⟨xt_3 133 rfl, xt_3 134 rfl, rfl⟩, fun h => absurd h (by decide), xds_1, xmh_4, rfl, plainFor_of_name xpl_4, by decide⟩
theorem xmq_29 : xMok xM_29 := ⟨xt_3 139 rfl, xini_3, fun h => absurd h (by decide), fun _ => ⟨xt_3 137 rfl, xt_3 138 rfl, rfl⟩, fun h => absurd h (by decide), xds_1, xmh_3, rfl, plainFor_of_name xpl_3, by decide⟩
theorem xmq_30 : xMok xM_30 := ⟨xt_3 147 rfl, xini_1, fun h => absurd h (by decide), fun _ => ⟨xt_3 146 rfl, xtp_1 1 rfl, rfl⟩, fun h => absurd h (by decide), xds_12, xmh_1, rfl, plainFor_of_name xpl_1, by decide⟩
theorem xmq_31 : xMok xM_31 := ⟨xt_3 151 rfl, xini_4, fun h => absurd h (by decide), fun _ => ⟨xt_3 149 rfl, xt_3 150 rfl, rfl⟩, fun h => absurd h (by decide), xds_15, xmh_4, rfl, plainFor_of_name xpl_4, by decide⟩
theorem xmq_32 : xMok xM_32 := ⟨xt_3 155 rfl, xini_4, fun h => absurd h (by decide), fun _ => ⟨xt_3 153 rfl, xt_3 154 rfl, rfl⟩, fun h => absurd h (by decide), xds_11, xmh_4, rfl, plainFor_of_name xpl_4, by decide⟩
theorem xmq_33 : xMok xM_33 := ⟨xt_3 159 rfl, xini_3, fun h => absurd h (by decide), fun _ => ⟨xt_3 157 rfl, xt_3 158 rfl, rfl⟩, fun h => absurd h (by decide), xds_11, xmh_3, rfl, plainFor_of_name xpl_3, by decide⟩
theorem xmq_34 : xMok xM_34 := ⟨xt_3 166 rfl, xini_3, fun h => absurd h (by decide), fun _ => ⟨xt_3 164 rfl, xt_3 165 rfl, rfl⟩, fun h => absurd h (by decide), xds_11, xmh_3, rfl, plainFor_of_name xpl_3, by decide⟩
theorem xmq_35 : xMok xM_35 := ⟨xt_3 170 rfl, xini_3, fun h => absurd h (by decide), fun _ => ⟨xt_3 168 rfl, xt_3 169 rfl, rfl⟩, fun h => absurd h (by decide), xds_9, xmh_3, rfl, plainFor_of_name xpl_3, by decide⟩
theorem xmq_36 : xMok xM_36 := ⟨xt_3 173 rfl, xini_4, fun _ => xt_3 172 rfl, fun h => absurd h (by decide), fun h => absurd h (by decide), xds_39, xmh_4, rfl, plainFor_of_name xpl_4, by decide⟩
theorem xmq_37 : xMok xM_37 := ⟨xt_3 176 rfl, xini_4, fun _ => xt_3 175 rfl, fun h => absurd h (by decide), fun h => absurd h (by decide), xds_38, xmh_4, rfl, plainFor_of_name xpl_4, by decide⟩
theorem xmq_38 : xMok xM_38 := ⟨xt_3 181 rfl, xini_2, fun h => absurd h (by decide), fun _ => ⟨xt_3 179 rfl, xt_3 180 rfl, rfl⟩, fun h => absurd h (by decide), xds_57, xmh_2, rfl, plainFor_of_name xpl_2, by decide⟩
theorem xmq_39 : xMok xM_39 := ⟨xt_3 187 rfl, xini_2, fun h => absurd h (by decide), fun _ => ⟨xt_3 185 rfl, xt_3 186 rfl, rfl⟩, fun h => absurd h (by decide), xds_90, xmh_2, rfl, plainFor_of_name xpl_2, by decide⟩
theorem xmq_40 : xMok xM_40 := ⟨xt_3 191 rfl, xini_3, fun h => absurd h (by decide), fun _ => ⟨xt_3 189 rfl, xt_3 190 rfl, rfl⟩, fun h => absurd h (by decide), xds_10, xmh_3, rfl, plainFor_of_name xpl_3, by decide⟩
theorem xmq_41 : xMok xM_41 := ⟨xt_3 195 rfl, xini_3, fun h => absurd h (by decide), fun _ => ⟨xt_3 193 rfl, xt_3 194 rfl, rfl⟩, fun h => absurd h (by decide), xds_10, xmh_3, rfl, plainFor_of_name xpl_3, by decide⟩
theorem xmq_42 : xMok xM_42 := ⟨xt_4 226 rfl, xini_3, fun h => absurd h (by decide), fun _ => ⟨xt_4 224 rfl, xt_4 225 rfl, rfl⟩, fun h => absurd h (by decide), xds_47, xmh_3, rfl, plainFor_of_name xpl_3, by decide⟩
theorem xmq_43 : xMok xM_43 := ⟨xt_4 231 rfl, xini_3, fun h => absurd h (by decide), fun _ => ⟨xt_4 229 rfl, xt_4 230 rfl, rfl⟩, fun h => absurd h (by decide), xds_10, xmh_3, rfl, plainFor_of_name xpl_3, by decide⟩
theorem xmq_44 : xMok xM_44 := ⟨xt_4 235 rfl, xini_3, fun h => absurd h (by decide), fun _ => ⟨xt_4 233 rfl, xt_4 234 rfl, rfl⟩, fun h => absurd h (by decide), xds_10, xmh_3, rfl, plainFor_of_name xpl_3, by decide⟩
theorem xmq_45 : xMok xM_45 := ⟨xt_4 239 rfl, xini_3, fun h => absurd h (by decide), fun _ => ⟨xt_4 237 rfl, xt_4 238 rfl, rfl⟩, fun h => absurd h (by decide), xds_10, xmh_3, rfl, plainFor_of_name xpl_3, by decide⟩
theorem xmq_46 : xMok xM_46 := ⟨xt_5 4 rfl, xini_1, fun h => absurd h (by decide), fun _ => ⟨xt_5 3 rfl, xtp_1 2 rfl, rfl⟩, fun h => absurd h (by decide), xds_70, xmh_1, rfl, plainFor_of_name xpl_1, by decide⟩
theorem xmq_47 : xMok xM_47 := ⟨xt_5 9 rfl, xini_2, fun h => absurd h (by decide), fun _ => ⟨xt_5 7 rfl, xt_5 8 rfl, rfl⟩, fun h => absurd h (by decide), xds_88, xmh_2, rfl, plainFor_of_name xpl_2, by decide⟩
theorem xmq_48 : xMok xM_48 := ⟨xt_5 13 rfl, xini_2, fun h => absurd h (by decide), fun _ => ⟨xt_5 11 rfl, xt_5 12 rfl, rfl⟩, fun h => absurd h (by decide), xds_90, xmh_2, rfl, plainFor_of_name xpl_2, by decide⟩
theorem xmq_49 : xMok xM_49 := ⟨xt_5 17 rfl, xini_3, fun h => absurd h (by decide), fun _ => ⟨xt_5 15 rfl, xt_5 16 rfl, rfl⟩, fun h => absurd h (by decide), xds_10, xmh_3, rfl, plainFor_of_name xpl_3, by decide⟩
theorem xmq_50 : xMok xM_50 := ⟨xt_5 21 rfl, xini_1, fun h => absurd h (by decide), fun _ => ⟨xt_5 20 rfl, xtp_1 3 rfl, rfl⟩, fun h => absurd h (by decide), xds_62, xmh_1, rfl, plainFor_of_name xpl_1, by decide⟩
theorem xmq_51 : xMok xM_51 := ⟨xt_5 25 rfl, xini_3, fun h => absurd h (by decide), fun _ => ⟨xt_5 23 rfl, xt_5 24 rfl, rfl⟩, fun h => absurd h (by decide), xds_1, xmh_3, rfl, plainFor_of_name xpl_3, by decide⟩
theorem xmq_52 : xMok xM_52 := ⟨xt_5 34 rfl, xini_14, fun _ => xt_5 33 rfl, fun h => absurd h (by decide), fun h => absurd h (by decide), xds_73, xmh_14, rfl, plainFor_of_name xpl_14, by decide⟩
theorem xmq_53 : xMok xM_53 := ⟨xt_5 38 rfl, xini_0, fun h => absurd h (by decide), fun _ => ⟨xt_5 36 rfl, xt_5 37 rfl, rfl⟩, fun h => absurd h (by decide), xds_20, xmh_0, rfl, plainFor_of_name xpl_0, by decide⟩
theorem xmq_54 : xMok xM_54 := ⟨xt_5 42 rfl, xini_8, fun h => absurd h (by decide), fun _ => ⟨xt_5 40 rfl, xt_5 41 rfl, rfl⟩, fun h => absurd h (by decide), xds_68, xmh_8, rfl, plainFor_of_name xpl_8, by decide⟩
theorem xmq_55 : xMok xM_55 := ⟨xt_5 47 rfl, xini_4, fun h => absurd h (by decide), fun _ => ⟨xt_5 45 rfl, xt_5 46 rfl, rfl⟩, fun h => absurd h (by decide), xds_59, xmh_4, rfl, plainFor_of_name xpl_4, by decide⟩
theorem xmq_56 : xMok xM_56 := ⟨xt_5 51 rfl, xini_3, fun h => absurd h (by decide), fun _ => ⟨xt_5 49 rfl, xt_5 50 rfl, rfl⟩, fun h => absurd h (by decide), xds_45, xmh_3, rfl, plainFor_of_name xpl_3, by decide⟩
theorem xmq_57 : xMok xM_57 := ⟨xt_5 56 rfl, xini_14, fun _ => xt_5 55 rfl, fun h => absurd h (by decide), fun h => absurd h (by decide), xds_72, xmh_14, rfl, plainFor_of_name xpl_14, by decide⟩
theorem xmq_58 : xMok xM_58 := ⟨xt_5 60 rfl, xini_0, fun h => absurd h (by decide), fun _ => ⟨xt_5 58 rfl, xt_5 59 rfl, rfl⟩, fun h => absurd h (by decide), xds_21, xmh_0, rfl, plainFor_of_name xpl_0, by decide⟩
theorem xmq_59 : xMok xM_59 := ⟨xt_5 64 rfl, xini_5, fun h => absurd h (by decide), fun _ => ⟨xt_5 62 rfl, xt_5 63 rfl, rfl⟩, fun h => absurd h (by decide), xds_3, xmh_5, rfl, plainFor_of_name xpl_5, by decide⟩
theorem xmq_60 : xMok xM_60 := ⟨xt_5 68 rfl, xini_5, fun h => absurd h (by decide), fun _ => ⟨xt_5 66 rfl, xt_5 67 rfl, rfl⟩, fun h => absurd h (by decide), xds_69, xmh_5, rfl, plainFor_of_name xpl_5, by decide⟩
theorem xmq_61 : xMok xM_61 := ⟨xt_5 72 rfl, xini_5, fun h => absurd h (by decide), fun _ => ⟨xt_5 71 rfl, xtp_1 4 rfl, rfl⟩, fun h => absurd h (by decide), xds_51, xmh_5, rfl, plainFor_of_name xpl_5, by decide⟩
theorem xmq_62 : xMok xM_62 := ⟨xt_5 77 rfl, xini_3, fun h => absurd h (by decide), fun _ => ⟨xt_5 75 rfl, xt_5 76 rfl, rfl⟩, fun h => absurd h (by decide), xds_47, xmh_3, rfl, plainFor_of_name xpl_3, by decide⟩
theorem xmq_63 : xMok xM_63 := ⟨xt_5 81 rfl, xini_5, fun h => absurd h (by decide), fun _ => ⟨xt_5 80 rfl, xtp_1 5 rfl, rfl⟩, fun h => absurd h (by decide), xds_37, xmh_5, rfl, plainFor_of_name xpl_5, by decide⟩
theorem xmq_64 : xMok xM_64 := ⟨xt_5 85 rfl, xini_5, fun h => absurd h (by decide), fun _ => ⟨xt_5 83 rfl, xt_5 84 rfl, rfl⟩, fun h => absurd h (by decide), xds_55, xmh_5, rfl, plainFor_of_name xpl_5, by decide⟩
theorem xmq_65 : xMok xM_65 := ⟨xt_5 90 rfl, xini_1, fun h => absurd h (by decide), fun _ => ⟨xt_5 88 rfl, xt_5 89 rfl, rfl⟩, fun h => absurd h (by decide), xds_58, xmh_1, rfl, plainFor_of_name xpl_1, by decide⟩
theorem xmq_66 : xMok xM_66 := ⟨xt_5 96 rfl, xini_3, fun h => absurd h (by decide), fun _ => ⟨xt_5 94 rfl, xt_5 95 rfl, rfl⟩, fun h => absurd h (by decide), xds_44, xmh_3, rfl, plainFor_of_name xpl_3, by decide⟩
theorem xmq_67 : xMok xM_67 := ⟨xt_5 102 rfl, xini_3, fun h => absurd h (by decide), fun _ => ⟨xt_5 100 rfl, xt_5 101 rfl, rfl⟩, fun h => absurd h (by decide), xds_45, xmh_3, rfl, plainFor_of_name xpl_3, by decide⟩
theorem xmq_68 : xMok xM_68 := ⟨xt_5 107 rfl, xini_8, fun h => absurd h (by decide), fun _ => ⟨xt_5 105 rfl, xt_5 106 rfl, rfl⟩, fun h => absurd h (by decide), xds_66, xmh_8, rfl, plainFor_of_name xpl_8, by decide⟩
theorem xmq_69 : xMok xM_69 := ⟨xt_5 113 rfl, xini_3, fun h => absurd h (by decide), fun _ => ⟨xt_5 111 rfl, xt_5 112 rfl, rfl⟩, fun h => absurd h (by decide), xds_52, xmh_3, rfl, plainFor_of_name xpl_3, by decide⟩
theorem xmq_70 : xMok xM_70 := ⟨xt_5 117 rfl, xini_3, fun h => absurd h (by decide), fun _ => ⟨xt_5 115 rfl, xt_5 116 rfl, rfl⟩, fun h => absurd h (by decide), xds_31, xmh_3, rfl, plainFor_of_name xpl_3, by decide⟩
theorem xmq_71 : xMok xM_71 := ⟨xt_5 121 rfl, xini_8, fun h => absurd h (by decide), fun _ => ⟨xt_5 119 rfl, xt_5 120 rfl, rfl⟩, fun h => absurd h (by decide), xds_66, xmh_8, rfl, plainFor_of_name xpl_8, by decide⟩
theorem xmq_72 : xMok xM_72 := ⟨xt_5 127 rfl, xini_7, fun h => absurd h (by decide), fun _ => ⟨xt_5 125 rfl, xt_5 126 rfl, rfl⟩, fun h => absurd h (by decide), xds_52, xmh_7, rfl, plainFor_of_name xpl_7, by decide⟩
theorem xmq_73 : xMok xM_73 := ⟨xt_5 135 rfl, xini_7, fun h => absurd h (by decide), fun _ => ⟨xt_5 134 rfl, xtp_1 6 rfl, rfl⟩, fun h => absurd h (by decide), xds_12, xmh_7, rfl, plainFor_of_name xpl_7, by decide⟩
theorem xmq_74 : xMok xM_74 := ⟨xt_5 139 rfl, xini_7, fun _ => xt_5 138 rfl, fun h => absurd h (by decide), fun h => absurd h (by decide), xds_42, xmh_7, rfl, plainFor_of_name xpl_7, by decide⟩
theorem xmq_75 : xMok xM_75 := ⟨xt_5 142 rfl, xini_7, fun _ => xt_5 141 rfl, fun h => absurd h (by decide), fun h => absurd h (by decide), xds_43, xmh_7, rfl, plainFor_of_name xpl_7, by decide⟩
theorem xmq_76 : xMok xM_76 := ⟨xt_5 147 rfl, xini_7, fun h => absurd h (by decide), fun _ => ⟨xt_5 146 rfl, xtp_1 7 rfl, rfl⟩, fun h => absurd h (by decide), xds_24, xmh_7, rfl, plainFor_of_name xpl_7, by decide⟩
theorem xmq_77 : xMok xM_77 := ⟨xt_5 151 rfl, xini_7, fun h => absurd h (by decide), fun _ => ⟨xt_5 150 rfl, xtp_1 8 rfl, rfl⟩, fun h => absurd h (by decide), xds_14, xmh_7, rfl, plainFor_of_name xpl_7, by decide⟩
theorem xmq_78 : xMok xM_78 := ⟨xt_5 157 rfl, xini_8, fun h => absurd h (by decide), fun _ => ⟨xt_5 155 rfl, xt_5 156 rfl, rfl⟩, fun h => absurd h (by decide), xds_67, xmh_8, rfl, plainFor_of_name xpl_8, by decide⟩
theorem xmq_79 : xMok xM_79 := ⟨xt_5 167 rfl, xini_8, fun h => absurd h (by decide), fun _ => ⟨xt_5 165 rfl, xt_5 166 rfl, rfl⟩, fun h => absurd h (by decide), xds_66, xmh_8, rfl, plainFor_of_name xpl_8, by decide⟩
theorem xmq_80 : xMok xM_80 := ⟨xt_5 172 rfl, xini_3, fun h => absurd h (by decide), fun _ => ⟨xt_5 170 rfl, xt_5 171 rfl, rfl⟩, fun h => absurd h (by decide), xds_45, xmh_3, rfl, plainFor_of_name xpl_3, by decide⟩
theorem xmq_81 : xMok xM_81 := ⟨xt_5 177 rfl, xini_9, fun h => absurd h (by decide), fun _ => ⟨xt_5 175 rfl, xt_5 176 rfl, rfl⟩, fun h => absurd h (by decide), xds_50, xmh_9, rfl, plainFor_of_name xpl_9, by decide⟩
theorem xmq_82 : xMok xM_82 := ⟨xt_5 187 rfl, xini_9, fun h => absurd h (by decide), fun _ => ⟨xt_5 186 rfl, xtp_1 9 rfl, rfl⟩, fun h => absurd h (by decide), xds_10, xmh_9, rfl, plainFor_of_name xpl_9, by decide⟩
theorem xmq_83 : xMok xM_83 := ⟨xt_5 191 rfl, xini_6, fun h => absurd h (by decide), fun _ => ⟨xt_5 189 rfl, xt_5 190 rfl, rfl⟩, fun h => absurd h (by decide), xds_49, xmh_6, rfl, plainFor_of_name xpl_6, by decide⟩
theorem xmq_84 : xMok xM_84 := ⟨xt_5 196 rfl, xini_6, fun h => absurd h (by decide), fun _ => ⟨xt_5 195 rfl, xtp_1 10 rfl, rfl⟩, fun h => absurd h (by decide), xds_46, xmh_6, rfl, plainFor_of_name xpl_6, by decide⟩
theorem xmq_85 : xMok xM_85 := ⟨xt_5 201 rfl, xini_3, fun h => absurd h (by decide), fun _ => ⟨xt_5 199 rfl, xt_5 200 rfl, rfl⟩, fun h => absurd h (by decide), xds_10, xmh_3, rfl, plainFor_of_name xpl_3, by decide⟩
theorem xmq_86 : xMok xM_86 := ⟨xt_5 208 rfl, xini_6, fun h => absurd h (by decide), fun _ => ⟨xt_5 207 rfl, xtp_1 11 rfl, rfl⟩, fun h => absurd h (by decide), xds_3, xmh_6, rfl, plainFor_of_name xpl_6, by decide⟩
theorem xmq_87 : xMok xM_87 := ⟨xt_5 215 rfl, xini_3, fun h => absurd h (by decide), fun _ => ⟨xt_5 213 rfl, xt_5 214 rfl, rfl⟩, fun h => absurd h (by decide), xds_14, xmh_3, rfl, plainFor_of_name xpl_3, by decide⟩
theorem xmq_88 : xMok xM_88 := ⟨xt_5 220 rfl, xini_3, fun h => absurd h (by decide), fun _ => ⟨xt_5 218 rfl, xt_5 219 rfl, rfl⟩, fun h => absurd h (by decide), xds_9, xmh_3, rfl, plainFor_of_name xpl_3, by decide⟩
theorem xmq_89 : xMok xM_89 := ⟨xt_5 226 rfl, xini_9, fun h => absurd h (by decide), fun _ => ⟨xt_5 224 rfl, xt_5 225 rfl, rfl⟩, fun h => absurd h (by decide), xds_32, xmh_9, rfl, plainFor_of_name xpl_9, by decide⟩
theorem xmq_90 : xMok xM_90 := ⟨xt_5 232 rfl, xini_9, fun h => absurd h (by decide), fun _ => ⟨xt_5 231 rfl, xtp_1 12 rfl, rfl⟩, fun h => absurd h (by decide), xds_48, xmh_9, rfl, plainFor_of_name xpl_9, by decide⟩
theorem xmq_91 : xMok xM_91 := ⟨xt_5 237 rfl, xini_9, fun h => absurd h (by decide), fun _ => ⟨xt_5 236 rfl, xtp_1 13 rfl, rfl⟩, fun h => absurd h (by decide), xds_9, xmh_9, rfl, plainFor_of_name xpl_9, by decide⟩
theorem xmq_92 : xMok xM_92 := ⟨xt_6 1 rfl, xini_3, fun h => absurd h (by decide), fun _ => ⟨xt_5 239 rfl, xt_6 0 rfl, rfl⟩, fun h => absurd h (by decide), xds_44, xmh_3, rfl, plainFor_of_name xpl_3, by decide⟩
theorem xmq_93 : xMok xM_93 := ⟨xt_6 7 rfl, xini_3, fun h => absurd h (by decide), fun _ => ⟨xt_6 5 rfl, xt_6 6 rfl, rfl⟩, fun h => absurd h (by decide), xds_3, xmh_3, rfl, plainFor_of_name xpl_3, by decide⟩
theorem xmq_94 : xMok xM_94 := ⟨xt_6 10 rfl, xini_14, fun _ => xt_6 9 rfl, fun h => absurd h (by decide), fun h => absurd h (by decide), xds_72, xmh_14, rfl, plainFor_of_name xpl_14, by decide⟩
theorem xmq_95 : xMok xM_95 := ⟨xt_6 14 rfl, xini_0, fun h => absurd h (by decide), fun _ => ⟨xt_6 12 rfl, xt_6 13 rfl, rfl⟩, fun h => absurd h (by decide), xds_21, xmh_0, rfl, plainFor_of_name xpl_0, by decide⟩
theorem xmq_96 : xMok xM_96 := ⟨xt_6 18 rfl, xini_5, fun h => absurd h (by decide), fun _ => ⟨xt_6 16 rfl, xt_6 17 rfl, rfl⟩, fun h => absurd h (by decide), xds_64, xmh_5, rfl, plainFor_of_name xpl_5, by decide⟩
theorem xmq_97 : xMok xM_97 := ⟨xt_6 22 rfl, xini_14, fun _ => xt_6 21 rfl, fun h => absurd h (by decide), fun h => absurd h (by decide), xds_73, xmh_14, rfl, plainFor_of_name xpl_14, by decide⟩
theorem xmq_98 : xMok xM_98 := ⟨xt_6 26 rfl, xini_0, fun h => absurd h (by decide), fun _ => ⟨xt_6 24 rfl, xt_6 25 rfl, rfl⟩, fun h => absurd h (by decide), xds_20, xmh_0, rfl, plainFor_of_name xpl_0, by decide⟩
theorem xmq_99 : xMok xM_99 := ⟨xt_6 30 rfl, xini_8, fun h => absurd h (by decide), fun _ => ⟨xt_6 28 rfl, xt_6 29 rfl, rfl⟩, fun h => absurd h (by decide), xds_65, xmh_8, rfl, plainFor_of_name xpl_8, by decide⟩
theorem xmq_100 : xMok xM_100 := ⟨xt_6 33 rfl, xini_14, fun _ => xt_6 32 rfl, fun h => absurd h (by decide), fun h => absurd h (by decide), xds_73, xmh_14, rfl, plainFor_of_name xpl_14, by decide⟩
theorem xmq_101 : xMok xM_101 := ⟨xt_6 37 rfl, xini_0, fun h => absurd h (by decide), fun _ => ⟨xt_6 35 rfl, xt_6 36 rfl, rfl⟩, fun h => absurd h (by decide), xds_20, xmh_0, rfl, plainFor_of_name xpl_0, by decide⟩
theorem xmq_102 : xMok xM_102 := ⟨xt_6 41 rfl, xini_8, fun h => absurd h (by decide), fun _ => ⟨xt_6 39 rfl, xt_6 40 rfl, rfl⟩, fun h => absurd h (by decide), xds_65, xmh_8, rfl, plainFor_of_name xpl_8, by decide⟩
theorem xmq_103 : xMok xM_103 := ⟨xt_6 47 rfl, xini_8, fun h => absurd h (by decide), fun _ => ⟨xt_6 46 rfl, xtp_1 14 rfl, rfl⟩, fun h => absurd h (by decide), xds_19, xmh_8, rfl, plainFor_of_name xpl_8, by decide⟩
theorem xmq_104 : xMok xM_104 := ⟨xt_6 55 rfl, xini_8, fun h => absurd h (by decide), fun _ => ⟨xt_6 54 rfl, xtp_1 15 rfl, rfl⟩, fun h => absurd h (by decide), xds_10, xmh_8, rfl, plainFor_of_name xpl_8, by decide⟩
theorem xmq_105 : xMok xM_105 := ⟨xt_6 62 rfl, xini_14, fun _ => xt_6 61 rfl, fun h => absurd h (by decide), fun h => absurd h (by decide), xds_73, xmh_14, rfl, plainFor_of_name xpl_14, by decide⟩
theorem xmq_106 : xMok xM_106 := ⟨xt_6 66 rfl, xini_0, fun h => absurd h (by decide), fun _ => ⟨xt_6 64 rfl, xt_6 65 rfl, rfl⟩, fun h => absurd h (by decide), xds_20, xmh_0, rfl, plainFor_of_name xpl_0, by decide⟩
theorem xmq_107 : xMok xM_107 := ⟨xt_6 71 rfl, xini_2, fun h => absurd h (by decide), fun _ => ⟨xt_6 69 rfl, xt_6 70 rfl, rfl⟩, fun h => absurd h (by decide), xds_59, xmh_2, rfl, plainFor_of_name xpl_2, by decide⟩
theorem xmq_108 : xMok xM_108 := ⟨xt_6 77 rfl, xini_4, fun h => absurd h (by decide), fun _ => ⟨xt_6 75 rfl, xt_6 76 rfl, rfl⟩, fun h => absurd h (by decide), xds_10, xmh_4, rfl, plainFor_of_name xpl_4, by decide⟩
theorem xmq_109 : xMok xM_109 := ⟨xt_6 83 rfl, xini_2, fun _ => xt_6 82 rfl, fun h => absurd h (by decide), fun h => absurd h (by decide), xds_63, xmh_2, rfl, plainFor_of_name xpl_2, by decide⟩
theorem xmq_110 : xMok xM_110 := ⟨xt_6 87 rfl, xini_2, fun h => absurd h (by decide), fun _ => ⟨xt_6 85 rfl, xt_6 86 rfl, rfl⟩, fun h => absurd h (by decide), xds_1, xmh_2, rfl, plainFor_of_name xpl_2, by decide⟩
theorem xmq_111 : xMok xM_111 := ⟨xt_6 91 rfl, xini_14, fun _ => xt_6 90 rfl, fun h => absurd h (by decide), fun h => absurd h (by decide), xds_73, xmh_14, rfl, plainFor_of_name xpl_14, by decide⟩
theorem xmq_112 : xMok xM_112 := ⟨xt_6 95 rfl, xini_0, fun h => absurd h (by decide), fun _ => ⟨xt_6 93 rfl, xt_6 94 rfl, rfl⟩, fun h => absurd h (by decide), xds_20, xmh_0, rfl, plainFor_of_name xpl_0, by decide⟩
theorem xmq_113 : xMok xM_113 := ⟨xt_6 98 rfl, xini_0, fun _ => xt_6 97 rfl, fun h => absurd h (by decide), fun h => absurd h (by decide), xds_15, xmh_0, rfl, plainFor_of_name xpl_0, by decide⟩
theorem xmq_114 : xMok xM_114 := ⟨xt_6 101 rfl, xini_14, fun _ => xt_6 100 rfl, fun h => absurd h (by decide), fun h => absurd h (by decide), xds_72, xmh_14, rfl, plainFor_of_name xpl_14, by decide⟩
theorem xmq_115 : xMok xM_115 := ⟨xt_6 105 rfl, xini_0, fun h => absurd h (by decide), fun _ => ⟨xt_6 103 rfl, xt_6 104 rfl, rfl⟩, fun h => absurd h (by decide), xds_21, xmh_0, rfl, plainFor_of_name xpl_0, by decide⟩
theorem xmq_116 : xMok xM_116 := ⟨xt_6 108 rfl, xini_14, fun _ => xt_6 107 rfl, fun h => absurd h (by decide), fun h => absurd h (by decide), xds_79, xmh_14, rfl, plainFor_of_name xpl_14, by decide⟩
theorem xmq_117 : xMok xM_117 := ⟨xt_6 112 rfl, xini_0, fun h => absurd h (by decide), fun _ => ⟨xt_6 110 rfl, xt_6 111 rfl, rfl⟩, fun h => absurd h (by decide), xds_36, xmh_0, rfl, plainFor_of_name xpl_0, by decide⟩
theorem xmq_118 : xMok xM_118 := ⟨xt_6 116 rfl, xini_1, fun h => absurd h (by decide), fun _ => ⟨xt_6 114 rfl, xt_6 115 rfl, rfl⟩, fun h => absurd h (by decide), xds_69, xmh_1, rfl, plainFor_of_name xpl_1, by decide⟩
theorem xmq_119 : xMok xM_119 := ⟨xt_6 121 rfl, xini_1, fun h => absurd h (by decide), fun _ => ⟨xt_6 119 rfl, xt_6 120 rfl, rfl⟩, fun h => absurd h (by decide), xds_61, xmh_1, rfl, plainFor_of_name xpl_1, by decide⟩
theorem xmq_120 : xMok xM_120 := ⟨xt_6 126 rfl, xini_1, fun h => absurd h (by decide), fun _ => ⟨xt_6 124 rfl, xt_6 125 rfl, rfl⟩, fun h => absurd h (by decide), xds_61, xmh_1, rfl, plainFor_of_name xpl_1, by decide⟩
theorem xmq_121 : xMok xM_121 := ⟨xt_6 131 rfl, xini_14, fun _ => xt_6 130 rfl, fun h => absurd h (by decide), fun h => absurd h (by decide), xds_76, xmh_14, rfl, plainFor_of_name xpl_14, by decide⟩
theorem xmq_122 : xMok xM_122 := ⟨xt_6 136 rfl, xini_0, fun h => absurd h (by decide), fun _ => ⟨xt_6 134 rfl, xt_6 135 rfl, rfl⟩, fun h => absurd h (by decide), xds_12, xmh_0, rfl, plainFor_of_name xpl_0, by decide⟩
theorem xmq_123 : xMok xM_123 := ⟨xt_6 154 rfl, xini_14, fun _ => xt_6 153 rfl, fun h => absurd h (by decide), fun h => absurd h (by decide), xds_76, xmh_14, rfl, plainFor_of_name xpl_14, by decide⟩
theorem xmq_124 : xMok xM_124 := ⟨xt_6 159 rfl, xini_0, fun h => absurd h (by decide), fun _ => ⟨xt_6 157 rfl, xt_6 158 rfl, rfl⟩, fun h => absurd h (by decide), xds_12, xmh_0, rfl, plainFor_of_name xpl_0, by decide⟩
theorem xmq_125 : xMok xM_125 := ⟨xt_6 177 rfl, xini_14, fun _ => xt_6 176 rfl, fun h => absurd h (by decide), fun h => absurd h (by decide), xds_76, xmh_14, rfl, plainFor_of_name xpl_14, by decide⟩
theorem xmq_126 : xMok xM_126 := ⟨xt_6 181 rfl, xini_0, fun h => absurd h (by decide), fun _ => ⟨xt_6 179 rfl, xt_6 180 rfl, rfl⟩, fun h => absurd h (by decide), xds_13, xmh_0, rfl, plainFor_of_name xpl_0, by decide⟩
theorem xmq_127 : xMok xM_127 := ⟨xt_6 186 rfl, xini_14, fun _ => xt_6 185 rfl, fun h => absurd h (by decide), fun h => absurd h (by decide), xds_78, xmh_14, rfl, plainFor_of_name xpl_14, by decide⟩
theorem xmq_128 : xMok xM_128 := ⟨xt_6 190 rfl, xini_0, fun h => absurd h (by decide), fun _ => ⟨xt_6 188 rfl, xt_6 189 rfl, rfl⟩, fun h => absurd h (by decide), xds_29, xmh_0, rfl, plainFor_of_name xpl_0, by decide⟩
theorem xmq_129 : xMok xM_129 := ⟨xt_6 195 rfl, xini_14, fun _ => xt_6 194 rfl, fun h => absurd h (by decide), fun h => absurd h (by decide), xds_76, xmh_14, rfl, plainFor_of_name xpl_14, by decide⟩
theorem xmq_130 : xMok xM_130 := ⟨xt_6 199 rfl, xini_0, fun h => absurd h (by decide), fun _ => ⟨xt_6 197 rfl, xt_6 198 rfl, rfl⟩, fun h => absurd h (by decide), xds_13, xmh_0, rfl, plainFor_of_name xpl_0, by decide⟩
theorem xmq_131 : xMok xM_131 := ⟨xt_6 203 rfl, xini_2, fun h => absurd h (by decide), fun _ => ⟨xt_6 201 rfl, xt_6 202 rfl, rfl⟩, fun h => absurd h (by decide), xds_2, xmh_2, rfl, plainFor_of_name xpl_2, by decide⟩
theorem xmq_132 : xMok xM_132 := ⟨xt_6 212 rfl, xini_14, fun _ => xt_6 211 rfl, fun h => absurd h (by decide), fun h => absurd h (by decide), xds_76, xmh_14, rfl, plainFor_of_name xpl_14, by decide⟩
theorem xmq_133 : xMok xM_133 := ⟨xt_6 216 rfl, xini_0, fun h => absurd h (by decide), fun _ => ⟨xt_6 214 rfl, xt_6 215 rfl, rfl⟩, fun h => absurd h (by decide), xds_13, xmh_0, rfl, plainFor_of_name xpl_0, by decide⟩
theorem xmq_134 : xMok xM_134 := ⟨xt_6 220 rfl, xini_4, fun h => absurd h (by decide), fun _ => ⟨xt_6 218 rfl, xt_6 219 rfl, rfl⟩, fun h => absurd h (by decide), xds_4, xmh_4, rfl, plainFor_of_name xpl_4, by decide⟩
theorem xmq_135 : xMok xM_135 := ⟨xt_6 226 rfl, xini_4, fun h => absurd h (by decide), fun _ => ⟨xt_6 224 rfl, xt_6 225 rfl, rfl⟩, fun h => absurd h (by decide), xds_2, xmh_4, rfl, plainFor_of_name xpl_4, by decide⟩
theorem xmq_136 : xMok xM_136 := ⟨xt_6 231 rfl, xini_14, fun _ => xt_6 230 rfl, fun h => absurd h (by decide), fun h => absurd h (by decide), xds_71, xmh_14, rfl, plainFor_of_name xpl_14, by decide⟩
theorem xmq_137 : xMok xM_137 := ⟨xt_6 236 rfl, xini_0, fun h => absurd h (by decide), fun _ => ⟨xt_6 234 rfl, xt_6 235 rfl, rfl⟩, fun h => absurd h (by decide), xds_22, xmh_0, rfl, plainFor_of_name xpl_0, by decide⟩
theorem xmq_138 : xMok xM_138 := ⟨xt_7 15 rfl, xini_0, fun h => absurd h (by decide), fun _ => ⟨xt_7 14 rfl, xtp_2 0 rfl, rfl⟩, fun h => absurd h (by decide), xds_10, xmh_0, rfl, plainFor_of_name xpl_0, by decide⟩
theorem xmq_139 : xMok xM_139 := ⟨xt_7 18 rfl, xini_14, fun _ => xt_7 17 rfl, fun h => absurd h (by decide), fun h => absurd h (by decide), xds_80, xmh_14, rfl, plainFor_of_name xpl_14, by decide⟩
theorem xmq_140 : xMok xM_140 := ⟨xt_7 22 rfl, xini_0, fun h => absurd h (by decide), fun _ => ⟨xt_7 20 rfl, xt_7 21 rfl, rfl⟩, fun h => absurd h (by decide), xds_9, xmh_0, rfl, plainFor_of_name xpl_0, by decide⟩
theorem xmq_141 : xMok xM_141 := ⟨xt_7 25 rfl, xini_14, fun _ => xt_7 24 rfl, fun h => absurd h (by decide), fun h => absurd h (by decide), xds_74, xmh_14, rfl, plainFor_of_name xpl_14, by decide⟩
theorem xmq_142 : xMok xM_142 := ⟨xt_7 29 rfl, xini_0, fun h => absurd h (by decide), fun _ => ⟨xt_7 27 rfl, xt_7 28 rfl, rfl⟩, fun h => absurd h (by decide), xds_17, xmh_0, rfl, plainFor_of_name xpl_0, by decide⟩
theorem xmq_143 : xMok xM_143 := ⟨xt_7 33 rfl, xini_10, fun h => absurd h (by decide), fun _ => ⟨xt_7 31 rfl, xt_7 32 rfl, rfl⟩, fun h => absurd h (by decide), xds_95, xmh_10, rfl, plainFor_of_name xpl_10, by decide⟩
theorem xmq_144 : xMok xM_144 := ⟨xt_7 37 rfl, xini_10, fun _ => xt_7 36 rfl, fun h => absurd h (by decide), fun h => absurd h (by decide), xds_96, xmh_10, rfl, plainFor_of_name xpl_10, by decide⟩
theorem xmq_145 : xMok xM_145 := ⟨xt_7 65 rfl, xini_10, fun _ => xt_7 64 rfl, fun h => absurd h (by decide), fun h => absurd h (by decide), xds_6, xmh_10, rfl, plainFor_of_name xpl_10, by decide⟩
theorem xmq_146 : xMok xM_146 := ⟨xt_7 70 rfl, xini_10, fun h => absurd h (by decide), fun _ => ⟨xt_7 69 rfl, xtp_2 1 rfl, rfl⟩, fun h => absurd h (by decide), xds_94, xmh_10, rfl, plainFor_of_name xpl_10, by decide⟩
theorem xmq_147 : xMok xM_147 := ⟨xt_7 73 rfl, xini_10, fun _ => xt_7 72 rfl, fun h => absurd h (by decide), fun h => absurd h (by decide), xds_5, xmh_10, rfl, plainFor_of_name xpl_10, by decide⟩
theorem xmq_148 : xMok xM_148 := ⟨xt_7 79 rfl, xini_10, fun h => absurd h (by decide), fun _ => ⟨xt_7 78 rfl, xtp_2 2 rfl, rfl⟩, fun h => absurd h (by decide), xds_95, xmh_10, rfl, plainFor_of_name xpl_10, by decide⟩
theorem xmq_149 : xMok xM_149 := ⟨xt_7 85 rfl, xini_10, fun h => absurd h (by decide), fun _ => ⟨xt_7 83 rfl, xt_7 84 rfl, rfl⟩, fun h => absurd h (by decide), xds_56, xmh_10, rfl, plainFor_of_name xpl_10, by decide⟩
theorem xmq_150 : xMok xM_150 := ⟨xt_7 105 rfl, xini_14, fun _ => xt_7 104 rfl, fun h => absurd h (by decide), fun h => absurd h (by decide), xds_73, xmh_14, rfl, plainFor_of_name xpl_14, by decide⟩
theorem xmq_151 : xMok xM_151 := ⟨xt_7 109 rfl, xini_0, fun h => absurd h (by decide), fun _ => ⟨xt_7 107 rfl, xt_7 108 rfl, rfl⟩, fun h => absurd h (by decide), xds_20, xmh_0, rfl, plainFor_of_name xpl_0, by decide⟩
theorem xmq_152 : xMok xM_152 := ⟨xt_7 113 rfl, xini_11, fun h => absurd h (by decide), fun _ => ⟨xt_7 111 rfl, xt_7 112 rfl, rfl⟩, fun h => absurd h (by decide), xds_60, xmh_11, rfl, plainFor_of_name xpl_11, by decide⟩
theorem xmq_153 : xMok xM_153 := ⟨xt_7 121 rfl, xini_11, fun h => absurd h (by decide), fun _ => ⟨xt_7 120 rfl, xtp_2 3 rfl, rfl⟩, fun h => absurd h (by decide), xds_11, xmh_11, rfl, plainFor_of_name xpl_11, by decide⟩
theorem xmq_154 : xMok xM_154 := ⟨xt_7 131 rfl, xini_11, fun h => absurd h (by decide), fun _ => ⟨xt_7 129 rfl, xt_7 130 rfl, rfl⟩, fun h => absurd h (by decide), xds_1, xmh_11, rfl, plainFor_of_name xpl_11, by decide⟩
theorem xmq_155 : xMok xM_155 := ⟨xt_7 136 rfl, xini_11, fun h => absurd h (by decide), fun _ => ⟨xt_7 135 rfl, xtp_2 4 rfl, rfl⟩, fun h => absurd h (by decide), xds_38, xmh_11, rfl, plainFor_of_name xpl_11, by decide⟩
theorem xmq_156 : xMok xM_156 := ⟨xt_7 140 rfl, xini_11, fun h => absurd h (by decide), fun _ => ⟨xt_7 139 rfl, xtp_2 5 rfl, rfl⟩, fun h => absurd h (by decide), xds_10, xmh_11, rfl, plainFor_of_name xpl_11, by decide⟩
theorem xmq_157 : xMok xM_157 := ⟨xt_7 147 rfl, xini_11, fun h => absurd h (by decide), fun _ => ⟨xt_7 146 rfl, xtp_2 6 rfl, rfl⟩, fun h => absurd h (by decide), xds_11, xmh_11, rfl, plainFor_of_name xpl_11, by decide⟩
theorem xmq_158 : xMok xM_158 := ⟨xt_7 155 rfl, xini_2, fun h => absurd h (by decide), fun _ => ⟨xt_7 153 rfl, xt_7 154 rfl, rfl⟩, fun h => absurd h (by decide), xds_4, xmh_2, rfl, plainFor_of_name xpl_2, by decide⟩
theorem xmq_159 : xMok xM_159 := ⟨xt_7 160 rfl, xini_11, fun h => absurd h (by decide), fun _ => ⟨xt_7 158 rfl, xt_7 159 rfl, rfl⟩, fun h => absurd h (by decide), xds_12, xmh_11, rfl, plainFor_of_name xpl_11, by decide⟩
theorem xmq_160 : xMok xM_160 := ⟨xt_7 167 rfl, xini_11, fun _ => xt_7 166 rfl, fun h => absurd h (by decide), fun h => absurd h (by decide), xds_7, xmh_11, rfl, plainFor_of_name xpl_11, by decide⟩
theorem xmq_161 : xMok xM_161 := ⟨xt_7 170 rfl, xini_14, fun _ => xt_7 169 rfl, fun h => absurd h (by decide), fun h => absurd h (by decide), xds_80, xmh_14, rfl, plainFor_of_name xpl_14, by decide⟩
theorem xmq_162 : xMok xM_162 := ⟨xt_7 174 rfl, xini_0, fun h => absurd h (by decide), fun _ => ⟨xt_7 172 rfl, xt_7 173 rfl, rfl⟩, fun h => absurd h (by decide), xds_9, xmh_0, rfl, plainFor_of_name xpl_0, by decide⟩
theorem xmq_163 : xMok xM_163 := ⟨xt_7 179 rfl, xini_12, fun h => absurd h (by decide), fun h => absurd h (by decide), fun _ => ⟨xt_7 178 rfl, rfl, rfl, rfl⟩, xds_3, xmh_12, rfl, plainFor_of_name xpl_12, by decide⟩
theorem xmq_164 : xMok xM_164 := ⟨xt_7 185 rfl, xini_13, fun h => absurd h (by decide), fun h => absurd h (by decide), fun _ => ⟨xt_7 184 rfl, rfl, rfl, rfl⟩, xds_10, xmh_13, rfl, plainFor_of_name xpl_13, by decide⟩
theorem xmq_165 : xMok xM_165 := ⟨xt_8 58 rfl, xini_12, fun h => absurd h (by decide), fun _ => ⟨xt_8 56 rfl, xt_8 57 rfl, rfl⟩, fun h => absurd h (by decide), xds_1, xmh_12, rfl, plainFor_of_name xpl_12, by decide⟩
theorem xmq_166 : xMok xM_166 := ⟨xt_8 62 rfl, xini_12, fun h => absurd h (by decide), fun _ => ⟨xt_8 60 rfl, xt_8 61 rfl, rfl⟩, fun h => absurd h (by decide), xds_12, xmh_12, rfl, plainFor_of_name xpl_12, by decide⟩
theorem xmq_167 : xMok xM_167 := ⟨xt_8 67 rfl, xini_12, fun h => absurd h (by decide), fun _ => ⟨xt_8 66 rfl, xtp_2 7 rfl, rfl⟩, fun h => absurd h (by decide), xds_12, xmh_12, rfl, plainFor_of_name xpl_12, by decide⟩
theorem xmq_168 : xMok xM_168 := ⟨xt_8 70 rfl, xini_12, fun _ => xt_8 69 rfl, fun h => absurd h (by decide), fun h => absurd h (by decide), xds_10, xmh_12, rfl, plainFor_of_name xpl_12, by decide⟩
theorem xmq_169 : xMok xM_169 := ⟨xt_8 73 rfl, xini_12, fun _ => xt_8 72 rfl, fun h => absurd h (by decide), fun h => absurd h (by decide), xds_19, xmh_12, rfl, plainFor_of_name xpl_12, by decide⟩
theorem xmq_170 : xMok xM_170 := ⟨xt_8 76 rfl, xini_12, fun _ => xt_8 75 rfl, fun h => absurd h (by decide), fun h => absurd h (by decide), xds_89, xmh_12, rfl, plainFor_of_name xpl_12, by decide⟩
theorem xmq_171 : xMok xM_171 := ⟨xt_8 81 rfl, xini_12, fun h => absurd h (by decide), fun _ => ⟨xt_8 80 rfl, xtp_2 8 rfl, rfl⟩, fun h => absurd h (by decide), xds_26, xmh_12, rfl, plainFor_of_name xpl_12, by decide⟩
theorem xmq_172 : xMok xM_172 := ⟨xt_8 85 rfl, xini_12, fun h => absurd h (by decide), fun _ => ⟨xt_8 83 rfl, xt_8 84 rfl, rfl⟩, fun h => absurd h (by decide), xds_26, xmh_12, rfl, plainFor_of_name xpl_12, by decide⟩
theorem xmq_173 : xMok xM_173 := ⟨xt_8 89 rfl, xini_12, fun h => absurd h (by decide), fun _ => ⟨xt_8 88 rfl, xtp_2 9 rfl, rfl⟩, fun h => absurd h (by decide), xds_26, xmh_12, rfl, plainFor_of_name xpl_12, by decide⟩
theorem xmq_174 : xMok xM_174 := ⟨xt_8 93 rfl, xini_12, fun h => absurd h (by decide), fun _ => ⟨xt_8 91 rfl, xt_8 92 rfl, rfl⟩, fun h => absurd h (by decide), xds_88, xmh_12, rfl, plainFor_of_name xpl_12, by decide⟩
theorem xmq_175 : xMok xM_175 := ⟨xt_8 97 rfl, xini_12, fun h => absurd h (by decide), fun _ => ⟨xt_8 96 rfl, xtp_2 10 rfl, rfl⟩, fun h => absurd h (by decide), xds_88, xmh_12, rfl, plainFor_of_name xpl_12, by decide⟩
theorem xmq_176 : xMok xM_176 := ⟨xt_8 101 rfl, xini_12, fun h => absurd h (by decide), fun _ => ⟨xt_8 99 rfl, xt_8 100 rfl, rfl⟩, fun h => absurd h (by decide), xds_30, xmh_12, rfl, plainFor_of_name xpl_12, by decide⟩
theorem xmq_177 : xMok xM_177 := ⟨xt_8 105 rfl, xini_12, fun h => absurd h (by decide), fun _ => ⟨xt_8 104 rfl, xtp_2 11 rfl, rfl⟩, fun h => absurd h (by decide), xds_30, xmh_12, rfl, plainFor_of_name xpl_12, by decide⟩
theorem xmq_178 : xMok xM_178 := ⟨xt_8 110 rfl, xini_12, fun _ => xt_8 109 rfl, fun h => absurd h (by decide), fun h => absurd h (by decide), xds_10, xmh_12, rfl, plainFor_of_name xpl_12, by decide⟩
theorem xmq_179 : xMok xM_179 := ⟨xt_8 114 rfl, xini_13, fun h => absurd h (by decide), fun _ => ⟨xt_8 112 rfl, xt_8 113 rfl, rfl⟩, fun h => absurd h (by decide), xds_40, xmh_13, rfl, plainFor_of_name xpl_13, by decide⟩
theorem xmq_180 : xMok xM_180 := ⟨xt_8 119 rfl, xini_12, fun h => absurd h (by decide), fun _ => ⟨xt_8 118 rfl, xtp_2 12 rfl, rfl⟩, fun h => absurd h (by decide), xds_35, xmh_12, rfl, plainFor_of_name xpl_12, by decide⟩
theorem xmq_181 : xMok xM_181 := ⟨xt_8 123 rfl, xini_13, fun h => absurd h (by decide), fun _ => ⟨xt_8 121 rfl, xt_8 122 rfl, rfl⟩, fun h => absurd h (by decide), xds_1, xmh_13, rfl, plainFor_of_name xpl_13, by decide⟩
theorem xmq_182 : xMok xM_182 := ⟨xt_8 127 rfl, xini_13, fun h => absurd h (by decide), fun _ => ⟨xt_8 125 rfl, xt_8 126 rfl, rfl⟩, fun h => absurd h (by decide), xds_82, xmh_13, rfl, plainFor_of_name xpl_13, by decide⟩
theorem xmq_183 : xMok xM_183 := ⟨xt_8 132 rfl, xini_13, fun h => absurd h (by decide), fun _ => ⟨xt_8 130 rfl, xt_8 131 rfl, rfl⟩, fun h => absurd h (by decide), xds_11, xmh_13, rfl, plainFor_of_name xpl_13, by decide⟩
theorem xmq_184 : xMok xM_184 := ⟨xt_8 136 rfl, xini_13, fun h => absurd h (by decide), fun _ => ⟨xt_8 134 rfl, xt_8 135 rfl, rfl⟩, fun h => absurd h (by decide), xds_11, xmh_13, rfl, plainFor_of_name xpl_13, by decide⟩
theorem xmq_185 : xMok xM_185 := ⟨xt_8 139 rfl, xini_12, fun _ => xt_8 138 rfl, fun h => absurd h (by decide), fun h => absurd h (by decide), xds_85, xmh_12, rfl, plainFor_of_name xpl_12, by decide⟩
theorem xmq_186 : xMok xM_186 := ⟨xt_8 143 rfl, xini_13, fun h => absurd h (by decide), fun _ => ⟨xt_8 141 rfl, xt_8 142 rfl, rfl⟩, fun h => absurd h (by decide), xds_10, xmh_13, rfl, plainFor_of_name xpl_13, by decide⟩
theorem xmq_187 : xMok xM_187 := ⟨xt_8 147 rfl, xini_13, fun h => absurd h (by decide), fun _ => ⟨xt_8 146 rfl, xtp_2 13 rfl, rfl⟩, fun h => absurd h (by decide), xds_10, xmh_13, rfl, plainFor_of_name xpl_13, by decide⟩
theorem xmq_188 : xMok xM_188 := ⟨xt_8 151 rfl, xini_13, fun h => absurd h (by decide), fun _ => ⟨xt_8 149 rfl, xt_8 150 rfl, rfl⟩, fun h => absurd h (by decide), xds_10, xmh_13, rfl, plainFor_of_name xpl_13, by decide⟩
theorem xmq_189 : xMok xM_189 := ⟨xt_8 155 rfl, xini_13, fun h => absurd h (by decide), fun _ => ⟨xt_8 153 rfl, xt_8 154 rfl, rfl⟩, fun h => absurd h (by decide), xds_10, xmh_13, rfl, plainFor_of_name xpl_13, by decide⟩
theorem xmq_190 : xMok xM_190 := ⟨xt_8 159 rfl, xini_13, fun h => absurd h (by decide), fun _ => ⟨xt_8 157 rfl, xt_8 158 rfl, rfl⟩, fun h => absurd h (by decide), xds_10, xmh_13, rfl, plainFor_of_name xpl_13, by decide⟩
theorem xmq_191 : xMok xM_191 := ⟨xt_8 164 rfl, xini_13, fun h => absurd h (by decide), fun _ => ⟨xt_8 162 rfl, xt_8 163 rfl, rfl⟩, fun h => absurd h (by decide), xds_82, xmh_13, rfl, plainFor_of_name xpl_13, by decide⟩
theorem xmq_192 : xMok xM_192 := ⟨xt_8 168 rfl, xini_12, fun h => absurd h (by decide), fun _ => ⟨xt_8 167 rfl, xtp_2 14 rfl, rfl⟩, fun h => absurd h (by decide), xds_33, xmh_12, rfl, plainFor_of_name xpl_12, by decide⟩
theorem xmq_193 : xMok xM_193 := ⟨xt_8 172 rfl, xini_12, fun h => absurd h (by decide), fun _ => ⟨xt_8 170 rfl, xt_8 171 rfl, rfl⟩, fun h => absurd h (by decide), xds_20, xmh_12, rfl, plainFor_of_name xpl_12, by decide⟩
theorem xmq_194 : xMok xM_194 := ⟨xt_8 176 rfl, xini_12, fun h => absurd h (by decide), fun _ => ⟨xt_8 175 rfl, xtp_2 15 rfl, rfl⟩, fun h => absurd h (by decide), xds_20, xmh_12, rfl, plainFor_of_name xpl_12, by decide⟩
theorem xmq_195 : xMok xM_195 := ⟨xt_8 180 rfl, xini_12, fun h => absurd h (by decide), fun _ => ⟨xt_8 179 rfl, xtp_3 0 rfl, rfl⟩, fun h => absurd h (by decide), xds_28, xmh_12, rfl, plainFor_of_name xpl_12, by decide⟩
theorem xmq_196 : xMok xM_196 := ⟨xt_8 184 rfl, xini_12, fun h => absurd h (by decide), fun _ => ⟨xt_8 183 rfl, xtp_3 1 rfl, rfl⟩, fun h => absurd h (by decide), xds_9, xmh_12, rfl, plainFor_of_name xpl_12, by decide⟩
theorem xmq_197 : xMok xM_197 := ⟨xt_8 188 rfl, xini_12, fun h => absurd h (by decide), fun _ => ⟨xt_8 186 rfl, xt_8 187 rfl, rfl⟩, fun h => absurd h (by decide), xds_21, xmh_12, rfl, plainFor_of_name xpl_12, by decide⟩
theorem xmq_198 : xMok xM_198 := ⟨xt_8 192 rfl, xini_12, fun h => absurd h (by decide), fun _ => ⟨xt_8 191 rfl, xtp_3 2 rfl, rfl⟩, fun h => absurd h (by decide), xds_21, xmh_12, rfl, plainFor_of_name xpl_12, by decide⟩
theorem xmq_199 : xMok xM_199 := ⟨xt_8 196 rfl, xini_12, fun h => absurd h (by decide), fun _ => ⟨xt_8 195 rfl, xtp_3 3 rfl, rfl⟩, fun h => absurd h (by decide), xds_20, xmh_12, rfl, plainFor_of_name xpl_12, by decide⟩
theorem xmq_200 : xMok xM_200 := ⟨xt_8 201 rfl, xini_12, fun h => absurd h (by decide), fun _ => ⟨xt_8 200 rfl, xtp_3 4 rfl, rfl⟩, fun h => absurd h (by decide), xds_10, xmh_12, rfl, plainFor_of_name xpl_12, by decide⟩
theorem xmq_201 : xMok xM_201 := ⟨xt_8 205 rfl, xini_13, fun h => absurd h (by decide), fun _ => ⟨xt_8 203 rfl, xt_8 204 rfl, rfl⟩, fun h => absurd h (by decide), xds_86, xmh_13, rfl, plainFor_of_name xpl_13, by decide⟩
theorem xmq_202 : xMok xM_202 := ⟨xt_8 209 rfl, xini_12, fun h => absurd h (by decide), fun _ => ⟨xt_8 208 rfl, xtp_3 5 rfl, rfl⟩, fun h => absurd h (by decide), xds_84, xmh_12, rfl, plainFor_of_name xpl_12, by decide⟩
theorem xmq_203 : xMok xM_203 := ⟨xt_8 213 rfl, xini_13, fun h => absurd h (by decide), fun _ => ⟨xt_8 211 rfl, xt_8 212 rfl, rfl⟩, fun h => absurd h (by decide), xds_82, xmh_13, rfl, plainFor_of_name xpl_13, by decide⟩
theorem xmq_204 : xMok xM_204 := ⟨xt_8 218 rfl, xini_12, fun h => absurd h (by decide), fun _ => ⟨xt_8 217 rfl, xtp_3 6 rfl, rfl⟩, fun h => absurd h (by decide), xds_23, xmh_12, rfl, plainFor_of_name xpl_12, by decide⟩
theorem xmq_205 : xMok xM_205 := ⟨xt_8 226 rfl, xini_12, fun h => absurd h (by decide), fun _ => ⟨xt_8 225 rfl, xtp_3 7 rfl, rfl⟩, fun h => absurd h (by decide), xds_11, xmh_12, rfl, plainFor_of_name xpl_12, by decide⟩
theorem xmq_206 : xMok xM_206 := ⟨xt_8 230 rfl, xini_12, fun h => absurd h (by decide), fun _ => ⟨xt_8 229 rfl, xtp_3 8 rfl, rfl⟩, fun h => absurd h (by decide), xds_83, xmh_12, rfl, plainFor_of_name xpl_12, by decide⟩
theorem xmq_207 : xMok xM_207 := ⟨xt_8 235 rfl, xini_12, fun h => absurd h (by decide), fun _ => ⟨xt_8 234 rfl, xtp_3 9 rfl, rfl⟩, fun h => absurd h (by decide), xds_87, xmh_12, rfl, plainFor_of_name xpl_12, by decide⟩
theorem xmq_208 : xMok xM_208 := ⟨xt_9 1 rfl, xini_12, fun h => absurd h (by decide), fun _ => ⟨xt_9 0 rfl, xtp_3 10 rfl, rfl⟩, fun h => absurd h (by decide), xds_41, xmh_12, rfl, plainFor_of_name xpl_12, by decide⟩
theorem xmq_209 : xMok xM_209 := ⟨xt_9 7 rfl, xini_13, fun h => absurd h (by decide), fun _ => ⟨xt_9 5 rfl, xt_9 6 rfl, rfl⟩, fun h => absurd h (by decide), xds_10, xmh_13, rfl, plainFor_of_name xpl_13, by decide⟩
theorem xmq_210 : xMok xM_210 := ⟨xt_9 11 rfl, xini_13, fun h => absurd h (by decide), fun _ => ⟨xt_9 9 rfl, xt_9 10 rfl, rfl⟩, fun h => absurd h (by decide), xds_9, xmh_13, rfl, plainFor_of_name xpl_13, by decide⟩
theorem xmq_211 : xMok xM_211 := ⟨xt_9 15 rfl, xini_13, fun h => absurd h (by decide), fun _ => ⟨xt_9 13 rfl, xt_9 14 rfl, rfl⟩, fun h => absurd h (by decide), xds_81, xmh_13, rfl, plainFor_of_name xpl_13, by decide⟩
theorem xmq_212 : xMok xM_212 := ⟨xt_9 19 rfl, xini_12, fun h => absurd h (by decide), fun _ => ⟨xt_9 18 rfl, xtp_3 11 rfl, rfl⟩, fun h => absurd h (by decide), xds_23, xmh_12, rfl, plainFor_of_name xpl_12, by decide⟩
theorem xmq_213 : xMok xM_213 := ⟨xt_9 23 rfl, xini_12, fun h => absurd h (by decide), fun _ => ⟨xt_9 22 rfl, xtp_3 12 rfl, rfl⟩, fun h => absurd h (by decide), xds_9, xmh_12, rfl, plainFor_of_name xpl_12, by decide⟩
theorem xmq_214 : xMok xM_214 := ⟨xt_9 27 rfl, xini_12, fun h => absurd h (by decide), fun _ => ⟨xt_9 26 rfl, xtp_3 13 rfl, rfl⟩, fun h => absurd h (by decide), xds_89, xmh_12, rfl, plainFor_of_name xpl_12, by decide⟩
theorem xmq_215 : xMok xM_215 := ⟨xt_9 31 rfl, xini_12, fun h => absurd h (by decide), fun _ => ⟨xt_9 30 rfl, xtp_3 14 rfl, rfl⟩, fun h => absurd h (by decide), xds_12, xmh_12, rfl, plainFor_of_name xpl_12, by decide⟩
theorem xmq_216 : xMok xM_216 := ⟨xt_9 35 rfl, xini_12, fun h => absurd h (by decide), fun _ => ⟨xt_9 34 rfl, xtp_3 15 rfl, rfl⟩, fun h => absurd h (by decide), xds_20, xmh_12, rfl, plainFor_of_name xpl_12, by decide⟩
theorem xmq_217 : xMok xM_217 := ⟨xt_9 39 rfl, xini_12, fun h => absurd h (by decide), fun _ => ⟨xt_9 38 rfl, xtp_4 0 rfl, rfl⟩, fun h => absurd h (by decide), xds_20, xmh_12, rfl, plainFor_of_name xpl_12, by decide⟩
theorem xmq_218 : xMok xM_218 := ⟨xt_9 43 rfl, xini_12, fun h => absurd h (by decide), fun _ => ⟨xt_9 42 rfl, xtp_4 1 rfl, rfl⟩, fun h => absurd h (by decide), xds_34, xmh_12, rfl, plainFor_of_name xpl_12, by decide⟩
theorem xmq_219 : xMok xM_219 := ⟨xt_9 47 rfl, xini_12, fun h => absurd h (by decide), fun _ => ⟨xt_9 46 rfl, xtp_4 2 rfl, rfl⟩, fun h => absurd h (by decide), xds_23, xmh_12, rfl, plainFor_of_name xpl_12, by decide⟩
theorem xmq_220 : xMok xM_220 := ⟨xt_9 51 rfl, xini_12, fun h => absurd h (by decide), fun _ => ⟨xt_9 49 rfl, xt_9 50 rfl, rfl⟩, fun h => absurd h (by decide), xds_21, xmh_12, rfl, plainFor_of_name xpl_12, by decide⟩
theorem xmq_221 : xMok xM_221 := ⟨xt_9 55 rfl, xini_12, fun h => absurd h (by decide), fun _ => ⟨xt_9 54 rfl, xtp_4 3 rfl, rfl⟩, fun h => absurd h (by decide), xds_21, xmh_12, rfl, plainFor_of_name xpl_12, by decide⟩
theorem xmq_222 : xMok xM_222 := ⟨xt_9 59 rfl, xini_12, fun h => absurd h (by decide), fun _ => ⟨xt_9 57 rfl, xt_9 58 rfl, rfl⟩, fun h => absurd h (by decide), xds_20, xmh_12, rfl, plainFor_of_name xpl_12, by decide⟩
theorem xmq_223 : xMok xM_223 := ⟨xt_9 63 rfl, xini_12, fun h => absurd h (by decide), fun _ => ⟨xt_9 62 rfl, xtp_4 4 rfl, rfl⟩, fun h => absurd h (by decide), xds_20, xmh_12, rfl, plainFor_of_name xpl_12, by decide⟩
theorem xmq_224 : xMok xM_224 := ⟨xt_9 67 rfl, xini_12, fun h => absurd h (by decide), fun _ => ⟨xt_9 65 rfl, xt_9 66 rfl, rfl⟩, fun h => absurd h (by decide), xds_20, xmh_12, rfl, plainFor_of_name xpl_12, by decide⟩
theorem xmq_225 : xMok xM_225 := ⟨xt_9 71 rfl, xini_12, fun h => absurd h (by decide), fun _ => ⟨xt_9 70 rfl, xtp_4 5 rfl, rfl⟩, fun h => absurd h (by decide), xds_20, xmh_12, rfl, plainFor_of_name xpl_12, by decide⟩
theorem xmq_226 : xMok xM_226 := ⟨xt_9 76 rfl, xini_12, fun h => absurd h (by decide), fun _ => ⟨xt_9 74 rfl, xt_9 75 rfl, rfl⟩, fun h => absurd h (by decide), xds_20, xmh_12, rfl, plainFor_of_name xpl_12, by decide⟩
theorem xmq_227 : xMok xM_227 := ⟨xt_9 80 rfl, xini_12, fun h => absurd h (by decide), fun _ => ⟨xt_9 79 rfl, xtp_4 6 rfl, rfl⟩, fun h => absurd h (by decide), xds_20, xmh_12, rfl, plainFor_of_name xpl_12, by decide⟩
theorem xmq_228 : xMok xM_228 := ⟨xt_9 84 rfl, xini_12, fun h => absurd h (by decide), fun _ => ⟨xt_9 82 rfl, xt_9 83 rfl, rfl⟩, fun h => absurd h (by decide), xds_20, xmh_12, rfl, plainFor_of_name xpl_12, by decide⟩
theorem xmq_229 : xMok xM_229 := ⟨xt_9 88 rfl, xini_12, fun h => absurd h (by decide), fun _ => ⟨xt_9 87 rfl, xtp_4 7 rfl, rfl⟩, fun h => absurd h (by decide), xds_20, xmh_12, rfl, plainFor_of_name xpl_12, by decide⟩
theorem xmq_230 : xMok xM_230 := ⟨xt_9 93 rfl, xini_12, fun h => absurd h (by decide), fun _ => ⟨xt_9 91 rfl, xt_9 92 rfl, rfl⟩, fun h => absurd h (by decide), xds_21, xmh_12, rfl, plainFor_of_name xpl_12, by decide⟩
theorem xmq_231 : xMok xM_231 := ⟨xt_9 97 rfl, xini_12, fun h => absurd h (by decide), fun _ => ⟨xt_9 96 rfl, xtp_4 8 rfl, rfl⟩, fun h => absurd h (by decide), xds_21, xmh_12, rfl, plainFor_of_name xpl_12, by decide⟩
theorem xmq_232 : xMok xM_232 := ⟨xt_9 101 rfl, xini_12, fun h => absurd h (by decide), fun _ => ⟨xt_9 99 rfl, xt_9 100 rfl, rfl⟩, fun h => absurd h (by decide), xds_36, xmh_12, rfl, plainFor_of_name xpl_12, by decide⟩
theorem xmq_233 : xMok xM_233 := ⟨xt_9 105 rfl, xini_12, fun h => absurd h (by decide), fun _ => ⟨xt_9 104 rfl, xtp_4 9 rfl, rfl⟩, fun h => absurd h (by decide), xds_36, xmh_12, rfl, plainFor_of_name xpl_12, by decide⟩
theorem xmq_234 : xMok xM_234 := ⟨xt_9 109 rfl, xini_12, fun h => absurd h (by decide), fun _ => ⟨xt_9 108 rfl, xtp_4 10 rfl, rfl⟩, fun h => absurd h (by decide), xds_10, xmh_12, rfl, plainFor_of_name xpl_12, by decide⟩
theorem xmq_235 : xMok xM_235 := ⟨xt_9 113 rfl, xini_12, fun h => absurd h (by decide), fun _ => ⟨xt_9 112 rfl, xtp_4 11 rfl, rfl⟩, fun h => absurd h (by decide), xds_10, xmh_12, rfl, plainFor_of_name xpl_12, by decide⟩
theorem xmq_236 : xMok xM_236 := ⟨xt_9 117 rfl, xini_12, fun h => absurd h (by decide), fun _ => ⟨xt_9 116 rfl, xtp_4 12 rfl, rfl⟩, fun h => absurd h (by decide), xds_10, xmh_12, rfl, plainFor_of_name xpl_12, by decide⟩
theorem xmq_237 : xMok xM_237 := ⟨xt_9 121 rfl, xini_12, fun h => absurd h (by decide), fun _ => ⟨xt_9 119 rfl, xt_9 120 rfl, rfl⟩, fun h => absurd h (by decide), xds_12, xmh_12, rfl, plainFor_of_name xpl_12, by decide⟩
theorem xmq_238 : xMok xM_238 := ⟨xt_9 126 rfl, xini_12, fun h => absurd h (by decide), fun _ => ⟨xt_9 125 rfl, xtp_4 13 rfl, rfl⟩, fun h => absurd h (by decide), xds_12, xmh_12, rfl, plainFor_of_name xpl_12, by decide⟩
theorem xmq_239 : xMok xM_239 := ⟨xt_9 130 rfl, xini_12, fun h => absurd h (by decide), fun _ => ⟨xt_9 129 rfl, xtp_4 14 rfl, rfl⟩, fun h => absurd h (by decide), xds_89, xmh_12, rfl, plainFor_of_name xpl_12, by decide⟩
theorem xmq_240 : xMok xM_240 := ⟨xt_9 135 rfl, xini_12, fun h => absurd h (by decide), fun _ => ⟨xt_9 134 rfl, xtp_4 15 rfl, rfl⟩, fun h => absurd h (by decide), xds_9, xmh_12, rfl, plainFor_of_name xpl_12, by decide⟩
theorem xmq_241 : xMok xM_241 := ⟨xt_9 139 rfl, xini_12, fun h => absurd h (by decide), fun _ => ⟨xt_9 138 rfl, xtp_5 0 rfl, rfl⟩, fun h => absurd h (by decide), xds_12, xmh_12, rfl, plainFor_of_name xpl_12, by decide⟩
theorem xmq_242 : xMok xM_242 := ⟨xt_9 143 rfl, xini_12, fun h => absurd h (by decide), fun _ => ⟨xt_9 141 rfl, xt_9 142 rfl, rfl⟩, fun h => absurd h (by decide), xds_12, xmh_12, rfl, plainFor_of_name xpl_12, by decide⟩
theorem xmq_243 : xMok xM_243 := ⟨xt_9 148 rfl, xini_12, fun h => absurd h (by decide), fun _ => ⟨xt_9 147 rfl, xtp_5 1 rfl, rfl⟩, fun h => absurd h (by decide), xds_12, xmh_12, rfl, plainFor_of_name xpl_12, by decide⟩
theorem xmq_244 : xMok xM_244 := ⟨xt_9 151 rfl, xini_12, fun _ => xt_9 150 rfl, fun h => absurd h (by decide), fun h => absurd h (by decide), xds_89, xmh_12, rfl, plainFor_of_name xpl_12, by decide⟩
theorem xmq_245 : xMok xM_245 := ⟨xt_9 156 rfl, xini_12, fun h => absurd h (by decide), fun _ => ⟨xt_9 154 rfl, xt_9 155 rfl, rfl⟩, fun h => absurd h (by decide), xds_13, xmh_12, rfl, plainFor_of_name xpl_12, by decide⟩
theorem xmq_246 : xMok xM_246 := ⟨xt_9 160 rfl, xini_12, fun h => absurd h (by decide), fun _ => ⟨xt_9 159 rfl, xtp_5 2 rfl, rfl⟩, fun h => absurd h (by decide), xds_13, xmh_12, rfl, plainFor_of_name xpl_12, by decide⟩
theorem xmq_247 : xMok xM_247 := ⟨xt_9 165 rfl, xini_12, fun h => absurd h (by decide), fun _ => ⟨xt_9 163 rfl, xt_9 164 rfl, rfl⟩, fun h => absurd h (by decide), xds_29, xmh_12, rfl, plainFor_of_name xpl_12, by decide⟩
theorem xmq_248 : xMok xM_248 := ⟨xt_9 169 rfl, xini_12, fun h => absurd h (by decide), fun _ => ⟨xt_9 168 rfl, xtp_5 3 rfl, rfl⟩, fun h => absurd h (by decide), xds_29, xmh_12, rfl, plainFor_of_name xpl_12, by decide⟩
theorem xmq_249 : xMok xM_249 := ⟨xt_9 175 rfl, xini_12, fun h => absurd h (by decide), fun _ => ⟨xt_9 173 rfl, xt_9 174 rfl, rfl⟩, fun h => absurd h (by decide), xds_13, xmh_12, rfl, plainFor_of_name xpl_12, by decide⟩
theorem xmq_250 : xMok xM_250 := ⟨xt_9 179 rfl, xini_12, fun h => absurd h (by decide), fun _ => ⟨xt_9 178 rfl, xtp_5 4 rfl, rfl⟩, fun h => absurd h (by decide), xds_13, xmh_12, rfl, plainFor_of_name xpl_12, by decide⟩
theorem xmq_251 : xMok xM_251 := ⟨xt_9 186 rfl, xini_12, fun h => absurd h (by decide), fun _ => ⟨xt_9 184 rfl, xt_9 185 rfl, rfl⟩, fun h => absurd h (by decide), xds_13, xmh_12, rfl, plainFor_of_name xpl_12, by decide⟩
theorem xmq_252 : xMok xM_252 := ⟨xt_9 190 rfl, xini_12, fun h => absurd h (by decide), fun _ => ⟨xt_9 189 rfl, xtp_5 5 rfl, rfl⟩, fun h => absurd h (by decide), xds_13, xmh_12, rfl, plainFor_of_name xpl_12, by decide⟩
theorem xmq_253 : xMok xM_253 := ⟨xt_9 194 rfl, xini_12, fun h => absurd h (by decide), fun _ => ⟨xt_9 192 rfl, xt_9 193 rfl, rfl⟩, fun h => absurd h (by decide), xds_22, xmh_12, rfl, plainFor_of_name xpl_12, by decide⟩
theorem xmq_254 : xMok xM_254 := ⟨xt_9 199 rfl, xini_12, fun h => absurd h (by decide), fun _ => ⟨xt_9 198 rfl, xtp_5 6 rfl, rfl⟩, fun h => absurd h (by decide), xds_22, xmh_12, rfl, plainFor_of_name xpl_12, by decide⟩
theorem xmq_255 : xMok xM_255 := ⟨xt_9 204 rfl, xini_12, fun h => absurd h (by decide), fun _ => ⟨xt_9 202 rfl, xt_9 203 rfl, rfl⟩, fun h => absurd h (by decide), xds_9, xmh_12, rfl, plainFor_of_name xpl_12, by decide⟩
theorem xmq_256 : xMok xM_256 := ⟨xt_9 208 rfl, xini_12, fun h => absurd h (by decide), fun _ => ⟨xt_9 207 rfl, xtp_5 7 rfl, rfl⟩, fun h => absurd h (by decide), xds_9, xmh_12, rfl, plainFor_of_name xpl_12, by decide⟩
theorem xmq_257 : xMok xM_257 := ⟨xt_9 212 rfl, xini_12, fun h => absurd h (by decide), fun _ => ⟨xt_9 210 rfl, xt_9 211 rfl, rfl⟩, fun h => absurd h (by decide), xds_17, xmh_12, rfl, plainFor_of_name xpl_12, by decide⟩
theorem xmq_258 : xMok xM_258 := ⟨xt_9 216 rfl, xini_12, fun h => absurd h (by decide), fun _ => ⟨xt_9 215 rfl, xtp_5 8 rfl, rfl⟩, fun h => absurd h (by decide), xds_17, xmh_12, rfl, plainFor_of_name xpl_12, by decide⟩
theorem xmq_259 : xMok xM_259 := ⟨xt_9 220 rfl, xini_12, fun h => absurd h (by decide), fun _ => ⟨xt_9 219 rfl, xtp_5 9 rfl, rfl⟩, fun h => absurd h (by decide), xds_16, xmh_12, rfl, plainFor_of_name xpl_12, by decide⟩
theorem xmq_260 : xMok xM_260 := ⟨xt_9 223 rfl, xini_12, fun _ => xt_9 222 rfl, fun h => absurd h (by decide), fun h => absurd h (by decide), xds_12, xmh_12, rfl, plainFor_of_name xpl_12, by decide⟩
theorem xmq_261 : xMok xM_261 := ⟨xt_9 226 rfl, xini_12, fun _ => xt_9 225 rfl, fun h => absurd h (by decide), fun h => absurd h (by decide), xds_89, xmh_12, rfl, plainFor_of_name xpl_12, by decide⟩
theorem xmq_262 : xMok xM_262 := ⟨xt_9 231 rfl, xini_12, fun h => absurd h (by decide), fun _ => ⟨xt_9 230 rfl, xtp_5 10 rfl, rfl⟩, fun h => absurd h (by decide), xds_23, xmh_12, rfl, plainFor_of_name xpl_12, by decide⟩
theorem xmq_263 : xMok xM_263 := ⟨xt_9 236 rfl, xini_12, fun h => absurd h (by decide), fun _ => ⟨xt_9 234 rfl, xt_9 235 rfl, rfl⟩, fun h => absurd h (by decide), xds_20, xmh_12, rfl, plainFor_of_name xpl_12, by decide⟩
theorem xmq_264 : xMok xM_264 := ⟨xt_10 0 rfl, xini_12, fun h => absurd h (by decide), fun _ => ⟨xt_9 239 rfl, xtp_5 11 rfl, rfl⟩, fun h => absurd h (by decide), xds_20, xmh_12, rfl, plainFor_of_name xpl_12, by decide⟩
theorem xmq_265 : xMok xM_265 := ⟨xt_10 4 rfl, xini_12, fun h => absurd h (by decide), fun _ => ⟨xt_10 3 rfl, xtp_5 12 rfl, rfl⟩, fun h => absurd h (by decide), xds_19, xmh_12, rfl, plainFor_of_name xpl_12, by decide⟩
theorem xmq_266 : xMok xM_266 := ⟨xt_10 8 rfl, xini_12, fun h => absurd h (by decide), fun _ => ⟨xt_10 7 rfl, xtp_5 13 rfl, rfl⟩, fun h => absurd h (by decide), xds_20, xmh_12, rfl, plainFor_of_name xpl_12, by decide⟩
theorem xmq_267 : xMok xM_267 := ⟨xt_10 14 rfl, xini_12, fun h => absurd h (by decide), fun _ => ⟨xt_10 13 rfl, xtp_5 14 rfl, rfl⟩, fun h => absurd h (by decide), xds_19, xmh_12, rfl, plainFor_of_name xpl_12, by decide⟩
theorem xmq_268 : xMok xM_268 := ⟨xt_10 18 rfl, xini_12, fun h => absurd h (by decide), fun _ => ⟨xt_10 17 rfl, xtp_5 15 rfl, rfl⟩, fun h => absurd h (by decide), xds_92, xmh_12, rfl, plainFor_of_name xpl_12, by decide⟩
theorem xmq_269 : xMok xM_269 := ⟨xt_10 22 rfl, xini_12, fun h => absurd h (by decide), fun _ => ⟨xt_10 21 rfl, xtp_6 0 rfl, rfl⟩, fun h => absurd h (by decide), xds_27, xmh_12, rfl, plainFor_of_name xpl_12, by decide⟩
theorem xmq_270 : xMok xM_270 := ⟨xt_10 26 rfl, xini_12, fun h => absurd h (by decide), fun _ => ⟨xt_10 24 rfl, xt_10 25 rfl, rfl⟩, fun h => absurd h (by decide), xds_9, xmh_12, rfl, plainFor_of_name xpl_12, by decide⟩
theorem xmq_271 : xMok xM_271 := ⟨xt_10 30 rfl, xini_12, fun h => absurd h (by decide), fun _ => ⟨xt_10 29 rfl, xtp_6 1 rfl, rfl⟩, fun h => absurd h (by decide), xds_9, xmh_12, rfl, plainFor_of_name xpl_12, by decide⟩
theorem xmq_272 : xMok xM_272 := ⟨xt_3 162 rfl, xini_15, fun _ => xt_3 161 rfl, fun h => absurd h (by decide), fun h => absurd h (by decide), xds_12, xmh_15, rfl, by decide +kernel, by decide⟩
theorem xmq_273 : xMok xM_273 := ⟨xt_3 198 rfl, xini_15, fun _ => xt_3 197 rfl, fun h => absurd h (by decide), fun h => absurd h (by decide), xds_12, xmh_15, rfl, by decide +kernel, by decide⟩
theorem xmq_274 : xMok xM_274 := ⟨xt_6 50 rfl, xini_15, fun _ => xt_6 49 rfl, fun h => absurd h (by decide), fun h => absurd h (by decide), xds_9, xmh_15, rfl, by decide +kernel, by decide⟩
theorem xmq_275 : xMok xM_275 := ⟨xt_5 181 rfl, xini_15, fun _ => xt_5 180 rfl, fun h => absurd h (by decide), fun h => absurd h (by decide), xds_12, xmh_15, rfl, by decide +kernel, by decide⟩
theorem xmq_276 : xMok xM_276 := ⟨xt_8 222 rfl, xini_15, fun _ => xt_8 221 rfl, fun h => absurd h (by decide), fun h => absurd h (by decide), xds_12, xmh_15, rfl, by decide +kernel, by decide⟩
theorem xmq_277 : xMok xM_277 := ⟨xt_3 142 rfl, xini_16, fun _ => xt_3 141 rfl, fun h => absurd h (by decide), fun h => absurd h (by decide), xds_9, xmh_16, rfl, by decide +kernel, by decide⟩
theorem xmq_278 : xMok xM_278 := ⟨xt_5 28 rfl, xini_16, fun _ => xt_5 27 rfl, fun h => absurd h (by decide), fun h => absurd h (by decide), xds_9, xmh_16, rfl, by decide +kernel, by decide⟩
theorem xmq_279 : xMok xM_279 := ⟨xt_3 215 rfl, xini_17, fun _ => xt_3 214 rfl, fun h => absurd h (by decide), fun h => absurd h (by decide), xds_98, xmh_17, rfl, by decide +kernel, by decide⟩
theorem xmq_280 : xMok xM_280 := ⟨xt_3 218 rfl, xini_17, fun _ => xt_3 217 rfl, fun h => absurd h (by decide), fun h => absurd h (by decide), xds_18, xmh_17, rfl, by decide +kernel, by decide⟩
theorem xmq_281 : xMok xM_281 := ⟨xt_3 201 rfl, xini_17, fun _ => xt_3 200 rfl, fun h => absurd h (by decide), fun h => absurd h (by decide), xds_97, xmh_17, rfl, by decide +kernel, by decide⟩
theorem xmq_282 : xMok xM_282 := ⟨xt_4 82 rfl, xini_18, fun h => absurd h (by decide), fun _ => ⟨xt_4 80 rfl, xt_4 81 rfl, rfl⟩, fun h => absurd h (by decide), xds_1, xmh_18, rfl, by decide +kernel, by decide⟩
theorem xmq_283 : xMok xM_283 := ⟨xt_4 86 rfl, xini_18, fun h => absurd h (by decide), fun _ => ⟨xt_4 84 rfl, xt_4 85 rfl, rfl⟩, fun h => absurd h (by decide), xds_0, xmh_18, rfl, by decide +kernel, by decide⟩
theorem xmq_284 : xMok xM_284 := ⟨xt_7 42 rfl, xini_18, fun h => absurd h (by decide), fun _ => ⟨xt_7 40 rfl, xt_7 41 rfl, rfl⟩, fun h => absurd h (by decide), xds_8, xmh_18, rfl, by decide +kernel, by decide⟩
theorem xmq_285 : xMok xM_285 := ⟨xt_7 46 rfl, xini_18, fun h => absurd h (by decide), fun _ => ⟨xt_7 44 rfl, xt_7 45 rfl, rfl⟩, fun h => absurd h (by decide), xds_4, xmh_18, rfl, by decide +kernel, by decide⟩
theorem xmq_286 : xMok xM_286 := ⟨xt_7 49 rfl, xini_19, fun _ => xt_7 48 rfl, fun h => absurd h (by decide), fun h => absurd h (by decide), xds_93, xmh_19, rfl, by decide +kernel, by decide⟩
theorem xmq_288 : xMok xM_288 := ⟨xt_7 52 rfl, xini_18, fun _ => xt_7 51 rfl, fun h => absurd h (by decide), fun h => absurd h (by decide), xds_14, xmh_18, rfl, by decide +kernel, by decide⟩
theorem xmq_289 : xMok xM_289 := ⟨xt_7 55 rfl, xini_20, fun _ => xt_7 54 rfl, fun h => absurd h (by decide), fun h => absurd h (by decide), xds_25, xmh_20, rfl, by decide +kernel, by decide⟩
theorem xmsk_0 : ∀ M ∈ xms_0, xMok M := List.forall_mem_cons.mpr ⟨xmq_0, List.forall_mem_cons.mpr ⟨xmq_1, List.forall_mem_cons.mpr ⟨xmq_2, List.forall_mem_cons.mpr ⟨xmq_3, List.forall_mem_cons.mpr ⟨xmq_4, List.forall_mem_cons.mpr ⟨xmq_5, List.forall_mem_cons.mpr ⟨xmq_6, List.forall_mem_cons.mpr ⟨xmq_7, List.forall_mem_cons.mpr ⟨xmq_8, List.forall_mem_cons.mpr ⟨xmq_9, List.forall_mem_cons.mpr ⟨xmq_10, List.forall_mem_cons.mpr ⟨xmq_11, List.forall_mem_cons.mpr ⟨xmq_12, List.forall_mem_cons.mpr ⟨xmq_13, List.forall_mem_cons.mpr ⟨xmq_14, List.forall_mem_cons.mpr ⟨xmq_15, List.forall_mem_cons.mpr ⟨xmq_16, List.forall_mem_cons.mpr ⟨xmq_17, List.forall_mem_cons.mpr ⟨xmq_18, List.forall_mem_cons.mpr ⟨xmq_19, List.forall_mem_cons.mpr ⟨xmq_20, List.forall_mem_cons.mpr ⟨xmq_21, List.forall_mem_cons.mpr ⟨xmq_22, List.forall_mem_cons.mpr ⟨xmq_23, List.forall_mem_cons.mpr ⟨xmq_24, List.forall_mem_cons.mpr ⟨xmq_25, List.forall_mem_cons.mpr ⟨xmq_26, List.forall_mem_cons.mpr ⟨xmq_27, List.forall_mem_cons.mpr ⟨xmq_28, List.forall_mem_cons.mpr ⟨xmq_29, List.forall_mem_cons.mpr ⟨xmq_30, List.forall_mem_cons.mpr ⟨xmq_31, List.forall_mem_cons.mpr ⟨xmq_32, List.forall_mem_cons.mpr ⟨xmq_33, List.forall_mem_cons.mpr ⟨xmq_34, List.forall_mem_cons.mpr ⟨xmq_35, List.forall_mem_cons.mpr ⟨xmq_36, List.forall_mem_cons.mpr ⟨xmq_37, List.forall_mem_cons.mpr ⟨xmq_38, List.forall_mem_cons.mpr ⟨xmq_39, (fun _ h => absurd h List.not_mem_nil)⟩⟩⟩⟩⟩⟩⟩⟩⟩⟩⟩⟩⟩⟩⟩⟩⟩⟩⟩⟩⟩⟩⟩⟩⟩⟩⟩⟩⟩⟩⟩⟩⟩⟩⟩⟩⟩⟩⟩⟩
theorem xmsk_1 : ∀ M ∈ xms_1, xMok M := List.forall_mem_cons.mpr ⟨xmq_40, List.forall_mem_cons.mpr ⟨xmq_41, List.forall_mem_cons.mpr ⟨xmq_42, List.forall_mem_cons.mpr ⟨xmq_43, List.forall_mem_cons.mpr ⟨xmq_44, List.forall_mem_cons.mpr ⟨xmq_45, List.forall_mem_cons.mpr ⟨xmq_46, List.forall_mem_cons.mpr ⟨xmq_47, List.forall_mem_cons.mpr ⟨xmq_48, List.forall_mem_cons.mpr ⟨xmq_49, List.forall_mem_cons.mpr ⟨xmq_50, List.forall_mem_cons.mpr ⟨xmq_51, List.forall_mem_cons.mpr ⟨xmq_52, List.forall_mem_cons.mpr ⟨xmq_53, List.forall_mem_cons.mpr ⟨xmq_54, List.forall_mem_cons.mpr ⟨xmq_55, List.forall_mem_cons.mpr ⟨xmq_56, List.forall_mem_cons.mpr ⟨xmq_57, List.forall_mem_cons.mpr ⟨xmq_58, List.forall_mem_cons.mpr ⟨xmq_59, List.forall_mem_cons.mpr ⟨xmq_60, List.forall_mem_cons.mpr ⟨xmq_61, List.forall_mem_cons.mpr ⟨xmq_62, List.forall_mem_cons.mpr ⟨xmq_63, List.forall_mem_cons.mpr ⟨xmq_64, List.forall_mem_cons.mpr ⟨xmq_65, List.forall_mem_cons.mpr ⟨xmq_66, List.forall_mem_cons.mpr ⟨xmq_67, List.forall_mem_cons.mpr ⟨xmq_68, List.forall_mem_cons.mpr ⟨xmq_69, List.forall_mem_cons.mpr ⟨xmq_70, List.forall_mem_cons.mpr ⟨xmq_71, List.forall_mem_cons.mpr ⟨xmq_72, List.forall_mem_cons.mpr ⟨xmq_73, List.forall_mem_cons.mpr ⟨xmq_74, List.forall_mem_cons.mpr ⟨xmq_75, List.forall_mem_cons.mpr ⟨xmq_76, List.forall_mem_cons.mpr ⟨xmq_77, List.forall_mem_cons.mpr ⟨xmq_78, List.forall_mem_cons.mpr ⟨xmq_79, (fun _ h => absurd h List.not_mem_nil)⟩⟩⟩⟩⟩⟩⟩⟩⟩⟩⟩⟩⟩⟩⟩⟩⟩⟩⟩⟩⟩⟩⟩⟩⟩⟩⟩⟩⟩⟩⟩⟩⟩⟩⟩⟩⟩⟩⟩⟩
theorem xmsk_2 : ∀ M ∈ xms_2, xMok M := List.forall_mem_cons.mpr ⟨xmq_80, List.forall_mem_cons.mpr ⟨xmq_81, List.forall_mem_cons.mpr ⟨xmq_82, List.forall_mem_cons.mpr ⟨xmq_83, List.forall_mem_cons.mpr ⟨xmq_84, List.forall_mem_cons.mpr ⟨xmq_85, List.forall_mem_cons.mpr ⟨xmq_86, List.forall_mem_cons.mpr ⟨xmq_87, List.forall_mem_cons.mpr ⟨xmq_88, List.forall_mem_cons.mpr ⟨xmq_89, List.forall_mem_cons.mpr ⟨xmq_90, List.forall_mem_cons.mpr ⟨xmq_91, List.forall_mem_cons.mpr ⟨xmq_92, List.forall_mem_cons.mpr ⟨xmq_93, List.forall_mem_cons.mpr ⟨xmq_94, List.forall_mem_cons.mpr ⟨xmq_95, List.forall_mem_cons.mpr ⟨xmq_96, List.forall_mem_cons.mpr ⟨xmq_97, List.forall_mem_cons.mpr ⟨xmq_98, List.forall_mem_cons.mpr ⟨xmq_99, List.forall_mem_cons.mpr ⟨xmq_100, List.forall_mem_cons.mpr ⟨xmq_101, List.forall_mem_cons.mpr ⟨xmq_102, List.forall_mem_cons.mpr ⟨xmq_103, List.forall_mem_cons.mpr ⟨xmq_104, List.forall_mem_cons.mpr ⟨xmq_105, List.forall_mem_cons.mpr ⟨xmq_106, List.forall_mem_cons.mpr ⟨xmq_107, List.forall_mem_cons.mpr ⟨xmq_108, List.forall_mem_cons.mpr ⟨xmq_109, List.forall_mem_cons.mpr ⟨xmq_110, List.forall_mem_cons.mpr ⟨xmq_111, List.forall_mem_cons.mpr ⟨xmq_112, List.forall_mem_cons.mpr ⟨xmq_113, List.forall_mem_cons.mpr ⟨xmq_114, List.forall_mem_cons.mpr ⟨xmq_115, List.forall_mem_cons.mpr ⟨xmq_116, List.forall_mem_cons.mpr ⟨xmq_117, List.forall_mem_cons.mpr ⟨xmq_118, List.forall_mem_cons.mpr ⟨xmq_119, (fun _ h => absurd h List.not_mem_nil)⟩⟩⟩⟩⟩⟩⟩⟩⟩⟩⟩⟩⟩⟩⟩⟩⟩⟩⟩⟩⟩⟩⟩⟩⟩⟩⟩⟩⟩⟩⟩⟩⟩⟩⟩⟩⟩⟩⟩⟩
theorem xmsk_3 : ∀ M ∈ xms_3, xMok M := List.forall_mem_cons.mpr ⟨xmq_120, List.forall_mem_cons.mpr ⟨xmq_121, List.forall_mem_cons.mpr ⟨xmq_122, List.forall_mem_cons.mpr ⟨xmq_123, List.forall_mem_cons.mpr ⟨xmq_124, List.forall_mem_cons.mpr ⟨xmq_125, List.forall_mem_cons.mpr ⟨xmq_126, List.forall_mem_cons.mpr ⟨xmq_127, List.forall_mem_cons.mpr ⟨xmq_128, List.forall_mem_cons.mpr ⟨xmq_129, List.forall_mem_cons.mpr ⟨xmq_130, List.forall_mem_cons.mpr ⟨xmq_131, List.forall_mem_cons.mpr ⟨xmq_132, List.forall_mem_cons.mpr ⟨xmq_133, List.forall_mem_cons.mpr ⟨xmq_134, List.forall_mem_cons.mpr ⟨xmq_135, List.forall_mem_cons.mpr ⟨xmq_136, List.forall_mem_cons.mpr ⟨xmq_137, List.forall_mem_cons.mpr ⟨xmq_138, List.forall_mem_cons.mpr ⟨xmq_139, List.forall_mem_cons.mpr ⟨xmq_140, List.forall_mem_cons.mpr ⟨xmq_141, List.forall_mem_cons.mpr ⟨xmq_142, List.forall_mem_cons.mpr ⟨xmq_143, List.forall_mem_cons.mpr ⟨xmq_144, List.forall_mem_cons.mpr ⟨xmq_145, List.forall_mem_cons.mpr ⟨xmq_146, List.forall_mem_cons.mpr ⟨xmq_147, List.forall_mem_cons.mpr ⟨xmq_148, List.forall_mem_cons.mpr ⟨xmq_149, List.forall_mem_cons.mpr ⟨xmq_150, List.forall_mem_cons.mpr ⟨xmq_151, List.forall_mem_cons.mpr ⟨xmq_152, List.forall_mem_cons.mpr ⟨xmq_153, List.forall_mem_cons.mpr ⟨xmq_154, List.forall_mem_cons.mpr ⟨xmq_155, List.forall_mem_cons.mpr ⟨xmq_156, List.forall_mem_cons.mpr ⟨xmq_157, List.forall_mem_cons.mpr ⟨xmq_158, List.forall_mem_cons.mpr ⟨xmq_159, (fun _ h => absurd h List.not_mem_nil)⟩⟩⟩⟩⟩⟩⟩⟩⟩⟩⟩⟩⟩⟩⟩⟩⟩⟩⟩⟩⟩⟩⟩⟩⟩⟩⟩⟩⟩⟩⟩⟩⟩⟩⟩⟩⟩⟩⟩⟩
theorem xmsk_4 : ∀ M ∈ xms_4, xMok M := List.forall_mem_cons.mpr ⟨xmq_160, List.forall_mem_cons.mpr ⟨xmq_161, List.forall_mem_cons.mpr ⟨xmq_162, List.forall_mem_cons.mpr ⟨xmq_163, List.forall_mem_cons.mpr ⟨xmq_164, List.forall_mem_cons.mpr ⟨xmq_165, List.forall_mem_cons.mpr ⟨xmq_166, List.forall_mem_cons.mpr ⟨xmq_167, List.forall_mem_cons.mpr ⟨xmq_168, List.forall_mem_cons.mpr ⟨xmq_169, List.forall_mem_cons.mpr ⟨xmq_170, List.forall_mem_cons.mpr ⟨xmq_171, List.forall_mem_cons.mpr ⟨xmq_172, List.forall_mem_cons.mpr ⟨xmq_173, List.forall_mem_cons.mpr ⟨xmq_174, List.forall_mem_cons.mpr ⟨xmq_175, List.forall_mem_cons.mpr ⟨xmq_176, List.forall_mem_cons.mpr ⟨xmq_177, List.forall_mem_cons.mpr ⟨xmq_178, List.forall_mem_cons.mpr ⟨xmq_179, List.forall_mem_cons.mpr ⟨xmq_180, List.forall_mem_cons.mpr ⟨xmq_181, List.forall_mem_cons.mpr ⟨xmq_182, List.forall_mem_cons.mpr ⟨xmq_183, List.forall_mem_cons.mpr ⟨xmq_184, List.forall_mem_cons.mpr ⟨xmq_185, List.forall_mem_cons.mpr ⟨xmq_186, List.forall_mem_cons.mpr ⟨xmq_187, List.forall_mem_cons.mpr ⟨xmq_188, List.forall_mem_cons.mpr ⟨xmq_189, List.forall_mem_cons.mpr ⟨xmq_190, List.forall_mem_cons.mpr ⟨xmq_191, List.forall_mem_cons.mpr ⟨xmq_192, List.forall_mem_cons.mpr ⟨xmq_193, List.forall_mem_cons.mpr ⟨xmq_194, List.forall_mem_cons.mpr ⟨xmq_195, List.forall_mem_cons.mpr ⟨xmq_196, List.forall_mem_cons.mpr ⟨xmq_197, List.forall_mem_cons.mpr ⟨xmq_198, List.forall_mem_cons.mpr ⟨xmq_199, (fun _ h => absurd h List.not_mem_nil)⟩⟩⟩⟩⟩⟩⟩⟩⟩⟩⟩⟩⟩⟩⟩⟩⟩⟩⟩⟩⟩⟩⟩⟩⟩⟩⟩⟩⟩⟩⟩⟩⟩⟩⟩⟩⟩⟩⟩⟩
theorem xmsk_5 : ∀ M ∈ xms_5, xMok M := List.forall_mem_cons.mpr ⟨xmq_200, List.forall_mem_cons.mpr ⟨xmq_201, List.forall_mem_cons.mpr ⟨xmq_202, List.forall_mem_cons.mpr ⟨xmq_203, List.forall_mem_cons.mpr ⟨xmq_204, List.forall_mem_cons.mpr ⟨xmq_205, List.forall_mem_cons.mpr ⟨xmq_206, List.forall_mem_cons.mpr ⟨xmq_207, List.forall_mem_cons.mpr ⟨xmq_208, List.forall_mem_cons.mpr ⟨xmq_209, List.forall_mem_cons.mpr ⟨xmq_210, List.forall_mem_cons.mpr ⟨xmq_211, List.forall_mem_cons.mpr ⟨xmq_212, List.forall_mem_cons.mpr ⟨xmq_213, List.forall_mem_cons.mpr ⟨xmq_214, List.forall_mem_cons.mpr ⟨xmq_215, List.forall_mem_cons.mpr ⟨xmq_216, List.forall_mem_cons.mpr ⟨xmq_217, List.forall_mem_cons.mpr ⟨xmq_218, List.forall_mem_cons.mpr ⟨xmq_219, List.forall_mem_cons.mpr ⟨xmq_220, List.forall_mem_cons.mpr ⟨xmq_221, List.forall_mem_cons.mpr ⟨xmq_222, List.forall_mem_cons.mpr ⟨xmq_223, List.forall_mem_cons.mpr ⟨xmq_224, List.forall_mem_cons.mpr ⟨xmq_225, List.forall_mem_cons.mpr ⟨xmq_226, List.forall_mem_cons.mpr ⟨xmq_227, List.forall_mem_cons.mpr ⟨xmq_228, List.forall_mem_cons.mpr ⟨xmq_229, List.forall_mem_cons.mpr ⟨xmq_230, List.forall_mem_cons.mpr ⟨xmq_231, List.forall_mem_cons.mpr ⟨xmq_232, List.forall_mem_cons.mpr ⟨xmq_233, List.forall_mem_cons.mpr ⟨xmq_234, List.forall_mem_cons.mpr ⟨xmq_235, List.forall_mem_cons.mpr ⟨xmq_236, List.forall_mem_cons.mpr ⟨xmq_237, List.forall_mem_cons.mpr ⟨xmq_238, List.forall_mem_cons.mpr ⟨xmq_239, (fun _ h => absurd h List.not_mem_nil)⟩⟩⟩⟩⟩⟩⟩⟩⟩⟩⟩⟩⟩⟩⟩⟩⟩⟩⟩⟩⟩⟩⟩⟩⟩⟩⟩⟩⟩⟩⟩⟩⟩⟩⟩⟩⟩⟩⟩⟩
theorem xmsk_6 : ∀ M ∈ xms_6, xMok M := List.forall_mem_cons.mpr ⟨xmq_240, List.forall_mem_cons.mpr ⟨xmq_241, List.forall_mem_cons.mpr ⟨xmq_242, List.forall_mem_cons.mpr ⟨xmq_243, List.forall_mem_cons.mpr ⟨xmq_244, List.forall_mem_cons.mpr ⟨xmq_245, List.forall_mem_cons.mpr ⟨xmq_246, List.forall_mem_cons.mpr ⟨xmq_247, List.forall_mem_cons.mpr ⟨xmq_248, List.forall_mem_cons.mpr ⟨xmq_249, List.forall_mem_cons.mpr ⟨xmq_250, List.forall_mem_cons.mpr ⟨xmq_251, List.forall_mem_cons.mpr ⟨xmq_252, List.forall_mem_cons.mpr ⟨xmq_253, List.forall_mem_cons.mpr ⟨xmq_254, List.forall_mem_cons.mpr ⟨xmq_255, List.forall_mem_cons.mpr ⟨xmq_256, List.forall_mem_cons.mpr ⟨xmq_257, List.forall_mem_cons.mpr ⟨xmq_258, List.forall_mem_cons.mpr ⟨xmq_259, List.forall_mem_cons.mpr ⟨xmq_260, List.forall_mem_cons.mpr ⟨xmq_261, List.forall_mem_cons.mpr ⟨xmq_262, List.forall_mem_cons.mpr ⟨xmq_263, List.forall_mem_cons.mpr ⟨xmq_264, List.forall_mem_cons.mpr ⟨xmq_265, List.forall_mem_cons.mpr ⟨xmq_266, List.forall_mem_cons.mpr ⟨xmq_267, List.forall_mem_cons.mpr ⟨xmq_268, List.forall_mem_cons.mpr ⟨xmq_269, List.forall_mem_cons.mpr ⟨xmq_270, List.forall_mem_cons.mpr ⟨xmq_271, List.forall_mem_cons.mpr ⟨xmq_272, List.forall_mem_cons.mpr ⟨xmq_273, List.forall_mem_cons.mpr ⟨xmq_274, List.forall_mem_cons.mpr ⟨xmq_275, List.forall_mem_cons.mpr ⟨xmq_276, List.forall_mem_cons.mpr ⟨xmq_277, List.forall_mem_cons.mpr ⟨xmq_278, List.forall_mem_cons.mpr ⟨xmq_279, (fun _ h => absurd h List.not_mem_nil)⟩⟩⟩⟩⟩⟩⟩⟩⟩⟩⟩⟩⟩⟩⟩⟩⟩⟩⟩⟩⟩⟩⟩⟩⟩⟩⟩⟩⟩⟩⟩⟩⟩⟩⟩⟩⟩⟩⟩⟩
theorem xmsk_7 : ∀ M ∈ xms_7, xMok M := List.forall_mem_cons.mpr ⟨xmq_280, List.forall_mem_cons.mpr ⟨xmq_281, List.forall_mem_cons.mpr ⟨xmq_282, List.forall_mem_cons.mpr ⟨xmq_283, List.forall_mem_cons.mpr ⟨xmq_284, List.forall_mem_cons.mpr ⟨xmq_285, List.forall_mem_cons.mpr ⟨xmq_286, (fun _ h => absurd h List.not_mem_nil)⟩⟩⟩⟩⟩⟩⟩
theorem xmsk_x : ∀ M ∈ xms_x, xMok M := List.forall_mem_cons.mpr ⟨xmq_288, List.forall_mem_cons.mpr ⟨xmq_289, (fun _ h => absurd h List.not_mem_nil)⟩⟩
theorem xms_ok {y : Nat} {M : xM} (h : xms[y]? = some M) : M = xlaw ∨ xMok M := by
  have hm := List.mem_of_getElem? h
  simp only [xms, List.mem_append, List.mem_singleton] at hm
  rcases hm with ((((((((hm | hm) | hm) | hm) | hm) | hm) | hm) | hm) | hm) | hm
  · exact Or.inr (xmsk_0 _ hm)
  · exact Or.inr (xmsk_1 _ hm)
  · exact Or.inr (xmsk_2 _ hm)
  · exact Or.inr (xmsk_3 _ hm)
  · exact Or.inr (xmsk_4 _ hm)
  · exact Or.inr (xmsk_5 _ hm)
  · exact Or.inr (xmsk_6 _ hm)
  · exact Or.inr (xmsk_7 _ hm)
  · exact Or.inl hm
  · exact Or.inr (xmsk_x _ hm)
