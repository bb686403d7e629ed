/-! the fresh objects, cell by cell -/
def greg : Nat → Value := xup (xup (xup (xup (xup (xup (xup (xup (xup (xup (xup (xup (xup (xup (xup (xup (fun _ => Value.null) (0 : Int32).toInt.toNat (Value.ref 30)) (1 : Int32).toInt.toNat (Value.ref 33)) (2 : Int32).toInt.toNat (Value.ref 36)) (3 : Int32).toInt.toNat (Value.ref 39)) (4 : Int32).toInt.toNat (Value.ref 42)) (5 : Int32).toInt.toNat (Value.ref 45)) (6 : Int32).toInt.toNat (Value.ref 48)) (7 : Int32).toInt.toNat (Value.ref 51)) (8 : Int32).toInt.toNat (Value.ref 54)) (9 : Int32).toInt.toNat (Value.ref 57)) (10 : Int32).toInt.toNat (Value.ref 60)) (11 : Int32).toInt.toNat (Value.ref 63)) (12 : Int32).toInt.toNat (Value.ref 66)) (13 : Int32).toInt.toNat (Value.ref 69)) (14 : Int32).toInt.toNat (Value.ref 72)) (15 : Int32).toInt.toNat (Value.ref 75)
def gprec : Nat → Value := xup (xup (xup (xup (xup (xup (xup (xup (xup (xup (xup (xup (xup (xup (xup (xup (xup (fun _ => Value.int 0) (0 : Int32).toInt.toNat (Value.int 64)) (1 : Int32).toInt.toNat (Value.int 64)) (2 : Int32).toInt.toNat (Value.int 64)) (3 : Int32).toInt.toNat (Value.int 64)) (4 : Int32).toInt.toNat (Value.int 64)) (5 : Int32).toInt.toNat (Value.int 64)) (6 : Int32).toInt.toNat (Value.int 64)) (7 : Int32).toInt.toNat (Value.int 64)) (8 : Int32).toInt.toNat (Value.int 64)) (9 : Int32).toInt.toNat (Value.int 64)) (10 : Int32).toInt.toNat (Value.int 64)) (11 : Int32).toInt.toNat (Value.int 64)) (12 : Int32).toInt.toNat (Value.int 64)) (13 : Int32).toInt.toNat (Value.int 64)) (14 : Int32).toInt.toNat (Value.int 64)) (15 : Int32).toInt.toNat (Value.int 64)) (16 : Int32).toInt.toNat (Value.int 64)
def gpart : Nat → Value := xup (xup (xup (xup (xup (xup (xup (xup (xup (xup (xup (xup (xup (xup (xup (xup (xup (fun _ => Value.null) (0 : Int32).toInt.toNat (Value.ref 160)) (1 : Int32).toInt.toNat (Value.ref 162)) (2 : Int32).toInt.toNat (Value.ref 164)) (3 : Int32).toInt.toNat (Value.ref 166)) (4 : Int32).toInt.toNat (Value.ref 168)) (5 : Int32).toInt.toNat (Value.ref 170)) (6 : Int32).toInt.toNat (Value.ref 172)) (7 : Int32).toInt.toNat (Value.ref 174)) (8 : Int32).toInt.toNat (Value.ref 176)) (9 : Int32).toInt.toNat (Value.ref 178)) (10 : Int32).toInt.toNat (Value.ref 180)) (11 : Int32).toInt.toNat (Value.ref 182)) (12 : Int32).toInt.toNat (Value.ref 184)) (13 : Int32).toInt.toNat (Value.ref 186)) (14 : Int32).toInt.toNat (Value.ref 188)) (15 : Int32).toInt.toNat (Value.ref 190)) (16 : Int32).toInt.toNat (Value.ref 192)
theorem greg_at {j : Nat} (h : j < 16) : greg j = Value.ref (30 + 3 * j) := by
  match j, h with
  | 0, _ => rfl
  | 1, _ => rfl
  | 2, _ => rfl
  | 3, _ => rfl
  | 4, _ => rfl
  | 5, _ => rfl
  | 6, _ => rfl
  | 7, _ => rfl
  | 8, _ => rfl
  | 9, _ => rfl
  | 10, _ => rfl
  | 11, _ => rfl
  | 12, _ => rfl
  | 13, _ => rfl
  | 14, _ => rfl
  | 15, _ => rfl
  | k + 16, h => exact absurd h (by omega)
theorem gprec_at {j : Nat} (h : j < 17) : gprec j = Value.int 64 := by
  match j, h with
  | 0, _ => rfl
  | 1, _ => rfl
  | 2, _ => rfl
  | 3, _ => rfl
  | 4, _ => rfl
  | 5, _ => rfl
  | 6, _ => rfl
  | 7, _ => rfl
  | 8, _ => rfl
  | 9, _ => rfl
  | 10, _ => rfl
  | 11, _ => rfl
  | 12, _ => rfl
  | 13, _ => rfl
  | 14, _ => rfl
  | 15, _ => rfl
  | 16, _ => rfl
  | k + 17, h => exact absurd h (by omega)
theorem gpart_at {j : Nat} (h : j < 17) : gpart j = Value.ref (160 + 2 * j) := by
  match j, h with
  | 0, _ => rfl
  | 1, _ => rfl
  | 2, _ => rfl
  | 3, _ => rfl
  | 4, _ => rfl
  | 5, _ => rfl
  | 6, _ => rfl
  | 7, _ => rfl
  | 8, _ => rfl
  | 9, _ => rfl
  | 10, _ => rfl
  | 11, _ => rfl
  | 12, _ => rfl
  | 13, _ => rfl
  | 14, _ => rfl
  | 15, _ => rfl
  | 16, _ => rfl
  | k + 17, h => exact absurd h (by omega)
section
variable {L : Nat} {xs : Nat → Int32}
theorem W0_0 : (W0 L xs)[0]? = some (Sum.inl (0, L, fun j => Value.int (xs j))) := rfl
theorem W0_1 : (W0 L xs)[1]? = some (Sum.inr (18, [Value.ref 2, Value.int 0])) := rfl
theorem W0_3 : (W0 L xs)[3]? = some (Sum.inr (18, [Value.ref 4, Value.int 0])) := rfl
theorem W0_2 : (W0 L xs)[2]? = some (Sum.inl (1, 3, fun j => Value.int (xnan.getD j 0))) := rfl
theorem W0_4 : (W0 L xs)[4]? = some (Sum.inl (1, 3, fun j => Value.int (xinf.getD j 0))) := rfl
set_option maxRecDepth 4000 in
theorem W0_7 : (W0 L xs)[7]? = some (Sum.inr (0, [Value.ref 8, Value.ref 78, Value.ref 9, Value.ref 10, Value.ref 13, Value.ref 16, Value.ref 19, Value.ref 93, Value.ref 108, Value.ref 113, Value.ref 29, Value.int 0])) := by unfold W0; exact xnl (l := 7) (k := 0) rfl rfl
set_option maxRecDepth 4000 in
theorem W0_8 : (W0 L xs)[8]? = some (Sum.inl (4, 16, greg)) := by unfold W0; exact xnl (l := 7) (k := 1) rfl rfl
set_option maxRecDepth 4000 in
theorem W0_9 : (W0 L xs)[9]? = some (Sum.inr (1, [Value.int (-1021), Value.int 1024, Value.int 1, Value.int 0])) := by unfold W0; exact xnl (l := 7) (k := 2) rfl rfl
set_option maxRecDepth 4000 in
theorem W0_10 : (W0 L xs)[10]? = some (Sum.inr (2, [Value.int 53, Value.int 0, Value.int 0, Value.int 0, Value.ref 11])) := by unfold W0; exact xnl (l := 7) (k := 3) rfl rfl
set_option maxRecDepth 4000 in
theorem W0_11 : (W0 L xs)[11]? = some (Sum.inr (3, [Value.ref 12, Value.int 0])) := by unfold W0; exact xnl (l := 7) (k := 4) rfl rfl
set_option maxRecDepth 4000 in
theorem W0_12 : (W0 L xs)[12]? = some (Sum.inl (0, 8, fun _ => Value.int 0)) := by unfold W0; exact xnl (l := 7) (k := 5) rfl rfl
set_option maxRecDepth 4000 in
theorem W0_13 : (W0 L xs)[13]? = some (Sum.inr (2, [Value.int 64, Value.int 0, Value.int 0, Value.int 0, Value.ref 14])) := by unfold W0; exact xnl (l := 7) (k := 6) rfl rfl
set_option maxRecDepth 4000 in
theorem W0_14 : (W0 L xs)[14]? = some (Sum.inr (3, [Value.ref 15, Value.int 0])) := by unfold W0; exact xnl (l := 7) (k := 7) rfl rfl
set_option maxRecDepth 4000 in
theorem W0_15 : (W0 L xs)[15]? = some (Sum.inl (0, 8, fun _ => Value.int 0)) := by unfold W0; exact xnl (l := 7) (k := 8) rfl rfl
set_option maxRecDepth 4000 in
theorem W0_16 : (W0 L xs)[16]? = some (Sum.inr (4, [Value.int 0, Value.ref 17, Value.int 0, Value.int 0])) := by unfold W0; exact xnl (l := 7) (k := 9) rfl rfl
set_option maxRecDepth 4000 in
theorem W0_17 : (W0 L xs)[17]? = some (Sum.inr (3, [Value.ref 18, Value.int 0])) := by unfold W0; exact xnl (l := 7) (k := 10) rfl rfl
set_option maxRecDepth 4000 in
theorem W0_18 : (W0 L xs)[18]? = some (Sum.inl (0, 8, fun _ => Value.int 0)) := by unfold W0; exact xnl (l := 7) (k := 11) rfl rfl
set_option maxRecDepth 4000 in
theorem W0_19 : (W0 L xs)[19]? = some (Sum.inr (5, [Value.ref 20, Value.ref 22, Value.ref 24, Value.ref 26, Value.int 0, Value.int 0, Value.int 0, Value.int 0, Value.int 0, Value.int 0, Value.int 0, Value.int 0])) := by unfold W0; exact xnl (l := 7) (k := 12) rfl rfl
set_option maxRecDepth 4000 in
theorem W0_20 : (W0 L xs)[20]? = some (Sum.inr (3, [Value.ref 21, Value.int 0])) := by unfold W0; exact xnl (l := 7) (k := 13) rfl rfl
set_option maxRecDepth 4000 in
theorem W0_21 : (W0 L xs)[21]? = some (Sum.inl (0, 8, fun _ => Value.int 0)) := by unfold W0; exact xnl (l := 7) (k := 14) rfl rfl
set_option maxRecDepth 4000 in
theorem W0_22 : (W0 L xs)[22]? = some (Sum.inr (3, [Value.ref 23, Value.int 0])) := by unfold W0; exact xnl (l := 7) (k := 15) rfl rfl
set_option maxRecDepth 4000 in
theorem W0_23 : (W0 L xs)[23]? = some (Sum.inl (0, 8, fun _ => Value.int 0)) := by unfold W0; exact xnl (l := 7) (k := 16) rfl rfl
set_option maxRecDepth 4000 in
theorem W0_24 : (W0 L xs)[24]? = some (Sum.inr (3, [Value.ref 25, Value.int 0])) := by unfold W0; exact xnl (l := 7) (k := 17) rfl rfl
set_option maxRecDepth 4000 in
theorem W0_25 : (W0 L xs)[25]? = some (Sum.inl (0, 8, fun _ => Value.int 0)) := by unfold W0; exact xnl (l := 7) (k := 18) rfl rfl
set_option maxRecDepth 4000 in
theorem W0_26 : (W0 L xs)[26]? = some (Sum.inr (4, [Value.int 0, Value.ref 27, Value.int 0, Value.int 0])) := by unfold W0; exact xnl (l := 7) (k := 19) rfl rfl
set_option maxRecDepth 4000 in
theorem W0_27 : (W0 L xs)[27]? = some (Sum.inr (3, [Value.ref 28, Value.int 0])) := by unfold W0; exact xnl (l := 7) (k := 20) rfl rfl
set_option maxRecDepth 4000 in
theorem W0_28 : (W0 L xs)[28]? = some (Sum.inl (0, 8, fun _ => Value.int 0)) := by unfold W0; exact xnl (l := 7) (k := 21) rfl rfl
set_option maxRecDepth 4000 in
theorem W0_29 : (W0 L xs)[29]? = some (Sum.inl (1, 4096, fun _ => Value.int 0)) := by unfold W0; exact xnl (l := 7) (k := 22) rfl rfl
set_option maxRecDepth 4000 in
theorem W0_30 : (W0 L xs)[30]? = some (Sum.inr (2, [Value.int 64, Value.int 0, Value.int 0, Value.int 0, Value.ref 31])) := by unfold W0; exact xnl (l := 7) (k := 23) rfl rfl
set_option maxRecDepth 4000 in
theorem W0_31 : (W0 L xs)[31]? = some (Sum.inr (3, [Value.ref 32, Value.int 0])) := by unfold W0; exact xnl (l := 7) (k := 24) rfl rfl
set_option maxRecDepth 4000 in
theorem W0_32 : (W0 L xs)[32]? = some (Sum.inl (0, 8, fun _ => Value.int 0)) := by unfold W0; exact xnl (l := 7) (k := 25) rfl rfl
set_option maxRecDepth 4000 in
theorem W0_33 : (W0 L xs)[33]? = some (Sum.inr (2, [Value.int 64, Value.int 0, Value.int 0, Value.int 0, Value.ref 34])) := by unfold W0; exact xnl (l := 7) (k := 26) rfl rfl
set_option maxRecDepth 4000 in
theorem W0_34 : (W0 L xs)[34]? = some (Sum.inr (3, [Value.ref 35, Value.int 0])) := by unfold W0; exact xnl (l := 7) (k := 27) rfl rfl
set_option maxRecDepth 4000 in
theorem W0_35 : (W0 L xs)[35]? = some (Sum.inl (0, 8, fun _ => Value.int 0)) := by unfold W0; exact xnl (l := 7) (k := 28) rfl rfl
set_option maxRecDepth 4000 in
theorem W0_36 : (W0 L xs)[36]? = some (Sum.inr (2, [Value.int 64, Value.int 0, Value.int 0, Value.int 0, Value.ref 37])) := by unfold W0; exact xnl (l := 7) (k := 29) rfl rfl
set_option maxRecDepth 4000 in
theorem W0_37 : (W0 L xs)[37]? = some (Sum.inr (3, [Value.ref 38, Value.int 0])) := by unfold W0; exact xnl (l := 7) (k := 30) rfl rfl
set_option maxRecDepth 4000 in
theorem W0_38 : (W0 L xs)[38]? = some (Sum.inl (0, 8, fun _ => Value.int 0)) := by unfold W0; exact xnl (l := 7) (k := 31) rfl rfl
set_option maxRecDepth 4000 in
theorem W0_39 : (W0 L xs)[39]? = some (Sum.inr (2, [Value.int 64, Value.int 0, Value.int 0, Value.int 0, Value.ref 40])) := by unfold W0; exact xnl (l := 7) (k := 32) rfl rfl
set_option maxRecDepth 4000 in
theorem W0_40 : (W0 L xs)[40]? = some (Sum.inr (3, [Value.ref 41, Value.int 0])) := by unfold W0; exact xnl (l := 7) (k := 33) rfl rfl
set_option maxRecDepth 4000 in
theorem W0_41 : (W0 L xs)[41]? = some (Sum.inl (0, 8, fun _ => Value.int 0)) := by unfold W0; exact xnl (l := 7) (k := 34) rfl rfl
set_option maxRecDepth 4000 in
theorem W0_42 : (W0 L xs)[42]? = some (Sum.inr (2, [Value.int 64, Value.int 0, Value.int 0, Value.int 0, Value.ref 43])) := by unfold W0; exact xnl (l := 7) (k := 35) rfl rfl
set_option maxRecDepth 4000 in
theorem W0_43 : (W0 L xs)[43]? = some (Sum.inr (3, [Value.ref 44, Value.int 0])) := by unfold W0; exact xnl (l := 7) (k := 36) rfl rfl
set_option maxRecDepth 4000 in
theorem W0_44 : (W0 L xs)[44]? = some (Sum.inl (0, 8, fun _ => Value.int 0)) := by unfold W0; exact xnl (l := 7) (k := 37) rfl rfl
set_option maxRecDepth 4000 in
theorem W0_45 : (W0 L xs)[45]? = some (Sum.inr (2, [Value.int 64, Value.int 0, Value.int 0, Value.int 0, Value.ref 46])) := by unfold W0; exact xnl (l := 7) (k := 38) rfl rfl
set_option maxRecDepth 4000 in
theorem W0_46 : (W0 L xs)[46]? = some (Sum.inr (3, [Value.ref 47, Value.int 0])) := by unfold W0; exact xnl (l := 7) (k := 39) rfl rfl
set_option maxRecDepth 4000 in
theorem W0_47 : (W0 L xs)[47]? = some (Sum.inl (0, 8, fun _ => Value.int 0)) := by unfold W0; exact xnl (l := 7) (k := 40) rfl rfl
set_option maxRecDepth 4000 in
theorem W0_48 : (W0 L xs)[48]? = some (Sum.inr (2, [Value.int 64, Value.int 0, Value.int 0, Value.int 0, Value.ref 49])) := by unfold W0; exact xnl (l := 7) (k := 41) rfl rfl
set_option maxRecDepth 4000 in
theorem W0_49 : (W0 L xs)[49]? = some (Sum.inr (3, [Value.ref 50, Value.int 0])) := by unfold W0; exact xnl (l := 7) (k := 42) rfl rfl
set_option maxRecDepth 4000 in
theorem W0_50 : (W0 L xs)[50]? = some (Sum.inl (0, 8, fun _ => Value.int 0)) := by unfold W0; exact xnl (l := 7) (k := 43) rfl rfl
set_option maxRecDepth 4000 in
theorem W0_51 : (W0 L xs)[51]? = some (Sum.inr (2, [Value.int 64, Value.int 0, Value.int 0, Value.int 0, Value.ref 52])) := by unfold W0; exact xnl (l := 7) (k := 44) rfl rfl
set_option maxRecDepth 4000 in
theorem W0_52 : (W0 L xs)[52]? = some (Sum.inr (3, [Value.ref 53, Value.int 0])) := by unfold W0; exact xnl (l := 7) (k := 45) rfl rfl
set_option maxRecDepth 4000 in
theorem W0_53 : (W0 L xs)[53]? = some (Sum.inl (0, 8, fun _ => Value.int 0)) := by unfold W0; exact xnl (l := 7) (k := 46) rfl rfl
set_option maxRecDepth 4000 in
theorem W0_54 : (W0 L xs)[54]? = some (Sum.inr (2, [Value.int 64, Value.int 0, Value.int 0, Value.int 0, Value.ref 55])) := by unfold W0; exact xnl (l := 7) (k := 47) rfl rfl
set_option maxRecDepth 4000 in
theorem W0_55 : (W0 L xs)[55]? = some (Sum.inr (3, [Value.ref 56, Value.int 0])) := by unfold W0; exact xnl (l := 7) (k := 48) rfl rfl
set_option maxRecDepth 4000 in
theorem W0_56 : (W0 L xs)[56]? = some (Sum.inl (0, 8, fun _ => Value.int 0)) := by unfold W0; exact xnl (l := 7) (k := 49) rfl rfl
set_option maxRecDepth 4000 in
theorem W0_57 : (W0 L xs)[57]? = some (Sum.inr (2, [Value.int 64, Value.int 0, Value.int 0, Value.int 0, Value.ref 58])) := by unfold W0; exact xnl (l := 7) (k := 50) rfl rfl
set_option maxRecDepth 4000 in
theorem W0_58 : (W0 L xs)[58]? = some (Sum.inr (3, [Value.ref 59, Value.int 0])) := by unfold W0; exact xnl (l := 7) (k := 51) rfl rfl
set_option maxRecDepth 4000 in
theorem W0_59 : (W0 L xs)[59]? = some (Sum.inl (0, 8, fun _ => Value.int 0)) := by unfold W0; exact xnl (l := 7) (k := 52) rfl rfl
set_option maxRecDepth 4000 in
theorem W0_60 : (W0 L xs)[60]? = some (Sum.inr (2, [Value.int 64, Value.int 0, Value.int 0, Value.int 0, Value.ref 61])) := by unfold W0; exact xnl (l := 7) (k := 53) rfl rfl
set_option maxRecDepth 4000 in
theorem W0_61 : (W0 L xs)[61]? = some (Sum.inr (3, [Value.ref 62, Value.int 0])) := by unfold W0; exact xnl (l := 7) (k := 54) rfl rfl
set_option maxRecDepth 4000 in
theorem W0_62 : (W0 L xs)[62]? = some (Sum.inl (0, 8, fun _ => Value.int 0)) := by unfold W0; exact xnl (l := 7) (k := 55) rfl rfl
set_option maxRecDepth 4000 in
theorem W0_63 : (W0 L xs)[63]? = some (Sum.inr (2, [Value.int 64, Value.int 0, Value.int 0, Value.int 0, Value.ref 64])) := by unfold W0; exact xnl (l := 7) (k := 56) rfl rfl
set_option maxRecDepth 4000 in
theorem W0_64 : (W0 L xs)[64]? = some (Sum.inr (3, [Value.ref 65, Value.int 0])) := by unfold W0; exact xnl (l := 7) (k := 57) rfl rfl
set_option maxRecDepth 4000 in
theorem W0_65 : (W0 L xs)[65]? = some (Sum.inl (0, 8, fun _ => Value.int 0)) := by unfold W0; exact xnl (l := 7) (k := 58) rfl rfl
set_option maxRecDepth 4000 in
theorem W0_66 : (W0 L xs)[66]? = some (Sum.inr (2, [Value.int 64, Value.int 0, Value.int 0, Value.int 0, Value.ref 67])) := by unfold W0; exact xnl (l := 7) (k := 59) rfl rfl
set_option maxRecDepth 4000 in
theorem W0_67 : (W0 L xs)[67]? = some (Sum.inr (3, [Value.ref 68, Value.int 0])) := by unfold W0; exact xnl (l := 7) (k := 60) rfl rfl
set_option maxRecDepth 4000 in
theorem W0_68 : (W0 L xs)[68]? = some (Sum.inl (0, 8, fun _ => Value.int 0)) := by unfold W0; exact xnl (l := 7) (k := 61) rfl rfl
set_option maxRecDepth 4000 in
theorem W0_69 : (W0 L xs)[69]? = some (Sum.inr (2, [Value.int 64, Value.int 0, Value.int 0, Value.int 0, Value.ref 70])) := by unfold W0; exact xnl (l := 7) (k := 62) rfl rfl
set_option maxRecDepth 4000 in
theorem W0_70 : (W0 L xs)[70]? = some (Sum.inr (3, [Value.ref 71, Value.int 0])) := by unfold W0; exact xnl (l := 7) (k := 63) rfl rfl
set_option maxRecDepth 4000 in
theorem W0_71 : (W0 L xs)[71]? = some (Sum.inl (0, 8, fun _ => Value.int 0)) := by unfold W0; exact xnl (l := 7) (k := 64) rfl rfl
set_option maxRecDepth 4000 in
theorem W0_72 : (W0 L xs)[72]? = some (Sum.inr (2, [Value.int 64, Value.int 0, Value.int 0, Value.int 0, Value.ref 73])) := by unfold W0; exact xnl (l := 7) (k := 65) rfl rfl
set_option maxRecDepth 4000 in
theorem W0_73 : (W0 L xs)[73]? = some (Sum.inr (3, [Value.ref 74, Value.int 0])) := by unfold W0; exact xnl (l := 7) (k := 66) rfl rfl
set_option maxRecDepth 4000 in
theorem W0_74 : (W0 L xs)[74]? = some (Sum.inl (0, 8, fun _ => Value.int 0)) := by unfold W0; exact xnl (l := 7) (k := 67) rfl rfl
set_option maxRecDepth 4000 in
theorem W0_75 : (W0 L xs)[75]? = some (Sum.inr (2, [Value.int 64, Value.int 0, Value.int 0, Value.int 0, Value.ref 76])) := by unfold W0; exact xnl (l := 7) (k := 68) rfl rfl
set_option maxRecDepth 4000 in
theorem W0_76 : (W0 L xs)[76]? = some (Sum.inr (3, [Value.ref 77, Value.int 0])) := by unfold W0; exact xnl (l := 7) (k := 69) rfl rfl
set_option maxRecDepth 4000 in
theorem W0_77 : (W0 L xs)[77]? = some (Sum.inl (0, 8, fun _ => Value.int 0)) := by unfold W0; exact xnl (l := 7) (k := 70) rfl rfl
set_option maxRecDepth 4000 in
theorem W0_78 : (W0 L xs)[78]? = some (Sum.inr (1, [Value.int (-16384), Value.int 16384, Value.int 0, Value.int 0])) := by unfold W0; exact xnl (l := 7) (k := 71) rfl rfl
set_option maxRecDepth 4000 in
theorem W0_79 : (W0 L xs)[79]? = some (Sum.inr (6, [Value.ref 80, Value.ref 82, Value.ref 84, Value.int 0, Value.int 0])) := by unfold W0; exact xnl (l := 7) (k := 72) rfl rfl
set_option maxRecDepth 4000 in
theorem W0_80 : (W0 L xs)[80]? = some (Sum.inr (3, [Value.ref 81, Value.int 0])) := by unfold W0; exact xnl (l := 7) (k := 73) rfl rfl
set_option maxRecDepth 4000 in
theorem W0_81 : (W0 L xs)[81]? = some (Sum.inl (0, 8, fun _ => Value.int 0)) := by unfold W0; exact xnl (l := 7) (k := 74) rfl rfl
set_option maxRecDepth 4000 in
theorem W0_82 : (W0 L xs)[82]? = some (Sum.inr (3, [Value.ref 83, Value.int 0])) := by unfold W0; exact xnl (l := 7) (k := 75) rfl rfl
set_option maxRecDepth 4000 in
theorem W0_83 : (W0 L xs)[83]? = some (Sum.inl (0, 8, fun _ => Value.int 0)) := by unfold W0; exact xnl (l := 7) (k := 76) rfl rfl
set_option maxRecDepth 4000 in
theorem W0_84 : (W0 L xs)[84]? = some (Sum.inr (3, [Value.ref 85, Value.int 0])) := by unfold W0; exact xnl (l := 7) (k := 77) rfl rfl
set_option maxRecDepth 4000 in
theorem W0_85 : (W0 L xs)[85]? = some (Sum.inl (0, 8, fun _ => Value.int 0)) := by unfold W0; exact xnl (l := 7) (k := 78) rfl rfl
set_option maxRecDepth 4000 in
theorem W0_86 : (W0 L xs)[86]? = some (Sum.inr (7, [Value.ref 87, Value.ref 89, Value.ref 91])) := by unfold W0; exact xnl (l := 7) (k := 79) rfl rfl
set_option maxRecDepth 4000 in
theorem W0_87 : (W0 L xs)[87]? = some (Sum.inr (3, [Value.ref 88, Value.int 0])) := by unfold W0; exact xnl (l := 7) (k := 80) rfl rfl
set_option maxRecDepth 4000 in
theorem W0_88 : (W0 L xs)[88]? = some (Sum.inl (0, 8, fun _ => Value.int 0)) := by unfold W0; exact xnl (l := 7) (k := 81) rfl rfl
set_option maxRecDepth 4000 in
theorem W0_89 : (W0 L xs)[89]? = some (Sum.inr (3, [Value.ref 90, Value.int 0])) := by unfold W0; exact xnl (l := 7) (k := 82) rfl rfl
set_option maxRecDepth 4000 in
theorem W0_90 : (W0 L xs)[90]? = some (Sum.inl (0, 8, fun _ => Value.int 0)) := by unfold W0; exact xnl (l := 7) (k := 83) rfl rfl
set_option maxRecDepth 4000 in
theorem W0_91 : (W0 L xs)[91]? = some (Sum.inr (3, [Value.ref 92, Value.int 0])) := by unfold W0; exact xnl (l := 7) (k := 84) rfl rfl
set_option maxRecDepth 4000 in
theorem W0_92 : (W0 L xs)[92]? = some (Sum.inl (0, 8, fun _ => Value.int 0)) := by unfold W0; exact xnl (l := 7) (k := 85) rfl rfl
set_option maxRecDepth 4000 in
theorem W0_93 : (W0 L xs)[93]? = some (Sum.inr (8, [Value.ref 78, Value.ref 79, Value.ref 86, Value.ref 101, Value.ref 94, Value.ref 97, Value.ref 99])) := by unfold W0; exact xnl (l := 7) (k := 86) rfl rfl
set_option maxRecDepth 4000 in
theorem W0_94 : (W0 L xs)[94]? = some (Sum.inr (4, [Value.int 0, Value.ref 95, Value.int 0, Value.int 0])) := by unfold W0; exact xnl (l := 7) (k := 87) rfl rfl
set_option maxRecDepth 4000 in
theorem W0_95 : (W0 L xs)[95]? = some (Sum.inr (3, [Value.ref 96, Value.int 0])) := by unfold W0; exact xnl (l := 7) (k := 88) rfl rfl
set_option maxRecDepth 4000 in
theorem W0_96 : (W0 L xs)[96]? = some (Sum.inl (0, 8, fun _ => Value.int 0)) := by unfold W0; exact xnl (l := 7) (k := 89) rfl rfl
set_option maxRecDepth 4000 in
theorem W0_97 : (W0 L xs)[97]? = some (Sum.inr (3, [Value.ref 98, Value.int 0])) := by unfold W0; exact xnl (l := 7) (k := 90) rfl rfl
set_option maxRecDepth 4000 in
theorem W0_98 : (W0 L xs)[98]? = some (Sum.inl (0, 8, fun _ => Value.int 0)) := by unfold W0; exact xnl (l := 7) (k := 91) rfl rfl
set_option maxRecDepth 4000 in
theorem W0_99 : (W0 L xs)[99]? = some (Sum.inr (3, [Value.ref 100, Value.int 0])) := by unfold W0; exact xnl (l := 7) (k := 92) rfl rfl
set_option maxRecDepth 4000 in
theorem W0_100 : (W0 L xs)[100]? = some (Sum.inl (0, 8, fun _ => Value.int 0)) := by unfold W0; exact xnl (l := 7) (k := 93) rfl rfl
set_option maxRecDepth 4000 in
theorem W0_101 : (W0 L xs)[101]? = some (Sum.inr (9, [Value.ref 79, Value.ref 86, Value.ref 102, Value.ref 104, Value.ref 106, Value.ref 104, Value.int 0, Value.int 0, Value.int 0, Value.int 0])) := by unfold W0; exact xnl (l := 7) (k := 94) rfl rfl
set_option maxRecDepth 4000 in
theorem W0_102 : (W0 L xs)[102]? = some (Sum.inr (3, [Value.ref 103, Value.int 0])) := by unfold W0; exact xnl (l := 7) (k := 95) rfl rfl
set_option maxRecDepth 4000 in
theorem W0_103 : (W0 L xs)[103]? = some (Sum.inl (0, 8, fun _ => Value.int 0)) := by unfold W0; exact xnl (l := 7) (k := 96) rfl rfl
set_option maxRecDepth 4000 in
theorem W0_104 : (W0 L xs)[104]? = some (Sum.inr (3, [Value.ref 105, Value.int 0])) := by unfold W0; exact xnl (l := 7) (k := 97) rfl rfl
set_option maxRecDepth 4000 in
theorem W0_105 : (W0 L xs)[105]? = some (Sum.inl (0, 8, fun _ => Value.int 0)) := by unfold W0; exact xnl (l := 7) (k := 98) rfl rfl
set_option maxRecDepth 4000 in
theorem W0_106 : (W0 L xs)[106]? = some (Sum.inr (3, [Value.ref 107, Value.int 0])) := by unfold W0; exact xnl (l := 7) (k := 99) rfl rfl
set_option maxRecDepth 4000 in
theorem W0_107 : (W0 L xs)[107]? = some (Sum.inl (0, 8, fun _ => Value.int 0)) := by unfold W0; exact xnl (l := 7) (k := 100) rfl rfl
set_option maxRecDepth 4000 in
theorem W0_108 : (W0 L xs)[108]? = some (Sum.inr (10, [Value.ref 79, Value.ref 86, Value.ref 109, Value.ref 111, Value.int 0, Value.int 0, Value.int 0, Value.int 0, Value.int 0])) := by unfold W0; exact xnl (l := 7) (k := 101) rfl rfl
set_option maxRecDepth 4000 in
theorem W0_109 : (W0 L xs)[109]? = some (Sum.inr (3, [Value.ref 110, Value.int 0])) := by unfold W0; exact xnl (l := 7) (k := 102) rfl rfl
set_option maxRecDepth 4000 in
theorem W0_110 : (W0 L xs)[110]? = some (Sum.inl (0, 8, fun _ => Value.int 0)) := by unfold W0; exact xnl (l := 7) (k := 103) rfl rfl
set_option maxRecDepth 4000 in
theorem W0_111 : (W0 L xs)[111]? = some (Sum.inr (3, [Value.ref 112, Value.int 0])) := by unfold W0; exact xnl (l := 7) (k := 104) rfl rfl
set_option maxRecDepth 4000 in
theorem W0_112 : (W0 L xs)[112]? = some (Sum.inl (0, 8, fun _ => Value.int 0)) := by unfold W0; exact xnl (l := 7) (k := 105) rfl rfl
set_option maxRecDepth 4000 in
theorem W0_113 : (W0 L xs)[113]? = some (Sum.inr (11, [Value.ref 79, Value.ref 86, Value.ref 114, Value.int 0, Value.ref 115, Value.ref 117, Value.ref 119, Value.ref 121, Value.ref 123, Value.ref 125, Value.int 0, Value.int 0, Value.int 0])) := by unfold W0; exact xnl (l := 7) (k := 106) rfl rfl
set_option maxRecDepth 4000 in
theorem W0_114 : (W0 L xs)[114]? = some (Sum.inl (1, 4112, fun _ => Value.int 0)) := by unfold W0; exact xnl (l := 7) (k := 107) rfl rfl
set_option maxRecDepth 4000 in
theorem W0_115 : (W0 L xs)[115]? = some (Sum.inr (3, [Value.ref 116, Value.int 0])) := by unfold W0; exact xnl (l := 7) (k := 108) rfl rfl
set_option maxRecDepth 4000 in
theorem W0_116 : (W0 L xs)[116]? = some (Sum.inl (0, 8, fun _ => Value.int 0)) := by unfold W0; exact xnl (l := 7) (k := 109) rfl rfl
set_option maxRecDepth 4000 in
theorem W0_117 : (W0 L xs)[117]? = some (Sum.inr (3, [Value.ref 118, Value.int 0])) := by unfold W0; exact xnl (l := 7) (k := 110) rfl rfl
set_option maxRecDepth 4000 in
theorem W0_118 : (W0 L xs)[118]? = some (Sum.inl (0, 8, fun _ => Value.int 0)) := by unfold W0; exact xnl (l := 7) (k := 111) rfl rfl
set_option maxRecDepth 4000 in
theorem W0_119 : (W0 L xs)[119]? = some (Sum.inr (3, [Value.ref 120, Value.int 0])) := by unfold W0; exact xnl (l := 7) (k := 112) rfl rfl
set_option maxRecDepth 4000 in
theorem W0_120 : (W0 L xs)[120]? = some (Sum.inl (0, 8, fun _ => Value.int 0)) := by unfold W0; exact xnl (l := 7) (k := 113) rfl rfl
set_option maxRecDepth 4000 in
theorem W0_121 : (W0 L xs)[121]? = some (Sum.inr (3, [Value.ref 122, Value.int 0])) := by unfold W0; exact xnl (l := 7) (k := 114) rfl rfl
set_option maxRecDepth 4000 in
theorem W0_122 : (W0 L xs)[122]? = some (Sum.inl (0, 8, fun _ => Value.int 0)) := by unfold W0; exact xnl (l := 7) (k := 115) rfl rfl
set_option maxRecDepth 4000 in
theorem W0_123 : (W0 L xs)[123]? = some (Sum.inr (3, [Value.ref 124, Value.int 0])) := by unfold W0; exact xnl (l := 7) (k := 116) rfl rfl
set_option maxRecDepth 4000 in
theorem W0_124 : (W0 L xs)[124]? = some (Sum.inl (0, 8, fun _ => Value.int 0)) := by unfold W0; exact xnl (l := 7) (k := 117) rfl rfl
set_option maxRecDepth 4000 in
theorem W0_125 : (W0 L xs)[125]? = some (Sum.inr (2, [Value.int 64, Value.int 0, Value.int 0, Value.int 0, Value.ref 126])) := by unfold W0; exact xnl (l := 7) (k := 118) rfl rfl
set_option maxRecDepth 4000 in
theorem W0_126 : (W0 L xs)[126]? = some (Sum.inr (3, [Value.ref 127, Value.int 0])) := by unfold W0; exact xnl (l := 7) (k := 119) rfl rfl
set_option maxRecDepth 4000 in
theorem W0_127 : (W0 L xs)[127]? = some (Sum.inl (0, 8, fun _ => Value.int 0)) := by unfold W0; exact xnl (l := 7) (k := 120) rfl rfl
set_option maxRecDepth 4000 in
theorem W0_128 : (W0 L xs)[128]? = some (Sum.inr (12, [Value.ref 129, Value.ref 131, Value.ref 133, Value.ref 135, Value.ref 137, Value.ref 139, Value.ref 141, Value.ref 143, Value.ref 145, Value.ref 147, Value.ref 149, Value.ref 151, Value.ref 153, Value.ref 154, Value.ref 155, Value.ref 156, Value.ref 157, Value.int (-16384), Value.int 16384, Value.int 0, Value.int 0, Value.int 0, Value.ref 158, Value.ref 159, Value.int 0, Value.int 0, Value.int 0, Value.int 0, Value.int 0, Value.int 0, Value.int 0, Value.int 0])) := by unfold W0; exact xnl (l := 7) (k := 121) rfl rfl
set_option maxRecDepth 4000 in
theorem W0_129 : (W0 L xs)[129]? = some (Sum.inr (13, [Value.ref 130, Value.int 0])) := by unfold W0; exact xnl (l := 7) (k := 122) rfl rfl
set_option maxRecDepth 4000 in
theorem W0_130 : (W0 L xs)[130]? = some (Sum.inl (0, 4700, fun _ => Value.int 0)) := by unfold W0; exact xnl (l := 7) (k := 123) rfl rfl
set_option maxRecDepth 4000 in
theorem W0_131 : (W0 L xs)[131]? = some (Sum.inr (13, [Value.ref 132, Value.int 0])) := by unfold W0; exact xnl (l := 7) (k := 124) rfl rfl
set_option maxRecDepth 4000 in
theorem W0_132 : (W0 L xs)[132]? = some (Sum.inl (0, 4700, fun _ => Value.int 0)) := by unfold W0; exact xnl (l := 7) (k := 125) rfl rfl
set_option maxRecDepth 4000 in
theorem W0_133 : (W0 L xs)[133]? = some (Sum.inr (13, [Value.ref 134, Value.int 0])) := by unfold W0; exact xnl (l := 7) (k := 126) rfl rfl
set_option maxRecDepth 4000 in
theorem W0_134 : (W0 L xs)[134]? = some (Sum.inl (0, 4700, fun _ => Value.int 0)) := by unfold W0; exact xnl (l := 7) (k := 127) rfl rfl
set_option maxRecDepth 4000 in
theorem W0_135 : (W0 L xs)[135]? = some (Sum.inr (13, [Value.ref 136, Value.int 0])) := by unfold W0; exact xnl (l := 7) (k := 128) rfl rfl
set_option maxRecDepth 4000 in
theorem W0_136 : (W0 L xs)[136]? = some (Sum.inl (0, 4700, fun _ => Value.int 0)) := by unfold W0; exact xnl (l := 7) (k := 129) rfl rfl
set_option maxRecDepth 4000 in
theorem W0_137 : (W0 L xs)[137]? = some (Sum.inr (13, [Value.ref 138, Value.int 0])) := by unfold W0; exact xnl (l := 7) (k := 130) rfl rfl
set_option maxRecDepth 4000 in
theorem W0_138 : (W0 L xs)[138]? = some (Sum.inl (0, 4700, fun _ => Value.int 0)) := by unfold W0; exact xnl (l := 7) (k := 131) rfl rfl
set_option maxRecDepth 4000 in
theorem W0_139 : (W0 L xs)[139]? = some (Sum.inr (13, [Value.ref 140, Value.int 0])) := by unfold W0; exact xnl (l := 7) (k := 132) rfl rfl
set_option maxRecDepth 4000 in
theorem W0_140 : (W0 L xs)[140]? = some (Sum.inl (0, 4700, fun _ => Value.int 0)) := by unfold W0; exact xnl (l := 7) (k := 133) rfl rfl
set_option maxRecDepth 4000 in
theorem W0_141 : (W0 L xs)[141]? = some (Sum.inr (13, [Value.ref 142, Value.int 0])) := by unfold W0; exact xnl (l := 7) (k := 134) rfl rfl
set_option maxRecDepth 4000 in
theorem W0_142 : (W0 L xs)[142]? = some (Sum.inl (0, 4700, fun _ => Value.int 0)) := by unfold W0; exact xnl (l := 7) (k := 135) rfl rfl
set_option maxRecDepth 4000 in
theorem W0_143 : (W0 L xs)[143]? = some (Sum.inr (13, [Value.ref 144, Value.int 0])) := by unfold W0; exact xnl (l := 7) (k := 136) rfl rfl
set_option maxRecDepth 4000 in
theorem W0_144 : (W0 L xs)[144]? = some (Sum.inl (0, 4700, fun _ => Value.int 0)) := by unfold W0; exact xnl (l := 7) (k := 137) rfl rfl
set_option maxRecDepth 4000 in
theorem W0_145 : (W0 L xs)[145]? = some (Sum.inr (13, [Value.ref 146, Value.int 0])) := by unfold W0; exact xnl (l := 7) (k := 138) rfl rfl
set_option maxRecDepth 4000 in
theorem W0_146 : (W0 L xs)[146]? = some (Sum.inl (0, 4700, fun _ => Value.int 0)) := by unfold W0; exact xnl (l := 7) (k := 139) rfl rfl
set_option maxRecDepth 4000 in
theorem W0_147 : (W0 L xs)[147]? = some (Sum.inr (13, [Value.ref 148, Value.int 0])) := by unfold W0; exact xnl (l := 7) (k := 140) rfl rfl
set_option maxRecDepth 4000 in
theorem W0_148 : (W0 L xs)[148]? = some (Sum.inl (0, 4700, fun _ => Value.int 0)) := by unfold W0; exact xnl (l := 7) (k := 141) rfl rfl
set_option maxRecDepth 4000 in
theorem W0_149 : (W0 L xs)[149]? = some (Sum.inr (13, [Value.ref 150, Value.int 0])) := by unfold W0; exact xnl (l := 7) (k := 142) rfl rfl
set_option maxRecDepth 4000 in
theorem W0_150 : (W0 L xs)[150]? = some (Sum.inl (0, 4700, fun _ => Value.int 0)) := by unfold W0; exact xnl (l := 7) (k := 143) rfl rfl
set_option maxRecDepth 4000 in
theorem W0_151 : (W0 L xs)[151]? = some (Sum.inr (13, [Value.ref 152, Value.int 0])) := by unfold W0; exact xnl (l := 7) (k := 144) rfl rfl
set_option maxRecDepth 4000 in
theorem W0_152 : (W0 L xs)[152]? = some (Sum.inl (0, 4700, fun _ => Value.int 0)) := by unfold W0; exact xnl (l := 7) (k := 145) rfl rfl
set_option maxRecDepth 4000 in
theorem W0_153 : (W0 L xs)[153]? = some (Sum.inl (0, 17, gprec)) := by unfold W0; exact xnl (l := 7) (k := 146) rfl rfl
set_option maxRecDepth 4000 in
theorem W0_154 : (W0 L xs)[154]? = some (Sum.inl (0, 17, fun _ => Value.int 0)) := by unfold W0; exact xnl (l := 7) (k := 147) rfl rfl
set_option maxRecDepth 4000 in
theorem W0_155 : (W0 L xs)[155]? = some (Sum.inl (0, 17, fun _ => Value.int 0)) := by unfold W0; exact xnl (l := 7) (k := 148) rfl rfl
set_option maxRecDepth 4000 in
theorem W0_156 : (W0 L xs)[156]? = some (Sum.inl (2, 17, fun _ => Value.int 0)) := by unfold W0; exact xnl (l := 7) (k := 149) rfl rfl
set_option maxRecDepth 4000 in
theorem W0_157 : (W0 L xs)[157]? = some (Sum.inl (5, 17, gpart)) := by unfold W0; exact xnl (l := 7) (k := 150) rfl rfl
set_option maxRecDepth 4000 in
theorem W0_158 : (W0 L xs)[158]? = some (Sum.inl (1, 4096, fun _ => Value.int 0)) := by unfold W0; exact xnl (l := 7) (k := 151) rfl rfl
set_option maxRecDepth 4000 in
theorem W0_159 : (W0 L xs)[159]? = some (Sum.inl (1, 5000, fun _ => Value.int 0)) := by unfold W0; exact xnl (l := 7) (k := 152) rfl rfl
set_option maxRecDepth 4000 in
theorem W0_160 : (W0 L xs)[160]? = some (Sum.inr (13, [Value.ref 161, Value.int 0])) := by unfold W0; exact xnl (l := 7) (k := 153) rfl rfl
set_option maxRecDepth 4000 in
theorem W0_161 : (W0 L xs)[161]? = some (Sum.inl (0, 140, fun _ => Value.int 0)) := by unfold W0; exact xnl (l := 7) (k := 154) rfl rfl
set_option maxRecDepth 4000 in
theorem W0_162 : (W0 L xs)[162]? = some (Sum.inr (13, [Value.ref 163, Value.int 0])) := by unfold W0; exact xnl (l := 7) (k := 155) rfl rfl
set_option maxRecDepth 4000 in
theorem W0_163 : (W0 L xs)[163]? = some (Sum.inl (0, 140, fun _ => Value.int 0)) := by unfold W0; exact xnl (l := 7) (k := 156) rfl rfl
set_option maxRecDepth 4000 in
theorem W0_164 : (W0 L xs)[164]? = some (Sum.inr (13, [Value.ref 165, Value.int 0])) := by unfold W0; exact xnl (l := 7) (k := 157) rfl rfl
set_option maxRecDepth 4000 in
theorem W0_165 : (W0 L xs)[165]? = some (Sum.inl (0, 140, fun _ => Value.int 0)) := by unfold W0; exact xnl (l := 7) (k := 158) rfl rfl
set_option maxRecDepth 4000 in
theorem W0_166 : (W0 L xs)[166]? = some (Sum.inr (13, [Value.ref 167, Value.int 0])) := by unfold W0; exact xnl (l := 7) (k := 159) rfl rfl
set_option maxRecDepth 4000 in
theorem W0_167 : (W0 L xs)[167]? = some (Sum.inl (0, 140, fun _ => Value.int 0)) := by unfold W0; exact xnl (l := 7) (k := 160) rfl rfl
set_option maxRecDepth 4000 in
theorem W0_168 : (W0 L xs)[168]? = some (Sum.inr (13, [Value.ref 169, Value.int 0])) := by unfold W0; exact xnl (l := 7) (k := 161) rfl rfl
set_option maxRecDepth 4000 in
theorem W0_169 : (W0 L xs)[169]? = some (Sum.inl (0, 140, fun _ => Value.int 0)) := by unfold W0; exact xnl (l := 7) (k := 162) rfl rfl
set_option maxRecDepth 4000 in
theorem W0_170 : (W0 L xs)[170]? = some (Sum.inr (13, [Value.ref 171, Value.int 0])) := by unfold W0; exact xnl (l := 7) (k := 163) rfl rfl
set_option maxRecDepth 4000 in
theorem W0_171 : (W0 L xs)[171]? = some (Sum.inl (0, 140, fun _ => Value.int 0)) := by unfold W0; exact xnl (l := 7) (k := 164) rfl rfl
set_option maxRecDepth 4000 in
theorem W0_172 : (W0 L xs)[172]? = some (Sum.inr (13, [Value.ref 173, Value.int 0])) := by unfold W0; exact xnl (l := 7) (k := 165) rfl rfl
set_option maxRecDepth 4000 in
theorem W0_173 : (W0 L xs)[173]? = some (Sum.inl (0, 140, fun _ => Value.int 0)) := by unfold W0; exact xnl (l := 7) (k := 166) rfl rfl
set_option maxRecDepth 4000 in
theorem W0_174 : (W0 L xs)[174]? = some (Sum.inr (13, [Value.ref 175, Value.int 0])) := by unfold W0; exact xnl (l := 7) (k := 167) rfl rfl
set_option maxRecDepth 4000 in
theorem W0_175 : (W0 L xs)[175]? = some (Sum.inl (0, 140, fun _ => Value.int 0)) := by unfold W0; exact xnl (l := 7) (k := 168) rfl rfl
set_option maxRecDepth 4000 in
theorem W0_176 : (W0 L xs)[176]? = some (Sum.inr (13, [Value.ref 177, Value.int 0])) := by unfold W0; exact xnl (l := 7) (k := 169) rfl rfl
set_option maxRecDepth 4000 in
theorem W0_177 : (W0 L xs)[177]? = some (Sum.inl (0, 140, fun _ => Value.int 0)) := by unfold W0; exact xnl (l := 7) (k := 170) rfl rfl
set_option maxRecDepth 4000 in
theorem W0_178 : (W0 L xs)[178]? = some (Sum.inr (13, [Value.ref 179, Value.int 0])) := by unfold W0; exact xnl (l := 7) (k := 171) rfl rfl
set_option maxRecDepth 4000 in
theorem W0_179 : (W0 L xs)[179]? = some (Sum.inl (0, 140, fun _ => Value.int 0)) := by unfold W0; exact xnl (l := 7) (k := 172) rfl rfl
set_option maxRecDepth 4000 in
theorem W0_180 : (W0 L xs)[180]? = some (Sum.inr (13, [Value.ref 181, Value.int 0])) := by unfold W0; exact xnl (l := 7) (k := 173) rfl rfl
set_option maxRecDepth 4000 in
theorem W0_181 : (W0 L xs)[181]? = some (Sum.inl (0, 140, fun _ => Value.int 0)) := by unfold W0; exact xnl (l := 7) (k := 174) rfl rfl
set_option maxRecDepth 4000 in
theorem W0_182 : (W0 L xs)[182]? = some (Sum.inr (13, [Value.ref 183, Value.int 0])) := by unfold W0; exact xnl (l := 7) (k := 175) rfl rfl
set_option maxRecDepth 4000 in
theorem W0_183 : (W0 L xs)[183]? = some (Sum.inl (0, 140, fun _ => Value.int 0)) := by unfold W0; exact xnl (l := 7) (k := 176) rfl rfl
set_option maxRecDepth 4000 in
theorem W0_184 : (W0 L xs)[184]? = some (Sum.inr (13, [Value.ref 185, Value.int 0])) := by unfold W0; exact xnl (l := 7) (k := 177) rfl rfl
set_option maxRecDepth 4000 in
theorem W0_185 : (W0 L xs)[185]? = some (Sum.inl (0, 140, fun _ => Value.int 0)) := by unfold W0; exact xnl (l := 7) (k := 178) rfl rfl
set_option maxRecDepth 4000 in
theorem W0_186 : (W0 L xs)[186]? = some (Sum.inr (13, [Value.ref 187, Value.int 0])) := by unfold W0; exact xnl (l := 7) (k := 179) rfl rfl
set_option maxRecDepth 4000 in
theorem W0_187 : (W0 L xs)[187]? = some (Sum.inl (0, 140, fun _ => Value.int 0)) := by unfold W0; exact xnl (l := 7) (k := 180) rfl rfl
set_option maxRecDepth 4000 in
theorem W0_188 : (W0 L xs)[188]? = some (Sum.inr (13, [Value.ref 189, Value.int 0])) := by unfold W0; exact xnl (l := 7) (k := 181) rfl rfl
set_option maxRecDepth 4000 in
theorem W0_189 : (W0 L xs)[189]? = some (Sum.inl (0, 140, fun _ => Value.int 0)) := by unfold W0; exact xnl (l := 7) (k := 182) rfl rfl
set_option maxRecDepth 4000 in
theorem W0_190 : (W0 L xs)[190]? = some (Sum.inr (13, [Value.ref 191, Value.int 0])) := by unfold W0; exact xnl (l := 7) (k := 183) rfl rfl
set_option maxRecDepth 4000 in
theorem W0_191 : (W0 L xs)[191]? = some (Sum.inl (0, 140, fun _ => Value.int 0)) := by unfold W0; exact xnl (l := 7) (k := 184) rfl rfl
set_option maxRecDepth 4000 in
theorem W0_192 : (W0 L xs)[192]? = some (Sum.inr (13, [Value.ref 193, Value.int 0])) := by unfold W0; exact xnl (l := 7) (k := 185) rfl rfl
set_option maxRecDepth 4000 in
theorem W0_193 : (W0 L xs)[193]? = some (Sum.inl (0, 140, fun _ => Value.int 0)) := by unfold W0; exact xnl (l := 7) (k := 186) rfl rfl
set_option maxRecDepth 4000 in
theorem W0_194 : (W0 L xs)[194]? = some (Sum.inl (3, 1, fun _ => Value.long 0)) := by unfold W0; exact xnl (l := 7) (k := 187) rfl rfl
theorem W0_reg {j : Nat} (h : j < 16) : (W0 L xs)[30 + 3 * j]? = some (Sum.inr (2, [Value.int 64, Value.int 0, Value.int 0, Value.int 0, Value.ref (31 + 3 * j)])) := by
  match j, h with
  | 0, _ => exact W0_30
  | 1, _ => exact W0_33
  | 2, _ => exact W0_36
  | 3, _ => exact W0_39
  | 4, _ => exact W0_42
  | 5, _ => exact W0_45
  | 6, _ => exact W0_48
  | 7, _ => exact W0_51
  | 8, _ => exact W0_54
  | 9, _ => exact W0_57
  | 10, _ => exact W0_60
  | 11, _ => exact W0_63
  | 12, _ => exact W0_66
  | 13, _ => exact W0_69
  | 14, _ => exact W0_72
  | 15, _ => exact W0_75
  | k + 16, h => exact absurd h (by omega)
set_option maxRecDepth 8000 in
theorem W0_len : (W0 L xs).length = 195 := rfl
set_option maxRecDepth 8000 in
theorem W0_sz : xsz (W0 6 xs) = 76990 := by
  simp only [W0, xscr, xsz, List.cons_append, List.nil_append, List.map_cons, List.map_nil, List.sum_cons, List.sum_nil, xcs]
  rfl
end
