theorem s_24_4 {d : Nat} {w : xW} {b0 : Int64} (hw0 : w[16]? = some (Sum.inr (4, [Value.int 0, Value.ref 17, Value.int 0, Value.int 0]))) (hw1 : w[17]? = some (Sum.inr (3, [Value.ref 18, Value.int 0]))) (hw2 : w[18]? = some (Sum.inl (0, 8, fun _ => Value.int 0))) (hg3 : (xhi b0) = 0) (e4 : (xlo b0).toInt ≠ 0) : xRun (d + 2) 24 [Value.ref 16, Value.int 0, Value.long b0, Value.int (-1074)] w (.inl none) (((((w.set 16 (Sum.inr (4, [Value.int 0, Value.ref 17, Value.int 0, Value.int 0]))).set 18 (Sum.inl (0, 8, xup (xup (fun _ => Value.int 0) (0 : Int32).toInt.toNat (Value.int (xlo b0))) (1 : Int32).toInt.toNat (Value.int 0)))).set 17 (Sum.inr (3, [Value.ref 18, Value.int 2]))).set 17 (Sum.inr (3, [Value.ref 18, Value.int 1]))).set 16 (Sum.inr (4, [Value.int 0, Value.ref 17, Value.int (-1074), Value.int 0]))) := by
  refine xRun.of ?_
  refine i_24_0 (x := 16) rfl ?_
  refine i_24_1 (x := 0) rfl ?_
  refine i_24_2 (fs2 := [Value.int 0, Value.ref 17, Value.int 0, Value.int 0]) hw0 rfl (Nat.le_of_ble_eq_true rfl) rfl (by decide) ?_
  refine i_24_5 (x := 16) rfl ?_
  refine i_24_6 (v := Value.ref 17) (xgs hw0) rfl ?_
  refine i_24_9 (x := b0) rfl ?_
  refine i_24_10 (xgn (by decide) hw1) (Nat.le_of_ble_eq_true rfl) (s_25_0 (xgn (by decide) hw1) (xgn (by decide) hw2) hg3 e4) ?_
  refine i_24_13 (x := 16) rfl ?_
  refine i_24_14 (x := (-1074)) rfl ?_
  refine i_24_16 (fs2 := [Value.int 0, Value.ref 17, Value.int (-1074), Value.int 0]) (xgn (by decide) (xgn (by decide) (xgn (by decide) (xgs hw0)))) (Nat.le_of_ble_eq_true rfl) rfl (by decide) ?_
  refine i_24_19 (x := 16) rfl ?_
  refine i_24_20 ?_
  refine i_24_21 (fs2 := [Value.int 0, Value.ref 17, Value.int (-1074), Value.int 0]) (xgs (xgn (by decide) (xgn (by decide) (xgn (by decide) (xgs hw0))))) rfl (Nat.le_of_ble_eq_true rfl) rfl (by decide) ?_
  refine xEv.world (List.set_set _) ?_
  exact i_24_24 ⟨rfl, rfl⟩
theorem s_28_4 {d : Nat} {w : xW} {g0 : Nat → Value} {a0 : Int32} {a1 : Int32} {a2 : Int32} (hw0 : w[16]? = some (Sum.inr (4, [Value.int 0, Value.ref 17, Value.int (-1074), Value.int 0]))) (hw1 : w[17]? = some (Sum.inr (3, [Value.ref 18, Value.int 1]))) (hw2 : w[18]? = some (Sum.inl (0, 8, g0))) (hg3 : g0 (0 : Int32).toInt.toNat = Value.int a0) (hg4 : ((32 : Int32) - (xnlz a0)) = a1) (hg5 : (a1 + ((-1074) : Int32)) = a2) : xRun (d + 2) 28 [Value.ref 16] w (.inl (some (Value.int a2))) w := by
  refine xRun.of ?_
  refine i_28_0 (x := 16) rfl ?_
  refine i_28_1 (v := Value.ref 17) hw0 rfl ?_
  refine i_28_4 hw1 (Nat.le_of_ble_eq_true rfl) (s_29_0 hw1 hw2 hg3 hg4) ?_
  refine i_28_7 (x := 16) rfl ?_
  refine i_28_8 (v := Value.int (-1074)) hw0 rfl ?_
  refine i_28_11 (c := a2) hg5 ?_
  exact i_28_12 ⟨rfl, rfl⟩
theorem s_30_1 {d : Nat} {w : xW} {a0 : Int32} {a1 : Int32} (hw0 : w[78]? = some (Sum.inr (1, [Value.int (-16384), Value.int 16384, Value.int 0, Value.int 0]))) (hg1 : (a0 - (64 : Int32)) = a1) : xRun d 30 [Value.ref 78, Value.int a0, Value.int 64] w (.inl (some (Value.int a1))) w := by
  refine xRun.of ?_
  refine i_30_0 (x := 78) rfl ?_
  refine i_30_1 (v := Value.int 0) hw0 rfl ?_
  refine i_30_4 (fun _ => ?_) (fun h => absurd h (by decide))
  refine i_30_24 (x := a0) rfl ?_
  refine i_30_25 (x := 64) rfl ?_
  refine i_30_26 (c := a1) hg1 ?_
  exact i_30_27 ⟨rfl, rfl⟩
theorem s_32_4 {d : Nat} {w : xW} {a0 : Int32} {a1 : Int32} (hw0 : w[16]? = some (Sum.inr (4, [Value.int 0, Value.ref 17, Value.int (-1074), Value.int 0]))) (hg1 : (a0 - ((-1074) : Int32)) = a1) (hw2 : w[17]? = some (Sum.inr (3, [Value.ref 18, Value.int 1]))) (e3 : a1.toInt ≤ 0) : xRun (d + 1) 32 [Value.ref 16, Value.int a0] w (.inl (some (Value.int 1))) w := by
  refine xRun.of ?_
  refine i_32_0 (x := 16) rfl ?_
  refine i_32_1 (v := Value.int 0) hw0 rfl ?_
  refine i_32_4 (fun h => absurd h (by decide)) (fun _ => ?_)
  refine i_32_7 (x := 16) rfl ?_
  refine i_32_8 (v := Value.ref 17) hw0 rfl ?_
  refine i_32_11 (x := a0) rfl ?_
  refine i_32_12 (x := 16) rfl ?_
  refine i_32_13 (v := Value.int (-1074)) hw0 rfl ?_
  refine i_32_16 (c := a1) hg1 ?_
  refine i_32_17 hw2 (Nat.le_of_ble_eq_true rfl) (s_33_0 e3) ?_
  refine i_32_20 (fun h => absurd h (by decide)) (fun _ => ?_)
  refine i_32_23 ?_
  refine i_32_24 ?_
  exact i_32_28 rfl ⟨rfl, rfl⟩
theorem s_31_4 {d : Nat} {w : xW} {a0 : Int32} {a1 : Int32} {a2 : Int32} (hw0 : w[16]? = some (Sum.inr (4, [Value.int 0, Value.ref 17, Value.int (-1074), Value.int 0]))) (hg1 : (a0 - ((-1074) : Int32)) = a2) (hw2 : w[17]? = some (Sum.inr (3, [Value.ref 18, Value.int 1]))) (e3 : a2.toInt ≤ 0) : xRun (d + 2) 31 [Value.ref 16, Value.int a0, Value.int a1] w (.inl (some (Value.int 0))) w := by
  refine xRun.of ?_
  refine i_31_0 (x := 16) rfl ?_
  refine i_31_1 (x := a0) rfl ?_
  refine i_31_2 hw0 (Nat.le_of_ble_eq_true rfl) (s_32_4 hw0 hg1 hw2 e3) ?_
  refine i_31_5 (fun h => absurd h (by decide)) (fun _ => ?_)
  refine i_31_8 ?_
  exact i_31_9 rfl ⟨rfl, rfl⟩
theorem s_42_2 {d : Nat} {w : xW} {h0 : Nat} {a0 : Int32} {g0 : Nat → Value} {a1 : Int32} {a2 : Int32} {h1 : Nat} {a3 : Int32} (hw0 : w[17]? = some (Sum.inr (3, [Value.ref 18, Value.int 1]))) (hw1 : w[18]? = some (Sum.inl (0, 8, g0))) (hg2 : g0 (0 : Int32).toInt.toNat = Value.int a1) (hg3 : ((32 : Int32) - (xnlz a1)) = a2) (hg4 : (a2 + a0) = 64) (hw5 : w[h0]? = some (Sum.inr (3, [Value.ref h1, Value.int 0]))) (hw6 : w[h1]? = some (Sum.inl (0, 8, fun _ => Value.int 0))) (e7 : 0 ≤ a0.toInt) (hg8 : g0 (1 : Int32).toInt.toNat = Value.int 0) (e9 : 7 ≤ h1) (e10 : h1 ≠ h0) (hg11 : ((0 : Int32) - a0) = a3) (e12 : h1 ≠ 17) (e13 : h1 ≠ 18) (e14 : 7 ≤ h0) : xRun (d + 2) 42 [Value.ref h0, Value.ref 17, Value.int a0] w (.inl none) ((w.set h1 (Sum.inl (0, 8, xup (xup (fun _ => Value.int 0) (1 : Int32).toInt.toNat (Value.int (xbf 1 a1 (0 : Int32) ((32 : Int32) - a0)))) (0 : Int32).toInt.toNat (Value.int (xbf 1 a1 (0 : Int32) a3))))).set h0 (Sum.inr (3, [Value.ref h1, Value.int 2]))) := by
  refine xRun.of ?_
  refine i_42_0 (x := 17) rfl ?_
  refine i_42_1 (v := Value.int 1) hw0 rfl ?_
  refine i_42_4 (fun _ => ?_) (fun h => absurd h (by decide))
  refine i_42_11 ?_
  refine i_42_12 (x := 17) rfl ?_
  refine i_42_13 hw0 (Nat.le_of_ble_eq_true rfl) (s_29_0 hw0 hw1 hg2 hg3) ?_
  refine i_42_16 (x := a0) rfl ?_
  refine i_42_17 (c := 64) hg4 ?_
  refine i_42_18 ?_
  refine i_42_20 (c := 95) (by decide) ?_
  refine i_42_21 ?_
  refine i_42_22 (c := 2) (by decide) ?_
  refine i_42_23 (Nat.le_of_ble_eq_true rfl) (s_273_0) ?_
  refine i_42_26 (lv2 := [(3, Value.int 2), (0, Value.ref h0), (1, Value.ref 17), (2, Value.int a0)]) rfl ?_
  refine i_42_27 (x := h0) rfl ?_
  refine i_42_28 (x := 2) rfl ?_
  refine i_42_29 hw5 (Nat.le_of_ble_eq_true rfl) (s_41_0 hw5 hw6) ?_
  refine i_42_32 (x := a0) rfl ?_
  refine i_42_33 (fun h => absurd e7 (Int.not_le.mpr h)) (fun _ => ?_)
  refine i_42_36 (x := 2) rfl ?_
  refine i_42_37 ?_
  refine i_42_38 (c := 1) (by decide) ?_
  refine i_42_39 (lv2 := [(4, Value.int 1), (3, Value.int 2), (0, Value.ref h0), (1, Value.ref 17), (2, Value.int a0)]) rfl ?_
  refine i_42_41 (x := 1) rfl ?_
  refine i_42_43 (fun h => absurd h (by decide)) (fun _ => ?_)
  refine i_42_46 (x := h0) rfl ?_
  refine i_42_47 (v := Value.ref h1) hw5 rfl ?_
  refine i_42_50 (x := 1) rfl ?_
  refine i_42_52 (x := 17) rfl ?_
  refine i_42_53 ?_
  refine i_42_55 (x := 1) rfl ?_
  refine i_42_57 (c := 32) (by decide) ?_
  refine i_42_58 (x := a0) rfl ?_
  refine i_42_59 (c := ((32 : Int32) - a0)) rfl ?_
  refine i_42_60 hw0 (Nat.le_of_ble_eq_true rfl) (bf_run1 hw0 hw1 hg2 hg8) ?_
  refine i_42_63 (v := Value.int (xbf 1 a1 (0 : Int32) ((32 : Int32) - a0))) hw6 (by decide) (by decide) e9 rfl ?_
  refine i_42_64 (x := 1) (c := 0) (lv2 := [(4, Value.int 0), (3, Value.int 2), (0, Value.ref h0), (1, Value.ref 17), (2, Value.int a0)]) rfl (by decide) rfl ?_
  refine i_42_67 ?_
  refine i_42_41 (x := 0) rfl ?_
  refine i_42_43 (fun h => absurd h (by decide)) (fun _ => ?_)
  refine i_42_46 (x := h0) rfl ?_
  refine i_42_47 (v := Value.ref h1) (xgn e10 hw5) rfl ?_
  refine i_42_50 (x := 0) rfl ?_
  refine i_42_52 (x := 17) rfl ?_
  refine i_42_53 ?_
  refine i_42_55 (x := 0) rfl ?_
  refine i_42_57 (c := 0) (by decide) ?_
  refine i_42_58 (x := a0) rfl ?_
  refine i_42_59 (c := a3) hg11 ?_
  refine i_42_60 (xgn e12 hw0) (Nat.le_of_ble_eq_true rfl) (bf_run1 (xgn e12 hw0) (xgn e13 hw1) hg2 hg8) ?_
  refine i_42_63 (v := Value.int (xbf 1 a1 (0 : Int32) a3)) (xgs hw6) (by decide) (by decide) e9 rfl ?_
  refine xEv.world (List.set_set _) ?_
  refine i_42_64 (x := 0) (c := (-1)) (lv2 := [(4, Value.int (-1)), (3, Value.int 2), (0, Value.ref h0), (1, Value.ref 17), (2, Value.int a0)]) rfl (by decide) rfl ?_
  refine i_42_67 ?_
  refine i_42_41 (x := (-1)) rfl ?_
  refine i_42_43 (fun _ => ?_) (fun h => absurd h (by decide))
  refine i_42_70 ?_
  refine i_42_106 (x := h0) rfl ?_
  refine i_42_107 (x := 2) rfl ?_
  refine i_42_108 (fs2 := [Value.ref h1, Value.int 2]) (xgn e10 hw5) (Nat.le_of_ble_eq_true rfl) rfl e14 ?_
  exact i_42_111 ⟨rfl, rfl⟩
theorem s_38_4 {d : Nat} {w : xW} {h0 : Nat} {a0 : Int32} {g0 : Nat → Value} {a1 : Int32} {a2 : Int32} {a3 : Int32} {h1 : Nat} {a4 : Int32} {h2 : Nat} {a5 : Int32} (hw0 : w[16]? = some (Sum.inr (4, [Value.int 0, Value.ref 17, Value.int (-1074), Value.int 0]))) (hw1 : w[17]? = some (Sum.inr (3, [Value.ref 18, Value.int 1]))) (hw2 : w[18]? = some (Sum.inl (0, 8, g0))) (hg3 : g0 (0 : Int32).toInt.toNat = Value.int a1) (hg4 : ((32 : Int32) - (xnlz a1)) = a2) (hg5 : (a2 + ((-1074) : Int32)) = a3) (hg6 : (a3 - a0) = 64) (hw7 : w[h0]? = some (Sum.inr (2, [Value.int 64, Value.int 0, Value.int 0, Value.int 0, Value.ref h1]))) (e8 : 7 ≤ h0) (e9 : h0 ≠ 16) (e10 : h0 ≠ 17) (e11 : h0 ≠ 18) (hg12 : ((64 : Int32) - a2) = a4) (e13 : h0 ≠ h1) (hw14 : w[h1]? = some (Sum.inr (3, [Value.ref h2, Value.int 0]))) (hg15 : (a2 + a4) = 64) (e16 : h0 ≠ h2) (hw17 : w[h2]? = some (Sum.inl (0, 8, fun _ => Value.int 0))) (e18 : 0 ≤ a4.toInt) (hg19 : g0 (1 : Int32).toInt.toNat = Value.int 0) (e20 : 7 ≤ h2) (e21 : h2 ≠ h1) (hg22 : ((0 : Int32) - a4) = a5) (e23 : h2 ≠ 17) (e24 : h2 ≠ 18) (e25 : 7 ≤ h1) (e26 : h1 ≠ h0) (e27 : h2 ≠ h0) (e28 : h1 ≠ h2) (e29 : (xbf 1 a1 (0 : Int32) ((32 : Int32) - a4)).toInt ≠ 0) (e30 : ((64 : Int32) - (xnlz (xbf 1 a1 (0 : Int32) ((32 : Int32) - a4)))).toInt ≤ 64) : xRun (d + 3) 38 [Value.ref h0, Value.ref 16, Value.int a0, Value.int 0] w (.inl none) (((w.set h0 (Sum.inr (2, [Value.int 64, Value.int 3, Value.int 0, Value.int a3, Value.ref h1]))).set h2 (Sum.inl (0, 8, xup (xup (fun _ => Value.int 0) (1 : Int32).toInt.toNat (Value.int (xbf 1 a1 (0 : Int32) ((32 : Int32) - a4)))) (0 : Int32).toInt.toNat (Value.int (xbf 1 a1 (0 : Int32) a5))))).set h1 (Sum.inr (3, [Value.ref h2, Value.int 2]))) := by
  refine xRun.of ?_
  refine i_38_0 (x := 16) rfl ?_
  refine i_38_1 hw0 (Nat.le_of_ble_eq_true rfl) (s_28_4 hw0 hw1 hw2 hg3 hg4 hg5) ?_
  refine i_38_4 (lv2 := [(4, Value.int a3), (0, Value.ref h0), (1, Value.ref 16), (2, Value.int a0), (3, Value.int 0)]) rfl ?_
  refine i_38_6 (x := a3) rfl ?_
  refine i_38_8 (x := a0) rfl ?_
  refine i_38_9 (c := 64) hg6 ?_
  refine i_38_10 (lv2 := [(5, Value.int 64), (4, Value.int a3), (0, Value.ref h0), (1, Value.ref 16), (2, Value.int a0), (3, Value.int 0)]) rfl ?_
  refine i_38_12 (x := 64) rfl ?_
  refine i_38_14 (fun _ => ?_) (fun h => absurd h (by decide))
  refine i_38_31 (x := 64) rfl ?_
  refine i_38_33 (fun _ => ?_) (fun h => absurd h (by decide))
  refine i_38_48 (x := h0) rfl ?_
  refine i_38_49 ?_
  refine i_38_50 (fs2 := [Value.int 64, Value.int 3, Value.int 0, Value.int 0, Value.ref h1]) hw7 (Nat.le_of_ble_eq_true rfl) rfl e8 ?_
  refine i_38_53 (x := h0) rfl ?_
  refine i_38_54 (x := 16) rfl ?_
  refine i_38_55 (v := Value.int 0) (xgn e9 hw0) rfl ?_
  refine i_38_58 (fs2 := [Value.int 64, Value.int 3, Value.int 0, Value.int 0, Value.ref h1]) (xgs hw7) rfl (Nat.le_of_ble_eq_true rfl) rfl e8 ?_
  refine xEv.world (List.set_set _) ?_
  refine i_38_61 (x := h0) rfl ?_
  refine i_38_62 (x := a3) rfl ?_
  refine i_38_64 (fs2 := [Value.int 64, Value.int 3, Value.int 0, Value.int a3, Value.ref h1]) (xgs hw7) (Nat.le_of_ble_eq_true rfl) rfl e8 ?_
  refine xEv.world (List.set_set _) ?_
  refine i_38_67 (x := h0) rfl ?_
  refine i_38_68 (v := Value.ref h1) (xgs hw7) rfl ?_
  refine i_38_71 (x := 16) rfl ?_
  refine i_38_72 (v := Value.ref 17) (xgn e9 hw0) rfl ?_
  refine i_38_75 (x := h0) rfl ?_
  refine i_38_76 (v := Value.int 64) (xgs hw7) rfl ?_
  refine i_38_79 (x := 16) rfl ?_
  refine i_38_80 (v := Value.ref 17) (xgn e9 hw0) rfl ?_
  refine i_38_83 (xgn e10 hw1) (Nat.le_of_ble_eq_true rfl) (s_29_0 (xgn e10 hw1) (xgn e11 hw2) hg3 hg4) ?_
  refine i_38_86 (c := a4) hg12 ?_
  refine i_38_87 (xgn e13 hw14) (Nat.le_of_ble_eq_true rfl) (s_42_2 (xgn e10 hw1) (xgn e11 hw2) hg3 hg4 hg15 (xgn e13 hw14) (xgn e16 hw17) e18 hg19 e20 e21 hg22 e23 e24 e25) ?_
  refine i_38_90 (x := h0) rfl ?_
  refine i_38_91 (v := Value.ref h1) (xgn e26 (xgn e27 (xgs hw7))) rfl ?_
  refine i_38_94 (x := h0) rfl ?_
  refine i_38_95 (v := Value.int 64) (xgn e26 (xgn e27 (xgs hw7))) rfl ?_
  refine i_38_98 (x := 64) rfl ?_
  refine i_38_100 (c := 0) (by decide) ?_
  refine i_38_101 (xgs (xgn e21 (xgn e13 hw14))) (Nat.le_of_ble_eq_true rfl) (s_43_0 (xgs (xgn e21 (xgn e13 hw14))) (xgn e28 (xgs (xgn e16 hw17))) (xup_n (by decide) xup_s) e29) ?_
  refine i_38_104 (x := 0) rfl ?_
  refine i_38_105 (fun _ => ?_) (fun h => absurd h (by decide))
  refine i_38_122 (x := h0) rfl ?_
  refine i_38_123 (v := Value.ref h1) (xgn e26 (xgn e27 (xgs hw7))) rfl ?_
  refine i_38_126 (xgs (xgn e21 (xgn e13 hw14))) (Nat.le_of_ble_eq_true rfl) (s_29_1 (xgs (xgn e21 (xgn e13 hw14))) (xgn e28 (xgs (xgn e16 hw17))) (xup_n (by decide) xup_s)) ?_
  refine i_38_129 (x := h0) rfl ?_
  refine i_38_130 (v := Value.int 64) (xgn e26 (xgn e27 (xgs hw7))) rfl ?_
  refine i_38_133 (fun _ => ?_) (fun h => absurd e30 (Int.not_le.mpr h))
  exact i_38_148 ⟨rfl, rfl⟩
theorem s_27_60 {d : Nat} {w : xW} {h0 : Nat} {a0 : Int32} {g0 : Nat → Value} {a1 : Int32} {a2 : Int32} {a3 : Int32} {h1 : Nat} {a4 : Int32} {a5 : Int32} {a6 : Int32} {h2 : Nat} (hw0 : w[16]? = some (Sum.inr (4, [Value.int 0, Value.ref 17, Value.int (-1074), Value.int 0]))) (hw1 : w[17]? = some (Sum.inr (3, [Value.ref 18, Value.int 1]))) (hw2 : w[18]? = some (Sum.inl (0, 8, g0))) (hg3 : g0 (0 : Int32).toInt.toNat = Value.int a1) (hg4 : ((32 : Int32) - (xnlz a1)) = a2) (hg5 : (a2 + ((-1074) : Int32)) = a3) (hw6 : w[h0]? = some (Sum.inr (2, [Value.int 64, Value.int 0, Value.int 0, Value.int 0, Value.ref h1]))) (hw7 : w[78]? = some (Sum.inr (1, [Value.int (-16384), Value.int 16384, Value.int 0, Value.int 0]))) (hg8 : (a3 - (64 : Int32)) = a4) (hg9 : (a4 - ((-1074) : Int32)) = a5) (e10 : a5.toInt ≤ 0) (hg11 : (a3 - a4) = 64) (e12 : 7 ≤ h0) (e13 : h0 ≠ 16) (e14 : h0 ≠ 17) (e15 : h0 ≠ 18) (hg16 : ((64 : Int32) - a2) = a6) (e17 : h0 ≠ h1) (hw18 : w[h1]? = some (Sum.inr (3, [Value.ref h2, Value.int 0]))) (hg19 : (a2 + a6) = 64) (e20 : h0 ≠ h2) (hw21 : w[h2]? = some (Sum.inl (0, 8, fun _ => Value.int 0))) (e22 : 0 ≤ a6.toInt) (hg23 : g0 (1 : Int32).toInt.toNat = Value.int 0) (e24 : 7 ≤ h2) (e25 : h2 ≠ h1) (hg26 : ((0 : Int32) - a6) = a5) (e27 : h2 ≠ 17) (e28 : h2 ≠ 18) (e29 : 7 ≤ h1) (e30 : h1 ≠ h0) (e31 : h2 ≠ h0) (e32 : h1 ≠ h2) (e33 : (xbf 1 a1 (0 : Int32) ((32 : Int32) - a6)).toInt ≠ 0) (e34 : ((64 : Int32) - (xnlz (xbf 1 a1 (0 : Int32) ((32 : Int32) - a6)))).toInt ≤ 64) (e35 : h1 ≠ 78) (e36 : h2 ≠ 78) (e37 : h0 ≠ 78) (e38 : a3.toInt ≤ 16384) (e39 : (-16384) ≤ a3.toInt) (e40 : h1 ≠ 16) (e41 : h2 ≠ 16) : xRun (d + 4) 27 [Value.ref 78, Value.ref h0, Value.ref 16, Value.int a0] w (.inl (some (Value.int 0))) (((w.set h0 (Sum.inr (2, [Value.int 64, Value.int 3, Value.int 0, Value.int a3, Value.ref h1]))).set h2 (Sum.inl (0, 8, xup (xup (fun _ => Value.int 0) (1 : Int32).toInt.toNat (Value.int (xbf 1 a1 (0 : Int32) ((32 : Int32) - a6)))) (0 : Int32).toInt.toNat (Value.int (xbf 1 a1 (0 : Int32) a5))))).set h1 (Sum.inr (3, [Value.ref h2, Value.int 2]))) := by
  refine xRun.of ?_
  refine i_27_0 (x := 16) rfl ?_
  refine i_27_1 hw0 (Nat.le_of_ble_eq_true rfl) (s_28_4 hw0 hw1 hw2 hg3 hg4 hg5) ?_
  refine i_27_4 (lv2 := [(4, Value.int a3), (0, Value.ref 78), (1, Value.ref h0), (2, Value.ref 16), (3, Value.int a0)]) rfl ?_
  refine i_27_6 (x := 78) rfl ?_
  refine i_27_7 (x := a3) rfl ?_
  refine i_27_9 (x := h0) rfl ?_
  refine i_27_10 (v := Value.int 64) hw6 rfl ?_
  refine i_27_13 hw7 (Nat.le_of_ble_eq_true rfl) (s_30_1 hw7 hg8) ?_
  refine i_27_16 (lv2 := [(5, Value.int a4), (4, Value.int a3), (0, Value.ref 78), (1, Value.ref h0), (2, Value.ref 16), (3, Value.int a0)]) rfl ?_
  refine i_27_18 (x := 16) rfl ?_
  refine i_27_19 (x := a4) rfl ?_
  refine i_27_21 (x := a0) rfl ?_
  refine i_27_22 hw0 (Nat.le_of_ble_eq_true rfl) (s_31_4 hw0 hg9 hw1 e10) ?_
  refine i_27_25 (lv2 := [(6, Value.int 0), (5, Value.int a4), (4, Value.int a3), (0, Value.ref 78), (1, Value.ref h0), (2, Value.ref 16), (3, Value.int a0)]) rfl ?_
  refine i_27_27 (x := 16) rfl ?_
  refine i_27_28 (x := a4) rfl ?_
  refine i_27_30 hw0 (Nat.le_of_ble_eq_true rfl) (s_32_4 hw0 hg9 hw1 e10) ?_
  refine i_27_33 (fun h => absurd h (by decide)) (fun _ => ?_)
  refine i_27_36 ?_
  refine i_27_37 ?_
  refine i_27_50 (lv2 := [(7, Value.int 0), (6, Value.int 0), (5, Value.int a4), (4, Value.int a3), (0, Value.ref 78), (1, Value.ref h0), (2, Value.ref 16), (3, Value.int a0)]) rfl ?_
  refine i_27_52 (x := h0) rfl ?_
  refine i_27_53 (x := 16) rfl ?_
  refine i_27_54 (x := a4) rfl ?_
  refine i_27_56 (x := 0) rfl ?_
  refine i_27_58 hw6 (Nat.le_of_ble_eq_true rfl) (s_38_4 hw0 hw1 hw2 hg3 hg4 hg5 hg11 hw6 e12 e13 e14 e15 hg16 e17 hw18 hg19 e20 hw21 e22 hg23 e24 e25 hg26 e27 e28 e29 e30 e31 e32 e33 e34) ?_
  refine i_27_61 (x := h0) rfl ?_
  refine i_27_62 (v := Value.int 3) (xgn e30 (xgn e31 (xgs hw6))) rfl ?_
  refine i_27_65 ?_
  refine i_27_66 (fun h => absurd h (by decide)) (fun _ => ?_)
  refine i_27_69 (x := h0) rfl ?_
  refine i_27_70 (v := Value.int a3) (xgn e30 (xgn e31 (xgs hw6))) rfl ?_
  refine i_27_73 (x := 78) rfl ?_
  refine i_27_74 (v := Value.int 16384) (xgn e35 (xgn e36 (xgn e37 hw7))) rfl ?_
  refine i_27_77 (fun _ => ?_) (fun h => absurd e38 (Int.not_le.mpr h))
  refine i_27_95 (x := h0) rfl ?_
  refine i_27_96 (v := Value.int 3) (xgn e30 (xgn e31 (xgs hw6))) rfl ?_
  refine i_27_99 ?_
  refine i_27_100 (fun h => absurd h (by decide)) (fun _ => ?_)
  refine i_27_103 (x := 78) rfl ?_
  refine i_27_104 (v := Value.int 0) (xgn e35 (xgn e36 (xgn e37 hw7))) rfl ?_
  refine i_27_107 (fun h => absurd h (by decide)) (fun _ => ?_)
  refine i_27_110 (x := h0) rfl ?_
  refine i_27_111 (v := Value.int a3) (xgn e30 (xgn e31 (xgs hw6))) rfl ?_
  refine i_27_114 (x := 78) rfl ?_
  refine i_27_115 (v := Value.int (-16384)) (xgn e35 (xgn e36 (xgn e37 hw7))) rfl ?_
  refine i_27_118 (fun _ => ?_) (fun h => absurd e39 (Int.not_le.mpr h))
  refine i_27_133 (x := 78) rfl ?_
  refine i_27_134 (v := Value.int 0) (xgn e35 (xgn e36 (xgn e37 hw7))) rfl ?_
  refine i_27_137 (fun _ => ?_) (fun h => absurd h (by decide))
  refine i_27_164 (x := 0) rfl ?_
  refine i_27_166 (fun _ => ?_) (fun h => absurd h (by decide))
  refine i_27_179 (x := 16) rfl ?_
  refine i_27_180 (v := Value.int 0) (xgn e40 (xgn e41 (xgn e13 hw0))) rfl ?_
  refine i_27_183 (fun _ => ?_) (fun h => absurd h (by decide))
  refine i_27_192 (x := 0) rfl ?_
  exact i_27_194 ⟨rfl, rfl⟩
theorem s_128_0 {d : Nat} {w : xW} {a0 : Int32} {b0 : Int64} {a1 : Int32} {g0 : Nat → Value} {h0 : Nat} {a2 : Int32} {a3 : Int32} {h1 : Nat} {a4 : Int32} {a5 : Int32} {a6 : Int32} {h2 : Nat} (e0 : 0 ≤ a0.toInt) (e1 : a0.toInt < 16) (e2 : 0 ≤ a1.toInt) (e3 : a1.toInt ≤ 4) (hw4 : w[7]? = some (Sum.inr (0, [Value.ref 8, Value.ref 78, Value.ref 9, Value.ref 10, Value.ref 13, Value.ref 16, Value.ref 19, Value.ref 93, Value.ref 108, Value.ref 113, Value.ref 29, Value.int 0]))) (hw5 : w[8]? = some (Sum.inl (4, 16, g0))) (hg6 : g0 a0.toInt.toNat = Value.ref h0) (e7 : 0 ≤ (lg_cmp b0 (0 : Int64)).toInt) (hg8 : (xfd b0) = 0) (e9 : (lg_cmp (xfr b0) (0 : Int64)).toInt ≠ 0) (hw10 : w[16]? = some (Sum.inr (4, [Value.int 0, Value.ref 17, Value.int 0, Value.int 0]))) (hw11 : w[17]? = some (Sum.inr (3, [Value.ref 18, Value.int 0]))) (hw12 : w[18]? = some (Sum.inl (0, 8, fun _ => Value.int 0))) (hg13 : (xhi (xfr b0)) = 0) (e14 : (xlo (xfr b0)).toInt ≠ 0) (hw15 : w[78]? = some (Sum.inr (1, [Value.int (-16384), Value.int 16384, Value.int 0, Value.int 0]))) (hg16 : ((32 : Int32) - (xnlz (xlo (xfr b0)))) = a2) (hg17 : (a2 + ((-1074) : Int32)) = a3) (e18 : 16 ≠ h0) (e19 : 17 ≠ h0) (e20 : 18 ≠ h0) (hw21 : w[h0]? = some (Sum.inr (2, [Value.int 64, Value.int 0, Value.int 0, Value.int 0, Value.ref h1]))) (hg22 : (a3 - (64 : Int32)) = a4) (hg23 : (a4 - ((-1074) : Int32)) = a5) (e24 : a5.toInt ≤ 0) (hg25 : (a3 - a4) = 64) (e26 : 7 ≤ h0) (e27 : h0 ≠ 16) (e28 : h0 ≠ 17) (e29 : h0 ≠ 18) (hg30 : ((64 : Int32) - a2) = a6) (e31 : h0 ≠ h1) (e32 : 16 ≠ h1) (e33 : 17 ≠ h1) (e34 : 18 ≠ h1) (hw35 : w[h1]? = some (Sum.inr (3, [Value.ref h2, Value.int 0]))) (hg36 : (a2 + a6) = 64) (e37 : h0 ≠ h2) (e38 : 16 ≠ h2) (e39 : 17 ≠ h2) (e40 : 18 ≠ h2) (hw41 : w[h2]? = some (Sum.inl (0, 8, fun _ => Value.int 0))) (e42 : 0 ≤ a6.toInt) (e43 : 7 ≤ h2) (e44 : h2 ≠ h1) (hg45 : ((0 : Int32) - a6) = a5) (e46 : h2 ≠ 17) (e47 : h2 ≠ 18) (e48 : 7 ≤ h1) (e49 : h1 ≠ h0) (e50 : h2 ≠ h0) (e51 : h1 ≠ h2) (e52 : (xbf 1 (xlo (xfr b0)) (0 : Int32) ((32 : Int32) - a6)).toInt ≠ 0) (e53 : ((64 : Int32) - (xnlz (xbf 1 (xlo (xfr b0)) (0 : Int32) ((32 : Int32) - a6)))).toInt ≤ 64) (e54 : h1 ≠ 78) (e55 : h2 ≠ 78) (e56 : h0 ≠ 78) (e57 : a3.toInt ≤ 16384) (e58 : (-16384) ≤ a3.toInt) (e59 : h1 ≠ 16) (e60 : h2 ≠ 16) : xRun (d + 5) 128 [Value.ref 7, Value.int a0, Value.long b0, Value.int a1] w (.inl (some (Value.int 0))) ((((((((w.set 16 (Sum.inr (4, [Value.int 0, Value.ref 17, Value.int 0, Value.int 0]))).set 18 (Sum.inl (0, 8, xup (xup (fun _ => Value.int 0) (0 : Int32).toInt.toNat (Value.int (xlo (xfr b0)))) (1 : Int32).toInt.toNat (Value.int 0)))).set 17 (Sum.inr (3, [Value.ref 18, Value.int 2]))).set 17 (Sum.inr (3, [Value.ref 18, Value.int 1]))).set 16 (Sum.inr (4, [Value.int 0, Value.ref 17, Value.int (-1074), Value.int 0]))).set h0 (Sum.inr (2, [Value.int 64, Value.int 3, Value.int 0, Value.int a3, Value.ref h1]))).set h2 (Sum.inl (0, 8, xup (xup (fun _ => Value.int 0) (1 : Int32).toInt.toNat (Value.int (xbf 1 (xlo (xfr b0)) (0 : Int32) ((32 : Int32) - a6)))) (0 : Int32).toInt.toNat (Value.int (xbf 1 (xlo (xfr b0)) (0 : Int32) a5))))).set h1 (Sum.inr (3, [Value.ref h2, Value.int 2]))) := by
  refine xRun.of ?_
  refine i_128_0 (x := a0) rfl ?_
  refine i_128_1 (Nat.le_of_ble_eq_true rfl) (s_15_0 e0 e1) ?_
  refine i_128_4 (fun h => absurd h (by decide)) (fun _ => ?_)
  refine i_128_7 (x := a1) rfl ?_
  refine i_128_9 (Nat.le_of_ble_eq_true rfl) (s_22_0 e2 e3) ?_
  refine i_128_12 (fun _ => ?_) (fun h => absurd h (by decide))
  refine i_128_23 (x := 7) rfl ?_
  refine i_128_24 (v := Value.ref 8) hw4 rfl ?_
  refine i_128_27 (x := a0) rfl ?_
  refine i_128_28 (v := Value.ref h0) hw5 e0 e1 hg6 ?_
  refine i_128_29 (lv2 := [(5, Value.ref h0), (0, Value.ref 7), (1, Value.int a0), (2, Value.long b0), (4, Value.int a1)]) rfl ?_
  refine i_128_31 (x := b0) rfl ?_
  refine i_128_32 ?_
  refine i_128_33 (c := (lg_cmp b0 (0 : Int64))) rfl ?_
  refine i_128_34 (fun _ => ?_) (fun h => absurd e7 (Int.not_le.mpr h))
  refine i_128_41 ?_
  refine i_128_42 (lv2 := [(6, Value.int 0), (5, Value.ref h0), (0, Value.ref 7), (1, Value.int a0), (2, Value.long b0), (4, Value.int a1)]) rfl ?_
  refine i_128_44 (x := b0) rfl ?_
  refine i_128_45 ?_
  refine i_128_47 (c := (xsr b0 52)) rfl ?_
  refine i_128_48 (c := (xsr b0 52).toInt32) rfl ?_
  refine i_128_49 ?_
  refine i_128_52 (c := 0) hg8 ?_
  refine i_128_53 (lv2 := [(7, Value.int 0), (6, Value.int 0), (5, Value.ref h0), (0, Value.ref 7), (1, Value.int a0), (2, Value.long b0), (4, Value.int a1)]) rfl ?_
  refine i_128_55 (x := b0) rfl ?_
  refine i_128_56 ?_
  refine i_128_59 (c := (xfr b0)) rfl ?_
  refine i_128_60 (lv2 := [(8, Value.long (xfr b0)), (7, Value.int 0), (6, Value.int 0), (5, Value.ref h0), (0, Value.ref 7), (1, Value.int a0), (2, Value.long b0), (4, Value.int a1)]) rfl ?_
  refine i_128_62 (x := 0) rfl ?_
  refine i_128_64 ?_
  refine i_128_67 (fun _ => ?_) (fun h => absurd h (by decide))
  refine i_128_90 (x := 0) rfl ?_
  refine i_128_92 (fun h => absurd h (by decide)) (fun _ => ?_)
  refine i_128_95 (x := (xfr b0)) rfl ?_
  refine i_128_97 ?_
  refine i_128_98 (c := (lg_cmp (xfr b0) (0 : Int64))) rfl ?_
  refine i_128_99 (fun _ => ?_) (fun h => absurd e9 (fun g => g h))
  refine i_128_110 (x := 0) rfl ?_
  refine i_128_112 (fun h => absurd h (by decide)) (fun _ => ?_)
  refine i_128_115 (x := 7) rfl ?_
  refine i_128_116 (v := Value.ref 16) hw4 rfl ?_
  refine i_128_119 (x := 0) rfl ?_
  refine i_128_121 (x := (xfr b0)) rfl ?_
  refine i_128_123 ?_
  refine i_128_126 hw10 (Nat.le_of_ble_eq_true rfl) (s_24_4 hw10 hw11 hw12 hg13 e14) ?_
  refine i_128_129 ?_
  refine i_128_153 (x := 7) rfl ?_
  refine i_128_154 (v := Value.ref 78) (xgn (by decide) (xgn (by decide) (xgn (by decide) (xgn (by decide) (xgn (by decide) hw4))))) rfl ?_
  refine i_128_157 (x := h0) rfl ?_
  refine i_128_159 (x := 7) rfl ?_
  refine i_128_160 (v := Value.ref 16) (xgn (by decide) (xgn (by decide) (xgn (by decide) (xgn (by decide) (xgn (by decide) hw4))))) rfl ?_
  refine i_128_163 (x := a1) rfl ?_
  refine i_128_165 (xgn (by decide) (xgn (by decide) (xgn (by decide) (xgn (by decide) (xgn (by decide) hw15))))) (Nat.le_of_ble_eq_true rfl) (s_27_60 (xgs (xgn (by decide) (xgn (by decide) (xgn (by decide) (xgs hw10))))) (xgn (by decide) (xgs (xgs (xgn (by decide) (xgn (by decide) hw11))))) (xgn (by decide) (xgn (by decide) (xgn (by decide) (xgs (xgn (by decide) hw12))))) (xup_n (by decide) xup_s) hg16 hg17 (xgn e18 (xgn e19 (xgn e19 (xgn e20 (xgn e18 hw21))))) (xgn (by decide) (xgn (by decide) (xgn (by decide) (xgn (by decide) (xgn (by decide) hw15))))) hg22 hg23 e24 hg25 e26 e27 e28 e29 hg30 e31 (xgn e32 (xgn e33 (xgn e33 (xgn e34 (xgn e32 hw35))))) hg36 e37 (xgn e38 (xgn e39 (xgn e39 (xgn e40 (xgn e38 hw41))))) e42 xup_s e43 e44 hg45 e46 e47 e48 e49 e50 e51 e52 e53 e54 e55 e56 e57 e58 e59 e60) ?_
  exact i_128_168 ⟨rfl, rfl⟩
theorem s_127_0 {d : Nat} {w : xW} {a0 : Int32} {b0 : Int64} {a1 : Int32} {g0 : Nat → Value} {h0 : Nat} {a2 : Int32} {a3 : Int32} {h1 : Nat} {a4 : Int32} {a5 : Int32} {a6 : Int32} {h2 : Nat} (hw0 : w[7]? = some (Sum.inr (0, [Value.ref 8, Value.ref 78, Value.ref 9, Value.ref 10, Value.ref 13, Value.ref 16, Value.ref 19, Value.ref 93, Value.ref 108, Value.ref 113, Value.ref 29, Value.int 0]))) (e1 : 0 ≤ a0.toInt) (e2 : a0.toInt < 16) (e3 : 0 ≤ a1.toInt) (e4 : a1.toInt ≤ 4) (hw5 : w[8]? = some (Sum.inl (4, 16, g0))) (hg6 : g0 a0.toInt.toNat = Value.ref h0) (e7 : 0 ≤ (lg_cmp b0 (0 : Int64)).toInt) (hg8 : (xfd b0) = 0) (e9 : (lg_cmp (xfr b0) (0 : Int64)).toInt ≠ 0) (hw10 : w[16]? = some (Sum.inr (4, [Value.int 0, Value.ref 17, Value.int 0, Value.int 0]))) (hw11 : w[17]? = some (Sum.inr (3, [Value.ref 18, Value.int 0]))) (hw12 : w[18]? = some (Sum.inl (0, 8, fun _ => Value.int 0))) (hg13 : (xhi (xfr b0)) = 0) (e14 : (xlo (xfr b0)).toInt ≠ 0) (hw15 : w[78]? = some (Sum.inr (1, [Value.int (-16384), Value.int 16384, Value.int 0, Value.int 0]))) (hg16 : ((32 : Int32) - (xnlz (xlo (xfr b0)))) = a2) (hg17 : (a2 + ((-1074) : Int32)) = a3) (e18 : 16 ≠ h0) (e19 : 17 ≠ h0) (e20 : 18 ≠ h0) (hw21 : w[h0]? = some (Sum.inr (2, [Value.int 64, Value.int 0, Value.int 0, Value.int 0, Value.ref h1]))) (hg22 : (a3 - (64 : Int32)) = a4) (hg23 : (a4 - ((-1074) : Int32)) = a5) (e24 : a5.toInt ≤ 0) (hg25 : (a3 - a4) = 64) (e26 : 7 ≤ h0) (e27 : h0 ≠ 16) (e28 : h0 ≠ 17) (e29 : h0 ≠ 18) (hg30 : ((64 : Int32) - a2) = a6) (e31 : h0 ≠ h1) (e32 : 16 ≠ h1) (e33 : 17 ≠ h1) (e34 : 18 ≠ h1) (hw35 : w[h1]? = some (Sum.inr (3, [Value.ref h2, Value.int 0]))) (hg36 : (a2 + a6) = 64) (e37 : h0 ≠ h2) (e38 : 16 ≠ h2) (e39 : 17 ≠ h2) (e40 : 18 ≠ h2) (hw41 : w[h2]? = some (Sum.inl (0, 8, fun _ => Value.int 0))) (e42 : 0 ≤ a6.toInt) (e43 : 7 ≤ h2) (e44 : h2 ≠ h1) (hg45 : ((0 : Int32) - a6) = a5) (e46 : h2 ≠ 17) (e47 : h2 ≠ 18) (e48 : 7 ≤ h1) (e49 : h1 ≠ h0) (e50 : h2 ≠ h0) (e51 : h1 ≠ h2) (e52 : (xbf 1 (xlo (xfr b0)) (0 : Int32) ((32 : Int32) - a6)).toInt ≠ 0) (e53 : ((64 : Int32) - (xnlz (xbf 1 (xlo (xfr b0)) (0 : Int32) ((32 : Int32) - a6)))).toInt ≤ 64) (e54 : h1 ≠ 78) (e55 : h2 ≠ 78) (e56 : h0 ≠ 78) (e57 : a3.toInt ≤ 16384) (e58 : (-16384) ≤ a3.toInt) (e59 : h1 ≠ 16) (e60 : h2 ≠ 16) (e61 : h1 ≠ 194) (e62 : h2 ≠ 194) (e63 : h0 ≠ 194) (hw64 : w[194]? = some (Sum.inl (3, 1, fun _ => Value.long 0))) : xRun (d + 6) 127 [Value.ref 7, Value.int a0, Value.long b0, Value.int a1, Value.ref 194] w (.inl (some (Value.int 0))) (((((((((w.set 16 (Sum.inr (4, [Value.int 0, Value.ref 17, Value.int 0, Value.int 0]))).set 18 (Sum.inl (0, 8, xup (xup (fun _ => Value.int 0) (0 : Int32).toInt.toNat (Value.int (xlo (xfr b0)))) (1 : Int32).toInt.toNat (Value.int 0)))).set 17 (Sum.inr (3, [Value.ref 18, Value.int 2]))).set 17 (Sum.inr (3, [Value.ref 18, Value.int 1]))).set 16 (Sum.inr (4, [Value.int 0, Value.ref 17, Value.int (-1074), Value.int 0]))).set h0 (Sum.inr (2, [Value.int 64, Value.int 3, Value.int 0, Value.int a3, Value.ref h1]))).set h2 (Sum.inl (0, 8, xup (xup (fun _ => Value.int 0) (1 : Int32).toInt.toNat (Value.int (xbf 1 (xlo (xfr b0)) (0 : Int32) ((32 : Int32) - a6)))) (0 : Int32).toInt.toNat (Value.int (xbf 1 (xlo (xfr b0)) (0 : Int32) a5))))).set h1 (Sum.inr (3, [Value.ref h2, Value.int 2]))).set 194 (Sum.inl (3, 1, xup (fun _ => Value.long 0) (0 : Int32).toInt.toNat (Value.long 0)))) := by
  refine xRun.of ?_
  refine i_127_0 (x := 194) rfl ?_
  refine i_127_2 ?_
  refine i_127_3 (x := 7) rfl ?_
  refine i_127_4 (x := a0) rfl ?_
  refine i_127_5 (x := b0) rfl ?_
  refine i_127_6 (x := a1) rfl ?_
  refine i_127_8 hw0 (Nat.le_of_ble_eq_true rfl) (s_128_0 e1 e2 e3 e4 hw0 hw5 hg6 e7 hg8 e9 hw10 hw11 hw12 hg13 e14 hw15 hg16 hg17 e18 e19 e20 hw21 hg22 hg23 e24 hg25 e26 e27 e28 e29 hg30 e31 e32 e33 e34 hw35 hg36 e37 e38 e39 e40 hw41 e42 e43 e44 hg45 e46 e47 e48 e49 e50 e51 e52 e53 e54 e55 e56 e57 e58 e59 e60) ?_
  refine i_127_11 (c := 0) (by decide) ?_
  refine i_127_12 (v := Value.long 0) (xgn e61 (xgn e62 (xgn e63 (xgn (by decide) (xgn (by decide) (xgn (by decide) (xgn (by decide) (xgn (by decide) hw64)))))))) (by decide) (by decide) (by decide) rfl ?_
  refine i_127_13 ?_
  refine i_127_20 ?_
  exact i_127_21 ⟨rfl, rfl⟩
theorem cn16_00_0 {d : Nat} {xs : Nat → Int32} {B K N17 N18 N19 : Int32} (c0 : 0 ≤ (xs 1).toInt) (c1 : (xs 1).toInt < 16) (c2 : 0 ≤ (xs 4).toInt) (c3 : (xs 4).toInt ≤ 4) (c4 : 0 ≤ (xfd (xvv xs)).toInt) (c5 : (xfd (xvv xs)).toInt ≤ 2047) (c6 : (xfd (xvv xs)).toInt ≠ 2047) (c7 : (xfd (xvv xs)).toInt = 0) (c8 : (lg_cmp (xfr (xvv xs)) (0 : Int64)).toInt ≠ 0) (c9 : 0 ≤ (lg_cmp (xvv xs) (0 : Int64)).toInt) (c10 : K.toInt = 64 - B.toInt) (c11 : 1 ≤ B.toInt) (c12 : B.toInt ≤ 32) (c13 : (xhi (xfr (xvv xs))).toInt = 0) (c14 : (xlo (xfr (xvv xs))).toInt ≠ 0) (c15 : (xnlz (xlo (xfr (xvv xs)))).toInt = 32 - B.toInt) (c16 : (xbf 1 (xlo (xfr (xvv xs))) (0 : Int32) ((32 : Int32) - K)).toInt ≠ 0) (eN17 : (B + ((-1074) : Int32)) = N17) (nN17 : N17.toInt = B.toInt + (-1074)) (eN18 : (N17 - (64 : Int32)) = N18) (nN18 : N18.toInt = N17.toInt - 64) (eN19 : (N18 - ((-1074) : Int32)) = N19) (nN19 : N19.toInt = N18.toInt - (-1074)) : ∃ w1, xRun (d + 18) 127 [Value.ref 7, Value.int (xs 1), Value.long (xvv xs), Value.int (xs 4), Value.ref 194] (W0 6 xs) (.inl (some (Value.int 0))) w1 ∧ xKp (W0 6 xs) w1 xPC ∧ w1[194]? = some (Sum.inl (3, 1, xup (fun _ => Value.long 0) (0 : Int32).toInt.toNat (Value.long 0))) := by
  have f0 : ((32 : Int32) - (xnlz (xlo (xfr (xvv xs))))).toInt = 32 - (xnlz (xlo (xfr (xvv xs)))).toInt := xsub_g rfl rfl (by omega) (by omega)
  have f1 : (N17 - N18).toInt = N17.toInt - N18.toInt := xsub_i (by omega) (by omega)
  have f2 : ((64 : Int32) - B).toInt = 64 - B.toInt := xsub_g rfl rfl (by omega) (by omega)
  have f3 : (B + K).toInt = B.toInt + K.toInt := xadd_i (by omega) (by omega)
  have f4 : ((0 : Int32) - K).toInt = 0 - K.toInt := xsub_g rfl rfl (by omega) (by omega)
  have f5 : 0 ≤ (xnlz (xbf 1 (xlo (xfr (xvv xs))) (0 : Int32) ((32 : Int32) - K))).toInt := (xnlz_b _).1
  have f6 : (xnlz (xbf 1 (xlo (xfr (xvv xs))) (0 : Int32) ((32 : Int32) - K))).toInt ≤ 32 := (xnlz_b _).2
  have f7 : ((64 : Int32) - (xnlz (xbf 1 (xlo (xfr (xvv xs))) (0 : Int32) ((32 : Int32) - K)))).toInt = 64 - (xnlz (xbf 1 (xlo (xfr (xvv xs))) (0 : Int32) ((32 : Int32) - K))).toInt := xsub_g rfl rfl (by omega) (by omega)
  refine ⟨((((((((((W0 6 xs).set 16 (Sum.inr (4, [Value.int 0, Value.ref 17, Value.int 0, Value.int 0]))).set 18 (Sum.inl (0, 8, xup (xup (fun _ => Value.int 0) (0 : Int32).toInt.toNat (Value.int (xlo (xfr (xvv xs))))) (1 : Int32).toInt.toNat (Value.int 0)))).set 17 (Sum.inr (3, [Value.ref 18, Value.int 2]))).set 17 (Sum.inr (3, [Value.ref 18, Value.int 1]))).set 16 (Sum.inr (4, [Value.int 0, Value.ref 17, Value.int (-1074), Value.int 0]))).set (30 + 3 * (xs 1).toInt.toNat) (Sum.inr (2, [Value.int 64, Value.int 3, Value.int 0, Value.int N17, Value.ref (31 + 3 * (xs 1).toInt.toNat)]))).set (32 + 3 * (xs 1).toInt.toNat) (Sum.inl (0, 8, xup (xup (fun _ => Value.int 0) (1 : Int32).toInt.toNat (Value.int (xbf 1 (xlo (xfr (xvv xs))) (0 : Int32) ((32 : Int32) - K)))) (0 : Int32).toInt.toNat (Value.int (xbf 1 (xlo (xfr (xvv xs))) (0 : Int32) N19))))).set (31 + 3 * (xs 1).toInt.toNat) (Sum.inr (3, [Value.ref (32 + 3 * (xs 1).toInt.toNat), Value.int 2]))).set 194 (Sum.inl (3, 1, xup (fun _ => Value.long 0) (0 : Int32).toInt.toNat (Value.long 0)))), (s_127_0 W0_7 (by omega) (by omega) (by omega) (by omega) W0_8 (greg_at (by omega)) (by omega) (show (xfd (xvv xs)) = 0 from (xge_c (n := 0) (by omega) rfl)) (by omega) W0_16 W0_17 W0_18 (show (xhi (xfr (xvv xs))) = 0 from (xge_c (n := 0) (by omega) rfl)) (by omega) W0_78 (show ((32 : Int32) - (xnlz (xlo (xfr (xvv xs))))) = B from (xge_i (by omega))) (show (B + ((-1074) : Int32)) = N17 from eN17) (by omega) (by omega) (by omega) (W0_reg (by omega)) (show (N17 - (64 : Int32)) = N18 from eN18) (show (N18 - ((-1074) : Int32)) = N19 from eN19) (by omega) (show (N17 - N18) = 64 from (xge_c (n := 64) (by omega) rfl)) (by omega) (by omega) (by omega) (by omega) (show ((64 : Int32) - B) = K from (xge_i (by omega))) (by omega) (by omega) (by omega) (by omega) (W0_man (by omega)) (show (B + K) = 64 from (xge_c (n := 64) (by omega) rfl)) (by omega) (by omega) (by omega) (by omega) (W0_mw (by omega)) (by omega) (by omega) (by omega) (show ((0 : Int32) - K) = N19 from (xge_i (by omega))) (by omega) (by omega) (by omega) (by omega) (by omega) (by omega) (by omega) (by omega) (by omega) (by omega) (by omega) (by omega) (by omega) (by omega) (by omega) (by omega) (by omega) (by omega) W0_194), ?_, xgs (xgn (by omega) (xgn (by omega) (xgn (by omega) (xgn (by decide) (xgn (by decide) (xgn (by decide) (xgn (by decide) (xgn (by decide) W0_194))))))))⟩
  refine xKp.set ?_ (fun h hh => by unfold xPC at hh; omega) (xgn (by omega) (xgn (by omega) (xgn (by omega) (xgn (by decide) (xgn (by decide) (xgn (by decide) (xgn (by decide) (xgn (by decide) W0_194)))))))) xcs_a
  refine xKp.set ?_ (fun h hh => by unfold xPC at hh; omega) (xgn (by omega) (xgn (by omega) (xgn (by omega) (xgn (by omega) (xgn (by omega) (xgn (by omega) (xgn (by omega) (W0_man (by omega))))))))) xcs_o
  refine xKp.set ?_ (fun h hh => by unfold xPC at hh; omega) (xgn (by omega) (xgn (by omega) (xgn (by omega) (xgn (by omega) (xgn (by omega) (xgn (by omega) (W0_mw (by omega)))))))) xcs_a
  refine xKp.set ?_ (fun h hh => by unfold xPC at hh; omega) (xgn (by omega) (xgn (by omega) (xgn (by omega) (xgn (by omega) (xgn (by omega) (W0_reg (by omega))))))) xcs_o
  refine xKp.set ?_ (fun h hh => by unfold xPC at hh; omega) (xgn (by decide) (xgn (by decide) (xgn (by decide) (xgs W0_16)))) xcs_o
  refine xKp.set ?_ (fun h hh => by unfold xPC at hh; omega) (xgs (xgn (by decide) (xgn (by decide) W0_17))) xcs_o
  refine xKp.set ?_ (fun h hh => by unfold xPC at hh; omega) (xgn (by decide) (xgn (by decide) W0_17)) xcs_o
  refine xKp.set ?_ (fun h hh => by unfold xPC at hh; omega) (xgn (by decide) W0_18) xcs_a
  refine xKp.set ?_ (fun h hh => by unfold xPC at hh; omega) (W0_16) xcs_o
  exact xKp.refl
theorem s_24_5 {d : Nat} {w : xW} {b0 : Int64} (hw0 : w[16]? = some (Sum.inr (4, [Value.int 0, Value.ref 17, Value.int 0, Value.int 0]))) (hw1 : w[17]? = some (Sum.inr (3, [Value.ref 18, Value.int 0]))) (hw2 : w[18]? = some (Sum.inl (0, 8, fun _ => Value.int 0))) (e3 : (xhi b0).toInt ≠ 0) : xRun (d + 2) 24 [Value.ref 16, Value.int 0, Value.long b0, Value.int (-1074)] w (.inl none) ((((w.set 16 (Sum.inr (4, [Value.int 0, Value.ref 17, Value.int 0, Value.int 0]))).set 18 (Sum.inl (0, 8, xup (xup (fun _ => Value.int 0) (0 : Int32).toInt.toNat (Value.int (xlo b0))) (1 : Int32).toInt.toNat (Value.int (xhi b0))))).set 17 (Sum.inr (3, [Value.ref 18, Value.int 2]))).set 16 (Sum.inr (4, [Value.int 0, Value.ref 17, Value.int (-1074), Value.int 0]))) := by
  refine xRun.of ?_
  refine i_24_0 (x := 16) rfl ?_
  refine i_24_1 (x := 0) rfl ?_
  refine i_24_2 (fs2 := [Value.int 0, Value.ref 17, Value.int 0, Value.int 0]) hw0 rfl (Nat.le_of_ble_eq_true rfl) rfl (by decide) ?_
  refine i_24_5 (x := 16) rfl ?_
  refine i_24_6 (v := Value.ref 17) (xgs hw0) rfl ?_
  refine i_24_9 (x := b0) rfl ?_
  refine i_24_10 (xgn (by decide) hw1) (Nat.le_of_ble_eq_true rfl) (s_25_1 (xgn (by decide) hw1) (xgn (by decide) hw2) e3) ?_
  refine i_24_13 (x := 16) rfl ?_
  refine i_24_14 (x := (-1074)) rfl ?_
  refine i_24_16 (fs2 := [Value.int 0, Value.ref 17, Value.int (-1074), Value.int 0]) (xgn (by decide) (xgn (by decide) (xgs hw0))) (Nat.le_of_ble_eq_true rfl) rfl (by decide) ?_
  refine i_24_19 (x := 16) rfl ?_
  refine i_24_20 ?_
  refine i_24_21 (fs2 := [Value.int 0, Value.ref 17, Value.int (-1074), Value.int 0]) (xgs (xgn (by decide) (xgn (by decide) (xgs hw0)))) rfl (Nat.le_of_ble_eq_true rfl) rfl (by decide) ?_
  refine xEv.world (List.set_set _) ?_
  exact i_24_24 ⟨rfl, rfl⟩
theorem s_28_5 {d : Nat} {w : xW} {g0 : Nat → Value} {a0 : Int32} {a1 : Int32} {a2 : Int32} (hw0 : w[16]? = some (Sum.inr (4, [Value.int 0, Value.ref 17, Value.int (-1074), Value.int 0]))) (hw1 : w[17]? = some (Sum.inr (3, [Value.ref 18, Value.int 2]))) (hw2 : w[18]? = some (Sum.inl (0, 8, g0))) (hg3 : g0 (1 : Int32).toInt.toNat = Value.int a0) (hg4 : ((64 : Int32) - (xnlz a0)) = a1) (hg5 : (a1 + ((-1074) : Int32)) = a2) : xRun (d + 2) 28 [Value.ref 16] w (.inl (some (Value.int a2))) w := by
  refine xRun.of ?_
  refine i_28_0 (x := 16) rfl ?_
  refine i_28_1 (v := Value.ref 17) hw0 rfl ?_
  refine i_28_4 hw1 (Nat.le_of_ble_eq_true rfl) (s_29_2 hw1 hw2 hg3 hg4) ?_
  refine i_28_7 (x := 16) rfl ?_
  refine i_28_8 (v := Value.int (-1074)) hw0 rfl ?_
  refine i_28_11 (c := a2) hg5 ?_
  exact i_28_12 ⟨rfl, rfl⟩
theorem s_32_5 {d : Nat} {w : xW} {a0 : Int32} {a1 : Int32} (hw0 : w[16]? = some (Sum.inr (4, [Value.int 0, Value.ref 17, Value.int (-1074), Value.int 0]))) (hg1 : (a0 - ((-1074) : Int32)) = a1) (hw2 : w[17]? = some (Sum.inr (3, [Value.ref 18, Value.int 2]))) (e3 : a1.toInt ≤ 0) : xRun (d + 1) 32 [Value.ref 16, Value.int a0] w (.inl (some (Value.int 1))) w := by
  refine xRun.of ?_
  refine i_32_0 (x := 16) rfl ?_
  refine i_32_1 (v := Value.int 0) hw0 rfl ?_
  refine i_32_4 (fun h => absurd h (by decide)) (fun _ => ?_)
  refine i_32_7 (x := 16) rfl ?_
  refine i_32_8 (v := Value.ref 17) hw0 rfl ?_
  refine i_32_11 (x := a0) rfl ?_
  refine i_32_12 (x := 16) rfl ?_
  refine i_32_13 (v := Value.int (-1074)) hw0 rfl ?_
  refine i_32_16 (c := a1) hg1 ?_
  refine i_32_17 hw2 (Nat.le_of_ble_eq_true rfl) (s_33_0 e3) ?_
  refine i_32_20 (fun h => absurd h (by decide)) (fun _ => ?_)
  refine i_32_23 ?_
  refine i_32_24 ?_
  exact i_32_28 rfl ⟨rfl, rfl⟩
theorem s_31_5 {d : Nat} {w : xW} {a0 : Int32} {a1 : Int32} {a2 : Int32} (hw0 : w[16]? = some (Sum.inr (4, [Value.int 0, Value.ref 17, Value.int (-1074), Value.int 0]))) (hg1 : (a0 - ((-1074) : Int32)) = a2) (hw2 : w[17]? = some (Sum.inr (3, [Value.ref 18, Value.int 2]))) (e3 : a2.toInt ≤ 0) : xRun (d + 2) 31 [Value.ref 16, Value.int a0, Value.int a1] w (.inl (some (Value.int 0))) w := by
  refine xRun.of ?_
  refine i_31_0 (x := 16) rfl ?_
  refine i_31_1 (x := a0) rfl ?_
  refine i_31_2 hw0 (Nat.le_of_ble_eq_true rfl) (s_32_5 hw0 hg1 hw2 e3) ?_
  refine i_31_5 (fun h => absurd h (by decide)) (fun _ => ?_)
  refine i_31_8 ?_
  exact i_31_9 rfl ⟨rfl, rfl⟩
theorem s_42_3 {d : Nat} {w : xW} {h0 : Nat} {a0 : Int32} {g0 : Nat → Value} {a1 : Int32} {a2 : Int32} {h1 : Nat} {a3 : Int32} {a4 : Int32} (hw0 : w[17]? = some (Sum.inr (3, [Value.ref 18, Value.int 2]))) (hw1 : w[18]? = some (Sum.inl (0, 8, g0))) (hg2 : g0 (1 : Int32).toInt.toNat = Value.int a1) (hg3 : ((64 : Int32) - (xnlz a1)) = a2) (hg4 : (a2 + a0) = 64) (hw5 : w[h0]? = some (Sum.inr (3, [Value.ref h1, Value.int 0]))) (hw6 : w[h1]? = some (Sum.inl (0, 8, fun _ => Value.int 0))) (e7 : 0 ≤ a0.toInt) (hg8 : g0 (0 : Int32).toInt.toNat = Value.int a3) (e9 : 7 ≤ h1) (e10 : h1 ≠ h0) (hg11 : ((0 : Int32) - a0) = a4) (e12 : h1 ≠ 17) (e13 : h1 ≠ 18) (e14 : 7 ≤ h0) : xRun (d + 2) 42 [Value.ref h0, Value.ref 17, Value.int a0] w (.inl none) ((w.set h1 (Sum.inl (0, 8, xup (xup (fun _ => Value.int 0) (1 : Int32).toInt.toNat (Value.int (xbf 2 a3 a1 ((32 : Int32) - a0)))) (0 : Int32).toInt.toNat (Value.int (xbf 2 a3 a1 a4))))).set h0 (Sum.inr (3, [Value.ref h1, Value.int 2]))) := by
  refine xRun.of ?_
  refine i_42_0 (x := 17) rfl ?_
  refine i_42_1 (v := Value.int 2) hw0 rfl ?_
  refine i_42_4 (fun _ => ?_) (fun h => absurd h (by decide))
  refine i_42_11 ?_
  refine i_42_12 (x := 17) rfl ?_
  refine i_42_13 hw0 (Nat.le_of_ble_eq_true rfl) (s_29_2 hw0 hw1 hg2 hg3) ?_
  refine i_42_16 (x := a0) rfl ?_
  refine i_42_17 (c := 64) hg4 ?_
  refine i_42_18 ?_
  refine i_42_20 (c := 95) (by decide) ?_
  refine i_42_21 ?_
  refine i_42_22 (c := 2) (by decide) ?_
  refine i_42_23 (Nat.le_of_ble_eq_true rfl) (s_273_0) ?_
  refine i_42_26 (lv2 := [(3, Value.int 2), (0, Value.ref h0), (1, Value.ref 17), (2, Value.int a0)]) rfl ?_
  refine i_42_27 (x := h0) rfl ?_
  refine i_42_28 (x := 2) rfl ?_
  refine i_42_29 hw5 (Nat.le_of_ble_eq_true rfl) (s_41_0 hw5 hw6) ?_
  refine i_42_32 (x := a0) rfl ?_
  refine i_42_33 (fun h => absurd e7 (Int.not_le.mpr h)) (fun _ => ?_)
  refine i_42_36 (x := 2) rfl ?_
  refine i_42_37 ?_
  refine i_42_38 (c := 1) (by decide) ?_
  refine i_42_39 (lv2 := [(4, Value.int 1), (3, Value.int 2), (0, Value.ref h0), (1, Value.ref 17), (2, Value.int a0)]) rfl ?_
  refine i_42_41 (x := 1) rfl ?_
  refine i_42_43 (fun h => absurd h (by decide)) (fun _ => ?_)
  refine i_42_46 (x := h0) rfl ?_
  refine i_42_47 (v := Value.ref h1) hw5 rfl ?_
  refine i_42_50 (x := 1) rfl ?_
  refine i_42_52 (x := 17) rfl ?_
  refine i_42_53 ?_
  refine i_42_55 (x := 1) rfl ?_
  refine i_42_57 (c := 32) (by decide) ?_
  refine i_42_58 (x := a0) rfl ?_
  refine i_42_59 (c := ((32 : Int32) - a0)) rfl ?_
  refine i_42_60 hw0 (Nat.le_of_ble_eq_true rfl) (bf_run2 hw0 hw1 hg8 hg2) ?_
  refine i_42_63 (v := Value.int (xbf 2 a3 a1 ((32 : Int32) - a0))) hw6 (by decide) (by decide) e9 rfl ?_
  refine i_42_64 (x := 1) (c := 0) (lv2 := [(4, Value.int 0), (3, Value.int 2), (0, Value.ref h0), (1, Value.ref 17), (2, Value.int a0)]) rfl (by decide) rfl ?_
  refine i_42_67 ?_
  refine i_42_41 (x := 0) rfl ?_
  refine i_42_43 (fun h => absurd h (by decide)) (fun _ => ?_)
  refine i_42_46 (x := h0) rfl ?_
  refine i_42_47 (v := Value.ref h1) (xgn e10 hw5) rfl ?_
  refine i_42_50 (x := 0) rfl ?_
  refine i_42_52 (x := 17) rfl ?_
  refine i_42_53 ?_
  refine i_42_55 (x := 0) rfl ?_
  refine i_42_57 (c := 0) (by decide) ?_
  refine i_42_58 (x := a0) rfl ?_
  refine i_42_59 (c := a4) hg11 ?_
  refine i_42_60 (xgn e12 hw0) (Nat.le_of_ble_eq_true rfl) (bf_run2 (xgn e12 hw0) (xgn e13 hw1) hg8 hg2) ?_
  refine i_42_63 (v := Value.int (xbf 2 a3 a1 a4)) (xgs hw6) (by decide) (by decide) e9 rfl ?_
  refine xEv.world (List.set_set _) ?_
  refine i_42_64 (x := 0) (c := (-1)) (lv2 := [(4, Value.int (-1)), (3, Value.int 2), (0, Value.ref h0), (1, Value.ref 17), (2, Value.int a0)]) rfl (by decide) rfl ?_
  refine i_42_67 ?_
  refine i_42_41 (x := (-1)) rfl ?_
  refine i_42_43 (fun _ => ?_) (fun h => absurd h (by decide))
  refine i_42_70 ?_
  refine i_42_106 (x := h0) rfl ?_
  refine i_42_107 (x := 2) rfl ?_
  refine i_42_108 (fs2 := [Value.ref h1, Value.int 2]) (xgn e10 hw5) (Nat.le_of_ble_eq_true rfl) rfl e14 ?_
  exact i_42_111 ⟨rfl, rfl⟩
theorem s_38_5 {d : Nat} {w : xW} {h0 : Nat} {a0 : Int32} {g0 : Nat → Value} {a1 : Int32} {a2 : Int32} {a3 : Int32} {h1 : Nat} {a4 : Int32} {h2 : Nat} {a5 : Int32} {a6 : Int32} (hw0 : w[16]? = some (Sum.inr (4, [Value.int 0, Value.ref 17, Value.int (-1074), Value.int 0]))) (hw1 : w[17]? = some (Sum.inr (3, [Value.ref 18, Value.int 2]))) (hw2 : w[18]? = some (Sum.inl (0, 8, g0))) (hg3 : g0 (1 : Int32).toInt.toNat = Value.int a1) (hg4 : ((64 : Int32) - (xnlz a1)) = a2) (hg5 : (a2 + ((-1074) : Int32)) = a3) (hg6 : (a3 - a0) = 64) (hw7 : w[h0]? = some (Sum.inr (2, [Value.int 64, Value.int 0, Value.int 0, Value.int 0, Value.ref h1]))) (e8 : 7 ≤ h0) (e9 : h0 ≠ 16) (e10 : h0 ≠ 17) (e11 : h0 ≠ 18) (hg12 : ((64 : Int32) - a2) = a4) (e13 : h0 ≠ h1) (hw14 : w[h1]? = some (Sum.inr (3, [Value.ref h2, Value.int 0]))) (hg15 : (a2 + a4) = 64) (e16 : h0 ≠ h2) (hw17 : w[h2]? = some (Sum.inl (0, 8, fun _ => Value.int 0))) (e18 : 0 ≤ a4.toInt) (hg19 : g0 (0 : Int32).toInt.toNat = Value.int a5) (e20 : 7 ≤ h2) (e21 : h2 ≠ h1) (hg22 : ((0 : Int32) - a4) = a6) (e23 : h2 ≠ 17) (e24 : h2 ≠ 18) (e25 : 7 ≤ h1) (e26 : h1 ≠ h0) (e27 : h2 ≠ h0) (e28 : h1 ≠ h2) (e29 : (xbf 2 a5 a1 ((32 : Int32) - a4)).toInt ≠ 0) (e30 : ((64 : Int32) - (xnlz (xbf 2 a5 a1 ((32 : Int32) - a4)))).toInt ≤ 64) : xRun (d + 3) 38 [Value.ref h0, Value.ref 16, Value.int a0, Value.int 0] w (.inl none) (((w.set h0 (Sum.inr (2, [Value.int 64, Value.int 3, Value.int 0, Value.int a3, Value.ref h1]))).set h2 (Sum.inl (0, 8, xup (xup (fun _ => Value.int 0) (1 : Int32).toInt.toNat (Value.int (xbf 2 a5 a1 ((32 : Int32) - a4)))) (0 : Int32).toInt.toNat (Value.int (xbf 2 a5 a1 a6))))).set h1 (Sum.inr (3, [Value.ref h2, Value.int 2]))) := by
  refine xRun.of ?_
  refine i_38_0 (x := 16) rfl ?_
  refine i_38_1 hw0 (Nat.le_of_ble_eq_true rfl) (s_28_5 hw0 hw1 hw2 hg3 hg4 hg5) ?_
  refine i_38_4 (lv2 := [(4, Value.int a3), (0, Value.ref h0), (1, Value.ref 16), (2, Value.int a0), (3, Value.int 0)]) rfl ?_
  refine i_38_6 (x := a3) rfl ?_
  refine i_38_8 (x := a0) rfl ?_
  refine i_38_9 (c := 64) hg6 ?_
  refine i_38_10 (lv2 := [(5, Value.int 64), (4, Value.int a3), (0, Value.ref h0), (1, Value.ref 16), (2, Value.int a0), (3, Value.int 0)]) rfl ?_
  refine i_38_12 (x := 64) rfl ?_
  refine i_38_14 (fun _ => ?_) (fun h => absurd h (by decide))
  refine i_38_31 (x := 64) rfl ?_
  refine i_38_33 (fun _ => ?_) (fun h => absurd h (by decide))
  refine i_38_48 (x := h0) rfl ?_
  refine i_38_49 ?_
  refine i_38_50 (fs2 := [Value.int 64, Value.int 3, Value.int 0, Value.int 0, Value.ref h1]) hw7 (Nat.le_of_ble_eq_true rfl) rfl e8 ?_
  refine i_38_53 (x := h0) rfl ?_
  refine i_38_54 (x := 16) rfl ?_
  refine i_38_55 (v := Value.int 0) (xgn e9 hw0) rfl ?_
  refine i_38_58 (fs2 := [Value.int 64, Value.int 3, Value.int 0, Value.int 0, Value.ref h1]) (xgs hw7) rfl (Nat.le_of_ble_eq_true rfl) rfl e8 ?_
  refine xEv.world (List.set_set _) ?_
  refine i_38_61 (x := h0) rfl ?_
  refine i_38_62 (x := a3) rfl ?_
  refine i_38_64 (fs2 := [Value.int 64, Value.int 3, Value.int 0, Value.int a3, Value.ref h1]) (xgs hw7) (Nat.le_of_ble_eq_true rfl) rfl e8 ?_
  refine xEv.world (List.set_set _) ?_
  refine i_38_67 (x := h0) rfl ?_
  refine i_38_68 (v := Value.ref h1) (xgs hw7) rfl ?_
  refine i_38_71 (x := 16) rfl ?_
  refine i_38_72 (v := Value.ref 17) (xgn e9 hw0) rfl ?_
  refine i_38_75 (x := h0) rfl ?_
  refine i_38_76 (v := Value.int 64) (xgs hw7) rfl ?_
  refine i_38_79 (x := 16) rfl ?_
  refine i_38_80 (v := Value.ref 17) (xgn e9 hw0) rfl ?_
  refine i_38_83 (xgn e10 hw1) (Nat.le_of_ble_eq_true rfl) (s_29_2 (xgn e10 hw1) (xgn e11 hw2) hg3 hg4) ?_
  refine i_38_86 (c := a4) hg12 ?_
  refine i_38_87 (xgn e13 hw14) (Nat.le_of_ble_eq_true rfl) (s_42_3 (xgn e10 hw1) (xgn e11 hw2) hg3 hg4 hg15 (xgn e13 hw14) (xgn e16 hw17) e18 hg19 e20 e21 hg22 e23 e24 e25) ?_
  refine i_38_90 (x := h0) rfl ?_
  refine i_38_91 (v := Value.ref h1) (xgn e26 (xgn e27 (xgs hw7))) rfl ?_
  refine i_38_94 (x := h0) rfl ?_
  refine i_38_95 (v := Value.int 64) (xgn e26 (xgn e27 (xgs hw7))) rfl ?_
  refine i_38_98 (x := 64) rfl ?_
  refine i_38_100 (c := 0) (by decide) ?_
  refine i_38_101 (xgs (xgn e21 (xgn e13 hw14))) (Nat.le_of_ble_eq_true rfl) (s_43_0 (xgs (xgn e21 (xgn e13 hw14))) (xgn e28 (xgs (xgn e16 hw17))) (xup_n (by decide) xup_s) e29) ?_
  refine i_38_104 (x := 0) rfl ?_
  refine i_38_105 (fun _ => ?_) (fun h => absurd h (by decide))
  refine i_38_122 (x := h0) rfl ?_
  refine i_38_123 (v := Value.ref h1) (xgn e26 (xgn e27 (xgs hw7))) rfl ?_
  refine i_38_126 (xgs (xgn e21 (xgn e13 hw14))) (Nat.le_of_ble_eq_true rfl) (s_29_1 (xgs (xgn e21 (xgn e13 hw14))) (xgn e28 (xgs (xgn e16 hw17))) (xup_n (by decide) xup_s)) ?_
  refine i_38_129 (x := h0) rfl ?_
  refine i_38_130 (v := Value.int 64) (xgn e26 (xgn e27 (xgs hw7))) rfl ?_
  refine i_38_133 (fun _ => ?_) (fun h => absurd e30 (Int.not_le.mpr h))
  exact i_38_148 ⟨rfl, rfl⟩
theorem s_27_61 {d : Nat} {w : xW} {h0 : Nat} {a0 : Int32} {g0 : Nat → Value} {a1 : Int32} {a2 : Int32} {a3 : Int32} {h1 : Nat} {a4 : Int32} {a5 : Int32} {a6 : Int32} {h2 : Nat} {a7 : Int32} (hw0 : w[16]? = some (Sum.inr (4, [Value.int 0, Value.ref 17, Value.int (-1074), Value.int 0]))) (hw1 : w[17]? = some (Sum.inr (3, [Value.ref 18, Value.int 2]))) (hw2 : w[18]? = some (Sum.inl (0, 8, g0))) (hg3 : g0 (1 : Int32).toInt.toNat = Value.int a1) (hg4 : ((64 : Int32) - (xnlz a1)) = a2) (hg5 : (a2 + ((-1074) : Int32)) = a3) (hw6 : w[h0]? = some (Sum.inr (2, [Value.int 64, Value.int 0, Value.int 0, Value.int 0, Value.ref h1]))) (hw7 : w[78]? = some (Sum.inr (1, [Value.int (-16384), Value.int 16384, Value.int 0, Value.int 0]))) (hg8 : (a3 - (64 : Int32)) = a4) (hg9 : (a4 - ((-1074) : Int32)) = a5) (e10 : a5.toInt ≤ 0) (hg11 : (a3 - a4) = 64) (e12 : 7 ≤ h0) (e13 : h0 ≠ 16) (e14 : h0 ≠ 17) (e15 : h0 ≠ 18) (hg16 : ((64 : Int32) - a2) = a6) (e17 : h0 ≠ h1) (hw18 : w[h1]? = some (Sum.inr (3, [Value.ref h2, Value.int 0]))) (hg19 : (a2 + a6) = 64) (e20 : h0 ≠ h2) (hw21 : w[h2]? = some (Sum.inl (0, 8, fun _ => Value.int 0))) (e22 : 0 ≤ a6.toInt) (hg23 : g0 (0 : Int32).toInt.toNat = Value.int a7) (e24 : 7 ≤ h2) (e25 : h2 ≠ h1) (hg26 : ((0 : Int32) - a6) = a5) (e27 : h2 ≠ 17) (e28 : h2 ≠ 18) (e29 : 7 ≤ h1) (e30 : h1 ≠ h0) (e31 : h2 ≠ h0) (e32 : h1 ≠ h2) (e33 : (xbf 2 a7 a1 ((32 : Int32) - a6)).toInt ≠ 0) (e34 : ((64 : Int32) - (xnlz (xbf 2 a7 a1 ((32 : Int32) - a6)))).toInt ≤ 64) (e35 : h1 ≠ 78) (e36 : h2 ≠ 78) (e37 : h0 ≠ 78) (e38 : a3.toInt ≤ 16384) (e39 : (-16384) ≤ a3.toInt) (e40 : h1 ≠ 16) (e41 : h2 ≠ 16) : xRun (d + 4) 27 [Value.ref 78, Value.ref h0, Value.ref 16, Value.int a0] w (.inl (some (Value.int 0))) (((w.set h0 (Sum.inr (2, [Value.int 64, Value.int 3, Value.int 0, Value.int a3, Value.ref h1]))).set h2 (Sum.inl (0, 8, xup (xup (fun _ => Value.int 0) (1 : Int32).toInt.toNat (Value.int (xbf 2 a7 a1 ((32 : Int32) - a6)))) (0 : Int32).toInt.toNat (Value.int (xbf 2 a7 a1 a5))))).set h1 (Sum.inr (3, [Value.ref h2, Value.int 2]))) := by
  refine xRun.of ?_
  refine i_27_0 (x := 16) rfl ?_
  refine i_27_1 hw0 (Nat.le_of_ble_eq_true rfl) (s_28_5 hw0 hw1 hw2 hg3 hg4 hg5) ?_
  refine i_27_4 (lv2 := [(4, Value.int a3), (0, Value.ref 78), (1, Value.ref h0), (2, Value.ref 16), (3, Value.int a0)]) rfl ?_
  refine i_27_6 (x := 78) rfl ?_
  refine i_27_7 (x := a3) rfl ?_
  refine i_27_9 (x := h0) rfl ?_
  refine i_27_10 (v := Value.int 64) hw6 rfl ?_
  refine i_27_13 hw7 (Nat.le_of_ble_eq_true rfl) (s_30_1 hw7 hg8) ?_
  refine i_27_16 (lv2 := [(5, Value.int a4), (4, Value.int a3), (0, Value.ref 78), (1, Value.ref h0), (2, Value.ref 16), (3, Value.int a0)]) rfl ?_
  refine i_27_18 (x := 16) rfl ?_
  refine i_27_19 (x := a4) rfl ?_
  refine i_27_21 (x := a0) rfl ?_
  refine i_27_22 hw0 (Nat.le_of_ble_eq_true rfl) (s_31_5 hw0 hg9 hw1 e10) ?_
  refine i_27_25 (lv2 := [(6, Value.int 0), (5, Value.int a4), (4, Value.int a3), (0, Value.ref 78), (1, Value.ref h0), (2, Value.ref 16), (3, Value.int a0)]) rfl ?_
  refine i_27_27 (x := 16) rfl ?_
  refine i_27_28 (x := a4) rfl ?_
  refine i_27_30 hw0 (Nat.le_of_ble_eq_true rfl) (s_32_5 hw0 hg9 hw1 e10) ?_
  refine i_27_33 (fun h => absurd h (by decide)) (fun _ => ?_)
  refine i_27_36 ?_
  refine i_27_37 ?_
  refine i_27_50 (lv2 := [(7, Value.int 0), (6, Value.int 0), (5, Value.int a4), (4, Value.int a3), (0, Value.ref 78), (1, Value.ref h0), (2, Value.ref 16), (3, Value.int a0)]) rfl ?_
  refine i_27_52 (x := h0) rfl ?_
  refine i_27_53 (x := 16) rfl ?_
  refine i_27_54 (x := a4) rfl ?_
  refine i_27_56 (x := 0) rfl ?_
  refine i_27_58 hw6 (Nat.le_of_ble_eq_true rfl) (s_38_5 hw0 hw1 hw2 hg3 hg4 hg5 hg11 hw6 e12 e13 e14 e15 hg16 e17 hw18 hg19 e20 hw21 e22 hg23 e24 e25 hg26 e27 e28 e29 e30 e31 e32 e33 e34) ?_
  refine i_27_61 (x := h0) rfl ?_
  refine i_27_62 (v := Value.int 3) (xgn e30 (xgn e31 (xgs hw6))) rfl ?_
  refine i_27_65 ?_
  refine i_27_66 (fun h => absurd h (by decide)) (fun _ => ?_)
  refine i_27_69 (x := h0) rfl ?_
  refine i_27_70 (v := Value.int a3) (xgn e30 (xgn e31 (xgs hw6))) rfl ?_
  refine i_27_73 (x := 78) rfl ?_
  refine i_27_74 (v := Value.int 16384) (xgn e35 (xgn e36 (xgn e37 hw7))) rfl ?_
  refine i_27_77 (fun _ => ?_) (fun h => absurd e38 (Int.not_le.mpr h))
  refine i_27_95 (x := h0) rfl ?_
  refine i_27_96 (v := Value.int 3) (xgn e30 (xgn e31 (xgs hw6))) rfl ?_
  refine i_27_99 ?_
  refine i_27_100 (fun h => absurd h (by decide)) (fun _ => ?_)
  refine i_27_103 (x := 78) rfl ?_
  refine i_27_104 (v := Value.int 0) (xgn e35 (xgn e36 (xgn e37 hw7))) rfl ?_
  refine i_27_107 (fun h => absurd h (by decide)) (fun _ => ?_)
  refine i_27_110 (x := h0) rfl ?_
  refine i_27_111 (v := Value.int a3) (xgn e30 (xgn e31 (xgs hw6))) rfl ?_
  refine i_27_114 (x := 78) rfl ?_
  refine i_27_115 (v := Value.int (-16384)) (xgn e35 (xgn e36 (xgn e37 hw7))) rfl ?_
  refine i_27_118 (fun _ => ?_) (fun h => absurd e39 (Int.not_le.mpr h))
  refine i_27_133 (x := 78) rfl ?_
  refine i_27_134 (v := Value.int 0) (xgn e35 (xgn e36 (xgn e37 hw7))) rfl ?_
  refine i_27_137 (fun _ => ?_) (fun h => absurd h (by decide))
  refine i_27_164 (x := 0) rfl ?_
  refine i_27_166 (fun _ => ?_) (fun h => absurd h (by decide))
  refine i_27_179 (x := 16) rfl ?_
  refine i_27_180 (v := Value.int 0) (xgn e40 (xgn e41 (xgn e13 hw0))) rfl ?_
  refine i_27_183 (fun _ => ?_) (fun h => absurd h (by decide))
  refine i_27_192 (x := 0) rfl ?_
  exact i_27_194 ⟨rfl, rfl⟩
theorem s_128_1 {d : Nat} {w : xW} {a0 : Int32} {b0 : Int64} {a1 : Int32} {g0 : Nat → Value} {h0 : Nat} {a2 : Int32} {a3 : Int32} {h1 : Nat} {a4 : Int32} {a5 : Int32} {a6 : Int32} {h2 : Nat} (e0 : 0 ≤ a0.toInt) (e1 : a0.toInt < 16) (e2 : 0 ≤ a1.toInt) (e3 : a1.toInt ≤ 4) (hw4 : w[7]? = some (Sum.inr (0, [Value.ref 8, Value.ref 78, Value.ref 9, Value.ref 10, Value.ref 13, Value.ref 16, Value.ref 19, Value.ref 93, Value.ref 108, Value.ref 113, Value.ref 29, Value.int 0]))) (hw5 : w[8]? = some (Sum.inl (4, 16, g0))) (hg6 : g0 a0.toInt.toNat = Value.ref h0) (e7 : 0 ≤ (lg_cmp b0 (0 : Int64)).toInt) (hg8 : (xfd b0) = 0) (e9 : (lg_cmp (xfr b0) (0 : Int64)).toInt ≠ 0) (hw10 : w[16]? = some (Sum.inr (4, [Value.int 0, Value.ref 17, Value.int 0, Value.int 0]))) (hw11 : w[17]? = some (Sum.inr (3, [Value.ref 18, Value.int 0]))) (hw12 : w[18]? = some (Sum.inl (0, 8, fun _ => Value.int 0))) (e13 : (xhi (xfr b0)).toInt ≠ 0) (hw14 : w[78]? = some (Sum.inr (1, [Value.int (-16384), Value.int 16384, Value.int 0, Value.int 0]))) (hg15 : ((64 : Int32) - (xnlz (xhi (xfr b0)))) = a2) (hg16 : (a2 + ((-1074) : Int32)) = a3) (e17 : 16 ≠ h0) (e18 : 17 ≠ h0) (e19 : 18 ≠ h0) (hw20 : w[h0]? = some (Sum.inr (2, [Value.int 64, Value.int 0, Value.int 0, Value.int 0, Value.ref h1]))) (hg21 : (a3 - (64 : Int32)) = a4) (hg22 : (a4 - ((-1074) : Int32)) = a5) (e23 : a5.toInt ≤ 0) (hg24 : (a3 - a4) = 64) (e25 : 7 ≤ h0) (e26 : h0 ≠ 16) (e27 : h0 ≠ 17) (e28 : h0 ≠ 18) (hg29 : ((64 : Int32) - a2) = a6) (e30 : h0 ≠ h1) (e31 : 16 ≠ h1) (e32 : 17 ≠ h1) (e33 : 18 ≠ h1) (hw34 : w[h1]? = some (Sum.inr (3, [Value.ref h2, Value.int 0]))) (hg35 : (a2 + a6) = 64) (e36 : h0 ≠ h2) (e37 : 16 ≠ h2) (e38 : 17 ≠ h2) (e39 : 18 ≠ h2) (hw40 : w[h2]? = some (Sum.inl (0, 8, fun _ => Value.int 0))) (e41 : 0 ≤ a6.toInt) (e42 : 7 ≤ h2) (e43 : h2 ≠ h1) (hg44 : ((0 : Int32) - a6) = a5) (e45 : h2 ≠ 17) (e46 : h2 ≠ 18) (e47 : 7 ≤ h1) (e48 : h1 ≠ h0) (e49 : h2 ≠ h0) (e50 : h1 ≠ h2) (e51 : (xbf 2 (xlo (xfr b0)) (xhi (xfr b0)) ((32 : Int32) - a6)).toInt ≠ 0) (e52 : ((64 : Int32) - (xnlz (xbf 2 (xlo (xfr b0)) (xhi (xfr b0)) ((32 : Int32) - a6)))).toInt ≤ 64) (e53 : h1 ≠ 78) (e54 : h2 ≠ 78) (e55 : h0 ≠ 78) (e56 : a3.toInt ≤ 16384) (e57 : (-16384) ≤ a3.toInt) (e58 : h1 ≠ 16) (e59 : h2 ≠ 16) : xRun (d + 5) 128 [Value.ref 7, Value.int a0, Value.long b0, Value.int a1] w (.inl (some (Value.int 0))) (((((((w.set 16 (Sum.inr (4, [Value.int 0, Value.ref 17, Value.int 0, Value.int 0]))).set 18 (Sum.inl (0, 8, xup (xup (fun _ => Value.int 0) (0 : Int32).toInt.toNat (Value.int (xlo (xfr b0)))) (1 : Int32).toInt.toNat (Value.int (xhi (xfr b0)))))).set 17 (Sum.inr (3, [Value.ref 18, Value.int 2]))).set 16 (Sum.inr (4, [Value.int 0, Value.ref 17, Value.int (-1074), Value.int 0]))).set h0 (Sum.inr (2, [Value.int 64, Value.int 3, Value.int 0, Value.int a3, Value.ref h1]))).set h2 (Sum.inl (0, 8, xup (xup (fun _ => Value.int 0) (1 : Int32).toInt.toNat (Value.int (xbf 2 (xlo (xfr b0)) (xhi (xfr b0)) ((32 : Int32) - a6)))) (0 : Int32).toInt.toNat (Value.int (xbf 2 (xlo (xfr b0)) (xhi (xfr b0)) a5))))).set h1 (Sum.inr (3, [Value.ref h2, Value.int 2]))) := by
  refine xRun.of ?_
  refine i_128_0 (x := a0) rfl ?_
  refine i_128_1 (Nat.le_of_ble_eq_true rfl) (s_15_0 e0 e1) ?_
  refine i_128_4 (fun h => absurd h (by decide)) (fun _ => ?_)
  refine i_128_7 (x := a1) rfl ?_
  refine i_128_9 (Nat.le_of_ble_eq_true rfl) (s_22_0 e2 e3) ?_
  refine i_128_12 (fun _ => ?_) (fun h => absurd h (by decide))
  refine i_128_23 (x := 7) rfl ?_
  refine i_128_24 (v := Value.ref 8) hw4 rfl ?_
  refine i_128_27 (x := a0) rfl ?_
  refine i_128_28 (v := Value.ref h0) hw5 e0 e1 hg6 ?_
  refine i_128_29 (lv2 := [(5, Value.ref h0), (0, Value.ref 7), (1, Value.int a0), (2, Value.long b0), (4, Value.int a1)]) rfl ?_
  refine i_128_31 (x := b0) rfl ?_
  refine i_128_32 ?_
  refine i_128_33 (c := (lg_cmp b0 (0 : Int64))) rfl ?_
  refine i_128_34 (fun _ => ?_) (fun h => absurd e7 (Int.not_le.mpr h))
  refine i_128_41 ?_
  refine i_128_42 (lv2 := [(6, Value.int 0), (5, Value.ref h0), (0, Value.ref 7), (1, Value.int a0), (2, Value.long b0), (4, Value.int a1)]) rfl ?_
  refine i_128_44 (x := b0) rfl ?_
  refine i_128_45 ?_
  refine i_128_47 (c := (xsr b0 52)) rfl ?_
  refine i_128_48 (c := (xsr b0 52).toInt32) rfl ?_
  refine i_128_49 ?_
  refine i_128_52 (c := 0) hg8 ?_
  refine i_128_53 (lv2 := [(7, Value.int 0), (6, Value.int 0), (5, Value.ref h0), (0, Value.ref 7), (1, Value.int a0), (2, Value.long b0), (4, Value.int a1)]) rfl ?_
  refine i_128_55 (x := b0) rfl ?_
  refine i_128_56 ?_
  refine i_128_59 (c := (xfr b0)) rfl ?_
  refine i_128_60 (lv2 := [(8, Value.long (xfr b0)), (7, Value.int 0), (6, Value.int 0), (5, Value.ref h0), (0, Value.ref 7), (1, Value.int a0), (2, Value.long b0), (4, Value.int a1)]) rfl ?_
  refine i_128_62 (x := 0) rfl ?_
  refine i_128_64 ?_
  refine i_128_67 (fun _ => ?_) (fun h => absurd h (by decide))
  refine i_128_90 (x := 0) rfl ?_
  refine i_128_92 (fun h => absurd h (by decide)) (fun _ => ?_)
  refine i_128_95 (x := (xfr b0)) rfl ?_
  refine i_128_97 ?_
  refine i_128_98 (c := (lg_cmp (xfr b0) (0 : Int64))) rfl ?_
  refine i_128_99 (fun _ => ?_) (fun h => absurd e9 (fun g => g h))
  refine i_128_110 (x := 0) rfl ?_
  refine i_128_112 (fun h => absurd h (by decide)) (fun _ => ?_)
  refine i_128_115 (x := 7) rfl ?_
  refine i_128_116 (v := Value.ref 16) hw4 rfl ?_
  refine i_128_119 (x := 0) rfl ?_
  refine i_128_121 (x := (xfr b0)) rfl ?_
  refine i_128_123 ?_
  refine i_128_126 hw10 (Nat.le_of_ble_eq_true rfl) (s_24_5 hw10 hw11 hw12 e13) ?_
  refine i_128_129 ?_
  refine i_128_153 (x := 7) rfl ?_
  refine i_128_154 (v := Value.ref 78) (xgn (by decide) (xgn (by decide) (xgn (by decide) (xgn (by decide) hw4)))) rfl ?_
  refine i_128_157 (x := h0) rfl ?_
  refine i_128_159 (x := 7) rfl ?_
  refine i_128_160 (v := Value.ref 16) (xgn (by decide) (xgn (by decide) (xgn (by decide) (xgn (by decide) hw4)))) rfl ?_
  refine i_128_163 (x := a1) rfl ?_
  refine i_128_165 (xgn (by decide) (xgn (by decide) (xgn (by decide) (xgn (by decide) hw14)))) (Nat.le_of_ble_eq_true rfl) (s_27_61 (xgs (xgn (by decide) (xgn (by decide) (xgs hw10)))) (xgn (by decide) (xgs (xgn (by decide) (xgn (by decide) hw11)))) (xgn (by decide) (xgn (by decide) (xgs (xgn (by decide) hw12)))) xup_s hg15 hg16 (xgn e17 (xgn e18 (xgn e19 (xgn e17 hw20)))) (xgn (by decide) (xgn (by decide) (xgn (by decide) (xgn (by decide) hw14)))) hg21 hg22 e23 hg24 e25 e26 e27 e28 hg29 e30 (xgn e31 (xgn e32 (xgn e33 (xgn e31 hw34)))) hg35 e36 (xgn e37 (xgn e38 (xgn e39 (xgn e37 hw40)))) e41 (xup_n (by decide) xup_s) e42 e43 hg44 e45 e46 e47 e48 e49 e50 e51 e52 e53 e54 e55 e56 e57 e58 e59) ?_
  exact i_128_168 ⟨rfl, rfl⟩
theorem s_127_1 {d : Nat} {w : xW} {a0 : Int32} {b0 : Int64} {a1 : Int32} {g0 : Nat → Value} {h0 : Nat} {a2 : Int32} {a3 : Int32} {h1 : Nat} {a4 : Int32} {a5 : Int32} {a6 : Int32} {h2 : Nat} (hw0 : w[7]? = some (Sum.inr (0, [Value.ref 8, Value.ref 78, Value.ref 9, Value.ref 10, Value.ref 13, Value.ref 16, Value.ref 19, Value.ref 93, Value.ref 108, Value.ref 113, Value.ref 29, Value.int 0]))) (e1 : 0 ≤ a0.toInt) (e2 : a0.toInt < 16) (e3 : 0 ≤ a1.toInt) (e4 : a1.toInt ≤ 4) (hw5 : w[8]? = some (Sum.inl (4, 16, g0))) (hg6 : g0 a0.toInt.toNat = Value.ref h0) (e7 : 0 ≤ (lg_cmp b0 (0 : Int64)).toInt) (hg8 : (xfd b0) = 0) (e9 : (lg_cmp (xfr b0) (0 : Int64)).toInt ≠ 0) (hw10 : w[16]? = some (Sum.inr (4, [Value.int 0, Value.ref 17, Value.int 0, Value.int 0]))) (hw11 : w[17]? = some (Sum.inr (3, [Value.ref 18, Value.int 0]))) (hw12 : w[18]? = some (Sum.inl (0, 8, fun _ => Value.int 0))) (e13 : (xhi (xfr b0)).toInt ≠ 0) (hw14 : w[78]? = some (Sum.inr (1, [Value.int (-16384), Value.int 16384, Value.int 0, Value.int 0]))) (hg15 : ((64 : Int32) - (xnlz (xhi (xfr b0)))) = a2) (hg16 : (a2 + ((-1074) : Int32)) = a3) (e17 : 16 ≠ h0) (e18 : 17 ≠ h0) (e19 : 18 ≠ h0) (hw20 : w[h0]? = some (Sum.inr (2, [Value.int 64, Value.int 0, Value.int 0, Value.int 0, Value.ref h1]))) (hg21 : (a3 - (64 : Int32)) = a4) (hg22 : (a4 - ((-1074) : Int32)) = a5) (e23 : a5.toInt ≤ 0) (hg24 : (a3 - a4) = 64) (e25 : 7 ≤ h0) (e26 : h0 ≠ 16) (e27 : h0 ≠ 17) (e28 : h0 ≠ 18) (hg29 : ((64 : Int32) - a2) = a6) (e30 : h0 ≠ h1) (e31 : 16 ≠ h1) (e32 : 17 ≠ h1) (e33 : 18 ≠ h1) (hw34 : w[h1]? = some (Sum.inr (3, [Value.ref h2, Value.int 0]))) (hg35 : (a2 + a6) = 64) (e36 : h0 ≠ h2) (e37 : 16 ≠ h2) (e38 : 17 ≠ h2) (e39 : 18 ≠ h2) (hw40 : w[h2]? = some (Sum.inl (0, 8, fun _ => Value.int 0))) (e41 : 0 ≤ a6.toInt) (e42 : 7 ≤ h2) (e43 : h2 ≠ h1) (hg44 : ((0 : Int32) - a6) = a5) (e45 : h2 ≠ 17) (e46 : h2 ≠ 18) (e47 : 7 ≤ h1) (e48 : h1 ≠ h0) (e49 : h2 ≠ h0) (e50 : h1 ≠ h2) (e51 : (xbf 2 (xlo (xfr b0)) (xhi (xfr b0)) ((32 : Int32) - a6)).toInt ≠ 0) (e52 : ((64 : Int32) - (xnlz (xbf 2 (xlo (xfr b0)) (xhi (xfr b0)) ((32 : Int32) - a6)))).toInt ≤ 64) (e53 : h1 ≠ 78) (e54 : h2 ≠ 78) (e55 : h0 ≠ 78) (e56 : a3.toInt ≤ 16384) (e57 : (-16384) ≤ a3.toInt) (e58 : h1 ≠ 16) (e59 : h2 ≠ 16) (e60 : h1 ≠ 194) (e61 : h2 ≠ 194) (e62 : h0 ≠ 194) (hw63 : w[194]? = some (Sum.inl (3, 1, fun _ => Value.long 0))) : xRun (d + 6) 127 [Value.ref 7, Value.int a0, Value.long b0, Value.int a1, Value.ref 194] w (.inl (some (Value.int 0))) ((((((((w.set 16 (Sum.inr (4, [Value.int 0, Value.ref 17, Value.int 0, Value.int 0]))).set 18 (Sum.inl (0, 8, xup (xup (fun _ => Value.int 0) (0 : Int32).toInt.toNat (Value.int (xlo (xfr b0)))) (1 : Int32).toInt.toNat (Value.int (xhi (xfr b0)))))).set 17 (Sum.inr (3, [Value.ref 18, Value.int 2]))).set 16 (Sum.inr (4, [Value.int 0, Value.ref 17, Value.int (-1074), Value.int 0]))).set h0 (Sum.inr (2, [Value.int 64, Value.int 3, Value.int 0, Value.int a3, Value.ref h1]))).set h2 (Sum.inl (0, 8, xup (xup (fun _ => Value.int 0) (1 : Int32).toInt.toNat (Value.int (xbf 2 (xlo (xfr b0)) (xhi (xfr b0)) ((32 : Int32) - a6)))) (0 : Int32).toInt.toNat (Value.int (xbf 2 (xlo (xfr b0)) (xhi (xfr b0)) a5))))).set h1 (Sum.inr (3, [Value.ref h2, Value.int 2]))).set 194 (Sum.inl (3, 1, xup (fun _ => Value.long 0) (0 : Int32).toInt.toNat (Value.long 0)))) := by
  refine xRun.of ?_
  refine i_127_0 (x := 194) rfl ?_
  refine i_127_2 ?_
  refine i_127_3 (x := 7) rfl ?_
  refine i_127_4 (x := a0) rfl ?_
  refine i_127_5 (x := b0) rfl ?_
  refine i_127_6 (x := a1) rfl ?_
  refine i_127_8 hw0 (Nat.le_of_ble_eq_true rfl) (s_128_1 e1 e2 e3 e4 hw0 hw5 hg6 e7 hg8 e9 hw10 hw11 hw12 e13 hw14 hg15 hg16 e17 e18 e19 hw20 hg21 hg22 e23 hg24 e25 e26 e27 e28 hg29 e30 e31 e32 e33 hw34 hg35 e36 e37 e38 e39 hw40 e41 e42 e43 hg44 e45 e46 e47 e48 e49 e50 e51 e52 e53 e54 e55 e56 e57 e58 e59) ?_
  refine i_127_11 (c := 0) (by decide) ?_
  refine i_127_12 (v := Value.long 0) (xgn e60 (xgn e61 (xgn e62 (xgn (by decide) (xgn (by decide) (xgn (by decide) (xgn (by decide) hw63))))))) (by decide) (by decide) (by decide) rfl ?_
  refine i_127_13 ?_
  refine i_127_20 ?_
  exact i_127_21 ⟨rfl, rfl⟩
theorem cn16_00_1 {d : Nat} {xs : Nat → Int32} {B K N16 N17 N18 : Int32} (c0 : 0 ≤ (xs 1).toInt) (c1 : (xs 1).toInt < 16) (c2 : 0 ≤ (xs 4).toInt) (c3 : (xs 4).toInt ≤ 4) (c4 : 0 ≤ (xfd (xvv xs)).toInt) (c5 : (xfd (xvv xs)).toInt ≤ 2047) (c6 : (xfd (xvv xs)).toInt ≠ 2047) (c7 : (xfd (xvv xs)).toInt = 0) (c8 : (lg_cmp (xfr (xvv xs)) (0 : Int64)).toInt ≠ 0) (c9 : 0 ≤ (lg_cmp (xvv xs) (0 : Int64)).toInt) (c10 : K.toInt = 64 - B.toInt) (c11 : 33 ≤ B.toInt) (c12 : B.toInt ≤ 64) (c13 : (xhi (xfr (xvv xs))).toInt ≠ 0) (c14 : (xnlz (xhi (xfr (xvv xs)))).toInt = 64 - B.toInt) (c15 : (xbf 2 (xlo (xfr (xvv xs))) (xhi (xfr (xvv xs))) ((32 : Int32) - K)).toInt ≠ 0) (eN16 : (B + ((-1074) : Int32)) = N16) (nN16 : N16.toInt = B.toInt + (-1074)) (eN17 : (N16 - (64 : Int32)) = N17) (nN17 : N17.toInt = N16.toInt - 64) (eN18 : (N17 - ((-1074) : Int32)) = N18) (nN18 : N18.toInt = N17.toInt - (-1074)) : ∃ w1, xRun (d + 18) 127 [Value.ref 7, Value.int (xs 1), Value.long (xvv xs), Value.int (xs 4), Value.ref 194] (W0 6 xs) (.inl (some (Value.int 0))) w1 ∧ xKp (W0 6 xs) w1 xPC ∧ w1[194]? = some (Sum.inl (3, 1, xup (fun _ => Value.long 0) (0 : Int32).toInt.toNat (Value.long 0))) := by
  have f0 : ((64 : Int32) - (xnlz (xhi (xfr (xvv xs))))).toInt = 64 - (xnlz (xhi (xfr (xvv xs)))).toInt := xsub_g rfl rfl (by omega) (by omega)
  have f1 : (N16 - N17).toInt = N16.toInt - N17.toInt := xsub_i (by omega) (by omega)
  have f2 : ((64 : Int32) - B).toInt = 64 - B.toInt := xsub_g rfl rfl (by omega) (by omega)
  have f3 : (B + K).toInt = B.toInt + K.toInt := xadd_i (by omega) (by omega)
  have f4 : ((0 : Int32) - K).toInt = 0 - K.toInt := xsub_g rfl rfl (by omega) (by omega)
  have f5 : 0 ≤ (xnlz (xbf 2 (xlo (xfr (xvv xs))) (xhi (xfr (xvv xs))) ((32 : Int32) - K))).toInt := (xnlz_b _).1
  have f6 : (xnlz (xbf 2 (xlo (xfr (xvv xs))) (xhi (xfr (xvv xs))) ((32 : Int32) - K))).toInt ≤ 32 := (xnlz_b _).2
  have f7 : ((64 : Int32) - (xnlz (xbf 2 (xlo (xfr (xvv xs))) (xhi (xfr (xvv xs))) ((32 : Int32) - K)))).toInt = 64 - (xnlz (xbf 2 (xlo (xfr (xvv xs))) (xhi (xfr (xvv xs))) ((32 : Int32) - K))).toInt := xsub_g rfl rfl (by omega) (by omega)
  refine ⟨(((((((((W0 6 xs).set 16 (Sum.inr (4, [Value.int 0, Value.ref 17, Value.int 0, Value.int 0]))).set 18 (Sum.inl (0, 8, xup (xup (fun _ => Value.int 0) (0 : Int32).toInt.toNat (Value.int (xlo (xfr (xvv xs))))) (1 : Int32).toInt.toNat (Value.int (xhi (xfr (xvv xs))))))).set 17 (Sum.inr (3, [Value.ref 18, Value.int 2]))).set 16 (Sum.inr (4, [Value.int 0, Value.ref 17, Value.int (-1074), Value.int 0]))).set (30 + 3 * (xs 1).toInt.toNat) (Sum.inr (2, [Value.int 64, Value.int 3, Value.int 0, Value.int N16, Value.ref (31 + 3 * (xs 1).toInt.toNat)]))).set (32 + 3 * (xs 1).toInt.toNat) (Sum.inl (0, 8, xup (xup (fun _ => Value.int 0) (1 : Int32).toInt.toNat (Value.int (xbf 2 (xlo (xfr (xvv xs))) (xhi (xfr (xvv xs))) ((32 : Int32) - K)))) (0 : Int32).toInt.toNat (Value.int (xbf 2 (xlo (xfr (xvv xs))) (xhi (xfr (xvv xs))) N18))))).set (31 + 3 * (xs 1).toInt.toNat) (Sum.inr (3, [Value.ref (32 + 3 * (xs 1).toInt.toNat), Value.int 2]))).set 194 (Sum.inl (3, 1, xup (fun _ => Value.long 0) (0 : Int32).toInt.toNat (Value.long 0)))), (s_127_1 W0_7 (by omega) (by omega) (by omega) (by omega) W0_8 (greg_at (by omega)) (by omega) (show (xfd (xvv xs)) = 0 from (xge_c (n := 0) (by omega) rfl)) (by omega) W0_16 W0_17 W0_18 (by omega) W0_78 (show ((64 : Int32) - (xnlz (xhi (xfr (xvv xs))))) = B from (xge_i (by omega))) (show (B + ((-1074) : Int32)) = N16 from eN16) (by omega) (by omega) (by omega) (W0_reg (by omega)) (show (N16 - (64 : Int32)) = N17 from eN17) (show (N17 - ((-1074) : Int32)) = N18 from eN18) (by omega) (show (N16 - N17) = 64 from (xge_c (n := 64) (by omega) rfl)) (by omega) (by omega) (by omega) (by omega) (show ((64 : Int32) - B) = K from (xge_i (by omega))) (by omega) (by omega) (by omega) (by omega) (W0_man (by omega)) (show (B + K) = 64 from (xge_c (n := 64) (by omega) rfl)) (by omega) (by omega) (by omega) (by omega) (W0_mw (by omega)) (by omega) (by omega) (by omega) (show ((0 : Int32) - K) = N18 from (xge_i (by omega))) (by omega) (by omega) (by omega) (by omega) (by omega) (by omega) (by omega) (by omega) (by omega) (by omega) (by omega) (by omega) (by omega) (by omega) (by omega) (by omega) (by omega) (by omega) W0_194), ?_, xgs (xgn (by omega) (xgn (by omega) (xgn (by omega) (xgn (by decide) (xgn (by decide) (xgn (by decide) (xgn (by decide) W0_194)))))))⟩
  refine xKp.set ?_ (fun h hh => by unfold xPC at hh; omega) (xgn (by omega) (xgn (by omega) (xgn (by omega) (xgn (by decide) (xgn (by decide) (xgn (by decide) (xgn (by decide) W0_194))))))) xcs_a
  refine xKp.set ?_ (fun h hh => by unfold xPC at hh; omega) (xgn (by omega) (xgn (by omega) (xgn (by omega) (xgn (by omega) (xgn (by omega) (xgn (by omega) (W0_man (by omega)))))))) xcs_o
  refine xKp.set ?_ (fun h hh => by unfold xPC at hh; omega) (xgn (by omega) (xgn (by omega) (xgn (by omega) (xgn (by omega) (xgn (by omega) (W0_mw (by omega))))))) xcs_a
  refine xKp.set ?_ (fun h hh => by unfold xPC at hh; omega) (xgn (by omega) (xgn (by omega) (xgn (by omega) (xgn (by omega) (W0_reg (by omega)))))) xcs_o
  refine xKp.set ?_ (fun h hh => by unfold xPC at hh; omega) (xgn (by decide) (xgn (by decide) (xgs W0_16))) xcs_o
  refine xKp.set ?_ (fun h hh => by unfold xPC at hh; omega) (xgn (by decide) (xgn (by decide) W0_17)) xcs_o
  refine xKp.set ?_ (fun h hh => by unfold xPC at hh; omega) (xgn (by decide) W0_18) xcs_a
  refine xKp.set ?_ (fun h hh => by unfold xPC at hh; omega) (W0_16) xcs_o
  exact xKp.refl
theorem cls16_00 {d : Nat} {xs : Nat → Int32} (c0 : 0 ≤ (xs 1).toInt) (c1 : (xs 1).toInt < 16) (c2 : 0 ≤ (xs 4).toInt) (c3 : (xs 4).toInt ≤ 4) (c4 : 0 ≤ (xfd (xvv xs)).toInt) (c5 : (xfd (xvv xs)).toInt ≤ 2047) (c6 : (xfd (xvv xs)).toInt ≠ 2047) (c7 : (xfd (xvv xs)).toInt = 0) (c8 : (lg_cmp (xfr (xvv xs)) (0 : Int64)).toInt ≠ 0) (c9 : 0 ≤ (lg_cmp (xvv xs) (0 : Int64)).toInt) : ∃ w1, xRun (d + 18) 127 [Value.ref 7, Value.int (xs 1), Value.long (xvv xs), Value.int (xs 4), Value.ref 194] (W0 6 xs) (.inl (some (Value.int 0))) w1 ∧ xKp (W0 6 xs) w1 xPC ∧ w1[194]? = some (Sum.inl (3, 1, xup (fun _ => Value.long 0) (0 : Int32).toInt.toNat (Value.long (xres 0 (xfr (xvv xs)) ((-1074) : Int32) (xs 4)).toInt64))) := by
  obtain ⟨B, K, hB, c10, hr⟩ := xregC (m := (xfr (xvv xs))) (xnm_p c8)
  rcases hr with ⟨c11, c12, c13, c14, c15, c16⟩ | ⟨c11, c12, c13, c14, c15⟩
  · have fs : ((-1074) : Int32).toInt = -1074 := rfl
    obtain ⟨N17, eN17⟩ : ∃ N : Int32, (B + ((-1074) : Int32)) = N := ⟨_, rfl⟩
    have nN17 : N17.toInt = B.toInt + (-1074) := by rw [← eN17]; exact xadd_g rfl rfl (by omega) (by omega)
    obtain ⟨N18, eN18⟩ : ∃ N : Int32, (N17 - (64 : Int32)) = N := ⟨_, rfl⟩
    have nN18 : N18.toInt = N17.toInt - 64 := by rw [← eN18]; exact xsub_g rfl rfl (by omega) (by omega)
    obtain ⟨N19, eN19⟩ : ∃ N : Int32, (N18 - ((-1074) : Int32)) = N := ⟨_, rfl⟩
    have nN19 : N19.toInt = N18.toInt - (-1074) := by rw [← eN19]; exact xsub_g rfl rfl (by omega) (by omega)
    have e : (xres 0 (xfr (xvv xs)) ((-1074) : Int32) (xs 4)).toInt64 = 0 := by rw [show xres 0 (xfr (xvv xs)) ((-1074) : Int32) (xs 4) = 0 from (xans_in (by rw [fs, ← hB]; omega) (by rw [fs, ← hB]; omega)).trans rfl]; rfl
    rw [e]
    exact cn16_00_0 c0 c1 c2 c3 c4 c5 c6 c7 c8 c9 c10 c11 c12 c13 c14 c15 c16 eN17 nN17 eN18 nN18 eN19 nN19
  · have fs : ((-1074) : Int32).toInt = -1074 := rfl
    obtain ⟨N16, eN16⟩ : ∃ N : Int32, (B + ((-1074) : Int32)) = N := ⟨_, rfl⟩
    have nN16 : N16.toInt = B.toInt + (-1074) := by rw [← eN16]; exact xadd_g rfl rfl (by omega) (by omega)
    obtain ⟨N17, eN17⟩ : ∃ N : Int32, (N16 - (64 : Int32)) = N := ⟨_, rfl⟩
    have nN17 : N17.toInt = N16.toInt - 64 := by rw [← eN17]; exact xsub_g rfl rfl (by omega) (by omega)
    obtain ⟨N18, eN18⟩ : ∃ N : Int32, (N17 - ((-1074) : Int32)) = N := ⟨_, rfl⟩
    have nN18 : N18.toInt = N17.toInt - (-1074) := by rw [← eN18]; exact xsub_g rfl rfl (by omega) (by omega)
    have e : (xres 0 (xfr (xvv xs)) ((-1074) : Int32) (xs 4)).toInt64 = 0 := by rw [show xres 0 (xfr (xvv xs)) ((-1074) : Int32) (xs 4) = 0 from (xans_in (by rw [fs, ← hB]; omega) (by rw [fs, ← hB]; omega)).trans rfl]; rfl
    rw [e]
    exact cn16_00_1 c0 c1 c2 c3 c4 c5 c6 c7 c8 c9 c10 c11 c12 c13 c14 c15 eN16 nN16 eN17 nN17 eN18 nN18
theorem s_28_6 {d : Nat} {w : xW} {a0 : Int32} {g0 : Nat → Value} {a1 : Int32} {a2 : Int32} {a3 : Int32} (hw0 : w[16]? = some (Sum.inr (4, [Value.int 0, Value.ref 17, Value.int a0, Value.int 0]))) (hw1 : w[17]? = some (Sum.inr (3, [Value.ref 18, Value.int 1]))) (hw2 : w[18]? = some (Sum.inl (0, 8, g0))) (hg3 : g0 (0 : Int32).toInt.toNat = Value.int a1) (hg4 : ((32 : Int32) - (xnlz a1)) = a2) (hg5 : (a2 + a0) = a3) : xRun (d + 2) 28 [Value.ref 16] w (.inl (some (Value.int a3))) w := by
  refine xRun.of ?_
  refine i_28_0 (x := 16) rfl ?_
  refine i_28_1 (v := Value.ref 17) hw0 rfl ?_
  refine i_28_4 hw1 (Nat.le_of_ble_eq_true rfl) (s_29_0 hw1 hw2 hg3 hg4) ?_
  refine i_28_7 (x := 16) rfl ?_
  refine i_28_8 (v := Value.int a0) hw0 rfl ?_
  refine i_28_11 (c := a3) hg5 ?_
  exact i_28_12 ⟨rfl, rfl⟩
theorem s_32_6 {d : Nat} {w : xW} {a0 : Int32} {a1 : Int32} {a2 : Int32} (hw0 : w[16]? = some (Sum.inr (4, [Value.int 0, Value.ref 17, Value.int a1, Value.int 0]))) (hg1 : (a0 - a1) = a2) (hw2 : w[17]? = some (Sum.inr (3, [Value.ref 18, Value.int 1]))) (e3 : a2.toInt ≤ 0) : xRun (d + 1) 32 [Value.ref 16, Value.int a0] w (.inl (some (Value.int 1))) w := by
  refine xRun.of ?_
  refine i_32_0 (x := 16) rfl ?_
  refine i_32_1 (v := Value.int 0) hw0 rfl ?_
  refine i_32_4 (fun h => absurd h (by decide)) (fun _ => ?_)
  refine i_32_7 (x := 16) rfl ?_
  refine i_32_8 (v := Value.ref 17) hw0 rfl ?_
  refine i_32_11 (x := a0) rfl ?_
  refine i_32_12 (x := 16) rfl ?_
  refine i_32_13 (v := Value.int a1) hw0 rfl ?_
  refine i_32_16 (c := a2) hg1 ?_
  refine i_32_17 hw2 (Nat.le_of_ble_eq_true rfl) (s_33_0 e3) ?_
  refine i_32_20 (fun h => absurd h (by decide)) (fun _ => ?_)
  refine i_32_23 ?_
  refine i_32_24 ?_
  exact i_32_28 rfl ⟨rfl, rfl⟩
theorem s_31_6 {d : Nat} {w : xW} {a0 : Int32} {a1 : Int32} {a2 : Int32} {a3 : Int32} (hw0 : w[16]? = some (Sum.inr (4, [Value.int 0, Value.ref 17, Value.int a2, Value.int 0]))) (hg1 : (a0 - a2) = a3) (hw2 : w[17]? = some (Sum.inr (3, [Value.ref 18, Value.int 1]))) (e3 : a3.toInt ≤ 0) : xRun (d + 2) 31 [Value.ref 16, Value.int a0, Value.int a1] w (.inl (some (Value.int 0))) w := by
  refine xRun.of ?_
  refine i_31_0 (x := 16) rfl ?_
  refine i_31_1 (x := a0) rfl ?_
  refine i_31_2 hw0 (Nat.le_of_ble_eq_true rfl) (s_32_6 hw0 hg1 hw2 e3) ?_
  refine i_31_5 (fun h => absurd h (by decide)) (fun _ => ?_)
  refine i_31_8 ?_
  exact i_31_9 rfl ⟨rfl, rfl⟩
theorem s_38_6 {d : Nat} {w : xW} {h0 : Nat} {a0 : Int32} {a1 : Int32} {g0 : Nat → Value} {a2 : Int32} {a3 : Int32} {a4 : Int32} {h1 : Nat} {a5 : Int32} {h2 : Nat} {a6 : Int32} (hw0 : w[16]? = some (Sum.inr (4, [Value.int 0, Value.ref 17, Value.int a1, Value.int 0]))) (hw1 : w[17]? = some (Sum.inr (3, [Value.ref 18, Value.int 1]))) (hw2 : w[18]? = some (Sum.inl (0, 8, g0))) (hg3 : g0 (0 : Int32).toInt.toNat = Value.int a2) (hg4 : ((32 : Int32) - (xnlz a2)) = a3) (hg5 : (a3 + a1) = a4) (hg6 : (a4 - a0) = 64) (hw7 : w[h0]? = some (Sum.inr (2, [Value.int 64, Value.int 0, Value.int 0, Value.int 0, Value.ref h1]))) (e8 : 7 ≤ h0) (e9 : h0 ≠ 16) (e10 : h0 ≠ 17) (e11 : h0 ≠ 18) (hg12 : ((64 : Int32) - a3) = a5) (e13 : h0 ≠ h1) (hw14 : w[h1]? = some (Sum.inr (3, [Value.ref h2, Value.int 0]))) (hg15 : (a3 + a5) = 64) (e16 : h0 ≠ h2) (hw17 : w[h2]? = some (Sum.inl (0, 8, fun _ => Value.int 0))) (e18 : 0 ≤ a5.toInt) (hg19 : g0 (1 : Int32).toInt.toNat = Value.int 0) (e20 : 7 ≤ h2) (e21 : h2 ≠ h1) (hg22 : ((0 : Int32) - a5) = a6) (e23 : h2 ≠ 17) (e24 : h2 ≠ 18) (e25 : 7 ≤ h1) (e26 : h1 ≠ h0) (e27 : h2 ≠ h0) (e28 : h1 ≠ h2) (e29 : (xbf 1 a2 (0 : Int32) ((32 : Int32) - a5)).toInt ≠ 0) (e30 : ((64 : Int32) - (xnlz (xbf 1 a2 (0 : Int32) ((32 : Int32) - a5)))).toInt ≤ 64) : xRun (d + 3) 38 [Value.ref h0, Value.ref 16, Value.int a0, Value.int 0] w (.inl none) (((w.set h0 (Sum.inr (2, [Value.int 64, Value.int 3, Value.int 0, Value.int a4, Value.ref h1]))).set h2 (Sum.inl (0, 8, xup (xup (fun _ => Value.int 0) (1 : Int32).toInt.toNat (Value.int (xbf 1 a2 (0 : Int32) ((32 : Int32) - a5)))) (0 : Int32).toInt.toNat (Value.int (xbf 1 a2 (0 : Int32) a6))))).set h1 (Sum.inr (3, [Value.ref h2, Value.int 2]))) := by
  refine xRun.of ?_
  refine i_38_0 (x := 16) rfl ?_
  refine i_38_1 hw0 (Nat.le_of_ble_eq_true rfl) (s_28_6 hw0 hw1 hw2 hg3 hg4 hg5) ?_
  refine i_38_4 (lv2 := [(4, Value.int a4), (0, Value.ref h0), (1, Value.ref 16), (2, Value.int a0), (3, Value.int 0)]) rfl ?_
  refine i_38_6 (x := a4) rfl ?_
  refine i_38_8 (x := a0) rfl ?_
  refine i_38_9 (c := 64) hg6 ?_
  refine i_38_10 (lv2 := [(5, Value.int 64), (4, Value.int a4), (0, Value.ref h0), (1, Value.ref 16), (2, Value.int a0), (3, Value.int 0)]) rfl ?_
  refine i_38_12 (x := 64) rfl ?_
  refine i_38_14 (fun _ => ?_) (fun h => absurd h (by decide))
  refine i_38_31 (x := 64) rfl ?_
  refine i_38_33 (fun _ => ?_) (fun h => absurd h (by decide))
  refine i_38_48 (x := h0) rfl ?_
  refine i_38_49 ?_
  refine i_38_50 (fs2 := [Value.int 64, Value.int 3, Value.int 0, Value.int 0, Value.ref h1]) hw7 (Nat.le_of_ble_eq_true rfl) rfl e8 ?_
  refine i_38_53 (x := h0) rfl ?_
  refine i_38_54 (x := 16) rfl ?_
  refine i_38_55 (v := Value.int 0) (xgn e9 hw0) rfl ?_
  refine i_38_58 (fs2 := [Value.int 64, Value.int 3, Value.int 0, Value.int 0, Value.ref h1]) (xgs hw7) rfl (Nat.le_of_ble_eq_true rfl) rfl e8 ?_
  refine xEv.world (List.set_set _) ?_
  refine i_38_61 (x := h0) rfl ?_
  refine i_38_62 (x := a4) rfl ?_
  refine i_38_64 (fs2 := [Value.int 64, Value.int 3, Value.int 0, Value.int a4, Value.ref h1]) (xgs hw7) (Nat.le_of_ble_eq_true rfl) rfl e8 ?_
  refine xEv.world (List.set_set _) ?_
  refine i_38_67 (x := h0) rfl ?_
  refine i_38_68 (v := Value.ref h1) (xgs hw7) rfl ?_
  refine i_38_71 (x := 16) rfl ?_
  refine i_38_72 (v := Value.ref 17) (xgn e9 hw0) rfl ?_
  refine i_38_75 (x := h0) rfl ?_
  refine i_38_76 (v := Value.int 64) (xgs hw7) rfl ?_
  refine i_38_79 (x := 16) rfl ?_
  refine i_38_80 (v := Value.ref 17) (xgn e9 hw0) rfl ?_
  refine i_38_83 (xgn e10 hw1) (Nat.le_of_ble_eq_true rfl) (s_29_0 (xgn e10 hw1) (xgn e11 hw2) hg3 hg4) ?_
  refine i_38_86 (c := a5) hg12 ?_
  refine i_38_87 (xgn e13 hw14) (Nat.le_of_ble_eq_true rfl) (s_42_2 (xgn e10 hw1) (xgn e11 hw2) hg3 hg4 hg15 (xgn e13 hw14) (xgn e16 hw17) e18 hg19 e20 e21 hg22 e23 e24 e25) ?_
  refine i_38_90 (x := h0) rfl ?_
  refine i_38_91 (v := Value.ref h1) (xgn e26 (xgn e27 (xgs hw7))) rfl ?_
  refine i_38_94 (x := h0) rfl ?_
  refine i_38_95 (v := Value.int 64) (xgn e26 (xgn e27 (xgs hw7))) rfl ?_
  refine i_38_98 (x := 64) rfl ?_
  refine i_38_100 (c := 0) (by decide) ?_
  refine i_38_101 (xgs (xgn e21 (xgn e13 hw14))) (Nat.le_of_ble_eq_true rfl) (s_43_0 (xgs (xgn e21 (xgn e13 hw14))) (xgn e28 (xgs (xgn e16 hw17))) (xup_n (by decide) xup_s) e29) ?_
  refine i_38_104 (x := 0) rfl ?_
  refine i_38_105 (fun _ => ?_) (fun h => absurd h (by decide))
  refine i_38_122 (x := h0) rfl ?_
  refine i_38_123 (v := Value.ref h1) (xgn e26 (xgn e27 (xgs hw7))) rfl ?_
  refine i_38_126 (xgs (xgn e21 (xgn e13 hw14))) (Nat.le_of_ble_eq_true rfl) (s_29_1 (xgs (xgn e21 (xgn e13 hw14))) (xgn e28 (xgs (xgn e16 hw17))) (xup_n (by decide) xup_s)) ?_
  refine i_38_129 (x := h0) rfl ?_
  refine i_38_130 (v := Value.int 64) (xgn e26 (xgn e27 (xgs hw7))) rfl ?_
  refine i_38_133 (fun _ => ?_) (fun h => absurd e30 (Int.not_le.mpr h))
  exact i_38_148 ⟨rfl, rfl⟩
theorem s_27_62 {d : Nat} {w : xW} {h0 : Nat} {a0 : Int32} {a1 : Int32} {g0 : Nat → Value} {a2 : Int32} {a3 : Int32} {a4 : Int32} {h1 : Nat} {a5 : Int32} {a6 : Int32} {a7 : Int32} {h2 : Nat} (hw0 : w[16]? = some (Sum.inr (4, [Value.int 0, Value.ref 17, Value.int a1, Value.int 0]))) (hw1 : w[17]? = some (Sum.inr (3, [Value.ref 18, Value.int 1]))) (hw2 : w[18]? = some (Sum.inl (0, 8, g0))) (hg3 : g0 (0 : Int32).toInt.toNat = Value.int a2) (hg4 : ((32 : Int32) - (xnlz a2)) = a3) (hg5 : (a3 + a1) = a4) (hw6 : w[h0]? = some (Sum.inr (2, [Value.int 64, Value.int 0, Value.int 0, Value.int 0, Value.ref h1]))) (hw7 : w[78]? = some (Sum.inr (1, [Value.int (-16384), Value.int 16384, Value.int 0, Value.int 0]))) (hg8 : (a4 - (64 : Int32)) = a5) (hg9 : (a5 - a1) = a6) (e10 : a6.toInt ≤ 0) (hg11 : (a4 - a5) = 64) (e12 : 7 ≤ h0) (e13 : h0 ≠ 16) (e14 : h0 ≠ 17) (e15 : h0 ≠ 18) (hg16 : ((64 : Int32) - a3) = a7) (e17 : h0 ≠ h1) (hw18 : w[h1]? = some (Sum.inr (3, [Value.ref h2, Value.int 0]))) (hg19 : (a3 + a7) = 64) (e20 : h0 ≠ h2) (hw21 : w[h2]? = some (Sum.inl (0, 8, fun _ => Value.int 0))) (e22 : 0 ≤ a7.toInt) (hg23 : g0 (1 : Int32).toInt.toNat = Value.int 0) (e24 : 7 ≤ h2) (e25 : h2 ≠ h1) (hg26 : ((0 : Int32) - a7) = a6) (e27 : h2 ≠ 17) (e28 : h2 ≠ 18) (e29 : 7 ≤ h1) (e30 : h1 ≠ h0) (e31 : h2 ≠ h0) (e32 : h1 ≠ h2) (e33 : (xbf 1 a2 (0 : Int32) ((32 : Int32) - a7)).toInt ≠ 0) (e34 : ((64 : Int32) - (xnlz (xbf 1 a2 (0 : Int32) ((32 : Int32) - a7)))).toInt ≤ 64) (e35 : h1 ≠ 78) (e36 : h2 ≠ 78) (e37 : h0 ≠ 78) (e38 : a4.toInt ≤ 16384) (e39 : (-16384) ≤ a4.toInt) (e40 : h1 ≠ 16) (e41 : h2 ≠ 16) : xRun (d + 4) 27 [Value.ref 78, Value.ref h0, Value.ref 16, Value.int a0] w (.inl (some (Value.int 0))) (((w.set h0 (Sum.inr (2, [Value.int 64, Value.int 3, Value.int 0, Value.int a4, Value.ref h1]))).set h2 (Sum.inl (0, 8, xup (xup (fun _ => Value.int 0) (1 : Int32).toInt.toNat (Value.int (xbf 1 a2 (0 : Int32) ((32 : Int32) - a7)))) (0 : Int32).toInt.toNat (Value.int (xbf 1 a2 (0 : Int32) a6))))).set h1 (Sum.inr (3, [Value.ref h2, Value.int 2]))) := by
  refine xRun.of ?_
  refine i_27_0 (x := 16) rfl ?_
  refine i_27_1 hw0 (Nat.le_of_ble_eq_true rfl) (s_28_6 hw0 hw1 hw2 hg3 hg4 hg5) ?_
  refine i_27_4 (lv2 := [(4, Value.int a4), (0, Value.ref 78), (1, Value.ref h0), (2, Value.ref 16), (3, Value.int a0)]) rfl ?_
  refine i_27_6 (x := 78) rfl ?_
  refine i_27_7 (x := a4) rfl ?_
  refine i_27_9 (x := h0) rfl ?_
  refine i_27_10 (v := Value.int 64) hw6 rfl ?_
  refine i_27_13 hw7 (Nat.le_of_ble_eq_true rfl) (s_30_1 hw7 hg8) ?_
  refine i_27_16 (lv2 := [(5, Value.int a5), (4, Value.int a4), (0, Value.ref 78), (1, Value.ref h0), (2, Value.ref 16), (3, Value.int a0)]) rfl ?_
  refine i_27_18 (x := 16) rfl ?_
  refine i_27_19 (x := a5) rfl ?_
  refine i_27_21 (x := a0) rfl ?_
  refine i_27_22 hw0 (Nat.le_of_ble_eq_true rfl) (s_31_6 hw0 hg9 hw1 e10) ?_
  refine i_27_25 (lv2 := [(6, Value.int 0), (5, Value.int a5), (4, Value.int a4), (0, Value.ref 78), (1, Value.ref h0), (2, Value.ref 16), (3, Value.int a0)]) rfl ?_
  refine i_27_27 (x := 16) rfl ?_
  refine i_27_28 (x := a5) rfl ?_
  refine i_27_30 hw0 (Nat.le_of_ble_eq_true rfl) (s_32_6 hw0 hg9 hw1 e10) ?_
  refine i_27_33 (fun h => absurd h (by decide)) (fun _ => ?_)
  refine i_27_36 ?_
  refine i_27_37 ?_
  refine i_27_50 (lv2 := [(7, Value.int 0), (6, Value.int 0), (5, Value.int a5), (4, Value.int a4), (0, Value.ref 78), (1, Value.ref h0), (2, Value.ref 16), (3, Value.int a0)]) rfl ?_
  refine i_27_52 (x := h0) rfl ?_
  refine i_27_53 (x := 16) rfl ?_
  refine i_27_54 (x := a5) rfl ?_
  refine i_27_56 (x := 0) rfl ?_
  refine i_27_58 hw6 (Nat.le_of_ble_eq_true rfl) (s_38_6 hw0 hw1 hw2 hg3 hg4 hg5 hg11 hw6 e12 e13 e14 e15 hg16 e17 hw18 hg19 e20 hw21 e22 hg23 e24 e25 hg26 e27 e28 e29 e30 e31 e32 e33 e34) ?_
  refine i_27_61 (x := h0) rfl ?_
  refine i_27_62 (v := Value.int 3) (xgn e30 (xgn e31 (xgs hw6))) rfl ?_
  refine i_27_65 ?_
  refine i_27_66 (fun h => absurd h (by decide)) (fun _ => ?_)
  refine i_27_69 (x := h0) rfl ?_
  refine i_27_70 (v := Value.int a4) (xgn e30 (xgn e31 (xgs hw6))) rfl ?_
  refine i_27_73 (x := 78) rfl ?_
  refine i_27_74 (v := Value.int 16384) (xgn e35 (xgn e36 (xgn e37 hw7))) rfl ?_
  refine i_27_77 (fun _ => ?_) (fun h => absurd e38 (Int.not_le.mpr h))
  refine i_27_95 (x := h0) rfl ?_
  refine i_27_96 (v := Value.int 3) (xgn e30 (xgn e31 (xgs hw6))) rfl ?_
  refine i_27_99 ?_
  refine i_27_100 (fun h => absurd h (by decide)) (fun _ => ?_)
  refine i_27_103 (x := 78) rfl ?_
  refine i_27_104 (v := Value.int 0) (xgn e35 (xgn e36 (xgn e37 hw7))) rfl ?_
  refine i_27_107 (fun h => absurd h (by decide)) (fun _ => ?_)
  refine i_27_110 (x := h0) rfl ?_
  refine i_27_111 (v := Value.int a4) (xgn e30 (xgn e31 (xgs hw6))) rfl ?_
  refine i_27_114 (x := 78) rfl ?_
  refine i_27_115 (v := Value.int (-16384)) (xgn e35 (xgn e36 (xgn e37 hw7))) rfl ?_
  refine i_27_118 (fun _ => ?_) (fun h => absurd e39 (Int.not_le.mpr h))
  refine i_27_133 (x := 78) rfl ?_
  refine i_27_134 (v := Value.int 0) (xgn e35 (xgn e36 (xgn e37 hw7))) rfl ?_
  refine i_27_137 (fun _ => ?_) (fun h => absurd h (by decide))
  refine i_27_164 (x := 0) rfl ?_
  refine i_27_166 (fun _ => ?_) (fun h => absurd h (by decide))
  refine i_27_179 (x := 16) rfl ?_
  refine i_27_180 (v := Value.int 0) (xgn e40 (xgn e41 (xgn e13 hw0))) rfl ?_
  refine i_27_183 (fun _ => ?_) (fun h => absurd h (by decide))
  refine i_27_192 (x := 0) rfl ?_
  exact i_27_194 ⟨rfl, rfl⟩
theorem s_128_2 {d : Nat} {w : xW} {a0 : Int32} {b0 : Int64} {a1 : Int32} {g0 : Nat → Value} {h0 : Nat} {a2 : Int32} {a3 : Int32} {a4 : Int32} {h1 : Nat} {a5 : Int32} {a6 : Int32} {a7 : Int32} {h2 : Nat} (e0 : 0 ≤ a0.toInt) (e1 : a0.toInt < 16) (e2 : 0 ≤ a1.toInt) (e3 : a1.toInt ≤ 4) (hw4 : w[7]? = some (Sum.inr (0, [Value.ref 8, Value.ref 78, Value.ref 9, Value.ref 10, Value.ref 13, Value.ref 16, Value.ref 19, Value.ref 93, Value.ref 108, Value.ref 113, Value.ref 29, Value.int 0]))) (hw5 : w[8]? = some (Sum.inl (4, 16, g0))) (hg6 : g0 a0.toInt.toNat = Value.ref h0) (e7 : 0 ≤ (lg_cmp b0 (0 : Int64)).toInt) (e8 : (xfd b0).toInt ≠ 2047) (e9 : (xfd b0).toInt ≠ 0) (hg10 : ((xfd b0) - (1075 : Int32)) = a2) (hw11 : w[16]? = some (Sum.inr (4, [Value.int 0, Value.ref 17, Value.int 0, Value.int 0]))) (hw12 : w[17]? = some (Sum.inr (3, [Value.ref 18, Value.int 0]))) (hw13 : w[18]? = some (Sum.inl (0, 8, fun _ => Value.int 0))) (hg14 : (xhi (xfo b0)) = 0) (e15 : (xlo (xfo b0)).toInt ≠ 0) (hw16 : w[78]? = some (Sum.inr (1, [Value.int (-16384), Value.int 16384, Value.int 0, Value.int 0]))) (hg17 : ((32 : Int32) - (xnlz (xlo (xfo b0)))) = a3) (hg18 : (a3 + a2) = a4) (e19 : 16 ≠ h0) (e20 : 17 ≠ h0) (e21 : 18 ≠ h0) (hw22 : w[h0]? = some (Sum.inr (2, [Value.int 64, Value.int 0, Value.int 0, Value.int 0, Value.ref h1]))) (hg23 : (a4 - (64 : Int32)) = a5) (hg24 : (a5 - a2) = a6) (e25 : a6.toInt ≤ 0) (hg26 : (a4 - a5) = 64) (e27 : 7 ≤ h0) (e28 : h0 ≠ 16) (e29 : h0 ≠ 17) (e30 : h0 ≠ 18) (hg31 : ((64 : Int32) - a3) = a7) (e32 : h0 ≠ h1) (e33 : 16 ≠ h1) (e34 : 17 ≠ h1) (e35 : 18 ≠ h1) (hw36 : w[h1]? = some (Sum.inr (3, [Value.ref h2, Value.int 0]))) (hg37 : (a3 + a7) = 64) (e38 : h0 ≠ h2) (e39 : 16 ≠ h2) (e40 : 17 ≠ h2) (e41 : 18 ≠ h2) (hw42 : w[h2]? = some (Sum.inl (0, 8, fun _ => Value.int 0))) (e43 : 0 ≤ a7.toInt) (e44 : 7 ≤ h2) (e45 : h2 ≠ h1) (hg46 : ((0 : Int32) - a7) = a6) (e47 : h2 ≠ 17) (e48 : h2 ≠ 18) (e49 : 7 ≤ h1) (e50 : h1 ≠ h0) (e51 : h2 ≠ h0) (e52 : h1 ≠ h2) (e53 : (xbf 1 (xlo (xfo b0)) (0 : Int32) ((32 : Int32) - a7)).toInt ≠ 0) (e54 : ((64 : Int32) - (xnlz (xbf 1 (xlo (xfo b0)) (0 : Int32) ((32 : Int32) - a7)))).toInt ≤ 64) (e55 : h1 ≠ 78) (e56 : h2 ≠ 78) (e57 : h0 ≠ 78) (e58 : a4.toInt ≤ 16384) (e59 : (-16384) ≤ a4.toInt) (e60 : h1 ≠ 16) (e61 : h2 ≠ 16) : xRun (d + 5) 128 [Value.ref 7, Value.int a0, Value.long b0, Value.int a1] w (.inl (some (Value.int 0))) ((((((((w.set 16 (Sum.inr (4, [Value.int 0, Value.ref 17, Value.int 0, Value.int 0]))).set 18 (Sum.inl (0, 8, xup (xup (fun _ => Value.int 0) (0 : Int32).toInt.toNat (Value.int (xlo (xfo b0)))) (1 : Int32).toInt.toNat (Value.int 0)))).set 17 (Sum.inr (3, [Value.ref 18, Value.int 2]))).set 17 (Sum.inr (3, [Value.ref 18, Value.int 1]))).set 16 (Sum.inr (4, [Value.int 0, Value.ref 17, Value.int a2, Value.int 0]))).set h0 (Sum.inr (2, [Value.int 64, Value.int 3, Value.int 0, Value.int a4, Value.ref h1]))).set h2 (Sum.inl (0, 8, xup (xup (fun _ => Value.int 0) (1 : Int32).toInt.toNat (Value.int (xbf 1 (xlo (xfo b0)) (0 : Int32) ((32 : Int32) - a7)))) (0 : Int32).toInt.toNat (Value.int (xbf 1 (xlo (xfo b0)) (0 : Int32) a6))))).set h1 (Sum.inr (3, [Value.ref h2, Value.int 2]))) := by
  refine xRun.of ?_
  refine i_128_0 (x := a0) rfl ?_
  refine i_128_1 (Nat.le_of_ble_eq_true rfl) (s_15_0 e0 e1) ?_
  refine i_128_4 (fun h => absurd h (by decide)) (fun _ => ?_)
  refine i_128_7 (x := a1) rfl ?_
  refine i_128_9 (Nat.le_of_ble_eq_true rfl) (s_22_0 e2 e3) ?_
  refine i_128_12 (fun _ => ?_) (fun h => absurd h (by decide))
  refine i_128_23 (x := 7) rfl ?_
  refine i_128_24 (v := Value.ref 8) hw4 rfl ?_
  refine i_128_27 (x := a0) rfl ?_
  refine i_128_28 (v := Value.ref h0) hw5 e0 e1 hg6 ?_
  refine i_128_29 (lv2 := [(5, Value.ref h0), (0, Value.ref 7), (1, Value.int a0), (2, Value.long b0), (4, Value.int a1)]) rfl ?_
  refine i_128_31 (x := b0) rfl ?_
  refine i_128_32 ?_
  refine i_128_33 (c := (lg_cmp b0 (0 : Int64))) rfl ?_
  refine i_128_34 (fun _ => ?_) (fun h => absurd e7 (Int.not_le.mpr h))
  refine i_128_41 ?_
  refine i_128_42 (lv2 := [(6, Value.int 0), (5, Value.ref h0), (0, Value.ref 7), (1, Value.int a0), (2, Value.long b0), (4, Value.int a1)]) rfl ?_
  refine i_128_44 (x := b0) rfl ?_
  refine i_128_45 ?_
  refine i_128_47 (c := (xsr b0 52)) rfl ?_
  refine i_128_48 (c := (xsr b0 52).toInt32) rfl ?_
  refine i_128_49 ?_
  refine i_128_52 (c := (xfd b0)) rfl ?_
  refine i_128_53 (lv2 := [(7, Value.int (xfd b0)), (6, Value.int 0), (5, Value.ref h0), (0, Value.ref 7), (1, Value.int a0), (2, Value.long b0), (4, Value.int a1)]) rfl ?_
  refine i_128_55 (x := b0) rfl ?_
  refine i_128_56 ?_
  refine i_128_59 (c := (xfr b0)) rfl ?_
  refine i_128_60 (lv2 := [(8, Value.long (xfr b0)), (7, Value.int (xfd b0)), (6, Value.int 0), (5, Value.ref h0), (0, Value.ref 7), (1, Value.int a0), (2, Value.long b0), (4, Value.int a1)]) rfl ?_
  refine i_128_62 (x := (xfd b0)) rfl ?_
  refine i_128_64 ?_
  refine i_128_67 (fun _ => ?_) (fun h => absurd e8 (fun g => g h))
  refine i_128_90 (x := (xfd b0)) rfl ?_
  refine i_128_92 (fun _ => ?_) (fun h => absurd e9 (fun g => g h))
  refine i_128_110 (x := (xfd b0)) rfl ?_
  refine i_128_112 (fun _ => ?_) (fun h => absurd e9 (fun g => g h))
  refine i_128_132 (x := 7) rfl ?_
  refine i_128_133 (v := Value.ref 16) hw4 rfl ?_
  refine i_128_136 (x := 0) rfl ?_
  refine i_128_138 (x := (xfr b0)) rfl ?_
  refine i_128_140 ?_
  refine i_128_143 (c := (xfo b0)) rfl ?_
  refine i_128_144 (x := (xfd b0)) rfl ?_
  refine i_128_146 ?_
  refine i_128_149 (c := a2) hg10 ?_
  refine i_128_150 hw11 (Nat.le_of_ble_eq_true rfl) (s_24_0 hw11 hw12 hw13 hg14 e15) ?_
  refine i_128_153 (x := 7) rfl ?_
  refine i_128_154 (v := Value.ref 78) (xgn (by decide) (xgn (by decide) (xgn (by decide) (xgn (by decide) (xgn (by decide) hw4))))) rfl ?_
  refine i_128_157 (x := h0) rfl ?_
  refine i_128_159 (x := 7) rfl ?_
  refine i_128_160 (v := Value.ref 16) (xgn (by decide) (xgn (by decide) (xgn (by decide) (xgn (by decide) (xgn (by decide) hw4))))) rfl ?_
  refine i_128_163 (x := a1) rfl ?_
  refine i_128_165 (xgn (by decide) (xgn (by decide) (xgn (by decide) (xgn (by decide) (xgn (by decide) hw16))))) (Nat.le_of_ble_eq_true rfl) (s_27_62 (xgs (xgn (by decide) (xgn (by decide) (xgn (by decide) (xgs hw11))))) (xgn (by decide) (xgs (xgs (xgn (by decide) (xgn (by decide) hw12))))) (xgn (by decide) (xgn (by decide) (xgn (by decide) (xgs (xgn (by decide) hw13))))) (xup_n (by decide) xup_s) hg17 hg18 (xgn e19 (xgn e20 (xgn e20 (xgn e21 (xgn e19 hw22))))) (xgn (by decide) (xgn (by decide) (xgn (by decide) (xgn (by decide) (xgn (by decide) hw16))))) hg23 hg24 e25 hg26 e27 e28 e29 e30 hg31 e32 (xgn e33 (xgn e34 (xgn e34 (xgn e35 (xgn e33 hw36))))) hg37 e38 (xgn e39 (xgn e40 (xgn e40 (xgn e41 (xgn e39 hw42))))) e43 xup_s e44 e45 hg46 e47 e48 e49 e50 e51 e52 e53 e54 e55 e56 e57 e58 e59 e60 e61) ?_
  exact i_128_168 ⟨rfl, rfl⟩
theorem s_127_2 {d : Nat} {w : xW} {a0 : Int32} {b0 : Int64} {a1 : Int32} {g0 : Nat → Value} {h0 : Nat} {a2 : Int32} {a3 : Int32} {a4 : Int32} {h1 : Nat} {a5 : Int32} {a6 : Int32} {a7 : Int32} {h2 : Nat} (hw0 : w[7]? = some (Sum.inr (0, [Value.ref 8, Value.ref 78, Value.ref 9, Value.ref 10, Value.ref 13, Value.ref 16, Value.ref 19, Value.ref 93, Value.ref 108, Value.ref 113, Value.ref 29, Value.int 0]))) (e1 : 0 ≤ a0.toInt) (e2 : a0.toInt < 16) (e3 : 0 ≤ a1.toInt) (e4 : a1.toInt ≤ 4) (hw5 : w[8]? = some (Sum.inl (4, 16, g0))) (hg6 : g0 a0.toInt.toNat = Value.ref h0) (e7 : 0 ≤ (lg_cmp b0 (0 : Int64)).toInt) (e8 : (xfd b0).toInt ≠ 2047) (e9 : (xfd b0).toInt ≠ 0) (hg10 : ((xfd b0) - (1075 : Int32)) = a2) (hw11 : w[16]? = some (Sum.inr (4, [Value.int 0, Value.ref 17, Value.int 0, Value.int 0]))) (hw12 : w[17]? = some (Sum.inr (3, [Value.ref 18, Value.int 0]))) (hw13 : w[18]? = some (Sum.inl (0, 8, fun _ => Value.int 0))) (hg14 : (xhi (xfo b0)) = 0) (e15 : (xlo (xfo b0)).toInt ≠ 0) (hw16 : w[78]? = some (Sum.inr (1, [Value.int (-16384), Value.int 16384, Value.int 0, Value.int 0]))) (hg17 : ((32 : Int32) - (xnlz (xlo (xfo b0)))) = a3) (hg18 : (a3 + a2) = a4) (e19 : 16 ≠ h0) (e20 : 17 ≠ h0) (e21 : 18 ≠ h0) (hw22 : w[h0]? = some (Sum.inr (2, [Value.int 64, Value.int 0, Value.int 0, Value.int 0, Value.ref h1]))) (hg23 : (a4 - (64 : Int32)) = a5) (hg24 : (a5 - a2) = a6) (e25 : a6.toInt ≤ 0) (hg26 : (a4 - a5) = 64) (e27 : 7 ≤ h0) (e28 : h0 ≠ 16) (e29 : h0 ≠ 17) (e30 : h0 ≠ 18) (hg31 : ((64 : Int32) - a3) = a7) (e32 : h0 ≠ h1) (e33 : 16 ≠ h1) (e34 : 17 ≠ h1) (e35 : 18 ≠ h1) (hw36 : w[h1]? = some (Sum.inr (3, [Value.ref h2, Value.int 0]))) (hg37 : (a3 + a7) = 64) (e38 : h0 ≠ h2) (e39 : 16 ≠ h2) (e40 : 17 ≠ h2) (e41 : 18 ≠ h2) (hw42 : w[h2]? = some (Sum.inl (0, 8, fun _ => Value.int 0))) (e43 : 0 ≤ a7.toInt) (e44 : 7 ≤ h2) (e45 : h2 ≠ h1) (hg46 : ((0 : Int32) - a7) = a6) (e47 : h2 ≠ 17) (e48 : h2 ≠ 18) (e49 : 7 ≤ h1) (e50 : h1 ≠ h0) (e51 : h2 ≠ h0) (e52 : h1 ≠ h2) (e53 : (xbf 1 (xlo (xfo b0)) (0 : Int32) ((32 : Int32) - a7)).toInt ≠ 0) (e54 : ((64 : Int32) - (xnlz (xbf 1 (xlo (xfo b0)) (0 : Int32) ((32 : Int32) - a7)))).toInt ≤ 64) (e55 : h1 ≠ 78) (e56 : h2 ≠ 78) (e57 : h0 ≠ 78) (e58 : a4.toInt ≤ 16384) (e59 : (-16384) ≤ a4.toInt) (e60 : h1 ≠ 16) (e61 : h2 ≠ 16) (e62 : h1 ≠ 194) (e63 : h2 ≠ 194) (e64 : h0 ≠ 194) (hw65 : w[194]? = some (Sum.inl (3, 1, fun _ => Value.long 0))) : xRun (d + 6) 127 [Value.ref 7, Value.int a0, Value.long b0, Value.int a1, Value.ref 194] w (.inl (some (Value.int 0))) (((((((((w.set 16 (Sum.inr (4, [Value.int 0, Value.ref 17, Value.int 0, Value.int 0]))).set 18 (Sum.inl (0, 8, xup (xup (fun _ => Value.int 0) (0 : Int32).toInt.toNat (Value.int (xlo (xfo b0)))) (1 : Int32).toInt.toNat (Value.int 0)))).set 17 (Sum.inr (3, [Value.ref 18, Value.int 2]))).set 17 (Sum.inr (3, [Value.ref 18, Value.int 1]))).set 16 (Sum.inr (4, [Value.int 0, Value.ref 17, Value.int a2, Value.int 0]))).set h0 (Sum.inr (2, [Value.int 64, Value.int 3, Value.int 0, Value.int a4, Value.ref h1]))).set h2 (Sum.inl (0, 8, xup (xup (fun _ => Value.int 0) (1 : Int32).toInt.toNat (Value.int (xbf 1 (xlo (xfo b0)) (0 : Int32) ((32 : Int32) - a7)))) (0 : Int32).toInt.toNat (Value.int (xbf 1 (xlo (xfo b0)) (0 : Int32) a6))))).set h1 (Sum.inr (3, [Value.ref h2, Value.int 2]))).set 194 (Sum.inl (3, 1, xup (fun _ => Value.long 0) (0 : Int32).toInt.toNat (Value.long 0)))) := by
  refine xRun.of ?_
  refine i_127_0 (x := 194) rfl ?_
  refine i_127_2 ?_
  refine i_127_3 (x := 7) rfl ?_
  refine i_127_4 (x := a0) rfl ?_
  refine i_127_5 (x := b0) rfl ?_
  refine i_127_6 (x := a1) rfl ?_
  refine i_127_8 hw0 (Nat.le_of_ble_eq_true rfl) (s_128_2 e1 e2 e3 e4 hw0 hw5 hg6 e7 e8 e9 hg10 hw11 hw12 hw13 hg14 e15 hw16 hg17 hg18 e19 e20 e21 hw22 hg23 hg24 e25 hg26 e27 e28 e29 e30 hg31 e32 e33 e34 e35 hw36 hg37 e38 e39 e40 e41 hw42 e43 e44 e45 hg46 e47 e48 e49 e50 e51 e52 e53 e54 e55 e56 e57 e58 e59 e60 e61) ?_
  refine i_127_11 (c := 0) (by decide) ?_
  refine i_127_12 (v := Value.long 0) (xgn e62 (xgn e63 (xgn e64 (xgn (by decide) (xgn (by decide) (xgn (by decide) (xgn (by decide) (xgn (by decide) hw65)))))))) (by decide) (by decide) (by decide) rfl ?_
  refine i_127_13 ?_
  refine i_127_20 ?_
  exact i_127_21 ⟨rfl, rfl⟩
theorem cn16_10_0 {d : Nat} {xs : Nat → Int32} {B K N9 N17 N18 N19 : Int32} (c0 : 0 ≤ (xs 1).toInt) (c1 : (xs 1).toInt < 16) (c2 : 0 ≤ (xs 4).toInt) (c3 : (xs 4).toInt ≤ 4) (c4 : 0 ≤ (xfd (xvv xs)).toInt) (c5 : (xfd (xvv xs)).toInt ≤ 2047) (c6 : (xfd (xvv xs)).toInt ≠ 2047) (c7 : (xfd (xvv xs)).toInt ≠ 0) (c8 : 0 ≤ (lg_cmp (xvv xs) (0 : Int64)).toInt) (eN9 : ((xfd (xvv xs)) - (1075 : Int32)) = N9) (nN9 : N9.toInt = (xfd (xvv xs)).toInt - 1075) (c10 : K.toInt = 64 - B.toInt) (c11 : 1 ≤ B.toInt) (c12 : B.toInt ≤ 32) (c13 : (xhi (xfo (xvv xs))).toInt = 0) (c14 : (xlo (xfo (xvv xs))).toInt ≠ 0) (c15 : (xnlz (xlo (xfo (xvv xs)))).toInt = 32 - B.toInt) (c16 : (xbf 1 (xlo (xfo (xvv xs))) (0 : Int32) ((32 : Int32) - K)).toInt ≠ 0) (eN17 : (B + N9) = N17) (nN17 : N17.toInt = B.toInt + N9.toInt) (eN18 : (N17 - (64 : Int32)) = N18) (nN18 : N18.toInt = N17.toInt - 64) (eN19 : (N18 - N9) = N19) (nN19 : N19.toInt = N18.toInt - N9.toInt) : ∃ w1, xRun (d + 18) 127 [Value.ref 7, Value.int (xs 1), Value.long (xvv xs), Value.int (xs 4), Value.ref 194] (W0 6 xs) (.inl (some (Value.int 0))) w1 ∧ xKp (W0 6 xs) w1 xPC ∧ w1[194]? = some (Sum.inl (3, 1, xup (fun _ => Value.long 0) (0 : Int32).toInt.toNat (Value.long 0))) := by
  have f0 : ((32 : Int32) - (xnlz (xlo (xfo (xvv xs))))).toInt = 32 - (xnlz (xlo (xfo (xvv xs)))).toInt := xsub_g rfl rfl (by omega) (by omega)
  have f1 : (N17 - N18).toInt = N17.toInt - N18.toInt := xsub_i (by omega) (by omega)
  have f2 : ((64 : Int32) - B).toInt = 64 - B.toInt := xsub_g rfl rfl (by omega) (by omega)
  have f3 : (B + K).toInt = B.toInt + K.toInt := xadd_i (by omega) (by omega)
  have f4 : ((0 : Int32) - K).toInt = 0 - K.toInt := xsub_g rfl rfl (by omega) (by omega)
  have f5 : 0 ≤ (xnlz (xbf 1 (xlo (xfo (xvv xs))) (0 : Int32) ((32 : Int32) - K))).toInt := (xnlz_b _).1
  have f6 : (xnlz (xbf 1 (xlo (xfo (xvv xs))) (0 : Int32) ((32 : Int32) - K))).toInt ≤ 32 := (xnlz_b _).2
  have f7 : ((64 : Int32) - (xnlz (xbf 1 (xlo (xfo (xvv xs))) (0 : Int32) ((32 : Int32) - K)))).toInt = 64 - (xnlz (xbf 1 (xlo (xfo (xvv xs))) (0 : Int32) ((32 : Int32) - K))).toInt := xsub_g rfl rfl (by omega) (by omega)
  refine ⟨((((((((((W0 6 xs).set 16 (Sum.inr (4, [Value.int 0, Value.ref 17, Value.int 0, Value.int 0]))).set 18 (Sum.inl (0, 8, xup (xup (fun _ => Value.int 0) (0 : Int32).toInt.toNat (Value.int (xlo (xfo (xvv xs))))) (1 : Int32).toInt.toNat (Value.int 0)))).set 17 (Sum.inr (3, [Value.ref 18, Value.int 2]))).set 17 (Sum.inr (3, [Value.ref 18, Value.int 1]))).set 16 (Sum.inr (4, [Value.int 0, Value.ref 17, Value.int N9, Value.int 0]))).set (30 + 3 * (xs 1).toInt.toNat) (Sum.inr (2, [Value.int 64, Value.int 3, Value.int 0, Value.int N17, Value.ref (31 + 3 * (xs 1).toInt.toNat)]))).set (32 + 3 * (xs 1).toInt.toNat) (Sum.inl (0, 8, xup (xup (fun _ => Value.int 0) (1 : Int32).toInt.toNat (Value.int (xbf 1 (xlo (xfo (xvv xs))) (0 : Int32) ((32 : Int32) - K)))) (0 : Int32).toInt.toNat (Value.int (xbf 1 (xlo (xfo (xvv xs))) (0 : Int32) N19))))).set (31 + 3 * (xs 1).toInt.toNat) (Sum.inr (3, [Value.ref (32 + 3 * (xs 1).toInt.toNat), Value.int 2]))).set 194 (Sum.inl (3, 1, xup (fun _ => Value.long 0) (0 : Int32).toInt.toNat (Value.long 0)))), (s_127_2 W0_7 (by omega) (by omega) (by omega) (by omega) W0_8 (greg_at (by omega)) (by omega) (by omega) (by omega) (show ((xfd (xvv xs)) - (1075 : Int32)) = N9 from eN9) W0_16 W0_17 W0_18 (show (xhi (xfo (xvv xs))) = 0 from (xge_c (n := 0) (by omega) rfl)) (by omega) W0_78 (show ((32 : Int32) - (xnlz (xlo (xfo (xvv xs))))) = B from (xge_i (by omega))) (show (B + N9) = N17 from eN17) (by omega) (by omega) (by omega) (W0_reg (by omega)) (show (N17 - (64 : Int32)) = N18 from eN18) (show (N18 - N9) = N19 from eN19) (by omega) (show (N17 - N18) = 64 from (xge_c (n := 64) (by omega) rfl)) (by omega) (by omega) (by omega) (by omega) (show ((64 : Int32) - B) = K from (xge_i (by omega))) (by omega) (by omega) (by omega) (by omega) (W0_man (by omega)) (show (B + K) = 64 from (xge_c (n := 64) (by omega) rfl)) (by omega) (by omega) (by omega) (by omega) (W0_mw (by omega)) (by omega) (by omega) (by omega) (show ((0 : Int32) - K) = N19 from (xge_i (by omega))) (by omega) (by omega) (by omega) (by omega) (by omega) (by omega) (by omega) (by omega) (by omega) (by omega) (by omega) (by omega) (by omega) (by omega) (by omega) (by omega) (by omega) (by omega) W0_194), ?_, xgs (xgn (by omega) (xgn (by omega) (xgn (by omega) (xgn (by decide) (xgn (by decide) (xgn (by decide) (xgn (by decide) (xgn (by decide) W0_194))))))))⟩
  refine xKp.set ?_ (fun h hh => by unfold xPC at hh; omega) (xgn (by omega) (xgn (by omega) (xgn (by omega) (xgn (by decide) (xgn (by decide) (xgn (by decide) (xgn (by decide) (xgn (by decide) W0_194)))))))) xcs_a
  refine xKp.set ?_ (fun h hh => by unfold xPC at hh; omega) (xgn (by omega) (xgn (by omega) (xgn (by omega) (xgn (by omega) (xgn (by omega) (xgn (by omega) (xgn (by omega) (W0_man (by omega))))))))) xcs_o
  refine xKp.set ?_ (fun h hh => by unfold xPC at hh; omega) (xgn (by omega) (xgn (by omega) (xgn (by omega) (xgn (by omega) (xgn (by omega) (xgn (by omega) (W0_mw (by omega)))))))) xcs_a
  refine xKp.set ?_ (fun h hh => by unfold xPC at hh; omega) (xgn (by omega) (xgn (by omega) (xgn (by omega) (xgn (by omega) (xgn (by omega) (W0_reg (by omega))))))) xcs_o
  refine xKp.set ?_ (fun h hh => by unfold xPC at hh; omega) (xgn (by decide) (xgn (by decide) (xgn (by decide) (xgs W0_16)))) xcs_o
  refine xKp.set ?_ (fun h hh => by unfold xPC at hh; omega) (xgs (xgn (by decide) (xgn (by decide) W0_17))) xcs_o
  refine xKp.set ?_ (fun h hh => by unfold xPC at hh; omega) (xgn (by decide) (xgn (by decide) W0_17)) xcs_o
  refine xKp.set ?_ (fun h hh => by unfold xPC at hh; omega) (xgn (by decide) W0_18) xcs_a
  refine xKp.set ?_ (fun h hh => by unfold xPC at hh; omega) (W0_16) xcs_o
  exact xKp.refl
theorem s_28_7 {d : Nat} {w : xW} {a0 : Int32} {g0 : Nat → Value} {a1 : Int32} {a2 : Int32} {a3 : Int32} (hw0 : w[16]? = some (Sum.inr (4, [Value.int 0, Value.ref 17, Value.int a0, Value.int 0]))) (hw1 : w[17]? = some (Sum.inr (3, [Value.ref 18, Value.int 2]))) (hw2 : w[18]? = some (Sum.inl (0, 8, g0))) (hg3 : g0 (1 : Int32).toInt.toNat = Value.int a1) (hg4 : ((64 : Int32) - (xnlz a1)) = a2) (hg5 : (a2 + a0) = a3) : xRun (d + 2) 28 [Value.ref 16] w (.inl (some (Value.int a3))) w := by
  refine xRun.of ?_
  refine i_28_0 (x := 16) rfl ?_
  refine i_28_1 (v := Value.ref 17) hw0 rfl ?_
  refine i_28_4 hw1 (Nat.le_of_ble_eq_true rfl) (s_29_2 hw1 hw2 hg3 hg4) ?_
  refine i_28_7 (x := 16) rfl ?_
  refine i_28_8 (v := Value.int a0) hw0 rfl ?_
  refine i_28_11 (c := a3) hg5 ?_
  exact i_28_12 ⟨rfl, rfl⟩
theorem s_32_7 {d : Nat} {w : xW} {a0 : Int32} {a1 : Int32} {a2 : Int32} (hw0 : w[16]? = some (Sum.inr (4, [Value.int 0, Value.ref 17, Value.int a1, Value.int 0]))) (hg1 : (a0 - a1) = a2) (hw2 : w[17]? = some (Sum.inr (3, [Value.ref 18, Value.int 2]))) (e3 : a2.toInt ≤ 0) : xRun (d + 1) 32 [Value.ref 16, Value.int a0] w (.inl (some (Value.int 1))) w := by
  refine xRun.of ?_
  refine i_32_0 (x := 16) rfl ?_
  refine i_32_1 (v := Value.int 0) hw0 rfl ?_
  refine i_32_4 (fun h => absurd h (by decide)) (fun _ => ?_)
  refine i_32_7 (x := 16) rfl ?_
  refine i_32_8 (v := Value.ref 17) hw0 rfl ?_
  refine i_32_11 (x := a0) rfl ?_
  refine i_32_12 (x := 16) rfl ?_
  refine i_32_13 (v := Value.int a1) hw0 rfl ?_
  refine i_32_16 (c := a2) hg1 ?_
  refine i_32_17 hw2 (Nat.le_of_ble_eq_true rfl) (s_33_0 e3) ?_
  refine i_32_20 (fun h => absurd h (by decide)) (fun _ => ?_)
  refine i_32_23 ?_
  refine i_32_24 ?_
  exact i_32_28 rfl ⟨rfl, rfl⟩
theorem s_31_7 {d : Nat} {w : xW} {a0 : Int32} {a1 : Int32} {a2 : Int32} {a3 : Int32} (hw0 : w[16]? = some (Sum.inr (4, [Value.int 0, Value.ref 17, Value.int a2, Value.int 0]))) (hg1 : (a0 - a2) = a3) (hw2 : w[17]? = some (Sum.inr (3, [Value.ref 18, Value.int 2]))) (e3 : a3.toInt ≤ 0) : xRun (d + 2) 31 [Value.ref 16, Value.int a0, Value.int a1] w (.inl (some (Value.int 0))) w := by
  refine xRun.of ?_
  refine i_31_0 (x := 16) rfl ?_
  refine i_31_1 (x := a0) rfl ?_
  refine i_31_2 hw0 (Nat.le_of_ble_eq_true rfl) (s_32_7 hw0 hg1 hw2 e3) ?_
  refine i_31_5 (fun h => absurd h (by decide)) (fun _ => ?_)
  refine i_31_8 ?_
  exact i_31_9 rfl ⟨rfl, rfl⟩
theorem s_38_7 {d : Nat} {w : xW} {h0 : Nat} {a0 : Int32} {a1 : Int32} {g0 : Nat → Value} {a2 : Int32} {a3 : Int32} {a4 : Int32} {h1 : Nat} {a5 : Int32} {h2 : Nat} {a6 : Int32} {a7 : Int32} (hw0 : w[16]? = some (Sum.inr (4, [Value.int 0, Value.ref 17, Value.int a1, Value.int 0]))) (hw1 : w[17]? = some (Sum.inr (3, [Value.ref 18, Value.int 2]))) (hw2 : w[18]? = some (Sum.inl (0, 8, g0))) (hg3 : g0 (1 : Int32).toInt.toNat = Value.int a2) (hg4 : ((64 : Int32) - (xnlz a2)) = a3) (hg5 : (a3 + a1) = a4) (hg6 : (a4 - a0) = 64) (hw7 : w[h0]? = some (Sum.inr (2, [Value.int 64, Value.int 0, Value.int 0, Value.int 0, Value.ref h1]))) (e8 : 7 ≤ h0) (e9 : h0 ≠ 16) (e10 : h0 ≠ 17) (e11 : h0 ≠ 18) (hg12 : ((64 : Int32) - a3) = a5) (e13 : h0 ≠ h1) (hw14 : w[h1]? = some (Sum.inr (3, [Value.ref h2, Value.int 0]))) (hg15 : (a3 + a5) = 64) (e16 : h0 ≠ h2) (hw17 : w[h2]? = some (Sum.inl (0, 8, fun _ => Value.int 0))) (e18 : 0 ≤ a5.toInt) (hg19 : g0 (0 : Int32).toInt.toNat = Value.int a6) (e20 : 7 ≤ h2) (e21 : h2 ≠ h1) (hg22 : ((0 : Int32) - a5) = a7) (e23 : h2 ≠ 17) (e24 : h2 ≠ 18) (e25 : 7 ≤ h1) (e26 : h1 ≠ h0) (e27 : h2 ≠ h0) (e28 : h1 ≠ h2) (e29 : (xbf 2 a6 a2 ((32 : Int32) - a5)).toInt ≠ 0) (e30 : ((64 : Int32) - (xnlz (xbf 2 a6 a2 ((32 : Int32) - a5)))).toInt ≤ 64) : xRun (d + 3) 38 [Value.ref h0, Value.ref 16, Value.int a0, Value.int 0] w (.inl none) (((w.set h0 (Sum.inr (2, [Value.int 64, Value.int 3, Value.int 0, Value.int a4, Value.ref h1]))).set h2 (Sum.inl (0, 8, xup (xup (fun _ => Value.int 0) (1 : Int32).toInt.toNat (Value.int (xbf 2 a6 a2 ((32 : Int32) - a5)))) (0 : Int32).toInt.toNat (Value.int (xbf 2 a6 a2 a7))))).set h1 (Sum.inr (3, [Value.ref h2, Value.int 2]))) := by
  refine xRun.of ?_
  refine i_38_0 (x := 16) rfl ?_
  refine i_38_1 hw0 (Nat.le_of_ble_eq_true rfl) (s_28_7 hw0 hw1 hw2 hg3 hg4 hg5) ?_
  refine i_38_4 (lv2 := [(4, Value.int a4), (0, Value.ref h0), (1, Value.ref 16), (2, Value.int a0), (3, Value.int 0)]) rfl ?_
  refine i_38_6 (x := a4) rfl ?_
  refine i_38_8 (x := a0) rfl ?_
  refine i_38_9 (c := 64) hg6 ?_
  refine i_38_10 (lv2 := [(5, Value.int 64), (4, Value.int a4), (0, Value.ref h0), (1, Value.ref 16), (2, Value.int a0), (3, Value.int 0)]) rfl ?_
  refine i_38_12 (x := 64) rfl ?_
  refine i_38_14 (fun _ => ?_) (fun h => absurd h (by decide))
  refine i_38_31 (x := 64) rfl ?_
  refine i_38_33 (fun _ => ?_) (fun h => absurd h (by decide))
  refine i_38_48 (x := h0) rfl ?_
  refine i_38_49 ?_
  refine i_38_50 (fs2 := [Value.int 64, Value.int 3, Value.int 0, Value.int 0, Value.ref h1]) hw7 (Nat.le_of_ble_eq_true rfl) rfl e8 ?_
  refine i_38_53 (x := h0) rfl ?_
  refine i_38_54 (x := 16) rfl ?_
  refine i_38_55 (v := Value.int 0) (xgn e9 hw0) rfl ?_
  refine i_38_58 (fs2 := [Value.int 64, Value.int 3, Value.int 0, Value.int 0, Value.ref h1]) (xgs hw7) rfl (Nat.le_of_ble_eq_true rfl) rfl e8 ?_
  refine xEv.world (List.set_set _) ?_
  refine i_38_61 (x := h0) rfl ?_
  refine i_38_62 (x := a4) rfl ?_
  refine i_38_64 (fs2 := [Value.int 64, Value.int 3, Value.int 0, Value.int a4, Value.ref h1]) (xgs hw7) (Nat.le_of_ble_eq_true rfl) rfl e8 ?_
  refine xEv.world (List.set_set _) ?_
  refine i_38_67 (x := h0) rfl ?_
  refine i_38_68 (v := Value.ref h1) (xgs hw7) rfl ?_
  refine i_38_71 (x := 16) rfl ?_
  refine i_38_72 (v := Value.ref 17) (xgn e9 hw0) rfl ?_
  refine i_38_75 (x := h0) rfl ?_
  refine i_38_76 (v := Value.int 64) (xgs hw7) rfl ?_
  refine i_38_79 (x := 16) rfl ?_
  refine i_38_80 (v := Value.ref 17) (xgn e9 hw0) rfl ?_
  refine i_38_83 (xgn e10 hw1) (Nat.le_of_ble_eq_true rfl) (s_29_2 (xgn e10 hw1) (xgn e11 hw2) hg3 hg4) ?_
  refine i_38_86 (c := a5) hg12 ?_
  refine i_38_87 (xgn e13 hw14) (Nat.le_of_ble_eq_true rfl) (s_42_3 (xgn e10 hw1) (xgn e11 hw2) hg3 hg4 hg15 (xgn e13 hw14) (xgn e16 hw17) e18 hg19 e20 e21 hg22 e23 e24 e25) ?_
  refine i_38_90 (x := h0) rfl ?_
  refine i_38_91 (v := Value.ref h1) (xgn e26 (xgn e27 (xgs hw7))) rfl ?_
  refine i_38_94 (x := h0) rfl ?_
  refine i_38_95 (v := Value.int 64) (xgn e26 (xgn e27 (xgs hw7))) rfl ?_
  refine i_38_98 (x := 64) rfl ?_
  refine i_38_100 (c := 0) (by decide) ?_
  refine i_38_101 (xgs (xgn e21 (xgn e13 hw14))) (Nat.le_of_ble_eq_true rfl) (s_43_0 (xgs (xgn e21 (xgn e13 hw14))) (xgn e28 (xgs (xgn e16 hw17))) (xup_n (by decide) xup_s) e29) ?_
  refine i_38_104 (x := 0) rfl ?_
  refine i_38_105 (fun _ => ?_) (fun h => absurd h (by decide))
  refine i_38_122 (x := h0) rfl ?_
  refine i_38_123 (v := Value.ref h1) (xgn e26 (xgn e27 (xgs hw7))) rfl ?_
  refine i_38_126 (xgs (xgn e21 (xgn e13 hw14))) (Nat.le_of_ble_eq_true rfl) (s_29_1 (xgs (xgn e21 (xgn e13 hw14))) (xgn e28 (xgs (xgn e16 hw17))) (xup_n (by decide) xup_s)) ?_
  refine i_38_129 (x := h0) rfl ?_
  refine i_38_130 (v := Value.int 64) (xgn e26 (xgn e27 (xgs hw7))) rfl ?_
  refine i_38_133 (fun _ => ?_) (fun h => absurd e30 (Int.not_le.mpr h))
  exact i_38_148 ⟨rfl, rfl⟩
theorem s_27_63 {d : Nat} {w : xW} {h0 : Nat} {a0 : Int32} {a1 : Int32} {g0 : Nat → Value} {a2 : Int32} {a3 : Int32} {a4 : Int32} {h1 : Nat} {a5 : Int32} {a6 : Int32} {a7 : Int32} {h2 : Nat} {a8 : Int32} (hw0 : w[16]? = some (Sum.inr (4, [Value.int 0, Value.ref 17, Value.int a1, Value.int 0]))) (hw1 : w[17]? = some (Sum.inr (3, [Value.ref 18, Value.int 2]))) (hw2 : w[18]? = some (Sum.inl (0, 8, g0))) (hg3 : g0 (1 : Int32).toInt.toNat = Value.int a2) (hg4 : ((64 : Int32) - (xnlz a2)) = a3) (hg5 : (a3 + a1) = a4) (hw6 : w[h0]? = some (Sum.inr (2, [Value.int 64, Value.int 0, Value.int 0, Value.int 0, Value.ref h1]))) (hw7 : w[78]? = some (Sum.inr (1, [Value.int (-16384), Value.int 16384, Value.int 0, Value.int 0]))) (hg8 : (a4 - (64 : Int32)) = a5) (hg9 : (a5 - a1) = a6) (e10 : a6.toInt ≤ 0) (hg11 : (a4 - a5) = 64) (e12 : 7 ≤ h0) (e13 : h0 ≠ 16) (e14 : h0 ≠ 17) (e15 : h0 ≠ 18) (hg16 : ((64 : Int32) - a3) = a7) (e17 : h0 ≠ h1) (hw18 : w[h1]? = some (Sum.inr (3, [Value.ref h2, Value.int 0]))) (hg19 : (a3 + a7) = 64) (e20 : h0 ≠ h2) (hw21 : w[h2]? = some (Sum.inl (0, 8, fun _ => Value.int 0))) (e22 : 0 ≤ a7.toInt) (hg23 : g0 (0 : Int32).toInt.toNat = Value.int a8) (e24 : 7 ≤ h2) (e25 : h2 ≠ h1) (hg26 : ((0 : Int32) - a7) = a6) (e27 : h2 ≠ 17) (e28 : h2 ≠ 18) (e29 : 7 ≤ h1) (e30 : h1 ≠ h0) (e31 : h2 ≠ h0) (e32 : h1 ≠ h2) (e33 : (xbf 2 a8 a2 ((32 : Int32) - a7)).toInt ≠ 0) (e34 : ((64 : Int32) - (xnlz (xbf 2 a8 a2 ((32 : Int32) - a7)))).toInt ≤ 64) (e35 : h1 ≠ 78) (e36 : h2 ≠ 78) (e37 : h0 ≠ 78) (e38 : a4.toInt ≤ 16384) (e39 : (-16384) ≤ a4.toInt) (e40 : h1 ≠ 16) (e41 : h2 ≠ 16) : xRun (d + 4) 27 [Value.ref 78, Value.ref h0, Value.ref 16, Value.int a0] w (.inl (some (Value.int 0))) (((w.set h0 (Sum.inr (2, [Value.int 64, Value.int 3, Value.int 0, Value.int a4, Value.ref h1]))).set h2 (Sum.inl (0, 8, xup (xup (fun _ => Value.int 0) (1 : Int32).toInt.toNat (Value.int (xbf 2 a8 a2 ((32 : Int32) - a7)))) (0 : Int32).toInt.toNat (Value.int (xbf 2 a8 a2 a6))))).set h1 (Sum.inr (3, [Value.ref h2, Value.int 2]))) := by
  refine xRun.of ?_
  refine i_27_0 (x := 16) rfl ?_
  refine i_27_1 hw0 (Nat.le_of_ble_eq_true rfl) (s_28_7 hw0 hw1 hw2 hg3 hg4 hg5) ?_
  refine i_27_4 (lv2 := [(4, Value.int a4), (0, Value.ref 78), (1, Value.ref h0), (2, Value.ref 16), (3, Value.int a0)]) rfl ?_
  refine i_27_6 (x := 78) rfl ?_
  refine i_27_7 (x := a4) rfl ?_
  refine i_27_9 (x := h0) rfl ?_
  refine i_27_10 (v := Value.int 64) hw6 rfl ?_
  refine i_27_13 hw7 (Nat.le_of_ble_eq_true rfl) (s_30_1 hw7 hg8) ?_
  refine i_27_16 (lv2 := [(5, Value.int a5), (4, Value.int a4), (0, Value.ref 78), (1, Value.ref h0), (2, Value.ref 16), (3, Value.int a0)]) rfl ?_
  refine i_27_18 (x := 16) rfl ?_
  refine i_27_19 (x := a5) rfl ?_
  refine i_27_21 (x := a0) rfl ?_
  refine i_27_22 hw0 (Nat.le_of_ble_eq_true rfl) (s_31_7 hw0 hg9 hw1 e10) ?_
  refine i_27_25 (lv2 := [(6, Value.int 0), (5, Value.int a5), (4, Value.int a4), (0, Value.ref 78), (1, Value.ref h0), (2, Value.ref 16), (3, Value.int a0)]) rfl ?_
  refine i_27_27 (x := 16) rfl ?_
  refine i_27_28 (x := a5) rfl ?_
  refine i_27_30 hw0 (Nat.le_of_ble_eq_true rfl) (s_32_7 hw0 hg9 hw1 e10) ?_
  refine i_27_33 (fun h => absurd h (by decide)) (fun _ => ?_)
  refine i_27_36 ?_
  refine i_27_37 ?_
  refine i_27_50 (lv2 := [(7, Value.int 0), (6, Value.int 0), (5, Value.int a5), (4, Value.int a4), (0, Value.ref 78), (1, Value.ref h0), (2, Value.ref 16), (3, Value.int a0)]) rfl ?_
  refine i_27_52 (x := h0) rfl ?_
  refine i_27_53 (x := 16) rfl ?_
  refine i_27_54 (x := a5) rfl ?_
  refine i_27_56 (x := 0) rfl ?_
  refine i_27_58 hw6 (Nat.le_of_ble_eq_true rfl) (s_38_7 hw0 hw1 hw2 hg3 hg4 hg5 hg11 hw6 e12 e13 e14 e15 hg16 e17 hw18 hg19 e20 hw21 e22 hg23 e24 e25 hg26 e27 e28 e29 e30 e31 e32 e33 e34) ?_
  refine i_27_61 (x := h0) rfl ?_
  refine i_27_62 (v := Value.int 3) (xgn e30 (xgn e31 (xgs hw6))) rfl ?_
  refine i_27_65 ?_
  refine i_27_66 (fun h => absurd h (by decide)) (fun _ => ?_)
  refine i_27_69 (x := h0) rfl ?_
  refine i_27_70 (v := Value.int a4) (xgn e30 (xgn e31 (xgs hw6))) rfl ?_
  refine i_27_73 (x := 78) rfl ?_
  refine i_27_74 (v := Value.int 16384) (xgn e35 (xgn e36 (xgn e37 hw7))) rfl ?_
  refine i_27_77 (fun _ => ?_) (fun h => absurd e38 (Int.not_le.mpr h))
  refine i_27_95 (x := h0) rfl ?_
  refine i_27_96 (v := Value.int 3) (xgn e30 (xgn e31 (xgs hw6))) rfl ?_
  refine i_27_99 ?_
  refine i_27_100 (fun h => absurd h (by decide)) (fun _ => ?_)
  refine i_27_103 (x := 78) rfl ?_
  refine i_27_104 (v := Value.int 0) (xgn e35 (xgn e36 (xgn e37 hw7))) rfl ?_
  refine i_27_107 (fun h => absurd h (by decide)) (fun _ => ?_)
  refine i_27_110 (x := h0) rfl ?_
  refine i_27_111 (v := Value.int a4) (xgn e30 (xgn e31 (xgs hw6))) rfl ?_
  refine i_27_114 (x := 78) rfl ?_
  refine i_27_115 (v := Value.int (-16384)) (xgn e35 (xgn e36 (xgn e37 hw7))) rfl ?_
  refine i_27_118 (fun _ => ?_) (fun h => absurd e39 (Int.not_le.mpr h))
  refine i_27_133 (x := 78) rfl ?_
  refine i_27_134 (v := Value.int 0) (xgn e35 (xgn e36 (xgn e37 hw7))) rfl ?_
  refine i_27_137 (fun _ => ?_) (fun h => absurd h (by decide))
  refine i_27_164 (x := 0) rfl ?_
  refine i_27_166 (fun _ => ?_) (fun h => absurd h (by decide))
  refine i_27_179 (x := 16) rfl ?_
  refine i_27_180 (v := Value.int 0) (xgn e40 (xgn e41 (xgn e13 hw0))) rfl ?_
  refine i_27_183 (fun _ => ?_) (fun h => absurd h (by decide))
  refine i_27_192 (x := 0) rfl ?_
  exact i_27_194 ⟨rfl, rfl⟩
theorem s_128_3 {d : Nat} {w : xW} {a0 : Int32} {b0 : Int64} {a1 : Int32} {g0 : Nat → Value} {h0 : Nat} {a2 : Int32} {a3 : Int32} {a4 : Int32} {h1 : Nat} {a5 : Int32} {a6 : Int32} {a7 : Int32} {h2 : Nat} (e0 : 0 ≤ a0.toInt) (e1 : a0.toInt < 16) (e2 : 0 ≤ a1.toInt) (e3 : a1.toInt ≤ 4) (hw4 : w[7]? = some (Sum.inr (0, [Value.ref 8, Value.ref 78, Value.ref 9, Value.ref 10, Value.ref 13, Value.ref 16, Value.ref 19, Value.ref 93, Value.ref 108, Value.ref 113, Value.ref 29, Value.int 0]))) (hw5 : w[8]? = some (Sum.inl (4, 16, g0))) (hg6 : g0 a0.toInt.toNat = Value.ref h0) (e7 : 0 ≤ (lg_cmp b0 (0 : Int64)).toInt) (e8 : (xfd b0).toInt ≠ 2047) (e9 : (xfd b0).toInt ≠ 0) (hg10 : ((xfd b0) - (1075 : Int32)) = a2) (hw11 : w[16]? = some (Sum.inr (4, [Value.int 0, Value.ref 17, Value.int 0, Value.int 0]))) (hw12 : w[17]? = some (Sum.inr (3, [Value.ref 18, Value.int 0]))) (hw13 : w[18]? = some (Sum.inl (0, 8, fun _ => Value.int 0))) (e14 : (xhi (xfo b0)).toInt ≠ 0) (hw15 : w[78]? = some (Sum.inr (1, [Value.int (-16384), Value.int 16384, Value.int 0, Value.int 0]))) (hg16 : ((64 : Int32) - (xnlz (xhi (xfo b0)))) = a3) (hg17 : (a3 + a2) = a4) (e18 : 16 ≠ h0) (e19 : 17 ≠ h0) (e20 : 18 ≠ h0) (hw21 : w[h0]? = some (Sum.inr (2, [Value.int 64, Value.int 0, Value.int 0, Value.int 0, Value.ref h1]))) (hg22 : (a4 - (64 : Int32)) = a5) (hg23 : (a5 - a2) = a6) (e24 : a6.toInt ≤ 0) (hg25 : (a4 - a5) = 64) (e26 : 7 ≤ h0) (e27 : h0 ≠ 16) (e28 : h0 ≠ 17) (e29 : h0 ≠ 18) (hg30 : ((64 : Int32) - a3) = a7) (e31 : h0 ≠ h1) (e32 : 16 ≠ h1) (e33 : 17 ≠ h1) (e34 : 18 ≠ h1) (hw35 : w[h1]? = some (Sum.inr (3, [Value.ref h2, Value.int 0]))) (hg36 : (a3 + a7) = 64) (e37 : h0 ≠ h2) (e38 : 16 ≠ h2) (e39 : 17 ≠ h2) (e40 : 18 ≠ h2) (hw41 : w[h2]? = some (Sum.inl (0, 8, fun _ => Value.int 0))) (e42 : 0 ≤ a7.toInt) (e43 : 7 ≤ h2) (e44 : h2 ≠ h1) (hg45 : ((0 : Int32) - a7) = a6) (e46 : h2 ≠ 17) (e47 : h2 ≠ 18) (e48 : 7 ≤ h1) (e49 : h1 ≠ h0) (e50 : h2 ≠ h0) (e51 : h1 ≠ h2) (e52 : (xbf 2 (xlo (xfo b0)) (xhi (xfo b0)) ((32 : Int32) - a7)).toInt ≠ 0) (e53 : ((64 : Int32) - (xnlz (xbf 2 (xlo (xfo b0)) (xhi (xfo b0)) ((32 : Int32) - a7)))).toInt ≤ 64) (e54 : h1 ≠ 78) (e55 : h2 ≠ 78) (e56 : h0 ≠ 78) (e57 : a4.toInt ≤ 16384) (e58 : (-16384) ≤ a4.toInt) (e59 : h1 ≠ 16) (e60 : h2 ≠ 16) : xRun (d + 5) 128 [Value.ref 7, Value.int a0, Value.long b0, Value.int a1] w (.inl (some (Value.int 0))) (((((((w.set 16 (Sum.inr (4, [Value.int 0, Value.ref 17, Value.int 0, Value.int 0]))).set 18 (Sum.inl (0, 8, xup (xup (fun _ => Value.int 0) (0 : Int32).toInt.toNat (Value.int (xlo (xfo b0)))) (1 : Int32).toInt.toNat (Value.int (xhi (xfo b0)))))).set 17 (Sum.inr (3, [Value.ref 18, Value.int 2]))).set 16 (Sum.inr (4, [Value.int 0, Value.ref 17, Value.int a2, Value.int 0]))).set h0 (Sum.inr (2, [Value.int 64, Value.int 3, Value.int 0, Value.int a4, Value.ref h1]))).set h2 (Sum.inl (0, 8, xup (xup (fun _ => Value.int 0) (1 : Int32).toInt.toNat (Value.int (xbf 2 (xlo (xfo b0)) (xhi (xfo b0)) ((32 : Int32) - a7)))) (0 : Int32).toInt.toNat (Value.int (xbf 2 (xlo (xfo b0)) (xhi (xfo b0)) a6))))).set h1 (Sum.inr (3, [Value.ref h2, Value.int 2]))) := by
  refine xRun.of ?_
  refine i_128_0 (x := a0) rfl ?_
  refine i_128_1 (Nat.le_of_ble_eq_true rfl) (s_15_0 e0 e1) ?_
  refine i_128_4 (fun h => absurd h (by decide)) (fun _ => ?_)
  refine i_128_7 (x := a1) rfl ?_
  refine i_128_9 (Nat.le_of_ble_eq_true rfl) (s_22_0 e2 e3) ?_
  refine i_128_12 (fun _ => ?_) (fun h => absurd h (by decide))
  refine i_128_23 (x := 7) rfl ?_
  refine i_128_24 (v := Value.ref 8) hw4 rfl ?_
  refine i_128_27 (x := a0) rfl ?_
  refine i_128_28 (v := Value.ref h0) hw5 e0 e1 hg6 ?_
  refine i_128_29 (lv2 := [(5, Value.ref h0), (0, Value.ref 7), (1, Value.int a0), (2, Value.long b0), (4, Value.int a1)]) rfl ?_
  refine i_128_31 (x := b0) rfl ?_
  refine i_128_32 ?_
  refine i_128_33 (c := (lg_cmp b0 (0 : Int64))) rfl ?_
  refine i_128_34 (fun _ => ?_) (fun h => absurd e7 (Int.not_le.mpr h))
  refine i_128_41 ?_
  refine i_128_42 (lv2 := [(6, Value.int 0), (5, Value.ref h0), (0, Value.ref 7), (1, Value.int a0), (2, Value.long b0), (4, Value.int a1)]) rfl ?_
  refine i_128_44 (x := b0) rfl ?_
  refine i_128_45 ?_
  refine i_128_47 (c := (xsr b0 52)) rfl ?_
  refine i_128_48 (c := (xsr b0 52).toInt32) rfl ?_
  refine i_128_49 ?_
  refine i_128_52 (c := (xfd b0)) rfl ?_
  refine i_128_53 (lv2 := [(7, Value.int (xfd b0)), (6, Value.int 0), (5, Value.ref h0), (0, Value.ref 7), (1, Value.int a0), (2, Value.long b0), (4, Value.int a1)]) rfl ?_
  refine i_128_55 (x := b0) rfl ?_
  refine i_128_56 ?_
  refine i_128_59 (c := (xfr b0)) rfl ?_
  refine i_128_60 (lv2 := [(8, Value.long (xfr b0)), (7, Value.int (xfd b0)), (6, Value.int 0), (5, Value.ref h0), (0, Value.ref 7), (1, Value.int a0), (2, Value.long b0), (4, Value.int a1)]) rfl ?_
  refine i_128_62 (x := (xfd b0)) rfl ?_
  refine i_128_64 ?_
  refine i_128_67 (fun _ => ?_) (fun h => absurd e8 (fun g => g h))
  refine i_128_90 (x := (xfd b0)) rfl ?_
  refine i_128_92 (fun _ => ?_) (fun h => absurd e9 (fun g => g h))
  refine i_128_110 (x := (xfd b0)) rfl ?_
  refine i_128_112 (fun _ => ?_) (fun h => absurd e9 (fun g => g h))
  refine i_128_132 (x := 7) rfl ?_
  refine i_128_133 (v := Value.ref 16) hw4 rfl ?_
  refine i_128_136 (x := 0) rfl ?_
  refine i_128_138 (x := (xfr b0)) rfl ?_
  refine i_128_140 ?_
  refine i_128_143 (c := (xfo b0)) rfl ?_
  refine i_128_144 (x := (xfd b0)) rfl ?_
  refine i_128_146 ?_
  refine i_128_149 (c := a2) hg10 ?_
  refine i_128_150 hw11 (Nat.le_of_ble_eq_true rfl) (s_24_1 hw11 hw12 hw13 e14) ?_
  refine i_128_153 (x := 7) rfl ?_
  refine i_128_154 (v := Value.ref 78) (xgn (by decide) (xgn (by decide) (xgn (by decide) (xgn (by decide) hw4)))) rfl ?_
  refine i_128_157 (x := h0) rfl ?_
  refine i_128_159 (x := 7) rfl ?_
  refine i_128_160 (v := Value.ref 16) (xgn (by decide) (xgn (by decide) (xgn (by decide) (xgn (by decide) hw4)))) rfl ?_
  refine i_128_163 (x := a1) rfl ?_
  refine i_128_165 (xgn (by decide) (xgn (by decide) (xgn (by decide) (xgn (by decide) hw15)))) (Nat.le_of_ble_eq_true rfl) (s_27_63 (xgs (xgn (by decide) (xgn (by decide) (xgs hw11)))) (xgn (by decide) (xgs (xgn (by decide) (xgn (by decide) hw12)))) (xgn (by decide) (xgn (by decide) (xgs (xgn (by decide) hw13)))) xup_s hg16 hg17 (xgn e18 (xgn e19 (xgn e20 (xgn e18 hw21)))) (xgn (by decide) (xgn (by decide) (xgn (by decide) (xgn (by decide) hw15)))) hg22 hg23 e24 hg25 e26 e27 e28 e29 hg30 e31 (xgn e32 (xgn e33 (xgn e34 (xgn e32 hw35)))) hg36 e37 (xgn e38 (xgn e39 (xgn e40 (xgn e38 hw41)))) e42 (xup_n (by decide) xup_s) e43 e44 hg45 e46 e47 e48 e49 e50 e51 e52 e53 e54 e55 e56 e57 e58 e59 e60) ?_
  exact i_128_168 ⟨rfl, rfl⟩
theorem s_127_3 {d : Nat} {w : xW} {a0 : Int32} {b0 : Int64} {a1 : Int32} {g0 : Nat → Value} {h0 : Nat} {a2 : Int32} {a3 : Int32} {a4 : Int32} {h1 : Nat} {a5 : Int32} {a6 : Int32} {a7 : Int32} {h2 : Nat} (hw0 : w[7]? = some (Sum.inr (0, [Value.ref 8, Value.ref 78, Value.ref 9, Value.ref 10, Value.ref 13, Value.ref 16, Value.ref 19, Value.ref 93, Value.ref 108, Value.ref 113, Value.ref 29, Value.int 0]))) (e1 : 0 ≤ a0.toInt) (e2 : a0.toInt < 16) (e3 : 0 ≤ a1.toInt) (e4 : a1.toInt ≤ 4) (hw5 : w[8]? = some (Sum.inl (4, 16, g0))) (hg6 : g0 a0.toInt.toNat = Value.ref h0) (e7 : 0 ≤ (lg_cmp b0 (0 : Int64)).toInt) (e8 : (xfd b0).toInt ≠ 2047) (e9 : (xfd b0).toInt ≠ 0) (hg10 : ((xfd b0) - (1075 : Int32)) = a2) (hw11 : w[16]? = some (Sum.inr (4, [Value.int 0, Value.ref 17, Value.int 0, Value.int 0]))) (hw12 : w[17]? = some (Sum.inr (3, [Value.ref 18, Value.int 0]))) (hw13 : w[18]? = some (Sum.inl (0, 8, fun _ => Value.int 0))) (e14 : (xhi (xfo b0)).toInt ≠ 0) (hw15 : w[78]? = some (Sum.inr (1, [Value.int (-16384), Value.int 16384, Value.int 0, Value.int 0]))) (hg16 : ((64 : Int32) - (xnlz (xhi (xfo b0)))) = a3) (hg17 : (a3 + a2) = a4) (e18 : 16 ≠ h0) (e19 : 17 ≠ h0) (e20 : 18 ≠ h0) (hw21 : w[h0]? = some (Sum.inr (2, [Value.int 64, Value.int 0, Value.int 0, Value.int 0, Value.ref h1]))) (hg22 : (a4 - (64 : Int32)) = a5) (hg23 : (a5 - a2) = a6) (e24 : a6.toInt ≤ 0) (hg25 : (a4 - a5) = 64) (e26 : 7 ≤ h0) (e27 : h0 ≠ 16) (e28 : h0 ≠ 17) (e29 : h0 ≠ 18) (hg30 : ((64 : Int32) - a3) = a7) (e31 : h0 ≠ h1) (e32 : 16 ≠ h1) (e33 : 17 ≠ h1) (e34 : 18 ≠ h1) (hw35 : w[h1]? = some (Sum.inr (3, [Value.ref h2, Value.int 0]))) (hg36 : (a3 + a7) = 64) (e37 : h0 ≠ h2) (e38 : 16 ≠ h2) (e39 : 17 ≠ h2) (e40 : 18 ≠ h2) (hw41 : w[h2]? = some (Sum.inl (0, 8, fun _ => Value.int 0))) (e42 : 0 ≤ a7.toInt) (e43 : 7 ≤ h2) (e44 : h2 ≠ h1) (hg45 : ((0 : Int32) - a7) = a6) (e46 : h2 ≠ 17) (e47 : h2 ≠ 18) (e48 : 7 ≤ h1) (e49 : h1 ≠ h0) (e50 : h2 ≠ h0) (e51 : h1 ≠ h2) (e52 : (xbf 2 (xlo (xfo b0)) (xhi (xfo b0)) ((32 : Int32) - a7)).toInt ≠ 0) (e53 : ((64 : Int32) - (xnlz (xbf 2 (xlo (xfo b0)) (xhi (xfo b0)) ((32 : Int32) - a7)))).toInt ≤ 64) (e54 : h1 ≠ 78) (e55 : h2 ≠ 78) (e56 : h0 ≠ 78) (e57 : a4.toInt ≤ 16384) (e58 : (-16384) ≤ a4.toInt) (e59 : h1 ≠ 16) (e60 : h2 ≠ 16) (e61 : h1 ≠ 194) (e62 : h2 ≠ 194) (e63 : h0 ≠ 194) (hw64 : w[194]? = some (Sum.inl (3, 1, fun _ => Value.long 0))) : xRun (d + 6) 127 [Value.ref 7, Value.int a0, Value.long b0, Value.int a1, Value.ref 194] w (.inl (some (Value.int 0))) ((((((((w.set 16 (Sum.inr (4, [Value.int 0, Value.ref 17, Value.int 0, Value.int 0]))).set 18 (Sum.inl (0, 8, xup (xup (fun _ => Value.int 0) (0 : Int32).toInt.toNat (Value.int (xlo (xfo b0)))) (1 : Int32).toInt.toNat (Value.int (xhi (xfo b0)))))).set 17 (Sum.inr (3, [Value.ref 18, Value.int 2]))).set 16 (Sum.inr (4, [Value.int 0, Value.ref 17, Value.int a2, Value.int 0]))).set h0 (Sum.inr (2, [Value.int 64, Value.int 3, Value.int 0, Value.int a4, Value.ref h1]))).set h2 (Sum.inl (0, 8, xup (xup (fun _ => Value.int 0) (1 : Int32).toInt.toNat (Value.int (xbf 2 (xlo (xfo b0)) (xhi (xfo b0)) ((32 : Int32) - a7)))) (0 : Int32).toInt.toNat (Value.int (xbf 2 (xlo (xfo b0)) (xhi (xfo b0)) a6))))).set h1 (Sum.inr (3, [Value.ref h2, Value.int 2]))).set 194 (Sum.inl (3, 1, xup (fun _ => Value.long 0) (0 : Int32).toInt.toNat (Value.long 0)))) := by
  refine xRun.of ?_
  refine i_127_0 (x := 194) rfl ?_
  refine i_127_2 ?_
  refine i_127_3 (x := 7) rfl ?_
  refine i_127_4 (x := a0) rfl ?_
  refine i_127_5 (x := b0) rfl ?_
  refine i_127_6 (x := a1) rfl ?_
  refine i_127_8 hw0 (Nat.le_of_ble_eq_true rfl) (s_128_3 e1 e2 e3 e4 hw0 hw5 hg6 e7 e8 e9 hg10 hw11 hw12 hw13 e14 hw15 hg16 hg17 e18 e19 e20 hw21 hg22 hg23 e24 hg25 e26 e27 e28 e29 hg30 e31 e32 e33 e34 hw35 hg36 e37 e38 e39 e40 hw41 e42 e43 e44 hg45 e46 e47 e48 e49 e50 e51 e52 e53 e54 e55 e56 e57 e58 e59 e60) ?_
  refine i_127_11 (c := 0) (by decide) ?_
  refine i_127_12 (v := Value.long 0) (xgn e61 (xgn e62 (xgn e63 (xgn (by decide) (xgn (by decide) (xgn (by decide) (xgn (by decide) hw64))))))) (by decide) (by decide) (by decide) rfl ?_
  refine i_127_13 ?_
  refine i_127_20 ?_
  exact i_127_21 ⟨rfl, rfl⟩
theorem cn16_10_1 {d : Nat} {xs : Nat → Int32} {B K N9 N16 N17 N18 : Int32} (c0 : 0 ≤ (xs 1).toInt) (c1 : (xs 1).toInt < 16) (c2 : 0 ≤ (xs 4).toInt) (c3 : (xs 4).toInt ≤ 4) (c4 : 0 ≤ (xfd (xvv xs)).toInt) (c5 : (xfd (xvv xs)).toInt ≤ 2047) (c6 : (xfd (xvv xs)).toInt ≠ 2047) (c7 : (xfd (xvv xs)).toInt ≠ 0) (c8 : 0 ≤ (lg_cmp (xvv xs) (0 : Int64)).toInt) (eN9 : ((xfd (xvv xs)) - (1075 : Int32)) = N9) (nN9 : N9.toInt = (xfd (xvv xs)).toInt - 1075) (c10 : K.toInt = 64 - B.toInt) (c11 : 33 ≤ B.toInt) (c12 : B.toInt ≤ 64) (c13 : (xhi (xfo (xvv xs))).toInt ≠ 0) (c14 : (xnlz (xhi (xfo (xvv xs)))).toInt = 64 - B.toInt) (c15 : (xbf 2 (xlo (xfo (xvv xs))) (xhi (xfo (xvv xs))) ((32 : Int32) - K)).toInt ≠ 0) (eN16 : (B + N9) = N16) (nN16 : N16.toInt = B.toInt + N9.toInt) (eN17 : (N16 - (64 : Int32)) = N17) (nN17 : N17.toInt = N16.toInt - 64) (eN18 : (N17 - N9) = N18) (nN18 : N18.toInt = N17.toInt - N9.toInt) : ∃ w1, xRun (d + 18) 127 [Value.ref 7, Value.int (xs 1), Value.long (xvv xs), Value.int (xs 4), Value.ref 194] (W0 6 xs) (.inl (some (Value.int 0))) w1 ∧ xKp (W0 6 xs) w1 xPC ∧ w1[194]? = some (Sum.inl (3, 1, xup (fun _ => Value.long 0) (0 : Int32).toInt.toNat (Value.long 0))) := by
  have f0 : ((64 : Int32) - (xnlz (xhi (xfo (xvv xs))))).toInt = 64 - (xnlz (xhi (xfo (xvv xs)))).toInt := xsub_g rfl rfl (by omega) (by omega)
  have f1 : (N16 - N17).toInt = N16.toInt - N17.toInt := xsub_i (by omega) (by omega)
  have f2 : ((64 : Int32) - B).toInt = 64 - B.toInt := xsub_g rfl rfl (by omega) (by omega)
  have f3 : (B + K).toInt = B.toInt + K.toInt := xadd_i (by omega) (by omega)
  have f4 : ((0 : Int32) - K).toInt = 0 - K.toInt := xsub_g rfl rfl (by omega) (by omega)
  have f5 : 0 ≤ (xnlz (xbf 2 (xlo (xfo (xvv xs))) (xhi (xfo (xvv xs))) ((32 : Int32) - K))).toInt := (xnlz_b _).1
  have f6 : (xnlz (xbf 2 (xlo (xfo (xvv xs))) (xhi (xfo (xvv xs))) ((32 : Int32) - K))).toInt ≤ 32 := (xnlz_b _).2
  have f7 : ((64 : Int32) - (xnlz (xbf 2 (xlo (xfo (xvv xs))) (xhi (xfo (xvv xs))) ((32 : Int32) - K)))).toInt = 64 - (xnlz (xbf 2 (xlo (xfo (xvv xs))) (xhi (xfo (xvv xs))) ((32 : Int32) - K))).toInt := xsub_g rfl rfl (by omega) (by omega)
  refine ⟨(((((((((W0 6 xs).set 16 (Sum.inr (4, [Value.int 0, Value.ref 17, Value.int 0, Value.int 0]))).set 18 (Sum.inl (0, 8, xup (xup (fun _ => Value.int 0) (0 : Int32).toInt.toNat (Value.int (xlo (xfo (xvv xs))))) (1 : Int32).toInt.toNat (Value.int (xhi (xfo (xvv xs))))))).set 17 (Sum.inr (3, [Value.ref 18, Value.int 2]))).set 16 (Sum.inr (4, [Value.int 0, Value.ref 17, Value.int N9, Value.int 0]))).set (30 + 3 * (xs 1).toInt.toNat) (Sum.inr (2, [Value.int 64, Value.int 3, Value.int 0, Value.int N16, Value.ref (31 + 3 * (xs 1).toInt.toNat)]))).set (32 + 3 * (xs 1).toInt.toNat) (Sum.inl (0, 8, xup (xup (fun _ => Value.int 0) (1 : Int32).toInt.toNat (Value.int (xbf 2 (xlo (xfo (xvv xs))) (xhi (xfo (xvv xs))) ((32 : Int32) - K)))) (0 : Int32).toInt.toNat (Value.int (xbf 2 (xlo (xfo (xvv xs))) (xhi (xfo (xvv xs))) N18))))).set (31 + 3 * (xs 1).toInt.toNat) (Sum.inr (3, [Value.ref (32 + 3 * (xs 1).toInt.toNat), Value.int 2]))).set 194 (Sum.inl (3, 1, xup (fun _ => Value.long 0) (0 : Int32).toInt.toNat (Value.long 0)))), (s_127_3 W0_7 (by omega) (by omega) (by omega) (by omega) W0_8 (greg_at (by omega)) (by omega) (by omega) (by omega) (show ((xfd (xvv xs)) - (1075 : Int32)) = N9 from eN9) W0_16 W0_17 W0_18 (by omega) W0_78 (show ((64 : Int32) - (xnlz (xhi (xfo (xvv xs))))) = B from (xge_i (by omega))) (show (B + N9) = N16 from eN16) (by omega) (by omega) (by omega) (W0_reg (by omega)) (show (N16 - (64 : Int32)) = N17 from eN17) (show (N17 - N9) = N18 from eN18) (by omega) (show (N16 - N17) = 64 from (xge_c (n := 64) (by omega) rfl)) (by omega) (by omega) (by omega) (by omega) (show ((64 : Int32) - B) = K from (xge_i (by omega))) (by omega) (by omega) (by omega) (by omega) (W0_man (by omega)) (show (B + K) = 64 from (xge_c (n := 64) (by omega) rfl)) (by omega) (by omega) (by omega) (by omega) (W0_mw (by omega)) (by omega) (by omega) (by omega) (show ((0 : Int32) - K) = N18 from (xge_i (by omega))) (by omega) (by omega) (by omega) (by omega) (by omega) (by omega) (by omega) (by omega) (by omega) (by omega) (by omega) (by omega) (by omega) (by omega) (by omega) (by omega) (by omega) (by omega) W0_194), ?_, xgs (xgn (by omega) (xgn (by omega) (xgn (by omega) (xgn (by decide) (xgn (by decide) (xgn (by decide) (xgn (by decide) W0_194)))))))⟩
  refine xKp.set ?_ (fun h hh => by unfold xPC at hh; omega) (xgn (by omega) (xgn (by omega) (xgn (by omega) (xgn (by decide) (xgn (by decide) (xgn (by decide) (xgn (by decide) W0_194))))))) xcs_a
  refine xKp.set ?_ (fun h hh => by unfold xPC at hh; omega) (xgn (by omega) (xgn (by omega) (xgn (by omega) (xgn (by omega) (xgn (by omega) (xgn (by omega) (W0_man (by omega)))))))) xcs_o
  refine xKp.set ?_ (fun h hh => by unfold xPC at hh; omega) (xgn (by omega) (xgn (by omega) (xgn (by omega) (xgn (by omega) (xgn (by omega) (W0_mw (by omega))))))) xcs_a
  refine xKp.set ?_ (fun h hh => by unfold xPC at hh; omega) (xgn (by omega) (xgn (by omega) (xgn (by omega) (xgn (by omega) (W0_reg (by omega)))))) xcs_o
  refine xKp.set ?_ (fun h hh => by unfold xPC at hh; omega) (xgn (by decide) (xgn (by decide) (xgs W0_16))) xcs_o
  refine xKp.set ?_ (fun h hh => by unfold xPC at hh; omega) (xgn (by decide) (xgn (by decide) W0_17)) xcs_o
  refine xKp.set ?_ (fun h hh => by unfold xPC at hh; omega) (xgn (by decide) W0_18) xcs_a
  refine xKp.set ?_ (fun h hh => by unfold xPC at hh; omega) (W0_16) xcs_o
  exact xKp.refl
theorem cls16_10 {d : Nat} {xs : Nat → Int32} (c0 : 0 ≤ (xs 1).toInt) (c1 : (xs 1).toInt < 16) (c2 : 0 ≤ (xs 4).toInt) (c3 : (xs 4).toInt ≤ 4) (c4 : 0 ≤ (xfd (xvv xs)).toInt) (c5 : (xfd (xvv xs)).toInt ≤ 2047) (c6 : (xfd (xvv xs)).toInt ≠ 2047) (c7 : (xfd (xvv xs)).toInt ≠ 0) (c8 : 0 ≤ (lg_cmp (xvv xs) (0 : Int64)).toInt) : ∃ w1, xRun (d + 18) 127 [Value.ref 7, Value.int (xs 1), Value.long (xvv xs), Value.int (xs 4), Value.ref 194] (W0 6 xs) (.inl (some (Value.int 0))) w1 ∧ xKp (W0 6 xs) w1 xPC ∧ w1[194]? = some (Sum.inl (3, 1, xup (fun _ => Value.long 0) (0 : Int32).toInt.toNat (Value.long (xres 0 (xfo (xvv xs)) ((xfd (xvv xs)) - (1075 : Int32)) (xs 4)).toInt64))) := by
  obtain ⟨N9, eN9⟩ : ∃ N : Int32, ((xfd (xvv xs)) - (1075 : Int32)) = N := ⟨_, rfl⟩
  have nN9 : N9.toInt = (xfd (xvv xs)).toInt - 1075 := by rw [← eN9]; exact xsub_g rfl rfl (by omega) (by omega)
  obtain ⟨B, K, hB, c10, hr⟩ := xregC (m := (xfo (xvv xs))) (xfo_nz _)
  rcases hr with ⟨c11, c12, c13, c14, c15, c16⟩ | ⟨c11, c12, c13, c14, c15⟩
  · have fs : ((xfd (xvv xs)) - (1075 : Int32)).toInt = (xfd (xvv xs)).toInt - 1075 := xsub_g rfl rfl (by omega) (by omega)
    obtain ⟨N17, eN17⟩ : ∃ N : Int32, (B + N9) = N := ⟨_, rfl⟩
    have nN17 : N17.toInt = B.toInt + N9.toInt := by rw [← eN17]; exact xadd_g rfl rfl (by omega) (by omega)
    obtain ⟨N18, eN18⟩ : ∃ N : Int32, (N17 - (64 : Int32)) = N := ⟨_, rfl⟩
    have nN18 : N18.toInt = N17.toInt - 64 := by rw [← eN18]; exact xsub_g rfl rfl (by omega) (by omega)
    obtain ⟨N19, eN19⟩ : ∃ N : Int32, (N18 - N9) = N := ⟨_, rfl⟩
    have nN19 : N19.toInt = N18.toInt - N9.toInt := by rw [← eN19]; exact xsub_g rfl rfl (by omega) (by omega)
    have e : (xres 0 (xfo (xvv xs)) ((xfd (xvv xs)) - (1075 : Int32)) (xs 4)).toInt64 = 0 := by rw [show xres 0 (xfo (xvv xs)) ((xfd (xvv xs)) - (1075 : Int32)) (xs 4) = 0 from (xans_in (by rw [fs, ← hB]; omega) (by rw [fs, ← hB]; omega)).trans rfl]; rfl
    rw [e]
    exact cn16_10_0 c0 c1 c2 c3 c4 c5 c6 c7 c8 eN9 nN9 c10 c11 c12 c13 c14 c15 c16 eN17 nN17 eN18 nN18 eN19 nN19
  · have fs : ((xfd (xvv xs)) - (1075 : Int32)).toInt = (xfd (xvv xs)).toInt - 1075 := xsub_g rfl rfl (by omega) (by omega)
    obtain ⟨N16, eN16⟩ : ∃ N : Int32, (B + N9) = N := ⟨_, rfl⟩
    have nN16 : N16.toInt = B.toInt + N9.toInt := by rw [← eN16]; exact xadd_g rfl rfl (by omega) (by omega)
    obtain ⟨N17, eN17⟩ : ∃ N : Int32, (N16 - (64 : Int32)) = N := ⟨_, rfl⟩
    have nN17 : N17.toInt = N16.toInt - 64 := by rw [← eN17]; exact xsub_g rfl rfl (by omega) (by omega)
    obtain ⟨N18, eN18⟩ : ∃ N : Int32, (N17 - N9) = N := ⟨_, rfl⟩
    have nN18 : N18.toInt = N17.toInt - N9.toInt := by rw [← eN18]; exact xsub_g rfl rfl (by omega) (by omega)
    have e : (xres 0 (xfo (xvv xs)) ((xfd (xvv xs)) - (1075 : Int32)) (xs 4)).toInt64 = 0 := by rw [show xres 0 (xfo (xvv xs)) ((xfd (xvv xs)) - (1075 : Int32)) (xs 4) = 0 from (xans_in (by rw [fs, ← hB]; omega) (by rw [fs, ← hB]; omega)).trans rfl]; rfl
    rw [e]
    exact cn16_10_1 c0 c1 c2 c3 c4 c5 c6 c7 c8 eN9 nN9 c10 c11 c12 c13 c14 c15 eN16 nN16 eN17 nN17 eN18 nN18
theorem s_24_6 {d : Nat} {w : xW} {b0 : Int64} (hw0 : w[16]? = some (Sum.inr (4, [Value.int 0, Value.ref 17, Value.int 0, Value.int 0]))) (hw1 : w[17]? = some (Sum.inr (3, [Value.ref 18, Value.int 0]))) (hw2 : w[18]? = some (Sum.inl (0, 8, fun _ => Value.int 0))) (hg3 : (xhi b0) = 0) (e4 : (xlo b0).toInt ≠ 0) : xRun (d + 2) 24 [Value.ref 16, Value.int 1, Value.long b0, Value.int (-1074)] w (.inl none) (((((w.set 16 (Sum.inr (4, [Value.int 1, Value.ref 17, Value.int 0, Value.int 0]))).set 18 (Sum.inl (0, 8, xup (xup (fun _ => Value.int 0) (0 : Int32).toInt.toNat (Value.int (xlo b0))) (1 : Int32).toInt.toNat (Value.int 0)))).set 17 (Sum.inr (3, [Value.ref 18, Value.int 2]))).set 17 (Sum.inr (3, [Value.ref 18, Value.int 1]))).set 16 (Sum.inr (4, [Value.int 1, Value.ref 17, Value.int (-1074), Value.int 0]))) := by
  refine xRun.of ?_
  refine i_24_0 (x := 16) rfl ?_
  refine i_24_1 (x := 1) rfl ?_
  refine i_24_2 (fs2 := [Value.int 1, Value.ref 17, Value.int 0, Value.int 0]) hw0 rfl (Nat.le_of_ble_eq_true rfl) rfl (by decide) ?_
  refine i_24_5 (x := 16) rfl ?_
  refine i_24_6 (v := Value.ref 17) (xgs hw0) rfl ?_
  refine i_24_9 (x := b0) rfl ?_
  refine i_24_10 (xgn (by decide) hw1) (Nat.le_of_ble_eq_true rfl) (s_25_0 (xgn (by decide) hw1) (xgn (by decide) hw2) hg3 e4) ?_
  refine i_24_13 (x := 16) rfl ?_
  refine i_24_14 (x := (-1074)) rfl ?_
  refine i_24_16 (fs2 := [Value.int 1, Value.ref 17, Value.int (-1074), Value.int 0]) (xgn (by decide) (xgn (by decide) (xgn (by decide) (xgs hw0)))) (Nat.le_of_ble_eq_true rfl) rfl (by decide) ?_
  refine i_24_19 (x := 16) rfl ?_
  refine i_24_20 ?_
  refine i_24_21 (fs2 := [Value.int 1, Value.ref 17, Value.int (-1074), Value.int 0]) (xgs (xgn (by decide) (xgn (by decide) (xgn (by decide) (xgs hw0))))) rfl (Nat.le_of_ble_eq_true rfl) rfl (by decide) ?_
  refine xEv.world (List.set_set _) ?_
  exact i_24_24 ⟨rfl, rfl⟩
theorem s_28_8 {d : Nat} {w : xW} {g0 : Nat → Value} {a0 : Int32} {a1 : Int32} {a2 : Int32} (hw0 : w[16]? = some (Sum.inr (4, [Value.int 1, Value.ref 17, Value.int (-1074), Value.int 0]))) (hw1 : w[17]? = some (Sum.inr (3, [Value.ref 18, Value.int 1]))) (hw2 : w[18]? = some (Sum.inl (0, 8, g0))) (hg3 : g0 (0 : Int32).toInt.toNat = Value.int a0) (hg4 : ((32 : Int32) - (xnlz a0)) = a1) (hg5 : (a1 + ((-1074) : Int32)) = a2) : xRun (d + 2) 28 [Value.ref 16] w (.inl (some (Value.int a2))) w := by
  refine xRun.of ?_
  refine i_28_0 (x := 16) rfl ?_
  refine i_28_1 (v := Value.ref 17) hw0 rfl ?_
  refine i_28_4 hw1 (Nat.le_of_ble_eq_true rfl) (s_29_0 hw1 hw2 hg3 hg4) ?_
  refine i_28_7 (x := 16) rfl ?_
  refine i_28_8 (v := Value.int (-1074)) hw0 rfl ?_
  refine i_28_11 (c := a2) hg5 ?_
  exact i_28_12 ⟨rfl, rfl⟩
theorem s_32_8 {d : Nat} {w : xW} {a0 : Int32} {a1 : Int32} (hw0 : w[16]? = some (Sum.inr (4, [Value.int 1, Value.ref 17, Value.int (-1074), Value.int 0]))) (hg1 : (a0 - ((-1074) : Int32)) = a1) (hw2 : w[17]? = some (Sum.inr (3, [Value.ref 18, Value.int 1]))) (e3 : a1.toInt ≤ 0) : xRun (d + 1) 32 [Value.ref 16, Value.int a0] w (.inl (some (Value.int 1))) w := by
  refine xRun.of ?_
  refine i_32_0 (x := 16) rfl ?_
  refine i_32_1 (v := Value.int 0) hw0 rfl ?_
  refine i_32_4 (fun h => absurd h (by decide)) (fun _ => ?_)
  refine i_32_7 (x := 16) rfl ?_
  refine i_32_8 (v := Value.ref 17) hw0 rfl ?_
  refine i_32_11 (x := a0) rfl ?_
  refine i_32_12 (x := 16) rfl ?_
  refine i_32_13 (v := Value.int (-1074)) hw0 rfl ?_
  refine i_32_16 (c := a1) hg1 ?_
  refine i_32_17 hw2 (Nat.le_of_ble_eq_true rfl) (s_33_0 e3) ?_
  refine i_32_20 (fun h => absurd h (by decide)) (fun _ => ?_)
  refine i_32_23 ?_
  refine i_32_24 ?_
  exact i_32_28 rfl ⟨rfl, rfl⟩
theorem s_31_8 {d : Nat} {w : xW} {a0 : Int32} {a1 : Int32} {a2 : Int32} (hw0 : w[16]? = some (Sum.inr (4, [Value.int 1, Value.ref 17, Value.int (-1074), Value.int 0]))) (hg1 : (a0 - ((-1074) : Int32)) = a2) (hw2 : w[17]? = some (Sum.inr (3, [Value.ref 18, Value.int 1]))) (e3 : a2.toInt ≤ 0) : xRun (d + 2) 31 [Value.ref 16, Value.int a0, Value.int a1] w (.inl (some (Value.int 0))) w := by
  refine xRun.of ?_
  refine i_31_0 (x := 16) rfl ?_
  refine i_31_1 (x := a0) rfl ?_
  refine i_31_2 hw0 (Nat.le_of_ble_eq_true rfl) (s_32_8 hw0 hg1 hw2 e3) ?_
  refine i_31_5 (fun h => absurd h (by decide)) (fun _ => ?_)
  refine i_31_8 ?_
  exact i_31_9 rfl ⟨rfl, rfl⟩
theorem s_38_8 {d : Nat} {w : xW} {h0 : Nat} {a0 : Int32} {g0 : Nat → Value} {a1 : Int32} {a2 : Int32} {a3 : Int32} {h1 : Nat} {a4 : Int32} {h2 : Nat} {a5 : Int32} (hw0 : w[16]? = some (Sum.inr (4, [Value.int 1, Value.ref 17, Value.int (-1074), Value.int 0]))) (hw1 : w[17]? = some (Sum.inr (3, [Value.ref 18, Value.int 1]))) (hw2 : w[18]? = some (Sum.inl (0, 8, g0))) (hg3 : g0 (0 : Int32).toInt.toNat = Value.int a1) (hg4 : ((32 : Int32) - (xnlz a1)) = a2) (hg5 : (a2 + ((-1074) : Int32)) = a3) (hg6 : (a3 - a0) = 64) (hw7 : w[h0]? = some (Sum.inr (2, [Value.int 64, Value.int 0, Value.int 0, Value.int 0, Value.ref h1]))) (e8 : 7 ≤ h0) (e9 : h0 ≠ 16) (e10 : h0 ≠ 17) (e11 : h0 ≠ 18) (hg12 : ((64 : Int32) - a2) = a4) (e13 : h0 ≠ h1) (hw14 : w[h1]? = some (Sum.inr (3, [Value.ref h2, Value.int 0]))) (hg15 : (a2 + a4) = 64) (e16 : h0 ≠ h2) (hw17 : w[h2]? = some (Sum.inl (0, 8, fun _ => Value.int 0))) (e18 : 0 ≤ a4.toInt) (hg19 : g0 (1 : Int32).toInt.toNat = Value.int 0) (e20 : 7 ≤ h2) (e21 : h2 ≠ h1) (hg22 : ((0 : Int32) - a4) = a5) (e23 : h2 ≠ 17) (e24 : h2 ≠ 18) (e25 : 7 ≤ h1) (e26 : h1 ≠ h0) (e27 : h2 ≠ h0) (e28 : h1 ≠ h2) (e29 : (xbf 1 a1 (0 : Int32) ((32 : Int32) - a4)).toInt ≠ 0) (e30 : ((64 : Int32) - (xnlz (xbf 1 a1 (0 : Int32) ((32 : Int32) - a4)))).toInt ≤ 64) : xRun (d + 3) 38 [Value.ref h0, Value.ref 16, Value.int a0, Value.int 0] w (.inl none) (((w.set h0 (Sum.inr (2, [Value.int 64, Value.int 3, Value.int 1, Value.int a3, Value.ref h1]))).set h2 (Sum.inl (0, 8, xup (xup (fun _ => Value.int 0) (1 : Int32).toInt.toNat (Value.int (xbf 1 a1 (0 : Int32) ((32 : Int32) - a4)))) (0 : Int32).toInt.toNat (Value.int (xbf 1 a1 (0 : Int32) a5))))).set h1 (Sum.inr (3, [Value.ref h2, Value.int 2]))) := by
  refine xRun.of ?_
  refine i_38_0 (x := 16) rfl ?_
  refine i_38_1 hw0 (Nat.le_of_ble_eq_true rfl) (s_28_8 hw0 hw1 hw2 hg3 hg4 hg5) ?_
  refine i_38_4 (lv2 := [(4, Value.int a3), (0, Value.ref h0), (1, Value.ref 16), (2, Value.int a0), (3, Value.int 0)]) rfl ?_
  refine i_38_6 (x := a3) rfl ?_
  refine i_38_8 (x := a0) rfl ?_
  refine i_38_9 (c := 64) hg6 ?_
  refine i_38_10 (lv2 := [(5, Value.int 64), (4, Value.int a3), (0, Value.ref h0), (1, Value.ref 16), (2, Value.int a0), (3, Value.int 0)]) rfl ?_
  refine i_38_12 (x := 64) rfl ?_
  refine i_38_14 (fun _ => ?_) (fun h => absurd h (by decide))
  refine i_38_31 (x := 64) rfl ?_
  refine i_38_33 (fun _ => ?_) (fun h => absurd h (by decide))
  refine i_38_48 (x := h0) rfl ?_
  refine i_38_49 ?_
  refine i_38_50 (fs2 := [Value.int 64, Value.int 3, Value.int 0, Value.int 0, Value.ref h1]) hw7 (Nat.le_of_ble_eq_true rfl) rfl e8 ?_
  refine i_38_53 (x := h0) rfl ?_
  refine i_38_54 (x := 16) rfl ?_
  refine i_38_55 (v := Value.int 1) (xgn e9 hw0) rfl ?_
  refine i_38_58 (fs2 := [Value.int 64, Value.int 3, Value.int 1, Value.int 0, Value.ref h1]) (xgs hw7) rfl (Nat.le_of_ble_eq_true rfl) rfl e8 ?_
  refine xEv.world (List.set_set _) ?_
  refine i_38_61 (x := h0) rfl ?_
  refine i_38_62 (x := a3) rfl ?_
  refine i_38_64 (fs2 := [Value.int 64, Value.int 3, Value.int 1, Value.int a3, Value.ref h1]) (xgs hw7) (Nat.le_of_ble_eq_true rfl) rfl e8 ?_
  refine xEv.world (List.set_set _) ?_
  refine i_38_67 (x := h0) rfl ?_
  refine i_38_68 (v := Value.ref h1) (xgs hw7) rfl ?_
  refine i_38_71 (x := 16) rfl ?_
  refine i_38_72 (v := Value.ref 17) (xgn e9 hw0) rfl ?_
  refine i_38_75 (x := h0) rfl ?_
  refine i_38_76 (v := Value.int 64) (xgs hw7) rfl ?_
  refine i_38_79 (x := 16) rfl ?_
  refine i_38_80 (v := Value.ref 17) (xgn e9 hw0) rfl ?_
  refine i_38_83 (xgn e10 hw1) (Nat.le_of_ble_eq_true rfl) (s_29_0 (xgn e10 hw1) (xgn e11 hw2) hg3 hg4) ?_
  refine i_38_86 (c := a4) hg12 ?_
  refine i_38_87 (xgn e13 hw14) (Nat.le_of_ble_eq_true rfl) (s_42_2 (xgn e10 hw1) (xgn e11 hw2) hg3 hg4 hg15 (xgn e13 hw14) (xgn e16 hw17) e18 hg19 e20 e21 hg22 e23 e24 e25) ?_
  refine i_38_90 (x := h0) rfl ?_
  refine i_38_91 (v := Value.ref h1) (xgn e26 (xgn e27 (xgs hw7))) rfl ?_
  refine i_38_94 (x := h0) rfl ?_
  refine i_38_95 (v := Value.int 64) (xgn e26 (xgn e27 (xgs hw7))) rfl ?_
  refine i_38_98 (x := 64) rfl ?_
  refine i_38_100 (c := 0) (by decide) ?_
  refine i_38_101 (xgs (xgn e21 (xgn e13 hw14))) (Nat.le_of_ble_eq_true rfl) (s_43_0 (xgs (xgn e21 (xgn e13 hw14))) (xgn e28 (xgs (xgn e16 hw17))) (xup_n (by decide) xup_s) e29) ?_
  refine i_38_104 (x := 0) rfl ?_
  refine i_38_105 (fun _ => ?_) (fun h => absurd h (by decide))
  refine i_38_122 (x := h0) rfl ?_
  refine i_38_123 (v := Value.ref h1) (xgn e26 (xgn e27 (xgs hw7))) rfl ?_
  refine i_38_126 (xgs (xgn e21 (xgn e13 hw14))) (Nat.le_of_ble_eq_true rfl) (s_29_1 (xgs (xgn e21 (xgn e13 hw14))) (xgn e28 (xgs (xgn e16 hw17))) (xup_n (by decide) xup_s)) ?_
  refine i_38_129 (x := h0) rfl ?_
  refine i_38_130 (v := Value.int 64) (xgn e26 (xgn e27 (xgs hw7))) rfl ?_
  refine i_38_133 (fun _ => ?_) (fun h => absurd e30 (Int.not_le.mpr h))
  exact i_38_148 ⟨rfl, rfl⟩
theorem s_27_64 {d : Nat} {w : xW} {h0 : Nat} {a0 : Int32} {g0 : Nat → Value} {a1 : Int32} {a2 : Int32} {a3 : Int32} {h1 : Nat} {a4 : Int32} {a5 : Int32} {a6 : Int32} {h2 : Nat} (hw0 : w[16]? = some (Sum.inr (4, [Value.int 1, Value.ref 17, Value.int (-1074), Value.int 0]))) (hw1 : w[17]? = some (Sum.inr (3, [Value.ref 18, Value.int 1]))) (hw2 : w[18]? = some (Sum.inl (0, 8, g0))) (hg3 : g0 (0 : Int32).toInt.toNat = Value.int a1) (hg4 : ((32 : Int32) - (xnlz a1)) = a2) (hg5 : (a2 + ((-1074) : Int32)) = a3) (hw6 : w[h0]? = some (Sum.inr (2, [Value.int 64, Value.int 0, Value.int 0, Value.int 0, Value.ref h1]))) (hw7 : w[78]? = some (Sum.inr (1, [Value.int (-16384), Value.int 16384, Value.int 0, Value.int 0]))) (hg8 : (a3 - (64 : Int32)) = a4) (hg9 : (a4 - ((-1074) : Int32)) = a5) (e10 : a5.toInt ≤ 0) (hg11 : (a3 - a4) = 64) (e12 : 7 ≤ h0) (e13 : h0 ≠ 16) (e14 : h0 ≠ 17) (e15 : h0 ≠ 18) (hg16 : ((64 : Int32) - a2) = a6) (e17 : h0 ≠ h1) (hw18 : w[h1]? = some (Sum.inr (3, [Value.ref h2, Value.int 0]))) (hg19 : (a2 + a6) = 64) (e20 : h0 ≠ h2) (hw21 : w[h2]? = some (Sum.inl (0, 8, fun _ => Value.int 0))) (e22 : 0 ≤ a6.toInt) (hg23 : g0 (1 : Int32).toInt.toNat = Value.int 0) (e24 : 7 ≤ h2) (e25 : h2 ≠ h1) (hg26 : ((0 : Int32) - a6) = a5) (e27 : h2 ≠ 17) (e28 : h2 ≠ 18) (e29 : 7 ≤ h1) (e30 : h1 ≠ h0) (e31 : h2 ≠ h0) (e32 : h1 ≠ h2) (e33 : (xbf 1 a1 (0 : Int32) ((32 : Int32) - a6)).toInt ≠ 0) (e34 : ((64 : Int32) - (xnlz (xbf 1 a1 (0 : Int32) ((32 : Int32) - a6)))).toInt ≤ 64) (e35 : h1 ≠ 78) (e36 : h2 ≠ 78) (e37 : h0 ≠ 78) (e38 : a3.toInt ≤ 16384) (e39 : (-16384) ≤ a3.toInt) (e40 : h1 ≠ 16) (e41 : h2 ≠ 16) : xRun (d + 4) 27 [Value.ref 78, Value.ref h0, Value.ref 16, Value.int a0] w (.inl (some (Value.int 0))) (((w.set h0 (Sum.inr (2, [Value.int 64, Value.int 3, Value.int 1, Value.int a3, Value.ref h1]))).set h2 (Sum.inl (0, 8, xup (xup (fun _ => Value.int 0) (1 : Int32).toInt.toNat (Value.int (xbf 1 a1 (0 : Int32) ((32 : Int32) - a6)))) (0 : Int32).toInt.toNat (Value.int (xbf 1 a1 (0 : Int32) a5))))).set h1 (Sum.inr (3, [Value.ref h2, Value.int 2]))) := by
  refine xRun.of ?_
  refine i_27_0 (x := 16) rfl ?_
  refine i_27_1 hw0 (Nat.le_of_ble_eq_true rfl) (s_28_8 hw0 hw1 hw2 hg3 hg4 hg5) ?_
  refine i_27_4 (lv2 := [(4, Value.int a3), (0, Value.ref 78), (1, Value.ref h0), (2, Value.ref 16), (3, Value.int a0)]) rfl ?_
  refine i_27_6 (x := 78) rfl ?_
  refine i_27_7 (x := a3) rfl ?_
  refine i_27_9 (x := h0) rfl ?_
  refine i_27_10 (v := Value.int 64) hw6 rfl ?_
  refine i_27_13 hw7 (Nat.le_of_ble_eq_true rfl) (s_30_1 hw7 hg8) ?_
  refine i_27_16 (lv2 := [(5, Value.int a4), (4, Value.int a3), (0, Value.ref 78), (1, Value.ref h0), (2, Value.ref 16), (3, Value.int a0)]) rfl ?_
  refine i_27_18 (x := 16) rfl ?_
  refine i_27_19 (x := a4) rfl ?_
  refine i_27_21 (x := a0) rfl ?_
  refine i_27_22 hw0 (Nat.le_of_ble_eq_true rfl) (s_31_8 hw0 hg9 hw1 e10) ?_
  refine i_27_25 (lv2 := [(6, Value.int 0), (5, Value.int a4), (4, Value.int a3), (0, Value.ref 78), (1, Value.ref h0), (2, Value.ref 16), (3, Value.int a0)]) rfl ?_
  refine i_27_27 (x := 16) rfl ?_
  refine i_27_28 (x := a4) rfl ?_
  refine i_27_30 hw0 (Nat.le_of_ble_eq_true rfl) (s_32_8 hw0 hg9 hw1 e10) ?_
  refine i_27_33 (fun h => absurd h (by decide)) (fun _ => ?_)
  refine i_27_36 ?_
  refine i_27_37 ?_
  refine i_27_50 (lv2 := [(7, Value.int 0), (6, Value.int 0), (5, Value.int a4), (4, Value.int a3), (0, Value.ref 78), (1, Value.ref h0), (2, Value.ref 16), (3, Value.int a0)]) rfl ?_
  refine i_27_52 (x := h0) rfl ?_
  refine i_27_53 (x := 16) rfl ?_
  refine i_27_54 (x := a4) rfl ?_
  refine i_27_56 (x := 0) rfl ?_
  refine i_27_58 hw6 (Nat.le_of_ble_eq_true rfl) (s_38_8 hw0 hw1 hw2 hg3 hg4 hg5 hg11 hw6 e12 e13 e14 e15 hg16 e17 hw18 hg19 e20 hw21 e22 hg23 e24 e25 hg26 e27 e28 e29 e30 e31 e32 e33 e34) ?_
  refine i_27_61 (x := h0) rfl ?_
  refine i_27_62 (v := Value.int 3) (xgn e30 (xgn e31 (xgs hw6))) rfl ?_
  refine i_27_65 ?_
  refine i_27_66 (fun h => absurd h (by decide)) (fun _ => ?_)
  refine i_27_69 (x := h0) rfl ?_
  refine i_27_70 (v := Value.int a3) (xgn e30 (xgn e31 (xgs hw6))) rfl ?_
  refine i_27_73 (x := 78) rfl ?_
  refine i_27_74 (v := Value.int 16384) (xgn e35 (xgn e36 (xgn e37 hw7))) rfl ?_
  refine i_27_77 (fun _ => ?_) (fun h => absurd e38 (Int.not_le.mpr h))
  refine i_27_95 (x := h0) rfl ?_
  refine i_27_96 (v := Value.int 3) (xgn e30 (xgn e31 (xgs hw6))) rfl ?_
  refine i_27_99 ?_
  refine i_27_100 (fun h => absurd h (by decide)) (fun _ => ?_)
  refine i_27_103 (x := 78) rfl ?_
  refine i_27_104 (v := Value.int 0) (xgn e35 (xgn e36 (xgn e37 hw7))) rfl ?_
  refine i_27_107 (fun h => absurd h (by decide)) (fun _ => ?_)
  refine i_27_110 (x := h0) rfl ?_
  refine i_27_111 (v := Value.int a3) (xgn e30 (xgn e31 (xgs hw6))) rfl ?_
  refine i_27_114 (x := 78) rfl ?_
  refine i_27_115 (v := Value.int (-16384)) (xgn e35 (xgn e36 (xgn e37 hw7))) rfl ?_
  refine i_27_118 (fun _ => ?_) (fun h => absurd e39 (Int.not_le.mpr h))
  refine i_27_133 (x := 78) rfl ?_
  refine i_27_134 (v := Value.int 0) (xgn e35 (xgn e36 (xgn e37 hw7))) rfl ?_
  refine i_27_137 (fun _ => ?_) (fun h => absurd h (by decide))
  refine i_27_164 (x := 0) rfl ?_
  refine i_27_166 (fun _ => ?_) (fun h => absurd h (by decide))
  refine i_27_179 (x := 16) rfl ?_
  refine i_27_180 (v := Value.int 1) (xgn e40 (xgn e41 (xgn e13 hw0))) rfl ?_
  refine i_27_183 (fun h => absurd h (by decide)) (fun _ => ?_)
  refine i_27_186 (x := 0) rfl ?_
  refine i_27_188 (c := 0) (by decide) ?_
  refine i_27_189 ?_
  exact i_27_194 ⟨rfl, rfl⟩
theorem s_128_4 {d : Nat} {w : xW} {a0 : Int32} {b0 : Int64} {a1 : Int32} {g0 : Nat → Value} {h0 : Nat} {a2 : Int32} {a3 : Int32} {h1 : Nat} {a4 : Int32} {a5 : Int32} {a6 : Int32} {h2 : Nat} (e0 : 0 ≤ a0.toInt) (e1 : a0.toInt < 16) (e2 : 0 ≤ a1.toInt) (e3 : a1.toInt ≤ 4) (hw4 : w[7]? = some (Sum.inr (0, [Value.ref 8, Value.ref 78, Value.ref 9, Value.ref 10, Value.ref 13, Value.ref 16, Value.ref 19, Value.ref 93, Value.ref 108, Value.ref 113, Value.ref 29, Value.int 0]))) (hw5 : w[8]? = some (Sum.inl (4, 16, g0))) (hg6 : g0 a0.toInt.toNat = Value.ref h0) (e7 : (lg_cmp b0 (0 : Int64)).toInt < 0) (hg8 : (xfd b0) = 0) (e9 : (lg_cmp (xfr b0) (0 : Int64)).toInt ≠ 0) (hw10 : w[16]? = some (Sum.inr (4, [Value.int 0, Value.ref 17, Value.int 0, Value.int 0]))) (hw11 : w[17]? = some (Sum.inr (3, [Value.ref 18, Value.int 0]))) (hw12 : w[18]? = some (Sum.inl (0, 8, fun _ => Value.int 0))) (hg13 : (xhi (xfr b0)) = 0) (e14 : (xlo (xfr b0)).toInt ≠ 0) (hw15 : w[78]? = some (Sum.inr (1, [Value.int (-16384), Value.int 16384, Value.int 0, Value.int 0]))) (hg16 : ((32 : Int32) - (xnlz (xlo (xfr b0)))) = a2) (hg17 : (a2 + ((-1074) : Int32)) = a3) (e18 : 16 ≠ h0) (e19 : 17 ≠ h0) (e20 : 18 ≠ h0) (hw21 : w[h0]? = some (Sum.inr (2, [Value.int 64, Value.int 0, Value.int 0, Value.int 0, Value.ref h1]))) (hg22 : (a3 - (64 : Int32)) = a4) (hg23 : (a4 - ((-1074) : Int32)) = a5) (e24 : a5.toInt ≤ 0) (hg25 : (a3 - a4) = 64) (e26 : 7 ≤ h0) (e27 : h0 ≠ 16) (e28 : h0 ≠ 17) (e29 : h0 ≠ 18) (hg30 : ((64 : Int32) - a2) = a6) (e31 : h0 ≠ h1) (e32 : 16 ≠ h1) (e33 : 17 ≠ h1) (e34 : 18 ≠ h1) (hw35 : w[h1]? = some (Sum.inr (3, [Value.ref h2, Value.int 0]))) (hg36 : (a2 + a6) = 64) (e37 : h0 ≠ h2) (e38 : 16 ≠ h2) (e39 : 17 ≠ h2) (e40 : 18 ≠ h2) (hw41 : w[h2]? = some (Sum.inl (0, 8, fun _ => Value.int 0))) (e42 : 0 ≤ a6.toInt) (e43 : 7 ≤ h2) (e44 : h2 ≠ h1) (hg45 : ((0 : Int32) - a6) = a5) (e46 : h2 ≠ 17) (e47 : h2 ≠ 18) (e48 : 7 ≤ h1) (e49 : h1 ≠ h0) (e50 : h2 ≠ h0) (e51 : h1 ≠ h2) (e52 : (xbf 1 (xlo (xfr b0)) (0 : Int32) ((32 : Int32) - a6)).toInt ≠ 0) (e53 : ((64 : Int32) - (xnlz (xbf 1 (xlo (xfr b0)) (0 : Int32) ((32 : Int32) - a6)))).toInt ≤ 64) (e54 : h1 ≠ 78) (e55 : h2 ≠ 78) (e56 : h0 ≠ 78) (e57 : a3.toInt ≤ 16384) (e58 : (-16384) ≤ a3.toInt) (e59 : h1 ≠ 16) (e60 : h2 ≠ 16) : xRun (d + 5) 128 [Value.ref 7, Value.int a0, Value.long b0, Value.int a1] w (.inl (some (Value.int 0))) ((((((((w.set 16 (Sum.inr (4, [Value.int 1, Value.ref 17, Value.int 0, Value.int 0]))).set 18 (Sum.inl (0, 8, xup (xup (fun _ => Value.int 0) (0 : Int32).toInt.toNat (Value.int (xlo (xfr b0)))) (1 : Int32).toInt.toNat (Value.int 0)))).set 17 (Sum.inr (3, [Value.ref 18, Value.int 2]))).set 17 (Sum.inr (3, [Value.ref 18, Value.int 1]))).set 16 (Sum.inr (4, [Value.int 1, Value.ref 17, Value.int (-1074), Value.int 0]))).set h0 (Sum.inr (2, [Value.int 64, Value.int 3, Value.int 1, Value.int a3, Value.ref h1]))).set h2 (Sum.inl (0, 8, xup (xup (fun _ => Value.int 0) (1 : Int32).toInt.toNat (Value.int (xbf 1 (xlo (xfr b0)) (0 : Int32) ((32 : Int32) - a6)))) (0 : Int32).toInt.toNat (Value.int (xbf 1 (xlo (xfr b0)) (0 : Int32) a5))))).set h1 (Sum.inr (3, [Value.ref h2, Value.int 2]))) := by
  refine xRun.of ?_
  refine i_128_0 (x := a0) rfl ?_
  refine i_128_1 (Nat.le_of_ble_eq_true rfl) (s_15_0 e0 e1) ?_
  refine i_128_4 (fun h => absurd h (by decide)) (fun _ => ?_)
  refine i_128_7 (x := a1) rfl ?_
  refine i_128_9 (Nat.le_of_ble_eq_true rfl) (s_22_0 e2 e3) ?_
  refine i_128_12 (fun _ => ?_) (fun h => absurd h (by decide))
  refine i_128_23 (x := 7) rfl ?_
  refine i_128_24 (v := Value.ref 8) hw4 rfl ?_
  refine i_128_27 (x := a0) rfl ?_
  refine i_128_28 (v := Value.ref h0) hw5 e0 e1 hg6 ?_
  refine i_128_29 (lv2 := [(5, Value.ref h0), (0, Value.ref 7), (1, Value.int a0), (2, Value.long b0), (4, Value.int a1)]) rfl ?_
  refine i_128_31 (x := b0) rfl ?_
  refine i_128_32 ?_
  refine i_128_33 (c := (lg_cmp b0 (0 : Int64))) rfl ?_
  refine i_128_34 (fun h => absurd e7 (Int.not_lt.mpr h)) (fun _ => ?_)
  refine i_128_37 ?_
  refine i_128_38 ?_
  refine i_128_42 (lv2 := [(6, Value.int 1), (5, Value.ref h0), (0, Value.ref 7), (1, Value.int a0), (2, Value.long b0), (4, Value.int a1)]) rfl ?_
  refine i_128_44 (x := b0) rfl ?_
  refine i_128_45 ?_
  refine i_128_47 (c := (xsr b0 52)) rfl ?_
  refine i_128_48 (c := (xsr b0 52).toInt32) rfl ?_
  refine i_128_49 ?_
  refine i_128_52 (c := 0) hg8 ?_
  refine i_128_53 (lv2 := [(7, Value.int 0), (6, Value.int 1), (5, Value.ref h0), (0, Value.ref 7), (1, Value.int a0), (2, Value.long b0), (4, Value.int a1)]) rfl ?_
  refine i_128_55 (x := b0) rfl ?_
  refine i_128_56 ?_
  refine i_128_59 (c := (xfr b0)) rfl ?_
  refine i_128_60 (lv2 := [(8, Value.long (xfr b0)), (7, Value.int 0), (6, Value.int 1), (5, Value.ref h0), (0, Value.ref 7), (1, Value.int a0), (2, Value.long b0), (4, Value.int a1)]) rfl ?_
  refine i_128_62 (x := 0) rfl ?_
  refine i_128_64 ?_
  refine i_128_67 (fun _ => ?_) (fun h => absurd h (by decide))
  refine i_128_90 (x := 0) rfl ?_
  refine i_128_92 (fun h => absurd h (by decide)) (fun _ => ?_)
  refine i_128_95 (x := (xfr b0)) rfl ?_
  refine i_128_97 ?_
  refine i_128_98 (c := (lg_cmp (xfr b0) (0 : Int64))) rfl ?_
  refine i_128_99 (fun _ => ?_) (fun h => absurd e9 (fun g => g h))
  refine i_128_110 (x := 0) rfl ?_
  refine i_128_112 (fun h => absurd h (by decide)) (fun _ => ?_)
  refine i_128_115 (x := 7) rfl ?_
  refine i_128_116 (v := Value.ref 16) hw4 rfl ?_
  refine i_128_119 (x := 1) rfl ?_
  refine i_128_121 (x := (xfr b0)) rfl ?_
  refine i_128_123 ?_
  refine i_128_126 hw10 (Nat.le_of_ble_eq_true rfl) (s_24_6 hw10 hw11 hw12 hg13 e14) ?_
  refine i_128_129 ?_
  refine i_128_153 (x := 7) rfl ?_
  refine i_128_154 (v := Value.ref 78) (xgn (by decide) (xgn (by decide) (xgn (by decide) (xgn (by decide) (xgn (by decide) hw4))))) rfl ?_
  refine i_128_157 (x := h0) rfl ?_
  refine i_128_159 (x := 7) rfl ?_
  refine i_128_160 (v := Value.ref 16) (xgn (by decide) (xgn (by decide) (xgn (by decide) (xgn (by decide) (xgn (by decide) hw4))))) rfl ?_
  refine i_128_163 (x := a1) rfl ?_
  refine i_128_165 (xgn (by decide) (xgn (by decide) (xgn (by decide) (xgn (by decide) (xgn (by decide) hw15))))) (Nat.le_of_ble_eq_true rfl) (s_27_64 (xgs (xgn (by decide) (xgn (by decide) (xgn (by decide) (xgs hw10))))) (xgn (by decide) (xgs (xgs (xgn (by decide) (xgn (by decide) hw11))))) (xgn (by decide) (xgn (by decide) (xgn (by decide) (xgs (xgn (by decide) hw12))))) (xup_n (by decide) xup_s) hg16 hg17 (xgn e18 (xgn e19 (xgn e19 (xgn e20 (xgn e18 hw21))))) (xgn (by decide) (xgn (by decide) (xgn (by decide) (xgn (by decide) (xgn (by decide) hw15))))) hg22 hg23 e24 hg25 e26 e27 e28 e29 hg30 e31 (xgn e32 (xgn e33 (xgn e33 (xgn e34 (xgn e32 hw35))))) hg36 e37 (xgn e38 (xgn e39 (xgn e39 (xgn e40 (xgn e38 hw41))))) e42 xup_s e43 e44 hg45 e46 e47 e48 e49 e50 e51 e52 e53 e54 e55 e56 e57 e58 e59 e60) ?_
  exact i_128_168 ⟨rfl, rfl⟩
theorem s_127_4 {d : Nat} {w : xW} {a0 : Int32} {b0 : Int64} {a1 : Int32} {g0 : Nat → Value} {h0 : Nat} {a2 : Int32} {a3 : Int32} {h1 : Nat} {a4 : Int32} {a5 : Int32} {a6 : Int32} {h2 : Nat} (hw0 : w[7]? = some (Sum.inr (0, [Value.ref 8, Value.ref 78, Value.ref 9, Value.ref 10, Value.ref 13, Value.ref 16, Value.ref 19, Value.ref 93, Value.ref 108, Value.ref 113, Value.ref 29, Value.int 0]))) (e1 : 0 ≤ a0.toInt) (e2 : a0.toInt < 16) (e3 : 0 ≤ a1.toInt) (e4 : a1.toInt ≤ 4) (hw5 : w[8]? = some (Sum.inl (4, 16, g0))) (hg6 : g0 a0.toInt.toNat = Value.ref h0) (e7 : (lg_cmp b0 (0 : Int64)).toInt < 0) (hg8 : (xfd b0) = 0) (e9 : (lg_cmp (xfr b0) (0 : Int64)).toInt ≠ 0) (hw10 : w[16]? = some (Sum.inr (4, [Value.int 0, Value.ref 17, Value.int 0, Value.int 0]))) (hw11 : w[17]? = some (Sum.inr (3, [Value.ref 18, Value.int 0]))) (hw12 : w[18]? = some (Sum.inl (0, 8, fun _ => Value.int 0))) (hg13 : (xhi (xfr b0)) = 0) (e14 : (xlo (xfr b0)).toInt ≠ 0) (hw15 : w[78]? = some (Sum.inr (1, [Value.int (-16384), Value.int 16384, Value.int 0, Value.int 0]))) (hg16 : ((32 : Int32) - (xnlz (xlo (xfr b0)))) = a2) (hg17 : (a2 + ((-1074) : Int32)) = a3) (e18 : 16 ≠ h0) (e19 : 17 ≠ h0) (e20 : 18 ≠ h0) (hw21 : w[h0]? = some (Sum.inr (2, [Value.int 64, Value.int 0, Value.int 0, Value.int 0, Value.ref h1]))) (hg22 : (a3 - (64 : Int32)) = a4) (hg23 : (a4 - ((-1074) : Int32)) = a5) (e24 : a5.toInt ≤ 0) (hg25 : (a3 - a4) = 64) (e26 : 7 ≤ h0) (e27 : h0 ≠ 16) (e28 : h0 ≠ 17) (e29 : h0 ≠ 18) (hg30 : ((64 : Int32) - a2) = a6) (e31 : h0 ≠ h1) (e32 : 16 ≠ h1) (e33 : 17 ≠ h1) (e34 : 18 ≠ h1) (hw35 : w[h1]? = some (Sum.inr (3, [Value.ref h2, Value.int 0]))) (hg36 : (a2 + a6) = 64) (e37 : h0 ≠ h2) (e38 : 16 ≠ h2) (e39 : 17 ≠ h2) (e40 : 18 ≠ h2) (hw41 : w[h2]? = some (Sum.inl (0, 8, fun _ => Value.int 0))) (e42 : 0 ≤ a6.toInt) (e43 : 7 ≤ h2) (e44 : h2 ≠ h1) (hg45 : ((0 : Int32) - a6) = a5) (e46 : h2 ≠ 17) (e47 : h2 ≠ 18) (e48 : 7 ≤ h1) (e49 : h1 ≠ h0) (e50 : h2 ≠ h0) (e51 : h1 ≠ h2) (e52 : (xbf 1 (xlo (xfr b0)) (0 : Int32) ((32 : Int32) - a6)).toInt ≠ 0) (e53 : ((64 : Int32) - (xnlz (xbf 1 (xlo (xfr b0)) (0 : Int32) ((32 : Int32) - a6)))).toInt ≤ 64) (e54 : h1 ≠ 78) (e55 : h2 ≠ 78) (e56 : h0 ≠ 78) (e57 : a3.toInt ≤ 16384) (e58 : (-16384) ≤ a3.toInt) (e59 : h1 ≠ 16) (e60 : h2 ≠ 16) (e61 : h1 ≠ 194) (e62 : h2 ≠ 194) (e63 : h0 ≠ 194) (hw64 : w[194]? = some (Sum.inl (3, 1, fun _ => Value.long 0))) : xRun (d + 6) 127 [Value.ref 7, Value.int a0, Value.long b0, Value.int a1, Value.ref 194] w (.inl (some (Value.int 0))) (((((((((w.set 16 (Sum.inr (4, [Value.int 1, Value.ref 17, Value.int 0, Value.int 0]))).set 18 (Sum.inl (0, 8, xup (xup (fun _ => Value.int 0) (0 : Int32).toInt.toNat (Value.int (xlo (xfr b0)))) (1 : Int32).toInt.toNat (Value.int 0)))).set 17 (Sum.inr (3, [Value.ref 18, Value.int 2]))).set 17 (Sum.inr (3, [Value.ref 18, Value.int 1]))).set 16 (Sum.inr (4, [Value.int 1, Value.ref 17, Value.int (-1074), Value.int 0]))).set h0 (Sum.inr (2, [Value.int 64, Value.int 3, Value.int 1, Value.int a3, Value.ref h1]))).set h2 (Sum.inl (0, 8, xup (xup (fun _ => Value.int 0) (1 : Int32).toInt.toNat (Value.int (xbf 1 (xlo (xfr b0)) (0 : Int32) ((32 : Int32) - a6)))) (0 : Int32).toInt.toNat (Value.int (xbf 1 (xlo (xfr b0)) (0 : Int32) a5))))).set h1 (Sum.inr (3, [Value.ref h2, Value.int 2]))).set 194 (Sum.inl (3, 1, xup (fun _ => Value.long 0) (0 : Int32).toInt.toNat (Value.long 0)))) := by
  refine xRun.of ?_
  refine i_127_0 (x := 194) rfl ?_
  refine i_127_2 ?_
  refine i_127_3 (x := 7) rfl ?_
  refine i_127_4 (x := a0) rfl ?_
  refine i_127_5 (x := b0) rfl ?_
  refine i_127_6 (x := a1) rfl ?_
  refine i_127_8 hw0 (Nat.le_of_ble_eq_true rfl) (s_128_4 e1 e2 e3 e4 hw0 hw5 hg6 e7 hg8 e9 hw10 hw11 hw12 hg13 e14 hw15 hg16 hg17 e18 e19 e20 hw21 hg22 hg23 e24 hg25 e26 e27 e28 e29 hg30 e31 e32 e33 e34 hw35 hg36 e37 e38 e39 e40 hw41 e42 e43 e44 hg45 e46 e47 e48 e49 e50 e51 e52 e53 e54 e55 e56 e57 e58 e59 e60) ?_
  refine i_127_11 (c := 0) (by decide) ?_
  refine i_127_12 (v := Value.long 0) (xgn e61 (xgn e62 (xgn e63 (xgn (by decide) (xgn (by decide) (xgn (by decide) (xgn (by decide) (xgn (by decide) hw64)))))))) (by decide) (by decide) (by decide) rfl ?_
  refine i_127_13 ?_
  refine i_127_20 ?_
  exact i_127_21 ⟨rfl, rfl⟩
theorem cn16_01_0 {d : Nat} {xs : Nat → Int32} {B K N17 N18 N19 : Int32} (c0 : 0 ≤ (xs 1).toInt) (c1 : (xs 1).toInt < 16) (c2 : 0 ≤ (xs 4).toInt) (c3 : (xs 4).toInt ≤ 4) (c4 : 0 ≤ (xfd (xvv xs)).toInt) (c5 : (xfd (xvv xs)).toInt ≤ 2047) (c6 : (xfd (xvv xs)).toInt ≠ 2047) (c7 : (xfd (xvv xs)).toInt = 0) (c8 : (lg_cmp (xfr (xvv xs)) (0 : Int64)).toInt ≠ 0) (c9 : (lg_cmp (xvv xs) (0 : Int64)).toInt < 0) (c10 : K.toInt = 64 - B.toInt) (c11 : 1 ≤ B.toInt) (c12 : B.toInt ≤ 32) (c13 : (xhi (xfr (xvv xs))).toInt = 0) (c14 : (xlo (xfr (xvv xs))).toInt ≠ 0) (c15 : (xnlz (xlo (xfr (xvv xs)))).toInt = 32 - B.toInt) (c16 : (xbf 1 (xlo (xfr (xvv xs))) (0 : Int32) ((32 : Int32) - K)).toInt ≠ 0) (eN17 : (B + ((-1074) : Int32)) = N17) (nN17 : N17.toInt = B.toInt + (-1074)) (eN18 : (N17 - (64 : Int32)) = N18) (nN18 : N18.toInt = N17.toInt - 64) (eN19 : (N18 - ((-1074) : Int32)) = N19) (nN19 : N19.toInt = N18.toInt - (-1074)) : ∃ w1, xRun (d + 18) 127 [Value.ref 7, Value.int (xs 1), Value.long (xvv xs), Value.int (xs 4), Value.ref 194] (W0 6 xs) (.inl (some (Value.int 0))) w1 ∧ xKp (W0 6 xs) w1 xPC ∧ w1[194]? = some (Sum.inl (3, 1, xup (fun _ => Value.long 0) (0 : Int32).toInt.toNat (Value.long 0))) := by
  have f0 : ((32 : Int32) - (xnlz (xlo (xfr (xvv xs))))).toInt = 32 - (xnlz (xlo (xfr (xvv xs)))).toInt := xsub_g rfl rfl (by omega) (by omega)
  have f1 : (N17 - N18).toInt = N17.toInt - N18.toInt := xsub_i (by omega) (by omega)
  have f2 : ((64 : Int32) - B).toInt = 64 - B.toInt := xsub_g rfl rfl (by omega) (by omega)
  have f3 : (B + K).toInt = B.toInt + K.toInt := xadd_i (by omega) (by omega)
  have f4 : ((0 : Int32) - K).toInt = 0 - K.toInt := xsub_g rfl rfl (by omega) (by omega)
  have f5 : 0 ≤ (xnlz (xbf 1 (xlo (xfr (xvv xs))) (0 : Int32) ((32 : Int32) - K))).toInt := (xnlz_b _).1
  have f6 : (xnlz (xbf 1 (xlo (xfr (xvv xs))) (0 : Int32) ((32 : Int32) - K))).toInt ≤ 32 := (xnlz_b _).2
  have f7 : ((64 : Int32) - (xnlz (xbf 1 (xlo (xfr (xvv xs))) (0 : Int32) ((32 : Int32) - K)))).toInt = 64 - (xnlz (xbf 1 (xlo (xfr (xvv xs))) (0 : Int32) ((32 : Int32) - K))).toInt := xsub_g rfl rfl (by omega) (by omega)
  refine ⟨((((((((((W0 6 xs).set 16 (Sum.inr (4, [Value.int 1, Value.ref 17, Value.int 0, Value.int 0]))).set 18 (Sum.inl (0, 8, xup (xup (fun _ => Value.int 0) (0 : Int32).toInt.toNat (Value.int (xlo (xfr (xvv xs))))) (1 : Int32).toInt.toNat (Value.int 0)))).set 17 (Sum.inr (3, [Value.ref 18, Value.int 2]))).set 17 (Sum.inr (3, [Value.ref 18, Value.int 1]))).set 16 (Sum.inr (4, [Value.int 1, Value.ref 17, Value.int (-1074), Value.int 0]))).set (30 + 3 * (xs 1).toInt.toNat) (Sum.inr (2, [Value.int 64, Value.int 3, Value.int 1, Value.int N17, Value.ref (31 + 3 * (xs 1).toInt.toNat)]))).set (32 + 3 * (xs 1).toInt.toNat) (Sum.inl (0, 8, xup (xup (fun _ => Value.int 0) (1 : Int32).toInt.toNat (Value.int (xbf 1 (xlo (xfr (xvv xs))) (0 : Int32) ((32 : Int32) - K)))) (0 : Int32).toInt.toNat (Value.int (xbf 1 (xlo (xfr (xvv xs))) (0 : Int32) N19))))).set (31 + 3 * (xs 1).toInt.toNat) (Sum.inr (3, [Value.ref (32 + 3 * (xs 1).toInt.toNat), Value.int 2]))).set 194 (Sum.inl (3, 1, xup (fun _ => Value.long 0) (0 : Int32).toInt.toNat (Value.long 0)))), (s_127_4 W0_7 (by omega) (by omega) (by omega) (by omega) W0_8 (greg_at (by omega)) (by omega) (show (xfd (xvv xs)) = 0 from (xge_c (n := 0) (by omega) rfl)) (by omega) W0_16 W0_17 W0_18 (show (xhi (xfr (xvv xs))) = 0 from (xge_c (n := 0) (by omega) rfl)) (by omega) W0_78 (show ((32 : Int32) - (xnlz (xlo (xfr (xvv xs))))) = B from (xge_i (by omega))) (show (B + ((-1074) : Int32)) = N17 from eN17) (by omega) (by omega) (by omega) (W0_reg (by omega)) (show (N17 - (64 : Int32)) = N18 from eN18) (show (N18 - ((-1074) : Int32)) = N19 from eN19) (by omega) (show (N17 - N18) = 64 from (xge_c (n := 64) (by omega) rfl)) (by omega) (by omega) (by omega) (by omega) (show ((64 : Int32) - B) = K from (xge_i (by omega))) (by omega) (by omega) (by omega) (by omega) (W0_man (by omega)) (show (B + K) = 64 from (xge_c (n := 64) (by omega) rfl)) (by omega) (by omega) (by omega) (by omega) (W0_mw (by omega)) (by omega) (by omega) (by omega) (show ((0 : Int32) - K) = N19 from (xge_i (by omega))) (by omega) (by omega) (by omega) (by omega) (by omega) (by omega) (by omega) (by omega) (by omega) (by omega) (by omega) (by omega) (by omega) (by omega) (by omega) (by omega) (by omega) (by omega) W0_194), ?_, xgs (xgn (by omega) (xgn (by omega) (xgn (by omega) (xgn (by decide) (xgn (by decide) (xgn (by decide) (xgn (by decide) (xgn (by decide) W0_194))))))))⟩
  refine xKp.set ?_ (fun h hh => by unfold xPC at hh; omega) (xgn (by omega) (xgn (by omega) (xgn (by omega) (xgn (by decide) (xgn (by decide) (xgn (by decide) (xgn (by decide) (xgn (by decide) W0_194)))))))) xcs_a
  refine xKp.set ?_ (fun h hh => by unfold xPC at hh; omega) (xgn (by omega) (xgn (by omega) (xgn (by omega) (xgn (by omega) (xgn (by omega) (xgn (by omega) (xgn (by omega) (W0_man (by omega))))))))) xcs_o
  refine xKp.set ?_ (fun h hh => by unfold xPC at hh; omega) (xgn (by omega) (xgn (by omega) (xgn (by omega) (xgn (by omega) (xgn (by omega) (xgn (by omega) (W0_mw (by omega)))))))) xcs_a
  refine xKp.set ?_ (fun h hh => by unfold xPC at hh; omega) (xgn (by omega) (xgn (by omega) (xgn (by omega) (xgn (by omega) (xgn (by omega) (W0_reg (by omega))))))) xcs_o
  refine xKp.set ?_ (fun h hh => by unfold xPC at hh; omega) (xgn (by decide) (xgn (by decide) (xgn (by decide) (xgs W0_16)))) xcs_o
  refine xKp.set ?_ (fun h hh => by unfold xPC at hh; omega) (xgs (xgn (by decide) (xgn (by decide) W0_17))) xcs_o
  refine xKp.set ?_ (fun h hh => by unfold xPC at hh; omega) (xgn (by decide) (xgn (by decide) W0_17)) xcs_o
  refine xKp.set ?_ (fun h hh => by unfold xPC at hh; omega) (xgn (by decide) W0_18) xcs_a
  refine xKp.set ?_ (fun h hh => by unfold xPC at hh; omega) (W0_16) xcs_o
  exact xKp.refl
theorem s_24_7 {d : Nat} {w : xW} {b0 : Int64} (hw0 : w[16]? = some (Sum.inr (4, [Value.int 0, Value.ref 17, Value.int 0, Value.int 0]))) (hw1 : w[17]? = some (Sum.inr (3, [Value.ref 18, Value.int 0]))) (hw2 : w[18]? = some (Sum.inl (0, 8, fun _ => Value.int 0))) (e3 : (xhi b0).toInt ≠ 0) : xRun (d + 2) 24 [Value.ref 16, Value.int 1, Value.long b0, Value.int (-1074)] w (.inl none) ((((w.set 16 (Sum.inr (4, [Value.int 1, Value.ref 17, Value.int 0, Value.int 0]))).set 18 (Sum.inl (0, 8, xup (xup (fun _ => Value.int 0) (0 : Int32).toInt.toNat (Value.int (xlo b0))) (1 : Int32).toInt.toNat (Value.int (xhi b0))))).set 17 (Sum.inr (3, [Value.ref 18, Value.int 2]))).set 16 (Sum.inr (4, [Value.int 1, Value.ref 17, Value.int (-1074), Value.int 0]))) := by
  refine xRun.of ?_
  refine i_24_0 (x := 16) rfl ?_
  refine i_24_1 (x := 1) rfl ?_
  refine i_24_2 (fs2 := [Value.int 1, Value.ref 17, Value.int 0, Value.int 0]) hw0 rfl (Nat.le_of_ble_eq_true rfl) rfl (by decide) ?_
  refine i_24_5 (x := 16) rfl ?_
  refine i_24_6 (v := Value.ref 17) (xgs hw0) rfl ?_
  refine i_24_9 (x := b0) rfl ?_
  refine i_24_10 (xgn (by decide) hw1) (Nat.le_of_ble_eq_true rfl) (s_25_1 (xgn (by decide) hw1) (xgn (by decide) hw2) e3) ?_
  refine i_24_13 (x := 16) rfl ?_
  refine i_24_14 (x := (-1074)) rfl ?_
  refine i_24_16 (fs2 := [Value.int 1, Value.ref 17, Value.int (-1074), Value.int 0]) (xgn (by decide) (xgn (by decide) (xgs hw0))) (Nat.le_of_ble_eq_true rfl) rfl (by decide) ?_
  refine i_24_19 (x := 16) rfl ?_
  refine i_24_20 ?_
  refine i_24_21 (fs2 := [Value.int 1, Value.ref 17, Value.int (-1074), Value.int 0]) (xgs (xgn (by decide) (xgn (by decide) (xgs hw0)))) rfl (Nat.le_of_ble_eq_true rfl) rfl (by decide) ?_
  refine xEv.world (List.set_set _) ?_
  exact i_24_24 ⟨rfl, rfl⟩
theorem s_28_9 {d : Nat} {w : xW} {g0 : Nat → Value} {a0 : Int32} {a1 : Int32} {a2 : Int32} (hw0 : w[16]? = some (Sum.inr (4, [Value.int 1, Value.ref 17, Value.int (-1074), Value.int 0]))) (hw1 : w[17]? = some (Sum.inr (3, [Value.ref 18, Value.int 2]))) (hw2 : w[18]? = some (Sum.inl (0, 8, g0))) (hg3 : g0 (1 : Int32).toInt.toNat = Value.int a0) (hg4 : ((64 : Int32) - (xnlz a0)) = a1) (hg5 : (a1 + ((-1074) : Int32)) = a2) : xRun (d + 2) 28 [Value.ref 16] w (.inl (some (Value.int a2))) w := by
  refine xRun.of ?_
  refine i_28_0 (x := 16) rfl ?_
  refine i_28_1 (v := Value.ref 17) hw0 rfl ?_
  refine i_28_4 hw1 (Nat.le_of_ble_eq_true rfl) (s_29_2 hw1 hw2 hg3 hg4) ?_
  refine i_28_7 (x := 16) rfl ?_
  refine i_28_8 (v := Value.int (-1074)) hw0 rfl ?_
  refine i_28_11 (c := a2) hg5 ?_
  exact i_28_12 ⟨rfl, rfl⟩
theorem s_32_9 {d : Nat} {w : xW} {a0 : Int32} {a1 : Int32} (hw0 : w[16]? = some (Sum.inr (4, [Value.int 1, Value.ref 17, Value.int (-1074), Value.int 0]))) (hg1 : (a0 - ((-1074) : Int32)) = a1) (hw2 : w[17]? = some (Sum.inr (3, [Value.ref 18, Value.int 2]))) (e3 : a1.toInt ≤ 0) : xRun (d + 1) 32 [Value.ref 16, Value.int a0] w (.inl (some (Value.int 1))) w := by
  refine xRun.of ?_
  refine i_32_0 (x := 16) rfl ?_
  refine i_32_1 (v := Value.int 0) hw0 rfl ?_
  refine i_32_4 (fun h => absurd h (by decide)) (fun _ => ?_)
  refine i_32_7 (x := 16) rfl ?_
  refine i_32_8 (v := Value.ref 17) hw0 rfl ?_
  refine i_32_11 (x := a0) rfl ?_
  refine i_32_12 (x := 16) rfl ?_
  refine i_32_13 (v := Value.int (-1074)) hw0 rfl ?_
  refine i_32_16 (c := a1) hg1 ?_
  refine i_32_17 hw2 (Nat.le_of_ble_eq_true rfl) (s_33_0 e3) ?_
  refine i_32_20 (fun h => absurd h (by decide)) (fun _ => ?_)
  refine i_32_23 ?_
  refine i_32_24 ?_
  exact i_32_28 rfl ⟨rfl, rfl⟩
theorem s_31_9 {d : Nat} {w : xW} {a0 : Int32} {a1 : Int32} {a2 : Int32} (hw0 : w[16]? = some (Sum.inr (4, [Value.int 1, Value.ref 17, Value.int (-1074), Value.int 0]))) (hg1 : (a0 - ((-1074) : Int32)) = a2) (hw2 : w[17]? = some (Sum.inr (3, [Value.ref 18, Value.int 2]))) (e3 : a2.toInt ≤ 0) : xRun (d + 2) 31 [Value.ref 16, Value.int a0, Value.int a1] w (.inl (some (Value.int 0))) w := by
  refine xRun.of ?_
  refine i_31_0 (x := 16) rfl ?_
  refine i_31_1 (x := a0) rfl ?_
  refine i_31_2 hw0 (Nat.le_of_ble_eq_true rfl) (s_32_9 hw0 hg1 hw2 e3) ?_
  refine i_31_5 (fun h => absurd h (by decide)) (fun _ => ?_)
  refine i_31_8 ?_
  exact i_31_9 rfl ⟨rfl, rfl⟩
theorem s_38_9 {d : Nat} {w : xW} {h0 : Nat} {a0 : Int32} {g0 : Nat → Value} {a1 : Int32} {a2 : Int32} {a3 : Int32} {h1 : Nat} {a4 : Int32} {h2 : Nat} {a5 : Int32} {a6 : Int32} (hw0 : w[16]? = some (Sum.inr (4, [Value.int 1, Value.ref 17, Value.int (-1074), Value.int 0]))) (hw1 : w[17]? = some (Sum.inr (3, [Value.ref 18, Value.int 2]))) (hw2 : w[18]? = some (Sum.inl (0, 8, g0))) (hg3 : g0 (1 : Int32).toInt.toNat = Value.int a1) (hg4 : ((64 : Int32) - (xnlz a1)) = a2) (hg5 : (a2 + ((-1074) : Int32)) = a3) (hg6 : (a3 - a0) = 64) (hw7 : w[h0]? = some (Sum.inr (2, [Value.int 64, Value.int 0, Value.int 0, Value.int 0, Value.ref h1]))) (e8 : 7 ≤ h0) (e9 : h0 ≠ 16) (e10 : h0 ≠ 17) (e11 : h0 ≠ 18) (hg12 : ((64 : Int32) - a2) = a4) (e13 : h0 ≠ h1) (hw14 : w[h1]? = some (Sum.inr (3, [Value.ref h2, Value.int 0]))) (hg15 : (a2 + a4) = 64) (e16 : h0 ≠ h2) (hw17 : w[h2]? = some (Sum.inl (0, 8, fun _ => Value.int 0))) (e18 : 0 ≤ a4.toInt) (hg19 : g0 (0 : Int32).toInt.toNat = Value.int a5) (e20 : 7 ≤ h2) (e21 : h2 ≠ h1) (hg22 : ((0 : Int32) - a4) = a6) (e23 : h2 ≠ 17) (e24 : h2 ≠ 18) (e25 : 7 ≤ h1) (e26 : h1 ≠ h0) (e27 : h2 ≠ h0) (e28 : h1 ≠ h2) (e29 : (xbf 2 a5 a1 ((32 : Int32) - a4)).toInt ≠ 0) (e30 : ((64 : Int32) - (xnlz (xbf 2 a5 a1 ((32 : Int32) - a4)))).toInt ≤ 64) : xRun (d + 3) 38 [Value.ref h0, Value.ref 16, Value.int a0, Value.int 0] w (.inl none) (((w.set h0 (Sum.inr (2, [Value.int 64, Value.int 3, Value.int 1, Value.int a3, Value.ref h1]))).set h2 (Sum.inl (0, 8, xup (xup (fun _ => Value.int 0) (1 : Int32).toInt.toNat (Value.int (xbf 2 a5 a1 ((32 : Int32) - a4)))) (0 : Int32).toInt.toNat (Value.int (xbf 2 a5 a1 a6))))).set h1 (Sum.inr (3, [Value.ref h2, Value.int 2]))) := by
  refine xRun.of ?_
  refine i_38_0 (x := 16) rfl ?_
  refine i_38_1 hw0 (Nat.le_of_ble_eq_true rfl) (s_28_9 hw0 hw1 hw2 hg3 hg4 hg5) ?_
  refine i_38_4 (lv2 := [(4, Value.int a3), (0, Value.ref h0), (1, Value.ref 16), (2, Value.int a0), (3, Value.int 0)]) rfl ?_
  refine i_38_6 (x := a3) rfl ?_
  refine i_38_8 (x := a0) rfl ?_
  refine i_38_9 (c := 64) hg6 ?_
  refine i_38_10 (lv2 := [(5, Value.int 64), (4, Value.int a3), (0, Value.ref h0), (1, Value.ref 16), (2, Value.int a0), (3, Value.int 0)]) rfl ?_
  refine i_38_12 (x := 64) rfl ?_
  refine i_38_14 (fun _ => ?_) (fun h => absurd h (by decide))
  refine i_38_31 (x := 64) rfl ?_
  refine i_38_33 (fun _ => ?_) (fun h => absurd h (by decide))
  refine i_38_48 (x := h0) rfl ?_
  refine i_38_49 ?_
  refine i_38_50 (fs2 := [Value.int 64, Value.int 3, Value.int 0, Value.int 0, Value.ref h1]) hw7 (Nat.le_of_ble_eq_true rfl) rfl e8 ?_
  refine i_38_53 (x := h0) rfl ?_
  refine i_38_54 (x := 16) rfl ?_
  refine i_38_55 (v := Value.int 1) (xgn e9 hw0) rfl ?_
  refine i_38_58 (fs2 := [Value.int 64, Value.int 3, Value.int 1, Value.int 0, Value.ref h1]) (xgs hw7) rfl (Nat.le_of_ble_eq_true rfl) rfl e8 ?_
  refine xEv.world (List.set_set _) ?_
  refine i_38_61 (x := h0) rfl ?_
  refine i_38_62 (x := a3) rfl ?_
  refine i_38_64 (fs2 := [Value.int 64, Value.int 3, Value.int 1, Value.int a3, Value.ref h1]) (xgs hw7) (Nat.le_of_ble_eq_true rfl) rfl e8 ?_
  refine xEv.world (List.set_set _) ?_
  refine i_38_67 (x := h0) rfl ?_
  refine i_38_68 (v := Value.ref h1) (xgs hw7) rfl ?_
  refine i_38_71 (x := 16) rfl ?_
  refine i_38_72 (v := Value.ref 17) (xgn e9 hw0) rfl ?_
  refine i_38_75 (x := h0) rfl ?_
  refine i_38_76 (v := Value.int 64) (xgs hw7) rfl ?_
  refine i_38_79 (x := 16) rfl ?_
  refine i_38_80 (v := Value.ref 17) (xgn e9 hw0) rfl ?_
  refine i_38_83 (xgn e10 hw1) (Nat.le_of_ble_eq_true rfl) (s_29_2 (xgn e10 hw1) (xgn e11 hw2) hg3 hg4) ?_
  refine i_38_86 (c := a4) hg12 ?_
  refine i_38_87 (xgn e13 hw14) (Nat.le_of_ble_eq_true rfl) (s_42_3 (xgn e10 hw1) (xgn e11 hw2) hg3 hg4 hg15 (xgn e13 hw14) (xgn e16 hw17) e18 hg19 e20 e21 hg22 e23 e24 e25) ?_
  refine i_38_90 (x := h0) rfl ?_
  refine i_38_91 (v := Value.ref h1) (xgn e26 (xgn e27 (xgs hw7))) rfl ?_
  refine i_38_94 (x := h0) rfl ?_
  refine i_38_95 (v := Value.int 64) (xgn e26 (xgn e27 (xgs hw7))) rfl ?_
  refine i_38_98 (x := 64) rfl ?_
  refine i_38_100 (c := 0) (by decide) ?_
  refine i_38_101 (xgs (xgn e21 (xgn e13 hw14))) (Nat.le_of_ble_eq_true rfl) (s_43_0 (xgs (xgn e21 (xgn e13 hw14))) (xgn e28 (xgs (xgn e16 hw17))) (xup_n (by decide) xup_s) e29) ?_
  refine i_38_104 (x := 0) rfl ?_
  refine i_38_105 (fun _ => ?_) (fun h => absurd h (by decide))
  refine i_38_122 (x := h0) rfl ?_
  refine i_38_123 (v := Value.ref h1) (xgn e26 (xgn e27 (xgs hw7))) rfl ?_
  refine i_38_126 (xgs (xgn e21 (xgn e13 hw14))) (Nat.le_of_ble_eq_true rfl) (s_29_1 (xgs (xgn e21 (xgn e13 hw14))) (xgn e28 (xgs (xgn e16 hw17))) (xup_n (by decide) xup_s)) ?_
  refine i_38_129 (x := h0) rfl ?_
  refine i_38_130 (v := Value.int 64) (xgn e26 (xgn e27 (xgs hw7))) rfl ?_
  refine i_38_133 (fun _ => ?_) (fun h => absurd e30 (Int.not_le.mpr h))
  exact i_38_148 ⟨rfl, rfl⟩
theorem s_27_65 {d : Nat} {w : xW} {h0 : Nat} {a0 : Int32} {g0 : Nat → Value} {a1 : Int32} {a2 : Int32} {a3 : Int32} {h1 : Nat} {a4 : Int32} {a5 : Int32} {a6 : Int32} {h2 : Nat} {a7 : Int32} (hw0 : w[16]? = some (Sum.inr (4, [Value.int 1, Value.ref 17, Value.int (-1074), Value.int 0]))) (hw1 : w[17]? = some (Sum.inr (3, [Value.ref 18, Value.int 2]))) (hw2 : w[18]? = some (Sum.inl (0, 8, g0))) (hg3 : g0 (1 : Int32).toInt.toNat = Value.int a1) (hg4 : ((64 : Int32) - (xnlz a1)) = a2) (hg5 : (a2 + ((-1074) : Int32)) = a3) (hw6 : w[h0]? = some (Sum.inr (2, [Value.int 64, Value.int 0, Value.int 0, Value.int 0, Value.ref h1]))) (hw7 : w[78]? = some (Sum.inr (1, [Value.int (-16384), Value.int 16384, Value.int 0, Value.int 0]))) (hg8 : (a3 - (64 : Int32)) = a4) (hg9 : (a4 - ((-1074) : Int32)) = a5) (e10 : a5.toInt ≤ 0) (hg11 : (a3 - a4) = 64) (e12 : 7 ≤ h0) (e13 : h0 ≠ 16) (e14 : h0 ≠ 17) (e15 : h0 ≠ 18) (hg16 : ((64 : Int32) - a2) = a6) (e17 : h0 ≠ h1) (hw18 : w[h1]? = some (Sum.inr (3, [Value.ref h2, Value.int 0]))) (hg19 : (a2 + a6) = 64) (e20 : h0 ≠ h2) (hw21 : w[h2]? = some (Sum.inl (0, 8, fun _ => Value.int 0))) (e22 : 0 ≤ a6.toInt) (hg23 : g0 (0 : Int32).toInt.toNat = Value.int a7) (e24 : 7 ≤ h2) (e25 : h2 ≠ h1) (hg26 : ((0 : Int32) - a6) = a5) (e27 : h2 ≠ 17) (e28 : h2 ≠ 18) (e29 : 7 ≤ h1) (e30 : h1 ≠ h0) (e31 : h2 ≠ h0) (e32 : h1 ≠ h2) (e33 : (xbf 2 a7 a1 ((32 : Int32) - a6)).toInt ≠ 0) (e34 : ((64 : Int32) - (xnlz (xbf 2 a7 a1 ((32 : Int32) - a6)))).toInt ≤ 64) (e35 : h1 ≠ 78) (e36 : h2 ≠ 78) (e37 : h0 ≠ 78) (e38 : a3.toInt ≤ 16384) (e39 : (-16384) ≤ a3.toInt) (e40 : h1 ≠ 16) (e41 : h2 ≠ 16) : xRun (d + 4) 27 [Value.ref 78, Value.ref h0, Value.ref 16, Value.int a0] w (.inl (some (Value.int 0))) (((w.set h0 (Sum.inr (2, [Value.int 64, Value.int 3, Value.int 1, Value.int a3, Value.ref h1]))).set h2 (Sum.inl (0, 8, xup (xup (fun _ => Value.int 0) (1 : Int32).toInt.toNat (Value.int (xbf 2 a7 a1 ((32 : Int32) - a6)))) (0 : Int32).toInt.toNat (Value.int (xbf 2 a7 a1 a5))))).set h1 (Sum.inr (3, [Value.ref h2, Value.int 2]))) := by
  refine xRun.of ?_
  refine i_27_0 (x := 16) rfl ?_
  refine i_27_1 hw0 (Nat.le_of_ble_eq_true rfl) (s_28_9 hw0 hw1 hw2 hg3 hg4 hg5) ?_
  refine i_27_4 (lv2 := [(4, Value.int a3), (0, Value.ref 78), (1, Value.ref h0), (2, Value.ref 16), (3, Value.int a0)]) rfl ?_
  refine i_27_6 (x := 78) rfl ?_
  refine i_27_7 (x := a3) rfl ?_
  refine i_27_9 (x := h0) rfl ?_
  refine i_27_10 (v := Value.int 64) hw6 rfl ?_
  refine i_27_13 hw7 (Nat.le_of_ble_eq_true rfl) (s_30_1 hw7 hg8) ?_
  refine i_27_16 (lv2 := [(5, Value.int a4), (4, Value.int a3), (0, Value.ref 78), (1, Value.ref h0), (2, Value.ref 16), (3, Value.int a0)]) rfl ?_
  refine i_27_18 (x := 16) rfl ?_
  refine i_27_19 (x := a4) rfl ?_
  refine i_27_21 (x := a0) rfl ?_
  refine i_27_22 hw0 (Nat.le_of_ble_eq_true rfl) (s_31_9 hw0 hg9 hw1 e10) ?_
  refine i_27_25 (lv2 := [(6, Value.int 0), (5, Value.int a4), (4, Value.int a3), (0, Value.ref 78), (1, Value.ref h0), (2, Value.ref 16), (3, Value.int a0)]) rfl ?_
  refine i_27_27 (x := 16) rfl ?_
  refine i_27_28 (x := a4) rfl ?_
  refine i_27_30 hw0 (Nat.le_of_ble_eq_true rfl) (s_32_9 hw0 hg9 hw1 e10) ?_
  refine i_27_33 (fun h => absurd h (by decide)) (fun _ => ?_)
  refine i_27_36 ?_
  refine i_27_37 ?_
  refine i_27_50 (lv2 := [(7, Value.int 0), (6, Value.int 0), (5, Value.int a4), (4, Value.int a3), (0, Value.ref 78), (1, Value.ref h0), (2, Value.ref 16), (3, Value.int a0)]) rfl ?_
  refine i_27_52 (x := h0) rfl ?_
  refine i_27_53 (x := 16) rfl ?_
  refine i_27_54 (x := a4) rfl ?_
  refine i_27_56 (x := 0) rfl ?_
  refine i_27_58 hw6 (Nat.le_of_ble_eq_true rfl) (s_38_9 hw0 hw1 hw2 hg3 hg4 hg5 hg11 hw6 e12 e13 e14 e15 hg16 e17 hw18 hg19 e20 hw21 e22 hg23 e24 e25 hg26 e27 e28 e29 e30 e31 e32 e33 e34) ?_
  refine i_27_61 (x := h0) rfl ?_
  refine i_27_62 (v := Value.int 3) (xgn e30 (xgn e31 (xgs hw6))) rfl ?_
  refine i_27_65 ?_
  refine i_27_66 (fun h => absurd h (by decide)) (fun _ => ?_)
  refine i_27_69 (x := h0) rfl ?_
  refine i_27_70 (v := Value.int a3) (xgn e30 (xgn e31 (xgs hw6))) rfl ?_
  refine i_27_73 (x := 78) rfl ?_
  refine i_27_74 (v := Value.int 16384) (xgn e35 (xgn e36 (xgn e37 hw7))) rfl ?_
  refine i_27_77 (fun _ => ?_) (fun h => absurd e38 (Int.not_le.mpr h))
  refine i_27_95 (x := h0) rfl ?_
  refine i_27_96 (v := Value.int 3) (xgn e30 (xgn e31 (xgs hw6))) rfl ?_
  refine i_27_99 ?_
  refine i_27_100 (fun h => absurd h (by decide)) (fun _ => ?_)
  refine i_27_103 (x := 78) rfl ?_
  refine i_27_104 (v := Value.int 0) (xgn e35 (xgn e36 (xgn e37 hw7))) rfl ?_
  refine i_27_107 (fun h => absurd h (by decide)) (fun _ => ?_)
  refine i_27_110 (x := h0) rfl ?_
  refine i_27_111 (v := Value.int a3) (xgn e30 (xgn e31 (xgs hw6))) rfl ?_
  refine i_27_114 (x := 78) rfl ?_
  refine i_27_115 (v := Value.int (-16384)) (xgn e35 (xgn e36 (xgn e37 hw7))) rfl ?_
  refine i_27_118 (fun _ => ?_) (fun h => absurd e39 (Int.not_le.mpr h))
  refine i_27_133 (x := 78) rfl ?_
  refine i_27_134 (v := Value.int 0) (xgn e35 (xgn e36 (xgn e37 hw7))) rfl ?_
  refine i_27_137 (fun _ => ?_) (fun h => absurd h (by decide))
  refine i_27_164 (x := 0) rfl ?_
  refine i_27_166 (fun _ => ?_) (fun h => absurd h (by decide))
  refine i_27_179 (x := 16) rfl ?_
  refine i_27_180 (v := Value.int 1) (xgn e40 (xgn e41 (xgn e13 hw0))) rfl ?_
  refine i_27_183 (fun h => absurd h (by decide)) (fun _ => ?_)
  refine i_27_186 (x := 0) rfl ?_
  refine i_27_188 (c := 0) (by decide) ?_
  refine i_27_189 ?_
  exact i_27_194 ⟨rfl, rfl⟩
theorem s_128_5 {d : Nat} {w : xW} {a0 : Int32} {b0 : Int64} {a1 : Int32} {g0 : Nat → Value} {h0 : Nat} {a2 : Int32} {a3 : Int32} {h1 : Nat} {a4 : Int32} {a5 : Int32} {a6 : Int32} {h2 : Nat} (e0 : 0 ≤ a0.toInt) (e1 : a0.toInt < 16) (e2 : 0 ≤ a1.toInt) (e3 : a1.toInt ≤ 4) (hw4 : w[7]? = some (Sum.inr (0, [Value.ref 8, Value.ref 78, Value.ref 9, Value.ref 10, Value.ref 13, Value.ref 16, Value.ref 19, Value.ref 93, Value.ref 108, Value.ref 113, Value.ref 29, Value.int 0]))) (hw5 : w[8]? = some (Sum.inl (4, 16, g0))) (hg6 : g0 a0.toInt.toNat = Value.ref h0) (e7 : (lg_cmp b0 (0 : Int64)).toInt < 0) (hg8 : (xfd b0) = 0) (e9 : (lg_cmp (xfr b0) (0 : Int64)).toInt ≠ 0) (hw10 : w[16]? = some (Sum.inr (4, [Value.int 0, Value.ref 17, Value.int 0, Value.int 0]))) (hw11 : w[17]? = some (Sum.inr (3, [Value.ref 18, Value.int 0]))) (hw12 : w[18]? = some (Sum.inl (0, 8, fun _ => Value.int 0))) (e13 : (xhi (xfr b0)).toInt ≠ 0) (hw14 : w[78]? = some (Sum.inr (1, [Value.int (-16384), Value.int 16384, Value.int 0, Value.int 0]))) (hg15 : ((64 : Int32) - (xnlz (xhi (xfr b0)))) = a2) (hg16 : (a2 + ((-1074) : Int32)) = a3) (e17 : 16 ≠ h0) (e18 : 17 ≠ h0) (e19 : 18 ≠ h0) (hw20 : w[h0]? = some (Sum.inr (2, [Value.int 64, Value.int 0, Value.int 0, Value.int 0, Value.ref h1]))) (hg21 : (a3 - (64 : Int32)) = a4) (hg22 : (a4 - ((-1074) : Int32)) = a5) (e23 : a5.toInt ≤ 0) (hg24 : (a3 - a4) = 64) (e25 : 7 ≤ h0) (e26 : h0 ≠ 16) (e27 : h0 ≠ 17) (e28 : h0 ≠ 18) (hg29 : ((64 : Int32) - a2) = a6) (e30 : h0 ≠ h1) (e31 : 16 ≠ h1) (e32 : 17 ≠ h1) (e33 : 18 ≠ h1) (hw34 : w[h1]? = some (Sum.inr (3, [Value.ref h2, Value.int 0]))) (hg35 : (a2 + a6) = 64) (e36 : h0 ≠ h2) (e37 : 16 ≠ h2) (e38 : 17 ≠ h2) (e39 : 18 ≠ h2) (hw40 : w[h2]? = some (Sum.inl (0, 8, fun _ => Value.int 0))) (e41 : 0 ≤ a6.toInt) (e42 : 7 ≤ h2) (e43 : h2 ≠ h1) (hg44 : ((0 : Int32) - a6) = a5) (e45 : h2 ≠ 17) (e46 : h2 ≠ 18) (e47 : 7 ≤ h1) (e48 : h1 ≠ h0) (e49 : h2 ≠ h0) (e50 : h1 ≠ h2) (e51 : (xbf 2 (xlo (xfr b0)) (xhi (xfr b0)) ((32 : Int32) - a6)).toInt ≠ 0) (e52 : ((64 : Int32) - (xnlz (xbf 2 (xlo (xfr b0)) (xhi (xfr b0)) ((32 : Int32) - a6)))).toInt ≤ 64) (e53 : h1 ≠ 78) (e54 : h2 ≠ 78) (e55 : h0 ≠ 78) (e56 : a3.toInt ≤ 16384) (e57 : (-16384) ≤ a3.toInt) (e58 : h1 ≠ 16) (e59 : h2 ≠ 16) : xRun (d + 5) 128 [Value.ref 7, Value.int a0, Value.long b0, Value.int a1] w (.inl (some (Value.int 0))) (((((((w.set 16 (Sum.inr (4, [Value.int 1, Value.ref 17, Value.int 0, Value.int 0]))).set 18 (Sum.inl (0, 8, xup (xup (fun _ => Value.int 0) (0 : Int32).toInt.toNat (Value.int (xlo (xfr b0)))) (1 : Int32).toInt.toNat (Value.int (xhi (xfr b0)))))).set 17 (Sum.inr (3, [Value.ref 18, Value.int 2]))).set 16 (Sum.inr (4, [Value.int 1, Value.ref 17, Value.int (-1074), Value.int 0]))).set h0 (Sum.inr (2, [Value.int 64, Value.int 3, Value.int 1, Value.int a3, Value.ref h1]))).set h2 (Sum.inl (0, 8, xup (xup (fun _ => Value.int 0) (1 : Int32).toInt.toNat (Value.int (xbf 2 (xlo (xfr b0)) (xhi (xfr b0)) ((32 : Int32) - a6)))) (0 : Int32).toInt.toNat (Value.int (xbf 2 (xlo (xfr b0)) (xhi (xfr b0)) a5))))).set h1 (Sum.inr (3, [Value.ref h2, Value.int 2]))) := by
  refine xRun.of ?_
  refine i_128_0 (x := a0) rfl ?_
  refine i_128_1 (Nat.le_of_ble_eq_true rfl) (s_15_0 e0 e1) ?_
  refine i_128_4 (fun h => absurd h (by decide)) (fun _ => ?_)
  refine i_128_7 (x := a1) rfl ?_
  refine i_128_9 (Nat.le_of_ble_eq_true rfl) (s_22_0 e2 e3) ?_
  refine i_128_12 (fun _ => ?_) (fun h => absurd h (by decide))
  refine i_128_23 (x := 7) rfl ?_
  refine i_128_24 (v := Value.ref 8) hw4 rfl ?_
  refine i_128_27 (x := a0) rfl ?_
  refine i_128_28 (v := Value.ref h0) hw5 e0 e1 hg6 ?_
  refine i_128_29 (lv2 := [(5, Value.ref h0), (0, Value.ref 7), (1, Value.int a0), (2, Value.long b0), (4, Value.int a1)]) rfl ?_
  refine i_128_31 (x := b0) rfl ?_
  refine i_128_32 ?_
  refine i_128_33 (c := (lg_cmp b0 (0 : Int64))) rfl ?_
  refine i_128_34 (fun h => absurd e7 (Int.not_lt.mpr h)) (fun _ => ?_)
  refine i_128_37 ?_
  refine i_128_38 ?_
  refine i_128_42 (lv2 := [(6, Value.int 1), (5, Value.ref h0), (0, Value.ref 7), (1, Value.int a0), (2, Value.long b0), (4, Value.int a1)]) rfl ?_
  refine i_128_44 (x := b0) rfl ?_
  refine i_128_45 ?_
  refine i_128_47 (c := (xsr b0 52)) rfl ?_
  refine i_128_48 (c := (xsr b0 52).toInt32) rfl ?_
  refine i_128_49 ?_
  refine i_128_52 (c := 0) hg8 ?_
  refine i_128_53 (lv2 := [(7, Value.int 0), (6, Value.int 1), (5, Value.ref h0), (0, Value.ref 7), (1, Value.int a0), (2, Value.long b0), (4, Value.int a1)]) rfl ?_
  refine i_128_55 (x := b0) rfl ?_
  refine i_128_56 ?_
  refine i_128_59 (c := (xfr b0)) rfl ?_
  refine i_128_60 (lv2 := [(8, Value.long (xfr b0)), (7, Value.int 0), (6, Value.int 1), (5, Value.ref h0), (0, Value.ref 7), (1, Value.int a0), (2, Value.long b0), (4, Value.int a1)]) rfl ?_
  refine i_128_62 (x := 0) rfl ?_
  refine i_128_64 ?_
  refine i_128_67 (fun _ => ?_) (fun h => absurd h (by decide))
  refine i_128_90 (x := 0) rfl ?_
  refine i_128_92 (fun h => absurd h (by decide)) (fun _ => ?_)
  refine i_128_95 (x := (xfr b0)) rfl ?_
  refine i_128_97 ?_
  refine i_128_98 (c := (lg_cmp (xfr b0) (0 : Int64))) rfl ?_
  refine i_128_99 (fun _ => ?_) (fun h => absurd e9 (fun g => g h))
  refine i_128_110 (x := 0) rfl ?_
  refine i_128_112 (fun h => absurd h (by decide)) (fun _ => ?_)
  refine i_128_115 (x := 7) rfl ?_
  refine i_128_116 (v := Value.ref 16) hw4 rfl ?_
  refine i_128_119 (x := 1) rfl ?_
  refine i_128_121 (x := (xfr b0)) rfl ?_
  refine i_128_123 ?_
  refine i_128_126 hw10 (Nat.le_of_ble_eq_true rfl) (s_24_7 hw10 hw11 hw12 e13) ?_
  refine i_128_129 ?_
  refine i_128_153 (x := 7) rfl ?_
  refine i_128_154 (v := Value.ref 78) (xgn (by decide) (xgn (by decide) (xgn (by decide) (xgn (by decide) hw4)))) rfl ?_
  refine i_128_157 (x := h0) rfl ?_
  refine i_128_159 (x := 7) rfl ?_
  refine i_128_160 (v := Value.ref 16) (xgn (by decide) (xgn (by decide) (xgn (by decide) (xgn (by decide) hw4)))) rfl ?_
  refine i_128_163 (x := a1) rfl ?_
  refine i_128_165 (xgn (by decide) (xgn (by decide) (xgn (by decide) (xgn (by decide) hw14)))) (Nat.le_of_ble_eq_true rfl) (s_27_65 (xgs (xgn (by decide) (xgn (by decide) (xgs hw10)))) (xgn (by decide) (xgs (xgn (by decide) (xgn (by decide) hw11)))) (xgn (by decide) (xgn (by decide) (xgs (xgn (by decide) hw12)))) xup_s hg15 hg16 (xgn e17 (xgn e18 (xgn e19 (xgn e17 hw20)))) (xgn (by decide) (xgn (by decide) (xgn (by decide) (xgn (by decide) hw14)))) hg21 hg22 e23 hg24 e25 e26 e27 e28 hg29 e30 (xgn e31 (xgn e32 (xgn e33 (xgn e31 hw34)))) hg35 e36 (xgn e37 (xgn e38 (xgn e39 (xgn e37 hw40)))) e41 (xup_n (by decide) xup_s) e42 e43 hg44 e45 e46 e47 e48 e49 e50 e51 e52 e53 e54 e55 e56 e57 e58 e59) ?_
  exact i_128_168 ⟨rfl, rfl⟩
theorem s_127_5 {d : Nat} {w : xW} {a0 : Int32} {b0 : Int64} {a1 : Int32} {g0 : Nat → Value} {h0 : Nat} {a2 : Int32} {a3 : Int32} {h1 : Nat} {a4 : Int32} {a5 : Int32} {a6 : Int32} {h2 : Nat} (hw0 : w[7]? = some (Sum.inr (0, [Value.ref 8, Value.ref 78, Value.ref 9, Value.ref 10, Value.ref 13, Value.ref 16, Value.ref 19, Value.ref 93, Value.ref 108, Value.ref 113, Value.ref 29, Value.int 0]))) (e1 : 0 ≤ a0.toInt) (e2 : a0.toInt < 16) (e3 : 0 ≤ a1.toInt) (e4 : a1.toInt ≤ 4) (hw5 : w[8]? = some (Sum.inl (4, 16, g0))) (hg6 : g0 a0.toInt.toNat = Value.ref h0) (e7 : (lg_cmp b0 (0 : Int64)).toInt < 0) (hg8 : (xfd b0) = 0) (e9 : (lg_cmp (xfr b0) (0 : Int64)).toInt ≠ 0) (hw10 : w[16]? = some (Sum.inr (4, [Value.int 0, Value.ref 17, Value.int 0, Value.int 0]))) (hw11 : w[17]? = some (Sum.inr (3, [Value.ref 18, Value.int 0]))) (hw12 : w[18]? = some (Sum.inl (0, 8, fun _ => Value.int 0))) (e13 : (xhi (xfr b0)).toInt ≠ 0) (hw14 : w[78]? = some (Sum.inr (1, [Value.int (-16384), Value.int 16384, Value.int 0, Value.int 0]))) (hg15 : ((64 : Int32) - (xnlz (xhi (xfr b0)))) = a2) (hg16 : (a2 + ((-1074) : Int32)) = a3) (e17 : 16 ≠ h0) (e18 : 17 ≠ h0) (e19 : 18 ≠ h0) (hw20 : w[h0]? = some (Sum.inr (2, [Value.int 64, Value.int 0, Value.int 0, Value.int 0, Value.ref h1]))) (hg21 : (a3 - (64 : Int32)) = a4) (hg22 : (a4 - ((-1074) : Int32)) = a5) (e23 : a5.toInt ≤ 0) (hg24 : (a3 - a4) = 64) (e25 : 7 ≤ h0) (e26 : h0 ≠ 16) (e27 : h0 ≠ 17) (e28 : h0 ≠ 18) (hg29 : ((64 : Int32) - a2) = a6) (e30 : h0 ≠ h1) (e31 : 16 ≠ h1) (e32 : 17 ≠ h1) (e33 : 18 ≠ h1) (hw34 : w[h1]? = some (Sum.inr (3, [Value.ref h2, Value.int 0]))) (hg35 : (a2 + a6) = 64) (e36 : h0 ≠ h2) (e37 : 16 ≠ h2) (e38 : 17 ≠ h2) (e39 : 18 ≠ h2) (hw40 : w[h2]? = some (Sum.inl (0, 8, fun _ => Value.int 0))) (e41 : 0 ≤ a6.toInt) (e42 : 7 ≤ h2) (e43 : h2 ≠ h1) (hg44 : ((0 : Int32) - a6) = a5) (e45 : h2 ≠ 17) (e46 : h2 ≠ 18) (e47 : 7 ≤ h1) (e48 : h1 ≠ h0) (e49 : h2 ≠ h0) (e50 : h1 ≠ h2) (e51 : (xbf 2 (xlo (xfr b0)) (xhi (xfr b0)) ((32 : Int32) - a6)).toInt ≠ 0) (e52 : ((64 : Int32) - (xnlz (xbf 2 (xlo (xfr b0)) (xhi (xfr b0)) ((32 : Int32) - a6)))).toInt ≤ 64) (e53 : h1 ≠ 78) (e54 : h2 ≠ 78) (e55 : h0 ≠ 78) (e56 : a3.toInt ≤ 16384) (e57 : (-16384) ≤ a3.toInt) (e58 : h1 ≠ 16) (e59 : h2 ≠ 16) (e60 : h1 ≠ 194) (e61 : h2 ≠ 194) (e62 : h0 ≠ 194) (hw63 : w[194]? = some (Sum.inl (3, 1, fun _ => Value.long 0))) : xRun (d + 6) 127 [Value.ref 7, Value.int a0, Value.long b0, Value.int a1, Value.ref 194] w (.inl (some (Value.int 0))) ((((((((w.set 16 (Sum.inr (4, [Value.int 1, Value.ref 17, Value.int 0, Value.int 0]))).set 18 (Sum.inl (0, 8, xup (xup (fun _ => Value.int 0) (0 : Int32).toInt.toNat (Value.int (xlo (xfr b0)))) (1 : Int32).toInt.toNat (Value.int (xhi (xfr b0)))))).set 17 (Sum.inr (3, [Value.ref 18, Value.int 2]))).set 16 (Sum.inr (4, [Value.int 1, Value.ref 17, Value.int (-1074), Value.int 0]))).set h0 (Sum.inr (2, [Value.int 64, Value.int 3, Value.int 1, Value.int a3, Value.ref h1]))).set h2 (Sum.inl (0, 8, xup (xup (fun _ => Value.int 0) (1 : Int32).toInt.toNat (Value.int (xbf 2 (xlo (xfr b0)) (xhi (xfr b0)) ((32 : Int32) - a6)))) (0 : Int32).toInt.toNat (Value.int (xbf 2 (xlo (xfr b0)) (xhi (xfr b0)) a5))))).set h1 (Sum.inr (3, [Value.ref h2, Value.int 2]))).set 194 (Sum.inl (3, 1, xup (fun _ => Value.long 0) (0 : Int32).toInt.toNat (Value.long 0)))) := by
  refine xRun.of ?_
  refine i_127_0 (x := 194) rfl ?_
  refine i_127_2 ?_
  refine i_127_3 (x := 7) rfl ?_
  refine i_127_4 (x := a0) rfl ?_
  refine i_127_5 (x := b0) rfl ?_
  refine i_127_6 (x := a1) rfl ?_
  refine i_127_8 hw0 (Nat.le_of_ble_eq_true rfl) (s_128_5 e1 e2 e3 e4 hw0 hw5 hg6 e7 hg8 e9 hw10 hw11 hw12 e13 hw14 hg15 hg16 e17 e18 e19 hw20 hg21 hg22 e23 hg24 e25 e26 e27 e28 hg29 e30 e31 e32 e33 hw34 hg35 e36 e37 e38 e39 hw40 e41 e42 e43 hg44 e45 e46 e47 e48 e49 e50 e51 e52 e53 e54 e55 e56 e57 e58 e59) ?_
  refine i_127_11 (c := 0) (by decide) ?_
  refine i_127_12 (v := Value.long 0) (xgn e60 (xgn e61 (xgn e62 (xgn (by decide) (xgn (by decide) (xgn (by decide) (xgn (by decide) hw63))))))) (by decide) (by decide) (by decide) rfl ?_
  refine i_127_13 ?_
  refine i_127_20 ?_
  exact i_127_21 ⟨rfl, rfl⟩
theorem cn16_01_1 {d : Nat} {xs : Nat → Int32} {B K N16 N17 N18 : Int32} (c0 : 0 ≤ (xs 1).toInt) (c1 : (xs 1).toInt < 16) (c2 : 0 ≤ (xs 4).toInt) (c3 : (xs 4).toInt ≤ 4) (c4 : 0 ≤ (xfd (xvv xs)).toInt) (c5 : (xfd (xvv xs)).toInt ≤ 2047) (c6 : (xfd (xvv xs)).toInt ≠ 2047) (c7 : (xfd (xvv xs)).toInt = 0) (c8 : (lg_cmp (xfr (xvv xs)) (0 : Int64)).toInt ≠ 0) (c9 : (lg_cmp (xvv xs) (0 : Int64)).toInt < 0) (c10 : K.toInt = 64 - B.toInt) (c11 : 33 ≤ B.toInt) (c12 : B.toInt ≤ 64) (c13 : (xhi (xfr (xvv xs))).toInt ≠ 0) (c14 : (xnlz (xhi (xfr (xvv xs)))).toInt = 64 - B.toInt) (c15 : (xbf 2 (xlo (xfr (xvv xs))) (xhi (xfr (xvv xs))) ((32 : Int32) - K)).toInt ≠ 0) (eN16 : (B + ((-1074) : Int32)) = N16) (nN16 : N16.toInt = B.toInt + (-1074)) (eN17 : (N16 - (64 : Int32)) = N17) (nN17 : N17.toInt = N16.toInt - 64) (eN18 : (N17 - ((-1074) : Int32)) = N18) (nN18 : N18.toInt = N17.toInt - (-1074)) : ∃ w1, xRun (d + 18) 127 [Value.ref 7, Value.int (xs 1), Value.long (xvv xs), Value.int (xs 4), Value.ref 194] (W0 6 xs) (.inl (some (Value.int 0))) w1 ∧ xKp (W0 6 xs) w1 xPC ∧ w1[194]? = some (Sum.inl (3, 1, xup (fun _ => Value.long 0) (0 : Int32).toInt.toNat (Value.long 0))) := by
  have f0 : ((64 : Int32) - (xnlz (xhi (xfr (xvv xs))))).toInt = 64 - (xnlz (xhi (xfr (xvv xs)))).toInt := xsub_g rfl rfl (by omega) (by omega)
  have f1 : (N16 - N17).toInt = N16.toInt - N17.toInt := xsub_i (by omega) (by omega)
  have f2 : ((64 : Int32) - B).toInt = 64 - B.toInt := xsub_g rfl rfl (by omega) (by omega)
  have f3 : (B + K).toInt = B.toInt + K.toInt := xadd_i (by omega) (by omega)
  have f4 : ((0 : Int32) - K).toInt = 0 - K.toInt := xsub_g rfl rfl (by omega) (by omega)
  have f5 : 0 ≤ (xnlz (xbf 2 (xlo (xfr (xvv xs))) (xhi (xfr (xvv xs))) ((32 : Int32) - K))).toInt := (xnlz_b _).1
  have f6 : (xnlz (xbf 2 (xlo (xfr (xvv xs))) (xhi (xfr (xvv xs))) ((32 : Int32) - K))).toInt ≤ 32 := (xnlz_b _).2
  have f7 : ((64 : Int32) - (xnlz (xbf 2 (xlo (xfr (xvv xs))) (xhi (xfr (xvv xs))) ((32 : Int32) - K)))).toInt = 64 - (xnlz (xbf 2 (xlo (xfr (xvv xs))) (xhi (xfr (xvv xs))) ((32 : Int32) - K))).toInt := xsub_g rfl rfl (by omega) (by omega)
  refine ⟨(((((((((W0 6 xs).set 16 (Sum.inr (4, [Value.int 1, Value.ref 17, Value.int 0, Value.int 0]))).set 18 (Sum.inl (0, 8, xup (xup (fun _ => Value.int 0) (0 : Int32).toInt.toNat (Value.int (xlo (xfr (xvv xs))))) (1 : Int32).toInt.toNat (Value.int (xhi (xfr (xvv xs))))))).set 17 (Sum.inr (3, [Value.ref 18, Value.int 2]))).set 16 (Sum.inr (4, [Value.int 1, Value.ref 17, Value.int (-1074), Value.int 0]))).set (30 + 3 * (xs 1).toInt.toNat) (Sum.inr (2, [Value.int 64, Value.int 3, Value.int 1, Value.int N16, Value.ref (31 + 3 * (xs 1).toInt.toNat)]))).set (32 + 3 * (xs 1).toInt.toNat) (Sum.inl (0, 8, xup (xup (fun _ => Value.int 0) (1 : Int32).toInt.toNat (Value.int (xbf 2 (xlo (xfr (xvv xs))) (xhi (xfr (xvv xs))) ((32 : Int32) - K)))) (0 : Int32).toInt.toNat (Value.int (xbf 2 (xlo (xfr (xvv xs))) (xhi (xfr (xvv xs))) N18))))).set (31 + 3 * (xs 1).toInt.toNat) (Sum.inr (3, [Value.ref (32 + 3 * (xs 1).toInt.toNat), Value.int 2]))).set 194 (Sum.inl (3, 1, xup (fun _ => Value.long 0) (0 : Int32).toInt.toNat (Value.long 0)))), (s_127_5 W0_7 (by omega) (by omega) (by omega) (by omega) W0_8 (greg_at (by omega)) (by omega) (show (xfd (xvv xs)) = 0 from (xge_c (n := 0) (by omega) rfl)) (by omega) W0_16 W0_17 W0_18 (by omega) W0_78 (show ((64 : Int32) - (xnlz (xhi (xfr (xvv xs))))) = B from (xge_i (by omega))) (show (B + ((-1074) : Int32)) = N16 from eN16) (by omega) (by omega) (by omega) (W0_reg (by omega)) (show (N16 - (64 : Int32)) = N17 from eN17) (show (N17 - ((-1074) : Int32)) = N18 from eN18) (by omega) (show (N16 - N17) = 64 from (xge_c (n := 64) (by omega) rfl)) (by omega) (by omega) (by omega) (by omega) (show ((64 : Int32) - B) = K from (xge_i (by omega))) (by omega) (by omega) (by omega) (by omega) (W0_man (by omega)) (show (B + K) = 64 from (xge_c (n := 64) (by omega) rfl)) (by omega) (by omega) (by omega) (by omega) (W0_mw (by omega)) (by omega) (by omega) (by omega) (show ((0 : Int32) - K) = N18 from (xge_i (by omega))) (by omega) (by omega) (by omega) (by omega) (by omega) (by omega) (by omega) (by omega) (by omega) (by omega) (by omega) (by omega) (by omega) (by omega) (by omega) (by omega) (by omega) (by omega) W0_194), ?_, xgs (xgn (by omega) (xgn (by omega) (xgn (by omega) (xgn (by decide) (xgn (by decide) (xgn (by decide) (xgn (by decide) W0_194)))))))⟩
  refine xKp.set ?_ (fun h hh => by unfold xPC at hh; omega) (xgn (by omega) (xgn (by omega) (xgn (by omega) (xgn (by decide) (xgn (by decide) (xgn (by decide) (xgn (by decide) W0_194))))))) xcs_a
  refine xKp.set ?_ (fun h hh => by unfold xPC at hh; omega) (xgn (by omega) (xgn (by omega) (xgn (by omega) (xgn (by omega) (xgn (by omega) (xgn (by omega) (W0_man (by omega)))))))) xcs_o
  refine xKp.set ?_ (fun h hh => by unfold xPC at hh; omega) (xgn (by omega) (xgn (by omega) (xgn (by omega) (xgn (by omega) (xgn (by omega) (W0_mw (by omega))))))) xcs_a
  refine xKp.set ?_ (fun h hh => by unfold xPC at hh; omega) (xgn (by omega) (xgn (by omega) (xgn (by omega) (xgn (by omega) (W0_reg (by omega)))))) xcs_o
  refine xKp.set ?_ (fun h hh => by unfold xPC at hh; omega) (xgn (by decide) (xgn (by decide) (xgs W0_16))) xcs_o
  refine xKp.set ?_ (fun h hh => by unfold xPC at hh; omega) (xgn (by decide) (xgn (by decide) W0_17)) xcs_o
  refine xKp.set ?_ (fun h hh => by unfold xPC at hh; omega) (xgn (by decide) W0_18) xcs_a
  refine xKp.set ?_ (fun h hh => by unfold xPC at hh; omega) (W0_16) xcs_o
  exact xKp.refl
theorem cls16_01 {d : Nat} {xs : Nat → Int32} (c0 : 0 ≤ (xs 1).toInt) (c1 : (xs 1).toInt < 16) (c2 : 0 ≤ (xs 4).toInt) (c3 : (xs 4).toInt ≤ 4) (c4 : 0 ≤ (xfd (xvv xs)).toInt) (c5 : (xfd (xvv xs)).toInt ≤ 2047) (c6 : (xfd (xvv xs)).toInt ≠ 2047) (c7 : (xfd (xvv xs)).toInt = 0) (c8 : (lg_cmp (xfr (xvv xs)) (0 : Int64)).toInt ≠ 0) (c9 : (lg_cmp (xvv xs) (0 : Int64)).toInt < 0) : ∃ w1, xRun (d + 18) 127 [Value.ref 7, Value.int (xs 1), Value.long (xvv xs), Value.int (xs 4), Value.ref 194] (W0 6 xs) (.inl (some (Value.int 0))) w1 ∧ xKp (W0 6 xs) w1 xPC ∧ w1[194]? = some (Sum.inl (3, 1, xup (fun _ => Value.long 0) (0 : Int32).toInt.toNat (Value.long (xres 1 (xfr (xvv xs)) ((-1074) : Int32) (xs 4)).toInt64))) := by
  obtain ⟨B, K, hB, c10, hr⟩ := xregC (m := (xfr (xvv xs))) (xnm_p c8)
  rcases hr with ⟨c11, c12, c13, c14, c15, c16⟩ | ⟨c11, c12, c13, c14, c15⟩
  · have fs : ((-1074) : Int32).toInt = -1074 := rfl
    obtain ⟨N17, eN17⟩ : ∃ N : Int32, (B + ((-1074) : Int32)) = N := ⟨_, rfl⟩
    have nN17 : N17.toInt = B.toInt + (-1074) := by rw [← eN17]; exact xadd_g rfl rfl (by omega) (by omega)
    obtain ⟨N18, eN18⟩ : ∃ N : Int32, (N17 - (64 : Int32)) = N := ⟨_, rfl⟩
    have nN18 : N18.toInt = N17.toInt - 64 := by rw [← eN18]; exact xsub_g rfl rfl (by omega) (by omega)
    obtain ⟨N19, eN19⟩ : ∃ N : Int32, (N18 - ((-1074) : Int32)) = N := ⟨_, rfl⟩
    have nN19 : N19.toInt = N18.toInt - (-1074) := by rw [← eN19]; exact xsub_g rfl rfl (by omega) (by omega)
    have e : (xres 1 (xfr (xvv xs)) ((-1074) : Int32) (xs 4)).toInt64 = 0 := by rw [show xres 1 (xfr (xvv xs)) ((-1074) : Int32) (xs 4) = 0 from (xans_in (by rw [fs, ← hB]; omega) (by rw [fs, ← hB]; omega)).trans rfl]; rfl
    rw [e]
    exact cn16_01_0 c0 c1 c2 c3 c4 c5 c6 c7 c8 c9 c10 c11 c12 c13 c14 c15 c16 eN17 nN17 eN18 nN18 eN19 nN19
  · have fs : ((-1074) : Int32).toInt = -1074 := rfl
    obtain ⟨N16, eN16⟩ : ∃ N : Int32, (B + ((-1074) : Int32)) = N := ⟨_, rfl⟩
    have nN16 : N16.toInt = B.toInt + (-1074) := by rw [← eN16]; exact xadd_g rfl rfl (by omega) (by omega)
    obtain ⟨N17, eN17⟩ : ∃ N : Int32, (N16 - (64 : Int32)) = N := ⟨_, rfl⟩
    have nN17 : N17.toInt = N16.toInt - 64 := by rw [← eN17]; exact xsub_g rfl rfl (by omega) (by omega)
    obtain ⟨N18, eN18⟩ : ∃ N : Int32, (N17 - ((-1074) : Int32)) = N := ⟨_, rfl⟩
    have nN18 : N18.toInt = N17.toInt - (-1074) := by rw [← eN18]; exact xsub_g rfl rfl (by omega) (by omega)
    have e : (xres 1 (xfr (xvv xs)) ((-1074) : Int32) (xs 4)).toInt64 = 0 := by rw [show xres 1 (xfr (xvv xs)) ((-1074) : Int32) (xs 4) = 0 from (xans_in (by rw [fs, ← hB]; omega) (by rw [fs, ← hB]; omega)).trans rfl]; rfl
    rw [e]
    exact cn16_01_1 c0 c1 c2 c3 c4 c5 c6 c7 c8 c9 c10 c11 c12 c13 c14 c15 eN16 nN16 eN17 nN17 eN18 nN18
theorem s_28_10 {d : Nat} {w : xW} {a0 : Int32} {g0 : Nat → Value} {a1 : Int32} {a2 : Int32} {a3 : Int32} (hw0 : w[16]? = some (Sum.inr (4, [Value.int 1, Value.ref 17, Value.int a0, Value.int 0]))) (hw1 : w[17]? = some (Sum.inr (3, [Value.ref 18, Value.int 1]))) (hw2 : w[18]? = some (Sum.inl (0, 8, g0))) (hg3 : g0 (0 : Int32).toInt.toNat = Value.int a1) (hg4 : ((32 : Int32) - (xnlz a1)) = a2) (hg5 : (a2 + a0) = a3) : xRun (d + 2) 28 [Value.ref 16] w (.inl (some (Value.int a3))) w := by
  refine xRun.of ?_
  refine i_28_0 (x := 16) rfl ?_
  refine i_28_1 (v := Value.ref 17) hw0 rfl ?_
  refine i_28_4 hw1 (Nat.le_of_ble_eq_true rfl) (s_29_0 hw1 hw2 hg3 hg4) ?_
  refine i_28_7 (x := 16) rfl ?_
  refine i_28_8 (v := Value.int a0) hw0 rfl ?_
  refine i_28_11 (c := a3) hg5 ?_
  exact i_28_12 ⟨rfl, rfl⟩
theorem s_32_10 {d : Nat} {w : xW} {a0 : Int32} {a1 : Int32} {a2 : Int32} (hw0 : w[16]? = some (Sum.inr (4, [Value.int 1, Value.ref 17, Value.int a1, Value.int 0]))) (hg1 : (a0 - a1) = a2) (hw2 : w[17]? = some (Sum.inr (3, [Value.ref 18, Value.int 1]))) (e3 : a2.toInt ≤ 0) : xRun (d + 1) 32 [Value.ref 16, Value.int a0] w (.inl (some (Value.int 1))) w := by
  refine xRun.of ?_
  refine i_32_0 (x := 16) rfl ?_
  refine i_32_1 (v := Value.int 0) hw0 rfl ?_
  refine i_32_4 (fun h => absurd h (by decide)) (fun _ => ?_)
  refine i_32_7 (x := 16) rfl ?_
  refine i_32_8 (v := Value.ref 17) hw0 rfl ?_
  refine i_32_11 (x := a0) rfl ?_
  refine i_32_12 (x := 16) rfl ?_
  refine i_32_13 (v := Value.int a1) hw0 rfl ?_
  refine i_32_16 (c := a2) hg1 ?_
  refine i_32_17 hw2 (Nat.le_of_ble_eq_true rfl) (s_33_0 e3) ?_
  refine i_32_20 (fun h => absurd h (by decide)) (fun _ => ?_)
  refine i_32_23 ?_
  refine i_32_24 ?_
  exact i_32_28 rfl ⟨rfl, rfl⟩
theorem s_31_10 {d : Nat} {w : xW} {a0 : Int32} {a1 : Int32} {a2 : Int32} {a3 : Int32} (hw0 : w[16]? = some (Sum.inr (4, [Value.int 1, Value.ref 17, Value.int a2, Value.int 0]))) (hg1 : (a0 - a2) = a3) (hw2 : w[17]? = some (Sum.inr (3, [Value.ref 18, Value.int 1]))) (e3 : a3.toInt ≤ 0) : xRun (d + 2) 31 [Value.ref 16, Value.int a0, Value.int a1] w (.inl (some (Value.int 0))) w := by
  refine xRun.of ?_
  refine i_31_0 (x := 16) rfl ?_
  refine i_31_1 (x := a0) rfl ?_
  refine i_31_2 hw0 (Nat.le_of_ble_eq_true rfl) (s_32_10 hw0 hg1 hw2 e3) ?_
  refine i_31_5 (fun h => absurd h (by decide)) (fun _ => ?_)
  refine i_31_8 ?_
  exact i_31_9 rfl ⟨rfl, rfl⟩
theorem s_38_10 {d : Nat} {w : xW} {h0 : Nat} {a0 : Int32} {a1 : Int32} {g0 : Nat → Value} {a2 : Int32} {a3 : Int32} {a4 : Int32} {h1 : Nat} {a5 : Int32} {h2 : Nat} {a6 : Int32} (hw0 : w[16]? = some (Sum.inr (4, [Value.int 1, Value.ref 17, Value.int a1, Value.int 0]))) (hw1 : w[17]? = some (Sum.inr (3, [Value.ref 18, Value.int 1]))) (hw2 : w[18]? = some (Sum.inl (0, 8, g0))) (hg3 : g0 (0 : Int32).toInt.toNat = Value.int a2) (hg4 : ((32 : Int32) - (xnlz a2)) = a3) (hg5 : (a3 + a1) = a4) (hg6 : (a4 - a0) = 64) (hw7 : w[h0]? = some (Sum.inr (2, [Value.int 64, Value.int 0, Value.int 0, Value.int 0, Value.ref h1]))) (e8 : 7 ≤ h0) (e9 : h0 ≠ 16) (e10 : h0 ≠ 17) (e11 : h0 ≠ 18) (hg12 : ((64 : Int32) - a3) = a5) (e13 : h0 ≠ h1) (hw14 : w[h1]? = some (Sum.inr (3, [Value.ref h2, Value.int 0]))) (hg15 : (a3 + a5) = 64) (e16 : h0 ≠ h2) (hw17 : w[h2]? = some (Sum.inl (0, 8, fun _ => Value.int 0))) (e18 : 0 ≤ a5.toInt) (hg19 : g0 (1 : Int32).toInt.toNat = Value.int 0) (e20 : 7 ≤ h2) (e21 : h2 ≠ h1) (hg22 : ((0 : Int32) - a5) = a6) (e23 : h2 ≠ 17) (e24 : h2 ≠ 18) (e25 : 7 ≤ h1) (e26 : h1 ≠ h0) (e27 : h2 ≠ h0) (e28 : h1 ≠ h2) (e29 : (xbf 1 a2 (0 : Int32) ((32 : Int32) - a5)).toInt ≠ 0) (e30 : ((64 : Int32) - (xnlz (xbf 1 a2 (0 : Int32) ((32 : Int32) - a5)))).toInt ≤ 64) : xRun (d + 3) 38 [Value.ref h0, Value.ref 16, Value.int a0, Value.int 0] w (.inl none) (((w.set h0 (Sum.inr (2, [Value.int 64, Value.int 3, Value.int 1, Value.int a4, Value.ref h1]))).set h2 (Sum.inl (0, 8, xup (xup (fun _ => Value.int 0) (1 : Int32).toInt.toNat (Value.int (xbf 1 a2 (0 : Int32) ((32 : Int32) - a5)))) (0 : Int32).toInt.toNat (Value.int (xbf 1 a2 (0 : Int32) a6))))).set h1 (Sum.inr (3, [Value.ref h2, Value.int 2]))) := by
  refine xRun.of ?_
  refine i_38_0 (x := 16) rfl ?_
  refine i_38_1 hw0 (Nat.le_of_ble_eq_true rfl) (s_28_10 hw0 hw1 hw2 hg3 hg4 hg5) ?_
  refine i_38_4 (lv2 := [(4, Value.int a4), (0, Value.ref h0), (1, Value.ref 16), (2, Value.int a0), (3, Value.int 0)]) rfl ?_
  refine i_38_6 (x := a4) rfl ?_
  refine i_38_8 (x := a0) rfl ?_
  refine i_38_9 (c := 64) hg6 ?_
  refine i_38_10 (lv2 := [(5, Value.int 64), (4, Value.int a4), (0, Value.ref h0), (1, Value.ref 16), (2, Value.int a0), (3, Value.int 0)]) rfl ?_
  refine i_38_12 (x := 64) rfl ?_
  refine i_38_14 (fun _ => ?_) (fun h => absurd h (by decide))
  refine i_38_31 (x := 64) rfl ?_
  refine i_38_33 (fun _ => ?_) (fun h => absurd h (by decide))
  refine i_38_48 (x := h0) rfl ?_
  refine i_38_49 ?_
  refine i_38_50 (fs2 := [Value.int 64, Value.int 3, Value.int 0, Value.int 0, Value.ref h1]) hw7 (Nat.le_of_ble_eq_true rfl) rfl e8 ?_
  refine i_38_53 (x := h0) rfl ?_
  refine i_38_54 (x := 16) rfl ?_
  refine i_38_55 (v := Value.int 1) (xgn e9 hw0) rfl ?_
  refine i_38_58 (fs2 := [Value.int 64, Value.int 3, Value.int 1, Value.int 0, Value.ref h1]) (xgs hw7) rfl (Nat.le_of_ble_eq_true rfl) rfl e8 ?_
  refine xEv.world (List.set_set _) ?_
  refine i_38_61 (x := h0) rfl ?_
  refine i_38_62 (x := a4) rfl ?_
  refine i_38_64 (fs2 := [Value.int 64, Value.int 3, Value.int 1, Value.int a4, Value.ref h1]) (xgs hw7) (Nat.le_of_ble_eq_true rfl) rfl e8 ?_
  refine xEv.world (List.set_set _) ?_
  refine i_38_67 (x := h0) rfl ?_
  refine i_38_68 (v := Value.ref h1) (xgs hw7) rfl ?_
  refine i_38_71 (x := 16) rfl ?_
  refine i_38_72 (v := Value.ref 17) (xgn e9 hw0) rfl ?_
  refine i_38_75 (x := h0) rfl ?_
  refine i_38_76 (v := Value.int 64) (xgs hw7) rfl ?_
  refine i_38_79 (x := 16) rfl ?_
  refine i_38_80 (v := Value.ref 17) (xgn e9 hw0) rfl ?_
  refine i_38_83 (xgn e10 hw1) (Nat.le_of_ble_eq_true rfl) (s_29_0 (xgn e10 hw1) (xgn e11 hw2) hg3 hg4) ?_
  refine i_38_86 (c := a5) hg12 ?_
  refine i_38_87 (xgn e13 hw14) (Nat.le_of_ble_eq_true rfl) (s_42_2 (xgn e10 hw1) (xgn e11 hw2) hg3 hg4 hg15 (xgn e13 hw14) (xgn e16 hw17) e18 hg19 e20 e21 hg22 e23 e24 e25) ?_
  refine i_38_90 (x := h0) rfl ?_
  refine i_38_91 (v := Value.ref h1) (xgn e26 (xgn e27 (xgs hw7))) rfl ?_
  refine i_38_94 (x := h0) rfl ?_
  refine i_38_95 (v := Value.int 64) (xgn e26 (xgn e27 (xgs hw7))) rfl ?_
  refine i_38_98 (x := 64) rfl ?_
  refine i_38_100 (c := 0) (by decide) ?_
  refine i_38_101 (xgs (xgn e21 (xgn e13 hw14))) (Nat.le_of_ble_eq_true rfl) (s_43_0 (xgs (xgn e21 (xgn e13 hw14))) (xgn e28 (xgs (xgn e16 hw17))) (xup_n (by decide) xup_s) e29) ?_
  refine i_38_104 (x := 0) rfl ?_
  refine i_38_105 (fun _ => ?_) (fun h => absurd h (by decide))
  refine i_38_122 (x := h0) rfl ?_
  refine i_38_123 (v := Value.ref h1) (xgn e26 (xgn e27 (xgs hw7))) rfl ?_
  refine i_38_126 (xgs (xgn e21 (xgn e13 hw14))) (Nat.le_of_ble_eq_true rfl) (s_29_1 (xgs (xgn e21 (xgn e13 hw14))) (xgn e28 (xgs (xgn e16 hw17))) (xup_n (by decide) xup_s)) ?_
  refine i_38_129 (x := h0) rfl ?_
  refine i_38_130 (v := Value.int 64) (xgn e26 (xgn e27 (xgs hw7))) rfl ?_
  refine i_38_133 (fun _ => ?_) (fun h => absurd e30 (Int.not_le.mpr h))
  exact i_38_148 ⟨rfl, rfl⟩
theorem s_27_66 {d : Nat} {w : xW} {h0 : Nat} {a0 : Int32} {a1 : Int32} {g0 : Nat → Value} {a2 : Int32} {a3 : Int32} {a4 : Int32} {h1 : Nat} {a5 : Int32} {a6 : Int32} {a7 : Int32} {h2 : Nat} (hw0 : w[16]? = some (Sum.inr (4, [Value.int 1, Value.ref 17, Value.int a1, Value.int 0]))) (hw1 : w[17]? = some (Sum.inr (3, [Value.ref 18, Value.int 1]))) (hw2 : w[18]? = some (Sum.inl (0, 8, g0))) (hg3 : g0 (0 : Int32).toInt.toNat = Value.int a2) (hg4 : ((32 : Int32) - (xnlz a2)) = a3) (hg5 : (a3 + a1) = a4) (hw6 : w[h0]? = some (Sum.inr (2, [Value.int 64, Value.int 0, Value.int 0, Value.int 0, Value.ref h1]))) (hw7 : w[78]? = some (Sum.inr (1, [Value.int (-16384), Value.int 16384, Value.int 0, Value.int 0]))) (hg8 : (a4 - (64 : Int32)) = a5) (hg9 : (a5 - a1) = a6) (e10 : a6.toInt ≤ 0) (hg11 : (a4 - a5) = 64) (e12 : 7 ≤ h0) (e13 : h0 ≠ 16) (e14 : h0 ≠ 17) (e15 : h0 ≠ 18) (hg16 : ((64 : Int32) - a3) = a7) (e17 : h0 ≠ h1) (hw18 : w[h1]? = some (Sum.inr (3, [Value.ref h2, Value.int 0]))) (hg19 : (a3 + a7) = 64) (e20 : h0 ≠ h2) (hw21 : w[h2]? = some (Sum.inl (0, 8, fun _ => Value.int 0))) (e22 : 0 ≤ a7.toInt) (hg23 : g0 (1 : Int32).toInt.toNat = Value.int 0) (e24 : 7 ≤ h2) (e25 : h2 ≠ h1) (hg26 : ((0 : Int32) - a7) = a6) (e27 : h2 ≠ 17) (e28 : h2 ≠ 18) (e29 : 7 ≤ h1) (e30 : h1 ≠ h0) (e31 : h2 ≠ h0) (e32 : h1 ≠ h2) (e33 : (xbf 1 a2 (0 : Int32) ((32 : Int32) - a7)).toInt ≠ 0) (e34 : ((64 : Int32) - (xnlz (xbf 1 a2 (0 : Int32) ((32 : Int32) - a7)))).toInt ≤ 64) (e35 : h1 ≠ 78) (e36 : h2 ≠ 78) (e37 : h0 ≠ 78) (e38 : a4.toInt ≤ 16384) (e39 : (-16384) ≤ a4.toInt) (e40 : h1 ≠ 16) (e41 : h2 ≠ 16) : xRun (d + 4) 27 [Value.ref 78, Value.ref h0, Value.ref 16, Value.int a0] w (.inl (some (Value.int 0))) (((w.set h0 (Sum.inr (2, [Value.int 64, Value.int 3, Value.int 1, Value.int a4, Value.ref h1]))).set h2 (Sum.inl (0, 8, xup (xup (fun _ => Value.int 0) (1 : Int32).toInt.toNat (Value.int (xbf 1 a2 (0 : Int32) ((32 : Int32) - a7)))) (0 : Int32).toInt.toNat (Value.int (xbf 1 a2 (0 : Int32) a6))))).set h1 (Sum.inr (3, [Value.ref h2, Value.int 2]))) := by
  refine xRun.of ?_
  refine i_27_0 (x := 16) rfl ?_
  refine i_27_1 hw0 (Nat.le_of_ble_eq_true rfl) (s_28_10 hw0 hw1 hw2 hg3 hg4 hg5) ?_
  refine i_27_4 (lv2 := [(4, Value.int a4), (0, Value.ref 78), (1, Value.ref h0), (2, Value.ref 16), (3, Value.int a0)]) rfl ?_
  refine i_27_6 (x := 78) rfl ?_
  refine i_27_7 (x := a4) rfl ?_
  refine i_27_9 (x := h0) rfl ?_
  refine i_27_10 (v := Value.int 64) hw6 rfl ?_
  refine i_27_13 hw7 (Nat.le_of_ble_eq_true rfl) (s_30_1 hw7 hg8) ?_
  refine i_27_16 (lv2 := [(5, Value.int a5), (4, Value.int a4), (0, Value.ref 78), (1, Value.ref h0), (2, Value.ref 16), (3, Value.int a0)]) rfl ?_
  refine i_27_18 (x := 16) rfl ?_
  refine i_27_19 (x := a5) rfl ?_
  refine i_27_21 (x := a0) rfl ?_
  refine i_27_22 hw0 (Nat.le_of_ble_eq_true rfl) (s_31_10 hw0 hg9 hw1 e10) ?_
  refine i_27_25 (lv2 := [(6, Value.int 0), (5, Value.int a5), (4, Value.int a4), (0, Value.ref 78), (1, Value.ref h0), (2, Value.ref 16), (3, Value.int a0)]) rfl ?_
  refine i_27_27 (x := 16) rfl ?_
  refine i_27_28 (x := a5) rfl ?_
  refine i_27_30 hw0 (Nat.le_of_ble_eq_true rfl) (s_32_10 hw0 hg9 hw1 e10) ?_
  refine i_27_33 (fun h => absurd h (by decide)) (fun _ => ?_)
  refine i_27_36 ?_
  refine i_27_37 ?_
  refine i_27_50 (lv2 := [(7, Value.int 0), (6, Value.int 0), (5, Value.int a5), (4, Value.int a4), (0, Value.ref 78), (1, Value.ref h0), (2, Value.ref 16), (3, Value.int a0)]) rfl ?_
  refine i_27_52 (x := h0) rfl ?_
  refine i_27_53 (x := 16) rfl ?_
  refine i_27_54 (x := a5) rfl ?_
  refine i_27_56 (x := 0) rfl ?_
  refine i_27_58 hw6 (Nat.le_of_ble_eq_true rfl) (s_38_10 hw0 hw1 hw2 hg3 hg4 hg5 hg11 hw6 e12 e13 e14 e15 hg16 e17 hw18 hg19 e20 hw21 e22 hg23 e24 e25 hg26 e27 e28 e29 e30 e31 e32 e33 e34) ?_
  refine i_27_61 (x := h0) rfl ?_
  refine i_27_62 (v := Value.int 3) (xgn e30 (xgn e31 (xgs hw6))) rfl ?_
  refine i_27_65 ?_
  refine i_27_66 (fun h => absurd h (by decide)) (fun _ => ?_)
  refine i_27_69 (x := h0) rfl ?_
  refine i_27_70 (v := Value.int a4) (xgn e30 (xgn e31 (xgs hw6))) rfl ?_
  refine i_27_73 (x := 78) rfl ?_
  refine i_27_74 (v := Value.int 16384) (xgn e35 (xgn e36 (xgn e37 hw7))) rfl ?_
  refine i_27_77 (fun _ => ?_) (fun h => absurd e38 (Int.not_le.mpr h))
  refine i_27_95 (x := h0) rfl ?_
  refine i_27_96 (v := Value.int 3) (xgn e30 (xgn e31 (xgs hw6))) rfl ?_
  refine i_27_99 ?_
  refine i_27_100 (fun h => absurd h (by decide)) (fun _ => ?_)
  refine i_27_103 (x := 78) rfl ?_
  refine i_27_104 (v := Value.int 0) (xgn e35 (xgn e36 (xgn e37 hw7))) rfl ?_
  refine i_27_107 (fun h => absurd h (by decide)) (fun _ => ?_)
  refine i_27_110 (x := h0) rfl ?_
  refine i_27_111 (v := Value.int a4) (xgn e30 (xgn e31 (xgs hw6))) rfl ?_
  refine i_27_114 (x := 78) rfl ?_
  refine i_27_115 (v := Value.int (-16384)) (xgn e35 (xgn e36 (xgn e37 hw7))) rfl ?_
  refine i_27_118 (fun _ => ?_) (fun h => absurd e39 (Int.not_le.mpr h))
  refine i_27_133 (x := 78) rfl ?_
  refine i_27_134 (v := Value.int 0) (xgn e35 (xgn e36 (xgn e37 hw7))) rfl ?_
  refine i_27_137 (fun _ => ?_) (fun h => absurd h (by decide))
  refine i_27_164 (x := 0) rfl ?_
  refine i_27_166 (fun _ => ?_) (fun h => absurd h (by decide))
  refine i_27_179 (x := 16) rfl ?_
  refine i_27_180 (v := Value.int 1) (xgn e40 (xgn e41 (xgn e13 hw0))) rfl ?_
  refine i_27_183 (fun h => absurd h (by decide)) (fun _ => ?_)
  refine i_27_186 (x := 0) rfl ?_
  refine i_27_188 (c := 0) (by decide) ?_
  refine i_27_189 ?_
  exact i_27_194 ⟨rfl, rfl⟩
theorem s_128_6 {d : Nat} {w : xW} {a0 : Int32} {b0 : Int64} {a1 : Int32} {g0 : Nat → Value} {h0 : Nat} {a2 : Int32} {a3 : Int32} {a4 : Int32} {h1 : Nat} {a5 : Int32} {a6 : Int32} {a7 : Int32} {h2 : Nat} (e0 : 0 ≤ a0.toInt) (e1 : a0.toInt < 16) (e2 : 0 ≤ a1.toInt) (e3 : a1.toInt ≤ 4) (hw4 : w[7]? = some (Sum.inr (0, [Value.ref 8, Value.ref 78, Value.ref 9, Value.ref 10, Value.ref 13, Value.ref 16, Value.ref 19, Value.ref 93, Value.ref 108, Value.ref 113, Value.ref 29, Value.int 0]))) (hw5 : w[8]? = some (Sum.inl (4, 16, g0))) (hg6 : g0 a0.toInt.toNat = Value.ref h0) (e7 : (lg_cmp b0 (0 : Int64)).toInt < 0) (e8 : (xfd b0).toInt ≠ 2047) (e9 : (xfd b0).toInt ≠ 0) (hg10 : ((xfd b0) - (1075 : Int32)) = a2) (hw11 : w[16]? = some (Sum.inr (4, [Value.int 0, Value.ref 17, Value.int 0, Value.int 0]))) (hw12 : w[17]? = some (Sum.inr (3, [Value.ref 18, Value.int 0]))) (hw13 : w[18]? = some (Sum.inl (0, 8, fun _ => Value.int 0))) (hg14 : (xhi (xfo b0)) = 0) (e15 : (xlo (xfo b0)).toInt ≠ 0) (hw16 : w[78]? = some (Sum.inr (1, [Value.int (-16384), Value.int 16384, Value.int 0, Value.int 0]))) (hg17 : ((32 : Int32) - (xnlz (xlo (xfo b0)))) = a3) (hg18 : (a3 + a2) = a4) (e19 : 16 ≠ h0) (e20 : 17 ≠ h0) (e21 : 18 ≠ h0) (hw22 : w[h0]? = some (Sum.inr (2, [Value.int 64, Value.int 0, Value.int 0, Value.int 0, Value.ref h1]))) (hg23 : (a4 - (64 : Int32)) = a5) (hg24 : (a5 - a2) = a6) (e25 : a6.toInt ≤ 0) (hg26 : (a4 - a5) = 64) (e27 : 7 ≤ h0) (e28 : h0 ≠ 16) (e29 : h0 ≠ 17) (e30 : h0 ≠ 18) (hg31 : ((64 : Int32) - a3) = a7) (e32 : h0 ≠ h1) (e33 : 16 ≠ h1) (e34 : 17 ≠ h1) (e35 : 18 ≠ h1) (hw36 : w[h1]? = some (Sum.inr (3, [Value.ref h2, Value.int 0]))) (hg37 : (a3 + a7) = 64) (e38 : h0 ≠ h2) (e39 : 16 ≠ h2) (e40 : 17 ≠ h2) (e41 : 18 ≠ h2) (hw42 : w[h2]? = some (Sum.inl (0, 8, fun _ => Value.int 0))) (e43 : 0 ≤ a7.toInt) (e44 : 7 ≤ h2) (e45 : h2 ≠ h1) (hg46 : ((0 : Int32) - a7) = a6) (e47 : h2 ≠ 17) (e48 : h2 ≠ 18) (e49 : 7 ≤ h1) (e50 : h1 ≠ h0) (e51 : h2 ≠ h0) (e52 : h1 ≠ h2) (e53 : (xbf 1 (xlo (xfo b0)) (0 : Int32) ((32 : Int32) - a7)).toInt ≠ 0) (e54 : ((64 : Int32) - (xnlz (xbf 1 (xlo (xfo b0)) (0 : Int32) ((32 : Int32) - a7)))).toInt ≤ 64) (e55 : h1 ≠ 78) (e56 : h2 ≠ 78) (e57 : h0 ≠ 78) (e58 : a4.toInt ≤ 16384) (e59 : (-16384) ≤ a4.toInt) (e60 : h1 ≠ 16) (e61 : h2 ≠ 16) : xRun (d + 5) 128 [Value.ref 7, Value.int a0, Value.long b0, Value.int a1] w (.inl (some (Value.int 0))) ((((((((w.set 16 (Sum.inr (4, [Value.int 1, Value.ref 17, Value.int 0, Value.int 0]))).set 18 (Sum.inl (0, 8, xup (xup (fun _ => Value.int 0) (0 : Int32).toInt.toNat (Value.int (xlo (xfo b0)))) (1 : Int32).toInt.toNat (Value.int 0)))).set 17 (Sum.inr (3, [Value.ref 18, Value.int 2]))).set 17 (Sum.inr (3, [Value.ref 18, Value.int 1]))).set 16 (Sum.inr (4, [Value.int 1, Value.ref 17, Value.int a2, Value.int 0]))).set h0 (Sum.inr (2, [Value.int 64, Value.int 3, Value.int 1, Value.int a4, Value.ref h1]))).set h2 (Sum.inl (0, 8, xup (xup (fun _ => Value.int 0) (1 : Int32).toInt.toNat (Value.int (xbf 1 (xlo (xfo b0)) (0 : Int32) ((32 : Int32) - a7)))) (0 : Int32).toInt.toNat (Value.int (xbf 1 (xlo (xfo b0)) (0 : Int32) a6))))).set h1 (Sum.inr (3, [Value.ref h2, Value.int 2]))) := by
  refine xRun.of ?_
  refine i_128_0 (x := a0) rfl ?_
  refine i_128_1 (Nat.le_of_ble_eq_true rfl) (s_15_0 e0 e1) ?_
  refine i_128_4 (fun h => absurd h (by decide)) (fun _ => ?_)
  refine i_128_7 (x := a1) rfl ?_
  refine i_128_9 (Nat.le_of_ble_eq_true rfl) (s_22_0 e2 e3) ?_
  refine i_128_12 (fun _ => ?_) (fun h => absurd h (by decide))
  refine i_128_23 (x := 7) rfl ?_
  refine i_128_24 (v := Value.ref 8) hw4 rfl ?_
  refine i_128_27 (x := a0) rfl ?_
  refine i_128_28 (v := Value.ref h0) hw5 e0 e1 hg6 ?_
  refine i_128_29 (lv2 := [(5, Value.ref h0), (0, Value.ref 7), (1, Value.int a0), (2, Value.long b0), (4, Value.int a1)]) rfl ?_
  refine i_128_31 (x := b0) rfl ?_
  refine i_128_32 ?_
  refine i_128_33 (c := (lg_cmp b0 (0 : Int64))) rfl ?_
  refine i_128_34 (fun h => absurd e7 (Int.not_lt.mpr h)) (fun _ => ?_)
  refine i_128_37 ?_
  refine i_128_38 ?_
  refine i_128_42 (lv2 := [(6, Value.int 1), (5, Value.ref h0), (0, Value.ref 7), (1, Value.int a0), (2, Value.long b0), (4, Value.int a1)]) rfl ?_
  refine i_128_44 (x := b0) rfl ?_
  refine i_128_45 ?_
  refine i_128_47 (c := (xsr b0 52)) rfl ?_
  refine i_128_48 (c := (xsr b0 52).toInt32) rfl ?_
  refine i_128_49 ?_
  refine i_128_52 (c := (xfd b0)) rfl ?_
  refine i_128_53 (lv2 := [(7, Value.int (xfd b0)), (6, Value.int 1), (5, Value.ref h0), (0, Value.ref 7), (1, Value.int a0), (2, Value.long b0), (4, Value.int a1)]) rfl ?_
  refine i_128_55 (x := b0) rfl ?_
  refine i_128_56 ?_
  refine i_128_59 (c := (xfr b0)) rfl ?_
  refine i_128_60 (lv2 := [(8, Value.long (xfr b0)), (7, Value.int (xfd b0)), (6, Value.int 1), (5, Value.ref h0), (0, Value.ref 7), (1, Value.int a0), (2, Value.long b0), (4, Value.int a1)]) rfl ?_
  refine i_128_62 (x := (xfd b0)) rfl ?_
  refine i_128_64 ?_
  refine i_128_67 (fun _ => ?_) (fun h => absurd e8 (fun g => g h))
  refine i_128_90 (x := (xfd b0)) rfl ?_
  refine i_128_92 (fun _ => ?_) (fun h => absurd e9 (fun g => g h))
  refine i_128_110 (x := (xfd b0)) rfl ?_
  refine i_128_112 (fun _ => ?_) (fun h => absurd e9 (fun g => g h))
  refine i_128_132 (x := 7) rfl ?_
  refine i_128_133 (v := Value.ref 16) hw4 rfl ?_
  refine i_128_136 (x := 1) rfl ?_
  refine i_128_138 (x := (xfr b0)) rfl ?_
  refine i_128_140 ?_
  refine i_128_143 (c := (xfo b0)) rfl ?_
  refine i_128_144 (x := (xfd b0)) rfl ?_
  refine i_128_146 ?_
  refine i_128_149 (c := a2) hg10 ?_
  refine i_128_150 hw11 (Nat.le_of_ble_eq_true rfl) (s_24_2 hw11 hw12 hw13 hg14 e15) ?_
  refine i_128_153 (x := 7) rfl ?_
  refine i_128_154 (v := Value.ref 78) (xgn (by decide) (xgn (by decide) (xgn (by decide) (xgn (by decide) (xgn (by decide) hw4))))) rfl ?_
  refine i_128_157 (x := h0) rfl ?_
  refine i_128_159 (x := 7) rfl ?_
  refine i_128_160 (v := Value.ref 16) (xgn (by decide) (xgn (by decide) (xgn (by decide) (xgn (by decide) (xgn (by decide) hw4))))) rfl ?_
  refine i_128_163 (x := a1) rfl ?_
  refine i_128_165 (xgn (by decide) (xgn (by decide) (xgn (by decide) (xgn (by decide) (xgn (by decide) hw16))))) (Nat.le_of_ble_eq_true rfl) (s_27_66 (xgs (xgn (by decide) (xgn (by decide) (xgn (by decide) (xgs hw11))))) (xgn (by decide) (xgs (xgs (xgn (by decide) (xgn (by decide) hw12))))) (xgn (by decide) (xgn (by decide) (xgn (by decide) (xgs (xgn (by decide) hw13))))) (xup_n (by decide) xup_s) hg17 hg18 (xgn e19 (xgn e20 (xgn e20 (xgn e21 (xgn e19 hw22))))) (xgn (by decide) (xgn (by decide) (xgn (by decide) (xgn (by decide) (xgn (by decide) hw16))))) hg23 hg24 e25 hg26 e27 e28 e29 e30 hg31 e32 (xgn e33 (xgn e34 (xgn e34 (xgn e35 (xgn e33 hw36))))) hg37 e38 (xgn e39 (xgn e40 (xgn e40 (xgn e41 (xgn e39 hw42))))) e43 xup_s e44 e45 hg46 e47 e48 e49 e50 e51 e52 e53 e54 e55 e56 e57 e58 e59 e60 e61) ?_
  exact i_128_168 ⟨rfl, rfl⟩
theorem s_127_6 {d : Nat} {w : xW} {a0 : Int32} {b0 : Int64} {a1 : Int32} {g0 : Nat → Value} {h0 : Nat} {a2 : Int32} {a3 : Int32} {a4 : Int32} {h1 : Nat} {a5 : Int32} {a6 : Int32} {a7 : Int32} {h2 : Nat} (hw0 : w[7]? = some (Sum.inr (0, [Value.ref 8, Value.ref 78, Value.ref 9, Value.ref 10, Value.ref 13, Value.ref 16, Value.ref 19, Value.ref 93, Value.ref 108, Value.ref 113, Value.ref 29, Value.int 0]))) (e1 : 0 ≤ a0.toInt) (e2 : a0.toInt < 16) (e3 : 0 ≤ a1.toInt) (e4 : a1.toInt ≤ 4) (hw5 : w[8]? = some (Sum.inl (4, 16, g0))) (hg6 : g0 a0.toInt.toNat = Value.ref h0) (e7 : (lg_cmp b0 (0 : Int64)).toInt < 0) (e8 : (xfd b0).toInt ≠ 2047) (e9 : (xfd b0).toInt ≠ 0) (hg10 : ((xfd b0) - (1075 : Int32)) = a2) (hw11 : w[16]? = some (Sum.inr (4, [Value.int 0, Value.ref 17, Value.int 0, Value.int 0]))) (hw12 : w[17]? = some (Sum.inr (3, [Value.ref 18, Value.int 0]))) (hw13 : w[18]? = some (Sum.inl (0, 8, fun _ => Value.int 0))) (hg14 : (xhi (xfo b0)) = 0) (e15 : (xlo (xfo b0)).toInt ≠ 0) (hw16 : w[78]? = some (Sum.inr (1, [Value.int (-16384), Value.int 16384, Value.int 0, Value.int 0]))) (hg17 : ((32 : Int32) - (xnlz (xlo (xfo b0)))) = a3) (hg18 : (a3 + a2) = a4) (e19 : 16 ≠ h0) (e20 : 17 ≠ h0) (e21 : 18 ≠ h0) (hw22 : w[h0]? = some (Sum.inr (2, [Value.int 64, Value.int 0, Value.int 0, Value.int 0, Value.ref h1]))) (hg23 : (a4 - (64 : Int32)) = a5) (hg24 : (a5 - a2) = a6) (e25 : a6.toInt ≤ 0) (hg26 : (a4 - a5) = 64) (e27 : 7 ≤ h0) (e28 : h0 ≠ 16) (e29 : h0 ≠ 17) (e30 : h0 ≠ 18) (hg31 : ((64 : Int32) - a3) = a7) (e32 : h0 ≠ h1) (e33 : 16 ≠ h1) (e34 : 17 ≠ h1) (e35 : 18 ≠ h1) (hw36 : w[h1]? = some (Sum.inr (3, [Value.ref h2, Value.int 0]))) (hg37 : (a3 + a7) = 64) (e38 : h0 ≠ h2) (e39 : 16 ≠ h2) (e40 : 17 ≠ h2) (e41 : 18 ≠ h2) (hw42 : w[h2]? = some (Sum.inl (0, 8, fun _ => Value.int 0))) (e43 : 0 ≤ a7.toInt) (e44 : 7 ≤ h2) (e45 : h2 ≠ h1) (hg46 : ((0 : Int32) - a7) = a6) (e47 : h2 ≠ 17) (e48 : h2 ≠ 18) (e49 : 7 ≤ h1) (e50 : h1 ≠ h0) (e51 : h2 ≠ h0) (e52 : h1 ≠ h2) (e53 : (xbf 1 (xlo (xfo b0)) (0 : Int32) ((32 : Int32) - a7)).toInt ≠ 0) (e54 : ((64 : Int32) - (xnlz (xbf 1 (xlo (xfo b0)) (0 : Int32) ((32 : Int32) - a7)))).toInt ≤ 64) (e55 : h1 ≠ 78) (e56 : h2 ≠ 78) (e57 : h0 ≠ 78) (e58 : a4.toInt ≤ 16384) (e59 : (-16384) ≤ a4.toInt) (e60 : h1 ≠ 16) (e61 : h2 ≠ 16) (e62 : h1 ≠ 194) (e63 : h2 ≠ 194) (e64 : h0 ≠ 194) (hw65 : w[194]? = some (Sum.inl (3, 1, fun _ => Value.long 0))) : xRun (d + 6) 127 [Value.ref 7, Value.int a0, Value.long b0, Value.int a1, Value.ref 194] w (.inl (some (Value.int 0))) (((((((((w.set 16 (Sum.inr (4, [Value.int 1, Value.ref 17, Value.int 0, Value.int 0]))).set 18 (Sum.inl (0, 8, xup (xup (fun _ => Value.int 0) (0 : Int32).toInt.toNat (Value.int (xlo (xfo b0)))) (1 : Int32).toInt.toNat (Value.int 0)))).set 17 (Sum.inr (3, [Value.ref 18, Value.int 2]))).set 17 (Sum.inr (3, [Value.ref 18, Value.int 1]))).set 16 (Sum.inr (4, [Value.int 1, Value.ref 17, Value.int a2, Value.int 0]))).set h0 (Sum.inr (2, [Value.int 64, Value.int 3, Value.int 1, Value.int a4, Value.ref h1]))).set h2 (Sum.inl (0, 8, xup (xup (fun _ => Value.int 0) (1 : Int32).toInt.toNat (Value.int (xbf 1 (xlo (xfo b0)) (0 : Int32) ((32 : Int32) - a7)))) (0 : Int32).toInt.toNat (Value.int (xbf 1 (xlo (xfo b0)) (0 : Int32) a6))))).set h1 (Sum.inr (3, [Value.ref h2, Value.int 2]))).set 194 (Sum.inl (3, 1, xup (fun _ => Value.long 0) (0 : Int32).toInt.toNat (Value.long 0)))) := by
  refine xRun.of ?_
  refine i_127_0 (x := 194) rfl ?_
  refine i_127_2 ?_
  refine i_127_3 (x := 7) rfl ?_
  refine i_127_4 (x := a0) rfl ?_
  refine i_127_5 (x := b0) rfl ?_
  refine i_127_6 (x := a1) rfl ?_
  refine i_127_8 hw0 (Nat.le_of_ble_eq_true rfl) (s_128_6 e1 e2 e3 e4 hw0 hw5 hg6 e7 e8 e9 hg10 hw11 hw12 hw13 hg14 e15 hw16 hg17 hg18 e19 e20 e21 hw22 hg23 hg24 e25 hg26 e27 e28 e29 e30 hg31 e32 e33 e34 e35 hw36 hg37 e38 e39 e40 e41 hw42 e43 e44 e45 hg46 e47 e48 e49 e50 e51 e52 e53 e54 e55 e56 e57 e58 e59 e60 e61) ?_
  refine i_127_11 (c := 0) (by decide) ?_
  refine i_127_12 (v := Value.long 0) (xgn e62 (xgn e63 (xgn e64 (xgn (by decide) (xgn (by decide) (xgn (by decide) (xgn (by decide) (xgn (by decide) hw65)))))))) (by decide) (by decide) (by decide) rfl ?_
  refine i_127_13 ?_
  refine i_127_20 ?_
  exact i_127_21 ⟨rfl, rfl⟩
theorem cn16_11_0 {d : Nat} {xs : Nat → Int32} {B K N9 N17 N18 N19 : Int32} (c0 : 0 ≤ (xs 1).toInt) (c1 : (xs 1).toInt < 16) (c2 : 0 ≤ (xs 4).toInt) (c3 : (xs 4).toInt ≤ 4) (c4 : 0 ≤ (xfd (xvv xs)).toInt) (c5 : (xfd (xvv xs)).toInt ≤ 2047) (c6 : (xfd (xvv xs)).toInt ≠ 2047) (c7 : (xfd (xvv xs)).toInt ≠ 0) (c8 : (lg_cmp (xvv xs) (0 : Int64)).toInt < 0) (eN9 : ((xfd (xvv xs)) - (1075 : Int32)) = N9) (nN9 : N9.toInt = (xfd (xvv xs)).toInt - 1075) (c10 : K.toInt = 64 - B.toInt) (c11 : 1 ≤ B.toInt) (c12 : B.toInt ≤ 32) (c13 : (xhi (xfo (xvv xs))).toInt = 0) (c14 : (xlo (xfo (xvv xs))).toInt ≠ 0) (c15 : (xnlz (xlo (xfo (xvv xs)))).toInt = 32 - B.toInt) (c16 : (xbf 1 (xlo (xfo (xvv xs))) (0 : Int32) ((32 : Int32) - K)).toInt ≠ 0) (eN17 : (B + N9) = N17) (nN17 : N17.toInt = B.toInt + N9.toInt) (eN18 : (N17 - (64 : Int32)) = N18) (nN18 : N18.toInt = N17.toInt - 64) (eN19 : (N18 - N9) = N19) (nN19 : N19.toInt = N18.toInt - N9.toInt) : ∃ w1, xRun (d + 18) 127 [Value.ref 7, Value.int (xs 1), Value.long (xvv xs), Value.int (xs 4), Value.ref 194] (W0 6 xs) (.inl (some (Value.int 0))) w1 ∧ xKp (W0 6 xs) w1 xPC ∧ w1[194]? = some (Sum.inl (3, 1, xup (fun _ => Value.long 0) (0 : Int32).toInt.toNat (Value.long 0))) := by
  have f0 : ((32 : Int32) - (xnlz (xlo (xfo (xvv xs))))).toInt = 32 - (xnlz (xlo (xfo (xvv xs)))).toInt := xsub_g rfl rfl (by omega) (by omega)
  have f1 : (N17 - N18).toInt = N17.toInt - N18.toInt := xsub_i (by omega) (by omega)
  have f2 : ((64 : Int32) - B).toInt = 64 - B.toInt := xsub_g rfl rfl (by omega) (by omega)
  have f3 : (B + K).toInt = B.toInt + K.toInt := xadd_i (by omega) (by omega)
  have f4 : ((0 : Int32) - K).toInt = 0 - K.toInt := xsub_g rfl rfl (by omega) (by omega)
  have f5 : 0 ≤ (xnlz (xbf 1 (xlo (xfo (xvv xs))) (0 : Int32) ((32 : Int32) - K))).toInt := (xnlz_b _).1
  have f6 : (xnlz (xbf 1 (xlo (xfo (xvv xs))) (0 : Int32) ((32 : Int32) - K))).toInt ≤ 32 := (xnlz_b _).2
  have f7 : ((64 : Int32) - (xnlz (xbf 1 (xlo (xfo (xvv xs))) (0 : Int32) ((32 : Int32) - K)))).toInt = 64 - (xnlz (xbf 1 (xlo (xfo (xvv xs))) (0 : Int32) ((32 : Int32) - K))).toInt := xsub_g rfl rfl (by omega) (by omega)
  refine ⟨((((((((((W0 6 xs).set 16 (Sum.inr (4, [Value.int 1, Value.ref 17, Value.int 0, Value.int 0]))).set 18 (Sum.inl (0, 8, xup (xup (fun _ => Value.int 0) (0 : Int32).toInt.toNat (Value.int (xlo (xfo (xvv xs))))) (1 : Int32).toInt.toNat (Value.int 0)))).set 17 (Sum.inr (3, [Value.ref 18, Value.int 2]))).set 17 (Sum.inr (3, [Value.ref 18, Value.int 1]))).set 16 (Sum.inr (4, [Value.int 1, Value.ref 17, Value.int N9, Value.int 0]))).set (30 + 3 * (xs 1).toInt.toNat) (Sum.inr (2, [Value.int 64, Value.int 3, Value.int 1, Value.int N17, Value.ref (31 + 3 * (xs 1).toInt.toNat)]))).set (32 + 3 * (xs 1).toInt.toNat) (Sum.inl (0, 8, xup (xup (fun _ => Value.int 0) (1 : Int32).toInt.toNat (Value.int (xbf 1 (xlo (xfo (xvv xs))) (0 : Int32) ((32 : Int32) - K)))) (0 : Int32).toInt.toNat (Value.int (xbf 1 (xlo (xfo (xvv xs))) (0 : Int32) N19))))).set (31 + 3 * (xs 1).toInt.toNat) (Sum.inr (3, [Value.ref (32 + 3 * (xs 1).toInt.toNat), Value.int 2]))).set 194 (Sum.inl (3, 1, xup (fun _ => Value.long 0) (0 : Int32).toInt.toNat (Value.long 0)))), (s_127_6 W0_7 (by omega) (by omega) (by omega) (by omega) W0_8 (greg_at (by omega)) (by omega) (by omega) (by omega) (show ((xfd (xvv xs)) - (1075 : Int32)) = N9 from eN9) W0_16 W0_17 W0_18 (show (xhi (xfo (xvv xs))) = 0 from (xge_c (n := 0) (by omega) rfl)) (by omega) W0_78 (show ((32 : Int32) - (xnlz (xlo (xfo (xvv xs))))) = B from (xge_i (by omega))) (show (B + N9) = N17 from eN17) (by omega) (by omega) (by omega) (W0_reg (by omega)) (show (N17 - (64 : Int32)) = N18 from eN18) (show (N18 - N9) = N19 from eN19) (by omega) (show (N17 - N18) = 64 from (xge_c (n := 64) (by omega) rfl)) (by omega) (by omega) (by omega) (by omega) (show ((64 : Int32) - B) = K from (xge_i (by omega))) (by omega) (by omega) (by omega) (by omega) (W0_man (by omega)) (show (B + K) = 64 from (xge_c (n := 64) (by omega) rfl)) (by omega) (by omega) (by omega) (by omega) (W0_mw (by omega)) (by omega) (by omega) (by omega) (show ((0 : Int32) - K) = N19 from (xge_i (by omega))) (by omega) (by omega) (by omega) (by omega) (by omega) (by omega) (by omega) (by omega) (by omega) (by omega) (by omega) (by omega) (by omega) (by omega) (by omega) (by omega) (by omega) (by omega) W0_194), ?_, xgs (xgn (by omega) (xgn (by omega) (xgn (by omega) (xgn (by decide) (xgn (by decide) (xgn (by decide) (xgn (by decide) (xgn (by decide) W0_194))))))))⟩
  refine xKp.set ?_ (fun h hh => by unfold xPC at hh; omega) (xgn (by omega) (xgn (by omega) (xgn (by omega) (xgn (by decide) (xgn (by decide) (xgn (by decide) (xgn (by decide) (xgn (by decide) W0_194)))))))) xcs_a
  refine xKp.set ?_ (fun h hh => by unfold xPC at hh; omega) (xgn (by omega) (xgn (by omega) (xgn (by omega) (xgn (by omega) (xgn (by omega) (xgn (by omega) (xgn (by omega) (W0_man (by omega))))))))) xcs_o
  refine xKp.set ?_ (fun h hh => by unfold xPC at hh; omega) (xgn (by omega) (xgn (by omega) (xgn (by omega) (xgn (by omega) (xgn (by omega) (xgn (by omega) (W0_mw (by omega)))))))) xcs_a
  refine xKp.set ?_ (fun h hh => by unfold xPC at hh; omega) (xgn (by omega) (xgn (by omega) (xgn (by omega) (xgn (by omega) (xgn (by omega) (W0_reg (by omega))))))) xcs_o
  refine xKp.set ?_ (fun h hh => by unfold xPC at hh; omega) (xgn (by decide) (xgn (by decide) (xgn (by decide) (xgs W0_16)))) xcs_o
  refine xKp.set ?_ (fun h hh => by unfold xPC at hh; omega) (xgs (xgn (by decide) (xgn (by decide) W0_17))) xcs_o
  refine xKp.set ?_ (fun h hh => by unfold xPC at hh; omega) (xgn (by decide) (xgn (by decide) W0_17)) xcs_o
  refine xKp.set ?_ (fun h hh => by unfold xPC at hh; omega) (xgn (by decide) W0_18) xcs_a
  refine xKp.set ?_ (fun h hh => by unfold xPC at hh; omega) (W0_16) xcs_o
  exact xKp.refl
theorem s_28_11 {d : Nat} {w : xW} {a0 : Int32} {g0 : Nat → Value} {a1 : Int32} {a2 : Int32} {a3 : Int32} (hw0 : w[16]? = some (Sum.inr (4, [Value.int 1, Value.ref 17, Value.int a0, Value.int 0]))) (hw1 : w[17]? = some (Sum.inr (3, [Value.ref 18, Value.int 2]))) (hw2 : w[18]? = some (Sum.inl (0, 8, g0))) (hg3 : g0 (1 : Int32).toInt.toNat = Value.int a1) (hg4 : ((64 : Int32) - (xnlz a1)) = a2) (hg5 : (a2 + a0) = a3) : xRun (d + 2) 28 [Value.ref 16] w (.inl (some (Value.int a3))) w := by
  refine xRun.of ?_
  refine i_28_0 (x := 16) rfl ?_
  refine i_28_1 (v := Value.ref 17) hw0 rfl ?_
  refine i_28_4 hw1 (Nat.le_of_ble_eq_true rfl) (s_29_2 hw1 hw2 hg3 hg4) ?_
  refine i_28_7 (x := 16) rfl ?_
  refine i_28_8 (v := Value.int a0) hw0 rfl ?_
  refine i_28_11 (c := a3) hg5 ?_
  exact i_28_12 ⟨rfl, rfl⟩
theorem s_32_11 {d : Nat} {w : xW} {a0 : Int32} {a1 : Int32} {a2 : Int32} (hw0 : w[16]? = some (Sum.inr (4, [Value.int 1, Value.ref 17, Value.int a1, Value.int 0]))) (hg1 : (a0 - a1) = a2) (hw2 : w[17]? = some (Sum.inr (3, [Value.ref 18, Value.int 2]))) (e3 : a2.toInt ≤ 0) : xRun (d + 1) 32 [Value.ref 16, Value.int a0] w (.inl (some (Value.int 1))) w := by
  refine xRun.of ?_
  refine i_32_0 (x := 16) rfl ?_
  refine i_32_1 (v := Value.int 0) hw0 rfl ?_
  refine i_32_4 (fun h => absurd h (by decide)) (fun _ => ?_)
  refine i_32_7 (x := 16) rfl ?_
  refine i_32_8 (v := Value.ref 17) hw0 rfl ?_
  refine i_32_11 (x := a0) rfl ?_
  refine i_32_12 (x := 16) rfl ?_
  refine i_32_13 (v := Value.int a1) hw0 rfl ?_
  refine i_32_16 (c := a2) hg1 ?_
  refine i_32_17 hw2 (Nat.le_of_ble_eq_true rfl) (s_33_0 e3) ?_
  refine i_32_20 (fun h => absurd h (by decide)) (fun _ => ?_)
  refine i_32_23 ?_
  refine i_32_24 ?_
  exact i_32_28 rfl ⟨rfl, rfl⟩
theorem s_31_11 {d : Nat} {w : xW} {a0 : Int32} {a1 : Int32} {a2 : Int32} {a3 : Int32} (hw0 : w[16]? = some (Sum.inr (4, [Value.int 1, Value.ref 17, Value.int a2, Value.int 0]))) (hg1 : (a0 - a2) = a3) (hw2 : w[17]? = some (Sum.inr (3, [Value.ref 18, Value.int 2]))) (e3 : a3.toInt ≤ 0) : xRun (d + 2) 31 [Value.ref 16, Value.int a0, Value.int a1] w (.inl (some (Value.int 0))) w := by
  refine xRun.of ?_
  refine i_31_0 (x := 16) rfl ?_
  refine i_31_1 (x := a0) rfl ?_
  refine i_31_2 hw0 (Nat.le_of_ble_eq_true rfl) (s_32_11 hw0 hg1 hw2 e3) ?_
  refine i_31_5 (fun h => absurd h (by decide)) (fun _ => ?_)
  refine i_31_8 ?_
  exact i_31_9 rfl ⟨rfl, rfl⟩
theorem s_38_11 {d : Nat} {w : xW} {h0 : Nat} {a0 : Int32} {a1 : Int32} {g0 : Nat → Value} {a2 : Int32} {a3 : Int32} {a4 : Int32} {h1 : Nat} {a5 : Int32} {h2 : Nat} {a6 : Int32} {a7 : Int32} (hw0 : w[16]? = some (Sum.inr (4, [Value.int 1, Value.ref 17, Value.int a1, Value.int 0]))) (hw1 : w[17]? = some (Sum.inr (3, [Value.ref 18, Value.int 2]))) (hw2 : w[18]? = some (Sum.inl (0, 8, g0))) (hg3 : g0 (1 : Int32).toInt.toNat = Value.int a2) (hg4 : ((64 : Int32) - (xnlz a2)) = a3) (hg5 : (a3 + a1) = a4) (hg6 : (a4 - a0) = 64) (hw7 : w[h0]? = some (Sum.inr (2, [Value.int 64, Value.int 0, Value.int 0, Value.int 0, Value.ref h1]))) (e8 : 7 ≤ h0) (e9 : h0 ≠ 16) (e10 : h0 ≠ 17) (e11 : h0 ≠ 18) (hg12 : ((64 : Int32) - a3) = a5) (e13 : h0 ≠ h1) (hw14 : w[h1]? = some (Sum.inr (3, [Value.ref h2, Value.int 0]))) (hg15 : (a3 + a5) = 64) (e16 : h0 ≠ h2) (hw17 : w[h2]? = some (Sum.inl (0, 8, fun _ => Value.int 0))) (e18 : 0 ≤ a5.toInt) (hg19 : g0 (0 : Int32).toInt.toNat = Value.int a6) (e20 : 7 ≤ h2) (e21 : h2 ≠ h1) (hg22 : ((0 : Int32) - a5) = a7) (e23 : h2 ≠ 17) (e24 : h2 ≠ 18) (e25 : 7 ≤ h1) (e26 : h1 ≠ h0) (e27 : h2 ≠ h0) (e28 : h1 ≠ h2) (e29 : (xbf 2 a6 a2 ((32 : Int32) - a5)).toInt ≠ 0) (e30 : ((64 : Int32) - (xnlz (xbf 2 a6 a2 ((32 : Int32) - a5)))).toInt ≤ 64) : xRun (d + 3) 38 [Value.ref h0, Value.ref 16, Value.int a0, Value.int 0] w (.inl none) (((w.set h0 (Sum.inr (2, [Value.int 64, Value.int 3, Value.int 1, Value.int a4, Value.ref h1]))).set h2 (Sum.inl (0, 8, xup (xup (fun _ => Value.int 0) (1 : Int32).toInt.toNat (Value.int (xbf 2 a6 a2 ((32 : Int32) - a5)))) (0 : Int32).toInt.toNat (Value.int (xbf 2 a6 a2 a7))))).set h1 (Sum.inr (3, [Value.ref h2, Value.int 2]))) := by
  refine xRun.of ?_
  refine i_38_0 (x := 16) rfl ?_
  refine i_38_1 hw0 (Nat.le_of_ble_eq_true rfl) (s_28_11 hw0 hw1 hw2 hg3 hg4 hg5) ?_
  refine i_38_4 (lv2 := [(4, Value.int a4), (0, Value.ref h0), (1, Value.ref 16), (2, Value.int a0), (3, Value.int 0)]) rfl ?_
  refine i_38_6 (x := a4) rfl ?_
  refine i_38_8 (x := a0) rfl ?_
  refine i_38_9 (c := 64) hg6 ?_
  refine i_38_10 (lv2 := [(5, Value.int 64), (4, Value.int a4), (0, Value.ref h0), (1, Value.ref 16), (2, Value.int a0), (3, Value.int 0)]) rfl ?_
  refine i_38_12 (x := 64) rfl ?_
  refine i_38_14 (fun _ => ?_) (fun h => absurd h (by decide))
  refine i_38_31 (x := 64) rfl ?_
  refine i_38_33 (fun _ => ?_) (fun h => absurd h (by decide))
  refine i_38_48 (x := h0) rfl ?_
  refine i_38_49 ?_
  refine i_38_50 (fs2 := [Value.int 64, Value.int 3, Value.int 0, Value.int 0, Value.ref h1]) hw7 (Nat.le_of_ble_eq_true rfl) rfl e8 ?_
  refine i_38_53 (x := h0) rfl ?_
  refine i_38_54 (x := 16) rfl ?_
  refine i_38_55 (v := Value.int 1) (xgn e9 hw0) rfl ?_
  refine i_38_58 (fs2 := [Value.int 64, Value.int 3, Value.int 1, Value.int 0, Value.ref h1]) (xgs hw7) rfl (Nat.le_of_ble_eq_true rfl) rfl e8 ?_
  refine xEv.world (List.set_set _) ?_
  refine i_38_61 (x := h0) rfl ?_
  refine i_38_62 (x := a4) rfl ?_
  refine i_38_64 (fs2 := [Value.int 64, Value.int 3, Value.int 1, Value.int a4, Value.ref h1]) (xgs hw7) (Nat.le_of_ble_eq_true rfl) rfl e8 ?_
  refine xEv.world (List.set_set _) ?_
  refine i_38_67 (x := h0) rfl ?_
  refine i_38_68 (v := Value.ref h1) (xgs hw7) rfl ?_
  refine i_38_71 (x := 16) rfl ?_
  refine i_38_72 (v := Value.ref 17) (xgn e9 hw0) rfl ?_
  refine i_38_75 (x := h0) rfl ?_
  refine i_38_76 (v := Value.int 64) (xgs hw7) rfl ?_
  refine i_38_79 (x := 16) rfl ?_
  refine i_38_80 (v := Value.ref 17) (xgn e9 hw0) rfl ?_
  refine i_38_83 (xgn e10 hw1) (Nat.le_of_ble_eq_true rfl) (s_29_2 (xgn e10 hw1) (xgn e11 hw2) hg3 hg4) ?_
  refine i_38_86 (c := a5) hg12 ?_
  refine i_38_87 (xgn e13 hw14) (Nat.le_of_ble_eq_true rfl) (s_42_3 (xgn e10 hw1) (xgn e11 hw2) hg3 hg4 hg15 (xgn e13 hw14) (xgn e16 hw17) e18 hg19 e20 e21 hg22 e23 e24 e25) ?_
  refine i_38_90 (x := h0) rfl ?_
  refine i_38_91 (v := Value.ref h1) (xgn e26 (xgn e27 (xgs hw7))) rfl ?_
  refine i_38_94 (x := h0) rfl ?_
  refine i_38_95 (v := Value.int 64) (xgn e26 (xgn e27 (xgs hw7))) rfl ?_
  refine i_38_98 (x := 64) rfl ?_
  refine i_38_100 (c := 0) (by decide) ?_
  refine i_38_101 (xgs (xgn e21 (xgn e13 hw14))) (Nat.le_of_ble_eq_true rfl) (s_43_0 (xgs (xgn e21 (xgn e13 hw14))) (xgn e28 (xgs (xgn e16 hw17))) (xup_n (by decide) xup_s) e29) ?_
  refine i_38_104 (x := 0) rfl ?_
  refine i_38_105 (fun _ => ?_) (fun h => absurd h (by decide))
  refine i_38_122 (x := h0) rfl ?_
  refine i_38_123 (v := Value.ref h1) (xgn e26 (xgn e27 (xgs hw7))) rfl ?_
  refine i_38_126 (xgs (xgn e21 (xgn e13 hw14))) (Nat.le_of_ble_eq_true rfl) (s_29_1 (xgs (xgn e21 (xgn e13 hw14))) (xgn e28 (xgs (xgn e16 hw17))) (xup_n (by decide) xup_s)) ?_
  refine i_38_129 (x := h0) rfl ?_
  refine i_38_130 (v := Value.int 64) (xgn e26 (xgn e27 (xgs hw7))) rfl ?_
  refine i_38_133 (fun _ => ?_) (fun h => absurd e30 (Int.not_le.mpr h))
  exact i_38_148 ⟨rfl, rfl⟩
theorem s_27_67 {d : Nat} {w : xW} {h0 : Nat} {a0 : Int32} {a1 : Int32} {g0 : Nat → Value} {a2 : Int32} {a3 : Int32} {a4 : Int32} {h1 : Nat} {a5 : Int32} {a6 : Int32} {a7 : Int32} {h2 : Nat} {a8 : Int32} (hw0 : w[16]? = some (Sum.inr (4, [Value.int 1, Value.ref 17, Value.int a1, Value.int 0]))) (hw1 : w[17]? = some (Sum.inr (3, [Value.ref 18, Value.int 2]))) (hw2 : w[18]? = some (Sum.inl (0, 8, g0))) (hg3 : g0 (1 : Int32).toInt.toNat = Value.int a2) (hg4 : ((64 : Int32) - (xnlz a2)) = a3) (hg5 : (a3 + a1) = a4) (hw6 : w[h0]? = some (Sum.inr (2, [Value.int 64, Value.int 0, Value.int 0, Value.int 0, Value.ref h1]))) (hw7 : w[78]? = some (Sum.inr (1, [Value.int (-16384), Value.int 16384, Value.int 0, Value.int 0]))) (hg8 : (a4 - (64 : Int32)) = a5) (hg9 : (a5 - a1) = a6) (e10 : a6.toInt ≤ 0) (hg11 : (a4 - a5) = 64) (e12 : 7 ≤ h0) (e13 : h0 ≠ 16) (e14 : h0 ≠ 17) (e15 : h0 ≠ 18) (hg16 : ((64 : Int32) - a3) = a7) (e17 : h0 ≠ h1) (hw18 : w[h1]? = some (Sum.inr (3, [Value.ref h2, Value.int 0]))) (hg19 : (a3 + a7) = 64) (e20 : h0 ≠ h2) (hw21 : w[h2]? = some (Sum.inl (0, 8, fun _ => Value.int 0))) (e22 : 0 ≤ a7.toInt) (hg23 : g0 (0 : Int32).toInt.toNat = Value.int a8) (e24 : 7 ≤ h2) (e25 : h2 ≠ h1) (hg26 : ((0 : Int32) - a7) = a6) (e27 : h2 ≠ 17) (e28 : h2 ≠ 18) (e29 : 7 ≤ h1) (e30 : h1 ≠ h0) (e31 : h2 ≠ h0) (e32 : h1 ≠ h2) (e33 : (xbf 2 a8 a2 ((32 : Int32) - a7)).toInt ≠ 0) (e34 : ((64 : Int32) - (xnlz (xbf 2 a8 a2 ((32 : Int32) - a7)))).toInt ≤ 64) (e35 : h1 ≠ 78) (e36 : h2 ≠ 78) (e37 : h0 ≠ 78) (e38 : a4.toInt ≤ 16384) (e39 : (-16384) ≤ a4.toInt) (e40 : h1 ≠ 16) (e41 : h2 ≠ 16) : xRun (d + 4) 27 [Value.ref 78, Value.ref h0, Value.ref 16, Value.int a0] w (.inl (some (Value.int 0))) (((w.set h0 (Sum.inr (2, [Value.int 64, Value.int 3, Value.int 1, Value.int a4, Value.ref h1]))).set h2 (Sum.inl (0, 8, xup (xup (fun _ => Value.int 0) (1 : Int32).toInt.toNat (Value.int (xbf 2 a8 a2 ((32 : Int32) - a7)))) (0 : Int32).toInt.toNat (Value.int (xbf 2 a8 a2 a6))))).set h1 (Sum.inr (3, [Value.ref h2, Value.int 2]))) := by
  refine xRun.of ?_
  refine i_27_0 (x := 16) rfl ?_
  refine i_27_1 hw0 (Nat.le_of_ble_eq_true rfl) (s_28_11 hw0 hw1 hw2 hg3 hg4 hg5) ?_
  refine i_27_4 (lv2 := [(4, Value.int a4), (0, Value.ref 78), (1, Value.ref h0), (2, Value.ref 16), (3, Value.int a0)]) rfl ?_
  refine i_27_6 (x := 78) rfl ?_
  refine i_27_7 (x := a4) rfl ?_
  refine i_27_9 (x := h0) rfl ?_
  refine i_27_10 (v := Value.int 64) hw6 rfl ?_
  refine i_27_13 hw7 (Nat.le_of_ble_eq_true rfl) (s_30_1 hw7 hg8) ?_
  refine i_27_16 (lv2 := [(5, Value.int a5), (4, Value.int a4), (0, Value.ref 78), (1, Value.ref h0), (2, Value.ref 16), (3, Value.int a0)]) rfl ?_
  refine i_27_18 (x := 16) rfl ?_
  refine i_27_19 (x := a5) rfl ?_
  refine i_27_21 (x := a0) rfl ?_
  refine i_27_22 hw0 (Nat.le_of_ble_eq_true rfl) (s_31_11 hw0 hg9 hw1 e10) ?_
  refine i_27_25 (lv2 := [(6, Value.int 0), (5, Value.int a5), (4, Value.int a4), (0, Value.ref 78), (1, Value.ref h0), (2, Value.ref 16), (3, Value.int a0)]) rfl ?_
  refine i_27_27 (x := 16) rfl ?_
  refine i_27_28 (x := a5) rfl ?_
  refine i_27_30 hw0 (Nat.le_of_ble_eq_true rfl) (s_32_11 hw0 hg9 hw1 e10) ?_
  refine i_27_33 (fun h => absurd h (by decide)) (fun _ => ?_)
  refine i_27_36 ?_
  refine i_27_37 ?_
  refine i_27_50 (lv2 := [(7, Value.int 0), (6, Value.int 0), (5, Value.int a5), (4, Value.int a4), (0, Value.ref 78), (1, Value.ref h0), (2, Value.ref 16), (3, Value.int a0)]) rfl ?_
  refine i_27_52 (x := h0) rfl ?_
  refine i_27_53 (x := 16) rfl ?_
  refine i_27_54 (x := a5) rfl ?_
  refine i_27_56 (x := 0) rfl ?_
  refine i_27_58 hw6 (Nat.le_of_ble_eq_true rfl) (s_38_11 hw0 hw1 hw2 hg3 hg4 hg5 hg11 hw6 e12 e13 e14 e15 hg16 e17 hw18 hg19 e20 hw21 e22 hg23 e24 e25 hg26 e27 e28 e29 e30 e31 e32 e33 e34) ?_
  refine i_27_61 (x := h0) rfl ?_
  refine i_27_62 (v := Value.int 3) (xgn e30 (xgn e31 (xgs hw6))) rfl ?_
  refine i_27_65 ?_
  refine i_27_66 (fun h => absurd h (by decide)) (fun _ => ?_)
  refine i_27_69 (x := h0) rfl ?_
  refine i_27_70 (v := Value.int a4) (xgn e30 (xgn e31 (xgs hw6))) rfl ?_
  refine i_27_73 (x := 78) rfl ?_
  refine i_27_74 (v := Value.int 16384) (xgn e35 (xgn e36 (xgn e37 hw7))) rfl ?_
  refine i_27_77 (fun _ => ?_) (fun h => absurd e38 (Int.not_le.mpr h))
  refine i_27_95 (x := h0) rfl ?_
  refine i_27_96 (v := Value.int 3) (xgn e30 (xgn e31 (xgs hw6))) rfl ?_
  refine i_27_99 ?_
  refine i_27_100 (fun h => absurd h (by decide)) (fun _ => ?_)
  refine i_27_103 (x := 78) rfl ?_
  refine i_27_104 (v := Value.int 0) (xgn e35 (xgn e36 (xgn e37 hw7))) rfl ?_
  refine i_27_107 (fun h => absurd h (by decide)) (fun _ => ?_)
  refine i_27_110 (x := h0) rfl ?_
  refine i_27_111 (v := Value.int a4) (xgn e30 (xgn e31 (xgs hw6))) rfl ?_
  refine i_27_114 (x := 78) rfl ?_
  refine i_27_115 (v := Value.int (-16384)) (xgn e35 (xgn e36 (xgn e37 hw7))) rfl ?_
  refine i_27_118 (fun _ => ?_) (fun h => absurd e39 (Int.not_le.mpr h))
  refine i_27_133 (x := 78) rfl ?_
  refine i_27_134 (v := Value.int 0) (xgn e35 (xgn e36 (xgn e37 hw7))) rfl ?_
  refine i_27_137 (fun _ => ?_) (fun h => absurd h (by decide))
  refine i_27_164 (x := 0) rfl ?_
  refine i_27_166 (fun _ => ?_) (fun h => absurd h (by decide))
  refine i_27_179 (x := 16) rfl ?_
  refine i_27_180 (v := Value.int 1) (xgn e40 (xgn e41 (xgn e13 hw0))) rfl ?_
  refine i_27_183 (fun h => absurd h (by decide)) (fun _ => ?_)
  refine i_27_186 (x := 0) rfl ?_
  refine i_27_188 (c := 0) (by decide) ?_
  refine i_27_189 ?_
  exact i_27_194 ⟨rfl, rfl⟩
theorem s_128_7 {d : Nat} {w : xW} {a0 : Int32} {b0 : Int64} {a1 : Int32} {g0 : Nat → Value} {h0 : Nat} {a2 : Int32} {a3 : Int32} {a4 : Int32} {h1 : Nat} {a5 : Int32} {a6 : Int32} {a7 : Int32} {h2 : Nat} (e0 : 0 ≤ a0.toInt) (e1 : a0.toInt < 16) (e2 : 0 ≤ a1.toInt) (e3 : a1.toInt ≤ 4) (hw4 : w[7]? = some (Sum.inr (0, [Value.ref 8, Value.ref 78, Value.ref 9, Value.ref 10, Value.ref 13, Value.ref 16, Value.ref 19, Value.ref 93, Value.ref 108, Value.ref 113, Value.ref 29, Value.int 0]))) (hw5 : w[8]? = some (Sum.inl (4, 16, g0))) (hg6 : g0 a0.toInt.toNat = Value.ref h0) (e7 : (lg_cmp b0 (0 : Int64)).toInt < 0) (e8 : (xfd b0).toInt ≠ 2047) (e9 : (xfd b0).toInt ≠ 0) (hg10 : ((xfd b0) - (1075 : Int32)) = a2) (hw11 : w[16]? = some (Sum.inr (4, [Value.int 0, Value.ref 17, Value.int 0, Value.int 0]))) (hw12 : w[17]? = some (Sum.inr (3, [Value.ref 18, Value.int 0]))) (hw13 : w[18]? = some (Sum.inl (0, 8, fun _ => Value.int 0))) (e14 : (xhi (xfo b0)).toInt ≠ 0) (hw15 : w[78]? = some (Sum.inr (1, [Value.int (-16384), Value.int 16384, Value.int 0, Value.int 0]))) (hg16 : ((64 : Int32) - (xnlz (xhi (xfo b0)))) = a3) (hg17 : (a3 + a2) = a4) (e18 : 16 ≠ h0) (e19 : 17 ≠ h0) (e20 : 18 ≠ h0) (hw21 : w[h0]? = some (Sum.inr (2, [Value.int 64, Value.int 0, Value.int 0, Value.int 0, Value.ref h1]))) (hg22 : (a4 - (64 : Int32)) = a5) (hg23 : (a5 - a2) = a6) (e24 : a6.toInt ≤ 0) (hg25 : (a4 - a5) = 64) (e26 : 7 ≤ h0) (e27 : h0 ≠ 16) (e28 : h0 ≠ 17) (e29 : h0 ≠ 18) (hg30 : ((64 : Int32) - a3) = a7) (e31 : h0 ≠ h1) (e32 : 16 ≠ h1) (e33 : 17 ≠ h1) (e34 : 18 ≠ h1) (hw35 : w[h1]? = some (Sum.inr (3, [Value.ref h2, Value.int 0]))) (hg36 : (a3 + a7) = 64) (e37 : h0 ≠ h2) (e38 : 16 ≠ h2) (e39 : 17 ≠ h2) (e40 : 18 ≠ h2) (hw41 : w[h2]? = some (Sum.inl (0, 8, fun _ => Value.int 0))) (e42 : 0 ≤ a7.toInt) (e43 : 7 ≤ h2) (e44 : h2 ≠ h1) (hg45 : ((0 : Int32) - a7) = a6) (e46 : h2 ≠ 17) (e47 : h2 ≠ 18) (e48 : 7 ≤ h1) (e49 : h1 ≠ h0) (e50 : h2 ≠ h0) (e51 : h1 ≠ h2) (e52 : (xbf 2 (xlo (xfo b0)) (xhi (xfo b0)) ((32 : Int32) - a7)).toInt ≠ 0) (e53 : ((64 : Int32) - (xnlz (xbf 2 (xlo (xfo b0)) (xhi (xfo b0)) ((32 : Int32) - a7)))).toInt ≤ 64) (e54 : h1 ≠ 78) (e55 : h2 ≠ 78) (e56 : h0 ≠ 78) (e57 : a4.toInt ≤ 16384) (e58 : (-16384) ≤ a4.toInt) (e59 : h1 ≠ 16) (e60 : h2 ≠ 16) : xRun (d + 5) 128 [Value.ref 7, Value.int a0, Value.long b0, Value.int a1] w (.inl (some (Value.int 0))) (((((((w.set 16 (Sum.inr (4, [Value.int 1, Value.ref 17, Value.int 0, Value.int 0]))).set 18 (Sum.inl (0, 8, xup (xup (fun _ => Value.int 0) (0 : Int32).toInt.toNat (Value.int (xlo (xfo b0)))) (1 : Int32).toInt.toNat (Value.int (xhi (xfo b0)))))).set 17 (Sum.inr (3, [Value.ref 18, Value.int 2]))).set 16 (Sum.inr (4, [Value.int 1, Value.ref 17, Value.int a2, Value.int 0]))).set h0 (Sum.inr (2, [Value.int 64, Value.int 3, Value.int 1, Value.int a4, Value.ref h1]))).set h2 (Sum.inl (0, 8, xup (xup (fun _ => Value.int 0) (1 : Int32).toInt.toNat (Value.int (xbf 2 (xlo (xfo b0)) (xhi (xfo b0)) ((32 : Int32) - a7)))) (0 : Int32).toInt.toNat (Value.int (xbf 2 (xlo (xfo b0)) (xhi (xfo b0)) a6))))).set h1 (Sum.inr (3, [Value.ref h2, Value.int 2]))) := by
  refine xRun.of ?_
  refine i_128_0 (x := a0) rfl ?_
  refine i_128_1 (Nat.le_of_ble_eq_true rfl) (s_15_0 e0 e1) ?_
  refine i_128_4 (fun h => absurd h (by decide)) (fun _ => ?_)
  refine i_128_7 (x := a1) rfl ?_
  refine i_128_9 (Nat.le_of_ble_eq_true rfl) (s_22_0 e2 e3) ?_
  refine i_128_12 (fun _ => ?_) (fun h => absurd h (by decide))
  refine i_128_23 (x := 7) rfl ?_
  refine i_128_24 (v := Value.ref 8) hw4 rfl ?_
  refine i_128_27 (x := a0) rfl ?_
  refine i_128_28 (v := Value.ref h0) hw5 e0 e1 hg6 ?_
  refine i_128_29 (lv2 := [(5, Value.ref h0), (0, Value.ref 7), (1, Value.int a0), (2, Value.long b0), (4, Value.int a1)]) rfl ?_
  refine i_128_31 (x := b0) rfl ?_
  refine i_128_32 ?_
  refine i_128_33 (c := (lg_cmp b0 (0 : Int64))) rfl ?_
  refine i_128_34 (fun h => absurd e7 (Int.not_lt.mpr h)) (fun _ => ?_)
  refine i_128_37 ?_
  refine i_128_38 ?_
  refine i_128_42 (lv2 := [(6, Value.int 1), (5, Value.ref h0), (0, Value.ref 7), (1, Value.int a0), (2, Value.long b0), (4, Value.int a1)]) rfl ?_
  refine i_128_44 (x := b0) rfl ?_
  refine i_128_45 ?_
  refine i_128_47 (c := (xsr b0 52)) rfl ?_
  refine i_128_48 (c := (xsr b0 52).toInt32) rfl ?_
  refine i_128_49 ?_
  refine i_128_52 (c := (xfd b0)) rfl ?_
  refine i_128_53 (lv2 := [(7, Value.int (xfd b0)), (6, Value.int 1), (5, Value.ref h0), (0, Value.ref 7), (1, Value.int a0), (2, Value.long b0), (4, Value.int a1)]) rfl ?_
  refine i_128_55 (x := b0) rfl ?_
  refine i_128_56 ?_
  refine i_128_59 (c := (xfr b0)) rfl ?_
  refine i_128_60 (lv2 := [(8, Value.long (xfr b0)), (7, Value.int (xfd b0)), (6, Value.int 1), (5, Value.ref h0), (0, Value.ref 7), (1, Value.int a0), (2, Value.long b0), (4, Value.int a1)]) rfl ?_
  refine i_128_62 (x := (xfd b0)) rfl ?_
  refine i_128_64 ?_
  refine i_128_67 (fun _ => ?_) (fun h => absurd e8 (fun g => g h))
  refine i_128_90 (x := (xfd b0)) rfl ?_
  refine i_128_92 (fun _ => ?_) (fun h => absurd e9 (fun g => g h))
  refine i_128_110 (x := (xfd b0)) rfl ?_
  refine i_128_112 (fun _ => ?_) (fun h => absurd e9 (fun g => g h))
  refine i_128_132 (x := 7) rfl ?_
  refine i_128_133 (v := Value.ref 16) hw4 rfl ?_
  refine i_128_136 (x := 1) rfl ?_
  refine i_128_138 (x := (xfr b0)) rfl ?_
  refine i_128_140 ?_
  refine i_128_143 (c := (xfo b0)) rfl ?_
  refine i_128_144 (x := (xfd b0)) rfl ?_
  refine i_128_146 ?_
  refine i_128_149 (c := a2) hg10 ?_
  refine i_128_150 hw11 (Nat.le_of_ble_eq_true rfl) (s_24_3 hw11 hw12 hw13 e14) ?_
  refine i_128_153 (x := 7) rfl ?_
  refine i_128_154 (v := Value.ref 78) (xgn (by decide) (xgn (by decide) (xgn (by decide) (xgn (by decide) hw4)))) rfl ?_
  refine i_128_157 (x := h0) rfl ?_
  refine i_128_159 (x := 7) rfl ?_
  refine i_128_160 (v := Value.ref 16) (xgn (by decide) (xgn (by decide) (xgn (by decide) (xgn (by decide) hw4)))) rfl ?_
  refine i_128_163 (x := a1) rfl ?_
  refine i_128_165 (xgn (by decide) (xgn (by decide) (xgn (by decide) (xgn (by decide) hw15)))) (Nat.le_of_ble_eq_true rfl) (s_27_67 (xgs (xgn (by decide) (xgn (by decide) (xgs hw11)))) (xgn (by decide) (xgs (xgn (by decide) (xgn (by decide) hw12)))) (xgn (by decide) (xgn (by decide) (xgs (xgn (by decide) hw13)))) xup_s hg16 hg17 (xgn e18 (xgn e19 (xgn e20 (xgn e18 hw21)))) (xgn (by decide) (xgn (by decide) (xgn (by decide) (xgn (by decide) hw15)))) hg22 hg23 e24 hg25 e26 e27 e28 e29 hg30 e31 (xgn e32 (xgn e33 (xgn e34 (xgn e32 hw35)))) hg36 e37 (xgn e38 (xgn e39 (xgn e40 (xgn e38 hw41)))) e42 (xup_n (by decide) xup_s) e43 e44 hg45 e46 e47 e48 e49 e50 e51 e52 e53 e54 e55 e56 e57 e58 e59 e60) ?_
  exact i_128_168 ⟨rfl, rfl⟩
theorem s_127_7 {d : Nat} {w : xW} {a0 : Int32} {b0 : Int64} {a1 : Int32} {g0 : Nat → Value} {h0 : Nat} {a2 : Int32} {a3 : Int32} {a4 : Int32} {h1 : Nat} {a5 : Int32} {a6 : Int32} {a7 : Int32} {h2 : Nat} (hw0 : w[7]? = some (Sum.inr (0, [Value.ref 8, Value.ref 78, Value.ref 9, Value.ref 10, Value.ref 13, Value.ref 16, Value.ref 19, Value.ref 93, Value.ref 108, Value.ref 113, Value.ref 29, Value.int 0]))) (e1 : 0 ≤ a0.toInt) (e2 : a0.toInt < 16) (e3 : 0 ≤ a1.toInt) (e4 : a1.toInt ≤ 4) (hw5 : w[8]? = some (Sum.inl (4, 16, g0))) (hg6 : g0 a0.toInt.toNat = Value.ref h0) (e7 : (lg_cmp b0 (0 : Int64)).toInt < 0) (e8 : (xfd b0).toInt ≠ 2047) (e9 : (xfd b0).toInt ≠ 0) (hg10 : ((xfd b0) - (1075 : Int32)) = a2) (hw11 : w[16]? = some (Sum.inr (4, [Value.int 0, Value.ref 17, Value.int 0, Value.int 0]))) (hw12 : w[17]? = some (Sum.inr (3, [Value.ref 18, Value.int 0]))) (hw13 : w[18]? = some (Sum.inl (0, 8, fun _ => Value.int 0))) (e14 : (xhi (xfo b0)).toInt ≠ 0) (hw15 : w[78]? = some (Sum.inr (1, [Value.int (-16384), Value.int 16384, Value.int 0, Value.int 0]))) (hg16 : ((64 : Int32) - (xnlz (xhi (xfo b0)))) = a3) (hg17 : (a3 + a2) = a4) (e18 : 16 ≠ h0) (e19 : 17 ≠ h0) (e20 : 18 ≠ h0) (hw21 : w[h0]? = some (Sum.inr (2, [Value.int 64, Value.int 0, Value.int 0, Value.int 0, Value.ref h1]))) (hg22 : (a4 - (64 : Int32)) = a5) (hg23 : (a5 - a2) = a6) (e24 : a6.toInt ≤ 0) (hg25 : (a4 - a5) = 64) (e26 : 7 ≤ h0) (e27 : h0 ≠ 16) (e28 : h0 ≠ 17) (e29 : h0 ≠ 18) (hg30 : ((64 : Int32) - a3) = a7) (e31 : h0 ≠ h1) (e32 : 16 ≠ h1) (e33 : 17 ≠ h1) (e34 : 18 ≠ h1) (hw35 : w[h1]? = some (Sum.inr (3, [Value.ref h2, Value.int 0]))) (hg36 : (a3 + a7) = 64) (e37 : h0 ≠ h2) (e38 : 16 ≠ h2) (e39 : 17 ≠ h2) (e40 : 18 ≠ h2) (hw41 : w[h2]? = some (Sum.inl (0, 8, fun _ => Value.int 0))) (e42 : 0 ≤ a7.toInt) (e43 : 7 ≤ h2) (e44 : h2 ≠ h1) (hg45 : ((0 : Int32) - a7) = a6) (e46 : h2 ≠ 17) (e47 : h2 ≠ 18) (e48 : 7 ≤ h1) (e49 : h1 ≠ h0) (e50 : h2 ≠ h0) (e51 : h1 ≠ h2) (e52 : (xbf 2 (xlo (xfo b0)) (xhi (xfo b0)) ((32 : Int32) - a7)).toInt ≠ 0) (e53 : ((64 : Int32) - (xnlz (xbf 2 (xlo (xfo b0)) (xhi (xfo b0)) ((32 : Int32) - a7)))).toInt ≤ 64) (e54 : h1 ≠ 78) (e55 : h2 ≠ 78) (e56 : h0 ≠ 78) (e57 : a4.toInt ≤ 16384) (e58 : (-16384) ≤ a4.toInt) (e59 : h1 ≠ 16) (e60 : h2 ≠ 16) (e61 : h1 ≠ 194) (e62 : h2 ≠ 194) (e63 : h0 ≠ 194) (hw64 : w[194]? = some (Sum.inl (3, 1, fun _ => Value.long 0))) : xRun (d + 6) 127 [Value.ref 7, Value.int a0, Value.long b0, Value.int a1, Value.ref 194] w (.inl (some (Value.int 0))) ((((((((w.set 16 (Sum.inr (4, [Value.int 1, Value.ref 17, Value.int 0, Value.int 0]))).set 18 (Sum.inl (0, 8, xup (xup (fun _ => Value.int 0) (0 : Int32).toInt.toNat (Value.int (xlo (xfo b0)))) (1 : Int32).toInt.toNat (Value.int (xhi (xfo b0)))))).set 17 (Sum.inr (3, [Value.ref 18, Value.int 2]))).set 16 (Sum.inr (4, [Value.int 1, Value.ref 17, Value.int a2, Value.int 0]))).set h0 (Sum.inr (2, [Value.int 64, Value.int 3, Value.int 1, Value.int a4, Value.ref h1]))).set h2 (Sum.inl (0, 8, xup (xup (fun _ => Value.int 0) (1 : Int32).toInt.toNat (Value.int (xbf 2 (xlo (xfo b0)) (xhi (xfo b0)) ((32 : Int32) - a7)))) (0 : Int32).toInt.toNat (Value.int (xbf 2 (xlo (xfo b0)) (xhi (xfo b0)) a6))))).set h1 (Sum.inr (3, [Value.ref h2, Value.int 2]))).set 194 (Sum.inl (3, 1, xup (fun _ => Value.long 0) (0 : Int32).toInt.toNat (Value.long 0)))) := by
  refine xRun.of ?_
  refine i_127_0 (x := 194) rfl ?_
  refine i_127_2 ?_
  refine i_127_3 (x := 7) rfl ?_
  refine i_127_4 (x := a0) rfl ?_
  refine i_127_5 (x := b0) rfl ?_
  refine i_127_6 (x := a1) rfl ?_
  refine i_127_8 hw0 (Nat.le_of_ble_eq_true rfl) (s_128_7 e1 e2 e3 e4 hw0 hw5 hg6 e7 e8 e9 hg10 hw11 hw12 hw13 e14 hw15 hg16 hg17 e18 e19 e20 hw21 hg22 hg23 e24 hg25 e26 e27 e28 e29 hg30 e31 e32 e33 e34 hw35 hg36 e37 e38 e39 e40 hw41 e42 e43 e44 hg45 e46 e47 e48 e49 e50 e51 e52 e53 e54 e55 e56 e57 e58 e59 e60) ?_
  refine i_127_11 (c := 0) (by decide) ?_
  refine i_127_12 (v := Value.long 0) (xgn e61 (xgn e62 (xgn e63 (xgn (by decide) (xgn (by decide) (xgn (by decide) (xgn (by decide) hw64))))))) (by decide) (by decide) (by decide) rfl ?_
  refine i_127_13 ?_
  refine i_127_20 ?_
  exact i_127_21 ⟨rfl, rfl⟩
theorem cn16_11_1 {d : Nat} {xs : Nat → Int32} {B K N9 N16 N17 N18 : Int32} (c0 : 0 ≤ (xs 1).toInt) (c1 : (xs 1).toInt < 16) (c2 : 0 ≤ (xs 4).toInt) (c3 : (xs 4).toInt ≤ 4) (c4 : 0 ≤ (xfd (xvv xs)).toInt) (c5 : (xfd (xvv xs)).toInt ≤ 2047) (c6 : (xfd (xvv xs)).toInt ≠ 2047) (c7 : (xfd (xvv xs)).toInt ≠ 0) (c8 : (lg_cmp (xvv xs) (0 : Int64)).toInt < 0) (eN9 : ((xfd (xvv xs)) - (1075 : Int32)) = N9) (nN9 : N9.toInt = (xfd (xvv xs)).toInt - 1075) (c10 : K.toInt = 64 - B.toInt) (c11 : 33 ≤ B.toInt) (c12 : B.toInt ≤ 64) (c13 : (xhi (xfo (xvv xs))).toInt ≠ 0) (c14 : (xnlz (xhi (xfo (xvv xs)))).toInt = 64 - B.toInt) (c15 : (xbf 2 (xlo (xfo (xvv xs))) (xhi (xfo (xvv xs))) ((32 : Int32) - K)).toInt ≠ 0) (eN16 : (B + N9) = N16) (nN16 : N16.toInt = B.toInt + N9.toInt) (eN17 : (N16 - (64 : Int32)) = N17) (nN17 : N17.toInt = N16.toInt - 64) (eN18 : (N17 - N9) = N18) (nN18 : N18.toInt = N17.toInt - N9.toInt) : ∃ w1, xRun (d + 18) 127 [Value.ref 7, Value.int (xs 1), Value.long (xvv xs), Value.int (xs 4), Value.ref 194] (W0 6 xs) (.inl (some (Value.int 0))) w1 ∧ xKp (W0 6 xs) w1 xPC ∧ w1[194]? = some (Sum.inl (3, 1, xup (fun _ => Value.long 0) (0 : Int32).toInt.toNat (Value.long 0))) := by
  have f0 : ((64 : Int32) - (xnlz (xhi (xfo (xvv xs))))).toInt = 64 - (xnlz (xhi (xfo (xvv xs)))).toInt := xsub_g rfl rfl (by omega) (by omega)
  have f1 : (N16 - N17).toInt = N16.toInt - N17.toInt := xsub_i (by omega) (by omega)
  have f2 : ((64 : Int32) - B).toInt = 64 - B.toInt := xsub_g rfl rfl (by omega) (by omega)
  have f3 : (B + K).toInt = B.toInt + K.toInt := xadd_i (by omega) (by omega)
  have f4 : ((0 : Int32) - K).toInt = 0 - K.toInt := xsub_g rfl rfl (by omega) (by omega)
  have f5 : 0 ≤ (xnlz (xbf 2 (xlo (xfo (xvv xs))) (xhi (xfo (xvv xs))) ((32 : Int32) - K))).toInt := (xnlz_b _).1
  have f6 : (xnlz (xbf 2 (xlo (xfo (xvv xs))) (xhi (xfo (xvv xs))) ((32 : Int32) - K))).toInt ≤ 32 := (xnlz_b _).2
  have f7 : ((64 : Int32) - (xnlz (xbf 2 (xlo (xfo (xvv xs))) (xhi (xfo (xvv xs))) ((32 : Int32) - K)))).toInt = 64 - (xnlz (xbf 2 (xlo (xfo (xvv xs))) (xhi (xfo (xvv xs))) ((32 : Int32) - K))).toInt := xsub_g rfl rfl (by omega) (by omega)
  refine ⟨(((((((((W0 6 xs).set 16 (Sum.inr (4, [Value.int 1, Value.ref 17, Value.int 0, Value.int 0]))).set 18 (Sum.inl (0, 8, xup (xup (fun _ => Value.int 0) (0 : Int32).toInt.toNat (Value.int (xlo (xfo (xvv xs))))) (1 : Int32).toInt.toNat (Value.int (xhi (xfo (xvv xs))))))).set 17 (Sum.inr (3, [Value.ref 18, Value.int 2]))).set 16 (Sum.inr (4, [Value.int 1, Value.ref 17, Value.int N9, Value.int 0]))).set (30 + 3 * (xs 1).toInt.toNat) (Sum.inr (2, [Value.int 64, Value.int 3, Value.int 1, Value.int N16, Value.ref (31 + 3 * (xs 1).toInt.toNat)]))).set (32 + 3 * (xs 1).toInt.toNat) (Sum.inl (0, 8, xup (xup (fun _ => Value.int 0) (1 : Int32).toInt.toNat (Value.int (xbf 2 (xlo (xfo (xvv xs))) (xhi (xfo (xvv xs))) ((32 : Int32) - K)))) (0 : Int32).toInt.toNat (Value.int (xbf 2 (xlo (xfo (xvv xs))) (xhi (xfo (xvv xs))) N18))))).set (31 + 3 * (xs 1).toInt.toNat) (Sum.inr (3, [Value.ref (32 + 3 * (xs 1).toInt.toNat), Value.int 2]))).set 194 (Sum.inl (3, 1, xup (fun _ => Value.long 0) (0 : Int32).toInt.toNat (Value.long 0)))), (s_127_7 W0_7 (by omega) (by omega) (by omega) (by omega) W0_8 (greg_at (by omega)) (by omega) (by omega) (by omega) (show ((xfd (xvv xs)) - (1075 : Int32)) = N9 from eN9) W0_16 W0_17 W0_18 (by omega) W0_78 (show ((64 : Int32) - (xnlz (xhi (xfo (xvv xs))))) = B from (xge_i (by omega))) (show (B + N9) = N16 from eN16) (by omega) (by omega) (by omega) (W0_reg (by omega)) (show (N16 - (64 : Int32)) = N17 from eN17) (show (N17 - N9) = N18 from eN18) (by omega) (show (N16 - N17) = 64 from (xge_c (n := 64) (by omega) rfl)) (by omega) (by omega) (by omega) (by omega) (show ((64 : Int32) - B) = K from (xge_i (by omega))) (by omega) (by omega) (by omega) (by omega) (W0_man (by omega)) (show (B + K) = 64 from (xge_c (n := 64) (by omega) rfl)) (by omega) (by omega) (by omega) (by omega) (W0_mw (by omega)) (by omega) (by omega) (by omega) (show ((0 : Int32) - K) = N18 from (xge_i (by omega))) (by omega) (by omega) (by omega) (by omega) (by omega) (by omega) (by omega) (by omega) (by omega) (by omega) (by omega) (by omega) (by omega) (by omega) (by omega) (by omega) (by omega) (by omega) W0_194), ?_, xgs (xgn (by omega) (xgn (by omega) (xgn (by omega) (xgn (by decide) (xgn (by decide) (xgn (by decide) (xgn (by decide) W0_194)))))))⟩
  refine xKp.set ?_ (fun h hh => by unfold xPC at hh; omega) (xgn (by omega) (xgn (by omega) (xgn (by omega) (xgn (by decide) (xgn (by decide) (xgn (by decide) (xgn (by decide) W0_194))))))) xcs_a
  refine xKp.set ?_ (fun h hh => by unfold xPC at hh; omega) (xgn (by omega) (xgn (by omega) (xgn (by omega) (xgn (by omega) (xgn (by omega) (xgn (by omega) (W0_man (by omega)))))))) xcs_o
  refine xKp.set ?_ (fun h hh => by unfold xPC at hh; omega) (xgn (by omega) (xgn (by omega) (xgn (by omega) (xgn (by omega) (xgn (by omega) (W0_mw (by omega))))))) xcs_a
  refine xKp.set ?_ (fun h hh => by unfold xPC at hh; omega) (xgn (by omega) (xgn (by omega) (xgn (by omega) (xgn (by omega) (W0_reg (by omega)))))) xcs_o
  refine xKp.set ?_ (fun h hh => by unfold xPC at hh; omega) (xgn (by decide) (xgn (by decide) (xgs W0_16))) xcs_o
  refine xKp.set ?_ (fun h hh => by unfold xPC at hh; omega) (xgn (by decide) (xgn (by decide) W0_17)) xcs_o
  refine xKp.set ?_ (fun h hh => by unfold xPC at hh; omega) (xgn (by decide) W0_18) xcs_a
  refine xKp.set ?_ (fun h hh => by unfold xPC at hh; omega) (W0_16) xcs_o
  exact xKp.refl
theorem cls16_11 {d : Nat} {xs : Nat → Int32} (c0 : 0 ≤ (xs 1).toInt) (c1 : (xs 1).toInt < 16) (c2 : 0 ≤ (xs 4).toInt) (c3 : (xs 4).toInt ≤ 4) (c4 : 0 ≤ (xfd (xvv xs)).toInt) (c5 : (xfd (xvv xs)).toInt ≤ 2047) (c6 : (xfd (xvv xs)).toInt ≠ 2047) (c7 : (xfd (xvv xs)).toInt ≠ 0) (c8 : (lg_cmp (xvv xs) (0 : Int64)).toInt < 0) : ∃ w1, xRun (d + 18) 127 [Value.ref 7, Value.int (xs 1), Value.long (xvv xs), Value.int (xs 4), Value.ref 194] (W0 6 xs) (.inl (some (Value.int 0))) w1 ∧ xKp (W0 6 xs) w1 xPC ∧ w1[194]? = some (Sum.inl (3, 1, xup (fun _ => Value.long 0) (0 : Int32).toInt.toNat (Value.long (xres 1 (xfo (xvv xs)) ((xfd (xvv xs)) - (1075 : Int32)) (xs 4)).toInt64))) := by
  obtain ⟨N9, eN9⟩ : ∃ N : Int32, ((xfd (xvv xs)) - (1075 : Int32)) = N := ⟨_, rfl⟩
  have nN9 : N9.toInt = (xfd (xvv xs)).toInt - 1075 := by rw [← eN9]; exact xsub_g rfl rfl (by omega) (by omega)
  obtain ⟨B, K, hB, c10, hr⟩ := xregC (m := (xfo (xvv xs))) (xfo_nz _)
  rcases hr with ⟨c11, c12, c13, c14, c15, c16⟩ | ⟨c11, c12, c13, c14, c15⟩
  · have fs : ((xfd (xvv xs)) - (1075 : Int32)).toInt = (xfd (xvv xs)).toInt - 1075 := xsub_g rfl rfl (by omega) (by omega)
    obtain ⟨N17, eN17⟩ : ∃ N : Int32, (B + N9) = N := ⟨_, rfl⟩
    have nN17 : N17.toInt = B.toInt + N9.toInt := by rw [← eN17]; exact xadd_g rfl rfl (by omega) (by omega)
    obtain ⟨N18, eN18⟩ : ∃ N : Int32, (N17 - (64 : Int32)) = N := ⟨_, rfl⟩
    have nN18 : N18.toInt = N17.toInt - 64 := by rw [← eN18]; exact xsub_g rfl rfl (by omega) (by omega)
    obtain ⟨N19, eN19⟩ : ∃ N : Int32, (N18 - N9) = N := ⟨_, rfl⟩
    have nN19 : N19.toInt = N18.toInt - N9.toInt := by rw [← eN19]; exact xsub_g rfl rfl (by omega) (by omega)
    have e : (xres 1 (xfo (xvv xs)) ((xfd (xvv xs)) - (1075 : Int32)) (xs 4)).toInt64 = 0 := by rw [show xres 1 (xfo (xvv xs)) ((xfd (xvv xs)) - (1075 : Int32)) (xs 4) = 0 from (xans_in (by rw [fs, ← hB]; omega) (by rw [fs, ← hB]; omega)).trans rfl]; rfl
    rw [e]
    exact cn16_11_0 c0 c1 c2 c3 c4 c5 c6 c7 c8 eN9 nN9 c10 c11 c12 c13 c14 c15 c16 eN17 nN17 eN18 nN18 eN19 nN19
  · have fs : ((xfd (xvv xs)) - (1075 : Int32)).toInt = (xfd (xvv xs)).toInt - 1075 := xsub_g rfl rfl (by omega) (by omega)
    obtain ⟨N16, eN16⟩ : ∃ N : Int32, (B + N9) = N := ⟨_, rfl⟩
    have nN16 : N16.toInt = B.toInt + N9.toInt := by rw [← eN16]; exact xadd_g rfl rfl (by omega) (by omega)
    obtain ⟨N17, eN17⟩ : ∃ N : Int32, (N16 - (64 : Int32)) = N := ⟨_, rfl⟩
    have nN17 : N17.toInt = N16.toInt - 64 := by rw [← eN17]; exact xsub_g rfl rfl (by omega) (by omega)
    obtain ⟨N18, eN18⟩ : ∃ N : Int32, (N17 - N9) = N := ⟨_, rfl⟩
    have nN18 : N18.toInt = N17.toInt - N9.toInt := by rw [← eN18]; exact xsub_g rfl rfl (by omega) (by omega)
    have e : (xres 1 (xfo (xvv xs)) ((xfd (xvv xs)) - (1075 : Int32)) (xs 4)).toInt64 = 0 := by rw [show xres 1 (xfo (xvv xs)) ((xfd (xvv xs)) - (1075 : Int32)) (xs 4) = 0 from (xans_in (by rw [fs, ← hB]; omega) (by rw [fs, ← hB]; omega)).trans rfl]; rfl
    rw [e]
    exact cn16_11_1 c0 c1 c2 c3 c4 c5 c6 c7 c8 eN9 nN9 c10 c11 c12 c13 c14 c15 eN16 nN16 eN17 nN17 eN18 nN18
theorem mnum16 {d : Nat} {xs : Nat → Int32} {w w2 : xW} {b : Int32} (hm : w[128]? = some (Sum.inr (12, [Value.ref 129, Value.ref 131, Value.ref 133, Value.ref 135, Value.ref 137, Value.ref 139, Value.ref 141, Value.ref 143, Value.ref 145, Value.ref 147, Value.ref 149, Value.ref 151, Value.ref 153, Value.ref 154, Value.ref 155, Value.ref 156, Value.ref 157, Value.int (-16384), Value.int 16384, Value.int 0, Value.int 0, Value.int 0, Value.ref 158, Value.ref 159, Value.int 0, Value.int 0, Value.int 0, Value.int 0, Value.int 0, Value.int 0, Value.int 0, Value.int 0]))) (hr : xRun (d + 7) 248 [Value.ref 128, Value.int (xs 1), Value.long (xvv xs), Value.int (xs 4)] (w.set 128 (Sum.inr (12, [Value.ref 129, Value.ref 131, Value.ref 133, Value.ref 135, Value.ref 137, Value.ref 139, Value.ref 141, Value.ref 143, Value.ref 145, Value.ref 147, Value.ref 149, Value.ref 151, Value.ref 153, Value.ref 154, Value.ref 155, Value.ref 156, Value.ref 157, Value.int (-16384), Value.int 16384, Value.int 0, Value.int 0, Value.int 0, Value.ref 158, Value.ref 159, Value.int 0, Value.int 0, Value.int 0, Value.int 0, Value.int 0, Value.int 0, Value.int 0, Value.int 0]))) (.inl (some (Value.int b))) w2) : xRun (d + 8) 247 [Value.ref 128, Value.int (xs 1), Value.long (xvv xs), Value.int (xs 4)] w (.inl (some (Value.int b))) w2 := by
  refine xRun.of ?_
  refine i_247_0 (x := 128) rfl ?_
  refine i_247_1 ?_
  refine i_247_2 (fs2 := [Value.ref 129, Value.ref 131, Value.ref 133, Value.ref 135, Value.ref 137, Value.ref 139, Value.ref 141, Value.ref 143, Value.ref 145, Value.ref 147, Value.ref 149, Value.ref 151, Value.ref 153, Value.ref 154, Value.ref 155, Value.ref 156, Value.ref 157, Value.int (-16384), Value.int 16384, Value.int 0, Value.int 0, Value.int 0, Value.ref 158, Value.ref 159, Value.int 0, Value.int 0, Value.int 0, Value.int 0, Value.int 0, Value.int 0, Value.int 0, Value.int 0]) hm (Nat.le_of_ble_eq_true rfl) rfl (by omega) ?_
  refine i_247_5 (x := 128) rfl ?_
  refine i_247_6 (x := (xs 1)) rfl ?_
  refine i_247_7 (x := (xvv xs)) rfl ?_
  refine i_247_8 (x := (xs 4)) rfl ?_
  refine i_247_10 (xgs hm) (Nat.le_of_ble_eq_true rfl) hr ?_
  exact i_247_13 ⟨rfl, rfl⟩
theorem mn16_00_1 {d : Nat} {xs : Nat → Int32} {w w2 : xW} {b : Int32} {B K P G : Int32} (hk : ∀ h, 129 ≤ h → h < 194 → w[h]? = (W0 6 xs)[h]?) (hm : w[128]? = some (Sum.inr (12, [Value.ref 129, Value.ref 131, Value.ref 133, Value.ref 135, Value.ref 137, Value.ref 139, Value.ref 141, Value.ref 143, Value.ref 145, Value.ref 147, Value.ref 149, Value.ref 151, Value.ref 153, Value.ref 154, Value.ref 155, Value.ref 156, Value.ref 157, Value.int (-16384), Value.int 16384, Value.int 0, Value.int 0, Value.int 0, Value.ref 158, Value.ref 159, Value.int 0, Value.int 0, Value.int 0, Value.int 0, Value.int 0, Value.int 0, Value.int 0, Value.int 0]))) (c0 : 0 ≤ (xs 1).toInt) (c1 : (xs 1).toInt < 16) (c2 : 0 ≤ (xs 4).toInt) (c3 : (xs 4).toInt ≤ 4) (c4 : 0 ≤ (xfd (xvv xs)).toInt) (c5 : (xfd (xvv xs)).toInt ≤ 2047) (c6 : (xfd (xvv xs)).toInt ≠ 2047) (c7 : (xfd (xvv xs)).toInt = 0) (c8 : (lg_cmp (xfr (xvv xs)) (0 : Int64)).toInt ≠ 0) (c9 : 0 ≤ (lg_cmp (xvv xs) (0 : Int64)).toInt) (c10 : K.toInt = 64 - B.toInt) (c11 : 1 ≤ B.toInt) (c12 : B.toInt ≤ 4) (c13 : (xhi (xfr (xvv xs))).toInt = 0) (c14 : (xlo (xfr (xvv xs))).toInt ≠ 0) (c15 : (xnlz (xlo (xfr (xvv xs)))).toInt = 32 - B.toInt) (c16 : (xbf 1 (xlo (xfr (xvv xs))) (0 : Int32) ((32 : Int32) - K)).toInt ≠ 0) (c17 : (lg_cmp (xfr (xvv xs)) (0 : Int64)).toInt ≠ 0) (c18 : (lg_cmp (xqs (xfr (xvv xs))) (0 : Int64)).toInt = 0) (c19 : (xbn (xq (xfr (xvv xs)))).toInt = B.toInt) (c20 : (xq (xfr (xvv xs))).toInt ≠ 0) (c21 : 0 ≤ (xq (xfr (xvv xs))).toInt) (c22 : K.toInt ≠ 0) (c23 : K / (30 : Int32) = 2) (c24 : K - K / (30 : Int32) * (30 : Int32) = P) (c25 : ((0 : Int32) ||| (xH (xq (xfr (xvv xs))) P)).toInt = 0) (c26 : (xL (xq (xfr (xvv xs))) P).toInt ≠ 0) (c27 : 0 ≤ (xL (xq (xfr (xvv xs))) P).toInt) (c28 : (xbn (xL (xq (xfr (xvv xs))) P)).toInt = 4) (c29 : G.toInt = B.toInt - 1) (hr : xRun (d + 6) 180 [Value.ref 128, Value.int (xs 1), Value.ref 129, Value.int (-1074), Value.int 0, Value.int 0, Value.int (xs 4)] (((w.set 129 (Sum.inr (13, [Value.ref 130, Value.int 0]))).set 130 (Sum.inl (0, 4700, xup (fun _ => Value.int 0) (0 : Int32).toInt.toNat (Value.int (xq (xfr (xvv xs))))))).set 129 (Sum.inr (13, [Value.ref 130, Value.int 1]))) (.inl (some (Value.int b))) w2) : xRun (d + 7) 248 [Value.ref 128, Value.int (xs 1), Value.long (xvv xs), Value.int (xs 4)] w (.inl (some (Value.int b))) w2 := by
  refine xRun.of ?_
  refine i_248_0 (x := (xs 1)) rfl ?_
  refine i_248_1 (Nat.le_of_ble_eq_true rfl) (s_168_0 (by omega) (by omega)) ?_
  refine i_248_4 (x := (xs 4)) rfl ?_
  refine i_248_6 (Nat.le_of_ble_eq_true rfl) (s_178_0 (by omega) (by omega)) ?_
  refine i_248_9 (x := (xvv xs)) rfl ?_
  refine i_248_10 ?_
  refine i_248_12 (c := ((xvv xs) >>> ((52 : Int32).toInt64 &&& 63))) rfl ?_
  refine i_248_13 (c := ((xvv xs) >>> ((52 : Int32).toInt64 &&& 63)).toInt32) rfl ?_
  refine i_248_14 ?_
  refine i_248_17 (c := (xfd (xvv xs))) (show (xfe (xvv xs)) = (xfd (xvv xs)) from (xfe_eq _)) ?_
  refine i_248_18 (lv2 := [(5, Value.int (xfd (xvv xs))), (0, Value.ref 128), (1, Value.int (xs 1)), (2, Value.long (xvv xs)), (4, Value.int (xs 4))]) rfl ?_
  refine i_248_20 (x := (xvv xs)) rfl ?_
  refine i_248_21 ?_
  refine i_248_24 (c := (xfr (xvv xs))) rfl ?_
  refine i_248_25 (lv2 := [(6, Value.long (xfr (xvv xs))), (5, Value.int (xfd (xvv xs))), (0, Value.ref 128), (1, Value.int (xs 1)), (2, Value.long (xvv xs)), (4, Value.int (xs 4))]) rfl ?_
  refine i_248_27 (x := (xfd (xvv xs))) rfl ?_
  refine i_248_29 ?_
  refine i_248_32 (fun _ => ?_) (fun h => absurd (show (xfd (xvv xs)).toInt ≠ 2047 by omega) (fun g => g h))
  refine i_248_71 (x := (xfd (xvv xs))) rfl ?_
  refine i_248_73 (fun h => absurd (show (xfd (xvv xs)).toInt = 0 by omega) h) (fun _ => ?_)
  refine i_248_76 (x := (xfr (xvv xs))) rfl ?_
  refine i_248_78 ?_
  refine i_248_79 (c := (lg_cmp (xfr (xvv xs)) (0 : Int64))) rfl ?_
  refine i_248_80 (fun _ => ?_) (fun h => absurd (show (lg_cmp (xfr (xvv xs)) (0 : Int64)).toInt ≠ 0 by omega) (fun g => g h))
  refine i_248_101 (x := 128) rfl ?_
  refine i_248_102 (v := Value.ref 129) hm rfl ?_
  refine i_248_105 (x := (xfd (xvv xs))) rfl ?_
  refine i_248_107 (fun h => absurd (show (xfd (xvv xs)).toInt = 0 by omega) h) (fun _ => ?_)
  refine i_248_110 (x := (xfr (xvv xs))) rfl ?_
  refine i_248_112 ?_
  refine i_248_121 ((hk 129 (by decide) (by decide)).trans W0_129) (Nat.le_of_ble_eq_true rfl) (s_179_3 ((hk 129 (by decide) (by decide)).trans W0_129) (by omega) ((hk 130 (by decide) (by decide)).trans W0_130) (show (lg_cmp (xqs (xfr (xvv xs))) (0 : Int64)) = 0 from (xge_c (n := 0) (by omega) rfl))) ?_
  refine i_248_124 (x := 128) rfl ?_
  refine i_248_125 (x := (xs 1)) rfl ?_
  refine i_248_126 (x := 128) rfl ?_
  refine i_248_127 (v := Value.ref 129) (xgn (by decide) (xgn (by decide) (xgn (by decide) hm))) rfl ?_
  refine i_248_130 (x := (xfd (xvv xs))) rfl ?_
  refine i_248_132 (fun h => absurd (show (xfd (xvv xs)).toInt = 0 by omega) h) (fun _ => ?_)
  refine i_248_135 ?_
  refine i_248_136 ?_
  refine i_248_141 ?_
  refine i_248_144 (c := (-1074)) (by decide) ?_
  refine i_248_145 ?_
  refine i_248_146 (x := (xvv xs)) rfl ?_
  refine i_248_147 ?_
  refine i_248_148 (c := (lg_cmp (xvv xs) (0 : Int64))) rfl ?_
  refine i_248_149 (fun _ => ?_) (fun h => absurd (show 0 ≤ (lg_cmp (xvv xs) (0 : Int64)).toInt by omega) (Int.not_le.mpr h))
  refine i_248_156 ?_
  refine i_248_157 (x := (xs 4)) rfl ?_
  refine i_248_159 (xgn (by decide) (xgn (by decide) (xgn (by decide) hm))) (Nat.le_of_ble_eq_true rfl) hr ?_
  exact i_248_162 ⟨rfl, rfl⟩
theorem mn16_00_2 {d : Nat} {xs : Nat → Int32} {w w2 : xW} {b : Int32} {B K P G : Int32} (hk : ∀ h, 129 ≤ h → h < 194 → w[h]? = (W0 6 xs)[h]?) (hm : w[128]? = some (Sum.inr (12, [Value.ref 129, Value.ref 131, Value.ref 133, Value.ref 135, Value.ref 137, Value.ref 139, Value.ref 141, Value.ref 143, Value.ref 145, Value.ref 147, Value.ref 149, Value.ref 151, Value.ref 153, Value.ref 154, Value.ref 155, Value.ref 156, Value.ref 157, Value.int (-16384), Value.int 16384, Value.int 0, Value.int 0, Value.int 0, Value.ref 158, Value.ref 159, Value.int 0, Value.int 0, Value.int 0, Value.int 0, Value.int 0, Value.int 0, Value.int 0, Value.int 0]))) (c0 : 0 ≤ (xs 1).toInt) (c1 : (xs 1).toInt < 16) (c2 : 0 ≤ (xs 4).toInt) (c3 : (xs 4).toInt ≤ 4) (c4 : 0 ≤ (xfd (xvv xs)).toInt) (c5 : (xfd (xvv xs)).toInt ≤ 2047) (c6 : (xfd (xvv xs)).toInt ≠ 2047) (c7 : (xfd (xvv xs)).toInt = 0) (c8 : (lg_cmp (xfr (xvv xs)) (0 : Int64)).toInt ≠ 0) (c9 : 0 ≤ (lg_cmp (xvv xs) (0 : Int64)).toInt) (c10 : K.toInt = 64 - B.toInt) (c11 : 5 ≤ B.toInt) (c12 : B.toInt ≤ 30) (c13 : (xhi (xfr (xvv xs))).toInt = 0) (c14 : (xlo (xfr (xvv xs))).toInt ≠ 0) (c15 : (xnlz (xlo (xfr (xvv xs)))).toInt = 32 - B.toInt) (c16 : (xbf 1 (xlo (xfr (xvv xs))) (0 : Int32) ((32 : Int32) - K)).toInt ≠ 0) (c17 : (lg_cmp (xfr (xvv xs)) (0 : Int64)).toInt ≠ 0) (c18 : (lg_cmp (xqs (xfr (xvv xs))) (0 : Int64)).toInt = 0) (c19 : (xbn (xq (xfr (xvv xs)))).toInt = B.toInt) (c20 : (xq (xfr (xvv xs))).toInt ≠ 0) (c21 : 0 ≤ (xq (xfr (xvv xs))).toInt) (c22 : K.toInt ≠ 0) (c23 : K / (30 : Int32) = 1) (c24 : K - K / (30 : Int32) * (30 : Int32) = P) (c25 : ((0 : Int32) ||| (xH (xq (xfr (xvv xs))) P)).toInt ≠ 0) (c26 : 0 ≤ ((0 : Int32) ||| (xH (xq (xfr (xvv xs))) P)).toInt) (c27 : (xbn ((0 : Int32) ||| (xH (xq (xfr (xvv xs))) P))).toInt = 4) (c28 : G.toInt = B.toInt - 1) (hr : xRun (d + 6) 180 [Value.ref 128, Value.int (xs 1), Value.ref 129, Value.int (-1074), Value.int 0, Value.int 0, Value.int (xs 4)] (((w.set 129 (Sum.inr (13, [Value.ref 130, Value.int 0]))).set 130 (Sum.inl (0, 4700, xup (fun _ => Value.int 0) (0 : Int32).toInt.toNat (Value.int (xq (xfr (xvv xs))))))).set 129 (Sum.inr (13, [Value.ref 130, Value.int 1]))) (.inl (some (Value.int b))) w2) : xRun (d + 7) 248 [Value.ref 128, Value.int (xs 1), Value.long (xvv xs), Value.int (xs 4)] w (.inl (some (Value.int b))) w2 := by
  refine xRun.of ?_
  refine i_248_0 (x := (xs 1)) rfl ?_
  refine i_248_1 (Nat.le_of_ble_eq_true rfl) (s_168_0 (by omega) (by omega)) ?_
  refine i_248_4 (x := (xs 4)) rfl ?_
  refine i_248_6 (Nat.le_of_ble_eq_true rfl) (s_178_0 (by omega) (by omega)) ?_
  refine i_248_9 (x := (xvv xs)) rfl ?_
  refine i_248_10 ?_
  refine i_248_12 (c := ((xvv xs) >>> ((52 : Int32).toInt64 &&& 63))) rfl ?_
  refine i_248_13 (c := ((xvv xs) >>> ((52 : Int32).toInt64 &&& 63)).toInt32) rfl ?_
  refine i_248_14 ?_
  refine i_248_17 (c := (xfd (xvv xs))) (show (xfe (xvv xs)) = (xfd (xvv xs)) from (xfe_eq _)) ?_
  refine i_248_18 (lv2 := [(5, Value.int (xfd (xvv xs))), (0, Value.ref 128), (1, Value.int (xs 1)), (2, Value.long (xvv xs)), (4, Value.int (xs 4))]) rfl ?_
  refine i_248_20 (x := (xvv xs)) rfl ?_
  refine i_248_21 ?_
  refine i_248_24 (c := (xfr (xvv xs))) rfl ?_
  refine i_248_25 (lv2 := [(6, Value.long (xfr (xvv xs))), (5, Value.int (xfd (xvv xs))), (0, Value.ref 128), (1, Value.int (xs 1)), (2, Value.long (xvv xs)), (4, Value.int (xs 4))]) rfl ?_
  refine i_248_27 (x := (xfd (xvv xs))) rfl ?_
  refine i_248_29 ?_
  refine i_248_32 (fun _ => ?_) (fun h => absurd (show (xfd (xvv xs)).toInt ≠ 2047 by omega) (fun g => g h))
  refine i_248_71 (x := (xfd (xvv xs))) rfl ?_
  refine i_248_73 (fun h => absurd (show (xfd (xvv xs)).toInt = 0 by omega) h) (fun _ => ?_)
  refine i_248_76 (x := (xfr (xvv xs))) rfl ?_
  refine i_248_78 ?_
  refine i_248_79 (c := (lg_cmp (xfr (xvv xs)) (0 : Int64))) rfl ?_
  refine i_248_80 (fun _ => ?_) (fun h => absurd (show (lg_cmp (xfr (xvv xs)) (0 : Int64)).toInt ≠ 0 by omega) (fun g => g h))
  refine i_248_101 (x := 128) rfl ?_
  refine i_248_102 (v := Value.ref 129) hm rfl ?_
  refine i_248_105 (x := (xfd (xvv xs))) rfl ?_
  refine i_248_107 (fun h => absurd (show (xfd (xvv xs)).toInt = 0 by omega) h) (fun _ => ?_)
  refine i_248_110 (x := (xfr (xvv xs))) rfl ?_
  refine i_248_112 ?_
  refine i_248_121 ((hk 129 (by decide) (by decide)).trans W0_129) (Nat.le_of_ble_eq_true rfl) (s_179_3 ((hk 129 (by decide) (by decide)).trans W0_129) (by omega) ((hk 130 (by decide) (by decide)).trans W0_130) (show (lg_cmp (xqs (xfr (xvv xs))) (0 : Int64)) = 0 from (xge_c (n := 0) (by omega) rfl))) ?_
  refine i_248_124 (x := 128) rfl ?_
  refine i_248_125 (x := (xs 1)) rfl ?_
  refine i_248_126 (x := 128) rfl ?_
  refine i_248_127 (v := Value.ref 129) (xgn (by decide) (xgn (by decide) (xgn (by decide) hm))) rfl ?_
  refine i_248_130 (x := (xfd (xvv xs))) rfl ?_
  refine i_248_132 (fun h => absurd (show (xfd (xvv xs)).toInt = 0 by omega) h) (fun _ => ?_)
  refine i_248_135 ?_
  refine i_248_136 ?_
  refine i_248_141 ?_
  refine i_248_144 (c := (-1074)) (by decide) ?_
  refine i_248_145 ?_
  refine i_248_146 (x := (xvv xs)) rfl ?_
  refine i_248_147 ?_
  refine i_248_148 (c := (lg_cmp (xvv xs) (0 : Int64))) rfl ?_
  refine i_248_149 (fun _ => ?_) (fun h => absurd (show 0 ≤ (lg_cmp (xvv xs) (0 : Int64)).toInt by omega) (Int.not_le.mpr h))
  refine i_248_156 ?_
  refine i_248_157 (x := (xs 4)) rfl ?_
  refine i_248_159 (xgn (by decide) (xgn (by decide) (xgn (by decide) hm))) (Nat.le_of_ble_eq_true rfl) hr ?_
  exact i_248_162 ⟨rfl, rfl⟩
theorem mn16_00_3 {d : Nat} {xs : Nat → Int32} {w w2 : xW} {b : Int32} {B K P G : Int32} (hk : ∀ h, 129 ≤ h → h < 194 → w[h]? = (W0 6 xs)[h]?) (hm : w[128]? = some (Sum.inr (12, [Value.ref 129, Value.ref 131, Value.ref 133, Value.ref 135, Value.ref 137, Value.ref 139, Value.ref 141, Value.ref 143, Value.ref 145, Value.ref 147, Value.ref 149, Value.ref 151, Value.ref 153, Value.ref 154, Value.ref 155, Value.ref 156, Value.ref 157, Value.int (-16384), Value.int 16384, Value.int 0, Value.int 0, Value.int 0, Value.ref 158, Value.ref 159, Value.int 0, Value.int 0, Value.int 0, Value.int 0, Value.int 0, Value.int 0, Value.int 0, Value.int 0]))) (c0 : 0 ≤ (xs 1).toInt) (c1 : (xs 1).toInt < 16) (c2 : 0 ≤ (xs 4).toInt) (c3 : (xs 4).toInt ≤ 4) (c4 : 0 ≤ (xfd (xvv xs)).toInt) (c5 : (xfd (xvv xs)).toInt ≤ 2047) (c6 : (xfd (xvv xs)).toInt ≠ 2047) (c7 : (xfd (xvv xs)).toInt = 0) (c8 : (lg_cmp (xfr (xvv xs)) (0 : Int64)).toInt ≠ 0) (c9 : 0 ≤ (lg_cmp (xvv xs) (0 : Int64)).toInt) (c10 : K.toInt = 64 - B.toInt) (c11 : 31 ≤ B.toInt) (c12 : B.toInt ≤ 32) (c13 : (xhi (xfr (xvv xs))).toInt = 0) (c14 : (xlo (xfr (xvv xs))).toInt ≠ 0) (c15 : (xnlz (xlo (xfr (xvv xs)))).toInt = 32 - B.toInt) (c16 : (xbf 1 (xlo (xfr (xvv xs))) (0 : Int32) ((32 : Int32) - K)).toInt ≠ 0) (c17 : (lg_cmp (xfr (xvv xs)) (0 : Int64)).toInt ≠ 0) (c18 : (lg_cmp (xqs (xfr (xvv xs))) (0 : Int64)).toInt ≠ 0) (c19 : (lg_cmp (xqs (xqs (xfr (xvv xs)))) (0 : Int64)).toInt = 0) (c20 : (xbn (xq (xqs (xfr (xvv xs))))).toInt = B.toInt - 30) (c21 : (xq (xqs (xfr (xvv xs)))).toInt ≠ 0) (c22 : 0 ≤ (xq (xqs (xfr (xvv xs)))).toInt) (c23 : K.toInt ≠ 0) (c24 : K / (30 : Int32) = 1) (c25 : K - K / (30 : Int32) * (30 : Int32) = P) (c26 : ((0 : Int32) ||| (xH (xq (xqs (xfr (xvv xs)))) P)).toInt = 0) (c27 : ((xL (xq (xqs (xfr (xvv xs)))) P) ||| (xH (xq (xfr (xvv xs))) P)).toInt ≠ 0) (c28 : 0 ≤ ((xL (xq (xqs (xfr (xvv xs)))) P) ||| (xH (xq (xfr (xvv xs))) P)).toInt) (c29 : (xbn ((xL (xq (xqs (xfr (xvv xs)))) P) ||| (xH (xq (xfr (xvv xs))) P))).toInt = 4) (c30 : G.toInt = B.toInt - 31) (hr : xRun (d + 6) 180 [Value.ref 128, Value.int (xs 1), Value.ref 129, Value.int (-1074), Value.int 0, Value.int 0, Value.int (xs 4)] (((((w.set 129 (Sum.inr (13, [Value.ref 130, Value.int 0]))).set 130 (Sum.inl (0, 4700, xup (fun _ => Value.int 0) (0 : Int32).toInt.toNat (Value.int (xq (xfr (xvv xs))))))).set 129 (Sum.inr (13, [Value.ref 130, Value.int 1]))).set 130 (Sum.inl (0, 4700, xup (xup (fun _ => Value.int 0) (0 : Int32).toInt.toNat (Value.int (xq (xfr (xvv xs))))) (1 : Int32).toInt.toNat (Value.int (xq (xqs (xfr (xvv xs)))))))).set 129 (Sum.inr (13, [Value.ref 130, Value.int 2]))) (.inl (some (Value.int b))) w2) : xRun (d + 7) 248 [Value.ref 128, Value.int (xs 1), Value.long (xvv xs), Value.int (xs 4)] w (.inl (some (Value.int b))) w2 := by
  refine xRun.of ?_
  refine i_248_0 (x := (xs 1)) rfl ?_
  refine i_248_1 (Nat.le_of_ble_eq_true rfl) (s_168_0 (by omega) (by omega)) ?_
  refine i_248_4 (x := (xs 4)) rfl ?_
  refine i_248_6 (Nat.le_of_ble_eq_true rfl) (s_178_0 (by omega) (by omega)) ?_
  refine i_248_9 (x := (xvv xs)) rfl ?_
  refine i_248_10 ?_
  refine i_248_12 (c := ((xvv xs) >>> ((52 : Int32).toInt64 &&& 63))) rfl ?_
  refine i_248_13 (c := ((xvv xs) >>> ((52 : Int32).toInt64 &&& 63)).toInt32) rfl ?_
  refine i_248_14 ?_
  refine i_248_17 (c := (xfd (xvv xs))) (show (xfe (xvv xs)) = (xfd (xvv xs)) from (xfe_eq _)) ?_
  refine i_248_18 (lv2 := [(5, Value.int (xfd (xvv xs))), (0, Value.ref 128), (1, Value.int (xs 1)), (2, Value.long (xvv xs)), (4, Value.int (xs 4))]) rfl ?_
  refine i_248_20 (x := (xvv xs)) rfl ?_
  refine i_248_21 ?_
  refine i_248_24 (c := (xfr (xvv xs))) rfl ?_
  refine i_248_25 (lv2 := [(6, Value.long (xfr (xvv xs))), (5, Value.int (xfd (xvv xs))), (0, Value.ref 128), (1, Value.int (xs 1)), (2, Value.long (xvv xs)), (4, Value.int (xs 4))]) rfl ?_
  refine i_248_27 (x := (xfd (xvv xs))) rfl ?_
  refine i_248_29 ?_
  refine i_248_32 (fun _ => ?_) (fun h => absurd (show (xfd (xvv xs)).toInt ≠ 2047 by omega) (fun g => g h))
  refine i_248_71 (x := (xfd (xvv xs))) rfl ?_
  refine i_248_73 (fun h => absurd (show (xfd (xvv xs)).toInt = 0 by omega) h) (fun _ => ?_)
  refine i_248_76 (x := (xfr (xvv xs))) rfl ?_
  refine i_248_78 ?_
  refine i_248_79 (c := (lg_cmp (xfr (xvv xs)) (0 : Int64))) rfl ?_
  refine i_248_80 (fun _ => ?_) (fun h => absurd (show (lg_cmp (xfr (xvv xs)) (0 : Int64)).toInt ≠ 0 by omega) (fun g => g h))
  refine i_248_101 (x := 128) rfl ?_
  refine i_248_102 (v := Value.ref 129) hm rfl ?_
  refine i_248_105 (x := (xfd (xvv xs))) rfl ?_
  refine i_248_107 (fun h => absurd (show (xfd (xvv xs)).toInt = 0 by omega) h) (fun _ => ?_)
  refine i_248_110 (x := (xfr (xvv xs))) rfl ?_
  refine i_248_112 ?_
  refine i_248_121 ((hk 129 (by decide) (by decide)).trans W0_129) (Nat.le_of_ble_eq_true rfl) (s_179_4 ((hk 129 (by decide) (by decide)).trans W0_129) (by omega) ((hk 130 (by decide) (by decide)).trans W0_130) (by omega) (show (lg_cmp (xqs (xqs (xfr (xvv xs)))) (0 : Int64)) = 0 from (xge_c (n := 0) (by omega) rfl))) ?_
  refine i_248_124 (x := 128) rfl ?_
  refine i_248_125 (x := (xs 1)) rfl ?_
  refine i_248_126 (x := 128) rfl ?_
  refine i_248_127 (v := Value.ref 129) (xgn (by decide) (xgn (by decide) (xgn (by decide) (xgn (by decide) (xgn (by decide) hm))))) rfl ?_
  refine i_248_130 (x := (xfd (xvv xs))) rfl ?_
  refine i_248_132 (fun h => absurd (show (xfd (xvv xs)).toInt = 0 by omega) h) (fun _ => ?_)
  refine i_248_135 ?_
  refine i_248_136 ?_
  refine i_248_141 ?_
  refine i_248_144 (c := (-1074)) (by decide) ?_
  refine i_248_145 ?_
  refine i_248_146 (x := (xvv xs)) rfl ?_
  refine i_248_147 ?_
  refine i_248_148 (c := (lg_cmp (xvv xs) (0 : Int64))) rfl ?_
  refine i_248_149 (fun _ => ?_) (fun h => absurd (show 0 ≤ (lg_cmp (xvv xs) (0 : Int64)).toInt by omega) (Int.not_le.mpr h))
  refine i_248_156 ?_
  refine i_248_157 (x := (xs 4)) rfl ?_
  refine i_248_159 (xgn (by decide) (xgn (by decide) (xgn (by decide) (xgn (by decide) (xgn (by decide) hm))))) (Nat.le_of_ble_eq_true rfl) hr ?_
  exact i_248_162 ⟨rfl, rfl⟩
theorem mn16_00_4 {d : Nat} {xs : Nat → Int32} {w w2 : xW} {b : Int32} {B K P G : Int32} (hk : ∀ h, 129 ≤ h → h < 194 → w[h]? = (W0 6 xs)[h]?) (hm : w[128]? = some (Sum.inr (12, [Value.ref 129, Value.ref 131, Value.ref 133, Value.ref 135, Value.ref 137, Value.ref 139, Value.ref 141, Value.ref 143, Value.ref 145, Value.ref 147, Value.ref 149, Value.ref 151, Value.ref 153, Value.ref 154, Value.ref 155, Value.ref 156, Value.ref 157, Value.int (-16384), Value.int 16384, Value.int 0, Value.int 0, Value.int 0, Value.ref 158, Value.ref 159, Value.int 0, Value.int 0, Value.int 0, Value.int 0, Value.int 0, Value.int 0, Value.int 0, Value.int 0]))) (c0 : 0 ≤ (xs 1).toInt) (c1 : (xs 1).toInt < 16) (c2 : 0 ≤ (xs 4).toInt) (c3 : (xs 4).toInt ≤ 4) (c4 : 0 ≤ (xfd (xvv xs)).toInt) (c5 : (xfd (xvv xs)).toInt ≤ 2047) (c6 : (xfd (xvv xs)).toInt ≠ 2047) (c7 : (xfd (xvv xs)).toInt = 0) (c8 : (lg_cmp (xfr (xvv xs)) (0 : Int64)).toInt ≠ 0) (c9 : 0 ≤ (lg_cmp (xvv xs) (0 : Int64)).toInt) (c10 : K.toInt = 64 - B.toInt) (c11 : 33 ≤ B.toInt) (c12 : B.toInt ≤ 34) (c13 : (xhi (xfr (xvv xs))).toInt ≠ 0) (c14 : (xnlz (xhi (xfr (xvv xs)))).toInt = 64 - B.toInt) (c15 : (xbf 2 (xlo (xfr (xvv xs))) (xhi (xfr (xvv xs))) ((32 : Int32) - K)).toInt ≠ 0) (c16 : (lg_cmp (xfr (xvv xs)) (0 : Int64)).toInt ≠ 0) (c17 : (lg_cmp (xqs (xfr (xvv xs))) (0 : Int64)).toInt ≠ 0) (c18 : (lg_cmp (xqs (xqs (xfr (xvv xs)))) (0 : Int64)).toInt = 0) (c19 : (xbn (xq (xqs (xfr (xvv xs))))).toInt = B.toInt - 30) (c20 : (xq (xqs (xfr (xvv xs)))).toInt ≠ 0) (c21 : 0 ≤ (xq (xqs (xfr (xvv xs)))).toInt) (c22 : K.toInt ≠ 0) (c23 : K / (30 : Int32) = 1) (c24 : K - K / (30 : Int32) * (30 : Int32) = P) (c25 : ((0 : Int32) ||| (xH (xq (xqs (xfr (xvv xs)))) P)).toInt = 0) (c26 : ((xL (xq (xqs (xfr (xvv xs)))) P) ||| (xH (xq (xfr (xvv xs))) P)).toInt ≠ 0) (c27 : 0 ≤ ((xL (xq (xqs (xfr (xvv xs)))) P) ||| (xH (xq (xfr (xvv xs))) P)).toInt) (c28 : (xbn ((xL (xq (xqs (xfr (xvv xs)))) P) ||| (xH (xq (xfr (xvv xs))) P))).toInt = 4) (c29 : G.toInt = B.toInt - 31) (hr : xRun (d + 6) 180 [Value.ref 128, Value.int (xs 1), Value.ref 129, Value.int (-1074), Value.int 0, Value.int 0, Value.int (xs 4)] (((((w.set 129 (Sum.inr (13, [Value.ref 130, Value.int 0]))).set 130 (Sum.inl (0, 4700, xup (fun _ => Value.int 0) (0 : Int32).toInt.toNat (Value.int (xq (xfr (xvv xs))))))).set 129 (Sum.inr (13, [Value.ref 130, Value.int 1]))).set 130 (Sum.inl (0, 4700, xup (xup (fun _ => Value.int 0) (0 : Int32).toInt.toNat (Value.int (xq (xfr (xvv xs))))) (1 : Int32).toInt.toNat (Value.int (xq (xqs (xfr (xvv xs)))))))).set 129 (Sum.inr (13, [Value.ref 130, Value.int 2]))) (.inl (some (Value.int b))) w2) : xRun (d + 7) 248 [Value.ref 128, Value.int (xs 1), Value.long (xvv xs), Value.int (xs 4)] w (.inl (some (Value.int b))) w2 := by
  refine xRun.of ?_
  refine i_248_0 (x := (xs 1)) rfl ?_
  refine i_248_1 (Nat.le_of_ble_eq_true rfl) (s_168_0 (by omega) (by omega)) ?_
  refine i_248_4 (x := (xs 4)) rfl ?_
  refine i_248_6 (Nat.le_of_ble_eq_true rfl) (s_178_0 (by omega) (by omega)) ?_
  refine i_248_9 (x := (xvv xs)) rfl ?_
  refine i_248_10 ?_
  refine i_248_12 (c := ((xvv xs) >>> ((52 : Int32).toInt64 &&& 63))) rfl ?_
  refine i_248_13 (c := ((xvv xs) >>> ((52 : Int32).toInt64 &&& 63)).toInt32) rfl ?_
  refine i_248_14 ?_
  refine i_248_17 (c := (xfd (xvv xs))) (show (xfe (xvv xs)) = (xfd (xvv xs)) from (xfe_eq _)) ?_
  refine i_248_18 (lv2 := [(5, Value.int (xfd (xvv xs))), (0, Value.ref 128), (1, Value.int (xs 1)), (2, Value.long (xvv xs)), (4, Value.int (xs 4))]) rfl ?_
  refine i_248_20 (x := (xvv xs)) rfl ?_
  refine i_248_21 ?_
  refine i_248_24 (c := (xfr (xvv xs))) rfl ?_
  refine i_248_25 (lv2 := [(6, Value.long (xfr (xvv xs))), (5, Value.int (xfd (xvv xs))), (0, Value.ref 128), (1, Value.int (xs 1)), (2, Value.long (xvv xs)), (4, Value.int (xs 4))]) rfl ?_
  refine i_248_27 (x := (xfd (xvv xs))) rfl ?_
  refine i_248_29 ?_
  refine i_248_32 (fun _ => ?_) (fun h => absurd (show (xfd (xvv xs)).toInt ≠ 2047 by omega) (fun g => g h))
  refine i_248_71 (x := (xfd (xvv xs))) rfl ?_
  refine i_248_73 (fun h => absurd (show (xfd (xvv xs)).toInt = 0 by omega) h) (fun _ => ?_)
  refine i_248_76 (x := (xfr (xvv xs))) rfl ?_
  refine i_248_78 ?_
  refine i_248_79 (c := (lg_cmp (xfr (xvv xs)) (0 : Int64))) rfl ?_
  refine i_248_80 (fun _ => ?_) (fun h => absurd (show (lg_cmp (xfr (xvv xs)) (0 : Int64)).toInt ≠ 0 by omega) (fun g => g h))
  refine i_248_101 (x := 128) rfl ?_
  refine i_248_102 (v := Value.ref 129) hm rfl ?_
  refine i_248_105 (x := (xfd (xvv xs))) rfl ?_
  refine i_248_107 (fun h => absurd (show (xfd (xvv xs)).toInt = 0 by omega) h) (fun _ => ?_)
  refine i_248_110 (x := (xfr (xvv xs))) rfl ?_
  refine i_248_112 ?_
  refine i_248_121 ((hk 129 (by decide) (by decide)).trans W0_129) (Nat.le_of_ble_eq_true rfl) (s_179_4 ((hk 129 (by decide) (by decide)).trans W0_129) (by omega) ((hk 130 (by decide) (by decide)).trans W0_130) (by omega) (show (lg_cmp (xqs (xqs (xfr (xvv xs)))) (0 : Int64)) = 0 from (xge_c (n := 0) (by omega) rfl))) ?_
  refine i_248_124 (x := 128) rfl ?_
  refine i_248_125 (x := (xs 1)) rfl ?_
  refine i_248_126 (x := 128) rfl ?_
  refine i_248_127 (v := Value.ref 129) (xgn (by decide) (xgn (by decide) (xgn (by decide) (xgn (by decide) (xgn (by decide) hm))))) rfl ?_
  refine i_248_130 (x := (xfd (xvv xs))) rfl ?_
  refine i_248_132 (fun h => absurd (show (xfd (xvv xs)).toInt = 0 by omega) h) (fun _ => ?_)
  refine i_248_135 ?_
  refine i_248_136 ?_
  refine i_248_141 ?_
  refine i_248_144 (c := (-1074)) (by decide) ?_
  refine i_248_145 ?_
  refine i_248_146 (x := (xvv xs)) rfl ?_
  refine i_248_147 ?_
  refine i_248_148 (c := (lg_cmp (xvv xs) (0 : Int64))) rfl ?_
  refine i_248_149 (fun _ => ?_) (fun h => absurd (show 0 ≤ (lg_cmp (xvv xs) (0 : Int64)).toInt by omega) (Int.not_le.mpr h))
  refine i_248_156 ?_
  refine i_248_157 (x := (xs 4)) rfl ?_
  refine i_248_159 (xgn (by decide) (xgn (by decide) (xgn (by decide) (xgn (by decide) (xgn (by decide) hm))))) (Nat.le_of_ble_eq_true rfl) hr ?_
  exact i_248_162 ⟨rfl, rfl⟩
theorem mn16_00_5 {d : Nat} {xs : Nat → Int32} {w w2 : xW} {b : Int32} {B K P G : Int32} (hk : ∀ h, 129 ≤ h → h < 194 → w[h]? = (W0 6 xs)[h]?) (hm : w[128]? = some (Sum.inr (12, [Value.ref 129, Value.ref 131, Value.ref 133, Value.ref 135, Value.ref 137, Value.ref 139, Value.ref 141, Value.ref 143, Value.ref 145, Value.ref 147, Value.ref 149, Value.ref 151, Value.ref 153, Value.ref 154, Value.ref 155, Value.ref 156, Value.ref 157, Value.int (-16384), Value.int 16384, Value.int 0, Value.int 0, Value.int 0, Value.ref 158, Value.ref 159, Value.int 0, Value.int 0, Value.int 0, Value.int 0, Value.int 0, Value.int 0, Value.int 0, Value.int 0]))) (c0 : 0 ≤ (xs 1).toInt) (c1 : (xs 1).toInt < 16) (c2 : 0 ≤ (xs 4).toInt) (c3 : (xs 4).toInt ≤ 4) (c4 : 0 ≤ (xfd (xvv xs)).toInt) (c5 : (xfd (xvv xs)).toInt ≤ 2047) (c6 : (xfd (xvv xs)).toInt ≠ 2047) (c7 : (xfd (xvv xs)).toInt = 0) (c8 : (lg_cmp (xfr (xvv xs)) (0 : Int64)).toInt ≠ 0) (c9 : 0 ≤ (lg_cmp (xvv xs) (0 : Int64)).toInt) (c10 : K.toInt = 64 - B.toInt) (c11 : 35 ≤ B.toInt) (c12 : B.toInt ≤ 60) (c13 : (xhi (xfr (xvv xs))).toInt ≠ 0) (c14 : (xnlz (xhi (xfr (xvv xs)))).toInt = 64 - B.toInt) (c15 : (xbf 2 (xlo (xfr (xvv xs))) (xhi (xfr (xvv xs))) ((32 : Int32) - K)).toInt ≠ 0) (c16 : (lg_cmp (xfr (xvv xs)) (0 : Int64)).toInt ≠ 0) (c17 : (lg_cmp (xqs (xfr (xvv xs))) (0 : Int64)).toInt ≠ 0) (c18 : (lg_cmp (xqs (xqs (xfr (xvv xs)))) (0 : Int64)).toInt = 0) (c19 : (xbn (xq (xqs (xfr (xvv xs))))).toInt = B.toInt - 30) (c20 : (xq (xqs (xfr (xvv xs)))).toInt ≠ 0) (c21 : 0 ≤ (xq (xqs (xfr (xvv xs)))).toInt) (c22 : K.toInt ≠ 0) (c23 : K / (30 : Int32) = 0) (c24 : K - K / (30 : Int32) * (30 : Int32) = P) (c25 : ((0 : Int32) ||| (xH (xq (xqs (xfr (xvv xs)))) P)).toInt ≠ 0) (c26 : 0 ≤ ((0 : Int32) ||| (xH (xq (xqs (xfr (xvv xs)))) P)).toInt) (c27 : (xbn ((0 : Int32) ||| (xH (xq (xqs (xfr (xvv xs)))) P))).toInt = 4) (c28 : G.toInt = B.toInt - 31) (hr : xRun (d + 6) 180 [Value.ref 128, Value.int (xs 1), Value.ref 129, Value.int (-1074), Value.int 0, Value.int 0, Value.int (xs 4)] (((((w.set 129 (Sum.inr (13, [Value.ref 130, Value.int 0]))).set 130 (Sum.inl (0, 4700, xup (fun _ => Value.int 0) (0 : Int32).toInt.toNat (Value.int (xq (xfr (xvv xs))))))).set 129 (Sum.inr (13, [Value.ref 130, Value.int 1]))).set 130 (Sum.inl (0, 4700, xup (xup (fun _ => Value.int 0) (0 : Int32).toInt.toNat (Value.int (xq (xfr (xvv xs))))) (1 : Int32).toInt.toNat (Value.int (xq (xqs (xfr (xvv xs)))))))).set 129 (Sum.inr (13, [Value.ref 130, Value.int 2]))) (.inl (some (Value.int b))) w2) : xRun (d + 7) 248 [Value.ref 128, Value.int (xs 1), Value.long (xvv xs), Value.int (xs 4)] w (.inl (some (Value.int b))) w2 := by
  refine xRun.of ?_
  refine i_248_0 (x := (xs 1)) rfl ?_
  refine i_248_1 (Nat.le_of_ble_eq_true rfl) (s_168_0 (by omega) (by omega)) ?_
  refine i_248_4 (x := (xs 4)) rfl ?_
  refine i_248_6 (Nat.le_of_ble_eq_true rfl) (s_178_0 (by omega) (by omega)) ?_
  refine i_248_9 (x := (xvv xs)) rfl ?_
  refine i_248_10 ?_
  refine i_248_12 (c := ((xvv xs) >>> ((52 : Int32).toInt64 &&& 63))) rfl ?_
  refine i_248_13 (c := ((xvv xs) >>> ((52 : Int32).toInt64 &&& 63)).toInt32) rfl ?_
  refine i_248_14 ?_
  refine i_248_17 (c := (xfd (xvv xs))) (show (xfe (xvv xs)) = (xfd (xvv xs)) from (xfe_eq _)) ?_
  refine i_248_18 (lv2 := [(5, Value.int (xfd (xvv xs))), (0, Value.ref 128), (1, Value.int (xs 1)), (2, Value.long (xvv xs)), (4, Value.int (xs 4))]) rfl ?_
  refine i_248_20 (x := (xvv xs)) rfl ?_
  refine i_248_21 ?_
  refine i_248_24 (c := (xfr (xvv xs))) rfl ?_
  refine i_248_25 (lv2 := [(6, Value.long (xfr (xvv xs))), (5, Value.int (xfd (xvv xs))), (0, Value.ref 128), (1, Value.int (xs 1)), (2, Value.long (xvv xs)), (4, Value.int (xs 4))]) rfl ?_
  refine i_248_27 (x := (xfd (xvv xs))) rfl ?_
  refine i_248_29 ?_
  refine i_248_32 (fun _ => ?_) (fun h => absurd (show (xfd (xvv xs)).toInt ≠ 2047 by omega) (fun g => g h))
  refine i_248_71 (x := (xfd (xvv xs))) rfl ?_
  refine i_248_73 (fun h => absurd (show (xfd (xvv xs)).toInt = 0 by omega) h) (fun _ => ?_)
  refine i_248_76 (x := (xfr (xvv xs))) rfl ?_
  refine i_248_78 ?_
  refine i_248_79 (c := (lg_cmp (xfr (xvv xs)) (0 : Int64))) rfl ?_
  refine i_248_80 (fun _ => ?_) (fun h => absurd (show (lg_cmp (xfr (xvv xs)) (0 : Int64)).toInt ≠ 0 by omega) (fun g => g h))
  refine i_248_101 (x := 128) rfl ?_
  refine i_248_102 (v := Value.ref 129) hm rfl ?_
  refine i_248_105 (x := (xfd (xvv xs))) rfl ?_
  refine i_248_107 (fun h => absurd (show (xfd (xvv xs)).toInt = 0 by omega) h) (fun _ => ?_)
  refine i_248_110 (x := (xfr (xvv xs))) rfl ?_
  refine i_248_112 ?_
  refine i_248_121 ((hk 129 (by decide) (by decide)).trans W0_129) (Nat.le_of_ble_eq_true rfl) (s_179_4 ((hk 129 (by decide) (by decide)).trans W0_129) (by omega) ((hk 130 (by decide) (by decide)).trans W0_130) (by omega) (show (lg_cmp (xqs (xqs (xfr (xvv xs)))) (0 : Int64)) = 0 from (xge_c (n := 0) (by omega) rfl))) ?_
  refine i_248_124 (x := 128) rfl ?_
  refine i_248_125 (x := (xs 1)) rfl ?_
  refine i_248_126 (x := 128) rfl ?_
  refine i_248_127 (v := Value.ref 129) (xgn (by decide) (xgn (by decide) (xgn (by decide) (xgn (by decide) (xgn (by decide) hm))))) rfl ?_
  refine i_248_130 (x := (xfd (xvv xs))) rfl ?_
  refine i_248_132 (fun h => absurd (show (xfd (xvv xs)).toInt = 0 by omega) h) (fun _ => ?_)
  refine i_248_135 ?_
  refine i_248_136 ?_
  refine i_248_141 ?_
  refine i_248_144 (c := (-1074)) (by decide) ?_
  refine i_248_145 ?_
  refine i_248_146 (x := (xvv xs)) rfl ?_
  refine i_248_147 ?_
  refine i_248_148 (c := (lg_cmp (xvv xs) (0 : Int64))) rfl ?_
  refine i_248_149 (fun _ => ?_) (fun h => absurd (show 0 ≤ (lg_cmp (xvv xs) (0 : Int64)).toInt by omega) (Int.not_le.mpr h))
  refine i_248_156 ?_
  refine i_248_157 (x := (xs 4)) rfl ?_
  refine i_248_159 (xgn (by decide) (xgn (by decide) (xgn (by decide) (xgn (by decide) (xgn (by decide) hm))))) (Nat.le_of_ble_eq_true rfl) hr ?_
  exact i_248_162 ⟨rfl, rfl⟩
theorem mn16_00_6 {d : Nat} {xs : Nat → Int32} {w w2 : xW} {b : Int32} {B K P G : Int32} (hk : ∀ h, 129 ≤ h → h < 194 → w[h]? = (W0 6 xs)[h]?) (hm : w[128]? = some (Sum.inr (12, [Value.ref 129, Value.ref 131, Value.ref 133, Value.ref 135, Value.ref 137, Value.ref 139, Value.ref 141, Value.ref 143, Value.ref 145, Value.ref 147, Value.ref 149, Value.ref 151, Value.ref 153, Value.ref 154, Value.ref 155, Value.ref 156, Value.ref 157, Value.int (-16384), Value.int 16384, Value.int 0, Value.int 0, Value.int 0, Value.ref 158, Value.ref 159, Value.int 0, Value.int 0, Value.int 0, Value.int 0, Value.int 0, Value.int 0, Value.int 0, Value.int 0]))) (c0 : 0 ≤ (xs 1).toInt) (c1 : (xs 1).toInt < 16) (c2 : 0 ≤ (xs 4).toInt) (c3 : (xs 4).toInt ≤ 4) (c4 : 0 ≤ (xfd (xvv xs)).toInt) (c5 : (xfd (xvv xs)).toInt ≤ 2047) (c6 : (xfd (xvv xs)).toInt ≠ 2047) (c7 : (xfd (xvv xs)).toInt = 0) (c8 : (lg_cmp (xfr (xvv xs)) (0 : Int64)).toInt ≠ 0) (c9 : 0 ≤ (lg_cmp (xvv xs) (0 : Int64)).toInt) (c10 : K.toInt = 64 - B.toInt) (c11 : 61 ≤ B.toInt) (c12 : B.toInt ≤ 63) (c13 : (xhi (xfr (xvv xs))).toInt ≠ 0) (c14 : (xnlz (xhi (xfr (xvv xs)))).toInt = 64 - B.toInt) (c15 : (xbf 2 (xlo (xfr (xvv xs))) (xhi (xfr (xvv xs))) ((32 : Int32) - K)).toInt ≠ 0) (c16 : (lg_cmp (xfr (xvv xs)) (0 : Int64)).toInt ≠ 0) (c17 : (lg_cmp (xqs (xfr (xvv xs))) (0 : Int64)).toInt ≠ 0) (c18 : (lg_cmp (xqs (xqs (xfr (xvv xs)))) (0 : Int64)).toInt ≠ 0) (c19 : (lg_cmp (xqs (xqs (xqs (xfr (xvv xs))))) (0 : Int64)).toInt = 0) (c20 : (xbn (xq (xqs (xqs (xfr (xvv xs)))))).toInt = B.toInt - 60) (c21 : (xq (xqs (xqs (xfr (xvv xs))))).toInt ≠ 0) (c22 : 0 ≤ (xq (xqs (xqs (xfr (xvv xs))))).toInt) (c23 : K.toInt ≠ 0) (c24 : K / (30 : Int32) = 0) (c25 : K - K / (30 : Int32) * (30 : Int32) = P) (c26 : ((0 : Int32) ||| (xH (xq (xqs (xqs (xfr (xvv xs))))) P)).toInt = 0) (c27 : ((xL (xq (xqs (xqs (xfr (xvv xs))))) P) ||| (xH (xq (xqs (xfr (xvv xs)))) P)).toInt ≠ 0) (c28 : 0 ≤ ((xL (xq (xqs (xqs (xfr (xvv xs))))) P) ||| (xH (xq (xqs (xfr (xvv xs)))) P)).toInt) (c29 : (xbn ((xL (xq (xqs (xqs (xfr (xvv xs))))) P) ||| (xH (xq (xqs (xfr (xvv xs)))) P))).toInt = 4) (c30 : G.toInt = B.toInt - 61) (hr : xRun (d + 6) 180 [Value.ref 128, Value.int (xs 1), Value.ref 129, Value.int (-1074), Value.int 0, Value.int 0, Value.int (xs 4)] (((((((w.set 129 (Sum.inr (13, [Value.ref 130, Value.int 0]))).set 130 (Sum.inl (0, 4700, xup (fun _ => Value.int 0) (0 : Int32).toInt.toNat (Value.int (xq (xfr (xvv xs))))))).set 129 (Sum.inr (13, [Value.ref 130, Value.int 1]))).set 130 (Sum.inl (0, 4700, xup (xup (fun _ => Value.int 0) (0 : Int32).toInt.toNat (Value.int (xq (xfr (xvv xs))))) (1 : Int32).toInt.toNat (Value.int (xq (xqs (xfr (xvv xs)))))))).set 129 (Sum.inr (13, [Value.ref 130, Value.int 2]))).set 130 (Sum.inl (0, 4700, xup (xup (xup (fun _ => Value.int 0) (0 : Int32).toInt.toNat (Value.int (xq (xfr (xvv xs))))) (1 : Int32).toInt.toNat (Value.int (xq (xqs (xfr (xvv xs)))))) (2 : Int32).toInt.toNat (Value.int (xq (xqs (xqs (xfr (xvv xs))))))))).set 129 (Sum.inr (13, [Value.ref 130, Value.int 3]))) (.inl (some (Value.int b))) w2) : xRun (d + 7) 248 [Value.ref 128, Value.int (xs 1), Value.long (xvv xs), Value.int (xs 4)] w (.inl (some (Value.int b))) w2 := by
  refine xRun.of ?_
  refine i_248_0 (x := (xs 1)) rfl ?_
  refine i_248_1 (Nat.le_of_ble_eq_true rfl) (s_168_0 (by omega) (by omega)) ?_
  refine i_248_4 (x := (xs 4)) rfl ?_
  refine i_248_6 (Nat.le_of_ble_eq_true rfl) (s_178_0 (by omega) (by omega)) ?_
  refine i_248_9 (x := (xvv xs)) rfl ?_
  refine i_248_10 ?_
  refine i_248_12 (c := ((xvv xs) >>> ((52 : Int32).toInt64 &&& 63))) rfl ?_
  refine i_248_13 (c := ((xvv xs) >>> ((52 : Int32).toInt64 &&& 63)).toInt32) rfl ?_
  refine i_248_14 ?_
  refine i_248_17 (c := (xfd (xvv xs))) (show (xfe (xvv xs)) = (xfd (xvv xs)) from (xfe_eq _)) ?_
  refine i_248_18 (lv2 := [(5, Value.int (xfd (xvv xs))), (0, Value.ref 128), (1, Value.int (xs 1)), (2, Value.long (xvv xs)), (4, Value.int (xs 4))]) rfl ?_
  refine i_248_20 (x := (xvv xs)) rfl ?_
  refine i_248_21 ?_
  refine i_248_24 (c := (xfr (xvv xs))) rfl ?_
  refine i_248_25 (lv2 := [(6, Value.long (xfr (xvv xs))), (5, Value.int (xfd (xvv xs))), (0, Value.ref 128), (1, Value.int (xs 1)), (2, Value.long (xvv xs)), (4, Value.int (xs 4))]) rfl ?_
  refine i_248_27 (x := (xfd (xvv xs))) rfl ?_
  refine i_248_29 ?_
  refine i_248_32 (fun _ => ?_) (fun h => absurd (show (xfd (xvv xs)).toInt ≠ 2047 by omega) (fun g => g h))
  refine i_248_71 (x := (xfd (xvv xs))) rfl ?_
  refine i_248_73 (fun h => absurd (show (xfd (xvv xs)).toInt = 0 by omega) h) (fun _ => ?_)
  refine i_248_76 (x := (xfr (xvv xs))) rfl ?_
  refine i_248_78 ?_
  refine i_248_79 (c := (lg_cmp (xfr (xvv xs)) (0 : Int64))) rfl ?_
  refine i_248_80 (fun _ => ?_) (fun h => absurd (show (lg_cmp (xfr (xvv xs)) (0 : Int64)).toInt ≠ 0 by omega) (fun g => g h))
  refine i_248_101 (x := 128) rfl ?_
  refine i_248_102 (v := Value.ref 129) hm rfl ?_
  refine i_248_105 (x := (xfd (xvv xs))) rfl ?_
  refine i_248_107 (fun h => absurd (show (xfd (xvv xs)).toInt = 0 by omega) h) (fun _ => ?_)
  refine i_248_110 (x := (xfr (xvv xs))) rfl ?_
  refine i_248_112 ?_
  refine i_248_121 ((hk 129 (by decide) (by decide)).trans W0_129) (Nat.le_of_ble_eq_true rfl) (s_179_5 ((hk 129 (by decide) (by decide)).trans W0_129) (by omega) ((hk 130 (by decide) (by decide)).trans W0_130) (by omega) (by omega) (show (lg_cmp (xqs (xqs (xqs (xfr (xvv xs))))) (0 : Int64)) = 0 from (xge_c (n := 0) (by omega) rfl))) ?_
  refine i_248_124 (x := 128) rfl ?_
  refine i_248_125 (x := (xs 1)) rfl ?_
  refine i_248_126 (x := 128) rfl ?_
  refine i_248_127 (v := Value.ref 129) (xgn (by decide) (xgn (by decide) (xgn (by decide) (xgn (by decide) (xgn (by decide) (xgn (by decide) (xgn (by decide) hm))))))) rfl ?_
  refine i_248_130 (x := (xfd (xvv xs))) rfl ?_
  refine i_248_132 (fun h => absurd (show (xfd (xvv xs)).toInt = 0 by omega) h) (fun _ => ?_)
  refine i_248_135 ?_
  refine i_248_136 ?_
  refine i_248_141 ?_
  refine i_248_144 (c := (-1074)) (by decide) ?_
  refine i_248_145 ?_
  refine i_248_146 (x := (xvv xs)) rfl ?_
  refine i_248_147 ?_
  refine i_248_148 (c := (lg_cmp (xvv xs) (0 : Int64))) rfl ?_
  refine i_248_149 (fun _ => ?_) (fun h => absurd (show 0 ≤ (lg_cmp (xvv xs) (0 : Int64)).toInt by omega) (Int.not_le.mpr h))
  refine i_248_156 ?_
  refine i_248_157 (x := (xs 4)) rfl ?_
  refine i_248_159 (xgn (by decide) (xgn (by decide) (xgn (by decide) (xgn (by decide) (xgn (by decide) (xgn (by decide) (xgn (by decide) hm))))))) (Nat.le_of_ble_eq_true rfl) hr ?_
  exact i_248_162 ⟨rfl, rfl⟩
theorem mn16_00_7 {d : Nat} {xs : Nat → Int32} {w w2 : xW} {b : Int32} {B K G : Int32} (hk : ∀ h, 129 ≤ h → h < 194 → w[h]? = (W0 6 xs)[h]?) (hm : w[128]? = some (Sum.inr (12, [Value.ref 129, Value.ref 131, Value.ref 133, Value.ref 135, Value.ref 137, Value.ref 139, Value.ref 141, Value.ref 143, Value.ref 145, Value.ref 147, Value.ref 149, Value.ref 151, Value.ref 153, Value.ref 154, Value.ref 155, Value.ref 156, Value.ref 157, Value.int (-16384), Value.int 16384, Value.int 0, Value.int 0, Value.int 0, Value.ref 158, Value.ref 159, Value.int 0, Value.int 0, Value.int 0, Value.int 0, Value.int 0, Value.int 0, Value.int 0, Value.int 0]))) (c0 : 0 ≤ (xs 1).toInt) (c1 : (xs 1).toInt < 16) (c2 : 0 ≤ (xs 4).toInt) (c3 : (xs 4).toInt ≤ 4) (c4 : 0 ≤ (xfd (xvv xs)).toInt) (c5 : (xfd (xvv xs)).toInt ≤ 2047) (c6 : (xfd (xvv xs)).toInt ≠ 2047) (c7 : (xfd (xvv xs)).toInt = 0) (c8 : (lg_cmp (xfr (xvv xs)) (0 : Int64)).toInt ≠ 0) (c9 : 0 ≤ (lg_cmp (xvv xs) (0 : Int64)).toInt) (c10 : K.toInt = 64 - B.toInt) (c11 : 64 ≤ B.toInt) (c12 : B.toInt ≤ 64) (c13 : (xhi (xfr (xvv xs))).toInt ≠ 0) (c14 : (xnlz (xhi (xfr (xvv xs)))).toInt = 64 - B.toInt) (c15 : (xbf 2 (xlo (xfr (xvv xs))) (xhi (xfr (xvv xs))) ((32 : Int32) - K)).toInt ≠ 0) (c16 : (lg_cmp (xfr (xvv xs)) (0 : Int64)).toInt ≠ 0) (c17 : (lg_cmp (xqs (xfr (xvv xs))) (0 : Int64)).toInt ≠ 0) (c18 : (lg_cmp (xqs (xqs (xfr (xvv xs)))) (0 : Int64)).toInt ≠ 0) (c19 : (lg_cmp (xqs (xqs (xqs (xfr (xvv xs))))) (0 : Int64)).toInt = 0) (c20 : (xbn (xq (xqs (xqs (xfr (xvv xs)))))).toInt = B.toInt - 60) (c21 : (xq (xqs (xqs (xfr (xvv xs))))).toInt ≠ 0) (c22 : 0 ≤ (xq (xqs (xqs (xfr (xvv xs))))).toInt) (c23 : K.toInt = 0) (c24 : (xbn (xq (xqs (xqs (xfr (xvv xs)))))).toInt = 4) (c25 : G.toInt = B.toInt - 61) (hr : xRun (d + 6) 180 [Value.ref 128, Value.int (xs 1), Value.ref 129, Value.int (-1074), Value.int 0, Value.int 0, Value.int (xs 4)] (((((((w.set 129 (Sum.inr (13, [Value.ref 130, Value.int 0]))).set 130 (Sum.inl (0, 4700, xup (fun _ => Value.int 0) (0 : Int32).toInt.toNat (Value.int (xq (xfr (xvv xs))))))).set 129 (Sum.inr (13, [Value.ref 130, Value.int 1]))).set 130 (Sum.inl (0, 4700, xup (xup (fun _ => Value.int 0) (0 : Int32).toInt.toNat (Value.int (xq (xfr (xvv xs))))) (1 : Int32).toInt.toNat (Value.int (xq (xqs (xfr (xvv xs)))))))).set 129 (Sum.inr (13, [Value.ref 130, Value.int 2]))).set 130 (Sum.inl (0, 4700, xup (xup (xup (fun _ => Value.int 0) (0 : Int32).toInt.toNat (Value.int (xq (xfr (xvv xs))))) (1 : Int32).toInt.toNat (Value.int (xq (xqs (xfr (xvv xs)))))) (2 : Int32).toInt.toNat (Value.int (xq (xqs (xqs (xfr (xvv xs))))))))).set 129 (Sum.inr (13, [Value.ref 130, Value.int 3]))) (.inl (some (Value.int b))) w2) : xRun (d + 7) 248 [Value.ref 128, Value.int (xs 1), Value.long (xvv xs), Value.int (xs 4)] w (.inl (some (Value.int b))) w2 := by
  refine xRun.of ?_
  refine i_248_0 (x := (xs 1)) rfl ?_
  refine i_248_1 (Nat.le_of_ble_eq_true rfl) (s_168_0 (by omega) (by omega)) ?_
  refine i_248_4 (x := (xs 4)) rfl ?_
  refine i_248_6 (Nat.le_of_ble_eq_true rfl) (s_178_0 (by omega) (by omega)) ?_
  refine i_248_9 (x := (xvv xs)) rfl ?_
  refine i_248_10 ?_
  refine i_248_12 (c := ((xvv xs) >>> ((52 : Int32).toInt64 &&& 63))) rfl ?_
  refine i_248_13 (c := ((xvv xs) >>> ((52 : Int32).toInt64 &&& 63)).toInt32) rfl ?_
  refine i_248_14 ?_
  refine i_248_17 (c := (xfd (xvv xs))) (show (xfe (xvv xs)) = (xfd (xvv xs)) from (xfe_eq _)) ?_
  refine i_248_18 (lv2 := [(5, Value.int (xfd (xvv xs))), (0, Value.ref 128), (1, Value.int (xs 1)), (2, Value.long (xvv xs)), (4, Value.int (xs 4))]) rfl ?_
  refine i_248_20 (x := (xvv xs)) rfl ?_
  refine i_248_21 ?_
  refine i_248_24 (c := (xfr (xvv xs))) rfl ?_
  refine i_248_25 (lv2 := [(6, Value.long (xfr (xvv xs))), (5, Value.int (xfd (xvv xs))), (0, Value.ref 128), (1, Value.int (xs 1)), (2, Value.long (xvv xs)), (4, Value.int (xs 4))]) rfl ?_
  refine i_248_27 (x := (xfd (xvv xs))) rfl ?_
  refine i_248_29 ?_
  refine i_248_32 (fun _ => ?_) (fun h => absurd (show (xfd (xvv xs)).toInt ≠ 2047 by omega) (fun g => g h))
  refine i_248_71 (x := (xfd (xvv xs))) rfl ?_
  refine i_248_73 (fun h => absurd (show (xfd (xvv xs)).toInt = 0 by omega) h) (fun _ => ?_)
  refine i_248_76 (x := (xfr (xvv xs))) rfl ?_
  refine i_248_78 ?_
  refine i_248_79 (c := (lg_cmp (xfr (xvv xs)) (0 : Int64))) rfl ?_
  refine i_248_80 (fun _ => ?_) (fun h => absurd (show (lg_cmp (xfr (xvv xs)) (0 : Int64)).toInt ≠ 0 by omega) (fun g => g h))
  refine i_248_101 (x := 128) rfl ?_
  refine i_248_102 (v := Value.ref 129) hm rfl ?_
  refine i_248_105 (x := (xfd (xvv xs))) rfl ?_
  refine i_248_107 (fun h => absurd (show (xfd (xvv xs)).toInt = 0 by omega) h) (fun _ => ?_)
  refine i_248_110 (x := (xfr (xvv xs))) rfl ?_
  refine i_248_112 ?_
  refine i_248_121 ((hk 129 (by decide) (by decide)).trans W0_129) (Nat.le_of_ble_eq_true rfl) (s_179_5 ((hk 129 (by decide) (by decide)).trans W0_129) (by omega) ((hk 130 (by decide) (by decide)).trans W0_130) (by omega) (by omega) (show (lg_cmp (xqs (xqs (xqs (xfr (xvv xs))))) (0 : Int64)) = 0 from (xge_c (n := 0) (by omega) rfl))) ?_
  refine i_248_124 (x := 128) rfl ?_
  refine i_248_125 (x := (xs 1)) rfl ?_
  refine i_248_126 (x := 128) rfl ?_
  refine i_248_127 (v := Value.ref 129) (xgn (by decide) (xgn (by decide) (xgn (by decide) (xgn (by decide) (xgn (by decide) (xgn (by decide) (xgn (by decide) hm))))))) rfl ?_
  refine i_248_130 (x := (xfd (xvv xs))) rfl ?_
  refine i_248_132 (fun h => absurd (show (xfd (xvv xs)).toInt = 0 by omega) h) (fun _ => ?_)
  refine i_248_135 ?_
  refine i_248_136 ?_
  refine i_248_141 ?_
  refine i_248_144 (c := (-1074)) (by decide) ?_
  refine i_248_145 ?_
  refine i_248_146 (x := (xvv xs)) rfl ?_
  refine i_248_147 ?_
  refine i_248_148 (c := (lg_cmp (xvv xs) (0 : Int64))) rfl ?_
  refine i_248_149 (fun _ => ?_) (fun h => absurd (show 0 ≤ (lg_cmp (xvv xs) (0 : Int64)).toInt by omega) (Int.not_le.mpr h))
  refine i_248_156 ?_
  refine i_248_157 (x := (xs 4)) rfl ?_
  refine i_248_159 (xgn (by decide) (xgn (by decide) (xgn (by decide) (xgn (by decide) (xgn (by decide) (xgn (by decide) (xgn (by decide) hm))))))) (Nat.le_of_ble_eq_true rfl) hr ?_
  exact i_248_162 ⟨rfl, rfl⟩
theorem mdl16_00 {d : Nat} {xs : Nat → Int32} {w1 : xW} (k1 : xKp (W0 6 xs) w1 xPC) (c0 : 0 ≤ (xs 1).toInt) (c1 : (xs 1).toInt < 16) (c2 : 0 ≤ (xs 4).toInt) (c3 : (xs 4).toInt ≤ 4) (c4 : 0 ≤ (xfd (xvv xs)).toInt) (c5 : (xfd (xvv xs)).toInt ≤ 2047) (c6 : (xfd (xvv xs)).toInt ≠ 2047) (c7 : (xfd (xvv xs)).toInt = 0) (c8 : (lg_cmp (xfr (xvv xs)) (0 : Int64)).toInt ≠ 0) (c9 : 0 ≤ (lg_cmp (xvv xs) (0 : Int64)).toInt) : ∃ w2, xRun (d + 8) 247 [Value.ref 128, Value.int (xs 1), Value.long (xvv xs), Value.int (xs 4)] w1 (.inl (some (Value.int (xres 0 (xfr (xvv xs)) ((-1074) : Int32) (xs 4))))) w2 ∧ xKp w1 w2 xPM ∧ ∃ f, w2[128]? = some (xmo f) := by
  have hk1 : ∀ h, 128 ≤ h → h ≠ 194 → w1[h]? = (W0 6 xs)[h]? := fun h h1 h2 => k1.1 h (Or.inl ⟨h1, h2⟩)
  have hm1 : w1[128]? = some (Sum.inr (12, [Value.ref 129, Value.ref 131, Value.ref 133, Value.ref 135, Value.ref 137, Value.ref 139, Value.ref 141, Value.ref 143, Value.ref 145, Value.ref 147, Value.ref 149, Value.ref 151, Value.ref 153, Value.ref 154, Value.ref 155, Value.ref 156, Value.ref 157, Value.int (-16384), Value.int 16384, Value.int 0, Value.int 0, Value.int 0, Value.ref 158, Value.ref 159, Value.int 0, Value.int 0, Value.int 0, Value.int 0, Value.int 0, Value.int 0, Value.int 0, Value.int 0])) := (hk1 128 (by decide) (by decide)).trans W0_128
  have hk : ∀ h, 129 ≤ h → h < 194 → (w1.set 128 (Sum.inr (12, [Value.ref 129, Value.ref 131, Value.ref 133, Value.ref 135, Value.ref 137, Value.ref 139, Value.ref 141, Value.ref 143, Value.ref 145, Value.ref 147, Value.ref 149, Value.ref 151, Value.ref 153, Value.ref 154, Value.ref 155, Value.ref 156, Value.ref 157, Value.int (-16384), Value.int 16384, Value.int 0, Value.int 0, Value.int 0, Value.ref 158, Value.ref 159, Value.int 0, Value.int 0, Value.int 0, Value.int 0, Value.int 0, Value.int 0, Value.int 0, Value.int 0])))[h]? = (W0 6 xs)[h]? := fun h h1 h2 => (xgn (by omega) rfl).trans (hk1 h (by omega) (by omega))
  have hm : (w1.set 128 (Sum.inr (12, [Value.ref 129, Value.ref 131, Value.ref 133, Value.ref 135, Value.ref 137, Value.ref 139, Value.ref 141, Value.ref 143, Value.ref 145, Value.ref 147, Value.ref 149, Value.ref 151, Value.ref 153, Value.ref 154, Value.ref 155, Value.ref 156, Value.ref 157, Value.int (-16384), Value.int 16384, Value.int 0, Value.int 0, Value.int 0, Value.ref 158, Value.ref 159, Value.int 0, Value.int 0, Value.int 0, Value.int 0, Value.int 0, Value.int 0, Value.int 0, Value.int 0])))[128]? = some (Sum.inr (12, [Value.ref 129, Value.ref 131, Value.ref 133, Value.ref 135, Value.ref 137, Value.ref 139, Value.ref 141, Value.ref 143, Value.ref 145, Value.ref 147, Value.ref 149, Value.ref 151, Value.ref 153, Value.ref 154, Value.ref 155, Value.ref 156, Value.ref 157, Value.int (-16384), Value.int 16384, Value.int 0, Value.int 0, Value.int 0, Value.ref 158, Value.ref 159, Value.int 0, Value.int 0, Value.int 0, Value.int 0, Value.int 0, Value.int 0, Value.int 0, Value.int 0])) := xgs hm1
  have fs : ((-1074) : Int32).toInt = -1074 := rfl
  obtain ⟨B, K, P, G, hB, c10, hr⟩ := xreg (m := (xfr (xvv xs))) (xnm_p c8)
  rcases hr with ⟨c11, c12, c13, c14, c15, c16, c17, c18, c19, c20, c21, c22, c23, c24, c25, c26, c27, c28, c29⟩ | ⟨c11, c12, c13, c14, c15, c16, c17, c18, c19, c20, c21, c22, c23, c24, c25, c26, c27, c28⟩ | ⟨c11, c12, c13, c14, c15, c16, c17, c18, c19, c20, c21, c22, c23, c24, c25, c26, c27, c28, c29, c30⟩ | ⟨c11, c12, c13, c14, c15, c16, c17, c18, c19, c20, c21, c22, c23, c24, c25, c26, c27, c28, c29⟩ | ⟨c11, c12, c13, c14, c15, c16, c17, c18, c19, c20, c21, c22, c23, c24, c25, c26, c27, c28⟩ | ⟨c11, c12, c13, c14, c15, c16, c17, c18, c19, c20, c21, c22, c23, c24, c25, c26, c27, c28, c29, c30⟩ | ⟨c11, c12, c13, c14, c15, c16, c17, c18, c19, c20, c21, c22, c23, c24, c25⟩
  · obtain ⟨w2, h1, h2, h3⟩ := rd1_0 (d := d) (xs := xs) (m := (xfr (xvv xs))) (sc := (-1074)) (md := (xs 4)) (w := ((((w1.set 128 (Sum.inr (12, [Value.ref 129, Value.ref 131, Value.ref 133, Value.ref 135, Value.ref 137, Value.ref 139, Value.ref 141, Value.ref 143, Value.ref 145, Value.ref 147, Value.ref 149, Value.ref 151, Value.ref 153, Value.ref 154, Value.ref 155, Value.ref 156, Value.ref 157, Value.int (-16384), Value.int 16384, Value.int 0, Value.int 0, Value.int 0, Value.ref 158, Value.ref 159, Value.int 0, Value.int 0, Value.int 0, Value.int 0, Value.int 0, Value.int 0, Value.int 0, Value.int 0]))).set 129 (Sum.inr (13, [Value.ref 130, Value.int 0]))).set 130 (Sum.inl (0, 4700, xup (fun _ => Value.int 0) (0 : Int32).toInt.toNat (Value.int (xq (xfr (xvv xs))))))).set 129 (Sum.inr (13, [Value.ref 130, Value.int 1])))) (P := P) (fun h h1 h2 => (xgn (by omega) (xgn (by omega) (xgn (by omega) (rfl)))).trans (hk h (by omega) h2)) (xgn (by decide) (xgn (by decide) (xgn (by decide) hm))) (xgs (xgn (by decide) (xgs ((hk 129 (by decide) (by decide)).trans W0_129)))) (xgn (by decide) (xgs (xgn (by decide) (((hk 130 (by decide) (by decide)).trans W0_130))))) (xup_s) hB c0 c1 (by omega) (by omega) (by omega) (by omega) c10 c11 c12 c13 c14 c15 c16 c17 c18 c19 c20 c21 c22 c23 c24 c25 c26 c27 c28 c29
    refine ⟨w2, mnum16 hm1 (mn16_00_1 hk hm c0 c1 c2 c3 c4 c5 c6 c7 c8 c9 c10 c11 c12 c13 c14 c15 c16 c17 c18 c19 c20 c21 c22 c23 c24 c25 c26 c27 c28 c29 h1), xKp.trans ?_ h2, h3⟩
    refine xKp.set ?_ (fun h hh => by unfold xPM at hh; omega) (xgn (by decide) (xgs ((hk 129 (by decide) (by decide)).trans W0_129))) xcs_o
    refine xKp.set ?_ (fun h hh => by unfold xPM at hh; omega) (xgn (by decide) (((hk 130 (by decide) (by decide)).trans W0_130))) xcs_a
    refine xKp.set ?_ (fun h hh => by unfold xPM at hh; omega) (((hk 129 (by decide) (by decide)).trans W0_129)) xcs_o
    exact xKp.set xKp.refl (fun h hh => by unfold xPM at hh; omega) hm1 xcs_o
  · obtain ⟨w2, h1, h2, h3⟩ := rd2_0 (d := d) (xs := xs) (m := (xfr (xvv xs))) (sc := (-1074)) (md := (xs 4)) (w := ((((w1.set 128 (Sum.inr (12, [Value.ref 129, Value.ref 131, Value.ref 133, Value.ref 135, Value.ref 137, Value.ref 139, Value.ref 141, Value.ref 143, Value.ref 145, Value.ref 147, Value.ref 149, Value.ref 151, Value.ref 153, Value.ref 154, Value.ref 155, Value.ref 156, Value.ref 157, Value.int (-16384), Value.int 16384, Value.int 0, Value.int 0, Value.int 0, Value.ref 158, Value.ref 159, Value.int 0, Value.int 0, Value.int 0, Value.int 0, Value.int 0, Value.int 0, Value.int 0, Value.int 0]))).set 129 (Sum.inr (13, [Value.ref 130, Value.int 0]))).set 130 (Sum.inl (0, 4700, xup (fun _ => Value.int 0) (0 : Int32).toInt.toNat (Value.int (xq (xfr (xvv xs))))))).set 129 (Sum.inr (13, [Value.ref 130, Value.int 1])))) (P := P) (fun h h1 h2 => (xgn (by omega) (xgn (by omega) (xgn (by omega) (rfl)))).trans (hk h (by omega) h2)) (xgn (by decide) (xgn (by decide) (xgn (by decide) hm))) (xgs (xgn (by decide) (xgs ((hk 129 (by decide) (by decide)).trans W0_129)))) (xgn (by decide) (xgs (xgn (by decide) (((hk 130 (by decide) (by decide)).trans W0_130))))) (xup_s) hB c0 c1 (by omega) (by omega) (by omega) (by omega) c10 c11 c12 c13 c14 c15 c16 c17 c18 c19 c20 c21 c22 c23 c24 c25 c26 c27 c28
    refine ⟨w2, mnum16 hm1 (mn16_00_2 hk hm c0 c1 c2 c3 c4 c5 c6 c7 c8 c9 c10 c11 c12 c13 c14 c15 c16 c17 c18 c19 c20 c21 c22 c23 c24 c25 c26 c27 c28 h1), xKp.trans ?_ h2, h3⟩
    refine xKp.set ?_ (fun h hh => by unfold xPM at hh; omega) (xgn (by decide) (xgs ((hk 129 (by decide) (by decide)).trans W0_129))) xcs_o
    refine xKp.set ?_ (fun h hh => by unfold xPM at hh; omega) (xgn (by decide) (((hk 130 (by decide) (by decide)).trans W0_130))) xcs_a
    refine xKp.set ?_ (fun h hh => by unfold xPM at hh; omega) (((hk 129 (by decide) (by decide)).trans W0_129)) xcs_o
    exact xKp.set xKp.refl (fun h hh => by unfold xPM at hh; omega) hm1 xcs_o
  · obtain ⟨w2, h1, h2, h3⟩ := rd3_0 (d := d) (xs := xs) (m := (xfr (xvv xs))) (sc := (-1074)) (md := (xs 4)) (w := ((((((w1.set 128 (Sum.inr (12, [Value.ref 129, Value.ref 131, Value.ref 133, Value.ref 135, Value.ref 137, Value.ref 139, Value.ref 141, Value.ref 143, Value.ref 145, Value.ref 147, Value.ref 149, Value.ref 151, Value.ref 153, Value.ref 154, Value.ref 155, Value.ref 156, Value.ref 157, Value.int (-16384), Value.int 16384, Value.int 0, Value.int 0, Value.int 0, Value.ref 158, Value.ref 159, Value.int 0, Value.int 0, Value.int 0, Value.int 0, Value.int 0, Value.int 0, Value.int 0, Value.int 0]))).set 129 (Sum.inr (13, [Value.ref 130, Value.int 0]))).set 130 (Sum.inl (0, 4700, xup (fun _ => Value.int 0) (0 : Int32).toInt.toNat (Value.int (xq (xfr (xvv xs))))))).set 129 (Sum.inr (13, [Value.ref 130, Value.int 1]))).set 130 (Sum.inl (0, 4700, xup (xup (fun _ => Value.int 0) (0 : Int32).toInt.toNat (Value.int (xq (xfr (xvv xs))))) (1 : Int32).toInt.toNat (Value.int (xq (xqs (xfr (xvv xs)))))))).set 129 (Sum.inr (13, [Value.ref 130, Value.int 2])))) (P := P) (fun h h1 h2 => (xgn (by omega) (xgn (by omega) (xgn (by omega) (xgn (by omega) (xgn (by omega) (rfl)))))).trans (hk h (by omega) h2)) (xgn (by decide) (xgn (by decide) (xgn (by decide) (xgn (by decide) (xgn (by decide) hm))))) (xgs (xgn (by decide) (xgs (xgn (by decide) (xgs ((hk 129 (by decide) (by decide)).trans W0_129)))))) (xgn (by decide) (xgs (xgn (by decide) (xgs (xgn (by decide) (((hk 130 (by decide) (by decide)).trans W0_130))))))) (xup_n (by decide) xup_s) (xup_s) hB c0 c1 (by omega) (by omega) (by omega) (by omega) c10 c11 c12 c13 c14 c15 c16 c17 c18 c19 c20 c21 c22 c23 c24 c25 c26 c27 c28 c29 c30
    refine ⟨w2, mnum16 hm1 (mn16_00_3 hk hm c0 c1 c2 c3 c4 c5 c6 c7 c8 c9 c10 c11 c12 c13 c14 c15 c16 c17 c18 c19 c20 c21 c22 c23 c24 c25 c26 c27 c28 c29 c30 h1), xKp.trans ?_ h2, h3⟩
    refine xKp.set ?_ (fun h hh => by unfold xPM at hh; omega) (xgn (by decide) (xgs (xgn (by decide) (xgs ((hk 129 (by decide) (by decide)).trans W0_129))))) xcs_o
    refine xKp.set ?_ (fun h hh => by unfold xPM at hh; omega) (xgn (by decide) (xgs (xgn (by decide) (((hk 130 (by decide) (by decide)).trans W0_130))))) xcs_a
    refine xKp.set ?_ (fun h hh => by unfold xPM at hh; omega) (xgn (by decide) (xgs ((hk 129 (by decide) (by decide)).trans W0_129))) xcs_o
    refine xKp.set ?_ (fun h hh => by unfold xPM at hh; omega) (xgn (by decide) (((hk 130 (by decide) (by decide)).trans W0_130))) xcs_a
    refine xKp.set ?_ (fun h hh => by unfold xPM at hh; omega) (((hk 129 (by decide) (by decide)).trans W0_129)) xcs_o
    exact xKp.set xKp.refl (fun h hh => by unfold xPM at hh; omega) hm1 xcs_o
  · obtain ⟨w2, h1, h2, h3⟩ := rd4_0 (d := d) (xs := xs) (m := (xfr (xvv xs))) (sc := (-1074)) (md := (xs 4)) (w := ((((((w1.set 128 (Sum.inr (12, [Value.ref 129, Value.ref 131, Value.ref 133, Value.ref 135, Value.ref 137, Value.ref 139, Value.ref 141, Value.ref 143, Value.ref 145, Value.ref 147, Value.ref 149, Value.ref 151, Value.ref 153, Value.ref 154, Value.ref 155, Value.ref 156, Value.ref 157, Value.int (-16384), Value.int 16384, Value.int 0, Value.int 0, Value.int 0, Value.ref 158, Value.ref 159, Value.int 0, Value.int 0, Value.int 0, Value.int 0, Value.int 0, Value.int 0, Value.int 0, Value.int 0]))).set 129 (Sum.inr (13, [Value.ref 130, Value.int 0]))).set 130 (Sum.inl (0, 4700, xup (fun _ => Value.int 0) (0 : Int32).toInt.toNat (Value.int (xq (xfr (xvv xs))))))).set 129 (Sum.inr (13, [Value.ref 130, Value.int 1]))).set 130 (Sum.inl (0, 4700, xup (xup (fun _ => Value.int 0) (0 : Int32).toInt.toNat (Value.int (xq (xfr (xvv xs))))) (1 : Int32).toInt.toNat (Value.int (xq (xqs (xfr (xvv xs)))))))).set 129 (Sum.inr (13, [Value.ref 130, Value.int 2])))) (P := P) (fun h h1 h2 => (xgn (by omega) (xgn (by omega) (xgn (by omega) (xgn (by omega) (xgn (by omega) (rfl)))))).trans (hk h (by omega) h2)) (xgn (by decide) (xgn (by decide) (xgn (by decide) (xgn (by decide) (xgn (by decide) hm))))) (xgs (xgn (by decide) (xgs (xgn (by decide) (xgs ((hk 129 (by decide) (by decide)).trans W0_129)))))) (xgn (by decide) (xgs (xgn (by decide) (xgs (xgn (by decide) (((hk 130 (by decide) (by decide)).trans W0_130))))))) (xup_n (by decide) xup_s) (xup_s) hB c0 c1 (by omega) (by omega) (by omega) (by omega) c10 c11 c12 c13 c14 c15 c16 c17 c18 c19 c20 c21 c22 c23 c24 c25 c26 c27 c28 c29
    refine ⟨w2, mnum16 hm1 (mn16_00_4 hk hm c0 c1 c2 c3 c4 c5 c6 c7 c8 c9 c10 c11 c12 c13 c14 c15 c16 c17 c18 c19 c20 c21 c22 c23 c24 c25 c26 c27 c28 c29 h1), xKp.trans ?_ h2, h3⟩
    refine xKp.set ?_ (fun h hh => by unfold xPM at hh; omega) (xgn (by decide) (xgs (xgn (by decide) (xgs ((hk 129 (by decide) (by decide)).trans W0_129))))) xcs_o
    refine xKp.set ?_ (fun h hh => by unfold xPM at hh; omega) (xgn (by decide) (xgs (xgn (by decide) (((hk 130 (by decide) (by decide)).trans W0_130))))) xcs_a
    refine xKp.set ?_ (fun h hh => by unfold xPM at hh; omega) (xgn (by decide) (xgs ((hk 129 (by decide) (by decide)).trans W0_129))) xcs_o
    refine xKp.set ?_ (fun h hh => by unfold xPM at hh; omega) (xgn (by decide) (((hk 130 (by decide) (by decide)).trans W0_130))) xcs_a
    refine xKp.set ?_ (fun h hh => by unfold xPM at hh; omega) (((hk 129 (by decide) (by decide)).trans W0_129)) xcs_o
    exact xKp.set xKp.refl (fun h hh => by unfold xPM at hh; omega) hm1 xcs_o
  · obtain ⟨w2, h1, h2, h3⟩ := rd5_0 (d := d) (xs := xs) (m := (xfr (xvv xs))) (sc := (-1074)) (md := (xs 4)) (w := ((((((w1.set 128 (Sum.inr (12, [Value.ref 129, Value.ref 131, Value.ref 133, Value.ref 135, Value.ref 137, Value.ref 139, Value.ref 141, Value.ref 143, Value.ref 145, Value.ref 147, Value.ref 149, Value.ref 151, Value.ref 153, Value.ref 154, Value.ref 155, Value.ref 156, Value.ref 157, Value.int (-16384), Value.int 16384, Value.int 0, Value.int 0, Value.int 0, Value.ref 158, Value.ref 159, Value.int 0, Value.int 0, Value.int 0, Value.int 0, Value.int 0, Value.int 0, Value.int 0, Value.int 0]))).set 129 (Sum.inr (13, [Value.ref 130, Value.int 0]))).set 130 (Sum.inl (0, 4700, xup (fun _ => Value.int 0) (0 : Int32).toInt.toNat (Value.int (xq (xfr (xvv xs))))))).set 129 (Sum.inr (13, [Value.ref 130, Value.int 1]))).set 130 (Sum.inl (0, 4700, xup (xup (fun _ => Value.int 0) (0 : Int32).toInt.toNat (Value.int (xq (xfr (xvv xs))))) (1 : Int32).toInt.toNat (Value.int (xq (xqs (xfr (xvv xs)))))))).set 129 (Sum.inr (13, [Value.ref 130, Value.int 2])))) (P := P) (fun h h1 h2 => (xgn (by omega) (xgn (by omega) (xgn (by omega) (xgn (by omega) (xgn (by omega) (rfl)))))).trans (hk h (by omega) h2)) (xgn (by decide) (xgn (by decide) (xgn (by decide) (xgn (by decide) (xgn (by decide) hm))))) (xgs (xgn (by decide) (xgs (xgn (by decide) (xgs ((hk 129 (by decide) (by decide)).trans W0_129)))))) (xgn (by decide) (xgs (xgn (by decide) (xgs (xgn (by decide) (((hk 130 (by decide) (by decide)).trans W0_130))))))) (xup_n (by decide) xup_s) (xup_s) hB c0 c1 (by omega) (by omega) (by omega) (by omega) c10 c11 c12 c13 c14 c15 c16 c17 c18 c19 c20 c21 c22 c23 c24 c25 c26 c27 c28
    refine ⟨w2, mnum16 hm1 (mn16_00_5 hk hm c0 c1 c2 c3 c4 c5 c6 c7 c8 c9 c10 c11 c12 c13 c14 c15 c16 c17 c18 c19 c20 c21 c22 c23 c24 c25 c26 c27 c28 h1), xKp.trans ?_ h2, h3⟩
    refine xKp.set ?_ (fun h hh => by unfold xPM at hh; omega) (xgn (by decide) (xgs (xgn (by decide) (xgs ((hk 129 (by decide) (by decide)).trans W0_129))))) xcs_o
    refine xKp.set ?_ (fun h hh => by unfold xPM at hh; omega) (xgn (by decide) (xgs (xgn (by decide) (((hk 130 (by decide) (by decide)).trans W0_130))))) xcs_a
    refine xKp.set ?_ (fun h hh => by unfold xPM at hh; omega) (xgn (by decide) (xgs ((hk 129 (by decide) (by decide)).trans W0_129))) xcs_o
    refine xKp.set ?_ (fun h hh => by unfold xPM at hh; omega) (xgn (by decide) (((hk 130 (by decide) (by decide)).trans W0_130))) xcs_a
    refine xKp.set ?_ (fun h hh => by unfold xPM at hh; omega) (((hk 129 (by decide) (by decide)).trans W0_129)) xcs_o
    exact xKp.set xKp.refl (fun h hh => by unfold xPM at hh; omega) hm1 xcs_o
  · obtain ⟨w2, h1, h2, h3⟩ := rd6_0 (d := d) (xs := xs) (m := (xfr (xvv xs))) (sc := (-1074)) (md := (xs 4)) (w := ((((((((w1.set 128 (Sum.inr (12, [Value.ref 129, Value.ref 131, Value.ref 133, Value.ref 135, Value.ref 137, Value.ref 139, Value.ref 141, Value.ref 143, Value.ref 145, Value.ref 147, Value.ref 149, Value.ref 151, Value.ref 153, Value.ref 154, Value.ref 155, Value.ref 156, Value.ref 157, Value.int (-16384), Value.int 16384, Value.int 0, Value.int 0, Value.int 0, Value.ref 158, Value.ref 159, Value.int 0, Value.int 0, Value.int 0, Value.int 0, Value.int 0, Value.int 0, Value.int 0, Value.int 0]))).set 129 (Sum.inr (13, [Value.ref 130, Value.int 0]))).set 130 (Sum.inl (0, 4700, xup (fun _ => Value.int 0) (0 : Int32).toInt.toNat (Value.int (xq (xfr (xvv xs))))))).set 129 (Sum.inr (13, [Value.ref 130, Value.int 1]))).set 130 (Sum.inl (0, 4700, xup (xup (fun _ => Value.int 0) (0 : Int32).toInt.toNat (Value.int (xq (xfr (xvv xs))))) (1 : Int32).toInt.toNat (Value.int (xq (xqs (xfr (xvv xs)))))))).set 129 (Sum.inr (13, [Value.ref 130, Value.int 2]))).set 130 (Sum.inl (0, 4700, xup (xup (xup (fun _ => Value.int 0) (0 : Int32).toInt.toNat (Value.int (xq (xfr (xvv xs))))) (1 : Int32).toInt.toNat (Value.int (xq (xqs (xfr (xvv xs)))))) (2 : Int32).toInt.toNat (Value.int (xq (xqs (xqs (xfr (xvv xs))))))))).set 129 (Sum.inr (13, [Value.ref 130, Value.int 3])))) (P := P) (fun h h1 h2 => (xgn (by omega) (xgn (by omega) (xgn (by omega) (xgn (by omega) (xgn (by omega) (xgn (by omega) (xgn (by omega) (rfl)))))))).trans (hk h (by omega) h2)) (xgn (by decide) (xgn (by decide) (xgn (by decide) (xgn (by decide) (xgn (by decide) (xgn (by decide) (xgn (by decide) hm))))))) (xgs (xgn (by decide) (xgs (xgn (by decide) (xgs (xgn (by decide) (xgs ((hk 129 (by decide) (by decide)).trans W0_129)))))))) (xgn (by decide) (xgs (xgn (by decide) (xgs (xgn (by decide) (xgs (xgn (by decide) (((hk 130 (by decide) (by decide)).trans W0_130))))))))) (xup_n (by decide) (xup_n (by decide) xup_s)) (xup_n (by decide) xup_s) (xup_s) hB c0 c1 (by omega) (by omega) (by omega) (by omega) c10 c11 c12 c13 c14 c15 c16 c17 c18 c19 c20 c21 c22 c23 c24 c25 c26 c27 c28 c29 c30
    refine ⟨w2, mnum16 hm1 (mn16_00_6 hk hm c0 c1 c2 c3 c4 c5 c6 c7 c8 c9 c10 c11 c12 c13 c14 c15 c16 c17 c18 c19 c20 c21 c22 c23 c24 c25 c26 c27 c28 c29 c30 h1), xKp.trans ?_ h2, h3⟩
    refine xKp.set ?_ (fun h hh => by unfold xPM at hh; omega) (xgn (by decide) (xgs (xgn (by decide) (xgs (xgn (by decide) (xgs ((hk 129 (by decide) (by decide)).trans W0_129))))))) xcs_o
    refine xKp.set ?_ (fun h hh => by unfold xPM at hh; omega) (xgn (by decide) (xgs (xgn (by decide) (xgs (xgn (by decide) (((hk 130 (by decide) (by decide)).trans W0_130))))))) xcs_a
    refine xKp.set ?_ (fun h hh => by unfold xPM at hh; omega) (xgn (by decide) (xgs (xgn (by decide) (xgs ((hk 129 (by decide) (by decide)).trans W0_129))))) xcs_o
    refine xKp.set ?_ (fun h hh => by unfold xPM at hh; omega) (xgn (by decide) (xgs (xgn (by decide) (((hk 130 (by decide) (by decide)).trans W0_130))))) xcs_a
    refine xKp.set ?_ (fun h hh => by unfold xPM at hh; omega) (xgn (by decide) (xgs ((hk 129 (by decide) (by decide)).trans W0_129))) xcs_o
    refine xKp.set ?_ (fun h hh => by unfold xPM at hh; omega) (xgn (by decide) (((hk 130 (by decide) (by decide)).trans W0_130))) xcs_a
    refine xKp.set ?_ (fun h hh => by unfold xPM at hh; omega) (((hk 129 (by decide) (by decide)).trans W0_129)) xcs_o
    exact xKp.set xKp.refl (fun h hh => by unfold xPM at hh; omega) hm1 xcs_o
  · obtain ⟨w2, h1, h2, h3⟩ := rd7_0 (d := d) (xs := xs) (m := (xfr (xvv xs))) (sc := (-1074)) (md := (xs 4)) (w := ((((((((w1.set 128 (Sum.inr (12, [Value.ref 129, Value.ref 131, Value.ref 133, Value.ref 135, Value.ref 137, Value.ref 139, Value.ref 141, Value.ref 143, Value.ref 145, Value.ref 147, Value.ref 149, Value.ref 151, Value.ref 153, Value.ref 154, Value.ref 155, Value.ref 156, Value.ref 157, Value.int (-16384), Value.int 16384, Value.int 0, Value.int 0, Value.int 0, Value.ref 158, Value.ref 159, Value.int 0, Value.int 0, Value.int 0, Value.int 0, Value.int 0, Value.int 0, Value.int 0, Value.int 0]))).set 129 (Sum.inr (13, [Value.ref 130, Value.int 0]))).set 130 (Sum.inl (0, 4700, xup (fun _ => Value.int 0) (0 : Int32).toInt.toNat (Value.int (xq (xfr (xvv xs))))))).set 129 (Sum.inr (13, [Value.ref 130, Value.int 1]))).set 130 (Sum.inl (0, 4700, xup (xup (fun _ => Value.int 0) (0 : Int32).toInt.toNat (Value.int (xq (xfr (xvv xs))))) (1 : Int32).toInt.toNat (Value.int (xq (xqs (xfr (xvv xs)))))))).set 129 (Sum.inr (13, [Value.ref 130, Value.int 2]))).set 130 (Sum.inl (0, 4700, xup (xup (xup (fun _ => Value.int 0) (0 : Int32).toInt.toNat (Value.int (xq (xfr (xvv xs))))) (1 : Int32).toInt.toNat (Value.int (xq (xqs (xfr (xvv xs)))))) (2 : Int32).toInt.toNat (Value.int (xq (xqs (xqs (xfr (xvv xs))))))))).set 129 (Sum.inr (13, [Value.ref 130, Value.int 3])))) (P := P) (fun h h1 h2 => (xgn (by omega) (xgn (by omega) (xgn (by omega) (xgn (by omega) (xgn (by omega) (xgn (by omega) (xgn (by omega) (rfl)))))))).trans (hk h (by omega) h2)) (xgn (by decide) (xgn (by decide) (xgn (by decide) (xgn (by decide) (xgn (by decide) (xgn (by decide) (xgn (by decide) hm))))))) (xgs (xgn (by decide) (xgs (xgn (by decide) (xgs (xgn (by decide) (xgs ((hk 129 (by decide) (by decide)).trans W0_129)))))))) (xgn (by decide) (xgs (xgn (by decide) (xgs (xgn (by decide) (xgs (xgn (by decide) (((hk 130 (by decide) (by decide)).trans W0_130))))))))) (xup_n (by decide) (xup_n (by decide) xup_s)) (xup_n (by decide) xup_s) (xup_s) hB c0 c1 (by omega) (by omega) (by omega) (by omega) c10 c11 c12 c13 c14 c15 c16 c17 c18 c19 c20 c21 c22 c23 c24 c25
    refine ⟨w2, mnum16 hm1 (mn16_00_7 hk hm c0 c1 c2 c3 c4 c5 c6 c7 c8 c9 c10 c11 c12 c13 c14 c15 c16 c17 c18 c19 c20 c21 c22 c23 c24 c25 h1), xKp.trans ?_ h2, h3⟩
    refine xKp.set ?_ (fun h hh => by unfold xPM at hh; omega) (xgn (by decide) (xgs (xgn (by decide) (xgs (xgn (by decide) (xgs ((hk 129 (by decide) (by decide)).trans W0_129))))))) xcs_o
    refine xKp.set ?_ (fun h hh => by unfold xPM at hh; omega) (xgn (by decide) (xgs (xgn (by decide) (xgs (xgn (by decide) (((hk 130 (by decide) (by decide)).trans W0_130))))))) xcs_a
    refine xKp.set ?_ (fun h hh => by unfold xPM at hh; omega) (xgn (by decide) (xgs (xgn (by decide) (xgs ((hk 129 (by decide) (by decide)).trans W0_129))))) xcs_o
    refine xKp.set ?_ (fun h hh => by unfold xPM at hh; omega) (xgn (by decide) (xgs (xgn (by decide) (((hk 130 (by decide) (by decide)).trans W0_130))))) xcs_a
    refine xKp.set ?_ (fun h hh => by unfold xPM at hh; omega) (xgn (by decide) (xgs ((hk 129 (by decide) (by decide)).trans W0_129))) xcs_o
    refine xKp.set ?_ (fun h hh => by unfold xPM at hh; omega) (xgn (by decide) (((hk 130 (by decide) (by decide)).trans W0_130))) xcs_a
    refine xKp.set ?_ (fun h hh => by unfold xPM at hh; omega) (((hk 129 (by decide) (by decide)).trans W0_129)) xcs_o
    exact xKp.set xKp.refl (fun h hh => by unfold xPM at hh; omega) hm1 xcs_o
theorem mn16_10_1 {d : Nat} {xs : Nat → Int32} {w w2 : xW} {b : Int32} {B K P G : Int32} (hk : ∀ h, 129 ≤ h → h < 194 → w[h]? = (W0 6 xs)[h]?) (hm : w[128]? = some (Sum.inr (12, [Value.ref 129, Value.ref 131, Value.ref 133, Value.ref 135, Value.ref 137, Value.ref 139, Value.ref 141, Value.ref 143, Value.ref 145, Value.ref 147, Value.ref 149, Value.ref 151, Value.ref 153, Value.ref 154, Value.ref 155, Value.ref 156, Value.ref 157, Value.int (-16384), Value.int 16384, Value.int 0, Value.int 0, Value.int 0, Value.ref 158, Value.ref 159, Value.int 0, Value.int 0, Value.int 0, Value.int 0, Value.int 0, Value.int 0, Value.int 0, Value.int 0]))) (c0 : 0 ≤ (xs 1).toInt) (c1 : (xs 1).toInt < 16) (c2 : 0 ≤ (xs 4).toInt) (c3 : (xs 4).toInt ≤ 4) (c4 : 0 ≤ (xfd (xvv xs)).toInt) (c5 : (xfd (xvv xs)).toInt ≤ 2047) (c6 : (xfd (xvv xs)).toInt ≠ 2047) (c7 : (xfd (xvv xs)).toInt ≠ 0) (c8 : 0 ≤ (lg_cmp (xvv xs) (0 : Int64)).toInt) (c9 : K.toInt = 64 - B.toInt) (c10 : 1 ≤ B.toInt) (c11 : B.toInt ≤ 4) (c12 : (xhi (xfo (xvv xs))).toInt = 0) (c13 : (xlo (xfo (xvv xs))).toInt ≠ 0) (c14 : (xnlz (xlo (xfo (xvv xs)))).toInt = 32 - B.toInt) (c15 : (xbf 1 (xlo (xfo (xvv xs))) (0 : Int32) ((32 : Int32) - K)).toInt ≠ 0) (c16 : (lg_cmp (xfo (xvv xs)) (0 : Int64)).toInt ≠ 0) (c17 : (lg_cmp (xqs (xfo (xvv xs))) (0 : Int64)).toInt = 0) (c18 : (xbn (xq (xfo (xvv xs)))).toInt = B.toInt) (c19 : (xq (xfo (xvv xs))).toInt ≠ 0) (c20 : 0 ≤ (xq (xfo (xvv xs))).toInt) (c21 : K.toInt ≠ 0) (c22 : K / (30 : Int32) = 2) (c23 : K - K / (30 : Int32) * (30 : Int32) = P) (c24 : ((0 : Int32) ||| (xH (xq (xfo (xvv xs))) P)).toInt = 0) (c25 : (xL (xq (xfo (xvv xs))) P).toInt ≠ 0) (c26 : 0 ≤ (xL (xq (xfo (xvv xs))) P).toInt) (c27 : (xbn (xL (xq (xfo (xvv xs))) P)).toInt = 4) (c28 : G.toInt = B.toInt - 1) (hr : xRun (d + 6) 180 [Value.ref 128, Value.int (xs 1), Value.ref 129, Value.int ((xfd (xvv xs)) - (1075 : Int32)), Value.int 0, Value.int 0, Value.int (xs 4)] (((w.set 129 (Sum.inr (13, [Value.ref 130, Value.int 0]))).set 130 (Sum.inl (0, 4700, xup (fun _ => Value.int 0) (0 : Int32).toInt.toNat (Value.int (xq (xfo (xvv xs))))))).set 129 (Sum.inr (13, [Value.ref 130, Value.int 1]))) (.inl (some (Value.int b))) w2) : xRun (d + 7) 248 [Value.ref 128, Value.int (xs 1), Value.long (xvv xs), Value.int (xs 4)] w (.inl (some (Value.int b))) w2 := by
  refine xRun.of ?_
  refine i_248_0 (x := (xs 1)) rfl ?_
  refine i_248_1 (Nat.le_of_ble_eq_true rfl) (s_168_0 (by omega) (by omega)) ?_
  refine i_248_4 (x := (xs 4)) rfl ?_
  refine i_248_6 (Nat.le_of_ble_eq_true rfl) (s_178_0 (by omega) (by omega)) ?_
  refine i_248_9 (x := (xvv xs)) rfl ?_
  refine i_248_10 ?_
  refine i_248_12 (c := ((xvv xs) >>> ((52 : Int32).toInt64 &&& 63))) rfl ?_
  refine i_248_13 (c := ((xvv xs) >>> ((52 : Int32).toInt64 &&& 63)).toInt32) rfl ?_
  refine i_248_14 ?_
  refine i_248_17 (c := (xfd (xvv xs))) (show (xfe (xvv xs)) = (xfd (xvv xs)) from (xfe_eq _)) ?_
  refine i_248_18 (lv2 := [(5, Value.int (xfd (xvv xs))), (0, Value.ref 128), (1, Value.int (xs 1)), (2, Value.long (xvv xs)), (4, Value.int (xs 4))]) rfl ?_
  refine i_248_20 (x := (xvv xs)) rfl ?_
  refine i_248_21 ?_
  refine i_248_24 (c := (xfr (xvv xs))) rfl ?_
  refine i_248_25 (lv2 := [(6, Value.long (xfr (xvv xs))), (5, Value.int (xfd (xvv xs))), (0, Value.ref 128), (1, Value.int (xs 1)), (2, Value.long (xvv xs)), (4, Value.int (xs 4))]) rfl ?_
  refine i_248_27 (x := (xfd (xvv xs))) rfl ?_
  refine i_248_29 ?_
  refine i_248_32 (fun _ => ?_) (fun h => absurd (show (xfd (xvv xs)).toInt ≠ 2047 by omega) (fun g => g h))
  refine i_248_71 (x := (xfd (xvv xs))) rfl ?_
  refine i_248_73 (fun _ => ?_) (fun h => absurd (show (xfd (xvv xs)).toInt ≠ 0 by omega) (fun g => g h))
  refine i_248_101 (x := 128) rfl ?_
  refine i_248_102 (v := Value.ref 129) hm rfl ?_
  refine i_248_105 (x := (xfd (xvv xs))) rfl ?_
  refine i_248_107 (fun _ => ?_) (fun h => absurd (show (xfd (xvv xs)).toInt ≠ 0 by omega) (fun g => g h))
  refine i_248_115 (x := (xfr (xvv xs))) rfl ?_
  refine i_248_117 ?_
  refine i_248_120 (c := (xfo (xvv xs))) rfl ?_
  refine i_248_121 ((hk 129 (by decide) (by decide)).trans W0_129) (Nat.le_of_ble_eq_true rfl) (s_179_3 ((hk 129 (by decide) (by decide)).trans W0_129) (by omega) ((hk 130 (by decide) (by decide)).trans W0_130) (show (lg_cmp (xqs (xfo (xvv xs))) (0 : Int64)) = 0 from (xge_c (n := 0) (by omega) rfl))) ?_
  refine i_248_124 (x := 128) rfl ?_
  refine i_248_125 (x := (xs 1)) rfl ?_
  refine i_248_126 (x := 128) rfl ?_
  refine i_248_127 (v := Value.ref 129) (xgn (by decide) (xgn (by decide) (xgn (by decide) hm))) rfl ?_
  refine i_248_130 (x := (xfd (xvv xs))) rfl ?_
  refine i_248_132 (fun _ => ?_) (fun h => absurd (show (xfd (xvv xs)).toInt ≠ 0 by omega) (fun g => g h))
  refine i_248_139 (x := (xfd (xvv xs))) rfl ?_
  refine i_248_141 ?_
  refine i_248_144 (c := ((xfd (xvv xs)) - (1075 : Int32))) rfl ?_
  refine i_248_145 ?_
  refine i_248_146 (x := (xvv xs)) rfl ?_
  refine i_248_147 ?_
  refine i_248_148 (c := (lg_cmp (xvv xs) (0 : Int64))) rfl ?_
  refine i_248_149 (fun _ => ?_) (fun h => absurd (show 0 ≤ (lg_cmp (xvv xs) (0 : Int64)).toInt by omega) (Int.not_le.mpr h))
  refine i_248_156 ?_
  refine i_248_157 (x := (xs 4)) rfl ?_
  refine i_248_159 (xgn (by decide) (xgn (by decide) (xgn (by decide) hm))) (Nat.le_of_ble_eq_true rfl) hr ?_
  exact i_248_162 ⟨rfl, rfl⟩
theorem mn16_10_2 {d : Nat} {xs : Nat → Int32} {w w2 : xW} {b : Int32} {B K P G : Int32} (hk : ∀ h, 129 ≤ h → h < 194 → w[h]? = (W0 6 xs)[h]?) (hm : w[128]? = some (Sum.inr (12, [Value.ref 129, Value.ref 131, Value.ref 133, Value.ref 135, Value.ref 137, Value.ref 139, Value.ref 141, Value.ref 143, Value.ref 145, Value.ref 147, Value.ref 149, Value.ref 151, Value.ref 153, Value.ref 154, Value.ref 155, Value.ref 156, Value.ref 157, Value.int (-16384), Value.int 16384, Value.int 0, Value.int 0, Value.int 0, Value.ref 158, Value.ref 159, Value.int 0, Value.int 0, Value.int 0, Value.int 0, Value.int 0, Value.int 0, Value.int 0, Value.int 0]))) (c0 : 0 ≤ (xs 1).toInt) (c1 : (xs 1).toInt < 16) (c2 : 0 ≤ (xs 4).toInt) (c3 : (xs 4).toInt ≤ 4) (c4 : 0 ≤ (xfd (xvv xs)).toInt) (c5 : (xfd (xvv xs)).toInt ≤ 2047) (c6 : (xfd (xvv xs)).toInt ≠ 2047) (c7 : (xfd (xvv xs)).toInt ≠ 0) (c8 : 0 ≤ (lg_cmp (xvv xs) (0 : Int64)).toInt) (c9 : K.toInt = 64 - B.toInt) (c10 : 5 ≤ B.toInt) (c11 : B.toInt ≤ 30) (c12 : (xhi (xfo (xvv xs))).toInt = 0) (c13 : (xlo (xfo (xvv xs))).toInt ≠ 0) (c14 : (xnlz (xlo (xfo (xvv xs)))).toInt = 32 - B.toInt) (c15 : (xbf 1 (xlo (xfo (xvv xs))) (0 : Int32) ((32 : Int32) - K)).toInt ≠ 0) (c16 : (lg_cmp (xfo (xvv xs)) (0 : Int64)).toInt ≠ 0) (c17 : (lg_cmp (xqs (xfo (xvv xs))) (0 : Int64)).toInt = 0) (c18 : (xbn (xq (xfo (xvv xs)))).toInt = B.toInt) (c19 : (xq (xfo (xvv xs))).toInt ≠ 0) (c20 : 0 ≤ (xq (xfo (xvv xs))).toInt) (c21 : K.toInt ≠ 0) (c22 : K / (30 : Int32) = 1) (c23 : K - K / (30 : Int32) * (30 : Int32) = P) (c24 : ((0 : Int32) ||| (xH (xq (xfo (xvv xs))) P)).toInt ≠ 0) (c25 : 0 ≤ ((0 : Int32) ||| (xH (xq (xfo (xvv xs))) P)).toInt) (c26 : (xbn ((0 : Int32) ||| (xH (xq (xfo (xvv xs))) P))).toInt = 4) (c27 : G.toInt = B.toInt - 1) (hr : xRun (d + 6) 180 [Value.ref 128, Value.int (xs 1), Value.ref 129, Value.int ((xfd (xvv xs)) - (1075 : Int32)), Value.int 0, Value.int 0, Value.int (xs 4)] (((w.set 129 (Sum.inr (13, [Value.ref 130, Value.int 0]))).set 130 (Sum.inl (0, 4700, xup (fun _ => Value.int 0) (0 : Int32).toInt.toNat (Value.int (xq (xfo (xvv xs))))))).set 129 (Sum.inr (13, [Value.ref 130, Value.int 1]))) (.inl (some (Value.int b))) w2) : xRun (d + 7) 248 [Value.ref 128, Value.int (xs 1), Value.long (xvv xs), Value.int (xs 4)] w (.inl (some (Value.int b))) w2 := by
  refine xRun.of ?_
  refine i_248_0 (x := (xs 1)) rfl ?_
  refine i_248_1 (Nat.le_of_ble_eq_true rfl) (s_168_0 (by omega) (by omega)) ?_
  refine i_248_4 (x := (xs 4)) rfl ?_
  refine i_248_6 (Nat.le_of_ble_eq_true rfl) (s_178_0 (by omega) (by omega)) ?_
  refine i_248_9 (x := (xvv xs)) rfl ?_
  refine i_248_10 ?_
  refine i_248_12 (c := ((xvv xs) >>> ((52 : Int32).toInt64 &&& 63))) rfl ?_
  refine i_248_13 (c := ((xvv xs) >>> ((52 : Int32).toInt64 &&& 63)).toInt32) rfl ?_
  refine i_248_14 ?_
  refine i_248_17 (c := (xfd (xvv xs))) (show (xfe (xvv xs)) = (xfd (xvv xs)) from (xfe_eq _)) ?_
  refine i_248_18 (lv2 := [(5, Value.int (xfd (xvv xs))), (0, Value.ref 128), (1, Value.int (xs 1)), (2, Value.long (xvv xs)), (4, Value.int (xs 4))]) rfl ?_
  refine i_248_20 (x := (xvv xs)) rfl ?_
  refine i_248_21 ?_
  refine i_248_24 (c := (xfr (xvv xs))) rfl ?_
  refine i_248_25 (lv2 := [(6, Value.long (xfr (xvv xs))), (5, Value.int (xfd (xvv xs))), (0, Value.ref 128), (1, Value.int (xs 1)), (2, Value.long (xvv xs)), (4, Value.int (xs 4))]) rfl ?_
  refine i_248_27 (x := (xfd (xvv xs))) rfl ?_
  refine i_248_29 ?_
  refine i_248_32 (fun _ => ?_) (fun h => absurd (show (xfd (xvv xs)).toInt ≠ 2047 by omega) (fun g => g h))
  refine i_248_71 (x := (xfd (xvv xs))) rfl ?_
  refine i_248_73 (fun _ => ?_) (fun h => absurd (show (xfd (xvv xs)).toInt ≠ 0 by omega) (fun g => g h))
  refine i_248_101 (x := 128) rfl ?_
  refine i_248_102 (v := Value.ref 129) hm rfl ?_
  refine i_248_105 (x := (xfd (xvv xs))) rfl ?_
  refine i_248_107 (fun _ => ?_) (fun h => absurd (show (xfd (xvv xs)).toInt ≠ 0 by omega) (fun g => g h))
  refine i_248_115 (x := (xfr (xvv xs))) rfl ?_
  refine i_248_117 ?_
  refine i_248_120 (c := (xfo (xvv xs))) rfl ?_
  refine i_248_121 ((hk 129 (by decide) (by decide)).trans W0_129) (Nat.le_of_ble_eq_true rfl) (s_179_3 ((hk 129 (by decide) (by decide)).trans W0_129) (by omega) ((hk 130 (by decide) (by decide)).trans W0_130) (show (lg_cmp (xqs (xfo (xvv xs))) (0 : Int64)) = 0 from (xge_c (n := 0) (by omega) rfl))) ?_
  refine i_248_124 (x := 128) rfl ?_
  refine i_248_125 (x := (xs 1)) rfl ?_
  refine i_248_126 (x := 128) rfl ?_
  refine i_248_127 (v := Value.ref 129) (xgn (by decide) (xgn (by decide) (xgn (by decide) hm))) rfl ?_
  refine i_248_130 (x := (xfd (xvv xs))) rfl ?_
  refine i_248_132 (fun _ => ?_) (fun h => absurd (show (xfd (xvv xs)).toInt ≠ 0 by omega) (fun g => g h))
  refine i_248_139 (x := (xfd (xvv xs))) rfl ?_
  refine i_248_141 ?_
  refine i_248_144 (c := ((xfd (xvv xs)) - (1075 : Int32))) rfl ?_
  refine i_248_145 ?_
  refine i_248_146 (x := (xvv xs)) rfl ?_
  refine i_248_147 ?_
  refine i_248_148 (c := (lg_cmp (xvv xs) (0 : Int64))) rfl ?_
  refine i_248_149 (fun _ => ?_) (fun h => absurd (show 0 ≤ (lg_cmp (xvv xs) (0 : Int64)).toInt by omega) (Int.not_le.mpr h))
  refine i_248_156 ?_
  refine i_248_157 (x := (xs 4)) rfl ?_
  refine i_248_159 (xgn (by decide) (xgn (by decide) (xgn (by decide) hm))) (Nat.le_of_ble_eq_true rfl) hr ?_
  exact i_248_162 ⟨rfl, rfl⟩
theorem mn16_10_3 {d : Nat} {xs : Nat → Int32} {w w2 : xW} {b : Int32} {B K P G : Int32} (hk : ∀ h, 129 ≤ h → h < 194 → w[h]? = (W0 6 xs)[h]?) (hm : w[128]? = some (Sum.inr (12, [Value.ref 129, Value.ref 131, Value.ref 133, Value.ref 135, Value.ref 137, Value.ref 139, Value.ref 141, Value.ref 143, Value.ref 145, Value.ref 147, Value.ref 149, Value.ref 151, Value.ref 153, Value.ref 154, Value.ref 155, Value.ref 156, Value.ref 157, Value.int (-16384), Value.int 16384, Value.int 0, Value.int 0, Value.int 0, Value.ref 158, Value.ref 159, Value.int 0, Value.int 0, Value.int 0, Value.int 0, Value.int 0, Value.int 0, Value.int 0, Value.int 0]))) (c0 : 0 ≤ (xs 1).toInt) (c1 : (xs 1).toInt < 16) (c2 : 0 ≤ (xs 4).toInt) (c3 : (xs 4).toInt ≤ 4) (c4 : 0 ≤ (xfd (xvv xs)).toInt) (c5 : (xfd (xvv xs)).toInt ≤ 2047) (c6 : (xfd (xvv xs)).toInt ≠ 2047) (c7 : (xfd (xvv xs)).toInt ≠ 0) (c8 : 0 ≤ (lg_cmp (xvv xs) (0 : Int64)).toInt) (c9 : K.toInt = 64 - B.toInt) (c10 : 31 ≤ B.toInt) (c11 : B.toInt ≤ 32) (c12 : (xhi (xfo (xvv xs))).toInt = 0) (c13 : (xlo (xfo (xvv xs))).toInt ≠ 0) (c14 : (xnlz (xlo (xfo (xvv xs)))).toInt = 32 - B.toInt) (c15 : (xbf 1 (xlo (xfo (xvv xs))) (0 : Int32) ((32 : Int32) - K)).toInt ≠ 0) (c16 : (lg_cmp (xfo (xvv xs)) (0 : Int64)).toInt ≠ 0) (c17 : (lg_cmp (xqs (xfo (xvv xs))) (0 : Int64)).toInt ≠ 0) (c18 : (lg_cmp (xqs (xqs (xfo (xvv xs)))) (0 : Int64)).toInt = 0) (c19 : (xbn (xq (xqs (xfo (xvv xs))))).toInt = B.toInt - 30) (c20 : (xq (xqs (xfo (xvv xs)))).toInt ≠ 0) (c21 : 0 ≤ (xq (xqs (xfo (xvv xs)))).toInt) (c22 : K.toInt ≠ 0) (c23 : K / (30 : Int32) = 1) (c24 : K - K / (30 : Int32) * (30 : Int32) = P) (c25 : ((0 : Int32) ||| (xH (xq (xqs (xfo (xvv xs)))) P)).toInt = 0) (c26 : ((xL (xq (xqs (xfo (xvv xs)))) P) ||| (xH (xq (xfo (xvv xs))) P)).toInt ≠ 0) (c27 : 0 ≤ ((xL (xq (xqs (xfo (xvv xs)))) P) ||| (xH (xq (xfo (xvv xs))) P)).toInt) (c28 : (xbn ((xL (xq (xqs (xfo (xvv xs)))) P) ||| (xH (xq (xfo (xvv xs))) P))).toInt = 4) (c29 : G.toInt = B.toInt - 31) (hr : xRun (d + 6) 180 [Value.ref 128, Value.int (xs 1), Value.ref 129, Value.int ((xfd (xvv xs)) - (1075 : Int32)), Value.int 0, Value.int 0, Value.int (xs 4)] (((((w.set 129 (Sum.inr (13, [Value.ref 130, Value.int 0]))).set 130 (Sum.inl (0, 4700, xup (fun _ => Value.int 0) (0 : Int32).toInt.toNat (Value.int (xq (xfo (xvv xs))))))).set 129 (Sum.inr (13, [Value.ref 130, Value.int 1]))).set 130 (Sum.inl (0, 4700, xup (xup (fun _ => Value.int 0) (0 : Int32).toInt.toNat (Value.int (xq (xfo (xvv xs))))) (1 : Int32).toInt.toNat (Value.int (xq (xqs (xfo (xvv xs)))))))).set 129 (Sum.inr (13, [Value.ref 130, Value.int 2]))) (.inl (some (Value.int b))) w2) : xRun (d + 7) 248 [Value.ref 128, Value.int (xs 1), Value.long (xvv xs), Value.int (xs 4)] w (.inl (some (Value.int b))) w2 := by
  refine xRun.of ?_
  refine i_248_0 (x := (xs 1)) rfl ?_
  refine i_248_1 (Nat.le_of_ble_eq_true rfl) (s_168_0 (by omega) (by omega)) ?_
  refine i_248_4 (x := (xs 4)) rfl ?_
  refine i_248_6 (Nat.le_of_ble_eq_true rfl) (s_178_0 (by omega) (by omega)) ?_
  refine i_248_9 (x := (xvv xs)) rfl ?_
  refine i_248_10 ?_
  refine i_248_12 (c := ((xvv xs) >>> ((52 : Int32).toInt64 &&& 63))) rfl ?_
  refine i_248_13 (c := ((xvv xs) >>> ((52 : Int32).toInt64 &&& 63)).toInt32) rfl ?_
  refine i_248_14 ?_
  refine i_248_17 (c := (xfd (xvv xs))) (show (xfe (xvv xs)) = (xfd (xvv xs)) from (xfe_eq _)) ?_
  refine i_248_18 (lv2 := [(5, Value.int (xfd (xvv xs))), (0, Value.ref 128), (1, Value.int (xs 1)), (2, Value.long (xvv xs)), (4, Value.int (xs 4))]) rfl ?_
  refine i_248_20 (x := (xvv xs)) rfl ?_
  refine i_248_21 ?_
  refine i_248_24 (c := (xfr (xvv xs))) rfl ?_
  refine i_248_25 (lv2 := [(6, Value.long (xfr (xvv xs))), (5, Value.int (xfd (xvv xs))), (0, Value.ref 128), (1, Value.int (xs 1)), (2, Value.long (xvv xs)), (4, Value.int (xs 4))]) rfl ?_
  refine i_248_27 (x := (xfd (xvv xs))) rfl ?_
  refine i_248_29 ?_
  refine i_248_32 (fun _ => ?_) (fun h => absurd (show (xfd (xvv xs)).toInt ≠ 2047 by omega) (fun g => g h))
  refine i_248_71 (x := (xfd (xvv xs))) rfl ?_
  refine i_248_73 (fun _ => ?_) (fun h => absurd (show (xfd (xvv xs)).toInt ≠ 0 by omega) (fun g => g h))
  refine i_248_101 (x := 128) rfl ?_
  refine i_248_102 (v := Value.ref 129) hm rfl ?_
  refine i_248_105 (x := (xfd (xvv xs))) rfl ?_
  refine i_248_107 (fun _ => ?_) (fun h => absurd (show (xfd (xvv xs)).toInt ≠ 0 by omega) (fun g => g h))
  refine i_248_115 (x := (xfr (xvv xs))) rfl ?_
  refine i_248_117 ?_
  refine i_248_120 (c := (xfo (xvv xs))) rfl ?_
  refine i_248_121 ((hk 129 (by decide) (by decide)).trans W0_129) (Nat.le_of_ble_eq_true rfl) (s_179_4 ((hk 129 (by decide) (by decide)).trans W0_129) (by omega) ((hk 130 (by decide) (by decide)).trans W0_130) (by omega) (show (lg_cmp (xqs (xqs (xfo (xvv xs)))) (0 : Int64)) = 0 from (xge_c (n := 0) (by omega) rfl))) ?_
  refine i_248_124 (x := 128) rfl ?_
  refine i_248_125 (x := (xs 1)) rfl ?_
  refine i_248_126 (x := 128) rfl ?_
  refine i_248_127 (v := Value.ref 129) (xgn (by decide) (xgn (by decide) (xgn (by decide) (xgn (by decide) (xgn (by decide) hm))))) rfl ?_
  refine i_248_130 (x := (xfd (xvv xs))) rfl ?_
  refine i_248_132 (fun _ => ?_) (fun h => absurd (show (xfd (xvv xs)).toInt ≠ 0 by omega) (fun g => g h))
  refine i_248_139 (x := (xfd (xvv xs))) rfl ?_
  refine i_248_141 ?_
  refine i_248_144 (c := ((xfd (xvv xs)) - (1075 : Int32))) rfl ?_
  refine i_248_145 ?_
  refine i_248_146 (x := (xvv xs)) rfl ?_
  refine i_248_147 ?_
  refine i_248_148 (c := (lg_cmp (xvv xs) (0 : Int64))) rfl ?_
  refine i_248_149 (fun _ => ?_) (fun h => absurd (show 0 ≤ (lg_cmp (xvv xs) (0 : Int64)).toInt by omega) (Int.not_le.mpr h))
  refine i_248_156 ?_
  refine i_248_157 (x := (xs 4)) rfl ?_
  refine i_248_159 (xgn (by decide) (xgn (by decide) (xgn (by decide) (xgn (by decide) (xgn (by decide) hm))))) (Nat.le_of_ble_eq_true rfl) hr ?_
  exact i_248_162 ⟨rfl, rfl⟩
theorem mn16_10_4 {d : Nat} {xs : Nat → Int32} {w w2 : xW} {b : Int32} {B K P G : Int32} (hk : ∀ h, 129 ≤ h → h < 194 → w[h]? = (W0 6 xs)[h]?) (hm : w[128]? = some (Sum.inr (12, [Value.ref 129, Value.ref 131, Value.ref 133, Value.ref 135, Value.ref 137, Value.ref 139, Value.ref 141, Value.ref 143, Value.ref 145, Value.ref 147, Value.ref 149, Value.ref 151, Value.ref 153, Value.ref 154, Value.ref 155, Value.ref 156, Value.ref 157, Value.int (-16384), Value.int 16384, Value.int 0, Value.int 0, Value.int 0, Value.ref 158, Value.ref 159, Value.int 0, Value.int 0, Value.int 0, Value.int 0, Value.int 0, Value.int 0, Value.int 0, Value.int 0]))) (c0 : 0 ≤ (xs 1).toInt) (c1 : (xs 1).toInt < 16) (c2 : 0 ≤ (xs 4).toInt) (c3 : (xs 4).toInt ≤ 4) (c4 : 0 ≤ (xfd (xvv xs)).toInt) (c5 : (xfd (xvv xs)).toInt ≤ 2047) (c6 : (xfd (xvv xs)).toInt ≠ 2047) (c7 : (xfd (xvv xs)).toInt ≠ 0) (c8 : 0 ≤ (lg_cmp (xvv xs) (0 : Int64)).toInt) (c9 : K.toInt = 64 - B.toInt) (c10 : 33 ≤ B.toInt) (c11 : B.toInt ≤ 34) (c12 : (xhi (xfo (xvv xs))).toInt ≠ 0) (c13 : (xnlz (xhi (xfo (xvv xs)))).toInt = 64 - B.toInt) (c14 : (xbf 2 (xlo (xfo (xvv xs))) (xhi (xfo (xvv xs))) ((32 : Int32) - K)).toInt ≠ 0) (c15 : (lg_cmp (xfo (xvv xs)) (0 : Int64)).toInt ≠ 0) (c16 : (lg_cmp (xqs (xfo (xvv xs))) (0 : Int64)).toInt ≠ 0) (c17 : (lg_cmp (xqs (xqs (xfo (xvv xs)))) (0 : Int64)).toInt = 0) (c18 : (xbn (xq (xqs (xfo (xvv xs))))).toInt = B.toInt - 30) (c19 : (xq (xqs (xfo (xvv xs)))).toInt ≠ 0) (c20 : 0 ≤ (xq (xqs (xfo (xvv xs)))).toInt) (c21 : K.toInt ≠ 0) (c22 : K / (30 : Int32) = 1) (c23 : K - K / (30 : Int32) * (30 : Int32) = P) (c24 : ((0 : Int32) ||| (xH (xq (xqs (xfo (xvv xs)))) P)).toInt = 0) (c25 : ((xL (xq (xqs (xfo (xvv xs)))) P) ||| (xH (xq (xfo (xvv xs))) P)).toInt ≠ 0) (c26 : 0 ≤ ((xL (xq (xqs (xfo (xvv xs)))) P) ||| (xH (xq (xfo (xvv xs))) P)).toInt) (c27 : (xbn ((xL (xq (xqs (xfo (xvv xs)))) P) ||| (xH (xq (xfo (xvv xs))) P))).toInt = 4) (c28 : G.toInt = B.toInt - 31) (hr : xRun (d + 6) 180 [Value.ref 128, Value.int (xs 1), Value.ref 129, Value.int ((xfd (xvv xs)) - (1075 : Int32)), Value.int 0, Value.int 0, Value.int (xs 4)] (((((w.set 129 (Sum.inr (13, [Value.ref 130, Value.int 0]))).set 130 (Sum.inl (0, 4700, xup (fun _ => Value.int 0) (0 : Int32).toInt.toNat (Value.int (xq (xfo (xvv xs))))))).set 129 (Sum.inr (13, [Value.ref 130, Value.int 1]))).set 130 (Sum.inl (0, 4700, xup (xup (fun _ => Value.int 0) (0 : Int32).toInt.toNat (Value.int (xq (xfo (xvv xs))))) (1 : Int32).toInt.toNat (Value.int (xq (xqs (xfo (xvv xs)))))))).set 129 (Sum.inr (13, [Value.ref 130, Value.int 2]))) (.inl (some (Value.int b))) w2) : xRun (d + 7) 248 [Value.ref 128, Value.int (xs 1), Value.long (xvv xs), Value.int (xs 4)] w (.inl (some (Value.int b))) w2 := by
  refine xRun.of ?_
  refine i_248_0 (x := (xs 1)) rfl ?_
  refine i_248_1 (Nat.le_of_ble_eq_true rfl) (s_168_0 (by omega) (by omega)) ?_
  refine i_248_4 (x := (xs 4)) rfl ?_
  refine i_248_6 (Nat.le_of_ble_eq_true rfl) (s_178_0 (by omega) (by omega)) ?_
  refine i_248_9 (x := (xvv xs)) rfl ?_
  refine i_248_10 ?_
  refine i_248_12 (c := ((xvv xs) >>> ((52 : Int32).toInt64 &&& 63))) rfl ?_
  refine i_248_13 (c := ((xvv xs) >>> ((52 : Int32).toInt64 &&& 63)).toInt32) rfl ?_
  refine i_248_14 ?_
  refine i_248_17 (c := (xfd (xvv xs))) (show (xfe (xvv xs)) = (xfd (xvv xs)) from (xfe_eq _)) ?_
  refine i_248_18 (lv2 := [(5, Value.int (xfd (xvv xs))), (0, Value.ref 128), (1, Value.int (xs 1)), (2, Value.long (xvv xs)), (4, Value.int (xs 4))]) rfl ?_
  refine i_248_20 (x := (xvv xs)) rfl ?_
  refine i_248_21 ?_
  refine i_248_24 (c := (xfr (xvv xs))) rfl ?_
  refine i_248_25 (lv2 := [(6, Value.long (xfr (xvv xs))), (5, Value.int (xfd (xvv xs))), (0, Value.ref 128), (1, Value.int (xs 1)), (2, Value.long (xvv xs)), (4, Value.int (xs 4))]) rfl ?_
  refine i_248_27 (x := (xfd (xvv xs))) rfl ?_
  refine i_248_29 ?_
  refine i_248_32 (fun _ => ?_) (fun h => absurd (show (xfd (xvv xs)).toInt ≠ 2047 by omega) (fun g => g h))
  refine i_248_71 (x := (xfd (xvv xs))) rfl ?_
  refine i_248_73 (fun _ => ?_) (fun h => absurd (show (xfd (xvv xs)).toInt ≠ 0 by omega) (fun g => g h))
  refine i_248_101 (x := 128) rfl ?_
  refine i_248_102 (v := Value.ref 129) hm rfl ?_
  refine i_248_105 (x := (xfd (xvv xs))) rfl ?_
  refine i_248_107 (fun _ => ?_) (fun h => absurd (show (xfd (xvv xs)).toInt ≠ 0 by omega) (fun g => g h))
  refine i_248_115 (x := (xfr (xvv xs))) rfl ?_
  refine i_248_117 ?_
  refine i_248_120 (c := (xfo (xvv xs))) rfl ?_
  refine i_248_121 ((hk 129 (by decide) (by decide)).trans W0_129) (Nat.le_of_ble_eq_true rfl) (s_179_4 ((hk 129 (by decide) (by decide)).trans W0_129) (by omega) ((hk 130 (by decide) (by decide)).trans W0_130) (by omega) (show (lg_cmp (xqs (xqs (xfo (xvv xs)))) (0 : Int64)) = 0 from (xge_c (n := 0) (by omega) rfl))) ?_
  refine i_248_124 (x := 128) rfl ?_
  refine i_248_125 (x := (xs 1)) rfl ?_
  refine i_248_126 (x := 128) rfl ?_
  refine i_248_127 (v := Value.ref 129) (xgn (by decide) (xgn (by decide) (xgn (by decide) (xgn (by decide) (xgn (by decide) hm))))) rfl ?_
  refine i_248_130 (x := (xfd (xvv xs))) rfl ?_
  refine i_248_132 (fun _ => ?_) (fun h => absurd (show (xfd (xvv xs)).toInt ≠ 0 by omega) (fun g => g h))
  refine i_248_139 (x := (xfd (xvv xs))) rfl ?_
  refine i_248_141 ?_
  refine i_248_144 (c := ((xfd (xvv xs)) - (1075 : Int32))) rfl ?_
  refine i_248_145 ?_
  refine i_248_146 (x := (xvv xs)) rfl ?_
  refine i_248_147 ?_
  refine i_248_148 (c := (lg_cmp (xvv xs) (0 : Int64))) rfl ?_
  refine i_248_149 (fun _ => ?_) (fun h => absurd (show 0 ≤ (lg_cmp (xvv xs) (0 : Int64)).toInt by omega) (Int.not_le.mpr h))
  refine i_248_156 ?_
  refine i_248_157 (x := (xs 4)) rfl ?_
  refine i_248_159 (xgn (by decide) (xgn (by decide) (xgn (by decide) (xgn (by decide) (xgn (by decide) hm))))) (Nat.le_of_ble_eq_true rfl) hr ?_
  exact i_248_162 ⟨rfl, rfl⟩
theorem mn16_10_5 {d : Nat} {xs : Nat → Int32} {w w2 : xW} {b : Int32} {B K P G : Int32} (hk : ∀ h, 129 ≤ h → h < 194 → w[h]? = (W0 6 xs)[h]?) (hm : w[128]? = some (Sum.inr (12, [Value.ref 129, Value.ref 131, Value.ref 133, Value.ref 135, Value.ref 137, Value.ref 139, Value.ref 141, Value.ref 143, Value.ref 145, Value.ref 147, Value.ref 149, Value.ref 151, Value.ref 153, Value.ref 154, Value.ref 155, Value.ref 156, Value.ref 157, Value.int (-16384), Value.int 16384, Value.int 0, Value.int 0, Value.int 0, Value.ref 158, Value.ref 159, Value.int 0, Value.int 0, Value.int 0, Value.int 0, Value.int 0, Value.int 0, Value.int 0, Value.int 0]))) (c0 : 0 ≤ (xs 1).toInt) (c1 : (xs 1).toInt < 16) (c2 : 0 ≤ (xs 4).toInt) (c3 : (xs 4).toInt ≤ 4) (c4 : 0 ≤ (xfd (xvv xs)).toInt) (c5 : (xfd (xvv xs)).toInt ≤ 2047) (c6 : (xfd (xvv xs)).toInt ≠ 2047) (c7 : (xfd (xvv xs)).toInt ≠ 0) (c8 : 0 ≤ (lg_cmp (xvv xs) (0 : Int64)).toInt) (c9 : K.toInt = 64 - B.toInt) (c10 : 35 ≤ B.toInt) (c11 : B.toInt ≤ 60) (c12 : (xhi (xfo (xvv xs))).toInt ≠ 0) (c13 : (xnlz (xhi (xfo (xvv xs)))).toInt = 64 - B.toInt) (c14 : (xbf 2 (xlo (xfo (xvv xs))) (xhi (xfo (xvv xs))) ((32 : Int32) - K)).toInt ≠ 0) (c15 : (lg_cmp (xfo (xvv xs)) (0 : Int64)).toInt ≠ 0) (c16 : (lg_cmp (xqs (xfo (xvv xs))) (0 : Int64)).toInt ≠ 0) (c17 : (lg_cmp (xqs (xqs (xfo (xvv xs)))) (0 : Int64)).toInt = 0) (c18 : (xbn (xq (xqs (xfo (xvv xs))))).toInt = B.toInt - 30) (c19 : (xq (xqs (xfo (xvv xs)))).toInt ≠ 0) (c20 : 0 ≤ (xq (xqs (xfo (xvv xs)))).toInt) (c21 : K.toInt ≠ 0) (c22 : K / (30 : Int32) = 0) (c23 : K - K / (30 : Int32) * (30 : Int32) = P) (c24 : ((0 : Int32) ||| (xH (xq (xqs (xfo (xvv xs)))) P)).toInt ≠ 0) (c25 : 0 ≤ ((0 : Int32) ||| (xH (xq (xqs (xfo (xvv xs)))) P)).toInt) (c26 : (xbn ((0 : Int32) ||| (xH (xq (xqs (xfo (xvv xs)))) P))).toInt = 4) (c27 : G.toInt = B.toInt - 31) (hr : xRun (d + 6) 180 [Value.ref 128, Value.int (xs 1), Value.ref 129, Value.int ((xfd (xvv xs)) - (1075 : Int32)), Value.int 0, Value.int 0, Value.int (xs 4)] (((((w.set 129 (Sum.inr (13, [Value.ref 130, Value.int 0]))).set 130 (Sum.inl (0, 4700, xup (fun _ => Value.int 0) (0 : Int32).toInt.toNat (Value.int (xq (xfo (xvv xs))))))).set 129 (Sum.inr (13, [Value.ref 130, Value.int 1]))).set 130 (Sum.inl (0, 4700, xup (xup (fun _ => Value.int 0) (0 : Int32).toInt.toNat (Value.int (xq (xfo (xvv xs))))) (1 : Int32).toInt.toNat (Value.int (xq (xqs (xfo (xvv xs)))))))).set 129 (Sum.inr (13, [Value.ref 130, Value.int 2]))) (.inl (some (Value.int b))) w2) : xRun (d + 7) 248 [Value.ref 128, Value.int (xs 1), Value.long (xvv xs), Value.int (xs 4)] w (.inl (some (Value.int b))) w2 := by
  refine xRun.of ?_
  refine i_248_0 (x := (xs 1)) rfl ?_
  refine i_248_1 (Nat.le_of_ble_eq_true rfl) (s_168_0 (by omega) (by omega)) ?_
  refine i_248_4 (x := (xs 4)) rfl ?_
  refine i_248_6 (Nat.le_of_ble_eq_true rfl) (s_178_0 (by omega) (by omega)) ?_
  refine i_248_9 (x := (xvv xs)) rfl ?_
  refine i_248_10 ?_
  refine i_248_12 (c := ((xvv xs) >>> ((52 : Int32).toInt64 &&& 63))) rfl ?_
  refine i_248_13 (c := ((xvv xs) >>> ((52 : Int32).toInt64 &&& 63)).toInt32) rfl ?_
  refine i_248_14 ?_
  refine i_248_17 (c := (xfd (xvv xs))) (show (xfe (xvv xs)) = (xfd (xvv xs)) from (xfe_eq _)) ?_
  refine i_248_18 (lv2 := [(5, Value.int (xfd (xvv xs))), (0, Value.ref 128), (1, Value.int (xs 1)), (2, Value.long (xvv xs)), (4, Value.int (xs 4))]) rfl ?_
  refine i_248_20 (x := (xvv xs)) rfl ?_
  refine i_248_21 ?_
  refine i_248_24 (c := (xfr (xvv xs))) rfl ?_
  refine i_248_25 (lv2 := [(6, Value.long (xfr (xvv xs))), (5, Value.int (xfd (xvv xs))), (0, Value.ref 128), (1, Value.int (xs 1)), (2, Value.long (xvv xs)), (4, Value.int (xs 4))]) rfl ?_
  refine i_248_27 (x := (xfd (xvv xs))) rfl ?_
  refine i_248_29 ?_
  refine i_248_32 (fun _ => ?_) (fun h => absurd (show (xfd (xvv xs)).toInt ≠ 2047 by omega) (fun g => g h))
  refine i_248_71 (x := (xfd (xvv xs))) rfl ?_
  refine i_248_73 (fun _ => ?_) (fun h => absurd (show (xfd (xvv xs)).toInt ≠ 0 by omega) (fun g => g h))
  refine i_248_101 (x := 128) rfl ?_
  refine i_248_102 (v := Value.ref 129) hm rfl ?_
  refine i_248_105 (x := (xfd (xvv xs))) rfl ?_
  refine i_248_107 (fun _ => ?_) (fun h => absurd (show (xfd (xvv xs)).toInt ≠ 0 by omega) (fun g => g h))
  refine i_248_115 (x := (xfr (xvv xs))) rfl ?_
  refine i_248_117 ?_
  refine i_248_120 (c := (xfo (xvv xs))) rfl ?_
  refine i_248_121 ((hk 129 (by decide) (by decide)).trans W0_129) (Nat.le_of_ble_eq_true rfl) (s_179_4 ((hk 129 (by decide) (by decide)).trans W0_129) (by omega) ((hk 130 (by decide) (by decide)).trans W0_130) (by omega) (show (lg_cmp (xqs (xqs (xfo (xvv xs)))) (0 : Int64)) = 0 from (xge_c (n := 0) (by omega) rfl))) ?_
  refine i_248_124 (x := 128) rfl ?_
  refine i_248_125 (x := (xs 1)) rfl ?_
  refine i_248_126 (x := 128) rfl ?_
  refine i_248_127 (v := Value.ref 129) (xgn (by decide) (xgn (by decide) (xgn (by decide) (xgn (by decide) (xgn (by decide) hm))))) rfl ?_
  refine i_248_130 (x := (xfd (xvv xs))) rfl ?_
  refine i_248_132 (fun _ => ?_) (fun h => absurd (show (xfd (xvv xs)).toInt ≠ 0 by omega) (fun g => g h))
  refine i_248_139 (x := (xfd (xvv xs))) rfl ?_
  refine i_248_141 ?_
  refine i_248_144 (c := ((xfd (xvv xs)) - (1075 : Int32))) rfl ?_
  refine i_248_145 ?_
  refine i_248_146 (x := (xvv xs)) rfl ?_
  refine i_248_147 ?_
  refine i_248_148 (c := (lg_cmp (xvv xs) (0 : Int64))) rfl ?_
  refine i_248_149 (fun _ => ?_) (fun h => absurd (show 0 ≤ (lg_cmp (xvv xs) (0 : Int64)).toInt by omega) (Int.not_le.mpr h))
  refine i_248_156 ?_
  refine i_248_157 (x := (xs 4)) rfl ?_
  refine i_248_159 (xgn (by decide) (xgn (by decide) (xgn (by decide) (xgn (by decide) (xgn (by decide) hm))))) (Nat.le_of_ble_eq_true rfl) hr ?_
  exact i_248_162 ⟨rfl, rfl⟩
theorem mn16_10_6 {d : Nat} {xs : Nat → Int32} {w w2 : xW} {b : Int32} {B K P G : Int32} (hk : ∀ h, 129 ≤ h → h < 194 → w[h]? = (W0 6 xs)[h]?) (hm : w[128]? = some (Sum.inr (12, [Value.ref 129, Value.ref 131, Value.ref 133, Value.ref 135, Value.ref 137, Value.ref 139, Value.ref 141, Value.ref 143, Value.ref 145, Value.ref 147, Value.ref 149, Value.ref 151, Value.ref 153, Value.ref 154, Value.ref 155, Value.ref 156, Value.ref 157, Value.int (-16384), Value.int 16384, Value.int 0, Value.int 0, Value.int 0, Value.ref 158, Value.ref 159, Value.int 0, Value.int 0, Value.int 0, Value.int 0, Value.int 0, Value.int 0, Value.int 0, Value.int 0]))) (c0 : 0 ≤ (xs 1).toInt) (c1 : (xs 1).toInt < 16) (c2 : 0 ≤ (xs 4).toInt) (c3 : (xs 4).toInt ≤ 4) (c4 : 0 ≤ (xfd (xvv xs)).toInt) (c5 : (xfd (xvv xs)).toInt ≤ 2047) (c6 : (xfd (xvv xs)).toInt ≠ 2047) (c7 : (xfd (xvv xs)).toInt ≠ 0) (c8 : 0 ≤ (lg_cmp (xvv xs) (0 : Int64)).toInt) (c9 : K.toInt = 64 - B.toInt) (c10 : 61 ≤ B.toInt) (c11 : B.toInt ≤ 63) (c12 : (xhi (xfo (xvv xs))).toInt ≠ 0) (c13 : (xnlz (xhi (xfo (xvv xs)))).toInt = 64 - B.toInt) (c14 : (xbf 2 (xlo (xfo (xvv xs))) (xhi (xfo (xvv xs))) ((32 : Int32) - K)).toInt ≠ 0) (c15 : (lg_cmp (xfo (xvv xs)) (0 : Int64)).toInt ≠ 0) (c16 : (lg_cmp (xqs (xfo (xvv xs))) (0 : Int64)).toInt ≠ 0) (c17 : (lg_cmp (xqs (xqs (xfo (xvv xs)))) (0 : Int64)).toInt ≠ 0) (c18 : (lg_cmp (xqs (xqs (xqs (xfo (xvv xs))))) (0 : Int64)).toInt = 0) (c19 : (xbn (xq (xqs (xqs (xfo (xvv xs)))))).toInt = B.toInt - 60) (c20 : (xq (xqs (xqs (xfo (xvv xs))))).toInt ≠ 0) (c21 : 0 ≤ (xq (xqs (xqs (xfo (xvv xs))))).toInt) (c22 : K.toInt ≠ 0) (c23 : K / (30 : Int32) = 0) (c24 : K - K / (30 : Int32) * (30 : Int32) = P) (c25 : ((0 : Int32) ||| (xH (xq (xqs (xqs (xfo (xvv xs))))) P)).toInt = 0) (c26 : ((xL (xq (xqs (xqs (xfo (xvv xs))))) P) ||| (xH (xq (xqs (xfo (xvv xs)))) P)).toInt ≠ 0) (c27 : 0 ≤ ((xL (xq (xqs (xqs (xfo (xvv xs))))) P) ||| (xH (xq (xqs (xfo (xvv xs)))) P)).toInt) (c28 : (xbn ((xL (xq (xqs (xqs (xfo (xvv xs))))) P) ||| (xH (xq (xqs (xfo (xvv xs)))) P))).toInt = 4) (c29 : G.toInt = B.toInt - 61) (hr : xRun (d + 6) 180 [Value.ref 128, Value.int (xs 1), Value.ref 129, Value.int ((xfd (xvv xs)) - (1075 : Int32)), Value.int 0, Value.int 0, Value.int (xs 4)] (((((((w.set 129 (Sum.inr (13, [Value.ref 130, Value.int 0]))).set 130 (Sum.inl (0, 4700, xup (fun _ => Value.int 0) (0 : Int32).toInt.toNat (Value.int (xq (xfo (xvv xs))))))).set 129 (Sum.inr (13, [Value.ref 130, Value.int 1]))).set 130 (Sum.inl (0, 4700, xup (xup (fun _ => Value.int 0) (0 : Int32).toInt.toNat (Value.int (xq (xfo (xvv xs))))) (1 : Int32).toInt.toNat (Value.int (xq (xqs (xfo (xvv xs)))))))).set 129 (Sum.inr (13, [Value.ref 130, Value.int 2]))).set 130 (Sum.inl (0, 4700, xup (xup (xup (fun _ => Value.int 0) (0 : Int32).toInt.toNat (Value.int (xq (xfo (xvv xs))))) (1 : Int32).toInt.toNat (Value.int (xq (xqs (xfo (xvv xs)))))) (2 : Int32).toInt.toNat (Value.int (xq (xqs (xqs (xfo (xvv xs))))))))).set 129 (Sum.inr (13, [Value.ref 130, Value.int 3]))) (.inl (some (Value.int b))) w2) : xRun (d + 7) 248 [Value.ref 128, Value.int (xs 1), Value.long (xvv xs), Value.int (xs 4)] w (.inl (some (Value.int b))) w2 := by
  refine xRun.of ?_
  refine i_248_0 (x := (xs 1)) rfl ?_
  refine i_248_1 (Nat.le_of_ble_eq_true rfl) (s_168_0 (by omega) (by omega)) ?_
  refine i_248_4 (x := (xs 4)) rfl ?_
  refine i_248_6 (Nat.le_of_ble_eq_true rfl) (s_178_0 (by omega) (by omega)) ?_
  refine i_248_9 (x := (xvv xs)) rfl ?_
  refine i_248_10 ?_
  refine i_248_12 (c := ((xvv xs) >>> ((52 : Int32).toInt64 &&& 63))) rfl ?_
  refine i_248_13 (c := ((xvv xs) >>> ((52 : Int32).toInt64 &&& 63)).toInt32) rfl ?_
  refine i_248_14 ?_
  refine i_248_17 (c := (xfd (xvv xs))) (show (xfe (xvv xs)) = (xfd (xvv xs)) from (xfe_eq _)) ?_
  refine i_248_18 (lv2 := [(5, Value.int (xfd (xvv xs))), (0, Value.ref 128), (1, Value.int (xs 1)), (2, Value.long (xvv xs)), (4, Value.int (xs 4))]) rfl ?_
  refine i_248_20 (x := (xvv xs)) rfl ?_
  refine i_248_21 ?_
  refine i_248_24 (c := (xfr (xvv xs))) rfl ?_
  refine i_248_25 (lv2 := [(6, Value.long (xfr (xvv xs))), (5, Value.int (xfd (xvv xs))), (0, Value.ref 128), (1, Value.int (xs 1)), (2, Value.long (xvv xs)), (4, Value.int (xs 4))]) rfl ?_
  refine i_248_27 (x := (xfd (xvv xs))) rfl ?_
  refine i_248_29 ?_
  refine i_248_32 (fun _ => ?_) (fun h => absurd (show (xfd (xvv xs)).toInt ≠ 2047 by omega) (fun g => g h))
  refine i_248_71 (x := (xfd (xvv xs))) rfl ?_
  refine i_248_73 (fun _ => ?_) (fun h => absurd (show (xfd (xvv xs)).toInt ≠ 0 by omega) (fun g => g h))
  refine i_248_101 (x := 128) rfl ?_
  refine i_248_102 (v := Value.ref 129) hm rfl ?_
  refine i_248_105 (x := (xfd (xvv xs))) rfl ?_
  refine i_248_107 (fun _ => ?_) (fun h => absurd (show (xfd (xvv xs)).toInt ≠ 0 by omega) (fun g => g h))
  refine i_248_115 (x := (xfr (xvv xs))) rfl ?_
  refine i_248_117 ?_
  refine i_248_120 (c := (xfo (xvv xs))) rfl ?_
  refine i_248_121 ((hk 129 (by decide) (by decide)).trans W0_129) (Nat.le_of_ble_eq_true rfl) (s_179_5 ((hk 129 (by decide) (by decide)).trans W0_129) (by omega) ((hk 130 (by decide) (by decide)).trans W0_130) (by omega) (by omega) (show (lg_cmp (xqs (xqs (xqs (xfo (xvv xs))))) (0 : Int64)) = 0 from (xge_c (n := 0) (by omega) rfl))) ?_
  refine i_248_124 (x := 128) rfl ?_
  refine i_248_125 (x := (xs 1)) rfl ?_
  refine i_248_126 (x := 128) rfl ?_
  refine i_248_127 (v := Value.ref 129) (xgn (by decide) (xgn (by decide) (xgn (by decide) (xgn (by decide) (xgn (by decide) (xgn (by decide) (xgn (by decide) hm))))))) rfl ?_
  refine i_248_130 (x := (xfd (xvv xs))) rfl ?_
  refine i_248_132 (fun _ => ?_) (fun h => absurd (show (xfd (xvv xs)).toInt ≠ 0 by omega) (fun g => g h))
  refine i_248_139 (x := (xfd (xvv xs))) rfl ?_
  refine i_248_141 ?_
  refine i_248_144 (c := ((xfd (xvv xs)) - (1075 : Int32))) rfl ?_
  refine i_248_145 ?_
  refine i_248_146 (x := (xvv xs)) rfl ?_
  refine i_248_147 ?_
  refine i_248_148 (c := (lg_cmp (xvv xs) (0 : Int64))) rfl ?_
  refine i_248_149 (fun _ => ?_) (fun h => absurd (show 0 ≤ (lg_cmp (xvv xs) (0 : Int64)).toInt by omega) (Int.not_le.mpr h))
  refine i_248_156 ?_
  refine i_248_157 (x := (xs 4)) rfl ?_
  refine i_248_159 (xgn (by decide) (xgn (by decide) (xgn (by decide) (xgn (by decide) (xgn (by decide) (xgn (by decide) (xgn (by decide) hm))))))) (Nat.le_of_ble_eq_true rfl) hr ?_
  exact i_248_162 ⟨rfl, rfl⟩
theorem mn16_10_7 {d : Nat} {xs : Nat → Int32} {w w2 : xW} {b : Int32} {B K G : Int32} (hk : ∀ h, 129 ≤ h → h < 194 → w[h]? = (W0 6 xs)[h]?) (hm : w[128]? = some (Sum.inr (12, [Value.ref 129, Value.ref 131, Value.ref 133, Value.ref 135, Value.ref 137, Value.ref 139, Value.ref 141, Value.ref 143, Value.ref 145, Value.ref 147, Value.ref 149, Value.ref 151, Value.ref 153, Value.ref 154, Value.ref 155, Value.ref 156, Value.ref 157, Value.int (-16384), Value.int 16384, Value.int 0, Value.int 0, Value.int 0, Value.ref 158, Value.ref 159, Value.int 0, Value.int 0, Value.int 0, Value.int 0, Value.int 0, Value.int 0, Value.int 0, Value.int 0]))) (c0 : 0 ≤ (xs 1).toInt) (c1 : (xs 1).toInt < 16) (c2 : 0 ≤ (xs 4).toInt) (c3 : (xs 4).toInt ≤ 4) (c4 : 0 ≤ (xfd (xvv xs)).toInt) (c5 : (xfd (xvv xs)).toInt ≤ 2047) (c6 : (xfd (xvv xs)).toInt ≠ 2047) (c7 : (xfd (xvv xs)).toInt ≠ 0) (c8 : 0 ≤ (lg_cmp (xvv xs) (0 : Int64)).toInt) (c9 : K.toInt = 64 - B.toInt) (c10 : 64 ≤ B.toInt) (c11 : B.toInt ≤ 64) (c12 : (xhi (xfo (xvv xs))).toInt ≠ 0) (c13 : (xnlz (xhi (xfo (xvv xs)))).toInt = 64 - B.toInt) (c14 : (xbf 2 (xlo (xfo (xvv xs))) (xhi (xfo (xvv xs))) ((32 : Int32) - K)).toInt ≠ 0) (c15 : (lg_cmp (xfo (xvv xs)) (0 : Int64)).toInt ≠ 0) (c16 : (lg_cmp (xqs (xfo (xvv xs))) (0 : Int64)).toInt ≠ 0) (c17 : (lg_cmp (xqs (xqs (xfo (xvv xs)))) (0 : Int64)).toInt ≠ 0) (c18 : (lg_cmp (xqs (xqs (xqs (xfo (xvv xs))))) (0 : Int64)).toInt = 0) (c19 : (xbn (xq (xqs (xqs (xfo (xvv xs)))))).toInt = B.toInt - 60) (c20 : (xq (xqs (xqs (xfo (xvv xs))))).toInt ≠ 0) (c21 : 0 ≤ (xq (xqs (xqs (xfo (xvv xs))))).toInt) (c22 : K.toInt = 0) (c23 : (xbn (xq (xqs (xqs (xfo (xvv xs)))))).toInt = 4) (c24 : G.toInt = B.toInt - 61) (hr : xRun (d + 6) 180 [Value.ref 128, Value.int (xs 1), Value.ref 129, Value.int ((xfd (xvv xs)) - (1075 : Int32)), Value.int 0, Value.int 0, Value.int (xs 4)] (((((((w.set 129 (Sum.inr (13, [Value.ref 130, Value.int 0]))).set 130 (Sum.inl (0, 4700, xup (fun _ => Value.int 0) (0 : Int32).toInt.toNat (Value.int (xq (xfo (xvv xs))))))).set 129 (Sum.inr (13, [Value.ref 130, Value.int 1]))).set 130 (Sum.inl (0, 4700, xup (xup (fun _ => Value.int 0) (0 : Int32).toInt.toNat (Value.int (xq (xfo (xvv xs))))) (1 : Int32).toInt.toNat (Value.int (xq (xqs (xfo (xvv xs)))))))).set 129 (Sum.inr (13, [Value.ref 130, Value.int 2]))).set 130 (Sum.inl (0, 4700, xup (xup (xup (fun _ => Value.int 0) (0 : Int32).toInt.toNat (Value.int (xq (xfo (xvv xs))))) (1 : Int32).toInt.toNat (Value.int (xq (xqs (xfo (xvv xs)))))) (2 : Int32).toInt.toNat (Value.int (xq (xqs (xqs (xfo (xvv xs))))))))).set 129 (Sum.inr (13, [Value.ref 130, Value.int 3]))) (.inl (some (Value.int b))) w2) : xRun (d + 7) 248 [Value.ref 128, Value.int (xs 1), Value.long (xvv xs), Value.int (xs 4)] w (.inl (some (Value.int b))) w2 := by
  refine xRun.of ?_
  refine i_248_0 (x := (xs 1)) rfl ?_
  refine i_248_1 (Nat.le_of_ble_eq_true rfl) (s_168_0 (by omega) (by omega)) ?_
  refine i_248_4 (x := (xs 4)) rfl ?_
  refine i_248_6 (Nat.le_of_ble_eq_true rfl) (s_178_0 (by omega) (by omega)) ?_
  refine i_248_9 (x := (xvv xs)) rfl ?_
  refine i_248_10 ?_
  refine i_248_12 (c := ((xvv xs) >>> ((52 : Int32).toInt64 &&& 63))) rfl ?_
  refine i_248_13 (c := ((xvv xs) >>> ((52 : Int32).toInt64 &&& 63)).toInt32) rfl ?_
  refine i_248_14 ?_
  refine i_248_17 (c := (xfd (xvv xs))) (show (xfe (xvv xs)) = (xfd (xvv xs)) from (xfe_eq _)) ?_
  refine i_248_18 (lv2 := [(5, Value.int (xfd (xvv xs))), (0, Value.ref 128), (1, Value.int (xs 1)), (2, Value.long (xvv xs)), (4, Value.int (xs 4))]) rfl ?_
  refine i_248_20 (x := (xvv xs)) rfl ?_
  refine i_248_21 ?_
  refine i_248_24 (c := (xfr (xvv xs))) rfl ?_
  refine i_248_25 (lv2 := [(6, Value.long (xfr (xvv xs))), (5, Value.int (xfd (xvv xs))), (0, Value.ref 128), (1, Value.int (xs 1)), (2, Value.long (xvv xs)), (4, Value.int (xs 4))]) rfl ?_
  refine i_248_27 (x := (xfd (xvv xs))) rfl ?_
  refine i_248_29 ?_
  refine i_248_32 (fun _ => ?_) (fun h => absurd (show (xfd (xvv xs)).toInt ≠ 2047 by omega) (fun g => g h))
  refine i_248_71 (x := (xfd (xvv xs))) rfl ?_
  refine i_248_73 (fun _ => ?_) (fun h => absurd (show (xfd (xvv xs)).toInt ≠ 0 by omega) (fun g => g h))
  refine i_248_101 (x := 128) rfl ?_
  refine i_248_102 (v := Value.ref 129) hm rfl ?_
  refine i_248_105 (x := (xfd (xvv xs))) rfl ?_
  refine i_248_107 (fun _ => ?_) (fun h => absurd (show (xfd (xvv xs)).toInt ≠ 0 by omega) (fun g => g h))
  refine i_248_115 (x := (xfr (xvv xs))) rfl ?_
  refine i_248_117 ?_
  refine i_248_120 (c := (xfo (xvv xs))) rfl ?_
  refine i_248_121 ((hk 129 (by decide) (by decide)).trans W0_129) (Nat.le_of_ble_eq_true rfl) (s_179_5 ((hk 129 (by decide) (by decide)).trans W0_129) (by omega) ((hk 130 (by decide) (by decide)).trans W0_130) (by omega) (by omega) (show (lg_cmp (xqs (xqs (xqs (xfo (xvv xs))))) (0 : Int64)) = 0 from (xge_c (n := 0) (by omega) rfl))) ?_
  refine i_248_124 (x := 128) rfl ?_
  refine i_248_125 (x := (xs 1)) rfl ?_
  refine i_248_126 (x := 128) rfl ?_
  refine i_248_127 (v := Value.ref 129) (xgn (by decide) (xgn (by decide) (xgn (by decide) (xgn (by decide) (xgn (by decide) (xgn (by decide) (xgn (by decide) hm))))))) rfl ?_
  refine i_248_130 (x := (xfd (xvv xs))) rfl ?_
  refine i_248_132 (fun _ => ?_) (fun h => absurd (show (xfd (xvv xs)).toInt ≠ 0 by omega) (fun g => g h))
  refine i_248_139 (x := (xfd (xvv xs))) rfl ?_
  refine i_248_141 ?_
  refine i_248_144 (c := ((xfd (xvv xs)) - (1075 : Int32))) rfl ?_
  refine i_248_145 ?_
  refine i_248_146 (x := (xvv xs)) rfl ?_
  refine i_248_147 ?_
  refine i_248_148 (c := (lg_cmp (xvv xs) (0 : Int64))) rfl ?_
  refine i_248_149 (fun _ => ?_) (fun h => absurd (show 0 ≤ (lg_cmp (xvv xs) (0 : Int64)).toInt by omega) (Int.not_le.mpr h))
  refine i_248_156 ?_
  refine i_248_157 (x := (xs 4)) rfl ?_
  refine i_248_159 (xgn (by decide) (xgn (by decide) (xgn (by decide) (xgn (by decide) (xgn (by decide) (xgn (by decide) (xgn (by decide) hm))))))) (Nat.le_of_ble_eq_true rfl) hr ?_
  exact i_248_162 ⟨rfl, rfl⟩
theorem mdl16_10 {d : Nat} {xs : Nat → Int32} {w1 : xW} (k1 : xKp (W0 6 xs) w1 xPC) (c0 : 0 ≤ (xs 1).toInt) (c1 : (xs 1).toInt < 16) (c2 : 0 ≤ (xs 4).toInt) (c3 : (xs 4).toInt ≤ 4) (c4 : 0 ≤ (xfd (xvv xs)).toInt) (c5 : (xfd (xvv xs)).toInt ≤ 2047) (c6 : (xfd (xvv xs)).toInt ≠ 2047) (c7 : (xfd (xvv xs)).toInt ≠ 0) (c8 : 0 ≤ (lg_cmp (xvv xs) (0 : Int64)).toInt) : ∃ w2, xRun (d + 8) 247 [Value.ref 128, Value.int (xs 1), Value.long (xvv xs), Value.int (xs 4)] w1 (.inl (some (Value.int (xres 0 (xfo (xvv xs)) ((xfd (xvv xs)) - (1075 : Int32)) (xs 4))))) w2 ∧ xKp w1 w2 xPM ∧ ∃ f, w2[128]? = some (xmo f) := by
  have hk1 : ∀ h, 128 ≤ h → h ≠ 194 → w1[h]? = (W0 6 xs)[h]? := fun h h1 h2 => k1.1 h (Or.inl ⟨h1, h2⟩)
  have hm1 : w1[128]? = some (Sum.inr (12, [Value.ref 129, Value.ref 131, Value.ref 133, Value.ref 135, Value.ref 137, Value.ref 139, Value.ref 141, Value.ref 143, Value.ref 145, Value.ref 147, Value.ref 149, Value.ref 151, Value.ref 153, Value.ref 154, Value.ref 155, Value.ref 156, Value.ref 157, Value.int (-16384), Value.int 16384, Value.int 0, Value.int 0, Value.int 0, Value.ref 158, Value.ref 159, Value.int 0, Value.int 0, Value.int 0, Value.int 0, Value.int 0, Value.int 0, Value.int 0, Value.int 0])) := (hk1 128 (by decide) (by decide)).trans W0_128
  have hk : ∀ h, 129 ≤ h → h < 194 → (w1.set 128 (Sum.inr (12, [Value.ref 129, Value.ref 131, Value.ref 133, Value.ref 135, Value.ref 137, Value.ref 139, Value.ref 141, Value.ref 143, Value.ref 145, Value.ref 147, Value.ref 149, Value.ref 151, Value.ref 153, Value.ref 154, Value.ref 155, Value.ref 156, Value.ref 157, Value.int (-16384), Value.int 16384, Value.int 0, Value.int 0, Value.int 0, Value.ref 158, Value.ref 159, Value.int 0, Value.int 0, Value.int 0, Value.int 0, Value.int 0, Value.int 0, Value.int 0, Value.int 0])))[h]? = (W0 6 xs)[h]? := fun h h1 h2 => (xgn (by omega) rfl).trans (hk1 h (by omega) (by omega))
  have hm : (w1.set 128 (Sum.inr (12, [Value.ref 129, Value.ref 131, Value.ref 133, Value.ref 135, Value.ref 137, Value.ref 139, Value.ref 141, Value.ref 143, Value.ref 145, Value.ref 147, Value.ref 149, Value.ref 151, Value.ref 153, Value.ref 154, Value.ref 155, Value.ref 156, Value.ref 157, Value.int (-16384), Value.int 16384, Value.int 0, Value.int 0, Value.int 0, Value.ref 158, Value.ref 159, Value.int 0, Value.int 0, Value.int 0, Value.int 0, Value.int 0, Value.int 0, Value.int 0, Value.int 0])))[128]? = some (Sum.inr (12, [Value.ref 129, Value.ref 131, Value.ref 133, Value.ref 135, Value.ref 137, Value.ref 139, Value.ref 141, Value.ref 143, Value.ref 145, Value.ref 147, Value.ref 149, Value.ref 151, Value.ref 153, Value.ref 154, Value.ref 155, Value.ref 156, Value.ref 157, Value.int (-16384), Value.int 16384, Value.int 0, Value.int 0, Value.int 0, Value.ref 158, Value.ref 159, Value.int 0, Value.int 0, Value.int 0, Value.int 0, Value.int 0, Value.int 0, Value.int 0, Value.int 0])) := xgs hm1
  have fs : ((xfd (xvv xs)) - (1075 : Int32)).toInt = (xfd (xvv xs)).toInt - 1075 := xsub_g rfl rfl (by omega) (by omega)
  obtain ⟨B, K, P, G, hB, c9, hr⟩ := xreg (m := (xfo (xvv xs))) (xfo_nz _)
  rcases hr with ⟨c10, c11, c12, c13, c14, c15, c16, c17, c18, c19, c20, c21, c22, c23, c24, c25, c26, c27, c28⟩ | ⟨c10, c11, c12, c13, c14, c15, c16, c17, c18, c19, c20, c21, c22, c23, c24, c25, c26, c27⟩ | ⟨c10, c11, c12, c13, c14, c15, c16, c17, c18, c19, c20, c21, c22, c23, c24, c25, c26, c27, c28, c29⟩ | ⟨c10, c11, c12, c13, c14, c15, c16, c17, c18, c19, c20, c21, c22, c23, c24, c25, c26, c27, c28⟩ | ⟨c10, c11, c12, c13, c14, c15, c16, c17, c18, c19, c20, c21, c22, c23, c24, c25, c26, c27⟩ | ⟨c10, c11, c12, c13, c14, c15, c16, c17, c18, c19, c20, c21, c22, c23, c24, c25, c26, c27, c28, c29⟩ | ⟨c10, c11, c12, c13, c14, c15, c16, c17, c18, c19, c20, c21, c22, c23, c24⟩
  · obtain ⟨w2, h1, h2, h3⟩ := rd1_0 (d := d) (xs := xs) (m := (xfo (xvv xs))) (sc := ((xfd (xvv xs)) - (1075 : Int32))) (md := (xs 4)) (w := ((((w1.set 128 (Sum.inr (12, [Value.ref 129, Value.ref 131, Value.ref 133, Value.ref 135, Value.ref 137, Value.ref 139, Value.ref 141, Value.ref 143, Value.ref 145, Value.ref 147, Value.ref 149, Value.ref 151, Value.ref 153, Value.ref 154, Value.ref 155, Value.ref 156, Value.ref 157, Value.int (-16384), Value.int 16384, Value.int 0, Value.int 0, Value.int 0, Value.ref 158, Value.ref 159, Value.int 0, Value.int 0, Value.int 0, Value.int 0, Value.int 0, Value.int 0, Value.int 0, Value.int 0]))).set 129 (Sum.inr (13, [Value.ref 130, Value.int 0]))).set 130 (Sum.inl (0, 4700, xup (fun _ => Value.int 0) (0 : Int32).toInt.toNat (Value.int (xq (xfo (xvv xs))))))).set 129 (Sum.inr (13, [Value.ref 130, Value.int 1])))) (P := P) (fun h h1 h2 => (xgn (by omega) (xgn (by omega) (xgn (by omega) (rfl)))).trans (hk h (by omega) h2)) (xgn (by decide) (xgn (by decide) (xgn (by decide) hm))) (xgs (xgn (by decide) (xgs ((hk 129 (by decide) (by decide)).trans W0_129)))) (xgn (by decide) (xgs (xgn (by decide) (((hk 130 (by decide) (by decide)).trans W0_130))))) (xup_s) hB c0 c1 (by omega) (by omega) (by omega) (by omega) c9 c10 c11 c12 c13 c14 c15 c16 c17 c18 c19 c20 c21 c22 c23 c24 c25 c26 c27 c28
    refine ⟨w2, mnum16 hm1 (mn16_10_1 hk hm c0 c1 c2 c3 c4 c5 c6 c7 c8 c9 c10 c11 c12 c13 c14 c15 c16 c17 c18 c19 c20 c21 c22 c23 c24 c25 c26 c27 c28 h1), xKp.trans ?_ h2, h3⟩
    refine xKp.set ?_ (fun h hh => by unfold xPM at hh; omega) (xgn (by decide) (xgs ((hk 129 (by decide) (by decide)).trans W0_129))) xcs_o
    refine xKp.set ?_ (fun h hh => by unfold xPM at hh; omega) (xgn (by decide) (((hk 130 (by decide) (by decide)).trans W0_130))) xcs_a
    refine xKp.set ?_ (fun h hh => by unfold xPM at hh; omega) (((hk 129 (by decide) (by decide)).trans W0_129)) xcs_o
    exact xKp.set xKp.refl (fun h hh => by unfold xPM at hh; omega) hm1 xcs_o
  · obtain ⟨w2, h1, h2, h3⟩ := rd2_0 (d := d) (xs := xs) (m := (xfo (xvv xs))) (sc := ((xfd (xvv xs)) - (1075 : Int32))) (md := (xs 4)) (w := ((((w1.set 128 (Sum.inr (12, [Value.ref 129, Value.ref 131, Value.ref 133, Value.ref 135, Value.ref 137, Value.ref 139, Value.ref 141, Value.ref 143, Value.ref 145, Value.ref 147, Value.ref 149, Value.ref 151, Value.ref 153, Value.ref 154, Value.ref 155, Value.ref 156, Value.ref 157, Value.int (-16384), Value.int 16384, Value.int 0, Value.int 0, Value.int 0, Value.ref 158, Value.ref 159, Value.int 0, Value.int 0, Value.int 0, Value.int 0, Value.int 0, Value.int 0, Value.int 0, Value.int 0]))).set 129 (Sum.inr (13, [Value.ref 130, Value.int 0]))).set 130 (Sum.inl (0, 4700, xup (fun _ => Value.int 0) (0 : Int32).toInt.toNat (Value.int (xq (xfo (xvv xs))))))).set 129 (Sum.inr (13, [Value.ref 130, Value.int 1])))) (P := P) (fun h h1 h2 => (xgn (by omega) (xgn (by omega) (xgn (by omega) (rfl)))).trans (hk h (by omega) h2)) (xgn (by decide) (xgn (by decide) (xgn (by decide) hm))) (xgs (xgn (by decide) (xgs ((hk 129 (by decide) (by decide)).trans W0_129)))) (xgn (by decide) (xgs (xgn (by decide) (((hk 130 (by decide) (by decide)).trans W0_130))))) (xup_s) hB c0 c1 (by omega) (by omega) (by omega) (by omega) c9 c10 c11 c12 c13 c14 c15 c16 c17 c18 c19 c20 c21 c22 c23 c24 c25 c26 c27
    refine ⟨w2, mnum16 hm1 (mn16_10_2 hk hm c0 c1 c2 c3 c4 c5 c6 c7 c8 c9 c10 c11 c12 c13 c14 c15 c16 c17 c18 c19 c20 c21 c22 c23 c24 c25 c26 c27 h1), xKp.trans ?_ h2, h3⟩
    refine xKp.set ?_ (fun h hh => by unfold xPM at hh; omega) (xgn (by decide) (xgs ((hk 129 (by decide) (by decide)).trans W0_129))) xcs_o
    refine xKp.set ?_ (fun h hh => by unfold xPM at hh; omega) (xgn (by decide) (((hk 130 (by decide) (by decide)).trans W0_130))) xcs_a
    refine xKp.set ?_ (fun h hh => by unfold xPM at hh; omega) (((hk 129 (by decide) (by decide)).trans W0_129)) xcs_o
    exact xKp.set xKp.refl (fun h hh => by unfold xPM at hh; omega) hm1 xcs_o
  · obtain ⟨w2, h1, h2, h3⟩ := rd3_0 (d := d) (xs := xs) (m := (xfo (xvv xs))) (sc := ((xfd (xvv xs)) - (1075 : Int32))) (md := (xs 4)) (w := ((((((w1.set 128 (Sum.inr (12, [Value.ref 129, Value.ref 131, Value.ref 133, Value.ref 135, Value.ref 137, Value.ref 139, Value.ref 141, Value.ref 143, Value.ref 145, Value.ref 147, Value.ref 149, Value.ref 151, Value.ref 153, Value.ref 154, Value.ref 155, Value.ref 156, Value.ref 157, Value.int (-16384), Value.int 16384, Value.int 0, Value.int 0, Value.int 0, Value.ref 158, Value.ref 159, Value.int 0, Value.int 0, Value.int 0, Value.int 0, Value.int 0, Value.int 0, Value.int 0, Value.int 0]))).set 129 (Sum.inr (13, [Value.ref 130, Value.int 0]))).set 130 (Sum.inl (0, 4700, xup (fun _ => Value.int 0) (0 : Int32).toInt.toNat (Value.int (xq (xfo (xvv xs))))))).set 129 (Sum.inr (13, [Value.ref 130, Value.int 1]))).set 130 (Sum.inl (0, 4700, xup (xup (fun _ => Value.int 0) (0 : Int32).toInt.toNat (Value.int (xq (xfo (xvv xs))))) (1 : Int32).toInt.toNat (Value.int (xq (xqs (xfo (xvv xs)))))))).set 129 (Sum.inr (13, [Value.ref 130, Value.int 2])))) (P := P) (fun h h1 h2 => (xgn (by omega) (xgn (by omega) (xgn (by omega) (xgn (by omega) (xgn (by omega) (rfl)))))).trans (hk h (by omega) h2)) (xgn (by decide) (xgn (by decide) (xgn (by decide) (xgn (by decide) (xgn (by decide) hm))))) (xgs (xgn (by decide) (xgs (xgn (by decide) (xgs ((hk 129 (by decide) (by decide)).trans W0_129)))))) (xgn (by decide) (xgs (xgn (by decide) (xgs (xgn (by decide) (((hk 130 (by decide) (by decide)).trans W0_130))))))) (xup_n (by decide) xup_s) (xup_s) hB c0 c1 (by omega) (by omega) (by omega) (by omega) c9 c10 c11 c12 c13 c14 c15 c16 c17 c18 c19 c20 c21 c22 c23 c24 c25 c26 c27 c28 c29
    refine ⟨w2, mnum16 hm1 (mn16_10_3 hk hm c0 c1 c2 c3 c4 c5 c6 c7 c8 c9 c10 c11 c12 c13 c14 c15 c16 c17 c18 c19 c20 c21 c22 c23 c24 c25 c26 c27 c28 c29 h1), xKp.trans ?_ h2, h3⟩
    refine xKp.set ?_ (fun h hh => by unfold xPM at hh; omega) (xgn (by decide) (xgs (xgn (by decide) (xgs ((hk 129 (by decide) (by decide)).trans W0_129))))) xcs_o
    refine xKp.set ?_ (fun h hh => by unfold xPM at hh; omega) (xgn (by decide) (xgs (xgn (by decide) (((hk 130 (by decide) (by decide)).trans W0_130))))) xcs_a
    refine xKp.set ?_ (fun h hh => by unfold xPM at hh; omega) (xgn (by decide) (xgs ((hk 129 (by decide) (by decide)).trans W0_129))) xcs_o
    refine xKp.set ?_ (fun h hh => by unfold xPM at hh; omega) (xgn (by decide) (((hk 130 (by decide) (by decide)).trans W0_130))) xcs_a
    refine xKp.set ?_ (fun h hh => by unfold xPM at hh; omega) (((hk 129 (by decide) (by decide)).trans W0_129)) xcs_o
    exact xKp.set xKp.refl (fun h hh => by unfold xPM at hh; omega) hm1 xcs_o
  · obtain ⟨w2, h1, h2, h3⟩ := rd4_0 (d := d) (xs := xs) (m := (xfo (xvv xs))) (sc := ((xfd (xvv xs)) - (1075 : Int32))) (md := (xs 4)) (w := ((((((w1.set 128 (Sum.inr (12, [Value.ref 129, Value.ref 131, Value.ref 133, Value.ref 135, Value.ref 137, Value.ref 139, Value.ref 141, Value.ref 143, Value.ref 145, Value.ref 147, Value.ref 149, Value.ref 151, Value.ref 153, Value.ref 154, Value.ref 155, Value.ref 156, Value.ref 157, Value.int (-16384), Value.int 16384, Value.int 0, Value.int 0, Value.int 0, Value.ref 158, Value.ref 159, Value.int 0, Value.int 0, Value.int 0, Value.int 0, Value.int 0, Value.int 0, Value.int 0, Value.int 0]))).set 129 (Sum.inr (13, [Value.ref 130, Value.int 0]))).set 130 (Sum.inl (0, 4700, xup (fun _ => Value.int 0) (0 : Int32).toInt.toNat (Value.int (xq (xfo (xvv xs))))))).set 129 (Sum.inr (13, [Value.ref 130, Value.int 1]))).set 130 (Sum.inl (0, 4700, xup (xup (fun _ => Value.int 0) (0 : Int32).toInt.toNat (Value.int (xq (xfo (xvv xs))))) (1 : Int32).toInt.toNat (Value.int (xq (xqs (xfo (xvv xs)))))))).set 129 (Sum.inr (13, [Value.ref 130, Value.int 2])))) (P := P) (fun h h1 h2 => (xgn (by omega) (xgn (by omega) (xgn (by omega) (xgn (by omega) (xgn (by omega) (rfl)))))).trans (hk h (by omega) h2)) (xgn (by decide) (xgn (by decide) (xgn (by decide) (xgn (by decide) (xgn (by decide) hm))))) (xgs (xgn (by decide) (xgs (xgn (by decide) (xgs ((hk 129 (by decide) (by decide)).trans W0_129)))))) (xgn (by decide) (xgs (xgn (by decide) (xgs (xgn (by decide) (((hk 130 (by decide) (by decide)).trans W0_130))))))) (xup_n (by decide) xup_s) (xup_s) hB c0 c1 (by omega) (by omega) (by omega) (by omega) c9 c10 c11 c12 c13 c14 c15 c16 c17 c18 c19 c20 c21 c22 c23 c24 c25 c26 c27 c28
    refine ⟨w2, mnum16 hm1 (mn16_10_4 hk hm c0 c1 c2 c3 c4 c5 c6 c7 c8 c9 c10 c11 c12 c13 c14 c15 c16 c17 c18 c19 c20 c21 c22 c23 c24 c25 c26 c27 c28 h1), xKp.trans ?_ h2, h3⟩
    refine xKp.set ?_ (fun h hh => by unfold xPM at hh; omega) (xgn (by decide) (xgs (xgn (by decide) (xgs ((hk 129 (by decide) (by decide)).trans W0_129))))) xcs_o
    refine xKp.set ?_ (fun h hh => by unfold xPM at hh; omega) (xgn (by decide) (xgs (xgn (by decide) (((hk 130 (by decide) (by decide)).trans W0_130))))) xcs_a
    refine xKp.set ?_ (fun h hh => by unfold xPM at hh; omega) (xgn (by decide) (xgs ((hk 129 (by decide) (by decide)).trans W0_129))) xcs_o
    refine xKp.set ?_ (fun h hh => by unfold xPM at hh; omega) (xgn (by decide) (((hk 130 (by decide) (by decide)).trans W0_130))) xcs_a
    refine xKp.set ?_ (fun h hh => by unfold xPM at hh; omega) (((hk 129 (by decide) (by decide)).trans W0_129)) xcs_o
    exact xKp.set xKp.refl (fun h hh => by unfold xPM at hh; omega) hm1 xcs_o
  · obtain ⟨w2, h1, h2, h3⟩ := rd5_0 (d := d) (xs := xs) (m := (xfo (xvv xs))) (sc := ((xfd (xvv xs)) - (1075 : Int32))) (md := (xs 4)) (w := ((((((w1.set 128 (Sum.inr (12, [Value.ref 129, Value.ref 131, Value.ref 133, Value.ref 135, Value.ref 137, Value.ref 139, Value.ref 141, Value.ref 143, Value.ref 145, Value.ref 147, Value.ref 149, Value.ref 151, Value.ref 153, Value.ref 154, Value.ref 155, Value.ref 156, Value.ref 157, Value.int (-16384), Value.int 16384, Value.int 0, Value.int 0, Value.int 0, Value.ref 158, Value.ref 159, Value.int 0, Value.int 0, Value.int 0, Value.int 0, Value.int 0, Value.int 0, Value.int 0, Value.int 0]))).set 129 (Sum.inr (13, [Value.ref 130, Value.int 0]))).set 130 (Sum.inl (0, 4700, xup (fun _ => Value.int 0) (0 : Int32).toInt.toNat (Value.int (xq (xfo (xvv xs))))))).set 129 (Sum.inr (13, [Value.ref 130, Value.int 1]))).set 130 (Sum.inl (0, 4700, xup (xup (fun _ => Value.int 0) (0 : Int32).toInt.toNat (Value.int (xq (xfo (xvv xs))))) (1 : Int32).toInt.toNat (Value.int (xq (xqs (xfo (xvv xs)))))))).set 129 (Sum.inr (13, [Value.ref 130, Value.int 2])))) (P := P) (fun h h1 h2 => (xgn (by omega) (xgn (by omega) (xgn (by omega) (xgn (by omega) (xgn (by omega) (rfl)))))).trans (hk h (by omega) h2)) (xgn (by decide) (xgn (by decide) (xgn (by decide) (xgn (by decide) (xgn (by decide) hm))))) (xgs (xgn (by decide) (xgs (xgn (by decide) (xgs ((hk 129 (by decide) (by decide)).trans W0_129)))))) (xgn (by decide) (xgs (xgn (by decide) (xgs (xgn (by decide) (((hk 130 (by decide) (by decide)).trans W0_130))))))) (xup_n (by decide) xup_s) (xup_s) hB c0 c1 (by omega) (by omega) (by omega) (by omega) c9 c10 c11 c12 c13 c14 c15 c16 c17 c18 c19 c20 c21 c22 c23 c24 c25 c26 c27
    refine ⟨w2, mnum16 hm1 (mn16_10_5 hk hm c0 c1 c2 c3 c4 c5 c6 c7 c8 c9 c10 c11 c12 c13 c14 c15 c16 c17 c18 c19 c20 c21 c22 c23 c24 c25 c26 c27 h1), xKp.trans ?_ h2, h3⟩
    refine xKp.set ?_ (fun h hh => by unfold xPM at hh; omega) (xgn (by decide) (xgs (xgn (by decide) (xgs ((hk 129 (by decide) (by decide)).trans W0_129))))) xcs_o
    refine xKp.set ?_ (fun h hh => by unfold xPM at hh; omega) (xgn (by decide) (xgs (xgn (by decide) (((hk 130 (by decide) (by decide)).trans W0_130))))) xcs_a
    refine xKp.set ?_ (fun h hh => by unfold xPM at hh; omega) (xgn (by decide) (xgs ((hk 129 (by decide) (by decide)).trans W0_129))) xcs_o
    refine xKp.set ?_ (fun h hh => by unfold xPM at hh; omega) (xgn (by decide) (((hk 130 (by decide) (by decide)).trans W0_130))) xcs_a
    refine xKp.set ?_ (fun h hh => by unfold xPM at hh; omega) (((hk 129 (by decide) (by decide)).trans W0_129)) xcs_o
    exact xKp.set xKp.refl (fun h hh => by unfold xPM at hh; omega) hm1 xcs_o
  · obtain ⟨w2, h1, h2, h3⟩ := rd6_0 (d := d) (xs := xs) (m := (xfo (xvv xs))) (sc := ((xfd (xvv xs)) - (1075 : Int32))) (md := (xs 4)) (w := ((((((((w1.set 128 (Sum.inr (12, [Value.ref 129, Value.ref 131, Value.ref 133, Value.ref 135, Value.ref 137, Value.ref 139, Value.ref 141, Value.ref 143, Value.ref 145, Value.ref 147, Value.ref 149, Value.ref 151, Value.ref 153, Value.ref 154, Value.ref 155, Value.ref 156, Value.ref 157, Value.int (-16384), Value.int 16384, Value.int 0, Value.int 0, Value.int 0, Value.ref 158, Value.ref 159, Value.int 0, Value.int 0, Value.int 0, Value.int 0, Value.int 0, Value.int 0, Value.int 0, Value.int 0]))).set 129 (Sum.inr (13, [Value.ref 130, Value.int 0]))).set 130 (Sum.inl (0, 4700, xup (fun _ => Value.int 0) (0 : Int32).toInt.toNat (Value.int (xq (xfo (xvv xs))))))).set 129 (Sum.inr (13, [Value.ref 130, Value.int 1]))).set 130 (Sum.inl (0, 4700, xup (xup (fun _ => Value.int 0) (0 : Int32).toInt.toNat (Value.int (xq (xfo (xvv xs))))) (1 : Int32).toInt.toNat (Value.int (xq (xqs (xfo (xvv xs)))))))).set 129 (Sum.inr (13, [Value.ref 130, Value.int 2]))).set 130 (Sum.inl (0, 4700, xup (xup (xup (fun _ => Value.int 0) (0 : Int32).toInt.toNat (Value.int (xq (xfo (xvv xs))))) (1 : Int32).toInt.toNat (Value.int (xq (xqs (xfo (xvv xs)))))) (2 : Int32).toInt.toNat (Value.int (xq (xqs (xqs (xfo (xvv xs))))))))).set 129 (Sum.inr (13, [Value.ref 130, Value.int 3])))) (P := P) (fun h h1 h2 => (xgn (by omega) (xgn (by omega) (xgn (by omega) (xgn (by omega) (xgn (by omega) (xgn (by omega) (xgn (by omega) (rfl)))))))).trans (hk h (by omega) h2)) (xgn (by decide) (xgn (by decide) (xgn (by decide) (xgn (by decide) (xgn (by decide) (xgn (by decide) (xgn (by decide) hm))))))) (xgs (xgn (by decide) (xgs (xgn (by decide) (xgs (xgn (by decide) (xgs ((hk 129 (by decide) (by decide)).trans W0_129)))))))) (xgn (by decide) (xgs (xgn (by decide) (xgs (xgn (by decide) (xgs (xgn (by decide) (((hk 130 (by decide) (by decide)).trans W0_130))))))))) (xup_n (by decide) (xup_n (by decide) xup_s)) (xup_n (by decide) xup_s) (xup_s) hB c0 c1 (by omega) (by omega) (by omega) (by omega) c9 c10 c11 c12 c13 c14 c15 c16 c17 c18 c19 c20 c21 c22 c23 c24 c25 c26 c27 c28 c29
    refine ⟨w2, mnum16 hm1 (mn16_10_6 hk hm c0 c1 c2 c3 c4 c5 c6 c7 c8 c9 c10 c11 c12 c13 c14 c15 c16 c17 c18 c19 c20 c21 c22 c23 c24 c25 c26 c27 c28 c29 h1), xKp.trans ?_ h2, h3⟩
    refine xKp.set ?_ (fun h hh => by unfold xPM at hh; omega) (xgn (by decide) (xgs (xgn (by decide) (xgs (xgn (by decide) (xgs ((hk 129 (by decide) (by decide)).trans W0_129))))))) xcs_o
    refine xKp.set ?_ (fun h hh => by unfold xPM at hh; omega) (xgn (by decide) (xgs (xgn (by decide) (xgs (xgn (by decide) (((hk 130 (by decide) (by decide)).trans W0_130))))))) xcs_a
    refine xKp.set ?_ (fun h hh => by unfold xPM at hh; omega) (xgn (by decide) (xgs (xgn (by decide) (xgs ((hk 129 (by decide) (by decide)).trans W0_129))))) xcs_o
    refine xKp.set ?_ (fun h hh => by unfold xPM at hh; omega) (xgn (by decide) (xgs (xgn (by decide) (((hk 130 (by decide) (by decide)).trans W0_130))))) xcs_a
    refine xKp.set ?_ (fun h hh => by unfold xPM at hh; omega) (xgn (by decide) (xgs ((hk 129 (by decide) (by decide)).trans W0_129))) xcs_o
    refine xKp.set ?_ (fun h hh => by unfold xPM at hh; omega) (xgn (by decide) (((hk 130 (by decide) (by decide)).trans W0_130))) xcs_a
    refine xKp.set ?_ (fun h hh => by unfold xPM at hh; omega) (((hk 129 (by decide) (by decide)).trans W0_129)) xcs_o
    exact xKp.set xKp.refl (fun h hh => by unfold xPM at hh; omega) hm1 xcs_o
  · obtain ⟨w2, h1, h2, h3⟩ := rd7_0 (d := d) (xs := xs) (m := (xfo (xvv xs))) (sc := ((xfd (xvv xs)) - (1075 : Int32))) (md := (xs 4)) (w := ((((((((w1.set 128 (Sum.inr (12, [Value.ref 129, Value.ref 131, Value.ref 133, Value.ref 135, Value.ref 137, Value.ref 139, Value.ref 141, Value.ref 143, Value.ref 145, Value.ref 147, Value.ref 149, Value.ref 151, Value.ref 153, Value.ref 154, Value.ref 155, Value.ref 156, Value.ref 157, Value.int (-16384), Value.int 16384, Value.int 0, Value.int 0, Value.int 0, Value.ref 158, Value.ref 159, Value.int 0, Value.int 0, Value.int 0, Value.int 0, Value.int 0, Value.int 0, Value.int 0, Value.int 0]))).set 129 (Sum.inr (13, [Value.ref 130, Value.int 0]))).set 130 (Sum.inl (0, 4700, xup (fun _ => Value.int 0) (0 : Int32).toInt.toNat (Value.int (xq (xfo (xvv xs))))))).set 129 (Sum.inr (13, [Value.ref 130, Value.int 1]))).set 130 (Sum.inl (0, 4700, xup (xup (fun _ => Value.int 0) (0 : Int32).toInt.toNat (Value.int (xq (xfo (xvv xs))))) (1 : Int32).toInt.toNat (Value.int (xq (xqs (xfo (xvv xs)))))))).set 129 (Sum.inr (13, [Value.ref 130, Value.int 2]))).set 130 (Sum.inl (0, 4700, xup (xup (xup (fun _ => Value.int 0) (0 : Int32).toInt.toNat (Value.int (xq (xfo (xvv xs))))) (1 : Int32).toInt.toNat (Value.int (xq (xqs (xfo (xvv xs)))))) (2 : Int32).toInt.toNat (Value.int (xq (xqs (xqs (xfo (xvv xs))))))))).set 129 (Sum.inr (13, [Value.ref 130, Value.int 3])))) (P := P) (fun h h1 h2 => (xgn (by omega) (xgn (by omega) (xgn (by omega) (xgn (by omega) (xgn (by omega) (xgn (by omega) (xgn (by omega) (rfl)))))))).trans (hk h (by omega) h2)) (xgn (by decide) (xgn (by decide) (xgn (by decide) (xgn (by decide) (xgn (by decide) (xgn (by decide) (xgn (by decide) hm))))))) (xgs (xgn (by decide) (xgs (xgn (by decide) (xgs (xgn (by decide) (xgs ((hk 129 (by decide) (by decide)).trans W0_129)))))))) (xgn (by decide) (xgs (xgn (by decide) (xgs (xgn (by decide) (xgs (xgn (by decide) (((hk 130 (by decide) (by decide)).trans W0_130))))))))) (xup_n (by decide) (xup_n (by decide) xup_s)) (xup_n (by decide) xup_s) (xup_s) hB c0 c1 (by omega) (by omega) (by omega) (by omega) c9 c10 c11 c12 c13 c14 c15 c16 c17 c18 c19 c20 c21 c22 c23 c24
    refine ⟨w2, mnum16 hm1 (mn16_10_7 hk hm c0 c1 c2 c3 c4 c5 c6 c7 c8 c9 c10 c11 c12 c13 c14 c15 c16 c17 c18 c19 c20 c21 c22 c23 c24 h1), xKp.trans ?_ h2, h3⟩
    refine xKp.set ?_ (fun h hh => by unfold xPM at hh; omega) (xgn (by decide) (xgs (xgn (by decide) (xgs (xgn (by decide) (xgs ((hk 129 (by decide) (by decide)).trans W0_129))))))) xcs_o
    refine xKp.set ?_ (fun h hh => by unfold xPM at hh; omega) (xgn (by decide) (xgs (xgn (by decide) (xgs (xgn (by decide) (((hk 130 (by decide) (by decide)).trans W0_130))))))) xcs_a
    refine xKp.set ?_ (fun h hh => by unfold xPM at hh; omega) (xgn (by decide) (xgs (xgn (by decide) (xgs ((hk 129 (by decide) (by decide)).trans W0_129))))) xcs_o
    refine xKp.set ?_ (fun h hh => by unfold xPM at hh; omega) (xgn (by decide) (xgs (xgn (by decide) (((hk 130 (by decide) (by decide)).trans W0_130))))) xcs_a
    refine xKp.set ?_ (fun h hh => by unfold xPM at hh; omega) (xgn (by decide) (xgs ((hk 129 (by decide) (by decide)).trans W0_129))) xcs_o
    refine xKp.set ?_ (fun h hh => by unfold xPM at hh; omega) (xgn (by decide) (((hk 130 (by decide) (by decide)).trans W0_130))) xcs_a
    refine xKp.set ?_ (fun h hh => by unfold xPM at hh; omega) (((hk 129 (by decide) (by decide)).trans W0_129)) xcs_o
    exact xKp.set xKp.refl (fun h hh => by unfold xPM at hh; omega) hm1 xcs_o
theorem mn16_01_1 {d : Nat} {xs : Nat → Int32} {w w2 : xW} {b : Int32} {B K P G : Int32} (hk : ∀ h, 129 ≤ h → h < 194 → w[h]? = (W0 6 xs)[h]?) (hm : w[128]? = some (Sum.inr (12, [Value.ref 129, Value.ref 131, Value.ref 133, Value.ref 135, Value.ref 137, Value.ref 139, Value.ref 141, Value.ref 143, Value.ref 145, Value.ref 147, Value.ref 149, Value.ref 151, Value.ref 153, Value.ref 154, Value.ref 155, Value.ref 156, Value.ref 157, Value.int (-16384), Value.int 16384, Value.int 0, Value.int 0, Value.int 0, Value.ref 158, Value.ref 159, Value.int 0, Value.int 0, Value.int 0, Value.int 0, Value.int 0, Value.int 0, Value.int 0, Value.int 0]))) (c0 : 0 ≤ (xs 1).toInt) (c1 : (xs 1).toInt < 16) (c2 : 0 ≤ (xs 4).toInt) (c3 : (xs 4).toInt ≤ 4) (c4 : 0 ≤ (xfd (xvv xs)).toInt) (c5 : (xfd (xvv xs)).toInt ≤ 2047) (c6 : (xfd (xvv xs)).toInt ≠ 2047) (c7 : (xfd (xvv xs)).toInt = 0) (c8 : (lg_cmp (xfr (xvv xs)) (0 : Int64)).toInt ≠ 0) (c9 : (lg_cmp (xvv xs) (0 : Int64)).toInt < 0) (c10 : K.toInt = 64 - B.toInt) (c11 : 1 ≤ B.toInt) (c12 : B.toInt ≤ 4) (c13 : (xhi (xfr (xvv xs))).toInt = 0) (c14 : (xlo (xfr (xvv xs))).toInt ≠ 0) (c15 : (xnlz (xlo (xfr (xvv xs)))).toInt = 32 - B.toInt) (c16 : (xbf 1 (xlo (xfr (xvv xs))) (0 : Int32) ((32 : Int32) - K)).toInt ≠ 0) (c17 : (lg_cmp (xfr (xvv xs)) (0 : Int64)).toInt ≠ 0) (c18 : (lg_cmp (xqs (xfr (xvv xs))) (0 : Int64)).toInt = 0) (c19 : (xbn (xq (xfr (xvv xs)))).toInt = B.toInt) (c20 : (xq (xfr (xvv xs))).toInt ≠ 0) (c21 : 0 ≤ (xq (xfr (xvv xs))).toInt) (c22 : K.toInt ≠ 0) (c23 : K / (30 : Int32) = 2) (c24 : K - K / (30 : Int32) * (30 : Int32) = P) (c25 : ((0 : Int32) ||| (xH (xq (xfr (xvv xs))) P)).toInt = 0) (c26 : (xL (xq (xfr (xvv xs))) P).toInt ≠ 0) (c27 : 0 ≤ (xL (xq (xfr (xvv xs))) P).toInt) (c28 : (xbn (xL (xq (xfr (xvv xs))) P)).toInt = 4) (c29 : G.toInt = B.toInt - 1) (hr : xRun (d + 6) 180 [Value.ref 128, Value.int (xs 1), Value.ref 129, Value.int (-1074), Value.int 0, Value.int 1, Value.int (xs 4)] (((w.set 129 (Sum.inr (13, [Value.ref 130, Value.int 0]))).set 130 (Sum.inl (0, 4700, xup (fun _ => Value.int 0) (0 : Int32).toInt.toNat (Value.int (xq (xfr (xvv xs))))))).set 129 (Sum.inr (13, [Value.ref 130, Value.int 1]))) (.inl (some (Value.int b))) w2) : xRun (d + 7) 248 [Value.ref 128, Value.int (xs 1), Value.long (xvv xs), Value.int (xs 4)] w (.inl (some (Value.int b))) w2 := by
  refine xRun.of ?_
  refine i_248_0 (x := (xs 1)) rfl ?_
  refine i_248_1 (Nat.le_of_ble_eq_true rfl) (s_168_0 (by omega) (by omega)) ?_
  refine i_248_4 (x := (xs 4)) rfl ?_
  refine i_248_6 (Nat.le_of_ble_eq_true rfl) (s_178_0 (by omega) (by omega)) ?_
  refine i_248_9 (x := (xvv xs)) rfl ?_
  refine i_248_10 ?_
  refine i_248_12 (c := ((xvv xs) >>> ((52 : Int32).toInt64 &&& 63))) rfl ?_
  refine i_248_13 (c := ((xvv xs) >>> ((52 : Int32).toInt64 &&& 63)).toInt32) rfl ?_
  refine i_248_14 ?_
  refine i_248_17 (c := (xfd (xvv xs))) (show (xfe (xvv xs)) = (xfd (xvv xs)) from (xfe_eq _)) ?_
  refine i_248_18 (lv2 := [(5, Value.int (xfd (xvv xs))), (0, Value.ref 128), (1, Value.int (xs 1)), (2, Value.long (xvv xs)), (4, Value.int (xs 4))]) rfl ?_
  refine i_248_20 (x := (xvv xs)) rfl ?_
  refine i_248_21 ?_
  refine i_248_24 (c := (xfr (xvv xs))) rfl ?_
  refine i_248_25 (lv2 := [(6, Value.long (xfr (xvv xs))), (5, Value.int (xfd (xvv xs))), (0, Value.ref 128), (1, Value.int (xs 1)), (2, Value.long (xvv xs)), (4, Value.int (xs 4))]) rfl ?_
  refine i_248_27 (x := (xfd (xvv xs))) rfl ?_
  refine i_248_29 ?_
  refine i_248_32 (fun _ => ?_) (fun h => absurd (show (xfd (xvv xs)).toInt ≠ 2047 by omega) (fun g => g h))
  refine i_248_71 (x := (xfd (xvv xs))) rfl ?_
  refine i_248_73 (fun h => absurd (show (xfd (xvv xs)).toInt = 0 by omega) h) (fun _ => ?_)
  refine i_248_76 (x := (xfr (xvv xs))) rfl ?_
  refine i_248_78 ?_
  refine i_248_79 (c := (lg_cmp (xfr (xvv xs)) (0 : Int64))) rfl ?_
  refine i_248_80 (fun _ => ?_) (fun h => absurd (show (lg_cmp (xfr (xvv xs)) (0 : Int64)).toInt ≠ 0 by omega) (fun g => g h))
  refine i_248_101 (x := 128) rfl ?_
  refine i_248_102 (v := Value.ref 129) hm rfl ?_
  refine i_248_105 (x := (xfd (xvv xs))) rfl ?_
  refine i_248_107 (fun h => absurd (show (xfd (xvv xs)).toInt = 0 by omega) h) (fun _ => ?_)
  refine i_248_110 (x := (xfr (xvv xs))) rfl ?_
  refine i_248_112 ?_
  refine i_248_121 ((hk 129 (by decide) (by decide)).trans W0_129) (Nat.le_of_ble_eq_true rfl) (s_179_3 ((hk 129 (by decide) (by decide)).trans W0_129) (by omega) ((hk 130 (by decide) (by decide)).trans W0_130) (show (lg_cmp (xqs (xfr (xvv xs))) (0 : Int64)) = 0 from (xge_c (n := 0) (by omega) rfl))) ?_
  refine i_248_124 (x := 128) rfl ?_
  refine i_248_125 (x := (xs 1)) rfl ?_
  refine i_248_126 (x := 128) rfl ?_
  refine i_248_127 (v := Value.ref 129) (xgn (by decide) (xgn (by decide) (xgn (by decide) hm))) rfl ?_
  refine i_248_130 (x := (xfd (xvv xs))) rfl ?_
  refine i_248_132 (fun h => absurd (show (xfd (xvv xs)).toInt = 0 by omega) h) (fun _ => ?_)
  refine i_248_135 ?_
  refine i_248_136 ?_
  refine i_248_141 ?_
  refine i_248_144 (c := (-1074)) (by decide) ?_
  refine i_248_145 ?_
  refine i_248_146 (x := (xvv xs)) rfl ?_
  refine i_248_147 ?_
  refine i_248_148 (c := (lg_cmp (xvv xs) (0 : Int64))) rfl ?_
  refine i_248_149 (fun h => absurd (show (lg_cmp (xvv xs) (0 : Int64)).toInt < 0 by omega) (Int.not_lt.mpr h)) (fun _ => ?_)
  refine i_248_152 ?_
  refine i_248_153 ?_
  refine i_248_157 (x := (xs 4)) rfl ?_
  refine i_248_159 (xgn (by decide) (xgn (by decide) (xgn (by decide) hm))) (Nat.le_of_ble_eq_true rfl) hr ?_
  exact i_248_162 ⟨rfl, rfl⟩
theorem mn16_01_2 {d : Nat} {xs : Nat → Int32} {w w2 : xW} {b : Int32} {B K P G : Int32} (hk : ∀ h, 129 ≤ h → h < 194 → w[h]? = (W0 6 xs)[h]?) (hm : w[128]? = some (Sum.inr (12, [Value.ref 129, Value.ref 131, Value.ref 133, Value.ref 135, Value.ref 137, Value.ref 139, Value.ref 141, Value.ref 143, Value.ref 145, Value.ref 147, Value.ref 149, Value.ref 151, Value.ref 153, Value.ref 154, Value.ref 155, Value.ref 156, Value.ref 157, Value.int (-16384), Value.int 16384, Value.int 0, Value.int 0, Value.int 0, Value.ref 158, Value.ref 159, Value.int 0, Value.int 0, Value.int 0, Value.int 0, Value.int 0, Value.int 0, Value.int 0, Value.int 0]))) (c0 : 0 ≤ (xs 1).toInt) (c1 : (xs 1).toInt < 16) (c2 : 0 ≤ (xs 4).toInt) (c3 : (xs 4).toInt ≤ 4) (c4 : 0 ≤ (xfd (xvv xs)).toInt) (c5 : (xfd (xvv xs)).toInt ≤ 2047) (c6 : (xfd (xvv xs)).toInt ≠ 2047) (c7 : (xfd (xvv xs)).toInt = 0) (c8 : (lg_cmp (xfr (xvv xs)) (0 : Int64)).toInt ≠ 0) (c9 : (lg_cmp (xvv xs) (0 : Int64)).toInt < 0) (c10 : K.toInt = 64 - B.toInt) (c11 : 5 ≤ B.toInt) (c12 : B.toInt ≤ 30) (c13 : (xhi (xfr (xvv xs))).toInt = 0) (c14 : (xlo (xfr (xvv xs))).toInt ≠ 0) (c15 : (xnlz (xlo (xfr (xvv xs)))).toInt = 32 - B.toInt) (c16 : (xbf 1 (xlo (xfr (xvv xs))) (0 : Int32) ((32 : Int32) - K)).toInt ≠ 0) (c17 : (lg_cmp (xfr (xvv xs)) (0 : Int64)).toInt ≠ 0) (c18 : (lg_cmp (xqs (xfr (xvv xs))) (0 : Int64)).toInt = 0) (c19 : (xbn (xq (xfr (xvv xs)))).toInt = B.toInt) (c20 : (xq (xfr (xvv xs))).toInt ≠ 0) (c21 : 0 ≤ (xq (xfr (xvv xs))).toInt) (c22 : K.toInt ≠ 0) (c23 : K / (30 : Int32) = 1) (c24 : K - K / (30 : Int32) * (30 : Int32) = P) (c25 : ((0 : Int32) ||| (xH (xq (xfr (xvv xs))) P)).toInt ≠ 0) (c26 : 0 ≤ ((0 : Int32) ||| (xH (xq (xfr (xvv xs))) P)).toInt) (c27 : (xbn ((0 : Int32) ||| (xH (xq (xfr (xvv xs))) P))).toInt = 4) (c28 : G.toInt = B.toInt - 1) (hr : xRun (d + 6) 180 [Value.ref 128, Value.int (xs 1), Value.ref 129, Value.int (-1074), Value.int 0, Value.int 1, Value.int (xs 4)] (((w.set 129 (Sum.inr (13, [Value.ref 130, Value.int 0]))).set 130 (Sum.inl (0, 4700, xup (fun _ => Value.int 0) (0 : Int32).toInt.toNat (Value.int (xq (xfr (xvv xs))))))).set 129 (Sum.inr (13, [Value.ref 130, Value.int 1]))) (.inl (some (Value.int b))) w2) : xRun (d + 7) 248 [Value.ref 128, Value.int (xs 1), Value.long (xvv xs), Value.int (xs 4)] w (.inl (some (Value.int b))) w2 := by
  refine xRun.of ?_
  refine i_248_0 (x := (xs 1)) rfl ?_
  refine i_248_1 (Nat.le_of_ble_eq_true rfl) (s_168_0 (by omega) (by omega)) ?_
  refine i_248_4 (x := (xs 4)) rfl ?_
  refine i_248_6 (Nat.le_of_ble_eq_true rfl) (s_178_0 (by omega) (by omega)) ?_
  refine i_248_9 (x := (xvv xs)) rfl ?_
  refine i_248_10 ?_
  refine i_248_12 (c := ((xvv xs) >>> ((52 : Int32).toInt64 &&& 63))) rfl ?_
  refine i_248_13 (c := ((xvv xs) >>> ((52 : Int32).toInt64 &&& 63)).toInt32) rfl ?_
  refine i_248_14 ?_
  refine i_248_17 (c := (xfd (xvv xs))) (show (xfe (xvv xs)) = (xfd (xvv xs)) from (xfe_eq _)) ?_
  refine i_248_18 (lv2 := [(5, Value.int (xfd (xvv xs))), (0, Value.ref 128), (1, Value.int (xs 1)), (2, Value.long (xvv xs)), (4, Value.int (xs 4))]) rfl ?_
  refine i_248_20 (x := (xvv xs)) rfl ?_
  refine i_248_21 ?_
  refine i_248_24 (c := (xfr (xvv xs))) rfl ?_
  refine i_248_25 (lv2 := [(6, Value.long (xfr (xvv xs))), (5, Value.int (xfd (xvv xs))), (0, Value.ref 128), (1, Value.int (xs 1)), (2, Value.long (xvv xs)), (4, Value.int (xs 4))]) rfl ?_
  refine i_248_27 (x := (xfd (xvv xs))) rfl ?_
  refine i_248_29 ?_
  refine i_248_32 (fun _ => ?_) (fun h => absurd (show (xfd (xvv xs)).toInt ≠ 2047 by omega) (fun g => g h))
  refine i_248_71 (x := (xfd (xvv xs))) rfl ?_
  refine i_248_73 (fun h => absurd (show (xfd (xvv xs)).toInt = 0 by omega) h) (fun _ => ?_)
  refine i_248_76 (x := (xfr (xvv xs))) rfl ?_
  refine i_248_78 ?_
  refine i_248_79 (c := (lg_cmp (xfr (xvv xs)) (0 : Int64))) rfl ?_
  refine i_248_80 (fun _ => ?_) (fun h => absurd (show (lg_cmp (xfr (xvv xs)) (0 : Int64)).toInt ≠ 0 by omega) (fun g => g h))
  refine i_248_101 (x := 128) rfl ?_
  refine i_248_102 (v := Value.ref 129) hm rfl ?_
  refine i_248_105 (x := (xfd (xvv xs))) rfl ?_
  refine i_248_107 (fun h => absurd (show (xfd (xvv xs)).toInt = 0 by omega) h) (fun _ => ?_)
  refine i_248_110 (x := (xfr (xvv xs))) rfl ?_
  refine i_248_112 ?_
  refine i_248_121 ((hk 129 (by decide) (by decide)).trans W0_129) (Nat.le_of_ble_eq_true rfl) (s_179_3 ((hk 129 (by decide) (by decide)).trans W0_129) (by omega) ((hk 130 (by decide) (by decide)).trans W0_130) (show (lg_cmp (xqs (xfr (xvv xs))) (0 : Int64)) = 0 from (xge_c (n := 0) (by omega) rfl))) ?_
  refine i_248_124 (x := 128) rfl ?_
  refine i_248_125 (x := (xs 1)) rfl ?_
  refine i_248_126 (x := 128) rfl ?_
  refine i_248_127 (v := Value.ref 129) (xgn (by decide) (xgn (by decide) (xgn (by decide) hm))) rfl ?_
  refine i_248_130 (x := (xfd (xvv xs))) rfl ?_
  refine i_248_132 (fun h => absurd (show (xfd (xvv xs)).toInt = 0 by omega) h) (fun _ => ?_)
  refine i_248_135 ?_
  refine i_248_136 ?_
  refine i_248_141 ?_
  refine i_248_144 (c := (-1074)) (by decide) ?_
  refine i_248_145 ?_
  refine i_248_146 (x := (xvv xs)) rfl ?_
  refine i_248_147 ?_
  refine i_248_148 (c := (lg_cmp (xvv xs) (0 : Int64))) rfl ?_
  refine i_248_149 (fun h => absurd (show (lg_cmp (xvv xs) (0 : Int64)).toInt < 0 by omega) (Int.not_lt.mpr h)) (fun _ => ?_)
  refine i_248_152 ?_
  refine i_248_153 ?_
  refine i_248_157 (x := (xs 4)) rfl ?_
  refine i_248_159 (xgn (by decide) (xgn (by decide) (xgn (by decide) hm))) (Nat.le_of_ble_eq_true rfl) hr ?_
  exact i_248_162 ⟨rfl, rfl⟩
theorem mn16_01_3 {d : Nat} {xs : Nat → Int32} {w w2 : xW} {b : Int32} {B K P G : Int32} (hk : ∀ h, 129 ≤ h → h < 194 → w[h]? = (W0 6 xs)[h]?) (hm : w[128]? = some (Sum.inr (12, [Value.ref 129, Value.ref 131, Value.ref 133, Value.ref 135, Value.ref 137, Value.ref 139, Value.ref 141, Value.ref 143, Value.ref 145, Value.ref 147, Value.ref 149, Value.ref 151, Value.ref 153, Value.ref 154, Value.ref 155, Value.ref 156, Value.ref 157, Value.int (-16384), Value.int 16384, Value.int 0, Value.int 0, Value.int 0, Value.ref 158, Value.ref 159, Value.int 0, Value.int 0, Value.int 0, Value.int 0, Value.int 0, Value.int 0, Value.int 0, Value.int 0]))) (c0 : 0 ≤ (xs 1).toInt) (c1 : (xs 1).toInt < 16) (c2 : 0 ≤ (xs 4).toInt) (c3 : (xs 4).toInt ≤ 4) (c4 : 0 ≤ (xfd (xvv xs)).toInt) (c5 : (xfd (xvv xs)).toInt ≤ 2047) (c6 : (xfd (xvv xs)).toInt ≠ 2047) (c7 : (xfd (xvv xs)).toInt = 0) (c8 : (lg_cmp (xfr (xvv xs)) (0 : Int64)).toInt ≠ 0) (c9 : (lg_cmp (xvv xs) (0 : Int64)).toInt < 0) (c10 : K.toInt = 64 - B.toInt) (c11 : 31 ≤ B.toInt) (c12 : B.toInt ≤ 32) (c13 : (xhi (xfr (xvv xs))).toInt = 0) (c14 : (xlo (xfr (xvv xs))).toInt ≠ 0) (c15 : (xnlz (xlo (xfr (xvv xs)))).toInt = 32 - B.toInt) (c16 : (xbf 1 (xlo (xfr (xvv xs))) (0 : Int32) ((32 : Int32) - K)).toInt ≠ 0) (c17 : (lg_cmp (xfr (xvv xs)) (0 : Int64)).toInt ≠ 0) (c18 : (lg_cmp (xqs (xfr (xvv xs))) (0 : Int64)).toInt ≠ 0) (c19 : (lg_cmp (xqs (xqs (xfr (xvv xs)))) (0 : Int64)).toInt = 0) (c20 : (xbn (xq (xqs (xfr (xvv xs))))).toInt = B.toInt - 30) (c21 : (xq (xqs (xfr (xvv xs)))).toInt ≠ 0) (c22 : 0 ≤ (xq (xqs (xfr (xvv xs)))).toInt) (c23 : K.toInt ≠ 0) (c24 : K / (30 : Int32) = 1) (c25 : K - K / (30 : Int32) * (30 : Int32) = P) (c26 : ((0 : Int32) ||| (xH (xq (xqs (xfr (xvv xs)))) P)).toInt = 0) (c27 : ((xL (xq (xqs (xfr (xvv xs)))) P) ||| (xH (xq (xfr (xvv xs))) P)).toInt ≠ 0) (c28 : 0 ≤ ((xL (xq (xqs (xfr (xvv xs)))) P) ||| (xH (xq (xfr (xvv xs))) P)).toInt) (c29 : (xbn ((xL (xq (xqs (xfr (xvv xs)))) P) ||| (xH (xq (xfr (xvv xs))) P))).toInt = 4) (c30 : G.toInt = B.toInt - 31) (hr : xRun (d + 6) 180 [Value.ref 128, Value.int (xs 1), Value.ref 129, Value.int (-1074), Value.int 0, Value.int 1, Value.int (xs 4)] (((((w.set 129 (Sum.inr (13, [Value.ref 130, Value.int 0]))).set 130 (Sum.inl (0, 4700, xup (fun _ => Value.int 0) (0 : Int32).toInt.toNat (Value.int (xq (xfr (xvv xs))))))).set 129 (Sum.inr (13, [Value.ref 130, Value.int 1]))).set 130 (Sum.inl (0, 4700, xup (xup (fun _ => Value.int 0) (0 : Int32).toInt.toNat (Value.int (xq (xfr (xvv xs))))) (1 : Int32).toInt.toNat (Value.int (xq (xqs (xfr (xvv xs)))))))).set 129 (Sum.inr (13, [Value.ref 130, Value.int 2]))) (.inl (some (Value.int b))) w2) : xRun (d + 7) 248 [Value.ref 128, Value.int (xs 1), Value.long (xvv xs), Value.int (xs 4)] w (.inl (some (Value.int b))) w2 := by
  refine xRun.of ?_
  refine i_248_0 (x := (xs 1)) rfl ?_
  refine i_248_1 (Nat.le_of_ble_eq_true rfl) (s_168_0 (by omega) (by omega)) ?_
  refine i_248_4 (x := (xs 4)) rfl ?_
  refine i_248_6 (Nat.le_of_ble_eq_true rfl) (s_178_0 (by omega) (by omega)) ?_
  refine i_248_9 (x := (xvv xs)) rfl ?_
  refine i_248_10 ?_
  refine i_248_12 (c := ((xvv xs) >>> ((52 : Int32).toInt64 &&& 63))) rfl ?_
  refine i_248_13 (c := ((xvv xs) >>> ((52 : Int32).toInt64 &&& 63)).toInt32) rfl ?_
  refine i_248_14 ?_
  refine i_248_17 (c := (xfd (xvv xs))) (show (xfe (xvv xs)) = (xfd (xvv xs)) from (xfe_eq _)) ?_
  refine i_248_18 (lv2 := [(5, Value.int (xfd (xvv xs))), (0, Value.ref 128), (1, Value.int (xs 1)), (2, Value.long (xvv xs)), (4, Value.int (xs 4))]) rfl ?_
  refine i_248_20 (x := (xvv xs)) rfl ?_
  refine i_248_21 ?_
  refine i_248_24 (c := (xfr (xvv xs))) rfl ?_
  refine i_248_25 (lv2 := [(6, Value.long (xfr (xvv xs))), (5, Value.int (xfd (xvv xs))), (0, Value.ref 128), (1, Value.int (xs 1)), (2, Value.long (xvv xs)), (4, Value.int (xs 4))]) rfl ?_
  refine i_248_27 (x := (xfd (xvv xs))) rfl ?_
  refine i_248_29 ?_
  refine i_248_32 (fun _ => ?_) (fun h => absurd (show (xfd (xvv xs)).toInt ≠ 2047 by omega) (fun g => g h))
  refine i_248_71 (x := (xfd (xvv xs))) rfl ?_
  refine i_248_73 (fun h => absurd (show (xfd (xvv xs)).toInt = 0 by omega) h) (fun _ => ?_)
  refine i_248_76 (x := (xfr (xvv xs))) rfl ?_
  refine i_248_78 ?_
  refine i_248_79 (c := (lg_cmp (xfr (xvv xs)) (0 : Int64))) rfl ?_
  refine i_248_80 (fun _ => ?_) (fun h => absurd (show (lg_cmp (xfr (xvv xs)) (0 : Int64)).toInt ≠ 0 by omega) (fun g => g h))
  refine i_248_101 (x := 128) rfl ?_
  refine i_248_102 (v := Value.ref 129) hm rfl ?_
  refine i_248_105 (x := (xfd (xvv xs))) rfl ?_
  refine i_248_107 (fun h => absurd (show (xfd (xvv xs)).toInt = 0 by omega) h) (fun _ => ?_)
  refine i_248_110 (x := (xfr (xvv xs))) rfl ?_
  refine i_248_112 ?_
  refine i_248_121 ((hk 129 (by decide) (by decide)).trans W0_129) (Nat.le_of_ble_eq_true rfl) (s_179_4 ((hk 129 (by decide) (by decide)).trans W0_129) (by omega) ((hk 130 (by decide) (by decide)).trans W0_130) (by omega) (show (lg_cmp (xqs (xqs (xfr (xvv xs)))) (0 : Int64)) = 0 from (xge_c (n := 0) (by omega) rfl))) ?_
  refine i_248_124 (x := 128) rfl ?_
  refine i_248_125 (x := (xs 1)) rfl ?_
  refine i_248_126 (x := 128) rfl ?_
  refine i_248_127 (v := Value.ref 129) (xgn (by decide) (xgn (by decide) (xgn (by decide) (xgn (by decide) (xgn (by decide) hm))))) rfl ?_
  refine i_248_130 (x := (xfd (xvv xs))) rfl ?_
  refine i_248_132 (fun h => absurd (show (xfd (xvv xs)).toInt = 0 by omega) h) (fun _ => ?_)
  refine i_248_135 ?_
  refine i_248_136 ?_
  refine i_248_141 ?_
  refine i_248_144 (c := (-1074)) (by decide) ?_
  refine i_248_145 ?_
  refine i_248_146 (x := (xvv xs)) rfl ?_
  refine i_248_147 ?_
  refine i_248_148 (c := (lg_cmp (xvv xs) (0 : Int64))) rfl ?_
  refine i_248_149 (fun h => absurd (show (lg_cmp (xvv xs) (0 : Int64)).toInt < 0 by omega) (Int.not_lt.mpr h)) (fun _ => ?_)
  refine i_248_152 ?_
  refine i_248_153 ?_
  refine i_248_157 (x := (xs 4)) rfl ?_
  refine i_248_159 (xgn (by decide) (xgn (by decide) (xgn (by decide) (xgn (by decide) (xgn (by decide) hm))))) (Nat.le_of_ble_eq_true rfl) hr ?_
  exact i_248_162 ⟨rfl, rfl⟩
theorem mn16_01_4 {d : Nat} {xs : Nat → Int32} {w w2 : xW} {b : Int32} {B K P G : Int32} (hk : ∀ h, 129 ≤ h → h < 194 → w[h]? = (W0 6 xs)[h]?) (hm : w[128]? = some (Sum.inr (12, [Value.ref 129, Value.ref 131, Value.ref 133, Value.ref 135, Value.ref 137, Value.ref 139, Value.ref 141, Value.ref 143, Value.ref 145, Value.ref 147, Value.ref 149, Value.ref 151, Value.ref 153, Value.ref 154, Value.ref 155, Value.ref 156, Value.ref 157, Value.int (-16384), Value.int 16384, Value.int 0, Value.int 0, Value.int 0, Value.ref 158, Value.ref 159, Value.int 0, Value.int 0, Value.int 0, Value.int 0, Value.int 0, Value.int 0, Value.int 0, Value.int 0]))) (c0 : 0 ≤ (xs 1).toInt) (c1 : (xs 1).toInt < 16) (c2 : 0 ≤ (xs 4).toInt) (c3 : (xs 4).toInt ≤ 4) (c4 : 0 ≤ (xfd (xvv xs)).toInt) (c5 : (xfd (xvv xs)).toInt ≤ 2047) (c6 : (xfd (xvv xs)).toInt ≠ 2047) (c7 : (xfd (xvv xs)).toInt = 0) (c8 : (lg_cmp (xfr (xvv xs)) (0 : Int64)).toInt ≠ 0) (c9 : (lg_cmp (xvv xs) (0 : Int64)).toInt < 0) (c10 : K.toInt = 64 - B.toInt) (c11 : 33 ≤ B.toInt) (c12 : B.toInt ≤ 34) (c13 : (xhi (xfr (xvv xs))).toInt ≠ 0) (c14 : (xnlz (xhi (xfr (xvv xs)))).toInt = 64 - B.toInt) (c15 : (xbf 2 (xlo (xfr (xvv xs))) (xhi (xfr (xvv xs))) ((32 : Int32) - K)).toInt ≠ 0) (c16 : (lg_cmp (xfr (xvv xs)) (0 : Int64)).toInt ≠ 0) (c17 : (lg_cmp (xqs (xfr (xvv xs))) (0 : Int64)).toInt ≠ 0) (c18 : (lg_cmp (xqs (xqs (xfr (xvv xs)))) (0 : Int64)).toInt = 0) (c19 : (xbn (xq (xqs (xfr (xvv xs))))).toInt = B.toInt - 30) (c20 : (xq (xqs (xfr (xvv xs)))).toInt ≠ 0) (c21 : 0 ≤ (xq (xqs (xfr (xvv xs)))).toInt) (c22 : K.toInt ≠ 0) (c23 : K / (30 : Int32) = 1) (c24 : K - K / (30 : Int32) * (30 : Int32) = P) (c25 : ((0 : Int32) ||| (xH (xq (xqs (xfr (xvv xs)))) P)).toInt = 0) (c26 : ((xL (xq (xqs (xfr (xvv xs)))) P) ||| (xH (xq (xfr (xvv xs))) P)).toInt ≠ 0) (c27 : 0 ≤ ((xL (xq (xqs (xfr (xvv xs)))) P) ||| (xH (xq (xfr (xvv xs))) P)).toInt) (c28 : (xbn ((xL (xq (xqs (xfr (xvv xs)))) P) ||| (xH (xq (xfr (xvv xs))) P))).toInt = 4) (c29 : G.toInt = B.toInt - 31) (hr : xRun (d + 6) 180 [Value.ref 128, Value.int (xs 1), Value.ref 129, Value.int (-1074), Value.int 0, Value.int 1, Value.int (xs 4)] (((((w.set 129 (Sum.inr (13, [Value.ref 130, Value.int 0]))).set 130 (Sum.inl (0, 4700, xup (fun _ => Value.int 0) (0 : Int32).toInt.toNat (Value.int (xq (xfr (xvv xs))))))).set 129 (Sum.inr (13, [Value.ref 130, Value.int 1]))).set 130 (Sum.inl (0, 4700, xup (xup (fun _ => Value.int 0) (0 : Int32).toInt.toNat (Value.int (xq (xfr (xvv xs))))) (1 : Int32).toInt.toNat (Value.int (xq (xqs (xfr (xvv xs)))))))).set 129 (Sum.inr (13, [Value.ref 130, Value.int 2]))) (.inl (some (Value.int b))) w2) : xRun (d + 7) 248 [Value.ref 128, Value.int (xs 1), Value.long (xvv xs), Value.int (xs 4)] w (.inl (some (Value.int b))) w2 := by
  refine xRun.of ?_
  refine i_248_0 (x := (xs 1)) rfl ?_
  refine i_248_1 (Nat.le_of_ble_eq_true rfl) (s_168_0 (by omega) (by omega)) ?_
  refine i_248_4 (x := (xs 4)) rfl ?_
  refine i_248_6 (Nat.le_of_ble_eq_true rfl) (s_178_0 (by omega) (by omega)) ?_
  refine i_248_9 (x := (xvv xs)) rfl ?_
  refine i_248_10 ?_
  refine i_248_12 (c := ((xvv xs) >>> ((52 : Int32).toInt64 &&& 63))) rfl ?_
  refine i_248_13 (c := ((xvv xs) >>> ((52 : Int32).toInt64 &&& 63)).toInt32) rfl ?_
  refine i_248_14 ?_
  refine i_248_17 (c := (xfd (xvv xs))) (show (xfe (xvv xs)) = (xfd (xvv xs)) from (xfe_eq _)) ?_
  refine i_248_18 (lv2 := [(5, Value.int (xfd (xvv xs))), (0, Value.ref 128), (1, Value.int (xs 1)), (2, Value.long (xvv xs)), (4, Value.int (xs 4))]) rfl ?_
  refine i_248_20 (x := (xvv xs)) rfl ?_
  refine i_248_21 ?_
  refine i_248_24 (c := (xfr (xvv xs))) rfl ?_
  refine i_248_25 (lv2 := [(6, Value.long (xfr (xvv xs))), (5, Value.int (xfd (xvv xs))), (0, Value.ref 128), (1, Value.int (xs 1)), (2, Value.long (xvv xs)), (4, Value.int (xs 4))]) rfl ?_
  refine i_248_27 (x := (xfd (xvv xs))) rfl ?_
  refine i_248_29 ?_
  refine i_248_32 (fun _ => ?_) (fun h => absurd (show (xfd (xvv xs)).toInt ≠ 2047 by omega) (fun g => g h))
  refine i_248_71 (x := (xfd (xvv xs))) rfl ?_
  refine i_248_73 (fun h => absurd (show (xfd (xvv xs)).toInt = 0 by omega) h) (fun _ => ?_)
  refine i_248_76 (x := (xfr (xvv xs))) rfl ?_
  refine i_248_78 ?_
  refine i_248_79 (c := (lg_cmp (xfr (xvv xs)) (0 : Int64))) rfl ?_
  refine i_248_80 (fun _ => ?_) (fun h => absurd (show (lg_cmp (xfr (xvv xs)) (0 : Int64)).toInt ≠ 0 by omega) (fun g => g h))
  refine i_248_101 (x := 128) rfl ?_
  refine i_248_102 (v := Value.ref 129) hm rfl ?_
  refine i_248_105 (x := (xfd (xvv xs))) rfl ?_
  refine i_248_107 (fun h => absurd (show (xfd (xvv xs)).toInt = 0 by omega) h) (fun _ => ?_)
  refine i_248_110 (x := (xfr (xvv xs))) rfl ?_
  refine i_248_112 ?_
  refine i_248_121 ((hk 129 (by decide) (by decide)).trans W0_129) (Nat.le_of_ble_eq_true rfl) (s_179_4 ((hk 129 (by decide) (by decide)).trans W0_129) (by omega) ((hk 130 (by decide) (by decide)).trans W0_130) (by omega) (show (lg_cmp (xqs (xqs (xfr (xvv xs)))) (0 : Int64)) = 0 from (xge_c (n := 0) (by omega) rfl))) ?_
  refine i_248_124 (x := 128) rfl ?_
  refine i_248_125 (x := (xs 1)) rfl ?_
  refine i_248_126 (x := 128) rfl ?_
  refine i_248_127 (v := Value.ref 129) (xgn (by decide) (xgn (by decide) (xgn (by decide) (xgn (by decide) (xgn (by decide) hm))))) rfl ?_
  refine i_248_130 (x := (xfd (xvv xs))) rfl ?_
  refine i_248_132 (fun h => absurd (show (xfd (xvv xs)).toInt = 0 by omega) h) (fun _ => ?_)
  refine i_248_135 ?_
  refine i_248_136 ?_
  refine i_248_141 ?_
  refine i_248_144 (c := (-1074)) (by decide) ?_
  refine i_248_145 ?_
  refine i_248_146 (x := (xvv xs)) rfl ?_
  refine i_248_147 ?_
  refine i_248_148 (c := (lg_cmp (xvv xs) (0 : Int64))) rfl ?_
  refine i_248_149 (fun h => absurd (show (lg_cmp (xvv xs) (0 : Int64)).toInt < 0 by omega) (Int.not_lt.mpr h)) (fun _ => ?_)
  refine i_248_152 ?_
  refine i_248_153 ?_
  refine i_248_157 (x := (xs 4)) rfl ?_
  refine i_248_159 (xgn (by decide) (xgn (by decide) (xgn (by decide) (xgn (by decide) (xgn (by decide) hm))))) (Nat.le_of_ble_eq_true rfl) hr ?_
  exact i_248_162 ⟨rfl, rfl⟩
theorem mn16_01_5 {d : Nat} {xs : Nat → Int32} {w w2 : xW} {b : Int32} {B K P G : Int32} (hk : ∀ h, 129 ≤ h → h < 194 → w[h]? = (W0 6 xs)[h]?) (hm : w[128]? = some (Sum.inr (12, [Value.ref 129, Value.ref 131, Value.ref 133, Value.ref 135, Value.ref 137, Value.ref 139, Value.ref 141, Value.ref 143, Value.ref 145, Value.ref 147, Value.ref 149, Value.ref 151, Value.ref 153, Value.ref 154, Value.ref 155, Value.ref 156, Value.ref 157, Value.int (-16384), Value.int 16384, Value.int 0, Value.int 0, Value.int 0, Value.ref 158, Value.ref 159, Value.int 0, Value.int 0, Value.int 0, Value.int 0, Value.int 0, Value.int 0, Value.int 0, Value.int 0]))) (c0 : 0 ≤ (xs 1).toInt) (c1 : (xs 1).toInt < 16) (c2 : 0 ≤ (xs 4).toInt) (c3 : (xs 4).toInt ≤ 4) (c4 : 0 ≤ (xfd (xvv xs)).toInt) (c5 : (xfd (xvv xs)).toInt ≤ 2047) (c6 : (xfd (xvv xs)).toInt ≠ 2047) (c7 : (xfd (xvv xs)).toInt = 0) (c8 : (lg_cmp (xfr (xvv xs)) (0 : Int64)).toInt ≠ 0) (c9 : (lg_cmp (xvv xs) (0 : Int64)).toInt < 0) (c10 : K.toInt = 64 - B.toInt) (c11 : 35 ≤ B.toInt) (c12 : B.toInt ≤ 60) (c13 : (xhi (xfr (xvv xs))).toInt ≠ 0) (c14 : (xnlz (xhi (xfr (xvv xs)))).toInt = 64 - B.toInt) (c15 : (xbf 2 (xlo (xfr (xvv xs))) (xhi (xfr (xvv xs))) ((32 : Int32) - K)).toInt ≠ 0) (c16 : (lg_cmp (xfr (xvv xs)) (0 : Int64)).toInt ≠ 0) (c17 : (lg_cmp (xqs (xfr (xvv xs))) (0 : Int64)).toInt ≠ 0) (c18 : (lg_cmp (xqs (xqs (xfr (xvv xs)))) (0 : Int64)).toInt = 0) (c19 : (xbn (xq (xqs (xfr (xvv xs))))).toInt = B.toInt - 30) (c20 : (xq (xqs (xfr (xvv xs)))).toInt ≠ 0) (c21 : 0 ≤ (xq (xqs (xfr (xvv xs)))).toInt) (c22 : K.toInt ≠ 0) (c23 : K / (30 : Int32) = 0) (c24 : K - K / (30 : Int32) * (30 : Int32) = P) (c25 : ((0 : Int32) ||| (xH (xq (xqs (xfr (xvv xs)))) P)).toInt ≠ 0) (c26 : 0 ≤ ((0 : Int32) ||| (xH (xq (xqs (xfr (xvv xs)))) P)).toInt) (c27 : (xbn ((0 : Int32) ||| (xH (xq (xqs (xfr (xvv xs)))) P))).toInt = 4) (c28 : G.toInt = B.toInt - 31) (hr : xRun (d + 6) 180 [Value.ref 128, Value.int (xs 1), Value.ref 129, Value.int (-1074), Value.int 0, Value.int 1, Value.int (xs 4)] (((((w.set 129 (Sum.inr (13, [Value.ref 130, Value.int 0]))).set 130 (Sum.inl (0, 4700, xup (fun _ => Value.int 0) (0 : Int32).toInt.toNat (Value.int (xq (xfr (xvv xs))))))).set 129 (Sum.inr (13, [Value.ref 130, Value.int 1]))).set 130 (Sum.inl (0, 4700, xup (xup (fun _ => Value.int 0) (0 : Int32).toInt.toNat (Value.int (xq (xfr (xvv xs))))) (1 : Int32).toInt.toNat (Value.int (xq (xqs (xfr (xvv xs)))))))).set 129 (Sum.inr (13, [Value.ref 130, Value.int 2]))) (.inl (some (Value.int b))) w2) : xRun (d + 7) 248 [Value.ref 128, Value.int (xs 1), Value.long (xvv xs), Value.int (xs 4)] w (.inl (some (Value.int b))) w2 := by
  refine xRun.of ?_
  refine i_248_0 (x := (xs 1)) rfl ?_
  refine i_248_1 (Nat.le_of_ble_eq_true rfl) (s_168_0 (by omega) (by omega)) ?_
  refine i_248_4 (x := (xs 4)) rfl ?_
  refine i_248_6 (Nat.le_of_ble_eq_true rfl) (s_178_0 (by omega) (by omega)) ?_
  refine i_248_9 (x := (xvv xs)) rfl ?_
  refine i_248_10 ?_
  refine i_248_12 (c := ((xvv xs) >>> ((52 : Int32).toInt64 &&& 63))) rfl ?_
  refine i_248_13 (c := ((xvv xs) >>> ((52 : Int32).toInt64 &&& 63)).toInt32) rfl ?_
  refine i_248_14 ?_
  refine i_248_17 (c := (xfd (xvv xs))) (show (xfe (xvv xs)) = (xfd (xvv xs)) from (xfe_eq _)) ?_
  refine i_248_18 (lv2 := [(5, Value.int (xfd (xvv xs))), (0, Value.ref 128), (1, Value.int (xs 1)), (2, Value.long (xvv xs)), (4, Value.int (xs 4))]) rfl ?_
  refine i_248_20 (x := (xvv xs)) rfl ?_
  refine i_248_21 ?_
  refine i_248_24 (c := (xfr (xvv xs))) rfl ?_
  refine i_248_25 (lv2 := [(6, Value.long (xfr (xvv xs))), (5, Value.int (xfd (xvv xs))), (0, Value.ref 128), (1, Value.int (xs 1)), (2, Value.long (xvv xs)), (4, Value.int (xs 4))]) rfl ?_
  refine i_248_27 (x := (xfd (xvv xs))) rfl ?_
  refine i_248_29 ?_
  refine i_248_32 (fun _ => ?_) (fun h => absurd (show (xfd (xvv xs)).toInt ≠ 2047 by omega) (fun g => g h))
  refine i_248_71 (x := (xfd (xvv xs))) rfl ?_
  refine i_248_73 (fun h => absurd (show (xfd (xvv xs)).toInt = 0 by omega) h) (fun _ => ?_)
  refine i_248_76 (x := (xfr (xvv xs))) rfl ?_
  refine i_248_78 ?_
  refine i_248_79 (c := (lg_cmp (xfr (xvv xs)) (0 : Int64))) rfl ?_
  refine i_248_80 (fun _ => ?_) (fun h => absurd (show (lg_cmp (xfr (xvv xs)) (0 : Int64)).toInt ≠ 0 by omega) (fun g => g h))
  refine i_248_101 (x := 128) rfl ?_
  refine i_248_102 (v := Value.ref 129) hm rfl ?_
  refine i_248_105 (x := (xfd (xvv xs))) rfl ?_
  refine i_248_107 (fun h => absurd (show (xfd (xvv xs)).toInt = 0 by omega) h) (fun _ => ?_)
  refine i_248_110 (x := (xfr (xvv xs))) rfl ?_
  refine i_248_112 ?_
  refine i_248_121 ((hk 129 (by decide) (by decide)).trans W0_129) (Nat.le_of_ble_eq_true rfl) (s_179_4 ((hk 129 (by decide) (by decide)).trans W0_129) (by omega) ((hk 130 (by decide) (by decide)).trans W0_130) (by omega) (show (lg_cmp (xqs (xqs (xfr (xvv xs)))) (0 : Int64)) = 0 from (xge_c (n := 0) (by omega) rfl))) ?_
  refine i_248_124 (x := 128) rfl ?_
  refine i_248_125 (x := (xs 1)) rfl ?_
  refine i_248_126 (x := 128) rfl ?_
  refine i_248_127 (v := Value.ref 129) (xgn (by decide) (xgn (by decide) (xgn (by decide) (xgn (by decide) (xgn (by decide) hm))))) rfl ?_
  refine i_248_130 (x := (xfd (xvv xs))) rfl ?_
  refine i_248_132 (fun h => absurd (show (xfd (xvv xs)).toInt = 0 by omega) h) (fun _ => ?_)
  refine i_248_135 ?_
  refine i_248_136 ?_
  refine i_248_141 ?_
  refine i_248_144 (c := (-1074)) (by decide) ?_
  refine i_248_145 ?_
  refine i_248_146 (x := (xvv xs)) rfl ?_
  refine i_248_147 ?_
  refine i_248_148 (c := (lg_cmp (xvv xs) (0 : Int64))) rfl ?_
  refine i_248_149 (fun h => absurd (show (lg_cmp (xvv xs) (0 : Int64)).toInt < 0 by omega) (Int.not_lt.mpr h)) (fun _ => ?_)
  refine i_248_152 ?_
  refine i_248_153 ?_
  refine i_248_157 (x := (xs 4)) rfl ?_
  refine i_248_159 (xgn (by decide) (xgn (by decide) (xgn (by decide) (xgn (by decide) (xgn (by decide) hm))))) (Nat.le_of_ble_eq_true rfl) hr ?_
  exact i_248_162 ⟨rfl, rfl⟩
theorem mn16_01_6 {d : Nat} {xs : Nat → Int32} {w w2 : xW} {b : Int32} {B K P G : Int32} (hk : ∀ h, 129 ≤ h → h < 194 → w[h]? = (W0 6 xs)[h]?) (hm : w[128]? = some (Sum.inr (12, [Value.ref 129, Value.ref 131, Value.ref 133, Value.ref 135, Value.ref 137, Value.ref 139, Value.ref 141, Value.ref 143, Value.ref 145, Value.ref 147, Value.ref 149, Value.ref 151, Value.ref 153, Value.ref 154, Value.ref 155, Value.ref 156, Value.ref 157, Value.int (-16384), Value.int 16384, Value.int 0, Value.int 0, Value.int 0, Value.ref 158, Value.ref 159, Value.int 0, Value.int 0, Value.int 0, Value.int 0, Value.int 0, Value.int 0, Value.int 0, Value.int 0]))) (c0 : 0 ≤ (xs 1).toInt) (c1 : (xs 1).toInt < 16) (c2 : 0 ≤ (xs 4).toInt) (c3 : (xs 4).toInt ≤ 4) (c4 : 0 ≤ (xfd (xvv xs)).toInt) (c5 : (xfd (xvv xs)).toInt ≤ 2047) (c6 : (xfd (xvv xs)).toInt ≠ 2047) (c7 : (xfd (xvv xs)).toInt = 0) (c8 : (lg_cmp (xfr (xvv xs)) (0 : Int64)).toInt ≠ 0) (c9 : (lg_cmp (xvv xs) (0 : Int64)).toInt < 0) (c10 : K.toInt = 64 - B.toInt) (c11 : 61 ≤ B.toInt) (c12 : B.toInt ≤ 63) (c13 : (xhi (xfr (xvv xs))).toInt ≠ 0) (c14 : (xnlz (xhi (xfr (xvv xs)))).toInt = 64 - B.toInt) (c15 : (xbf 2 (xlo (xfr (xvv xs))) (xhi (xfr (xvv xs))) ((32 : Int32) - K)).toInt ≠ 0) (c16 : (lg_cmp (xfr (xvv xs)) (0 : Int64)).toInt ≠ 0) (c17 : (lg_cmp (xqs (xfr (xvv xs))) (0 : Int64)).toInt ≠ 0) (c18 : (lg_cmp (xqs (xqs (xfr (xvv xs)))) (0 : Int64)).toInt ≠ 0) (c19 : (lg_cmp (xqs (xqs (xqs (xfr (xvv xs))))) (0 : Int64)).toInt = 0) (c20 : (xbn (xq (xqs (xqs (xfr (xvv xs)))))).toInt = B.toInt - 60) (c21 : (xq (xqs (xqs (xfr (xvv xs))))).toInt ≠ 0) (c22 : 0 ≤ (xq (xqs (xqs (xfr (xvv xs))))).toInt) (c23 : K.toInt ≠ 0) (c24 : K / (30 : Int32) = 0) (c25 : K - K / (30 : Int32) * (30 : Int32) = P) (c26 : ((0 : Int32) ||| (xH (xq (xqs (xqs (xfr (xvv xs))))) P)).toInt = 0) (c27 : ((xL (xq (xqs (xqs (xfr (xvv xs))))) P) ||| (xH (xq (xqs (xfr (xvv xs)))) P)).toInt ≠ 0) (c28 : 0 ≤ ((xL (xq (xqs (xqs (xfr (xvv xs))))) P) ||| (xH (xq (xqs (xfr (xvv xs)))) P)).toInt) (c29 : (xbn ((xL (xq (xqs (xqs (xfr (xvv xs))))) P) ||| (xH (xq (xqs (xfr (xvv xs)))) P))).toInt = 4) (c30 : G.toInt = B.toInt - 61) (hr : xRun (d + 6) 180 [Value.ref 128, Value.int (xs 1), Value.ref 129, Value.int (-1074), Value.int 0, Value.int 1, Value.int (xs 4)] (((((((w.set 129 (Sum.inr (13, [Value.ref 130, Value.int 0]))).set 130 (Sum.inl (0, 4700, xup (fun _ => Value.int 0) (0 : Int32).toInt.toNat (Value.int (xq (xfr (xvv xs))))))).set 129 (Sum.inr (13, [Value.ref 130, Value.int 1]))).set 130 (Sum.inl (0, 4700, xup (xup (fun _ => Value.int 0) (0 : Int32).toInt.toNat (Value.int (xq (xfr (xvv xs))))) (1 : Int32).toInt.toNat (Value.int (xq (xqs (xfr (xvv xs)))))))).set 129 (Sum.inr (13, [Value.ref 130, Value.int 2]))).set 130 (Sum.inl (0, 4700, xup (xup (xup (fun _ => Value.int 0) (0 : Int32).toInt.toNat (Value.int (xq (xfr (xvv xs))))) (1 : Int32).toInt.toNat (Value.int (xq (xqs (xfr (xvv xs)))))) (2 : Int32).toInt.toNat (Value.int (xq (xqs (xqs (xfr (xvv xs))))))))).set 129 (Sum.inr (13, [Value.ref 130, Value.int 3]))) (.inl (some (Value.int b))) w2) : xRun (d + 7) 248 [Value.ref 128, Value.int (xs 1), Value.long (xvv xs), Value.int (xs 4)] w (.inl (some (Value.int b))) w2 := by
  refine xRun.of ?_
  refine i_248_0 (x := (xs 1)) rfl ?_
  refine i_248_1 (Nat.le_of_ble_eq_true rfl) (s_168_0 (by omega) (by omega)) ?_
  refine i_248_4 (x := (xs 4)) rfl ?_
  refine i_248_6 (Nat.le_of_ble_eq_true rfl) (s_178_0 (by omega) (by omega)) ?_
  refine i_248_9 (x := (xvv xs)) rfl ?_
  refine i_248_10 ?_
  refine i_248_12 (c := ((xvv xs) >>> ((52 : Int32).toInt64 &&& 63))) rfl ?_
  refine i_248_13 (c := ((xvv xs) >>> ((52 : Int32).toInt64 &&& 63)).toInt32) rfl ?_
  refine i_248_14 ?_
  refine i_248_17 (c := (xfd (xvv xs))) (show (xfe (xvv xs)) = (xfd (xvv xs)) from (xfe_eq _)) ?_
  refine i_248_18 (lv2 := [(5, Value.int (xfd (xvv xs))), (0, Value.ref 128), (1, Value.int (xs 1)), (2, Value.long (xvv xs)), (4, Value.int (xs 4))]) rfl ?_
  refine i_248_20 (x := (xvv xs)) rfl ?_
  refine i_248_21 ?_
  refine i_248_24 (c := (xfr (xvv xs))) rfl ?_
  refine i_248_25 (lv2 := [(6, Value.long (xfr (xvv xs))), (5, Value.int (xfd (xvv xs))), (0, Value.ref 128), (1, Value.int (xs 1)), (2, Value.long (xvv xs)), (4, Value.int (xs 4))]) rfl ?_
  refine i_248_27 (x := (xfd (xvv xs))) rfl ?_
  refine i_248_29 ?_
  refine i_248_32 (fun _ => ?_) (fun h => absurd (show (xfd (xvv xs)).toInt ≠ 2047 by omega) (fun g => g h))
  refine i_248_71 (x := (xfd (xvv xs))) rfl ?_
  refine i_248_73 (fun h => absurd (show (xfd (xvv xs)).toInt = 0 by omega) h) (fun _ => ?_)
  refine i_248_76 (x := (xfr (xvv xs))) rfl ?_
  refine i_248_78 ?_
  refine i_248_79 (c := (lg_cmp (xfr (xvv xs)) (0 : Int64))) rfl ?_
  refine i_248_80 (fun _ => ?_) (fun h => absurd (show (lg_cmp (xfr (xvv xs)) (0 : Int64)).toInt ≠ 0 by omega) (fun g => g h))
  refine i_248_101 (x := 128) rfl ?_
  refine i_248_102 (v := Value.ref 129) hm rfl ?_
  refine i_248_105 (x := (xfd (xvv xs))) rfl ?_
  refine i_248_107 (fun h => absurd (show (xfd (xvv xs)).toInt = 0 by omega) h) (fun _ => ?_)
  refine i_248_110 (x := (xfr (xvv xs))) rfl ?_
  refine i_248_112 ?_
  refine i_248_121 ((hk 129 (by decide) (by decide)).trans W0_129) (Nat.le_of_ble_eq_true rfl) (s_179_5 ((hk 129 (by decide) (by decide)).trans W0_129) (by omega) ((hk 130 (by decide) (by decide)).trans W0_130) (by omega) (by omega) (show (lg_cmp (xqs (xqs (xqs (xfr (xvv xs))))) (0 : Int64)) = 0 from (xge_c (n := 0) (by omega) rfl))) ?_
  refine i_248_124 (x := 128) rfl ?_
  refine i_248_125 (x := (xs 1)) rfl ?_
  refine i_248_126 (x := 128) rfl ?_
  refine i_248_127 (v := Value.ref 129) (xgn (by decide) (xgn (by decide) (xgn (by decide) (xgn (by decide) (xgn (by decide) (xgn (by decide) (xgn (by decide) hm))))))) rfl ?_
  refine i_248_130 (x := (xfd (xvv xs))) rfl ?_
  refine i_248_132 (fun h => absurd (show (xfd (xvv xs)).toInt = 0 by omega) h) (fun _ => ?_)
  refine i_248_135 ?_
  refine i_248_136 ?_
  refine i_248_141 ?_
  refine i_248_144 (c := (-1074)) (by decide) ?_
  refine i_248_145 ?_
  refine i_248_146 (x := (xvv xs)) rfl ?_
  refine i_248_147 ?_
  refine i_248_148 (c := (lg_cmp (xvv xs) (0 : Int64))) rfl ?_
  refine i_248_149 (fun h => absurd (show (lg_cmp (xvv xs) (0 : Int64)).toInt < 0 by omega) (Int.not_lt.mpr h)) (fun _ => ?_)
  refine i_248_152 ?_
  refine i_248_153 ?_
  refine i_248_157 (x := (xs 4)) rfl ?_
  refine i_248_159 (xgn (by decide) (xgn (by decide) (xgn (by decide) (xgn (by decide) (xgn (by decide) (xgn (by decide) (xgn (by decide) hm))))))) (Nat.le_of_ble_eq_true rfl) hr ?_
  exact i_248_162 ⟨rfl, rfl⟩
theorem mn16_01_7 {d : Nat} {xs : Nat → Int32} {w w2 : xW} {b : Int32} {B K G : Int32} (hk : ∀ h, 129 ≤ h → h < 194 → w[h]? = (W0 6 xs)[h]?) (hm : w[128]? = some (Sum.inr (12, [Value.ref 129, Value.ref 131, Value.ref 133, Value.ref 135, Value.ref 137, Value.ref 139, Value.ref 141, Value.ref 143, Value.ref 145, Value.ref 147, Value.ref 149, Value.ref 151, Value.ref 153, Value.ref 154, Value.ref 155, Value.ref 156, Value.ref 157, Value.int (-16384), Value.int 16384, Value.int 0, Value.int 0, Value.int 0, Value.ref 158, Value.ref 159, Value.int 0, Value.int 0, Value.int 0, Value.int 0, Value.int 0, Value.int 0, Value.int 0, Value.int 0]))) (c0 : 0 ≤ (xs 1).toInt) (c1 : (xs 1).toInt < 16) (c2 : 0 ≤ (xs 4).toInt) (c3 : (xs 4).toInt ≤ 4) (c4 : 0 ≤ (xfd (xvv xs)).toInt) (c5 : (xfd (xvv xs)).toInt ≤ 2047) (c6 : (xfd (xvv xs)).toInt ≠ 2047) (c7 : (xfd (xvv xs)).toInt = 0) (c8 : (lg_cmp (xfr (xvv xs)) (0 : Int64)).toInt ≠ 0) (c9 : (lg_cmp (xvv xs) (0 : Int64)).toInt < 0) (c10 : K.toInt = 64 - B.toInt) (c11 : 64 ≤ B.toInt) (c12 : B.toInt ≤ 64) (c13 : (xhi (xfr (xvv xs))).toInt ≠ 0) (c14 : (xnlz (xhi (xfr (xvv xs)))).toInt = 64 - B.toInt) (c15 : (xbf 2 (xlo (xfr (xvv xs))) (xhi (xfr (xvv xs))) ((32 : Int32) - K)).toInt ≠ 0) (c16 : (lg_cmp (xfr (xvv xs)) (0 : Int64)).toInt ≠ 0) (c17 : (lg_cmp (xqs (xfr (xvv xs))) (0 : Int64)).toInt ≠ 0) (c18 : (lg_cmp (xqs (xqs (xfr (xvv xs)))) (0 : Int64)).toInt ≠ 0) (c19 : (lg_cmp (xqs (xqs (xqs (xfr (xvv xs))))) (0 : Int64)).toInt = 0) (c20 : (xbn (xq (xqs (xqs (xfr (xvv xs)))))).toInt = B.toInt - 60) (c21 : (xq (xqs (xqs (xfr (xvv xs))))).toInt ≠ 0) (c22 : 0 ≤ (xq (xqs (xqs (xfr (xvv xs))))).toInt) (c23 : K.toInt = 0) (c24 : (xbn (xq (xqs (xqs (xfr (xvv xs)))))).toInt = 4) (c25 : G.toInt = B.toInt - 61) (hr : xRun (d + 6) 180 [Value.ref 128, Value.int (xs 1), Value.ref 129, Value.int (-1074), Value.int 0, Value.int 1, Value.int (xs 4)] (((((((w.set 129 (Sum.inr (13, [Value.ref 130, Value.int 0]))).set 130 (Sum.inl (0, 4700, xup (fun _ => Value.int 0) (0 : Int32).toInt.toNat (Value.int (xq (xfr (xvv xs))))))).set 129 (Sum.inr (13, [Value.ref 130, Value.int 1]))).set 130 (Sum.inl (0, 4700, xup (xup (fun _ => Value.int 0) (0 : Int32).toInt.toNat (Value.int (xq (xfr (xvv xs))))) (1 : Int32).toInt.toNat (Value.int (xq (xqs (xfr (xvv xs)))))))).set 129 (Sum.inr (13, [Value.ref 130, Value.int 2]))).set 130 (Sum.inl (0, 4700, xup (xup (xup (fun _ => Value.int 0) (0 : Int32).toInt.toNat (Value.int (xq (xfr (xvv xs))))) (1 : Int32).toInt.toNat (Value.int (xq (xqs (xfr (xvv xs)))))) (2 : Int32).toInt.toNat (Value.int (xq (xqs (xqs (xfr (xvv xs))))))))).set 129 (Sum.inr (13, [Value.ref 130, Value.int 3]))) (.inl (some (Value.int b))) w2) : xRun (d + 7) 248 [Value.ref 128, Value.int (xs 1), Value.long (xvv xs), Value.int (xs 4)] w (.inl (some (Value.int b))) w2 := by
  refine xRun.of ?_
  refine i_248_0 (x := (xs 1)) rfl ?_
  refine i_248_1 (Nat.le_of_ble_eq_true rfl) (s_168_0 (by omega) (by omega)) ?_
  refine i_248_4 (x := (xs 4)) rfl ?_
  refine i_248_6 (Nat.le_of_ble_eq_true rfl) (s_178_0 (by omega) (by omega)) ?_
  refine i_248_9 (x := (xvv xs)) rfl ?_
  refine i_248_10 ?_
  refine i_248_12 (c := ((xvv xs) >>> ((52 : Int32).toInt64 &&& 63))) rfl ?_
  refine i_248_13 (c := ((xvv xs) >>> ((52 : Int32).toInt64 &&& 63)).toInt32) rfl ?_
  refine i_248_14 ?_
  refine i_248_17 (c := (xfd (xvv xs))) (show (xfe (xvv xs)) = (xfd (xvv xs)) from (xfe_eq _)) ?_
  refine i_248_18 (lv2 := [(5, Value.int (xfd (xvv xs))), (0, Value.ref 128), (1, Value.int (xs 1)), (2, Value.long (xvv xs)), (4, Value.int (xs 4))]) rfl ?_
  refine i_248_20 (x := (xvv xs)) rfl ?_
  refine i_248_21 ?_
  refine i_248_24 (c := (xfr (xvv xs))) rfl ?_
  refine i_248_25 (lv2 := [(6, Value.long (xfr (xvv xs))), (5, Value.int (xfd (xvv xs))), (0, Value.ref 128), (1, Value.int (xs 1)), (2, Value.long (xvv xs)), (4, Value.int (xs 4))]) rfl ?_
  refine i_248_27 (x := (xfd (xvv xs))) rfl ?_
  refine i_248_29 ?_
  refine i_248_32 (fun _ => ?_) (fun h => absurd (show (xfd (xvv xs)).toInt ≠ 2047 by omega) (fun g => g h))
  refine i_248_71 (x := (xfd (xvv xs))) rfl ?_
  refine i_248_73 (fun h => absurd (show (xfd (xvv xs)).toInt = 0 by omega) h) (fun _ => ?_)
  refine i_248_76 (x := (xfr (xvv xs))) rfl ?_
  refine i_248_78 ?_
  refine i_248_79 (c := (lg_cmp (xfr (xvv xs)) (0 : Int64))) rfl ?_
  refine i_248_80 (fun _ => ?_) (fun h => absurd (show (lg_cmp (xfr (xvv xs)) (0 : Int64)).toInt ≠ 0 by omega) (fun g => g h))
  refine i_248_101 (x := 128) rfl ?_
  refine i_248_102 (v := Value.ref 129) hm rfl ?_
  refine i_248_105 (x := (xfd (xvv xs))) rfl ?_
  refine i_248_107 (fun h => absurd (show (xfd (xvv xs)).toInt = 0 by omega) h) (fun _ => ?_)
  refine i_248_110 (x := (xfr (xvv xs))) rfl ?_
  refine i_248_112 ?_
  refine i_248_121 ((hk 129 (by decide) (by decide)).trans W0_129) (Nat.le_of_ble_eq_true rfl) (s_179_5 ((hk 129 (by decide) (by decide)).trans W0_129) (by omega) ((hk 130 (by decide) (by decide)).trans W0_130) (by omega) (by omega) (show (lg_cmp (xqs (xqs (xqs (xfr (xvv xs))))) (0 : Int64)) = 0 from (xge_c (n := 0) (by omega) rfl))) ?_
  refine i_248_124 (x := 128) rfl ?_
  refine i_248_125 (x := (xs 1)) rfl ?_
  refine i_248_126 (x := 128) rfl ?_
  refine i_248_127 (v := Value.ref 129) (xgn (by decide) (xgn (by decide) (xgn (by decide) (xgn (by decide) (xgn (by decide) (xgn (by decide) (xgn (by decide) hm))))))) rfl ?_
  refine i_248_130 (x := (xfd (xvv xs))) rfl ?_
  refine i_248_132 (fun h => absurd (show (xfd (xvv xs)).toInt = 0 by omega) h) (fun _ => ?_)
  refine i_248_135 ?_
  refine i_248_136 ?_
  refine i_248_141 ?_
  refine i_248_144 (c := (-1074)) (by decide) ?_
  refine i_248_145 ?_
  refine i_248_146 (x := (xvv xs)) rfl ?_
  refine i_248_147 ?_
  refine i_248_148 (c := (lg_cmp (xvv xs) (0 : Int64))) rfl ?_
  refine i_248_149 (fun h => absurd (show (lg_cmp (xvv xs) (0 : Int64)).toInt < 0 by omega) (Int.not_lt.mpr h)) (fun _ => ?_)
  refine i_248_152 ?_
  refine i_248_153 ?_
  refine i_248_157 (x := (xs 4)) rfl ?_
  refine i_248_159 (xgn (by decide) (xgn (by decide) (xgn (by decide) (xgn (by decide) (xgn (by decide) (xgn (by decide) (xgn (by decide) hm))))))) (Nat.le_of_ble_eq_true rfl) hr ?_
  exact i_248_162 ⟨rfl, rfl⟩
theorem mdl16_01 {d : Nat} {xs : Nat → Int32} {w1 : xW} (k1 : xKp (W0 6 xs) w1 xPC) (c0 : 0 ≤ (xs 1).toInt) (c1 : (xs 1).toInt < 16) (c2 : 0 ≤ (xs 4).toInt) (c3 : (xs 4).toInt ≤ 4) (c4 : 0 ≤ (xfd (xvv xs)).toInt) (c5 : (xfd (xvv xs)).toInt ≤ 2047) (c6 : (xfd (xvv xs)).toInt ≠ 2047) (c7 : (xfd (xvv xs)).toInt = 0) (c8 : (lg_cmp (xfr (xvv xs)) (0 : Int64)).toInt ≠ 0) (c9 : (lg_cmp (xvv xs) (0 : Int64)).toInt < 0) : ∃ w2, xRun (d + 8) 247 [Value.ref 128, Value.int (xs 1), Value.long (xvv xs), Value.int (xs 4)] w1 (.inl (some (Value.int (xres 1 (xfr (xvv xs)) ((-1074) : Int32) (xs 4))))) w2 ∧ xKp w1 w2 xPM ∧ ∃ f, w2[128]? = some (xmo f) := by
  have hk1 : ∀ h, 128 ≤ h → h ≠ 194 → w1[h]? = (W0 6 xs)[h]? := fun h h1 h2 => k1.1 h (Or.inl ⟨h1, h2⟩)
  have hm1 : w1[128]? = some (Sum.inr (12, [Value.ref 129, Value.ref 131, Value.ref 133, Value.ref 135, Value.ref 137, Value.ref 139, Value.ref 141, Value.ref 143, Value.ref 145, Value.ref 147, Value.ref 149, Value.ref 151, Value.ref 153, Value.ref 154, Value.ref 155, Value.ref 156, Value.ref 157, Value.int (-16384), Value.int 16384, Value.int 0, Value.int 0, Value.int 0, Value.ref 158, Value.ref 159, Value.int 0, Value.int 0, Value.int 0, Value.int 0, Value.int 0, Value.int 0, Value.int 0, Value.int 0])) := (hk1 128 (by decide) (by decide)).trans W0_128
  have hk : ∀ h, 129 ≤ h → h < 194 → (w1.set 128 (Sum.inr (12, [Value.ref 129, Value.ref 131, Value.ref 133, Value.ref 135, Value.ref 137, Value.ref 139, Value.ref 141, Value.ref 143, Value.ref 145, Value.ref 147, Value.ref 149, Value.ref 151, Value.ref 153, Value.ref 154, Value.ref 155, Value.ref 156, Value.ref 157, Value.int (-16384), Value.int 16384, Value.int 0, Value.int 0, Value.int 0, Value.ref 158, Value.ref 159, Value.int 0, Value.int 0, Value.int 0, Value.int 0, Value.int 0, Value.int 0, Value.int 0, Value.int 0])))[h]? = (W0 6 xs)[h]? := fun h h1 h2 => (xgn (by omega) rfl).trans (hk1 h (by omega) (by omega))
  have hm : (w1.set 128 (Sum.inr (12, [Value.ref 129, Value.ref 131, Value.ref 133, Value.ref 135, Value.ref 137, Value.ref 139, Value.ref 141, Value.ref 143, Value.ref 145, Value.ref 147, Value.ref 149, Value.ref 151, Value.ref 153, Value.ref 154, Value.ref 155, Value.ref 156, Value.ref 157, Value.int (-16384), Value.int 16384, Value.int 0, Value.int 0, Value.int 0, Value.ref 158, Value.ref 159, Value.int 0, Value.int 0, Value.int 0, Value.int 0, Value.int 0, Value.int 0, Value.int 0, Value.int 0])))[128]? = some (Sum.inr (12, [Value.ref 129, Value.ref 131, Value.ref 133, Value.ref 135, Value.ref 137, Value.ref 139, Value.ref 141, Value.ref 143, Value.ref 145, Value.ref 147, Value.ref 149, Value.ref 151, Value.ref 153, Value.ref 154, Value.ref 155, Value.ref 156, Value.ref 157, Value.int (-16384), Value.int 16384, Value.int 0, Value.int 0, Value.int 0, Value.ref 158, Value.ref 159, Value.int 0, Value.int 0, Value.int 0, Value.int 0, Value.int 0, Value.int 0, Value.int 0, Value.int 0])) := xgs hm1
  have fs : ((-1074) : Int32).toInt = -1074 := rfl
  obtain ⟨B, K, P, G, hB, c10, hr⟩ := xreg (m := (xfr (xvv xs))) (xnm_p c8)
  rcases hr with ⟨c11, c12, c13, c14, c15, c16, c17, c18, c19, c20, c21, c22, c23, c24, c25, c26, c27, c28, c29⟩ | ⟨c11, c12, c13, c14, c15, c16, c17, c18, c19, c20, c21, c22, c23, c24, c25, c26, c27, c28⟩ | ⟨c11, c12, c13, c14, c15, c16, c17, c18, c19, c20, c21, c22, c23, c24, c25, c26, c27, c28, c29, c30⟩ | ⟨c11, c12, c13, c14, c15, c16, c17, c18, c19, c20, c21, c22, c23, c24, c25, c26, c27, c28, c29⟩ | ⟨c11, c12, c13, c14, c15, c16, c17, c18, c19, c20, c21, c22, c23, c24, c25, c26, c27, c28⟩ | ⟨c11, c12, c13, c14, c15, c16, c17, c18, c19, c20, c21, c22, c23, c24, c25, c26, c27, c28, c29, c30⟩ | ⟨c11, c12, c13, c14, c15, c16, c17, c18, c19, c20, c21, c22, c23, c24, c25⟩
  · obtain ⟨w2, h1, h2, h3⟩ := rd1_1 (d := d) (xs := xs) (m := (xfr (xvv xs))) (sc := (-1074)) (md := (xs 4)) (w := ((((w1.set 128 (Sum.inr (12, [Value.ref 129, Value.ref 131, Value.ref 133, Value.ref 135, Value.ref 137, Value.ref 139, Value.ref 141, Value.ref 143, Value.ref 145, Value.ref 147, Value.ref 149, Value.ref 151, Value.ref 153, Value.ref 154, Value.ref 155, Value.ref 156, Value.ref 157, Value.int (-16384), Value.int 16384, Value.int 0, Value.int 0, Value.int 0, Value.ref 158, Value.ref 159, Value.int 0, Value.int 0, Value.int 0, Value.int 0, Value.int 0, Value.int 0, Value.int 0, Value.int 0]))).set 129 (Sum.inr (13, [Value.ref 130, Value.int 0]))).set 130 (Sum.inl (0, 4700, xup (fun _ => Value.int 0) (0 : Int32).toInt.toNat (Value.int (xq (xfr (xvv xs))))))).set 129 (Sum.inr (13, [Value.ref 130, Value.int 1])))) (P := P) (fun h h1 h2 => (xgn (by omega) (xgn (by omega) (xgn (by omega) (rfl)))).trans (hk h (by omega) h2)) (xgn (by decide) (xgn (by decide) (xgn (by decide) hm))) (xgs (xgn (by decide) (xgs ((hk 129 (by decide) (by decide)).trans W0_129)))) (xgn (by decide) (xgs (xgn (by decide) (((hk 130 (by decide) (by decide)).trans W0_130))))) (xup_s) hB c0 c1 (by omega) (by omega) (by omega) (by omega) c10 c11 c12 c13 c14 c15 c16 c17 c18 c19 c20 c21 c22 c23 c24 c25 c26 c27 c28 c29
    refine ⟨w2, mnum16 hm1 (mn16_01_1 hk hm c0 c1 c2 c3 c4 c5 c6 c7 c8 c9 c10 c11 c12 c13 c14 c15 c16 c17 c18 c19 c20 c21 c22 c23 c24 c25 c26 c27 c28 c29 h1), xKp.trans ?_ h2, h3⟩
    refine xKp.set ?_ (fun h hh => by unfold xPM at hh; omega) (xgn (by decide) (xgs ((hk 129 (by decide) (by decide)).trans W0_129))) xcs_o
    refine xKp.set ?_ (fun h hh => by unfold xPM at hh; omega) (xgn (by decide) (((hk 130 (by decide) (by decide)).trans W0_130))) xcs_a
    refine xKp.set ?_ (fun h hh => by unfold xPM at hh; omega) (((hk 129 (by decide) (by decide)).trans W0_129)) xcs_o
    exact xKp.set xKp.refl (fun h hh => by unfold xPM at hh; omega) hm1 xcs_o
  · obtain ⟨w2, h1, h2, h3⟩ := rd2_1 (d := d) (xs := xs) (m := (xfr (xvv xs))) (sc := (-1074)) (md := (xs 4)) (w := ((((w1.set 128 (Sum.inr (12, [Value.ref 129, Value.ref 131, Value.ref 133, Value.ref 135, Value.ref 137, Value.ref 139, Value.ref 141, Value.ref 143, Value.ref 145, Value.ref 147, Value.ref 149, Value.ref 151, Value.ref 153, Value.ref 154, Value.ref 155, Value.ref 156, Value.ref 157, Value.int (-16384), Value.int 16384, Value.int 0, Value.int 0, Value.int 0, Value.ref 158, Value.ref 159, Value.int 0, Value.int 0, Value.int 0, Value.int 0, Value.int 0, Value.int 0, Value.int 0, Value.int 0]))).set 129 (Sum.inr (13, [Value.ref 130, Value.int 0]))).set 130 (Sum.inl (0, 4700, xup (fun _ => Value.int 0) (0 : Int32).toInt.toNat (Value.int (xq (xfr (xvv xs))))))).set 129 (Sum.inr (13, [Value.ref 130, Value.int 1])))) (P := P) (fun h h1 h2 => (xgn (by omega) (xgn (by omega) (xgn (by omega) (rfl)))).trans (hk h (by omega) h2)) (xgn (by decide) (xgn (by decide) (xgn (by decide) hm))) (xgs (xgn (by decide) (xgs ((hk 129 (by decide) (by decide)).trans W0_129)))) (xgn (by decide) (xgs (xgn (by decide) (((hk 130 (by decide) (by decide)).trans W0_130))))) (xup_s) hB c0 c1 (by omega) (by omega) (by omega) (by omega) c10 c11 c12 c13 c14 c15 c16 c17 c18 c19 c20 c21 c22 c23 c24 c25 c26 c27 c28
    refine ⟨w2, mnum16 hm1 (mn16_01_2 hk hm c0 c1 c2 c3 c4 c5 c6 c7 c8 c9 c10 c11 c12 c13 c14 c15 c16 c17 c18 c19 c20 c21 c22 c23 c24 c25 c26 c27 c28 h1), xKp.trans ?_ h2, h3⟩
    refine xKp.set ?_ (fun h hh => by unfold xPM at hh; omega) (xgn (by decide) (xgs ((hk 129 (by decide) (by decide)).trans W0_129))) xcs_o
    refine xKp.set ?_ (fun h hh => by unfold xPM at hh; omega) (xgn (by decide) (((hk 130 (by decide) (by decide)).trans W0_130))) xcs_a
    refine xKp.set ?_ (fun h hh => by unfold xPM at hh; omega) (((hk 129 (by decide) (by decide)).trans W0_129)) xcs_o
    exact xKp.set xKp.refl (fun h hh => by unfold xPM at hh; omega) hm1 xcs_o
  · obtain ⟨w2, h1, h2, h3⟩ := rd3_1 (d := d) (xs := xs) (m := (xfr (xvv xs))) (sc := (-1074)) (md := (xs 4)) (w := ((((((w1.set 128 (Sum.inr (12, [Value.ref 129, Value.ref 131, Value.ref 133, Value.ref 135, Value.ref 137, Value.ref 139, Value.ref 141, Value.ref 143, Value.ref 145, Value.ref 147, Value.ref 149, Value.ref 151, Value.ref 153, Value.ref 154, Value.ref 155, Value.ref 156, Value.ref 157, Value.int (-16384), Value.int 16384, Value.int 0, Value.int 0, Value.int 0, Value.ref 158, Value.ref 159, Value.int 0, Value.int 0, Value.int 0, Value.int 0, Value.int 0, Value.int 0, Value.int 0, Value.int 0]))).set 129 (Sum.inr (13, [Value.ref 130, Value.int 0]))).set 130 (Sum.inl (0, 4700, xup (fun _ => Value.int 0) (0 : Int32).toInt.toNat (Value.int (xq (xfr (xvv xs))))))).set 129 (Sum.inr (13, [Value.ref 130, Value.int 1]))).set 130 (Sum.inl (0, 4700, xup (xup (fun _ => Value.int 0) (0 : Int32).toInt.toNat (Value.int (xq (xfr (xvv xs))))) (1 : Int32).toInt.toNat (Value.int (xq (xqs (xfr (xvv xs)))))))).set 129 (Sum.inr (13, [Value.ref 130, Value.int 2])))) (P := P) (fun h h1 h2 => (xgn (by omega) (xgn (by omega) (xgn (by omega) (xgn (by omega) (xgn (by omega) (rfl)))))).trans (hk h (by omega) h2)) (xgn (by decide) (xgn (by decide) (xgn (by decide) (xgn (by decide) (xgn (by decide) hm))))) (xgs (xgn (by decide) (xgs (xgn (by decide) (xgs ((hk 129 (by decide) (by decide)).trans W0_129)))))) (xgn (by decide) (xgs (xgn (by decide) (xgs (xgn (by decide) (((hk 130 (by decide) (by decide)).trans W0_130))))))) (xup_n (by decide) xup_s) (xup_s) hB c0 c1 (by omega) (by omega) (by omega) (by omega) c10 c11 c12 c13 c14 c15 c16 c17 c18 c19 c20 c21 c22 c23 c24 c25 c26 c27 c28 c29 c30
    refine ⟨w2, mnum16 hm1 (mn16_01_3 hk hm c0 c1 c2 c3 c4 c5 c6 c7 c8 c9 c10 c11 c12 c13 c14 c15 c16 c17 c18 c19 c20 c21 c22 c23 c24 c25 c26 c27 c28 c29 c30 h1), xKp.trans ?_ h2, h3⟩
    refine xKp.set ?_ (fun h hh => by unfold xPM at hh; omega) (xgn (by decide) (xgs (xgn (by decide) (xgs ((hk 129 (by decide) (by decide)).trans W0_129))))) xcs_o
    refine xKp.set ?_ (fun h hh => by unfold xPM at hh; omega) (xgn (by decide) (xgs (xgn (by decide) (((hk 130 (by decide) (by decide)).trans W0_130))))) xcs_a
    refine xKp.set ?_ (fun h hh => by unfold xPM at hh; omega) (xgn (by decide) (xgs ((hk 129 (by decide) (by decide)).trans W0_129))) xcs_o
    refine xKp.set ?_ (fun h hh => by unfold xPM at hh; omega) (xgn (by decide) (((hk 130 (by decide) (by decide)).trans W0_130))) xcs_a
    refine xKp.set ?_ (fun h hh => by unfold xPM at hh; omega) (((hk 129 (by decide) (by decide)).trans W0_129)) xcs_o
    exact xKp.set xKp.refl (fun h hh => by unfold xPM at hh; omega) hm1 xcs_o
  · obtain ⟨w2, h1, h2, h3⟩ := rd4_1 (d := d) (xs := xs) (m := (xfr (xvv xs))) (sc := (-1074)) (md := (xs 4)) (w := ((((((w1.set 128 (Sum.inr (12, [Value.ref 129, Value.ref 131, Value.ref 133, Value.ref 135, Value.ref 137, Value.ref 139, Value.ref 141, Value.ref 143, Value.ref 145, Value.ref 147, Value.ref 149, Value.ref 151, Value.ref 153, Value.ref 154, Value.ref 155, Value.ref 156, Value.ref 157, Value.int (-16384), Value.int 16384, Value.int 0, Value.int 0, Value.int 0, Value.ref 158, Value.ref 159, Value.int 0, Value.int 0, Value.int 0, Value.int 0, Value.int 0, Value.int 0, Value.int 0, Value.int 0]))).set 129 (Sum.inr (13, [Value.ref 130, Value.int 0]))).set 130 (Sum.inl (0, 4700, xup (fun _ => Value.int 0) (0 : Int32).toInt.toNat (Value.int (xq (xfr (xvv xs))))))).set 129 (Sum.inr (13, [Value.ref 130, Value.int 1]))).set 130 (Sum.inl (0, 4700, xup (xup (fun _ => Value.int 0) (0 : Int32).toInt.toNat (Value.int (xq (xfr (xvv xs))))) (1 : Int32).toInt.toNat (Value.int (xq (xqs (xfr (xvv xs)))))))).set 129 (Sum.inr (13, [Value.ref 130, Value.int 2])))) (P := P) (fun h h1 h2 => (xgn (by omega) (xgn (by omega) (xgn (by omega) (xgn (by omega) (xgn (by omega) (rfl)))))).trans (hk h (by omega) h2)) (xgn (by decide) (xgn (by decide) (xgn (by decide) (xgn (by decide) (xgn (by decide) hm))))) (xgs (xgn (by decide) (xgs (xgn (by decide) (xgs ((hk 129 (by decide) (by decide)).trans W0_129)))))) (xgn (by decide) (xgs (xgn (by decide) (xgs (xgn (by decide) (((hk 130 (by decide) (by decide)).trans W0_130))))))) (xup_n (by decide) xup_s) (xup_s) hB c0 c1 (by omega) (by omega) (by omega) (by omega) c10 c11 c12 c13 c14 c15 c16 c17 c18 c19 c20 c21 c22 c23 c24 c25 c26 c27 c28 c29
    refine ⟨w2, mnum16 hm1 (mn16_01_4 hk hm c0 c1 c2 c3 c4 c5 c6 c7 c8 c9 c10 c11 c12 c13 c14 c15 c16 c17 c18 c19 c20 c21 c22 c23 c24 c25 c26 c27 c28 c29 h1), xKp.trans ?_ h2, h3⟩
    refine xKp.set ?_ (fun h hh => by unfold xPM at hh; omega) (xgn (by decide) (xgs (xgn (by decide) (xgs ((hk 129 (by decide) (by decide)).trans W0_129))))) xcs_o
    refine xKp.set ?_ (fun h hh => by unfold xPM at hh; omega) (xgn (by decide) (xgs (xgn (by decide) (((hk 130 (by decide) (by decide)).trans W0_130))))) xcs_a
    refine xKp.set ?_ (fun h hh => by unfold xPM at hh; omega) (xgn (by decide) (xgs ((hk 129 (by decide) (by decide)).trans W0_129))) xcs_o
    refine xKp.set ?_ (fun h hh => by unfold xPM at hh; omega) (xgn (by decide) (((hk 130 (by decide) (by decide)).trans W0_130))) xcs_a
    refine xKp.set ?_ (fun h hh => by unfold xPM at hh; omega) (((hk 129 (by decide) (by decide)).trans W0_129)) xcs_o
    exact xKp.set xKp.refl (fun h hh => by unfold xPM at hh; omega) hm1 xcs_o
  · obtain ⟨w2, h1, h2, h3⟩ := rd5_1 (d := d) (xs := xs) (m := (xfr (xvv xs))) (sc := (-1074)) (md := (xs 4)) (w := ((((((w1.set 128 (Sum.inr (12, [Value.ref 129, Value.ref 131, Value.ref 133, Value.ref 135, Value.ref 137, Value.ref 139, Value.ref 141, Value.ref 143, Value.ref 145, Value.ref 147, Value.ref 149, Value.ref 151, Value.ref 153, Value.ref 154, Value.ref 155, Value.ref 156, Value.ref 157, Value.int (-16384), Value.int 16384, Value.int 0, Value.int 0, Value.int 0, Value.ref 158, Value.ref 159, Value.int 0, Value.int 0, Value.int 0, Value.int 0, Value.int 0, Value.int 0, Value.int 0, Value.int 0]))).set 129 (Sum.inr (13, [Value.ref 130, Value.int 0]))).set 130 (Sum.inl (0, 4700, xup (fun _ => Value.int 0) (0 : Int32).toInt.toNat (Value.int (xq (xfr (xvv xs))))))).set 129 (Sum.inr (13, [Value.ref 130, Value.int 1]))).set 130 (Sum.inl (0, 4700, xup (xup (fun _ => Value.int 0) (0 : Int32).toInt.toNat (Value.int (xq (xfr (xvv xs))))) (1 : Int32).toInt.toNat (Value.int (xq (xqs (xfr (xvv xs)))))))).set 129 (Sum.inr (13, [Value.ref 130, Value.int 2])))) (P := P) (fun h h1 h2 => (xgn (by omega) (xgn (by omega) (xgn (by omega) (xgn (by omega) (xgn (by omega) (rfl)))))).trans (hk h (by omega) h2)) (xgn (by decide) (xgn (by decide) (xgn (by decide) (xgn (by decide) (xgn (by decide) hm))))) (xgs (xgn (by decide) (xgs (xgn (by decide) (xgs ((hk 129 (by decide) (by decide)).trans W0_129)))))) (xgn (by decide) (xgs (xgn (by decide) (xgs (xgn (by decide) (((hk 130 (by decide) (by decide)).trans W0_130))))))) (xup_n (by decide) xup_s) (xup_s) hB c0 c1 (by omega) (by omega) (by omega) (by omega) c10 c11 c12 c13 c14 c15 c16 c17 c18 c19 c20 c21 c22 c23 c24 c25 c26 c27 c28
    refine ⟨w2, mnum16 hm1 (mn16_01_5 hk hm c0 c1 c2 c3 c4 c5 c6 c7 c8 c9 c10 c11 c12 c13 c14 c15 c16 c17 c18 c19 c20 c21 c22 c23 c24 c25 c26 c27 c28 h1), xKp.trans ?_ h2, h3⟩
    refine xKp.set ?_ (fun h hh => by unfold xPM at hh; omega) (xgn (by decide) (xgs (xgn (by decide) (xgs ((hk 129 (by decide) (by decide)).trans W0_129))))) xcs_o
    refine xKp.set ?_ (fun h hh => by unfold xPM at hh; omega) (xgn (by decide) (xgs (xgn (by decide) (((hk 130 (by decide) (by decide)).trans W0_130))))) xcs_a
    refine xKp.set ?_ (fun h hh => by unfold xPM at hh; omega) (xgn (by decide) (xgs ((hk 129 (by decide) (by decide)).trans W0_129))) xcs_o
    refine xKp.set ?_ (fun h hh => by unfold xPM at hh; omega) (xgn (by decide) (((hk 130 (by decide) (by decide)).trans W0_130))) xcs_a
    refine xKp.set ?_ (fun h hh => by unfold xPM at hh; omega) (((hk 129 (by decide) (by decide)).trans W0_129)) xcs_o
    exact xKp.set xKp.refl (fun h hh => by unfold xPM at hh; omega) hm1 xcs_o
  · obtain ⟨w2, h1, h2, h3⟩ := rd6_1 (d := d) (xs := xs) (m := (xfr (xvv xs))) (sc := (-1074)) (md := (xs 4)) (w := ((((((((w1.set 128 (Sum.inr (12, [Value.ref 129, Value.ref 131, Value.ref 133, Value.ref 135, Value.ref 137, Value.ref 139, Value.ref 141, Value.ref 143, Value.ref 145, Value.ref 147, Value.ref 149, Value.ref 151, Value.ref 153, Value.ref 154, Value.ref 155, Value.ref 156, Value.ref 157, Value.int (-16384), Value.int 16384, Value.int 0, Value.int 0, Value.int 0, Value.ref 158, Value.ref 159, Value.int 0, Value.int 0, Value.int 0, Value.int 0, Value.int 0, Value.int 0, Value.int 0, Value.int 0]))).set 129 (Sum.inr (13, [Value.ref 130, Value.int 0]))).set 130 (Sum.inl (0, 4700, xup (fun _ => Value.int 0) (0 : Int32).toInt.toNat (Value.int (xq (xfr (xvv xs))))))).set 129 (Sum.inr (13, [Value.ref 130, Value.int 1]))).set 130 (Sum.inl (0, 4700, xup (xup (fun _ => Value.int 0) (0 : Int32).toInt.toNat (Value.int (xq (xfr (xvv xs))))) (1 : Int32).toInt.toNat (Value.int (xq (xqs (xfr (xvv xs)))))))).set 129 (Sum.inr (13, [Value.ref 130, Value.int 2]))).set 130 (Sum.inl (0, 4700, xup (xup (xup (fun _ => Value.int 0) (0 : Int32).toInt.toNat (Value.int (xq (xfr (xvv xs))))) (1 : Int32).toInt.toNat (Value.int (xq (xqs (xfr (xvv xs)))))) (2 : Int32).toInt.toNat (Value.int (xq (xqs (xqs (xfr (xvv xs))))))))).set 129 (Sum.inr (13, [Value.ref 130, Value.int 3])))) (P := P) (fun h h1 h2 => (xgn (by omega) (xgn (by omega) (xgn (by omega) (xgn (by omega) (xgn (by omega) (xgn (by omega) (xgn (by omega) (rfl)))))))).trans (hk h (by omega) h2)) (xgn (by decide) (xgn (by decide) (xgn (by decide) (xgn (by decide) (xgn (by decide) (xgn (by decide) (xgn (by decide) hm))))))) (xgs (xgn (by decide) (xgs (xgn (by decide) (xgs (xgn (by decide) (xgs ((hk 129 (by decide) (by decide)).trans W0_129)))))))) (xgn (by decide) (xgs (xgn (by decide) (xgs (xgn (by decide) (xgs (xgn (by decide) (((hk 130 (by decide) (by decide)).trans W0_130))))))))) (xup_n (by decide) (xup_n (by decide) xup_s)) (xup_n (by decide) xup_s) (xup_s) hB c0 c1 (by omega) (by omega) (by omega) (by omega) c10 c11 c12 c13 c14 c15 c16 c17 c18 c19 c20 c21 c22 c23 c24 c25 c26 c27 c28 c29 c30
    refine ⟨w2, mnum16 hm1 (mn16_01_6 hk hm c0 c1 c2 c3 c4 c5 c6 c7 c8 c9 c10 c11 c12 c13 c14 c15 c16 c17 c18 c19 c20 c21 c22 c23 c24 c25 c26 c27 c28 c29 c30 h1), xKp.trans ?_ h2, h3⟩
    refine xKp.set ?_ (fun h hh => by unfold xPM at hh; omega) (xgn (by decide) (xgs (xgn (by decide) (xgs (xgn (by decide) (xgs ((hk 129 (by decide) (by decide)).trans W0_129))))))) xcs_o
    refine xKp.set ?_ (fun h hh => by unfold xPM at hh; omega) (xgn (by decide) (xgs (xgn (by decide) (xgs (xgn (by decide) (((hk 130 (by decide) (by decide)).trans W0_130))))))) xcs_a
    refine xKp.set ?_ (fun h hh => by unfold xPM at hh; omega) (xgn (by decide) (xgs (xgn (by decide) (xgs ((hk 129 (by decide) (by decide)).trans W0_129))))) xcs_o
    refine xKp.set ?_ (fun h hh => by unfold xPM at hh; omega) (xgn (by decide) (xgs (xgn (by decide) (((hk 130 (by decide) (by decide)).trans W0_130))))) xcs_a
    refine xKp.set ?_ (fun h hh => by unfold xPM at hh; omega) (xgn (by decide) (xgs ((hk 129 (by decide) (by decide)).trans W0_129))) xcs_o
    refine xKp.set ?_ (fun h hh => by unfold xPM at hh; omega) (xgn (by decide) (((hk 130 (by decide) (by decide)).trans W0_130))) xcs_a
    refine xKp.set ?_ (fun h hh => by unfold xPM at hh; omega) (((hk 129 (by decide) (by decide)).trans W0_129)) xcs_o
    exact xKp.set xKp.refl (fun h hh => by unfold xPM at hh; omega) hm1 xcs_o
  · obtain ⟨w2, h1, h2, h3⟩ := rd7_1 (d := d) (xs := xs) (m := (xfr (xvv xs))) (sc := (-1074)) (md := (xs 4)) (w := ((((((((w1.set 128 (Sum.inr (12, [Value.ref 129, Value.ref 131, Value.ref 133, Value.ref 135, Value.ref 137, Value.ref 139, Value.ref 141, Value.ref 143, Value.ref 145, Value.ref 147, Value.ref 149, Value.ref 151, Value.ref 153, Value.ref 154, Value.ref 155, Value.ref 156, Value.ref 157, Value.int (-16384), Value.int 16384, Value.int 0, Value.int 0, Value.int 0, Value.ref 158, Value.ref 159, Value.int 0, Value.int 0, Value.int 0, Value.int 0, Value.int 0, Value.int 0, Value.int 0, Value.int 0]))).set 129 (Sum.inr (13, [Value.ref 130, Value.int 0]))).set 130 (Sum.inl (0, 4700, xup (fun _ => Value.int 0) (0 : Int32).toInt.toNat (Value.int (xq (xfr (xvv xs))))))).set 129 (Sum.inr (13, [Value.ref 130, Value.int 1]))).set 130 (Sum.inl (0, 4700, xup (xup (fun _ => Value.int 0) (0 : Int32).toInt.toNat (Value.int (xq (xfr (xvv xs))))) (1 : Int32).toInt.toNat (Value.int (xq (xqs (xfr (xvv xs)))))))).set 129 (Sum.inr (13, [Value.ref 130, Value.int 2]))).set 130 (Sum.inl (0, 4700, xup (xup (xup (fun _ => Value.int 0) (0 : Int32).toInt.toNat (Value.int (xq (xfr (xvv xs))))) (1 : Int32).toInt.toNat (Value.int (xq (xqs (xfr (xvv xs)))))) (2 : Int32).toInt.toNat (Value.int (xq (xqs (xqs (xfr (xvv xs))))))))).set 129 (Sum.inr (13, [Value.ref 130, Value.int 3])))) (P := P) (fun h h1 h2 => (xgn (by omega) (xgn (by omega) (xgn (by omega) (xgn (by omega) (xgn (by omega) (xgn (by omega) (xgn (by omega) (rfl)))))))).trans (hk h (by omega) h2)) (xgn (by decide) (xgn (by decide) (xgn (by decide) (xgn (by decide) (xgn (by decide) (xgn (by decide) (xgn (by decide) hm))))))) (xgs (xgn (by decide) (xgs (xgn (by decide) (xgs (xgn (by decide) (xgs ((hk 129 (by decide) (by decide)).trans W0_129)))))))) (xgn (by decide) (xgs (xgn (by decide) (xgs (xgn (by decide) (xgs (xgn (by decide) (((hk 130 (by decide) (by decide)).trans W0_130))))))))) (xup_n (by decide) (xup_n (by decide) xup_s)) (xup_n (by decide) xup_s) (xup_s) hB c0 c1 (by omega) (by omega) (by omega) (by omega) c10 c11 c12 c13 c14 c15 c16 c17 c18 c19 c20 c21 c22 c23 c24 c25
    refine ⟨w2, mnum16 hm1 (mn16_01_7 hk hm c0 c1 c2 c3 c4 c5 c6 c7 c8 c9 c10 c11 c12 c13 c14 c15 c16 c17 c18 c19 c20 c21 c22 c23 c24 c25 h1), xKp.trans ?_ h2, h3⟩
    refine xKp.set ?_ (fun h hh => by unfold xPM at hh; omega) (xgn (by decide) (xgs (xgn (by decide) (xgs (xgn (by decide) (xgs ((hk 129 (by decide) (by decide)).trans W0_129))))))) xcs_o
    refine xKp.set ?_ (fun h hh => by unfold xPM at hh; omega) (xgn (by decide) (xgs (xgn (by decide) (xgs (xgn (by decide) (((hk 130 (by decide) (by decide)).trans W0_130))))))) xcs_a
    refine xKp.set ?_ (fun h hh => by unfold xPM at hh; omega) (xgn (by decide) (xgs (xgn (by decide) (xgs ((hk 129 (by decide) (by decide)).trans W0_129))))) xcs_o
    refine xKp.set ?_ (fun h hh => by unfold xPM at hh; omega) (xgn (by decide) (xgs (xgn (by decide) (((hk 130 (by decide) (by decide)).trans W0_130))))) xcs_a
    refine xKp.set ?_ (fun h hh => by unfold xPM at hh; omega) (xgn (by decide) (xgs ((hk 129 (by decide) (by decide)).trans W0_129))) xcs_o
    refine xKp.set ?_ (fun h hh => by unfold xPM at hh; omega) (xgn (by decide) (((hk 130 (by decide) (by decide)).trans W0_130))) xcs_a
    refine xKp.set ?_ (fun h hh => by unfold xPM at hh; omega) (((hk 129 (by decide) (by decide)).trans W0_129)) xcs_o
    exact xKp.set xKp.refl (fun h hh => by unfold xPM at hh; omega) hm1 xcs_o
theorem mn16_11_1 {d : Nat} {xs : Nat → Int32} {w w2 : xW} {b : Int32} {B K P G : Int32} (hk : ∀ h, 129 ≤ h → h < 194 → w[h]? = (W0 6 xs)[h]?) (hm : w[128]? = some (Sum.inr (12, [Value.ref 129, Value.ref 131, Value.ref 133, Value.ref 135, Value.ref 137, Value.ref 139, Value.ref 141, Value.ref 143, Value.ref 145, Value.ref 147, Value.ref 149, Value.ref 151, Value.ref 153, Value.ref 154, Value.ref 155, Value.ref 156, Value.ref 157, Value.int (-16384), Value.int 16384, Value.int 0, Value.int 0, Value.int 0, Value.ref 158, Value.ref 159, Value.int 0, Value.int 0, Value.int 0, Value.int 0, Value.int 0, Value.int 0, Value.int 0, Value.int 0]))) (c0 : 0 ≤ (xs 1).toInt) (c1 : (xs 1).toInt < 16) (c2 : 0 ≤ (xs 4).toInt) (c3 : (xs 4).toInt ≤ 4) (c4 : 0 ≤ (xfd (xvv xs)).toInt) (c5 : (xfd (xvv xs)).toInt ≤ 2047) (c6 : (xfd (xvv xs)).toInt ≠ 2047) (c7 : (xfd (xvv xs)).toInt ≠ 0) (c8 : (lg_cmp (xvv xs) (0 : Int64)).toInt < 0) (c9 : K.toInt = 64 - B.toInt) (c10 : 1 ≤ B.toInt) (c11 : B.toInt ≤ 4) (c12 : (xhi (xfo (xvv xs))).toInt = 0) (c13 : (xlo (xfo (xvv xs))).toInt ≠ 0) (c14 : (xnlz (xlo (xfo (xvv xs)))).toInt = 32 - B.toInt) (c15 : (xbf 1 (xlo (xfo (xvv xs))) (0 : Int32) ((32 : Int32) - K)).toInt ≠ 0) (c16 : (lg_cmp (xfo (xvv xs)) (0 : Int64)).toInt ≠ 0) (c17 : (lg_cmp (xqs (xfo (xvv xs))) (0 : Int64)).toInt = 0) (c18 : (xbn (xq (xfo (xvv xs)))).toInt = B.toInt) (c19 : (xq (xfo (xvv xs))).toInt ≠ 0) (c20 : 0 ≤ (xq (xfo (xvv xs))).toInt) (c21 : K.toInt ≠ 0) (c22 : K / (30 : Int32) = 2) (c23 : K - K / (30 : Int32) * (30 : Int32) = P) (c24 : ((0 : Int32) ||| (xH (xq (xfo (xvv xs))) P)).toInt = 0) (c25 : (xL (xq (xfo (xvv xs))) P).toInt ≠ 0) (c26 : 0 ≤ (xL (xq (xfo (xvv xs))) P).toInt) (c27 : (xbn (xL (xq (xfo (xvv xs))) P)).toInt = 4) (c28 : G.toInt = B.toInt - 1) (hr : xRun (d + 6) 180 [Value.ref 128, Value.int (xs 1), Value.ref 129, Value.int ((xfd (xvv xs)) - (1075 : Int32)), Value.int 0, Value.int 1, Value.int (xs 4)] (((w.set 129 (Sum.inr (13, [Value.ref 130, Value.int 0]))).set 130 (Sum.inl (0, 4700, xup (fun _ => Value.int 0) (0 : Int32).toInt.toNat (Value.int (xq (xfo (xvv xs))))))).set 129 (Sum.inr (13, [Value.ref 130, Value.int 1]))) (.inl (some (Value.int b))) w2) : xRun (d + 7) 248 [Value.ref 128, Value.int (xs 1), Value.long (xvv xs), Value.int (xs 4)] w (.inl (some (Value.int b))) w2 := by
  refine xRun.of ?_
  refine i_248_0 (x := (xs 1)) rfl ?_
  refine i_248_1 (Nat.le_of_ble_eq_true rfl) (s_168_0 (by omega) (by omega)) ?_
  refine i_248_4 (x := (xs 4)) rfl ?_
  refine i_248_6 (Nat.le_of_ble_eq_true rfl) (s_178_0 (by omega) (by omega)) ?_
  refine i_248_9 (x := (xvv xs)) rfl ?_
  refine i_248_10 ?_
  refine i_248_12 (c := ((xvv xs) >>> ((52 : Int32).toInt64 &&& 63))) rfl ?_
  refine i_248_13 (c := ((xvv xs) >>> ((52 : Int32).toInt64 &&& 63)).toInt32) rfl ?_
  refine i_248_14 ?_
  refine i_248_17 (c := (xfd (xvv xs))) (show (xfe (xvv xs)) = (xfd (xvv xs)) from (xfe_eq _)) ?_
  refine i_248_18 (lv2 := [(5, Value.int (xfd (xvv xs))), (0, Value.ref 128), (1, Value.int (xs 1)), (2, Value.long (xvv xs)), (4, Value.int (xs 4))]) rfl ?_
  refine i_248_20 (x := (xvv xs)) rfl ?_
  refine i_248_21 ?_
  refine i_248_24 (c := (xfr (xvv xs))) rfl ?_
  refine i_248_25 (lv2 := [(6, Value.long (xfr (xvv xs))), (5, Value.int (xfd (xvv xs))), (0, Value.ref 128), (1, Value.int (xs 1)), (2, Value.long (xvv xs)), (4, Value.int (xs 4))]) rfl ?_
  refine i_248_27 (x := (xfd (xvv xs))) rfl ?_
  refine i_248_29 ?_
  refine i_248_32 (fun _ => ?_) (fun h => absurd (show (xfd (xvv xs)).toInt ≠ 2047 by omega) (fun g => g h))
  refine i_248_71 (x := (xfd (xvv xs))) rfl ?_
  refine i_248_73 (fun _ => ?_) (fun h => absurd (show (xfd (xvv xs)).toInt ≠ 0 by omega) (fun g => g h))
  refine i_248_101 (x := 128) rfl ?_
  refine i_248_102 (v := Value.ref 129) hm rfl ?_
  refine i_248_105 (x := (xfd (xvv xs))) rfl ?_
  refine i_248_107 (fun _ => ?_) (fun h => absurd (show (xfd (xvv xs)).toInt ≠ 0 by omega) (fun g => g h))
  refine i_248_115 (x := (xfr (xvv xs))) rfl ?_
  refine i_248_117 ?_
  refine i_248_120 (c := (xfo (xvv xs))) rfl ?_
  refine i_248_121 ((hk 129 (by decide) (by decide)).trans W0_129) (Nat.le_of_ble_eq_true rfl) (s_179_3 ((hk 129 (by decide) (by decide)).trans W0_129) (by omega) ((hk 130 (by decide) (by decide)).trans W0_130) (show (lg_cmp (xqs (xfo (xvv xs))) (0 : Int64)) = 0 from (xge_c (n := 0) (by omega) rfl))) ?_
  refine i_248_124 (x := 128) rfl ?_
  refine i_248_125 (x := (xs 1)) rfl ?_
  refine i_248_126 (x := 128) rfl ?_
  refine i_248_127 (v := Value.ref 129) (xgn (by decide) (xgn (by decide) (xgn (by decide) hm))) rfl ?_
  refine i_248_130 (x := (xfd (xvv xs))) rfl ?_
  refine i_248_132 (fun _ => ?_) (fun h => absurd (show (xfd (xvv xs)).toInt ≠ 0 by omega) (fun g => g h))
  refine i_248_139 (x := (xfd (xvv xs))) rfl ?_
  refine i_248_141 ?_
  refine i_248_144 (c := ((xfd (xvv xs)) - (1075 : Int32))) rfl ?_
  refine i_248_145 ?_
  refine i_248_146 (x := (xvv xs)) rfl ?_
  refine i_248_147 ?_
  refine i_248_148 (c := (lg_cmp (xvv xs) (0 : Int64))) rfl ?_
  refine i_248_149 (fun h => absurd (show (lg_cmp (xvv xs) (0 : Int64)).toInt < 0 by omega) (Int.not_lt.mpr h)) (fun _ => ?_)
  refine i_248_152 ?_
  refine i_248_153 ?_
  refine i_248_157 (x := (xs 4)) rfl ?_
  refine i_248_159 (xgn (by decide) (xgn (by decide) (xgn (by decide) hm))) (Nat.le_of_ble_eq_true rfl) hr ?_
  exact i_248_162 ⟨rfl, rfl⟩
theorem mn16_11_2 {d : Nat} {xs : Nat → Int32} {w w2 : xW} {b : Int32} {B K P G : Int32} (hk : ∀ h, 129 ≤ h → h < 194 → w[h]? = (W0 6 xs)[h]?) (hm : w[128]? = some (Sum.inr (12, [Value.ref 129, Value.ref 131, Value.ref 133, Value.ref 135, Value.ref 137, Value.ref 139, Value.ref 141, Value.ref 143, Value.ref 145, Value.ref 147, Value.ref 149, Value.ref 151, Value.ref 153, Value.ref 154, Value.ref 155, Value.ref 156, Value.ref 157, Value.int (-16384), Value.int 16384, Value.int 0, Value.int 0, Value.int 0, Value.ref 158, Value.ref 159, Value.int 0, Value.int 0, Value.int 0, Value.int 0, Value.int 0, Value.int 0, Value.int 0, Value.int 0]))) (c0 : 0 ≤ (xs 1).toInt) (c1 : (xs 1).toInt < 16) (c2 : 0 ≤ (xs 4).toInt) (c3 : (xs 4).toInt ≤ 4) (c4 : 0 ≤ (xfd (xvv xs)).toInt) (c5 : (xfd (xvv xs)).toInt ≤ 2047) (c6 : (xfd (xvv xs)).toInt ≠ 2047) (c7 : (xfd (xvv xs)).toInt ≠ 0) (c8 : (lg_cmp (xvv xs) (0 : Int64)).toInt < 0) (c9 : K.toInt = 64 - B.toInt) (c10 : 5 ≤ B.toInt) (c11 : B.toInt ≤ 30) (c12 : (xhi (xfo (xvv xs))).toInt = 0) (c13 : (xlo (xfo (xvv xs))).toInt ≠ 0) (c14 : (xnlz (xlo (xfo (xvv xs)))).toInt = 32 - B.toInt) (c15 : (xbf 1 (xlo (xfo (xvv xs))) (0 : Int32) ((32 : Int32) - K)).toInt ≠ 0) (c16 : (lg_cmp (xfo (xvv xs)) (0 : Int64)).toInt ≠ 0) (c17 : (lg_cmp (xqs (xfo (xvv xs))) (0 : Int64)).toInt = 0) (c18 : (xbn (xq (xfo (xvv xs)))).toInt = B.toInt) (c19 : (xq (xfo (xvv xs))).toInt ≠ 0) (c20 : 0 ≤ (xq (xfo (xvv xs))).toInt) (c21 : K.toInt ≠ 0) (c22 : K / (30 : Int32) = 1) (c23 : K - K / (30 : Int32) * (30 : Int32) = P) (c24 : ((0 : Int32) ||| (xH (xq (xfo (xvv xs))) P)).toInt ≠ 0) (c25 : 0 ≤ ((0 : Int32) ||| (xH (xq (xfo (xvv xs))) P)).toInt) (c26 : (xbn ((0 : Int32) ||| (xH (xq (xfo (xvv xs))) P))).toInt = 4) (c27 : G.toInt = B.toInt - 1) (hr : xRun (d + 6) 180 [Value.ref 128, Value.int (xs 1), Value.ref 129, Value.int ((xfd (xvv xs)) - (1075 : Int32)), Value.int 0, Value.int 1, Value.int (xs 4)] (((w.set 129 (Sum.inr (13, [Value.ref 130, Value.int 0]))).set 130 (Sum.inl (0, 4700, xup (fun _ => Value.int 0) (0 : Int32).toInt.toNat (Value.int (xq (xfo (xvv xs))))))).set 129 (Sum.inr (13, [Value.ref 130, Value.int 1]))) (.inl (some (Value.int b))) w2) : xRun (d + 7) 248 [Value.ref 128, Value.int (xs 1), Value.long (xvv xs), Value.int (xs 4)] w (.inl (some (Value.int b))) w2 := by
  refine xRun.of ?_
  refine i_248_0 (x := (xs 1)) rfl ?_
  refine i_248_1 (Nat.le_of_ble_eq_true rfl) (s_168_0 (by omega) (by omega)) ?_
  refine i_248_4 (x := (xs 4)) rfl ?_
  refine i_248_6 (Nat.le_of_ble_eq_true rfl) (s_178_0 (by omega) (by omega)) ?_
  refine i_248_9 (x := (xvv xs)) rfl ?_
  refine i_248_10 ?_
  refine i_248_12 (c := ((xvv xs) >>> ((52 : Int32).toInt64 &&& 63))) rfl ?_
  refine i_248_13 (c := ((xvv xs) >>> ((52 : Int32).toInt64 &&& 63)).toInt32) rfl ?_
  refine i_248_14 ?_
  refine i_248_17 (c := (xfd (xvv xs))) (show (xfe (xvv xs)) = (xfd (xvv xs)) from (xfe_eq _)) ?_
  refine i_248_18 (lv2 := [(5, Value.int (xfd (xvv xs))), (0, Value.ref 128), (1, Value.int (xs 1)), (2, Value.long (xvv xs)), (4, Value.int (xs 4))]) rfl ?_
  refine i_248_20 (x := (xvv xs)) rfl ?_
  refine i_248_21 ?_
  refine i_248_24 (c := (xfr (xvv xs))) rfl ?_
  refine i_248_25 (lv2 := [(6, Value.long (xfr (xvv xs))), (5, Value.int (xfd (xvv xs))), (0, Value.ref 128), (1, Value.int (xs 1)), (2, Value.long (xvv xs)), (4, Value.int (xs 4))]) rfl ?_
  refine i_248_27 (x := (xfd (xvv xs))) rfl ?_
  refine i_248_29 ?_
  refine i_248_32 (fun _ => ?_) (fun h => absurd (show (xfd (xvv xs)).toInt ≠ 2047 by omega) (fun g => g h))
  refine i_248_71 (x := (xfd (xvv xs))) rfl ?_
  refine i_248_73 (fun _ => ?_) (fun h => absurd (show (xfd (xvv xs)).toInt ≠ 0 by omega) (fun g => g h))
  refine i_248_101 (x := 128) rfl ?_
  refine i_248_102 (v := Value.ref 129) hm rfl ?_
  refine i_248_105 (x := (xfd (xvv xs))) rfl ?_
  refine i_248_107 (fun _ => ?_) (fun h => absurd (show (xfd (xvv xs)).toInt ≠ 0 by omega) (fun g => g h))
  refine i_248_115 (x := (xfr (xvv xs))) rfl ?_
  refine i_248_117 ?_
  refine i_248_120 (c := (xfo (xvv xs))) rfl ?_
  refine i_248_121 ((hk 129 (by decide) (by decide)).trans W0_129) (Nat.le_of_ble_eq_true rfl) (s_179_3 ((hk 129 (by decide) (by decide)).trans W0_129) (by omega) ((hk 130 (by decide) (by decide)).trans W0_130) (show (lg_cmp (xqs (xfo (xvv xs))) (0 : Int64)) = 0 from (xge_c (n := 0) (by omega) rfl))) ?_
  refine i_248_124 (x := 128) rfl ?_
  refine i_248_125 (x := (xs 1)) rfl ?_
  refine i_248_126 (x := 128) rfl ?_
  refine i_248_127 (v := Value.ref 129) (xgn (by decide) (xgn (by decide) (xgn (by decide) hm))) rfl ?_
  refine i_248_130 (x := (xfd (xvv xs))) rfl ?_
  refine i_248_132 (fun _ => ?_) (fun h => absurd (show (xfd (xvv xs)).toInt ≠ 0 by omega) (fun g => g h))
  refine i_248_139 (x := (xfd (xvv xs))) rfl ?_
  refine i_248_141 ?_
  refine i_248_144 (c := ((xfd (xvv xs)) - (1075 : Int32))) rfl ?_
  refine i_248_145 ?_
  refine i_248_146 (x := (xvv xs)) rfl ?_
  refine i_248_147 ?_
  refine i_248_148 (c := (lg_cmp (xvv xs) (0 : Int64))) rfl ?_
  refine i_248_149 (fun h => absurd (show (lg_cmp (xvv xs) (0 : Int64)).toInt < 0 by omega) (Int.not_lt.mpr h)) (fun _ => ?_)
  refine i_248_152 ?_
  refine i_248_153 ?_
  refine i_248_157 (x := (xs 4)) rfl ?_
  refine i_248_159 (xgn (by decide) (xgn (by decide) (xgn (by decide) hm))) (Nat.le_of_ble_eq_true rfl) hr ?_
  exact i_248_162 ⟨rfl, rfl⟩
theorem mn16_11_3 {d : Nat} {xs : Nat → Int32} {w w2 : xW} {b : Int32} {B K P G : Int32} (hk : ∀ h, 129 ≤ h → h < 194 → w[h]? = (W0 6 xs)[h]?) (hm : w[128]? = some (Sum.inr (12, [Value.ref 129, Value.ref 131, Value.ref 133, Value.ref 135, Value.ref 137, Value.ref 139, Value.ref 141, Value.ref 143, Value.ref 145, Value.ref 147, Value.ref 149, Value.ref 151, Value.ref 153, Value.ref 154, Value.ref 155, Value.ref 156, Value.ref 157, Value.int (-16384), Value.int 16384, Value.int 0, Value.int 0, Value.int 0, Value.ref 158, Value.ref 159, Value.int 0, Value.int 0, Value.int 0, Value.int 0, Value.int 0, Value.int 0, Value.int 0, Value.int 0]))) (c0 : 0 ≤ (xs 1).toInt) (c1 : (xs 1).toInt < 16) (c2 : 0 ≤ (xs 4).toInt) (c3 : (xs 4).toInt ≤ 4) (c4 : 0 ≤ (xfd (xvv xs)).toInt) (c5 : (xfd (xvv xs)).toInt ≤ 2047) (c6 : (xfd (xvv xs)).toInt ≠ 2047) (c7 : (xfd (xvv xs)).toInt ≠ 0) (c8 : (lg_cmp (xvv xs) (0 : Int64)).toInt < 0) (c9 : K.toInt = 64 - B.toInt) (c10 : 31 ≤ B.toInt) (c11 : B.toInt ≤ 32) (c12 : (xhi (xfo (xvv xs))).toInt = 0) (c13 : (xlo (xfo (xvv xs))).toInt ≠ 0) (c14 : (xnlz (xlo (xfo (xvv xs)))).toInt = 32 - B.toInt) (c15 : (xbf 1 (xlo (xfo (xvv xs))) (0 : Int32) ((32 : Int32) - K)).toInt ≠ 0) (c16 : (lg_cmp (xfo (xvv xs)) (0 : Int64)).toInt ≠ 0) (c17 : (lg_cmp (xqs (xfo (xvv xs))) (0 : Int64)).toInt ≠ 0) (c18 : (lg_cmp (xqs (xqs (xfo (xvv xs)))) (0 : Int64)).toInt = 0) (c19 : (xbn (xq (xqs (xfo (xvv xs))))).toInt = B.toInt - 30) (c20 : (xq (xqs (xfo (xvv xs)))).toInt ≠ 0) (c21 : 0 ≤ (xq (xqs (xfo (xvv xs)))).toInt) (c22 : K.toInt ≠ 0) (c23 : K / (30 : Int32) = 1) (c24 : K - K / (30 : Int32) * (30 : Int32) = P) (c25 : ((0 : Int32) ||| (xH (xq (xqs (xfo (xvv xs)))) P)).toInt = 0) (c26 : ((xL (xq (xqs (xfo (xvv xs)))) P) ||| (xH (xq (xfo (xvv xs))) P)).toInt ≠ 0) (c27 : 0 ≤ ((xL (xq (xqs (xfo (xvv xs)))) P) ||| (xH (xq (xfo (xvv xs))) P)).toInt) (c28 : (xbn ((xL (xq (xqs (xfo (xvv xs)))) P) ||| (xH (xq (xfo (xvv xs))) P))).toInt = 4) (c29 : G.toInt = B.toInt - 31) (hr : xRun (d + 6) 180 [Value.ref 128, Value.int (xs 1), Value.ref 129, Value.int ((xfd (xvv xs)) - (1075 : Int32)), Value.int 0, Value.int 1, Value.int (xs 4)] (((((w.set 129 (Sum.inr (13, [Value.ref 130, Value.int 0]))).set 130 (Sum.inl (0, 4700, xup (fun _ => Value.int 0) (0 : Int32).toInt.toNat (Value.int (xq (xfo (xvv xs))))))).set 129 (Sum.inr (13, [Value.ref 130, Value.int 1]))).set 130 (Sum.inl (0, 4700, xup (xup (fun _ => Value.int 0) (0 : Int32).toInt.toNat (Value.int (xq (xfo (xvv xs))))) (1 : Int32).toInt.toNat (Value.int (xq (xqs (xfo (xvv xs)))))))).set 129 (Sum.inr (13, [Value.ref 130, Value.int 2]))) (.inl (some (Value.int b))) w2) : xRun (d + 7) 248 [Value.ref 128, Value.int (xs 1), Value.long (xvv xs), Value.int (xs 4)] w (.inl (some (Value.int b))) w2 := by
  refine xRun.of ?_
  refine i_248_0 (x := (xs 1)) rfl ?_
  refine i_248_1 (Nat.le_of_ble_eq_true rfl) (s_168_0 (by omega) (by omega)) ?_
  refine i_248_4 (x := (xs 4)) rfl ?_
  refine i_248_6 (Nat.le_of_ble_eq_true rfl) (s_178_0 (by omega) (by omega)) ?_
  refine i_248_9 (x := (xvv xs)) rfl ?_
  refine i_248_10 ?_
  refine i_248_12 (c := ((xvv xs) >>> ((52 : Int32).toInt64 &&& 63))) rfl ?_
  refine i_248_13 (c := ((xvv xs) >>> ((52 : Int32).toInt64 &&& 63)).toInt32) rfl ?_
  refine i_248_14 ?_
  refine i_248_17 (c := (xfd (xvv xs))) (show (xfe (xvv xs)) = (xfd (xvv xs)) from (xfe_eq _)) ?_
  refine i_248_18 (lv2 := [(5, Value.int (xfd (xvv xs))), (0, Value.ref 128), (1, Value.int (xs 1)), (2, Value.long (xvv xs)), (4, Value.int (xs 4))]) rfl ?_
  refine i_248_20 (x := (xvv xs)) rfl ?_
  refine i_248_21 ?_
  refine i_248_24 (c := (xfr (xvv xs))) rfl ?_
  refine i_248_25 (lv2 := [(6, Value.long (xfr (xvv xs))), (5, Value.int (xfd (xvv xs))), (0, Value.ref 128), (1, Value.int (xs 1)), (2, Value.long (xvv xs)), (4, Value.int (xs 4))]) rfl ?_
  refine i_248_27 (x := (xfd (xvv xs))) rfl ?_
  refine i_248_29 ?_
  refine i_248_32 (fun _ => ?_) (fun h => absurd (show (xfd (xvv xs)).toInt ≠ 2047 by omega) (fun g => g h))
  refine i_248_71 (x := (xfd (xvv xs))) rfl ?_
  refine i_248_73 (fun _ => ?_) (fun h => absurd (show (xfd (xvv xs)).toInt ≠ 0 by omega) (fun g => g h))
  refine i_248_101 (x := 128) rfl ?_
  refine i_248_102 (v := Value.ref 129) hm rfl ?_
  refine i_248_105 (x := (xfd (xvv xs))) rfl ?_
  refine i_248_107 (fun _ => ?_) (fun h => absurd (show (xfd (xvv xs)).toInt ≠ 0 by omega) (fun g => g h))
  refine i_248_115 (x := (xfr (xvv xs))) rfl ?_
  refine i_248_117 ?_
  refine i_248_120 (c := (xfo (xvv xs))) rfl ?_
  refine i_248_121 ((hk 129 (by decide) (by decide)).trans W0_129) (Nat.le_of_ble_eq_true rfl) (s_179_4 ((hk 129 (by decide) (by decide)).trans W0_129) (by omega) ((hk 130 (by decide) (by decide)).trans W0_130) (by omega) (show (lg_cmp (xqs (xqs (xfo (xvv xs)))) (0 : Int64)) = 0 from (xge_c (n := 0) (by omega) rfl))) ?_
  refine i_248_124 (x := 128) rfl ?_
  refine i_248_125 (x := (xs 1)) rfl ?_
  refine i_248_126 (x := 128) rfl ?_
  refine i_248_127 (v := Value.ref 129) (xgn (by decide) (xgn (by decide) (xgn (by decide) (xgn (by decide) (xgn (by decide) hm))))) rfl ?_
  refine i_248_130 (x := (xfd (xvv xs))) rfl ?_
  refine i_248_132 (fun _ => ?_) (fun h => absurd (show (xfd (xvv xs)).toInt ≠ 0 by omega) (fun g => g h))
  refine i_248_139 (x := (xfd (xvv xs))) rfl ?_
  refine i_248_141 ?_
  refine i_248_144 (c := ((xfd (xvv xs)) - (1075 : Int32))) rfl ?_
  refine i_248_145 ?_
  refine i_248_146 (x := (xvv xs)) rfl ?_
  refine i_248_147 ?_
  refine i_248_148 (c := (lg_cmp (xvv xs) (0 : Int64))) rfl ?_
  refine i_248_149 (fun h => absurd (show (lg_cmp (xvv xs) (0 : Int64)).toInt < 0 by omega) (Int.not_lt.mpr h)) (fun _ => ?_)
  refine i_248_152 ?_
  refine i_248_153 ?_
  refine i_248_157 (x := (xs 4)) rfl ?_
  refine i_248_159 (xgn (by decide) (xgn (by decide) (xgn (by decide) (xgn (by decide) (xgn (by decide) hm))))) (Nat.le_of_ble_eq_true rfl) hr ?_
  exact i_248_162 ⟨rfl, rfl⟩
theorem mn16_11_4 {d : Nat} {xs : Nat → Int32} {w w2 : xW} {b : Int32} {B K P G : Int32} (hk : ∀ h, 129 ≤ h → h < 194 → w[h]? = (W0 6 xs)[h]?) (hm : w[128]? = some (Sum.inr (12, [Value.ref 129, Value.ref 131, Value.ref 133, Value.ref 135, Value.ref 137, Value.ref 139, Value.ref 141, Value.ref 143, Value.ref 145, Value.ref 147, Value.ref 149, Value.ref 151, Value.ref 153, Value.ref 154, Value.ref 155, Value.ref 156, Value.ref 157, Value.int (-16384), Value.int 16384, Value.int 0, Value.int 0, Value.int 0, Value.ref 158, Value.ref 159, Value.int 0, Value.int 0, Value.int 0, Value.int 0, Value.int 0, Value.int 0, Value.int 0, Value.int 0]))) (c0 : 0 ≤ (xs 1).toInt) (c1 : (xs 1).toInt < 16) (c2 : 0 ≤ (xs 4).toInt) (c3 : (xs 4).toInt ≤ 4) (c4 : 0 ≤ (xfd (xvv xs)).toInt) (c5 : (xfd (xvv xs)).toInt ≤ 2047) (c6 : (xfd (xvv xs)).toInt ≠ 2047) (c7 : (xfd (xvv xs)).toInt ≠ 0) (c8 : (lg_cmp (xvv xs) (0 : Int64)).toInt < 0) (c9 : K.toInt = 64 - B.toInt) (c10 : 33 ≤ B.toInt) (c11 : B.toInt ≤ 34) (c12 : (xhi (xfo (xvv xs))).toInt ≠ 0) (c13 : (xnlz (xhi (xfo (xvv xs)))).toInt = 64 - B.toInt) (c14 : (xbf 2 (xlo (xfo (xvv xs))) (xhi (xfo (xvv xs))) ((32 : Int32) - K)).toInt ≠ 0) (c15 : (lg_cmp (xfo (xvv xs)) (0 : Int64)).toInt ≠ 0) (c16 : (lg_cmp (xqs (xfo (xvv xs))) (0 : Int64)).toInt ≠ 0) (c17 : (lg_cmp (xqs (xqs (xfo (xvv xs)))) (0 : Int64)).toInt = 0) (c18 : (xbn (xq (xqs (xfo (xvv xs))))).toInt = B.toInt - 30) (c19 : (xq (xqs (xfo (xvv xs)))).toInt ≠ 0) (c20 : 0 ≤ (xq (xqs (xfo (xvv xs)))).toInt) (c21 : K.toInt ≠ 0) (c22 : K / (30 : Int32) = 1) (c23 : K - K / (30 : Int32) * (30 : Int32) = P) (c24 : ((0 : Int32) ||| (xH (xq (xqs (xfo (xvv xs)))) P)).toInt = 0) (c25 : ((xL (xq (xqs (xfo (xvv xs)))) P) ||| (xH (xq (xfo (xvv xs))) P)).toInt ≠ 0) (c26 : 0 ≤ ((xL (xq (xqs (xfo (xvv xs)))) P) ||| (xH (xq (xfo (xvv xs))) P)).toInt) (c27 : (xbn ((xL (xq (xqs (xfo (xvv xs)))) P) ||| (xH (xq (xfo (xvv xs))) P))).toInt = 4) (c28 : G.toInt = B.toInt - 31) (hr : xRun (d + 6) 180 [Value.ref 128, Value.int (xs 1), Value.ref 129, Value.int ((xfd (xvv xs)) - (1075 : Int32)), Value.int 0, Value.int 1, Value.int (xs 4)] (((((w.set 129 (Sum.inr (13, [Value.ref 130, Value.int 0]))).set 130 (Sum.inl (0, 4700, xup (fun _ => Value.int 0) (0 : Int32).toInt.toNat (Value.int (xq (xfo (xvv xs))))))).set 129 (Sum.inr (13, [Value.ref 130, Value.int 1]))).set 130 (Sum.inl (0, 4700, xup (xup (fun _ => Value.int 0) (0 : Int32).toInt.toNat (Value.int (xq (xfo (xvv xs))))) (1 : Int32).toInt.toNat (Value.int (xq (xqs (xfo (xvv xs)))))))).set 129 (Sum.inr (13, [Value.ref 130, Value.int 2]))) (.inl (some (Value.int b))) w2) : xRun (d + 7) 248 [Value.ref 128, Value.int (xs 1), Value.long (xvv xs), Value.int (xs 4)] w (.inl (some (Value.int b))) w2 := by
  refine xRun.of ?_
  refine i_248_0 (x := (xs 1)) rfl ?_
  refine i_248_1 (Nat.le_of_ble_eq_true rfl) (s_168_0 (by omega) (by omega)) ?_
  refine i_248_4 (x := (xs 4)) rfl ?_
  refine i_248_6 (Nat.le_of_ble_eq_true rfl) (s_178_0 (by omega) (by omega)) ?_
  refine i_248_9 (x := (xvv xs)) rfl ?_
  refine i_248_10 ?_
  refine i_248_12 (c := ((xvv xs) >>> ((52 : Int32).toInt64 &&& 63))) rfl ?_
  refine i_248_13 (c := ((xvv xs) >>> ((52 : Int32).toInt64 &&& 63)).toInt32) rfl ?_
  refine i_248_14 ?_
  refine i_248_17 (c := (xfd (xvv xs))) (show (xfe (xvv xs)) = (xfd (xvv xs)) from (xfe_eq _)) ?_
  refine i_248_18 (lv2 := [(5, Value.int (xfd (xvv xs))), (0, Value.ref 128), (1, Value.int (xs 1)), (2, Value.long (xvv xs)), (4, Value.int (xs 4))]) rfl ?_
  refine i_248_20 (x := (xvv xs)) rfl ?_
  refine i_248_21 ?_
  refine i_248_24 (c := (xfr (xvv xs))) rfl ?_
  refine i_248_25 (lv2 := [(6, Value.long (xfr (xvv xs))), (5, Value.int (xfd (xvv xs))), (0, Value.ref 128), (1, Value.int (xs 1)), (2, Value.long (xvv xs)), (4, Value.int (xs 4))]) rfl ?_
  refine i_248_27 (x := (xfd (xvv xs))) rfl ?_
  refine i_248_29 ?_
  refine i_248_32 (fun _ => ?_) (fun h => absurd (show (xfd (xvv xs)).toInt ≠ 2047 by omega) (fun g => g h))
  refine i_248_71 (x := (xfd (xvv xs))) rfl ?_
  refine i_248_73 (fun _ => ?_) (fun h => absurd (show (xfd (xvv xs)).toInt ≠ 0 by omega) (fun g => g h))
  refine i_248_101 (x := 128) rfl ?_
  refine i_248_102 (v := Value.ref 129) hm rfl ?_
  refine i_248_105 (x := (xfd (xvv xs))) rfl ?_
  refine i_248_107 (fun _ => ?_) (fun h => absurd (show (xfd (xvv xs)).toInt ≠ 0 by omega) (fun g => g h))
  refine i_248_115 (x := (xfr (xvv xs))) rfl ?_
  refine i_248_117 ?_
  refine i_248_120 (c := (xfo (xvv xs))) rfl ?_
  refine i_248_121 ((hk 129 (by decide) (by decide)).trans W0_129) (Nat.le_of_ble_eq_true rfl) (s_179_4 ((hk 129 (by decide) (by decide)).trans W0_129) (by omega) ((hk 130 (by decide) (by decide)).trans W0_130) (by omega) (show (lg_cmp (xqs (xqs (xfo (xvv xs)))) (0 : Int64)) = 0 from (xge_c (n := 0) (by omega) rfl))) ?_
  refine i_248_124 (x := 128) rfl ?_
  refine i_248_125 (x := (xs 1)) rfl ?_
  refine i_248_126 (x := 128) rfl ?_
  refine i_248_127 (v := Value.ref 129) (xgn (by decide) (xgn (by decide) (xgn (by decide) (xgn (by decide) (xgn (by decide) hm))))) rfl ?_
  refine i_248_130 (x := (xfd (xvv xs))) rfl ?_
  refine i_248_132 (fun _ => ?_) (fun h => absurd (show (xfd (xvv xs)).toInt ≠ 0 by omega) (fun g => g h))
  refine i_248_139 (x := (xfd (xvv xs))) rfl ?_
  refine i_248_141 ?_
  refine i_248_144 (c := ((xfd (xvv xs)) - (1075 : Int32))) rfl ?_
  refine i_248_145 ?_
  refine i_248_146 (x := (xvv xs)) rfl ?_
  refine i_248_147 ?_
  refine i_248_148 (c := (lg_cmp (xvv xs) (0 : Int64))) rfl ?_
  refine i_248_149 (fun h => absurd (show (lg_cmp (xvv xs) (0 : Int64)).toInt < 0 by omega) (Int.not_lt.mpr h)) (fun _ => ?_)
  refine i_248_152 ?_
  refine i_248_153 ?_
  refine i_248_157 (x := (xs 4)) rfl ?_
  refine i_248_159 (xgn (by decide) (xgn (by decide) (xgn (by decide) (xgn (by decide) (xgn (by decide) hm))))) (Nat.le_of_ble_eq_true rfl) hr ?_
  exact i_248_162 ⟨rfl, rfl⟩
theorem mn16_11_5 {d : Nat} {xs : Nat → Int32} {w w2 : xW} {b : Int32} {B K P G : Int32} (hk : ∀ h, 129 ≤ h → h < 194 → w[h]? = (W0 6 xs)[h]?) (hm : w[128]? = some (Sum.inr (12, [Value.ref 129, Value.ref 131, Value.ref 133, Value.ref 135, Value.ref 137, Value.ref 139, Value.ref 141, Value.ref 143, Value.ref 145, Value.ref 147, Value.ref 149, Value.ref 151, Value.ref 153, Value.ref 154, Value.ref 155, Value.ref 156, Value.ref 157, Value.int (-16384), Value.int 16384, Value.int 0, Value.int 0, Value.int 0, Value.ref 158, Value.ref 159, Value.int 0, Value.int 0, Value.int 0, Value.int 0, Value.int 0, Value.int 0, Value.int 0, Value.int 0]))) (c0 : 0 ≤ (xs 1).toInt) (c1 : (xs 1).toInt < 16) (c2 : 0 ≤ (xs 4).toInt) (c3 : (xs 4).toInt ≤ 4) (c4 : 0 ≤ (xfd (xvv xs)).toInt) (c5 : (xfd (xvv xs)).toInt ≤ 2047) (c6 : (xfd (xvv xs)).toInt ≠ 2047) (c7 : (xfd (xvv xs)).toInt ≠ 0) (c8 : (lg_cmp (xvv xs) (0 : Int64)).toInt < 0) (c9 : K.toInt = 64 - B.toInt) (c10 : 35 ≤ B.toInt) (c11 : B.toInt ≤ 60) (c12 : (xhi (xfo (xvv xs))).toInt ≠ 0) (c13 : (xnlz (xhi (xfo (xvv xs)))).toInt = 64 - B.toInt) (c14 : (xbf 2 (xlo (xfo (xvv xs))) (xhi (xfo (xvv xs))) ((32 : Int32) - K)).toInt ≠ 0) (c15 : (lg_cmp (xfo (xvv xs)) (0 : Int64)).toInt ≠ 0) (c16 : (lg_cmp (xqs (xfo (xvv xs))) (0 : Int64)).toInt ≠ 0) (c17 : (lg_cmp (xqs (xqs (xfo (xvv xs)))) (0 : Int64)).toInt = 0) (c18 : (xbn (xq (xqs (xfo (xvv xs))))).toInt = B.toInt - 30) (c19 : (xq (xqs (xfo (xvv xs)))).toInt ≠ 0) (c20 : 0 ≤ (xq (xqs (xfo (xvv xs)))).toInt) (c21 : K.toInt ≠ 0) (c22 : K / (30 : Int32) = 0) (c23 : K - K / (30 : Int32) * (30 : Int32) = P) (c24 : ((0 : Int32) ||| (xH (xq (xqs (xfo (xvv xs)))) P)).toInt ≠ 0) (c25 : 0 ≤ ((0 : Int32) ||| (xH (xq (xqs (xfo (xvv xs)))) P)).toInt) (c26 : (xbn ((0 : Int32) ||| (xH (xq (xqs (xfo (xvv xs)))) P))).toInt = 4) (c27 : G.toInt = B.toInt - 31) (hr : xRun (d + 6) 180 [Value.ref 128, Value.int (xs 1), Value.ref 129, Value.int ((xfd (xvv xs)) - (1075 : Int32)), Value.int 0, Value.int 1, Value.int (xs 4)] (((((w.set 129 (Sum.inr (13, [Value.ref 130, Value.int 0]))).set 130 (Sum.inl (0, 4700, xup (fun _ => Value.int 0) (0 : Int32).toInt.toNat (Value.int (xq (xfo (xvv xs))))))).set 129 (Sum.inr (13, [Value.ref 130, Value.int 1]))).set 130 (Sum.inl (0, 4700, xup (xup (fun _ => Value.int 0) (0 : Int32).toInt.toNat (Value.int (xq (xfo (xvv xs))))) (1 : Int32).toInt.toNat (Value.int (xq (xqs (xfo (xvv xs)))))))).set 129 (Sum.inr (13, [Value.ref 130, Value.int 2]))) (.inl (some (Value.int b))) w2) : xRun (d + 7) 248 [Value.ref 128, Value.int (xs 1), Value.long (xvv xs), Value.int (xs 4)] w (.inl (some (Value.int b))) w2 := by
  refine xRun.of ?_
  refine i_248_0 (x := (xs 1)) rfl ?_
  refine i_248_1 (Nat.le_of_ble_eq_true rfl) (s_168_0 (by omega) (by omega)) ?_
  refine i_248_4 (x := (xs 4)) rfl ?_
  refine i_248_6 (Nat.le_of_ble_eq_true rfl) (s_178_0 (by omega) (by omega)) ?_
  refine i_248_9 (x := (xvv xs)) rfl ?_
  refine i_248_10 ?_
  refine i_248_12 (c := ((xvv xs) >>> ((52 : Int32).toInt64 &&& 63))) rfl ?_
  refine i_248_13 (c := ((xvv xs) >>> ((52 : Int32).toInt64 &&& 63)).toInt32) rfl ?_
  refine i_248_14 ?_
  refine i_248_17 (c := (xfd (xvv xs))) (show (xfe (xvv xs)) = (xfd (xvv xs)) from (xfe_eq _)) ?_
  refine i_248_18 (lv2 := [(5, Value.int (xfd (xvv xs))), (0, Value.ref 128), (1, Value.int (xs 1)), (2, Value.long (xvv xs)), (4, Value.int (xs 4))]) rfl ?_
  refine i_248_20 (x := (xvv xs)) rfl ?_
  refine i_248_21 ?_
  refine i_248_24 (c := (xfr (xvv xs))) rfl ?_
  refine i_248_25 (lv2 := [(6, Value.long (xfr (xvv xs))), (5, Value.int (xfd (xvv xs))), (0, Value.ref 128), (1, Value.int (xs 1)), (2, Value.long (xvv xs)), (4, Value.int (xs 4))]) rfl ?_
  refine i_248_27 (x := (xfd (xvv xs))) rfl ?_
  refine i_248_29 ?_
  refine i_248_32 (fun _ => ?_) (fun h => absurd (show (xfd (xvv xs)).toInt ≠ 2047 by omega) (fun g => g h))
  refine i_248_71 (x := (xfd (xvv xs))) rfl ?_
  refine i_248_73 (fun _ => ?_) (fun h => absurd (show (xfd (xvv xs)).toInt ≠ 0 by omega) (fun g => g h))
  refine i_248_101 (x := 128) rfl ?_
  refine i_248_102 (v := Value.ref 129) hm rfl ?_
  refine i_248_105 (x := (xfd (xvv xs))) rfl ?_
  refine i_248_107 (fun _ => ?_) (fun h => absurd (show (xfd (xvv xs)).toInt ≠ 0 by omega) (fun g => g h))
  refine i_248_115 (x := (xfr (xvv xs))) rfl ?_
  refine i_248_117 ?_
  refine i_248_120 (c := (xfo (xvv xs))) rfl ?_
  refine i_248_121 ((hk 129 (by decide) (by decide)).trans W0_129) (Nat.le_of_ble_eq_true rfl) (s_179_4 ((hk 129 (by decide) (by decide)).trans W0_129) (by omega) ((hk 130 (by decide) (by decide)).trans W0_130) (by omega) (show (lg_cmp (xqs (xqs (xfo (xvv xs)))) (0 : Int64)) = 0 from (xge_c (n := 0) (by omega) rfl))) ?_
  refine i_248_124 (x := 128) rfl ?_
  refine i_248_125 (x := (xs 1)) rfl ?_
  refine i_248_126 (x := 128) rfl ?_
  refine i_248_127 (v := Value.ref 129) (xgn (by decide) (xgn (by decide) (xgn (by decide) (xgn (by decide) (xgn (by decide) hm))))) rfl ?_
  refine i_248_130 (x := (xfd (xvv xs))) rfl ?_
  refine i_248_132 (fun _ => ?_) (fun h => absurd (show (xfd (xvv xs)).toInt ≠ 0 by omega) (fun g => g h))
  refine i_248_139 (x := (xfd (xvv xs))) rfl ?_
  refine i_248_141 ?_
  refine i_248_144 (c := ((xfd (xvv xs)) - (1075 : Int32))) rfl ?_
  refine i_248_145 ?_
  refine i_248_146 (x := (xvv xs)) rfl ?_
  refine i_248_147 ?_
  refine i_248_148 (c := (lg_cmp (xvv xs) (0 : Int64))) rfl ?_
  refine i_248_149 (fun h => absurd (show (lg_cmp (xvv xs) (0 : Int64)).toInt < 0 by omega) (Int.not_lt.mpr h)) (fun _ => ?_)
  refine i_248_152 ?_
  refine i_248_153 ?_
  refine i_248_157 (x := (xs 4)) rfl ?_
  refine i_248_159 (xgn (by decide) (xgn (by decide) (xgn (by decide) (xgn (by decide) (xgn (by decide) hm))))) (Nat.le_of_ble_eq_true rfl) hr ?_
  exact i_248_162 ⟨rfl, rfl⟩
theorem mn16_11_6 {d : Nat} {xs : Nat → Int32} {w w2 : xW} {b : Int32} {B K P G : Int32} (hk : ∀ h, 129 ≤ h → h < 194 → w[h]? = (W0 6 xs)[h]?) (hm : w[128]? = some (Sum.inr (12, [Value.ref 129, Value.ref 131, Value.ref 133, Value.ref 135, Value.ref 137, Value.ref 139, Value.ref 141, Value.ref 143, Value.ref 145, Value.ref 147, Value.ref 149, Value.ref 151, Value.ref 153, Value.ref 154, Value.ref 155, Value.ref 156, Value.ref 157, Value.int (-16384), Value.int 16384, Value.int 0, Value.int 0, Value.int 0, Value.ref 158, Value.ref 159, Value.int 0, Value.int 0, Value.int 0, Value.int 0, Value.int 0, Value.int 0, Value.int 0, Value.int 0]))) (c0 : 0 ≤ (xs 1).toInt) (c1 : (xs 1).toInt < 16) (c2 : 0 ≤ (xs 4).toInt) (c3 : (xs 4).toInt ≤ 4) (c4 : 0 ≤ (xfd (xvv xs)).toInt) (c5 : (xfd (xvv xs)).toInt ≤ 2047) (c6 : (xfd (xvv xs)).toInt ≠ 2047) (c7 : (xfd (xvv xs)).toInt ≠ 0) (c8 : (lg_cmp (xvv xs) (0 : Int64)).toInt < 0) (c9 : K.toInt = 64 - B.toInt) (c10 : 61 ≤ B.toInt) (c11 : B.toInt ≤ 63) (c12 : (xhi (xfo (xvv xs))).toInt ≠ 0) (c13 : (xnlz (xhi (xfo (xvv xs)))).toInt = 64 - B.toInt) (c14 : (xbf 2 (xlo (xfo (xvv xs))) (xhi (xfo (xvv xs))) ((32 : Int32) - K)).toInt ≠ 0) (c15 : (lg_cmp (xfo (xvv xs)) (0 : Int64)).toInt ≠ 0) (c16 : (lg_cmp (xqs (xfo (xvv xs))) (0 : Int64)).toInt ≠ 0) (c17 : (lg_cmp (xqs (xqs (xfo (xvv xs)))) (0 : Int64)).toInt ≠ 0) (c18 : (lg_cmp (xqs (xqs (xqs (xfo (xvv xs))))) (0 : Int64)).toInt = 0) (c19 : (xbn (xq (xqs (xqs (xfo (xvv xs)))))).toInt = B.toInt - 60) (c20 : (xq (xqs (xqs (xfo (xvv xs))))).toInt ≠ 0) (c21 : 0 ≤ (xq (xqs (xqs (xfo (xvv xs))))).toInt) (c22 : K.toInt ≠ 0) (c23 : K / (30 : Int32) = 0) (c24 : K - K / (30 : Int32) * (30 : Int32) = P) (c25 : ((0 : Int32) ||| (xH (xq (xqs (xqs (xfo (xvv xs))))) P)).toInt = 0) (c26 : ((xL (xq (xqs (xqs (xfo (xvv xs))))) P) ||| (xH (xq (xqs (xfo (xvv xs)))) P)).toInt ≠ 0) (c27 : 0 ≤ ((xL (xq (xqs (xqs (xfo (xvv xs))))) P) ||| (xH (xq (xqs (xfo (xvv xs)))) P)).toInt) (c28 : (xbn ((xL (xq (xqs (xqs (xfo (xvv xs))))) P) ||| (xH (xq (xqs (xfo (xvv xs)))) P))).toInt = 4) (c29 : G.toInt = B.toInt - 61) (hr : xRun (d + 6) 180 [Value.ref 128, Value.int (xs 1), Value.ref 129, Value.int ((xfd (xvv xs)) - (1075 : Int32)), Value.int 0, Value.int 1, Value.int (xs 4)] (((((((w.set 129 (Sum.inr (13, [Value.ref 130, Value.int 0]))).set 130 (Sum.inl (0, 4700, xup (fun _ => Value.int 0) (0 : Int32).toInt.toNat (Value.int (xq (xfo (xvv xs))))))).set 129 (Sum.inr (13, [Value.ref 130, Value.int 1]))).set 130 (Sum.inl (0, 4700, xup (xup (fun _ => Value.int 0) (0 : Int32).toInt.toNat (Value.int (xq (xfo (xvv xs))))) (1 : Int32).toInt.toNat (Value.int (xq (xqs (xfo (xvv xs)))))))).set 129 (Sum.inr (13, [Value.ref 130, Value.int 2]))).set 130 (Sum.inl (0, 4700, xup (xup (xup (fun _ => Value.int 0) (0 : Int32).toInt.toNat (Value.int (xq (xfo (xvv xs))))) (1 : Int32).toInt.toNat (Value.int (xq (xqs (xfo (xvv xs)))))) (2 : Int32).toInt.toNat (Value.int (xq (xqs (xqs (xfo (xvv xs))))))))).set 129 (Sum.inr (13, [Value.ref 130, Value.int 3]))) (.inl (some (Value.int b))) w2) : xRun (d + 7) 248 [Value.ref 128, Value.int (xs 1), Value.long (xvv xs), Value.int (xs 4)] w (.inl (some (Value.int b))) w2 := by
  refine xRun.of ?_
  refine i_248_0 (x := (xs 1)) rfl ?_
  refine i_248_1 (Nat.le_of_ble_eq_true rfl) (s_168_0 (by omega) (by omega)) ?_
  refine i_248_4 (x := (xs 4)) rfl ?_
  refine i_248_6 (Nat.le_of_ble_eq_true rfl) (s_178_0 (by omega) (by omega)) ?_
  refine i_248_9 (x := (xvv xs)) rfl ?_
  refine i_248_10 ?_
  refine i_248_12 (c := ((xvv xs) >>> ((52 : Int32).toInt64 &&& 63))) rfl ?_
  refine i_248_13 (c := ((xvv xs) >>> ((52 : Int32).toInt64 &&& 63)).toInt32) rfl ?_
  refine i_248_14 ?_
  refine i_248_17 (c := (xfd (xvv xs))) (show (xfe (xvv xs)) = (xfd (xvv xs)) from (xfe_eq _)) ?_
  refine i_248_18 (lv2 := [(5, Value.int (xfd (xvv xs))), (0, Value.ref 128), (1, Value.int (xs 1)), (2, Value.long (xvv xs)), (4, Value.int (xs 4))]) rfl ?_
  refine i_248_20 (x := (xvv xs)) rfl ?_
  refine i_248_21 ?_
  refine i_248_24 (c := (xfr (xvv xs))) rfl ?_
  refine i_248_25 (lv2 := [(6, Value.long (xfr (xvv xs))), (5, Value.int (xfd (xvv xs))), (0, Value.ref 128), (1, Value.int (xs 1)), (2, Value.long (xvv xs)), (4, Value.int (xs 4))]) rfl ?_
  refine i_248_27 (x := (xfd (xvv xs))) rfl ?_
  refine i_248_29 ?_
  refine i_248_32 (fun _ => ?_) (fun h => absurd (show (xfd (xvv xs)).toInt ≠ 2047 by omega) (fun g => g h))
  refine i_248_71 (x := (xfd (xvv xs))) rfl ?_
  refine i_248_73 (fun _ => ?_) (fun h => absurd (show (xfd (xvv xs)).toInt ≠ 0 by omega) (fun g => g h))
  refine i_248_101 (x := 128) rfl ?_
  refine i_248_102 (v := Value.ref 129) hm rfl ?_
  refine i_248_105 (x := (xfd (xvv xs))) rfl ?_
  refine i_248_107 (fun _ => ?_) (fun h => absurd (show (xfd (xvv xs)).toInt ≠ 0 by omega) (fun g => g h))
  refine i_248_115 (x := (xfr (xvv xs))) rfl ?_
  refine i_248_117 ?_
  refine i_248_120 (c := (xfo (xvv xs))) rfl ?_
  refine i_248_121 ((hk 129 (by decide) (by decide)).trans W0_129) (Nat.le_of_ble_eq_true rfl) (s_179_5 ((hk 129 (by decide) (by decide)).trans W0_129) (by omega) ((hk 130 (by decide) (by decide)).trans W0_130) (by omega) (by omega) (show (lg_cmp (xqs (xqs (xqs (xfo (xvv xs))))) (0 : Int64)) = 0 from (xge_c (n := 0) (by omega) rfl))) ?_
  refine i_248_124 (x := 128) rfl ?_
  refine i_248_125 (x := (xs 1)) rfl ?_
  refine i_248_126 (x := 128) rfl ?_
  refine i_248_127 (v := Value.ref 129) (xgn (by decide) (xgn (by decide) (xgn (by decide) (xgn (by decide) (xgn (by decide) (xgn (by decide) (xgn (by decide) hm))))))) rfl ?_
  refine i_248_130 (x := (xfd (xvv xs))) rfl ?_
  refine i_248_132 (fun _ => ?_) (fun h => absurd (show (xfd (xvv xs)).toInt ≠ 0 by omega) (fun g => g h))
  refine i_248_139 (x := (xfd (xvv xs))) rfl ?_
  refine i_248_141 ?_
  refine i_248_144 (c := ((xfd (xvv xs)) - (1075 : Int32))) rfl ?_
  refine i_248_145 ?_
  refine i_248_146 (x := (xvv xs)) rfl ?_
  refine i_248_147 ?_
  refine i_248_148 (c := (lg_cmp (xvv xs) (0 : Int64))) rfl ?_
  refine i_248_149 (fun h => absurd (show (lg_cmp (xvv xs) (0 : Int64)).toInt < 0 by omega) (Int.not_lt.mpr h)) (fun _ => ?_)
  refine i_248_152 ?_
  refine i_248_153 ?_
  refine i_248_157 (x := (xs 4)) rfl ?_
  refine i_248_159 (xgn (by decide) (xgn (by decide) (xgn (by decide) (xgn (by decide) (xgn (by decide) (xgn (by decide) (xgn (by decide) hm))))))) (Nat.le_of_ble_eq_true rfl) hr ?_
  exact i_248_162 ⟨rfl, rfl⟩
theorem mn16_11_7 {d : Nat} {xs : Nat → Int32} {w w2 : xW} {b : Int32} {B K G : Int32} (hk : ∀ h, 129 ≤ h → h < 194 → w[h]? = (W0 6 xs)[h]?) (hm : w[128]? = some (Sum.inr (12, [Value.ref 129, Value.ref 131, Value.ref 133, Value.ref 135, Value.ref 137, Value.ref 139, Value.ref 141, Value.ref 143, Value.ref 145, Value.ref 147, Value.ref 149, Value.ref 151, Value.ref 153, Value.ref 154, Value.ref 155, Value.ref 156, Value.ref 157, Value.int (-16384), Value.int 16384, Value.int 0, Value.int 0, Value.int 0, Value.ref 158, Value.ref 159, Value.int 0, Value.int 0, Value.int 0, Value.int 0, Value.int 0, Value.int 0, Value.int 0, Value.int 0]))) (c0 : 0 ≤ (xs 1).toInt) (c1 : (xs 1).toInt < 16) (c2 : 0 ≤ (xs 4).toInt) (c3 : (xs 4).toInt ≤ 4) (c4 : 0 ≤ (xfd (xvv xs)).toInt) (c5 : (xfd (xvv xs)).toInt ≤ 2047) (c6 : (xfd (xvv xs)).toInt ≠ 2047) (c7 : (xfd (xvv xs)).toInt ≠ 0) (c8 : (lg_cmp (xvv xs) (0 : Int64)).toInt < 0) (c9 : K.toInt = 64 - B.toInt) (c10 : 64 ≤ B.toInt) (c11 : B.toInt ≤ 64) (c12 : (xhi (xfo (xvv xs))).toInt ≠ 0) (c13 : (xnlz (xhi (xfo (xvv xs)))).toInt = 64 - B.toInt) (c14 : (xbf 2 (xlo (xfo (xvv xs))) (xhi (xfo (xvv xs))) ((32 : Int32) - K)).toInt ≠ 0) (c15 : (lg_cmp (xfo (xvv xs)) (0 : Int64)).toInt ≠ 0) (c16 : (lg_cmp (xqs (xfo (xvv xs))) (0 : Int64)).toInt ≠ 0) (c17 : (lg_cmp (xqs (xqs (xfo (xvv xs)))) (0 : Int64)).toInt ≠ 0) (c18 : (lg_cmp (xqs (xqs (xqs (xfo (xvv xs))))) (0 : Int64)).toInt = 0) (c19 : (xbn (xq (xqs (xqs (xfo (xvv xs)))))).toInt = B.toInt - 60) (c20 : (xq (xqs (xqs (xfo (xvv xs))))).toInt ≠ 0) (c21 : 0 ≤ (xq (xqs (xqs (xfo (xvv xs))))).toInt) (c22 : K.toInt = 0) (c23 : (xbn (xq (xqs (xqs (xfo (xvv xs)))))).toInt = 4) (c24 : G.toInt = B.toInt - 61) (hr : xRun (d + 6) 180 [Value.ref 128, Value.int (xs 1), Value.ref 129, Value.int ((xfd (xvv xs)) - (1075 : Int32)), Value.int 0, Value.int 1, Value.int (xs 4)] (((((((w.set 129 (Sum.inr (13, [Value.ref 130, Value.int 0]))).set 130 (Sum.inl (0, 4700, xup (fun _ => Value.int 0) (0 : Int32).toInt.toNat (Value.int (xq (xfo (xvv xs))))))).set 129 (Sum.inr (13, [Value.ref 130, Value.int 1]))).set 130 (Sum.inl (0, 4700, xup (xup (fun _ => Value.int 0) (0 : Int32).toInt.toNat (Value.int (xq (xfo (xvv xs))))) (1 : Int32).toInt.toNat (Value.int (xq (xqs (xfo (xvv xs)))))))).set 129 (Sum.inr (13, [Value.ref 130, Value.int 2]))).set 130 (Sum.inl (0, 4700, xup (xup (xup (fun _ => Value.int 0) (0 : Int32).toInt.toNat (Value.int (xq (xfo (xvv xs))))) (1 : Int32).toInt.toNat (Value.int (xq (xqs (xfo (xvv xs)))))) (2 : Int32).toInt.toNat (Value.int (xq (xqs (xqs (xfo (xvv xs))))))))).set 129 (Sum.inr (13, [Value.ref 130, Value.int 3]))) (.inl (some (Value.int b))) w2) : xRun (d + 7) 248 [Value.ref 128, Value.int (xs 1), Value.long (xvv xs), Value.int (xs 4)] w (.inl (some (Value.int b))) w2 := by
  refine xRun.of ?_
  refine i_248_0 (x := (xs 1)) rfl ?_
  refine i_248_1 (Nat.le_of_ble_eq_true rfl) (s_168_0 (by omega) (by omega)) ?_
  refine i_248_4 (x := (xs 4)) rfl ?_
  refine i_248_6 (Nat.le_of_ble_eq_true rfl) (s_178_0 (by omega) (by omega)) ?_
  refine i_248_9 (x := (xvv xs)) rfl ?_
  refine i_248_10 ?_
  refine i_248_12 (c := ((xvv xs) >>> ((52 : Int32).toInt64 &&& 63))) rfl ?_
  refine i_248_13 (c := ((xvv xs) >>> ((52 : Int32).toInt64 &&& 63)).toInt32) rfl ?_
  refine i_248_14 ?_
  refine i_248_17 (c := (xfd (xvv xs))) (show (xfe (xvv xs)) = (xfd (xvv xs)) from (xfe_eq _)) ?_
  refine i_248_18 (lv2 := [(5, Value.int (xfd (xvv xs))), (0, Value.ref 128), (1, Value.int (xs 1)), (2, Value.long (xvv xs)), (4, Value.int (xs 4))]) rfl ?_
  refine i_248_20 (x := (xvv xs)) rfl ?_
  refine i_248_21 ?_
  refine i_248_24 (c := (xfr (xvv xs))) rfl ?_
  refine i_248_25 (lv2 := [(6, Value.long (xfr (xvv xs))), (5, Value.int (xfd (xvv xs))), (0, Value.ref 128), (1, Value.int (xs 1)), (2, Value.long (xvv xs)), (4, Value.int (xs 4))]) rfl ?_
  refine i_248_27 (x := (xfd (xvv xs))) rfl ?_
  refine i_248_29 ?_
  refine i_248_32 (fun _ => ?_) (fun h => absurd (show (xfd (xvv xs)).toInt ≠ 2047 by omega) (fun g => g h))
  refine i_248_71 (x := (xfd (xvv xs))) rfl ?_
  refine i_248_73 (fun _ => ?_) (fun h => absurd (show (xfd (xvv xs)).toInt ≠ 0 by omega) (fun g => g h))
  refine i_248_101 (x := 128) rfl ?_
  refine i_248_102 (v := Value.ref 129) hm rfl ?_
  refine i_248_105 (x := (xfd (xvv xs))) rfl ?_
  refine i_248_107 (fun _ => ?_) (fun h => absurd (show (xfd (xvv xs)).toInt ≠ 0 by omega) (fun g => g h))
  refine i_248_115 (x := (xfr (xvv xs))) rfl ?_
  refine i_248_117 ?_
  refine i_248_120 (c := (xfo (xvv xs))) rfl ?_
  refine i_248_121 ((hk 129 (by decide) (by decide)).trans W0_129) (Nat.le_of_ble_eq_true rfl) (s_179_5 ((hk 129 (by decide) (by decide)).trans W0_129) (by omega) ((hk 130 (by decide) (by decide)).trans W0_130) (by omega) (by omega) (show (lg_cmp (xqs (xqs (xqs (xfo (xvv xs))))) (0 : Int64)) = 0 from (xge_c (n := 0) (by omega) rfl))) ?_
  refine i_248_124 (x := 128) rfl ?_
  refine i_248_125 (x := (xs 1)) rfl ?_
  refine i_248_126 (x := 128) rfl ?_
  refine i_248_127 (v := Value.ref 129) (xgn (by decide) (xgn (by decide) (xgn (by decide) (xgn (by decide) (xgn (by decide) (xgn (by decide) (xgn (by decide) hm))))))) rfl ?_
  refine i_248_130 (x := (xfd (xvv xs))) rfl ?_
  refine i_248_132 (fun _ => ?_) (fun h => absurd (show (xfd (xvv xs)).toInt ≠ 0 by omega) (fun g => g h))
  refine i_248_139 (x := (xfd (xvv xs))) rfl ?_
  refine i_248_141 ?_
  refine i_248_144 (c := ((xfd (xvv xs)) - (1075 : Int32))) rfl ?_
  refine i_248_145 ?_
  refine i_248_146 (x := (xvv xs)) rfl ?_
  refine i_248_147 ?_
  refine i_248_148 (c := (lg_cmp (xvv xs) (0 : Int64))) rfl ?_
  refine i_248_149 (fun h => absurd (show (lg_cmp (xvv xs) (0 : Int64)).toInt < 0 by omega) (Int.not_lt.mpr h)) (fun _ => ?_)
  refine i_248_152 ?_
  refine i_248_153 ?_
  refine i_248_157 (x := (xs 4)) rfl ?_
  refine i_248_159 (xgn (by decide) (xgn (by decide) (xgn (by decide) (xgn (by decide) (xgn (by decide) (xgn (by decide) (xgn (by decide) hm))))))) (Nat.le_of_ble_eq_true rfl) hr ?_
  exact i_248_162 ⟨rfl, rfl⟩
theorem mdl16_11 {d : Nat} {xs : Nat → Int32} {w1 : xW} (k1 : xKp (W0 6 xs) w1 xPC) (c0 : 0 ≤ (xs 1).toInt) (c1 : (xs 1).toInt < 16) (c2 : 0 ≤ (xs 4).toInt) (c3 : (xs 4).toInt ≤ 4) (c4 : 0 ≤ (xfd (xvv xs)).toInt) (c5 : (xfd (xvv xs)).toInt ≤ 2047) (c6 : (xfd (xvv xs)).toInt ≠ 2047) (c7 : (xfd (xvv xs)).toInt ≠ 0) (c8 : (lg_cmp (xvv xs) (0 : Int64)).toInt < 0) : ∃ w2, xRun (d + 8) 247 [Value.ref 128, Value.int (xs 1), Value.long (xvv xs), Value.int (xs 4)] w1 (.inl (some (Value.int (xres 1 (xfo (xvv xs)) ((xfd (xvv xs)) - (1075 : Int32)) (xs 4))))) w2 ∧ xKp w1 w2 xPM ∧ ∃ f, w2[128]? = some (xmo f) := by
  have hk1 : ∀ h, 128 ≤ h → h ≠ 194 → w1[h]? = (W0 6 xs)[h]? := fun h h1 h2 => k1.1 h (Or.inl ⟨h1, h2⟩)
  have hm1 : w1[128]? = some (Sum.inr (12, [Value.ref 129, Value.ref 131, Value.ref 133, Value.ref 135, Value.ref 137, Value.ref 139, Value.ref 141, Value.ref 143, Value.ref 145, Value.ref 147, Value.ref 149, Value.ref 151, Value.ref 153, Value.ref 154, Value.ref 155, Value.ref 156, Value.ref 157, Value.int (-16384), Value.int 16384, Value.int 0, Value.int 0, Value.int 0, Value.ref 158, Value.ref 159, Value.int 0, Value.int 0, Value.int 0, Value.int 0, Value.int 0, Value.int 0, Value.int 0, Value.int 0])) := (hk1 128 (by decide) (by decide)).trans W0_128
  have hk : ∀ h, 129 ≤ h → h < 194 → (w1.set 128 (Sum.inr (12, [Value.ref 129, Value.ref 131, Value.ref 133, Value.ref 135, Value.ref 137, Value.ref 139, Value.ref 141, Value.ref 143, Value.ref 145, Value.ref 147, Value.ref 149, Value.ref 151, Value.ref 153, Value.ref 154, Value.ref 155, Value.ref 156, Value.ref 157, Value.int (-16384), Value.int 16384, Value.int 0, Value.int 0, Value.int 0, Value.ref 158, Value.ref 159, Value.int 0, Value.int 0, Value.int 0, Value.int 0, Value.int 0, Value.int 0, Value.int 0, Value.int 0])))[h]? = (W0 6 xs)[h]? := fun h h1 h2 => (xgn (by omega) rfl).trans (hk1 h (by omega) (by omega))
  have hm : (w1.set 128 (Sum.inr (12, [Value.ref 129, Value.ref 131, Value.ref 133, Value.ref 135, Value.ref 137, Value.ref 139, Value.ref 141, Value.ref 143, Value.ref 145, Value.ref 147, Value.ref 149, Value.ref 151, Value.ref 153, Value.ref 154, Value.ref 155, Value.ref 156, Value.ref 157, Value.int (-16384), Value.int 16384, Value.int 0, Value.int 0, Value.int 0, Value.ref 158, Value.ref 159, Value.int 0, Value.int 0, Value.int 0, Value.int 0, Value.int 0, Value.int 0, Value.int 0, Value.int 0])))[128]? = some (Sum.inr (12, [Value.ref 129, Value.ref 131, Value.ref 133, Value.ref 135, Value.ref 137, Value.ref 139, Value.ref 141, Value.ref 143, Value.ref 145, Value.ref 147, Value.ref 149, Value.ref 151, Value.ref 153, Value.ref 154, Value.ref 155, Value.ref 156, Value.ref 157, Value.int (-16384), Value.int 16384, Value.int 0, Value.int 0, Value.int 0, Value.ref 158, Value.ref 159, Value.int 0, Value.int 0, Value.int 0, Value.int 0, Value.int 0, Value.int 0, Value.int 0, Value.int 0])) := xgs hm1
  have fs : ((xfd (xvv xs)) - (1075 : Int32)).toInt = (xfd (xvv xs)).toInt - 1075 := xsub_g rfl rfl (by omega) (by omega)
  obtain ⟨B, K, P, G, hB, c9, hr⟩ := xreg (m := (xfo (xvv xs))) (xfo_nz _)
  rcases hr with ⟨c10, c11, c12, c13, c14, c15, c16, c17, c18, c19, c20, c21, c22, c23, c24, c25, c26, c27, c28⟩ | ⟨c10, c11, c12, c13, c14, c15, c16, c17, c18, c19, c20, c21, c22, c23, c24, c25, c26, c27⟩ | ⟨c10, c11, c12, c13, c14, c15, c16, c17, c18, c19, c20, c21, c22, c23, c24, c25, c26, c27, c28, c29⟩ | ⟨c10, c11, c12, c13, c14, c15, c16, c17, c18, c19, c20, c21, c22, c23, c24, c25, c26, c27, c28⟩ | ⟨c10, c11, c12, c13, c14, c15, c16, c17, c18, c19, c20, c21, c22, c23, c24, c25, c26, c27⟩ | ⟨c10, c11, c12, c13, c14, c15, c16, c17, c18, c19, c20, c21, c22, c23, c24, c25, c26, c27, c28, c29⟩ | ⟨c10, c11, c12, c13, c14, c15, c16, c17, c18, c19, c20, c21, c22, c23, c24⟩
  · obtain ⟨w2, h1, h2, h3⟩ := rd1_1 (d := d) (xs := xs) (m := (xfo (xvv xs))) (sc := ((xfd (xvv xs)) - (1075 : Int32))) (md := (xs 4)) (w := ((((w1.set 128 (Sum.inr (12, [Value.ref 129, Value.ref 131, Value.ref 133, Value.ref 135, Value.ref 137, Value.ref 139, Value.ref 141, Value.ref 143, Value.ref 145, Value.ref 147, Value.ref 149, Value.ref 151, Value.ref 153, Value.ref 154, Value.ref 155, Value.ref 156, Value.ref 157, Value.int (-16384), Value.int 16384, Value.int 0, Value.int 0, Value.int 0, Value.ref 158, Value.ref 159, Value.int 0, Value.int 0, Value.int 0, Value.int 0, Value.int 0, Value.int 0, Value.int 0, Value.int 0]))).set 129 (Sum.inr (13, [Value.ref 130, Value.int 0]))).set 130 (Sum.inl (0, 4700, xup (fun _ => Value.int 0) (0 : Int32).toInt.toNat (Value.int (xq (xfo (xvv xs))))))).set 129 (Sum.inr (13, [Value.ref 130, Value.int 1])))) (P := P) (fun h h1 h2 => (xgn (by omega) (xgn (by omega) (xgn (by omega) (rfl)))).trans (hk h (by omega) h2)) (xgn (by decide) (xgn (by decide) (xgn (by decide) hm))) (xgs (xgn (by decide) (xgs ((hk 129 (by decide) (by decide)).trans W0_129)))) (xgn (by decide) (xgs (xgn (by decide) (((hk 130 (by decide) (by decide)).trans W0_130))))) (xup_s) hB c0 c1 (by omega) (by omega) (by omega) (by omega) c9 c10 c11 c12 c13 c14 c15 c16 c17 c18 c19 c20 c21 c22 c23 c24 c25 c26 c27 c28
    refine ⟨w2, mnum16 hm1 (mn16_11_1 hk hm c0 c1 c2 c3 c4 c5 c6 c7 c8 c9 c10 c11 c12 c13 c14 c15 c16 c17 c18 c19 c20 c21 c22 c23 c24 c25 c26 c27 c28 h1), xKp.trans ?_ h2, h3⟩
    refine xKp.set ?_ (fun h hh => by unfold xPM at hh; omega) (xgn (by decide) (xgs ((hk 129 (by decide) (by decide)).trans W0_129))) xcs_o
    refine xKp.set ?_ (fun h hh => by unfold xPM at hh; omega) (xgn (by decide) (((hk 130 (by decide) (by decide)).trans W0_130))) xcs_a
    refine xKp.set ?_ (fun h hh => by unfold xPM at hh; omega) (((hk 129 (by decide) (by decide)).trans W0_129)) xcs_o
    exact xKp.set xKp.refl (fun h hh => by unfold xPM at hh; omega) hm1 xcs_o
  · obtain ⟨w2, h1, h2, h3⟩ := rd2_1 (d := d) (xs := xs) (m := (xfo (xvv xs))) (sc := ((xfd (xvv xs)) - (1075 : Int32))) (md := (xs 4)) (w := ((((w1.set 128 (Sum.inr (12, [Value.ref 129, Value.ref 131, Value.ref 133, Value.ref 135, Value.ref 137, Value.ref 139, Value.ref 141, Value.ref 143, Value.ref 145, Value.ref 147, Value.ref 149, Value.ref 151, Value.ref 153, Value.ref 154, Value.ref 155, Value.ref 156, Value.ref 157, Value.int (-16384), Value.int 16384, Value.int 0, Value.int 0, Value.int 0, Value.ref 158, Value.ref 159, Value.int 0, Value.int 0, Value.int 0, Value.int 0, Value.int 0, Value.int 0, Value.int 0, Value.int 0]))).set 129 (Sum.inr (13, [Value.ref 130, Value.int 0]))).set 130 (Sum.inl (0, 4700, xup (fun _ => Value.int 0) (0 : Int32).toInt.toNat (Value.int (xq (xfo (xvv xs))))))).set 129 (Sum.inr (13, [Value.ref 130, Value.int 1])))) (P := P) (fun h h1 h2 => (xgn (by omega) (xgn (by omega) (xgn (by omega) (rfl)))).trans (hk h (by omega) h2)) (xgn (by decide) (xgn (by decide) (xgn (by decide) hm))) (xgs (xgn (by decide) (xgs ((hk 129 (by decide) (by decide)).trans W0_129)))) (xgn (by decide) (xgs (xgn (by decide) (((hk 130 (by decide) (by decide)).trans W0_130))))) (xup_s) hB c0 c1 (by omega) (by omega) (by omega) (by omega) c9 c10 c11 c12 c13 c14 c15 c16 c17 c18 c19 c20 c21 c22 c23 c24 c25 c26 c27
    refine ⟨w2, mnum16 hm1 (mn16_11_2 hk hm c0 c1 c2 c3 c4 c5 c6 c7 c8 c9 c10 c11 c12 c13 c14 c15 c16 c17 c18 c19 c20 c21 c22 c23 c24 c25 c26 c27 h1), xKp.trans ?_ h2, h3⟩
    refine xKp.set ?_ (fun h hh => by unfold xPM at hh; omega) (xgn (by decide) (xgs ((hk 129 (by decide) (by decide)).trans W0_129))) xcs_o
    refine xKp.set ?_ (fun h hh => by unfold xPM at hh; omega) (xgn (by decide) (((hk 130 (by decide) (by decide)).trans W0_130))) xcs_a
    refine xKp.set ?_ (fun h hh => by unfold xPM at hh; omega) (((hk 129 (by decide) (by decide)).trans W0_129)) xcs_o
    exact xKp.set xKp.refl (fun h hh => by unfold xPM at hh; omega) hm1 xcs_o
  · obtain ⟨w2, h1, h2, h3⟩ := rd3_1 (d := d) (xs := xs) (m := (xfo (xvv xs))) (sc := ((xfd (xvv xs)) - (1075 : Int32))) (md := (xs 4)) (w := ((((((w1.set 128 (Sum.inr (12, [Value.ref 129, Value.ref 131, Value.ref 133, Value.ref 135, Value.ref 137, Value.ref 139, Value.ref 141, Value.ref 143, Value.ref 145, Value.ref 147, Value.ref 149, Value.ref 151, Value.ref 153, Value.ref 154, Value.ref 155, Value.ref 156, Value.ref 157, Value.int (-16384), Value.int 16384, Value.int 0, Value.int 0, Value.int 0, Value.ref 158, Value.ref 159, Value.int 0, Value.int 0, Value.int 0, Value.int 0, Value.int 0, Value.int 0, Value.int 0, Value.int 0]))).set 129 (Sum.inr (13, [Value.ref 130, Value.int 0]))).set 130 (Sum.inl (0, 4700, xup (fun _ => Value.int 0) (0 : Int32).toInt.toNat (Value.int (xq (xfo (xvv xs))))))).set 129 (Sum.inr (13, [Value.ref 130, Value.int 1]))).set 130 (Sum.inl (0, 4700, xup (xup (fun _ => Value.int 0) (0 : Int32).toInt.toNat (Value.int (xq (xfo (xvv xs))))) (1 : Int32).toInt.toNat (Value.int (xq (xqs (xfo (xvv xs)))))))).set 129 (Sum.inr (13, [Value.ref 130, Value.int 2])))) (P := P) (fun h h1 h2 => (xgn (by omega) (xgn (by omega) (xgn (by omega) (xgn (by omega) (xgn (by omega) (rfl)))))).trans (hk h (by omega) h2)) (xgn (by decide) (xgn (by decide) (xgn (by decide) (xgn (by decide) (xgn (by decide) hm))))) (xgs (xgn (by decide) (xgs (xgn (by decide) (xgs ((hk 129 (by decide) (by decide)).trans W0_129)))))) (xgn (by decide) (xgs (xgn (by decide) (xgs (xgn (by decide) (((hk 130 (by decide) (by decide)).trans W0_130))))))) (xup_n (by decide) xup_s) (xup_s) hB c0 c1 (by omega) (by omega) (by omega) (by omega) c9 c10 c11 c12 c13 c14 c15 c16 c17 c18 c19 c20 c21 c22 c23 c24 c25 c26 c27 c28 c29
    refine ⟨w2, mnum16 hm1 (mn16_11_3 hk hm c0 c1 c2 c3 c4 c5 c6 c7 c8 c9 c10 c11 c12 c13 c14 c15 c16 c17 c18 c19 c20 c21 c22 c23 c24 c25 c26 c27 c28 c29 h1), xKp.trans ?_ h2, h3⟩
    refine xKp.set ?_ (fun h hh => by unfold xPM at hh; omega) (xgn (by decide) (xgs (xgn (by decide) (xgs ((hk 129 (by decide) (by decide)).trans W0_129))))) xcs_o
    refine xKp.set ?_ (fun h hh => by unfold xPM at hh; omega) (xgn (by decide) (xgs (xgn (by decide) (((hk 130 (by decide) (by decide)).trans W0_130))))) xcs_a
    refine xKp.set ?_ (fun h hh => by unfold xPM at hh; omega) (xgn (by decide) (xgs ((hk 129 (by decide) (by decide)).trans W0_129))) xcs_o
    refine xKp.set ?_ (fun h hh => by unfold xPM at hh; omega) (xgn (by decide) (((hk 130 (by decide) (by decide)).trans W0_130))) xcs_a
    refine xKp.set ?_ (fun h hh => by unfold xPM at hh; omega) (((hk 129 (by decide) (by decide)).trans W0_129)) xcs_o
    exact xKp.set xKp.refl (fun h hh => by unfold xPM at hh; omega) hm1 xcs_o
  · obtain ⟨w2, h1, h2, h3⟩ := rd4_1 (d := d) (xs := xs) (m := (xfo (xvv xs))) (sc := ((xfd (xvv xs)) - (1075 : Int32))) (md := (xs 4)) (w := ((((((w1.set 128 (Sum.inr (12, [Value.ref 129, Value.ref 131, Value.ref 133, Value.ref 135, Value.ref 137, Value.ref 139, Value.ref 141, Value.ref 143, Value.ref 145, Value.ref 147, Value.ref 149, Value.ref 151, Value.ref 153, Value.ref 154, Value.ref 155, Value.ref 156, Value.ref 157, Value.int (-16384), Value.int 16384, Value.int 0, Value.int 0, Value.int 0, Value.ref 158, Value.ref 159, Value.int 0, Value.int 0, Value.int 0, Value.int 0, Value.int 0, Value.int 0, Value.int 0, Value.int 0]))).set 129 (Sum.inr (13, [Value.ref 130, Value.int 0]))).set 130 (Sum.inl (0, 4700, xup (fun _ => Value.int 0) (0 : Int32).toInt.toNat (Value.int (xq (xfo (xvv xs))))))).set 129 (Sum.inr (13, [Value.ref 130, Value.int 1]))).set 130 (Sum.inl (0, 4700, xup (xup (fun _ => Value.int 0) (0 : Int32).toInt.toNat (Value.int (xq (xfo (xvv xs))))) (1 : Int32).toInt.toNat (Value.int (xq (xqs (xfo (xvv xs)))))))).set 129 (Sum.inr (13, [Value.ref 130, Value.int 2])))) (P := P) (fun h h1 h2 => (xgn (by omega) (xgn (by omega) (xgn (by omega) (xgn (by omega) (xgn (by omega) (rfl)))))).trans (hk h (by omega) h2)) (xgn (by decide) (xgn (by decide) (xgn (by decide) (xgn (by decide) (xgn (by decide) hm))))) (xgs (xgn (by decide) (xgs (xgn (by decide) (xgs ((hk 129 (by decide) (by decide)).trans W0_129)))))) (xgn (by decide) (xgs (xgn (by decide) (xgs (xgn (by decide) (((hk 130 (by decide) (by decide)).trans W0_130))))))) (xup_n (by decide) xup_s) (xup_s) hB c0 c1 (by omega) (by omega) (by omega) (by omega) c9 c10 c11 c12 c13 c14 c15 c16 c17 c18 c19 c20 c21 c22 c23 c24 c25 c26 c27 c28
    refine ⟨w2, mnum16 hm1 (mn16_11_4 hk hm c0 c1 c2 c3 c4 c5 c6 c7 c8 c9 c10 c11 c12 c13 c14 c15 c16 c17 c18 c19 c20 c21 c22 c23 c24 c25 c26 c27 c28 h1), xKp.trans ?_ h2, h3⟩
    refine xKp.set ?_ (fun h hh => by unfold xPM at hh; omega) (xgn (by decide) (xgs (xgn (by decide) (xgs ((hk 129 (by decide) (by decide)).trans W0_129))))) xcs_o
    refine xKp.set ?_ (fun h hh => by unfold xPM at hh; omega) (xgn (by decide) (xgs (xgn (by decide) (((hk 130 (by decide) (by decide)).trans W0_130))))) xcs_a
    refine xKp.set ?_ (fun h hh => by unfold xPM at hh; omega) (xgn (by decide) (xgs ((hk 129 (by decide) (by decide)).trans W0_129))) xcs_o
    refine xKp.set ?_ (fun h hh => by unfold xPM at hh; omega) (xgn (by decide) (((hk 130 (by decide) (by decide)).trans W0_130))) xcs_a
    refine xKp.set ?_ (fun h hh => by unfold xPM at hh; omega) (((hk 129 (by decide) (by decide)).trans W0_129)) xcs_o
    exact xKp.set xKp.refl (fun h hh => by unfold xPM at hh; omega) hm1 xcs_o
  · obtain ⟨w2, h1, h2, h3⟩ := rd5_1 (d := d) (xs := xs) (m := (xfo (xvv xs))) (sc := ((xfd (xvv xs)) - (1075 : Int32))) (md := (xs 4)) (w := ((((((w1.set 128 (Sum.inr (12, [Value.ref 129, Value.ref 131, Value.ref 133, Value.ref 135, Value.ref 137, Value.ref 139, Value.ref 141, Value.ref 143, Value.ref 145, Value.ref 147, Value.ref 149, Value.ref 151, Value.ref 153, Value.ref 154, Value.ref 155, Value.ref 156, Value.ref 157, Value.int (-16384), Value.int 16384, Value.int 0, Value.int 0, Value.int 0, Value.ref 158, Value.ref 159, Value.int 0, Value.int 0, Value.int 0, Value.int 0, Value.int 0, Value.int 0, Value.int 0, Value.int 0]))).set 129 (Sum.inr (13, [Value.ref 130, Value.int 0]))).set 130 (Sum.inl (0, 4700, xup (fun _ => Value.int 0) (0 : Int32).toInt.toNat (Value.int (xq (xfo (xvv xs))))))).set 129 (Sum.inr (13, [Value.ref 130, Value.int 1]))).set 130 (Sum.inl (0, 4700, xup (xup (fun _ => Value.int 0) (0 : Int32).toInt.toNat (Value.int (xq (xfo (xvv xs))))) (1 : Int32).toInt.toNat (Value.int (xq (xqs (xfo (xvv xs)))))))).set 129 (Sum.inr (13, [Value.ref 130, Value.int 2])))) (P := P) (fun h h1 h2 => (xgn (by omega) (xgn (by omega) (xgn (by omega) (xgn (by omega) (xgn (by omega) (rfl)))))).trans (hk h (by omega) h2)) (xgn (by decide) (xgn (by decide) (xgn (by decide) (xgn (by decide) (xgn (by decide) hm))))) (xgs (xgn (by decide) (xgs (xgn (by decide) (xgs ((hk 129 (by decide) (by decide)).trans W0_129)))))) (xgn (by decide) (xgs (xgn (by decide) (xgs (xgn (by decide) (((hk 130 (by decide) (by decide)).trans W0_130))))))) (xup_n (by decide) xup_s) (xup_s) hB c0 c1 (by omega) (by omega) (by omega) (by omega) c9 c10 c11 c12 c13 c14 c15 c16 c17 c18 c19 c20 c21 c22 c23 c24 c25 c26 c27
    refine ⟨w2, mnum16 hm1 (mn16_11_5 hk hm c0 c1 c2 c3 c4 c5 c6 c7 c8 c9 c10 c11 c12 c13 c14 c15 c16 c17 c18 c19 c20 c21 c22 c23 c24 c25 c26 c27 h1), xKp.trans ?_ h2, h3⟩
    refine xKp.set ?_ (fun h hh => by unfold xPM at hh; omega) (xgn (by decide) (xgs (xgn (by decide) (xgs ((hk 129 (by decide) (by decide)).trans W0_129))))) xcs_o
    refine xKp.set ?_ (fun h hh => by unfold xPM at hh; omega) (xgn (by decide) (xgs (xgn (by decide) (((hk 130 (by decide) (by decide)).trans W0_130))))) xcs_a
    refine xKp.set ?_ (fun h hh => by unfold xPM at hh; omega) (xgn (by decide) (xgs ((hk 129 (by decide) (by decide)).trans W0_129))) xcs_o
    refine xKp.set ?_ (fun h hh => by unfold xPM at hh; omega) (xgn (by decide) (((hk 130 (by decide) (by decide)).trans W0_130))) xcs_a
    refine xKp.set ?_ (fun h hh => by unfold xPM at hh; omega) (((hk 129 (by decide) (by decide)).trans W0_129)) xcs_o
    exact xKp.set xKp.refl (fun h hh => by unfold xPM at hh; omega) hm1 xcs_o
  · obtain ⟨w2, h1, h2, h3⟩ := rd6_1 (d := d) (xs := xs) (m := (xfo (xvv xs))) (sc := ((xfd (xvv xs)) - (1075 : Int32))) (md := (xs 4)) (w := ((((((((w1.set 128 (Sum.inr (12, [Value.ref 129, Value.ref 131, Value.ref 133, Value.ref 135, Value.ref 137, Value.ref 139, Value.ref 141, Value.ref 143, Value.ref 145, Value.ref 147, Value.ref 149, Value.ref 151, Value.ref 153, Value.ref 154, Value.ref 155, Value.ref 156, Value.ref 157, Value.int (-16384), Value.int 16384, Value.int 0, Value.int 0, Value.int 0, Value.ref 158, Value.ref 159, Value.int 0, Value.int 0, Value.int 0, Value.int 0, Value.int 0, Value.int 0, Value.int 0, Value.int 0]))).set 129 (Sum.inr (13, [Value.ref 130, Value.int 0]))).set 130 (Sum.inl (0, 4700, xup (fun _ => Value.int 0) (0 : Int32).toInt.toNat (Value.int (xq (xfo (xvv xs))))))).set 129 (Sum.inr (13, [Value.ref 130, Value.int 1]))).set 130 (Sum.inl (0, 4700, xup (xup (fun _ => Value.int 0) (0 : Int32).toInt.toNat (Value.int (xq (xfo (xvv xs))))) (1 : Int32).toInt.toNat (Value.int (xq (xqs (xfo (xvv xs)))))))).set 129 (Sum.inr (13, [Value.ref 130, Value.int 2]))).set 130 (Sum.inl (0, 4700, xup (xup (xup (fun _ => Value.int 0) (0 : Int32).toInt.toNat (Value.int (xq (xfo (xvv xs))))) (1 : Int32).toInt.toNat (Value.int (xq (xqs (xfo (xvv xs)))))) (2 : Int32).toInt.toNat (Value.int (xq (xqs (xqs (xfo (xvv xs))))))))).set 129 (Sum.inr (13, [Value.ref 130, Value.int 3])))) (P := P) (fun h h1 h2 => (xgn (by omega) (xgn (by omega) (xgn (by omega) (xgn (by omega) (xgn (by omega) (xgn (by omega) (xgn (by omega) (rfl)))))))).trans (hk h (by omega) h2)) (xgn (by decide) (xgn (by decide) (xgn (by decide) (xgn (by decide) (xgn (by decide) (xgn (by decide) (xgn (by decide) hm))))))) (xgs (xgn (by decide) (xgs (xgn (by decide) (xgs (xgn (by decide) (xgs ((hk 129 (by decide) (by decide)).trans W0_129)))))))) (xgn (by decide) (xgs (xgn (by decide) (xgs (xgn (by decide) (xgs (xgn (by decide) (((hk 130 (by decide) (by decide)).trans W0_130))))))))) (xup_n (by decide) (xup_n (by decide) xup_s)) (xup_n (by decide) xup_s) (xup_s) hB c0 c1 (by omega) (by omega) (by omega) (by omega) c9 c10 c11 c12 c13 c14 c15 c16 c17 c18 c19 c20 c21 c22 c23 c24 c25 c26 c27 c28 c29
    refine ⟨w2, mnum16 hm1 (mn16_11_6 hk hm c0 c1 c2 c3 c4 c5 c6 c7 c8 c9 c10 c11 c12 c13 c14 c15 c16 c17 c18 c19 c20 c21 c22 c23 c24 c25 c26 c27 c28 c29 h1), xKp.trans ?_ h2, h3⟩
    refine xKp.set ?_ (fun h hh => by unfold xPM at hh; omega) (xgn (by decide) (xgs (xgn (by decide) (xgs (xgn (by decide) (xgs ((hk 129 (by decide) (by decide)).trans W0_129))))))) xcs_o
    refine xKp.set ?_ (fun h hh => by unfold xPM at hh; omega) (xgn (by decide) (xgs (xgn (by decide) (xgs (xgn (by decide) (((hk 130 (by decide) (by decide)).trans W0_130))))))) xcs_a
    refine xKp.set ?_ (fun h hh => by unfold xPM at hh; omega) (xgn (by decide) (xgs (xgn (by decide) (xgs ((hk 129 (by decide) (by decide)).trans W0_129))))) xcs_o
    refine xKp.set ?_ (fun h hh => by unfold xPM at hh; omega) (xgn (by decide) (xgs (xgn (by decide) (((hk 130 (by decide) (by decide)).trans W0_130))))) xcs_a
    refine xKp.set ?_ (fun h hh => by unfold xPM at hh; omega) (xgn (by decide) (xgs ((hk 129 (by decide) (by decide)).trans W0_129))) xcs_o
    refine xKp.set ?_ (fun h hh => by unfold xPM at hh; omega) (xgn (by decide) (((hk 130 (by decide) (by decide)).trans W0_130))) xcs_a
    refine xKp.set ?_ (fun h hh => by unfold xPM at hh; omega) (((hk 129 (by decide) (by decide)).trans W0_129)) xcs_o
    exact xKp.set xKp.refl (fun h hh => by unfold xPM at hh; omega) hm1 xcs_o
  · obtain ⟨w2, h1, h2, h3⟩ := rd7_1 (d := d) (xs := xs) (m := (xfo (xvv xs))) (sc := ((xfd (xvv xs)) - (1075 : Int32))) (md := (xs 4)) (w := ((((((((w1.set 128 (Sum.inr (12, [Value.ref 129, Value.ref 131, Value.ref 133, Value.ref 135, Value.ref 137, Value.ref 139, Value.ref 141, Value.ref 143, Value.ref 145, Value.ref 147, Value.ref 149, Value.ref 151, Value.ref 153, Value.ref 154, Value.ref 155, Value.ref 156, Value.ref 157, Value.int (-16384), Value.int 16384, Value.int 0, Value.int 0, Value.int 0, Value.ref 158, Value.ref 159, Value.int 0, Value.int 0, Value.int 0, Value.int 0, Value.int 0, Value.int 0, Value.int 0, Value.int 0]))).set 129 (Sum.inr (13, [Value.ref 130, Value.int 0]))).set 130 (Sum.inl (0, 4700, xup (fun _ => Value.int 0) (0 : Int32).toInt.toNat (Value.int (xq (xfo (xvv xs))))))).set 129 (Sum.inr (13, [Value.ref 130, Value.int 1]))).set 130 (Sum.inl (0, 4700, xup (xup (fun _ => Value.int 0) (0 : Int32).toInt.toNat (Value.int (xq (xfo (xvv xs))))) (1 : Int32).toInt.toNat (Value.int (xq (xqs (xfo (xvv xs)))))))).set 129 (Sum.inr (13, [Value.ref 130, Value.int 2]))).set 130 (Sum.inl (0, 4700, xup (xup (xup (fun _ => Value.int 0) (0 : Int32).toInt.toNat (Value.int (xq (xfo (xvv xs))))) (1 : Int32).toInt.toNat (Value.int (xq (xqs (xfo (xvv xs)))))) (2 : Int32).toInt.toNat (Value.int (xq (xqs (xqs (xfo (xvv xs))))))))).set 129 (Sum.inr (13, [Value.ref 130, Value.int 3])))) (P := P) (fun h h1 h2 => (xgn (by omega) (xgn (by omega) (xgn (by omega) (xgn (by omega) (xgn (by omega) (xgn (by omega) (xgn (by omega) (rfl)))))))).trans (hk h (by omega) h2)) (xgn (by decide) (xgn (by decide) (xgn (by decide) (xgn (by decide) (xgn (by decide) (xgn (by decide) (xgn (by decide) hm))))))) (xgs (xgn (by decide) (xgs (xgn (by decide) (xgs (xgn (by decide) (xgs ((hk 129 (by decide) (by decide)).trans W0_129)))))))) (xgn (by decide) (xgs (xgn (by decide) (xgs (xgn (by decide) (xgs (xgn (by decide) (((hk 130 (by decide) (by decide)).trans W0_130))))))))) (xup_n (by decide) (xup_n (by decide) xup_s)) (xup_n (by decide) xup_s) (xup_s) hB c0 c1 (by omega) (by omega) (by omega) (by omega) c9 c10 c11 c12 c13 c14 c15 c16 c17 c18 c19 c20 c21 c22 c23 c24
    refine ⟨w2, mnum16 hm1 (mn16_11_7 hk hm c0 c1 c2 c3 c4 c5 c6 c7 c8 c9 c10 c11 c12 c13 c14 c15 c16 c17 c18 c19 c20 c21 c22 c23 c24 h1), xKp.trans ?_ h2, h3⟩
    refine xKp.set ?_ (fun h hh => by unfold xPM at hh; omega) (xgn (by decide) (xgs (xgn (by decide) (xgs (xgn (by decide) (xgs ((hk 129 (by decide) (by decide)).trans W0_129))))))) xcs_o
    refine xKp.set ?_ (fun h hh => by unfold xPM at hh; omega) (xgn (by decide) (xgs (xgn (by decide) (xgs (xgn (by decide) (((hk 130 (by decide) (by decide)).trans W0_130))))))) xcs_a
    refine xKp.set ?_ (fun h hh => by unfold xPM at hh; omega) (xgn (by decide) (xgs (xgn (by decide) (xgs ((hk 129 (by decide) (by decide)).trans W0_129))))) xcs_o
    refine xKp.set ?_ (fun h hh => by unfold xPM at hh; omega) (xgn (by decide) (xgs (xgn (by decide) (((hk 130 (by decide) (by decide)).trans W0_130))))) xcs_a
    refine xKp.set ?_ (fun h hh => by unfold xPM at hh; omega) (xgn (by decide) (xgs ((hk 129 (by decide) (by decide)).trans W0_129))) xcs_o
    refine xKp.set ?_ (fun h hh => by unfold xPM at hh; omega) (xgn (by decide) (((hk 130 (by decide) (by decide)).trans W0_130))) xcs_a
    refine xKp.set ?_ (fun h hh => by unfold xPM at hh; omega) (((hk 129 (by decide) (by decide)).trans W0_129)) xcs_o
    exact xKp.set xKp.refl (fun h hh => by unfold xPM at hh; omega) hm1 xcs_o
theorem law16x {d : Nat} {xs : Nat → Int32} {w1 w2 : xW} {b f : Int32} (h0 : ((xs 0) &&& (31 : Int32)).toInt = 16) (h1 : xRun (d + 19) 127 [Value.ref 7, Value.int (xs 1), Value.long (xvv xs), Value.int (xs 4), Value.ref 194] (W0 6 xs) (.inl (some (Value.int 0))) w1) (h2 : xRun (d + 19) 247 [Value.ref 128, Value.int (xs 1), Value.long (xvv xs), Value.int (xs 4)] w1 (.inl (some (Value.int b))) w2) (m1 : w1[128]? = some (Sum.inr (12, [Value.ref 129, Value.ref 131, Value.ref 133, Value.ref 135, Value.ref 137, Value.ref 139, Value.ref 141, Value.ref 143, Value.ref 145, Value.ref 147, Value.ref 149, Value.ref 151, Value.ref 153, Value.ref 154, Value.ref 155, Value.ref 156, Value.ref 157, Value.int (-16384), Value.int 16384, Value.int 0, Value.int 0, Value.int 0, Value.ref 158, Value.ref 159, Value.int 0, Value.int 0, Value.int 0, Value.int 0, Value.int 0, Value.int 0, Value.int 0, Value.int 0]))) (m2 : w2[128]? = some (Sum.inr (12, [Value.ref 129, Value.ref 131, Value.ref 133, Value.ref 135, Value.ref 137, Value.ref 139, Value.ref 141, Value.ref 143, Value.ref 145, Value.ref 147, Value.ref 149, Value.ref 151, Value.ref 153, Value.ref 154, Value.ref 155, Value.ref 156, Value.ref 157, Value.int (-16384), Value.int 16384, Value.int f, Value.int 0, Value.int 0, Value.ref 158, Value.ref 159, Value.int 0, Value.int 0, Value.int 0, Value.int 0, Value.int 0, Value.int 0, Value.int 0, Value.int 0]))) (o2 : w2[194]? = some (Sum.inl (3, 1, xup (fun _ => Value.long 0) (0 : Int32).toInt.toNat (Value.long b.toInt64)))) (g1 : w1[0]? = some (Sum.inl (0, 6, fun j => Value.int (xs j)))) (g2 : w2[0]? = some (Sum.inl (0, 6, fun j => Value.int (xs j)))) : xEv (d + 20) 287 23 [(4, Value.int 0), (3, Value.ref 194), (2, Value.ref 128), (1, Value.ref 7), (0, Value.ref 0)] [] (W0 6 xs) (fun o' w' => o' = .inl (some (Value.int 1)) ∧ w' = w2) := by
  refine i_287_23 (x := 0) rfl ?_
  refine i_287_25 (x := 0) rfl ?_
  refine i_287_26 (c := 6) W0_0 (by decide) ?_
  refine i_287_27 ?_
  refine i_287_29 (c := 0) (by decide) ?_
  refine i_287_30 (fun h => absurd h (by decide)) (fun _ => ?_)
  refine i_287_33 (x := 0) rfl ?_
  refine i_287_34 (x := 0) rfl ?_
  refine i_287_36 (v := Value.int (xs 0)) W0_0 (by decide) (by decide) rfl ?_
  refine i_287_37 ?_
  refine i_287_39 (c := 16) (show ((xs 0) &&& (31 : Int32)) = 16 from (xge_c (n := 16) (by omega) rfl)) ?_
  refine i_287_40_16 rfl ?_
  refine i_287_1540 (x := 7) rfl ?_
  refine i_287_1541 (x := 0) rfl ?_
  refine i_287_1542 (x := 0) rfl ?_
  refine i_287_1544 ?_
  refine i_287_1545 (c := 1) (by decide) ?_
  refine i_287_1546 (v := Value.int (xs 1)) W0_0 (by decide) (by decide) rfl ?_
  refine i_287_1547 (x := 0) rfl ?_
  refine i_287_1548 (x := 0) rfl ?_
  refine i_287_1550 ?_
  refine i_287_1551 (c := 2) (by decide) ?_
  refine i_287_1552 (v := Value.int (xs 2)) W0_0 (by decide) (by decide) rfl ?_
  refine i_287_1553 (c := (xs 2).toInt64) rfl ?_
  refine i_287_1554 ?_
  refine i_287_1556 (c := (xsh (xs 2) (32 : Int32))) rfl ?_
  refine i_287_1557 (x := 0) rfl ?_
  refine i_287_1558 (x := 0) rfl ?_
  refine i_287_1560 ?_
  refine i_287_1561 (c := 3) (by decide) ?_
  refine i_287_1562 (v := Value.int (xs 3)) W0_0 (by decide) (by decide) rfl ?_
  refine i_287_1563 (c := (xs 3).toInt64) rfl ?_
  refine i_287_1564 ?_
  refine i_287_1567 (c := (((xs 3).toInt64) &&& (4294967295 : Int64))) rfl ?_
  refine i_287_1568 (c := (xvv xs)) rfl ?_
  refine i_287_1569 (x := 0) rfl ?_
  refine i_287_1570 (x := 0) rfl ?_
  refine i_287_1572 ?_
  refine i_287_1573 (c := 4) (by decide) ?_
  refine i_287_1574 (v := Value.int (xs 4)) W0_0 (by decide) (by decide) rfl ?_
  refine i_287_1575 (x := 194) rfl ?_
  refine i_287_1576 (Nat.le_of_ble_eq_true rfl) h1 ?_
  refine i_287_1579 (lv2 := [(5, Value.int 0), (4, Value.int 0), (3, Value.ref 194), (2, Value.ref 128), (1, Value.ref 7), (0, Value.ref 0)]) rfl ?_
  refine i_287_1581 (x := 128) rfl ?_
  refine i_287_1582 (x := 0) rfl ?_
  refine i_287_1583 (x := 0) rfl ?_
  refine i_287_1585 ?_
  refine i_287_1586 (c := 1) (by decide) ?_
  refine i_287_1587 (v := Value.int (xs 1)) g1 (by decide) (by decide) rfl ?_
  refine i_287_1588 (x := 0) rfl ?_
  refine i_287_1589 (x := 0) rfl ?_
  refine i_287_1591 ?_
  refine i_287_1592 (c := 2) (by decide) ?_
  refine i_287_1593 (v := Value.int (xs 2)) g1 (by decide) (by decide) rfl ?_
  refine i_287_1594 (c := (xs 2).toInt64) rfl ?_
  refine i_287_1595 ?_
  refine i_287_1597 (c := (xsh (xs 2) (32 : Int32))) rfl ?_
  refine i_287_1598 (x := 0) rfl ?_
  refine i_287_1599 (x := 0) rfl ?_
  refine i_287_1601 ?_
  refine i_287_1602 (c := 3) (by decide) ?_
  refine i_287_1603 (v := Value.int (xs 3)) g1 (by decide) (by decide) rfl ?_
  refine i_287_1604 (c := (xs 3).toInt64) rfl ?_
  refine i_287_1605 ?_
  refine i_287_1608 (c := (((xs 3).toInt64) &&& (4294967295 : Int64))) rfl ?_
  refine i_287_1609 (c := (xvv xs)) rfl ?_
  refine i_287_1610 (x := 0) rfl ?_
  refine i_287_1611 (x := 0) rfl ?_
  refine i_287_1613 ?_
  refine i_287_1614 (c := 4) (by decide) ?_
  refine i_287_1615 (v := Value.int (xs 4)) g1 (by decide) (by decide) rfl ?_
  refine i_287_1616 m1 (Nat.le_of_ble_eq_true rfl) h2 ?_
  refine i_287_1619 (lv2 := [(6, Value.int b), (5, Value.int 0), (4, Value.int 0), (3, Value.ref 194), (2, Value.ref 128), (1, Value.ref 7), (0, Value.ref 0)]) rfl ?_
  refine i_287_1621 (x := 128) rfl ?_
  refine i_287_1622 m2 (Nat.le_of_ble_eq_true rfl) (s_165_0 m2) ?_
  refine i_287_1625 (x := 0) rfl ?_
  refine i_287_1627 (fun _ => ?_) (fun h => absurd h (by decide))
  refine i_287_1632 (x := 0) rfl ?_
  refine i_287_1634 (fun h => absurd h (by decide)) (fun _ => ?_)
  refine i_287_1637 (x := 194) rfl ?_
  refine i_287_1638 ?_
  refine i_287_1639 (v := Value.long b.toInt64) o2 (by decide) (by decide) xup_s ?_
  refine i_287_1640 (x := b) rfl ?_
  refine i_287_1642 (c := b.toInt64) rfl ?_
  refine i_287_1643 (c := 0) (lg_cmp_s _) ?_
  refine i_287_1644 (fun _ => ?_) (fun h => absurd h (by decide))
  refine i_287_1649 ?_
  refine i_287_2154 (x := 0) (c := 6) (lv2 := [(4, Value.int 6), (6, Value.int b), (5, Value.int 0), (3, Value.ref 194), (2, Value.ref 128), (1, Value.ref 7), (0, Value.ref 0)]) rfl (by decide) rfl ?_
  refine i_287_2157 ?_
  refine i_287_23 (x := 6) rfl ?_
  refine i_287_25 (x := 0) rfl ?_
  refine i_287_26 (c := 6) g2 (by decide) ?_
  refine i_287_27 ?_
  refine i_287_29 (c := 0) (by decide) ?_
  refine i_287_30 (fun _ => ?_) (fun h => absurd h (by decide))
  refine i_287_2160 ?_
  exact i_287_2161 rfl ⟨rfl, rfl⟩
theorem op16v_00 {d : Nat} {xs : Nat → Int32} (h0 : ((xs 0) &&& (31 : Int32)).toInt = 16) (c0 : 0 ≤ (xs 1).toInt) (c1 : (xs 1).toInt < 16) (c2 : 0 ≤ (xs 4).toInt) (c3 : (xs 4).toInt ≤ 4) (c4 : 0 ≤ (xfd (xvv xs)).toInt) (c5 : (xfd (xvv xs)).toInt ≤ 2047) (c6 : (xfd (xvv xs)).toInt ≠ 2047) (c7 : (xfd (xvv xs)).toInt = 0) (c8 : (lg_cmp (xfr (xvv xs)) (0 : Int64)).toInt ≠ 0) (c9 : 0 ≤ (lg_cmp (xvv xs) (0 : Int64)).toInt) : ∃ w1, xEv (d + 20) 287 23 [(4, Value.int 0), (3, Value.ref 194), (2, Value.ref 128), (1, Value.ref 7), (0, Value.ref 0)] [] (W0 6 xs) (fun o' w' => o' = .inl (some (Value.int 1)) ∧ w' = w1) ∧ w1.length ≤ 220 ∧ xsz w1 ≤ 200000 := by
  obtain ⟨w1, r1, k1, o1⟩ := cls16_00 (d := d + 1) c0 c1 c2 c3 c4 c5 c6 c7 c8 c9
  obtain ⟨w2, r2, k2, f, hf⟩ := mdl16_00 (d := d + 11) k1 c0 c1 c2 c3 c4 c5 c6 c7 c8 c9
  have p128 : xPC 128 := Or.inl ⟨by decide, by decide⟩
  have p0 : xPC 0 := Or.inr rfl
  have q194 : xPM 194 := Or.inr rfl
  have q0 : xPM 0 := Or.inl (by decide)
  exact ⟨w2, law16x h0 r1 r2 ((k1.1 128 p128).trans W0_128) hf ((k2.1 194 q194).trans o1) ((k1.1 0 p0).trans W0_0) ((k2.1 0 q0).trans ((k1.1 0 p0).trans W0_0)), by rw [k2.2.1, k1.2.1, W0_len]; decide, by rw [k2.2.2, k1.2.2, W0_sz]; decide⟩
theorem op16v_10 {d : Nat} {xs : Nat → Int32} (h0 : ((xs 0) &&& (31 : Int32)).toInt = 16) (c0 : 0 ≤ (xs 1).toInt) (c1 : (xs 1).toInt < 16) (c2 : 0 ≤ (xs 4).toInt) (c3 : (xs 4).toInt ≤ 4) (c4 : 0 ≤ (xfd (xvv xs)).toInt) (c5 : (xfd (xvv xs)).toInt ≤ 2047) (c6 : (xfd (xvv xs)).toInt ≠ 2047) (c7 : (xfd (xvv xs)).toInt ≠ 0) (c8 : 0 ≤ (lg_cmp (xvv xs) (0 : Int64)).toInt) : ∃ w1, xEv (d + 20) 287 23 [(4, Value.int 0), (3, Value.ref 194), (2, Value.ref 128), (1, Value.ref 7), (0, Value.ref 0)] [] (W0 6 xs) (fun o' w' => o' = .inl (some (Value.int 1)) ∧ w' = w1) ∧ w1.length ≤ 220 ∧ xsz w1 ≤ 200000 := by
  obtain ⟨w1, r1, k1, o1⟩ := cls16_10 (d := d + 1) c0 c1 c2 c3 c4 c5 c6 c7 c8
  obtain ⟨w2, r2, k2, f, hf⟩ := mdl16_10 (d := d + 11) k1 c0 c1 c2 c3 c4 c5 c6 c7 c8
  have p128 : xPC 128 := Or.inl ⟨by decide, by decide⟩
  have p0 : xPC 0 := Or.inr rfl
  have q194 : xPM 194 := Or.inr rfl
  have q0 : xPM 0 := Or.inl (by decide)
  exact ⟨w2, law16x h0 r1 r2 ((k1.1 128 p128).trans W0_128) hf ((k2.1 194 q194).trans o1) ((k1.1 0 p0).trans W0_0) ((k2.1 0 q0).trans ((k1.1 0 p0).trans W0_0)), by rw [k2.2.1, k1.2.1, W0_len]; decide, by rw [k2.2.2, k1.2.2, W0_sz]; decide⟩
theorem op16v_01 {d : Nat} {xs : Nat → Int32} (h0 : ((xs 0) &&& (31 : Int32)).toInt = 16) (c0 : 0 ≤ (xs 1).toInt) (c1 : (xs 1).toInt < 16) (c2 : 0 ≤ (xs 4).toInt) (c3 : (xs 4).toInt ≤ 4) (c4 : 0 ≤ (xfd (xvv xs)).toInt) (c5 : (xfd (xvv xs)).toInt ≤ 2047) (c6 : (xfd (xvv xs)).toInt ≠ 2047) (c7 : (xfd (xvv xs)).toInt = 0) (c8 : (lg_cmp (xfr (xvv xs)) (0 : Int64)).toInt ≠ 0) (c9 : (lg_cmp (xvv xs) (0 : Int64)).toInt < 0) : ∃ w1, xEv (d + 20) 287 23 [(4, Value.int 0), (3, Value.ref 194), (2, Value.ref 128), (1, Value.ref 7), (0, Value.ref 0)] [] (W0 6 xs) (fun o' w' => o' = .inl (some (Value.int 1)) ∧ w' = w1) ∧ w1.length ≤ 220 ∧ xsz w1 ≤ 200000 := by
  obtain ⟨w1, r1, k1, o1⟩ := cls16_01 (d := d + 1) c0 c1 c2 c3 c4 c5 c6 c7 c8 c9
  obtain ⟨w2, r2, k2, f, hf⟩ := mdl16_01 (d := d + 11) k1 c0 c1 c2 c3 c4 c5 c6 c7 c8 c9
  have p128 : xPC 128 := Or.inl ⟨by decide, by decide⟩
  have p0 : xPC 0 := Or.inr rfl
  have q194 : xPM 194 := Or.inr rfl
  have q0 : xPM 0 := Or.inl (by decide)
  exact ⟨w2, law16x h0 r1 r2 ((k1.1 128 p128).trans W0_128) hf ((k2.1 194 q194).trans o1) ((k1.1 0 p0).trans W0_0) ((k2.1 0 q0).trans ((k1.1 0 p0).trans W0_0)), by rw [k2.2.1, k1.2.1, W0_len]; decide, by rw [k2.2.2, k1.2.2, W0_sz]; decide⟩
theorem op16v_11 {d : Nat} {xs : Nat → Int32} (h0 : ((xs 0) &&& (31 : Int32)).toInt = 16) (c0 : 0 ≤ (xs 1).toInt) (c1 : (xs 1).toInt < 16) (c2 : 0 ≤ (xs 4).toInt) (c3 : (xs 4).toInt ≤ 4) (c4 : 0 ≤ (xfd (xvv xs)).toInt) (c5 : (xfd (xvv xs)).toInt ≤ 2047) (c6 : (xfd (xvv xs)).toInt ≠ 2047) (c7 : (xfd (xvv xs)).toInt ≠ 0) (c8 : (lg_cmp (xvv xs) (0 : Int64)).toInt < 0) : ∃ w1, xEv (d + 20) 287 23 [(4, Value.int 0), (3, Value.ref 194), (2, Value.ref 128), (1, Value.ref 7), (0, Value.ref 0)] [] (W0 6 xs) (fun o' w' => o' = .inl (some (Value.int 1)) ∧ w' = w1) ∧ w1.length ≤ 220 ∧ xsz w1 ≤ 200000 := by
  obtain ⟨w1, r1, k1, o1⟩ := cls16_11 (d := d + 1) c0 c1 c2 c3 c4 c5 c6 c7 c8
  obtain ⟨w2, r2, k2, f, hf⟩ := mdl16_11 (d := d + 11) k1 c0 c1 c2 c3 c4 c5 c6 c7 c8
  have p128 : xPC 128 := Or.inl ⟨by decide, by decide⟩
  have p0 : xPC 0 := Or.inr rfl
  have q194 : xPM 194 := Or.inr rfl
  have q0 : xPM 0 := Or.inl (by decide)
  exact ⟨w2, law16x h0 r1 r2 ((k1.1 128 p128).trans W0_128) hf ((k2.1 194 q194).trans o1) ((k1.1 0 p0).trans W0_0) ((k2.1 0 q0).trans ((k1.1 0 p0).trans W0_0)), by rw [k2.2.1, k1.2.1, W0_len]; decide, by rw [k2.2.2, k1.2.2, W0_sz]; decide⟩
theorem s_128_8 {d : Nat} {w : xW} {a0 : Int32} {b0 : Int64} {a1 : Int32} (e0 : a0.toInt < 0) : xRun (d + 6) 128 [Value.ref 7, Value.int a0, Value.long b0, Value.int a1] w (.inr w.length) (w ++ [Sum.inr (14, [])]) := by
  refine xRun.of ?_
  refine i_128_0 (x := a0) rfl ?_
  refine i_128_1 (Nat.le_of_ble_eq_true rfl) (s_15_1 e0) ?_
  refine i_128_4 (fun _ => ?_) (fun h => absurd h (by decide))
  exact i_128_15 (by omega) (Nat.le_of_ble_eq_true rfl) ⟨rfl, rfl⟩
theorem s_127_8 {d : Nat} {w : xW} {a0 : Int32} {b0 : Int64} {a1 : Int32} (hw0 : w[7]? = some (Sum.inr (0, [Value.ref 8, Value.ref 78, Value.ref 9, Value.ref 10, Value.ref 13, Value.ref 16, Value.ref 19, Value.ref 93, Value.ref 108, Value.ref 113, Value.ref 29, Value.int 0]))) (e1 : a0.toInt < 0) : xRun (d + 7) 127 [Value.ref 7, Value.int a0, Value.long b0, Value.int a1, Value.ref 194] w (.inl (some (Value.int 1))) (w ++ [Sum.inr (14, [])]) := by
  refine xRun.of ?_
  refine i_127_0 (x := 194) rfl ?_
  refine i_127_2 ?_
  refine i_127_3 (x := 7) rfl ?_
  refine i_127_4 (x := a0) rfl ?_
  refine i_127_5 (x := b0) rfl ?_
  refine i_127_6 (x := a1) rfl ?_
  refine j_127_8 hw0 (Nat.le_of_ble_eq_true rfl) (s_128_8 e1) (xDone.c xgl rfl rfl ?_)
  refine i_127_16 (lv2 := [(6, Value.ref w.length), (0, Value.ref 7), (1, Value.int a0), (2, Value.long b0), (4, Value.int a1), (5, Value.ref 194)]) rfl ?_
  refine i_127_18 ?_
  exact i_127_19 ⟨rfl, rfl⟩
theorem s_248_0 {d : Nat} {w : xW} {a0 : Int32} {b0 : Int64} {a1 : Int32} (e0 : a0.toInt < 0) : xRun (d + 8) 248 [Value.ref 128, Value.int a0, Value.long b0, Value.int a1] w (.inr w.length) (w ++ [Sum.inr (14, [])]) := by
  refine xRun.of ?_
  refine i_248_0 (x := a0) rfl ?_
  exact j_248_1 (Nat.le_of_ble_eq_true rfl) (s_168_1 e0) (xDone.t xgl rfl rfl ⟨rfl, rfl⟩)
theorem s_247_0 {d : Nat} {w : xW} {a0 : Int32} {b0 : Int64} {a1 : Int32} (hw0 : w[128]? = some (Sum.inr (12, [Value.ref 129, Value.ref 131, Value.ref 133, Value.ref 135, Value.ref 137, Value.ref 139, Value.ref 141, Value.ref 143, Value.ref 145, Value.ref 147, Value.ref 149, Value.ref 151, Value.ref 153, Value.ref 154, Value.ref 155, Value.ref 156, Value.ref 157, Value.int (-16384), Value.int 16384, Value.int 0, Value.int 0, Value.int 0, Value.ref 158, Value.ref 159, Value.int 0, Value.int 0, Value.int 0, Value.int 0, Value.int 0, Value.int 0, Value.int 0, Value.int 0]))) (e1 : a0.toInt < 0) : xRun (d + 9) 247 [Value.ref 128, Value.int a0, Value.long b0, Value.int a1] w (.inl (some (Value.int 0))) (((w.set 128 (Sum.inr (12, [Value.ref 129, Value.ref 131, Value.ref 133, Value.ref 135, Value.ref 137, Value.ref 139, Value.ref 141, Value.ref 143, Value.ref 145, Value.ref 147, Value.ref 149, Value.ref 151, Value.ref 153, Value.ref 154, Value.ref 155, Value.ref 156, Value.ref 157, Value.int (-16384), Value.int 16384, Value.int 0, Value.int 0, Value.int 0, Value.ref 158, Value.ref 159, Value.int 0, Value.int 0, Value.int 0, Value.int 0, Value.int 0, Value.int 0, Value.int 0, Value.int 0]))) ++ [Sum.inr (14, [])]).set 128 (Sum.inr (12, [Value.ref 129, Value.ref 131, Value.ref 133, Value.ref 135, Value.ref 137, Value.ref 139, Value.ref 141, Value.ref 143, Value.ref 145, Value.ref 147, Value.ref 149, Value.ref 151, Value.ref 153, Value.ref 154, Value.ref 155, Value.ref 156, Value.ref 157, Value.int (-16384), Value.int 16384, Value.int 0, Value.int 0, Value.int 0, Value.ref 158, Value.ref 159, Value.int 0, Value.int 0, Value.int 0, Value.int 0, Value.int 0, Value.int 0, Value.int 0, Value.int 1]))) := by
  refine xRun.of ?_
  refine i_247_0 (x := 128) rfl ?_
  refine i_247_1 ?_
  refine i_247_2 (fs2 := [Value.ref 129, Value.ref 131, Value.ref 133, Value.ref 135, Value.ref 137, Value.ref 139, Value.ref 141, Value.ref 143, Value.ref 145, Value.ref 147, Value.ref 149, Value.ref 151, Value.ref 153, Value.ref 154, Value.ref 155, Value.ref 156, Value.ref 157, Value.int (-16384), Value.int 16384, Value.int 0, Value.int 0, Value.int 0, Value.ref 158, Value.ref 159, Value.int 0, Value.int 0, Value.int 0, Value.int 0, Value.int 0, Value.int 0, Value.int 0, Value.int 0]) hw0 (Nat.le_of_ble_eq_true rfl) rfl (by decide) ?_
  refine i_247_5 (x := 128) rfl ?_
  refine i_247_6 (x := a0) rfl ?_
  refine i_247_7 (x := b0) rfl ?_
  refine i_247_8 (x := a1) rfl ?_
  refine j_247_10 (xgs hw0) (Nat.le_of_ble_eq_true rfl) (s_248_0 e1) (xDone.c xgl rfl rfl ?_)
  refine i_247_14 (lv2 := [(5, Value.ref ((w.set 128 (Sum.inr (12, [Value.ref 129, Value.ref 131, Value.ref 133, Value.ref 135, Value.ref 137, Value.ref 139, Value.ref 141, Value.ref 143, Value.ref 145, Value.ref 147, Value.ref 149, Value.ref 151, Value.ref 153, Value.ref 154, Value.ref 155, Value.ref 156, Value.ref 157, Value.int (-16384), Value.int 16384, Value.int 0, Value.int 0, Value.int 0, Value.ref 158, Value.ref 159, Value.int 0, Value.int 0, Value.int 0, Value.int 0, Value.int 0, Value.int 0, Value.int 0, Value.int 0]))).length)), (0, Value.ref 128), (1, Value.int a0), (2, Value.long b0), (4, Value.int a1)]) rfl ?_
  refine i_247_16 (x := 128) rfl ?_
  refine i_247_17 ?_
  refine i_247_18 (fs2 := [Value.ref 129, Value.ref 131, Value.ref 133, Value.ref 135, Value.ref 137, Value.ref 139, Value.ref 141, Value.ref 143, Value.ref 145, Value.ref 147, Value.ref 149, Value.ref 151, Value.ref 153, Value.ref 154, Value.ref 155, Value.ref 156, Value.ref 157, Value.int (-16384), Value.int 16384, Value.int 0, Value.int 0, Value.int 0, Value.ref 158, Value.ref 159, Value.int 0, Value.int 0, Value.int 0, Value.int 0, Value.int 0, Value.int 0, Value.int 0, Value.int 1]) (xga (xgs hw0)) (Nat.le_of_ble_eq_true rfl) rfl (by decide) ?_
  refine i_247_21 ?_
  exact i_247_22 ⟨rfl, rfl⟩
theorem o_16_0 {d : Nat} {xs : Nat → Int32} (h0 : ((xs 0) &&& (31 : Int32)).toInt = 16) (c0 : (xs 1).toInt < 0) : ∃ w1, xEv (d + 20) 287 23 [(4, Value.int 0), (3, Value.ref 194), (2, Value.ref 128), (1, Value.ref 7), (0, Value.ref 0)] [] (W0 6 xs) (fun o' w' => o' = .inl (some (Value.int 1)) ∧ w' = w1) ∧ w1.length ≤ 220 ∧ xsz w1 ≤ 200000 := by
  have f0 : 0 ≤ (xfd (xvv xs)).toInt := (xfd_b _).1
  have f1 : (xfd (xvv xs)).toInt ≤ 2047 := (xfd_b _).2
  refine ⟨(((((W0 6 xs) ++ [Sum.inr (14, [])]).set 128 (Sum.inr (12, [Value.ref 129, Value.ref 131, Value.ref 133, Value.ref 135, Value.ref 137, Value.ref 139, Value.ref 141, Value.ref 143, Value.ref 145, Value.ref 147, Value.ref 149, Value.ref 151, Value.ref 153, Value.ref 154, Value.ref 155, Value.ref 156, Value.ref 157, Value.int (-16384), Value.int 16384, Value.int 0, Value.int 0, Value.int 0, Value.ref 158, Value.ref 159, Value.int 0, Value.int 0, Value.int 0, Value.int 0, Value.int 0, Value.int 0, Value.int 0, Value.int 0]))) ++ [Sum.inr (14, [])]).set 128 (Sum.inr (12, [Value.ref 129, Value.ref 131, Value.ref 133, Value.ref 135, Value.ref 137, Value.ref 139, Value.ref 141, Value.ref 143, Value.ref 145, Value.ref 147, Value.ref 149, Value.ref 151, Value.ref 153, Value.ref 154, Value.ref 155, Value.ref 156, Value.ref 157, Value.int (-16384), Value.int 16384, Value.int 0, Value.int 0, Value.int 0, Value.ref 158, Value.ref 159, Value.int 0, Value.int 0, Value.int 0, Value.int 0, Value.int 0, Value.int 0, Value.int 0, Value.int 1]))), ?_, (show xLs _ 220 200000 from ?_)⟩
  · refine i_287_23 (x := 0) rfl ?_
    refine i_287_25 (x := 0) rfl ?_
    refine i_287_26 (c := 6) W0_0 (by decide) ?_
    refine i_287_27 ?_
    refine i_287_29 (c := 0) (by decide) ?_
    refine i_287_30 (fun h => absurd h (by decide)) (fun _ => ?_)
    refine i_287_33 (x := 0) rfl ?_
    refine i_287_34 (x := 0) rfl ?_
    refine i_287_36 (v := Value.int (xs 0)) W0_0 (by decide) (by decide) rfl ?_
    refine i_287_37 ?_
    refine i_287_39 (c := 16) (show ((xs 0) &&& (31 : Int32)) = 16 from (xge_c (n := 16) (by omega) rfl)) ?_
    refine i_287_40_16 rfl ?_
    refine i_287_1540 (x := 7) rfl ?_
    refine i_287_1541 (x := 0) rfl ?_
    refine i_287_1542 (x := 0) rfl ?_
    refine i_287_1544 ?_
    refine i_287_1545 (c := 1) (by decide) ?_
    refine i_287_1546 (v := Value.int (xs 1)) W0_0 (by decide) (by decide) rfl ?_
    refine i_287_1547 (x := 0) rfl ?_
    refine i_287_1548 (x := 0) rfl ?_
    refine i_287_1550 ?_
    refine i_287_1551 (c := 2) (by decide) ?_
    refine i_287_1552 (v := Value.int (xs 2)) W0_0 (by decide) (by decide) rfl ?_
    refine i_287_1553 (c := (xs 2).toInt64) rfl ?_
    refine i_287_1554 ?_
    refine i_287_1556 (c := (xsh (xs 2) (32 : Int32))) rfl ?_
    refine i_287_1557 (x := 0) rfl ?_
    refine i_287_1558 (x := 0) rfl ?_
    refine i_287_1560 ?_
    refine i_287_1561 (c := 3) (by decide) ?_
    refine i_287_1562 (v := Value.int (xs 3)) W0_0 (by decide) (by decide) rfl ?_
    refine i_287_1563 (c := (xs 3).toInt64) rfl ?_
    refine i_287_1564 ?_
    refine i_287_1567 (c := (((xs 3).toInt64) &&& (4294967295 : Int64))) rfl ?_
    refine i_287_1568 (c := (xvv xs)) rfl ?_
    refine i_287_1569 (x := 0) rfl ?_
    refine i_287_1570 (x := 0) rfl ?_
    refine i_287_1572 ?_
    refine i_287_1573 (c := 4) (by decide) ?_
    refine i_287_1574 (v := Value.int (xs 4)) W0_0 (by decide) (by decide) rfl ?_
    refine i_287_1575 (x := 194) rfl ?_
    refine i_287_1576 (Nat.le_of_ble_eq_true rfl) (s_127_8 W0_7 (by omega)) ?_
    refine i_287_1579 (lv2 := [(5, Value.int 1), (4, Value.int 0), (3, Value.ref 194), (2, Value.ref 128), (1, Value.ref 7), (0, Value.ref 0)]) rfl ?_
    refine i_287_1581 (x := 128) rfl ?_
    refine i_287_1582 (x := 0) rfl ?_
    refine i_287_1583 (x := 0) rfl ?_
    refine i_287_1585 ?_
    refine i_287_1586 (c := 1) (by decide) ?_
    refine i_287_1587 (v := Value.int (xs 1)) (xga W0_0) (by decide) (by decide) rfl ?_
    refine i_287_1588 (x := 0) rfl ?_
    refine i_287_1589 (x := 0) rfl ?_
    refine i_287_1591 ?_
    refine i_287_1592 (c := 2) (by decide) ?_
    refine i_287_1593 (v := Value.int (xs 2)) (xga W0_0) (by decide) (by decide) rfl ?_
    refine i_287_1594 (c := (xs 2).toInt64) rfl ?_
    refine i_287_1595 ?_
    refine i_287_1597 (c := (xsh (xs 2) (32 : Int32))) rfl ?_
    refine i_287_1598 (x := 0) rfl ?_
    refine i_287_1599 (x := 0) rfl ?_
    refine i_287_1601 ?_
    refine i_287_1602 (c := 3) (by decide) ?_
    refine i_287_1603 (v := Value.int (xs 3)) (xga W0_0) (by decide) (by decide) rfl ?_
    refine i_287_1604 (c := (xs 3).toInt64) rfl ?_
    refine i_287_1605 ?_
    refine i_287_1608 (c := (((xs 3).toInt64) &&& (4294967295 : Int64))) rfl ?_
    refine i_287_1609 (c := (xvv xs)) rfl ?_
    refine i_287_1610 (x := 0) rfl ?_
    refine i_287_1611 (x := 0) rfl ?_
    refine i_287_1613 ?_
    refine i_287_1614 (c := 4) (by decide) ?_
    refine i_287_1615 (v := Value.int (xs 4)) (xga W0_0) (by decide) (by decide) rfl ?_
    refine i_287_1616 (xga W0_128) (Nat.le_of_ble_eq_true rfl) (s_247_0 (xga W0_128) (by omega)) ?_
    refine i_287_1619 (lv2 := [(6, Value.int 0), (5, Value.int 1), (4, Value.int 0), (3, Value.ref 194), (2, Value.ref 128), (1, Value.ref 7), (0, Value.ref 0)]) rfl ?_
    refine i_287_1621 (x := 128) rfl ?_
    refine i_287_1622 (xgs (xga (xgs (xga W0_128)))) (Nat.le_of_ble_eq_true rfl) (s_165_1 (xgs (xga (xgs (xga W0_128))))) ?_
    refine i_287_1625 (x := 1) rfl ?_
    refine i_287_1627 (fun _ => ?_) (fun h => absurd h (by decide))
    refine i_287_1632 (x := 1) rfl ?_
    refine i_287_1634 (fun _ => ?_) (fun h => absurd h (by decide))
    refine i_287_1649 ?_
    refine i_287_2154 (x := 0) (c := 6) (lv2 := [(4, Value.int 6), (6, Value.int 0), (5, Value.int 1), (3, Value.ref 194), (2, Value.ref 128), (1, Value.ref 7), (0, Value.ref 0)]) rfl (by decide) rfl ?_
    refine i_287_2157 ?_
    refine i_287_23 (x := 6) rfl ?_
    refine i_287_25 (x := 0) rfl ?_
    refine i_287_26 (c := 6) (xgn (by decide) (xga (xgn (by decide) (xga W0_0)))) (by decide) ?_
    refine i_287_27 ?_
    refine i_287_29 (c := 0) (by decide) ?_
    refine i_287_30 (fun _ => ?_) (fun h => absurd h (by decide))
    refine i_287_2160 ?_
    exact i_287_2161 rfl ⟨rfl, rfl⟩
  · refine xLs.set ?_ (xga (xgs (xga W0_128))) xcs_o
    refine xLs.app (n := 219) (z := 199994) (m := 6) ?_ rfl
    refine xLs.set ?_ (xga W0_128) xcs_o
    refine xLs.app (n := 218) (z := 199988) (m := 6) ?_ rfl
    exact ⟨Nat.le_trans (Nat.le_of_eq W0_len) (by decide), Nat.le_trans (Nat.le_of_eq W0_sz) (by decide)⟩
theorem s_128_9 {d : Nat} {w : xW} {a0 : Int32} {b0 : Int64} {a1 : Int32} (e0 : 0 ≤ a0.toInt) (e1 : a0.toInt < 16) (e2 : a1.toInt < 0) : xRun (d + 6) 128 [Value.ref 7, Value.int a0, Value.long b0, Value.int a1] w (.inr w.length) (w ++ [Sum.inr (14, [])]) := by
  refine xRun.of ?_
  refine i_128_0 (x := a0) rfl ?_
  refine i_128_1 (Nat.le_of_ble_eq_true rfl) (s_15_0 e0 e1) ?_
  refine i_128_4 (fun h => absurd h (by decide)) (fun _ => ?_)
  refine i_128_7 (x := a1) rfl ?_
  refine i_128_9 (Nat.le_of_ble_eq_true rfl) (s_22_1 e2) ?_
  refine i_128_12 (fun h => absurd h (by decide)) (fun _ => ?_)
  exact i_128_15 (by omega) (Nat.le_of_ble_eq_true rfl) ⟨rfl, rfl⟩
theorem s_127_9 {d : Nat} {w : xW} {a0 : Int32} {b0 : Int64} {a1 : Int32} (hw0 : w[7]? = some (Sum.inr (0, [Value.ref 8, Value.ref 78, Value.ref 9, Value.ref 10, Value.ref 13, Value.ref 16, Value.ref 19, Value.ref 93, Value.ref 108, Value.ref 113, Value.ref 29, Value.int 0]))) (e1 : 0 ≤ a0.toInt) (e2 : a0.toInt < 16) (e3 : a1.toInt < 0) : xRun (d + 7) 127 [Value.ref 7, Value.int a0, Value.long b0, Value.int a1, Value.ref 194] w (.inl (some (Value.int 1))) (w ++ [Sum.inr (14, [])]) := by
  refine xRun.of ?_
  refine i_127_0 (x := 194) rfl ?_
  refine i_127_2 ?_
  refine i_127_3 (x := 7) rfl ?_
  refine i_127_4 (x := a0) rfl ?_
  refine i_127_5 (x := b0) rfl ?_
  refine i_127_6 (x := a1) rfl ?_
  refine j_127_8 hw0 (Nat.le_of_ble_eq_true rfl) (s_128_9 e1 e2 e3) (xDone.c xgl rfl rfl ?_)
  refine i_127_16 (lv2 := [(6, Value.ref w.length), (0, Value.ref 7), (1, Value.int a0), (2, Value.long b0), (4, Value.int a1), (5, Value.ref 194)]) rfl ?_
  refine i_127_18 ?_
  exact i_127_19 ⟨rfl, rfl⟩
theorem s_248_1 {d : Nat} {w : xW} {a0 : Int32} {b0 : Int64} {a1 : Int32} (e0 : 0 ≤ a0.toInt) (e1 : a0.toInt ≤ 15) (e2 : a1.toInt < 0) : xRun (d + 8) 248 [Value.ref 128, Value.int a0, Value.long b0, Value.int a1] w (.inr w.length) (w ++ [Sum.inr (14, [])]) := by
  refine xRun.of ?_
  refine i_248_0 (x := a0) rfl ?_
  refine i_248_1 (Nat.le_of_ble_eq_true rfl) (s_168_0 e0 e1) ?_
  refine i_248_4 (x := a1) rfl ?_
  exact j_248_6 (Nat.le_of_ble_eq_true rfl) (s_178_1 e2) (xDone.t xgl rfl rfl ⟨rfl, rfl⟩)
theorem s_247_1 {d : Nat} {w : xW} {a0 : Int32} {b0 : Int64} {a1 : Int32} (hw0 : w[128]? = some (Sum.inr (12, [Value.ref 129, Value.ref 131, Value.ref 133, Value.ref 135, Value.ref 137, Value.ref 139, Value.ref 141, Value.ref 143, Value.ref 145, Value.ref 147, Value.ref 149, Value.ref 151, Value.ref 153, Value.ref 154, Value.ref 155, Value.ref 156, Value.ref 157, Value.int (-16384), Value.int 16384, Value.int 0, Value.int 0, Value.int 0, Value.ref 158, Value.ref 159, Value.int 0, Value.int 0, Value.int 0, Value.int 0, Value.int 0, Value.int 0, Value.int 0, Value.int 0]))) (e1 : 0 ≤ a0.toInt) (e2 : a0.toInt ≤ 15) (e3 : a1.toInt < 0) : xRun (d + 9) 247 [Value.ref 128, Value.int a0, Value.long b0, Value.int a1] w (.inl (some (Value.int 0))) (((w.set 128 (Sum.inr (12, [Value.ref 129, Value.ref 131, Value.ref 133, Value.ref 135, Value.ref 137, Value.ref 139, Value.ref 141, Value.ref 143, Value.ref 145, Value.ref 147, Value.ref 149, Value.ref 151, Value.ref 153, Value.ref 154, Value.ref 155, Value.ref 156, Value.ref 157, Value.int (-16384), Value.int 16384, Value.int 0, Value.int 0, Value.int 0, Value.ref 158, Value.ref 159, Value.int 0, Value.int 0, Value.int 0, Value.int 0, Value.int 0, Value.int 0, Value.int 0, Value.int 0]))) ++ [Sum.inr (14, [])]).set 128 (Sum.inr (12, [Value.ref 129, Value.ref 131, Value.ref 133, Value.ref 135, Value.ref 137, Value.ref 139, Value.ref 141, Value.ref 143, Value.ref 145, Value.ref 147, Value.ref 149, Value.ref 151, Value.ref 153, Value.ref 154, Value.ref 155, Value.ref 156, Value.ref 157, Value.int (-16384), Value.int 16384, Value.int 0, Value.int 0, Value.int 0, Value.ref 158, Value.ref 159, Value.int 0, Value.int 0, Value.int 0, Value.int 0, Value.int 0, Value.int 0, Value.int 0, Value.int 1]))) := by
  refine xRun.of ?_
  refine i_247_0 (x := 128) rfl ?_
  refine i_247_1 ?_
  refine i_247_2 (fs2 := [Value.ref 129, Value.ref 131, Value.ref 133, Value.ref 135, Value.ref 137, Value.ref 139, Value.ref 141, Value.ref 143, Value.ref 145, Value.ref 147, Value.ref 149, Value.ref 151, Value.ref 153, Value.ref 154, Value.ref 155, Value.ref 156, Value.ref 157, Value.int (-16384), Value.int 16384, Value.int 0, Value.int 0, Value.int 0, Value.ref 158, Value.ref 159, Value.int 0, Value.int 0, Value.int 0, Value.int 0, Value.int 0, Value.int 0, Value.int 0, Value.int 0]) hw0 (Nat.le_of_ble_eq_true rfl) rfl (by decide) ?_
  refine i_247_5 (x := 128) rfl ?_
  refine i_247_6 (x := a0) rfl ?_
  refine i_247_7 (x := b0) rfl ?_
  refine i_247_8 (x := a1) rfl ?_
  refine j_247_10 (xgs hw0) (Nat.le_of_ble_eq_true rfl) (s_248_1 e1 e2 e3) (xDone.c xgl rfl rfl ?_)
  refine i_247_14 (lv2 := [(5, Value.ref ((w.set 128 (Sum.inr (12, [Value.ref 129, Value.ref 131, Value.ref 133, Value.ref 135, Value.ref 137, Value.ref 139, Value.ref 141, Value.ref 143, Value.ref 145, Value.ref 147, Value.ref 149, Value.ref 151, Value.ref 153, Value.ref 154, Value.ref 155, Value.ref 156, Value.ref 157, Value.int (-16384), Value.int 16384, Value.int 0, Value.int 0, Value.int 0, Value.ref 158, Value.ref 159, Value.int 0, Value.int 0, Value.int 0, Value.int 0, Value.int 0, Value.int 0, Value.int 0, Value.int 0]))).length)), (0, Value.ref 128), (1, Value.int a0), (2, Value.long b0), (4, Value.int a1)]) rfl ?_
  refine i_247_16 (x := 128) rfl ?_
  refine i_247_17 ?_
  refine i_247_18 (fs2 := [Value.ref 129, Value.ref 131, Value.ref 133, Value.ref 135, Value.ref 137, Value.ref 139, Value.ref 141, Value.ref 143, Value.ref 145, Value.ref 147, Value.ref 149, Value.ref 151, Value.ref 153, Value.ref 154, Value.ref 155, Value.ref 156, Value.ref 157, Value.int (-16384), Value.int 16384, Value.int 0, Value.int 0, Value.int 0, Value.ref 158, Value.ref 159, Value.int 0, Value.int 0, Value.int 0, Value.int 0, Value.int 0, Value.int 0, Value.int 0, Value.int 1]) (xga (xgs hw0)) (Nat.le_of_ble_eq_true rfl) rfl (by decide) ?_
  refine i_247_21 ?_
  exact i_247_22 ⟨rfl, rfl⟩
theorem o_16_1 {d : Nat} {xs : Nat → Int32} (h0 : ((xs 0) &&& (31 : Int32)).toInt = 16) (c0 : 0 ≤ (xs 1).toInt) (c1 : (xs 1).toInt < 16) (c2 : (xs 4).toInt < 0) : ∃ w1, xEv (d + 20) 287 23 [(4, Value.int 0), (3, Value.ref 194), (2, Value.ref 128), (1, Value.ref 7), (0, Value.ref 0)] [] (W0 6 xs) (fun o' w' => o' = .inl (some (Value.int 1)) ∧ w' = w1) ∧ w1.length ≤ 220 ∧ xsz w1 ≤ 200000 := by
  have f0 : 0 ≤ (xfd (xvv xs)).toInt := (xfd_b _).1
  have f1 : (xfd (xvv xs)).toInt ≤ 2047 := (xfd_b _).2
  refine ⟨(((((W0 6 xs) ++ [Sum.inr (14, [])]).set 128 (Sum.inr (12, [Value.ref 129, Value.ref 131, Value.ref 133, Value.ref 135, Value.ref 137, Value.ref 139, Value.ref 141, Value.ref 143, Value.ref 145, Value.ref 147, Value.ref 149, Value.ref 151, Value.ref 153, Value.ref 154, Value.ref 155, Value.ref 156, Value.ref 157, Value.int (-16384), Value.int 16384, Value.int 0, Value.int 0, Value.int 0, Value.ref 158, Value.ref 159, Value.int 0, Value.int 0, Value.int 0, Value.int 0, Value.int 0, Value.int 0, Value.int 0, Value.int 0]))) ++ [Sum.inr (14, [])]).set 128 (Sum.inr (12, [Value.ref 129, Value.ref 131, Value.ref 133, Value.ref 135, Value.ref 137, Value.ref 139, Value.ref 141, Value.ref 143, Value.ref 145, Value.ref 147, Value.ref 149, Value.ref 151, Value.ref 153, Value.ref 154, Value.ref 155, Value.ref 156, Value.ref 157, Value.int (-16384), Value.int 16384, Value.int 0, Value.int 0, Value.int 0, Value.ref 158, Value.ref 159, Value.int 0, Value.int 0, Value.int 0, Value.int 0, Value.int 0, Value.int 0, Value.int 0, Value.int 1]))), ?_, (show xLs _ 220 200000 from ?_)⟩
  · refine i_287_23 (x := 0) rfl ?_
    refine i_287_25 (x := 0) rfl ?_
    refine i_287_26 (c := 6) W0_0 (by decide) ?_
    refine i_287_27 ?_
    refine i_287_29 (c := 0) (by decide) ?_
    refine i_287_30 (fun h => absurd h (by decide)) (fun _ => ?_)
    refine i_287_33 (x := 0) rfl ?_
    refine i_287_34 (x := 0) rfl ?_
    refine i_287_36 (v := Value.int (xs 0)) W0_0 (by decide) (by decide) rfl ?_
    refine i_287_37 ?_
    refine i_287_39 (c := 16) (show ((xs 0) &&& (31 : Int32)) = 16 from (xge_c (n := 16) (by omega) rfl)) ?_
    refine i_287_40_16 rfl ?_
    refine i_287_1540 (x := 7) rfl ?_
    refine i_287_1541 (x := 0) rfl ?_
    refine i_287_1542 (x := 0) rfl ?_
    refine i_287_1544 ?_
    refine i_287_1545 (c := 1) (by decide) ?_
    refine i_287_1546 (v := Value.int (xs 1)) W0_0 (by decide) (by decide) rfl ?_
    refine i_287_1547 (x := 0) rfl ?_
    refine i_287_1548 (x := 0) rfl ?_
    refine i_287_1550 ?_
    refine i_287_1551 (c := 2) (by decide) ?_
    refine i_287_1552 (v := Value.int (xs 2)) W0_0 (by decide) (by decide) rfl ?_
    refine i_287_1553 (c := (xs 2).toInt64) rfl ?_
    refine i_287_1554 ?_
    refine i_287_1556 (c := (xsh (xs 2) (32 : Int32))) rfl ?_
    refine i_287_1557 (x := 0) rfl ?_
    refine i_287_1558 (x := 0) rfl ?_
    refine i_287_1560 ?_
    refine i_287_1561 (c := 3) (by decide) ?_
    refine i_287_1562 (v := Value.int (xs 3)) W0_0 (by decide) (by decide) rfl ?_
    refine i_287_1563 (c := (xs 3).toInt64) rfl ?_
    refine i_287_1564 ?_
    refine i_287_1567 (c := (((xs 3).toInt64) &&& (4294967295 : Int64))) rfl ?_
    refine i_287_1568 (c := (xvv xs)) rfl ?_
    refine i_287_1569 (x := 0) rfl ?_
    refine i_287_1570 (x := 0) rfl ?_
    refine i_287_1572 ?_
    refine i_287_1573 (c := 4) (by decide) ?_
    refine i_287_1574 (v := Value.int (xs 4)) W0_0 (by decide) (by decide) rfl ?_
    refine i_287_1575 (x := 194) rfl ?_
    refine i_287_1576 (Nat.le_of_ble_eq_true rfl) (s_127_9 W0_7 (by omega) (by omega) (by omega)) ?_
    refine i_287_1579 (lv2 := [(5, Value.int 1), (4, Value.int 0), (3, Value.ref 194), (2, Value.ref 128), (1, Value.ref 7), (0, Value.ref 0)]) rfl ?_
    refine i_287_1581 (x := 128) rfl ?_
    refine i_287_1582 (x := 0) rfl ?_
    refine i_287_1583 (x := 0) rfl ?_
    refine i_287_1585 ?_
    refine i_287_1586 (c := 1) (by decide) ?_
    refine i_287_1587 (v := Value.int (xs 1)) (xga W0_0) (by decide) (by decide) rfl ?_
    refine i_287_1588 (x := 0) rfl ?_
    refine i_287_1589 (x := 0) rfl ?_
    refine i_287_1591 ?_
    refine i_287_1592 (c := 2) (by decide) ?_
    refine i_287_1593 (v := Value.int (xs 2)) (xga W0_0) (by decide) (by decide) rfl ?_
    refine i_287_1594 (c := (xs 2).toInt64) rfl ?_
    refine i_287_1595 ?_
    refine i_287_1597 (c := (xsh (xs 2) (32 : Int32))) rfl ?_
    refine i_287_1598 (x := 0) rfl ?_
    refine i_287_1599 (x := 0) rfl ?_
    refine i_287_1601 ?_
    refine i_287_1602 (c := 3) (by decide) ?_
    refine i_287_1603 (v := Value.int (xs 3)) (xga W0_0) (by decide) (by decide) rfl ?_
    refine i_287_1604 (c := (xs 3).toInt64) rfl ?_
    refine i_287_1605 ?_
    refine i_287_1608 (c := (((xs 3).toInt64) &&& (4294967295 : Int64))) rfl ?_
    refine i_287_1609 (c := (xvv xs)) rfl ?_
    refine i_287_1610 (x := 0) rfl ?_
    refine i_287_1611 (x := 0) rfl ?_
    refine i_287_1613 ?_
    refine i_287_1614 (c := 4) (by decide) ?_
    refine i_287_1615 (v := Value.int (xs 4)) (xga W0_0) (by decide) (by decide) rfl ?_
    refine i_287_1616 (xga W0_128) (Nat.le_of_ble_eq_true rfl) (s_247_1 (xga W0_128) (by omega) (by omega) (by omega)) ?_
    refine i_287_1619 (lv2 := [(6, Value.int 0), (5, Value.int 1), (4, Value.int 0), (3, Value.ref 194), (2, Value.ref 128), (1, Value.ref 7), (0, Value.ref 0)]) rfl ?_
    refine i_287_1621 (x := 128) rfl ?_
    refine i_287_1622 (xgs (xga (xgs (xga W0_128)))) (Nat.le_of_ble_eq_true rfl) (s_165_1 (xgs (xga (xgs (xga W0_128))))) ?_
    refine i_287_1625 (x := 1) rfl ?_
    refine i_287_1627 (fun _ => ?_) (fun h => absurd h (by decide))
    refine i_287_1632 (x := 1) rfl ?_
    refine i_287_1634 (fun _ => ?_) (fun h => absurd h (by decide))
    refine i_287_1649 ?_
    refine i_287_2154 (x := 0) (c := 6) (lv2 := [(4, Value.int 6), (6, Value.int 0), (5, Value.int 1), (3, Value.ref 194), (2, Value.ref 128), (1, Value.ref 7), (0, Value.ref 0)]) rfl (by decide) rfl ?_
    refine i_287_2157 ?_
    refine i_287_23 (x := 6) rfl ?_
    refine i_287_25 (x := 0) rfl ?_
    refine i_287_26 (c := 6) (xgn (by decide) (xga (xgn (by decide) (xga W0_0)))) (by decide) ?_
    refine i_287_27 ?_
    refine i_287_29 (c := 0) (by decide) ?_
    refine i_287_30 (fun _ => ?_) (fun h => absurd h (by decide))
    refine i_287_2160 ?_
    exact i_287_2161 rfl ⟨rfl, rfl⟩
  · refine xLs.set ?_ (xga (xgs (xga W0_128))) xcs_o
    refine xLs.app (n := 219) (z := 199994) (m := 6) ?_ rfl
    refine xLs.set ?_ (xga W0_128) xcs_o
    refine xLs.app (n := 218) (z := 199988) (m := 6) ?_ rfl
    exact ⟨Nat.le_trans (Nat.le_of_eq W0_len) (by decide), Nat.le_trans (Nat.le_of_eq W0_sz) (by decide)⟩
theorem s_128_10 {d : Nat} {w : xW} {a0 : Int32} {b0 : Int64} {a1 : Int32} (e0 : 0 ≤ a0.toInt) (e1 : a0.toInt < 16) (e2 : 0 ≤ a1.toInt) (e3 : 4 < a1.toInt) : xRun (d + 6) 128 [Value.ref 7, Value.int a0, Value.long b0, Value.int a1] w (.inr w.length) (w ++ [Sum.inr (14, [])]) := by
  refine xRun.of ?_
  refine i_128_0 (x := a0) rfl ?_
  refine i_128_1 (Nat.le_of_ble_eq_true rfl) (s_15_0 e0 e1) ?_
  refine i_128_4 (fun h => absurd h (by decide)) (fun _ => ?_)
  refine i_128_7 (x := a1) rfl ?_
  refine i_128_9 (Nat.le_of_ble_eq_true rfl) (s_22_2 e2 e3) ?_
  refine i_128_12 (fun h => absurd h (by decide)) (fun _ => ?_)
  exact i_128_15 (by omega) (Nat.le_of_ble_eq_true rfl) ⟨rfl, rfl⟩
theorem s_127_10 {d : Nat} {w : xW} {a0 : Int32} {b0 : Int64} {a1 : Int32} (hw0 : w[7]? = some (Sum.inr (0, [Value.ref 8, Value.ref 78, Value.ref 9, Value.ref 10, Value.ref 13, Value.ref 16, Value.ref 19, Value.ref 93, Value.ref 108, Value.ref 113, Value.ref 29, Value.int 0]))) (e1 : 0 ≤ a0.toInt) (e2 : a0.toInt < 16) (e3 : 0 ≤ a1.toInt) (e4 : 4 < a1.toInt) : xRun (d + 7) 127 [Value.ref 7, Value.int a0, Value.long b0, Value.int a1, Value.ref 194] w (.inl (some (Value.int 1))) (w ++ [Sum.inr (14, [])]) := by
  refine xRun.of ?_
  refine i_127_0 (x := 194) rfl ?_
  refine i_127_2 ?_
  refine i_127_3 (x := 7) rfl ?_
  refine i_127_4 (x := a0) rfl ?_
  refine i_127_5 (x := b0) rfl ?_
  refine i_127_6 (x := a1) rfl ?_
  refine j_127_8 hw0 (Nat.le_of_ble_eq_true rfl) (s_128_10 e1 e2 e3 e4) (xDone.c xgl rfl rfl ?_)
  refine i_127_16 (lv2 := [(6, Value.ref w.length), (0, Value.ref 7), (1, Value.int a0), (2, Value.long b0), (4, Value.int a1), (5, Value.ref 194)]) rfl ?_
  refine i_127_18 ?_
  exact i_127_19 ⟨rfl, rfl⟩
theorem s_248_2 {d : Nat} {w : xW} {a0 : Int32} {b0 : Int64} {a1 : Int32} (e0 : 0 ≤ a0.toInt) (e1 : a0.toInt ≤ 15) (e2 : 0 ≤ a1.toInt) (e3 : 4 < a1.toInt) : xRun (d + 8) 248 [Value.ref 128, Value.int a0, Value.long b0, Value.int a1] w (.inr w.length) (w ++ [Sum.inr (14, [])]) := by
  refine xRun.of ?_
  refine i_248_0 (x := a0) rfl ?_
  refine i_248_1 (Nat.le_of_ble_eq_true rfl) (s_168_0 e0 e1) ?_
  refine i_248_4 (x := a1) rfl ?_
  exact j_248_6 (Nat.le_of_ble_eq_true rfl) (s_178_2 e2 e3) (xDone.t xgl rfl rfl ⟨rfl, rfl⟩)
theorem s_247_2 {d : Nat} {w : xW} {a0 : Int32} {b0 : Int64} {a1 : Int32} (hw0 : w[128]? = some (Sum.inr (12, [Value.ref 129, Value.ref 131, Value.ref 133, Value.ref 135, Value.ref 137, Value.ref 139, Value.ref 141, Value.ref 143, Value.ref 145, Value.ref 147, Value.ref 149, Value.ref 151, Value.ref 153, Value.ref 154, Value.ref 155, Value.ref 156, Value.ref 157, Value.int (-16384), Value.int 16384, Value.int 0, Value.int 0, Value.int 0, Value.ref 158, Value.ref 159, Value.int 0, Value.int 0, Value.int 0, Value.int 0, Value.int 0, Value.int 0, Value.int 0, Value.int 0]))) (e1 : 0 ≤ a0.toInt) (e2 : a0.toInt ≤ 15) (e3 : 0 ≤ a1.toInt) (e4 : 4 < a1.toInt) : xRun (d + 9) 247 [Value.ref 128, Value.int a0, Value.long b0, Value.int a1] w (.inl (some (Value.int 0))) (((w.set 128 (Sum.inr (12, [Value.ref 129, Value.ref 131, Value.ref 133, Value.ref 135, Value.ref 137, Value.ref 139, Value.ref 141, Value.ref 143, Value.ref 145, Value.ref 147, Value.ref 149, Value.ref 151, Value.ref 153, Value.ref 154, Value.ref 155, Value.ref 156, Value.ref 157, Value.int (-16384), Value.int 16384, Value.int 0, Value.int 0, Value.int 0, Value.ref 158, Value.ref 159, Value.int 0, Value.int 0, Value.int 0, Value.int 0, Value.int 0, Value.int 0, Value.int 0, Value.int 0]))) ++ [Sum.inr (14, [])]).set 128 (Sum.inr (12, [Value.ref 129, Value.ref 131, Value.ref 133, Value.ref 135, Value.ref 137, Value.ref 139, Value.ref 141, Value.ref 143, Value.ref 145, Value.ref 147, Value.ref 149, Value.ref 151, Value.ref 153, Value.ref 154, Value.ref 155, Value.ref 156, Value.ref 157, Value.int (-16384), Value.int 16384, Value.int 0, Value.int 0, Value.int 0, Value.ref 158, Value.ref 159, Value.int 0, Value.int 0, Value.int 0, Value.int 0, Value.int 0, Value.int 0, Value.int 0, Value.int 1]))) := by
  refine xRun.of ?_
  refine i_247_0 (x := 128) rfl ?_
  refine i_247_1 ?_
  refine i_247_2 (fs2 := [Value.ref 129, Value.ref 131, Value.ref 133, Value.ref 135, Value.ref 137, Value.ref 139, Value.ref 141, Value.ref 143, Value.ref 145, Value.ref 147, Value.ref 149, Value.ref 151, Value.ref 153, Value.ref 154, Value.ref 155, Value.ref 156, Value.ref 157, Value.int (-16384), Value.int 16384, Value.int 0, Value.int 0, Value.int 0, Value.ref 158, Value.ref 159, Value.int 0, Value.int 0, Value.int 0, Value.int 0, Value.int 0, Value.int 0, Value.int 0, Value.int 0]) hw0 (Nat.le_of_ble_eq_true rfl) rfl (by decide) ?_
  refine i_247_5 (x := 128) rfl ?_
  refine i_247_6 (x := a0) rfl ?_
  refine i_247_7 (x := b0) rfl ?_
  refine i_247_8 (x := a1) rfl ?_
  refine j_247_10 (xgs hw0) (Nat.le_of_ble_eq_true rfl) (s_248_2 e1 e2 e3 e4) (xDone.c xgl rfl rfl ?_)
  refine i_247_14 (lv2 := [(5, Value.ref ((w.set 128 (Sum.inr (12, [Value.ref 129, Value.ref 131, Value.ref 133, Value.ref 135, Value.ref 137, Value.ref 139, Value.ref 141, Value.ref 143, Value.ref 145, Value.ref 147, Value.ref 149, Value.ref 151, Value.ref 153, Value.ref 154, Value.ref 155, Value.ref 156, Value.ref 157, Value.int (-16384), Value.int 16384, Value.int 0, Value.int 0, Value.int 0, Value.ref 158, Value.ref 159, Value.int 0, Value.int 0, Value.int 0, Value.int 0, Value.int 0, Value.int 0, Value.int 0, Value.int 0]))).length)), (0, Value.ref 128), (1, Value.int a0), (2, Value.long b0), (4, Value.int a1)]) rfl ?_
  refine i_247_16 (x := 128) rfl ?_
  refine i_247_17 ?_
  refine i_247_18 (fs2 := [Value.ref 129, Value.ref 131, Value.ref 133, Value.ref 135, Value.ref 137, Value.ref 139, Value.ref 141, Value.ref 143, Value.ref 145, Value.ref 147, Value.ref 149, Value.ref 151, Value.ref 153, Value.ref 154, Value.ref 155, Value.ref 156, Value.ref 157, Value.int (-16384), Value.int 16384, Value.int 0, Value.int 0, Value.int 0, Value.ref 158, Value.ref 159, Value.int 0, Value.int 0, Value.int 0, Value.int 0, Value.int 0, Value.int 0, Value.int 0, Value.int 1]) (xga (xgs hw0)) (Nat.le_of_ble_eq_true rfl) rfl (by decide) ?_
  refine i_247_21 ?_
  exact i_247_22 ⟨rfl, rfl⟩
theorem o_16_2 {d : Nat} {xs : Nat → Int32} (h0 : ((xs 0) &&& (31 : Int32)).toInt = 16) (c0 : 0 ≤ (xs 1).toInt) (c1 : (xs 1).toInt < 16) (c2 : 0 ≤ (xs 4).toInt) (c3 : 4 < (xs 4).toInt) : ∃ w1, xEv (d + 20) 287 23 [(4, Value.int 0), (3, Value.ref 194), (2, Value.ref 128), (1, Value.ref 7), (0, Value.ref 0)] [] (W0 6 xs) (fun o' w' => o' = .inl (some (Value.int 1)) ∧ w' = w1) ∧ w1.length ≤ 220 ∧ xsz w1 ≤ 200000 := by
  have f0 : 0 ≤ (xfd (xvv xs)).toInt := (xfd_b _).1
  have f1 : (xfd (xvv xs)).toInt ≤ 2047 := (xfd_b _).2
  refine ⟨(((((W0 6 xs) ++ [Sum.inr (14, [])]).set 128 (Sum.inr (12, [Value.ref 129, Value.ref 131, Value.ref 133, Value.ref 135, Value.ref 137, Value.ref 139, Value.ref 141, Value.ref 143, Value.ref 145, Value.ref 147, Value.ref 149, Value.ref 151, Value.ref 153, Value.ref 154, Value.ref 155, Value.ref 156, Value.ref 157, Value.int (-16384), Value.int 16384, Value.int 0, Value.int 0, Value.int 0, Value.ref 158, Value.ref 159, Value.int 0, Value.int 0, Value.int 0, Value.int 0, Value.int 0, Value.int 0, Value.int 0, Value.int 0]))) ++ [Sum.inr (14, [])]).set 128 (Sum.inr (12, [Value.ref 129, Value.ref 131, Value.ref 133, Value.ref 135, Value.ref 137, Value.ref 139, Value.ref 141, Value.ref 143, Value.ref 145, Value.ref 147, Value.ref 149, Value.ref 151, Value.ref 153, Value.ref 154, Value.ref 155, Value.ref 156, Value.ref 157, Value.int (-16384), Value.int 16384, Value.int 0, Value.int 0, Value.int 0, Value.ref 158, Value.ref 159, Value.int 0, Value.int 0, Value.int 0, Value.int 0, Value.int 0, Value.int 0, Value.int 0, Value.int 1]))), ?_, (show xLs _ 220 200000 from ?_)⟩
  · refine i_287_23 (x := 0) rfl ?_
    refine i_287_25 (x := 0) rfl ?_
    refine i_287_26 (c := 6) W0_0 (by decide) ?_
    refine i_287_27 ?_
    refine i_287_29 (c := 0) (by decide) ?_
    refine i_287_30 (fun h => absurd h (by decide)) (fun _ => ?_)
    refine i_287_33 (x := 0) rfl ?_
    refine i_287_34 (x := 0) rfl ?_
    refine i_287_36 (v := Value.int (xs 0)) W0_0 (by decide) (by decide) rfl ?_
    refine i_287_37 ?_
    refine i_287_39 (c := 16) (show ((xs 0) &&& (31 : Int32)) = 16 from (xge_c (n := 16) (by omega) rfl)) ?_
    refine i_287_40_16 rfl ?_
    refine i_287_1540 (x := 7) rfl ?_
    refine i_287_1541 (x := 0) rfl ?_
    refine i_287_1542 (x := 0) rfl ?_
    refine i_287_1544 ?_
    refine i_287_1545 (c := 1) (by decide) ?_
    refine i_287_1546 (v := Value.int (xs 1)) W0_0 (by decide) (by decide) rfl ?_
    refine i_287_1547 (x := 0) rfl ?_
    refine i_287_1548 (x := 0) rfl ?_
    refine i_287_1550 ?_
    refine i_287_1551 (c := 2) (by decide) ?_
    refine i_287_1552 (v := Value.int (xs 2)) W0_0 (by decide) (by decide) rfl ?_
    refine i_287_1553 (c := (xs 2).toInt64) rfl ?_
    refine i_287_1554 ?_
    refine i_287_1556 (c := (xsh (xs 2) (32 : Int32))) rfl ?_
    refine i_287_1557 (x := 0) rfl ?_
    refine i_287_1558 (x := 0) rfl ?_
    refine i_287_1560 ?_
    refine i_287_1561 (c := 3) (by decide) ?_
    refine i_287_1562 (v := Value.int (xs 3)) W0_0 (by decide) (by decide) rfl ?_
    refine i_287_1563 (c := (xs 3).toInt64) rfl ?_
    refine i_287_1564 ?_
    refine i_287_1567 (c := (((xs 3).toInt64) &&& (4294967295 : Int64))) rfl ?_
    refine i_287_1568 (c := (xvv xs)) rfl ?_
    refine i_287_1569 (x := 0) rfl ?_
    refine i_287_1570 (x := 0) rfl ?_
    refine i_287_1572 ?_
    refine i_287_1573 (c := 4) (by decide) ?_
    refine i_287_1574 (v := Value.int (xs 4)) W0_0 (by decide) (by decide) rfl ?_
    refine i_287_1575 (x := 194) rfl ?_
    refine i_287_1576 (Nat.le_of_ble_eq_true rfl) (s_127_10 W0_7 (by omega) (by omega) (by omega) (by omega)) ?_
    refine i_287_1579 (lv2 := [(5, Value.int 1), (4, Value.int 0), (3, Value.ref 194), (2, Value.ref 128), (1, Value.ref 7), (0, Value.ref 0)]) rfl ?_
    refine i_287_1581 (x := 128) rfl ?_
    refine i_287_1582 (x := 0) rfl ?_
    refine i_287_1583 (x := 0) rfl ?_
    refine i_287_1585 ?_
    refine i_287_1586 (c := 1) (by decide) ?_
    refine i_287_1587 (v := Value.int (xs 1)) (xga W0_0) (by decide) (by decide) rfl ?_
    refine i_287_1588 (x := 0) rfl ?_
    refine i_287_1589 (x := 0) rfl ?_
    refine i_287_1591 ?_
    refine i_287_1592 (c := 2) (by decide) ?_
    refine i_287_1593 (v := Value.int (xs 2)) (xga W0_0) (by decide) (by decide) rfl ?_
    refine i_287_1594 (c := (xs 2).toInt64) rfl ?_
    refine i_287_1595 ?_
    refine i_287_1597 (c := (xsh (xs 2) (32 : Int32))) rfl ?_
    refine i_287_1598 (x := 0) rfl ?_
    refine i_287_1599 (x := 0) rfl ?_
    refine i_287_1601 ?_
    refine i_287_1602 (c := 3) (by decide) ?_
    refine i_287_1603 (v := Value.int (xs 3)) (xga W0_0) (by decide) (by decide) rfl ?_
    refine i_287_1604 (c := (xs 3).toInt64) rfl ?_
    refine i_287_1605 ?_
    refine i_287_1608 (c := (((xs 3).toInt64) &&& (4294967295 : Int64))) rfl ?_
    refine i_287_1609 (c := (xvv xs)) rfl ?_
    refine i_287_1610 (x := 0) rfl ?_
    refine i_287_1611 (x := 0) rfl ?_
    refine i_287_1613 ?_
    refine i_287_1614 (c := 4) (by decide) ?_
    refine i_287_1615 (v := Value.int (xs 4)) (xga W0_0) (by decide) (by decide) rfl ?_
    refine i_287_1616 (xga W0_128) (Nat.le_of_ble_eq_true rfl) (s_247_2 (xga W0_128) (by omega) (by omega) (by omega) (by omega)) ?_
    refine i_287_1619 (lv2 := [(6, Value.int 0), (5, Value.int 1), (4, Value.int 0), (3, Value.ref 194), (2, Value.ref 128), (1, Value.ref 7), (0, Value.ref 0)]) rfl ?_
    refine i_287_1621 (x := 128) rfl ?_
    refine i_287_1622 (xgs (xga (xgs (xga W0_128)))) (Nat.le_of_ble_eq_true rfl) (s_165_1 (xgs (xga (xgs (xga W0_128))))) ?_
    refine i_287_1625 (x := 1) rfl ?_
    refine i_287_1627 (fun _ => ?_) (fun h => absurd h (by decide))
    refine i_287_1632 (x := 1) rfl ?_
    refine i_287_1634 (fun _ => ?_) (fun h => absurd h (by decide))
    refine i_287_1649 ?_
    refine i_287_2154 (x := 0) (c := 6) (lv2 := [(4, Value.int 6), (6, Value.int 0), (5, Value.int 1), (3, Value.ref 194), (2, Value.ref 128), (1, Value.ref 7), (0, Value.ref 0)]) rfl (by decide) rfl ?_
    refine i_287_2157 ?_
    refine i_287_23 (x := 6) rfl ?_
    refine i_287_25 (x := 0) rfl ?_
    refine i_287_26 (c := 6) (xgn (by decide) (xga (xgn (by decide) (xga W0_0)))) (by decide) ?_
    refine i_287_27 ?_
    refine i_287_29 (c := 0) (by decide) ?_
    refine i_287_30 (fun _ => ?_) (fun h => absurd h (by decide))
    refine i_287_2160 ?_
    exact i_287_2161 rfl ⟨rfl, rfl⟩
  · refine xLs.set ?_ (xga (xgs (xga W0_128))) xcs_o
    refine xLs.app (n := 219) (z := 199994) (m := 6) ?_ rfl
    refine xLs.set ?_ (xga W0_128) xcs_o
    refine xLs.app (n := 218) (z := 199988) (m := 6) ?_ rfl
    exact ⟨Nat.le_trans (Nat.le_of_eq W0_len) (by decide), Nat.le_trans (Nat.le_of_eq W0_sz) (by decide)⟩
theorem s_17_5 {d : Nat} {w : xW} {h0 : Nat} {h1 : Nat} (hw0 : w[h0]? = some (Sum.inr (2, [Value.int 64, Value.int 0, Value.int 0, Value.int 0, Value.ref h1]))) (e1 : 7 ≤ h0) : xRun d 17 [Value.ref h0, Value.int 1, Value.int 1] w (.inl (some (Value.int 0))) (w.set h0 (Sum.inr (2, [Value.int 64, Value.int 1, Value.int 1, Value.int 0, Value.ref h1]))) := by
  refine xRun.of ?_
  refine i_17_0 (x := h0) rfl ?_
  refine i_17_1 (x := 1) rfl ?_
  refine i_17_2 (fs2 := [Value.int 64, Value.int 1, Value.int 0, Value.int 0, Value.ref h1]) hw0 (Nat.le_of_ble_eq_true rfl) rfl e1 ?_
  refine i_17_5 (x := h0) rfl ?_
  refine i_17_6 (x := 1) rfl ?_
  refine i_17_7 (fs2 := [Value.int 64, Value.int 1, Value.int 1, Value.int 0, Value.ref h1]) (xgs hw0) rfl (Nat.le_of_ble_eq_true rfl) rfl e1 ?_
  refine xEv.world (List.set_set _) ?_
  refine i_17_10 ?_
  exact i_17_11 ⟨rfl, rfl⟩
theorem s_128_11 {d : Nat} {w : xW} {a0 : Int32} {b0 : Int64} {a1 : Int32} {g0 : Nat → Value} {h0 : Nat} {h1 : Nat} (e0 : 0 ≤ a0.toInt) (e1 : a0.toInt < 16) (e2 : 0 ≤ a1.toInt) (e3 : a1.toInt ≤ 4) (hw4 : w[7]? = some (Sum.inr (0, [Value.ref 8, Value.ref 78, Value.ref 9, Value.ref 10, Value.ref 13, Value.ref 16, Value.ref 19, Value.ref 93, Value.ref 108, Value.ref 113, Value.ref 29, Value.int 0]))) (hw5 : w[8]? = some (Sum.inl (4, 16, g0))) (hg6 : g0 a0.toInt.toNat = Value.ref h0) (e7 : (lg_cmp b0 (0 : Int64)).toInt < 0) (hg8 : (xfd b0) = 2047) (hg9 : (lg_cmp (xfr b0) (0 : Int64)) = 0) (hw10 : w[h0]? = some (Sum.inr (2, [Value.int 64, Value.int 0, Value.int 0, Value.int 0, Value.ref h1]))) (e11 : 7 ≤ h0) : xRun (d + 1) 128 [Value.ref 7, Value.int a0, Value.long b0, Value.int a1] w (.inl (some (Value.int 0))) (w.set h0 (Sum.inr (2, [Value.int 64, Value.int 1, Value.int 1, Value.int 0, Value.ref h1]))) := by
  refine xRun.of ?_
  refine i_128_0 (x := a0) rfl ?_
  refine i_128_1 (Nat.le_of_ble_eq_true rfl) (s_15_0 e0 e1) ?_
  refine i_128_4 (fun h => absurd h (by decide)) (fun _ => ?_)
  refine i_128_7 (x := a1) rfl ?_
  refine i_128_9 (Nat.le_of_ble_eq_true rfl) (s_22_0 e2 e3) ?_
  refine i_128_12 (fun _ => ?_) (fun h => absurd h (by decide))
  refine i_128_23 (x := 7) rfl ?_
  refine i_128_24 (v := Value.ref 8) hw4 rfl ?_
  refine i_128_27 (x := a0) rfl ?_
  refine i_128_28 (v := Value.ref h0) hw5 e0 e1 hg6 ?_
  refine i_128_29 (lv2 := [(5, Value.ref h0), (0, Value.ref 7), (1, Value.int a0), (2, Value.long b0), (4, Value.int a1)]) rfl ?_
  refine i_128_31 (x := b0) rfl ?_
  refine i_128_32 ?_
  refine i_128_33 (c := (lg_cmp b0 (0 : Int64))) rfl ?_
  refine i_128_34 (fun h => absurd e7 (Int.not_lt.mpr h)) (fun _ => ?_)
  refine i_128_37 ?_
  refine i_128_38 ?_
  refine i_128_42 (lv2 := [(6, Value.int 1), (5, Value.ref h0), (0, Value.ref 7), (1, Value.int a0), (2, Value.long b0), (4, Value.int a1)]) rfl ?_
  refine i_128_44 (x := b0) rfl ?_
  refine i_128_45 ?_
  refine i_128_47 (c := (xsr b0 52)) rfl ?_
  refine i_128_48 (c := (xsr b0 52).toInt32) rfl ?_
  refine i_128_49 ?_
  refine i_128_52 (c := 2047) hg8 ?_
  refine i_128_53 (lv2 := [(7, Value.int 2047), (6, Value.int 1), (5, Value.ref h0), (0, Value.ref 7), (1, Value.int a0), (2, Value.long b0), (4, Value.int a1)]) rfl ?_
  refine i_128_55 (x := b0) rfl ?_
  refine i_128_56 ?_
  refine i_128_59 (c := (xfr b0)) rfl ?_
  refine i_128_60 (lv2 := [(8, Value.long (xfr b0)), (7, Value.int 2047), (6, Value.int 1), (5, Value.ref h0), (0, Value.ref 7), (1, Value.int a0), (2, Value.long b0), (4, Value.int a1)]) rfl ?_
  refine i_128_62 (x := 2047) rfl ?_
  refine i_128_64 ?_
  refine i_128_67 (fun h => absurd h (by decide)) (fun _ => ?_)
  refine i_128_70 (x := h0) rfl ?_
  refine i_128_72 (x := (xfr b0)) rfl ?_
  refine i_128_74 ?_
  refine i_128_75 (c := 0) hg9 ?_
  refine i_128_76 (fun h => absurd h (by decide)) (fun _ => ?_)
  refine i_128_79 ?_
  refine i_128_80 ?_
  refine i_128_84 (x := 1) rfl ?_
  refine i_128_86 hw10 (Nat.le_of_ble_eq_true rfl) (s_17_5 hw10 e11) ?_
  exact i_128_89 ⟨rfl, rfl⟩
theorem s_127_11 {d : Nat} {w : xW} {a0 : Int32} {b0 : Int64} {a1 : Int32} {g0 : Nat → Value} {h0 : Nat} {h1 : Nat} (hw0 : w[7]? = some (Sum.inr (0, [Value.ref 8, Value.ref 78, Value.ref 9, Value.ref 10, Value.ref 13, Value.ref 16, Value.ref 19, Value.ref 93, Value.ref 108, Value.ref 113, Value.ref 29, Value.int 0]))) (e1 : 0 ≤ a0.toInt) (e2 : a0.toInt < 16) (e3 : 0 ≤ a1.toInt) (e4 : a1.toInt ≤ 4) (hw5 : w[8]? = some (Sum.inl (4, 16, g0))) (hg6 : g0 a0.toInt.toNat = Value.ref h0) (e7 : (lg_cmp b0 (0 : Int64)).toInt < 0) (hg8 : (xfd b0) = 2047) (hg9 : (lg_cmp (xfr b0) (0 : Int64)) = 0) (hw10 : w[h0]? = some (Sum.inr (2, [Value.int 64, Value.int 0, Value.int 0, Value.int 0, Value.ref h1]))) (e11 : 7 ≤ h0) (e12 : h0 ≠ 194) (hw13 : w[194]? = some (Sum.inl (3, 1, fun _ => Value.long 0))) : xRun (d + 2) 127 [Value.ref 7, Value.int a0, Value.long b0, Value.int a1, Value.ref 194] w (.inl (some (Value.int 0))) ((w.set h0 (Sum.inr (2, [Value.int 64, Value.int 1, Value.int 1, Value.int 0, Value.ref h1]))).set 194 (Sum.inl (3, 1, xup (fun _ => Value.long 0) (0 : Int32).toInt.toNat (Value.long 0)))) := by
  refine xRun.of ?_
  refine i_127_0 (x := 194) rfl ?_
  refine i_127_2 ?_
  refine i_127_3 (x := 7) rfl ?_
  refine i_127_4 (x := a0) rfl ?_
  refine i_127_5 (x := b0) rfl ?_
  refine i_127_6 (x := a1) rfl ?_
  refine i_127_8 hw0 (Nat.le_of_ble_eq_true rfl) (s_128_11 e1 e2 e3 e4 hw0 hw5 hg6 e7 hg8 hg9 hw10 e11) ?_
  refine i_127_11 (c := 0) (by decide) ?_
  refine i_127_12 (v := Value.long 0) (xgn e12 hw13) (by decide) (by decide) (by decide) rfl ?_
  refine i_127_13 ?_
  refine i_127_20 ?_
  exact i_127_21 ⟨rfl, rfl⟩
theorem s_171_5 {d : Nat} {w : xW} {a0 : Int32} (hw0 : w[128]? = some (Sum.inr (12, [Value.ref 129, Value.ref 131, Value.ref 133, Value.ref 135, Value.ref 137, Value.ref 139, Value.ref 141, Value.ref 143, Value.ref 145, Value.ref 147, Value.ref 149, Value.ref 151, Value.ref 153, Value.ref 154, Value.ref 155, Value.ref 156, Value.ref 157, Value.int (-16384), Value.int 16384, Value.int 0, Value.int 0, Value.int 0, Value.ref 158, Value.ref 159, Value.int 0, Value.int 0, Value.int 0, Value.int 0, Value.int 0, Value.int 0, Value.int 0, Value.int 0]))) (hw1 : w[154]? = some (Sum.inl (0, 17, fun _ => Value.int 0))) (e2 : 0 ≤ a0.toInt) (e3 : a0.toInt < 17) (hw4 : w[156]? = some (Sum.inl (2, 17, fun _ => Value.int 0))) : xRun d 171 [Value.ref 128, Value.int a0, Value.int 1, Value.int 1] w (.inl (some (Value.int 0))) ((w.set 154 (Sum.inl (0, 17, xup (fun _ => Value.int 0) a0.toInt.toNat (Value.int 1)))).set 156 (Sum.inl (2, 17, xup (fun _ => Value.int 0) a0.toInt.toNat (Value.int 1)))) := by
  refine xRun.of ?_
  refine i_171_0 (x := 128) rfl ?_
  refine i_171_1 (v := Value.ref 154) hw0 rfl ?_
  refine i_171_4 (x := a0) rfl ?_
  refine i_171_5 (x := 1) rfl ?_
  refine i_171_6 (v := Value.int 1) hw1 e2 e3 (by decide) rfl ?_
  refine i_171_7 (x := 128) rfl ?_
  refine i_171_8 (v := Value.ref 156) (xgn (by decide) hw0) rfl ?_
  refine i_171_11 (x := a0) rfl ?_
  refine i_171_12 (x := 1) rfl ?_
  refine i_171_13z (v := Value.int 1) (xgn (by decide) hw4) e2 e3 (by decide) rfl ?_
  refine i_171_14 ?_
  exact i_171_15 ⟨rfl, rfl⟩
