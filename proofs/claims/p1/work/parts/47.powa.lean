theorem r_15_0 {d : Nat} {w : xW} {a0 : Int32} (e0 : a0.toInt < 0) : xRun d 15 [Value.int a0] w (.inl (some (Value.int 1))) w := by
  refine xRun.of ?_
  refine i_15_0 (x := a0) rfl ?_
  refine i_15_1 (fun _ => ?_) (fun h => absurd e0 (Int.not_lt.mpr h))
  refine i_15_10 ?_
  refine i_15_11 ?_
  exact i_15_15 rfl ⟨rfl, rfl⟩
theorem r_101_0 {d : Nat} {w : xW} {a0 : Int32} {a1 : Int32} {a2 : Int32} {a3 : Int32} (e0 : a0.toInt < 0) : xRun (d + 6) 101 [Value.ref 7, Value.int a0, Value.int a1, Value.int a2, Value.int a3] w (.inr w.length) (w ++ [Sum.inr (14, [])]) := by
  refine xRun.of ?_
  refine i_101_0 (x := a0) rfl ?_
  refine i_101_1 (Nat.le_of_ble_eq_true rfl) (r_15_0 e0) ?_
  refine i_101_4 (fun _ => ?_) (fun h => absurd h (by decide))
  exact i_101_34 (by omega) (Nat.le_of_ble_eq_true rfl) ⟨rfl, rfl⟩
theorem r_100_0 {d : Nat} {w : xW} {a0 : Int32} {a1 : Int32} {a2 : Int32} {a3 : Int32} (hw0 : w[7]? = some (Sum.inr (0, [Value.ref 8, Value.ref 78, Value.ref 9, Value.ref 10, Value.ref 13, Value.ref 16, Value.ref 19, Value.ref 93, Value.ref 108, Value.ref 113, Value.ref 29, Value.int 0]))) (e1 : a0.toInt < 0) : xRun (d + 7) 100 [Value.ref 7, Value.int a0, Value.int a1, Value.int a2, Value.int a3, Value.ref 194] w (.inl (some (Value.int 1))) (w ++ [Sum.inr (14, [])]) := by
  refine xRun.of ?_
  refine i_100_0 (x := 194) rfl ?_
  refine i_100_2 ?_
  refine i_100_3 (x := 7) rfl ?_
  refine i_100_4 (x := a0) rfl ?_
  refine i_100_5 (x := a1) rfl ?_
  refine i_100_6 (x := a2) rfl ?_
  refine i_100_7 (x := a3) rfl ?_
  refine j_100_9 hw0 (Nat.le_of_ble_eq_true rfl) (r_101_0 e1) (xDone.c xgl rfl rfl ?_)
  refine i_100_17 (lv2 := [(6, Value.ref w.length), (0, Value.ref 7), (1, Value.int a0), (2, Value.int a1), (3, Value.int a2), (4, Value.int a3), (5, Value.ref 194)]) rfl ?_
  refine i_100_19 ?_
  exact i_100_20 ⟨rfl, rfl⟩
theorem r_169_0 {d : Nat} {w : xW} {a0 : Int32} (e0 : a0.toInt < 0) : xRun d 169 [Value.int a0, Value.int 0, Value.int 15] w (.inl (some (Value.int 0))) w := by
  refine xRun.of ?_
  refine i_169_0 (x := a0) rfl ?_
  refine i_169_1 (x := 0) rfl ?_
  refine i_169_2 (fun _ => ?_) (fun h => absurd e0 (Int.not_lt.mpr h))
  refine i_169_14 ?_
  exact i_169_15 rfl ⟨rfl, rfl⟩
theorem r_170_0 {d : Nat} {w : xW} : xRun (d + 6) 170 [Value.int 0] w (.inr w.length) (w ++ [Sum.inr (14, [])]) := by
  refine xRun.of ?_
  refine i_170_0 (x := 0) rfl ?_
  refine i_170_1 (fun h => absurd h (by decide)) (fun _ => ?_)
  exact i_170_4 (by omega) (Nat.le_of_ble_eq_true rfl) ⟨rfl, rfl⟩
theorem r_168_0 {d : Nat} {w : xW} {a0 : Int32} (e0 : a0.toInt < 0) : xRun (d + 7) 168 [Value.int a0] w (.inr w.length) (w ++ [Sum.inr (14, [])]) := by
  refine xRun.of ?_
  refine i_168_0 (x := a0) rfl ?_
  refine i_168_1 ?_
  refine i_168_2 ?_
  refine i_168_4 (Nat.le_of_ble_eq_true rfl) (r_169_0 e0) ?_
  exact j_168_7 (Nat.le_of_ble_eq_true rfl) (r_170_0) (xDone.t xgl rfl rfl ⟨rfl, rfl⟩)
theorem r_225_0 {d : Nat} {w : xW} {a0 : Int32} {a1 : Int32} {a2 : Int32} {a3 : Int32} (e0 : a0.toInt < 0) : xRun (d + 8) 225 [Value.ref 128, Value.int a0, Value.int a1, Value.int a2, Value.int a3] w (.inr w.length) (w ++ [Sum.inr (14, [])]) := by
  refine xRun.of ?_
  refine i_225_0 (x := a0) rfl ?_
  exact j_225_1 (Nat.le_of_ble_eq_true rfl) (r_168_0 e0) (xDone.t xgl rfl rfl ⟨rfl, rfl⟩)
theorem r_224_0 {d : Nat} {w : xW} {a0 : Int32} {a1 : Int32} {a2 : Int32} {a3 : Int32} (hw0 : w[128]? = some (Sum.inr (12, [Value.ref 129, Value.ref 131, Value.ref 133, Value.ref 135, Value.ref 137, Value.ref 139, Value.ref 141, Value.ref 143, Value.ref 145, Value.ref 147, Value.ref 149, Value.ref 151, Value.ref 153, Value.ref 154, Value.ref 155, Value.ref 156, Value.ref 157, Value.int (-16384), Value.int 16384, Value.int 0, Value.int 0, Value.int 0, Value.ref 158, Value.ref 159, Value.int 0, Value.int 0, Value.int 0, Value.int 0, Value.int 0, Value.int 0, Value.int 0, Value.int 0]))) (e1 : a0.toInt < 0) : xRun (d + 9) 224 [Value.ref 128, Value.int a0, Value.int a1, Value.int a2, Value.int a3] w (.inl (some (Value.int 0))) (((w.set 128 (Sum.inr (12, [Value.ref 129, Value.ref 131, Value.ref 133, Value.ref 135, Value.ref 137, Value.ref 139, Value.ref 141, Value.ref 143, Value.ref 145, Value.ref 147, Value.ref 149, Value.ref 151, Value.ref 153, Value.ref 154, Value.ref 155, Value.ref 156, Value.ref 157, Value.int (-16384), Value.int 16384, Value.int 0, Value.int 0, Value.int 0, Value.ref 158, Value.ref 159, Value.int 0, Value.int 0, Value.int 0, Value.int 0, Value.int 0, Value.int 0, Value.int 0, Value.int 0]))) ++ [Sum.inr (14, [])]).set 128 (Sum.inr (12, [Value.ref 129, Value.ref 131, Value.ref 133, Value.ref 135, Value.ref 137, Value.ref 139, Value.ref 141, Value.ref 143, Value.ref 145, Value.ref 147, Value.ref 149, Value.ref 151, Value.ref 153, Value.ref 154, Value.ref 155, Value.ref 156, Value.ref 157, Value.int (-16384), Value.int 16384, Value.int 0, Value.int 0, Value.int 0, Value.ref 158, Value.ref 159, Value.int 0, Value.int 0, Value.int 0, Value.int 0, Value.int 0, Value.int 0, Value.int 0, Value.int 1]))) := by
  refine xRun.of ?_
  refine i_224_0 (x := 128) rfl ?_
  refine i_224_1 ?_
  refine i_224_2 (fs2 := [Value.ref 129, Value.ref 131, Value.ref 133, Value.ref 135, Value.ref 137, Value.ref 139, Value.ref 141, Value.ref 143, Value.ref 145, Value.ref 147, Value.ref 149, Value.ref 151, Value.ref 153, Value.ref 154, Value.ref 155, Value.ref 156, Value.ref 157, Value.int (-16384), Value.int 16384, Value.int 0, Value.int 0, Value.int 0, Value.ref 158, Value.ref 159, Value.int 0, Value.int 0, Value.int 0, Value.int 0, Value.int 0, Value.int 0, Value.int 0, Value.int 0]) hw0 (Nat.le_of_ble_eq_true rfl) rfl (by decide) ?_
  refine i_224_5 (x := 128) rfl ?_
  refine i_224_6 (x := a0) rfl ?_
  refine i_224_7 (x := a1) rfl ?_
  refine i_224_8 (x := a2) rfl ?_
  refine i_224_9 (x := a3) rfl ?_
  refine j_224_11 (xgs hw0) (Nat.le_of_ble_eq_true rfl) (r_225_0 e1) (xDone.c xgl rfl rfl ?_)
  refine i_224_15 (lv2 := [(5, Value.ref ((w.set 128 (Sum.inr (12, [Value.ref 129, Value.ref 131, Value.ref 133, Value.ref 135, Value.ref 137, Value.ref 139, Value.ref 141, Value.ref 143, Value.ref 145, Value.ref 147, Value.ref 149, Value.ref 151, Value.ref 153, Value.ref 154, Value.ref 155, Value.ref 156, Value.ref 157, Value.int (-16384), Value.int 16384, Value.int 0, Value.int 0, Value.int 0, Value.ref 158, Value.ref 159, Value.int 0, Value.int 0, Value.int 0, Value.int 0, Value.int 0, Value.int 0, Value.int 0, Value.int 0]))).length)), (0, Value.ref 128), (1, Value.int a0), (2, Value.int a1), (3, Value.int a2), (4, Value.int a3)]) rfl ?_
  refine i_224_17 (x := 128) rfl ?_
  refine i_224_18 ?_
  refine i_224_19 (fs2 := [Value.ref 129, Value.ref 131, Value.ref 133, Value.ref 135, Value.ref 137, Value.ref 139, Value.ref 141, Value.ref 143, Value.ref 145, Value.ref 147, Value.ref 149, Value.ref 151, Value.ref 153, Value.ref 154, Value.ref 155, Value.ref 156, Value.ref 157, Value.int (-16384), Value.int 16384, Value.int 0, Value.int 0, Value.int 0, Value.ref 158, Value.ref 159, Value.int 0, Value.int 0, Value.int 0, Value.int 0, Value.int 0, Value.int 0, Value.int 0, Value.int 1]) (xga (xgs hw0)) (Nat.le_of_ble_eq_true rfl) rfl (by decide) ?_
  refine i_224_22 ?_
  exact i_224_23 ⟨rfl, rfl⟩
theorem r_165_0 {d : Nat} {w : xW} (hw0 : w[128]? = some (Sum.inr (12, [Value.ref 129, Value.ref 131, Value.ref 133, Value.ref 135, Value.ref 137, Value.ref 139, Value.ref 141, Value.ref 143, Value.ref 145, Value.ref 147, Value.ref 149, Value.ref 151, Value.ref 153, Value.ref 154, Value.ref 155, Value.ref 156, Value.ref 157, Value.int (-16384), Value.int 16384, Value.int 0, Value.int 0, Value.int 0, Value.ref 158, Value.ref 159, Value.int 0, Value.int 0, Value.int 0, Value.int 0, Value.int 0, Value.int 0, Value.int 0, Value.int 1]))) : xRun d 165 [Value.ref 128] w (.inl (some (Value.int 1))) w := by
  refine xRun.of ?_
  refine i_165_0 (x := 128) rfl ?_
  refine i_165_1 (v := Value.int 1) hw0 rfl ?_
  exact i_165_4 ⟨rfl, rfl⟩
theorem o_8_0 {d : Nat} {xs : Nat → Int32} (h0 : ((xs 0) &&& (31 : Int32)).toInt = 8) (c0 : (xs 1).toInt < 0) : ∃ w1, xEv (d + 20) 287 23 [(4, Value.int 0), (3, Value.ref 194), (2, Value.ref 128), (1, Value.ref 7), (0, Value.ref 0)] [] (W0 6 xs) (fun o' w' => o' = .inl (some (Value.int 1)) ∧ w' = w1) ∧ w1.length ≤ 220 ∧ xsz w1 ≤ 200000 := by
  refine ⟨(((((W0 6 xs) ++ [Sum.inr (14, [])]).set 128 (Sum.inr (12, [Value.ref 129, Value.ref 131, Value.ref 133, Value.ref 135, Value.ref 137, Value.ref 139, Value.ref 141, Value.ref 143, Value.ref 145, Value.ref 147, Value.ref 149, Value.ref 151, Value.ref 153, Value.ref 154, Value.ref 155, Value.ref 156, Value.ref 157, Value.int (-16384), Value.int 16384, Value.int 0, Value.int 0, Value.int 0, Value.ref 158, Value.ref 159, Value.int 0, Value.int 0, Value.int 0, Value.int 0, Value.int 0, Value.int 0, Value.int 0, Value.int 0]))) ++ [Sum.inr (14, [])]).set 128 (Sum.inr (12, [Value.ref 129, Value.ref 131, Value.ref 133, Value.ref 135, Value.ref 137, Value.ref 139, Value.ref 141, Value.ref 143, Value.ref 145, Value.ref 147, Value.ref 149, Value.ref 151, Value.ref 153, Value.ref 154, Value.ref 155, Value.ref 156, Value.ref 157, Value.int (-16384), Value.int 16384, Value.int 0, Value.int 0, Value.int 0, Value.ref 158, Value.ref 159, Value.int 0, Value.int 0, Value.int 0, Value.int 0, Value.int 0, Value.int 0, Value.int 0, Value.int 1]))), ?_, (show xLs _ 220 200000 from ?_)⟩
  · refine i_287_23 (x := 0) rfl ?_
    refine i_287_25 (x := 0) rfl ?_
    refine i_287_26 (c := 6) W0_0 (by decide) ?_
    refine i_287_27 ?_
    refine i_287_29 (c := 0) (by decide) ?_
    refine i_287_30 (fun h => absurd h (by decide)) (fun _ => ?_)
    refine i_287_33 (x := 0) rfl ?_
    refine i_287_34 (x := 0) rfl ?_
    refine i_287_36 (v := Value.int (xs 0)) W0_0 (by decide) (by decide) rfl ?_
    refine i_287_37 ?_
    refine i_287_39 (c := 8) (show ((xs 0) &&& (31 : Int32)) = 8 from (xge_c (n := 8) (by omega) rfl)) ?_
    refine i_287_40_8 rfl ?_
    refine i_287_873 (x := 7) rfl ?_
    refine i_287_874 (x := 0) rfl ?_
    refine i_287_875 (x := 0) rfl ?_
    refine i_287_877 ?_
    refine i_287_878 (c := 1) (by decide) ?_
    refine i_287_879 (v := Value.int (xs 1)) W0_0 (by decide) (by decide) rfl ?_
    refine i_287_880 (x := 0) rfl ?_
    refine i_287_881 (x := 0) rfl ?_
    refine i_287_883 ?_
    refine i_287_884 (c := 2) (by decide) ?_
    refine i_287_885 (v := Value.int (xs 2)) W0_0 (by decide) (by decide) rfl ?_
    refine i_287_886 (x := 0) rfl ?_
    refine i_287_887 (x := 0) rfl ?_
    refine i_287_889 ?_
    refine i_287_890 (c := 3) (by decide) ?_
    refine i_287_891 (v := Value.int (xs 3)) W0_0 (by decide) (by decide) rfl ?_
    refine i_287_892 (x := 0) rfl ?_
    refine i_287_893 (x := 0) rfl ?_
    refine i_287_895 ?_
    refine i_287_896 (c := 4) (by decide) ?_
    refine i_287_897 (v := Value.int (xs 4)) W0_0 (by decide) (by decide) rfl ?_
    refine i_287_898 (x := 194) rfl ?_
    refine i_287_899 (Nat.le_of_ble_eq_true rfl) (r_100_0 W0_7 (by omega)) ?_
    refine i_287_902 (lv2 := [(5, Value.int 1), (4, Value.int 0), (3, Value.ref 194), (2, Value.ref 128), (1, Value.ref 7), (0, Value.ref 0)]) rfl ?_
    refine i_287_904 (x := 128) rfl ?_
    refine i_287_905 (x := 0) rfl ?_
    refine i_287_906 (x := 0) rfl ?_
    refine i_287_908 ?_
    refine i_287_909 (c := 1) (by decide) ?_
    refine i_287_910 (v := Value.int (xs 1)) (xga W0_0) (by decide) (by decide) rfl ?_
    refine i_287_911 (x := 0) rfl ?_
    refine i_287_912 (x := 0) rfl ?_
    refine i_287_914 ?_
    refine i_287_915 (c := 2) (by decide) ?_
    refine i_287_916 (v := Value.int (xs 2)) (xga W0_0) (by decide) (by decide) rfl ?_
    refine i_287_917 (x := 0) rfl ?_
    refine i_287_918 (x := 0) rfl ?_
    refine i_287_920 ?_
    refine i_287_921 (c := 3) (by decide) ?_
    refine i_287_922 (v := Value.int (xs 3)) (xga W0_0) (by decide) (by decide) rfl ?_
    refine i_287_923 (x := 0) rfl ?_
    refine i_287_924 (x := 0) rfl ?_
    refine i_287_926 ?_
    refine i_287_927 (c := 4) (by decide) ?_
    refine i_287_928 (v := Value.int (xs 4)) (xga W0_0) (by decide) (by decide) rfl ?_
    refine i_287_929 (xga W0_128) (Nat.le_of_ble_eq_true rfl) (r_224_0 (xga W0_128) (by omega)) ?_
    refine i_287_932 (lv2 := [(6, Value.int 0), (5, Value.int 1), (4, Value.int 0), (3, Value.ref 194), (2, Value.ref 128), (1, Value.ref 7), (0, Value.ref 0)]) rfl ?_
    refine i_287_934 (x := 128) rfl ?_
    refine i_287_935 (xgs (xga (xgs (xga W0_128)))) (Nat.le_of_ble_eq_true rfl) (r_165_0 (xgs (xga (xgs (xga W0_128))))) ?_
    refine i_287_938 (x := 1) rfl ?_
    refine i_287_940 (fun _ => ?_) (fun h => absurd h (by decide))
    refine i_287_945 (x := 1) rfl ?_
    refine i_287_947 (fun _ => ?_) (fun h => absurd h (by decide))
    refine i_287_962 ?_
    refine i_287_2154 (x := 0) (c := 6) (lv2 := [(4, Value.int 6), (6, Value.int 0), (5, Value.int 1), (3, Value.ref 194), (2, Value.ref 128), (1, Value.ref 7), (0, Value.ref 0)]) rfl (by decide) rfl ?_
    refine i_287_2157 ?_
    refine i_287_23 (x := 6) rfl ?_
    refine i_287_25 (x := 0) rfl ?_
    refine i_287_26 (c := 6) (xgn (by decide) (xga (xgn (by decide) (xga W0_0)))) (by decide) ?_
    refine i_287_27 ?_
    refine i_287_29 (c := 0) (by decide) ?_
    refine i_287_30 (fun _ => ?_) (fun h => absurd h (by decide))
    refine i_287_2160 ?_
    exact i_287_2161 rfl ⟨rfl, rfl⟩
  · refine xLs.set ?_ (xga (xgs (xga W0_128))) xcs_o
    refine xLs.app (n := 219) (z := 199994) (m := 6) ?_ rfl
    refine xLs.set ?_ (xga W0_128) xcs_o
    refine xLs.app (n := 218) (z := 199988) (m := 6) ?_ rfl
    exact ⟨Nat.le_trans (Nat.le_of_eq W0_len) (by decide), Nat.le_trans (Nat.le_of_eq W0_sz) (by decide)⟩
theorem r_15_1 {d : Nat} {w : xW} {a0 : Int32} (e0 : 0 ≤ a0.toInt) (e1 : a0.toInt < 16) : xRun d 15 [Value.int a0] w (.inl (some (Value.int 0))) w := by
  refine xRun.of ?_
  refine i_15_0 (x := a0) rfl ?_
  refine i_15_1 (fun h => absurd e0 (Int.not_le.mpr h)) (fun _ => ?_)
  refine i_15_4 (x := a0) rfl ?_
  refine i_15_5 ?_
  refine i_15_7 (fun _ => ?_) (fun h => absurd e1 (Int.not_lt.mpr h))
  refine i_15_14 ?_
  exact i_15_15 rfl ⟨rfl, rfl⟩
theorem r_101_1 {d : Nat} {w : xW} {a0 : Int32} {a1 : Int32} {a2 : Int32} {a3 : Int32} (e0 : 0 ≤ a0.toInt) (e1 : a0.toInt < 16) (e2 : a1.toInt < 0) : xRun (d + 6) 101 [Value.ref 7, Value.int a0, Value.int a1, Value.int a2, Value.int a3] w (.inr w.length) (w ++ [Sum.inr (14, [])]) := by
  refine xRun.of ?_
  refine i_101_0 (x := a0) rfl ?_
  refine i_101_1 (Nat.le_of_ble_eq_true rfl) (r_15_1 e0 e1) ?_
  refine i_101_4 (fun h => absurd h (by decide)) (fun _ => ?_)
  refine i_101_7 (x := a1) rfl ?_
  refine i_101_8 (Nat.le_of_ble_eq_true rfl) (r_15_0 e2) ?_
  refine i_101_11 (fun _ => ?_) (fun h => absurd h (by decide))
  exact i_101_34 (by omega) (Nat.le_of_ble_eq_true rfl) ⟨rfl, rfl⟩
theorem r_100_1 {d : Nat} {w : xW} {a0 : Int32} {a1 : Int32} {a2 : Int32} {a3 : Int32} (hw0 : w[7]? = some (Sum.inr (0, [Value.ref 8, Value.ref 78, Value.ref 9, Value.ref 10, Value.ref 13, Value.ref 16, Value.ref 19, Value.ref 93, Value.ref 108, Value.ref 113, Value.ref 29, Value.int 0]))) (e1 : 0 ≤ a0.toInt) (e2 : a0.toInt < 16) (e3 : a1.toInt < 0) : xRun (d + 7) 100 [Value.ref 7, Value.int a0, Value.int a1, Value.int a2, Value.int a3, Value.ref 194] w (.inl (some (Value.int 1))) (w ++ [Sum.inr (14, [])]) := by
  refine xRun.of ?_
  refine i_100_0 (x := 194) rfl ?_
  refine i_100_2 ?_
  refine i_100_3 (x := 7) rfl ?_
  refine i_100_4 (x := a0) rfl ?_
  refine i_100_5 (x := a1) rfl ?_
  refine i_100_6 (x := a2) rfl ?_
  refine i_100_7 (x := a3) rfl ?_
  refine j_100_9 hw0 (Nat.le_of_ble_eq_true rfl) (r_101_1 e1 e2 e3) (xDone.c xgl rfl rfl ?_)
  refine i_100_17 (lv2 := [(6, Value.ref w.length), (0, Value.ref 7), (1, Value.int a0), (2, Value.int a1), (3, Value.int a2), (4, Value.int a3), (5, Value.ref 194)]) rfl ?_
  refine i_100_19 ?_
  exact i_100_20 ⟨rfl, rfl⟩
theorem r_169_1 {d : Nat} {w : xW} {a0 : Int32} (e0 : 0 ≤ a0.toInt) (e1 : a0.toInt ≤ 15) : xRun d 169 [Value.int a0, Value.int 0, Value.int 15] w (.inl (some (Value.int 1))) w := by
  refine xRun.of ?_
  refine i_169_0 (x := a0) rfl ?_
  refine i_169_1 (x := 0) rfl ?_
  refine i_169_2 (fun h => absurd e0 (Int.not_le.mpr h)) (fun _ => ?_)
  refine i_169_5 (x := a0) rfl ?_
  refine i_169_6 (x := 15) rfl ?_
  refine i_169_7 (fun h => absurd e1 (Int.not_le.mpr h)) (fun _ => ?_)
  refine i_169_10 ?_
  refine i_169_11 ?_
  exact i_169_15 rfl ⟨rfl, rfl⟩
theorem r_170_1 {d : Nat} {w : xW} : xRun d 170 [Value.int 1] w (.inl none) w := by
  refine xRun.of ?_
  refine i_170_0 (x := 1) rfl ?_
  refine i_170_1 (fun _ => ?_) (fun h => absurd h (by decide))
  exact i_170_12 ⟨rfl, rfl⟩
theorem r_168_1 {d : Nat} {w : xW} {a0 : Int32} (e0 : 0 ≤ a0.toInt) (e1 : a0.toInt ≤ 15) : xRun (d + 1) 168 [Value.int a0] w (.inl none) w := by
  refine xRun.of ?_
  refine i_168_0 (x := a0) rfl ?_
  refine i_168_1 ?_
  refine i_168_2 ?_
  refine i_168_4 (Nat.le_of_ble_eq_true rfl) (r_169_1 e0 e1) ?_
  refine i_168_7 (Nat.le_of_ble_eq_true rfl) (r_170_1) ?_
  exact i_168_10 ⟨rfl, rfl⟩
theorem r_225_1 {d : Nat} {w : xW} {a0 : Int32} {a1 : Int32} {a2 : Int32} {a3 : Int32} (e0 : 0 ≤ a0.toInt) (e1 : a0.toInt ≤ 15) (e2 : a1.toInt < 0) : xRun (d + 8) 225 [Value.ref 128, Value.int a0, Value.int a1, Value.int a2, Value.int a3] w (.inr w.length) (w ++ [Sum.inr (14, [])]) := by
  refine xRun.of ?_
  refine i_225_0 (x := a0) rfl ?_
  refine i_225_1 (Nat.le_of_ble_eq_true rfl) (r_168_1 e0 e1) ?_
  refine i_225_4 (x := a1) rfl ?_
  exact j_225_5 (Nat.le_of_ble_eq_true rfl) (r_168_0 e2) (xDone.t xgl rfl rfl ⟨rfl, rfl⟩)
theorem r_224_1 {d : Nat} {w : xW} {a0 : Int32} {a1 : Int32} {a2 : Int32} {a3 : Int32} (hw0 : w[128]? = some (Sum.inr (12, [Value.ref 129, Value.ref 131, Value.ref 133, Value.ref 135, Value.ref 137, Value.ref 139, Value.ref 141, Value.ref 143, Value.ref 145, Value.ref 147, Value.ref 149, Value.ref 151, Value.ref 153, Value.ref 154, Value.ref 155, Value.ref 156, Value.ref 157, Value.int (-16384), Value.int 16384, Value.int 0, Value.int 0, Value.int 0, Value.ref 158, Value.ref 159, Value.int 0, Value.int 0, Value.int 0, Value.int 0, Value.int 0, Value.int 0, Value.int 0, Value.int 0]))) (e1 : 0 ≤ a0.toInt) (e2 : a0.toInt ≤ 15) (e3 : a1.toInt < 0) : xRun (d + 9) 224 [Value.ref 128, Value.int a0, Value.int a1, Value.int a2, Value.int a3] w (.inl (some (Value.int 0))) (((w.set 128 (Sum.inr (12, [Value.ref 129, Value.ref 131, Value.ref 133, Value.ref 135, Value.ref 137, Value.ref 139, Value.ref 141, Value.ref 143, Value.ref 145, Value.ref 147, Value.ref 149, Value.ref 151, Value.ref 153, Value.ref 154, Value.ref 155, Value.ref 156, Value.ref 157, Value.int (-16384), Value.int 16384, Value.int 0, Value.int 0, Value.int 0, Value.ref 158, Value.ref 159, Value.int 0, Value.int 0, Value.int 0, Value.int 0, Value.int 0, Value.int 0, Value.int 0, Value.int 0]))) ++ [Sum.inr (14, [])]).set 128 (Sum.inr (12, [Value.ref 129, Value.ref 131, Value.ref 133, Value.ref 135, Value.ref 137, Value.ref 139, Value.ref 141, Value.ref 143, Value.ref 145, Value.ref 147, Value.ref 149, Value.ref 151, Value.ref 153, Value.ref 154, Value.ref 155, Value.ref 156, Value.ref 157, Value.int (-16384), Value.int 16384, Value.int 0, Value.int 0, Value.int 0, Value.ref 158, Value.ref 159, Value.int 0, Value.int 0, Value.int 0, Value.int 0, Value.int 0, Value.int 0, Value.int 0, Value.int 1]))) := by
  refine xRun.of ?_
  refine i_224_0 (x := 128) rfl ?_
  refine i_224_1 ?_
  refine i_224_2 (fs2 := [Value.ref 129, Value.ref 131, Value.ref 133, Value.ref 135, Value.ref 137, Value.ref 139, Value.ref 141, Value.ref 143, Value.ref 145, Value.ref 147, Value.ref 149, Value.ref 151, Value.ref 153, Value.ref 154, Value.ref 155, Value.ref 156, Value.ref 157, Value.int (-16384), Value.int 16384, Value.int 0, Value.int 0, Value.int 0, Value.ref 158, Value.ref 159, Value.int 0, Value.int 0, Value.int 0, Value.int 0, Value.int 0, Value.int 0, Value.int 0, Value.int 0]) hw0 (Nat.le_of_ble_eq_true rfl) rfl (by decide) ?_
  refine i_224_5 (x := 128) rfl ?_
  refine i_224_6 (x := a0) rfl ?_
  refine i_224_7 (x := a1) rfl ?_
  refine i_224_8 (x := a2) rfl ?_
  refine i_224_9 (x := a3) rfl ?_
  refine j_224_11 (xgs hw0) (Nat.le_of_ble_eq_true rfl) (r_225_1 e1 e2 e3) (xDone.c xgl rfl rfl ?_)
  refine i_224_15 (lv2 := [(5, Value.ref ((w.set 128 (Sum.inr (12, [Value.ref 129, Value.ref 131, Value.ref 133, Value.ref 135, Value.ref 137, Value.ref 139, Value.ref 141, Value.ref 143, Value.ref 145, Value.ref 147, Value.ref 149, Value.ref 151, Value.ref 153, Value.ref 154, Value.ref 155, Value.ref 156, Value.ref 157, Value.int (-16384), Value.int 16384, Value.int 0, Value.int 0, Value.int 0, Value.ref 158, Value.ref 159, Value.int 0, Value.int 0, Value.int 0, Value.int 0, Value.int 0, Value.int 0, Value.int 0, Value.int 0]))).length)), (0, Value.ref 128), (1, Value.int a0), (2, Value.int a1), (3, Value.int a2), (4, Value.int a3)]) rfl ?_
  refine i_224_17 (x := 128) rfl ?_
  refine i_224_18 ?_
  refine i_224_19 (fs2 := [Value.ref 129, Value.ref 131, Value.ref 133, Value.ref 135, Value.ref 137, Value.ref 139, Value.ref 141, Value.ref 143, Value.ref 145, Value.ref 147, Value.ref 149, Value.ref 151, Value.ref 153, Value.ref 154, Value.ref 155, Value.ref 156, Value.ref 157, Value.int (-16384), Value.int 16384, Value.int 0, Value.int 0, Value.int 0, Value.ref 158, Value.ref 159, Value.int 0, Value.int 0, Value.int 0, Value.int 0, Value.int 0, Value.int 0, Value.int 0, Value.int 1]) (xga (xgs hw0)) (Nat.le_of_ble_eq_true rfl) rfl (by decide) ?_
  refine i_224_22 ?_
  exact i_224_23 ⟨rfl, rfl⟩
theorem o_8_1 {d : Nat} {xs : Nat → Int32} (h0 : ((xs 0) &&& (31 : Int32)).toInt = 8) (c0 : 0 ≤ (xs 1).toInt) (c1 : (xs 1).toInt < 16) (c2 : (xs 2).toInt < 0) : ∃ w1, xEv (d + 20) 287 23 [(4, Value.int 0), (3, Value.ref 194), (2, Value.ref 128), (1, Value.ref 7), (0, Value.ref 0)] [] (W0 6 xs) (fun o' w' => o' = .inl (some (Value.int 1)) ∧ w' = w1) ∧ w1.length ≤ 220 ∧ xsz w1 ≤ 200000 := by
  refine ⟨(((((W0 6 xs) ++ [Sum.inr (14, [])]).set 128 (Sum.inr (12, [Value.ref 129, Value.ref 131, Value.ref 133, Value.ref 135, Value.ref 137, Value.ref 139, Value.ref 141, Value.ref 143, Value.ref 145, Value.ref 147, Value.ref 149, Value.ref 151, Value.ref 153, Value.ref 154, Value.ref 155, Value.ref 156, Value.ref 157, Value.int (-16384), Value.int 16384, Value.int 0, Value.int 0, Value.int 0, Value.ref 158, Value.ref 159, Value.int 0, Value.int 0, Value.int 0, Value.int 0, Value.int 0, Value.int 0, Value.int 0, Value.int 0]))) ++ [Sum.inr (14, [])]).set 128 (Sum.inr (12, [Value.ref 129, Value.ref 131, Value.ref 133, Value.ref 135, Value.ref 137, Value.ref 139, Value.ref 141, Value.ref 143, Value.ref 145, Value.ref 147, Value.ref 149, Value.ref 151, Value.ref 153, Value.ref 154, Value.ref 155, Value.ref 156, Value.ref 157, Value.int (-16384), Value.int 16384, Value.int 0, Value.int 0, Value.int 0, Value.ref 158, Value.ref 159, Value.int 0, Value.int 0, Value.int 0, Value.int 0, Value.int 0, Value.int 0, Value.int 0, Value.int 1]))), ?_, (show xLs _ 220 200000 from ?_)⟩
  · refine i_287_23 (x := 0) rfl ?_
    refine i_287_25 (x := 0) rfl ?_
    refine i_287_26 (c := 6) W0_0 (by decide) ?_
    refine i_287_27 ?_
    refine i_287_29 (c := 0) (by decide) ?_
    refine i_287_30 (fun h => absurd h (by decide)) (fun _ => ?_)
    refine i_287_33 (x := 0) rfl ?_
    refine i_287_34 (x := 0) rfl ?_
    refine i_287_36 (v := Value.int (xs 0)) W0_0 (by decide) (by decide) rfl ?_
    refine i_287_37 ?_
    refine i_287_39 (c := 8) (show ((xs 0) &&& (31 : Int32)) = 8 from (xge_c (n := 8) (by omega) rfl)) ?_
    refine i_287_40_8 rfl ?_
    refine i_287_873 (x := 7) rfl ?_
    refine i_287_874 (x := 0) rfl ?_
    refine i_287_875 (x := 0) rfl ?_
    refine i_287_877 ?_
    refine i_287_878 (c := 1) (by decide) ?_
    refine i_287_879 (v := Value.int (xs 1)) W0_0 (by decide) (by decide) rfl ?_
    refine i_287_880 (x := 0) rfl ?_
    refine i_287_881 (x := 0) rfl ?_
    refine i_287_883 ?_
    refine i_287_884 (c := 2) (by decide) ?_
    refine i_287_885 (v := Value.int (xs 2)) W0_0 (by decide) (by decide) rfl ?_
    refine i_287_886 (x := 0) rfl ?_
    refine i_287_887 (x := 0) rfl ?_
    refine i_287_889 ?_
    refine i_287_890 (c := 3) (by decide) ?_
    refine i_287_891 (v := Value.int (xs 3)) W0_0 (by decide) (by decide) rfl ?_
    refine i_287_892 (x := 0) rfl ?_
    refine i_287_893 (x := 0) rfl ?_
    refine i_287_895 ?_
    refine i_287_896 (c := 4) (by decide) ?_
    refine i_287_897 (v := Value.int (xs 4)) W0_0 (by decide) (by decide) rfl ?_
    refine i_287_898 (x := 194) rfl ?_
    refine i_287_899 (Nat.le_of_ble_eq_true rfl) (r_100_1 W0_7 (by omega) (by omega) (by omega)) ?_
    refine i_287_902 (lv2 := [(5, Value.int 1), (4, Value.int 0), (3, Value.ref 194), (2, Value.ref 128), (1, Value.ref 7), (0, Value.ref 0)]) rfl ?_
    refine i_287_904 (x := 128) rfl ?_
    refine i_287_905 (x := 0) rfl ?_
    refine i_287_906 (x := 0) rfl ?_
    refine i_287_908 ?_
    refine i_287_909 (c := 1) (by decide) ?_
    refine i_287_910 (v := Value.int (xs 1)) (xga W0_0) (by decide) (by decide) rfl ?_
    refine i_287_911 (x := 0) rfl ?_
    refine i_287_912 (x := 0) rfl ?_
    refine i_287_914 ?_
    refine i_287_915 (c := 2) (by decide) ?_
    refine i_287_916 (v := Value.int (xs 2)) (xga W0_0) (by decide) (by decide) rfl ?_
    refine i_287_917 (x := 0) rfl ?_
    refine i_287_918 (x := 0) rfl ?_
    refine i_287_920 ?_
    refine i_287_921 (c := 3) (by decide) ?_
    refine i_287_922 (v := Value.int (xs 3)) (xga W0_0) (by decide) (by decide) rfl ?_
    refine i_287_923 (x := 0) rfl ?_
    refine i_287_924 (x := 0) rfl ?_
    refine i_287_926 ?_
    refine i_287_927 (c := 4) (by decide) ?_
    refine i_287_928 (v := Value.int (xs 4)) (xga W0_0) (by decide) (by decide) rfl ?_
    refine i_287_929 (xga W0_128) (Nat.le_of_ble_eq_true rfl) (r_224_1 (xga W0_128) (by omega) (by omega) (by omega)) ?_
    refine i_287_932 (lv2 := [(6, Value.int 0), (5, Value.int 1), (4, Value.int 0), (3, Value.ref 194), (2, Value.ref 128), (1, Value.ref 7), (0, Value.ref 0)]) rfl ?_
    refine i_287_934 (x := 128) rfl ?_
    refine i_287_935 (xgs (xga (xgs (xga W0_128)))) (Nat.le_of_ble_eq_true rfl) (r_165_0 (xgs (xga (xgs (xga W0_128))))) ?_
    refine i_287_938 (x := 1) rfl ?_
    refine i_287_940 (fun _ => ?_) (fun h => absurd h (by decide))
    refine i_287_945 (x := 1) rfl ?_
    refine i_287_947 (fun _ => ?_) (fun h => absurd h (by decide))
    refine i_287_962 ?_
    refine i_287_2154 (x := 0) (c := 6) (lv2 := [(4, Value.int 6), (6, Value.int 0), (5, Value.int 1), (3, Value.ref 194), (2, Value.ref 128), (1, Value.ref 7), (0, Value.ref 0)]) rfl (by decide) rfl ?_
    refine i_287_2157 ?_
    refine i_287_23 (x := 6) rfl ?_
    refine i_287_25 (x := 0) rfl ?_
    refine i_287_26 (c := 6) (xgn (by decide) (xga (xgn (by decide) (xga W0_0)))) (by decide) ?_
    refine i_287_27 ?_
    refine i_287_29 (c := 0) (by decide) ?_
    refine i_287_30 (fun _ => ?_) (fun h => absurd h (by decide))
    refine i_287_2160 ?_
    exact i_287_2161 rfl ⟨rfl, rfl⟩
  · refine xLs.set ?_ (xga (xgs (xga W0_128))) xcs_o
    refine xLs.app (n := 219) (z := 199994) (m := 6) ?_ rfl
    refine xLs.set ?_ (xga W0_128) xcs_o
    refine xLs.app (n := 218) (z := 199988) (m := 6) ?_ rfl
    exact ⟨Nat.le_trans (Nat.le_of_eq W0_len) (by decide), Nat.le_trans (Nat.le_of_eq W0_sz) (by decide)⟩
theorem r_101_2 {d : Nat} {w : xW} {a0 : Int32} {a1 : Int32} {a2 : Int32} {a3 : Int32} (e0 : 0 ≤ a0.toInt) (e1 : a0.toInt < 16) (e2 : 0 ≤ a1.toInt) (e3 : a1.toInt < 16) (e4 : a2.toInt < (-32)) : xRun (d + 6) 101 [Value.ref 7, Value.int a0, Value.int a1, Value.int a2, Value.int a3] w (.inr w.length) (w ++ [Sum.inr (14, [])]) := by
  refine xRun.of ?_
  refine i_101_0 (x := a0) rfl ?_
  refine i_101_1 (Nat.le_of_ble_eq_true rfl) (r_15_1 e0 e1) ?_
  refine i_101_4 (fun h => absurd h (by decide)) (fun _ => ?_)
  refine i_101_7 (x := a1) rfl ?_
  refine i_101_8 (Nat.le_of_ble_eq_true rfl) (r_15_1 e2 e3) ?_
  refine i_101_11 (fun h => absurd h (by decide)) (fun _ => ?_)
  refine i_101_14 (x := a2) rfl ?_
  refine i_101_15 ?_
  refine i_101_17 (fun _ => ?_) (fun h => absurd e4 (Int.not_lt.mpr h))
  exact i_101_34 (by omega) (Nat.le_of_ble_eq_true rfl) ⟨rfl, rfl⟩
theorem r_100_2 {d : Nat} {w : xW} {a0 : Int32} {a1 : Int32} {a2 : Int32} {a3 : Int32} (hw0 : w[7]? = some (Sum.inr (0, [Value.ref 8, Value.ref 78, Value.ref 9, Value.ref 10, Value.ref 13, Value.ref 16, Value.ref 19, Value.ref 93, Value.ref 108, Value.ref 113, Value.ref 29, Value.int 0]))) (e1 : 0 ≤ a0.toInt) (e2 : a0.toInt < 16) (e3 : 0 ≤ a1.toInt) (e4 : a1.toInt < 16) (e5 : a2.toInt < (-32)) : xRun (d + 7) 100 [Value.ref 7, Value.int a0, Value.int a1, Value.int a2, Value.int a3, Value.ref 194] w (.inl (some (Value.int 1))) (w ++ [Sum.inr (14, [])]) := by
  refine xRun.of ?_
  refine i_100_0 (x := 194) rfl ?_
  refine i_100_2 ?_
  refine i_100_3 (x := 7) rfl ?_
  refine i_100_4 (x := a0) rfl ?_
  refine i_100_5 (x := a1) rfl ?_
  refine i_100_6 (x := a2) rfl ?_
  refine i_100_7 (x := a3) rfl ?_
  refine j_100_9 hw0 (Nat.le_of_ble_eq_true rfl) (r_101_2 e1 e2 e3 e4 e5) (xDone.c xgl rfl rfl ?_)
  refine i_100_17 (lv2 := [(6, Value.ref w.length), (0, Value.ref 7), (1, Value.int a0), (2, Value.int a1), (3, Value.int a2), (4, Value.int a3), (5, Value.ref 194)]) rfl ?_
  refine i_100_19 ?_
  exact i_100_20 ⟨rfl, rfl⟩
theorem r_169_2 {d : Nat} {w : xW} {a0 : Int32} (e0 : a0.toInt < (-32)) : xRun d 169 [Value.int a0, Value.int (-32), Value.int 32] w (.inl (some (Value.int 0))) w := by
  refine xRun.of ?_
  refine i_169_0 (x := a0) rfl ?_
  refine i_169_1 (x := (-32)) rfl ?_
  refine i_169_2 (fun _ => ?_) (fun h => absurd e0 (Int.not_lt.mpr h))
  refine i_169_14 ?_
  exact i_169_15 rfl ⟨rfl, rfl⟩
theorem r_225_2 {d : Nat} {w : xW} {a0 : Int32} {a1 : Int32} {a2 : Int32} {a3 : Int32} (e0 : 0 ≤ a0.toInt) (e1 : a0.toInt ≤ 15) (e2 : 0 ≤ a1.toInt) (e3 : a1.toInt ≤ 15) (e4 : a2.toInt < (-32)) : xRun (d + 7) 225 [Value.ref 128, Value.int a0, Value.int a1, Value.int a2, Value.int a3] w (.inr w.length) (w ++ [Sum.inr (14, [])]) := by
  refine xRun.of ?_
  refine i_225_0 (x := a0) rfl ?_
  refine i_225_1 (Nat.le_of_ble_eq_true rfl) (r_168_1 e0 e1) ?_
  refine i_225_4 (x := a1) rfl ?_
  refine i_225_5 (Nat.le_of_ble_eq_true rfl) (r_168_1 e2 e3) ?_
  refine i_225_8 (x := a2) rfl ?_
  refine i_225_9 ?_
  refine i_225_11 ?_
  refine i_225_13 (Nat.le_of_ble_eq_true rfl) (r_169_2 e4) ?_
  exact j_225_16 (Nat.le_of_ble_eq_true rfl) (r_170_0) (xDone.t xgl rfl rfl ⟨rfl, rfl⟩)
theorem r_224_2 {d : Nat} {w : xW} {a0 : Int32} {a1 : Int32} {a2 : Int32} {a3 : Int32} (hw0 : w[128]? = some (Sum.inr (12, [Value.ref 129, Value.ref 131, Value.ref 133, Value.ref 135, Value.ref 137, Value.ref 139, Value.ref 141, Value.ref 143, Value.ref 145, Value.ref 147, Value.ref 149, Value.ref 151, Value.ref 153, Value.ref 154, Value.ref 155, Value.ref 156, Value.ref 157, Value.int (-16384), Value.int 16384, Value.int 0, Value.int 0, Value.int 0, Value.ref 158, Value.ref 159, Value.int 0, Value.int 0, Value.int 0, Value.int 0, Value.int 0, Value.int 0, Value.int 0, Value.int 0]))) (e1 : 0 ≤ a0.toInt) (e2 : a0.toInt ≤ 15) (e3 : 0 ≤ a1.toInt) (e4 : a1.toInt ≤ 15) (e5 : a2.toInt < (-32)) : xRun (d + 8) 224 [Value.ref 128, Value.int a0, Value.int a1, Value.int a2, Value.int a3] w (.inl (some (Value.int 0))) (((w.set 128 (Sum.inr (12, [Value.ref 129, Value.ref 131, Value.ref 133, Value.ref 135, Value.ref 137, Value.ref 139, Value.ref 141, Value.ref 143, Value.ref 145, Value.ref 147, Value.ref 149, Value.ref 151, Value.ref 153, Value.ref 154, Value.ref 155, Value.ref 156, Value.ref 157, Value.int (-16384), Value.int 16384, Value.int 0, Value.int 0, Value.int 0, Value.ref 158, Value.ref 159, Value.int 0, Value.int 0, Value.int 0, Value.int 0, Value.int 0, Value.int 0, Value.int 0, Value.int 0]))) ++ [Sum.inr (14, [])]).set 128 (Sum.inr (12, [Value.ref 129, Value.ref 131, Value.ref 133, Value.ref 135, Value.ref 137, Value.ref 139, Value.ref 141, Value.ref 143, Value.ref 145, Value.ref 147, Value.ref 149, Value.ref 151, Value.ref 153, Value.ref 154, Value.ref 155, Value.ref 156, Value.ref 157, Value.int (-16384), Value.int 16384, Value.int 0, Value.int 0, Value.int 0, Value.ref 158, Value.ref 159, Value.int 0, Value.int 0, Value.int 0, Value.int 0, Value.int 0, Value.int 0, Value.int 0, Value.int 1]))) := by
  refine xRun.of ?_
  refine i_224_0 (x := 128) rfl ?_
  refine i_224_1 ?_
  refine i_224_2 (fs2 := [Value.ref 129, Value.ref 131, Value.ref 133, Value.ref 135, Value.ref 137, Value.ref 139, Value.ref 141, Value.ref 143, Value.ref 145, Value.ref 147, Value.ref 149, Value.ref 151, Value.ref 153, Value.ref 154, Value.ref 155, Value.ref 156, Value.ref 157, Value.int (-16384), Value.int 16384, Value.int 0, Value.int 0, Value.int 0, Value.ref 158, Value.ref 159, Value.int 0, Value.int 0, Value.int 0, Value.int 0, Value.int 0, Value.int 0, Value.int 0, Value.int 0]) hw0 (Nat.le_of_ble_eq_true rfl) rfl (by decide) ?_
  refine i_224_5 (x := 128) rfl ?_
  refine i_224_6 (x := a0) rfl ?_
  refine i_224_7 (x := a1) rfl ?_
  refine i_224_8 (x := a2) rfl ?_
  refine i_224_9 (x := a3) rfl ?_
  refine j_224_11 (xgs hw0) (Nat.le_of_ble_eq_true rfl) (r_225_2 e1 e2 e3 e4 e5) (xDone.c xgl rfl rfl ?_)
  refine i_224_15 (lv2 := [(5, Value.ref ((w.set 128 (Sum.inr (12, [Value.ref 129, Value.ref 131, Value.ref 133, Value.ref 135, Value.ref 137, Value.ref 139, Value.ref 141, Value.ref 143, Value.ref 145, Value.ref 147, Value.ref 149, Value.ref 151, Value.ref 153, Value.ref 154, Value.ref 155, Value.ref 156, Value.ref 157, Value.int (-16384), Value.int 16384, Value.int 0, Value.int 0, Value.int 0, Value.ref 158, Value.ref 159, Value.int 0, Value.int 0, Value.int 0, Value.int 0, Value.int 0, Value.int 0, Value.int 0, Value.int 0]))).length)), (0, Value.ref 128), (1, Value.int a0), (2, Value.int a1), (3, Value.int a2), (4, Value.int a3)]) rfl ?_
  refine i_224_17 (x := 128) rfl ?_
  refine i_224_18 ?_
  refine i_224_19 (fs2 := [Value.ref 129, Value.ref 131, Value.ref 133, Value.ref 135, Value.ref 137, Value.ref 139, Value.ref 141, Value.ref 143, Value.ref 145, Value.ref 147, Value.ref 149, Value.ref 151, Value.ref 153, Value.ref 154, Value.ref 155, Value.ref 156, Value.ref 157, Value.int (-16384), Value.int 16384, Value.int 0, Value.int 0, Value.int 0, Value.ref 158, Value.ref 159, Value.int 0, Value.int 0, Value.int 0, Value.int 0, Value.int 0, Value.int 0, Value.int 0, Value.int 1]) (xga (xgs hw0)) (Nat.le_of_ble_eq_true rfl) rfl (by decide) ?_
  refine i_224_22 ?_
  exact i_224_23 ⟨rfl, rfl⟩
theorem o_8_2 {d : Nat} {xs : Nat → Int32} (h0 : ((xs 0) &&& (31 : Int32)).toInt = 8) (c0 : 0 ≤ (xs 1).toInt) (c1 : (xs 1).toInt < 16) (c2 : 0 ≤ (xs 2).toInt) (c3 : (xs 2).toInt < 16) (c4 : (xs 3).toInt < (-32)) : ∃ w1, xEv (d + 20) 287 23 [(4, Value.int 0), (3, Value.ref 194), (2, Value.ref 128), (1, Value.ref 7), (0, Value.ref 0)] [] (W0 6 xs) (fun o' w' => o' = .inl (some (Value.int 1)) ∧ w' = w1) ∧ w1.length ≤ 220 ∧ xsz w1 ≤ 200000 := by
  refine ⟨(((((W0 6 xs) ++ [Sum.inr (14, [])]).set 128 (Sum.inr (12, [Value.ref 129, Value.ref 131, Value.ref 133, Value.ref 135, Value.ref 137, Value.ref 139, Value.ref 141, Value.ref 143, Value.ref 145, Value.ref 147, Value.ref 149, Value.ref 151, Value.ref 153, Value.ref 154, Value.ref 155, Value.ref 156, Value.ref 157, Value.int (-16384), Value.int 16384, Value.int 0, Value.int 0, Value.int 0, Value.ref 158, Value.ref 159, Value.int 0, Value.int 0, Value.int 0, Value.int 0, Value.int 0, Value.int 0, Value.int 0, Value.int 0]))) ++ [Sum.inr (14, [])]).set 128 (Sum.inr (12, [Value.ref 129, Value.ref 131, Value.ref 133, Value.ref 135, Value.ref 137, Value.ref 139, Value.ref 141, Value.ref 143, Value.ref 145, Value.ref 147, Value.ref 149, Value.ref 151, Value.ref 153, Value.ref 154, Value.ref 155, Value.ref 156, Value.ref 157, Value.int (-16384), Value.int 16384, Value.int 0, Value.int 0, Value.int 0, Value.ref 158, Value.ref 159, Value.int 0, Value.int 0, Value.int 0, Value.int 0, Value.int 0, Value.int 0, Value.int 0, Value.int 1]))), ?_, (show xLs _ 220 200000 from ?_)⟩
  · refine i_287_23 (x := 0) rfl ?_
    refine i_287_25 (x := 0) rfl ?_
    refine i_287_26 (c := 6) W0_0 (by decide) ?_
    refine i_287_27 ?_
    refine i_287_29 (c := 0) (by decide) ?_
    refine i_287_30 (fun h => absurd h (by decide)) (fun _ => ?_)
    refine i_287_33 (x := 0) rfl ?_
    refine i_287_34 (x := 0) rfl ?_
    refine i_287_36 (v := Value.int (xs 0)) W0_0 (by decide) (by decide) rfl ?_
    refine i_287_37 ?_
    refine i_287_39 (c := 8) (show ((xs 0) &&& (31 : Int32)) = 8 from (xge_c (n := 8) (by omega) rfl)) ?_
    refine i_287_40_8 rfl ?_
    refine i_287_873 (x := 7) rfl ?_
    refine i_287_874 (x := 0) rfl ?_
    refine i_287_875 (x := 0) rfl ?_
    refine i_287_877 ?_
    refine i_287_878 (c := 1) (by decide) ?_
    refine i_287_879 (v := Value.int (xs 1)) W0_0 (by decide) (by decide) rfl ?_
    refine i_287_880 (x := 0) rfl ?_
    refine i_287_881 (x := 0) rfl ?_
    refine i_287_883 ?_
    refine i_287_884 (c := 2) (by decide) ?_
    refine i_287_885 (v := Value.int (xs 2)) W0_0 (by decide) (by decide) rfl ?_
    refine i_287_886 (x := 0) rfl ?_
    refine i_287_887 (x := 0) rfl ?_
    refine i_287_889 ?_
    refine i_287_890 (c := 3) (by decide) ?_
    refine i_287_891 (v := Value.int (xs 3)) W0_0 (by decide) (by decide) rfl ?_
    refine i_287_892 (x := 0) rfl ?_
    refine i_287_893 (x := 0) rfl ?_
    refine i_287_895 ?_
    refine i_287_896 (c := 4) (by decide) ?_
    refine i_287_897 (v := Value.int (xs 4)) W0_0 (by decide) (by decide) rfl ?_
    refine i_287_898 (x := 194) rfl ?_
    refine i_287_899 (Nat.le_of_ble_eq_true rfl) (r_100_2 W0_7 (by omega) (by omega) (by omega) (by omega) (by omega)) ?_
    refine i_287_902 (lv2 := [(5, Value.int 1), (4, Value.int 0), (3, Value.ref 194), (2, Value.ref 128), (1, Value.ref 7), (0, Value.ref 0)]) rfl ?_
    refine i_287_904 (x := 128) rfl ?_
    refine i_287_905 (x := 0) rfl ?_
    refine i_287_906 (x := 0) rfl ?_
    refine i_287_908 ?_
    refine i_287_909 (c := 1) (by decide) ?_
    refine i_287_910 (v := Value.int (xs 1)) (xga W0_0) (by decide) (by decide) rfl ?_
    refine i_287_911 (x := 0) rfl ?_
    refine i_287_912 (x := 0) rfl ?_
    refine i_287_914 ?_
    refine i_287_915 (c := 2) (by decide) ?_
    refine i_287_916 (v := Value.int (xs 2)) (xga W0_0) (by decide) (by decide) rfl ?_
    refine i_287_917 (x := 0) rfl ?_
    refine i_287_918 (x := 0) rfl ?_
    refine i_287_920 ?_
    refine i_287_921 (c := 3) (by decide) ?_
    refine i_287_922 (v := Value.int (xs 3)) (xga W0_0) (by decide) (by decide) rfl ?_
    refine i_287_923 (x := 0) rfl ?_
    refine i_287_924 (x := 0) rfl ?_
    refine i_287_926 ?_
    refine i_287_927 (c := 4) (by decide) ?_
    refine i_287_928 (v := Value.int (xs 4)) (xga W0_0) (by decide) (by decide) rfl ?_
    refine i_287_929 (xga W0_128) (Nat.le_of_ble_eq_true rfl) (r_224_2 (xga W0_128) (by omega) (by omega) (by omega) (by omega) (by omega)) ?_
    refine i_287_932 (lv2 := [(6, Value.int 0), (5, Value.int 1), (4, Value.int 0), (3, Value.ref 194), (2, Value.ref 128), (1, Value.ref 7), (0, Value.ref 0)]) rfl ?_
    refine i_287_934 (x := 128) rfl ?_
    refine i_287_935 (xgs (xga (xgs (xga W0_128)))) (Nat.le_of_ble_eq_true rfl) (r_165_0 (xgs (xga (xgs (xga W0_128))))) ?_
    refine i_287_938 (x := 1) rfl ?_
    refine i_287_940 (fun _ => ?_) (fun h => absurd h (by decide))
    refine i_287_945 (x := 1) rfl ?_
    refine i_287_947 (fun _ => ?_) (fun h => absurd h (by decide))
    refine i_287_962 ?_
    refine i_287_2154 (x := 0) (c := 6) (lv2 := [(4, Value.int 6), (6, Value.int 0), (5, Value.int 1), (3, Value.ref 194), (2, Value.ref 128), (1, Value.ref 7), (0, Value.ref 0)]) rfl (by decide) rfl ?_
    refine i_287_2157 ?_
    refine i_287_23 (x := 6) rfl ?_
    refine i_287_25 (x := 0) rfl ?_
    refine i_287_26 (c := 6) (xgn (by decide) (xga (xgn (by decide) (xga W0_0)))) (by decide) ?_
    refine i_287_27 ?_
    refine i_287_29 (c := 0) (by decide) ?_
    refine i_287_30 (fun _ => ?_) (fun h => absurd h (by decide))
    refine i_287_2160 ?_
    exact i_287_2161 rfl ⟨rfl, rfl⟩
  · refine xLs.set ?_ (xga (xgs (xga W0_128))) xcs_o
    refine xLs.app (n := 219) (z := 199994) (m := 6) ?_ rfl
    refine xLs.set ?_ (xga W0_128) xcs_o
    refine xLs.app (n := 218) (z := 199988) (m := 6) ?_ rfl
    exact ⟨Nat.le_trans (Nat.le_of_eq W0_len) (by decide), Nat.le_trans (Nat.le_of_eq W0_sz) (by decide)⟩
theorem r_101_3 {d : Nat} {w : xW} {a0 : Int32} {a1 : Int32} {a2 : Int32} {a3 : Int32} (e0 : 0 ≤ a0.toInt) (e1 : a0.toInt < 16) (e2 : 0 ≤ a1.toInt) (e3 : a1.toInt < 16) (e4 : (-32) ≤ a2.toInt) (e5 : 32 < a2.toInt) : xRun (d + 6) 101 [Value.ref 7, Value.int a0, Value.int a1, Value.int a2, Value.int a3] w (.inr w.length) (w ++ [Sum.inr (14, [])]) := by
  refine xRun.of ?_
  refine i_101_0 (x := a0) rfl ?_
  refine i_101_1 (Nat.le_of_ble_eq_true rfl) (r_15_1 e0 e1) ?_
  refine i_101_4 (fun h => absurd h (by decide)) (fun _ => ?_)
  refine i_101_7 (x := a1) rfl ?_
  refine i_101_8 (Nat.le_of_ble_eq_true rfl) (r_15_1 e2 e3) ?_
  refine i_101_11 (fun h => absurd h (by decide)) (fun _ => ?_)
  refine i_101_14 (x := a2) rfl ?_
  refine i_101_15 ?_
  refine i_101_17 (fun h => absurd e4 (Int.not_le.mpr h)) (fun _ => ?_)
  refine i_101_20 (x := a2) rfl ?_
  refine i_101_21 ?_
  refine i_101_23 (fun _ => ?_) (fun h => absurd e5 (Int.not_lt.mpr h))
  exact i_101_34 (by omega) (Nat.le_of_ble_eq_true rfl) ⟨rfl, rfl⟩
theorem r_100_3 {d : Nat} {w : xW} {a0 : Int32} {a1 : Int32} {a2 : Int32} {a3 : Int32} (hw0 : w[7]? = some (Sum.inr (0, [Value.ref 8, Value.ref 78, Value.ref 9, Value.ref 10, Value.ref 13, Value.ref 16, Value.ref 19, Value.ref 93, Value.ref 108, Value.ref 113, Value.ref 29, Value.int 0]))) (e1 : 0 ≤ a0.toInt) (e2 : a0.toInt < 16) (e3 : 0 ≤ a1.toInt) (e4 : a1.toInt < 16) (e5 : (-32) ≤ a2.toInt) (e6 : 32 < a2.toInt) : xRun (d + 7) 100 [Value.ref 7, Value.int a0, Value.int a1, Value.int a2, Value.int a3, Value.ref 194] w (.inl (some (Value.int 1))) (w ++ [Sum.inr (14, [])]) := by
  refine xRun.of ?_
  refine i_100_0 (x := 194) rfl ?_
  refine i_100_2 ?_
  refine i_100_3 (x := 7) rfl ?_
  refine i_100_4 (x := a0) rfl ?_
  refine i_100_5 (x := a1) rfl ?_
  refine i_100_6 (x := a2) rfl ?_
  refine i_100_7 (x := a3) rfl ?_
  refine j_100_9 hw0 (Nat.le_of_ble_eq_true rfl) (r_101_3 e1 e2 e3 e4 e5 e6) (xDone.c xgl rfl rfl ?_)
  refine i_100_17 (lv2 := [(6, Value.ref w.length), (0, Value.ref 7), (1, Value.int a0), (2, Value.int a1), (3, Value.int a2), (4, Value.int a3), (5, Value.ref 194)]) rfl ?_
  refine i_100_19 ?_
  exact i_100_20 ⟨rfl, rfl⟩
theorem r_169_3 {d : Nat} {w : xW} {a0 : Int32} (e0 : (-32) ≤ a0.toInt) (e1 : 32 < a0.toInt) : xRun d 169 [Value.int a0, Value.int (-32), Value.int 32] w (.inl (some (Value.int 0))) w := by
  refine xRun.of ?_
  refine i_169_0 (x := a0) rfl ?_
  refine i_169_1 (x := (-32)) rfl ?_
  refine i_169_2 (fun h => absurd e0 (Int.not_le.mpr h)) (fun _ => ?_)
  refine i_169_5 (x := a0) rfl ?_
  refine i_169_6 (x := 32) rfl ?_
  refine i_169_7 (fun _ => ?_) (fun h => absurd e1 (Int.not_lt.mpr h))
  refine i_169_14 ?_
  exact i_169_15 rfl ⟨rfl, rfl⟩
theorem r_225_3 {d : Nat} {w : xW} {a0 : Int32} {a1 : Int32} {a2 : Int32} {a3 : Int32} (e0 : 0 ≤ a0.toInt) (e1 : a0.toInt ≤ 15) (e2 : 0 ≤ a1.toInt) (e3 : a1.toInt ≤ 15) (e4 : (-32) ≤ a2.toInt) (e5 : 32 < a2.toInt) : xRun (d + 7) 225 [Value.ref 128, Value.int a0, Value.int a1, Value.int a2, Value.int a3] w (.inr w.length) (w ++ [Sum.inr (14, [])]) := by
  refine xRun.of ?_
  refine i_225_0 (x := a0) rfl ?_
  refine i_225_1 (Nat.le_of_ble_eq_true rfl) (r_168_1 e0 e1) ?_
  refine i_225_4 (x := a1) rfl ?_
  refine i_225_5 (Nat.le_of_ble_eq_true rfl) (r_168_1 e2 e3) ?_
  refine i_225_8 (x := a2) rfl ?_
  refine i_225_9 ?_
  refine i_225_11 ?_
  refine i_225_13 (Nat.le_of_ble_eq_true rfl) (r_169_3 e4 e5) ?_
  exact j_225_16 (Nat.le_of_ble_eq_true rfl) (r_170_0) (xDone.t xgl rfl rfl ⟨rfl, rfl⟩)
theorem r_224_3 {d : Nat} {w : xW} {a0 : Int32} {a1 : Int32} {a2 : Int32} {a3 : Int32} (hw0 : w[128]? = some (Sum.inr (12, [Value.ref 129, Value.ref 131, Value.ref 133, Value.ref 135, Value.ref 137, Value.ref 139, Value.ref 141, Value.ref 143, Value.ref 145, Value.ref 147, Value.ref 149, Value.ref 151, Value.ref 153, Value.ref 154, Value.ref 155, Value.ref 156, Value.ref 157, Value.int (-16384), Value.int 16384, Value.int 0, Value.int 0, Value.int 0, Value.ref 158, Value.ref 159, Value.int 0, Value.int 0, Value.int 0, Value.int 0, Value.int 0, Value.int 0, Value.int 0, Value.int 0]))) (e1 : 0 ≤ a0.toInt) (e2 : a0.toInt ≤ 15) (e3 : 0 ≤ a1.toInt) (e4 : a1.toInt ≤ 15) (e5 : (-32) ≤ a2.toInt) (e6 : 32 < a2.toInt) : xRun (d + 8) 224 [Value.ref 128, Value.int a0, Value.int a1, Value.int a2, Value.int a3] w (.inl (some (Value.int 0))) (((w.set 128 (Sum.inr (12, [Value.ref 129, Value.ref 131, Value.ref 133, Value.ref 135, Value.ref 137, Value.ref 139, Value.ref 141, Value.ref 143, Value.ref 145, Value.ref 147, Value.ref 149, Value.ref 151, Value.ref 153, Value.ref 154, Value.ref 155, Value.ref 156, Value.ref 157, Value.int (-16384), Value.int 16384, Value.int 0, Value.int 0, Value.int 0, Value.ref 158, Value.ref 159, Value.int 0, Value.int 0, Value.int 0, Value.int 0, Value.int 0, Value.int 0, Value.int 0, Value.int 0]))) ++ [Sum.inr (14, [])]).set 128 (Sum.inr (12, [Value.ref 129, Value.ref 131, Value.ref 133, Value.ref 135, Value.ref 137, Value.ref 139, Value.ref 141, Value.ref 143, Value.ref 145, Value.ref 147, Value.ref 149, Value.ref 151, Value.ref 153, Value.ref 154, Value.ref 155, Value.ref 156, Value.ref 157, Value.int (-16384), Value.int 16384, Value.int 0, Value.int 0, Value.int 0, Value.ref 158, Value.ref 159, Value.int 0, Value.int 0, Value.int 0, Value.int 0, Value.int 0, Value.int 0, Value.int 0, Value.int 1]))) := by
  refine xRun.of ?_
  refine i_224_0 (x := 128) rfl ?_
  refine i_224_1 ?_
  refine i_224_2 (fs2 := [Value.ref 129, Value.ref 131, Value.ref 133, Value.ref 135, Value.ref 137, Value.ref 139, Value.ref 141, Value.ref 143, Value.ref 145, Value.ref 147, Value.ref 149, Value.ref 151, Value.ref 153, Value.ref 154, Value.ref 155, Value.ref 156, Value.ref 157, Value.int (-16384), Value.int 16384, Value.int 0, Value.int 0, Value.int 0, Value.ref 158, Value.ref 159, Value.int 0, Value.int 0, Value.int 0, Value.int 0, Value.int 0, Value.int 0, Value.int 0, Value.int 0]) hw0 (Nat.le_of_ble_eq_true rfl) rfl (by decide) ?_
  refine i_224_5 (x := 128) rfl ?_
  refine i_224_6 (x := a0) rfl ?_
  refine i_224_7 (x := a1) rfl ?_
  refine i_224_8 (x := a2) rfl ?_
  refine i_224_9 (x := a3) rfl ?_
  refine j_224_11 (xgs hw0) (Nat.le_of_ble_eq_true rfl) (r_225_3 e1 e2 e3 e4 e5 e6) (xDone.c xgl rfl rfl ?_)
  refine i_224_15 (lv2 := [(5, Value.ref ((w.set 128 (Sum.inr (12, [Value.ref 129, Value.ref 131, Value.ref 133, Value.ref 135, Value.ref 137, Value.ref 139, Value.ref 141, Value.ref 143, Value.ref 145, Value.ref 147, Value.ref 149, Value.ref 151, Value.ref 153, Value.ref 154, Value.ref 155, Value.ref 156, Value.ref 157, Value.int (-16384), Value.int 16384, Value.int 0, Value.int 0, Value.int 0, Value.ref 158, Value.ref 159, Value.int 0, Value.int 0, Value.int 0, Value.int 0, Value.int 0, Value.int 0, Value.int 0, Value.int 0]))).length)), (0, Value.ref 128), (1, Value.int a0), (2, Value.int a1), (3, Value.int a2), (4, Value.int a3)]) rfl ?_
  refine i_224_17 (x := 128) rfl ?_
  refine i_224_18 ?_
  refine i_224_19 (fs2 := [Value.ref 129, Value.ref 131, Value.ref 133, Value.ref 135, Value.ref 137, Value.ref 139, Value.ref 141, Value.ref 143, Value.ref 145, Value.ref 147, Value.ref 149, Value.ref 151, Value.ref 153, Value.ref 154, Value.ref 155, Value.ref 156, Value.ref 157, Value.int (-16384), Value.int 16384, Value.int 0, Value.int 0, Value.int 0, Value.ref 158, Value.ref 159, Value.int 0, Value.int 0, Value.int 0, Value.int 0, Value.int 0, Value.int 0, Value.int 0, Value.int 1]) (xga (xgs hw0)) (Nat.le_of_ble_eq_true rfl) rfl (by decide) ?_
  refine i_224_22 ?_
  exact i_224_23 ⟨rfl, rfl⟩
theorem o_8_3 {d : Nat} {xs : Nat → Int32} (h0 : ((xs 0) &&& (31 : Int32)).toInt = 8) (c0 : 0 ≤ (xs 1).toInt) (c1 : (xs 1).toInt < 16) (c2 : 0 ≤ (xs 2).toInt) (c3 : (xs 2).toInt < 16) (c4 : (-32) ≤ (xs 3).toInt) (c5 : 32 < (xs 3).toInt) : ∃ w1, xEv (d + 20) 287 23 [(4, Value.int 0), (3, Value.ref 194), (2, Value.ref 128), (1, Value.ref 7), (0, Value.ref 0)] [] (W0 6 xs) (fun o' w' => o' = .inl (some (Value.int 1)) ∧ w' = w1) ∧ w1.length ≤ 220 ∧ xsz w1 ≤ 200000 := by
  refine ⟨(((((W0 6 xs) ++ [Sum.inr (14, [])]).set 128 (Sum.inr (12, [Value.ref 129, Value.ref 131, Value.ref 133, Value.ref 135, Value.ref 137, Value.ref 139, Value.ref 141, Value.ref 143, Value.ref 145, Value.ref 147, Value.ref 149, Value.ref 151, Value.ref 153, Value.ref 154, Value.ref 155, Value.ref 156, Value.ref 157, Value.int (-16384), Value.int 16384, Value.int 0, Value.int 0, Value.int 0, Value.ref 158, Value.ref 159, Value.int 0, Value.int 0, Value.int 0, Value.int 0, Value.int 0, Value.int 0, Value.int 0, Value.int 0]))) ++ [Sum.inr (14, [])]).set 128 (Sum.inr (12, [Value.ref 129, Value.ref 131, Value.ref 133, Value.ref 135, Value.ref 137, Value.ref 139, Value.ref 141, Value.ref 143, Value.ref 145, Value.ref 147, Value.ref 149, Value.ref 151, Value.ref 153, Value.ref 154, Value.ref 155, Value.ref 156, Value.ref 157, Value.int (-16384), Value.int 16384, Value.int 0, Value.int 0, Value.int 0, Value.ref 158, Value.ref 159, Value.int 0, Value.int 0, Value.int 0, Value.int 0, Value.int 0, Value.int 0, Value.int 0, Value.int 1]))), ?_, (show xLs _ 220 200000 from ?_)⟩
  · refine i_287_23 (x := 0) rfl ?_
    refine i_287_25 (x := 0) rfl ?_
    refine i_287_26 (c := 6) W0_0 (by decide) ?_
    refine i_287_27 ?_
    refine i_287_29 (c := 0) (by decide) ?_
    refine i_287_30 (fun h => absurd h (by decide)) (fun _ => ?_)
    refine i_287_33 (x := 0) rfl ?_
    refine i_287_34 (x := 0) rfl ?_
    refine i_287_36 (v := Value.int (xs 0)) W0_0 (by decide) (by decide) rfl ?_
    refine i_287_37 ?_
    refine i_287_39 (c := 8) (show ((xs 0) &&& (31 : Int32)) = 8 from (xge_c (n := 8) (by omega) rfl)) ?_
    refine i_287_40_8 rfl ?_
    refine i_287_873 (x := 7) rfl ?_
    refine i_287_874 (x := 0) rfl ?_
    refine i_287_875 (x := 0) rfl ?_
    refine i_287_877 ?_
    refine i_287_878 (c := 1) (by decide) ?_
    refine i_287_879 (v := Value.int (xs 1)) W0_0 (by decide) (by decide) rfl ?_
    refine i_287_880 (x := 0) rfl ?_
    refine i_287_881 (x := 0) rfl ?_
    refine i_287_883 ?_
    refine i_287_884 (c := 2) (by decide) ?_
    refine i_287_885 (v := Value.int (xs 2)) W0_0 (by decide) (by decide) rfl ?_
    refine i_287_886 (x := 0) rfl ?_
    refine i_287_887 (x := 0) rfl ?_
    refine i_287_889 ?_
    refine i_287_890 (c := 3) (by decide) ?_
    refine i_287_891 (v := Value.int (xs 3)) W0_0 (by decide) (by decide) rfl ?_
    refine i_287_892 (x := 0) rfl ?_
    refine i_287_893 (x := 0) rfl ?_
    refine i_287_895 ?_
    refine i_287_896 (c := 4) (by decide) ?_
    refine i_287_897 (v := Value.int (xs 4)) W0_0 (by decide) (by decide) rfl ?_
    refine i_287_898 (x := 194) rfl ?_
    refine i_287_899 (Nat.le_of_ble_eq_true rfl) (r_100_3 W0_7 (by omega) (by omega) (by omega) (by omega) (by omega) (by omega)) ?_
    refine i_287_902 (lv2 := [(5, Value.int 1), (4, Value.int 0), (3, Value.ref 194), (2, Value.ref 128), (1, Value.ref 7), (0, Value.ref 0)]) rfl ?_
    refine i_287_904 (x := 128) rfl ?_
    refine i_287_905 (x := 0) rfl ?_
    refine i_287_906 (x := 0) rfl ?_
    refine i_287_908 ?_
    refine i_287_909 (c := 1) (by decide) ?_
    refine i_287_910 (v := Value.int (xs 1)) (xga W0_0) (by decide) (by decide) rfl ?_
    refine i_287_911 (x := 0) rfl ?_
    refine i_287_912 (x := 0) rfl ?_
    refine i_287_914 ?_
    refine i_287_915 (c := 2) (by decide) ?_
    refine i_287_916 (v := Value.int (xs 2)) (xga W0_0) (by decide) (by decide) rfl ?_
    refine i_287_917 (x := 0) rfl ?_
    refine i_287_918 (x := 0) rfl ?_
    refine i_287_920 ?_
    refine i_287_921 (c := 3) (by decide) ?_
    refine i_287_922 (v := Value.int (xs 3)) (xga W0_0) (by decide) (by decide) rfl ?_
    refine i_287_923 (x := 0) rfl ?_
    refine i_287_924 (x := 0) rfl ?_
    refine i_287_926 ?_
    refine i_287_927 (c := 4) (by decide) ?_
    refine i_287_928 (v := Value.int (xs 4)) (xga W0_0) (by decide) (by decide) rfl ?_
    refine i_287_929 (xga W0_128) (Nat.le_of_ble_eq_true rfl) (r_224_3 (xga W0_128) (by omega) (by omega) (by omega) (by omega) (by omega) (by omega)) ?_
    refine i_287_932 (lv2 := [(6, Value.int 0), (5, Value.int 1), (4, Value.int 0), (3, Value.ref 194), (2, Value.ref 128), (1, Value.ref 7), (0, Value.ref 0)]) rfl ?_
    refine i_287_934 (x := 128) rfl ?_
    refine i_287_935 (xgs (xga (xgs (xga W0_128)))) (Nat.le_of_ble_eq_true rfl) (r_165_0 (xgs (xga (xgs (xga W0_128))))) ?_
    refine i_287_938 (x := 1) rfl ?_
    refine i_287_940 (fun _ => ?_) (fun h => absurd h (by decide))
    refine i_287_945 (x := 1) rfl ?_
    refine i_287_947 (fun _ => ?_) (fun h => absurd h (by decide))
    refine i_287_962 ?_
    refine i_287_2154 (x := 0) (c := 6) (lv2 := [(4, Value.int 6), (6, Value.int 0), (5, Value.int 1), (3, Value.ref 194), (2, Value.ref 128), (1, Value.ref 7), (0, Value.ref 0)]) rfl (by decide) rfl ?_
    refine i_287_2157 ?_
    refine i_287_23 (x := 6) rfl ?_
    refine i_287_25 (x := 0) rfl ?_
    refine i_287_26 (c := 6) (xgn (by decide) (xga (xgn (by decide) (xga W0_0)))) (by decide) ?_
    refine i_287_27 ?_
    refine i_287_29 (c := 0) (by decide) ?_
    refine i_287_30 (fun _ => ?_) (fun h => absurd h (by decide))
    refine i_287_2160 ?_
    exact i_287_2161 rfl ⟨rfl, rfl⟩
  · refine xLs.set ?_ (xga (xgs (xga W0_128))) xcs_o
    refine xLs.app (n := 219) (z := 199994) (m := 6) ?_ rfl
    refine xLs.set ?_ (xga W0_128) xcs_o
    refine xLs.app (n := 218) (z := 199988) (m := 6) ?_ rfl
    exact ⟨Nat.le_trans (Nat.le_of_eq W0_len) (by decide), Nat.le_trans (Nat.le_of_eq W0_sz) (by decide)⟩
theorem r_22_0 {d : Nat} {w : xW} {a0 : Int32} (e0 : a0.toInt < 0) : xRun d 22 [Value.int a0] w (.inl (some (Value.int 1))) w := by
  refine xRun.of ?_
  refine i_22_0 (x := a0) rfl ?_
  refine i_22_1 (fun _ => ?_) (fun h => absurd e0 (Int.not_lt.mpr h))
  refine i_22_9 ?_
  refine i_22_10 ?_
  exact i_22_14 rfl ⟨rfl, rfl⟩
theorem r_101_4 {d : Nat} {w : xW} {a0 : Int32} {a1 : Int32} {a2 : Int32} {a3 : Int32} (e0 : 0 ≤ a0.toInt) (e1 : a0.toInt < 16) (e2 : 0 ≤ a1.toInt) (e3 : a1.toInt < 16) (e4 : (-32) ≤ a2.toInt) (e5 : a2.toInt ≤ 32) (e6 : a3.toInt < 0) : xRun (d + 6) 101 [Value.ref 7, Value.int a0, Value.int a1, Value.int a2, Value.int a3] w (.inr w.length) (w ++ [Sum.inr (14, [])]) := by
  refine xRun.of ?_
  refine i_101_0 (x := a0) rfl ?_
  refine i_101_1 (Nat.le_of_ble_eq_true rfl) (r_15_1 e0 e1) ?_
  refine i_101_4 (fun h => absurd h (by decide)) (fun _ => ?_)
  refine i_101_7 (x := a1) rfl ?_
  refine i_101_8 (Nat.le_of_ble_eq_true rfl) (r_15_1 e2 e3) ?_
  refine i_101_11 (fun h => absurd h (by decide)) (fun _ => ?_)
  refine i_101_14 (x := a2) rfl ?_
  refine i_101_15 ?_
  refine i_101_17 (fun h => absurd e4 (Int.not_le.mpr h)) (fun _ => ?_)
  refine i_101_20 (x := a2) rfl ?_
  refine i_101_21 ?_
  refine i_101_23 (fun h => absurd e5 (Int.not_le.mpr h)) (fun _ => ?_)
  refine i_101_26 (x := a3) rfl ?_
  refine i_101_28 (Nat.le_of_ble_eq_true rfl) (r_22_0 e6) ?_
  refine i_101_31 (fun h => absurd h (by decide)) (fun _ => ?_)
  exact i_101_34 (by omega) (Nat.le_of_ble_eq_true rfl) ⟨rfl, rfl⟩
theorem r_100_4 {d : Nat} {w : xW} {a0 : Int32} {a1 : Int32} {a2 : Int32} {a3 : Int32} (hw0 : w[7]? = some (Sum.inr (0, [Value.ref 8, Value.ref 78, Value.ref 9, Value.ref 10, Value.ref 13, Value.ref 16, Value.ref 19, Value.ref 93, Value.ref 108, Value.ref 113, Value.ref 29, Value.int 0]))) (e1 : 0 ≤ a0.toInt) (e2 : a0.toInt < 16) (e3 : 0 ≤ a1.toInt) (e4 : a1.toInt < 16) (e5 : (-32) ≤ a2.toInt) (e6 : a2.toInt ≤ 32) (e7 : a3.toInt < 0) : xRun (d + 7) 100 [Value.ref 7, Value.int a0, Value.int a1, Value.int a2, Value.int a3, Value.ref 194] w (.inl (some (Value.int 1))) (w ++ [Sum.inr (14, [])]) := by
  refine xRun.of ?_
  refine i_100_0 (x := 194) rfl ?_
  refine i_100_2 ?_
  refine i_100_3 (x := 7) rfl ?_
  refine i_100_4 (x := a0) rfl ?_
  refine i_100_5 (x := a1) rfl ?_
  refine i_100_6 (x := a2) rfl ?_
  refine i_100_7 (x := a3) rfl ?_
  refine j_100_9 hw0 (Nat.le_of_ble_eq_true rfl) (r_101_4 e1 e2 e3 e4 e5 e6 e7) (xDone.c xgl rfl rfl ?_)
  refine i_100_17 (lv2 := [(6, Value.ref w.length), (0, Value.ref 7), (1, Value.int a0), (2, Value.int a1), (3, Value.int a2), (4, Value.int a3), (5, Value.ref 194)]) rfl ?_
  refine i_100_19 ?_
  exact i_100_20 ⟨rfl, rfl⟩
theorem r_169_4 {d : Nat} {w : xW} {a0 : Int32} (e0 : (-32) ≤ a0.toInt) (e1 : a0.toInt ≤ 32) : xRun d 169 [Value.int a0, Value.int (-32), Value.int 32] w (.inl (some (Value.int 1))) w := by
  refine xRun.of ?_
  refine i_169_0 (x := a0) rfl ?_
  refine i_169_1 (x := (-32)) rfl ?_
  refine i_169_2 (fun h => absurd e0 (Int.not_le.mpr h)) (fun _ => ?_)
  refine i_169_5 (x := a0) rfl ?_
  refine i_169_6 (x := 32) rfl ?_
  refine i_169_7 (fun h => absurd e1 (Int.not_le.mpr h)) (fun _ => ?_)
  refine i_169_10 ?_
  refine i_169_11 ?_
  exact i_169_15 rfl ⟨rfl, rfl⟩
theorem r_169_5 {d : Nat} {w : xW} {a0 : Int32} (e0 : a0.toInt < 0) : xRun d 169 [Value.int a0, Value.int 0, Value.int 4] w (.inl (some (Value.int 0))) w := by
  refine xRun.of ?_
  refine i_169_0 (x := a0) rfl ?_
  refine i_169_1 (x := 0) rfl ?_
  refine i_169_2 (fun _ => ?_) (fun h => absurd e0 (Int.not_lt.mpr h))
  refine i_169_14 ?_
  exact i_169_15 rfl ⟨rfl, rfl⟩
theorem r_178_0 {d : Nat} {w : xW} {a0 : Int32} (e0 : a0.toInt < 0) : xRun (d + 7) 178 [Value.int a0] w (.inr w.length) (w ++ [Sum.inr (14, [])]) := by
  refine xRun.of ?_
  refine i_178_0 (x := a0) rfl ?_
  refine i_178_1 ?_
  refine i_178_2 ?_
  refine i_178_3 (Nat.le_of_ble_eq_true rfl) (r_169_5 e0) ?_
  exact j_178_6 (Nat.le_of_ble_eq_true rfl) (r_170_0) (xDone.t xgl rfl rfl ⟨rfl, rfl⟩)
theorem r_225_4 {d : Nat} {w : xW} {a0 : Int32} {a1 : Int32} {a2 : Int32} {a3 : Int32} (e0 : 0 ≤ a0.toInt) (e1 : a0.toInt ≤ 15) (e2 : 0 ≤ a1.toInt) (e3 : a1.toInt ≤ 15) (e4 : (-32) ≤ a2.toInt) (e5 : a2.toInt ≤ 32) (e6 : a3.toInt < 0) : xRun (d + 8) 225 [Value.ref 128, Value.int a0, Value.int a1, Value.int a2, Value.int a3] w (.inr w.length) (w ++ [Sum.inr (14, [])]) := by
  refine xRun.of ?_
  refine i_225_0 (x := a0) rfl ?_
  refine i_225_1 (Nat.le_of_ble_eq_true rfl) (r_168_1 e0 e1) ?_
  refine i_225_4 (x := a1) rfl ?_
  refine i_225_5 (Nat.le_of_ble_eq_true rfl) (r_168_1 e2 e3) ?_
  refine i_225_8 (x := a2) rfl ?_
  refine i_225_9 ?_
  refine i_225_11 ?_
  refine i_225_13 (Nat.le_of_ble_eq_true rfl) (r_169_4 e4 e5) ?_
  refine i_225_16 (Nat.le_of_ble_eq_true rfl) (r_170_1) ?_
  refine i_225_19 (x := a3) rfl ?_
  exact j_225_21 (Nat.le_of_ble_eq_true rfl) (r_178_0 e6) (xDone.t xgl rfl rfl ⟨rfl, rfl⟩)
theorem r_224_4 {d : Nat} {w : xW} {a0 : Int32} {a1 : Int32} {a2 : Int32} {a3 : Int32} (hw0 : w[128]? = some (Sum.inr (12, [Value.ref 129, Value.ref 131, Value.ref 133, Value.ref 135, Value.ref 137, Value.ref 139, Value.ref 141, Value.ref 143, Value.ref 145, Value.ref 147, Value.ref 149, Value.ref 151, Value.ref 153, Value.ref 154, Value.ref 155, Value.ref 156, Value.ref 157, Value.int (-16384), Value.int 16384, Value.int 0, Value.int 0, Value.int 0, Value.ref 158, Value.ref 159, Value.int 0, Value.int 0, Value.int 0, Value.int 0, Value.int 0, Value.int 0, Value.int 0, Value.int 0]))) (e1 : 0 ≤ a0.toInt) (e2 : a0.toInt ≤ 15) (e3 : 0 ≤ a1.toInt) (e4 : a1.toInt ≤ 15) (e5 : (-32) ≤ a2.toInt) (e6 : a2.toInt ≤ 32) (e7 : a3.toInt < 0) : xRun (d + 9) 224 [Value.ref 128, Value.int a0, Value.int a1, Value.int a2, Value.int a3] w (.inl (some (Value.int 0))) (((w.set 128 (Sum.inr (12, [Value.ref 129, Value.ref 131, Value.ref 133, Value.ref 135, Value.ref 137, Value.ref 139, Value.ref 141, Value.ref 143, Value.ref 145, Value.ref 147, Value.ref 149, Value.ref 151, Value.ref 153, Value.ref 154, Value.ref 155, Value.ref 156, Value.ref 157, Value.int (-16384), Value.int 16384, Value.int 0, Value.int 0, Value.int 0, Value.ref 158, Value.ref 159, Value.int 0, Value.int 0, Value.int 0, Value.int 0, Value.int 0, Value.int 0, Value.int 0, Value.int 0]))) ++ [Sum.inr (14, [])]).set 128 (Sum.inr (12, [Value.ref 129, Value.ref 131, Value.ref 133, Value.ref 135, Value.ref 137, Value.ref 139, Value.ref 141, Value.ref 143, Value.ref 145, Value.ref 147, Value.ref 149, Value.ref 151, Value.ref 153, Value.ref 154, Value.ref 155, Value.ref 156, Value.ref 157, Value.int (-16384), Value.int 16384, Value.int 0, Value.int 0, Value.int 0, Value.ref 158, Value.ref 159, Value.int 0, Value.int 0, Value.int 0, Value.int 0, Value.int 0, Value.int 0, Value.int 0, Value.int 1]))) := by
  refine xRun.of ?_
  refine i_224_0 (x := 128) rfl ?_
  refine i_224_1 ?_
  refine i_224_2 (fs2 := [Value.ref 129, Value.ref 131, Value.ref 133, Value.ref 135, Value.ref 137, Value.ref 139, Value.ref 141, Value.ref 143, Value.ref 145, Value.ref 147, Value.ref 149, Value.ref 151, Value.ref 153, Value.ref 154, Value.ref 155, Value.ref 156, Value.ref 157, Value.int (-16384), Value.int 16384, Value.int 0, Value.int 0, Value.int 0, Value.ref 158, Value.ref 159, Value.int 0, Value.int 0, Value.int 0, Value.int 0, Value.int 0, Value.int 0, Value.int 0, Value.int 0]) hw0 (Nat.le_of_ble_eq_true rfl) rfl (by decide) ?_
  refine i_224_5 (x := 128) rfl ?_
  refine i_224_6 (x := a0) rfl ?_
  refine i_224_7 (x := a1) rfl ?_
  refine i_224_8 (x := a2) rfl ?_
  refine i_224_9 (x := a3) rfl ?_
  refine j_224_11 (xgs hw0) (Nat.le_of_ble_eq_true rfl) (r_225_4 e1 e2 e3 e4 e5 e6 e7) (xDone.c xgl rfl rfl ?_)
  refine i_224_15 (lv2 := [(5, Value.ref ((w.set 128 (Sum.inr (12, [Value.ref 129, Value.ref 131, Value.ref 133, Value.ref 135, Value.ref 137, Value.ref 139, Value.ref 141, Value.ref 143, Value.ref 145, Value.ref 147, Value.ref 149, Value.ref 151, Value.ref 153, Value.ref 154, Value.ref 155, Value.ref 156, Value.ref 157, Value.int (-16384), Value.int 16384, Value.int 0, Value.int 0, Value.int 0, Value.ref 158, Value.ref 159, Value.int 0, Value.int 0, Value.int 0, Value.int 0, Value.int 0, Value.int 0, Value.int 0, Value.int 0]))).length)), (0, Value.ref 128), (1, Value.int a0), (2, Value.int a1), (3, Value.int a2), (4, Value.int a3)]) rfl ?_
  refine i_224_17 (x := 128) rfl ?_
  refine i_224_18 ?_
  refine i_224_19 (fs2 := [Value.ref 129, Value.ref 131, Value.ref 133, Value.ref 135, Value.ref 137, Value.ref 139, Value.ref 141, Value.ref 143, Value.ref 145, Value.ref 147, Value.ref 149, Value.ref 151, Value.ref 153, Value.ref 154, Value.ref 155, Value.ref 156, Value.ref 157, Value.int (-16384), Value.int 16384, Value.int 0, Value.int 0, Value.int 0, Value.ref 158, Value.ref 159, Value.int 0, Value.int 0, Value.int 0, Value.int 0, Value.int 0, Value.int 0, Value.int 0, Value.int 1]) (xga (xgs hw0)) (Nat.le_of_ble_eq_true rfl) rfl (by decide) ?_
  refine i_224_22 ?_
  exact i_224_23 ⟨rfl, rfl⟩
theorem o_8_4 {d : Nat} {xs : Nat → Int32} (h0 : ((xs 0) &&& (31 : Int32)).toInt = 8) (c0 : 0 ≤ (xs 1).toInt) (c1 : (xs 1).toInt < 16) (c2 : 0 ≤ (xs 2).toInt) (c3 : (xs 2).toInt < 16) (c4 : (-32) ≤ (xs 3).toInt) (c5 : (xs 3).toInt ≤ 32) (c6 : (xs 4).toInt < 0) : ∃ w1, xEv (d + 20) 287 23 [(4, Value.int 0), (3, Value.ref 194), (2, Value.ref 128), (1, Value.ref 7), (0, Value.ref 0)] [] (W0 6 xs) (fun o' w' => o' = .inl (some (Value.int 1)) ∧ w' = w1) ∧ w1.length ≤ 220 ∧ xsz w1 ≤ 200000 := by
  refine ⟨(((((W0 6 xs) ++ [Sum.inr (14, [])]).set 128 (Sum.inr (12, [Value.ref 129, Value.ref 131, Value.ref 133, Value.ref 135, Value.ref 137, Value.ref 139, Value.ref 141, Value.ref 143, Value.ref 145, Value.ref 147, Value.ref 149, Value.ref 151, Value.ref 153, Value.ref 154, Value.ref 155, Value.ref 156, Value.ref 157, Value.int (-16384), Value.int 16384, Value.int 0, Value.int 0, Value.int 0, Value.ref 158, Value.ref 159, Value.int 0, Value.int 0, Value.int 0, Value.int 0, Value.int 0, Value.int 0, Value.int 0, Value.int 0]))) ++ [Sum.inr (14, [])]).set 128 (Sum.inr (12, [Value.ref 129, Value.ref 131, Value.ref 133, Value.ref 135, Value.ref 137, Value.ref 139, Value.ref 141, Value.ref 143, Value.ref 145, Value.ref 147, Value.ref 149, Value.ref 151, Value.ref 153, Value.ref 154, Value.ref 155, Value.ref 156, Value.ref 157, Value.int (-16384), Value.int 16384, Value.int 0, Value.int 0, Value.int 0, Value.ref 158, Value.ref 159, Value.int 0, Value.int 0, Value.int 0, Value.int 0, Value.int 0, Value.int 0, Value.int 0, Value.int 1]))), ?_, (show xLs _ 220 200000 from ?_)⟩
  · refine i_287_23 (x := 0) rfl ?_
    refine i_287_25 (x := 0) rfl ?_
    refine i_287_26 (c := 6) W0_0 (by decide) ?_
    refine i_287_27 ?_
    refine i_287_29 (c := 0) (by decide) ?_
    refine i_287_30 (fun h => absurd h (by decide)) (fun _ => ?_)
    refine i_287_33 (x := 0) rfl ?_
    refine i_287_34 (x := 0) rfl ?_
    refine i_287_36 (v := Value.int (xs 0)) W0_0 (by decide) (by decide) rfl ?_
    refine i_287_37 ?_
    refine i_287_39 (c := 8) (show ((xs 0) &&& (31 : Int32)) = 8 from (xge_c (n := 8) (by omega) rfl)) ?_
    refine i_287_40_8 rfl ?_
    refine i_287_873 (x := 7) rfl ?_
    refine i_287_874 (x := 0) rfl ?_
    refine i_287_875 (x := 0) rfl ?_
    refine i_287_877 ?_
    refine i_287_878 (c := 1) (by decide) ?_
    refine i_287_879 (v := Value.int (xs 1)) W0_0 (by decide) (by decide) rfl ?_
    refine i_287_880 (x := 0) rfl ?_
    refine i_287_881 (x := 0) rfl ?_
    refine i_287_883 ?_
    refine i_287_884 (c := 2) (by decide) ?_
    refine i_287_885 (v := Value.int (xs 2)) W0_0 (by decide) (by decide) rfl ?_
    refine i_287_886 (x := 0) rfl ?_
    refine i_287_887 (x := 0) rfl ?_
    refine i_287_889 ?_
    refine i_287_890 (c := 3) (by decide) ?_
    refine i_287_891 (v := Value.int (xs 3)) W0_0 (by decide) (by decide) rfl ?_
    refine i_287_892 (x := 0) rfl ?_
    refine i_287_893 (x := 0) rfl ?_
    refine i_287_895 ?_
    refine i_287_896 (c := 4) (by decide) ?_
    refine i_287_897 (v := Value.int (xs 4)) W0_0 (by decide) (by decide) rfl ?_
    refine i_287_898 (x := 194) rfl ?_
    refine i_287_899 (Nat.le_of_ble_eq_true rfl) (r_100_4 W0_7 (by omega) (by omega) (by omega) (by omega) (by omega) (by omega) (by omega)) ?_
    refine i_287_902 (lv2 := [(5, Value.int 1), (4, Value.int 0), (3, Value.ref 194), (2, Value.ref 128), (1, Value.ref 7), (0, Value.ref 0)]) rfl ?_
    refine i_287_904 (x := 128) rfl ?_
    refine i_287_905 (x := 0) rfl ?_
    refine i_287_906 (x := 0) rfl ?_
    refine i_287_908 ?_
    refine i_287_909 (c := 1) (by decide) ?_
    refine i_287_910 (v := Value.int (xs 1)) (xga W0_0) (by decide) (by decide) rfl ?_
    refine i_287_911 (x := 0) rfl ?_
    refine i_287_912 (x := 0) rfl ?_
    refine i_287_914 ?_
    refine i_287_915 (c := 2) (by decide) ?_
    refine i_287_916 (v := Value.int (xs 2)) (xga W0_0) (by decide) (by decide) rfl ?_
    refine i_287_917 (x := 0) rfl ?_
    refine i_287_918 (x := 0) rfl ?_
    refine i_287_920 ?_
    refine i_287_921 (c := 3) (by decide) ?_
    refine i_287_922 (v := Value.int (xs 3)) (xga W0_0) (by decide) (by decide) rfl ?_
    refine i_287_923 (x := 0) rfl ?_
    refine i_287_924 (x := 0) rfl ?_
    refine i_287_926 ?_
    refine i_287_927 (c := 4) (by decide) ?_
    refine i_287_928 (v := Value.int (xs 4)) (xga W0_0) (by decide) (by decide) rfl ?_
    refine i_287_929 (xga W0_128) (Nat.le_of_ble_eq_true rfl) (r_224_4 (xga W0_128) (by omega) (by omega) (by omega) (by omega) (by omega) (by omega) (by omega)) ?_
    refine i_287_932 (lv2 := [(6, Value.int 0), (5, Value.int 1), (4, Value.int 0), (3, Value.ref 194), (2, Value.ref 128), (1, Value.ref 7), (0, Value.ref 0)]) rfl ?_
    refine i_287_934 (x := 128) rfl ?_
    refine i_287_935 (xgs (xga (xgs (xga W0_128)))) (Nat.le_of_ble_eq_true rfl) (r_165_0 (xgs (xga (xgs (xga W0_128))))) ?_
    refine i_287_938 (x := 1) rfl ?_
    refine i_287_940 (fun _ => ?_) (fun h => absurd h (by decide))
    refine i_287_945 (x := 1) rfl ?_
    refine i_287_947 (fun _ => ?_) (fun h => absurd h (by decide))
    refine i_287_962 ?_
    refine i_287_2154 (x := 0) (c := 6) (lv2 := [(4, Value.int 6), (6, Value.int 0), (5, Value.int 1), (3, Value.ref 194), (2, Value.ref 128), (1, Value.ref 7), (0, Value.ref 0)]) rfl (by decide) rfl ?_
    refine i_287_2157 ?_
    refine i_287_23 (x := 6) rfl ?_
    refine i_287_25 (x := 0) rfl ?_
    refine i_287_26 (c := 6) (xgn (by decide) (xga (xgn (by decide) (xga W0_0)))) (by decide) ?_
    refine i_287_27 ?_
    refine i_287_29 (c := 0) (by decide) ?_
    refine i_287_30 (fun _ => ?_) (fun h => absurd h (by decide))
    refine i_287_2160 ?_
    exact i_287_2161 rfl ⟨rfl, rfl⟩
  · refine xLs.set ?_ (xga (xgs (xga W0_128))) xcs_o
    refine xLs.app (n := 219) (z := 199994) (m := 6) ?_ rfl
    refine xLs.set ?_ (xga W0_128) xcs_o
    refine xLs.app (n := 218) (z := 199988) (m := 6) ?_ rfl
    exact ⟨Nat.le_trans (Nat.le_of_eq W0_len) (by decide), Nat.le_trans (Nat.le_of_eq W0_sz) (by decide)⟩
theorem r_22_1 {d : Nat} {w : xW} {a0 : Int32} (e0 : 0 ≤ a0.toInt) (e1 : 4 < a0.toInt) : xRun d 22 [Value.int a0] w (.inl (some (Value.int 1))) w := by
  refine xRun.of ?_
  refine i_22_0 (x := a0) rfl ?_
  refine i_22_1 (fun h => absurd e0 (Int.not_le.mpr h)) (fun _ => ?_)
  refine i_22_4 (x := a0) rfl ?_
  refine i_22_5 ?_
  refine i_22_6 (fun h => absurd e1 (Int.not_lt.mpr h)) (fun _ => ?_)
  refine i_22_9 ?_
  refine i_22_10 ?_
  exact i_22_14 rfl ⟨rfl, rfl⟩
theorem r_101_5 {d : Nat} {w : xW} {a0 : Int32} {a1 : Int32} {a2 : Int32} {a3 : Int32} (e0 : 0 ≤ a0.toInt) (e1 : a0.toInt < 16) (e2 : 0 ≤ a1.toInt) (e3 : a1.toInt < 16) (e4 : (-32) ≤ a2.toInt) (e5 : a2.toInt ≤ 32) (e6 : 0 ≤ a3.toInt) (e7 : 4 < a3.toInt) : xRun (d + 6) 101 [Value.ref 7, Value.int a0, Value.int a1, Value.int a2, Value.int a3] w (.inr w.length) (w ++ [Sum.inr (14, [])]) := by
  refine xRun.of ?_
  refine i_101_0 (x := a0) rfl ?_
  refine i_101_1 (Nat.le_of_ble_eq_true rfl) (r_15_1 e0 e1) ?_
  refine i_101_4 (fun h => absurd h (by decide)) (fun _ => ?_)
  refine i_101_7 (x := a1) rfl ?_
  refine i_101_8 (Nat.le_of_ble_eq_true rfl) (r_15_1 e2 e3) ?_
  refine i_101_11 (fun h => absurd h (by decide)) (fun _ => ?_)
  refine i_101_14 (x := a2) rfl ?_
  refine i_101_15 ?_
  refine i_101_17 (fun h => absurd e4 (Int.not_le.mpr h)) (fun _ => ?_)
  refine i_101_20 (x := a2) rfl ?_
  refine i_101_21 ?_
  refine i_101_23 (fun h => absurd e5 (Int.not_le.mpr h)) (fun _ => ?_)
  refine i_101_26 (x := a3) rfl ?_
  refine i_101_28 (Nat.le_of_ble_eq_true rfl) (r_22_1 e6 e7) ?_
  refine i_101_31 (fun h => absurd h (by decide)) (fun _ => ?_)
  exact i_101_34 (by omega) (Nat.le_of_ble_eq_true rfl) ⟨rfl, rfl⟩
theorem r_100_5 {d : Nat} {w : xW} {a0 : Int32} {a1 : Int32} {a2 : Int32} {a3 : Int32} (hw0 : w[7]? = some (Sum.inr (0, [Value.ref 8, Value.ref 78, Value.ref 9, Value.ref 10, Value.ref 13, Value.ref 16, Value.ref 19, Value.ref 93, Value.ref 108, Value.ref 113, Value.ref 29, Value.int 0]))) (e1 : 0 ≤ a0.toInt) (e2 : a0.toInt < 16) (e3 : 0 ≤ a1.toInt) (e4 : a1.toInt < 16) (e5 : (-32) ≤ a2.toInt) (e6 : a2.toInt ≤ 32) (e7 : 0 ≤ a3.toInt) (e8 : 4 < a3.toInt) : xRun (d + 7) 100 [Value.ref 7, Value.int a0, Value.int a1, Value.int a2, Value.int a3, Value.ref 194] w (.inl (some (Value.int 1))) (w ++ [Sum.inr (14, [])]) := by
  refine xRun.of ?_
  refine i_100_0 (x := 194) rfl ?_
  refine i_100_2 ?_
  refine i_100_3 (x := 7) rfl ?_
  refine i_100_4 (x := a0) rfl ?_
  refine i_100_5 (x := a1) rfl ?_
  refine i_100_6 (x := a2) rfl ?_
  refine i_100_7 (x := a3) rfl ?_
  refine j_100_9 hw0 (Nat.le_of_ble_eq_true rfl) (r_101_5 e1 e2 e3 e4 e5 e6 e7 e8) (xDone.c xgl rfl rfl ?_)
  refine i_100_17 (lv2 := [(6, Value.ref w.length), (0, Value.ref 7), (1, Value.int a0), (2, Value.int a1), (3, Value.int a2), (4, Value.int a3), (5, Value.ref 194)]) rfl ?_
  refine i_100_19 ?_
  exact i_100_20 ⟨rfl, rfl⟩
theorem r_169_6 {d : Nat} {w : xW} {a0 : Int32} (e0 : 0 ≤ a0.toInt) (e1 : 4 < a0.toInt) : xRun d 169 [Value.int a0, Value.int 0, Value.int 4] w (.inl (some (Value.int 0))) w := by
  refine xRun.of ?_
  refine i_169_0 (x := a0) rfl ?_
  refine i_169_1 (x := 0) rfl ?_
  refine i_169_2 (fun h => absurd e0 (Int.not_le.mpr h)) (fun _ => ?_)
  refine i_169_5 (x := a0) rfl ?_
  refine i_169_6 (x := 4) rfl ?_
  refine i_169_7 (fun _ => ?_) (fun h => absurd e1 (Int.not_lt.mpr h))
  refine i_169_14 ?_
  exact i_169_15 rfl ⟨rfl, rfl⟩
theorem r_178_1 {d : Nat} {w : xW} {a0 : Int32} (e0 : 0 ≤ a0.toInt) (e1 : 4 < a0.toInt) : xRun (d + 7) 178 [Value.int a0] w (.inr w.length) (w ++ [Sum.inr (14, [])]) := by
  refine xRun.of ?_
  refine i_178_0 (x := a0) rfl ?_
  refine i_178_1 ?_
  refine i_178_2 ?_
  refine i_178_3 (Nat.le_of_ble_eq_true rfl) (r_169_6 e0 e1) ?_
  exact j_178_6 (Nat.le_of_ble_eq_true rfl) (r_170_0) (xDone.t xgl rfl rfl ⟨rfl, rfl⟩)
theorem r_225_5 {d : Nat} {w : xW} {a0 : Int32} {a1 : Int32} {a2 : Int32} {a3 : Int32} (e0 : 0 ≤ a0.toInt) (e1 : a0.toInt ≤ 15) (e2 : 0 ≤ a1.toInt) (e3 : a1.toInt ≤ 15) (e4 : (-32) ≤ a2.toInt) (e5 : a2.toInt ≤ 32) (e6 : 0 ≤ a3.toInt) (e7 : 4 < a3.toInt) : xRun (d + 8) 225 [Value.ref 128, Value.int a0, Value.int a1, Value.int a2, Value.int a3] w (.inr w.length) (w ++ [Sum.inr (14, [])]) := by
  refine xRun.of ?_
  refine i_225_0 (x := a0) rfl ?_
  refine i_225_1 (Nat.le_of_ble_eq_true rfl) (r_168_1 e0 e1) ?_
  refine i_225_4 (x := a1) rfl ?_
  refine i_225_5 (Nat.le_of_ble_eq_true rfl) (r_168_1 e2 e3) ?_
  refine i_225_8 (x := a2) rfl ?_
  refine i_225_9 ?_
  refine i_225_11 ?_
  refine i_225_13 (Nat.le_of_ble_eq_true rfl) (r_169_4 e4 e5) ?_
  refine i_225_16 (Nat.le_of_ble_eq_true rfl) (r_170_1) ?_
  refine i_225_19 (x := a3) rfl ?_
  exact j_225_21 (Nat.le_of_ble_eq_true rfl) (r_178_1 e6 e7) (xDone.t xgl rfl rfl ⟨rfl, rfl⟩)
theorem r_224_5 {d : Nat} {w : xW} {a0 : Int32} {a1 : Int32} {a2 : Int32} {a3 : Int32} (hw0 : w[128]? = some (Sum.inr (12, [Value.ref 129, Value.ref 131, Value.ref 133, Value.ref 135, Value.ref 137, Value.ref 139, Value.ref 141, Value.ref 143, Value.ref 145, Value.ref 147, Value.ref 149, Value.ref 151, Value.ref 153, Value.ref 154, Value.ref 155, Value.ref 156, Value.ref 157, Value.int (-16384), Value.int 16384, Value.int 0, Value.int 0, Value.int 0, Value.ref 158, Value.ref 159, Value.int 0, Value.int 0, Value.int 0, Value.int 0, Value.int 0, Value.int 0, Value.int 0, Value.int 0]))) (e1 : 0 ≤ a0.toInt) (e2 : a0.toInt ≤ 15) (e3 : 0 ≤ a1.toInt) (e4 : a1.toInt ≤ 15) (e5 : (-32) ≤ a2.toInt) (e6 : a2.toInt ≤ 32) (e7 : 0 ≤ a3.toInt) (e8 : 4 < a3.toInt) : xRun (d + 9) 224 [Value.ref 128, Value.int a0, Value.int a1, Value.int a2, Value.int a3] w (.inl (some (Value.int 0))) (((w.set 128 (Sum.inr (12, [Value.ref 129, Value.ref 131, Value.ref 133, Value.ref 135, Value.ref 137, Value.ref 139, Value.ref 141, Value.ref 143, Value.ref 145, Value.ref 147, Value.ref 149, Value.ref 151, Value.ref 153, Value.ref 154, Value.ref 155, Value.ref 156, Value.ref 157, Value.int (-16384), Value.int 16384, Value.int 0, Value.int 0, Value.int 0, Value.ref 158, Value.ref 159, Value.int 0, Value.int 0, Value.int 0, Value.int 0, Value.int 0, Value.int 0, Value.int 0, Value.int 0]))) ++ [Sum.inr (14, [])]).set 128 (Sum.inr (12, [Value.ref 129, Value.ref 131, Value.ref 133, Value.ref 135, Value.ref 137, Value.ref 139, Value.ref 141, Value.ref 143, Value.ref 145, Value.ref 147, Value.ref 149, Value.ref 151, Value.ref 153, Value.ref 154, Value.ref 155, Value.ref 156, Value.ref 157, Value.int (-16384), Value.int 16384, Value.int 0, Value.int 0, Value.int 0, Value.ref 158, Value.ref 159, Value.int 0, Value.int 0, Value.int 0, Value.int 0, Value.int 0, Value.int 0, Value.int 0, Value.int 1]))) := by
  refine xRun.of ?_
  refine i_224_0 (x := 128) rfl ?_
  refine i_224_1 ?_
  refine i_224_2 (fs2 := [Value.ref 129, Value.ref 131, Value.ref 133, Value.ref 135, Value.ref 137, Value.ref 139, Value.ref 141, Value.ref 143, Value.ref 145, Value.ref 147, Value.ref 149, Value.ref 151, Value.ref 153, Value.ref 154, Value.ref 155, Value.ref 156, Value.ref 157, Value.int (-16384), Value.int 16384, Value.int 0, Value.int 0, Value.int 0, Value.ref 158, Value.ref 159, Value.int 0, Value.int 0, Value.int 0, Value.int 0, Value.int 0, Value.int 0, Value.int 0, Value.int 0]) hw0 (Nat.le_of_ble_eq_true rfl) rfl (by decide) ?_
  refine i_224_5 (x := 128) rfl ?_
  refine i_224_6 (x := a0) rfl ?_
  refine i_224_7 (x := a1) rfl ?_
  refine i_224_8 (x := a2) rfl ?_
  refine i_224_9 (x := a3) rfl ?_
  refine j_224_11 (xgs hw0) (Nat.le_of_ble_eq_true rfl) (r_225_5 e1 e2 e3 e4 e5 e6 e7 e8) (xDone.c xgl rfl rfl ?_)
  refine i_224_15 (lv2 := [(5, Value.ref ((w.set 128 (Sum.inr (12, [Value.ref 129, Value.ref 131, Value.ref 133, Value.ref 135, Value.ref 137, Value.ref 139, Value.ref 141, Value.ref 143, Value.ref 145, Value.ref 147, Value.ref 149, Value.ref 151, Value.ref 153, Value.ref 154, Value.ref 155, Value.ref 156, Value.ref 157, Value.int (-16384), Value.int 16384, Value.int 0, Value.int 0, Value.int 0, Value.ref 158, Value.ref 159, Value.int 0, Value.int 0, Value.int 0, Value.int 0, Value.int 0, Value.int 0, Value.int 0, Value.int 0]))).length)), (0, Value.ref 128), (1, Value.int a0), (2, Value.int a1), (3, Value.int a2), (4, Value.int a3)]) rfl ?_
  refine i_224_17 (x := 128) rfl ?_
  refine i_224_18 ?_
  refine i_224_19 (fs2 := [Value.ref 129, Value.ref 131, Value.ref 133, Value.ref 135, Value.ref 137, Value.ref 139, Value.ref 141, Value.ref 143, Value.ref 145, Value.ref 147, Value.ref 149, Value.ref 151, Value.ref 153, Value.ref 154, Value.ref 155, Value.ref 156, Value.ref 157, Value.int (-16384), Value.int 16384, Value.int 0, Value.int 0, Value.int 0, Value.ref 158, Value.ref 159, Value.int 0, Value.int 0, Value.int 0, Value.int 0, Value.int 0, Value.int 0, Value.int 0, Value.int 1]) (xga (xgs hw0)) (Nat.le_of_ble_eq_true rfl) rfl (by decide) ?_
  refine i_224_22 ?_
  exact i_224_23 ⟨rfl, rfl⟩
theorem o_8_5 {d : Nat} {xs : Nat → Int32} (h0 : ((xs 0) &&& (31 : Int32)).toInt = 8) (c0 : 0 ≤ (xs 1).toInt) (c1 : (xs 1).toInt < 16) (c2 : 0 ≤ (xs 2).toInt) (c3 : (xs 2).toInt < 16) (c4 : (-32) ≤ (xs 3).toInt) (c5 : (xs 3).toInt ≤ 32) (c6 : 0 ≤ (xs 4).toInt) (c7 : 4 < (xs 4).toInt) : ∃ w1, xEv (d + 20) 287 23 [(4, Value.int 0), (3, Value.ref 194), (2, Value.ref 128), (1, Value.ref 7), (0, Value.ref 0)] [] (W0 6 xs) (fun o' w' => o' = .inl (some (Value.int 1)) ∧ w' = w1) ∧ w1.length ≤ 220 ∧ xsz w1 ≤ 200000 := by
  refine ⟨(((((W0 6 xs) ++ [Sum.inr (14, [])]).set 128 (Sum.inr (12, [Value.ref 129, Value.ref 131, Value.ref 133, Value.ref 135, Value.ref 137, Value.ref 139, Value.ref 141, Value.ref 143, Value.ref 145, Value.ref 147, Value.ref 149, Value.ref 151, Value.ref 153, Value.ref 154, Value.ref 155, Value.ref 156, Value.ref 157, Value.int (-16384), Value.int 16384, Value.int 0, Value.int 0, Value.int 0, Value.ref 158, Value.ref 159, Value.int 0, Value.int 0, Value.int 0, Value.int 0, Value.int 0, Value.int 0, Value.int 0, Value.int 0]))) ++ [Sum.inr (14, [])]).set 128 (Sum.inr (12, [Value.ref 129, Value.ref 131, Value.ref 133, Value.ref 135, Value.ref 137, Value.ref 139, Value.ref 141, Value.ref 143, Value.ref 145, Value.ref 147, Value.ref 149, Value.ref 151, Value.ref 153, Value.ref 154, Value.ref 155, Value.ref 156, Value.ref 157, Value.int (-16384), Value.int 16384, Value.int 0, Value.int 0, Value.int 0, Value.ref 158, Value.ref 159, Value.int 0, Value.int 0, Value.int 0, Value.int 0, Value.int 0, Value.int 0, Value.int 0, Value.int 1]))), ?_, (show xLs _ 220 200000 from ?_)⟩
  · refine i_287_23 (x := 0) rfl ?_
    refine i_287_25 (x := 0) rfl ?_
    refine i_287_26 (c := 6) W0_0 (by decide) ?_
    refine i_287_27 ?_
    refine i_287_29 (c := 0) (by decide) ?_
    refine i_287_30 (fun h => absurd h (by decide)) (fun _ => ?_)
    refine i_287_33 (x := 0) rfl ?_
    refine i_287_34 (x := 0) rfl ?_
    refine i_287_36 (v := Value.int (xs 0)) W0_0 (by decide) (by decide) rfl ?_
    refine i_287_37 ?_
    refine i_287_39 (c := 8) (show ((xs 0) &&& (31 : Int32)) = 8 from (xge_c (n := 8) (by omega) rfl)) ?_
    refine i_287_40_8 rfl ?_
    refine i_287_873 (x := 7) rfl ?_
    refine i_287_874 (x := 0) rfl ?_
    refine i_287_875 (x := 0) rfl ?_
    refine i_287_877 ?_
    refine i_287_878 (c := 1) (by decide) ?_
    refine i_287_879 (v := Value.int (xs 1)) W0_0 (by decide) (by decide) rfl ?_
    refine i_287_880 (x := 0) rfl ?_
    refine i_287_881 (x := 0) rfl ?_
    refine i_287_883 ?_
    refine i_287_884 (c := 2) (by decide) ?_
    refine i_287_885 (v := Value.int (xs 2)) W0_0 (by decide) (by decide) rfl ?_
    refine i_287_886 (x := 0) rfl ?_
    refine i_287_887 (x := 0) rfl ?_
    refine i_287_889 ?_
    refine i_287_890 (c := 3) (by decide) ?_
    refine i_287_891 (v := Value.int (xs 3)) W0_0 (by decide) (by decide) rfl ?_
    refine i_287_892 (x := 0) rfl ?_
    refine i_287_893 (x := 0) rfl ?_
    refine i_287_895 ?_
    refine i_287_896 (c := 4) (by decide) ?_
    refine i_287_897 (v := Value.int (xs 4)) W0_0 (by decide) (by decide) rfl ?_
    refine i_287_898 (x := 194) rfl ?_
    refine i_287_899 (Nat.le_of_ble_eq_true rfl) (r_100_5 W0_7 (by omega) (by omega) (by omega) (by omega) (by omega) (by omega) (by omega) (by omega)) ?_
    refine i_287_902 (lv2 := [(5, Value.int 1), (4, Value.int 0), (3, Value.ref 194), (2, Value.ref 128), (1, Value.ref 7), (0, Value.ref 0)]) rfl ?_
    refine i_287_904 (x := 128) rfl ?_
    refine i_287_905 (x := 0) rfl ?_
    refine i_287_906 (x := 0) rfl ?_
    refine i_287_908 ?_
    refine i_287_909 (c := 1) (by decide) ?_
    refine i_287_910 (v := Value.int (xs 1)) (xga W0_0) (by decide) (by decide) rfl ?_
    refine i_287_911 (x := 0) rfl ?_
    refine i_287_912 (x := 0) rfl ?_
    refine i_287_914 ?_
    refine i_287_915 (c := 2) (by decide) ?_
    refine i_287_916 (v := Value.int (xs 2)) (xga W0_0) (by decide) (by decide) rfl ?_
    refine i_287_917 (x := 0) rfl ?_
    refine i_287_918 (x := 0) rfl ?_
    refine i_287_920 ?_
    refine i_287_921 (c := 3) (by decide) ?_
    refine i_287_922 (v := Value.int (xs 3)) (xga W0_0) (by decide) (by decide) rfl ?_
    refine i_287_923 (x := 0) rfl ?_
    refine i_287_924 (x := 0) rfl ?_
    refine i_287_926 ?_
    refine i_287_927 (c := 4) (by decide) ?_
    refine i_287_928 (v := Value.int (xs 4)) (xga W0_0) (by decide) (by decide) rfl ?_
    refine i_287_929 (xga W0_128) (Nat.le_of_ble_eq_true rfl) (r_224_5 (xga W0_128) (by omega) (by omega) (by omega) (by omega) (by omega) (by omega) (by omega) (by omega)) ?_
    refine i_287_932 (lv2 := [(6, Value.int 0), (5, Value.int 1), (4, Value.int 0), (3, Value.ref 194), (2, Value.ref 128), (1, Value.ref 7), (0, Value.ref 0)]) rfl ?_
    refine i_287_934 (x := 128) rfl ?_
    refine i_287_935 (xgs (xga (xgs (xga W0_128)))) (Nat.le_of_ble_eq_true rfl) (r_165_0 (xgs (xga (xgs (xga W0_128))))) ?_
    refine i_287_938 (x := 1) rfl ?_
    refine i_287_940 (fun _ => ?_) (fun h => absurd h (by decide))
    refine i_287_945 (x := 1) rfl ?_
    refine i_287_947 (fun _ => ?_) (fun h => absurd h (by decide))
    refine i_287_962 ?_
    refine i_287_2154 (x := 0) (c := 6) (lv2 := [(4, Value.int 6), (6, Value.int 0), (5, Value.int 1), (3, Value.ref 194), (2, Value.ref 128), (1, Value.ref 7), (0, Value.ref 0)]) rfl (by decide) rfl ?_
    refine i_287_2157 ?_
    refine i_287_23 (x := 6) rfl ?_
    refine i_287_25 (x := 0) rfl ?_
    refine i_287_26 (c := 6) (xgn (by decide) (xga (xgn (by decide) (xga W0_0)))) (by decide) ?_
    refine i_287_27 ?_
    refine i_287_29 (c := 0) (by decide) ?_
    refine i_287_30 (fun _ => ?_) (fun h => absurd h (by decide))
    refine i_287_2160 ?_
    exact i_287_2161 rfl ⟨rfl, rfl⟩
  · refine xLs.set ?_ (xga (xgs (xga W0_128))) xcs_o
    refine xLs.app (n := 219) (z := 199994) (m := 6) ?_ rfl
    refine xLs.set ?_ (xga W0_128) xcs_o
    refine xLs.app (n := 218) (z := 199988) (m := 6) ?_ rfl
    exact ⟨Nat.le_trans (Nat.le_of_eq W0_len) (by decide), Nat.le_trans (Nat.le_of_eq W0_sz) (by decide)⟩
theorem r_22_2 {d : Nat} {w : xW} {a0 : Int32} (e0 : 0 ≤ a0.toInt) (e1 : a0.toInt ≤ 4) : xRun d 22 [Value.int a0] w (.inl (some (Value.int 0))) w := by
  refine xRun.of ?_
  refine i_22_0 (x := a0) rfl ?_
  refine i_22_1 (fun h => absurd e0 (Int.not_le.mpr h)) (fun _ => ?_)
  refine i_22_4 (x := a0) rfl ?_
  refine i_22_5 ?_
  refine i_22_6 (fun _ => ?_) (fun h => absurd e1 (Int.not_le.mpr h))
  refine i_22_13 ?_
  exact i_22_14 rfl ⟨rfl, rfl⟩
theorem r_26_0 {d : Nat} {w : xW} {g0 : Nat → Value} (hw0 : w[95]? = some (Sum.inr (3, [Value.ref 96, Value.int 2]))) (hw1 : w[96]? = some (Sum.inl (0, 8, g0))) (hg2 : g0 (1 : Int32).toInt.toNat = Value.int 0) (hg3 : g0 (0 : Int32).toInt.toNat = Value.int 1) : xRun d 26 [Value.ref 95] w (.inl none) (w.set 95 (Sum.inr (3, [Value.ref 96, Value.int 1]))) := by
  refine xRun.of ?_
  refine i_26_0 (x := 95) rfl ?_
  refine i_26_1 (v := Value.int 2) hw0 rfl ?_
  refine i_26_4 (fun h => absurd h (by decide)) (fun _ => ?_)
  refine i_26_7 (x := 95) rfl ?_
  refine i_26_8 (v := Value.ref 96) hw0 rfl ?_
  refine i_26_11 (x := 95) rfl ?_
  refine i_26_12 (v := Value.int 2) hw0 rfl ?_
  refine i_26_15 ?_
  refine i_26_16 (c := 1) (by decide) ?_
  refine i_26_17 (v := Value.int 0) hw1 (by decide) (by decide) hg2 ?_
  refine i_26_18 (fun h => absurd h (by decide)) (fun _ => ?_)
  refine i_26_21 (x := 95) rfl ?_
  refine i_26_22 rfl ?_
  refine i_26_23 (v := Value.int 2) hw0 rfl ?_
  refine i_26_26 ?_
  refine i_26_27 (c := 1) (by decide) ?_
  refine i_26_28 (fs2 := [Value.ref 96, Value.int 1]) hw0 (Nat.le_of_ble_eq_true rfl) rfl (by decide) ?_
  refine i_26_31 ?_
  refine i_26_0 (x := 95) rfl ?_
  refine i_26_1 (v := Value.int 1) (xgs hw0) rfl ?_
  refine i_26_4 (fun h => absurd h (by decide)) (fun _ => ?_)
  refine i_26_7 (x := 95) rfl ?_
  refine i_26_8 (v := Value.ref 96) (xgs hw0) rfl ?_
  refine i_26_11 (x := 95) rfl ?_
  refine i_26_12 (v := Value.int 1) (xgs hw0) rfl ?_
  refine i_26_15 ?_
  refine i_26_16 (c := 0) (by decide) ?_
  refine i_26_17 (v := Value.int 1) (xgn (by decide) hw1) (by decide) (by decide) hg3 ?_
  refine i_26_18 (fun _ => ?_) (fun h => absurd h (by decide))
  exact i_26_34 ⟨rfl, rfl⟩
theorem r_25_0 {d : Nat} {w : xW} (hw0 : w[95]? = some (Sum.inr (3, [Value.ref 96, Value.int 0]))) (hw1 : w[96]? = some (Sum.inl (0, 8, fun _ => Value.int 0))) : xRun (d + 1) 25 [Value.ref 95, Value.long 1] w (.inl none) (((w.set 96 (Sum.inl (0, 8, xup (xup (fun _ => Value.int 0) (0 : Int32).toInt.toNat (Value.int 1)) (1 : Int32).toInt.toNat (Value.int 0)))).set 95 (Sum.inr (3, [Value.ref 96, Value.int 2]))).set 95 (Sum.inr (3, [Value.ref 96, Value.int 1]))) := by
  refine xRun.of ?_
  refine i_25_0 (x := 95) rfl ?_
  refine i_25_1 (v := Value.ref 96) hw0 rfl ?_
  refine i_25_4 ?_
  refine i_25_5 (x := 1) rfl ?_
  refine i_25_6 (c := 1) (by decide) ?_
  refine i_25_7 (v := Value.int 1) hw1 (by decide) (by decide) (by decide) rfl ?_
  refine i_25_8 (x := 95) rfl ?_
  refine i_25_9 (v := Value.ref 96) (xgn (by decide) hw0) rfl ?_
  refine i_25_12 ?_
  refine i_25_13 (x := 1) rfl ?_
  refine i_25_14 ?_
  refine i_25_16 (c := 0) (by decide) ?_
  refine i_25_17 (c := 0) (by decide) ?_
  refine i_25_18 (v := Value.int 0) (xgs hw1) (by decide) (by decide) (by decide) rfl ?_
  refine xEv.world (List.set_set _) ?_
  refine i_25_19 (x := 95) rfl ?_
  refine i_25_20 ?_
  refine i_25_21 (fs2 := [Value.ref 96, Value.int 2]) (xgn (by decide) hw0) (Nat.le_of_ble_eq_true rfl) rfl (by decide) ?_
  refine i_25_24 (x := 95) rfl ?_
  refine i_25_25 (xgs (xgn (by decide) hw0)) (Nat.le_of_ble_eq_true rfl) (r_26_0 (xgs (xgn (by decide) hw0)) (xgn (by decide) (xgs hw1)) xup_s (xup_n (by decide) xup_s)) ?_
  exact i_25_28 ⟨rfl, rfl⟩
theorem r_24_0 {d : Nat} {w : xW} (hw0 : w[94]? = some (Sum.inr (4, [Value.int 0, Value.ref 95, Value.int 0, Value.int 0]))) (hw1 : w[95]? = some (Sum.inr (3, [Value.ref 96, Value.int 0]))) (hw2 : w[96]? = some (Sum.inl (0, 8, fun _ => Value.int 0))) : xRun (d + 2) 24 [Value.ref 94, Value.int 0, Value.long 1, Value.int 0] w (.inl none) (((((w.set 94 (Sum.inr (4, [Value.int 0, Value.ref 95, Value.int 0, Value.int 0]))).set 96 (Sum.inl (0, 8, xup (xup (fun _ => Value.int 0) (0 : Int32).toInt.toNat (Value.int 1)) (1 : Int32).toInt.toNat (Value.int 0)))).set 95 (Sum.inr (3, [Value.ref 96, Value.int 2]))).set 95 (Sum.inr (3, [Value.ref 96, Value.int 1]))).set 94 (Sum.inr (4, [Value.int 0, Value.ref 95, Value.int 0, Value.int 0]))) := by
  refine xRun.of ?_
  refine i_24_0 (x := 94) rfl ?_
  refine i_24_1 (x := 0) rfl ?_
  refine i_24_2 (fs2 := [Value.int 0, Value.ref 95, Value.int 0, Value.int 0]) hw0 rfl (Nat.le_of_ble_eq_true rfl) rfl (by decide) ?_
  refine i_24_5 (x := 94) rfl ?_
  refine i_24_6 (v := Value.ref 95) (xgs hw0) rfl ?_
  refine i_24_9 (x := 1) rfl ?_
  refine i_24_10 (xgn (by decide) hw1) (Nat.le_of_ble_eq_true rfl) (r_25_0 (xgn (by decide) hw1) (xgn (by decide) hw2)) ?_
  refine i_24_13 (x := 94) rfl ?_
  refine i_24_14 (x := 0) rfl ?_
  refine i_24_16 (fs2 := [Value.int 0, Value.ref 95, Value.int 0, Value.int 0]) (xgn (by decide) (xgn (by decide) (xgn (by decide) (xgs hw0)))) (Nat.le_of_ble_eq_true rfl) rfl (by decide) ?_
  refine i_24_19 (x := 94) rfl ?_
  refine i_24_20 ?_
  refine i_24_21 (fs2 := [Value.int 0, Value.ref 95, Value.int 0, Value.int 0]) (xgs (xgn (by decide) (xgn (by decide) (xgn (by decide) (xgs hw0))))) rfl (Nat.le_of_ble_eq_true rfl) rfl (by decide) ?_
  refine xEv.world (List.set_set _) ?_
  exact i_24_24 ⟨rfl, rfl⟩
theorem r_277_0 {d : Nat} {w : xW} : xRun d 277 [Value.int 1] w (.inl (some (Value.int 31))) w := by
  refine xRun.of ?_
  refine i_277_0 (x := 1) rfl ?_
  refine i_277_1 (fun _ => ?_) (fun h => absurd h (by decide))
  refine i_277_15 ?_
  refine i_277_17 (lv2 := [(1, Value.int 31), (0, Value.int 1)]) rfl ?_
  refine i_277_18 (x := 1) rfl ?_
  refine i_277_19 ?_
  refine i_277_22 (fun _ => ?_) (fun h => absurd h (by decide))
  refine i_277_33 (x := 1) rfl ?_
  refine i_277_34 ?_
  refine i_277_37 (fun _ => ?_) (fun h => absurd h (by decide))
  refine i_277_48 (x := 1) rfl ?_
  refine i_277_49 ?_
  refine i_277_51 (fun _ => ?_) (fun h => absurd h (by decide))
  refine i_277_61 (x := 1) rfl ?_
  refine i_277_62 ?_
  refine i_277_63 (fun _ => ?_) (fun h => absurd h (by decide))
  refine i_277_73 (x := 31) rfl ?_
  refine i_277_74 (x := 1) rfl ?_
  refine i_277_75 ?_
  refine i_277_76 (c := 0) (by decide) ?_
  refine i_277_77 (c := 31) (by decide) ?_
  exact i_277_78 ⟨rfl, rfl⟩
theorem r_29_0 {d : Nat} {w : xW} {g0 : Nat → Value} (hw0 : w[95]? = some (Sum.inr (3, [Value.ref 96, Value.int 1]))) (hw1 : w[96]? = some (Sum.inl (0, 8, g0))) (hg2 : g0 (0 : Int32).toInt.toNat = Value.int 1) : xRun (d + 1) 29 [Value.ref 95] w (.inl (some (Value.int 1))) w := by
  refine xRun.of ?_
  refine i_29_0 (x := 95) rfl ?_
  refine i_29_1 (v := Value.int 1) hw0 rfl ?_
  refine i_29_4 (fun _ => ?_) (fun h => absurd h (by decide))
  refine i_29_11 ?_
  refine i_29_13 (x := 95) rfl ?_
  refine i_29_14 (v := Value.int 1) hw0 rfl ?_
  refine i_29_17 (c := 32) (by decide) ?_
  refine i_29_18 (x := 95) rfl ?_
  refine i_29_19 (v := Value.ref 96) hw0 rfl ?_
  refine i_29_22 (x := 95) rfl ?_
  refine i_29_23 (v := Value.int 1) hw0 rfl ?_
  refine i_29_26 ?_
  refine i_29_27 (c := 0) (by decide) ?_
  refine i_29_28 (v := Value.int 1) hw1 (by decide) (by decide) hg2 ?_
  refine i_29_29 (Nat.le_of_ble_eq_true rfl) (r_277_0) ?_
  refine i_29_32 (c := 1) (by decide) ?_
  exact i_29_33 ⟨rfl, rfl⟩
theorem r_28_0 {d : Nat} {w : xW} {g0 : Nat → Value} (hw0 : w[94]? = some (Sum.inr (4, [Value.int 0, Value.ref 95, Value.int 0, Value.int 0]))) (hw1 : w[95]? = some (Sum.inr (3, [Value.ref 96, Value.int 1]))) (hw2 : w[96]? = some (Sum.inl (0, 8, g0))) (hg3 : g0 (0 : Int32).toInt.toNat = Value.int 1) : xRun (d + 2) 28 [Value.ref 94] w (.inl (some (Value.int 1))) w := by
  refine xRun.of ?_
  refine i_28_0 (x := 94) rfl ?_
  refine i_28_1 (v := Value.ref 95) hw0 rfl ?_
  refine i_28_4 hw1 (Nat.le_of_ble_eq_true rfl) (r_29_0 hw1 hw2 hg3) ?_
  refine i_28_7 (x := 94) rfl ?_
  refine i_28_8 (v := Value.int 0) hw0 rfl ?_
  refine i_28_11 (c := 1) (by decide) ?_
  exact i_28_12 ⟨rfl, rfl⟩
theorem r_30_0 {d : Nat} {w : xW} (hw0 : w[78]? = some (Sum.inr (1, [Value.int (-16384), Value.int 16384, Value.int 0, Value.int 0]))) : xRun d 30 [Value.ref 78, Value.int 1, Value.int 64] w (.inl (some (Value.int (-63)))) w := by
  refine xRun.of ?_
  refine i_30_0 (x := 78) rfl ?_
  refine i_30_1 (v := Value.int 0) hw0 rfl ?_
  refine i_30_4 (fun _ => ?_) (fun h => absurd h (by decide))
  refine i_30_24 (x := 1) rfl ?_
  refine i_30_25 (x := 64) rfl ?_
  refine i_30_26 (c := (-63)) (by decide) ?_
  exact i_30_27 ⟨rfl, rfl⟩
theorem r_33_0 {d : Nat} {w : xW} : xRun d 33 [Value.ref 95, Value.int (-63)] w (.inl (some (Value.int 0))) w := by
  refine xRun.of ?_
  refine i_33_0 (x := (-63)) rfl ?_
  refine i_33_1 (fun h => absurd h (by decide)) (fun _ => ?_)
  refine i_33_4 ?_
  exact i_33_5 rfl ⟨rfl, rfl⟩
theorem r_32_0 {d : Nat} {w : xW} (hw0 : w[94]? = some (Sum.inr (4, [Value.int 0, Value.ref 95, Value.int 0, Value.int 0]))) (hw1 : w[95]? = some (Sum.inr (3, [Value.ref 96, Value.int 1]))) : xRun (d + 1) 32 [Value.ref 94, Value.int (-63)] w (.inl (some (Value.int 1))) w := by
  refine xRun.of ?_
  refine i_32_0 (x := 94) rfl ?_
  refine i_32_1 (v := Value.int 0) hw0 rfl ?_
  refine i_32_4 (fun h => absurd h (by decide)) (fun _ => ?_)
  refine i_32_7 (x := 94) rfl ?_
  refine i_32_8 (v := Value.ref 95) hw0 rfl ?_
  refine i_32_11 (x := (-63)) rfl ?_
  refine i_32_12 (x := 94) rfl ?_
  refine i_32_13 (v := Value.int 0) hw0 rfl ?_
  refine i_32_16 (c := (-63)) (by decide) ?_
  refine i_32_17 hw1 (Nat.le_of_ble_eq_true rfl) (r_33_0) ?_
  refine i_32_20 (fun h => absurd h (by decide)) (fun _ => ?_)
  refine i_32_23 ?_
  refine i_32_24 ?_
  exact i_32_28 rfl ⟨rfl, rfl⟩
theorem r_31_0 {d : Nat} {w : xW} {a0 : Int32} (hw0 : w[94]? = some (Sum.inr (4, [Value.int 0, Value.ref 95, Value.int 0, Value.int 0]))) (hw1 : w[95]? = some (Sum.inr (3, [Value.ref 96, Value.int 1]))) : xRun (d + 2) 31 [Value.ref 94, Value.int (-63), Value.int a0] w (.inl (some (Value.int 0))) w := by
  refine xRun.of ?_
  refine i_31_0 (x := 94) rfl ?_
  refine i_31_1 (x := (-63)) rfl ?_
  refine i_31_2 hw0 (Nat.le_of_ble_eq_true rfl) (r_32_0 hw0 hw1) ?_
  refine i_31_5 (fun h => absurd h (by decide)) (fun _ => ?_)
  refine i_31_8 ?_
  exact i_31_9 rfl ⟨rfl, rfl⟩
theorem r_273_0 {d : Nat} {w : xW} : xRun d 273 [Value.int 0, Value.int 2] w (.inl (some (Value.int 2))) w := by
  refine xRun.of ?_
  refine i_273_0 (x := 0) rfl ?_
  refine i_273_1 (x := 2) rfl ?_
  refine i_273_2 (fun _ => ?_) (fun h => absurd h (by decide))
  refine i_273_9 (x := 2) rfl ?_
  exact i_273_10 ⟨rfl, rfl⟩
theorem r_41_0 {d : Nat} {w : xW} {h0 : Nat} {h1 : Nat} (hw0 : w[h0]? = some (Sum.inr (3, [Value.ref h1, Value.int 0]))) (hw1 : w[h1]? = some (Sum.inl (0, 8, fun _ => Value.int 0))) : xRun d 41 [Value.ref h0, Value.int 2] w (.inl none) w := by
  refine xRun.of ?_
  refine i_41_0 (x := h0) rfl ?_
  refine i_41_1 (v := Value.ref h1) hw0 rfl ?_
  refine i_41_4 (c := 8) hw1 (by decide) ?_
  refine i_41_5 (x := 2) rfl ?_
  refine i_41_6 (fun _ => ?_) (fun h => absurd h (by decide))
  exact i_41_31 ⟨rfl, rfl⟩
theorem r_35_0 {d : Nat} {w : xW} {g0 : Nat → Value} (hw0 : w[95]? = some (Sum.inr (3, [Value.ref 96, Value.int 1]))) (hw1 : w[96]? = some (Sum.inl (0, 8, g0))) (hg2 : g0 (0 : Int32).toInt.toNat = Value.int 1) : xRun d 35 [Value.ref 95, Value.int (-31)] w (.inl (some (Value.int (-2147483648)))) w := by
  refine xRun.of ?_
  refine i_35_0 (x := (-31)) rfl ?_
  refine i_35_1 ?_
  refine i_35_2 (c := (-1)) (by decide) ?_
  refine i_35_3 (lv2 := [(2, Value.int (-1)), (0, Value.ref 95), (1, Value.int (-31))]) rfl ?_
  refine i_35_4 (x := (-31)) rfl ?_
  refine i_35_5 ?_
  refine i_35_7 (c := 1) (by decide) ?_
  refine i_35_8 (lv2 := [(3, Value.int 1), (2, Value.int (-1)), (0, Value.ref 95), (1, Value.int (-31))]) rfl ?_
  refine i_35_9 (x := (-1)) rfl ?_
  refine i_35_10 (fun _ => ?_) (fun h => absurd h (by decide))
  refine i_35_21 ?_
  refine i_35_22 ?_
  refine i_35_31 (lv2 := [(4, Value.int 0), (3, Value.int 1), (2, Value.int (-1)), (0, Value.ref 95), (1, Value.int (-31))]) rfl ?_
  refine i_35_33 (x := 1) rfl ?_
  refine i_35_34 (fun _ => ?_) (fun h => absurd h (by decide))
  refine i_35_40 (x := (-1)) rfl ?_
  refine i_35_41 ?_
  refine i_35_42 (fun h => absurd h (by decide)) (fun _ => ?_)
  refine i_35_45 (x := (-1)) rfl ?_
  refine i_35_46 ?_
  refine i_35_47 (c := 0) (by decide) ?_
  refine i_35_48 (x := 95) rfl ?_
  refine i_35_49 (v := Value.int 1) hw0 rfl ?_
  refine i_35_52 (fun _ => ?_) (fun h => absurd h (by decide))
  refine i_35_59 (x := 95) rfl ?_
  refine i_35_60 (v := Value.ref 96) hw0 rfl ?_
  refine i_35_63 (x := (-1)) rfl ?_
  refine i_35_64 ?_
  refine i_35_65 (c := 0) (by decide) ?_
  refine i_35_66 (v := Value.int 1) hw1 (by decide) (by decide) hg2 ?_
  refine i_35_67 (lv2 := [(5, Value.int 1), (4, Value.int 0), (3, Value.int 1), (2, Value.int (-1)), (0, Value.ref 95), (1, Value.int (-31))]) rfl ?_
  refine i_35_69 (x := 0) rfl ?_
  refine i_35_71 (x := 1) rfl ?_
  refine i_35_72 (c := 0) (by decide) ?_
  refine i_35_73 (x := 1) rfl ?_
  refine i_35_75 ?_
  refine i_35_77 (x := 1) rfl ?_
  refine i_35_78 (c := 31) (by decide) ?_
  refine i_35_79 (c := (-2147483648)) (by decide) ?_
  refine i_35_80 (c := (-2147483648)) (by decide) ?_
  exact i_35_81 ⟨rfl, rfl⟩
theorem r_35_1 {d : Nat} {w : xW} : xRun d 35 [Value.ref 95, Value.int (-63)] w (.inl (some (Value.int 0))) w := by
  refine xRun.of ?_
  refine i_35_0 (x := (-63)) rfl ?_
  refine i_35_1 ?_
  refine i_35_2 (c := (-2)) (by decide) ?_
  refine i_35_3 (lv2 := [(2, Value.int (-2)), (0, Value.ref 95), (1, Value.int (-63))]) rfl ?_
  refine i_35_4 (x := (-63)) rfl ?_
  refine i_35_5 ?_
  refine i_35_7 (c := 1) (by decide) ?_
  refine i_35_8 (lv2 := [(3, Value.int 1), (2, Value.int (-2)), (0, Value.ref 95), (1, Value.int (-63))]) rfl ?_
  refine i_35_9 (x := (-2)) rfl ?_
  refine i_35_10 (fun _ => ?_) (fun h => absurd h (by decide))
  refine i_35_21 ?_
  refine i_35_22 ?_
  refine i_35_31 (lv2 := [(4, Value.int 0), (3, Value.int 1), (2, Value.int (-2)), (0, Value.ref 95), (1, Value.int (-63))]) rfl ?_
  refine i_35_33 (x := 1) rfl ?_
  refine i_35_34 (fun _ => ?_) (fun h => absurd h (by decide))
  refine i_35_40 (x := (-2)) rfl ?_
  refine i_35_41 ?_
  refine i_35_42 (fun _ => ?_) (fun h => absurd h (by decide))
  refine i_35_55 ?_
  refine i_35_56 ?_
  refine i_35_67 (lv2 := [(5, Value.int 0), (4, Value.int 0), (3, Value.int 1), (2, Value.int (-2)), (0, Value.ref 95), (1, Value.int (-63))]) rfl ?_
  refine i_35_69 (x := 0) rfl ?_
  refine i_35_71 (x := 1) rfl ?_
  refine i_35_72 (c := 0) (by decide) ?_
  refine i_35_73 (x := 0) rfl ?_
  refine i_35_75 ?_
  refine i_35_77 (x := 1) rfl ?_
  refine i_35_78 (c := 31) (by decide) ?_
  refine i_35_79 (c := 0) (by decide) ?_
  refine i_35_80 (c := 0) (by decide) ?_
  exact i_35_81 ⟨rfl, rfl⟩
theorem r_42_0 {d : Nat} {w : xW} {h0 : Nat} {g0 : Nat → Value} {h1 : Nat} (hw0 : w[95]? = some (Sum.inr (3, [Value.ref 96, Value.int 1]))) (hw1 : w[96]? = some (Sum.inl (0, 8, g0))) (hg2 : g0 (0 : Int32).toInt.toNat = Value.int 1) (hw3 : w[h0]? = some (Sum.inr (3, [Value.ref h1, Value.int 0]))) (hw4 : w[h1]? = some (Sum.inl (0, 8, fun _ => Value.int 0))) (e5 : 7 ≤ h1) (e6 : h1 ≠ h0) (e7 : h1 ≠ 95) (e8 : 7 ≤ h0) : xRun (d + 2) 42 [Value.ref h0, Value.ref 95, Value.int 63] w (.inl none) ((w.set h1 (Sum.inl (0, 8, xup (xup (fun _ => Value.int 0) (1 : Int32).toInt.toNat (Value.int (-2147483648))) (0 : Int32).toInt.toNat (Value.int 0)))).set h0 (Sum.inr (3, [Value.ref h1, Value.int 2]))) := by
  refine xRun.of ?_
  refine i_42_0 (x := 95) rfl ?_
  refine i_42_1 (v := Value.int 1) hw0 rfl ?_
  refine i_42_4 (fun _ => ?_) (fun h => absurd h (by decide))
  refine i_42_11 ?_
  refine i_42_12 (x := 95) rfl ?_
  refine i_42_13 hw0 (Nat.le_of_ble_eq_true rfl) (r_29_0 hw0 hw1 hg2) ?_
  refine i_42_16 (x := 63) rfl ?_
  refine i_42_17 (c := 64) (by decide) ?_
  refine i_42_18 ?_
  refine i_42_20 (c := 95) (by decide) ?_
  refine i_42_21 ?_
  refine i_42_22 (c := 2) (by decide) ?_
  refine i_42_23 (Nat.le_of_ble_eq_true rfl) (r_273_0) ?_
  refine i_42_26 (lv2 := [(3, Value.int 2), (0, Value.ref h0), (1, Value.ref 95), (2, Value.int 63)]) rfl ?_
  refine i_42_27 (x := h0) rfl ?_
  refine i_42_28 (x := 2) rfl ?_
  refine i_42_29 hw3 (Nat.le_of_ble_eq_true rfl) (r_41_0 hw3 hw4) ?_
  refine i_42_32 (x := 63) rfl ?_
  refine i_42_33 (fun h => absurd h (by decide)) (fun _ => ?_)
  refine i_42_36 (x := 2) rfl ?_
  refine i_42_37 ?_
  refine i_42_38 (c := 1) (by decide) ?_
  refine i_42_39 (lv2 := [(4, Value.int 1), (3, Value.int 2), (0, Value.ref h0), (1, Value.ref 95), (2, Value.int 63)]) rfl ?_
  refine i_42_41 (x := 1) rfl ?_
  refine i_42_43 (fun h => absurd h (by decide)) (fun _ => ?_)
  refine i_42_46 (x := h0) rfl ?_
  refine i_42_47 (v := Value.ref h1) hw3 rfl ?_
  refine i_42_50 (x := 1) rfl ?_
  refine i_42_52 (x := 95) rfl ?_
  refine i_42_53 ?_
  refine i_42_55 (x := 1) rfl ?_
  refine i_42_57 (c := 32) (by decide) ?_
  refine i_42_58 (x := 63) rfl ?_
  refine i_42_59 (c := (-31)) (by decide) ?_
  refine i_42_60 hw0 (Nat.le_of_ble_eq_true rfl) (r_35_0 hw0 hw1 hg2) ?_
  refine i_42_63 (v := Value.int (-2147483648)) hw4 (by decide) (by decide) e5 rfl ?_
  refine i_42_64 (x := 1) (c := 0) (lv2 := [(4, Value.int 0), (3, Value.int 2), (0, Value.ref h0), (1, Value.ref 95), (2, Value.int 63)]) rfl (by decide) rfl ?_
  refine i_42_67 ?_
  refine i_42_41 (x := 0) rfl ?_
  refine i_42_43 (fun h => absurd h (by decide)) (fun _ => ?_)
  refine i_42_46 (x := h0) rfl ?_
  refine i_42_47 (v := Value.ref h1) (xgn e6 hw3) rfl ?_
  refine i_42_50 (x := 0) rfl ?_
  refine i_42_52 (x := 95) rfl ?_
  refine i_42_53 ?_
  refine i_42_55 (x := 0) rfl ?_
  refine i_42_57 (c := 0) (by decide) ?_
  refine i_42_58 (x := 63) rfl ?_
  refine i_42_59 (c := (-63)) (by decide) ?_
  refine i_42_60 (xgn e7 hw0) (Nat.le_of_ble_eq_true rfl) (r_35_1) ?_
  refine i_42_63 (v := Value.int 0) (xgs hw4) (by decide) (by decide) e5 rfl ?_
  refine xEv.world (List.set_set _) ?_
  refine i_42_64 (x := 0) (c := (-1)) (lv2 := [(4, Value.int (-1)), (3, Value.int 2), (0, Value.ref h0), (1, Value.ref 95), (2, Value.int 63)]) rfl (by decide) rfl ?_
  refine i_42_67 ?_
  refine i_42_41 (x := (-1)) rfl ?_
  refine i_42_43 (fun _ => ?_) (fun h => absurd h (by decide))
  refine i_42_70 ?_
  refine i_42_106 (x := h0) rfl ?_
  refine i_42_107 (x := 2) rfl ?_
  refine i_42_108 (fs2 := [Value.ref h1, Value.int 2]) (xgn e6 hw3) (Nat.le_of_ble_eq_true rfl) rfl e8 ?_
  exact i_42_111 ⟨rfl, rfl⟩
theorem r_272_0 {d : Nat} {w : xW} : xRun d 272 [Value.int 0, Value.int 2] w (.inl (some (Value.int 0))) w := by
  refine xRun.of ?_
  refine i_272_0 (x := 0) rfl ?_
  refine i_272_1 (x := 2) rfl ?_
  refine i_272_2 (fun h => absurd h (by decide)) (fun _ => ?_)
  refine i_272_5 (x := 0) rfl ?_
  refine i_272_6 ?_
  exact i_272_10 ⟨rfl, rfl⟩
theorem r_26_1 {d : Nat} {w : xW} {h0 : Nat} {h1 : Nat} {g0 : Nat → Value} (hw0 : w[h0]? = some (Sum.inr (3, [Value.ref h1, Value.int 2]))) (hw1 : w[h1]? = some (Sum.inl (0, 8, g0))) (hg2 : g0 (1 : Int32).toInt.toNat = Value.int (-2147483648)) : xRun d 26 [Value.ref h0] w (.inl none) w := by
  refine xRun.of ?_
  refine i_26_0 (x := h0) rfl ?_
  refine i_26_1 (v := Value.int 2) hw0 rfl ?_
  refine i_26_4 (fun h => absurd h (by decide)) (fun _ => ?_)
  refine i_26_7 (x := h0) rfl ?_
  refine i_26_8 (v := Value.ref h1) hw0 rfl ?_
  refine i_26_11 (x := h0) rfl ?_
  refine i_26_12 (v := Value.int 2) hw0 rfl ?_
  refine i_26_15 ?_
  refine i_26_16 (c := 1) (by decide) ?_
  refine i_26_17 (v := Value.int (-2147483648)) hw1 (by decide) (by decide) hg2 ?_
  refine i_26_18 (fun _ => ?_) (fun h => absurd h (by decide))
  exact i_26_34 ⟨rfl, rfl⟩
theorem r_43_0 {d : Nat} {w : xW} {h0 : Nat} {h1 : Nat} {g0 : Nat → Value} (hw0 : w[h0]? = some (Sum.inr (3, [Value.ref h1, Value.int 2]))) (hw1 : w[h1]? = some (Sum.inl (0, 8, g0))) (hg2 : g0 (1 : Int32).toInt.toNat = Value.int (-2147483648)) : xRun (d + 1) 43 [Value.ref h0, Value.int 0] w (.inl none) w := by
  refine xRun.of ?_
  refine i_43_0 (x := 0) rfl ?_
  refine i_43_1 ?_
  refine i_43_2 (c := 0) (by decide) ?_
  refine i_43_3 (x := h0) rfl ?_
  refine i_43_4 (v := Value.int 2) hw0 rfl ?_
  refine i_43_7 (Nat.le_of_ble_eq_true rfl) (r_272_0) ?_
  refine i_43_10 (lv2 := [(2, Value.int 0), (0, Value.ref h0), (1, Value.int 0)]) rfl ?_
  refine i_43_11 ?_
  refine i_43_12 (lv2 := [(3, Value.int 0), (2, Value.int 0), (0, Value.ref h0), (1, Value.int 0)]) rfl ?_
  refine i_43_13 (x := 0) rfl ?_
  refine i_43_14 (x := 0) rfl ?_
  refine i_43_15 (fun _ => ?_) (fun h => absurd h (by decide))
  refine i_43_31 (x := 0) rfl ?_
  refine i_43_32 (x := h0) rfl ?_
  refine i_43_33 (v := Value.int 2) hw0 rfl ?_
  refine i_43_36 (fun h => absurd h (by decide)) (fun _ => ?_)
  refine i_43_39 (x := 0) rfl ?_
  refine i_43_40 ?_
  refine i_43_42 (c := 0) (by decide) ?_
  refine i_43_43 (fun _ => ?_) (fun h => absurd h (by decide))
  refine i_43_61 (x := h0) rfl ?_
  refine i_43_62 hw0 (Nat.le_of_ble_eq_true rfl) (r_26_1 hw0 hw1 hg2) ?_
  exact i_43_65 ⟨rfl, rfl⟩
theorem r_277_1 {d : Nat} {w : xW} : xRun d 277 [Value.int (-2147483648)] w (.inl (some (Value.int 0))) w := by
  refine xRun.of ?_
  refine i_277_0 (x := (-2147483648)) rfl ?_
  refine i_277_1 (fun h => absurd h (by decide)) (fun _ => ?_)
  refine i_277_4 (x := (-2147483648)) rfl ?_
  refine i_277_5 (fun _ => ?_) (fun h => absurd h (by decide))
  refine i_277_13 ?_
  exact i_277_14 ⟨rfl, rfl⟩
theorem r_29_1 {d : Nat} {w : xW} {h0 : Nat} {h1 : Nat} {g0 : Nat → Value} (hw0 : w[h0]? = some (Sum.inr (3, [Value.ref h1, Value.int 2]))) (hw1 : w[h1]? = some (Sum.inl (0, 8, g0))) (hg2 : g0 (1 : Int32).toInt.toNat = Value.int (-2147483648)) : xRun (d + 1) 29 [Value.ref h0] w (.inl (some (Value.int 64))) w := by
  refine xRun.of ?_
  refine i_29_0 (x := h0) rfl ?_
  refine i_29_1 (v := Value.int 2) hw0 rfl ?_
  refine i_29_4 (fun _ => ?_) (fun h => absurd h (by decide))
  refine i_29_11 ?_
  refine i_29_13 (x := h0) rfl ?_
  refine i_29_14 (v := Value.int 2) hw0 rfl ?_
  refine i_29_17 (c := 64) (by decide) ?_
  refine i_29_18 (x := h0) rfl ?_
  refine i_29_19 (v := Value.ref h1) hw0 rfl ?_
  refine i_29_22 (x := h0) rfl ?_
  refine i_29_23 (v := Value.int 2) hw0 rfl ?_
  refine i_29_26 ?_
  refine i_29_27 (c := 1) (by decide) ?_
  refine i_29_28 (v := Value.int (-2147483648)) hw1 (by decide) (by decide) hg2 ?_
  refine i_29_29 (Nat.le_of_ble_eq_true rfl) (r_277_1) ?_
  refine i_29_32 (c := 64) (by decide) ?_
  exact i_29_33 ⟨rfl, rfl⟩
theorem r_38_0 {d : Nat} {w : xW} {h0 : Nat} {g0 : Nat → Value} {h1 : Nat} {h2 : Nat} (hw0 : w[94]? = some (Sum.inr (4, [Value.int 0, Value.ref 95, Value.int 0, Value.int 0]))) (hw1 : w[95]? = some (Sum.inr (3, [Value.ref 96, Value.int 1]))) (hw2 : w[96]? = some (Sum.inl (0, 8, g0))) (hg3 : g0 (0 : Int32).toInt.toNat = Value.int 1) (hw4 : w[h0]? = some (Sum.inr (2, [Value.int 64, Value.int 0, Value.int 0, Value.int 0, Value.ref h1]))) (e5 : 7 ≤ h0) (e6 : h0 ≠ 94) (e7 : h0 ≠ 95) (e8 : h0 ≠ 96) (e9 : h0 ≠ h1) (hw10 : w[h1]? = some (Sum.inr (3, [Value.ref h2, Value.int 0]))) (e11 : h0 ≠ h2) (hw12 : w[h2]? = some (Sum.inl (0, 8, fun _ => Value.int 0))) (e13 : 7 ≤ h2) (e14 : h2 ≠ h1) (e15 : h2 ≠ 95) (e16 : 7 ≤ h1) (e17 : h1 ≠ h0) (e18 : h2 ≠ h0) (e19 : h1 ≠ h2) : xRun (d + 3) 38 [Value.ref h0, Value.ref 94, Value.int (-63), Value.int 0] w (.inl none) (((w.set h0 (Sum.inr (2, [Value.int 64, Value.int 3, Value.int 0, Value.int 1, Value.ref h1]))).set h2 (Sum.inl (0, 8, xup (xup (fun _ => Value.int 0) (1 : Int32).toInt.toNat (Value.int (-2147483648))) (0 : Int32).toInt.toNat (Value.int 0)))).set h1 (Sum.inr (3, [Value.ref h2, Value.int 2]))) := by
  refine xRun.of ?_
  refine i_38_0 (x := 94) rfl ?_
  refine i_38_1 hw0 (Nat.le_of_ble_eq_true rfl) (r_28_0 hw0 hw1 hw2 hg3) ?_
  refine i_38_4 (lv2 := [(4, Value.int 1), (0, Value.ref h0), (1, Value.ref 94), (2, Value.int (-63)), (3, Value.int 0)]) rfl ?_
  refine i_38_6 (x := 1) rfl ?_
  refine i_38_8 (x := (-63)) rfl ?_
  refine i_38_9 (c := 64) (by decide) ?_
  refine i_38_10 (lv2 := [(5, Value.int 64), (4, Value.int 1), (0, Value.ref h0), (1, Value.ref 94), (2, Value.int (-63)), (3, Value.int 0)]) rfl ?_
  refine i_38_12 (x := 64) rfl ?_
  refine i_38_14 (fun _ => ?_) (fun h => absurd h (by decide))
  refine i_38_31 (x := 64) rfl ?_
  refine i_38_33 (fun _ => ?_) (fun h => absurd h (by decide))
  refine i_38_48 (x := h0) rfl ?_
  refine i_38_49 ?_
  refine i_38_50 (fs2 := [Value.int 64, Value.int 3, Value.int 0, Value.int 0, Value.ref h1]) hw4 (Nat.le_of_ble_eq_true rfl) rfl e5 ?_
  refine i_38_53 (x := h0) rfl ?_
  refine i_38_54 (x := 94) rfl ?_
  refine i_38_55 (v := Value.int 0) (xgn e6 hw0) rfl ?_
  refine i_38_58 (fs2 := [Value.int 64, Value.int 3, Value.int 0, Value.int 0, Value.ref h1]) (xgs hw4) rfl (Nat.le_of_ble_eq_true rfl) rfl e5 ?_
  refine xEv.world (List.set_set _) ?_
  refine i_38_61 (x := h0) rfl ?_
  refine i_38_62 (x := 1) rfl ?_
  refine i_38_64 (fs2 := [Value.int 64, Value.int 3, Value.int 0, Value.int 1, Value.ref h1]) (xgs hw4) (Nat.le_of_ble_eq_true rfl) rfl e5 ?_
  refine xEv.world (List.set_set _) ?_
  refine i_38_67 (x := h0) rfl ?_
  refine i_38_68 (v := Value.ref h1) (xgs hw4) rfl ?_
  refine i_38_71 (x := 94) rfl ?_
  refine i_38_72 (v := Value.ref 95) (xgn e6 hw0) rfl ?_
  refine i_38_75 (x := h0) rfl ?_
  refine i_38_76 (v := Value.int 64) (xgs hw4) rfl ?_
  refine i_38_79 (x := 94) rfl ?_
  refine i_38_80 (v := Value.ref 95) (xgn e6 hw0) rfl ?_
  refine i_38_83 (xgn e7 hw1) (Nat.le_of_ble_eq_true rfl) (r_29_0 (xgn e7 hw1) (xgn e8 hw2) hg3) ?_
  refine i_38_86 (c := 63) (by decide) ?_
  refine i_38_87 (xgn e9 hw10) (Nat.le_of_ble_eq_true rfl) (r_42_0 (xgn e7 hw1) (xgn e8 hw2) hg3 (xgn e9 hw10) (xgn e11 hw12) e13 e14 e15 e16) ?_
  refine i_38_90 (x := h0) rfl ?_
  refine i_38_91 (v := Value.ref h1) (xgn e17 (xgn e18 (xgs hw4))) rfl ?_
  refine i_38_94 (x := h0) rfl ?_
  refine i_38_95 (v := Value.int 64) (xgn e17 (xgn e18 (xgs hw4))) rfl ?_
  refine i_38_98 (x := 64) rfl ?_
  refine i_38_100 (c := 0) (by decide) ?_
  refine i_38_101 (xgs (xgn e14 (xgn e9 hw10))) (Nat.le_of_ble_eq_true rfl) (r_43_0 (xgs (xgn e14 (xgn e9 hw10))) (xgn e19 (xgs (xgn e11 hw12))) (xup_n (by decide) xup_s)) ?_
  refine i_38_104 (x := 0) rfl ?_
  refine i_38_105 (fun _ => ?_) (fun h => absurd h (by decide))
  refine i_38_122 (x := h0) rfl ?_
  refine i_38_123 (v := Value.ref h1) (xgn e17 (xgn e18 (xgs hw4))) rfl ?_
  refine i_38_126 (xgs (xgn e14 (xgn e9 hw10))) (Nat.le_of_ble_eq_true rfl) (r_29_1 (xgs (xgn e14 (xgn e9 hw10))) (xgn e19 (xgs (xgn e11 hw12))) (xup_n (by decide) xup_s)) ?_
  refine i_38_129 (x := h0) rfl ?_
  refine i_38_130 (v := Value.int 64) (xgn e17 (xgn e18 (xgs hw4))) rfl ?_
  refine i_38_133 (fun _ => ?_) (fun h => absurd h (by decide))
  exact i_38_148 ⟨rfl, rfl⟩
theorem r_27_0 {d : Nat} {w : xW} {h0 : Nat} {a0 : Int32} {g0 : Nat → Value} {h1 : Nat} {h2 : Nat} (hw0 : w[94]? = some (Sum.inr (4, [Value.int 0, Value.ref 95, Value.int 0, Value.int 0]))) (hw1 : w[95]? = some (Sum.inr (3, [Value.ref 96, Value.int 1]))) (hw2 : w[96]? = some (Sum.inl (0, 8, g0))) (hg3 : g0 (0 : Int32).toInt.toNat = Value.int 1) (hw4 : w[h0]? = some (Sum.inr (2, [Value.int 64, Value.int 0, Value.int 0, Value.int 0, Value.ref h1]))) (hw5 : w[78]? = some (Sum.inr (1, [Value.int (-16384), Value.int 16384, Value.int 0, Value.int 0]))) (e6 : 7 ≤ h0) (e7 : h0 ≠ 94) (e8 : h0 ≠ 95) (e9 : h0 ≠ 96) (e10 : h0 ≠ h1) (hw11 : w[h1]? = some (Sum.inr (3, [Value.ref h2, Value.int 0]))) (e12 : h0 ≠ h2) (hw13 : w[h2]? = some (Sum.inl (0, 8, fun _ => Value.int 0))) (e14 : 7 ≤ h2) (e15 : h2 ≠ h1) (e16 : h2 ≠ 95) (e17 : 7 ≤ h1) (e18 : h1 ≠ h0) (e19 : h2 ≠ h0) (e20 : h1 ≠ h2) (e21 : h1 ≠ 78) (e22 : h2 ≠ 78) (e23 : h0 ≠ 78) (e24 : h1 ≠ 94) (e25 : h2 ≠ 94) : xRun (d + 4) 27 [Value.ref 78, Value.ref h0, Value.ref 94, Value.int a0] w (.inl (some (Value.int 0))) (((w.set h0 (Sum.inr (2, [Value.int 64, Value.int 3, Value.int 0, Value.int 1, Value.ref h1]))).set h2 (Sum.inl (0, 8, xup (xup (fun _ => Value.int 0) (1 : Int32).toInt.toNat (Value.int (-2147483648))) (0 : Int32).toInt.toNat (Value.int 0)))).set h1 (Sum.inr (3, [Value.ref h2, Value.int 2]))) := by
  refine xRun.of ?_
  refine i_27_0 (x := 94) rfl ?_
  refine i_27_1 hw0 (Nat.le_of_ble_eq_true rfl) (r_28_0 hw0 hw1 hw2 hg3) ?_
  refine i_27_4 (lv2 := [(4, Value.int 1), (0, Value.ref 78), (1, Value.ref h0), (2, Value.ref 94), (3, Value.int a0)]) rfl ?_
  refine i_27_6 (x := 78) rfl ?_
  refine i_27_7 (x := 1) rfl ?_
  refine i_27_9 (x := h0) rfl ?_
  refine i_27_10 (v := Value.int 64) hw4 rfl ?_
  refine i_27_13 hw5 (Nat.le_of_ble_eq_true rfl) (r_30_0 hw5) ?_
  refine i_27_16 (lv2 := [(5, Value.int (-63)), (4, Value.int 1), (0, Value.ref 78), (1, Value.ref h0), (2, Value.ref 94), (3, Value.int a0)]) rfl ?_
  refine i_27_18 (x := 94) rfl ?_
  refine i_27_19 (x := (-63)) rfl ?_
  refine i_27_21 (x := a0) rfl ?_
  refine i_27_22 hw0 (Nat.le_of_ble_eq_true rfl) (r_31_0 hw0 hw1) ?_
  refine i_27_25 (lv2 := [(6, Value.int 0), (5, Value.int (-63)), (4, Value.int 1), (0, Value.ref 78), (1, Value.ref h0), (2, Value.ref 94), (3, Value.int a0)]) rfl ?_
  refine i_27_27 (x := 94) rfl ?_
  refine i_27_28 (x := (-63)) rfl ?_
  refine i_27_30 hw0 (Nat.le_of_ble_eq_true rfl) (r_32_0 hw0 hw1) ?_
  refine i_27_33 (fun h => absurd h (by decide)) (fun _ => ?_)
  refine i_27_36 ?_
  refine i_27_37 ?_
  refine i_27_50 (lv2 := [(7, Value.int 0), (6, Value.int 0), (5, Value.int (-63)), (4, Value.int 1), (0, Value.ref 78), (1, Value.ref h0), (2, Value.ref 94), (3, Value.int a0)]) rfl ?_
  refine i_27_52 (x := h0) rfl ?_
  refine i_27_53 (x := 94) rfl ?_
  refine i_27_54 (x := (-63)) rfl ?_
  refine i_27_56 (x := 0) rfl ?_
  refine i_27_58 hw4 (Nat.le_of_ble_eq_true rfl) (r_38_0 hw0 hw1 hw2 hg3 hw4 e6 e7 e8 e9 e10 hw11 e12 hw13 e14 e15 e16 e17 e18 e19 e20) ?_
  refine i_27_61 (x := h0) rfl ?_
  refine i_27_62 (v := Value.int 3) (xgn e18 (xgn e19 (xgs hw4))) rfl ?_
  refine i_27_65 ?_
  refine i_27_66 (fun h => absurd h (by decide)) (fun _ => ?_)
  refine i_27_69 (x := h0) rfl ?_
  refine i_27_70 (v := Value.int 1) (xgn e18 (xgn e19 (xgs hw4))) rfl ?_
  refine i_27_73 (x := 78) rfl ?_
  refine i_27_74 (v := Value.int 16384) (xgn e21 (xgn e22 (xgn e23 hw5))) rfl ?_
  refine i_27_77 (fun _ => ?_) (fun h => absurd h (by decide))
  refine i_27_95 (x := h0) rfl ?_
  refine i_27_96 (v := Value.int 3) (xgn e18 (xgn e19 (xgs hw4))) rfl ?_
  refine i_27_99 ?_
  refine i_27_100 (fun h => absurd h (by decide)) (fun _ => ?_)
  refine i_27_103 (x := 78) rfl ?_
  refine i_27_104 (v := Value.int 0) (xgn e21 (xgn e22 (xgn e23 hw5))) rfl ?_
  refine i_27_107 (fun h => absurd h (by decide)) (fun _ => ?_)
  refine i_27_110 (x := h0) rfl ?_
  refine i_27_111 (v := Value.int 1) (xgn e18 (xgn e19 (xgs hw4))) rfl ?_
  refine i_27_114 (x := 78) rfl ?_
  refine i_27_115 (v := Value.int (-16384)) (xgn e21 (xgn e22 (xgn e23 hw5))) rfl ?_
  refine i_27_118 (fun _ => ?_) (fun h => absurd h (by decide))
  refine i_27_133 (x := 78) rfl ?_
  refine i_27_134 (v := Value.int 0) (xgn e21 (xgn e22 (xgn e23 hw5))) rfl ?_
  refine i_27_137 (fun _ => ?_) (fun h => absurd h (by decide))
  refine i_27_164 (x := 0) rfl ?_
  refine i_27_166 (fun _ => ?_) (fun h => absurd h (by decide))
  refine i_27_179 (x := 94) rfl ?_
  refine i_27_180 (v := Value.int 0) (xgn e24 (xgn e25 (xgn e7 hw0))) rfl ?_
  refine i_27_183 (fun _ => ?_) (fun h => absurd h (by decide))
  refine i_27_192 (x := 0) rfl ?_
  exact i_27_194 ⟨rfl, rfl⟩
theorem r_102_0 {d : Nat} {w : xW} {h0 : Nat} {h1 : Nat} {a0 : Int32} {a1 : Int32} {h2 : Nat} {h3 : Nat} {h4 : Nat} (hw0 : w[h1]? = some (Sum.inr (2, [Value.int 64, Value.int 0, Value.int 0, Value.int 0, Value.ref h2]))) (e1 : a0.toInt = 0) (hw2 : w[93]? = some (Sum.inr (8, [Value.ref 78, Value.ref 79, Value.ref 86, Value.ref 101, Value.ref 94, Value.ref 97, Value.ref 99]))) (hw3 : w[94]? = some (Sum.inr (4, [Value.int 0, Value.ref 95, Value.int 0, Value.int 0]))) (hw4 : w[95]? = some (Sum.inr (3, [Value.ref 96, Value.int 0]))) (hw5 : w[96]? = some (Sum.inl (0, 8, fun _ => Value.int 0))) (hw6 : w[78]? = some (Sum.inr (1, [Value.int (-16384), Value.int 16384, Value.int 0, Value.int 0]))) (e7 : 94 ≠ h0) (e8 : 95 ≠ h0) (e9 : 96 ≠ h0) (hw10 : w[h0]? = some (Sum.inr (2, [Value.int 64, Value.int 0, Value.int 0, Value.int 0, Value.ref h3]))) (e11 : 7 ≤ h0) (e12 : h0 ≠ 94) (e13 : h0 ≠ 95) (e14 : h0 ≠ 96) (e15 : h0 ≠ h3) (e16 : 94 ≠ h3) (e17 : 95 ≠ h3) (e18 : 96 ≠ h3) (hw19 : w[h3]? = some (Sum.inr (3, [Value.ref h4, Value.int 0]))) (e20 : h0 ≠ h4) (e21 : 94 ≠ h4) (e22 : 95 ≠ h4) (e23 : 96 ≠ h4) (hw24 : w[h4]? = some (Sum.inl (0, 8, fun _ => Value.int 0))) (e25 : 7 ≤ h4) (e26 : h4 ≠ h3) (e27 : h4 ≠ 95) (e28 : 7 ≤ h3) (e29 : h3 ≠ h0) (e30 : h4 ≠ h0) (e31 : h3 ≠ h4) (e32 : h3 ≠ 78) (e33 : h4 ≠ 78) (e34 : h0 ≠ 78) (e35 : h3 ≠ 94) (e36 : h4 ≠ 94) : xRun (d + 5) 102 [Value.ref 93, Value.ref h0, Value.ref h1, Value.int a0, Value.int a1] w (.inl (some (Value.int 0))) ((((((((w.set 94 (Sum.inr (4, [Value.int 0, Value.ref 95, Value.int 0, Value.int 0]))).set 96 (Sum.inl (0, 8, xup (xup (fun _ => Value.int 0) (0 : Int32).toInt.toNat (Value.int 1)) (1 : Int32).toInt.toNat (Value.int 0)))).set 95 (Sum.inr (3, [Value.ref 96, Value.int 2]))).set 95 (Sum.inr (3, [Value.ref 96, Value.int 1]))).set 94 (Sum.inr (4, [Value.int 0, Value.ref 95, Value.int 0, Value.int 0]))).set h0 (Sum.inr (2, [Value.int 64, Value.int 3, Value.int 0, Value.int 1, Value.ref h3]))).set h4 (Sum.inl (0, 8, xup (xup (fun _ => Value.int 0) (1 : Int32).toInt.toNat (Value.int (-2147483648))) (0 : Int32).toInt.toNat (Value.int 0)))).set h3 (Sum.inr (3, [Value.ref h4, Value.int 2]))) := by
  refine xRun.of ?_
  refine i_102_0 (x := h1) rfl ?_
  refine i_102_1 (v := Value.int 0) hw0 rfl ?_
  refine i_102_4 (fun _ => ?_) (fun h => absurd h (by decide))
  refine i_102_17 ?_
  refine i_102_18 (lv2 := [(5, Value.int 0), (0, Value.ref 93), (1, Value.ref h0), (2, Value.ref h1), (3, Value.int a0), (4, Value.int a1)]) rfl ?_
  refine i_102_20 (x := a0) rfl ?_
  refine i_102_21 (fun h => absurd e1 h) (fun _ => ?_)
  refine i_102_24 (x := 93) rfl ?_
  refine i_102_25 (v := Value.ref 94) hw2 rfl ?_
  refine i_102_28 ?_
  refine i_102_29 ?_
  refine i_102_30 ?_
  refine i_102_31 hw3 (Nat.le_of_ble_eq_true rfl) (r_24_0 hw3 hw4 hw5) ?_
  refine i_102_34 (x := 93) rfl ?_
  refine i_102_35 (v := Value.ref 78) (xgn (by decide) (xgn (by decide) (xgn (by decide) (xgn (by decide) (xgn (by decide) hw2))))) rfl ?_
  refine i_102_38 (x := h0) rfl ?_
  refine i_102_39 (x := 93) rfl ?_
  refine i_102_40 (v := Value.ref 94) (xgn (by decide) (xgn (by decide) (xgn (by decide) (xgn (by decide) (xgn (by decide) hw2))))) rfl ?_
  refine i_102_43 (x := a1) rfl ?_
  refine i_102_45 (xgn (by decide) (xgn (by decide) (xgn (by decide) (xgn (by decide) (xgn (by decide) hw6))))) (Nat.le_of_ble_eq_true rfl) (r_27_0 (xgs (xgn (by decide) (xgn (by decide) (xgn (by decide) (xgs hw3))))) (xgn (by decide) (xgs (xgs (xgn (by decide) (xgn (by decide) hw4))))) (xgn (by decide) (xgn (by decide) (xgn (by decide) (xgs (xgn (by decide) hw5))))) (xup_n (by decide) xup_s) (xgn e7 (xgn e8 (xgn e8 (xgn e9 (xgn e7 hw10))))) (xgn (by decide) (xgn (by decide) (xgn (by decide) (xgn (by decide) (xgn (by decide) hw6))))) e11 e12 e13 e14 e15 (xgn e16 (xgn e17 (xgn e17 (xgn e18 (xgn e16 hw19))))) e20 (xgn e21 (xgn e22 (xgn e22 (xgn e23 (xgn e21 hw24))))) e25 e26 e27 e28 e29 e30 e31 e32 e33 e34 e35 e36) ?_
  exact i_102_48 ⟨rfl, rfl⟩
theorem r_101_6 {d : Nat} {w : xW} {a0 : Int32} {a1 : Int32} {a2 : Int32} {a3 : Int32} {g0 : Nat → Value} {h0 : Nat} {h1 : Nat} {h2 : Nat} {h3 : Nat} {h4 : Nat} (e0 : 0 ≤ a0.toInt) (e1 : a0.toInt < 16) (e2 : 0 ≤ a1.toInt) (e3 : a1.toInt < 16) (e4 : (-32) ≤ a2.toInt) (e5 : a2.toInt ≤ 32) (e6 : 0 ≤ a3.toInt) (e7 : a3.toInt ≤ 4) (hw8 : w[7]? = some (Sum.inr (0, [Value.ref 8, Value.ref 78, Value.ref 9, Value.ref 10, Value.ref 13, Value.ref 16, Value.ref 19, Value.ref 93, Value.ref 108, Value.ref 113, Value.ref 29, Value.int 0]))) (hw9 : w[8]? = some (Sum.inl (4, 16, g0))) (hg10 : g0 a0.toInt.toNat = Value.ref h0) (hg11 : g0 a1.toInt.toNat = Value.ref h1) (hw12 : w[93]? = some (Sum.inr (8, [Value.ref 78, Value.ref 79, Value.ref 86, Value.ref 101, Value.ref 94, Value.ref 97, Value.ref 99]))) (hw13 : w[h1]? = some (Sum.inr (2, [Value.int 64, Value.int 0, Value.int 0, Value.int 0, Value.ref h2]))) (e14 : a2.toInt = 0) (hw15 : w[94]? = some (Sum.inr (4, [Value.int 0, Value.ref 95, Value.int 0, Value.int 0]))) (hw16 : w[95]? = some (Sum.inr (3, [Value.ref 96, Value.int 0]))) (hw17 : w[96]? = some (Sum.inl (0, 8, fun _ => Value.int 0))) (hw18 : w[78]? = some (Sum.inr (1, [Value.int (-16384), Value.int 16384, Value.int 0, Value.int 0]))) (e19 : 94 ≠ h0) (e20 : 95 ≠ h0) (e21 : 96 ≠ h0) (hw22 : w[h0]? = some (Sum.inr (2, [Value.int 64, Value.int 0, Value.int 0, Value.int 0, Value.ref h3]))) (e23 : 7 ≤ h0) (e24 : h0 ≠ 94) (e25 : h0 ≠ 95) (e26 : h0 ≠ 96) (e27 : h0 ≠ h3) (e28 : 94 ≠ h3) (e29 : 95 ≠ h3) (e30 : 96 ≠ h3) (hw31 : w[h3]? = some (Sum.inr (3, [Value.ref h4, Value.int 0]))) (e32 : h0 ≠ h4) (e33 : 94 ≠ h4) (e34 : 95 ≠ h4) (e35 : 96 ≠ h4) (hw36 : w[h4]? = some (Sum.inl (0, 8, fun _ => Value.int 0))) (e37 : 7 ≤ h4) (e38 : h4 ≠ h3) (e39 : h4 ≠ 95) (e40 : 7 ≤ h3) (e41 : h3 ≠ h0) (e42 : h4 ≠ h0) (e43 : h3 ≠ h4) (e44 : h3 ≠ 78) (e45 : h4 ≠ 78) (e46 : h0 ≠ 78) (e47 : h3 ≠ 94) (e48 : h4 ≠ 94) : xRun (d + 6) 101 [Value.ref 7, Value.int a0, Value.int a1, Value.int a2, Value.int a3] w (.inl (some (Value.int 0))) ((((((((w.set 94 (Sum.inr (4, [Value.int 0, Value.ref 95, Value.int 0, Value.int 0]))).set 96 (Sum.inl (0, 8, xup (xup (fun _ => Value.int 0) (0 : Int32).toInt.toNat (Value.int 1)) (1 : Int32).toInt.toNat (Value.int 0)))).set 95 (Sum.inr (3, [Value.ref 96, Value.int 2]))).set 95 (Sum.inr (3, [Value.ref 96, Value.int 1]))).set 94 (Sum.inr (4, [Value.int 0, Value.ref 95, Value.int 0, Value.int 0]))).set h0 (Sum.inr (2, [Value.int 64, Value.int 3, Value.int 0, Value.int 1, Value.ref h3]))).set h4 (Sum.inl (0, 8, xup (xup (fun _ => Value.int 0) (1 : Int32).toInt.toNat (Value.int (-2147483648))) (0 : Int32).toInt.toNat (Value.int 0)))).set h3 (Sum.inr (3, [Value.ref h4, Value.int 2]))) := by
  refine xRun.of ?_
  refine i_101_0 (x := a0) rfl ?_
  refine i_101_1 (Nat.le_of_ble_eq_true rfl) (r_15_1 e0 e1) ?_
  refine i_101_4 (fun h => absurd h (by decide)) (fun _ => ?_)
  refine i_101_7 (x := a1) rfl ?_
  refine i_101_8 (Nat.le_of_ble_eq_true rfl) (r_15_1 e2 e3) ?_
  refine i_101_11 (fun h => absurd h (by decide)) (fun _ => ?_)
  refine i_101_14 (x := a2) rfl ?_
  refine i_101_15 ?_
  refine i_101_17 (fun h => absurd e4 (Int.not_le.mpr h)) (fun _ => ?_)
  refine i_101_20 (x := a2) rfl ?_
  refine i_101_21 ?_
  refine i_101_23 (fun h => absurd e5 (Int.not_le.mpr h)) (fun _ => ?_)
  refine i_101_26 (x := a3) rfl ?_
  refine i_101_28 (Nat.le_of_ble_eq_true rfl) (r_22_2 e6 e7) ?_
  refine i_101_31 (fun _ => ?_) (fun h => absurd h (by decide))
  refine i_101_42 (x := 7) rfl ?_
  refine i_101_43 (v := Value.ref 93) hw8 rfl ?_
  refine i_101_46 (x := 7) rfl ?_
  refine i_101_47 (v := Value.ref 8) hw8 rfl ?_
  refine i_101_50 (x := a0) rfl ?_
  refine i_101_51 (v := Value.ref h0) hw9 e0 e1 hg10 ?_
  refine i_101_52 (x := 7) rfl ?_
  refine i_101_53 (v := Value.ref 8) hw8 rfl ?_
  refine i_101_56 (x := a1) rfl ?_
  refine i_101_57 (v := Value.ref h1) hw9 e2 e3 hg11 ?_
  refine i_101_58 (x := a2) rfl ?_
  refine i_101_59 (x := a3) rfl ?_
  refine i_101_61 hw12 (Nat.le_of_ble_eq_true rfl) (r_102_0 hw13 e14 hw12 hw15 hw16 hw17 hw18 e19 e20 e21 hw22 e23 e24 e25 e26 e27 e28 e29 e30 hw31 e32 e33 e34 e35 hw36 e37 e38 e39 e40 e41 e42 e43 e44 e45 e46 e47 e48) ?_
  exact i_101_64 ⟨rfl, rfl⟩
theorem r_100_6 {d : Nat} {w : xW} {a0 : Int32} {a1 : Int32} {a2 : Int32} {a3 : Int32} {g0 : Nat → Value} {h0 : Nat} {h1 : Nat} {h2 : Nat} {h3 : Nat} {h4 : Nat} (hw0 : w[7]? = some (Sum.inr (0, [Value.ref 8, Value.ref 78, Value.ref 9, Value.ref 10, Value.ref 13, Value.ref 16, Value.ref 19, Value.ref 93, Value.ref 108, Value.ref 113, Value.ref 29, Value.int 0]))) (e1 : 0 ≤ a0.toInt) (e2 : a0.toInt < 16) (e3 : 0 ≤ a1.toInt) (e4 : a1.toInt < 16) (e5 : (-32) ≤ a2.toInt) (e6 : a2.toInt ≤ 32) (e7 : 0 ≤ a3.toInt) (e8 : a3.toInt ≤ 4) (hw9 : w[8]? = some (Sum.inl (4, 16, g0))) (hg10 : g0 a0.toInt.toNat = Value.ref h0) (hg11 : g0 a1.toInt.toNat = Value.ref h1) (hw12 : w[93]? = some (Sum.inr (8, [Value.ref 78, Value.ref 79, Value.ref 86, Value.ref 101, Value.ref 94, Value.ref 97, Value.ref 99]))) (hw13 : w[h1]? = some (Sum.inr (2, [Value.int 64, Value.int 0, Value.int 0, Value.int 0, Value.ref h2]))) (e14 : a2.toInt = 0) (hw15 : w[94]? = some (Sum.inr (4, [Value.int 0, Value.ref 95, Value.int 0, Value.int 0]))) (hw16 : w[95]? = some (Sum.inr (3, [Value.ref 96, Value.int 0]))) (hw17 : w[96]? = some (Sum.inl (0, 8, fun _ => Value.int 0))) (hw18 : w[78]? = some (Sum.inr (1, [Value.int (-16384), Value.int 16384, Value.int 0, Value.int 0]))) (e19 : 94 ≠ h0) (e20 : 95 ≠ h0) (e21 : 96 ≠ h0) (hw22 : w[h0]? = some (Sum.inr (2, [Value.int 64, Value.int 0, Value.int 0, Value.int 0, Value.ref h3]))) (e23 : 7 ≤ h0) (e24 : h0 ≠ 94) (e25 : h0 ≠ 95) (e26 : h0 ≠ 96) (e27 : h0 ≠ h3) (e28 : 94 ≠ h3) (e29 : 95 ≠ h3) (e30 : 96 ≠ h3) (hw31 : w[h3]? = some (Sum.inr (3, [Value.ref h4, Value.int 0]))) (e32 : h0 ≠ h4) (e33 : 94 ≠ h4) (e34 : 95 ≠ h4) (e35 : 96 ≠ h4) (hw36 : w[h4]? = some (Sum.inl (0, 8, fun _ => Value.int 0))) (e37 : 7 ≤ h4) (e38 : h4 ≠ h3) (e39 : h4 ≠ 95) (e40 : 7 ≤ h3) (e41 : h3 ≠ h0) (e42 : h4 ≠ h0) (e43 : h3 ≠ h4) (e44 : h3 ≠ 78) (e45 : h4 ≠ 78) (e46 : h0 ≠ 78) (e47 : h3 ≠ 94) (e48 : h4 ≠ 94) (e49 : h3 ≠ 194) (e50 : h4 ≠ 194) (e51 : h0 ≠ 194) (hw52 : w[194]? = some (Sum.inl (3, 1, fun _ => Value.long 0))) : xRun (d + 7) 100 [Value.ref 7, Value.int a0, Value.int a1, Value.int a2, Value.int a3, Value.ref 194] w (.inl (some (Value.int 0))) (((((((((w.set 94 (Sum.inr (4, [Value.int 0, Value.ref 95, Value.int 0, Value.int 0]))).set 96 (Sum.inl (0, 8, xup (xup (fun _ => Value.int 0) (0 : Int32).toInt.toNat (Value.int 1)) (1 : Int32).toInt.toNat (Value.int 0)))).set 95 (Sum.inr (3, [Value.ref 96, Value.int 2]))).set 95 (Sum.inr (3, [Value.ref 96, Value.int 1]))).set 94 (Sum.inr (4, [Value.int 0, Value.ref 95, Value.int 0, Value.int 0]))).set h0 (Sum.inr (2, [Value.int 64, Value.int 3, Value.int 0, Value.int 1, Value.ref h3]))).set h4 (Sum.inl (0, 8, xup (xup (fun _ => Value.int 0) (1 : Int32).toInt.toNat (Value.int (-2147483648))) (0 : Int32).toInt.toNat (Value.int 0)))).set h3 (Sum.inr (3, [Value.ref h4, Value.int 2]))).set 194 (Sum.inl (3, 1, xup (fun _ => Value.long 0) (0 : Int32).toInt.toNat (Value.long 0)))) := by
  refine xRun.of ?_
  refine i_100_0 (x := 194) rfl ?_
  refine i_100_2 ?_
  refine i_100_3 (x := 7) rfl ?_
  refine i_100_4 (x := a0) rfl ?_
  refine i_100_5 (x := a1) rfl ?_
  refine i_100_6 (x := a2) rfl ?_
  refine i_100_7 (x := a3) rfl ?_
  refine i_100_9 hw0 (Nat.le_of_ble_eq_true rfl) (r_101_6 e1 e2 e3 e4 e5 e6 e7 e8 hw0 hw9 hg10 hg11 hw12 hw13 e14 hw15 hw16 hw17 hw18 e19 e20 e21 hw22 e23 e24 e25 e26 e27 e28 e29 e30 hw31 e32 e33 e34 e35 hw36 e37 e38 e39 e40 e41 e42 e43 e44 e45 e46 e47 e48) ?_
  refine i_100_12 (c := 0) (by decide) ?_
  refine i_100_13 (v := Value.long 0) (xgn e49 (xgn e50 (xgn e51 (xgn (by decide) (xgn (by decide) (xgn (by decide) (xgn (by decide) (xgn (by decide) hw52)))))))) (by decide) (by decide) (by decide) rfl ?_
  refine i_100_14 ?_
  refine i_100_21 ?_
  exact i_100_22 ⟨rfl, rfl⟩
theorem r_169_7 {d : Nat} {w : xW} {a0 : Int32} (e0 : 0 ≤ a0.toInt) (e1 : a0.toInt ≤ 4) : xRun d 169 [Value.int a0, Value.int 0, Value.int 4] w (.inl (some (Value.int 1))) w := by
  refine xRun.of ?_
  refine i_169_0 (x := a0) rfl ?_
  refine i_169_1 (x := 0) rfl ?_
  refine i_169_2 (fun h => absurd e0 (Int.not_le.mpr h)) (fun _ => ?_)
  refine i_169_5 (x := a0) rfl ?_
  refine i_169_6 (x := 4) rfl ?_
  refine i_169_7 (fun h => absurd e1 (Int.not_le.mpr h)) (fun _ => ?_)
  refine i_169_10 ?_
  refine i_169_11 ?_
  exact i_169_15 rfl ⟨rfl, rfl⟩
theorem r_178_2 {d : Nat} {w : xW} {a0 : Int32} (e0 : 0 ≤ a0.toInt) (e1 : a0.toInt ≤ 4) : xRun (d + 1) 178 [Value.int a0] w (.inl none) w := by
  refine xRun.of ?_
  refine i_178_0 (x := a0) rfl ?_
  refine i_178_1 ?_
  refine i_178_2 ?_
  refine i_178_3 (Nat.le_of_ble_eq_true rfl) (r_169_7 e0 e1) ?_
  refine i_178_6 (Nat.le_of_ble_eq_true rfl) (r_170_1) ?_
  exact i_178_9 ⟨rfl, rfl⟩
theorem r_179_0 {d : Nat} {w : xW} (hw0 : w[129]? = some (Sum.inr (13, [Value.ref 130, Value.int 0]))) (hw1 : w[130]? = some (Sum.inl (0, 4700, fun _ => Value.int 0))) : xRun d 179 [Value.ref 129, Value.long 1] w (.inl none) (((w.set 129 (Sum.inr (13, [Value.ref 130, Value.int 0]))).set 130 (Sum.inl (0, 4700, xup (fun _ => Value.int 0) (0 : Int32).toInt.toNat (Value.int 1)))).set 129 (Sum.inr (13, [Value.ref 130, Value.int 1]))) := by
  refine xRun.of ?_
  refine i_179_0 (x := 129) rfl ?_
  refine i_179_1 ?_
  refine i_179_2 (fs2 := [Value.ref 130, Value.int 0]) hw0 (Nat.le_of_ble_eq_true rfl) rfl (by decide) ?_
  refine i_179_5 (x := 1) rfl ?_
  refine i_179_6 (lv2 := [(3, Value.long 1), (0, Value.ref 129), (1, Value.long 1)]) rfl ?_
  refine i_179_7 (x := 1) rfl ?_
  refine i_179_8 ?_
  refine i_179_9 (c := 1) (by decide) ?_
  refine i_179_10 (fun h => absurd h (by decide)) (fun _ => ?_)
  refine i_179_13 (x := 129) rfl ?_
  refine i_179_14 (v := Value.ref 130) (xgs hw0) rfl ?_
  refine i_179_17 (x := 129) rfl ?_
  refine i_179_18 (v := Value.int 0) (xgs hw0) rfl ?_
  refine i_179_21 (x := 1) rfl ?_
  refine i_179_22 (c := 1) (by decide) ?_
  refine i_179_23 ?_
  refine i_179_25 (c := 1) (by decide) ?_
  refine i_179_26 (v := Value.int 1) (xgn (by decide) hw1) (by decide) (by decide) (by decide) rfl ?_
  refine i_179_27 (x := 129) rfl ?_
  refine i_179_28 rfl ?_
  refine i_179_29 (v := Value.int 0) (xgn (by decide) (xgs hw0)) rfl ?_
  refine i_179_32 ?_
  refine i_179_33 (c := 1) (by decide) ?_
  refine i_179_34 (fs2 := [Value.ref 130, Value.int 1]) (xgn (by decide) (xgs hw0)) (Nat.le_of_ble_eq_true rfl) rfl (by decide) ?_
  refine i_179_37 (x := 1) rfl ?_
  refine i_179_38 ?_
  refine i_179_40 (c := 0) (by decide) ?_
  refine i_179_41 (lv2 := [(3, Value.long 0), (0, Value.ref 129), (1, Value.long 1)]) rfl ?_
  refine i_179_42 ?_
  refine i_179_7 (x := 0) rfl ?_
  refine i_179_8 ?_
  refine i_179_9 (c := 0) (by decide) ?_
  refine i_179_10 (fun _ => ?_) (fun h => absurd h (by decide))
  exact i_179_45 ⟨rfl, rfl⟩
theorem r_181_0 {d : Nat} {w : xW} {g0 : Nat → Value} (hw0 : w[129]? = some (Sum.inr (13, [Value.ref 130, Value.int 1]))) (hw1 : w[130]? = some (Sum.inl (0, 4700, g0))) (hg2 : g0 (0 : Int32).toInt.toNat = Value.int 1) : xRun d 181 [Value.ref 129] w (.inl (some (Value.int 1))) w := by
  refine xRun.of ?_
  refine i_181_0 (x := 129) rfl ?_
  refine i_181_1 (v := Value.int 1) hw0 rfl ?_
  refine i_181_4 (fun _ => ?_) (fun h => absurd h (by decide))
  refine i_181_9 ?_
  refine i_181_11 (x := 129) rfl ?_
  refine i_181_12 (v := Value.int 1) hw0 rfl ?_
  refine i_181_15 ?_
  refine i_181_16 (c := 0) (by decide) ?_
  refine i_181_17 (c := 0) (by decide) ?_
  refine i_181_18 (lv2 := [(1, Value.int 0), (0, Value.ref 129)]) rfl ?_
  refine i_181_19 (x := 129) rfl ?_
  refine i_181_20 (v := Value.ref 130) hw0 rfl ?_
  refine i_181_23 (x := 129) rfl ?_
  refine i_181_24 (v := Value.int 1) hw0 rfl ?_
  refine i_181_27 ?_
  refine i_181_28 (c := 0) (by decide) ?_
  refine i_181_29 (v := Value.int 1) hw1 (by decide) (by decide) hg2 ?_
  refine i_181_30 (lv2 := [(2, Value.int 1), (1, Value.int 0), (0, Value.ref 129)]) rfl ?_
  refine i_181_31 (x := 1) rfl ?_
  refine i_181_32 (fun h => absurd h (by decide)) (fun _ => ?_)
  refine i_181_35 (x := 0) (c := 1) (lv2 := [(1, Value.int 1), (2, Value.int 1), (0, Value.ref 129)]) rfl (by decide) rfl ?_
  refine i_181_38 (x := 1) rfl ?_
  refine i_181_39 ?_
  refine i_181_40 (c := 0) (by decide) ?_
  refine i_181_41 (lv2 := [(2, Value.int 0), (1, Value.int 1), (0, Value.ref 129)]) rfl ?_
  refine i_181_42 ?_
  refine i_181_31 (x := 0) rfl ?_
  refine i_181_32 (fun _ => ?_) (fun h => absurd h (by decide))
  refine i_181_45 (x := 1) rfl ?_
  exact i_181_46 ⟨rfl, rfl⟩
theorem r_182_0 {d : Nat} {w : xW} {g0 : Nat → Value} (hw0 : w[129]? = some (Sum.inr (13, [Value.ref 130, Value.int 1]))) (hw1 : w[135]? = some (Sum.inr (13, [Value.ref 136, Value.int 0]))) (hw2 : w[130]? = some (Sum.inl (0, 4700, g0))) (hw3 : w[136]? = some (Sum.inl (0, 4700, fun _ => Value.int 0))) (hg4 : g0 (0 : Int32).toInt.toNat = Value.int 1) : xRun (d + 1) 182 [Value.ref 135, Value.ref 129] w (.inl none) ((w.set 136 (Sum.inl (0, 4700, xcp g0 (fun _ => Value.int 0) (0 : Int32).toInt.toNat (0 : Int32).toInt.toNat (1 : Int32).toInt.toNat))).set 135 (Sum.inr (13, [Value.ref 136, Value.int 1]))) := by
  refine xRun.of ?_
  refine i_182_0 (x := 129) rfl ?_
  refine i_182_1 (v := Value.ref 130) hw0 rfl ?_
  refine i_182_4 ?_
  refine i_182_5 (x := 135) rfl ?_
  refine i_182_6 (v := Value.ref 136) hw1 rfl ?_
  refine i_182_9 ?_
  refine i_182_10 (x := 129) rfl ?_
  refine i_182_11 (v := Value.int 1) hw0 rfl ?_
  refine i_182_14 hw2 hw3 (by decide) (by decide) (by decide) (by decide) (by decide) (by decide) (xci1 hg4) (Nat.le_of_ble_eq_true rfl) ?_
  refine i_182_17 (x := 135) rfl ?_
  refine i_182_18 (x := 129) rfl ?_
  refine i_182_19 (v := Value.int 1) (xgn (by decide) hw0) rfl ?_
  refine i_182_22 (fs2 := [Value.ref 136, Value.int 1]) (xgn (by decide) hw1) (Nat.le_of_ble_eq_true rfl) rfl (by decide) ?_
  exact i_182_25 ⟨rfl, rfl⟩
theorem r_187_0 {d : Nat} {w : xW} {g0 : Nat → Value} (hw0 : w[135]? = some (Sum.inr (13, [Value.ref 136, Value.int 1]))) (hw1 : w[136]? = some (Sum.inl (0, 4700, g0))) (hg2 : g0 (3 : Int32).toInt.toNat = Value.int 0) (hg3 : g0 (2 : Int32).toInt.toNat = Value.int 8) : xRun d 187 [Value.ref 135, Value.int 4] w (.inl none) (w.set 135 (Sum.inr (13, [Value.ref 136, Value.int 3]))) := by
  refine xRun.of ?_
  refine i_187_0 (x := 135) rfl ?_
  refine i_187_1 (x := 4) rfl ?_
  refine i_187_2 (fs2 := [Value.ref 136, Value.int 4]) hw0 (Nat.le_of_ble_eq_true rfl) rfl (by decide) ?_
  refine i_187_5 (x := 135) rfl ?_
  refine i_187_6 (v := Value.int 4) (xgs hw0) rfl ?_
  refine i_187_9 (fun h => absurd h (by decide)) (fun _ => ?_)
  refine i_187_12 (x := 135) rfl ?_
  refine i_187_13 (v := Value.ref 136) (xgs hw0) rfl ?_
  refine i_187_16 (x := 135) rfl ?_
  refine i_187_17 (v := Value.int 4) (xgs hw0) rfl ?_
  refine i_187_20 ?_
  refine i_187_21 (c := 3) (by decide) ?_
  refine i_187_22 (v := Value.int 0) (xgn (by decide) hw1) (by decide) (by decide) hg2 ?_
  refine i_187_23 (fun h => absurd h (by decide)) (fun _ => ?_)
  refine i_187_26 (x := 135) rfl ?_
  refine i_187_27 rfl ?_
  refine i_187_28 (v := Value.int 4) (xgs hw0) rfl ?_
  refine i_187_31 ?_
  refine i_187_32 (c := 3) (by decide) ?_
  refine i_187_33 (fs2 := [Value.ref 136, Value.int 3]) (xgs hw0) (Nat.le_of_ble_eq_true rfl) rfl (by decide) ?_
  refine xEv.world (List.set_set _) ?_
  refine i_187_36 ?_
  refine i_187_5 (x := 135) rfl ?_
  refine i_187_6 (v := Value.int 3) (xgs hw0) rfl ?_
  refine i_187_9 (fun h => absurd h (by decide)) (fun _ => ?_)
  refine i_187_12 (x := 135) rfl ?_
  refine i_187_13 (v := Value.ref 136) (xgs hw0) rfl ?_
  refine i_187_16 (x := 135) rfl ?_
  refine i_187_17 (v := Value.int 3) (xgs hw0) rfl ?_
  refine i_187_20 ?_
  refine i_187_21 (c := 2) (by decide) ?_
  refine i_187_22 (v := Value.int 8) (xgn (by decide) hw1) (by decide) (by decide) hg3 ?_
  refine i_187_23 (fun _ => ?_) (fun h => absurd h (by decide))
  exact i_187_39 ⟨rfl, rfl⟩
theorem r_188_0 {d : Nat} {w : xW} {g0 : Nat → Value} (hw0 : w[135]? = some (Sum.inr (13, [Value.ref 136, Value.int 1]))) (hw1 : w[136]? = some (Sum.inl (0, 4700, g0))) (hg2 : g0 (0 : Int32).toInt.toNat = Value.int 1) : xRun (d + 1) 188 [Value.ref 135, Value.int 63] w (.inl none) ((w.set 136 (Sum.inl (0, 4700, xup (xup (xup (xup (xup g0 (3 : Int32).toInt.toNat (Value.int 0)) (3 : Int32).toInt.toNat (Value.int 0)) (2 : Int32).toInt.toNat (Value.int 8)) (0 : Int32).toInt.toNat (Value.int 0)) (1 : Int32).toInt.toNat (Value.int 0)))).set 135 (Sum.inr (13, [Value.ref 136, Value.int 3]))) := by
  refine xRun.of ?_
  refine i_188_0 (x := 135) rfl ?_
  refine i_188_1 (v := Value.int 1) hw0 rfl ?_
  refine i_188_4 (fun h => absurd h (by decide)) (fun _ => ?_)
  refine i_188_7 (x := 63) rfl ?_
  refine i_188_8 (fun _ => ?_) (fun h => absurd h (by decide))
  refine i_188_12 (x := 63) rfl ?_
  refine i_188_13 ?_
  refine i_188_15 (x := 63) (z := 30) (c := 2) (by decide) (by decide) ?_
  refine i_188_16 (lv2 := [(2, Value.int 2), (0, Value.ref 135), (1, Value.int 63)]) rfl ?_
  refine i_188_17 (x := 63) rfl ?_
  refine i_188_18 ?_
  refine i_188_20 (x := 63) (z := 30) (c := 3) (by decide) (by decide) ?_
  refine i_188_21 (lv2 := [(3, Value.int 3), (2, Value.int 2), (0, Value.ref 135), (1, Value.int 63)]) rfl ?_
  refine i_188_22 (x := 135) rfl ?_
  refine i_188_23 (v := Value.ref 136) hw0 rfl ?_
  refine i_188_26 (x := 135) rfl ?_
  refine i_188_27 (v := Value.int 1) hw0 rfl ?_
  refine i_188_30 (x := 2) rfl ?_
  refine i_188_31 (c := 3) (by decide) ?_
  refine i_188_32 ?_
  refine i_188_33 (v := Value.int 0) hw1 (by decide) (by decide) (by decide) rfl ?_
  refine i_188_34 (x := 135) rfl ?_
  refine i_188_35 (v := Value.int 1) (xgn (by decide) hw0) rfl ?_
  refine i_188_38 ?_
  refine i_188_39 (c := 0) (by decide) ?_
  refine i_188_40 (lv2 := [(4, Value.int 0), (3, Value.int 3), (2, Value.int 2), (0, Value.ref 135), (1, Value.int 63)]) rfl ?_
  refine i_188_42 (x := 0) rfl ?_
  refine i_188_44 (fun h => absurd h (by decide)) (fun _ => ?_)
  refine i_188_47 (x := 135) rfl ?_
  refine i_188_48 (v := Value.ref 136) (xgn (by decide) hw0) rfl ?_
  refine i_188_51 (x := 0) rfl ?_
  refine i_188_53 (v := Value.int 1) (xgs hw1) (by decide) (by decide) (xup_n (by decide) hg2) ?_
  refine i_188_54 (c := 1) (by decide) ?_
  refine i_188_55 (x := 3) rfl ?_
  refine i_188_56 (c := 8) (by decide) ?_
  refine i_188_57 (lv2 := [(5, Value.long 8), (4, Value.int 0), (3, Value.int 3), (2, Value.int 2), (0, Value.ref 135), (1, Value.int 63)]) rfl ?_
  refine i_188_59 (x := 135) rfl ?_
  refine i_188_60 (v := Value.ref 136) (xgn (by decide) hw0) rfl ?_
  refine i_188_63 (x := 0) rfl ?_
  refine i_188_65 (x := 2) rfl ?_
  refine i_188_66 (c := 2) (by decide) ?_
  refine i_188_67 ?_
  refine i_188_68 (c := 3) (by decide) ?_
  refine i_188_69 (x := 0) rfl ?_
  refine i_188_71 (x := 135) rfl ?_
  refine i_188_72 (v := Value.int 1) (xgn (by decide) hw0) rfl ?_
  refine i_188_75 ?_
  refine i_188_76 (c := 0) (by decide) ?_
  refine i_188_77 (fun h => absurd h (by decide)) (fun _ => ?_)
  refine i_188_80 ?_
  refine i_188_81 ?_
  refine i_188_95 (x := 8) rfl ?_
  refine i_188_97 ?_
  refine i_188_99 (c := 0) (by decide) ?_
  refine i_188_100 (c := 0) (by decide) ?_
  refine i_188_101 (c := 0) (by decide) ?_
  refine i_188_102 (v := Value.int 0) (xgs hw1) (by decide) (by decide) (by decide) rfl ?_
  refine xEv.world (List.set_set _) ?_
  refine i_188_103 (x := 135) rfl ?_
  refine i_188_104 (v := Value.ref 136) (xgn (by decide) hw0) rfl ?_
  refine i_188_107 (x := 0) rfl ?_
  refine i_188_109 (x := 2) rfl ?_
  refine i_188_110 (c := 2) (by decide) ?_
  refine i_188_111 (x := 8) rfl ?_
  refine i_188_113 (c := 8) (by decide) ?_
  refine i_188_114 ?_
  refine i_188_116 (c := 8) (by decide) ?_
  refine i_188_117 (v := Value.int 8) (xgs hw1) (by decide) (by decide) (by decide) rfl ?_
  refine xEv.world (List.set_set _) ?_
  refine i_188_118 (x := 0) (c := (-1)) (lv2 := [(4, Value.int (-1)), (5, Value.long 8), (3, Value.int 3), (2, Value.int 2), (0, Value.ref 135), (1, Value.int 63)]) rfl (by decide) rfl ?_
  refine i_188_121 ?_
  refine i_188_42 (x := (-1)) rfl ?_
  refine i_188_44 (fun _ => ?_) (fun h => absurd h (by decide))
  refine i_188_124 ?_
  refine i_188_125 (lv2 := [(4, Value.int 0), (5, Value.long 8), (3, Value.int 3), (2, Value.int 2), (0, Value.ref 135), (1, Value.int 63)]) rfl ?_
  refine i_188_127 (x := 0) rfl ?_
  refine i_188_129 (x := 2) rfl ?_
  refine i_188_130 (fun h => absurd h (by decide)) (fun _ => ?_)
  refine i_188_133 (x := 135) rfl ?_
  refine i_188_134 (v := Value.ref 136) (xgn (by decide) hw0) rfl ?_
  refine i_188_137 (x := 0) rfl ?_
  refine i_188_139 ?_
  refine i_188_140 (v := Value.int 0) (xgs hw1) (by decide) (by decide) (by decide) rfl ?_
  refine xEv.world (List.set_set _) ?_
  refine i_188_141 (x := 0) (c := 1) (lv2 := [(4, Value.int 1), (5, Value.long 8), (3, Value.int 3), (2, Value.int 2), (0, Value.ref 135), (1, Value.int 63)]) rfl (by decide) rfl ?_
  refine i_188_144 ?_
  refine i_188_127 (x := 1) rfl ?_
  refine i_188_129 (x := 2) rfl ?_
  refine i_188_130 (fun h => absurd h (by decide)) (fun _ => ?_)
  refine i_188_133 (x := 135) rfl ?_
  refine i_188_134 (v := Value.ref 136) (xgn (by decide) hw0) rfl ?_
  refine i_188_137 (x := 1) rfl ?_
  refine i_188_139 ?_
  refine i_188_140 (v := Value.int 0) (xgs hw1) (by decide) (by decide) (by decide) rfl ?_
  refine xEv.world (List.set_set _) ?_
  refine i_188_141 (x := 1) (c := 2) (lv2 := [(4, Value.int 2), (5, Value.long 8), (3, Value.int 3), (2, Value.int 2), (0, Value.ref 135), (1, Value.int 63)]) rfl (by decide) rfl ?_
  refine i_188_144 ?_
  refine i_188_127 (x := 2) rfl ?_
  refine i_188_129 (x := 2) rfl ?_
  refine i_188_130 (fun _ => ?_) (fun h => absurd h (by decide))
  refine i_188_147 (x := 135) rfl ?_
  refine i_188_148 (x := 135) rfl ?_
  refine i_188_149 (v := Value.int 1) (xgn (by decide) hw0) rfl ?_
  refine i_188_152 (x := 2) rfl ?_
  refine i_188_153 (c := 3) (by decide) ?_
  refine i_188_154 ?_
  refine i_188_155 (c := 4) (by decide) ?_
  refine i_188_156 (xgn (by decide) hw0) (Nat.le_of_ble_eq_true rfl) (r_187_0 (xgn (by decide) hw0) (xgs hw1) (xup_n (by decide) (xup_n (by decide) (xup_n (by decide) xup_s))) (xup_n (by decide) (xup_n (by decide) xup_s))) ?_
  exact i_188_159 ⟨rfl, rfl⟩
theorem r_181_1 {d : Nat} {w : xW} {g0 : Nat → Value} (hw0 : w[135]? = some (Sum.inr (13, [Value.ref 136, Value.int 3]))) (hw1 : w[136]? = some (Sum.inl (0, 4700, g0))) (hg2 : g0 (2 : Int32).toInt.toNat = Value.int 8) : xRun d 181 [Value.ref 135] w (.inl (some (Value.int 64))) w := by
  refine xRun.of ?_
  refine i_181_0 (x := 135) rfl ?_
  refine i_181_1 (v := Value.int 3) hw0 rfl ?_
  refine i_181_4 (fun _ => ?_) (fun h => absurd h (by decide))
  refine i_181_9 ?_
  refine i_181_11 (x := 135) rfl ?_
  refine i_181_12 (v := Value.int 3) hw0 rfl ?_
  refine i_181_15 ?_
  refine i_181_16 (c := 2) (by decide) ?_
  refine i_181_17 (c := 60) (by decide) ?_
  refine i_181_18 (lv2 := [(1, Value.int 60), (0, Value.ref 135)]) rfl ?_
  refine i_181_19 (x := 135) rfl ?_
  refine i_181_20 (v := Value.ref 136) hw0 rfl ?_
  refine i_181_23 (x := 135) rfl ?_
  refine i_181_24 (v := Value.int 3) hw0 rfl ?_
  refine i_181_27 ?_
  refine i_181_28 (c := 2) (by decide) ?_
  refine i_181_29 (v := Value.int 8) hw1 (by decide) (by decide) hg2 ?_
  refine i_181_30 (lv2 := [(2, Value.int 8), (1, Value.int 60), (0, Value.ref 135)]) rfl ?_
  refine i_181_31 (x := 8) rfl ?_
  refine i_181_32 (fun h => absurd h (by decide)) (fun _ => ?_)
  refine i_181_35 (x := 60) (c := 61) (lv2 := [(1, Value.int 61), (2, Value.int 8), (0, Value.ref 135)]) rfl (by decide) rfl ?_
  refine i_181_38 (x := 8) rfl ?_
  refine i_181_39 ?_
  refine i_181_40 (c := 4) (by decide) ?_
  refine i_181_41 (lv2 := [(2, Value.int 4), (1, Value.int 61), (0, Value.ref 135)]) rfl ?_
  refine i_181_42 ?_
  refine i_181_31 (x := 4) rfl ?_
  refine i_181_32 (fun h => absurd h (by decide)) (fun _ => ?_)
  refine i_181_35 (x := 61) (c := 62) (lv2 := [(1, Value.int 62), (2, Value.int 4), (0, Value.ref 135)]) rfl (by decide) rfl ?_
  refine i_181_38 (x := 4) rfl ?_
  refine i_181_39 ?_
  refine i_181_40 (c := 2) (by decide) ?_
  refine i_181_41 (lv2 := [(2, Value.int 2), (1, Value.int 62), (0, Value.ref 135)]) rfl ?_
  refine i_181_42 ?_
  refine i_181_31 (x := 2) rfl ?_
  refine i_181_32 (fun h => absurd h (by decide)) (fun _ => ?_)
  refine i_181_35 (x := 62) (c := 63) (lv2 := [(1, Value.int 63), (2, Value.int 2), (0, Value.ref 135)]) rfl (by decide) rfl ?_
  refine i_181_38 (x := 2) rfl ?_
  refine i_181_39 ?_
  refine i_181_40 (c := 1) (by decide) ?_
  refine i_181_41 (lv2 := [(2, Value.int 1), (1, Value.int 63), (0, Value.ref 135)]) rfl ?_
  refine i_181_42 ?_
  refine i_181_31 (x := 1) rfl ?_
  refine i_181_32 (fun h => absurd h (by decide)) (fun _ => ?_)
  refine i_181_35 (x := 63) (c := 64) (lv2 := [(1, Value.int 64), (2, Value.int 1), (0, Value.ref 135)]) rfl (by decide) rfl ?_
  refine i_181_38 (x := 1) rfl ?_
  refine i_181_39 ?_
  refine i_181_40 (c := 0) (by decide) ?_
  refine i_181_41 (lv2 := [(2, Value.int 0), (1, Value.int 64), (0, Value.ref 135)]) rfl ?_
  refine i_181_42 ?_
  refine i_181_31 (x := 0) rfl ?_
  refine i_181_32 (fun _ => ?_) (fun h => absurd h (by decide))
  refine i_181_45 (x := 64) rfl ?_
  exact i_181_46 ⟨rfl, rfl⟩
theorem r_179_1 {d : Nat} {w : xW} {h0 : Nat} {h1 : Nat} (hw0 : w[h0]? = some (Sum.inr (13, [Value.ref h1, Value.int 0]))) (e1 : 7 ≤ h0) : xRun d 179 [Value.ref h0, Value.long 0] w (.inl none) (w.set h0 (Sum.inr (13, [Value.ref h1, Value.int 0]))) := by
  refine xRun.of ?_
  refine i_179_0 (x := h0) rfl ?_
  refine i_179_1 ?_
  refine i_179_2 (fs2 := [Value.ref h1, Value.int 0]) hw0 (Nat.le_of_ble_eq_true rfl) rfl e1 ?_
  refine i_179_5 (x := 0) rfl ?_
  refine i_179_6 (lv2 := [(3, Value.long 0), (0, Value.ref h0), (1, Value.long 0)]) rfl ?_
  refine i_179_7 (x := 0) rfl ?_
  refine i_179_8 ?_
  refine i_179_9 (c := 0) (by decide) ?_
  refine i_179_10 (fun _ => ?_) (fun h => absurd h (by decide))
  exact i_179_45 ⟨rfl, rfl⟩
theorem r_182_1 {d : Nat} {w : xW} {g0 : Nat → Value} (hw0 : w[135]? = some (Sum.inr (13, [Value.ref 136, Value.int 3]))) (hw1 : w[137]? = some (Sum.inr (13, [Value.ref 138, Value.int 0]))) (hw2 : w[136]? = some (Sum.inl (0, 4700, g0))) (hw3 : w[138]? = some (Sum.inl (0, 4700, fun _ => Value.int 0))) (hg4 : g0 (0 : Int32).toInt.toNat = Value.int 0) (hg5 : g0 (1 : Int32).toInt.toNat = Value.int 0) (hg6 : g0 (2 : Int32).toInt.toNat = Value.int 8) : xRun (d + 1) 182 [Value.ref 137, Value.ref 135] w (.inl none) ((w.set 138 (Sum.inl (0, 4700, xcp g0 (fun _ => Value.int 0) (0 : Int32).toInt.toNat (0 : Int32).toInt.toNat (3 : Int32).toInt.toNat))).set 137 (Sum.inr (13, [Value.ref 138, Value.int 3]))) := by
  refine xRun.of ?_
  refine i_182_0 (x := 135) rfl ?_
  refine i_182_1 (v := Value.ref 136) hw0 rfl ?_
  refine i_182_4 ?_
  refine i_182_5 (x := 137) rfl ?_
  refine i_182_6 (v := Value.ref 138) hw1 rfl ?_
  refine i_182_9 ?_
  refine i_182_10 (x := 135) rfl ?_
  refine i_182_11 (v := Value.int 3) hw0 rfl ?_
  refine i_182_14 hw2 hw3 (by decide) (by decide) (by decide) (by decide) (by decide) (by decide) (xci3 hg4 hg5 hg6) (Nat.le_of_ble_eq_true rfl) ?_
  refine i_182_17 (x := 137) rfl ?_
  refine i_182_18 (x := 135) rfl ?_
  refine i_182_19 (v := Value.int 3) (xgn (by decide) hw0) rfl ?_
  refine i_182_22 (fs2 := [Value.ref 138, Value.int 3]) (xgn (by decide) hw1) (Nat.le_of_ble_eq_true rfl) rfl (by decide) ?_
  exact i_182_25 ⟨rfl, rfl⟩
theorem r_188_1 {d : Nat} {w : xW} (hw0 : w[137]? = some (Sum.inr (13, [Value.ref 138, Value.int 3]))) : xRun d 188 [Value.ref 137, Value.int 0] w (.inl none) w := by
  refine xRun.of ?_
  refine i_188_0 (x := 137) rfl ?_
  refine i_188_1 (v := Value.int 3) hw0 rfl ?_
  refine i_188_4 (fun h => absurd h (by decide)) (fun _ => ?_)
  refine i_188_7 (x := 0) rfl ?_
  refine i_188_8 (fun h => absurd h (by decide)) (fun _ => ?_)
  exact i_188_11 ⟨rfl, rfl⟩
theorem r_182_2 {d : Nat} {w : xW} {h0 : Nat} {h1 : Nat} {g0 : Nat → Value} (hw0 : w[137]? = some (Sum.inr (13, [Value.ref 138, Value.int 3]))) (hw1 : w[h0]? = some (Sum.inr (13, [Value.ref h1, Value.int 0]))) (hw2 : w[138]? = some (Sum.inl (0, 4700, g0))) (hw3 : w[h1]? = some (Sum.inl (0, 140, fun _ => Value.int 0))) (hg4 : g0 (0 : Int32).toInt.toNat = Value.int 0) (hg5 : g0 (1 : Int32).toInt.toNat = Value.int 0) (hg6 : g0 (2 : Int32).toInt.toNat = Value.int 8) (e7 : 7 ≤ h1) (e8 : h1 ≠ 137) (e9 : h1 ≠ h0) (e10 : 7 ≤ h0) : xRun (d + 1) 182 [Value.ref h0, Value.ref 137] w (.inl none) ((w.set h1 (Sum.inl (0, 140, xcp g0 (fun _ => Value.int 0) (0 : Int32).toInt.toNat (0 : Int32).toInt.toNat (3 : Int32).toInt.toNat))).set h0 (Sum.inr (13, [Value.ref h1, Value.int 3]))) := by
  refine xRun.of ?_
  refine i_182_0 (x := 137) rfl ?_
  refine i_182_1 (v := Value.ref 138) hw0 rfl ?_
  refine i_182_4 ?_
  refine i_182_5 (x := h0) rfl ?_
  refine i_182_6 (v := Value.ref h1) hw1 rfl ?_
  refine i_182_9 ?_
  refine i_182_10 (x := 137) rfl ?_
  refine i_182_11 (v := Value.int 3) hw0 rfl ?_
  refine i_182_14 hw2 hw3 (by decide) (by decide) (by decide) (by decide) (by decide) e7 (xci3 hg4 hg5 hg6) (Nat.le_of_ble_eq_true rfl) ?_
  refine i_182_17 (x := h0) rfl ?_
  refine i_182_18 (x := 137) rfl ?_
  refine i_182_19 (v := Value.int 3) (xgn e8 hw0) rfl ?_
  refine i_182_22 (fs2 := [Value.ref h1, Value.int 3]) (xgn e9 hw1) (Nat.le_of_ble_eq_true rfl) rfl e10 ?_
  exact i_182_25 ⟨rfl, rfl⟩
theorem r_192_0 {d : Nat} {w : xW} {a0 : Int32} {g0 : Nat → Value} {g1 : Nat → Value} {g2 : Nat → Value} {h0 : Nat} {h1 : Nat} (hw0 : w[128]? = some (Sum.inr (12, [Value.ref 129, Value.ref 131, Value.ref 133, Value.ref 135, Value.ref 137, Value.ref 139, Value.ref 141, Value.ref 143, Value.ref 145, Value.ref 147, Value.ref 149, Value.ref 151, Value.ref 153, Value.ref 154, Value.ref 155, Value.ref 156, Value.ref 157, Value.int (-16384), Value.int 16384, Value.int 0, Value.int 0, Value.int 0, Value.ref 158, Value.ref 159, Value.int 0, Value.int 0, Value.int 0, Value.int 0, Value.int 0, Value.int 0, Value.int 0, Value.int 0]))) (hw1 : w[153]? = some (Sum.inl (0, 17, g0))) (e2 : 0 ≤ a0.toInt) (e3 : a0.toInt < 17) (hg4 : g0 a0.toInt.toNat = Value.int 64) (hw5 : w[135]? = some (Sum.inr (13, [Value.ref 136, Value.int 3]))) (hw6 : w[136]? = some (Sum.inl (0, 4700, g1))) (hg7 : g1 (2 : Int32).toInt.toNat = Value.int 8) (hw8 : w[157]? = some (Sum.inl (5, 17, g2))) (hg9 : g2 a0.toInt.toNat = Value.ref h0) (hw10 : w[h0]? = some (Sum.inr (13, [Value.ref h1, Value.int 0]))) (e11 : 7 ≤ h0) (e12 : h0 ≠ 128) (e13 : h0 ≠ 137) (hw14 : w[137]? = some (Sum.inr (13, [Value.ref 138, Value.int 0]))) (e15 : h0 ≠ 135) (e16 : h0 ≠ 136) (e17 : h0 ≠ 138) (hw18 : w[138]? = some (Sum.inl (0, 4700, fun _ => Value.int 0))) (hg19 : g1 (0 : Int32).toInt.toNat = Value.int 0) (hg20 : g1 (1 : Int32).toInt.toNat = Value.int 0) (e21 : h0 ≠ 157) (e22 : 137 ≠ h0) (e23 : 138 ≠ h0) (e24 : 137 ≠ h1) (e25 : 138 ≠ h1) (e26 : h0 ≠ h1) (hw27 : w[h1]? = some (Sum.inl (0, 140, fun _ => Value.int 0))) (e28 : 7 ≤ h1) (e29 : h1 ≠ 137) (e30 : h1 ≠ h0) (e31 : h1 ≠ 128) (e32 : h0 ≠ 154) (e33 : h1 ≠ 154) (hw34 : w[154]? = some (Sum.inl (0, 17, fun _ => Value.int 0))) (e35 : h0 ≠ 155) (e36 : h1 ≠ 155) (hw37 : w[155]? = some (Sum.inl (0, 17, fun _ => Value.int 0))) : xRun (d + 2) 192 [Value.ref 128, Value.int a0, Value.ref 135, Value.int (-63)] w (.inl none) (((((((w.set h0 (Sum.inr (13, [Value.ref h1, Value.int 0]))).set 138 (Sum.inl (0, 4700, xcp g1 (fun _ => Value.int 0) (0 : Int32).toInt.toNat (0 : Int32).toInt.toNat (3 : Int32).toInt.toNat))).set 137 (Sum.inr (13, [Value.ref 138, Value.int 3]))).set h1 (Sum.inl (0, 140, xcp (xcp g1 (fun _ => Value.int 0) (0 : Int32).toInt.toNat (0 : Int32).toInt.toNat (3 : Int32).toInt.toNat) (fun _ => Value.int 0) (0 : Int32).toInt.toNat (0 : Int32).toInt.toNat (3 : Int32).toInt.toNat))).set h0 (Sum.inr (13, [Value.ref h1, Value.int 3]))).set 154 (Sum.inl (0, 17, xup (fun _ => Value.int 0) a0.toInt.toNat (Value.int 3)))).set 155 (Sum.inl (0, 17, xup (fun _ => Value.int 0) a0.toInt.toNat (Value.int 1)))) := by
  refine xRun.of ?_
  refine i_192_0 (x := 128) rfl ?_
  refine i_192_1 (v := Value.ref 153) hw0 rfl ?_
  refine i_192_4 (x := a0) rfl ?_
  refine i_192_5 (v := Value.int 64) hw1 e2 e3 hg4 ?_
  refine i_192_6 (lv2 := [(4, Value.int 64), (0, Value.ref 128), (1, Value.int a0), (2, Value.ref 135), (3, Value.int (-63))]) rfl ?_
  refine i_192_8 (x := 135) rfl ?_
  refine i_192_9 hw5 (Nat.le_of_ble_eq_true rfl) (r_181_1 hw5 hw6 hg7) ?_
  refine i_192_12 (lv2 := [(5, Value.int 64), (4, Value.int 64), (0, Value.ref 128), (1, Value.int a0), (2, Value.ref 135), (3, Value.int (-63))]) rfl ?_
  refine i_192_14 (x := 128) rfl ?_
  refine i_192_15 (v := Value.ref 157) hw0 rfl ?_
  refine i_192_18 (x := a0) rfl ?_
  refine i_192_19 (v := Value.ref h0) hw8 e2 e3 hg9 ?_
  refine i_192_20 ?_
  refine i_192_21 hw10 (Nat.le_of_ble_eq_true rfl) (r_179_1 hw10 e11) ?_
  refine i_192_24 (x := 64) rfl ?_
  refine i_192_26 (x := 64) rfl ?_
  refine i_192_28 (fun _ => ?_) (fun h => absurd h (by decide))
  refine i_192_67 (x := 128) rfl ?_
  refine i_192_68 (v := Value.ref 137) (xgn e12 hw0) rfl ?_
  refine i_192_71 (x := 135) rfl ?_
  refine i_192_72 (xgn e13 hw14) (Nat.le_of_ble_eq_true rfl) (r_182_1 (xgn e15 hw5) (xgn e13 hw14) (xgn e16 hw6) (xgn e17 hw18) hg19 hg20 hg7) ?_
  refine i_192_75 (x := 128) rfl ?_
  refine i_192_76 (v := Value.ref 137) (xgn (by decide) (xgn (by decide) (xgn e12 hw0))) rfl ?_
  refine i_192_79 (x := 64) rfl ?_
  refine i_192_81 (x := 64) rfl ?_
  refine i_192_83 (c := 0) (by decide) ?_
  refine i_192_84 (xgs (xgn (by decide) (xgn e13 hw14))) (Nat.le_of_ble_eq_true rfl) (r_188_1 (xgs (xgn (by decide) (xgn e13 hw14)))) ?_
  refine i_192_87 (x := 128) rfl ?_
  refine i_192_88 (v := Value.ref 157) (xgn (by decide) (xgn (by decide) (xgn e12 hw0))) rfl ?_
  refine i_192_91 (x := a0) rfl ?_
  refine i_192_92 (v := Value.ref h0) (xgn (by decide) (xgn (by decide) (xgn e21 hw8))) e2 e3 hg9 ?_
  refine i_192_93 (x := 128) rfl ?_
  refine i_192_94 (v := Value.ref 137) (xgn (by decide) (xgn (by decide) (xgn e12 hw0))) rfl ?_
  refine i_192_97 (xgn e22 (xgn e23 (xgs hw10))) (Nat.le_of_ble_eq_true rfl) (r_182_2 (xgs (xgn (by decide) (xgn e13 hw14))) (xgn e22 (xgn e23 (xgs hw10))) (xgn (by decide) (xgs (xgn e17 hw18))) (xgn e24 (xgn e25 (xgn e26 hw27))) (xcp_i rfl hg19) (xcp_i rfl hg20) (xcp_i rfl hg7) e28 e29 e30 e11) ?_
  refine i_192_100 (x := 128) rfl ?_
  refine i_192_101 (v := Value.ref 154) (xgn e12 (xgn e31 (xgn (by decide) (xgn (by decide) (xgn e12 hw0))))) rfl ?_
  refine i_192_104 (x := a0) rfl ?_
  refine i_192_105 ?_
  refine i_192_106 (v := Value.int 3) (xgn e32 (xgn e33 (xgn (by decide) (xgn (by decide) (xgn e32 hw34))))) e2 e3 (by decide) rfl ?_
  refine i_192_107 (x := 128) rfl ?_
  refine i_192_108 (v := Value.ref 155) (xgn (by decide) (xgn e12 (xgn e31 (xgn (by decide) (xgn (by decide) (xgn e12 hw0)))))) rfl ?_
  refine i_192_111 (x := a0) rfl ?_
  refine i_192_112 (x := 64) rfl ?_
  refine i_192_114 (x := (-63)) rfl ?_
  refine i_192_115 (c := 1) (by decide) ?_
  refine i_192_116 (v := Value.int 1) (xgn (by decide) (xgn e35 (xgn e36 (xgn (by decide) (xgn (by decide) (xgn e35 hw37)))))) e2 e3 (by decide) rfl ?_
  exact i_192_117 ⟨rfl, rfl⟩
