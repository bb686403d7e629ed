/-! the law's own calls of the class -/
section
variable {d : Nat} {w w2 : xW} {fs : List Value} {g : Nat → Value}
theorem l_13 {a0 : Int32} {a1 : Int32} {v : Int32} (h7 : w[7]? = some (.inr (0, fs))) (hrun : xRun d 14 [Value.ref 7, Value.int a0, Value.int a1] w (.inl (some (.int v))) w2) (h194 : w2[194]? = some (.inl (3, 1, g))) : xRun (d + 1) 13 [Value.ref 7, Value.int a0, Value.int a1, Value.ref 194] w (.inl (some (.int 0))) (w2.set 194 (.inl (3, 1, xup g 0 (.long v.toInt64)))) := by
  refine xRun.of ?_
  refine i_13_0 rfl ?_
  refine i_13_1 ?_
  refine i_13_2 rfl ?_
  refine i_13_3 rfl ?_
  refine i_13_4 rfl ?_
  refine i_13_5 h7 (Nat.le_of_ble_eq_true rfl) hrun ?_
  refine i_13_8 rfl ?_
  refine i_13_9 h194 (by decide) (by decide) (by decide) rfl ?_
  refine i_13_10 ?_
  refine i_13_17 ?_
  exact i_13_18 ⟨rfl, rfl⟩
theorem c_13_1 {a0 : Int32} {a1 : Int32} (h7 : w[7]? = some (.inr (0, fs))) (hrun : xRun d 14 [Value.ref 7, Value.int a0, Value.int a1] w (.inr w2.length) (w2 ++ [.inr (14, [])])) : xRun (d + 1) 13 [Value.ref 7, Value.int a0, Value.int a1, Value.ref 194] w (.inl (some (.int 1))) (w2 ++ [.inr (14, [])]) := by
  refine xRun.of ?_
  refine i_13_0 rfl ?_
  refine i_13_1 ?_
  refine i_13_2 rfl ?_
  refine i_13_3 rfl ?_
  refine i_13_4 rfl ?_
  refine j_13_5 h7 (Nat.le_of_ble_eq_true rfl) hrun (xDone.c (ci := 14) (hp := 13) xgl rfl rfl ?_)
  refine i_13_13 rfl ?_
  refine i_13_15 ?_
  exact i_13_16 ⟨rfl, rfl⟩
theorem l_18 {a0 : Int32} {a1 : Int32} {a2 : Int32} {v : Int32} (h7 : w[7]? = some (.inr (0, fs))) (hrun : xRun d 19 [Value.ref 7, Value.int a0, Value.int a1, Value.int a2] w (.inl (some (.int v))) w2) (h194 : w2[194]? = some (.inl (3, 1, g))) : xRun (d + 1) 18 [Value.ref 7, Value.int a0, Value.int a1, Value.int a2, Value.ref 194] w (.inl (some (.int 0))) (w2.set 194 (.inl (3, 1, xup g 0 (.long v.toInt64)))) := by
  refine xRun.of ?_
  refine i_18_0 rfl ?_
  refine i_18_2 ?_
  refine i_18_3 rfl ?_
  refine i_18_4 rfl ?_
  refine i_18_5 rfl ?_
  refine i_18_6 rfl ?_
  refine i_18_7 h7 (Nat.le_of_ble_eq_true rfl) hrun ?_
  refine i_18_10 rfl ?_
  refine i_18_11 h194 (by decide) (by decide) (by decide) rfl ?_
  refine i_18_12 ?_
  refine i_18_19 ?_
  exact i_18_20 ⟨rfl, rfl⟩
theorem c_18_1 {a0 : Int32} {a1 : Int32} {a2 : Int32} (h7 : w[7]? = some (.inr (0, fs))) (hrun : xRun d 19 [Value.ref 7, Value.int a0, Value.int a1, Value.int a2] w (.inr w2.length) (w2 ++ [.inr (14, [])])) : xRun (d + 1) 18 [Value.ref 7, Value.int a0, Value.int a1, Value.int a2, Value.ref 194] w (.inl (some (.int 1))) (w2 ++ [.inr (14, [])]) := by
  refine xRun.of ?_
  refine i_18_0 rfl ?_
  refine i_18_2 ?_
  refine i_18_3 rfl ?_
  refine i_18_4 rfl ?_
  refine i_18_5 rfl ?_
  refine i_18_6 rfl ?_
  refine j_18_7 h7 (Nat.le_of_ble_eq_true rfl) hrun (xDone.c (ci := 14) (hp := 15) xgl rfl rfl ?_)
  refine i_18_15 rfl ?_
  refine i_18_17 ?_
  exact i_18_18 ⟨rfl, rfl⟩
theorem l_20 {a0 : Int32} {a1 : Int64} {a2 : Int32} {a3 : Int32} {v : Int32} (h7 : w[7]? = some (.inr (0, fs))) (hrun : xRun d 21 [Value.ref 7, Value.int a0, Value.long a1, Value.int a2, Value.int a3] w (.inl (some (.int v))) w2) (h194 : w2[194]? = some (.inl (3, 1, g))) : xRun (d + 1) 20 [Value.ref 7, Value.int a0, Value.long a1, Value.int a2, Value.int a3, Value.ref 194] w (.inl (some (.int 0))) (w2.set 194 (.inl (3, 1, xup g 0 (.long v.toInt64)))) := by
  refine xRun.of ?_
  refine i_20_0 rfl ?_
  refine i_20_2 ?_
  refine i_20_3 rfl ?_
  refine i_20_4 rfl ?_
  refine i_20_5 rfl ?_
  refine i_20_6 rfl ?_
  refine i_20_8 rfl ?_
  refine i_20_10 h7 (Nat.le_of_ble_eq_true rfl) hrun ?_
  refine i_20_13 rfl ?_
  refine i_20_14 h194 (by decide) (by decide) (by decide) rfl ?_
  refine i_20_15 ?_
  refine i_20_22 ?_
  exact i_20_23 ⟨rfl, rfl⟩
theorem c_20_1 {a0 : Int32} {a1 : Int64} {a2 : Int32} {a3 : Int32} (h7 : w[7]? = some (.inr (0, fs))) (hrun : xRun d 21 [Value.ref 7, Value.int a0, Value.long a1, Value.int a2, Value.int a3] w (.inr w2.length) (w2 ++ [.inr (14, [])])) : xRun (d + 1) 20 [Value.ref 7, Value.int a0, Value.long a1, Value.int a2, Value.int a3, Value.ref 194] w (.inl (some (.int 1))) (w2 ++ [.inr (14, [])]) := by
  refine xRun.of ?_
  refine i_20_0 rfl ?_
  refine i_20_2 ?_
  refine i_20_3 rfl ?_
  refine i_20_4 rfl ?_
  refine i_20_5 rfl ?_
  refine i_20_6 rfl ?_
  refine i_20_8 rfl ?_
  refine j_20_10 h7 (Nat.le_of_ble_eq_true rfl) hrun (xDone.c (ci := 14) (hp := 18) xgl rfl rfl ?_)
  refine i_20_18 rfl ?_
  refine i_20_20 ?_
  exact i_20_21 ⟨rfl, rfl⟩
theorem l_52 {a0 : Int32} {a1 : Int32} {a2 : Int32} {a3 : Int32} {v : Int32} (h7 : w[7]? = some (.inr (0, fs))) (hrun : xRun d 53 [Value.ref 7, Value.int a0, Value.int a1, Value.int a2, Value.int a3] w (.inl (some (.int v))) w2) (h194 : w2[194]? = some (.inl (3, 1, g))) : xRun (d + 1) 52 [Value.ref 7, Value.int a0, Value.int a1, Value.int a2, Value.int a3, Value.ref 194] w (.inl (some (.int 0))) (w2.set 194 (.inl (3, 1, xup g 0 (.long v.toInt64)))) := by
  refine xRun.of ?_
  refine i_52_0 rfl ?_
  refine i_52_2 ?_
  refine i_52_3 rfl ?_
  refine i_52_4 rfl ?_
  refine i_52_5 rfl ?_
  refine i_52_6 rfl ?_
  refine i_52_7 rfl ?_
  refine i_52_9 h7 (Nat.le_of_ble_eq_true rfl) hrun ?_
  refine i_52_12 rfl ?_
  refine i_52_13 h194 (by decide) (by decide) (by decide) rfl ?_
  refine i_52_14 ?_
  refine i_52_21 ?_
  exact i_52_22 ⟨rfl, rfl⟩
theorem c_52_1 {a0 : Int32} {a1 : Int32} {a2 : Int32} {a3 : Int32} (h7 : w[7]? = some (.inr (0, fs))) (hrun : xRun d 53 [Value.ref 7, Value.int a0, Value.int a1, Value.int a2, Value.int a3] w (.inr w2.length) (w2 ++ [.inr (14, [])])) : xRun (d + 1) 52 [Value.ref 7, Value.int a0, Value.int a1, Value.int a2, Value.int a3, Value.ref 194] w (.inl (some (.int 1))) (w2 ++ [.inr (14, [])]) := by
  refine xRun.of ?_
  refine i_52_0 rfl ?_
  refine i_52_2 ?_
  refine i_52_3 rfl ?_
  refine i_52_4 rfl ?_
  refine i_52_5 rfl ?_
  refine i_52_6 rfl ?_
  refine i_52_7 rfl ?_
  refine j_52_9 h7 (Nat.le_of_ble_eq_true rfl) hrun (xDone.c (ci := 14) (hp := 17) xgl rfl rfl ?_)
  refine i_52_17 rfl ?_
  refine i_52_19 ?_
  exact i_52_20 ⟨rfl, rfl⟩
theorem l_57 {a0 : Int32} {a1 : Int32} {a2 : Int32} {a3 : Int32} {a4 : Int32} {v : Int32} (h7 : w[7]? = some (.inr (0, fs))) (hrun : xRun d 58 [Value.ref 7, Value.int a0, Value.int a1, Value.int a2, Value.int a3, Value.int a4] w (.inl (some (.int v))) w2) (h194 : w2[194]? = some (.inl (3, 1, g))) : xRun (d + 1) 57 [Value.ref 7, Value.int a0, Value.int a1, Value.int a2, Value.int a3, Value.int a4, Value.ref 194] w (.inl (some (.int 0))) (w2.set 194 (.inl (3, 1, xup g 0 (.long v.toInt64)))) := by
  refine xRun.of ?_
  refine i_57_0 rfl ?_
  refine i_57_2 ?_
  refine i_57_3 rfl ?_
  refine i_57_4 rfl ?_
  refine i_57_5 rfl ?_
  refine i_57_6 rfl ?_
  refine i_57_7 rfl ?_
  refine i_57_9 rfl ?_
  refine i_57_11 h7 (Nat.le_of_ble_eq_true rfl) hrun ?_
  refine i_57_14 rfl ?_
  refine i_57_15 h194 (by decide) (by decide) (by decide) rfl ?_
  refine i_57_16 ?_
  refine i_57_23 ?_
  exact i_57_24 ⟨rfl, rfl⟩
theorem c_57_1 {a0 : Int32} {a1 : Int32} {a2 : Int32} {a3 : Int32} {a4 : Int32} (h7 : w[7]? = some (.inr (0, fs))) (hrun : xRun d 58 [Value.ref 7, Value.int a0, Value.int a1, Value.int a2, Value.int a3, Value.int a4] w (.inr w2.length) (w2 ++ [.inr (14, [])])) : xRun (d + 1) 57 [Value.ref 7, Value.int a0, Value.int a1, Value.int a2, Value.int a3, Value.int a4, Value.ref 194] w (.inl (some (.int 1))) (w2 ++ [.inr (14, [])]) := by
  refine xRun.of ?_
  refine i_57_0 rfl ?_
  refine i_57_2 ?_
  refine i_57_3 rfl ?_
  refine i_57_4 rfl ?_
  refine i_57_5 rfl ?_
  refine i_57_6 rfl ?_
  refine i_57_7 rfl ?_
  refine i_57_9 rfl ?_
  refine j_57_11 h7 (Nat.le_of_ble_eq_true rfl) hrun (xDone.c (ci := 14) (hp := 19) xgl rfl rfl ?_)
  refine i_57_19 rfl ?_
  refine i_57_21 ?_
  exact i_57_22 ⟨rfl, rfl⟩
theorem l_94 {a0 : Int32} {a1 : Int32} {a2 : Int32} {a3 : Int32} {a4 : Int32} {v : Int32} (h7 : w[7]? = some (.inr (0, fs))) (hrun : xRun d 95 [Value.ref 7, Value.int a0, Value.int a1, Value.int a2, Value.int a3, Value.int a4] w (.inl (some (.int v))) w2) (h194 : w2[194]? = some (.inl (3, 1, g))) : xRun (d + 1) 94 [Value.ref 7, Value.int a0, Value.int a1, Value.int a2, Value.int a3, Value.int a4, Value.ref 194] w (.inl (some (.int 0))) (w2.set 194 (.inl (3, 1, xup g 0 (.long v.toInt64)))) := by
  refine xRun.of ?_
  refine i_94_0 rfl ?_
  refine i_94_2 ?_
  refine i_94_3 rfl ?_
  refine i_94_4 rfl ?_
  refine i_94_5 rfl ?_
  refine i_94_6 rfl ?_
  refine i_94_7 rfl ?_
  refine i_94_9 rfl ?_
  refine i_94_11 h7 (Nat.le_of_ble_eq_true rfl) hrun ?_
  refine i_94_14 rfl ?_
  refine i_94_15 h194 (by decide) (by decide) (by decide) rfl ?_
  refine i_94_16 ?_
  refine i_94_23 ?_
  exact i_94_24 ⟨rfl, rfl⟩
theorem c_94_1 {a0 : Int32} {a1 : Int32} {a2 : Int32} {a3 : Int32} {a4 : Int32} (h7 : w[7]? = some (.inr (0, fs))) (hrun : xRun d 95 [Value.ref 7, Value.int a0, Value.int a1, Value.int a2, Value.int a3, Value.int a4] w (.inr w2.length) (w2 ++ [.inr (14, [])])) : xRun (d + 1) 94 [Value.ref 7, Value.int a0, Value.int a1, Value.int a2, Value.int a3, Value.int a4, Value.ref 194] w (.inl (some (.int 1))) (w2 ++ [.inr (14, [])]) := by
  refine xRun.of ?_
  refine i_94_0 rfl ?_
  refine i_94_2 ?_
  refine i_94_3 rfl ?_
  refine i_94_4 rfl ?_
  refine i_94_5 rfl ?_
  refine i_94_6 rfl ?_
  refine i_94_7 rfl ?_
  refine i_94_9 rfl ?_
  refine j_94_11 h7 (Nat.le_of_ble_eq_true rfl) hrun (xDone.c (ci := 14) (hp := 19) xgl rfl rfl ?_)
  refine i_94_19 rfl ?_
  refine i_94_21 ?_
  exact i_94_22 ⟨rfl, rfl⟩
theorem l_97 {a0 : Int32} {a1 : Int32} {a2 : Int32} {a3 : Int32} {v : Int32} (h7 : w[7]? = some (.inr (0, fs))) (hrun : xRun d 98 [Value.ref 7, Value.int a0, Value.int a1, Value.int a2, Value.int a3] w (.inl (some (.int v))) w2) (h194 : w2[194]? = some (.inl (3, 1, g))) : xRun (d + 1) 97 [Value.ref 7, Value.int a0, Value.int a1, Value.int a2, Value.int a3, Value.ref 194] w (.inl (some (.int 0))) (w2.set 194 (.inl (3, 1, xup g 0 (.long v.toInt64)))) := by
  refine xRun.of ?_
  refine i_97_0 rfl ?_
  refine i_97_2 ?_
  refine i_97_3 rfl ?_
  refine i_97_4 rfl ?_
  refine i_97_5 rfl ?_
  refine i_97_6 rfl ?_
  refine i_97_7 rfl ?_
  refine i_97_9 h7 (Nat.le_of_ble_eq_true rfl) hrun ?_
  refine i_97_12 rfl ?_
  refine i_97_13 h194 (by decide) (by decide) (by decide) rfl ?_
  refine i_97_14 ?_
  refine i_97_21 ?_
  exact i_97_22 ⟨rfl, rfl⟩
theorem c_97_1 {a0 : Int32} {a1 : Int32} {a2 : Int32} {a3 : Int32} (h7 : w[7]? = some (.inr (0, fs))) (hrun : xRun d 98 [Value.ref 7, Value.int a0, Value.int a1, Value.int a2, Value.int a3] w (.inr w2.length) (w2 ++ [.inr (14, [])])) : xRun (d + 1) 97 [Value.ref 7, Value.int a0, Value.int a1, Value.int a2, Value.int a3, Value.ref 194] w (.inl (some (.int 1))) (w2 ++ [.inr (14, [])]) := by
  refine xRun.of ?_
  refine i_97_0 rfl ?_
  refine i_97_2 ?_
  refine i_97_3 rfl ?_
  refine i_97_4 rfl ?_
  refine i_97_5 rfl ?_
  refine i_97_6 rfl ?_
  refine i_97_7 rfl ?_
  refine j_97_9 h7 (Nat.le_of_ble_eq_true rfl) hrun (xDone.c (ci := 14) (hp := 17) xgl rfl rfl ?_)
  refine i_97_17 rfl ?_
  refine i_97_19 ?_
  exact i_97_20 ⟨rfl, rfl⟩
theorem l_100 {a0 : Int32} {a1 : Int32} {a2 : Int32} {a3 : Int32} {v : Int32} (h7 : w[7]? = some (.inr (0, fs))) (hrun : xRun d 101 [Value.ref 7, Value.int a0, Value.int a1, Value.int a2, Value.int a3] w (.inl (some (.int v))) w2) (h194 : w2[194]? = some (.inl (3, 1, g))) : xRun (d + 1) 100 [Value.ref 7, Value.int a0, Value.int a1, Value.int a2, Value.int a3, Value.ref 194] w (.inl (some (.int 0))) (w2.set 194 (.inl (3, 1, xup g 0 (.long v.toInt64)))) := by
  refine xRun.of ?_
  refine i_100_0 rfl ?_
  refine i_100_2 ?_
  refine i_100_3 rfl ?_
  refine i_100_4 rfl ?_
  refine i_100_5 rfl ?_
  refine i_100_6 rfl ?_
  refine i_100_7 rfl ?_
  refine i_100_9 h7 (Nat.le_of_ble_eq_true rfl) hrun ?_
  refine i_100_12 rfl ?_
  refine i_100_13 h194 (by decide) (by decide) (by decide) rfl ?_
  refine i_100_14 ?_
  refine i_100_21 ?_
  exact i_100_22 ⟨rfl, rfl⟩
theorem c_100_1 {a0 : Int32} {a1 : Int32} {a2 : Int32} {a3 : Int32} (h7 : w[7]? = some (.inr (0, fs))) (hrun : xRun d 101 [Value.ref 7, Value.int a0, Value.int a1, Value.int a2, Value.int a3] w (.inr w2.length) (w2 ++ [.inr (14, [])])) : xRun (d + 1) 100 [Value.ref 7, Value.int a0, Value.int a1, Value.int a2, Value.int a3, Value.ref 194] w (.inl (some (.int 1))) (w2 ++ [.inr (14, [])]) := by
  refine xRun.of ?_
  refine i_100_0 rfl ?_
  refine i_100_2 ?_
  refine i_100_3 rfl ?_
  refine i_100_4 rfl ?_
  refine i_100_5 rfl ?_
  refine i_100_6 rfl ?_
  refine i_100_7 rfl ?_
  refine j_100_9 h7 (Nat.le_of_ble_eq_true rfl) hrun (xDone.c (ci := 14) (hp := 17) xgl rfl rfl ?_)
  refine i_100_17 rfl ?_
  refine i_100_19 ?_
  exact i_100_20 ⟨rfl, rfl⟩
theorem l_105 {a0 : Int32} {a1 : Int32} {a2 : Int32} {a3 : Int32} {v : Int32} (h7 : w[7]? = some (.inr (0, fs))) (hrun : xRun d 106 [Value.ref 7, Value.int a0, Value.int a1, Value.int a2, Value.int a3] w (.inl (some (.int v))) w2) (h194 : w2[194]? = some (.inl (3, 1, g))) : xRun (d + 1) 105 [Value.ref 7, Value.int a0, Value.int a1, Value.int a2, Value.int a3, Value.ref 194] w (.inl (some (.int 0))) (w2.set 194 (.inl (3, 1, xup g 0 (.long v.toInt64)))) := by
  refine xRun.of ?_
  refine i_105_0 rfl ?_
  refine i_105_2 ?_
  refine i_105_3 rfl ?_
  refine i_105_4 rfl ?_
  refine i_105_5 rfl ?_
  refine i_105_6 rfl ?_
  refine i_105_7 rfl ?_
  refine i_105_9 h7 (Nat.le_of_ble_eq_true rfl) hrun ?_
  refine i_105_12 rfl ?_
  refine i_105_13 h194 (by decide) (by decide) (by decide) rfl ?_
  refine i_105_14 ?_
  refine i_105_21 ?_
  exact i_105_22 ⟨rfl, rfl⟩
theorem c_105_1 {a0 : Int32} {a1 : Int32} {a2 : Int32} {a3 : Int32} (h7 : w[7]? = some (.inr (0, fs))) (hrun : xRun d 106 [Value.ref 7, Value.int a0, Value.int a1, Value.int a2, Value.int a3] w (.inr w2.length) (w2 ++ [.inr (14, [])])) : xRun (d + 1) 105 [Value.ref 7, Value.int a0, Value.int a1, Value.int a2, Value.int a3, Value.ref 194] w (.inl (some (.int 1))) (w2 ++ [.inr (14, [])]) := by
  refine xRun.of ?_
  refine i_105_0 rfl ?_
  refine i_105_2 ?_
  refine i_105_3 rfl ?_
  refine i_105_4 rfl ?_
  refine i_105_5 rfl ?_
  refine i_105_6 rfl ?_
  refine i_105_7 rfl ?_
  refine j_105_9 h7 (Nat.le_of_ble_eq_true rfl) hrun (xDone.c (ci := 14) (hp := 17) xgl rfl rfl ?_)
  refine i_105_17 rfl ?_
  refine i_105_19 ?_
  exact i_105_20 ⟨rfl, rfl⟩
theorem l_111 {a0 : Int32} {a1 : Int32} {a2 : Int32} {a3 : Int32} {v : Int32} (h7 : w[7]? = some (.inr (0, fs))) (hrun : xRun d 112 [Value.ref 7, Value.int a0, Value.int a1, Value.int a2, Value.int a3] w (.inl (some (.int v))) w2) (h194 : w2[194]? = some (.inl (3, 1, g))) : xRun (d + 1) 111 [Value.ref 7, Value.int a0, Value.int a1, Value.int a2, Value.int a3, Value.ref 194] w (.inl (some (.int 0))) (w2.set 194 (.inl (3, 1, xup g 0 (.long v.toInt64)))) := by
  refine xRun.of ?_
  refine i_111_0 rfl ?_
  refine i_111_2 ?_
  refine i_111_3 rfl ?_
  refine i_111_4 rfl ?_
  refine i_111_5 rfl ?_
  refine i_111_6 rfl ?_
  refine i_111_7 rfl ?_
  refine i_111_9 h7 (Nat.le_of_ble_eq_true rfl) hrun ?_
  refine i_111_12 rfl ?_
  refine i_111_13 h194 (by decide) (by decide) (by decide) rfl ?_
  refine i_111_14 ?_
  refine i_111_21 ?_
  exact i_111_22 ⟨rfl, rfl⟩
theorem c_111_1 {a0 : Int32} {a1 : Int32} {a2 : Int32} {a3 : Int32} (h7 : w[7]? = some (.inr (0, fs))) (hrun : xRun d 112 [Value.ref 7, Value.int a0, Value.int a1, Value.int a2, Value.int a3] w (.inr w2.length) (w2 ++ [.inr (14, [])])) : xRun (d + 1) 111 [Value.ref 7, Value.int a0, Value.int a1, Value.int a2, Value.int a3, Value.ref 194] w (.inl (some (.int 1))) (w2 ++ [.inr (14, [])]) := by
  refine xRun.of ?_
  refine i_111_0 rfl ?_
  refine i_111_2 ?_
  refine i_111_3 rfl ?_
  refine i_111_4 rfl ?_
  refine i_111_5 rfl ?_
  refine i_111_6 rfl ?_
  refine i_111_7 rfl ?_
  refine j_111_9 h7 (Nat.le_of_ble_eq_true rfl) hrun (xDone.c (ci := 14) (hp := 17) xgl rfl rfl ?_)
  refine i_111_17 rfl ?_
  refine i_111_19 ?_
  exact i_111_20 ⟨rfl, rfl⟩
theorem l_114 {a0 : Int32} {a1 : Int32} {a2 : Int32} {a3 : Int32} {a4 : Int32} {v : Int32} (h7 : w[7]? = some (.inr (0, fs))) (hrun : xRun d 115 [Value.ref 7, Value.int a0, Value.int a1, Value.int a2, Value.int a3, Value.int a4] w (.inl (some (.int v))) w2) (h194 : w2[194]? = some (.inl (3, 1, g))) : xRun (d + 1) 114 [Value.ref 7, Value.int a0, Value.int a1, Value.int a2, Value.int a3, Value.int a4, Value.ref 194] w (.inl (some (.int 0))) (w2.set 194 (.inl (3, 1, xup g 0 (.long v.toInt64)))) := by
  refine xRun.of ?_
  refine i_114_0 rfl ?_
  refine i_114_2 ?_
  refine i_114_3 rfl ?_
  refine i_114_4 rfl ?_
  refine i_114_5 rfl ?_
  refine i_114_6 rfl ?_
  refine i_114_7 rfl ?_
  refine i_114_9 rfl ?_
  refine i_114_11 h7 (Nat.le_of_ble_eq_true rfl) hrun ?_
  refine i_114_14 rfl ?_
  refine i_114_15 h194 (by decide) (by decide) (by decide) rfl ?_
  refine i_114_16 ?_
  refine i_114_23 ?_
  exact i_114_24 ⟨rfl, rfl⟩
theorem c_114_1 {a0 : Int32} {a1 : Int32} {a2 : Int32} {a3 : Int32} {a4 : Int32} (h7 : w[7]? = some (.inr (0, fs))) (hrun : xRun d 115 [Value.ref 7, Value.int a0, Value.int a1, Value.int a2, Value.int a3, Value.int a4] w (.inr w2.length) (w2 ++ [.inr (14, [])])) : xRun (d + 1) 114 [Value.ref 7, Value.int a0, Value.int a1, Value.int a2, Value.int a3, Value.int a4, Value.ref 194] w (.inl (some (.int 1))) (w2 ++ [.inr (14, [])]) := by
  refine xRun.of ?_
  refine i_114_0 rfl ?_
  refine i_114_2 ?_
  refine i_114_3 rfl ?_
  refine i_114_4 rfl ?_
  refine i_114_5 rfl ?_
  refine i_114_6 rfl ?_
  refine i_114_7 rfl ?_
  refine i_114_9 rfl ?_
  refine j_114_11 h7 (Nat.le_of_ble_eq_true rfl) hrun (xDone.c (ci := 14) (hp := 19) xgl rfl rfl ?_)
  refine i_114_19 rfl ?_
  refine i_114_21 ?_
  exact i_114_22 ⟨rfl, rfl⟩
theorem l_116 {a0 : Int32} {a1 : Int32} {v : Int32} (h7 : w[7]? = some (.inr (0, fs))) (hrun : xRun d 117 [Value.ref 7, Value.int a0, Value.int a1] w (.inl (some (.int v))) w2) (h194 : w2[194]? = some (.inl (3, 1, g))) : xRun (d + 1) 116 [Value.ref 7, Value.int a0, Value.int a1, Value.ref 194] w (.inl (some (.int 0))) (w2.set 194 (.inl (3, 1, xup g 0 (.long v.toInt64)))) := by
  refine xRun.of ?_
  refine i_116_0 rfl ?_
  refine i_116_1 ?_
  refine i_116_2 rfl ?_
  refine i_116_3 rfl ?_
  refine i_116_4 rfl ?_
  refine i_116_5 h7 (Nat.le_of_ble_eq_true rfl) hrun ?_
  refine i_116_8 rfl ?_
  refine i_116_9 h194 (by decide) (by decide) (by decide) rfl ?_
  refine i_116_10 ?_
  refine i_116_17 ?_
  exact i_116_18 ⟨rfl, rfl⟩
theorem c_116_1 {a0 : Int32} {a1 : Int32} (h7 : w[7]? = some (.inr (0, fs))) (hrun : xRun d 117 [Value.ref 7, Value.int a0, Value.int a1] w (.inr w2.length) (w2 ++ [.inr (14, [])])) : xRun (d + 1) 116 [Value.ref 7, Value.int a0, Value.int a1, Value.ref 194] w (.inl (some (.int 1))) (w2 ++ [.inr (14, [])]) := by
  refine xRun.of ?_
  refine i_116_0 rfl ?_
  refine i_116_1 ?_
  refine i_116_2 rfl ?_
  refine i_116_3 rfl ?_
  refine i_116_4 rfl ?_
  refine j_116_5 h7 (Nat.le_of_ble_eq_true rfl) hrun (xDone.c (ci := 14) (hp := 13) xgl rfl rfl ?_)
  refine i_116_13 rfl ?_
  refine i_116_15 ?_
  exact i_116_16 ⟨rfl, rfl⟩
theorem l_121 {a0 : Int32} {a1 : Int32} {v : Int32} (h7 : w[7]? = some (.inr (0, fs))) (hrun : xRun d 122 [Value.ref 7, Value.int a0, Value.int a1] w (.inl (some (.int v))) w2) (h194 : w2[194]? = some (.inl (3, 1, g))) : xRun (d + 1) 121 [Value.ref 7, Value.int a0, Value.int a1, Value.ref 194] w (.inl (some (.int 0))) (w2.set 194 (.inl (3, 1, xup g 0 (.long v.toInt64)))) := by
  refine xRun.of ?_
  refine i_121_0 rfl ?_
  refine i_121_1 ?_
  refine i_121_2 rfl ?_
  refine i_121_3 rfl ?_
  refine i_121_4 rfl ?_
  refine i_121_5 h7 (Nat.le_of_ble_eq_true rfl) hrun ?_
  refine i_121_8 rfl ?_
  refine i_121_9 h194 (by decide) (by decide) (by decide) rfl ?_
  refine i_121_10 ?_
  refine i_121_21 ?_
  exact i_121_22 ⟨rfl, rfl⟩
theorem c_121_1 {a0 : Int32} {a1 : Int32} (h7 : w[7]? = some (.inr (0, fs))) (hrun : xRun d 122 [Value.ref 7, Value.int a0, Value.int a1] w (.inr w2.length) (w2 ++ [.inr (14, [])])) : xRun (d + 1) 121 [Value.ref 7, Value.int a0, Value.int a1, Value.ref 194] w (.inl (some (.int 1))) (w2 ++ [.inr (14, [])]) := by
  refine xRun.of ?_
  refine i_121_0 rfl ?_
  refine i_121_1 ?_
  refine i_121_2 rfl ?_
  refine i_121_3 rfl ?_
  refine i_121_4 rfl ?_
  refine j_121_5 h7 (Nat.le_of_ble_eq_true rfl) hrun (xDone.c (ci := 14) (hp := 13) xgl rfl rfl ?_)
  refine i_121_13 rfl ?_
  refine i_121_15 ?_
  exact i_121_16 ⟨rfl, rfl⟩
theorem c_121_2 {a0 : Int32} {a1 : Int32} (h7 : w[7]? = some (.inr (0, fs))) (hrun : xRun d 122 [Value.ref 7, Value.int a0, Value.int a1] w (.inr w2.length) (w2 ++ [.inr (15, [])])) : xRun (d + 1) 121 [Value.ref 7, Value.int a0, Value.int a1, Value.ref 194] w (.inl (some (.int 2))) (w2 ++ [.inr (15, [])]) := by
  refine xRun.of ?_
  refine i_121_0 rfl ?_
  refine i_121_1 ?_
  refine i_121_2 rfl ?_
  refine i_121_3 rfl ?_
  refine i_121_4 rfl ?_
  refine j_121_5 h7 (Nat.le_of_ble_eq_true rfl) hrun (xDone.c (ci := 15) (hp := 17) xgl rfl rfl ?_)
  refine i_121_17 rfl ?_
  refine i_121_19 ?_
  exact i_121_20 ⟨rfl, rfl⟩
theorem l_123 {a0 : Int32} {a1 : Int32} {v : Int32} (h7 : w[7]? = some (.inr (0, fs))) (hrun : xRun d 124 [Value.ref 7, Value.int a0, Value.int a1] w (.inl (some (.int v))) w2) (h194 : w2[194]? = some (.inl (3, 1, g))) : xRun (d + 1) 123 [Value.ref 7, Value.int a0, Value.int a1, Value.ref 194] w (.inl (some (.int 0))) (w2.set 194 (.inl (3, 1, xup g 0 (.long v.toInt64)))) := by
  refine xRun.of ?_
  refine i_123_0 rfl ?_
  refine i_123_1 ?_
  refine i_123_2 rfl ?_
  refine i_123_3 rfl ?_
  refine i_123_4 rfl ?_
  refine i_123_5 h7 (Nat.le_of_ble_eq_true rfl) hrun ?_
  refine i_123_8 rfl ?_
  refine i_123_9 h194 (by decide) (by decide) (by decide) rfl ?_
  refine i_123_10 ?_
  refine i_123_21 ?_
  exact i_123_22 ⟨rfl, rfl⟩
theorem c_123_1 {a0 : Int32} {a1 : Int32} (h7 : w[7]? = some (.inr (0, fs))) (hrun : xRun d 124 [Value.ref 7, Value.int a0, Value.int a1] w (.inr w2.length) (w2 ++ [.inr (14, [])])) : xRun (d + 1) 123 [Value.ref 7, Value.int a0, Value.int a1, Value.ref 194] w (.inl (some (.int 1))) (w2 ++ [.inr (14, [])]) := by
  refine xRun.of ?_
  refine i_123_0 rfl ?_
  refine i_123_1 ?_
  refine i_123_2 rfl ?_
  refine i_123_3 rfl ?_
  refine i_123_4 rfl ?_
  refine j_123_5 h7 (Nat.le_of_ble_eq_true rfl) hrun (xDone.c (ci := 14) (hp := 13) xgl rfl rfl ?_)
  refine i_123_13 rfl ?_
  refine i_123_15 ?_
  exact i_123_16 ⟨rfl, rfl⟩
theorem c_123_2 {a0 : Int32} {a1 : Int32} (h7 : w[7]? = some (.inr (0, fs))) (hrun : xRun d 124 [Value.ref 7, Value.int a0, Value.int a1] w (.inr w2.length) (w2 ++ [.inr (16, [])])) : xRun (d + 1) 123 [Value.ref 7, Value.int a0, Value.int a1, Value.ref 194] w (.inl (some (.int 2))) (w2 ++ [.inr (16, [])]) := by
  refine xRun.of ?_
  refine i_123_0 rfl ?_
  refine i_123_1 ?_
  refine i_123_2 rfl ?_
  refine i_123_3 rfl ?_
  refine i_123_4 rfl ?_
  refine j_123_5 h7 (Nat.le_of_ble_eq_true rfl) hrun (xDone.c (ci := 16) (hp := 17) xgl rfl rfl ?_)
  refine i_123_17 rfl ?_
  refine i_123_19 ?_
  exact i_123_20 ⟨rfl, rfl⟩
theorem l_125 {a0 : Int32} {a1 : Int32} {v : Int64} (h7 : w[7]? = some (.inr (0, fs))) (hrun : xRun d 126 [Value.ref 7, Value.int a0, Value.int a1] w (.inl (some (.long v))) w2) (h194 : w2[194]? = some (.inl (3, 1, g))) : xRun (d + 1) 125 [Value.ref 7, Value.int a0, Value.int a1, Value.ref 194] w (.inl (some (.int 0))) (w2.set 194 (.inl (3, 1, xup g 0 (.long v)))) := by
  refine xRun.of ?_
  refine i_125_0 rfl ?_
  refine i_125_1 ?_
  refine i_125_2 rfl ?_
  refine i_125_3 rfl ?_
  refine i_125_4 rfl ?_
  refine i_125_5 h7 (Nat.le_of_ble_eq_true rfl) hrun ?_
  refine i_125_8 h194 (by decide) (by decide) (by decide) rfl ?_
  refine i_125_9 ?_
  refine i_125_20 ?_
  exact i_125_21 ⟨rfl, rfl⟩
theorem c_125_1 {a0 : Int32} {a1 : Int32} (h7 : w[7]? = some (.inr (0, fs))) (hrun : xRun d 126 [Value.ref 7, Value.int a0, Value.int a1] w (.inr w2.length) (w2 ++ [.inr (14, [])])) : xRun (d + 1) 125 [Value.ref 7, Value.int a0, Value.int a1, Value.ref 194] w (.inl (some (.int 1))) (w2 ++ [.inr (14, [])]) := by
  refine xRun.of ?_
  refine i_125_0 rfl ?_
  refine i_125_1 ?_
  refine i_125_2 rfl ?_
  refine i_125_3 rfl ?_
  refine i_125_4 rfl ?_
  refine j_125_5 h7 (Nat.le_of_ble_eq_true rfl) hrun (xDone.c (ci := 14) (hp := 12) xgl rfl rfl ?_)
  refine i_125_12 rfl ?_
  refine i_125_14 ?_
  exact i_125_15 ⟨rfl, rfl⟩
theorem c_125_2 {a0 : Int32} {a1 : Int32} (h7 : w[7]? = some (.inr (0, fs))) (hrun : xRun d 126 [Value.ref 7, Value.int a0, Value.int a1] w (.inr w2.length) (w2 ++ [.inr (16, [])])) : xRun (d + 1) 125 [Value.ref 7, Value.int a0, Value.int a1, Value.ref 194] w (.inl (some (.int 2))) (w2 ++ [.inr (16, [])]) := by
  refine xRun.of ?_
  refine i_125_0 rfl ?_
  refine i_125_1 ?_
  refine i_125_2 rfl ?_
  refine i_125_3 rfl ?_
  refine i_125_4 rfl ?_
  refine j_125_5 h7 (Nat.le_of_ble_eq_true rfl) hrun (xDone.c (ci := 16) (hp := 16) xgl rfl rfl ?_)
  refine i_125_16 rfl ?_
  refine i_125_18 ?_
  exact i_125_19 ⟨rfl, rfl⟩
theorem l_127 {a0 : Int32} {a1 : Int64} {a2 : Int32} {v : Int32} (h7 : w[7]? = some (.inr (0, fs))) (hrun : xRun d 128 [Value.ref 7, Value.int a0, Value.long a1, Value.int a2] w (.inl (some (.int v))) w2) (h194 : w2[194]? = some (.inl (3, 1, g))) : xRun (d + 1) 127 [Value.ref 7, Value.int a0, Value.long a1, Value.int a2, Value.ref 194] w (.inl (some (.int 0))) (w2.set 194 (.inl (3, 1, xup g 0 (.long v.toInt64)))) := by
  refine xRun.of ?_
  refine i_127_0 rfl ?_
  refine i_127_2 ?_
  refine i_127_3 rfl ?_
  refine i_127_4 rfl ?_
  refine i_127_5 rfl ?_
  refine i_127_6 rfl ?_
  refine i_127_8 h7 (Nat.le_of_ble_eq_true rfl) hrun ?_
  refine i_127_11 rfl ?_
  refine i_127_12 h194 (by decide) (by decide) (by decide) rfl ?_
  refine i_127_13 ?_
  refine i_127_20 ?_
  exact i_127_21 ⟨rfl, rfl⟩
theorem c_127_1 {a0 : Int32} {a1 : Int64} {a2 : Int32} (h7 : w[7]? = some (.inr (0, fs))) (hrun : xRun d 128 [Value.ref 7, Value.int a0, Value.long a1, Value.int a2] w (.inr w2.length) (w2 ++ [.inr (14, [])])) : xRun (d + 1) 127 [Value.ref 7, Value.int a0, Value.long a1, Value.int a2, Value.ref 194] w (.inl (some (.int 1))) (w2 ++ [.inr (14, [])]) := by
  refine xRun.of ?_
  refine i_127_0 rfl ?_
  refine i_127_2 ?_
  refine i_127_3 rfl ?_
  refine i_127_4 rfl ?_
  refine i_127_5 rfl ?_
  refine i_127_6 rfl ?_
  refine j_127_8 h7 (Nat.le_of_ble_eq_true rfl) hrun (xDone.c (ci := 14) (hp := 16) xgl rfl rfl ?_)
  refine i_127_16 rfl ?_
  refine i_127_18 ?_
  exact i_127_19 ⟨rfl, rfl⟩
theorem l_129 {a0 : Int32} {a1 : Int32} {v : Int64} (h7 : w[7]? = some (.inr (0, fs))) (hrun : xRun d 130 [Value.ref 7, Value.int a0, Value.int a1] w (.inl (some (.long v))) w2) (h194 : w2[194]? = some (.inl (3, 1, g))) : xRun (d + 1) 129 [Value.ref 7, Value.int a0, Value.int a1, Value.ref 194] w (.inl (some (.int 0))) (w2.set 194 (.inl (3, 1, xup g 0 (.long v)))) := by
  refine xRun.of ?_
  refine i_129_0 rfl ?_
  refine i_129_1 ?_
  refine i_129_2 rfl ?_
  refine i_129_3 rfl ?_
  refine i_129_4 rfl ?_
  refine i_129_5 h7 (Nat.le_of_ble_eq_true rfl) hrun ?_
  refine i_129_8 h194 (by decide) (by decide) (by decide) rfl ?_
  refine i_129_9 ?_
  refine i_129_16 ?_
  exact i_129_17 ⟨rfl, rfl⟩
theorem c_129_1 {a0 : Int32} {a1 : Int32} (h7 : w[7]? = some (.inr (0, fs))) (hrun : xRun d 130 [Value.ref 7, Value.int a0, Value.int a1] w (.inr w2.length) (w2 ++ [.inr (14, [])])) : xRun (d + 1) 129 [Value.ref 7, Value.int a0, Value.int a1, Value.ref 194] w (.inl (some (.int 1))) (w2 ++ [.inr (14, [])]) := by
  refine xRun.of ?_
  refine i_129_0 rfl ?_
  refine i_129_1 ?_
  refine i_129_2 rfl ?_
  refine i_129_3 rfl ?_
  refine i_129_4 rfl ?_
  refine j_129_5 h7 (Nat.le_of_ble_eq_true rfl) hrun (xDone.c (ci := 14) (hp := 12) xgl rfl rfl ?_)
  refine i_129_12 rfl ?_
  refine i_129_14 ?_
  exact i_129_15 ⟨rfl, rfl⟩
theorem l_132 {a0 : Int32} {a1 : Int32} {v : Int64} (h7 : w[7]? = some (.inr (0, fs))) (hrun : xRun d 133 [Value.ref 7, Value.int a0, Value.int a1] w (.inl (some (.long v))) w2) (h194 : w2[194]? = some (.inl (3, 1, g))) : xRun (d + 1) 132 [Value.ref 7, Value.int a0, Value.int a1, Value.ref 194] w (.inl (some (.int 0))) (w2.set 194 (.inl (3, 1, xup g 0 (.long v)))) := by
  refine xRun.of ?_
  refine i_132_0 rfl ?_
  refine i_132_1 ?_
  refine i_132_2 rfl ?_
  refine i_132_3 rfl ?_
  refine i_132_4 rfl ?_
  refine i_132_5 h7 (Nat.le_of_ble_eq_true rfl) hrun ?_
  refine i_132_8 h194 (by decide) (by decide) (by decide) rfl ?_
  refine i_132_9 ?_
  refine i_132_20 ?_
  exact i_132_21 ⟨rfl, rfl⟩
theorem c_132_1 {a0 : Int32} {a1 : Int32} (h7 : w[7]? = some (.inr (0, fs))) (hrun : xRun d 133 [Value.ref 7, Value.int a0, Value.int a1] w (.inr w2.length) (w2 ++ [.inr (14, [])])) : xRun (d + 1) 132 [Value.ref 7, Value.int a0, Value.int a1, Value.ref 194] w (.inl (some (.int 1))) (w2 ++ [.inr (14, [])]) := by
  refine xRun.of ?_
  refine i_132_0 rfl ?_
  refine i_132_1 ?_
  refine i_132_2 rfl ?_
  refine i_132_3 rfl ?_
  refine i_132_4 rfl ?_
  refine j_132_5 h7 (Nat.le_of_ble_eq_true rfl) hrun (xDone.c (ci := 14) (hp := 12) xgl rfl rfl ?_)
  refine i_132_12 rfl ?_
  refine i_132_14 ?_
  exact i_132_15 ⟨rfl, rfl⟩
theorem c_132_2 {a0 : Int32} {a1 : Int32} (h7 : w[7]? = some (.inr (0, fs))) (hrun : xRun d 133 [Value.ref 7, Value.int a0, Value.int a1] w (.inr w2.length) (w2 ++ [.inr (15, [])])) : xRun (d + 1) 132 [Value.ref 7, Value.int a0, Value.int a1, Value.ref 194] w (.inl (some (.int 2))) (w2 ++ [.inr (15, [])]) := by
  refine xRun.of ?_
  refine i_132_0 rfl ?_
  refine i_132_1 ?_
  refine i_132_2 rfl ?_
  refine i_132_3 rfl ?_
  refine i_132_4 rfl ?_
  refine j_132_5 h7 (Nat.le_of_ble_eq_true rfl) hrun (xDone.c (ci := 15) (hp := 16) xgl rfl rfl ?_)
  refine i_132_16 rfl ?_
  refine i_132_18 ?_
  exact i_132_19 ⟨rfl, rfl⟩
theorem l_136 {a0 : Int32} {a1 : Int32} {a2 : Int32} {a3 : Int32} {a4 : Int32} (h7 : w[7]? = some (.inr (0, fs))) (hrun : xRun d 137 [Value.ref 7, Value.int a0, Value.int a1, Value.int a2, Value.int a3, Value.int a4] w (.inl none) w2) : xRun (d + 1) 136 [Value.ref 7, Value.int a0, Value.int a1, Value.int a2, Value.int a3, Value.int a4] w (.inl (some (.int 0))) w2 := by
  refine xRun.of ?_
  refine i_136_0 rfl ?_
  refine i_136_1 rfl ?_
  refine i_136_2 rfl ?_
  refine i_136_3 rfl ?_
  refine i_136_4 rfl ?_
  refine i_136_6 rfl ?_
  refine i_136_8 h7 (Nat.le_of_ble_eq_true rfl) hrun ?_
  refine i_136_11 ?_
  refine i_136_18 ?_
  exact i_136_19 ⟨rfl, rfl⟩
theorem c_136_1 {a0 : Int32} {a1 : Int32} {a2 : Int32} {a3 : Int32} {a4 : Int32} (h7 : w[7]? = some (.inr (0, fs))) (hrun : xRun d 137 [Value.ref 7, Value.int a0, Value.int a1, Value.int a2, Value.int a3, Value.int a4] w (.inr w2.length) (w2 ++ [.inr (17, [])])) : xRun (d + 1) 136 [Value.ref 7, Value.int a0, Value.int a1, Value.int a2, Value.int a3, Value.int a4] w (.inl (some (.int 1))) (w2 ++ [.inr (17, [])]) := by
  refine xRun.of ?_
  refine i_136_0 rfl ?_
  refine i_136_1 rfl ?_
  refine i_136_2 rfl ?_
  refine i_136_3 rfl ?_
  refine i_136_4 rfl ?_
  refine i_136_6 rfl ?_
  refine j_136_8 h7 (Nat.le_of_ble_eq_true rfl) hrun (xDone.c (ci := 17) (hp := 14) xgl rfl rfl ?_)
  refine i_136_14 rfl ?_
  refine i_136_16 ?_
  exact i_136_17 ⟨rfl, rfl⟩
theorem l_139 {a0 : Int32} {v : Int32} (h7 : w[7]? = some (.inr (0, fs))) (hrun : xRun d 140 [Value.ref 7, Value.int a0] w (.inl (some (.int v))) w2) (h194 : w2[194]? = some (.inl (3, 1, g))) : xRun (d + 1) 139 [Value.ref 7, Value.int a0, Value.ref 194] w (.inl (some (.int 0))) (w2.set 194 (.inl (3, 1, xup g 0 (.long v.toInt64)))) := by
  refine xRun.of ?_
  refine i_139_0 rfl ?_
  refine i_139_1 ?_
  refine i_139_2 rfl ?_
  refine i_139_3 rfl ?_
  refine i_139_4 h7 (Nat.le_of_ble_eq_true rfl) hrun ?_
  refine i_139_7 rfl ?_
  refine i_139_8 h194 (by decide) (by decide) (by decide) rfl ?_
  refine i_139_9 ?_
  refine i_139_15 ?_
  exact i_139_16 ⟨rfl, rfl⟩
theorem c_139_1 {a0 : Int32} (h7 : w[7]? = some (.inr (0, fs))) (hrun : xRun d 140 [Value.ref 7, Value.int a0] w (.inr w2.length) (w2 ++ [.inr (14, [])])) : xRun (d + 1) 139 [Value.ref 7, Value.int a0, Value.ref 194] w (.inl (some (.int 1))) (w2 ++ [.inr (14, [])]) := by
  refine xRun.of ?_
  refine i_139_0 rfl ?_
  refine i_139_1 ?_
  refine i_139_2 rfl ?_
  refine i_139_3 rfl ?_
  refine j_139_4 h7 (Nat.le_of_ble_eq_true rfl) hrun (xDone.c (ci := 14) (hp := 12) xgl rfl rfl ?_)
  refine i_139_12 rfl ?_
  refine i_139_13 ?_
  exact i_139_14 ⟨rfl, rfl⟩
theorem l_141 {a0 : Int32} {a1 : Int32} {a2 : Int32} {v : Int32} (h7 : w[7]? = some (.inr (0, fs))) (hrun : xRun d 142 [Value.ref 7, Value.int a0, Value.int a1, Value.int a2] w (.inl (some (.int v))) w2) (h194 : w2[194]? = some (.inl (3, 1, g))) : xRun (d + 1) 141 [Value.ref 7, Value.int a0, Value.int a1, Value.int a2, Value.ref 194] w (.inl (some (.int 0))) (w2.set 194 (.inl (3, 1, xup g 0 (.long v.toInt64)))) := by
  refine xRun.of ?_
  refine i_141_0 rfl ?_
  refine i_141_2 ?_
  refine i_141_3 rfl ?_
  refine i_141_4 rfl ?_
  refine i_141_5 rfl ?_
  refine i_141_6 rfl ?_
  refine i_141_7 h7 (Nat.le_of_ble_eq_true rfl) hrun ?_
  refine i_141_10 rfl ?_
  refine i_141_11 h194 (by decide) (by decide) (by decide) rfl ?_
  refine i_141_12 ?_
  refine i_141_23 ?_
  exact i_141_24 ⟨rfl, rfl⟩
theorem c_141_1 {a0 : Int32} {a1 : Int32} {a2 : Int32} (h7 : w[7]? = some (.inr (0, fs))) (hrun : xRun d 142 [Value.ref 7, Value.int a0, Value.int a1, Value.int a2] w (.inr w2.length) (w2 ++ [.inr (14, [])])) : xRun (d + 1) 141 [Value.ref 7, Value.int a0, Value.int a1, Value.int a2, Value.ref 194] w (.inl (some (.int 1))) (w2 ++ [.inr (14, [])]) := by
  refine xRun.of ?_
  refine i_141_0 rfl ?_
  refine i_141_2 ?_
  refine i_141_3 rfl ?_
  refine i_141_4 rfl ?_
  refine i_141_5 rfl ?_
  refine i_141_6 rfl ?_
  refine j_141_7 h7 (Nat.le_of_ble_eq_true rfl) hrun (xDone.c (ci := 14) (hp := 15) xgl rfl rfl ?_)
  refine i_141_15 rfl ?_
  refine i_141_17 ?_
  exact i_141_18 ⟨rfl, rfl⟩
theorem c_141_2 {a0 : Int32} {a1 : Int32} {a2 : Int32} (h7 : w[7]? = some (.inr (0, fs))) (hrun : xRun d 142 [Value.ref 7, Value.int a0, Value.int a1, Value.int a2] w (.inr w2.length) (w2 ++ [.inr (15, [])])) : xRun (d + 1) 141 [Value.ref 7, Value.int a0, Value.int a1, Value.int a2, Value.ref 194] w (.inl (some (.int 2))) (w2 ++ [.inr (15, [])]) := by
  refine xRun.of ?_
  refine i_141_0 rfl ?_
  refine i_141_2 ?_
  refine i_141_3 rfl ?_
  refine i_141_4 rfl ?_
  refine i_141_5 rfl ?_
  refine i_141_6 rfl ?_
  refine j_141_7 h7 (Nat.le_of_ble_eq_true rfl) hrun (xDone.c (ci := 15) (hp := 19) xgl rfl rfl ?_)
  refine i_141_19 rfl ?_
  refine i_141_21 ?_
  exact i_141_22 ⟨rfl, rfl⟩
theorem l_150 {a0 : Int32} {a1 : Int32} {a2 : Int32} {a3 : Int32} {v : Int32} (h7 : w[7]? = some (.inr (0, fs))) (hrun : xRun d 151 [Value.ref 7, Value.int a0, Value.int a1, Value.int a2, Value.int a3] w (.inl (some (.int v))) w2) (h194 : w2[194]? = some (.inl (3, 1, g))) : xRun (d + 1) 150 [Value.ref 7, Value.int a0, Value.int a1, Value.int a2, Value.int a3, Value.ref 194] w (.inl (some (.int 0))) (w2.set 194 (.inl (3, 1, xup g 0 (.long v.toInt64)))) := by
  refine xRun.of ?_
  refine i_150_0 rfl ?_
  refine i_150_2 ?_
  refine i_150_3 rfl ?_
  refine i_150_4 rfl ?_
  refine i_150_5 rfl ?_
  refine i_150_6 rfl ?_
  refine i_150_7 rfl ?_
  refine i_150_9 h7 (Nat.le_of_ble_eq_true rfl) hrun ?_
  refine i_150_12 rfl ?_
  refine i_150_13 h194 (by decide) (by decide) (by decide) rfl ?_
  refine i_150_14 ?_
  refine i_150_25 ?_
  exact i_150_26 ⟨rfl, rfl⟩
theorem c_150_1 {a0 : Int32} {a1 : Int32} {a2 : Int32} {a3 : Int32} (h7 : w[7]? = some (.inr (0, fs))) (hrun : xRun d 151 [Value.ref 7, Value.int a0, Value.int a1, Value.int a2, Value.int a3] w (.inr w2.length) (w2 ++ [.inr (14, [])])) : xRun (d + 1) 150 [Value.ref 7, Value.int a0, Value.int a1, Value.int a2, Value.int a3, Value.ref 194] w (.inl (some (.int 1))) (w2 ++ [.inr (14, [])]) := by
  refine xRun.of ?_
  refine i_150_0 rfl ?_
  refine i_150_2 ?_
  refine i_150_3 rfl ?_
  refine i_150_4 rfl ?_
  refine i_150_5 rfl ?_
  refine i_150_6 rfl ?_
  refine i_150_7 rfl ?_
  refine j_150_9 h7 (Nat.le_of_ble_eq_true rfl) hrun (xDone.c (ci := 14) (hp := 17) xgl rfl rfl ?_)
  refine i_150_17 rfl ?_
  refine i_150_19 ?_
  exact i_150_20 ⟨rfl, rfl⟩
theorem c_150_2 {a0 : Int32} {a1 : Int32} {a2 : Int32} {a3 : Int32} (h7 : w[7]? = some (.inr (0, fs))) (hrun : xRun d 151 [Value.ref 7, Value.int a0, Value.int a1, Value.int a2, Value.int a3] w (.inr w2.length) (w2 ++ [.inr (16, [])])) : xRun (d + 1) 150 [Value.ref 7, Value.int a0, Value.int a1, Value.int a2, Value.int a3, Value.ref 194] w (.inl (some (.int 2))) (w2 ++ [.inr (16, [])]) := by
  refine xRun.of ?_
  refine i_150_0 rfl ?_
  refine i_150_2 ?_
  refine i_150_3 rfl ?_
  refine i_150_4 rfl ?_
  refine i_150_5 rfl ?_
  refine i_150_6 rfl ?_
  refine i_150_7 rfl ?_
  refine j_150_9 h7 (Nat.le_of_ble_eq_true rfl) hrun (xDone.c (ci := 16) (hp := 21) xgl rfl rfl ?_)
  refine i_150_21 rfl ?_
  refine i_150_23 ?_
  exact i_150_24 ⟨rfl, rfl⟩
theorem l_161 {a0 : Int32} {v : Int32} (h7 : w[7]? = some (.inr (0, fs))) (hrun : xRun d 162 [Value.ref 7, Value.int a0] w (.inl (some (.int v))) w2) (h194 : w2[194]? = some (.inl (3, 1, g))) : xRun (d + 1) 161 [Value.ref 7, Value.int a0, Value.ref 194] w (.inl (some (.int 0))) (w2.set 194 (.inl (3, 1, xup g 0 (.long v.toInt64)))) := by
  refine xRun.of ?_
  refine i_161_0 rfl ?_
  refine i_161_1 ?_
  refine i_161_2 rfl ?_
  refine i_161_3 rfl ?_
  refine i_161_4 h7 (Nat.le_of_ble_eq_true rfl) hrun ?_
  refine i_161_7 rfl ?_
  refine i_161_8 h194 (by decide) (by decide) (by decide) rfl ?_
  refine i_161_9 ?_
  refine i_161_15 ?_
  exact i_161_16 ⟨rfl, rfl⟩
theorem c_161_1 {a0 : Int32} (h7 : w[7]? = some (.inr (0, fs))) (hrun : xRun d 162 [Value.ref 7, Value.int a0] w (.inr w2.length) (w2 ++ [.inr (16, [])])) : xRun (d + 1) 161 [Value.ref 7, Value.int a0, Value.ref 194] w (.inl (some (.int 1))) (w2 ++ [.inr (16, [])]) := by
  refine xRun.of ?_
  refine i_161_0 rfl ?_
  refine i_161_1 ?_
  refine i_161_2 rfl ?_
  refine i_161_3 rfl ?_
  refine j_161_4 h7 (Nat.le_of_ble_eq_true rfl) hrun (xDone.c (ci := 16) (hp := 12) xgl rfl rfl ?_)
  refine i_161_12 rfl ?_
  refine i_161_13 ?_
  exact i_161_14 ⟨rfl, rfl⟩
end
