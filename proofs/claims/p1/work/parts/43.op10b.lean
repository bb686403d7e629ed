theorem o_10_8 {d : Nat} {xs : Nat → Int32} {N6 N10 N12 N14 N16 N18 N20 N22 N24 N26 N28 N30 N32 N34 N36 N38 : Int32} (h0 : ((xs 0) &&& (31 : Int32)).toInt = 10) (c0 : 0 ≤ (xs 1).toInt) (c1 : (xs 1).toInt < 16) (c2 : 0 ≤ (xs 2).toInt) (c3 : (xs 2).toInt < 16) (c4 : 1 ≤ (xs 3).toInt) (c5 : (xs 3).toInt ≤ 16) (eN6 : ((xs 2) + (xs 3)) = N6) (nN6 : N6.toInt = (xs 2).toInt + (xs 3).toInt) (c7 : N6.toInt ≤ 16) (c8 : 0 ≤ (xs 4).toInt) (c9 : (xs 4).toInt ≤ 4) (eN10 : ((xs 2) + (1 : Int32)) = N10) (nN10 : N10.toInt = (xs 2).toInt + 1) (c11 : N10.toInt < N6.toInt) (eN12 : (N10 + (1 : Int32)) = N12) (nN12 : N12.toInt = N10.toInt + 1) (c13 : N12.toInt < N6.toInt) (eN14 : (N12 + (1 : Int32)) = N14) (nN14 : N14.toInt = N12.toInt + 1) (c15 : N14.toInt < N6.toInt) (eN16 : (N14 + (1 : Int32)) = N16) (nN16 : N16.toInt = N14.toInt + 1) (c17 : N16.toInt < N6.toInt) (eN18 : (N16 + (1 : Int32)) = N18) (nN18 : N18.toInt = N16.toInt + 1) (c19 : N18.toInt < N6.toInt) (eN20 : (N18 + (1 : Int32)) = N20) (nN20 : N20.toInt = N18.toInt + 1) (c21 : N20.toInt < N6.toInt) (eN22 : (N20 + (1 : Int32)) = N22) (nN22 : N22.toInt = N20.toInt + 1) (c23 : N22.toInt < N6.toInt) (eN24 : (N22 + (1 : Int32)) = N24) (nN24 : N24.toInt = N22.toInt + 1) (c25 : N24.toInt < N6.toInt) (eN26 : (N24 + (1 : Int32)) = N26) (nN26 : N26.toInt = N24.toInt + 1) (c27 : N26.toInt < N6.toInt) (eN28 : (N26 + (1 : Int32)) = N28) (nN28 : N28.toInt = N26.toInt + 1) (c29 : N28.toInt < N6.toInt) (eN30 : (N28 + (1 : Int32)) = N30) (nN30 : N30.toInt = N28.toInt + 1) (c31 : N30.toInt < N6.toInt) (eN32 : (N30 + (1 : Int32)) = N32) (nN32 : N32.toInt = N30.toInt + 1) (c33 : N32.toInt < N6.toInt) (eN34 : (N32 + (1 : Int32)) = N34) (nN34 : N34.toInt = N32.toInt + 1) (c35 : N34.toInt < N6.toInt) (eN36 : (N34 + (1 : Int32)) = N36) (nN36 : N36.toInt = N34.toInt + 1) (c37 : N36.toInt < N6.toInt) (eN38 : (N36 + (1 : Int32)) = N38) (nN38 : N38.toInt = N36.toInt + 1) (c39 : N6.toInt ≤ N38.toInt) : ∃ w1, xEv (d + 20) 287 23 [(4, Value.int 0), (3, Value.ref 194), (2, Value.ref 128), (1, Value.ref 7), (0, Value.ref 0)] [] (W0 6 xs) (fun o' w' => o' = .inl (some (Value.int 1)) ∧ w' = w1) ∧ w1.length ≤ 220 ∧ xsz w1 ≤ 200000 := by
  have G : id ((((((((0 ≤ (xs 1).toInt) ∧ ((xs 1).toInt < 16)) ∧ ((0 ≤ (xs 2).toInt) ∧ ((xs 2).toInt < 16))) ∧ (((1 ≤ (xs 3).toInt) ∧ ((xs 3).toInt ≤ 16)) ∧ ((N6.toInt ≤ 16) ∧ (0 ≤ (xs 4).toInt)))) ∧ (((((xs 4).toInt ≤ 4) ∧ ((xs 2).toInt < N6.toInt)) ∧ (((xs 2).toInt.toNat < 16) ∧ (19 ≠ (30 + 3 * (xs 2).toInt.toNat)))) ∧ (((22 ≠ (30 + 3 * (xs 2).toInt.toNat)) ∧ (20 ≠ (30 + 3 * (xs 2).toInt.toNat))) ∧ ((N10.toInt < N6.toInt) ∧ ((0 ≤ N10.toInt) ∧ (N10.toInt < 16)))))) ∧ (((((N10.toInt.toNat < 16) ∧ (19 ≠ (30 + 3 * N10.toInt.toNat))) ∧ ((22 ≠ (30 + 3 * N10.toInt.toNat)) ∧ (20 ≠ (30 + 3 * N10.toInt.toNat)))) ∧ (((N12.toInt < N6.toInt) ∧ (0 ≤ N12.toInt)) ∧ ((N12.toInt < 16) ∧ ((N12.toInt.toNat < 16) ∧ (19 ≠ (30 + 3 * N12.toInt.toNat)))))) ∧ ((((22 ≠ (30 + 3 * N12.toInt.toNat)) ∧ (20 ≠ (30 + 3 * N12.toInt.toNat))) ∧ ((N14.toInt < N6.toInt) ∧ (0 ≤ N14.toInt))) ∧ (((N14.toInt < 16) ∧ (N14.toInt.toNat < 16)) ∧ ((19 ≠ (30 + 3 * N14.toInt.toNat)) ∧ ((22 ≠ (30 + 3 * N14.toInt.toNat)) ∧ (20 ≠ (30 + 3 * N14.toInt.toNat)))))))) ∧ ((((((N16.toInt < N6.toInt) ∧ (0 ≤ N16.toInt)) ∧ ((N16.toInt < 16) ∧ (N16.toInt.toNat < 16))) ∧ (((19 ≠ (30 + 3 * N16.toInt.toNat)) ∧ (22 ≠ (30 + 3 * N16.toInt.toNat))) ∧ ((20 ≠ (30 + 3 * N16.toInt.toNat)) ∧ (N18.toInt < N6.toInt)))) ∧ ((((0 ≤ N18.toInt) ∧ (N18.toInt < 16)) ∧ ((N18.toInt.toNat < 16) ∧ (19 ≠ (30 + 3 * N18.toInt.toNat)))) ∧ (((22 ≠ (30 + 3 * N18.toInt.toNat)) ∧ (20 ≠ (30 + 3 * N18.toInt.toNat))) ∧ ((N20.toInt < N6.toInt) ∧ ((0 ≤ N20.toInt) ∧ (N20.toInt < 16)))))) ∧ (((((N20.toInt.toNat < 16) ∧ (19 ≠ (30 + 3 * N20.toInt.toNat))) ∧ ((22 ≠ (30 + 3 * N20.toInt.toNat)) ∧ (20 ≠ (30 + 3 * N20.toInt.toNat)))) ∧ (((N22.toInt < N6.toInt) ∧ (0 ≤ N22.toInt)) ∧ ((N22.toInt < 16) ∧ ((N22.toInt.toNat < 16) ∧ (19 ≠ (30 + 3 * N22.toInt.toNat)))))) ∧ ((((22 ≠ (30 + 3 * N22.toInt.toNat)) ∧ (20 ≠ (30 + 3 * N22.toInt.toNat))) ∧ ((N24.toInt < N6.toInt) ∧ (0 ≤ N24.toInt))) ∧ (((N24.toInt < 16) ∧ (N24.toInt.toNat < 16)) ∧ ((19 ≠ (30 + 3 * N24.toInt.toNat)) ∧ ((22 ≠ (30 + 3 * N24.toInt.toNat)) ∧ (20 ≠ (30 + 3 * N24.toInt.toNat))))))))) ∧ (((((((N26.toInt < N6.toInt) ∧ (0 ≤ N26.toInt)) ∧ ((N26.toInt < 16) ∧ (N26.toInt.toNat < 16))) ∧ (((19 ≠ (30 + 3 * N26.toInt.toNat)) ∧ (22 ≠ (30 + 3 * N26.toInt.toNat))) ∧ ((20 ≠ (30 + 3 * N26.toInt.toNat)) ∧ (N28.toInt < N6.toInt)))) ∧ ((((0 ≤ N28.toInt) ∧ (N28.toInt < 16)) ∧ ((N28.toInt.toNat < 16) ∧ (19 ≠ (30 + 3 * N28.toInt.toNat)))) ∧ (((22 ≠ (30 + 3 * N28.toInt.toNat)) ∧ (20 ≠ (30 + 3 * N28.toInt.toNat))) ∧ ((N30.toInt < N6.toInt) ∧ ((0 ≤ N30.toInt) ∧ (N30.toInt < 16)))))) ∧ (((((N30.toInt.toNat < 16) ∧ (19 ≠ (30 + 3 * N30.toInt.toNat))) ∧ ((22 ≠ (30 + 3 * N30.toInt.toNat)) ∧ (20 ≠ (30 + 3 * N30.toInt.toNat)))) ∧ (((N32.toInt < N6.toInt) ∧ (0 ≤ N32.toInt)) ∧ ((N32.toInt < 16) ∧ ((N32.toInt.toNat < 16) ∧ (19 ≠ (30 + 3 * N32.toInt.toNat)))))) ∧ ((((22 ≠ (30 + 3 * N32.toInt.toNat)) ∧ (20 ≠ (30 + 3 * N32.toInt.toNat))) ∧ ((N34.toInt < N6.toInt) ∧ (0 ≤ N34.toInt))) ∧ (((N34.toInt < 16) ∧ (N34.toInt.toNat < 16)) ∧ ((19 ≠ (30 + 3 * N34.toInt.toNat)) ∧ ((22 ≠ (30 + 3 * N34.toInt.toNat)) ∧ (20 ≠ (30 + 3 * N34.toInt.toNat)))))))) ∧ ((((((N36.toInt < N6.toInt) ∧ (0 ≤ N36.toInt)) ∧ ((N36.toInt < 16) ∧ (N36.toInt.toNat < 16))) ∧ (((19 ≠ (30 + 3 * N36.toInt.toNat)) ∧ (22 ≠ (30 + 3 * N36.toInt.toNat))) ∧ ((20 ≠ (30 + 3 * N36.toInt.toNat)) ∧ ((N6.toInt ≤ N38.toInt) ∧ ((xs 1).toInt.toNat < 16))))) ∧ ((((19 ≠ (30 + 3 * (xs 1).toInt.toNat)) ∧ (22 ≠ (30 + 3 * (xs 1).toInt.toNat))) ∧ ((20 ≠ (30 + 3 * (xs 1).toInt.toNat)) ∧ (7 ≤ (30 + 3 * (xs 1).toInt.toNat)))) ∧ ((((30 + 3 * (xs 1).toInt.toNat) ≠ 194) ∧ ((30 + 3 * (xs 1).toInt.toNat) ≠ 0)) ∧ (((30 + 3 * (xs 1).toInt.toNat) ≠ 128) ∧ (((xs 1).toInt ≤ 15) ∧ ((xs 2).toInt ≤ 15)))))) ∧ ((((((30 + 3 * (xs 1).toInt.toNat) ≠ 154) ∧ ((xs 2).toInt < 17)) ∧ ((N10.toInt < 17) ∧ (N12.toInt < 17))) ∧ (((N14.toInt < 17) ∧ (N16.toInt < 17)) ∧ ((N18.toInt < 17) ∧ ((N20.toInt < 17) ∧ (N22.toInt < 17))))) ∧ ((((N24.toInt < 17) ∧ (N26.toInt < 17)) ∧ ((N28.toInt < 17) ∧ (N30.toInt < 17))) ∧ (((N32.toInt < 17) ∧ (N34.toInt < 17)) ∧ ((N36.toInt < 17) ∧ (((xs 1).toInt < 17) ∧ ((30 + 3 * (xs 1).toInt.toNat) ≠ 156))))))))) := g_10_8 h0 c0 c1 c2 c3 c4 c5 nN6 c7 c8 c9 nN10 c11 nN12 c13 nN14 c15 nN16 c17 nN18 c19 nN20 c21 nN22 c23 nN24 c25 nN26 c27 nN28 c29 nN30 c31 nN32 c33 nN34 c35 nN36 c37 nN38 c39
  refine ⟨((((((((((((((((((((((((W0 6 xs).set 20 (Sum.inr (3, [Value.ref 21, Value.int 0]))).set 22 (Sum.inr (3, [Value.ref 23, Value.int 0]))).set 19 (Sum.inr (5, [Value.ref 20, Value.ref 22, Value.ref 24, Value.ref 26, Value.int 0, Value.int 0, Value.int 0, Value.int 0, Value.int 0, Value.int 0, Value.int 0, Value.int 0]))).set 19 (Sum.inr (5, [Value.ref 20, Value.ref 22, Value.ref 24, Value.ref 26, Value.int 0, Value.int 1, Value.int 0, Value.int 0, Value.int 0, Value.int 0, Value.int 0, Value.int 0]))).set 19 (Sum.inr (5, [Value.ref 20, Value.ref 22, Value.ref 24, Value.ref 26, Value.int 0, Value.int 1, Value.int 0, Value.int 0, Value.int 0, Value.int 0, Value.int 0, Value.int 0]))).set 19 (Sum.inr (5, [Value.ref 20, Value.ref 22, Value.ref 24, Value.ref 26, Value.int 0, Value.int 1, Value.int 0, Value.int 0, Value.int 0, Value.int 0, Value.int 0, Value.int 0]))).set 19 (Sum.inr (5, [Value.ref 20, Value.ref 22, Value.ref 24, Value.ref 26, Value.int 0, Value.int 1, Value.int 0, Value.int 0, Value.int 0, Value.int 0, Value.int 0, Value.int 0]))).set 19 (Sum.inr (5, [Value.ref 20, Value.ref 22, Value.ref 24, Value.ref 26, Value.int 0, Value.int 1, Value.int 0, Value.int 0, Value.int 0, Value.int 0, Value.int 0, Value.int 0]))).set 19 (Sum.inr (5, [Value.ref 20, Value.ref 22, Value.ref 24, Value.ref 26, Value.int 0, Value.int 1, Value.int 0, Value.int 0, Value.int 0, Value.int 0, Value.int 0, Value.int 0]))).set 19 (Sum.inr (5, [Value.ref 20, Value.ref 22, Value.ref 24, Value.ref 26, Value.int 0, Value.int 1, Value.int 0, Value.int 0, Value.int 0, Value.int 0, Value.int 0, Value.int 0]))).set 19 (Sum.inr (5, [Value.ref 20, Value.ref 22, Value.ref 24, Value.ref 26, Value.int 0, Value.int 1, Value.int 0, Value.int 0, Value.int 0, Value.int 0, Value.int 0, Value.int 0]))).set 19 (Sum.inr (5, [Value.ref 20, Value.ref 22, Value.ref 24, Value.ref 26, Value.int 0, Value.int 1, Value.int 0, Value.int 0, Value.int 0, Value.int 0, Value.int 0, Value.int 0]))).set 19 (Sum.inr (5, [Value.ref 20, Value.ref 22, Value.ref 24, Value.ref 26, Value.int 0, Value.int 1, Value.int 0, Value.int 0, Value.int 0, Value.int 0, Value.int 0, Value.int 0]))).set 19 (Sum.inr (5, [Value.ref 20, Value.ref 22, Value.ref 24, Value.ref 26, Value.int 0, Value.int 1, Value.int 0, Value.int 0, Value.int 0, Value.int 0, Value.int 0, Value.int 0]))).set 19 (Sum.inr (5, [Value.ref 20, Value.ref 22, Value.ref 24, Value.ref 26, Value.int 0, Value.int 1, Value.int 0, Value.int 0, Value.int 0, Value.int 0, Value.int 0, Value.int 0]))).set 19 (Sum.inr (5, [Value.ref 20, Value.ref 22, Value.ref 24, Value.ref 26, Value.int 0, Value.int 1, Value.int 0, Value.int 0, Value.int 0, Value.int 0, Value.int 0, Value.int 0]))).set 19 (Sum.inr (5, [Value.ref 20, Value.ref 22, Value.ref 24, Value.ref 26, Value.int 0, Value.int 1, Value.int 0, Value.int 0, Value.int 0, Value.int 0, Value.int 0, Value.int 0]))).set 19 (Sum.inr (5, [Value.ref 20, Value.ref 22, Value.ref 24, Value.ref 26, Value.int 0, Value.int 1, Value.int 0, Value.int 0, Value.int 0, Value.int 0, Value.int 0, Value.int 0]))).set (30 + 3 * (xs 1).toInt.toNat) (Sum.inr (2, [Value.int 64, Value.int 0, Value.int 0, Value.int 0, Value.ref (31 + 3 * (xs 1).toInt.toNat)]))).set 194 (Sum.inl (3, 1, xup (fun _ => Value.long 0) (0 : Int32).toInt.toNat (Value.long 0)))).set 128 (Sum.inr (12, [Value.ref 129, Value.ref 131, Value.ref 133, Value.ref 135, Value.ref 137, Value.ref 139, Value.ref 141, Value.ref 143, Value.ref 145, Value.ref 147, Value.ref 149, Value.ref 151, Value.ref 153, Value.ref 154, Value.ref 155, Value.ref 156, Value.ref 157, Value.int (-16384), Value.int 16384, Value.int 0, Value.int 0, Value.int 0, Value.ref 158, Value.ref 159, Value.int 0, Value.int 0, Value.int 0, Value.int 0, Value.int 0, Value.int 0, Value.int 0, Value.int 0]))).set 154 (Sum.inl (0, 17, xup (fun _ => Value.int 0) (xs 1).toInt.toNat (Value.int 0)))).set 156 (Sum.inl (2, 17, xup (fun _ => Value.int 0) (xs 1).toInt.toNat (Value.int 0)))), ?_, (show xLs _ 220 200000 from ?_)⟩
  · refine i_287_23 (x := 0) rfl ?_
    refine i_287_25 (x := 0) rfl ?_
    refine i_287_26 (c := 6) W0_0 (by decide) ?_
    refine i_287_27 ?_
    refine i_287_29 (c := 0) (by decide) ?_
    refine i_287_30 (fun h => absurd h (by decide)) (fun _ => ?_)
    refine i_287_33 (x := 0) rfl ?_
    refine i_287_34 (x := 0) rfl ?_
    refine i_287_36 (v := Value.int (xs 0)) W0_0 (by decide) (by decide) rfl ?_
    refine i_287_37 ?_
    refine i_287_39 (c := 10) (show ((xs 0) &&& (31 : Int32)) = 10 from (xge_c (n := 10) h0 rfl)) ?_
    refine i_287_40_10 rfl ?_
    refine i_287_1057 (x := 7) rfl ?_
    refine i_287_1058 (x := 0) rfl ?_
    refine i_287_1059 (x := 0) rfl ?_
    refine i_287_1061 ?_
    refine i_287_1062 (c := 1) (by decide) ?_
    refine i_287_1063 (v := Value.int (xs 1)) W0_0 (by decide) (by decide) rfl ?_
    refine i_287_1064 (x := 0) rfl ?_
    refine i_287_1065 (x := 0) rfl ?_
    refine i_287_1067 ?_
    refine i_287_1068 (c := 2) (by decide) ?_
    refine i_287_1069 (v := Value.int (xs 2)) W0_0 (by decide) (by decide) rfl ?_
    refine i_287_1070 (x := 0) rfl ?_
    refine i_287_1071 (x := 0) rfl ?_
    refine i_287_1073 ?_
    refine i_287_1074 (c := 3) (by decide) ?_
    refine i_287_1075 (v := Value.int (xs 3)) W0_0 (by decide) (by decide) rfl ?_
    refine i_287_1076 (x := 0) rfl ?_
    refine i_287_1077 (x := 0) rfl ?_
    refine i_287_1079 ?_
    refine i_287_1080 (c := 4) (by decide) ?_
    refine i_287_1081 (v := Value.int (xs 4)) W0_0 (by decide) (by decide) rfl ?_
    refine i_287_1082 (x := 194) rfl ?_
    refine i_287_1083 (Nat.le_of_ble_eq_true rfl) (p_111_8 W0_7 (G.1.1.1.1.1.1.1) (G.1.1.1.1.1.1.2) (G.1.1.1.1.1.2.1) (G.1.1.1.1.1.2.2) (G.1.1.1.1.2.1.1) (G.1.1.1.1.2.1.2) (show ((xs 2) + (xs 3)) = N6 from eN6) (G.1.1.1.1.2.2.1) (G.1.1.1.1.2.2.2) (G.1.1.1.2.1.1.1) W0_19 W0_20 W0_22 (G.1.1.1.2.1.1.2) W0_8 (greg_at G.1.1.1.2.1.2.1) (G.1.1.1.2.1.2.2) (G.1.1.1.2.2.1.1) (G.1.1.1.2.2.1.2) (W0_reg G.1.1.1.2.1.2.1) (show ((xs 2) + (1 : Int32)) = N10 from eN10) (G.1.1.1.2.2.2.1) (G.1.1.1.2.2.2.2.1) (G.1.1.1.2.2.2.2.2) (greg_at G.1.1.2.1.1.1.1) (G.1.1.2.1.1.1.2) (G.1.1.2.1.1.2.1) (G.1.1.2.1.1.2.2) (W0_reg G.1.1.2.1.1.1.1) (show (N10 + (1 : Int32)) = N12 from eN12) (G.1.1.2.1.2.1.1) (G.1.1.2.1.2.1.2) (G.1.1.2.1.2.2.1) (greg_at G.1.1.2.1.2.2.2.1) (G.1.1.2.1.2.2.2.2) (G.1.1.2.2.1.1.1) (G.1.1.2.2.1.1.2) (W0_reg G.1.1.2.1.2.2.2.1) (show (N12 + (1 : Int32)) = N14 from eN14) (G.1.1.2.2.1.2.1) (G.1.1.2.2.1.2.2) (G.1.1.2.2.2.1.1) (greg_at G.1.1.2.2.2.1.2) (G.1.1.2.2.2.2.1) (G.1.1.2.2.2.2.2.1) (G.1.1.2.2.2.2.2.2) (W0_reg G.1.1.2.2.2.1.2) (show (N14 + (1 : Int32)) = N16 from eN16) (G.1.2.1.1.1.1.1) (G.1.2.1.1.1.1.2) (G.1.2.1.1.1.2.1) (greg_at G.1.2.1.1.1.2.2) (G.1.2.1.1.2.1.1) (G.1.2.1.1.2.1.2) (G.1.2.1.1.2.2.1) (W0_reg G.1.2.1.1.1.2.2) (show (N16 + (1 : Int32)) = N18 from eN18) (G.1.2.1.1.2.2.2) (G.1.2.1.2.1.1.1) (G.1.2.1.2.1.1.2) (greg_at G.1.2.1.2.1.2.1) (G.1.2.1.2.1.2.2) (G.1.2.1.2.2.1.1) (G.1.2.1.2.2.1.2) (W0_reg G.1.2.1.2.1.2.1) (show (N18 + (1 : Int32)) = N20 from eN20) (G.1.2.1.2.2.2.1) (G.1.2.1.2.2.2.2.1) (G.1.2.1.2.2.2.2.2) (greg_at G.1.2.2.1.1.1.1) (G.1.2.2.1.1.1.2) (G.1.2.2.1.1.2.1) (G.1.2.2.1.1.2.2) (W0_reg G.1.2.2.1.1.1.1) (show (N20 + (1 : Int32)) = N22 from eN22) (G.1.2.2.1.2.1.1) (G.1.2.2.1.2.1.2) (G.1.2.2.1.2.2.1) (greg_at G.1.2.2.1.2.2.2.1) (G.1.2.2.1.2.2.2.2) (G.1.2.2.2.1.1.1) (G.1.2.2.2.1.1.2) (W0_reg G.1.2.2.1.2.2.2.1) (show (N22 + (1 : Int32)) = N24 from eN24) (G.1.2.2.2.1.2.1) (G.1.2.2.2.1.2.2) (G.1.2.2.2.2.1.1) (greg_at G.1.2.2.2.2.1.2) (G.1.2.2.2.2.2.1) (G.1.2.2.2.2.2.2.1) (G.1.2.2.2.2.2.2.2) (W0_reg G.1.2.2.2.2.1.2) (show (N24 + (1 : Int32)) = N26 from eN26) (G.2.1.1.1.1.1.1) (G.2.1.1.1.1.1.2) (G.2.1.1.1.1.2.1) (greg_at G.2.1.1.1.1.2.2) (G.2.1.1.1.2.1.1) (G.2.1.1.1.2.1.2) (G.2.1.1.1.2.2.1) (W0_reg G.2.1.1.1.1.2.2) (show (N26 + (1 : Int32)) = N28 from eN28) (G.2.1.1.1.2.2.2) (G.2.1.1.2.1.1.1) (G.2.1.1.2.1.1.2) (greg_at G.2.1.1.2.1.2.1) (G.2.1.1.2.1.2.2) (G.2.1.1.2.2.1.1) (G.2.1.1.2.2.1.2) (W0_reg G.2.1.1.2.1.2.1) (show (N28 + (1 : Int32)) = N30 from eN30) (G.2.1.1.2.2.2.1) (G.2.1.1.2.2.2.2.1) (G.2.1.1.2.2.2.2.2) (greg_at G.2.1.2.1.1.1.1) (G.2.1.2.1.1.1.2) (G.2.1.2.1.1.2.1) (G.2.1.2.1.1.2.2) (W0_reg G.2.1.2.1.1.1.1) (show (N30 + (1 : Int32)) = N32 from eN32) (G.2.1.2.1.2.1.1) (G.2.1.2.1.2.1.2) (G.2.1.2.1.2.2.1) (greg_at G.2.1.2.1.2.2.2.1) (G.2.1.2.1.2.2.2.2) (G.2.1.2.2.1.1.1) (G.2.1.2.2.1.1.2) (W0_reg G.2.1.2.1.2.2.2.1) (show (N32 + (1 : Int32)) = N34 from eN34) (G.2.1.2.2.1.2.1) (G.2.1.2.2.1.2.2) (G.2.1.2.2.2.1.1) (greg_at G.2.1.2.2.2.1.2) (G.2.1.2.2.2.2.1) (G.2.1.2.2.2.2.2.1) (G.2.1.2.2.2.2.2.2) (W0_reg G.2.1.2.2.2.1.2) (show (N34 + (1 : Int32)) = N36 from eN36) (G.2.2.1.1.1.1.1) (G.2.2.1.1.1.1.2) (G.2.2.1.1.1.2.1) (greg_at G.2.2.1.1.1.2.2) (G.2.2.1.1.2.1.1) (G.2.2.1.1.2.1.2) (G.2.2.1.1.2.2.1) (W0_reg G.2.2.1.1.1.2.2) (show (N36 + (1 : Int32)) = N38 from eN38) (G.2.2.1.1.2.2.2.1) (greg_at G.2.2.1.1.2.2.2.2) (G.2.2.1.2.1.1.1) (G.2.2.1.2.1.1.2) (G.2.2.1.2.1.2.1) (W0_reg G.2.2.1.1.2.2.2.2) (G.2.2.1.2.1.2.2) (G.2.2.1.2.2.1.1) W0_194) ?_
    refine i_287_1086 (lv2 := [(5, Value.int 0), (4, Value.int 0), (3, Value.ref 194), (2, Value.ref 128), (1, Value.ref 7), (0, Value.ref 0)]) rfl ?_
    refine i_287_1088 (x := 128) rfl ?_
    refine i_287_1089 (x := 0) rfl ?_
    refine i_287_1090 (x := 0) rfl ?_
    refine i_287_1092 ?_
    refine i_287_1093 (c := 1) (by decide) ?_
    refine i_287_1094 (v := Value.int (xs 1)) (xgn (by decide) (xgn (G.2.2.1.2.2.1.2) (xgn (by decide) (xgn (by decide) (xgn (by decide) (xgn (by decide) (xgn (by decide) (xgn (by decide) (xgn (by decide) (xgn (by decide) (xgn (by decide) (xgn (by decide) (xgn (by decide) (xgn (by decide) (xgn (by decide) (xgn (by decide) (xgn (by decide) (xgn (by decide) (xgn (by decide) (xgn (by decide) W0_0)))))))))))))))))))) (by decide) (by decide) rfl ?_
    refine i_287_1095 (x := 0) rfl ?_
    refine i_287_1096 (x := 0) rfl ?_
    refine i_287_1098 ?_
    refine i_287_1099 (c := 2) (by decide) ?_
    refine i_287_1100 (v := Value.int (xs 2)) (xgn (by decide) (xgn (G.2.2.1.2.2.1.2) (xgn (by decide) (xgn (by decide) (xgn (by decide) (xgn (by decide) (xgn (by decide) (xgn (by decide) (xgn (by decide) (xgn (by decide) (xgn (by decide) (xgn (by decide) (xgn (by decide) (xgn (by decide) (xgn (by decide) (xgn (by decide) (xgn (by decide) (xgn (by decide) (xgn (by decide) (xgn (by decide) W0_0)))))))))))))))))))) (by decide) (by decide) rfl ?_
    refine i_287_1101 (x := 0) rfl ?_
    refine i_287_1102 (x := 0) rfl ?_
    refine i_287_1104 ?_
    refine i_287_1105 (c := 3) (by decide) ?_
    refine i_287_1106 (v := Value.int (xs 3)) (xgn (by decide) (xgn (G.2.2.1.2.2.1.2) (xgn (by decide) (xgn (by decide) (xgn (by decide) (xgn (by decide) (xgn (by decide) (xgn (by decide) (xgn (by decide) (xgn (by decide) (xgn (by decide) (xgn (by decide) (xgn (by decide) (xgn (by decide) (xgn (by decide) (xgn (by decide) (xgn (by decide) (xgn (by decide) (xgn (by decide) (xgn (by decide) W0_0)))))))))))))))))))) (by decide) (by decide) rfl ?_
    refine i_287_1107 (x := 0) rfl ?_
    refine i_287_1108 (x := 0) rfl ?_
    refine i_287_1110 ?_
    refine i_287_1111 (c := 4) (by decide) ?_
    refine i_287_1112 (v := Value.int (xs 4)) (xgn (by decide) (xgn (G.2.2.1.2.2.1.2) (xgn (by decide) (xgn (by decide) (xgn (by decide) (xgn (by decide) (xgn (by decide) (xgn (by decide) (xgn (by decide) (xgn (by decide) (xgn (by decide) (xgn (by decide) (xgn (by decide) (xgn (by decide) (xgn (by decide) (xgn (by decide) (xgn (by decide) (xgn (by decide) (xgn (by decide) (xgn (by decide) W0_0)))))))))))))))))))) (by decide) (by decide) rfl ?_
    refine i_287_1113 (xgn (by decide) (xgn (G.2.2.1.2.2.2.1) (xgn (by decide) (xgn (by decide) (xgn (by decide) (xgn (by decide) (xgn (by decide) (xgn (by decide) (xgn (by decide) (xgn (by decide) (xgn (by decide) (xgn (by decide) (xgn (by decide) (xgn (by decide) (xgn (by decide) (xgn (by decide) (xgn (by decide) (xgn (by decide) (xgn (by decide) (xgn (by decide) W0_128)))))))))))))))))))) (Nat.le_of_ble_eq_true rfl) (p_228_8 (xgn (by decide) (xgn (G.2.2.1.2.2.2.1) (xgn (by decide) (xgn (by decide) (xgn (by decide) (xgn (by decide) (xgn (by decide) (xgn (by decide) (xgn (by decide) (xgn (by decide) (xgn (by decide) (xgn (by decide) (xgn (by decide) (xgn (by decide) (xgn (by decide) (xgn (by decide) (xgn (by decide) (xgn (by decide) (xgn (by decide) (xgn (by decide) W0_128)))))))))))))))))))) (G.1.1.1.1.1.1.1) (G.2.2.1.2.2.2.2.1) (G.1.1.1.1.1.2.1) (G.2.2.1.2.2.2.2.2) (G.1.1.1.1.2.1.1) (G.1.1.1.1.2.1.2) (show ((xs 2) + (xs 3)) = N6 from eN6) (G.1.1.1.1.2.2.1) (G.1.1.1.1.2.2.2) (G.1.1.1.2.1.1.1) (G.1.1.1.2.1.1.2) (xgn (by decide) (xgn (G.2.2.2.1.1.1.1) (xgn (by decide) (xgn (by decide) (xgn (by decide) (xgn (by decide) (xgn (by decide) (xgn (by decide) (xgn (by decide) (xgn (by decide) (xgn (by decide) (xgn (by decide) (xgn (by decide) (xgn (by decide) (xgn (by decide) (xgn (by decide) (xgn (by decide) (xgn (by decide) (xgn (by decide) (xgn (by decide) W0_154)))))))))))))))))))) (G.2.2.2.1.1.1.2) (show ((xs 2) + (1 : Int32)) = N10 from eN10) (G.1.1.1.2.2.2.1) (G.1.1.1.2.2.2.2.1) (G.2.2.2.1.1.2.1) (show (N10 + (1 : Int32)) = N12 from eN12) (G.1.1.2.1.2.1.1) (G.1.1.2.1.2.1.2) (G.2.2.2.1.1.2.2) (show (N12 + (1 : Int32)) = N14 from eN14) (G.1.1.2.2.1.2.1) (G.1.1.2.2.1.2.2) (G.2.2.2.1.2.1.1) (show (N14 + (1 : Int32)) = N16 from eN16) (G.1.2.1.1.1.1.1) (G.1.2.1.1.1.1.2) (G.2.2.2.1.2.1.2) (show (N16 + (1 : Int32)) = N18 from eN18) (G.1.2.1.1.2.2.2) (G.1.2.1.2.1.1.1) (G.2.2.2.1.2.2.1) (show (N18 + (1 : Int32)) = N20 from eN20) (G.1.2.1.2.2.2.1) (G.1.2.1.2.2.2.2.1) (G.2.2.2.1.2.2.2.1) (show (N20 + (1 : Int32)) = N22 from eN22) (G.1.2.2.1.2.1.1) (G.1.2.2.1.2.1.2) (G.2.2.2.1.2.2.2.2) (show (N22 + (1 : Int32)) = N24 from eN24) (G.1.2.2.2.1.2.1) (G.1.2.2.2.1.2.2) (G.2.2.2.2.1.1.1) (show (N24 + (1 : Int32)) = N26 from eN26) (G.2.1.1.1.1.1.1) (G.2.1.1.1.1.1.2) (G.2.2.2.2.1.1.2) (show (N26 + (1 : Int32)) = N28 from eN28) (G.2.1.1.1.2.2.2) (G.2.1.1.2.1.1.1) (G.2.2.2.2.1.2.1) (show (N28 + (1 : Int32)) = N30 from eN30) (G.2.1.1.2.2.2.1) (G.2.1.1.2.2.2.2.1) (G.2.2.2.2.1.2.2) (show (N30 + (1 : Int32)) = N32 from eN32) (G.2.1.2.1.2.1.1) (G.2.1.2.1.2.1.2) (G.2.2.2.2.2.1.1) (show (N32 + (1 : Int32)) = N34 from eN34) (G.2.1.2.2.1.2.1) (G.2.1.2.2.1.2.2) (G.2.2.2.2.2.1.2) (show (N34 + (1 : Int32)) = N36 from eN36) (G.2.2.1.1.1.1.1) (G.2.2.1.1.1.1.2) (G.2.2.2.2.2.2.1) (show (N36 + (1 : Int32)) = N38 from eN38) (G.2.2.1.1.2.2.2.1) (G.2.2.2.2.2.2.2.1) (xgn (by decide) (xgn (G.2.2.2.2.2.2.2.2) (xgn (by decide) (xgn (by decide) (xgn (by decide) (xgn (by decide) (xgn (by decide) (xgn (by decide) (xgn (by decide) (xgn (by decide) (xgn (by decide) (xgn (by decide) (xgn (by decide) (xgn (by decide) (xgn (by decide) (xgn (by decide) (xgn (by decide) (xgn (by decide) (xgn (by decide) (xgn (by decide) W0_156))))))))))))))))))))) ?_
    refine i_287_1116 (lv2 := [(6, Value.int 0), (5, Value.int 0), (4, Value.int 0), (3, Value.ref 194), (2, Value.ref 128), (1, Value.ref 7), (0, Value.ref 0)]) rfl ?_
    refine i_287_1118 (x := 128) rfl ?_
    refine i_287_1119 (xgn (by decide) (xgn (by decide) (xgs (xgn (by decide) (xgn (G.2.2.1.2.2.2.1) (xgn (by decide) (xgn (by decide) (xgn (by decide) (xgn (by decide) (xgn (by decide) (xgn (by decide) (xgn (by decide) (xgn (by decide) (xgn (by decide) (xgn (by decide) (xgn (by decide) (xgn (by decide) (xgn (by decide) (xgn (by decide) (xgn (by decide) (xgn (by decide) (xgn (by decide) (xgn (by decide) W0_128))))))))))))))))))))))) (Nat.le_of_ble_eq_true rfl) (p_165_1 (xgn (by decide) (xgn (by decide) (xgs (xgn (by decide) (xgn (G.2.2.1.2.2.2.1) (xgn (by decide) (xgn (by decide) (xgn (by decide) (xgn (by decide) (xgn (by decide) (xgn (by decide) (xgn (by decide) (xgn (by decide) (xgn (by decide) (xgn (by decide) (xgn (by decide) (xgn (by decide) (xgn (by decide) (xgn (by decide) (xgn (by decide) (xgn (by decide) (xgn (by decide) (xgn (by decide) W0_128)))))))))))))))))))))))) ?_
    refine i_287_1122 (x := 0) rfl ?_
    refine i_287_1124 (fun _ => ?_) (fun h => absurd h (by decide))
    refine i_287_1129 (x := 0) rfl ?_
    refine i_287_1131 (fun h => absurd h (by decide)) (fun _ => ?_)
    refine i_287_1134 (x := 194) rfl ?_
    refine i_287_1135 ?_
    refine i_287_1136 (v := Value.long 0) (xgn (by decide) (xgn (by decide) (xgn (by decide) (xgs (xgn (G.2.2.1.2.2.1.1) (xgn (by decide) (xgn (by decide) (xgn (by decide) (xgn (by decide) (xgn (by decide) (xgn (by decide) (xgn (by decide) (xgn (by decide) (xgn (by decide) (xgn (by decide) (xgn (by decide) (xgn (by decide) (xgn (by decide) (xgn (by decide) (xgn (by decide) (xgn (by decide) (xgn (by decide) (xgn (by decide) W0_194))))))))))))))))))))))) (by decide) (by decide) xup_s ?_
    refine i_287_1137 (x := 0) rfl ?_
    refine i_287_1139 (c := 0) (by decide) ?_
    refine i_287_1140 (c := 0) (by decide) ?_
    refine i_287_1141 (fun _ => ?_) (fun h => absurd h (by decide))
    refine i_287_1146 ?_
    refine i_287_2154 (x := 0) (c := 6) (lv2 := [(4, Value.int 6), (6, Value.int 0), (5, Value.int 0), (3, Value.ref 194), (2, Value.ref 128), (1, Value.ref 7), (0, Value.ref 0)]) rfl (by decide) rfl ?_
    refine i_287_2157 ?_
    refine i_287_23 (x := 6) rfl ?_
    refine i_287_25 (x := 0) rfl ?_
    refine i_287_26 (c := 6) (xgn (by decide) (xgn (by decide) (xgn (by decide) (xgn (by decide) (xgn (G.2.2.1.2.2.1.2) (xgn (by decide) (xgn (by decide) (xgn (by decide) (xgn (by decide) (xgn (by decide) (xgn (by decide) (xgn (by decide) (xgn (by decide) (xgn (by decide) (xgn (by decide) (xgn (by decide) (xgn (by decide) (xgn (by decide) (xgn (by decide) (xgn (by decide) (xgn (by decide) (xgn (by decide) (xgn (by decide) W0_0))))))))))))))))))))))) (by decide) ?_
    refine i_287_27 ?_
    refine i_287_29 (c := 0) (by decide) ?_
    refine i_287_30 (fun _ => ?_) (fun h => absurd h (by decide))
    refine i_287_2160 ?_
    exact i_287_2161 rfl ⟨rfl, rfl⟩
  · refine xLs.set ?_ (xgn (by decide) (xgn (by decide) (xgn (by decide) (xgn (G.2.2.2.2.2.2.2.2) (xgn (by decide) (xgn (by decide) (xgn (by decide) (xgn (by decide) (xgn (by decide) (xgn (by decide) (xgn (by decide) (xgn (by decide) (xgn (by decide) (xgn (by decide) (xgn (by decide) (xgn (by decide) (xgn (by decide) (xgn (by decide) (xgn (by decide) (xgn (by decide) (xgn (by decide) (xgn (by decide) W0_156)))))))))))))))))))))) xcs_a
    refine xLs.set ?_ (xgn (by decide) (xgn (by decide) (xgn (G.2.2.2.1.1.1.1) (xgn (by decide) (xgn (by decide) (xgn (by decide) (xgn (by decide) (xgn (by decide) (xgn (by decide) (xgn (by decide) (xgn (by decide) (xgn (by decide) (xgn (by decide) (xgn (by decide) (xgn (by decide) (xgn (by decide) (xgn (by decide) (xgn (by decide) (xgn (by decide) (xgn (by decide) (xgn (by decide) W0_154))))))))))))))))))))) xcs_a
    refine xLs.set ?_ (xgn (by decide) (xgn (G.2.2.1.2.2.2.1) (xgn (by decide) (xgn (by decide) (xgn (by decide) (xgn (by decide) (xgn (by decide) (xgn (by decide) (xgn (by decide) (xgn (by decide) (xgn (by decide) (xgn (by decide) (xgn (by decide) (xgn (by decide) (xgn (by decide) (xgn (by decide) (xgn (by decide) (xgn (by decide) (xgn (by decide) (xgn (by decide) W0_128)))))))))))))))))))) xcs_o
    refine xLs.set ?_ (xgn (G.2.2.1.2.2.1.1) (xgn (by decide) (xgn (by decide) (xgn (by decide) (xgn (by decide) (xgn (by decide) (xgn (by decide) (xgn (by decide) (xgn (by decide) (xgn (by decide) (xgn (by decide) (xgn (by decide) (xgn (by decide) (xgn (by decide) (xgn (by decide) (xgn (by decide) (xgn (by decide) (xgn (by decide) (xgn (by decide) W0_194))))))))))))))))))) xcs_a
    refine xLs.set ?_ (xgn (G.2.2.1.2.1.1.1) (xgn (G.2.2.1.2.1.1.1) (xgn (G.2.2.1.2.1.1.1) (xgn (G.2.2.1.2.1.1.1) (xgn (G.2.2.1.2.1.1.1) (xgn (G.2.2.1.2.1.1.1) (xgn (G.2.2.1.2.1.1.1) (xgn (G.2.2.1.2.1.1.1) (xgn (G.2.2.1.2.1.1.1) (xgn (G.2.2.1.2.1.1.1) (xgn (G.2.2.1.2.1.1.1) (xgn (G.2.2.1.2.1.1.1) (xgn (G.2.2.1.2.1.1.1) (xgn (G.2.2.1.2.1.1.1) (xgn (G.2.2.1.2.1.1.1) (xgn (G.2.2.1.2.1.1.1) (xgn (G.2.2.1.2.1.1.2) (xgn (G.2.2.1.2.1.2.1) (W0_reg G.2.2.1.1.2.2.2.2))))))))))))))))))) xcs_o
    refine xLs.set ?_ (xgs (xgs (xgs (xgs (xgs (xgs (xgs (xgs (xgs (xgs (xgs (xgs (xgs (xgs (xgs (xgn (by decide) (xgn (by decide) W0_19))))))))))))))))) xcs_o
    refine xLs.set ?_ (xgs (xgs (xgs (xgs (xgs (xgs (xgs (xgs (xgs (xgs (xgs (xgs (xgs (xgs (xgn (by decide) (xgn (by decide) W0_19)))))))))))))))) xcs_o
    refine xLs.set ?_ (xgs (xgs (xgs (xgs (xgs (xgs (xgs (xgs (xgs (xgs (xgs (xgs (xgs (xgn (by decide) (xgn (by decide) W0_19))))))))))))))) xcs_o
    refine xLs.set ?_ (xgs (xgs (xgs (xgs (xgs (xgs (xgs (xgs (xgs (xgs (xgs (xgs (xgn (by decide) (xgn (by decide) W0_19)))))))))))))) xcs_o
    refine xLs.set ?_ (xgs (xgs (xgs (xgs (xgs (xgs (xgs (xgs (xgs (xgs (xgs (xgn (by decide) (xgn (by decide) W0_19))))))))))))) xcs_o
    refine xLs.set ?_ (xgs (xgs (xgs (xgs (xgs (xgs (xgs (xgs (xgs (xgs (xgn (by decide) (xgn (by decide) W0_19)))))))))))) xcs_o
    refine xLs.set ?_ (xgs (xgs (xgs (xgs (xgs (xgs (xgs (xgs (xgs (xgn (by decide) (xgn (by decide) W0_19))))))))))) xcs_o
    refine xLs.set ?_ (xgs (xgs (xgs (xgs (xgs (xgs (xgs (xgs (xgn (by decide) (xgn (by decide) W0_19)))))))))) xcs_o
    refine xLs.set ?_ (xgs (xgs (xgs (xgs (xgs (xgs (xgs (xgn (by decide) (xgn (by decide) W0_19))))))))) xcs_o
    refine xLs.set ?_ (xgs (xgs (xgs (xgs (xgs (xgs (xgn (by decide) (xgn (by decide) W0_19)))))))) xcs_o
    refine xLs.set ?_ (xgs (xgs (xgs (xgs (xgs (xgn (by decide) (xgn (by decide) W0_19))))))) xcs_o
    refine xLs.set ?_ (xgs (xgs (xgs (xgs (xgn (by decide) (xgn (by decide) W0_19)))))) xcs_o
    refine xLs.set ?_ (xgs (xgs (xgs (xgn (by decide) (xgn (by decide) W0_19))))) xcs_o
    refine xLs.set ?_ (xgs (xgs (xgn (by decide) (xgn (by decide) W0_19)))) xcs_o
    refine xLs.set ?_ (xgs (xgn (by decide) (xgn (by decide) W0_19))) xcs_o
    refine xLs.set ?_ (xgn (by decide) (xgn (by decide) W0_19)) xcs_o
    refine xLs.set ?_ (xgn (by decide) W0_22) xcs_o
    refine xLs.set ?_ (W0_20) xcs_o
    exact ⟨Nat.le_trans (Nat.le_of_eq W0_len) (by decide), Nat.le_trans (Nat.le_of_eq W0_sz) (by decide)⟩
theorem p_112_9 {d : Nat} {w : xW} {a0 : Int32} {a1 : Int32} {a2 : Int32} {a3 : Int32} {a4 : Int32} {g0 : Nat → Value} {h0 : Nat} {h1 : Nat} {a5 : Int32} {h2 : Nat} {h3 : Nat} {a6 : Int32} {h4 : Nat} {h5 : Nat} {a7 : Int32} {h6 : Nat} {h7 : Nat} {a8 : Int32} {h8 : Nat} {h9 : Nat} {a9 : Int32} {h10 : Nat} {h11 : Nat} {a10 : Int32} {h12 : Nat} {h13 : Nat} {a11 : Int32} {h14 : Nat} {h15 : Nat} {a12 : Int32} {h16 : Nat} {h17 : Nat} {a13 : Int32} {h18 : Nat} {h19 : Nat} {a14 : Int32} {h20 : Nat} {h21 : Nat} {a15 : Int32} {h22 : Nat} {h23 : Nat} {a16 : Int32} {h24 : Nat} {h25 : Nat} {a17 : Int32} {h26 : Nat} {h27 : Nat} {a18 : Int32} {h28 : Nat} {h29 : Nat} (e0 : 0 ≤ a0.toInt) (e1 : a0.toInt < 16) (e2 : 0 ≤ a1.toInt) (e3 : a1.toInt < 16) (e4 : 1 ≤ a2.toInt) (e5 : a2.toInt ≤ 16) (hg6 : (a1 + a2) = a4) (e7 : a4.toInt ≤ 16) (e8 : 0 ≤ a3.toInt) (e9 : a3.toInt ≤ 4) (hw10 : w[7]? = some (Sum.inr (0, [Value.ref 8, Value.ref 78, Value.ref 9, Value.ref 10, Value.ref 13, Value.ref 16, Value.ref 19, Value.ref 93, Value.ref 108, Value.ref 113, Value.ref 29, Value.int 0]))) (hw11 : w[19]? = some (Sum.inr (5, [Value.ref 20, Value.ref 22, Value.ref 24, Value.ref 26, Value.int 0, Value.int 0, Value.int 0, Value.int 0, Value.int 0, Value.int 0, Value.int 0, Value.int 0]))) (hw12 : w[20]? = some (Sum.inr (3, [Value.ref 21, Value.int 0]))) (hw13 : w[22]? = some (Sum.inr (3, [Value.ref 23, Value.int 0]))) (e14 : a1.toInt < a4.toInt) (hw15 : w[8]? = some (Sum.inl (4, 16, g0))) (hg16 : g0 a1.toInt.toNat = Value.ref h0) (e17 : 19 ≠ h0) (e18 : 22 ≠ h0) (e19 : 20 ≠ h0) (hw20 : w[h0]? = some (Sum.inr (2, [Value.int 64, Value.int 0, Value.int 0, Value.int 0, Value.ref h1]))) (hg21 : (a1 + (1 : Int32)) = a5) (e22 : a5.toInt < a4.toInt) (e23 : 0 ≤ a5.toInt) (e24 : a5.toInt < 16) (hg25 : g0 a5.toInt.toNat = Value.ref h2) (e26 : 19 ≠ h2) (e27 : 22 ≠ h2) (e28 : 20 ≠ h2) (hw29 : w[h2]? = some (Sum.inr (2, [Value.int 64, Value.int 0, Value.int 0, Value.int 0, Value.ref h3]))) (hg30 : (a5 + (1 : Int32)) = a6) (e31 : a6.toInt < a4.toInt) (e32 : 0 ≤ a6.toInt) (e33 : a6.toInt < 16) (hg34 : g0 a6.toInt.toNat = Value.ref h4) (e35 : 19 ≠ h4) (e36 : 22 ≠ h4) (e37 : 20 ≠ h4) (hw38 : w[h4]? = some (Sum.inr (2, [Value.int 64, Value.int 0, Value.int 0, Value.int 0, Value.ref h5]))) (hg39 : (a6 + (1 : Int32)) = a7) (e40 : a7.toInt < a4.toInt) (e41 : 0 ≤ a7.toInt) (e42 : a7.toInt < 16) (hg43 : g0 a7.toInt.toNat = Value.ref h6) (e44 : 19 ≠ h6) (e45 : 22 ≠ h6) (e46 : 20 ≠ h6) (hw47 : w[h6]? = some (Sum.inr (2, [Value.int 64, Value.int 0, Value.int 0, Value.int 0, Value.ref h7]))) (hg48 : (a7 + (1 : Int32)) = a8) (e49 : a8.toInt < a4.toInt) (e50 : 0 ≤ a8.toInt) (e51 : a8.toInt < 16) (hg52 : g0 a8.toInt.toNat = Value.ref h8) (e53 : 19 ≠ h8) (e54 : 22 ≠ h8) (e55 : 20 ≠ h8) (hw56 : w[h8]? = some (Sum.inr (2, [Value.int 64, Value.int 0, Value.int 0, Value.int 0, Value.ref h9]))) (hg57 : (a8 + (1 : Int32)) = a9) (e58 : a9.toInt < a4.toInt) (e59 : 0 ≤ a9.toInt) (e60 : a9.toInt < 16) (hg61 : g0 a9.toInt.toNat = Value.ref h10) (e62 : 19 ≠ h10) (e63 : 22 ≠ h10) (e64 : 20 ≠ h10) (hw65 : w[h10]? = some (Sum.inr (2, [Value.int 64, Value.int 0, Value.int 0, Value.int 0, Value.ref h11]))) (hg66 : (a9 + (1 : Int32)) = a10) (e67 : a10.toInt < a4.toInt) (e68 : 0 ≤ a10.toInt) (e69 : a10.toInt < 16) (hg70 : g0 a10.toInt.toNat = Value.ref h12) (e71 : 19 ≠ h12) (e72 : 22 ≠ h12) (e73 : 20 ≠ h12) (hw74 : w[h12]? = some (Sum.inr (2, [Value.int 64, Value.int 0, Value.int 0, Value.int 0, Value.ref h13]))) (hg75 : (a10 + (1 : Int32)) = a11) (e76 : a11.toInt < a4.toInt) (e77 : 0 ≤ a11.toInt) (e78 : a11.toInt < 16) (hg79 : g0 a11.toInt.toNat = Value.ref h14) (e80 : 19 ≠ h14) (e81 : 22 ≠ h14) (e82 : 20 ≠ h14) (hw83 : w[h14]? = some (Sum.inr (2, [Value.int 64, Value.int 0, Value.int 0, Value.int 0, Value.ref h15]))) (hg84 : (a11 + (1 : Int32)) = a12) (e85 : a12.toInt < a4.toInt) (e86 : 0 ≤ a12.toInt) (e87 : a12.toInt < 16) (hg88 : g0 a12.toInt.toNat = Value.ref h16) (e89 : 19 ≠ h16) (e90 : 22 ≠ h16) (e91 : 20 ≠ h16) (hw92 : w[h16]? = some (Sum.inr (2, [Value.int 64, Value.int 0, Value.int 0, Value.int 0, Value.ref h17]))) (hg93 : (a12 + (1 : Int32)) = a13) (e94 : a13.toInt < a4.toInt) (e95 : 0 ≤ a13.toInt) (e96 : a13.toInt < 16) (hg97 : g0 a13.toInt.toNat = Value.ref h18) (e98 : 19 ≠ h18) (e99 : 22 ≠ h18) (e100 : 20 ≠ h18) (hw101 : w[h18]? = some (Sum.inr (2, [Value.int 64, Value.int 0, Value.int 0, Value.int 0, Value.ref h19]))) (hg102 : (a13 + (1 : Int32)) = a14) (e103 : a14.toInt < a4.toInt) (e104 : 0 ≤ a14.toInt) (e105 : a14.toInt < 16) (hg106 : g0 a14.toInt.toNat = Value.ref h20) (e107 : 19 ≠ h20) (e108 : 22 ≠ h20) (e109 : 20 ≠ h20) (hw110 : w[h20]? = some (Sum.inr (2, [Value.int 64, Value.int 0, Value.int 0, Value.int 0, Value.ref h21]))) (hg111 : (a14 + (1 : Int32)) = a15) (e112 : a15.toInt < a4.toInt) (e113 : 0 ≤ a15.toInt) (e114 : a15.toInt < 16) (hg115 : g0 a15.toInt.toNat = Value.ref h22) (e116 : 19 ≠ h22) (e117 : 22 ≠ h22) (e118 : 20 ≠ h22) (hw119 : w[h22]? = some (Sum.inr (2, [Value.int 64, Value.int 0, Value.int 0, Value.int 0, Value.ref h23]))) (hg120 : (a15 + (1 : Int32)) = a16) (e121 : a16.toInt < a4.toInt) (e122 : 0 ≤ a16.toInt) (e123 : a16.toInt < 16) (hg124 : g0 a16.toInt.toNat = Value.ref h24) (e125 : 19 ≠ h24) (e126 : 22 ≠ h24) (e127 : 20 ≠ h24) (hw128 : w[h24]? = some (Sum.inr (2, [Value.int 64, Value.int 0, Value.int 0, Value.int 0, Value.ref h25]))) (hg129 : (a16 + (1 : Int32)) = a17) (e130 : a17.toInt < a4.toInt) (e131 : 0 ≤ a17.toInt) (e132 : a17.toInt < 16) (hg133 : g0 a17.toInt.toNat = Value.ref h26) (e134 : 19 ≠ h26) (e135 : 22 ≠ h26) (e136 : 20 ≠ h26) (hw137 : w[h26]? = some (Sum.inr (2, [Value.int 64, Value.int 0, Value.int 0, Value.int 0, Value.ref h27]))) (hg138 : (a17 + (1 : Int32)) = a18) (e139 : a4.toInt ≤ a18.toInt) (hg140 : g0 a0.toInt.toNat = Value.ref h28) (e141 : 19 ≠ h28) (e142 : 22 ≠ h28) (e143 : 20 ≠ h28) (hw144 : w[h28]? = some (Sum.inr (2, [Value.int 64, Value.int 0, Value.int 0, Value.int 0, Value.ref h29]))) (e145 : 7 ≤ h28) : xRun (d + 3) 112 [Value.ref 7, Value.int a0, Value.int a1, Value.int a2, Value.int a3] w (.inl (some (Value.int 0))) ((((((((((((((((((w.set 20 (Sum.inr (3, [Value.ref 21, Value.int 0]))).set 22 (Sum.inr (3, [Value.ref 23, Value.int 0]))).set 19 (Sum.inr (5, [Value.ref 20, Value.ref 22, Value.ref 24, Value.ref 26, Value.int 0, Value.int 0, Value.int 0, Value.int 0, Value.int 0, Value.int 0, Value.int 0, Value.int 0]))).set 19 (Sum.inr (5, [Value.ref 20, Value.ref 22, Value.ref 24, Value.ref 26, Value.int 0, Value.int 1, Value.int 0, Value.int 0, Value.int 0, Value.int 0, Value.int 0, Value.int 0]))).set 19 (Sum.inr (5, [Value.ref 20, Value.ref 22, Value.ref 24, Value.ref 26, Value.int 0, Value.int 1, Value.int 0, Value.int 0, Value.int 0, Value.int 0, Value.int 0, Value.int 0]))).set 19 (Sum.inr (5, [Value.ref 20, Value.ref 22, Value.ref 24, Value.ref 26, Value.int 0, Value.int 1, Value.int 0, Value.int 0, Value.int 0, Value.int 0, Value.int 0, Value.int 0]))).set 19 (Sum.inr (5, [Value.ref 20, Value.ref 22, Value.ref 24, Value.ref 26, Value.int 0, Value.int 1, Value.int 0, Value.int 0, Value.int 0, Value.int 0, Value.int 0, Value.int 0]))).set 19 (Sum.inr (5, [Value.ref 20, Value.ref 22, Value.ref 24, Value.ref 26, Value.int 0, Value.int 1, Value.int 0, Value.int 0, Value.int 0, Value.int 0, Value.int 0, Value.int 0]))).set 19 (Sum.inr (5, [Value.ref 20, Value.ref 22, Value.ref 24, Value.ref 26, Value.int 0, Value.int 1, Value.int 0, Value.int 0, Value.int 0, Value.int 0, Value.int 0, Value.int 0]))).set 19 (Sum.inr (5, [Value.ref 20, Value.ref 22, Value.ref 24, Value.ref 26, Value.int 0, Value.int 1, Value.int 0, Value.int 0, Value.int 0, Value.int 0, Value.int 0, Value.int 0]))).set 19 (Sum.inr (5, [Value.ref 20, Value.ref 22, Value.ref 24, Value.ref 26, Value.int 0, Value.int 1, Value.int 0, Value.int 0, Value.int 0, Value.int 0, Value.int 0, Value.int 0]))).set 19 (Sum.inr (5, [Value.ref 20, Value.ref 22, Value.ref 24, Value.ref 26, Value.int 0, Value.int 1, Value.int 0, Value.int 0, Value.int 0, Value.int 0, Value.int 0, Value.int 0]))).set 19 (Sum.inr (5, [Value.ref 20, Value.ref 22, Value.ref 24, Value.ref 26, Value.int 0, Value.int 1, Value.int 0, Value.int 0, Value.int 0, Value.int 0, Value.int 0, Value.int 0]))).set 19 (Sum.inr (5, [Value.ref 20, Value.ref 22, Value.ref 24, Value.ref 26, Value.int 0, Value.int 1, Value.int 0, Value.int 0, Value.int 0, Value.int 0, Value.int 0, Value.int 0]))).set 19 (Sum.inr (5, [Value.ref 20, Value.ref 22, Value.ref 24, Value.ref 26, Value.int 0, Value.int 1, Value.int 0, Value.int 0, Value.int 0, Value.int 0, Value.int 0, Value.int 0]))).set 19 (Sum.inr (5, [Value.ref 20, Value.ref 22, Value.ref 24, Value.ref 26, Value.int 0, Value.int 1, Value.int 0, Value.int 0, Value.int 0, Value.int 0, Value.int 0, Value.int 0]))).set 19 (Sum.inr (5, [Value.ref 20, Value.ref 22, Value.ref 24, Value.ref 26, Value.int 0, Value.int 1, Value.int 0, Value.int 0, Value.int 0, Value.int 0, Value.int 0, Value.int 0]))).set h28 (Sum.inr (2, [Value.int 64, Value.int 0, Value.int 0, Value.int 0, Value.ref h29]))) := by
  refine xRun.of ?_
  refine i_112_0 (x := a0) rfl ?_
  refine i_112_1 (Nat.le_of_ble_eq_true rfl) (p_15_1 e0 e1) ?_
  refine i_112_4 (fun h => absurd h (by decide)) (fun _ => ?_)
  refine i_112_7 (x := a1) rfl ?_
  refine i_112_8 (x := a2) rfl ?_
  refine i_112_9 (Nat.le_of_ble_eq_true rfl) (p_113_4 e2 e3 e4 e5 hg6 e7) ?_
  refine i_112_12 (fun h => absurd h (by decide)) (fun _ => ?_)
  refine i_112_15 (x := a3) rfl ?_
  refine i_112_17 (Nat.le_of_ble_eq_true rfl) (p_22_2 e8 e9) ?_
  refine i_112_20 (fun _ => ?_) (fun h => absurd h (by decide))
  refine i_112_31 (x := 7) rfl ?_
  refine i_112_32 (v := Value.ref 19) hw10 rfl ?_
  refine i_112_35 hw11 (Nat.le_of_ble_eq_true rfl) (p_59_0 hw11 hw12 hw13) ?_
  refine i_112_38 (x := a1) rfl ?_
  refine i_112_39 (lv2 := [(5, Value.int a1), (0, Value.ref 7), (1, Value.int a0), (2, Value.int a1), (3, Value.int a2), (4, Value.int a3)]) rfl ?_
  refine i_112_41 (x := a1) rfl ?_
  refine i_112_43 (x := a1) rfl ?_
  refine i_112_44 (x := a2) rfl ?_
  refine i_112_45 (c := a4) hg6 ?_
  refine i_112_46 (fun h => absurd e14 (Int.not_lt.mpr h)) (fun _ => ?_)
  refine i_112_49 (x := 7) rfl ?_
  refine i_112_50 (v := Value.ref 19) (xgn (by decide) (xgn (by decide) (xgn (by decide) hw10))) rfl ?_
  refine i_112_53 (x := 7) rfl ?_
  refine i_112_54 (v := Value.ref 8) (xgn (by decide) (xgn (by decide) (xgn (by decide) hw10))) rfl ?_
  refine i_112_57 (x := a1) rfl ?_
  refine i_112_59 (v := Value.ref h0) (xgn (by decide) (xgn (by decide) (xgn (by decide) hw15))) e2 e3 hg16 ?_
  refine i_112_60 ?_
  refine i_112_61 (xgs (xgn (by decide) (xgn (by decide) hw11))) (Nat.le_of_ble_eq_true rfl) (p_60_0 (xgn e17 (xgn e18 (xgn e19 hw20))) (xgs (xgn (by decide) (xgn (by decide) hw11)))) ?_
  refine i_112_64 (x := a1) (c := a5) (lv2 := [(5, Value.int a5), (0, Value.ref 7), (1, Value.int a0), (2, Value.int a1), (3, Value.int a2), (4, Value.int a3)]) rfl hg21 rfl ?_
  refine i_112_67 ?_
  refine i_112_41 (x := a5) rfl ?_
  refine i_112_43 (x := a1) rfl ?_
  refine i_112_44 (x := a2) rfl ?_
  refine i_112_45 (c := a4) hg6 ?_
  refine i_112_46 (fun h => absurd e22 (Int.not_lt.mpr h)) (fun _ => ?_)
  refine i_112_49 (x := 7) rfl ?_
  refine i_112_50 (v := Value.ref 19) (xgn (by decide) (xgn (by decide) (xgn (by decide) (xgn (by decide) hw10)))) rfl ?_
  refine i_112_53 (x := 7) rfl ?_
  refine i_112_54 (v := Value.ref 8) (xgn (by decide) (xgn (by decide) (xgn (by decide) (xgn (by decide) hw10)))) rfl ?_
  refine i_112_57 (x := a5) rfl ?_
  refine i_112_59 (v := Value.ref h2) (xgn (by decide) (xgn (by decide) (xgn (by decide) (xgn (by decide) hw15)))) e23 e24 hg25 ?_
  refine i_112_60 ?_
  refine i_112_61 (xgs (xgs (xgn (by decide) (xgn (by decide) hw11)))) (Nat.le_of_ble_eq_true rfl) (p_60_1 (xgn e26 (xgn e26 (xgn e27 (xgn e28 hw29)))) (xgs (xgs (xgn (by decide) (xgn (by decide) hw11))))) ?_
  refine i_112_64 (x := a5) (c := a6) (lv2 := [(5, Value.int a6), (0, Value.ref 7), (1, Value.int a0), (2, Value.int a1), (3, Value.int a2), (4, Value.int a3)]) rfl hg30 rfl ?_
  refine i_112_67 ?_
  refine i_112_41 (x := a6) rfl ?_
  refine i_112_43 (x := a1) rfl ?_
  refine i_112_44 (x := a2) rfl ?_
  refine i_112_45 (c := a4) hg6 ?_
  refine i_112_46 (fun h => absurd e31 (Int.not_lt.mpr h)) (fun _ => ?_)
  refine i_112_49 (x := 7) rfl ?_
  refine i_112_50 (v := Value.ref 19) (xgn (by decide) (xgn (by decide) (xgn (by decide) (xgn (by decide) (xgn (by decide) hw10))))) rfl ?_
  refine i_112_53 (x := 7) rfl ?_
  refine i_112_54 (v := Value.ref 8) (xgn (by decide) (xgn (by decide) (xgn (by decide) (xgn (by decide) (xgn (by decide) hw10))))) rfl ?_
  refine i_112_57 (x := a6) rfl ?_
  refine i_112_59 (v := Value.ref h4) (xgn (by decide) (xgn (by decide) (xgn (by decide) (xgn (by decide) (xgn (by decide) hw15))))) e32 e33 hg34 ?_
  refine i_112_60 ?_
  refine i_112_61 (xgs (xgs (xgs (xgn (by decide) (xgn (by decide) hw11))))) (Nat.le_of_ble_eq_true rfl) (p_60_1 (xgn e35 (xgn e35 (xgn e35 (xgn e36 (xgn e37 hw38))))) (xgs (xgs (xgs (xgn (by decide) (xgn (by decide) hw11)))))) ?_
  refine i_112_64 (x := a6) (c := a7) (lv2 := [(5, Value.int a7), (0, Value.ref 7), (1, Value.int a0), (2, Value.int a1), (3, Value.int a2), (4, Value.int a3)]) rfl hg39 rfl ?_
  refine i_112_67 ?_
  refine i_112_41 (x := a7) rfl ?_
  refine i_112_43 (x := a1) rfl ?_
  refine i_112_44 (x := a2) rfl ?_
  refine i_112_45 (c := a4) hg6 ?_
  refine i_112_46 (fun h => absurd e40 (Int.not_lt.mpr h)) (fun _ => ?_)
  refine i_112_49 (x := 7) rfl ?_
  refine i_112_50 (v := Value.ref 19) (xgn (by decide) (xgn (by decide) (xgn (by decide) (xgn (by decide) (xgn (by decide) (xgn (by decide) hw10)))))) rfl ?_
  refine i_112_53 (x := 7) rfl ?_
  refine i_112_54 (v := Value.ref 8) (xgn (by decide) (xgn (by decide) (xgn (by decide) (xgn (by decide) (xgn (by decide) (xgn (by decide) hw10)))))) rfl ?_
  refine i_112_57 (x := a7) rfl ?_
  refine i_112_59 (v := Value.ref h6) (xgn (by decide) (xgn (by decide) (xgn (by decide) (xgn (by decide) (xgn (by decide) (xgn (by decide) hw15)))))) e41 e42 hg43 ?_
  refine i_112_60 ?_
  refine i_112_61 (xgs (xgs (xgs (xgs (xgn (by decide) (xgn (by decide) hw11)))))) (Nat.le_of_ble_eq_true rfl) (p_60_1 (xgn e44 (xgn e44 (xgn e44 (xgn e44 (xgn e45 (xgn e46 hw47)))))) (xgs (xgs (xgs (xgs (xgn (by decide) (xgn (by decide) hw11))))))) ?_
  refine i_112_64 (x := a7) (c := a8) (lv2 := [(5, Value.int a8), (0, Value.ref 7), (1, Value.int a0), (2, Value.int a1), (3, Value.int a2), (4, Value.int a3)]) rfl hg48 rfl ?_
  refine i_112_67 ?_
  refine i_112_41 (x := a8) rfl ?_
  refine i_112_43 (x := a1) rfl ?_
  refine i_112_44 (x := a2) rfl ?_
  refine i_112_45 (c := a4) hg6 ?_
  refine i_112_46 (fun h => absurd e49 (Int.not_lt.mpr h)) (fun _ => ?_)
  refine i_112_49 (x := 7) rfl ?_
  refine i_112_50 (v := Value.ref 19) (xgn (by decide) (xgn (by decide) (xgn (by decide) (xgn (by decide) (xgn (by decide) (xgn (by decide) (xgn (by decide) hw10))))))) rfl ?_
  refine i_112_53 (x := 7) rfl ?_
  refine i_112_54 (v := Value.ref 8) (xgn (by decide) (xgn (by decide) (xgn (by decide) (xgn (by decide) (xgn (by decide) (xgn (by decide) (xgn (by decide) hw10))))))) rfl ?_
  refine i_112_57 (x := a8) rfl ?_
  refine i_112_59 (v := Value.ref h8) (xgn (by decide) (xgn (by decide) (xgn (by decide) (xgn (by decide) (xgn (by decide) (xgn (by decide) (xgn (by decide) hw15))))))) e50 e51 hg52 ?_
  refine i_112_60 ?_
  refine i_112_61 (xgs (xgs (xgs (xgs (xgs (xgn (by decide) (xgn (by decide) hw11))))))) (Nat.le_of_ble_eq_true rfl) (p_60_1 (xgn e53 (xgn e53 (xgn e53 (xgn e53 (xgn e53 (xgn e54 (xgn e55 hw56))))))) (xgs (xgs (xgs (xgs (xgs (xgn (by decide) (xgn (by decide) hw11)))))))) ?_
  refine i_112_64 (x := a8) (c := a9) (lv2 := [(5, Value.int a9), (0, Value.ref 7), (1, Value.int a0), (2, Value.int a1), (3, Value.int a2), (4, Value.int a3)]) rfl hg57 rfl ?_
  refine i_112_67 ?_
  refine i_112_41 (x := a9) rfl ?_
  refine i_112_43 (x := a1) rfl ?_
  refine i_112_44 (x := a2) rfl ?_
  refine i_112_45 (c := a4) hg6 ?_
  refine i_112_46 (fun h => absurd e58 (Int.not_lt.mpr h)) (fun _ => ?_)
  refine i_112_49 (x := 7) rfl ?_
  refine i_112_50 (v := Value.ref 19) (xgn (by decide) (xgn (by decide) (xgn (by decide) (xgn (by decide) (xgn (by decide) (xgn (by decide) (xgn (by decide) (xgn (by decide) hw10)))))))) rfl ?_
  refine i_112_53 (x := 7) rfl ?_
  refine i_112_54 (v := Value.ref 8) (xgn (by decide) (xgn (by decide) (xgn (by decide) (xgn (by decide) (xgn (by decide) (xgn (by decide) (xgn (by decide) (xgn (by decide) hw10)))))))) rfl ?_
  refine i_112_57 (x := a9) rfl ?_
  refine i_112_59 (v := Value.ref h10) (xgn (by decide) (xgn (by decide) (xgn (by decide) (xgn (by decide) (xgn (by decide) (xgn (by decide) (xgn (by decide) (xgn (by decide) hw15)))))))) e59 e60 hg61 ?_
  refine i_112_60 ?_
  refine i_112_61 (xgs (xgs (xgs (xgs (xgs (xgs (xgn (by decide) (xgn (by decide) hw11)))))))) (Nat.le_of_ble_eq_true rfl) (p_60_1 (xgn e62 (xgn e62 (xgn e62 (xgn e62 (xgn e62 (xgn e62 (xgn e63 (xgn e64 hw65)))))))) (xgs (xgs (xgs (xgs (xgs (xgs (xgn (by decide) (xgn (by decide) hw11))))))))) ?_
  refine i_112_64 (x := a9) (c := a10) (lv2 := [(5, Value.int a10), (0, Value.ref 7), (1, Value.int a0), (2, Value.int a1), (3, Value.int a2), (4, Value.int a3)]) rfl hg66 rfl ?_
  refine i_112_67 ?_
  refine i_112_41 (x := a10) rfl ?_
  refine i_112_43 (x := a1) rfl ?_
  refine i_112_44 (x := a2) rfl ?_
  refine i_112_45 (c := a4) hg6 ?_
  refine i_112_46 (fun h => absurd e67 (Int.not_lt.mpr h)) (fun _ => ?_)
  refine i_112_49 (x := 7) rfl ?_
  refine i_112_50 (v := Value.ref 19) (xgn (by decide) (xgn (by decide) (xgn (by decide) (xgn (by decide) (xgn (by decide) (xgn (by decide) (xgn (by decide) (xgn (by decide) (xgn (by decide) hw10))))))))) rfl ?_
  refine i_112_53 (x := 7) rfl ?_
  refine i_112_54 (v := Value.ref 8) (xgn (by decide) (xgn (by decide) (xgn (by decide) (xgn (by decide) (xgn (by decide) (xgn (by decide) (xgn (by decide) (xgn (by decide) (xgn (by decide) hw10))))))))) rfl ?_
  refine i_112_57 (x := a10) rfl ?_
  refine i_112_59 (v := Value.ref h12) (xgn (by decide) (xgn (by decide) (xgn (by decide) (xgn (by decide) (xgn (by decide) (xgn (by decide) (xgn (by decide) (xgn (by decide) (xgn (by decide) hw15))))))))) e68 e69 hg70 ?_
  refine i_112_60 ?_
  refine i_112_61 (xgs (xgs (xgs (xgs (xgs (xgs (xgs (xgn (by decide) (xgn (by decide) hw11))))))))) (Nat.le_of_ble_eq_true rfl) (p_60_1 (xgn e71 (xgn e71 (xgn e71 (xgn e71 (xgn e71 (xgn e71 (xgn e71 (xgn e72 (xgn e73 hw74))))))))) (xgs (xgs (xgs (xgs (xgs (xgs (xgs (xgn (by decide) (xgn (by decide) hw11)))))))))) ?_
  refine i_112_64 (x := a10) (c := a11) (lv2 := [(5, Value.int a11), (0, Value.ref 7), (1, Value.int a0), (2, Value.int a1), (3, Value.int a2), (4, Value.int a3)]) rfl hg75 rfl ?_
  refine i_112_67 ?_
  refine i_112_41 (x := a11) rfl ?_
  refine i_112_43 (x := a1) rfl ?_
  refine i_112_44 (x := a2) rfl ?_
  refine i_112_45 (c := a4) hg6 ?_
  refine i_112_46 (fun h => absurd e76 (Int.not_lt.mpr h)) (fun _ => ?_)
  refine i_112_49 (x := 7) rfl ?_
  refine i_112_50 (v := Value.ref 19) (xgn (by decide) (xgn (by decide) (xgn (by decide) (xgn (by decide) (xgn (by decide) (xgn (by decide) (xgn (by decide) (xgn (by decide) (xgn (by decide) (xgn (by decide) hw10)))))))))) rfl ?_
  refine i_112_53 (x := 7) rfl ?_
  refine i_112_54 (v := Value.ref 8) (xgn (by decide) (xgn (by decide) (xgn (by decide) (xgn (by decide) (xgn (by decide) (xgn (by decide) (xgn (by decide) (xgn (by decide) (xgn (by decide) (xgn (by decide) hw10)))))))))) rfl ?_
  refine i_112_57 (x := a11) rfl ?_
  refine i_112_59 (v := Value.ref h14) (xgn (by decide) (xgn (by decide) (xgn (by decide) (xgn (by decide) (xgn (by decide) (xgn (by decide) (xgn (by decide) (xgn (by decide) (xgn (by decide) (xgn (by decide) hw15)))))))))) e77 e78 hg79 ?_
  refine i_112_60 ?_
  refine i_112_61 (xgs (xgs (xgs (xgs (xgs (xgs (xgs (xgs (xgn (by decide) (xgn (by decide) hw11)))))))))) (Nat.le_of_ble_eq_true rfl) (p_60_1 (xgn e80 (xgn e80 (xgn e80 (xgn e80 (xgn e80 (xgn e80 (xgn e80 (xgn e80 (xgn e81 (xgn e82 hw83)))))))))) (xgs (xgs (xgs (xgs (xgs (xgs (xgs (xgs (xgn (by decide) (xgn (by decide) hw11))))))))))) ?_
  refine i_112_64 (x := a11) (c := a12) (lv2 := [(5, Value.int a12), (0, Value.ref 7), (1, Value.int a0), (2, Value.int a1), (3, Value.int a2), (4, Value.int a3)]) rfl hg84 rfl ?_
  refine i_112_67 ?_
  refine i_112_41 (x := a12) rfl ?_
  refine i_112_43 (x := a1) rfl ?_
  refine i_112_44 (x := a2) rfl ?_
  refine i_112_45 (c := a4) hg6 ?_
  refine i_112_46 (fun h => absurd e85 (Int.not_lt.mpr h)) (fun _ => ?_)
  refine i_112_49 (x := 7) rfl ?_
  refine i_112_50 (v := Value.ref 19) (xgn (by decide) (xgn (by decide) (xgn (by decide) (xgn (by decide) (xgn (by decide) (xgn (by decide) (xgn (by decide) (xgn (by decide) (xgn (by decide) (xgn (by decide) (xgn (by decide) hw10))))))))))) rfl ?_
  refine i_112_53 (x := 7) rfl ?_
  refine i_112_54 (v := Value.ref 8) (xgn (by decide) (xgn (by decide) (xgn (by decide) (xgn (by decide) (xgn (by decide) (xgn (by decide) (xgn (by decide) (xgn (by decide) (xgn (by decide) (xgn (by decide) (xgn (by decide) hw10))))))))))) rfl ?_
  refine i_112_57 (x := a12) rfl ?_
  refine i_112_59 (v := Value.ref h16) (xgn (by decide) (xgn (by decide) (xgn (by decide) (xgn (by decide) (xgn (by decide) (xgn (by decide) (xgn (by decide) (xgn (by decide) (xgn (by decide) (xgn (by decide) (xgn (by decide) hw15))))))))))) e86 e87 hg88 ?_
  refine i_112_60 ?_
  refine i_112_61 (xgs (xgs (xgs (xgs (xgs (xgs (xgs (xgs (xgs (xgn (by decide) (xgn (by decide) hw11))))))))))) (Nat.le_of_ble_eq_true rfl) (p_60_1 (xgn e89 (xgn e89 (xgn e89 (xgn e89 (xgn e89 (xgn e89 (xgn e89 (xgn e89 (xgn e89 (xgn e90 (xgn e91 hw92))))))))))) (xgs (xgs (xgs (xgs (xgs (xgs (xgs (xgs (xgs (xgn (by decide) (xgn (by decide) hw11)))))))))))) ?_
  refine i_112_64 (x := a12) (c := a13) (lv2 := [(5, Value.int a13), (0, Value.ref 7), (1, Value.int a0), (2, Value.int a1), (3, Value.int a2), (4, Value.int a3)]) rfl hg93 rfl ?_
  refine i_112_67 ?_
  refine i_112_41 (x := a13) rfl ?_
  refine i_112_43 (x := a1) rfl ?_
  refine i_112_44 (x := a2) rfl ?_
  refine i_112_45 (c := a4) hg6 ?_
  refine i_112_46 (fun h => absurd e94 (Int.not_lt.mpr h)) (fun _ => ?_)
  refine i_112_49 (x := 7) rfl ?_
  refine i_112_50 (v := Value.ref 19) (xgn (by decide) (xgn (by decide) (xgn (by decide) (xgn (by decide) (xgn (by decide) (xgn (by decide) (xgn (by decide) (xgn (by decide) (xgn (by decide) (xgn (by decide) (xgn (by decide) (xgn (by decide) hw10)))))))))))) rfl ?_
  refine i_112_53 (x := 7) rfl ?_
  refine i_112_54 (v := Value.ref 8) (xgn (by decide) (xgn (by decide) (xgn (by decide) (xgn (by decide) (xgn (by decide) (xgn (by decide) (xgn (by decide) (xgn (by decide) (xgn (by decide) (xgn (by decide) (xgn (by decide) (xgn (by decide) hw10)))))))))))) rfl ?_
  refine i_112_57 (x := a13) rfl ?_
  refine i_112_59 (v := Value.ref h18) (xgn (by decide) (xgn (by decide) (xgn (by decide) (xgn (by decide) (xgn (by decide) (xgn (by decide) (xgn (by decide) (xgn (by decide) (xgn (by decide) (xgn (by decide) (xgn (by decide) (xgn (by decide) hw15)))))))))))) e95 e96 hg97 ?_
  refine i_112_60 ?_
  refine i_112_61 (xgs (xgs (xgs (xgs (xgs (xgs (xgs (xgs (xgs (xgs (xgn (by decide) (xgn (by decide) hw11)))))))))))) (Nat.le_of_ble_eq_true rfl) (p_60_1 (xgn e98 (xgn e98 (xgn e98 (xgn e98 (xgn e98 (xgn e98 (xgn e98 (xgn e98 (xgn e98 (xgn e98 (xgn e99 (xgn e100 hw101)))))))))))) (xgs (xgs (xgs (xgs (xgs (xgs (xgs (xgs (xgs (xgs (xgn (by decide) (xgn (by decide) hw11))))))))))))) ?_
  refine i_112_64 (x := a13) (c := a14) (lv2 := [(5, Value.int a14), (0, Value.ref 7), (1, Value.int a0), (2, Value.int a1), (3, Value.int a2), (4, Value.int a3)]) rfl hg102 rfl ?_
  refine i_112_67 ?_
  refine i_112_41 (x := a14) rfl ?_
  refine i_112_43 (x := a1) rfl ?_
  refine i_112_44 (x := a2) rfl ?_
  refine i_112_45 (c := a4) hg6 ?_
  refine i_112_46 (fun h => absurd e103 (Int.not_lt.mpr h)) (fun _ => ?_)
  refine i_112_49 (x := 7) rfl ?_
  refine i_112_50 (v := Value.ref 19) (xgn (by decide) (xgn (by decide) (xgn (by decide) (xgn (by decide) (xgn (by decide) (xgn (by decide) (xgn (by decide) (xgn (by decide) (xgn (by decide) (xgn (by decide) (xgn (by decide) (xgn (by decide) (xgn (by decide) hw10))))))))))))) rfl ?_
  refine i_112_53 (x := 7) rfl ?_
  refine i_112_54 (v := Value.ref 8) (xgn (by decide) (xgn (by decide) (xgn (by decide) (xgn (by decide) (xgn (by decide) (xgn (by decide) (xgn (by decide) (xgn (by decide) (xgn (by decide) (xgn (by decide) (xgn (by decide) (xgn (by decide) (xgn (by decide) hw10))))))))))))) rfl ?_
  refine i_112_57 (x := a14) rfl ?_
  refine i_112_59 (v := Value.ref h20) (xgn (by decide) (xgn (by decide) (xgn (by decide) (xgn (by decide) (xgn (by decide) (xgn (by decide) (xgn (by decide) (xgn (by decide) (xgn (by decide) (xgn (by decide) (xgn (by decide) (xgn (by decide) (xgn (by decide) hw15))))))))))))) e104 e105 hg106 ?_
  refine i_112_60 ?_
  refine i_112_61 (xgs (xgs (xgs (xgs (xgs (xgs (xgs (xgs (xgs (xgs (xgs (xgn (by decide) (xgn (by decide) hw11))))))))))))) (Nat.le_of_ble_eq_true rfl) (p_60_1 (xgn e107 (xgn e107 (xgn e107 (xgn e107 (xgn e107 (xgn e107 (xgn e107 (xgn e107 (xgn e107 (xgn e107 (xgn e107 (xgn e108 (xgn e109 hw110))))))))))))) (xgs (xgs (xgs (xgs (xgs (xgs (xgs (xgs (xgs (xgs (xgs (xgn (by decide) (xgn (by decide) hw11)))))))))))))) ?_
  refine i_112_64 (x := a14) (c := a15) (lv2 := [(5, Value.int a15), (0, Value.ref 7), (1, Value.int a0), (2, Value.int a1), (3, Value.int a2), (4, Value.int a3)]) rfl hg111 rfl ?_
  refine i_112_67 ?_
  refine i_112_41 (x := a15) rfl ?_
  refine i_112_43 (x := a1) rfl ?_
  refine i_112_44 (x := a2) rfl ?_
  refine i_112_45 (c := a4) hg6 ?_
  refine i_112_46 (fun h => absurd e112 (Int.not_lt.mpr h)) (fun _ => ?_)
  refine i_112_49 (x := 7) rfl ?_
  refine i_112_50 (v := Value.ref 19) (xgn (by decide) (xgn (by decide) (xgn (by decide) (xgn (by decide) (xgn (by decide) (xgn (by decide) (xgn (by decide) (xgn (by decide) (xgn (by decide) (xgn (by decide) (xgn (by decide) (xgn (by decide) (xgn (by decide) (xgn (by decide) hw10)))))))))))))) rfl ?_
  refine i_112_53 (x := 7) rfl ?_
  refine i_112_54 (v := Value.ref 8) (xgn (by decide) (xgn (by decide) (xgn (by decide) (xgn (by decide) (xgn (by decide) (xgn (by decide) (xgn (by decide) (xgn (by decide) (xgn (by decide) (xgn (by decide) (xgn (by decide) (xgn (by decide) (xgn (by decide) (xgn (by decide) hw10)))))))))))))) rfl ?_
  refine i_112_57 (x := a15) rfl ?_
  refine i_112_59 (v := Value.ref h22) (xgn (by decide) (xgn (by decide) (xgn (by decide) (xgn (by decide) (xgn (by decide) (xgn (by decide) (xgn (by decide) (xgn (by decide) (xgn (by decide) (xgn (by decide) (xgn (by decide) (xgn (by decide) (xgn (by decide) (xgn (by decide) hw15)))))))))))))) e113 e114 hg115 ?_
  refine i_112_60 ?_
  refine i_112_61 (xgs (xgs (xgs (xgs (xgs (xgs (xgs (xgs (xgs (xgs (xgs (xgs (xgn (by decide) (xgn (by decide) hw11)))))))))))))) (Nat.le_of_ble_eq_true rfl) (p_60_1 (xgn e116 (xgn e116 (xgn e116 (xgn e116 (xgn e116 (xgn e116 (xgn e116 (xgn e116 (xgn e116 (xgn e116 (xgn e116 (xgn e116 (xgn e117 (xgn e118 hw119)))))))))))))) (xgs (xgs (xgs (xgs (xgs (xgs (xgs (xgs (xgs (xgs (xgs (xgs (xgn (by decide) (xgn (by decide) hw11))))))))))))))) ?_
  refine i_112_64 (x := a15) (c := a16) (lv2 := [(5, Value.int a16), (0, Value.ref 7), (1, Value.int a0), (2, Value.int a1), (3, Value.int a2), (4, Value.int a3)]) rfl hg120 rfl ?_
  refine i_112_67 ?_
  refine i_112_41 (x := a16) rfl ?_
  refine i_112_43 (x := a1) rfl ?_
  refine i_112_44 (x := a2) rfl ?_
  refine i_112_45 (c := a4) hg6 ?_
  refine i_112_46 (fun h => absurd e121 (Int.not_lt.mpr h)) (fun _ => ?_)
  refine i_112_49 (x := 7) rfl ?_
  refine i_112_50 (v := Value.ref 19) (xgn (by decide) (xgn (by decide) (xgn (by decide) (xgn (by decide) (xgn (by decide) (xgn (by decide) (xgn (by decide) (xgn (by decide) (xgn (by decide) (xgn (by decide) (xgn (by decide) (xgn (by decide) (xgn (by decide) (xgn (by decide) (xgn (by decide) hw10))))))))))))))) rfl ?_
  refine i_112_53 (x := 7) rfl ?_
  refine i_112_54 (v := Value.ref 8) (xgn (by decide) (xgn (by decide) (xgn (by decide) (xgn (by decide) (xgn (by decide) (xgn (by decide) (xgn (by decide) (xgn (by decide) (xgn (by decide) (xgn (by decide) (xgn (by decide) (xgn (by decide) (xgn (by decide) (xgn (by decide) (xgn (by decide) hw10))))))))))))))) rfl ?_
  refine i_112_57 (x := a16) rfl ?_
  refine i_112_59 (v := Value.ref h24) (xgn (by decide) (xgn (by decide) (xgn (by decide) (xgn (by decide) (xgn (by decide) (xgn (by decide) (xgn (by decide) (xgn (by decide) (xgn (by decide) (xgn (by decide) (xgn (by decide) (xgn (by decide) (xgn (by decide) (xgn (by decide) (xgn (by decide) hw15))))))))))))))) e122 e123 hg124 ?_
  refine i_112_60 ?_
  refine i_112_61 (xgs (xgs (xgs (xgs (xgs (xgs (xgs (xgs (xgs (xgs (xgs (xgs (xgs (xgn (by decide) (xgn (by decide) hw11))))))))))))))) (Nat.le_of_ble_eq_true rfl) (p_60_1 (xgn e125 (xgn e125 (xgn e125 (xgn e125 (xgn e125 (xgn e125 (xgn e125 (xgn e125 (xgn e125 (xgn e125 (xgn e125 (xgn e125 (xgn e125 (xgn e126 (xgn e127 hw128))))))))))))))) (xgs (xgs (xgs (xgs (xgs (xgs (xgs (xgs (xgs (xgs (xgs (xgs (xgs (xgn (by decide) (xgn (by decide) hw11)))))))))))))))) ?_
  refine i_112_64 (x := a16) (c := a17) (lv2 := [(5, Value.int a17), (0, Value.ref 7), (1, Value.int a0), (2, Value.int a1), (3, Value.int a2), (4, Value.int a3)]) rfl hg129 rfl ?_
  refine i_112_67 ?_
  refine i_112_41 (x := a17) rfl ?_
  refine i_112_43 (x := a1) rfl ?_
  refine i_112_44 (x := a2) rfl ?_
  refine i_112_45 (c := a4) hg6 ?_
  refine i_112_46 (fun h => absurd e130 (Int.not_lt.mpr h)) (fun _ => ?_)
  refine i_112_49 (x := 7) rfl ?_
  refine i_112_50 (v := Value.ref 19) (xgn (by decide) (xgn (by decide) (xgn (by decide) (xgn (by decide) (xgn (by decide) (xgn (by decide) (xgn (by decide) (xgn (by decide) (xgn (by decide) (xgn (by decide) (xgn (by decide) (xgn (by decide) (xgn (by decide) (xgn (by decide) (xgn (by decide) (xgn (by decide) hw10)))))))))))))))) rfl ?_
  refine i_112_53 (x := 7) rfl ?_
  refine i_112_54 (v := Value.ref 8) (xgn (by decide) (xgn (by decide) (xgn (by decide) (xgn (by decide) (xgn (by decide) (xgn (by decide) (xgn (by decide) (xgn (by decide) (xgn (by decide) (xgn (by decide) (xgn (by decide) (xgn (by decide) (xgn (by decide) (xgn (by decide) (xgn (by decide) (xgn (by decide) hw10)))))))))))))))) rfl ?_
  refine i_112_57 (x := a17) rfl ?_
  refine i_112_59 (v := Value.ref h26) (xgn (by decide) (xgn (by decide) (xgn (by decide) (xgn (by decide) (xgn (by decide) (xgn (by decide) (xgn (by decide) (xgn (by decide) (xgn (by decide) (xgn (by decide) (xgn (by decide) (xgn (by decide) (xgn (by decide) (xgn (by decide) (xgn (by decide) (xgn (by decide) hw15)))))))))))))))) e131 e132 hg133 ?_
  refine i_112_60 ?_
  refine i_112_61 (xgs (xgs (xgs (xgs (xgs (xgs (xgs (xgs (xgs (xgs (xgs (xgs (xgs (xgs (xgn (by decide) (xgn (by decide) hw11)))))))))))))))) (Nat.le_of_ble_eq_true rfl) (p_60_1 (xgn e134 (xgn e134 (xgn e134 (xgn e134 (xgn e134 (xgn e134 (xgn e134 (xgn e134 (xgn e134 (xgn e134 (xgn e134 (xgn e134 (xgn e134 (xgn e134 (xgn e135 (xgn e136 hw137)))))))))))))))) (xgs (xgs (xgs (xgs (xgs (xgs (xgs (xgs (xgs (xgs (xgs (xgs (xgs (xgs (xgn (by decide) (xgn (by decide) hw11))))))))))))))))) ?_
  refine i_112_64 (x := a17) (c := a18) (lv2 := [(5, Value.int a18), (0, Value.ref 7), (1, Value.int a0), (2, Value.int a1), (3, Value.int a2), (4, Value.int a3)]) rfl hg138 rfl ?_
  refine i_112_67 ?_
  refine i_112_41 (x := a18) rfl ?_
  refine i_112_43 (x := a1) rfl ?_
  refine i_112_44 (x := a2) rfl ?_
  refine i_112_45 (c := a4) hg6 ?_
  refine i_112_46 (fun _ => ?_) (fun h => absurd e139 (Int.not_le.mpr h))
  refine i_112_70 (x := 7) rfl ?_
  refine i_112_71 (v := Value.ref 19) (xgn (by decide) (xgn (by decide) (xgn (by decide) (xgn (by decide) (xgn (by decide) (xgn (by decide) (xgn (by decide) (xgn (by decide) (xgn (by decide) (xgn (by decide) (xgn (by decide) (xgn (by decide) (xgn (by decide) (xgn (by decide) (xgn (by decide) (xgn (by decide) (xgn (by decide) hw10))))))))))))))))) rfl ?_
  refine i_112_74 (x := 7) rfl ?_
  refine i_112_75 (v := Value.ref 78) (xgn (by decide) (xgn (by decide) (xgn (by decide) (xgn (by decide) (xgn (by decide) (xgn (by decide) (xgn (by decide) (xgn (by decide) (xgn (by decide) (xgn (by decide) (xgn (by decide) (xgn (by decide) (xgn (by decide) (xgn (by decide) (xgn (by decide) (xgn (by decide) (xgn (by decide) hw10))))))))))))))))) rfl ?_
  refine i_112_78 (x := 7) rfl ?_
  refine i_112_79 (v := Value.ref 8) (xgn (by decide) (xgn (by decide) (xgn (by decide) (xgn (by decide) (xgn (by decide) (xgn (by decide) (xgn (by decide) (xgn (by decide) (xgn (by decide) (xgn (by decide) (xgn (by decide) (xgn (by decide) (xgn (by decide) (xgn (by decide) (xgn (by decide) (xgn (by decide) (xgn (by decide) hw10))))))))))))))))) rfl ?_
  refine i_112_82 (x := a0) rfl ?_
  refine i_112_83 (v := Value.ref h28) (xgn (by decide) (xgn (by decide) (xgn (by decide) (xgn (by decide) (xgn (by decide) (xgn (by decide) (xgn (by decide) (xgn (by decide) (xgn (by decide) (xgn (by decide) (xgn (by decide) (xgn (by decide) (xgn (by decide) (xgn (by decide) (xgn (by decide) (xgn (by decide) (xgn (by decide) hw15))))))))))))))))) e0 e1 hg140 ?_
  refine i_112_84 (x := a3) rfl ?_
  refine i_112_86 (xgs (xgs (xgs (xgs (xgs (xgs (xgs (xgs (xgs (xgs (xgs (xgs (xgs (xgs (xgs (xgn (by decide) (xgn (by decide) hw11))))))))))))))))) (Nat.le_of_ble_eq_true rfl) (p_64_0 (xgs (xgs (xgs (xgs (xgs (xgs (xgs (xgs (xgs (xgs (xgs (xgs (xgs (xgs (xgs (xgn (by decide) (xgn (by decide) hw11))))))))))))))))) (xgn e141 (xgn e141 (xgn e141 (xgn e141 (xgn e141 (xgn e141 (xgn e141 (xgn e141 (xgn e141 (xgn e141 (xgn e141 (xgn e141 (xgn e141 (xgn e141 (xgn e141 (xgn e142 (xgn e143 hw144))))))))))))))))) e145) ?_
  exact i_112_89 ⟨rfl, rfl⟩
theorem p_111_9 {d : Nat} {w : xW} {a0 : Int32} {a1 : Int32} {a2 : Int32} {a3 : Int32} {a4 : Int32} {g0 : Nat → Value} {h0 : Nat} {h1 : Nat} {a5 : Int32} {h2 : Nat} {h3 : Nat} {a6 : Int32} {h4 : Nat} {h5 : Nat} {a7 : Int32} {h6 : Nat} {h7 : Nat} {a8 : Int32} {h8 : Nat} {h9 : Nat} {a9 : Int32} {h10 : Nat} {h11 : Nat} {a10 : Int32} {h12 : Nat} {h13 : Nat} {a11 : Int32} {h14 : Nat} {h15 : Nat} {a12 : Int32} {h16 : Nat} {h17 : Nat} {a13 : Int32} {h18 : Nat} {h19 : Nat} {a14 : Int32} {h20 : Nat} {h21 : Nat} {a15 : Int32} {h22 : Nat} {h23 : Nat} {a16 : Int32} {h24 : Nat} {h25 : Nat} {a17 : Int32} {h26 : Nat} {h27 : Nat} {a18 : Int32} {h28 : Nat} {h29 : Nat} (hw0 : w[7]? = some (Sum.inr (0, [Value.ref 8, Value.ref 78, Value.ref 9, Value.ref 10, Value.ref 13, Value.ref 16, Value.ref 19, Value.ref 93, Value.ref 108, Value.ref 113, Value.ref 29, Value.int 0]))) (e1 : 0 ≤ a0.toInt) (e2 : a0.toInt < 16) (e3 : 0 ≤ a1.toInt) (e4 : a1.toInt < 16) (e5 : 1 ≤ a2.toInt) (e6 : a2.toInt ≤ 16) (hg7 : (a1 + a2) = a4) (e8 : a4.toInt ≤ 16) (e9 : 0 ≤ a3.toInt) (e10 : a3.toInt ≤ 4) (hw11 : w[19]? = some (Sum.inr (5, [Value.ref 20, Value.ref 22, Value.ref 24, Value.ref 26, Value.int 0, Value.int 0, Value.int 0, Value.int 0, Value.int 0, Value.int 0, Value.int 0, Value.int 0]))) (hw12 : w[20]? = some (Sum.inr (3, [Value.ref 21, Value.int 0]))) (hw13 : w[22]? = some (Sum.inr (3, [Value.ref 23, Value.int 0]))) (e14 : a1.toInt < a4.toInt) (hw15 : w[8]? = some (Sum.inl (4, 16, g0))) (hg16 : g0 a1.toInt.toNat = Value.ref h0) (e17 : 19 ≠ h0) (e18 : 22 ≠ h0) (e19 : 20 ≠ h0) (hw20 : w[h0]? = some (Sum.inr (2, [Value.int 64, Value.int 0, Value.int 0, Value.int 0, Value.ref h1]))) (hg21 : (a1 + (1 : Int32)) = a5) (e22 : a5.toInt < a4.toInt) (e23 : 0 ≤ a5.toInt) (e24 : a5.toInt < 16) (hg25 : g0 a5.toInt.toNat = Value.ref h2) (e26 : 19 ≠ h2) (e27 : 22 ≠ h2) (e28 : 20 ≠ h2) (hw29 : w[h2]? = some (Sum.inr (2, [Value.int 64, Value.int 0, Value.int 0, Value.int 0, Value.ref h3]))) (hg30 : (a5 + (1 : Int32)) = a6) (e31 : a6.toInt < a4.toInt) (e32 : 0 ≤ a6.toInt) (e33 : a6.toInt < 16) (hg34 : g0 a6.toInt.toNat = Value.ref h4) (e35 : 19 ≠ h4) (e36 : 22 ≠ h4) (e37 : 20 ≠ h4) (hw38 : w[h4]? = some (Sum.inr (2, [Value.int 64, Value.int 0, Value.int 0, Value.int 0, Value.ref h5]))) (hg39 : (a6 + (1 : Int32)) = a7) (e40 : a7.toInt < a4.toInt) (e41 : 0 ≤ a7.toInt) (e42 : a7.toInt < 16) (hg43 : g0 a7.toInt.toNat = Value.ref h6) (e44 : 19 ≠ h6) (e45 : 22 ≠ h6) (e46 : 20 ≠ h6) (hw47 : w[h6]? = some (Sum.inr (2, [Value.int 64, Value.int 0, Value.int 0, Value.int 0, Value.ref h7]))) (hg48 : (a7 + (1 : Int32)) = a8) (e49 : a8.toInt < a4.toInt) (e50 : 0 ≤ a8.toInt) (e51 : a8.toInt < 16) (hg52 : g0 a8.toInt.toNat = Value.ref h8) (e53 : 19 ≠ h8) (e54 : 22 ≠ h8) (e55 : 20 ≠ h8) (hw56 : w[h8]? = some (Sum.inr (2, [Value.int 64, Value.int 0, Value.int 0, Value.int 0, Value.ref h9]))) (hg57 : (a8 + (1 : Int32)) = a9) (e58 : a9.toInt < a4.toInt) (e59 : 0 ≤ a9.toInt) (e60 : a9.toInt < 16) (hg61 : g0 a9.toInt.toNat = Value.ref h10) (e62 : 19 ≠ h10) (e63 : 22 ≠ h10) (e64 : 20 ≠ h10) (hw65 : w[h10]? = some (Sum.inr (2, [Value.int 64, Value.int 0, Value.int 0, Value.int 0, Value.ref h11]))) (hg66 : (a9 + (1 : Int32)) = a10) (e67 : a10.toInt < a4.toInt) (e68 : 0 ≤ a10.toInt) (e69 : a10.toInt < 16) (hg70 : g0 a10.toInt.toNat = Value.ref h12) (e71 : 19 ≠ h12) (e72 : 22 ≠ h12) (e73 : 20 ≠ h12) (hw74 : w[h12]? = some (Sum.inr (2, [Value.int 64, Value.int 0, Value.int 0, Value.int 0, Value.ref h13]))) (hg75 : (a10 + (1 : Int32)) = a11) (e76 : a11.toInt < a4.toInt) (e77 : 0 ≤ a11.toInt) (e78 : a11.toInt < 16) (hg79 : g0 a11.toInt.toNat = Value.ref h14) (e80 : 19 ≠ h14) (e81 : 22 ≠ h14) (e82 : 20 ≠ h14) (hw83 : w[h14]? = some (Sum.inr (2, [Value.int 64, Value.int 0, Value.int 0, Value.int 0, Value.ref h15]))) (hg84 : (a11 + (1 : Int32)) = a12) (e85 : a12.toInt < a4.toInt) (e86 : 0 ≤ a12.toInt) (e87 : a12.toInt < 16) (hg88 : g0 a12.toInt.toNat = Value.ref h16) (e89 : 19 ≠ h16) (e90 : 22 ≠ h16) (e91 : 20 ≠ h16) (hw92 : w[h16]? = some (Sum.inr (2, [Value.int 64, Value.int 0, Value.int 0, Value.int 0, Value.ref h17]))) (hg93 : (a12 + (1 : Int32)) = a13) (e94 : a13.toInt < a4.toInt) (e95 : 0 ≤ a13.toInt) (e96 : a13.toInt < 16) (hg97 : g0 a13.toInt.toNat = Value.ref h18) (e98 : 19 ≠ h18) (e99 : 22 ≠ h18) (e100 : 20 ≠ h18) (hw101 : w[h18]? = some (Sum.inr (2, [Value.int 64, Value.int 0, Value.int 0, Value.int 0, Value.ref h19]))) (hg102 : (a13 + (1 : Int32)) = a14) (e103 : a14.toInt < a4.toInt) (e104 : 0 ≤ a14.toInt) (e105 : a14.toInt < 16) (hg106 : g0 a14.toInt.toNat = Value.ref h20) (e107 : 19 ≠ h20) (e108 : 22 ≠ h20) (e109 : 20 ≠ h20) (hw110 : w[h20]? = some (Sum.inr (2, [Value.int 64, Value.int 0, Value.int 0, Value.int 0, Value.ref h21]))) (hg111 : (a14 + (1 : Int32)) = a15) (e112 : a15.toInt < a4.toInt) (e113 : 0 ≤ a15.toInt) (e114 : a15.toInt < 16) (hg115 : g0 a15.toInt.toNat = Value.ref h22) (e116 : 19 ≠ h22) (e117 : 22 ≠ h22) (e118 : 20 ≠ h22) (hw119 : w[h22]? = some (Sum.inr (2, [Value.int 64, Value.int 0, Value.int 0, Value.int 0, Value.ref h23]))) (hg120 : (a15 + (1 : Int32)) = a16) (e121 : a16.toInt < a4.toInt) (e122 : 0 ≤ a16.toInt) (e123 : a16.toInt < 16) (hg124 : g0 a16.toInt.toNat = Value.ref h24) (e125 : 19 ≠ h24) (e126 : 22 ≠ h24) (e127 : 20 ≠ h24) (hw128 : w[h24]? = some (Sum.inr (2, [Value.int 64, Value.int 0, Value.int 0, Value.int 0, Value.ref h25]))) (hg129 : (a16 + (1 : Int32)) = a17) (e130 : a17.toInt < a4.toInt) (e131 : 0 ≤ a17.toInt) (e132 : a17.toInt < 16) (hg133 : g0 a17.toInt.toNat = Value.ref h26) (e134 : 19 ≠ h26) (e135 : 22 ≠ h26) (e136 : 20 ≠ h26) (hw137 : w[h26]? = some (Sum.inr (2, [Value.int 64, Value.int 0, Value.int 0, Value.int 0, Value.ref h27]))) (hg138 : (a17 + (1 : Int32)) = a18) (e139 : a4.toInt ≤ a18.toInt) (hg140 : g0 a0.toInt.toNat = Value.ref h28) (e141 : 19 ≠ h28) (e142 : 22 ≠ h28) (e143 : 20 ≠ h28) (hw144 : w[h28]? = some (Sum.inr (2, [Value.int 64, Value.int 0, Value.int 0, Value.int 0, Value.ref h29]))) (e145 : 7 ≤ h28) (e146 : h28 ≠ 194) (hw147 : w[194]? = some (Sum.inl (3, 1, fun _ => Value.long 0))) : xRun (d + 4) 111 [Value.ref 7, Value.int a0, Value.int a1, Value.int a2, Value.int a3, Value.ref 194] w (.inl (some (Value.int 0))) (((((((((((((((((((w.set 20 (Sum.inr (3, [Value.ref 21, Value.int 0]))).set 22 (Sum.inr (3, [Value.ref 23, Value.int 0]))).set 19 (Sum.inr (5, [Value.ref 20, Value.ref 22, Value.ref 24, Value.ref 26, Value.int 0, Value.int 0, Value.int 0, Value.int 0, Value.int 0, Value.int 0, Value.int 0, Value.int 0]))).set 19 (Sum.inr (5, [Value.ref 20, Value.ref 22, Value.ref 24, Value.ref 26, Value.int 0, Value.int 1, Value.int 0, Value.int 0, Value.int 0, Value.int 0, Value.int 0, Value.int 0]))).set 19 (Sum.inr (5, [Value.ref 20, Value.ref 22, Value.ref 24, Value.ref 26, Value.int 0, Value.int 1, Value.int 0, Value.int 0, Value.int 0, Value.int 0, Value.int 0, Value.int 0]))).set 19 (Sum.inr (5, [Value.ref 20, Value.ref 22, Value.ref 24, Value.ref 26, Value.int 0, Value.int 1, Value.int 0, Value.int 0, Value.int 0, Value.int 0, Value.int 0, Value.int 0]))).set 19 (Sum.inr (5, [Value.ref 20, Value.ref 22, Value.ref 24, Value.ref 26, Value.int 0, Value.int 1, Value.int 0, Value.int 0, Value.int 0, Value.int 0, Value.int 0, Value.int 0]))).set 19 (Sum.inr (5, [Value.ref 20, Value.ref 22, Value.ref 24, Value.ref 26, Value.int 0, Value.int 1, Value.int 0, Value.int 0, Value.int 0, Value.int 0, Value.int 0, Value.int 0]))).set 19 (Sum.inr (5, [Value.ref 20, Value.ref 22, Value.ref 24, Value.ref 26, Value.int 0, Value.int 1, Value.int 0, Value.int 0, Value.int 0, Value.int 0, Value.int 0, Value.int 0]))).set 19 (Sum.inr (5, [Value.ref 20, Value.ref 22, Value.ref 24, Value.ref 26, Value.int 0, Value.int 1, Value.int 0, Value.int 0, Value.int 0, Value.int 0, Value.int 0, Value.int 0]))).set 19 (Sum.inr (5, [Value.ref 20, Value.ref 22, Value.ref 24, Value.ref 26, Value.int 0, Value.int 1, Value.int 0, Value.int 0, Value.int 0, Value.int 0, Value.int 0, Value.int 0]))).set 19 (Sum.inr (5, [Value.ref 20, Value.ref 22, Value.ref 24, Value.ref 26, Value.int 0, Value.int 1, Value.int 0, Value.int 0, Value.int 0, Value.int 0, Value.int 0, Value.int 0]))).set 19 (Sum.inr (5, [Value.ref 20, Value.ref 22, Value.ref 24, Value.ref 26, Value.int 0, Value.int 1, Value.int 0, Value.int 0, Value.int 0, Value.int 0, Value.int 0, Value.int 0]))).set 19 (Sum.inr (5, [Value.ref 20, Value.ref 22, Value.ref 24, Value.ref 26, Value.int 0, Value.int 1, Value.int 0, Value.int 0, Value.int 0, Value.int 0, Value.int 0, Value.int 0]))).set 19 (Sum.inr (5, [Value.ref 20, Value.ref 22, Value.ref 24, Value.ref 26, Value.int 0, Value.int 1, Value.int 0, Value.int 0, Value.int 0, Value.int 0, Value.int 0, Value.int 0]))).set 19 (Sum.inr (5, [Value.ref 20, Value.ref 22, Value.ref 24, Value.ref 26, Value.int 0, Value.int 1, Value.int 0, Value.int 0, Value.int 0, Value.int 0, Value.int 0, Value.int 0]))).set 19 (Sum.inr (5, [Value.ref 20, Value.ref 22, Value.ref 24, Value.ref 26, Value.int 0, Value.int 1, Value.int 0, Value.int 0, Value.int 0, Value.int 0, Value.int 0, Value.int 0]))).set h28 (Sum.inr (2, [Value.int 64, Value.int 0, Value.int 0, Value.int 0, Value.ref h29]))).set 194 (Sum.inl (3, 1, xup (fun _ => Value.long 0) (0 : Int32).toInt.toNat (Value.long 0)))) := by
  refine xRun.of ?_
  refine i_111_0 (x := 194) rfl ?_
  refine i_111_2 ?_
  refine i_111_3 (x := 7) rfl ?_
  refine i_111_4 (x := a0) rfl ?_
  refine i_111_5 (x := a1) rfl ?_
  refine i_111_6 (x := a2) rfl ?_
  refine i_111_7 (x := a3) rfl ?_
  refine i_111_9 hw0 (Nat.le_of_ble_eq_true rfl) (p_112_9 e1 e2 e3 e4 e5 e6 hg7 e8 e9 e10 hw0 hw11 hw12 hw13 e14 hw15 hg16 e17 e18 e19 hw20 hg21 e22 e23 e24 hg25 e26 e27 e28 hw29 hg30 e31 e32 e33 hg34 e35 e36 e37 hw38 hg39 e40 e41 e42 hg43 e44 e45 e46 hw47 hg48 e49 e50 e51 hg52 e53 e54 e55 hw56 hg57 e58 e59 e60 hg61 e62 e63 e64 hw65 hg66 e67 e68 e69 hg70 e71 e72 e73 hw74 hg75 e76 e77 e78 hg79 e80 e81 e82 hw83 hg84 e85 e86 e87 hg88 e89 e90 e91 hw92 hg93 e94 e95 e96 hg97 e98 e99 e100 hw101 hg102 e103 e104 e105 hg106 e107 e108 e109 hw110 hg111 e112 e113 e114 hg115 e116 e117 e118 hw119 hg120 e121 e122 e123 hg124 e125 e126 e127 hw128 hg129 e130 e131 e132 hg133 e134 e135 e136 hw137 hg138 e139 hg140 e141 e142 e143 hw144 e145) ?_
  refine i_111_12 (c := 0) (by decide) ?_
  refine i_111_13 (v := Value.long 0) (xgn e146 (xgn (by decide) (xgn (by decide) (xgn (by decide) (xgn (by decide) (xgn (by decide) (xgn (by decide) (xgn (by decide) (xgn (by decide) (xgn (by decide) (xgn (by decide) (xgn (by decide) (xgn (by decide) (xgn (by decide) (xgn (by decide) (xgn (by decide) (xgn (by decide) (xgn (by decide) hw147)))))))))))))))))) (by decide) (by decide) (by decide) rfl ?_
  refine i_111_14 ?_
  refine i_111_21 ?_
  exact i_111_22 ⟨rfl, rfl⟩
theorem p_229_9 {d : Nat} {w : xW} {a0 : Int32} {a1 : Int32} {a2 : Int32} {a3 : Int32} {a4 : Int32} {a5 : Int32} {a6 : Int32} {a7 : Int32} {a8 : Int32} {a9 : Int32} {a10 : Int32} {a11 : Int32} {a12 : Int32} {a13 : Int32} {a14 : Int32} {a15 : Int32} {a16 : Int32} {a17 : Int32} {a18 : Int32} (e0 : 0 ≤ a0.toInt) (e1 : a0.toInt ≤ 15) (e2 : 0 ≤ a1.toInt) (e3 : a1.toInt ≤ 15) (e4 : 1 ≤ a2.toInt) (e5 : a2.toInt ≤ 16) (hg6 : (a1 + a2) = a4) (e7 : a4.toInt ≤ 16) (e8 : 0 ≤ a3.toInt) (e9 : a3.toInt ≤ 4) (e10 : a1.toInt < a4.toInt) (hw11 : w[128]? = some (Sum.inr (12, [Value.ref 129, Value.ref 131, Value.ref 133, Value.ref 135, Value.ref 137, Value.ref 139, Value.ref 141, Value.ref 143, Value.ref 145, Value.ref 147, Value.ref 149, Value.ref 151, Value.ref 153, Value.ref 154, Value.ref 155, Value.ref 156, Value.ref 157, Value.int (-16384), Value.int 16384, Value.int 0, Value.int 0, Value.int 0, Value.ref 158, Value.ref 159, Value.int 0, Value.int 0, Value.int 0, Value.int 0, Value.int 0, Value.int 0, Value.int 0, Value.int 0]))) (hw12 : w[154]? = some (Sum.inl (0, 17, fun _ => Value.int 0))) (e13 : a1.toInt < 17) (hg14 : (a1 + (1 : Int32)) = a5) (e15 : a5.toInt < a4.toInt) (e16 : 0 ≤ a5.toInt) (e17 : a5.toInt < 17) (hg18 : (a5 + (1 : Int32)) = a6) (e19 : a6.toInt < a4.toInt) (e20 : 0 ≤ a6.toInt) (e21 : a6.toInt < 17) (hg22 : (a6 + (1 : Int32)) = a7) (e23 : a7.toInt < a4.toInt) (e24 : 0 ≤ a7.toInt) (e25 : a7.toInt < 17) (hg26 : (a7 + (1 : Int32)) = a8) (e27 : a8.toInt < a4.toInt) (e28 : 0 ≤ a8.toInt) (e29 : a8.toInt < 17) (hg30 : (a8 + (1 : Int32)) = a9) (e31 : a9.toInt < a4.toInt) (e32 : 0 ≤ a9.toInt) (e33 : a9.toInt < 17) (hg34 : (a9 + (1 : Int32)) = a10) (e35 : a10.toInt < a4.toInt) (e36 : 0 ≤ a10.toInt) (e37 : a10.toInt < 17) (hg38 : (a10 + (1 : Int32)) = a11) (e39 : a11.toInt < a4.toInt) (e40 : 0 ≤ a11.toInt) (e41 : a11.toInt < 17) (hg42 : (a11 + (1 : Int32)) = a12) (e43 : a12.toInt < a4.toInt) (e44 : 0 ≤ a12.toInt) (e45 : a12.toInt < 17) (hg46 : (a12 + (1 : Int32)) = a13) (e47 : a13.toInt < a4.toInt) (e48 : 0 ≤ a13.toInt) (e49 : a13.toInt < 17) (hg50 : (a13 + (1 : Int32)) = a14) (e51 : a14.toInt < a4.toInt) (e52 : 0 ≤ a14.toInt) (e53 : a14.toInt < 17) (hg54 : (a14 + (1 : Int32)) = a15) (e55 : a15.toInt < a4.toInt) (e56 : 0 ≤ a15.toInt) (e57 : a15.toInt < 17) (hg58 : (a15 + (1 : Int32)) = a16) (e59 : a16.toInt < a4.toInt) (e60 : 0 ≤ a16.toInt) (e61 : a16.toInt < 17) (hg62 : (a16 + (1 : Int32)) = a17) (e63 : a17.toInt < a4.toInt) (e64 : 0 ≤ a17.toInt) (e65 : a17.toInt < 17) (hg66 : (a17 + (1 : Int32)) = a18) (e67 : a4.toInt ≤ a18.toInt) (e68 : a0.toInt < 17) (hw69 : w[156]? = some (Sum.inl (2, 17, fun _ => Value.int 0))) : xRun (d + 2) 229 [Value.ref 128, Value.int a0, Value.int a1, Value.int a2, Value.int a3] w (.inl (some (Value.int 0))) ((w.set 154 (Sum.inl (0, 17, xup (fun _ => Value.int 0) a0.toInt.toNat (Value.int 0)))).set 156 (Sum.inl (2, 17, xup (fun _ => Value.int 0) a0.toInt.toNat (Value.int 0)))) := by
  refine xRun.of ?_
  refine i_229_0 (x := a0) rfl ?_
  refine i_229_1 (Nat.le_of_ble_eq_true rfl) (p_168_1 e0 e1) ?_
  refine i_229_4 (x := a1) rfl ?_
  refine i_229_5 (Nat.le_of_ble_eq_true rfl) (p_168_1 e2 e3) ?_
  refine i_229_8 (x := a2) rfl ?_
  refine i_229_9 ?_
  refine i_229_10 ?_
  refine i_229_12 (Nat.le_of_ble_eq_true rfl) (p_169_44 e4 e5) ?_
  refine i_229_15 (fun h => absurd h (by decide)) (fun _ => ?_)
  refine i_229_18 (x := a1) rfl ?_
  refine i_229_19 (x := a2) rfl ?_
  refine i_229_20 (c := a4) hg6 ?_
  refine i_229_21 ?_
  refine i_229_23 (fun h => absurd e7 (Int.not_le.mpr h)) (fun _ => ?_)
  refine i_229_26 ?_
  refine i_229_27 ?_
  refine i_229_31 (Nat.le_of_ble_eq_true rfl) (p_170_1) ?_
  refine i_229_34 (x := a3) rfl ?_
  refine i_229_36 (Nat.le_of_ble_eq_true rfl) (p_178_2 e8 e9) ?_
  refine i_229_39 ?_
  refine i_229_42 (lv2 := [(5, Value.int 2147483647), (0, Value.ref 128), (1, Value.int a0), (2, Value.int a1), (3, Value.int a2), (4, Value.int a3)]) rfl ?_
  refine i_229_44 ?_
  refine i_229_45 (lv2 := [(6, Value.int 0), (5, Value.int 2147483647), (0, Value.ref 128), (1, Value.int a0), (2, Value.int a1), (3, Value.int a2), (4, Value.int a3)]) rfl ?_
  refine i_229_47 ?_
  refine i_229_48 (lv2 := [(7, Value.int 0), (6, Value.int 0), (5, Value.int 2147483647), (0, Value.ref 128), (1, Value.int a0), (2, Value.int a1), (3, Value.int a2), (4, Value.int a3)]) rfl ?_
  refine i_229_50 ?_
  refine i_229_51 (lv2 := [(8, Value.int 0), (7, Value.int 0), (6, Value.int 0), (5, Value.int 2147483647), (0, Value.ref 128), (1, Value.int a0), (2, Value.int a1), (3, Value.int a2), (4, Value.int a3)]) rfl ?_
  refine i_229_53 (x := a1) rfl ?_
  refine i_229_54 (lv2 := [(9, Value.int a1), (8, Value.int 0), (7, Value.int 0), (6, Value.int 0), (5, Value.int 2147483647), (0, Value.ref 128), (1, Value.int a0), (2, Value.int a1), (3, Value.int a2), (4, Value.int a3)]) rfl ?_
  refine i_229_56 (x := a1) rfl ?_
  refine i_229_58 (x := a1) rfl ?_
  refine i_229_59 (x := a2) rfl ?_
  refine i_229_60 (c := a4) hg6 ?_
  refine i_229_61 (fun h => absurd e10 (Int.not_lt.mpr h)) (fun _ => ?_)
  refine i_229_64 (x := 0) rfl ?_
  refine i_229_66 (x := 128) rfl ?_
  refine i_229_67 (v := Value.ref 154) hw11 rfl ?_
  refine i_229_70 (x := a1) rfl ?_
  refine i_229_72 (v := Value.int 0) hw12 e2 e13 rfl ?_
  refine i_229_73 (fun h => absurd h (by decide)) (fun _ => ?_)
  refine i_229_76 ?_
  refine i_229_77 ?_
  refine i_229_81 (c := 1) (by decide) ?_
  refine i_229_82 (lv2 := [(8, Value.int 1), (9, Value.int a1), (7, Value.int 0), (6, Value.int 0), (5, Value.int 2147483647), (0, Value.ref 128), (1, Value.int a0), (2, Value.int a1), (3, Value.int a2), (4, Value.int a3)]) rfl ?_
  refine i_229_84 (x := 0) rfl ?_
  refine i_229_86 (x := 128) rfl ?_
  refine i_229_87 (v := Value.ref 154) hw11 rfl ?_
  refine i_229_90 (x := a1) rfl ?_
  refine i_229_92 (v := Value.int 0) hw12 e2 e13 rfl ?_
  refine i_229_93 ?_
  refine i_229_94 (fun _ => ?_) (fun h => absurd h (by decide))
  refine i_229_111 ?_
  refine i_229_112 (c := 0) (by decide) ?_
  refine i_229_113 (lv2 := [(6, Value.int 0), (8, Value.int 1), (9, Value.int a1), (7, Value.int 0), (5, Value.int 2147483647), (0, Value.ref 128), (1, Value.int a0), (2, Value.int a1), (3, Value.int a2), (4, Value.int a3)]) rfl ?_
  refine i_229_115 (x := 0) rfl ?_
  refine i_229_117 (x := 128) rfl ?_
  refine i_229_118 (v := Value.ref 154) hw11 rfl ?_
  refine i_229_121 (x := a1) rfl ?_
  refine i_229_123 (v := Value.int 0) hw12 e2 e13 rfl ?_
  refine i_229_124 ?_
  refine i_229_125 (fun _ => ?_) (fun h => absurd h (by decide))
  refine i_229_142 ?_
  refine i_229_143 (c := 0) (by decide) ?_
  refine i_229_144 (lv2 := [(7, Value.int 0), (6, Value.int 0), (8, Value.int 1), (9, Value.int a1), (5, Value.int 2147483647), (0, Value.ref 128), (1, Value.int a0), (2, Value.int a1), (3, Value.int a2), (4, Value.int a3)]) rfl ?_
  refine i_229_146 (x := 128) rfl ?_
  refine i_229_147 (v := Value.ref 154) hw11 rfl ?_
  refine i_229_150 (x := a1) rfl ?_
  refine i_229_152 (v := Value.int 0) hw12 e2 e13 rfl ?_
  refine i_229_153 ?_
  refine i_229_154 (fun _ => ?_) (fun h => absurd h (by decide))
  refine i_229_170 (x := a1) (c := a5) (lv2 := [(9, Value.int a5), (7, Value.int 0), (6, Value.int 0), (8, Value.int 1), (5, Value.int 2147483647), (0, Value.ref 128), (1, Value.int a0), (2, Value.int a1), (3, Value.int a2), (4, Value.int a3)]) rfl hg14 rfl ?_
  refine i_229_173 ?_
  refine i_229_56 (x := a5) rfl ?_
  refine i_229_58 (x := a1) rfl ?_
  refine i_229_59 (x := a2) rfl ?_
  refine i_229_60 (c := a4) hg6 ?_
  refine i_229_61 (fun h => absurd e15 (Int.not_lt.mpr h)) (fun _ => ?_)
  refine i_229_64 (x := 1) rfl ?_
  refine i_229_66 (x := 128) rfl ?_
  refine i_229_67 (v := Value.ref 154) hw11 rfl ?_
  refine i_229_70 (x := a5) rfl ?_
  refine i_229_72 (v := Value.int 0) hw12 e16 e17 rfl ?_
  refine i_229_73 (fun h => absurd h (by decide)) (fun _ => ?_)
  refine i_229_76 ?_
  refine i_229_77 ?_
  refine i_229_81 (c := 1) (by decide) ?_
  refine i_229_82 (lv2 := [(8, Value.int 1), (9, Value.int a5), (7, Value.int 0), (6, Value.int 0), (5, Value.int 2147483647), (0, Value.ref 128), (1, Value.int a0), (2, Value.int a1), (3, Value.int a2), (4, Value.int a3)]) rfl ?_
  refine i_229_84 (x := 0) rfl ?_
  refine i_229_86 (x := 128) rfl ?_
  refine i_229_87 (v := Value.ref 154) hw11 rfl ?_
  refine i_229_90 (x := a5) rfl ?_
  refine i_229_92 (v := Value.int 0) hw12 e16 e17 rfl ?_
  refine i_229_93 ?_
  refine i_229_94 (fun _ => ?_) (fun h => absurd h (by decide))
  refine i_229_111 ?_
  refine i_229_112 (c := 0) (by decide) ?_
  refine i_229_113 (lv2 := [(6, Value.int 0), (8, Value.int 1), (9, Value.int a5), (7, Value.int 0), (5, Value.int 2147483647), (0, Value.ref 128), (1, Value.int a0), (2, Value.int a1), (3, Value.int a2), (4, Value.int a3)]) rfl ?_
  refine i_229_115 (x := 0) rfl ?_
  refine i_229_117 (x := 128) rfl ?_
  refine i_229_118 (v := Value.ref 154) hw11 rfl ?_
  refine i_229_121 (x := a5) rfl ?_
  refine i_229_123 (v := Value.int 0) hw12 e16 e17 rfl ?_
  refine i_229_124 ?_
  refine i_229_125 (fun _ => ?_) (fun h => absurd h (by decide))
  refine i_229_142 ?_
  refine i_229_143 (c := 0) (by decide) ?_
  refine i_229_144 (lv2 := [(7, Value.int 0), (6, Value.int 0), (8, Value.int 1), (9, Value.int a5), (5, Value.int 2147483647), (0, Value.ref 128), (1, Value.int a0), (2, Value.int a1), (3, Value.int a2), (4, Value.int a3)]) rfl ?_
  refine i_229_146 (x := 128) rfl ?_
  refine i_229_147 (v := Value.ref 154) hw11 rfl ?_
  refine i_229_150 (x := a5) rfl ?_
  refine i_229_152 (v := Value.int 0) hw12 e16 e17 rfl ?_
  refine i_229_153 ?_
  refine i_229_154 (fun _ => ?_) (fun h => absurd h (by decide))
  refine i_229_170 (x := a5) (c := a6) (lv2 := [(9, Value.int a6), (7, Value.int 0), (6, Value.int 0), (8, Value.int 1), (5, Value.int 2147483647), (0, Value.ref 128), (1, Value.int a0), (2, Value.int a1), (3, Value.int a2), (4, Value.int a3)]) rfl hg18 rfl ?_
  refine i_229_173 ?_
  refine i_229_56 (x := a6) rfl ?_
  refine i_229_58 (x := a1) rfl ?_
  refine i_229_59 (x := a2) rfl ?_
  refine i_229_60 (c := a4) hg6 ?_
  refine i_229_61 (fun h => absurd e19 (Int.not_lt.mpr h)) (fun _ => ?_)
  refine i_229_64 (x := 1) rfl ?_
  refine i_229_66 (x := 128) rfl ?_
  refine i_229_67 (v := Value.ref 154) hw11 rfl ?_
  refine i_229_70 (x := a6) rfl ?_
  refine i_229_72 (v := Value.int 0) hw12 e20 e21 rfl ?_
  refine i_229_73 (fun h => absurd h (by decide)) (fun _ => ?_)
  refine i_229_76 ?_
  refine i_229_77 ?_
  refine i_229_81 (c := 1) (by decide) ?_
  refine i_229_82 (lv2 := [(8, Value.int 1), (9, Value.int a6), (7, Value.int 0), (6, Value.int 0), (5, Value.int 2147483647), (0, Value.ref 128), (1, Value.int a0), (2, Value.int a1), (3, Value.int a2), (4, Value.int a3)]) rfl ?_
  refine i_229_84 (x := 0) rfl ?_
  refine i_229_86 (x := 128) rfl ?_
  refine i_229_87 (v := Value.ref 154) hw11 rfl ?_
  refine i_229_90 (x := a6) rfl ?_
  refine i_229_92 (v := Value.int 0) hw12 e20 e21 rfl ?_
  refine i_229_93 ?_
  refine i_229_94 (fun _ => ?_) (fun h => absurd h (by decide))
  refine i_229_111 ?_
  refine i_229_112 (c := 0) (by decide) ?_
  refine i_229_113 (lv2 := [(6, Value.int 0), (8, Value.int 1), (9, Value.int a6), (7, Value.int 0), (5, Value.int 2147483647), (0, Value.ref 128), (1, Value.int a0), (2, Value.int a1), (3, Value.int a2), (4, Value.int a3)]) rfl ?_
  refine i_229_115 (x := 0) rfl ?_
  refine i_229_117 (x := 128) rfl ?_
  refine i_229_118 (v := Value.ref 154) hw11 rfl ?_
  refine i_229_121 (x := a6) rfl ?_
  refine i_229_123 (v := Value.int 0) hw12 e20 e21 rfl ?_
  refine i_229_124 ?_
  refine i_229_125 (fun _ => ?_) (fun h => absurd h (by decide))
  refine i_229_142 ?_
  refine i_229_143 (c := 0) (by decide) ?_
  refine i_229_144 (lv2 := [(7, Value.int 0), (6, Value.int 0), (8, Value.int 1), (9, Value.int a6), (5, Value.int 2147483647), (0, Value.ref 128), (1, Value.int a0), (2, Value.int a1), (3, Value.int a2), (4, Value.int a3)]) rfl ?_
  refine i_229_146 (x := 128) rfl ?_
  refine i_229_147 (v := Value.ref 154) hw11 rfl ?_
  refine i_229_150 (x := a6) rfl ?_
  refine i_229_152 (v := Value.int 0) hw12 e20 e21 rfl ?_
  refine i_229_153 ?_
  refine i_229_154 (fun _ => ?_) (fun h => absurd h (by decide))
  refine i_229_170 (x := a6) (c := a7) (lv2 := [(9, Value.int a7), (7, Value.int 0), (6, Value.int 0), (8, Value.int 1), (5, Value.int 2147483647), (0, Value.ref 128), (1, Value.int a0), (2, Value.int a1), (3, Value.int a2), (4, Value.int a3)]) rfl hg22 rfl ?_
  refine i_229_173 ?_
  refine i_229_56 (x := a7) rfl ?_
  refine i_229_58 (x := a1) rfl ?_
  refine i_229_59 (x := a2) rfl ?_
  refine i_229_60 (c := a4) hg6 ?_
  refine i_229_61 (fun h => absurd e23 (Int.not_lt.mpr h)) (fun _ => ?_)
  refine i_229_64 (x := 1) rfl ?_
  refine i_229_66 (x := 128) rfl ?_
  refine i_229_67 (v := Value.ref 154) hw11 rfl ?_
  refine i_229_70 (x := a7) rfl ?_
  refine i_229_72 (v := Value.int 0) hw12 e24 e25 rfl ?_
  refine i_229_73 (fun h => absurd h (by decide)) (fun _ => ?_)
  refine i_229_76 ?_
  refine i_229_77 ?_
  refine i_229_81 (c := 1) (by decide) ?_
  refine i_229_82 (lv2 := [(8, Value.int 1), (9, Value.int a7), (7, Value.int 0), (6, Value.int 0), (5, Value.int 2147483647), (0, Value.ref 128), (1, Value.int a0), (2, Value.int a1), (3, Value.int a2), (4, Value.int a3)]) rfl ?_
  refine i_229_84 (x := 0) rfl ?_
  refine i_229_86 (x := 128) rfl ?_
  refine i_229_87 (v := Value.ref 154) hw11 rfl ?_
  refine i_229_90 (x := a7) rfl ?_
  refine i_229_92 (v := Value.int 0) hw12 e24 e25 rfl ?_
  refine i_229_93 ?_
  refine i_229_94 (fun _ => ?_) (fun h => absurd h (by decide))
  refine i_229_111 ?_
  refine i_229_112 (c := 0) (by decide) ?_
  refine i_229_113 (lv2 := [(6, Value.int 0), (8, Value.int 1), (9, Value.int a7), (7, Value.int 0), (5, Value.int 2147483647), (0, Value.ref 128), (1, Value.int a0), (2, Value.int a1), (3, Value.int a2), (4, Value.int a3)]) rfl ?_
  refine i_229_115 (x := 0) rfl ?_
  refine i_229_117 (x := 128) rfl ?_
  refine i_229_118 (v := Value.ref 154) hw11 rfl ?_
  refine i_229_121 (x := a7) rfl ?_
  refine i_229_123 (v := Value.int 0) hw12 e24 e25 rfl ?_
  refine i_229_124 ?_
  refine i_229_125 (fun _ => ?_) (fun h => absurd h (by decide))
  refine i_229_142 ?_
  refine i_229_143 (c := 0) (by decide) ?_
  refine i_229_144 (lv2 := [(7, Value.int 0), (6, Value.int 0), (8, Value.int 1), (9, Value.int a7), (5, Value.int 2147483647), (0, Value.ref 128), (1, Value.int a0), (2, Value.int a1), (3, Value.int a2), (4, Value.int a3)]) rfl ?_
  refine i_229_146 (x := 128) rfl ?_
  refine i_229_147 (v := Value.ref 154) hw11 rfl ?_
  refine i_229_150 (x := a7) rfl ?_
  refine i_229_152 (v := Value.int 0) hw12 e24 e25 rfl ?_
  refine i_229_153 ?_
  refine i_229_154 (fun _ => ?_) (fun h => absurd h (by decide))
  refine i_229_170 (x := a7) (c := a8) (lv2 := [(9, Value.int a8), (7, Value.int 0), (6, Value.int 0), (8, Value.int 1), (5, Value.int 2147483647), (0, Value.ref 128), (1, Value.int a0), (2, Value.int a1), (3, Value.int a2), (4, Value.int a3)]) rfl hg26 rfl ?_
  refine i_229_173 ?_
  refine i_229_56 (x := a8) rfl ?_
  refine i_229_58 (x := a1) rfl ?_
  refine i_229_59 (x := a2) rfl ?_
  refine i_229_60 (c := a4) hg6 ?_
  refine i_229_61 (fun h => absurd e27 (Int.not_lt.mpr h)) (fun _ => ?_)
  refine i_229_64 (x := 1) rfl ?_
  refine i_229_66 (x := 128) rfl ?_
  refine i_229_67 (v := Value.ref 154) hw11 rfl ?_
  refine i_229_70 (x := a8) rfl ?_
  refine i_229_72 (v := Value.int 0) hw12 e28 e29 rfl ?_
  refine i_229_73 (fun h => absurd h (by decide)) (fun _ => ?_)
  refine i_229_76 ?_
  refine i_229_77 ?_
  refine i_229_81 (c := 1) (by decide) ?_
  refine i_229_82 (lv2 := [(8, Value.int 1), (9, Value.int a8), (7, Value.int 0), (6, Value.int 0), (5, Value.int 2147483647), (0, Value.ref 128), (1, Value.int a0), (2, Value.int a1), (3, Value.int a2), (4, Value.int a3)]) rfl ?_
  refine i_229_84 (x := 0) rfl ?_
  refine i_229_86 (x := 128) rfl ?_
  refine i_229_87 (v := Value.ref 154) hw11 rfl ?_
  refine i_229_90 (x := a8) rfl ?_
  refine i_229_92 (v := Value.int 0) hw12 e28 e29 rfl ?_
  refine i_229_93 ?_
  refine i_229_94 (fun _ => ?_) (fun h => absurd h (by decide))
  refine i_229_111 ?_
  refine i_229_112 (c := 0) (by decide) ?_
  refine i_229_113 (lv2 := [(6, Value.int 0), (8, Value.int 1), (9, Value.int a8), (7, Value.int 0), (5, Value.int 2147483647), (0, Value.ref 128), (1, Value.int a0), (2, Value.int a1), (3, Value.int a2), (4, Value.int a3)]) rfl ?_
  refine i_229_115 (x := 0) rfl ?_
  refine i_229_117 (x := 128) rfl ?_
  refine i_229_118 (v := Value.ref 154) hw11 rfl ?_
  refine i_229_121 (x := a8) rfl ?_
  refine i_229_123 (v := Value.int 0) hw12 e28 e29 rfl ?_
  refine i_229_124 ?_
  refine i_229_125 (fun _ => ?_) (fun h => absurd h (by decide))
  refine i_229_142 ?_
  refine i_229_143 (c := 0) (by decide) ?_
  refine i_229_144 (lv2 := [(7, Value.int 0), (6, Value.int 0), (8, Value.int 1), (9, Value.int a8), (5, Value.int 2147483647), (0, Value.ref 128), (1, Value.int a0), (2, Value.int a1), (3, Value.int a2), (4, Value.int a3)]) rfl ?_
  refine i_229_146 (x := 128) rfl ?_
  refine i_229_147 (v := Value.ref 154) hw11 rfl ?_
  refine i_229_150 (x := a8) rfl ?_
  refine i_229_152 (v := Value.int 0) hw12 e28 e29 rfl ?_
  refine i_229_153 ?_
  refine i_229_154 (fun _ => ?_) (fun h => absurd h (by decide))
  refine i_229_170 (x := a8) (c := a9) (lv2 := [(9, Value.int a9), (7, Value.int 0), (6, Value.int 0), (8, Value.int 1), (5, Value.int 2147483647), (0, Value.ref 128), (1, Value.int a0), (2, Value.int a1), (3, Value.int a2), (4, Value.int a3)]) rfl hg30 rfl ?_
  refine i_229_173 ?_
  refine i_229_56 (x := a9) rfl ?_
  refine i_229_58 (x := a1) rfl ?_
  refine i_229_59 (x := a2) rfl ?_
  refine i_229_60 (c := a4) hg6 ?_
  refine i_229_61 (fun h => absurd e31 (Int.not_lt.mpr h)) (fun _ => ?_)
  refine i_229_64 (x := 1) rfl ?_
  refine i_229_66 (x := 128) rfl ?_
  refine i_229_67 (v := Value.ref 154) hw11 rfl ?_
  refine i_229_70 (x := a9) rfl ?_
  refine i_229_72 (v := Value.int 0) hw12 e32 e33 rfl ?_
  refine i_229_73 (fun h => absurd h (by decide)) (fun _ => ?_)
  refine i_229_76 ?_
  refine i_229_77 ?_
  refine i_229_81 (c := 1) (by decide) ?_
  refine i_229_82 (lv2 := [(8, Value.int 1), (9, Value.int a9), (7, Value.int 0), (6, Value.int 0), (5, Value.int 2147483647), (0, Value.ref 128), (1, Value.int a0), (2, Value.int a1), (3, Value.int a2), (4, Value.int a3)]) rfl ?_
  refine i_229_84 (x := 0) rfl ?_
  refine i_229_86 (x := 128) rfl ?_
  refine i_229_87 (v := Value.ref 154) hw11 rfl ?_
  refine i_229_90 (x := a9) rfl ?_
  refine i_229_92 (v := Value.int 0) hw12 e32 e33 rfl ?_
  refine i_229_93 ?_
  refine i_229_94 (fun _ => ?_) (fun h => absurd h (by decide))
  refine i_229_111 ?_
  refine i_229_112 (c := 0) (by decide) ?_
  refine i_229_113 (lv2 := [(6, Value.int 0), (8, Value.int 1), (9, Value.int a9), (7, Value.int 0), (5, Value.int 2147483647), (0, Value.ref 128), (1, Value.int a0), (2, Value.int a1), (3, Value.int a2), (4, Value.int a3)]) rfl ?_
  refine i_229_115 (x := 0) rfl ?_
  refine i_229_117 (x := 128) rfl ?_
  refine i_229_118 (v := Value.ref 154) hw11 rfl ?_
  refine i_229_121 (x := a9) rfl ?_
  refine i_229_123 (v := Value.int 0) hw12 e32 e33 rfl ?_
  refine i_229_124 ?_
  refine i_229_125 (fun _ => ?_) (fun h => absurd h (by decide))
  refine i_229_142 ?_
  refine i_229_143 (c := 0) (by decide) ?_
  refine i_229_144 (lv2 := [(7, Value.int 0), (6, Value.int 0), (8, Value.int 1), (9, Value.int a9), (5, Value.int 2147483647), (0, Value.ref 128), (1, Value.int a0), (2, Value.int a1), (3, Value.int a2), (4, Value.int a3)]) rfl ?_
  refine i_229_146 (x := 128) rfl ?_
  refine i_229_147 (v := Value.ref 154) hw11 rfl ?_
  refine i_229_150 (x := a9) rfl ?_
  refine i_229_152 (v := Value.int 0) hw12 e32 e33 rfl ?_
  refine i_229_153 ?_
  refine i_229_154 (fun _ => ?_) (fun h => absurd h (by decide))
  refine i_229_170 (x := a9) (c := a10) (lv2 := [(9, Value.int a10), (7, Value.int 0), (6, Value.int 0), (8, Value.int 1), (5, Value.int 2147483647), (0, Value.ref 128), (1, Value.int a0), (2, Value.int a1), (3, Value.int a2), (4, Value.int a3)]) rfl hg34 rfl ?_
  refine i_229_173 ?_
  refine i_229_56 (x := a10) rfl ?_
  refine i_229_58 (x := a1) rfl ?_
  refine i_229_59 (x := a2) rfl ?_
  refine i_229_60 (c := a4) hg6 ?_
  refine i_229_61 (fun h => absurd e35 (Int.not_lt.mpr h)) (fun _ => ?_)
  refine i_229_64 (x := 1) rfl ?_
  refine i_229_66 (x := 128) rfl ?_
  refine i_229_67 (v := Value.ref 154) hw11 rfl ?_
  refine i_229_70 (x := a10) rfl ?_
  refine i_229_72 (v := Value.int 0) hw12 e36 e37 rfl ?_
  refine i_229_73 (fun h => absurd h (by decide)) (fun _ => ?_)
  refine i_229_76 ?_
  refine i_229_77 ?_
  refine i_229_81 (c := 1) (by decide) ?_
  refine i_229_82 (lv2 := [(8, Value.int 1), (9, Value.int a10), (7, Value.int 0), (6, Value.int 0), (5, Value.int 2147483647), (0, Value.ref 128), (1, Value.int a0), (2, Value.int a1), (3, Value.int a2), (4, Value.int a3)]) rfl ?_
  refine i_229_84 (x := 0) rfl ?_
  refine i_229_86 (x := 128) rfl ?_
  refine i_229_87 (v := Value.ref 154) hw11 rfl ?_
  refine i_229_90 (x := a10) rfl ?_
  refine i_229_92 (v := Value.int 0) hw12 e36 e37 rfl ?_
  refine i_229_93 ?_
  refine i_229_94 (fun _ => ?_) (fun h => absurd h (by decide))
  refine i_229_111 ?_
  refine i_229_112 (c := 0) (by decide) ?_
  refine i_229_113 (lv2 := [(6, Value.int 0), (8, Value.int 1), (9, Value.int a10), (7, Value.int 0), (5, Value.int 2147483647), (0, Value.ref 128), (1, Value.int a0), (2, Value.int a1), (3, Value.int a2), (4, Value.int a3)]) rfl ?_
  refine i_229_115 (x := 0) rfl ?_
  refine i_229_117 (x := 128) rfl ?_
  refine i_229_118 (v := Value.ref 154) hw11 rfl ?_
  refine i_229_121 (x := a10) rfl ?_
  refine i_229_123 (v := Value.int 0) hw12 e36 e37 rfl ?_
  refine i_229_124 ?_
  refine i_229_125 (fun _ => ?_) (fun h => absurd h (by decide))
  refine i_229_142 ?_
  refine i_229_143 (c := 0) (by decide) ?_
  refine i_229_144 (lv2 := [(7, Value.int 0), (6, Value.int 0), (8, Value.int 1), (9, Value.int a10), (5, Value.int 2147483647), (0, Value.ref 128), (1, Value.int a0), (2, Value.int a1), (3, Value.int a2), (4, Value.int a3)]) rfl ?_
  refine i_229_146 (x := 128) rfl ?_
  refine i_229_147 (v := Value.ref 154) hw11 rfl ?_
  refine i_229_150 (x := a10) rfl ?_
  refine i_229_152 (v := Value.int 0) hw12 e36 e37 rfl ?_
  refine i_229_153 ?_
  refine i_229_154 (fun _ => ?_) (fun h => absurd h (by decide))
  refine i_229_170 (x := a10) (c := a11) (lv2 := [(9, Value.int a11), (7, Value.int 0), (6, Value.int 0), (8, Value.int 1), (5, Value.int 2147483647), (0, Value.ref 128), (1, Value.int a0), (2, Value.int a1), (3, Value.int a2), (4, Value.int a3)]) rfl hg38 rfl ?_
  refine i_229_173 ?_
  refine i_229_56 (x := a11) rfl ?_
  refine i_229_58 (x := a1) rfl ?_
  refine i_229_59 (x := a2) rfl ?_
  refine i_229_60 (c := a4) hg6 ?_
  refine i_229_61 (fun h => absurd e39 (Int.not_lt.mpr h)) (fun _ => ?_)
  refine i_229_64 (x := 1) rfl ?_
  refine i_229_66 (x := 128) rfl ?_
  refine i_229_67 (v := Value.ref 154) hw11 rfl ?_
  refine i_229_70 (x := a11) rfl ?_
  refine i_229_72 (v := Value.int 0) hw12 e40 e41 rfl ?_
  refine i_229_73 (fun h => absurd h (by decide)) (fun _ => ?_)
  refine i_229_76 ?_
  refine i_229_77 ?_
  refine i_229_81 (c := 1) (by decide) ?_
  refine i_229_82 (lv2 := [(8, Value.int 1), (9, Value.int a11), (7, Value.int 0), (6, Value.int 0), (5, Value.int 2147483647), (0, Value.ref 128), (1, Value.int a0), (2, Value.int a1), (3, Value.int a2), (4, Value.int a3)]) rfl ?_
  refine i_229_84 (x := 0) rfl ?_
  refine i_229_86 (x := 128) rfl ?_
  refine i_229_87 (v := Value.ref 154) hw11 rfl ?_
  refine i_229_90 (x := a11) rfl ?_
  refine i_229_92 (v := Value.int 0) hw12 e40 e41 rfl ?_
  refine i_229_93 ?_
  refine i_229_94 (fun _ => ?_) (fun h => absurd h (by decide))
  refine i_229_111 ?_
  refine i_229_112 (c := 0) (by decide) ?_
  refine i_229_113 (lv2 := [(6, Value.int 0), (8, Value.int 1), (9, Value.int a11), (7, Value.int 0), (5, Value.int 2147483647), (0, Value.ref 128), (1, Value.int a0), (2, Value.int a1), (3, Value.int a2), (4, Value.int a3)]) rfl ?_
  refine i_229_115 (x := 0) rfl ?_
  refine i_229_117 (x := 128) rfl ?_
  refine i_229_118 (v := Value.ref 154) hw11 rfl ?_
  refine i_229_121 (x := a11) rfl ?_
  refine i_229_123 (v := Value.int 0) hw12 e40 e41 rfl ?_
  refine i_229_124 ?_
  refine i_229_125 (fun _ => ?_) (fun h => absurd h (by decide))
  refine i_229_142 ?_
  refine i_229_143 (c := 0) (by decide) ?_
  refine i_229_144 (lv2 := [(7, Value.int 0), (6, Value.int 0), (8, Value.int 1), (9, Value.int a11), (5, Value.int 2147483647), (0, Value.ref 128), (1, Value.int a0), (2, Value.int a1), (3, Value.int a2), (4, Value.int a3)]) rfl ?_
  refine i_229_146 (x := 128) rfl ?_
  refine i_229_147 (v := Value.ref 154) hw11 rfl ?_
  refine i_229_150 (x := a11) rfl ?_
  refine i_229_152 (v := Value.int 0) hw12 e40 e41 rfl ?_
  refine i_229_153 ?_
  refine i_229_154 (fun _ => ?_) (fun h => absurd h (by decide))
  refine i_229_170 (x := a11) (c := a12) (lv2 := [(9, Value.int a12), (7, Value.int 0), (6, Value.int 0), (8, Value.int 1), (5, Value.int 2147483647), (0, Value.ref 128), (1, Value.int a0), (2, Value.int a1), (3, Value.int a2), (4, Value.int a3)]) rfl hg42 rfl ?_
  refine i_229_173 ?_
  refine i_229_56 (x := a12) rfl ?_
  refine i_229_58 (x := a1) rfl ?_
  refine i_229_59 (x := a2) rfl ?_
  refine i_229_60 (c := a4) hg6 ?_
  refine i_229_61 (fun h => absurd e43 (Int.not_lt.mpr h)) (fun _ => ?_)
  refine i_229_64 (x := 1) rfl ?_
  refine i_229_66 (x := 128) rfl ?_
  refine i_229_67 (v := Value.ref 154) hw11 rfl ?_
  refine i_229_70 (x := a12) rfl ?_
  refine i_229_72 (v := Value.int 0) hw12 e44 e45 rfl ?_
  refine i_229_73 (fun h => absurd h (by decide)) (fun _ => ?_)
  refine i_229_76 ?_
  refine i_229_77 ?_
  refine i_229_81 (c := 1) (by decide) ?_
  refine i_229_82 (lv2 := [(8, Value.int 1), (9, Value.int a12), (7, Value.int 0), (6, Value.int 0), (5, Value.int 2147483647), (0, Value.ref 128), (1, Value.int a0), (2, Value.int a1), (3, Value.int a2), (4, Value.int a3)]) rfl ?_
  refine i_229_84 (x := 0) rfl ?_
  refine i_229_86 (x := 128) rfl ?_
  refine i_229_87 (v := Value.ref 154) hw11 rfl ?_
  refine i_229_90 (x := a12) rfl ?_
  refine i_229_92 (v := Value.int 0) hw12 e44 e45 rfl ?_
  refine i_229_93 ?_
  refine i_229_94 (fun _ => ?_) (fun h => absurd h (by decide))
  refine i_229_111 ?_
  refine i_229_112 (c := 0) (by decide) ?_
  refine i_229_113 (lv2 := [(6, Value.int 0), (8, Value.int 1), (9, Value.int a12), (7, Value.int 0), (5, Value.int 2147483647), (0, Value.ref 128), (1, Value.int a0), (2, Value.int a1), (3, Value.int a2), (4, Value.int a3)]) rfl ?_
  refine i_229_115 (x := 0) rfl ?_
  refine i_229_117 (x := 128) rfl ?_
  refine i_229_118 (v := Value.ref 154) hw11 rfl ?_
  refine i_229_121 (x := a12) rfl ?_
  refine i_229_123 (v := Value.int 0) hw12 e44 e45 rfl ?_
  refine i_229_124 ?_
  refine i_229_125 (fun _ => ?_) (fun h => absurd h (by decide))
  refine i_229_142 ?_
  refine i_229_143 (c := 0) (by decide) ?_
  refine i_229_144 (lv2 := [(7, Value.int 0), (6, Value.int 0), (8, Value.int 1), (9, Value.int a12), (5, Value.int 2147483647), (0, Value.ref 128), (1, Value.int a0), (2, Value.int a1), (3, Value.int a2), (4, Value.int a3)]) rfl ?_
  refine i_229_146 (x := 128) rfl ?_
  refine i_229_147 (v := Value.ref 154) hw11 rfl ?_
  refine i_229_150 (x := a12) rfl ?_
  refine i_229_152 (v := Value.int 0) hw12 e44 e45 rfl ?_
  refine i_229_153 ?_
  refine i_229_154 (fun _ => ?_) (fun h => absurd h (by decide))
  refine i_229_170 (x := a12) (c := a13) (lv2 := [(9, Value.int a13), (7, Value.int 0), (6, Value.int 0), (8, Value.int 1), (5, Value.int 2147483647), (0, Value.ref 128), (1, Value.int a0), (2, Value.int a1), (3, Value.int a2), (4, Value.int a3)]) rfl hg46 rfl ?_
  refine i_229_173 ?_
  refine i_229_56 (x := a13) rfl ?_
  refine i_229_58 (x := a1) rfl ?_
  refine i_229_59 (x := a2) rfl ?_
  refine i_229_60 (c := a4) hg6 ?_
  refine i_229_61 (fun h => absurd e47 (Int.not_lt.mpr h)) (fun _ => ?_)
  refine i_229_64 (x := 1) rfl ?_
  refine i_229_66 (x := 128) rfl ?_
  refine i_229_67 (v := Value.ref 154) hw11 rfl ?_
  refine i_229_70 (x := a13) rfl ?_
  refine i_229_72 (v := Value.int 0) hw12 e48 e49 rfl ?_
  refine i_229_73 (fun h => absurd h (by decide)) (fun _ => ?_)
  refine i_229_76 ?_
  refine i_229_77 ?_
  refine i_229_81 (c := 1) (by decide) ?_
  refine i_229_82 (lv2 := [(8, Value.int 1), (9, Value.int a13), (7, Value.int 0), (6, Value.int 0), (5, Value.int 2147483647), (0, Value.ref 128), (1, Value.int a0), (2, Value.int a1), (3, Value.int a2), (4, Value.int a3)]) rfl ?_
  refine i_229_84 (x := 0) rfl ?_
  refine i_229_86 (x := 128) rfl ?_
  refine i_229_87 (v := Value.ref 154) hw11 rfl ?_
  refine i_229_90 (x := a13) rfl ?_
  refine i_229_92 (v := Value.int 0) hw12 e48 e49 rfl ?_
  refine i_229_93 ?_
  refine i_229_94 (fun _ => ?_) (fun h => absurd h (by decide))
  refine i_229_111 ?_
  refine i_229_112 (c := 0) (by decide) ?_
  refine i_229_113 (lv2 := [(6, Value.int 0), (8, Value.int 1), (9, Value.int a13), (7, Value.int 0), (5, Value.int 2147483647), (0, Value.ref 128), (1, Value.int a0), (2, Value.int a1), (3, Value.int a2), (4, Value.int a3)]) rfl ?_
  refine i_229_115 (x := 0) rfl ?_
  refine i_229_117 (x := 128) rfl ?_
  refine i_229_118 (v := Value.ref 154) hw11 rfl ?_
  refine i_229_121 (x := a13) rfl ?_
  refine i_229_123 (v := Value.int 0) hw12 e48 e49 rfl ?_
  refine i_229_124 ?_
  refine i_229_125 (fun _ => ?_) (fun h => absurd h (by decide))
  refine i_229_142 ?_
  refine i_229_143 (c := 0) (by decide) ?_
  refine i_229_144 (lv2 := [(7, Value.int 0), (6, Value.int 0), (8, Value.int 1), (9, Value.int a13), (5, Value.int 2147483647), (0, Value.ref 128), (1, Value.int a0), (2, Value.int a1), (3, Value.int a2), (4, Value.int a3)]) rfl ?_
  refine i_229_146 (x := 128) rfl ?_
  refine i_229_147 (v := Value.ref 154) hw11 rfl ?_
  refine i_229_150 (x := a13) rfl ?_
  refine i_229_152 (v := Value.int 0) hw12 e48 e49 rfl ?_
  refine i_229_153 ?_
  refine i_229_154 (fun _ => ?_) (fun h => absurd h (by decide))
  refine i_229_170 (x := a13) (c := a14) (lv2 := [(9, Value.int a14), (7, Value.int 0), (6, Value.int 0), (8, Value.int 1), (5, Value.int 2147483647), (0, Value.ref 128), (1, Value.int a0), (2, Value.int a1), (3, Value.int a2), (4, Value.int a3)]) rfl hg50 rfl ?_
  refine i_229_173 ?_
  refine i_229_56 (x := a14) rfl ?_
  refine i_229_58 (x := a1) rfl ?_
  refine i_229_59 (x := a2) rfl ?_
  refine i_229_60 (c := a4) hg6 ?_
  refine i_229_61 (fun h => absurd e51 (Int.not_lt.mpr h)) (fun _ => ?_)
  refine i_229_64 (x := 1) rfl ?_
  refine i_229_66 (x := 128) rfl ?_
  refine i_229_67 (v := Value.ref 154) hw11 rfl ?_
  refine i_229_70 (x := a14) rfl ?_
  refine i_229_72 (v := Value.int 0) hw12 e52 e53 rfl ?_
  refine i_229_73 (fun h => absurd h (by decide)) (fun _ => ?_)
  refine i_229_76 ?_
  refine i_229_77 ?_
  refine i_229_81 (c := 1) (by decide) ?_
  refine i_229_82 (lv2 := [(8, Value.int 1), (9, Value.int a14), (7, Value.int 0), (6, Value.int 0), (5, Value.int 2147483647), (0, Value.ref 128), (1, Value.int a0), (2, Value.int a1), (3, Value.int a2), (4, Value.int a3)]) rfl ?_
  refine i_229_84 (x := 0) rfl ?_
  refine i_229_86 (x := 128) rfl ?_
  refine i_229_87 (v := Value.ref 154) hw11 rfl ?_
  refine i_229_90 (x := a14) rfl ?_
  refine i_229_92 (v := Value.int 0) hw12 e52 e53 rfl ?_
  refine i_229_93 ?_
  refine i_229_94 (fun _ => ?_) (fun h => absurd h (by decide))
  refine i_229_111 ?_
  refine i_229_112 (c := 0) (by decide) ?_
  refine i_229_113 (lv2 := [(6, Value.int 0), (8, Value.int 1), (9, Value.int a14), (7, Value.int 0), (5, Value.int 2147483647), (0, Value.ref 128), (1, Value.int a0), (2, Value.int a1), (3, Value.int a2), (4, Value.int a3)]) rfl ?_
  refine i_229_115 (x := 0) rfl ?_
  refine i_229_117 (x := 128) rfl ?_
  refine i_229_118 (v := Value.ref 154) hw11 rfl ?_
  refine i_229_121 (x := a14) rfl ?_
  refine i_229_123 (v := Value.int 0) hw12 e52 e53 rfl ?_
  refine i_229_124 ?_
  refine i_229_125 (fun _ => ?_) (fun h => absurd h (by decide))
  refine i_229_142 ?_
  refine i_229_143 (c := 0) (by decide) ?_
  refine i_229_144 (lv2 := [(7, Value.int 0), (6, Value.int 0), (8, Value.int 1), (9, Value.int a14), (5, Value.int 2147483647), (0, Value.ref 128), (1, Value.int a0), (2, Value.int a1), (3, Value.int a2), (4, Value.int a3)]) rfl ?_
  refine i_229_146 (x := 128) rfl ?_
  refine i_229_147 (v := Value.ref 154) hw11 rfl ?_
  refine i_229_150 (x := a14) rfl ?_
  refine i_229_152 (v := Value.int 0) hw12 e52 e53 rfl ?_
  refine i_229_153 ?_
  refine i_229_154 (fun _ => ?_) (fun h => absurd h (by decide))
  refine i_229_170 (x := a14) (c := a15) (lv2 := [(9, Value.int a15), (7, Value.int 0), (6, Value.int 0), (8, Value.int 1), (5, Value.int 2147483647), (0, Value.ref 128), (1, Value.int a0), (2, Value.int a1), (3, Value.int a2), (4, Value.int a3)]) rfl hg54 rfl ?_
  refine i_229_173 ?_
  refine i_229_56 (x := a15) rfl ?_
  refine i_229_58 (x := a1) rfl ?_
  refine i_229_59 (x := a2) rfl ?_
  refine i_229_60 (c := a4) hg6 ?_
  refine i_229_61 (fun h => absurd e55 (Int.not_lt.mpr h)) (fun _ => ?_)
  refine i_229_64 (x := 1) rfl ?_
  refine i_229_66 (x := 128) rfl ?_
  refine i_229_67 (v := Value.ref 154) hw11 rfl ?_
  refine i_229_70 (x := a15) rfl ?_
  refine i_229_72 (v := Value.int 0) hw12 e56 e57 rfl ?_
  refine i_229_73 (fun h => absurd h (by decide)) (fun _ => ?_)
  refine i_229_76 ?_
  refine i_229_77 ?_
  refine i_229_81 (c := 1) (by decide) ?_
  refine i_229_82 (lv2 := [(8, Value.int 1), (9, Value.int a15), (7, Value.int 0), (6, Value.int 0), (5, Value.int 2147483647), (0, Value.ref 128), (1, Value.int a0), (2, Value.int a1), (3, Value.int a2), (4, Value.int a3)]) rfl ?_
  refine i_229_84 (x := 0) rfl ?_
  refine i_229_86 (x := 128) rfl ?_
  refine i_229_87 (v := Value.ref 154) hw11 rfl ?_
  refine i_229_90 (x := a15) rfl ?_
  refine i_229_92 (v := Value.int 0) hw12 e56 e57 rfl ?_
  refine i_229_93 ?_
  refine i_229_94 (fun _ => ?_) (fun h => absurd h (by decide))
  refine i_229_111 ?_
  refine i_229_112 (c := 0) (by decide) ?_
  refine i_229_113 (lv2 := [(6, Value.int 0), (8, Value.int 1), (9, Value.int a15), (7, Value.int 0), (5, Value.int 2147483647), (0, Value.ref 128), (1, Value.int a0), (2, Value.int a1), (3, Value.int a2), (4, Value.int a3)]) rfl ?_
  refine i_229_115 (x := 0) rfl ?_
  refine i_229_117 (x := 128) rfl ?_
  refine i_229_118 (v := Value.ref 154) hw11 rfl ?_
  refine i_229_121 (x := a15) rfl ?_
  refine i_229_123 (v := Value.int 0) hw12 e56 e57 rfl ?_
  refine i_229_124 ?_
  refine i_229_125 (fun _ => ?_) (fun h => absurd h (by decide))
  refine i_229_142 ?_
  refine i_229_143 (c := 0) (by decide) ?_
  refine i_229_144 (lv2 := [(7, Value.int 0), (6, Value.int 0), (8, Value.int 1), (9, Value.int a15), (5, Value.int 2147483647), (0, Value.ref 128), (1, Value.int a0), (2, Value.int a1), (3, Value.int a2), (4, Value.int a3)]) rfl ?_
  refine i_229_146 (x := 128) rfl ?_
  refine i_229_147 (v := Value.ref 154) hw11 rfl ?_
  refine i_229_150 (x := a15) rfl ?_
  refine i_229_152 (v := Value.int 0) hw12 e56 e57 rfl ?_
  refine i_229_153 ?_
  refine i_229_154 (fun _ => ?_) (fun h => absurd h (by decide))
  refine i_229_170 (x := a15) (c := a16) (lv2 := [(9, Value.int a16), (7, Value.int 0), (6, Value.int 0), (8, Value.int 1), (5, Value.int 2147483647), (0, Value.ref 128), (1, Value.int a0), (2, Value.int a1), (3, Value.int a2), (4, Value.int a3)]) rfl hg58 rfl ?_
  refine i_229_173 ?_
  refine i_229_56 (x := a16) rfl ?_
  refine i_229_58 (x := a1) rfl ?_
  refine i_229_59 (x := a2) rfl ?_
  refine i_229_60 (c := a4) hg6 ?_
  refine i_229_61 (fun h => absurd e59 (Int.not_lt.mpr h)) (fun _ => ?_)
  refine i_229_64 (x := 1) rfl ?_
  refine i_229_66 (x := 128) rfl ?_
  refine i_229_67 (v := Value.ref 154) hw11 rfl ?_
  refine i_229_70 (x := a16) rfl ?_
  refine i_229_72 (v := Value.int 0) hw12 e60 e61 rfl ?_
  refine i_229_73 (fun h => absurd h (by decide)) (fun _ => ?_)
  refine i_229_76 ?_
  refine i_229_77 ?_
  refine i_229_81 (c := 1) (by decide) ?_
  refine i_229_82 (lv2 := [(8, Value.int 1), (9, Value.int a16), (7, Value.int 0), (6, Value.int 0), (5, Value.int 2147483647), (0, Value.ref 128), (1, Value.int a0), (2, Value.int a1), (3, Value.int a2), (4, Value.int a3)]) rfl ?_
  refine i_229_84 (x := 0) rfl ?_
  refine i_229_86 (x := 128) rfl ?_
  refine i_229_87 (v := Value.ref 154) hw11 rfl ?_
  refine i_229_90 (x := a16) rfl ?_
  refine i_229_92 (v := Value.int 0) hw12 e60 e61 rfl ?_
  refine i_229_93 ?_
  refine i_229_94 (fun _ => ?_) (fun h => absurd h (by decide))
  refine i_229_111 ?_
  refine i_229_112 (c := 0) (by decide) ?_
  refine i_229_113 (lv2 := [(6, Value.int 0), (8, Value.int 1), (9, Value.int a16), (7, Value.int 0), (5, Value.int 2147483647), (0, Value.ref 128), (1, Value.int a0), (2, Value.int a1), (3, Value.int a2), (4, Value.int a3)]) rfl ?_
  refine i_229_115 (x := 0) rfl ?_
  refine i_229_117 (x := 128) rfl ?_
  refine i_229_118 (v := Value.ref 154) hw11 rfl ?_
  refine i_229_121 (x := a16) rfl ?_
  refine i_229_123 (v := Value.int 0) hw12 e60 e61 rfl ?_
  refine i_229_124 ?_
  refine i_229_125 (fun _ => ?_) (fun h => absurd h (by decide))
  refine i_229_142 ?_
  refine i_229_143 (c := 0) (by decide) ?_
  refine i_229_144 (lv2 := [(7, Value.int 0), (6, Value.int 0), (8, Value.int 1), (9, Value.int a16), (5, Value.int 2147483647), (0, Value.ref 128), (1, Value.int a0), (2, Value.int a1), (3, Value.int a2), (4, Value.int a3)]) rfl ?_
  refine i_229_146 (x := 128) rfl ?_
  refine i_229_147 (v := Value.ref 154) hw11 rfl ?_
  refine i_229_150 (x := a16) rfl ?_
  refine i_229_152 (v := Value.int 0) hw12 e60 e61 rfl ?_
  refine i_229_153 ?_
  refine i_229_154 (fun _ => ?_) (fun h => absurd h (by decide))
  refine i_229_170 (x := a16) (c := a17) (lv2 := [(9, Value.int a17), (7, Value.int 0), (6, Value.int 0), (8, Value.int 1), (5, Value.int 2147483647), (0, Value.ref 128), (1, Value.int a0), (2, Value.int a1), (3, Value.int a2), (4, Value.int a3)]) rfl hg62 rfl ?_
  refine i_229_173 ?_
  refine i_229_56 (x := a17) rfl ?_
  refine i_229_58 (x := a1) rfl ?_
  refine i_229_59 (x := a2) rfl ?_
  refine i_229_60 (c := a4) hg6 ?_
  refine i_229_61 (fun h => absurd e63 (Int.not_lt.mpr h)) (fun _ => ?_)
  refine i_229_64 (x := 1) rfl ?_
  refine i_229_66 (x := 128) rfl ?_
  refine i_229_67 (v := Value.ref 154) hw11 rfl ?_
  refine i_229_70 (x := a17) rfl ?_
  refine i_229_72 (v := Value.int 0) hw12 e64 e65 rfl ?_
  refine i_229_73 (fun h => absurd h (by decide)) (fun _ => ?_)
  refine i_229_76 ?_
  refine i_229_77 ?_
  refine i_229_81 (c := 1) (by decide) ?_
  refine i_229_82 (lv2 := [(8, Value.int 1), (9, Value.int a17), (7, Value.int 0), (6, Value.int 0), (5, Value.int 2147483647), (0, Value.ref 128), (1, Value.int a0), (2, Value.int a1), (3, Value.int a2), (4, Value.int a3)]) rfl ?_
  refine i_229_84 (x := 0) rfl ?_
  refine i_229_86 (x := 128) rfl ?_
  refine i_229_87 (v := Value.ref 154) hw11 rfl ?_
  refine i_229_90 (x := a17) rfl ?_
  refine i_229_92 (v := Value.int 0) hw12 e64 e65 rfl ?_
  refine i_229_93 ?_
  refine i_229_94 (fun _ => ?_) (fun h => absurd h (by decide))
  refine i_229_111 ?_
  refine i_229_112 (c := 0) (by decide) ?_
  refine i_229_113 (lv2 := [(6, Value.int 0), (8, Value.int 1), (9, Value.int a17), (7, Value.int 0), (5, Value.int 2147483647), (0, Value.ref 128), (1, Value.int a0), (2, Value.int a1), (3, Value.int a2), (4, Value.int a3)]) rfl ?_
  refine i_229_115 (x := 0) rfl ?_
  refine i_229_117 (x := 128) rfl ?_
  refine i_229_118 (v := Value.ref 154) hw11 rfl ?_
  refine i_229_121 (x := a17) rfl ?_
  refine i_229_123 (v := Value.int 0) hw12 e64 e65 rfl ?_
  refine i_229_124 ?_
  refine i_229_125 (fun _ => ?_) (fun h => absurd h (by decide))
  refine i_229_142 ?_
  refine i_229_143 (c := 0) (by decide) ?_
  refine i_229_144 (lv2 := [(7, Value.int 0), (6, Value.int 0), (8, Value.int 1), (9, Value.int a17), (5, Value.int 2147483647), (0, Value.ref 128), (1, Value.int a0), (2, Value.int a1), (3, Value.int a2), (4, Value.int a3)]) rfl ?_
  refine i_229_146 (x := 128) rfl ?_
  refine i_229_147 (v := Value.ref 154) hw11 rfl ?_
  refine i_229_150 (x := a17) rfl ?_
  refine i_229_152 (v := Value.int 0) hw12 e64 e65 rfl ?_
  refine i_229_153 ?_
  refine i_229_154 (fun _ => ?_) (fun h => absurd h (by decide))
  refine i_229_170 (x := a17) (c := a18) (lv2 := [(9, Value.int a18), (7, Value.int 0), (6, Value.int 0), (8, Value.int 1), (5, Value.int 2147483647), (0, Value.ref 128), (1, Value.int a0), (2, Value.int a1), (3, Value.int a2), (4, Value.int a3)]) rfl hg66 rfl ?_
  refine i_229_173 ?_
  refine i_229_56 (x := a18) rfl ?_
  refine i_229_58 (x := a1) rfl ?_
  refine i_229_59 (x := a2) rfl ?_
  refine i_229_60 (c := a4) hg6 ?_
  refine i_229_61 (fun _ => ?_) (fun h => absurd e67 (Int.not_le.mpr h))
  refine i_229_176 (x := 1) rfl ?_
  refine i_229_178 (fun h => absurd h (by decide)) (fun _ => ?_)
  refine i_229_181 (x := 128) rfl ?_
  refine i_229_182 (x := a0) rfl ?_
  refine i_229_183 ?_
  refine i_229_184 ?_
  refine i_229_185 hw11 (Nat.le_of_ble_eq_true rfl) (p_171_0 hw11 hw12 e0 e68 hw69) ?_
  exact i_229_188 ⟨rfl, rfl⟩
theorem p_228_9 {d : Nat} {w : xW} {a0 : Int32} {a1 : Int32} {a2 : Int32} {a3 : Int32} {a4 : Int32} {a5 : Int32} {a6 : Int32} {a7 : Int32} {a8 : Int32} {a9 : Int32} {a10 : Int32} {a11 : Int32} {a12 : Int32} {a13 : Int32} {a14 : Int32} {a15 : Int32} {a16 : Int32} {a17 : Int32} {a18 : Int32} (hw0 : w[128]? = some (Sum.inr (12, [Value.ref 129, Value.ref 131, Value.ref 133, Value.ref 135, Value.ref 137, Value.ref 139, Value.ref 141, Value.ref 143, Value.ref 145, Value.ref 147, Value.ref 149, Value.ref 151, Value.ref 153, Value.ref 154, Value.ref 155, Value.ref 156, Value.ref 157, Value.int (-16384), Value.int 16384, Value.int 0, Value.int 0, Value.int 0, Value.ref 158, Value.ref 159, Value.int 0, Value.int 0, Value.int 0, Value.int 0, Value.int 0, Value.int 0, Value.int 0, Value.int 0]))) (e1 : 0 ≤ a0.toInt) (e2 : a0.toInt ≤ 15) (e3 : 0 ≤ a1.toInt) (e4 : a1.toInt ≤ 15) (e5 : 1 ≤ a2.toInt) (e6 : a2.toInt ≤ 16) (hg7 : (a1 + a2) = a4) (e8 : a4.toInt ≤ 16) (e9 : 0 ≤ a3.toInt) (e10 : a3.toInt ≤ 4) (e11 : a1.toInt < a4.toInt) (hw12 : w[154]? = some (Sum.inl (0, 17, fun _ => Value.int 0))) (e13 : a1.toInt < 17) (hg14 : (a1 + (1 : Int32)) = a5) (e15 : a5.toInt < a4.toInt) (e16 : 0 ≤ a5.toInt) (e17 : a5.toInt < 17) (hg18 : (a5 + (1 : Int32)) = a6) (e19 : a6.toInt < a4.toInt) (e20 : 0 ≤ a6.toInt) (e21 : a6.toInt < 17) (hg22 : (a6 + (1 : Int32)) = a7) (e23 : a7.toInt < a4.toInt) (e24 : 0 ≤ a7.toInt) (e25 : a7.toInt < 17) (hg26 : (a7 + (1 : Int32)) = a8) (e27 : a8.toInt < a4.toInt) (e28 : 0 ≤ a8.toInt) (e29 : a8.toInt < 17) (hg30 : (a8 + (1 : Int32)) = a9) (e31 : a9.toInt < a4.toInt) (e32 : 0 ≤ a9.toInt) (e33 : a9.toInt < 17) (hg34 : (a9 + (1 : Int32)) = a10) (e35 : a10.toInt < a4.toInt) (e36 : 0 ≤ a10.toInt) (e37 : a10.toInt < 17) (hg38 : (a10 + (1 : Int32)) = a11) (e39 : a11.toInt < a4.toInt) (e40 : 0 ≤ a11.toInt) (e41 : a11.toInt < 17) (hg42 : (a11 + (1 : Int32)) = a12) (e43 : a12.toInt < a4.toInt) (e44 : 0 ≤ a12.toInt) (e45 : a12.toInt < 17) (hg46 : (a12 + (1 : Int32)) = a13) (e47 : a13.toInt < a4.toInt) (e48 : 0 ≤ a13.toInt) (e49 : a13.toInt < 17) (hg50 : (a13 + (1 : Int32)) = a14) (e51 : a14.toInt < a4.toInt) (e52 : 0 ≤ a14.toInt) (e53 : a14.toInt < 17) (hg54 : (a14 + (1 : Int32)) = a15) (e55 : a15.toInt < a4.toInt) (e56 : 0 ≤ a15.toInt) (e57 : a15.toInt < 17) (hg58 : (a15 + (1 : Int32)) = a16) (e59 : a16.toInt < a4.toInt) (e60 : 0 ≤ a16.toInt) (e61 : a16.toInt < 17) (hg62 : (a16 + (1 : Int32)) = a17) (e63 : a17.toInt < a4.toInt) (e64 : 0 ≤ a17.toInt) (e65 : a17.toInt < 17) (hg66 : (a17 + (1 : Int32)) = a18) (e67 : a4.toInt ≤ a18.toInt) (e68 : a0.toInt < 17) (hw69 : w[156]? = some (Sum.inl (2, 17, fun _ => Value.int 0))) : xRun (d + 3) 228 [Value.ref 128, Value.int a0, Value.int a1, Value.int a2, Value.int a3] w (.inl (some (Value.int 0))) (((w.set 128 (Sum.inr (12, [Value.ref 129, Value.ref 131, Value.ref 133, Value.ref 135, Value.ref 137, Value.ref 139, Value.ref 141, Value.ref 143, Value.ref 145, Value.ref 147, Value.ref 149, Value.ref 151, Value.ref 153, Value.ref 154, Value.ref 155, Value.ref 156, Value.ref 157, Value.int (-16384), Value.int 16384, Value.int 0, Value.int 0, Value.int 0, Value.ref 158, Value.ref 159, Value.int 0, Value.int 0, Value.int 0, Value.int 0, Value.int 0, Value.int 0, Value.int 0, Value.int 0]))).set 154 (Sum.inl (0, 17, xup (fun _ => Value.int 0) a0.toInt.toNat (Value.int 0)))).set 156 (Sum.inl (2, 17, xup (fun _ => Value.int 0) a0.toInt.toNat (Value.int 0)))) := by
  refine xRun.of ?_
  refine i_228_0 (x := 128) rfl ?_
  refine i_228_1 ?_
  refine i_228_2 (fs2 := [Value.ref 129, Value.ref 131, Value.ref 133, Value.ref 135, Value.ref 137, Value.ref 139, Value.ref 141, Value.ref 143, Value.ref 145, Value.ref 147, Value.ref 149, Value.ref 151, Value.ref 153, Value.ref 154, Value.ref 155, Value.ref 156, Value.ref 157, Value.int (-16384), Value.int 16384, Value.int 0, Value.int 0, Value.int 0, Value.ref 158, Value.ref 159, Value.int 0, Value.int 0, Value.int 0, Value.int 0, Value.int 0, Value.int 0, Value.int 0, Value.int 0]) hw0 (Nat.le_of_ble_eq_true rfl) rfl (by decide) ?_
  refine i_228_5 (x := 128) rfl ?_
  refine i_228_6 (x := a0) rfl ?_
  refine i_228_7 (x := a1) rfl ?_
  refine i_228_8 (x := a2) rfl ?_
  refine i_228_9 (x := a3) rfl ?_
  refine i_228_11 (xgs hw0) (Nat.le_of_ble_eq_true rfl) (p_229_9 e1 e2 e3 e4 e5 e6 hg7 e8 e9 e10 e11 (xgs hw0) (xgn (by decide) hw12) e13 hg14 e15 e16 e17 hg18 e19 e20 e21 hg22 e23 e24 e25 hg26 e27 e28 e29 hg30 e31 e32 e33 hg34 e35 e36 e37 hg38 e39 e40 e41 hg42 e43 e44 e45 hg46 e47 e48 e49 hg50 e51 e52 e53 hg54 e55 e56 e57 hg58 e59 e60 e61 hg62 e63 e64 e65 hg66 e67 e68 (xgn (by decide) hw69)) ?_
  exact i_228_14 ⟨rfl, rfl⟩
theorem g_10_9 {z0 z1 z2 z3 z4 z5 z6 z7 z8 z9 z10 z11 z12 z13 z14 z15 z16 z17 z18 z19 : Int} (h0 : z0 = 10) (c0 : 0 ≤ z1) (c1 : z1 < 16) (c2 : 0 ≤ z2) (c3 : z2 < 16) (c4 : 1 ≤ z3) (c5 : z3 ≤ 16) (nN6 : z4 = z2 + z3) (c7 : z4 ≤ 16) (c8 : 0 ≤ z5) (c9 : z5 ≤ 4) (nN10 : z6 = z2 + 1) (c11 : z6 < z4) (nN12 : z7 = z6 + 1) (c13 : z7 < z4) (nN14 : z8 = z7 + 1) (c15 : z8 < z4) (nN16 : z9 = z8 + 1) (c17 : z9 < z4) (nN18 : z10 = z9 + 1) (c19 : z10 < z4) (nN20 : z11 = z10 + 1) (c21 : z11 < z4) (nN22 : z12 = z11 + 1) (c23 : z12 < z4) (nN24 : z13 = z12 + 1) (c25 : z13 < z4) (nN26 : z14 = z13 + 1) (c27 : z14 < z4) (nN28 : z15 = z14 + 1) (c29 : z15 < z4) (nN30 : z16 = z15 + 1) (c31 : z16 < z4) (nN32 : z17 = z16 + 1) (c33 : z17 < z4) (nN34 : z18 = z17 + 1) (c35 : z18 < z4) (nN36 : z19 = z18 + 1) (c37 : z4 ≤ z19) : ((((((((0 ≤ z1) ∧ (z1 < 16)) ∧ ((0 ≤ z2) ∧ (z2 < 16))) ∧ (((1 ≤ z3) ∧ (z3 ≤ 16)) ∧ ((z4 ≤ 16) ∧ (0 ≤ z5)))) ∧ ((((z5 ≤ 4) ∧ (z2 < z4)) ∧ ((z2.toNat < 16) ∧ (19 ≠ (30 + 3 * z2.toNat)))) ∧ (((22 ≠ (30 + 3 * z2.toNat)) ∧ (20 ≠ (30 + 3 * z2.toNat))) ∧ ((z6 < z4) ∧ (0 ≤ z6))))) ∧ (((((z6 < 16) ∧ (z6.toNat < 16)) ∧ ((19 ≠ (30 + 3 * z6.toNat)) ∧ (22 ≠ (30 + 3 * z6.toNat)))) ∧ (((20 ≠ (30 + 3 * z6.toNat)) ∧ (z7 < z4)) ∧ ((0 ≤ z7) ∧ (z7 < 16)))) ∧ ((((z7.toNat < 16) ∧ (19 ≠ (30 + 3 * z7.toNat))) ∧ ((22 ≠ (30 + 3 * z7.toNat)) ∧ (20 ≠ (30 + 3 * z7.toNat)))) ∧ (((z8 < z4) ∧ (0 ≤ z8)) ∧ ((z8 < 16) ∧ ((z8.toNat < 16) ∧ (19 ≠ (30 + 3 * z8.toNat)))))))) ∧ ((((((22 ≠ (30 + 3 * z8.toNat)) ∧ (20 ≠ (30 + 3 * z8.toNat))) ∧ ((z9 < z4) ∧ (0 ≤ z9))) ∧ (((z9 < 16) ∧ (z9.toNat < 16)) ∧ ((19 ≠ (30 + 3 * z9.toNat)) ∧ (22 ≠ (30 + 3 * z9.toNat))))) ∧ ((((20 ≠ (30 + 3 * z9.toNat)) ∧ (z10 < z4)) ∧ ((0 ≤ z10) ∧ (z10 < 16))) ∧ (((z10.toNat < 16) ∧ (19 ≠ (30 + 3 * z10.toNat))) ∧ ((22 ≠ (30 + 3 * z10.toNat)) ∧ (20 ≠ (30 + 3 * z10.toNat)))))) ∧ (((((z11 < z4) ∧ (0 ≤ z11)) ∧ ((z11 < 16) ∧ (z11.toNat < 16))) ∧ (((19 ≠ (30 + 3 * z11.toNat)) ∧ (22 ≠ (30 + 3 * z11.toNat))) ∧ ((20 ≠ (30 + 3 * z11.toNat)) ∧ (z12 < z4)))) ∧ ((((0 ≤ z12) ∧ (z12 < 16)) ∧ ((z12.toNat < 16) ∧ (19 ≠ (30 + 3 * z12.toNat)))) ∧ (((22 ≠ (30 + 3 * z12.toNat)) ∧ (20 ≠ (30 + 3 * z12.toNat))) ∧ ((z13 < z4) ∧ ((0 ≤ z13) ∧ (z13 < 16)))))))) ∧ (((((((z13.toNat < 16) ∧ (19 ≠ (30 + 3 * z13.toNat))) ∧ ((22 ≠ (30 + 3 * z13.toNat)) ∧ (20 ≠ (30 + 3 * z13.toNat)))) ∧ (((z14 < z4) ∧ (0 ≤ z14)) ∧ ((z14 < 16) ∧ (z14.toNat < 16)))) ∧ ((((19 ≠ (30 + 3 * z14.toNat)) ∧ (22 ≠ (30 + 3 * z14.toNat))) ∧ ((20 ≠ (30 + 3 * z14.toNat)) ∧ (z15 < z4))) ∧ (((0 ≤ z15) ∧ (z15 < 16)) ∧ ((z15.toNat < 16) ∧ (19 ≠ (30 + 3 * z15.toNat)))))) ∧ (((((22 ≠ (30 + 3 * z15.toNat)) ∧ (20 ≠ (30 + 3 * z15.toNat))) ∧ ((z16 < z4) ∧ (0 ≤ z16))) ∧ (((z16 < 16) ∧ (z16.toNat < 16)) ∧ ((19 ≠ (30 + 3 * z16.toNat)) ∧ (22 ≠ (30 + 3 * z16.toNat))))) ∧ ((((20 ≠ (30 + 3 * z16.toNat)) ∧ (z17 < z4)) ∧ ((0 ≤ z17) ∧ (z17 < 16))) ∧ (((z17.toNat < 16) ∧ (19 ≠ (30 + 3 * z17.toNat))) ∧ ((22 ≠ (30 + 3 * z17.toNat)) ∧ ((20 ≠ (30 + 3 * z17.toNat)) ∧ (z18 < z4))))))) ∧ ((((((0 ≤ z18) ∧ (z18 < 16)) ∧ ((z18.toNat < 16) ∧ (19 ≠ (30 + 3 * z18.toNat)))) ∧ (((22 ≠ (30 + 3 * z18.toNat)) ∧ (20 ≠ (30 + 3 * z18.toNat))) ∧ ((z4 ≤ z19) ∧ (z1.toNat < 16)))) ∧ ((((19 ≠ (30 + 3 * z1.toNat)) ∧ (22 ≠ (30 + 3 * z1.toNat))) ∧ ((20 ≠ (30 + 3 * z1.toNat)) ∧ (7 ≤ (30 + 3 * z1.toNat)))) ∧ ((((30 + 3 * z1.toNat) ≠ 194) ∧ ((30 + 3 * z1.toNat) ≠ 0)) ∧ (((30 + 3 * z1.toNat) ≠ 128) ∧ ((z1 ≤ 15) ∧ (z2 ≤ 15)))))) ∧ ((((((30 + 3 * z1.toNat) ≠ 154) ∧ (z2 < 17)) ∧ ((z6 < 17) ∧ (z7 < 17))) ∧ (((z8 < 17) ∧ (z9 < 17)) ∧ ((z10 < 17) ∧ (z11 < 17)))) ∧ ((((z12 < 17) ∧ (z13 < 17)) ∧ ((z14 < 17) ∧ (z15 < 17))) ∧ (((z16 < 17) ∧ (z17 < 17)) ∧ ((z18 < 17) ∧ ((z1 < 17) ∧ ((30 + 3 * z1.toNat) ≠ 156))))))))) := by
  subst nN36; subst nN34; subst nN32; subst nN30; subst nN28; subst nN26; subst nN24; subst nN22; subst nN20; subst nN18; subst nN16; subst nN14; subst nN12; subst nN10; subst nN6; exact ⟨⟨⟨⟨⟨⟨⟨by omega, by omega⟩, ⟨by omega, by omega⟩⟩, ⟨⟨by omega, by omega⟩, ⟨by omega, by omega⟩⟩⟩, ⟨⟨⟨by omega, by omega⟩, ⟨by omega, by omega⟩⟩, ⟨⟨by omega, by omega⟩, ⟨by omega, by omega⟩⟩⟩⟩, ⟨⟨⟨⟨by omega, by omega⟩, ⟨by omega, by omega⟩⟩, ⟨⟨by omega, by omega⟩, ⟨by omega, by omega⟩⟩⟩, ⟨⟨⟨by omega, by omega⟩, ⟨by omega, by omega⟩⟩, ⟨⟨by omega, by omega⟩, ⟨by omega, ⟨by omega, by omega⟩⟩⟩⟩⟩⟩, ⟨⟨⟨⟨⟨by omega, by omega⟩, ⟨by omega, by omega⟩⟩, ⟨⟨by omega, by omega⟩, ⟨by omega, by omega⟩⟩⟩, ⟨⟨⟨by omega, by omega⟩, ⟨by omega, by omega⟩⟩, ⟨⟨by omega, by omega⟩, ⟨by omega, by omega⟩⟩⟩⟩, ⟨⟨⟨⟨by omega, by omega⟩, ⟨by omega, by omega⟩⟩, ⟨⟨by omega, by omega⟩, ⟨by omega, by omega⟩⟩⟩, ⟨⟨⟨by omega, by omega⟩, ⟨by omega, by omega⟩⟩, ⟨⟨by omega, by omega⟩, ⟨by omega, ⟨by omega, by omega⟩⟩⟩⟩⟩⟩⟩, ⟨⟨⟨⟨⟨⟨by omega, by omega⟩, ⟨by omega, by omega⟩⟩, ⟨⟨by omega, by omega⟩, ⟨by omega, by omega⟩⟩⟩, ⟨⟨⟨by omega, by omega⟩, ⟨by omega, by omega⟩⟩, ⟨⟨by omega, by omega⟩, ⟨by omega, by omega⟩⟩⟩⟩, ⟨⟨⟨⟨by omega, by omega⟩, ⟨by omega, by omega⟩⟩, ⟨⟨by omega, by omega⟩, ⟨by omega, by omega⟩⟩⟩, ⟨⟨⟨by omega, by omega⟩, ⟨by omega, by omega⟩⟩, ⟨⟨by omega, by omega⟩, ⟨by omega, ⟨by omega, by omega⟩⟩⟩⟩⟩⟩, ⟨⟨⟨⟨⟨by omega, by omega⟩, ⟨by omega, by omega⟩⟩, ⟨⟨by omega, by omega⟩, ⟨by omega, by omega⟩⟩⟩, ⟨⟨⟨by omega, by omega⟩, ⟨by omega, by omega⟩⟩, ⟨⟨by omega, by omega⟩, ⟨by omega, ⟨by omega, by omega⟩⟩⟩⟩⟩, ⟨⟨⟨⟨by omega, by omega⟩, ⟨by omega, by omega⟩⟩, ⟨⟨by omega, by omega⟩, ⟨by omega, by omega⟩⟩⟩, ⟨⟨⟨by omega, by omega⟩, ⟨by omega, by omega⟩⟩, ⟨⟨by omega, by omega⟩, ⟨by omega, ⟨by omega, by omega⟩⟩⟩⟩⟩⟩⟩⟩
theorem o_10_9 {d : Nat} {xs : Nat → Int32} {N6 N10 N12 N14 N16 N18 N20 N22 N24 N26 N28 N30 N32 N34 N36 : Int32} (h0 : ((xs 0) &&& (31 : Int32)).toInt = 10) (c0 : 0 ≤ (xs 1).toInt) (c1 : (xs 1).toInt < 16) (c2 : 0 ≤ (xs 2).toInt) (c3 : (xs 2).toInt < 16) (c4 : 1 ≤ (xs 3).toInt) (c5 : (xs 3).toInt ≤ 16) (eN6 : ((xs 2) + (xs 3)) = N6) (nN6 : N6.toInt = (xs 2).toInt + (xs 3).toInt) (c7 : N6.toInt ≤ 16) (c8 : 0 ≤ (xs 4).toInt) (c9 : (xs 4).toInt ≤ 4) (eN10 : ((xs 2) + (1 : Int32)) = N10) (nN10 : N10.toInt = (xs 2).toInt + 1) (c11 : N10.toInt < N6.toInt) (eN12 : (N10 + (1 : Int32)) = N12) (nN12 : N12.toInt = N10.toInt + 1) (c13 : N12.toInt < N6.toInt) (eN14 : (N12 + (1 : Int32)) = N14) (nN14 : N14.toInt = N12.toInt + 1) (c15 : N14.toInt < N6.toInt) (eN16 : (N14 + (1 : Int32)) = N16) (nN16 : N16.toInt = N14.toInt + 1) (c17 : N16.toInt < N6.toInt) (eN18 : (N16 + (1 : Int32)) = N18) (nN18 : N18.toInt = N16.toInt + 1) (c19 : N18.toInt < N6.toInt) (eN20 : (N18 + (1 : Int32)) = N20) (nN20 : N20.toInt = N18.toInt + 1) (c21 : N20.toInt < N6.toInt) (eN22 : (N20 + (1 : Int32)) = N22) (nN22 : N22.toInt = N20.toInt + 1) (c23 : N22.toInt < N6.toInt) (eN24 : (N22 + (1 : Int32)) = N24) (nN24 : N24.toInt = N22.toInt + 1) (c25 : N24.toInt < N6.toInt) (eN26 : (N24 + (1 : Int32)) = N26) (nN26 : N26.toInt = N24.toInt + 1) (c27 : N26.toInt < N6.toInt) (eN28 : (N26 + (1 : Int32)) = N28) (nN28 : N28.toInt = N26.toInt + 1) (c29 : N28.toInt < N6.toInt) (eN30 : (N28 + (1 : Int32)) = N30) (nN30 : N30.toInt = N28.toInt + 1) (c31 : N30.toInt < N6.toInt) (eN32 : (N30 + (1 : Int32)) = N32) (nN32 : N32.toInt = N30.toInt + 1) (c33 : N32.toInt < N6.toInt) (eN34 : (N32 + (1 : Int32)) = N34) (nN34 : N34.toInt = N32.toInt + 1) (c35 : N34.toInt < N6.toInt) (eN36 : (N34 + (1 : Int32)) = N36) (nN36 : N36.toInt = N34.toInt + 1) (c37 : N6.toInt ≤ N36.toInt) : ∃ w1, xEv (d + 20) 287 23 [(4, Value.int 0), (3, Value.ref 194), (2, Value.ref 128), (1, Value.ref 7), (0, Value.ref 0)] [] (W0 6 xs) (fun o' w' => o' = .inl (some (Value.int 1)) ∧ w' = w1) ∧ w1.length ≤ 220 ∧ xsz w1 ≤ 200000 := by
  have G : id ((((((((0 ≤ (xs 1).toInt) ∧ ((xs 1).toInt < 16)) ∧ ((0 ≤ (xs 2).toInt) ∧ ((xs 2).toInt < 16))) ∧ (((1 ≤ (xs 3).toInt) ∧ ((xs 3).toInt ≤ 16)) ∧ ((N6.toInt ≤ 16) ∧ (0 ≤ (xs 4).toInt)))) ∧ (((((xs 4).toInt ≤ 4) ∧ ((xs 2).toInt < N6.toInt)) ∧ (((xs 2).toInt.toNat < 16) ∧ (19 ≠ (30 + 3 * (xs 2).toInt.toNat)))) ∧ (((22 ≠ (30 + 3 * (xs 2).toInt.toNat)) ∧ (20 ≠ (30 + 3 * (xs 2).toInt.toNat))) ∧ ((N10.toInt < N6.toInt) ∧ (0 ≤ N10.toInt))))) ∧ (((((N10.toInt < 16) ∧ (N10.toInt.toNat < 16)) ∧ ((19 ≠ (30 + 3 * N10.toInt.toNat)) ∧ (22 ≠ (30 + 3 * N10.toInt.toNat)))) ∧ (((20 ≠ (30 + 3 * N10.toInt.toNat)) ∧ (N12.toInt < N6.toInt)) ∧ ((0 ≤ N12.toInt) ∧ (N12.toInt < 16)))) ∧ ((((N12.toInt.toNat < 16) ∧ (19 ≠ (30 + 3 * N12.toInt.toNat))) ∧ ((22 ≠ (30 + 3 * N12.toInt.toNat)) ∧ (20 ≠ (30 + 3 * N12.toInt.toNat)))) ∧ (((N14.toInt < N6.toInt) ∧ (0 ≤ N14.toInt)) ∧ ((N14.toInt < 16) ∧ ((N14.toInt.toNat < 16) ∧ (19 ≠ (30 + 3 * N14.toInt.toNat)))))))) ∧ ((((((22 ≠ (30 + 3 * N14.toInt.toNat)) ∧ (20 ≠ (30 + 3 * N14.toInt.toNat))) ∧ ((N16.toInt < N6.toInt) ∧ (0 ≤ N16.toInt))) ∧ (((N16.toInt < 16) ∧ (N16.toInt.toNat < 16)) ∧ ((19 ≠ (30 + 3 * N16.toInt.toNat)) ∧ (22 ≠ (30 + 3 * N16.toInt.toNat))))) ∧ ((((20 ≠ (30 + 3 * N16.toInt.toNat)) ∧ (N18.toInt < N6.toInt)) ∧ ((0 ≤ N18.toInt) ∧ (N18.toInt < 16))) ∧ (((N18.toInt.toNat < 16) ∧ (19 ≠ (30 + 3 * N18.toInt.toNat))) ∧ ((22 ≠ (30 + 3 * N18.toInt.toNat)) ∧ (20 ≠ (30 + 3 * N18.toInt.toNat)))))) ∧ (((((N20.toInt < N6.toInt) ∧ (0 ≤ N20.toInt)) ∧ ((N20.toInt < 16) ∧ (N20.toInt.toNat < 16))) ∧ (((19 ≠ (30 + 3 * N20.toInt.toNat)) ∧ (22 ≠ (30 + 3 * N20.toInt.toNat))) ∧ ((20 ≠ (30 + 3 * N20.toInt.toNat)) ∧ (N22.toInt < N6.toInt)))) ∧ ((((0 ≤ N22.toInt) ∧ (N22.toInt < 16)) ∧ ((N22.toInt.toNat < 16) ∧ (19 ≠ (30 + 3 * N22.toInt.toNat)))) ∧ (((22 ≠ (30 + 3 * N22.toInt.toNat)) ∧ (20 ≠ (30 + 3 * N22.toInt.toNat))) ∧ ((N24.toInt < N6.toInt) ∧ ((0 ≤ N24.toInt) ∧ (N24.toInt < 16)))))))) ∧ (((((((N24.toInt.toNat < 16) ∧ (19 ≠ (30 + 3 * N24.toInt.toNat))) ∧ ((22 ≠ (30 + 3 * N24.toInt.toNat)) ∧ (20 ≠ (30 + 3 * N24.toInt.toNat)))) ∧ (((N26.toInt < N6.toInt) ∧ (0 ≤ N26.toInt)) ∧ ((N26.toInt < 16) ∧ (N26.toInt.toNat < 16)))) ∧ ((((19 ≠ (30 + 3 * N26.toInt.toNat)) ∧ (22 ≠ (30 + 3 * N26.toInt.toNat))) ∧ ((20 ≠ (30 + 3 * N26.toInt.toNat)) ∧ (N28.toInt < N6.toInt))) ∧ (((0 ≤ N28.toInt) ∧ (N28.toInt < 16)) ∧ ((N28.toInt.toNat < 16) ∧ (19 ≠ (30 + 3 * N28.toInt.toNat)))))) ∧ (((((22 ≠ (30 + 3 * N28.toInt.toNat)) ∧ (20 ≠ (30 + 3 * N28.toInt.toNat))) ∧ ((N30.toInt < N6.toInt) ∧ (0 ≤ N30.toInt))) ∧ (((N30.toInt < 16) ∧ (N30.toInt.toNat < 16)) ∧ ((19 ≠ (30 + 3 * N30.toInt.toNat)) ∧ (22 ≠ (30 + 3 * N30.toInt.toNat))))) ∧ ((((20 ≠ (30 + 3 * N30.toInt.toNat)) ∧ (N32.toInt < N6.toInt)) ∧ ((0 ≤ N32.toInt) ∧ (N32.toInt < 16))) ∧ (((N32.toInt.toNat < 16) ∧ (19 ≠ (30 + 3 * N32.toInt.toNat))) ∧ ((22 ≠ (30 + 3 * N32.toInt.toNat)) ∧ ((20 ≠ (30 + 3 * N32.toInt.toNat)) ∧ (N34.toInt < N6.toInt))))))) ∧ ((((((0 ≤ N34.toInt) ∧ (N34.toInt < 16)) ∧ ((N34.toInt.toNat < 16) ∧ (19 ≠ (30 + 3 * N34.toInt.toNat)))) ∧ (((22 ≠ (30 + 3 * N34.toInt.toNat)) ∧ (20 ≠ (30 + 3 * N34.toInt.toNat))) ∧ ((N6.toInt ≤ N36.toInt) ∧ ((xs 1).toInt.toNat < 16)))) ∧ ((((19 ≠ (30 + 3 * (xs 1).toInt.toNat)) ∧ (22 ≠ (30 + 3 * (xs 1).toInt.toNat))) ∧ ((20 ≠ (30 + 3 * (xs 1).toInt.toNat)) ∧ (7 ≤ (30 + 3 * (xs 1).toInt.toNat)))) ∧ ((((30 + 3 * (xs 1).toInt.toNat) ≠ 194) ∧ ((30 + 3 * (xs 1).toInt.toNat) ≠ 0)) ∧ (((30 + 3 * (xs 1).toInt.toNat) ≠ 128) ∧ (((xs 1).toInt ≤ 15) ∧ ((xs 2).toInt ≤ 15)))))) ∧ ((((((30 + 3 * (xs 1).toInt.toNat) ≠ 154) ∧ ((xs 2).toInt < 17)) ∧ ((N10.toInt < 17) ∧ (N12.toInt < 17))) ∧ (((N14.toInt < 17) ∧ (N16.toInt < 17)) ∧ ((N18.toInt < 17) ∧ (N20.toInt < 17)))) ∧ ((((N22.toInt < 17) ∧ (N24.toInt < 17)) ∧ ((N26.toInt < 17) ∧ (N28.toInt < 17))) ∧ (((N30.toInt < 17) ∧ (N32.toInt < 17)) ∧ ((N34.toInt < 17) ∧ (((xs 1).toInt < 17) ∧ ((30 + 3 * (xs 1).toInt.toNat) ≠ 156))))))))) := g_10_9 h0 c0 c1 c2 c3 c4 c5 nN6 c7 c8 c9 nN10 c11 nN12 c13 nN14 c15 nN16 c17 nN18 c19 nN20 c21 nN22 c23 nN24 c25 nN26 c27 nN28 c29 nN30 c31 nN32 c33 nN34 c35 nN36 c37
  refine ⟨(((((((((((((((((((((((W0 6 xs).set 20 (Sum.inr (3, [Value.ref 21, Value.int 0]))).set 22 (Sum.inr (3, [Value.ref 23, Value.int 0]))).set 19 (Sum.inr (5, [Value.ref 20, Value.ref 22, Value.ref 24, Value.ref 26, Value.int 0, Value.int 0, Value.int 0, Value.int 0, Value.int 0, Value.int 0, Value.int 0, Value.int 0]))).set 19 (Sum.inr (5, [Value.ref 20, Value.ref 22, Value.ref 24, Value.ref 26, Value.int 0, Value.int 1, Value.int 0, Value.int 0, Value.int 0, Value.int 0, Value.int 0, Value.int 0]))).set 19 (Sum.inr (5, [Value.ref 20, Value.ref 22, Value.ref 24, Value.ref 26, Value.int 0, Value.int 1, Value.int 0, Value.int 0, Value.int 0, Value.int 0, Value.int 0, Value.int 0]))).set 19 (Sum.inr (5, [Value.ref 20, Value.ref 22, Value.ref 24, Value.ref 26, Value.int 0, Value.int 1, Value.int 0, Value.int 0, Value.int 0, Value.int 0, Value.int 0, Value.int 0]))).set 19 (Sum.inr (5, [Value.ref 20, Value.ref 22, Value.ref 24, Value.ref 26, Value.int 0, Value.int 1, Value.int 0, Value.int 0, Value.int 0, Value.int 0, Value.int 0, Value.int 0]))).set 19 (Sum.inr (5, [Value.ref 20, Value.ref 22, Value.ref 24, Value.ref 26, Value.int 0, Value.int 1, Value.int 0, Value.int 0, Value.int 0, Value.int 0, Value.int 0, Value.int 0]))).set 19 (Sum.inr (5, [Value.ref 20, Value.ref 22, Value.ref 24, Value.ref 26, Value.int 0, Value.int 1, Value.int 0, Value.int 0, Value.int 0, Value.int 0, Value.int 0, Value.int 0]))).set 19 (Sum.inr (5, [Value.ref 20, Value.ref 22, Value.ref 24, Value.ref 26, Value.int 0, Value.int 1, Value.int 0, Value.int 0, Value.int 0, Value.int 0, Value.int 0, Value.int 0]))).set 19 (Sum.inr (5, [Value.ref 20, Value.ref 22, Value.ref 24, Value.ref 26, Value.int 0, Value.int 1, Value.int 0, Value.int 0, Value.int 0, Value.int 0, Value.int 0, Value.int 0]))).set 19 (Sum.inr (5, [Value.ref 20, Value.ref 22, Value.ref 24, Value.ref 26, Value.int 0, Value.int 1, Value.int 0, Value.int 0, Value.int 0, Value.int 0, Value.int 0, Value.int 0]))).set 19 (Sum.inr (5, [Value.ref 20, Value.ref 22, Value.ref 24, Value.ref 26, Value.int 0, Value.int 1, Value.int 0, Value.int 0, Value.int 0, Value.int 0, Value.int 0, Value.int 0]))).set 19 (Sum.inr (5, [Value.ref 20, Value.ref 22, Value.ref 24, Value.ref 26, Value.int 0, Value.int 1, Value.int 0, Value.int 0, Value.int 0, Value.int 0, Value.int 0, Value.int 0]))).set 19 (Sum.inr (5, [Value.ref 20, Value.ref 22, Value.ref 24, Value.ref 26, Value.int 0, Value.int 1, Value.int 0, Value.int 0, Value.int 0, Value.int 0, Value.int 0, Value.int 0]))).set 19 (Sum.inr (5, [Value.ref 20, Value.ref 22, Value.ref 24, Value.ref 26, Value.int 0, Value.int 1, Value.int 0, Value.int 0, Value.int 0, Value.int 0, Value.int 0, Value.int 0]))).set 19 (Sum.inr (5, [Value.ref 20, Value.ref 22, Value.ref 24, Value.ref 26, Value.int 0, Value.int 1, Value.int 0, Value.int 0, Value.int 0, Value.int 0, Value.int 0, Value.int 0]))).set (30 + 3 * (xs 1).toInt.toNat) (Sum.inr (2, [Value.int 64, Value.int 0, Value.int 0, Value.int 0, Value.ref (31 + 3 * (xs 1).toInt.toNat)]))).set 194 (Sum.inl (3, 1, xup (fun _ => Value.long 0) (0 : Int32).toInt.toNat (Value.long 0)))).set 128 (Sum.inr (12, [Value.ref 129, Value.ref 131, Value.ref 133, Value.ref 135, Value.ref 137, Value.ref 139, Value.ref 141, Value.ref 143, Value.ref 145, Value.ref 147, Value.ref 149, Value.ref 151, Value.ref 153, Value.ref 154, Value.ref 155, Value.ref 156, Value.ref 157, Value.int (-16384), Value.int 16384, Value.int 0, Value.int 0, Value.int 0, Value.ref 158, Value.ref 159, Value.int 0, Value.int 0, Value.int 0, Value.int 0, Value.int 0, Value.int 0, Value.int 0, Value.int 0]))).set 154 (Sum.inl (0, 17, xup (fun _ => Value.int 0) (xs 1).toInt.toNat (Value.int 0)))).set 156 (Sum.inl (2, 17, xup (fun _ => Value.int 0) (xs 1).toInt.toNat (Value.int 0)))), ?_, (show xLs _ 220 200000 from ?_)⟩
  · refine i_287_23 (x := 0) rfl ?_
    refine i_287_25 (x := 0) rfl ?_
    refine i_287_26 (c := 6) W0_0 (by decide) ?_
    refine i_287_27 ?_
    refine i_287_29 (c := 0) (by decide) ?_
    refine i_287_30 (fun h => absurd h (by decide)) (fun _ => ?_)
    refine i_287_33 (x := 0) rfl ?_
    refine i_287_34 (x := 0) rfl ?_
    refine i_287_36 (v := Value.int (xs 0)) W0_0 (by decide) (by decide) rfl ?_
    refine i_287_37 ?_
    refine i_287_39 (c := 10) (show ((xs 0) &&& (31 : Int32)) = 10 from (xge_c (n := 10) h0 rfl)) ?_
    refine i_287_40_10 rfl ?_
    refine i_287_1057 (x := 7) rfl ?_
    refine i_287_1058 (x := 0) rfl ?_
    refine i_287_1059 (x := 0) rfl ?_
    refine i_287_1061 ?_
    refine i_287_1062 (c := 1) (by decide) ?_
    refine i_287_1063 (v := Value.int (xs 1)) W0_0 (by decide) (by decide) rfl ?_
    refine i_287_1064 (x := 0) rfl ?_
    refine i_287_1065 (x := 0) rfl ?_
    refine i_287_1067 ?_
    refine i_287_1068 (c := 2) (by decide) ?_
    refine i_287_1069 (v := Value.int (xs 2)) W0_0 (by decide) (by decide) rfl ?_
    refine i_287_1070 (x := 0) rfl ?_
    refine i_287_1071 (x := 0) rfl ?_
    refine i_287_1073 ?_
    refine i_287_1074 (c := 3) (by decide) ?_
    refine i_287_1075 (v := Value.int (xs 3)) W0_0 (by decide) (by decide) rfl ?_
    refine i_287_1076 (x := 0) rfl ?_
    refine i_287_1077 (x := 0) rfl ?_
    refine i_287_1079 ?_
    refine i_287_1080 (c := 4) (by decide) ?_
    refine i_287_1081 (v := Value.int (xs 4)) W0_0 (by decide) (by decide) rfl ?_
    refine i_287_1082 (x := 194) rfl ?_
    refine i_287_1083 (Nat.le_of_ble_eq_true rfl) (p_111_9 W0_7 (G.1.1.1.1.1.1.1) (G.1.1.1.1.1.1.2) (G.1.1.1.1.1.2.1) (G.1.1.1.1.1.2.2) (G.1.1.1.1.2.1.1) (G.1.1.1.1.2.1.2) (show ((xs 2) + (xs 3)) = N6 from eN6) (G.1.1.1.1.2.2.1) (G.1.1.1.1.2.2.2) (G.1.1.1.2.1.1.1) W0_19 W0_20 W0_22 (G.1.1.1.2.1.1.2) W0_8 (greg_at G.1.1.1.2.1.2.1) (G.1.1.1.2.1.2.2) (G.1.1.1.2.2.1.1) (G.1.1.1.2.2.1.2) (W0_reg G.1.1.1.2.1.2.1) (show ((xs 2) + (1 : Int32)) = N10 from eN10) (G.1.1.1.2.2.2.1) (G.1.1.1.2.2.2.2) (G.1.1.2.1.1.1.1) (greg_at G.1.1.2.1.1.1.2) (G.1.1.2.1.1.2.1) (G.1.1.2.1.1.2.2) (G.1.1.2.1.2.1.1) (W0_reg G.1.1.2.1.1.1.2) (show (N10 + (1 : Int32)) = N12 from eN12) (G.1.1.2.1.2.1.2) (G.1.1.2.1.2.2.1) (G.1.1.2.1.2.2.2) (greg_at G.1.1.2.2.1.1.1) (G.1.1.2.2.1.1.2) (G.1.1.2.2.1.2.1) (G.1.1.2.2.1.2.2) (W0_reg G.1.1.2.2.1.1.1) (show (N12 + (1 : Int32)) = N14 from eN14) (G.1.1.2.2.2.1.1) (G.1.1.2.2.2.1.2) (G.1.1.2.2.2.2.1) (greg_at G.1.1.2.2.2.2.2.1) (G.1.1.2.2.2.2.2.2) (G.1.2.1.1.1.1.1) (G.1.2.1.1.1.1.2) (W0_reg G.1.1.2.2.2.2.2.1) (show (N14 + (1 : Int32)) = N16 from eN16) (G.1.2.1.1.1.2.1) (G.1.2.1.1.1.2.2) (G.1.2.1.1.2.1.1) (greg_at G.1.2.1.1.2.1.2) (G.1.2.1.1.2.2.1) (G.1.2.1.1.2.2.2) (G.1.2.1.2.1.1.1) (W0_reg G.1.2.1.1.2.1.2) (show (N16 + (1 : Int32)) = N18 from eN18) (G.1.2.1.2.1.1.2) (G.1.2.1.2.1.2.1) (G.1.2.1.2.1.2.2) (greg_at G.1.2.1.2.2.1.1) (G.1.2.1.2.2.1.2) (G.1.2.1.2.2.2.1) (G.1.2.1.2.2.2.2) (W0_reg G.1.2.1.2.2.1.1) (show (N18 + (1 : Int32)) = N20 from eN20) (G.1.2.2.1.1.1.1) (G.1.2.2.1.1.1.2) (G.1.2.2.1.1.2.1) (greg_at G.1.2.2.1.1.2.2) (G.1.2.2.1.2.1.1) (G.1.2.2.1.2.1.2) (G.1.2.2.1.2.2.1) (W0_reg G.1.2.2.1.1.2.2) (show (N20 + (1 : Int32)) = N22 from eN22) (G.1.2.2.1.2.2.2) (G.1.2.2.2.1.1.1) (G.1.2.2.2.1.1.2) (greg_at G.1.2.2.2.1.2.1) (G.1.2.2.2.1.2.2) (G.1.2.2.2.2.1.1) (G.1.2.2.2.2.1.2) (W0_reg G.1.2.2.2.1.2.1) (show (N22 + (1 : Int32)) = N24 from eN24) (G.1.2.2.2.2.2.1) (G.1.2.2.2.2.2.2.1) (G.1.2.2.2.2.2.2.2) (greg_at G.2.1.1.1.1.1.1) (G.2.1.1.1.1.1.2) (G.2.1.1.1.1.2.1) (G.2.1.1.1.1.2.2) (W0_reg G.2.1.1.1.1.1.1) (show (N24 + (1 : Int32)) = N26 from eN26) (G.2.1.1.1.2.1.1) (G.2.1.1.1.2.1.2) (G.2.1.1.1.2.2.1) (greg_at G.2.1.1.1.2.2.2) (G.2.1.1.2.1.1.1) (G.2.1.1.2.1.1.2) (G.2.1.1.2.1.2.1) (W0_reg G.2.1.1.1.2.2.2) (show (N26 + (1 : Int32)) = N28 from eN28) (G.2.1.1.2.1.2.2) (G.2.1.1.2.2.1.1) (G.2.1.1.2.2.1.2) (greg_at G.2.1.1.2.2.2.1) (G.2.1.1.2.2.2.2) (G.2.1.2.1.1.1.1) (G.2.1.2.1.1.1.2) (W0_reg G.2.1.1.2.2.2.1) (show (N28 + (1 : Int32)) = N30 from eN30) (G.2.1.2.1.1.2.1) (G.2.1.2.1.1.2.2) (G.2.1.2.1.2.1.1) (greg_at G.2.1.2.1.2.1.2) (G.2.1.2.1.2.2.1) (G.2.1.2.1.2.2.2) (G.2.1.2.2.1.1.1) (W0_reg G.2.1.2.1.2.1.2) (show (N30 + (1 : Int32)) = N32 from eN32) (G.2.1.2.2.1.1.2) (G.2.1.2.2.1.2.1) (G.2.1.2.2.1.2.2) (greg_at G.2.1.2.2.2.1.1) (G.2.1.2.2.2.1.2) (G.2.1.2.2.2.2.1) (G.2.1.2.2.2.2.2.1) (W0_reg G.2.1.2.2.2.1.1) (show (N32 + (1 : Int32)) = N34 from eN34) (G.2.1.2.2.2.2.2.2) (G.2.2.1.1.1.1.1) (G.2.2.1.1.1.1.2) (greg_at G.2.2.1.1.1.2.1) (G.2.2.1.1.1.2.2) (G.2.2.1.1.2.1.1) (G.2.2.1.1.2.1.2) (W0_reg G.2.2.1.1.1.2.1) (show (N34 + (1 : Int32)) = N36 from eN36) (G.2.2.1.1.2.2.1) (greg_at G.2.2.1.1.2.2.2) (G.2.2.1.2.1.1.1) (G.2.2.1.2.1.1.2) (G.2.2.1.2.1.2.1) (W0_reg G.2.2.1.1.2.2.2) (G.2.2.1.2.1.2.2) (G.2.2.1.2.2.1.1) W0_194) ?_
    refine i_287_1086 (lv2 := [(5, Value.int 0), (4, Value.int 0), (3, Value.ref 194), (2, Value.ref 128), (1, Value.ref 7), (0, Value.ref 0)]) rfl ?_
    refine i_287_1088 (x := 128) rfl ?_
    refine i_287_1089 (x := 0) rfl ?_
    refine i_287_1090 (x := 0) rfl ?_
    refine i_287_1092 ?_
    refine i_287_1093 (c := 1) (by decide) ?_
    refine i_287_1094 (v := Value.int (xs 1)) (xgn (by decide) (xgn (G.2.2.1.2.2.1.2) (xgn (by decide) (xgn (by decide) (xgn (by decide) (xgn (by decide) (xgn (by decide) (xgn (by decide) (xgn (by decide) (xgn (by decide) (xgn (by decide) (xgn (by decide) (xgn (by decide) (xgn (by decide) (xgn (by decide) (xgn (by decide) (xgn (by decide) (xgn (by decide) (xgn (by decide) W0_0))))))))))))))))))) (by decide) (by decide) rfl ?_
    refine i_287_1095 (x := 0) rfl ?_
    refine i_287_1096 (x := 0) rfl ?_
    refine i_287_1098 ?_
    refine i_287_1099 (c := 2) (by decide) ?_
    refine i_287_1100 (v := Value.int (xs 2)) (xgn (by decide) (xgn (G.2.2.1.2.2.1.2) (xgn (by decide) (xgn (by decide) (xgn (by decide) (xgn (by decide) (xgn (by decide) (xgn (by decide) (xgn (by decide) (xgn (by decide) (xgn (by decide) (xgn (by decide) (xgn (by decide) (xgn (by decide) (xgn (by decide) (xgn (by decide) (xgn (by decide) (xgn (by decide) (xgn (by decide) W0_0))))))))))))))))))) (by decide) (by decide) rfl ?_
    refine i_287_1101 (x := 0) rfl ?_
    refine i_287_1102 (x := 0) rfl ?_
    refine i_287_1104 ?_
    refine i_287_1105 (c := 3) (by decide) ?_
    refine i_287_1106 (v := Value.int (xs 3)) (xgn (by decide) (xgn (G.2.2.1.2.2.1.2) (xgn (by decide) (xgn (by decide) (xgn (by decide) (xgn (by decide) (xgn (by decide) (xgn (by decide) (xgn (by decide) (xgn (by decide) (xgn (by decide) (xgn (by decide) (xgn (by decide) (xgn (by decide) (xgn (by decide) (xgn (by decide) (xgn (by decide) (xgn (by decide) (xgn (by decide) W0_0))))))))))))))))))) (by decide) (by decide) rfl ?_
    refine i_287_1107 (x := 0) rfl ?_
    refine i_287_1108 (x := 0) rfl ?_
    refine i_287_1110 ?_
    refine i_287_1111 (c := 4) (by decide) ?_
    refine i_287_1112 (v := Value.int (xs 4)) (xgn (by decide) (xgn (G.2.2.1.2.2.1.2) (xgn (by decide) (xgn (by decide) (xgn (by decide) (xgn (by decide) (xgn (by decide) (xgn (by decide) (xgn (by decide) (xgn (by decide) (xgn (by decide) (xgn (by decide) (xgn (by decide) (xgn (by decide) (xgn (by decide) (xgn (by decide) (xgn (by decide) (xgn (by decide) (xgn (by decide) W0_0))))))))))))))))))) (by decide) (by decide) rfl ?_
    refine i_287_1113 (xgn (by decide) (xgn (G.2.2.1.2.2.2.1) (xgn (by decide) (xgn (by decide) (xgn (by decide) (xgn (by decide) (xgn (by decide) (xgn (by decide) (xgn (by decide) (xgn (by decide) (xgn (by decide) (xgn (by decide) (xgn (by decide) (xgn (by decide) (xgn (by decide) (xgn (by decide) (xgn (by decide) (xgn (by decide) (xgn (by decide) W0_128))))))))))))))))))) (Nat.le_of_ble_eq_true rfl) (p_228_9 (xgn (by decide) (xgn (G.2.2.1.2.2.2.1) (xgn (by decide) (xgn (by decide) (xgn (by decide) (xgn (by decide) (xgn (by decide) (xgn (by decide) (xgn (by decide) (xgn (by decide) (xgn (by decide) (xgn (by decide) (xgn (by decide) (xgn (by decide) (xgn (by decide) (xgn (by decide) (xgn (by decide) (xgn (by decide) (xgn (by decide) W0_128))))))))))))))))))) (G.1.1.1.1.1.1.1) (G.2.2.1.2.2.2.2.1) (G.1.1.1.1.1.2.1) (G.2.2.1.2.2.2.2.2) (G.1.1.1.1.2.1.1) (G.1.1.1.1.2.1.2) (show ((xs 2) + (xs 3)) = N6 from eN6) (G.1.1.1.1.2.2.1) (G.1.1.1.1.2.2.2) (G.1.1.1.2.1.1.1) (G.1.1.1.2.1.1.2) (xgn (by decide) (xgn (G.2.2.2.1.1.1.1) (xgn (by decide) (xgn (by decide) (xgn (by decide) (xgn (by decide) (xgn (by decide) (xgn (by decide) (xgn (by decide) (xgn (by decide) (xgn (by decide) (xgn (by decide) (xgn (by decide) (xgn (by decide) (xgn (by decide) (xgn (by decide) (xgn (by decide) (xgn (by decide) (xgn (by decide) W0_154))))))))))))))))))) (G.2.2.2.1.1.1.2) (show ((xs 2) + (1 : Int32)) = N10 from eN10) (G.1.1.1.2.2.2.1) (G.1.1.1.2.2.2.2) (G.2.2.2.1.1.2.1) (show (N10 + (1 : Int32)) = N12 from eN12) (G.1.1.2.1.2.1.2) (G.1.1.2.1.2.2.1) (G.2.2.2.1.1.2.2) (show (N12 + (1 : Int32)) = N14 from eN14) (G.1.1.2.2.2.1.1) (G.1.1.2.2.2.1.2) (G.2.2.2.1.2.1.1) (show (N14 + (1 : Int32)) = N16 from eN16) (G.1.2.1.1.1.2.1) (G.1.2.1.1.1.2.2) (G.2.2.2.1.2.1.2) (show (N16 + (1 : Int32)) = N18 from eN18) (G.1.2.1.2.1.1.2) (G.1.2.1.2.1.2.1) (G.2.2.2.1.2.2.1) (show (N18 + (1 : Int32)) = N20 from eN20) (G.1.2.2.1.1.1.1) (G.1.2.2.1.1.1.2) (G.2.2.2.1.2.2.2) (show (N20 + (1 : Int32)) = N22 from eN22) (G.1.2.2.1.2.2.2) (G.1.2.2.2.1.1.1) (G.2.2.2.2.1.1.1) (show (N22 + (1 : Int32)) = N24 from eN24) (G.1.2.2.2.2.2.1) (G.1.2.2.2.2.2.2.1) (G.2.2.2.2.1.1.2) (show (N24 + (1 : Int32)) = N26 from eN26) (G.2.1.1.1.2.1.1) (G.2.1.1.1.2.1.2) (G.2.2.2.2.1.2.1) (show (N26 + (1 : Int32)) = N28 from eN28) (G.2.1.1.2.1.2.2) (G.2.1.1.2.2.1.1) (G.2.2.2.2.1.2.2) (show (N28 + (1 : Int32)) = N30 from eN30) (G.2.1.2.1.1.2.1) (G.2.1.2.1.1.2.2) (G.2.2.2.2.2.1.1) (show (N30 + (1 : Int32)) = N32 from eN32) (G.2.1.2.2.1.1.2) (G.2.1.2.2.1.2.1) (G.2.2.2.2.2.1.2) (show (N32 + (1 : Int32)) = N34 from eN34) (G.2.1.2.2.2.2.2.2) (G.2.2.1.1.1.1.1) (G.2.2.2.2.2.2.1) (show (N34 + (1 : Int32)) = N36 from eN36) (G.2.2.1.1.2.2.1) (G.2.2.2.2.2.2.2.1) (xgn (by decide) (xgn (G.2.2.2.2.2.2.2.2) (xgn (by decide) (xgn (by decide) (xgn (by decide) (xgn (by decide) (xgn (by decide) (xgn (by decide) (xgn (by decide) (xgn (by decide) (xgn (by decide) (xgn (by decide) (xgn (by decide) (xgn (by decide) (xgn (by decide) (xgn (by decide) (xgn (by decide) (xgn (by decide) (xgn (by decide) W0_156)))))))))))))))))))) ?_
    refine i_287_1116 (lv2 := [(6, Value.int 0), (5, Value.int 0), (4, Value.int 0), (3, Value.ref 194), (2, Value.ref 128), (1, Value.ref 7), (0, Value.ref 0)]) rfl ?_
    refine i_287_1118 (x := 128) rfl ?_
    refine i_287_1119 (xgn (by decide) (xgn (by decide) (xgs (xgn (by decide) (xgn (G.2.2.1.2.2.2.1) (xgn (by decide) (xgn (by decide) (xgn (by decide) (xgn (by decide) (xgn (by decide) (xgn (by decide) (xgn (by decide) (xgn (by decide) (xgn (by decide) (xgn (by decide) (xgn (by decide) (xgn (by decide) (xgn (by decide) (xgn (by decide) (xgn (by decide) (xgn (by decide) (xgn (by decide) W0_128)))))))))))))))))))))) (Nat.le_of_ble_eq_true rfl) (p_165_1 (xgn (by decide) (xgn (by decide) (xgs (xgn (by decide) (xgn (G.2.2.1.2.2.2.1) (xgn (by decide) (xgn (by decide) (xgn (by decide) (xgn (by decide) (xgn (by decide) (xgn (by decide) (xgn (by decide) (xgn (by decide) (xgn (by decide) (xgn (by decide) (xgn (by decide) (xgn (by decide) (xgn (by decide) (xgn (by decide) (xgn (by decide) (xgn (by decide) (xgn (by decide) W0_128))))))))))))))))))))))) ?_
    refine i_287_1122 (x := 0) rfl ?_
    refine i_287_1124 (fun _ => ?_) (fun h => absurd h (by decide))
    refine i_287_1129 (x := 0) rfl ?_
    refine i_287_1131 (fun h => absurd h (by decide)) (fun _ => ?_)
    refine i_287_1134 (x := 194) rfl ?_
    refine i_287_1135 ?_
    refine i_287_1136 (v := Value.long 0) (xgn (by decide) (xgn (by decide) (xgn (by decide) (xgs (xgn (G.2.2.1.2.2.1.1) (xgn (by decide) (xgn (by decide) (xgn (by decide) (xgn (by decide) (xgn (by decide) (xgn (by decide) (xgn (by decide) (xgn (by decide) (xgn (by decide) (xgn (by decide) (xgn (by decide) (xgn (by decide) (xgn (by decide) (xgn (by decide) (xgn (by decide) (xgn (by decide) (xgn (by decide) W0_194)))))))))))))))))))))) (by decide) (by decide) xup_s ?_
    refine i_287_1137 (x := 0) rfl ?_
    refine i_287_1139 (c := 0) (by decide) ?_
    refine i_287_1140 (c := 0) (by decide) ?_
    refine i_287_1141 (fun _ => ?_) (fun h => absurd h (by decide))
    refine i_287_1146 ?_
    refine i_287_2154 (x := 0) (c := 6) (lv2 := [(4, Value.int 6), (6, Value.int 0), (5, Value.int 0), (3, Value.ref 194), (2, Value.ref 128), (1, Value.ref 7), (0, Value.ref 0)]) rfl (by decide) rfl ?_
    refine i_287_2157 ?_
    refine i_287_23 (x := 6) rfl ?_
    refine i_287_25 (x := 0) rfl ?_
    refine i_287_26 (c := 6) (xgn (by decide) (xgn (by decide) (xgn (by decide) (xgn (by decide) (xgn (G.2.2.1.2.2.1.2) (xgn (by decide) (xgn (by decide) (xgn (by decide) (xgn (by decide) (xgn (by decide) (xgn (by decide) (xgn (by decide) (xgn (by decide) (xgn (by decide) (xgn (by decide) (xgn (by decide) (xgn (by decide) (xgn (by decide) (xgn (by decide) (xgn (by decide) (xgn (by decide) (xgn (by decide) W0_0)))))))))))))))))))))) (by decide) ?_
    refine i_287_27 ?_
    refine i_287_29 (c := 0) (by decide) ?_
    refine i_287_30 (fun _ => ?_) (fun h => absurd h (by decide))
    refine i_287_2160 ?_
    exact i_287_2161 rfl ⟨rfl, rfl⟩
  · refine xLs.set ?_ (xgn (by decide) (xgn (by decide) (xgn (by decide) (xgn (G.2.2.2.2.2.2.2.2) (xgn (by decide) (xgn (by decide) (xgn (by decide) (xgn (by decide) (xgn (by decide) (xgn (by decide) (xgn (by decide) (xgn (by decide) (xgn (by decide) (xgn (by decide) (xgn (by decide) (xgn (by decide) (xgn (by decide) (xgn (by decide) (xgn (by decide) (xgn (by decide) (xgn (by decide) W0_156))))))))))))))))))))) xcs_a
    refine xLs.set ?_ (xgn (by decide) (xgn (by decide) (xgn (G.2.2.2.1.1.1.1) (xgn (by decide) (xgn (by decide) (xgn (by decide) (xgn (by decide) (xgn (by decide) (xgn (by decide) (xgn (by decide) (xgn (by decide) (xgn (by decide) (xgn (by decide) (xgn (by decide) (xgn (by decide) (xgn (by decide) (xgn (by decide) (xgn (by decide) (xgn (by decide) (xgn (by decide) W0_154)))))))))))))))))))) xcs_a
    refine xLs.set ?_ (xgn (by decide) (xgn (G.2.2.1.2.2.2.1) (xgn (by decide) (xgn (by decide) (xgn (by decide) (xgn (by decide) (xgn (by decide) (xgn (by decide) (xgn (by decide) (xgn (by decide) (xgn (by decide) (xgn (by decide) (xgn (by decide) (xgn (by decide) (xgn (by decide) (xgn (by decide) (xgn (by decide) (xgn (by decide) (xgn (by decide) W0_128))))))))))))))))))) xcs_o
    refine xLs.set ?_ (xgn (G.2.2.1.2.2.1.1) (xgn (by decide) (xgn (by decide) (xgn (by decide) (xgn (by decide) (xgn (by decide) (xgn (by decide) (xgn (by decide) (xgn (by decide) (xgn (by decide) (xgn (by decide) (xgn (by decide) (xgn (by decide) (xgn (by decide) (xgn (by decide) (xgn (by decide) (xgn (by decide) (xgn (by decide) W0_194)))))))))))))))))) xcs_a
    refine xLs.set ?_ (xgn (G.2.2.1.2.1.1.1) (xgn (G.2.2.1.2.1.1.1) (xgn (G.2.2.1.2.1.1.1) (xgn (G.2.2.1.2.1.1.1) (xgn (G.2.2.1.2.1.1.1) (xgn (G.2.2.1.2.1.1.1) (xgn (G.2.2.1.2.1.1.1) (xgn (G.2.2.1.2.1.1.1) (xgn (G.2.2.1.2.1.1.1) (xgn (G.2.2.1.2.1.1.1) (xgn (G.2.2.1.2.1.1.1) (xgn (G.2.2.1.2.1.1.1) (xgn (G.2.2.1.2.1.1.1) (xgn (G.2.2.1.2.1.1.1) (xgn (G.2.2.1.2.1.1.1) (xgn (G.2.2.1.2.1.1.2) (xgn (G.2.2.1.2.1.2.1) (W0_reg G.2.2.1.1.2.2.2)))))))))))))))))) xcs_o
    refine xLs.set ?_ (xgs (xgs (xgs (xgs (xgs (xgs (xgs (xgs (xgs (xgs (xgs (xgs (xgs (xgs (xgn (by decide) (xgn (by decide) W0_19)))))))))))))))) xcs_o
    refine xLs.set ?_ (xgs (xgs (xgs (xgs (xgs (xgs (xgs (xgs (xgs (xgs (xgs (xgs (xgs (xgn (by decide) (xgn (by decide) W0_19))))))))))))))) xcs_o
    refine xLs.set ?_ (xgs (xgs (xgs (xgs (xgs (xgs (xgs (xgs (xgs (xgs (xgs (xgs (xgn (by decide) (xgn (by decide) W0_19)))))))))))))) xcs_o
    refine xLs.set ?_ (xgs (xgs (xgs (xgs (xgs (xgs (xgs (xgs (xgs (xgs (xgs (xgn (by decide) (xgn (by decide) W0_19))))))))))))) xcs_o
    refine xLs.set ?_ (xgs (xgs (xgs (xgs (xgs (xgs (xgs (xgs (xgs (xgs (xgn (by decide) (xgn (by decide) W0_19)))))))))))) xcs_o
    refine xLs.set ?_ (xgs (xgs (xgs (xgs (xgs (xgs (xgs (xgs (xgs (xgn (by decide) (xgn (by decide) W0_19))))))))))) xcs_o
    refine xLs.set ?_ (xgs (xgs (xgs (xgs (xgs (xgs (xgs (xgs (xgn (by decide) (xgn (by decide) W0_19)))))))))) xcs_o
    refine xLs.set ?_ (xgs (xgs (xgs (xgs (xgs (xgs (xgs (xgn (by decide) (xgn (by decide) W0_19))))))))) xcs_o
    refine xLs.set ?_ (xgs (xgs (xgs (xgs (xgs (xgs (xgn (by decide) (xgn (by decide) W0_19)))))))) xcs_o
    refine xLs.set ?_ (xgs (xgs (xgs (xgs (xgs (xgn (by decide) (xgn (by decide) W0_19))))))) xcs_o
    refine xLs.set ?_ (xgs (xgs (xgs (xgs (xgn (by decide) (xgn (by decide) W0_19)))))) xcs_o
    refine xLs.set ?_ (xgs (xgs (xgs (xgn (by decide) (xgn (by decide) W0_19))))) xcs_o
    refine xLs.set ?_ (xgs (xgs (xgn (by decide) (xgn (by decide) W0_19)))) xcs_o
    refine xLs.set ?_ (xgs (xgn (by decide) (xgn (by decide) W0_19))) xcs_o
    refine xLs.set ?_ (xgn (by decide) (xgn (by decide) W0_19)) xcs_o
    refine xLs.set ?_ (xgn (by decide) W0_22) xcs_o
    refine xLs.set ?_ (W0_20) xcs_o
    exact ⟨Nat.le_trans (Nat.le_of_eq W0_len) (by decide), Nat.le_trans (Nat.le_of_eq W0_sz) (by decide)⟩
theorem p_112_10 {d : Nat} {w : xW} {a0 : Int32} {a1 : Int32} {a2 : Int32} {a3 : Int32} {a4 : Int32} {g0 : Nat → Value} {h0 : Nat} {h1 : Nat} {a5 : Int32} {h2 : Nat} {h3 : Nat} {a6 : Int32} {h4 : Nat} {h5 : Nat} {a7 : Int32} {h6 : Nat} {h7 : Nat} {a8 : Int32} {h8 : Nat} {h9 : Nat} {a9 : Int32} {h10 : Nat} {h11 : Nat} {a10 : Int32} {h12 : Nat} {h13 : Nat} {a11 : Int32} {h14 : Nat} {h15 : Nat} {a12 : Int32} {h16 : Nat} {h17 : Nat} {a13 : Int32} {h18 : Nat} {h19 : Nat} {a14 : Int32} {h20 : Nat} {h21 : Nat} {a15 : Int32} {h22 : Nat} {h23 : Nat} {a16 : Int32} {h24 : Nat} {h25 : Nat} {a17 : Int32} {h26 : Nat} {h27 : Nat} (e0 : 0 ≤ a0.toInt) (e1 : a0.toInt < 16) (e2 : 0 ≤ a1.toInt) (e3 : a1.toInt < 16) (e4 : 1 ≤ a2.toInt) (e5 : a2.toInt ≤ 16) (hg6 : (a1 + a2) = a4) (e7 : a4.toInt ≤ 16) (e8 : 0 ≤ a3.toInt) (e9 : a3.toInt ≤ 4) (hw10 : w[7]? = some (Sum.inr (0, [Value.ref 8, Value.ref 78, Value.ref 9, Value.ref 10, Value.ref 13, Value.ref 16, Value.ref 19, Value.ref 93, Value.ref 108, Value.ref 113, Value.ref 29, Value.int 0]))) (hw11 : w[19]? = some (Sum.inr (5, [Value.ref 20, Value.ref 22, Value.ref 24, Value.ref 26, Value.int 0, Value.int 0, Value.int 0, Value.int 0, Value.int 0, Value.int 0, Value.int 0, Value.int 0]))) (hw12 : w[20]? = some (Sum.inr (3, [Value.ref 21, Value.int 0]))) (hw13 : w[22]? = some (Sum.inr (3, [Value.ref 23, Value.int 0]))) (e14 : a1.toInt < a4.toInt) (hw15 : w[8]? = some (Sum.inl (4, 16, g0))) (hg16 : g0 a1.toInt.toNat = Value.ref h0) (e17 : 19 ≠ h0) (e18 : 22 ≠ h0) (e19 : 20 ≠ h0) (hw20 : w[h0]? = some (Sum.inr (2, [Value.int 64, Value.int 0, Value.int 0, Value.int 0, Value.ref h1]))) (hg21 : (a1 + (1 : Int32)) = a5) (e22 : a5.toInt < a4.toInt) (e23 : 0 ≤ a5.toInt) (e24 : a5.toInt < 16) (hg25 : g0 a5.toInt.toNat = Value.ref h2) (e26 : 19 ≠ h2) (e27 : 22 ≠ h2) (e28 : 20 ≠ h2) (hw29 : w[h2]? = some (Sum.inr (2, [Value.int 64, Value.int 0, Value.int 0, Value.int 0, Value.ref h3]))) (hg30 : (a5 + (1 : Int32)) = a6) (e31 : a6.toInt < a4.toInt) (e32 : 0 ≤ a6.toInt) (e33 : a6.toInt < 16) (hg34 : g0 a6.toInt.toNat = Value.ref h4) (e35 : 19 ≠ h4) (e36 : 22 ≠ h4) (e37 : 20 ≠ h4) (hw38 : w[h4]? = some (Sum.inr (2, [Value.int 64, Value.int 0, Value.int 0, Value.int 0, Value.ref h5]))) (hg39 : (a6 + (1 : Int32)) = a7) (e40 : a7.toInt < a4.toInt) (e41 : 0 ≤ a7.toInt) (e42 : a7.toInt < 16) (hg43 : g0 a7.toInt.toNat = Value.ref h6) (e44 : 19 ≠ h6) (e45 : 22 ≠ h6) (e46 : 20 ≠ h6) (hw47 : w[h6]? = some (Sum.inr (2, [Value.int 64, Value.int 0, Value.int 0, Value.int 0, Value.ref h7]))) (hg48 : (a7 + (1 : Int32)) = a8) (e49 : a8.toInt < a4.toInt) (e50 : 0 ≤ a8.toInt) (e51 : a8.toInt < 16) (hg52 : g0 a8.toInt.toNat = Value.ref h8) (e53 : 19 ≠ h8) (e54 : 22 ≠ h8) (e55 : 20 ≠ h8) (hw56 : w[h8]? = some (Sum.inr (2, [Value.int 64, Value.int 0, Value.int 0, Value.int 0, Value.ref h9]))) (hg57 : (a8 + (1 : Int32)) = a9) (e58 : a9.toInt < a4.toInt) (e59 : 0 ≤ a9.toInt) (e60 : a9.toInt < 16) (hg61 : g0 a9.toInt.toNat = Value.ref h10) (e62 : 19 ≠ h10) (e63 : 22 ≠ h10) (e64 : 20 ≠ h10) (hw65 : w[h10]? = some (Sum.inr (2, [Value.int 64, Value.int 0, Value.int 0, Value.int 0, Value.ref h11]))) (hg66 : (a9 + (1 : Int32)) = a10) (e67 : a10.toInt < a4.toInt) (e68 : 0 ≤ a10.toInt) (e69 : a10.toInt < 16) (hg70 : g0 a10.toInt.toNat = Value.ref h12) (e71 : 19 ≠ h12) (e72 : 22 ≠ h12) (e73 : 20 ≠ h12) (hw74 : w[h12]? = some (Sum.inr (2, [Value.int 64, Value.int 0, Value.int 0, Value.int 0, Value.ref h13]))) (hg75 : (a10 + (1 : Int32)) = a11) (e76 : a11.toInt < a4.toInt) (e77 : 0 ≤ a11.toInt) (e78 : a11.toInt < 16) (hg79 : g0 a11.toInt.toNat = Value.ref h14) (e80 : 19 ≠ h14) (e81 : 22 ≠ h14) (e82 : 20 ≠ h14) (hw83 : w[h14]? = some (Sum.inr (2, [Value.int 64, Value.int 0, Value.int 0, Value.int 0, Value.ref h15]))) (hg84 : (a11 + (1 : Int32)) = a12) (e85 : a12.toInt < a4.toInt) (e86 : 0 ≤ a12.toInt) (e87 : a12.toInt < 16) (hg88 : g0 a12.toInt.toNat = Value.ref h16) (e89 : 19 ≠ h16) (e90 : 22 ≠ h16) (e91 : 20 ≠ h16) (hw92 : w[h16]? = some (Sum.inr (2, [Value.int 64, Value.int 0, Value.int 0, Value.int 0, Value.ref h17]))) (hg93 : (a12 + (1 : Int32)) = a13) (e94 : a13.toInt < a4.toInt) (e95 : 0 ≤ a13.toInt) (e96 : a13.toInt < 16) (hg97 : g0 a13.toInt.toNat = Value.ref h18) (e98 : 19 ≠ h18) (e99 : 22 ≠ h18) (e100 : 20 ≠ h18) (hw101 : w[h18]? = some (Sum.inr (2, [Value.int 64, Value.int 0, Value.int 0, Value.int 0, Value.ref h19]))) (hg102 : (a13 + (1 : Int32)) = a14) (e103 : a14.toInt < a4.toInt) (e104 : 0 ≤ a14.toInt) (e105 : a14.toInt < 16) (hg106 : g0 a14.toInt.toNat = Value.ref h20) (e107 : 19 ≠ h20) (e108 : 22 ≠ h20) (e109 : 20 ≠ h20) (hw110 : w[h20]? = some (Sum.inr (2, [Value.int 64, Value.int 0, Value.int 0, Value.int 0, Value.ref h21]))) (hg111 : (a14 + (1 : Int32)) = a15) (e112 : a15.toInt < a4.toInt) (e113 : 0 ≤ a15.toInt) (e114 : a15.toInt < 16) (hg115 : g0 a15.toInt.toNat = Value.ref h22) (e116 : 19 ≠ h22) (e117 : 22 ≠ h22) (e118 : 20 ≠ h22) (hw119 : w[h22]? = some (Sum.inr (2, [Value.int 64, Value.int 0, Value.int 0, Value.int 0, Value.ref h23]))) (hg120 : (a15 + (1 : Int32)) = a16) (e121 : a16.toInt < a4.toInt) (e122 : 0 ≤ a16.toInt) (e123 : a16.toInt < 16) (hg124 : g0 a16.toInt.toNat = Value.ref h24) (e125 : 19 ≠ h24) (e126 : 22 ≠ h24) (e127 : 20 ≠ h24) (hw128 : w[h24]? = some (Sum.inr (2, [Value.int 64, Value.int 0, Value.int 0, Value.int 0, Value.ref h25]))) (hg129 : (a16 + (1 : Int32)) = a17) (e130 : a4.toInt ≤ a17.toInt) (hg131 : g0 a0.toInt.toNat = Value.ref h26) (e132 : 19 ≠ h26) (e133 : 22 ≠ h26) (e134 : 20 ≠ h26) (hw135 : w[h26]? = some (Sum.inr (2, [Value.int 64, Value.int 0, Value.int 0, Value.int 0, Value.ref h27]))) (e136 : 7 ≤ h26) : xRun (d + 3) 112 [Value.ref 7, Value.int a0, Value.int a1, Value.int a2, Value.int a3] w (.inl (some (Value.int 0))) (((((((((((((((((w.set 20 (Sum.inr (3, [Value.ref 21, Value.int 0]))).set 22 (Sum.inr (3, [Value.ref 23, Value.int 0]))).set 19 (Sum.inr (5, [Value.ref 20, Value.ref 22, Value.ref 24, Value.ref 26, Value.int 0, Value.int 0, Value.int 0, Value.int 0, Value.int 0, Value.int 0, Value.int 0, Value.int 0]))).set 19 (Sum.inr (5, [Value.ref 20, Value.ref 22, Value.ref 24, Value.ref 26, Value.int 0, Value.int 1, Value.int 0, Value.int 0, Value.int 0, Value.int 0, Value.int 0, Value.int 0]))).set 19 (Sum.inr (5, [Value.ref 20, Value.ref 22, Value.ref 24, Value.ref 26, Value.int 0, Value.int 1, Value.int 0, Value.int 0, Value.int 0, Value.int 0, Value.int 0, Value.int 0]))).set 19 (Sum.inr (5, [Value.ref 20, Value.ref 22, Value.ref 24, Value.ref 26, Value.int 0, Value.int 1, Value.int 0, Value.int 0, Value.int 0, Value.int 0, Value.int 0, Value.int 0]))).set 19 (Sum.inr (5, [Value.ref 20, Value.ref 22, Value.ref 24, Value.ref 26, Value.int 0, Value.int 1, Value.int 0, Value.int 0, Value.int 0, Value.int 0, Value.int 0, Value.int 0]))).set 19 (Sum.inr (5, [Value.ref 20, Value.ref 22, Value.ref 24, Value.ref 26, Value.int 0, Value.int 1, Value.int 0, Value.int 0, Value.int 0, Value.int 0, Value.int 0, Value.int 0]))).set 19 (Sum.inr (5, [Value.ref 20, Value.ref 22, Value.ref 24, Value.ref 26, Value.int 0, Value.int 1, Value.int 0, Value.int 0, Value.int 0, Value.int 0, Value.int 0, Value.int 0]))).set 19 (Sum.inr (5, [Value.ref 20, Value.ref 22, Value.ref 24, Value.ref 26, Value.int 0, Value.int 1, Value.int 0, Value.int 0, Value.int 0, Value.int 0, Value.int 0, Value.int 0]))).set 19 (Sum.inr (5, [Value.ref 20, Value.ref 22, Value.ref 24, Value.ref 26, Value.int 0, Value.int 1, Value.int 0, Value.int 0, Value.int 0, Value.int 0, Value.int 0, Value.int 0]))).set 19 (Sum.inr (5, [Value.ref 20, Value.ref 22, Value.ref 24, Value.ref 26, Value.int 0, Value.int 1, Value.int 0, Value.int 0, Value.int 0, Value.int 0, Value.int 0, Value.int 0]))).set 19 (Sum.inr (5, [Value.ref 20, Value.ref 22, Value.ref 24, Value.ref 26, Value.int 0, Value.int 1, Value.int 0, Value.int 0, Value.int 0, Value.int 0, Value.int 0, Value.int 0]))).set 19 (Sum.inr (5, [Value.ref 20, Value.ref 22, Value.ref 24, Value.ref 26, Value.int 0, Value.int 1, Value.int 0, Value.int 0, Value.int 0, Value.int 0, Value.int 0, Value.int 0]))).set 19 (Sum.inr (5, [Value.ref 20, Value.ref 22, Value.ref 24, Value.ref 26, Value.int 0, Value.int 1, Value.int 0, Value.int 0, Value.int 0, Value.int 0, Value.int 0, Value.int 0]))).set 19 (Sum.inr (5, [Value.ref 20, Value.ref 22, Value.ref 24, Value.ref 26, Value.int 0, Value.int 1, Value.int 0, Value.int 0, Value.int 0, Value.int 0, Value.int 0, Value.int 0]))).set h26 (Sum.inr (2, [Value.int 64, Value.int 0, Value.int 0, Value.int 0, Value.ref h27]))) := by
  refine xRun.of ?_
  refine i_112_0 (x := a0) rfl ?_
  refine i_112_1 (Nat.le_of_ble_eq_true rfl) (p_15_1 e0 e1) ?_
  refine i_112_4 (fun h => absurd h (by decide)) (fun _ => ?_)
  refine i_112_7 (x := a1) rfl ?_
  refine i_112_8 (x := a2) rfl ?_
  refine i_112_9 (Nat.le_of_ble_eq_true rfl) (p_113_4 e2 e3 e4 e5 hg6 e7) ?_
  refine i_112_12 (fun h => absurd h (by decide)) (fun _ => ?_)
  refine i_112_15 (x := a3) rfl ?_
  refine i_112_17 (Nat.le_of_ble_eq_true rfl) (p_22_2 e8 e9) ?_
  refine i_112_20 (fun _ => ?_) (fun h => absurd h (by decide))
  refine i_112_31 (x := 7) rfl ?_
  refine i_112_32 (v := Value.ref 19) hw10 rfl ?_
  refine i_112_35 hw11 (Nat.le_of_ble_eq_true rfl) (p_59_0 hw11 hw12 hw13) ?_
  refine i_112_38 (x := a1) rfl ?_
  refine i_112_39 (lv2 := [(5, Value.int a1), (0, Value.ref 7), (1, Value.int a0), (2, Value.int a1), (3, Value.int a2), (4, Value.int a3)]) rfl ?_
  refine i_112_41 (x := a1) rfl ?_
  refine i_112_43 (x := a1) rfl ?_
  refine i_112_44 (x := a2) rfl ?_
  refine i_112_45 (c := a4) hg6 ?_
  refine i_112_46 (fun h => absurd e14 (Int.not_lt.mpr h)) (fun _ => ?_)
  refine i_112_49 (x := 7) rfl ?_
  refine i_112_50 (v := Value.ref 19) (xgn (by decide) (xgn (by decide) (xgn (by decide) hw10))) rfl ?_
  refine i_112_53 (x := 7) rfl ?_
  refine i_112_54 (v := Value.ref 8) (xgn (by decide) (xgn (by decide) (xgn (by decide) hw10))) rfl ?_
  refine i_112_57 (x := a1) rfl ?_
  refine i_112_59 (v := Value.ref h0) (xgn (by decide) (xgn (by decide) (xgn (by decide) hw15))) e2 e3 hg16 ?_
  refine i_112_60 ?_
  refine i_112_61 (xgs (xgn (by decide) (xgn (by decide) hw11))) (Nat.le_of_ble_eq_true rfl) (p_60_0 (xgn e17 (xgn e18 (xgn e19 hw20))) (xgs (xgn (by decide) (xgn (by decide) hw11)))) ?_
  refine i_112_64 (x := a1) (c := a5) (lv2 := [(5, Value.int a5), (0, Value.ref 7), (1, Value.int a0), (2, Value.int a1), (3, Value.int a2), (4, Value.int a3)]) rfl hg21 rfl ?_
  refine i_112_67 ?_
  refine i_112_41 (x := a5) rfl ?_
  refine i_112_43 (x := a1) rfl ?_
  refine i_112_44 (x := a2) rfl ?_
  refine i_112_45 (c := a4) hg6 ?_
  refine i_112_46 (fun h => absurd e22 (Int.not_lt.mpr h)) (fun _ => ?_)
  refine i_112_49 (x := 7) rfl ?_
  refine i_112_50 (v := Value.ref 19) (xgn (by decide) (xgn (by decide) (xgn (by decide) (xgn (by decide) hw10)))) rfl ?_
  refine i_112_53 (x := 7) rfl ?_
  refine i_112_54 (v := Value.ref 8) (xgn (by decide) (xgn (by decide) (xgn (by decide) (xgn (by decide) hw10)))) rfl ?_
  refine i_112_57 (x := a5) rfl ?_
  refine i_112_59 (v := Value.ref h2) (xgn (by decide) (xgn (by decide) (xgn (by decide) (xgn (by decide) hw15)))) e23 e24 hg25 ?_
  refine i_112_60 ?_
  refine i_112_61 (xgs (xgs (xgn (by decide) (xgn (by decide) hw11)))) (Nat.le_of_ble_eq_true rfl) (p_60_1 (xgn e26 (xgn e26 (xgn e27 (xgn e28 hw29)))) (xgs (xgs (xgn (by decide) (xgn (by decide) hw11))))) ?_
  refine i_112_64 (x := a5) (c := a6) (lv2 := [(5, Value.int a6), (0, Value.ref 7), (1, Value.int a0), (2, Value.int a1), (3, Value.int a2), (4, Value.int a3)]) rfl hg30 rfl ?_
  refine i_112_67 ?_
  refine i_112_41 (x := a6) rfl ?_
  refine i_112_43 (x := a1) rfl ?_
  refine i_112_44 (x := a2) rfl ?_
  refine i_112_45 (c := a4) hg6 ?_
  refine i_112_46 (fun h => absurd e31 (Int.not_lt.mpr h)) (fun _ => ?_)
  refine i_112_49 (x := 7) rfl ?_
  refine i_112_50 (v := Value.ref 19) (xgn (by decide) (xgn (by decide) (xgn (by decide) (xgn (by decide) (xgn (by decide) hw10))))) rfl ?_
  refine i_112_53 (x := 7) rfl ?_
  refine i_112_54 (v := Value.ref 8) (xgn (by decide) (xgn (by decide) (xgn (by decide) (xgn (by decide) (xgn (by decide) hw10))))) rfl ?_
  refine i_112_57 (x := a6) rfl ?_
  refine i_112_59 (v := Value.ref h4) (xgn (by decide) (xgn (by decide) (xgn (by decide) (xgn (by decide) (xgn (by decide) hw15))))) e32 e33 hg34 ?_
  refine i_112_60 ?_
  refine i_112_61 (xgs (xgs (xgs (xgn (by decide) (xgn (by decide) hw11))))) (Nat.le_of_ble_eq_true rfl) (p_60_1 (xgn e35 (xgn e35 (xgn e35 (xgn e36 (xgn e37 hw38))))) (xgs (xgs (xgs (xgn (by decide) (xgn (by decide) hw11)))))) ?_
  refine i_112_64 (x := a6) (c := a7) (lv2 := [(5, Value.int a7), (0, Value.ref 7), (1, Value.int a0), (2, Value.int a1), (3, Value.int a2), (4, Value.int a3)]) rfl hg39 rfl ?_
  refine i_112_67 ?_
  refine i_112_41 (x := a7) rfl ?_
  refine i_112_43 (x := a1) rfl ?_
  refine i_112_44 (x := a2) rfl ?_
  refine i_112_45 (c := a4) hg6 ?_
  refine i_112_46 (fun h => absurd e40 (Int.not_lt.mpr h)) (fun _ => ?_)
  refine i_112_49 (x := 7) rfl ?_
  refine i_112_50 (v := Value.ref 19) (xgn (by decide) (xgn (by decide) (xgn (by decide) (xgn (by decide) (xgn (by decide) (xgn (by decide) hw10)))))) rfl ?_
  refine i_112_53 (x := 7) rfl ?_
  refine i_112_54 (v := Value.ref 8) (xgn (by decide) (xgn (by decide) (xgn (by decide) (xgn (by decide) (xgn (by decide) (xgn (by decide) hw10)))))) rfl ?_
  refine i_112_57 (x := a7) rfl ?_
  refine i_112_59 (v := Value.ref h6) (xgn (by decide) (xgn (by decide) (xgn (by decide) (xgn (by decide) (xgn (by decide) (xgn (by decide) hw15)))))) e41 e42 hg43 ?_
  refine i_112_60 ?_
  refine i_112_61 (xgs (xgs (xgs (xgs (xgn (by decide) (xgn (by decide) hw11)))))) (Nat.le_of_ble_eq_true rfl) (p_60_1 (xgn e44 (xgn e44 (xgn e44 (xgn e44 (xgn e45 (xgn e46 hw47)))))) (xgs (xgs (xgs (xgs (xgn (by decide) (xgn (by decide) hw11))))))) ?_
  refine i_112_64 (x := a7) (c := a8) (lv2 := [(5, Value.int a8), (0, Value.ref 7), (1, Value.int a0), (2, Value.int a1), (3, Value.int a2), (4, Value.int a3)]) rfl hg48 rfl ?_
  refine i_112_67 ?_
  refine i_112_41 (x := a8) rfl ?_
  refine i_112_43 (x := a1) rfl ?_
  refine i_112_44 (x := a2) rfl ?_
  refine i_112_45 (c := a4) hg6 ?_
  refine i_112_46 (fun h => absurd e49 (Int.not_lt.mpr h)) (fun _ => ?_)
  refine i_112_49 (x := 7) rfl ?_
  refine i_112_50 (v := Value.ref 19) (xgn (by decide) (xgn (by decide) (xgn (by decide) (xgn (by decide) (xgn (by decide) (xgn (by decide) (xgn (by decide) hw10))))))) rfl ?_
  refine i_112_53 (x := 7) rfl ?_
  refine i_112_54 (v := Value.ref 8) (xgn (by decide) (xgn (by decide) (xgn (by decide) (xgn (by decide) (xgn (by decide) (xgn (by decide) (xgn (by decide) hw10))))))) rfl ?_
  refine i_112_57 (x := a8) rfl ?_
  refine i_112_59 (v := Value.ref h8) (xgn (by decide) (xgn (by decide) (xgn (by decide) (xgn (by decide) (xgn (by decide) (xgn (by decide) (xgn (by decide) hw15))))))) e50 e51 hg52 ?_
  refine i_112_60 ?_
  refine i_112_61 (xgs (xgs (xgs (xgs (xgs (xgn (by decide) (xgn (by decide) hw11))))))) (Nat.le_of_ble_eq_true rfl) (p_60_1 (xgn e53 (xgn e53 (xgn e53 (xgn e53 (xgn e53 (xgn e54 (xgn e55 hw56))))))) (xgs (xgs (xgs (xgs (xgs (xgn (by decide) (xgn (by decide) hw11)))))))) ?_
  refine i_112_64 (x := a8) (c := a9) (lv2 := [(5, Value.int a9), (0, Value.ref 7), (1, Value.int a0), (2, Value.int a1), (3, Value.int a2), (4, Value.int a3)]) rfl hg57 rfl ?_
  refine i_112_67 ?_
  refine i_112_41 (x := a9) rfl ?_
  refine i_112_43 (x := a1) rfl ?_
  refine i_112_44 (x := a2) rfl ?_
  refine i_112_45 (c := a4) hg6 ?_
  refine i_112_46 (fun h => absurd e58 (Int.not_lt.mpr h)) (fun _ => ?_)
  refine i_112_49 (x := 7) rfl ?_
  refine i_112_50 (v := Value.ref 19) (xgn (by decide) (xgn (by decide) (xgn (by decide) (xgn (by decide) (xgn (by decide) (xgn (by decide) (xgn (by decide) (xgn (by decide) hw10)))))))) rfl ?_
  refine i_112_53 (x := 7) rfl ?_
  refine i_112_54 (v := Value.ref 8) (xgn (by decide) (xgn (by decide) (xgn (by decide) (xgn (by decide) (xgn (by decide) (xgn (by decide) (xgn (by decide) (xgn (by decide) hw10)))))))) rfl ?_
  refine i_112_57 (x := a9) rfl ?_
  refine i_112_59 (v := Value.ref h10) (xgn (by decide) (xgn (by decide) (xgn (by decide) (xgn (by decide) (xgn (by decide) (xgn (by decide) (xgn (by decide) (xgn (by decide) hw15)))))))) e59 e60 hg61 ?_
  refine i_112_60 ?_
  refine i_112_61 (xgs (xgs (xgs (xgs (xgs (xgs (xgn (by decide) (xgn (by decide) hw11)))))))) (Nat.le_of_ble_eq_true rfl) (p_60_1 (xgn e62 (xgn e62 (xgn e62 (xgn e62 (xgn e62 (xgn e62 (xgn e63 (xgn e64 hw65)))))))) (xgs (xgs (xgs (xgs (xgs (xgs (xgn (by decide) (xgn (by decide) hw11))))))))) ?_
  refine i_112_64 (x := a9) (c := a10) (lv2 := [(5, Value.int a10), (0, Value.ref 7), (1, Value.int a0), (2, Value.int a1), (3, Value.int a2), (4, Value.int a3)]) rfl hg66 rfl ?_
  refine i_112_67 ?_
  refine i_112_41 (x := a10) rfl ?_
  refine i_112_43 (x := a1) rfl ?_
  refine i_112_44 (x := a2) rfl ?_
  refine i_112_45 (c := a4) hg6 ?_
  refine i_112_46 (fun h => absurd e67 (Int.not_lt.mpr h)) (fun _ => ?_)
  refine i_112_49 (x := 7) rfl ?_
  refine i_112_50 (v := Value.ref 19) (xgn (by decide) (xgn (by decide) (xgn (by decide) (xgn (by decide) (xgn (by decide) (xgn (by decide) (xgn (by decide) (xgn (by decide) (xgn (by decide) hw10))))))))) rfl ?_
  refine i_112_53 (x := 7) rfl ?_
  refine i_112_54 (v := Value.ref 8) (xgn (by decide) (xgn (by decide) (xgn (by decide) (xgn (by decide) (xgn (by decide) (xgn (by decide) (xgn (by decide) (xgn (by decide) (xgn (by decide) hw10))))))))) rfl ?_
  refine i_112_57 (x := a10) rfl ?_
  refine i_112_59 (v := Value.ref h12) (xgn (by decide) (xgn (by decide) (xgn (by decide) (xgn (by decide) (xgn (by decide) (xgn (by decide) (xgn (by decide) (xgn (by decide) (xgn (by decide) hw15))))))))) e68 e69 hg70 ?_
  refine i_112_60 ?_
  refine i_112_61 (xgs (xgs (xgs (xgs (xgs (xgs (xgs (xgn (by decide) (xgn (by decide) hw11))))))))) (Nat.le_of_ble_eq_true rfl) (p_60_1 (xgn e71 (xgn e71 (xgn e71 (xgn e71 (xgn e71 (xgn e71 (xgn e71 (xgn e72 (xgn e73 hw74))))))))) (xgs (xgs (xgs (xgs (xgs (xgs (xgs (xgn (by decide) (xgn (by decide) hw11)))))))))) ?_
  refine i_112_64 (x := a10) (c := a11) (lv2 := [(5, Value.int a11), (0, Value.ref 7), (1, Value.int a0), (2, Value.int a1), (3, Value.int a2), (4, Value.int a3)]) rfl hg75 rfl ?_
  refine i_112_67 ?_
  refine i_112_41 (x := a11) rfl ?_
  refine i_112_43 (x := a1) rfl ?_
  refine i_112_44 (x := a2) rfl ?_
  refine i_112_45 (c := a4) hg6 ?_
  refine i_112_46 (fun h => absurd e76 (Int.not_lt.mpr h)) (fun _ => ?_)
  refine i_112_49 (x := 7) rfl ?_
  refine i_112_50 (v := Value.ref 19) (xgn (by decide) (xgn (by decide) (xgn (by decide) (xgn (by decide) (xgn (by decide) (xgn (by decide) (xgn (by decide) (xgn (by decide) (xgn (by decide) (xgn (by decide) hw10)))))))))) rfl ?_
  refine i_112_53 (x := 7) rfl ?_
  refine i_112_54 (v := Value.ref 8) (xgn (by decide) (xgn (by decide) (xgn (by decide) (xgn (by decide) (xgn (by decide) (xgn (by decide) (xgn (by decide) (xgn (by decide) (xgn (by decide) (xgn (by decide) hw10)))))))))) rfl ?_
  refine i_112_57 (x := a11) rfl ?_
  refine i_112_59 (v := Value.ref h14) (xgn (by decide) (xgn (by decide) (xgn (by decide) (xgn (by decide) (xgn (by decide) (xgn (by decide) (xgn (by decide) (xgn (by decide) (xgn (by decide) (xgn (by decide) hw15)))))))))) e77 e78 hg79 ?_
  refine i_112_60 ?_
  refine i_112_61 (xgs (xgs (xgs (xgs (xgs (xgs (xgs (xgs (xgn (by decide) (xgn (by decide) hw11)))))))))) (Nat.le_of_ble_eq_true rfl) (p_60_1 (xgn e80 (xgn e80 (xgn e80 (xgn e80 (xgn e80 (xgn e80 (xgn e80 (xgn e80 (xgn e81 (xgn e82 hw83)))))))))) (xgs (xgs (xgs (xgs (xgs (xgs (xgs (xgs (xgn (by decide) (xgn (by decide) hw11))))))))))) ?_
  refine i_112_64 (x := a11) (c := a12) (lv2 := [(5, Value.int a12), (0, Value.ref 7), (1, Value.int a0), (2, Value.int a1), (3, Value.int a2), (4, Value.int a3)]) rfl hg84 rfl ?_
  refine i_112_67 ?_
  refine i_112_41 (x := a12) rfl ?_
  refine i_112_43 (x := a1) rfl ?_
  refine i_112_44 (x := a2) rfl ?_
  refine i_112_45 (c := a4) hg6 ?_
  refine i_112_46 (fun h => absurd e85 (Int.not_lt.mpr h)) (fun _ => ?_)
  refine i_112_49 (x := 7) rfl ?_
  refine i_112_50 (v := Value.ref 19) (xgn (by decide) (xgn (by decide) (xgn (by decide) (xgn (by decide) (xgn (by decide) (xgn (by decide) (xgn (by decide) (xgn (by decide) (xgn (by decide) (xgn (by decide) (xgn (by decide) hw10))))))))))) rfl ?_
  refine i_112_53 (x := 7) rfl ?_
  refine i_112_54 (v := Value.ref 8) (xgn (by decide) (xgn (by decide) (xgn (by decide) (xgn (by decide) (xgn (by decide) (xgn (by decide) (xgn (by decide) (xgn (by decide) (xgn (by decide) (xgn (by decide) (xgn (by decide) hw10))))))))))) rfl ?_
  refine i_112_57 (x := a12) rfl ?_
  refine i_112_59 (v := Value.ref h16) (xgn (by decide) (xgn (by decide) (xgn (by decide) (xgn (by decide) (xgn (by decide) (xgn (by decide) (xgn (by decide) (xgn (by decide) (xgn (by decide) (xgn (by decide) (xgn (by decide) hw15))))))))))) e86 e87 hg88 ?_
  refine i_112_60 ?_
  refine i_112_61 (xgs (xgs (xgs (xgs (xgs (xgs (xgs (xgs (xgs (xgn (by decide) (xgn (by decide) hw11))))))))))) (Nat.le_of_ble_eq_true rfl) (p_60_1 (xgn e89 (xgn e89 (xgn e89 (xgn e89 (xgn e89 (xgn e89 (xgn e89 (xgn e89 (xgn e89 (xgn e90 (xgn e91 hw92))))))))))) (xgs (xgs (xgs (xgs (xgs (xgs (xgs (xgs (xgs (xgn (by decide) (xgn (by decide) hw11)))))))))))) ?_
  refine i_112_64 (x := a12) (c := a13) (lv2 := [(5, Value.int a13), (0, Value.ref 7), (1, Value.int a0), (2, Value.int a1), (3, Value.int a2), (4, Value.int a3)]) rfl hg93 rfl ?_
  refine i_112_67 ?_
  refine i_112_41 (x := a13) rfl ?_
  refine i_112_43 (x := a1) rfl ?_
  refine i_112_44 (x := a2) rfl ?_
  refine i_112_45 (c := a4) hg6 ?_
  refine i_112_46 (fun h => absurd e94 (Int.not_lt.mpr h)) (fun _ => ?_)
  refine i_112_49 (x := 7) rfl ?_
  refine i_112_50 (v := Value.ref 19) (xgn (by decide) (xgn (by decide) (xgn (by decide) (xgn (by decide) (xgn (by decide) (xgn (by decide) (xgn (by decide) (xgn (by decide) (xgn (by decide) (xgn (by decide) (xgn (by decide) (xgn (by decide) hw10)))))))))))) rfl ?_
  refine i_112_53 (x := 7) rfl ?_
  refine i_112_54 (v := Value.ref 8) (xgn (by decide) (xgn (by decide) (xgn (by decide) (xgn (by decide) (xgn (by decide) (xgn (by decide) (xgn (by decide) (xgn (by decide) (xgn (by decide) (xgn (by decide) (xgn (by decide) (xgn (by decide) hw10)))))))))))) rfl ?_
  refine i_112_57 (x := a13) rfl ?_
  refine i_112_59 (v := Value.ref h18) (xgn (by decide) (xgn (by decide) (xgn (by decide) (xgn (by decide) (xgn (by decide) (xgn (by decide) (xgn (by decide) (xgn (by decide) (xgn (by decide) (xgn (by decide) (xgn (by decide) (xgn (by decide) hw15)))))))))))) e95 e96 hg97 ?_
  refine i_112_60 ?_
  refine i_112_61 (xgs (xgs (xgs (xgs (xgs (xgs (xgs (xgs (xgs (xgs (xgn (by decide) (xgn (by decide) hw11)))))))))))) (Nat.le_of_ble_eq_true rfl) (p_60_1 (xgn e98 (xgn e98 (xgn e98 (xgn e98 (xgn e98 (xgn e98 (xgn e98 (xgn e98 (xgn e98 (xgn e98 (xgn e99 (xgn e100 hw101)))))))))))) (xgs (xgs (xgs (xgs (xgs (xgs (xgs (xgs (xgs (xgs (xgn (by decide) (xgn (by decide) hw11))))))))))))) ?_
  refine i_112_64 (x := a13) (c := a14) (lv2 := [(5, Value.int a14), (0, Value.ref 7), (1, Value.int a0), (2, Value.int a1), (3, Value.int a2), (4, Value.int a3)]) rfl hg102 rfl ?_
  refine i_112_67 ?_
  refine i_112_41 (x := a14) rfl ?_
  refine i_112_43 (x := a1) rfl ?_
  refine i_112_44 (x := a2) rfl ?_
  refine i_112_45 (c := a4) hg6 ?_
  refine i_112_46 (fun h => absurd e103 (Int.not_lt.mpr h)) (fun _ => ?_)
  refine i_112_49 (x := 7) rfl ?_
  refine i_112_50 (v := Value.ref 19) (xgn (by decide) (xgn (by decide) (xgn (by decide) (xgn (by decide) (xgn (by decide) (xgn (by decide) (xgn (by decide) (xgn (by decide) (xgn (by decide) (xgn (by decide) (xgn (by decide) (xgn (by decide) (xgn (by decide) hw10))))))))))))) rfl ?_
  refine i_112_53 (x := 7) rfl ?_
  refine i_112_54 (v := Value.ref 8) (xgn (by decide) (xgn (by decide) (xgn (by decide) (xgn (by decide) (xgn (by decide) (xgn (by decide) (xgn (by decide) (xgn (by decide) (xgn (by decide) (xgn (by decide) (xgn (by decide) (xgn (by decide) (xgn (by decide) hw10))))))))))))) rfl ?_
  refine i_112_57 (x := a14) rfl ?_
  refine i_112_59 (v := Value.ref h20) (xgn (by decide) (xgn (by decide) (xgn (by decide) (xgn (by decide) (xgn (by decide) (xgn (by decide) (xgn (by decide) (xgn (by decide) (xgn (by decide) (xgn (by decide) (xgn (by decide) (xgn (by decide) (xgn (by decide) hw15))))))))))))) e104 e105 hg106 ?_
  refine i_112_60 ?_
  refine i_112_61 (xgs (xgs (xgs (xgs (xgs (xgs (xgs (xgs (xgs (xgs (xgs (xgn (by decide) (xgn (by decide) hw11))))))))))))) (Nat.le_of_ble_eq_true rfl) (p_60_1 (xgn e107 (xgn e107 (xgn e107 (xgn e107 (xgn e107 (xgn e107 (xgn e107 (xgn e107 (xgn e107 (xgn e107 (xgn e107 (xgn e108 (xgn e109 hw110))))))))))))) (xgs (xgs (xgs (xgs (xgs (xgs (xgs (xgs (xgs (xgs (xgs (xgn (by decide) (xgn (by decide) hw11)))))))))))))) ?_
  refine i_112_64 (x := a14) (c := a15) (lv2 := [(5, Value.int a15), (0, Value.ref 7), (1, Value.int a0), (2, Value.int a1), (3, Value.int a2), (4, Value.int a3)]) rfl hg111 rfl ?_
  refine i_112_67 ?_
  refine i_112_41 (x := a15) rfl ?_
  refine i_112_43 (x := a1) rfl ?_
  refine i_112_44 (x := a2) rfl ?_
  refine i_112_45 (c := a4) hg6 ?_
  refine i_112_46 (fun h => absurd e112 (Int.not_lt.mpr h)) (fun _ => ?_)
  refine i_112_49 (x := 7) rfl ?_
  refine i_112_50 (v := Value.ref 19) (xgn (by decide) (xgn (by decide) (xgn (by decide) (xgn (by decide) (xgn (by decide) (xgn (by decide) (xgn (by decide) (xgn (by decide) (xgn (by decide) (xgn (by decide) (xgn (by decide) (xgn (by decide) (xgn (by decide) (xgn (by decide) hw10)))))))))))))) rfl ?_
  refine i_112_53 (x := 7) rfl ?_
  refine i_112_54 (v := Value.ref 8) (xgn (by decide) (xgn (by decide) (xgn (by decide) (xgn (by decide) (xgn (by decide) (xgn (by decide) (xgn (by decide) (xgn (by decide) (xgn (by decide) (xgn (by decide) (xgn (by decide) (xgn (by decide) (xgn (by decide) (xgn (by decide) hw10)))))))))))))) rfl ?_
  refine i_112_57 (x := a15) rfl ?_
  refine i_112_59 (v := Value.ref h22) (xgn (by decide) (xgn (by decide) (xgn (by decide) (xgn (by decide) (xgn (by decide) (xgn (by decide) (xgn (by decide) (xgn (by decide) (xgn (by decide) (xgn (by decide) (xgn (by decide) (xgn (by decide) (xgn (by decide) (xgn (by decide) hw15)))))))))))))) e113 e114 hg115 ?_
  refine i_112_60 ?_
  refine i_112_61 (xgs (xgs (xgs (xgs (xgs (xgs (xgs (xgs (xgs (xgs (xgs (xgs (xgn (by decide) (xgn (by decide) hw11)))))))))))))) (Nat.le_of_ble_eq_true rfl) (p_60_1 (xgn e116 (xgn e116 (xgn e116 (xgn e116 (xgn e116 (xgn e116 (xgn e116 (xgn e116 (xgn e116 (xgn e116 (xgn e116 (xgn e116 (xgn e117 (xgn e118 hw119)))))))))))))) (xgs (xgs (xgs (xgs (xgs (xgs (xgs (xgs (xgs (xgs (xgs (xgs (xgn (by decide) (xgn (by decide) hw11))))))))))))))) ?_
  refine i_112_64 (x := a15) (c := a16) (lv2 := [(5, Value.int a16), (0, Value.ref 7), (1, Value.int a0), (2, Value.int a1), (3, Value.int a2), (4, Value.int a3)]) rfl hg120 rfl ?_
  refine i_112_67 ?_
  refine i_112_41 (x := a16) rfl ?_
  refine i_112_43 (x := a1) rfl ?_
  refine i_112_44 (x := a2) rfl ?_
  refine i_112_45 (c := a4) hg6 ?_
  refine i_112_46 (fun h => absurd e121 (Int.not_lt.mpr h)) (fun _ => ?_)
  refine i_112_49 (x := 7) rfl ?_
  refine i_112_50 (v := Value.ref 19) (xgn (by decide) (xgn (by decide) (xgn (by decide) (xgn (by decide) (xgn (by decide) (xgn (by decide) (xgn (by decide) (xgn (by decide) (xgn (by decide) (xgn (by decide) (xgn (by decide) (xgn (by decide) (xgn (by decide) (xgn (by decide) (xgn (by decide) hw10))))))))))))))) rfl ?_
  refine i_112_53 (x := 7) rfl ?_
  refine i_112_54 (v := Value.ref 8) (xgn (by decide) (xgn (by decide) (xgn (by decide) (xgn (by decide) (xgn (by decide) (xgn (by decide) (xgn (by decide) (xgn (by decide) (xgn (by decide) (xgn (by decide) (xgn (by decide) (xgn (by decide) (xgn (by decide) (xgn (by decide) (xgn (by decide) hw10))))))))))))))) rfl ?_
  refine i_112_57 (x := a16) rfl ?_
  refine i_112_59 (v := Value.ref h24) (xgn (by decide) (xgn (by decide) (xgn (by decide) (xgn (by decide) (xgn (by decide) (xgn (by decide) (xgn (by decide) (xgn (by decide) (xgn (by decide) (xgn (by decide) (xgn (by decide) (xgn (by decide) (xgn (by decide) (xgn (by decide) (xgn (by decide) hw15))))))))))))))) e122 e123 hg124 ?_
  refine i_112_60 ?_
  refine i_112_61 (xgs (xgs (xgs (xgs (xgs (xgs (xgs (xgs (xgs (xgs (xgs (xgs (xgs (xgn (by decide) (xgn (by decide) hw11))))))))))))))) (Nat.le_of_ble_eq_true rfl) (p_60_1 (xgn e125 (xgn e125 (xgn e125 (xgn e125 (xgn e125 (xgn e125 (xgn e125 (xgn e125 (xgn e125 (xgn e125 (xgn e125 (xgn e125 (xgn e125 (xgn e126 (xgn e127 hw128))))))))))))))) (xgs (xgs (xgs (xgs (xgs (xgs (xgs (xgs (xgs (xgs (xgs (xgs (xgs (xgn (by decide) (xgn (by decide) hw11)))))))))))))))) ?_
  refine i_112_64 (x := a16) (c := a17) (lv2 := [(5, Value.int a17), (0, Value.ref 7), (1, Value.int a0), (2, Value.int a1), (3, Value.int a2), (4, Value.int a3)]) rfl hg129 rfl ?_
  refine i_112_67 ?_
  refine i_112_41 (x := a17) rfl ?_
  refine i_112_43 (x := a1) rfl ?_
  refine i_112_44 (x := a2) rfl ?_
  refine i_112_45 (c := a4) hg6 ?_
  refine i_112_46 (fun _ => ?_) (fun h => absurd e130 (Int.not_le.mpr h))
  refine i_112_70 (x := 7) rfl ?_
  refine i_112_71 (v := Value.ref 19) (xgn (by decide) (xgn (by decide) (xgn (by decide) (xgn (by decide) (xgn (by decide) (xgn (by decide) (xgn (by decide) (xgn (by decide) (xgn (by decide) (xgn (by decide) (xgn (by decide) (xgn (by decide) (xgn (by decide) (xgn (by decide) (xgn (by decide) (xgn (by decide) hw10)))))))))))))))) rfl ?_
  refine i_112_74 (x := 7) rfl ?_
  refine i_112_75 (v := Value.ref 78) (xgn (by decide) (xgn (by decide) (xgn (by decide) (xgn (by decide) (xgn (by decide) (xgn (by decide) (xgn (by decide) (xgn (by decide) (xgn (by decide) (xgn (by decide) (xgn (by decide) (xgn (by decide) (xgn (by decide) (xgn (by decide) (xgn (by decide) (xgn (by decide) hw10)))))))))))))))) rfl ?_
  refine i_112_78 (x := 7) rfl ?_
  refine i_112_79 (v := Value.ref 8) (xgn (by decide) (xgn (by decide) (xgn (by decide) (xgn (by decide) (xgn (by decide) (xgn (by decide) (xgn (by decide) (xgn (by decide) (xgn (by decide) (xgn (by decide) (xgn (by decide) (xgn (by decide) (xgn (by decide) (xgn (by decide) (xgn (by decide) (xgn (by decide) hw10)))))))))))))))) rfl ?_
  refine i_112_82 (x := a0) rfl ?_
  refine i_112_83 (v := Value.ref h26) (xgn (by decide) (xgn (by decide) (xgn (by decide) (xgn (by decide) (xgn (by decide) (xgn (by decide) (xgn (by decide) (xgn (by decide) (xgn (by decide) (xgn (by decide) (xgn (by decide) (xgn (by decide) (xgn (by decide) (xgn (by decide) (xgn (by decide) (xgn (by decide) hw15)))))))))))))))) e0 e1 hg131 ?_
  refine i_112_84 (x := a3) rfl ?_
  refine i_112_86 (xgs (xgs (xgs (xgs (xgs (xgs (xgs (xgs (xgs (xgs (xgs (xgs (xgs (xgs (xgn (by decide) (xgn (by decide) hw11)))))))))))))))) (Nat.le_of_ble_eq_true rfl) (p_64_0 (xgs (xgs (xgs (xgs (xgs (xgs (xgs (xgs (xgs (xgs (xgs (xgs (xgs (xgs (xgn (by decide) (xgn (by decide) hw11)))))))))))))))) (xgn e132 (xgn e132 (xgn e132 (xgn e132 (xgn e132 (xgn e132 (xgn e132 (xgn e132 (xgn e132 (xgn e132 (xgn e132 (xgn e132 (xgn e132 (xgn e132 (xgn e133 (xgn e134 hw135)))))))))))))))) e136) ?_
  exact i_112_89 ⟨rfl, rfl⟩
theorem p_111_10 {d : Nat} {w : xW} {a0 : Int32} {a1 : Int32} {a2 : Int32} {a3 : Int32} {a4 : Int32} {g0 : Nat → Value} {h0 : Nat} {h1 : Nat} {a5 : Int32} {h2 : Nat} {h3 : Nat} {a6 : Int32} {h4 : Nat} {h5 : Nat} {a7 : Int32} {h6 : Nat} {h7 : Nat} {a8 : Int32} {h8 : Nat} {h9 : Nat} {a9 : Int32} {h10 : Nat} {h11 : Nat} {a10 : Int32} {h12 : Nat} {h13 : Nat} {a11 : Int32} {h14 : Nat} {h15 : Nat} {a12 : Int32} {h16 : Nat} {h17 : Nat} {a13 : Int32} {h18 : Nat} {h19 : Nat} {a14 : Int32} {h20 : Nat} {h21 : Nat} {a15 : Int32} {h22 : Nat} {h23 : Nat} {a16 : Int32} {h24 : Nat} {h25 : Nat} {a17 : Int32} {h26 : Nat} {h27 : Nat} (hw0 : w[7]? = some (Sum.inr (0, [Value.ref 8, Value.ref 78, Value.ref 9, Value.ref 10, Value.ref 13, Value.ref 16, Value.ref 19, Value.ref 93, Value.ref 108, Value.ref 113, Value.ref 29, Value.int 0]))) (e1 : 0 ≤ a0.toInt) (e2 : a0.toInt < 16) (e3 : 0 ≤ a1.toInt) (e4 : a1.toInt < 16) (e5 : 1 ≤ a2.toInt) (e6 : a2.toInt ≤ 16) (hg7 : (a1 + a2) = a4) (e8 : a4.toInt ≤ 16) (e9 : 0 ≤ a3.toInt) (e10 : a3.toInt ≤ 4) (hw11 : w[19]? = some (Sum.inr (5, [Value.ref 20, Value.ref 22, Value.ref 24, Value.ref 26, Value.int 0, Value.int 0, Value.int 0, Value.int 0, Value.int 0, Value.int 0, Value.int 0, Value.int 0]))) (hw12 : w[20]? = some (Sum.inr (3, [Value.ref 21, Value.int 0]))) (hw13 : w[22]? = some (Sum.inr (3, [Value.ref 23, Value.int 0]))) (e14 : a1.toInt < a4.toInt) (hw15 : w[8]? = some (Sum.inl (4, 16, g0))) (hg16 : g0 a1.toInt.toNat = Value.ref h0) (e17 : 19 ≠ h0) (e18 : 22 ≠ h0) (e19 : 20 ≠ h0) (hw20 : w[h0]? = some (Sum.inr (2, [Value.int 64, Value.int 0, Value.int 0, Value.int 0, Value.ref h1]))) (hg21 : (a1 + (1 : Int32)) = a5) (e22 : a5.toInt < a4.toInt) (e23 : 0 ≤ a5.toInt) (e24 : a5.toInt < 16) (hg25 : g0 a5.toInt.toNat = Value.ref h2) (e26 : 19 ≠ h2) (e27 : 22 ≠ h2) (e28 : 20 ≠ h2) (hw29 : w[h2]? = some (Sum.inr (2, [Value.int 64, Value.int 0, Value.int 0, Value.int 0, Value.ref h3]))) (hg30 : (a5 + (1 : Int32)) = a6) (e31 : a6.toInt < a4.toInt) (e32 : 0 ≤ a6.toInt) (e33 : a6.toInt < 16) (hg34 : g0 a6.toInt.toNat = Value.ref h4) (e35 : 19 ≠ h4) (e36 : 22 ≠ h4) (e37 : 20 ≠ h4) (hw38 : w[h4]? = some (Sum.inr (2, [Value.int 64, Value.int 0, Value.int 0, Value.int 0, Value.ref h5]))) (hg39 : (a6 + (1 : Int32)) = a7) (e40 : a7.toInt < a4.toInt) (e41 : 0 ≤ a7.toInt) (e42 : a7.toInt < 16) (hg43 : g0 a7.toInt.toNat = Value.ref h6) (e44 : 19 ≠ h6) (e45 : 22 ≠ h6) (e46 : 20 ≠ h6) (hw47 : w[h6]? = some (Sum.inr (2, [Value.int 64, Value.int 0, Value.int 0, Value.int 0, Value.ref h7]))) (hg48 : (a7 + (1 : Int32)) = a8) (e49 : a8.toInt < a4.toInt) (e50 : 0 ≤ a8.toInt) (e51 : a8.toInt < 16) (hg52 : g0 a8.toInt.toNat = Value.ref h8) (e53 : 19 ≠ h8) (e54 : 22 ≠ h8) (e55 : 20 ≠ h8) (hw56 : w[h8]? = some (Sum.inr (2, [Value.int 64, Value.int 0, Value.int 0, Value.int 0, Value.ref h9]))) (hg57 : (a8 + (1 : Int32)) = a9) (e58 : a9.toInt < a4.toInt) (e59 : 0 ≤ a9.toInt) (e60 : a9.toInt < 16) (hg61 : g0 a9.toInt.toNat = Value.ref h10) (e62 : 19 ≠ h10) (e63 : 22 ≠ h10) (e64 : 20 ≠ h10) (hw65 : w[h10]? = some (Sum.inr (2, [Value.int 64, Value.int 0, Value.int 0, Value.int 0, Value.ref h11]))) (hg66 : (a9 + (1 : Int32)) = a10) (e67 : a10.toInt < a4.toInt) (e68 : 0 ≤ a10.toInt) (e69 : a10.toInt < 16) (hg70 : g0 a10.toInt.toNat = Value.ref h12) (e71 : 19 ≠ h12) (e72 : 22 ≠ h12) (e73 : 20 ≠ h12) (hw74 : w[h12]? = some (Sum.inr (2, [Value.int 64, Value.int 0, Value.int 0, Value.int 0, Value.ref h13]))) (hg75 : (a10 + (1 : Int32)) = a11) (e76 : a11.toInt < a4.toInt) (e77 : 0 ≤ a11.toInt) (e78 : a11.toInt < 16) (hg79 : g0 a11.toInt.toNat = Value.ref h14) (e80 : 19 ≠ h14) (e81 : 22 ≠ h14) (e82 : 20 ≠ h14) (hw83 : w[h14]? = some (Sum.inr (2, [Value.int 64, Value.int 0, Value.int 0, Value.int 0, Value.ref h15]))) (hg84 : (a11 + (1 : Int32)) = a12) (e85 : a12.toInt < a4.toInt) (e86 : 0 ≤ a12.toInt) (e87 : a12.toInt < 16) (hg88 : g0 a12.toInt.toNat = Value.ref h16) (e89 : 19 ≠ h16) (e90 : 22 ≠ h16) (e91 : 20 ≠ h16) (hw92 : w[h16]? = some (Sum.inr (2, [Value.int 64, Value.int 0, Value.int 0, Value.int 0, Value.ref h17]))) (hg93 : (a12 + (1 : Int32)) = a13) (e94 : a13.toInt < a4.toInt) (e95 : 0 ≤ a13.toInt) (e96 : a13.toInt < 16) (hg97 : g0 a13.toInt.toNat = Value.ref h18) (e98 : 19 ≠ h18) (e99 : 22 ≠ h18) (e100 : 20 ≠ h18) (hw101 : w[h18]? = some (Sum.inr (2, [Value.int 64, Value.int 0, Value.int 0, Value.int 0, Value.ref h19]))) (hg102 : (a13 + (1 : Int32)) = a14) (e103 : a14.toInt < a4.toInt) (e104 : 0 ≤ a14.toInt) (e105 : a14.toInt < 16) (hg106 : g0 a14.toInt.toNat = Value.ref h20) (e107 : 19 ≠ h20) (e108 : 22 ≠ h20) (e109 : 20 ≠ h20) (hw110 : w[h20]? = some (Sum.inr (2, [Value.int 64, Value.int 0, Value.int 0, Value.int 0, Value.ref h21]))) (hg111 : (a14 + (1 : Int32)) = a15) (e112 : a15.toInt < a4.toInt) (e113 : 0 ≤ a15.toInt) (e114 : a15.toInt < 16) (hg115 : g0 a15.toInt.toNat = Value.ref h22) (e116 : 19 ≠ h22) (e117 : 22 ≠ h22) (e118 : 20 ≠ h22) (hw119 : w[h22]? = some (Sum.inr (2, [Value.int 64, Value.int 0, Value.int 0, Value.int 0, Value.ref h23]))) (hg120 : (a15 + (1 : Int32)) = a16) (e121 : a16.toInt < a4.toInt) (e122 : 0 ≤ a16.toInt) (e123 : a16.toInt < 16) (hg124 : g0 a16.toInt.toNat = Value.ref h24) (e125 : 19 ≠ h24) (e126 : 22 ≠ h24) (e127 : 20 ≠ h24) (hw128 : w[h24]? = some (Sum.inr (2, [Value.int 64, Value.int 0, Value.int 0, Value.int 0, Value.ref h25]))) (hg129 : (a16 + (1 : Int32)) = a17) (e130 : a4.toInt ≤ a17.toInt) (hg131 : g0 a0.toInt.toNat = Value.ref h26) (e132 : 19 ≠ h26) (e133 : 22 ≠ h26) (e134 : 20 ≠ h26) (hw135 : w[h26]? = some (Sum.inr (2, [Value.int 64, Value.int 0, Value.int 0, Value.int 0, Value.ref h27]))) (e136 : 7 ≤ h26) (e137 : h26 ≠ 194) (hw138 : w[194]? = some (Sum.inl (3, 1, fun _ => Value.long 0))) : xRun (d + 4) 111 [Value.ref 7, Value.int a0, Value.int a1, Value.int a2, Value.int a3, Value.ref 194] w (.inl (some (Value.int 0))) ((((((((((((((((((w.set 20 (Sum.inr (3, [Value.ref 21, Value.int 0]))).set 22 (Sum.inr (3, [Value.ref 23, Value.int 0]))).set 19 (Sum.inr (5, [Value.ref 20, Value.ref 22, Value.ref 24, Value.ref 26, Value.int 0, Value.int 0, Value.int 0, Value.int 0, Value.int 0, Value.int 0, Value.int 0, Value.int 0]))).set 19 (Sum.inr (5, [Value.ref 20, Value.ref 22, Value.ref 24, Value.ref 26, Value.int 0, Value.int 1, Value.int 0, Value.int 0, Value.int 0, Value.int 0, Value.int 0, Value.int 0]))).set 19 (Sum.inr (5, [Value.ref 20, Value.ref 22, Value.ref 24, Value.ref 26, Value.int 0, Value.int 1, Value.int 0, Value.int 0, Value.int 0, Value.int 0, Value.int 0, Value.int 0]))).set 19 (Sum.inr (5, [Value.ref 20, Value.ref 22, Value.ref 24, Value.ref 26, Value.int 0, Value.int 1, Value.int 0, Value.int 0, Value.int 0, Value.int 0, Value.int 0, Value.int 0]))).set 19 (Sum.inr (5, [Value.ref 20, Value.ref 22, Value.ref 24, Value.ref 26, Value.int 0, Value.int 1, Value.int 0, Value.int 0, Value.int 0, Value.int 0, Value.int 0, Value.int 0]))).set 19 (Sum.inr (5, [Value.ref 20, Value.ref 22, Value.ref 24, Value.ref 26, Value.int 0, Value.int 1, Value.int 0, Value.int 0, Value.int 0, Value.int 0, Value.int 0, Value.int 0]))).set 19 (Sum.inr (5, [Value.ref 20, Value.ref 22, Value.ref 24, Value.ref 26, Value.int 0, Value.int 1, Value.int 0, Value.int 0, Value.int 0, Value.int 0, Value.int 0, Value.int 0]))).set 19 (Sum.inr (5, [Value.ref 20, Value.ref 22, Value.ref 24, Value.ref 26, Value.int 0, Value.int 1, Value.int 0, Value.int 0, Value.int 0, Value.int 0, Value.int 0, Value.int 0]))).set 19 (Sum.inr (5, [Value.ref 20, Value.ref 22, Value.ref 24, Value.ref 26, Value.int 0, Value.int 1, Value.int 0, Value.int 0, Value.int 0, Value.int 0, Value.int 0, Value.int 0]))).set 19 (Sum.inr (5, [Value.ref 20, Value.ref 22, Value.ref 24, Value.ref 26, Value.int 0, Value.int 1, Value.int 0, Value.int 0, Value.int 0, Value.int 0, Value.int 0, Value.int 0]))).set 19 (Sum.inr (5, [Value.ref 20, Value.ref 22, Value.ref 24, Value.ref 26, Value.int 0, Value.int 1, Value.int 0, Value.int 0, Value.int 0, Value.int 0, Value.int 0, Value.int 0]))).set 19 (Sum.inr (5, [Value.ref 20, Value.ref 22, Value.ref 24, Value.ref 26, Value.int 0, Value.int 1, Value.int 0, Value.int 0, Value.int 0, Value.int 0, Value.int 0, Value.int 0]))).set 19 (Sum.inr (5, [Value.ref 20, Value.ref 22, Value.ref 24, Value.ref 26, Value.int 0, Value.int 1, Value.int 0, Value.int 0, Value.int 0, Value.int 0, Value.int 0, Value.int 0]))).set 19 (Sum.inr (5, [Value.ref 20, Value.ref 22, Value.ref 24, Value.ref 26, Value.int 0, Value.int 1, Value.int 0, Value.int 0, Value.int 0, Value.int 0, Value.int 0, Value.int 0]))).set h26 (Sum.inr (2, [Value.int 64, Value.int 0, Value.int 0, Value.int 0, Value.ref h27]))).set 194 (Sum.inl (3, 1, xup (fun _ => Value.long 0) (0 : Int32).toInt.toNat (Value.long 0)))) := by
  refine xRun.of ?_
  refine i_111_0 (x := 194) rfl ?_
  refine i_111_2 ?_
  refine i_111_3 (x := 7) rfl ?_
  refine i_111_4 (x := a0) rfl ?_
  refine i_111_5 (x := a1) rfl ?_
  refine i_111_6 (x := a2) rfl ?_
  refine i_111_7 (x := a3) rfl ?_
  refine i_111_9 hw0 (Nat.le_of_ble_eq_true rfl) (p_112_10 e1 e2 e3 e4 e5 e6 hg7 e8 e9 e10 hw0 hw11 hw12 hw13 e14 hw15 hg16 e17 e18 e19 hw20 hg21 e22 e23 e24 hg25 e26 e27 e28 hw29 hg30 e31 e32 e33 hg34 e35 e36 e37 hw38 hg39 e40 e41 e42 hg43 e44 e45 e46 hw47 hg48 e49 e50 e51 hg52 e53 e54 e55 hw56 hg57 e58 e59 e60 hg61 e62 e63 e64 hw65 hg66 e67 e68 e69 hg70 e71 e72 e73 hw74 hg75 e76 e77 e78 hg79 e80 e81 e82 hw83 hg84 e85 e86 e87 hg88 e89 e90 e91 hw92 hg93 e94 e95 e96 hg97 e98 e99 e100 hw101 hg102 e103 e104 e105 hg106 e107 e108 e109 hw110 hg111 e112 e113 e114 hg115 e116 e117 e118 hw119 hg120 e121 e122 e123 hg124 e125 e126 e127 hw128 hg129 e130 hg131 e132 e133 e134 hw135 e136) ?_
  refine i_111_12 (c := 0) (by decide) ?_
  refine i_111_13 (v := Value.long 0) (xgn e137 (xgn (by decide) (xgn (by decide) (xgn (by decide) (xgn (by decide) (xgn (by decide) (xgn (by decide) (xgn (by decide) (xgn (by decide) (xgn (by decide) (xgn (by decide) (xgn (by decide) (xgn (by decide) (xgn (by decide) (xgn (by decide) (xgn (by decide) (xgn (by decide) hw138))))))))))))))))) (by decide) (by decide) (by decide) rfl ?_
  refine i_111_14 ?_
  refine i_111_21 ?_
  exact i_111_22 ⟨rfl, rfl⟩
theorem p_229_10 {d : Nat} {w : xW} {a0 : Int32} {a1 : Int32} {a2 : Int32} {a3 : Int32} {a4 : Int32} {a5 : Int32} {a6 : Int32} {a7 : Int32} {a8 : Int32} {a9 : Int32} {a10 : Int32} {a11 : Int32} {a12 : Int32} {a13 : Int32} {a14 : Int32} {a15 : Int32} {a16 : Int32} {a17 : Int32} (e0 : 0 ≤ a0.toInt) (e1 : a0.toInt ≤ 15) (e2 : 0 ≤ a1.toInt) (e3 : a1.toInt ≤ 15) (e4 : 1 ≤ a2.toInt) (e5 : a2.toInt ≤ 16) (hg6 : (a1 + a2) = a4) (e7 : a4.toInt ≤ 16) (e8 : 0 ≤ a3.toInt) (e9 : a3.toInt ≤ 4) (e10 : a1.toInt < a4.toInt) (hw11 : w[128]? = some (Sum.inr (12, [Value.ref 129, Value.ref 131, Value.ref 133, Value.ref 135, Value.ref 137, Value.ref 139, Value.ref 141, Value.ref 143, Value.ref 145, Value.ref 147, Value.ref 149, Value.ref 151, Value.ref 153, Value.ref 154, Value.ref 155, Value.ref 156, Value.ref 157, Value.int (-16384), Value.int 16384, Value.int 0, Value.int 0, Value.int 0, Value.ref 158, Value.ref 159, Value.int 0, Value.int 0, Value.int 0, Value.int 0, Value.int 0, Value.int 0, Value.int 0, Value.int 0]))) (hw12 : w[154]? = some (Sum.inl (0, 17, fun _ => Value.int 0))) (e13 : a1.toInt < 17) (hg14 : (a1 + (1 : Int32)) = a5) (e15 : a5.toInt < a4.toInt) (e16 : 0 ≤ a5.toInt) (e17 : a5.toInt < 17) (hg18 : (a5 + (1 : Int32)) = a6) (e19 : a6.toInt < a4.toInt) (e20 : 0 ≤ a6.toInt) (e21 : a6.toInt < 17) (hg22 : (a6 + (1 : Int32)) = a7) (e23 : a7.toInt < a4.toInt) (e24 : 0 ≤ a7.toInt) (e25 : a7.toInt < 17) (hg26 : (a7 + (1 : Int32)) = a8) (e27 : a8.toInt < a4.toInt) (e28 : 0 ≤ a8.toInt) (e29 : a8.toInt < 17) (hg30 : (a8 + (1 : Int32)) = a9) (e31 : a9.toInt < a4.toInt) (e32 : 0 ≤ a9.toInt) (e33 : a9.toInt < 17) (hg34 : (a9 + (1 : Int32)) = a10) (e35 : a10.toInt < a4.toInt) (e36 : 0 ≤ a10.toInt) (e37 : a10.toInt < 17) (hg38 : (a10 + (1 : Int32)) = a11) (e39 : a11.toInt < a4.toInt) (e40 : 0 ≤ a11.toInt) (e41 : a11.toInt < 17) (hg42 : (a11 + (1 : Int32)) = a12) (e43 : a12.toInt < a4.toInt) (e44 : 0 ≤ a12.toInt) (e45 : a12.toInt < 17) (hg46 : (a12 + (1 : Int32)) = a13) (e47 : a13.toInt < a4.toInt) (e48 : 0 ≤ a13.toInt) (e49 : a13.toInt < 17) (hg50 : (a13 + (1 : Int32)) = a14) (e51 : a14.toInt < a4.toInt) (e52 : 0 ≤ a14.toInt) (e53 : a14.toInt < 17) (hg54 : (a14 + (1 : Int32)) = a15) (e55 : a15.toInt < a4.toInt) (e56 : 0 ≤ a15.toInt) (e57 : a15.toInt < 17) (hg58 : (a15 + (1 : Int32)) = a16) (e59 : a16.toInt < a4.toInt) (e60 : 0 ≤ a16.toInt) (e61 : a16.toInt < 17) (hg62 : (a16 + (1 : Int32)) = a17) (e63 : a4.toInt ≤ a17.toInt) (e64 : a0.toInt < 17) (hw65 : w[156]? = some (Sum.inl (2, 17, fun _ => Value.int 0))) : xRun (d + 2) 229 [Value.ref 128, Value.int a0, Value.int a1, Value.int a2, Value.int a3] w (.inl (some (Value.int 0))) ((w.set 154 (Sum.inl (0, 17, xup (fun _ => Value.int 0) a0.toInt.toNat (Value.int 0)))).set 156 (Sum.inl (2, 17, xup (fun _ => Value.int 0) a0.toInt.toNat (Value.int 0)))) := by
  refine xRun.of ?_
  refine i_229_0 (x := a0) rfl ?_
  refine i_229_1 (Nat.le_of_ble_eq_true rfl) (p_168_1 e0 e1) ?_
  refine i_229_4 (x := a1) rfl ?_
  refine i_229_5 (Nat.le_of_ble_eq_true rfl) (p_168_1 e2 e3) ?_
  refine i_229_8 (x := a2) rfl ?_
  refine i_229_9 ?_
  refine i_229_10 ?_
  refine i_229_12 (Nat.le_of_ble_eq_true rfl) (p_169_44 e4 e5) ?_
  refine i_229_15 (fun h => absurd h (by decide)) (fun _ => ?_)
  refine i_229_18 (x := a1) rfl ?_
  refine i_229_19 (x := a2) rfl ?_
  refine i_229_20 (c := a4) hg6 ?_
  refine i_229_21 ?_
  refine i_229_23 (fun h => absurd e7 (Int.not_le.mpr h)) (fun _ => ?_)
  refine i_229_26 ?_
  refine i_229_27 ?_
  refine i_229_31 (Nat.le_of_ble_eq_true rfl) (p_170_1) ?_
  refine i_229_34 (x := a3) rfl ?_
  refine i_229_36 (Nat.le_of_ble_eq_true rfl) (p_178_2 e8 e9) ?_
  refine i_229_39 ?_
  refine i_229_42 (lv2 := [(5, Value.int 2147483647), (0, Value.ref 128), (1, Value.int a0), (2, Value.int a1), (3, Value.int a2), (4, Value.int a3)]) rfl ?_
  refine i_229_44 ?_
  refine i_229_45 (lv2 := [(6, Value.int 0), (5, Value.int 2147483647), (0, Value.ref 128), (1, Value.int a0), (2, Value.int a1), (3, Value.int a2), (4, Value.int a3)]) rfl ?_
  refine i_229_47 ?_
  refine i_229_48 (lv2 := [(7, Value.int 0), (6, Value.int 0), (5, Value.int 2147483647), (0, Value.ref 128), (1, Value.int a0), (2, Value.int a1), (3, Value.int a2), (4, Value.int a3)]) rfl ?_
  refine i_229_50 ?_
  refine i_229_51 (lv2 := [(8, Value.int 0), (7, Value.int 0), (6, Value.int 0), (5, Value.int 2147483647), (0, Value.ref 128), (1, Value.int a0), (2, Value.int a1), (3, Value.int a2), (4, Value.int a3)]) rfl ?_
  refine i_229_53 (x := a1) rfl ?_
  refine i_229_54 (lv2 := [(9, Value.int a1), (8, Value.int 0), (7, Value.int 0), (6, Value.int 0), (5, Value.int 2147483647), (0, Value.ref 128), (1, Value.int a0), (2, Value.int a1), (3, Value.int a2), (4, Value.int a3)]) rfl ?_
  refine i_229_56 (x := a1) rfl ?_
  refine i_229_58 (x := a1) rfl ?_
  refine i_229_59 (x := a2) rfl ?_
  refine i_229_60 (c := a4) hg6 ?_
  refine i_229_61 (fun h => absurd e10 (Int.not_lt.mpr h)) (fun _ => ?_)
  refine i_229_64 (x := 0) rfl ?_
  refine i_229_66 (x := 128) rfl ?_
  refine i_229_67 (v := Value.ref 154) hw11 rfl ?_
  refine i_229_70 (x := a1) rfl ?_
  refine i_229_72 (v := Value.int 0) hw12 e2 e13 rfl ?_
  refine i_229_73 (fun h => absurd h (by decide)) (fun _ => ?_)
  refine i_229_76 ?_
  refine i_229_77 ?_
  refine i_229_81 (c := 1) (by decide) ?_
  refine i_229_82 (lv2 := [(8, Value.int 1), (9, Value.int a1), (7, Value.int 0), (6, Value.int 0), (5, Value.int 2147483647), (0, Value.ref 128), (1, Value.int a0), (2, Value.int a1), (3, Value.int a2), (4, Value.int a3)]) rfl ?_
  refine i_229_84 (x := 0) rfl ?_
  refine i_229_86 (x := 128) rfl ?_
  refine i_229_87 (v := Value.ref 154) hw11 rfl ?_
  refine i_229_90 (x := a1) rfl ?_
  refine i_229_92 (v := Value.int 0) hw12 e2 e13 rfl ?_
  refine i_229_93 ?_
  refine i_229_94 (fun _ => ?_) (fun h => absurd h (by decide))
  refine i_229_111 ?_
  refine i_229_112 (c := 0) (by decide) ?_
  refine i_229_113 (lv2 := [(6, Value.int 0), (8, Value.int 1), (9, Value.int a1), (7, Value.int 0), (5, Value.int 2147483647), (0, Value.ref 128), (1, Value.int a0), (2, Value.int a1), (3, Value.int a2), (4, Value.int a3)]) rfl ?_
  refine i_229_115 (x := 0) rfl ?_
  refine i_229_117 (x := 128) rfl ?_
  refine i_229_118 (v := Value.ref 154) hw11 rfl ?_
  refine i_229_121 (x := a1) rfl ?_
  refine i_229_123 (v := Value.int 0) hw12 e2 e13 rfl ?_
  refine i_229_124 ?_
  refine i_229_125 (fun _ => ?_) (fun h => absurd h (by decide))
  refine i_229_142 ?_
  refine i_229_143 (c := 0) (by decide) ?_
  refine i_229_144 (lv2 := [(7, Value.int 0), (6, Value.int 0), (8, Value.int 1), (9, Value.int a1), (5, Value.int 2147483647), (0, Value.ref 128), (1, Value.int a0), (2, Value.int a1), (3, Value.int a2), (4, Value.int a3)]) rfl ?_
  refine i_229_146 (x := 128) rfl ?_
  refine i_229_147 (v := Value.ref 154) hw11 rfl ?_
  refine i_229_150 (x := a1) rfl ?_
  refine i_229_152 (v := Value.int 0) hw12 e2 e13 rfl ?_
  refine i_229_153 ?_
  refine i_229_154 (fun _ => ?_) (fun h => absurd h (by decide))
  refine i_229_170 (x := a1) (c := a5) (lv2 := [(9, Value.int a5), (7, Value.int 0), (6, Value.int 0), (8, Value.int 1), (5, Value.int 2147483647), (0, Value.ref 128), (1, Value.int a0), (2, Value.int a1), (3, Value.int a2), (4, Value.int a3)]) rfl hg14 rfl ?_
  refine i_229_173 ?_
  refine i_229_56 (x := a5) rfl ?_
  refine i_229_58 (x := a1) rfl ?_
  refine i_229_59 (x := a2) rfl ?_
  refine i_229_60 (c := a4) hg6 ?_
  refine i_229_61 (fun h => absurd e15 (Int.not_lt.mpr h)) (fun _ => ?_)
  refine i_229_64 (x := 1) rfl ?_
  refine i_229_66 (x := 128) rfl ?_
  refine i_229_67 (v := Value.ref 154) hw11 rfl ?_
  refine i_229_70 (x := a5) rfl ?_
  refine i_229_72 (v := Value.int 0) hw12 e16 e17 rfl ?_
  refine i_229_73 (fun h => absurd h (by decide)) (fun _ => ?_)
  refine i_229_76 ?_
  refine i_229_77 ?_
  refine i_229_81 (c := 1) (by decide) ?_
  refine i_229_82 (lv2 := [(8, Value.int 1), (9, Value.int a5), (7, Value.int 0), (6, Value.int 0), (5, Value.int 2147483647), (0, Value.ref 128), (1, Value.int a0), (2, Value.int a1), (3, Value.int a2), (4, Value.int a3)]) rfl ?_
  refine i_229_84 (x := 0) rfl ?_
  refine i_229_86 (x := 128) rfl ?_
  refine i_229_87 (v := Value.ref 154) hw11 rfl ?_
  refine i_229_90 (x := a5) rfl ?_
  refine i_229_92 (v := Value.int 0) hw12 e16 e17 rfl ?_
  refine i_229_93 ?_
  refine i_229_94 (fun _ => ?_) (fun h => absurd h (by decide))
  refine i_229_111 ?_
  refine i_229_112 (c := 0) (by decide) ?_
  refine i_229_113 (lv2 := [(6, Value.int 0), (8, Value.int 1), (9, Value.int a5), (7, Value.int 0), (5, Value.int 2147483647), (0, Value.ref 128), (1, Value.int a0), (2, Value.int a1), (3, Value.int a2), (4, Value.int a3)]) rfl ?_
  refine i_229_115 (x := 0) rfl ?_
  refine i_229_117 (x := 128) rfl ?_
  refine i_229_118 (v := Value.ref 154) hw11 rfl ?_
  refine i_229_121 (x := a5) rfl ?_
  refine i_229_123 (v := Value.int 0) hw12 e16 e17 rfl ?_
  refine i_229_124 ?_
  refine i_229_125 (fun _ => ?_) (fun h => absurd h (by decide))
  refine i_229_142 ?_
  refine i_229_143 (c := 0) (by decide) ?_
  refine i_229_144 (lv2 := [(7, Value.int 0), (6, Value.int 0), (8, Value.int 1), (9, Value.int a5), (5, Value.int 2147483647), (0, Value.ref 128), (1, Value.int a0), (2, Value.int a1), (3, Value.int a2), (4, Value.int a3)]) rfl ?_
  refine i_229_146 (x := 128) rfl ?_
  refine i_229_147 (v := Value.ref 154) hw11 rfl ?_
  refine i_229_150 (x := a5) rfl ?_
  refine i_229_152 (v := Value.int 0) hw12 e16 e17 rfl ?_
  refine i_229_153 ?_
  refine i_229_154 (fun _ => ?_) (fun h => absurd h (by decide))
  refine i_229_170 (x := a5) (c := a6) (lv2 := [(9, Value.int a6), (7, Value.int 0), (6, Value.int 0), (8, Value.int 1), (5, Value.int 2147483647), (0, Value.ref 128), (1, Value.int a0), (2, Value.int a1), (3, Value.int a2), (4, Value.int a3)]) rfl hg18 rfl ?_
  refine i_229_173 ?_
  refine i_229_56 (x := a6) rfl ?_
  refine i_229_58 (x := a1) rfl ?_
  refine i_229_59 (x := a2) rfl ?_
  refine i_229_60 (c := a4) hg6 ?_
  refine i_229_61 (fun h => absurd e19 (Int.not_lt.mpr h)) (fun _ => ?_)
  refine i_229_64 (x := 1) rfl ?_
  refine i_229_66 (x := 128) rfl ?_
  refine i_229_67 (v := Value.ref 154) hw11 rfl ?_
  refine i_229_70 (x := a6) rfl ?_
  refine i_229_72 (v := Value.int 0) hw12 e20 e21 rfl ?_
  refine i_229_73 (fun h => absurd h (by decide)) (fun _ => ?_)
  refine i_229_76 ?_
  refine i_229_77 ?_
  refine i_229_81 (c := 1) (by decide) ?_
  refine i_229_82 (lv2 := [(8, Value.int 1), (9, Value.int a6), (7, Value.int 0), (6, Value.int 0), (5, Value.int 2147483647), (0, Value.ref 128), (1, Value.int a0), (2, Value.int a1), (3, Value.int a2), (4, Value.int a3)]) rfl ?_
  refine i_229_84 (x := 0) rfl ?_
  refine i_229_86 (x := 128) rfl ?_
  refine i_229_87 (v := Value.ref 154) hw11 rfl ?_
  refine i_229_90 (x := a6) rfl ?_
  refine i_229_92 (v := Value.int 0) hw12 e20 e21 rfl ?_
  refine i_229_93 ?_
  refine i_229_94 (fun _ => ?_) (fun h => absurd h (by decide))
  refine i_229_111 ?_
  refine i_229_112 (c := 0) (by decide) ?_
  refine i_229_113 (lv2 := [(6, Value.int 0), (8, Value.int 1), (9, Value.int a6), (7, Value.int 0), (5, Value.int 2147483647), (0, Value.ref 128), (1, Value.int a0), (2, Value.int a1), (3, Value.int a2), (4, Value.int a3)]) rfl ?_
  refine i_229_115 (x := 0) rfl ?_
  refine i_229_117 (x := 128) rfl ?_
  refine i_229_118 (v := Value.ref 154) hw11 rfl ?_
  refine i_229_121 (x := a6) rfl ?_
  refine i_229_123 (v := Value.int 0) hw12 e20 e21 rfl ?_
  refine i_229_124 ?_
  refine i_229_125 (fun _ => ?_) (fun h => absurd h (by decide))
  refine i_229_142 ?_
  refine i_229_143 (c := 0) (by decide) ?_
  refine i_229_144 (lv2 := [(7, Value.int 0), (6, Value.int 0), (8, Value.int 1), (9, Value.int a6), (5, Value.int 2147483647), (0, Value.ref 128), (1, Value.int a0), (2, Value.int a1), (3, Value.int a2), (4, Value.int a3)]) rfl ?_
  refine i_229_146 (x := 128) rfl ?_
  refine i_229_147 (v := Value.ref 154) hw11 rfl ?_
  refine i_229_150 (x := a6) rfl ?_
  refine i_229_152 (v := Value.int 0) hw12 e20 e21 rfl ?_
  refine i_229_153 ?_
  refine i_229_154 (fun _ => ?_) (fun h => absurd h (by decide))
  refine i_229_170 (x := a6) (c := a7) (lv2 := [(9, Value.int a7), (7, Value.int 0), (6, Value.int 0), (8, Value.int 1), (5, Value.int 2147483647), (0, Value.ref 128), (1, Value.int a0), (2, Value.int a1), (3, Value.int a2), (4, Value.int a3)]) rfl hg22 rfl ?_
  refine i_229_173 ?_
  refine i_229_56 (x := a7) rfl ?_
  refine i_229_58 (x := a1) rfl ?_
  refine i_229_59 (x := a2) rfl ?_
  refine i_229_60 (c := a4) hg6 ?_
  refine i_229_61 (fun h => absurd e23 (Int.not_lt.mpr h)) (fun _ => ?_)
  refine i_229_64 (x := 1) rfl ?_
  refine i_229_66 (x := 128) rfl ?_
  refine i_229_67 (v := Value.ref 154) hw11 rfl ?_
  refine i_229_70 (x := a7) rfl ?_
  refine i_229_72 (v := Value.int 0) hw12 e24 e25 rfl ?_
  refine i_229_73 (fun h => absurd h (by decide)) (fun _ => ?_)
  refine i_229_76 ?_
  refine i_229_77 ?_
  refine i_229_81 (c := 1) (by decide) ?_
  refine i_229_82 (lv2 := [(8, Value.int 1), (9, Value.int a7), (7, Value.int 0), (6, Value.int 0), (5, Value.int 2147483647), (0, Value.ref 128), (1, Value.int a0), (2, Value.int a1), (3, Value.int a2), (4, Value.int a3)]) rfl ?_
  refine i_229_84 (x := 0) rfl ?_
  refine i_229_86 (x := 128) rfl ?_
  refine i_229_87 (v := Value.ref 154) hw11 rfl ?_
  refine i_229_90 (x := a7) rfl ?_
  refine i_229_92 (v := Value.int 0) hw12 e24 e25 rfl ?_
  refine i_229_93 ?_
  refine i_229_94 (fun _ => ?_) (fun h => absurd h (by decide))
  refine i_229_111 ?_
  refine i_229_112 (c := 0) (by decide) ?_
  refine i_229_113 (lv2 := [(6, Value.int 0), (8, Value.int 1), (9, Value.int a7), (7, Value.int 0), (5, Value.int 2147483647), (0, Value.ref 128), (1, Value.int a0), (2, Value.int a1), (3, Value.int a2), (4, Value.int a3)]) rfl ?_
  refine i_229_115 (x := 0) rfl ?_
  refine i_229_117 (x := 128) rfl ?_
  refine i_229_118 (v := Value.ref 154) hw11 rfl ?_
  refine i_229_121 (x := a7) rfl ?_
  refine i_229_123 (v := Value.int 0) hw12 e24 e25 rfl ?_
  refine i_229_124 ?_
  refine i_229_125 (fun _ => ?_) (fun h => absurd h (by decide))
  refine i_229_142 ?_
  refine i_229_143 (c := 0) (by decide) ?_
  refine i_229_144 (lv2 := [(7, Value.int 0), (6, Value.int 0), (8, Value.int 1), (9, Value.int a7), (5, Value.int 2147483647), (0, Value.ref 128), (1, Value.int a0), (2, Value.int a1), (3, Value.int a2), (4, Value.int a3)]) rfl ?_
  refine i_229_146 (x := 128) rfl ?_
  refine i_229_147 (v := Value.ref 154) hw11 rfl ?_
  refine i_229_150 (x := a7) rfl ?_
  refine i_229_152 (v := Value.int 0) hw12 e24 e25 rfl ?_
  refine i_229_153 ?_
  refine i_229_154 (fun _ => ?_) (fun h => absurd h (by decide))
  refine i_229_170 (x := a7) (c := a8) (lv2 := [(9, Value.int a8), (7, Value.int 0), (6, Value.int 0), (8, Value.int 1), (5, Value.int 2147483647), (0, Value.ref 128), (1, Value.int a0), (2, Value.int a1), (3, Value.int a2), (4, Value.int a3)]) rfl hg26 rfl ?_
  refine i_229_173 ?_
  refine i_229_56 (x := a8) rfl ?_
  refine i_229_58 (x := a1) rfl ?_
  refine i_229_59 (x := a2) rfl ?_
  refine i_229_60 (c := a4) hg6 ?_
  refine i_229_61 (fun h => absurd e27 (Int.not_lt.mpr h)) (fun _ => ?_)
  refine i_229_64 (x := 1) rfl ?_
  refine i_229_66 (x := 128) rfl ?_
  refine i_229_67 (v := Value.ref 154) hw11 rfl ?_
  refine i_229_70 (x := a8) rfl ?_
  refine i_229_72 (v := Value.int 0) hw12 e28 e29 rfl ?_
  refine i_229_73 (fun h => absurd h (by decide)) (fun _ => ?_)
  refine i_229_76 ?_
  refine i_229_77 ?_
  refine i_229_81 (c := 1) (by decide) ?_
  refine i_229_82 (lv2 := [(8, Value.int 1), (9, Value.int a8), (7, Value.int 0), (6, Value.int 0), (5, Value.int 2147483647), (0, Value.ref 128), (1, Value.int a0), (2, Value.int a1), (3, Value.int a2), (4, Value.int a3)]) rfl ?_
  refine i_229_84 (x := 0) rfl ?_
  refine i_229_86 (x := 128) rfl ?_
  refine i_229_87 (v := Value.ref 154) hw11 rfl ?_
  refine i_229_90 (x := a8) rfl ?_
  refine i_229_92 (v := Value.int 0) hw12 e28 e29 rfl ?_
  refine i_229_93 ?_
  refine i_229_94 (fun _ => ?_) (fun h => absurd h (by decide))
  refine i_229_111 ?_
  refine i_229_112 (c := 0) (by decide) ?_
  refine i_229_113 (lv2 := [(6, Value.int 0), (8, Value.int 1), (9, Value.int a8), (7, Value.int 0), (5, Value.int 2147483647), (0, Value.ref 128), (1, Value.int a0), (2, Value.int a1), (3, Value.int a2), (4, Value.int a3)]) rfl ?_
  refine i_229_115 (x := 0) rfl ?_
  refine i_229_117 (x := 128) rfl ?_
  refine i_229_118 (v := Value.ref 154) hw11 rfl ?_
  refine i_229_121 (x := a8) rfl ?_
  refine i_229_123 (v := Value.int 0) hw12 e28 e29 rfl ?_
  refine i_229_124 ?_
  refine i_229_125 (fun _ => ?_) (fun h => absurd h (by decide))
  refine i_229_142 ?_
  refine i_229_143 (c := 0) (by decide) ?_
  refine i_229_144 (lv2 := [(7, Value.int 0), (6, Value.int 0), (8, Value.int 1), (9, Value.int a8), (5, Value.int 2147483647), (0, Value.ref 128), (1, Value.int a0), (2, Value.int a1), (3, Value.int a2), (4, Value.int a3)]) rfl ?_
  refine i_229_146 (x := 128) rfl ?_
  refine i_229_147 (v := Value.ref 154) hw11 rfl ?_
  refine i_229_150 (x := a8) rfl ?_
  refine i_229_152 (v := Value.int 0) hw12 e28 e29 rfl ?_
  refine i_229_153 ?_
  refine i_229_154 (fun _ => ?_) (fun h => absurd h (by decide))
  refine i_229_170 (x := a8) (c := a9) (lv2 := [(9, Value.int a9), (7, Value.int 0), (6, Value.int 0), (8, Value.int 1), (5, Value.int 2147483647), (0, Value.ref 128), (1, Value.int a0), (2, Value.int a1), (3, Value.int a2), (4, Value.int a3)]) rfl hg30 rfl ?_
  refine i_229_173 ?_
  refine i_229_56 (x := a9) rfl ?_
  refine i_229_58 (x := a1) rfl ?_
  refine i_229_59 (x := a2) rfl ?_
  refine i_229_60 (c := a4) hg6 ?_
  refine i_229_61 (fun h => absurd e31 (Int.not_lt.mpr h)) (fun _ => ?_)
  refine i_229_64 (x := 1) rfl ?_
  refine i_229_66 (x := 128) rfl ?_
  refine i_229_67 (v := Value.ref 154) hw11 rfl ?_
  refine i_229_70 (x := a9) rfl ?_
  refine i_229_72 (v := Value.int 0) hw12 e32 e33 rfl ?_
  refine i_229_73 (fun h => absurd h (by decide)) (fun _ => ?_)
  refine i_229_76 ?_
  refine i_229_77 ?_
  refine i_229_81 (c := 1) (by decide) ?_
  refine i_229_82 (lv2 := [(8, Value.int 1), (9, Value.int a9), (7, Value.int 0), (6, Value.int 0), (5, Value.int 2147483647), (0, Value.ref 128), (1, Value.int a0), (2, Value.int a1), (3, Value.int a2), (4, Value.int a3)]) rfl ?_
  refine i_229_84 (x := 0) rfl ?_
  refine i_229_86 (x := 128) rfl ?_
  refine i_229_87 (v := Value.ref 154) hw11 rfl ?_
  refine i_229_90 (x := a9) rfl ?_
  refine i_229_92 (v := Value.int 0) hw12 e32 e33 rfl ?_
  refine i_229_93 ?_
  refine i_229_94 (fun _ => ?_) (fun h => absurd h (by decide))
  refine i_229_111 ?_
  refine i_229_112 (c := 0) (by decide) ?_
  refine i_229_113 (lv2 := [(6, Value.int 0), (8, Value.int 1), (9, Value.int a9), (7, Value.int 0), (5, Value.int 2147483647), (0, Value.ref 128), (1, Value.int a0), (2, Value.int a1), (3, Value.int a2), (4, Value.int a3)]) rfl ?_
  refine i_229_115 (x := 0) rfl ?_
  refine i_229_117 (x := 128) rfl ?_
  refine i_229_118 (v := Value.ref 154) hw11 rfl ?_
  refine i_229_121 (x := a9) rfl ?_
  refine i_229_123 (v := Value.int 0) hw12 e32 e33 rfl ?_
  refine i_229_124 ?_
  refine i_229_125 (fun _ => ?_) (fun h => absurd h (by decide))
  refine i_229_142 ?_
  refine i_229_143 (c := 0) (by decide) ?_
  refine i_229_144 (lv2 := [(7, Value.int 0), (6, Value.int 0), (8, Value.int 1), (9, Value.int a9), (5, Value.int 2147483647), (0, Value.ref 128), (1, Value.int a0), (2, Value.int a1), (3, Value.int a2), (4, Value.int a3)]) rfl ?_
  refine i_229_146 (x := 128) rfl ?_
  refine i_229_147 (v := Value.ref 154) hw11 rfl ?_
  refine i_229_150 (x := a9) rfl ?_
  refine i_229_152 (v := Value.int 0) hw12 e32 e33 rfl ?_
  refine i_229_153 ?_
  refine i_229_154 (fun _ => ?_) (fun h => absurd h (by decide))
  refine i_229_170 (x := a9) (c := a10) (lv2 := [(9, Value.int a10), (7, Value.int 0), (6, Value.int 0), (8, Value.int 1), (5, Value.int 2147483647), (0, Value.ref 128), (1, Value.int a0), (2, Value.int a1), (3, Value.int a2), (4, Value.int a3)]) rfl hg34 rfl ?_
  refine i_229_173 ?_
  refine i_229_56 (x := a10) rfl ?_
  refine i_229_58 (x := a1) rfl ?_
  refine i_229_59 (x := a2) rfl ?_
  refine i_229_60 (c := a4) hg6 ?_
  refine i_229_61 (fun h => absurd e35 (Int.not_lt.mpr h)) (fun _ => ?_)
  refine i_229_64 (x := 1) rfl ?_
  refine i_229_66 (x := 128) rfl ?_
  refine i_229_67 (v := Value.ref 154) hw11 rfl ?_
  refine i_229_70 (x := a10) rfl ?_
  refine i_229_72 (v := Value.int 0) hw12 e36 e37 rfl ?_
  refine i_229_73 (fun h => absurd h (by decide)) (fun _ => ?_)
  refine i_229_76 ?_
  refine i_229_77 ?_
  refine i_229_81 (c := 1) (by decide) ?_
  refine i_229_82 (lv2 := [(8, Value.int 1), (9, Value.int a10), (7, Value.int 0), (6, Value.int 0), (5, Value.int 2147483647), (0, Value.ref 128), (1, Value.int a0), (2, Value.int a1), (3, Value.int a2), (4, Value.int a3)]) rfl ?_
  refine i_229_84 (x := 0) rfl ?_
  refine i_229_86 (x := 128) rfl ?_
  refine i_229_87 (v := Value.ref 154) hw11 rfl ?_
  refine i_229_90 (x := a10) rfl ?_
  refine i_229_92 (v := Value.int 0) hw12 e36 e37 rfl ?_
  refine i_229_93 ?_
  refine i_229_94 (fun _ => ?_) (fun h => absurd h (by decide))
  refine i_229_111 ?_
  refine i_229_112 (c := 0) (by decide) ?_
  refine i_229_113 (lv2 := [(6, Value.int 0), (8, Value.int 1), (9, Value.int a10), (7, Value.int 0), (5, Value.int 2147483647), (0, Value.ref 128), (1, Value.int a0), (2, Value.int a1), (3, Value.int a2), (4, Value.int a3)]) rfl ?_
  refine i_229_115 (x := 0) rfl ?_
  refine i_229_117 (x := 128) rfl ?_
  refine i_229_118 (v := Value.ref 154) hw11 rfl ?_
  refine i_229_121 (x := a10) rfl ?_
  refine i_229_123 (v := Value.int 0) hw12 e36 e37 rfl ?_
  refine i_229_124 ?_
  refine i_229_125 (fun _ => ?_) (fun h => absurd h (by decide))
  refine i_229_142 ?_
  refine i_229_143 (c := 0) (by decide) ?_
  refine i_229_144 (lv2 := [(7, Value.int 0), (6, Value.int 0), (8, Value.int 1), (9, Value.int a10), (5, Value.int 2147483647), (0, Value.ref 128), (1, Value.int a0), (2, Value.int a1), (3, Value.int a2), (4, Value.int a3)]) rfl ?_
  refine i_229_146 (x := 128) rfl ?_
  refine i_229_147 (v := Value.ref 154) hw11 rfl ?_
  refine i_229_150 (x := a10) rfl ?_
  refine i_229_152 (v := Value.int 0) hw12 e36 e37 rfl ?_
  refine i_229_153 ?_
  refine i_229_154 (fun _ => ?_) (fun h => absurd h (by decide))
  refine i_229_170 (x := a10) (c := a11) (lv2 := [(9, Value.int a11), (7, Value.int 0), (6, Value.int 0), (8, Value.int 1), (5, Value.int 2147483647), (0, Value.ref 128), (1, Value.int a0), (2, Value.int a1), (3, Value.int a2), (4, Value.int a3)]) rfl hg38 rfl ?_
  refine i_229_173 ?_
  refine i_229_56 (x := a11) rfl ?_
  refine i_229_58 (x := a1) rfl ?_
  refine i_229_59 (x := a2) rfl ?_
  refine i_229_60 (c := a4) hg6 ?_
  refine i_229_61 (fun h => absurd e39 (Int.not_lt.mpr h)) (fun _ => ?_)
  refine i_229_64 (x := 1) rfl ?_
  refine i_229_66 (x := 128) rfl ?_
  refine i_229_67 (v := Value.ref 154) hw11 rfl ?_
  refine i_229_70 (x := a11) rfl ?_
  refine i_229_72 (v := Value.int 0) hw12 e40 e41 rfl ?_
  refine i_229_73 (fun h => absurd h (by decide)) (fun _ => ?_)
  refine i_229_76 ?_
  refine i_229_77 ?_
  refine i_229_81 (c := 1) (by decide) ?_
  refine i_229_82 (lv2 := [(8, Value.int 1), (9, Value.int a11), (7, Value.int 0), (6, Value.int 0), (5, Value.int 2147483647), (0, Value.ref 128), (1, Value.int a0), (2, Value.int a1), (3, Value.int a2), (4, Value.int a3)]) rfl ?_
  refine i_229_84 (x := 0) rfl ?_
  refine i_229_86 (x := 128) rfl ?_
  refine i_229_87 (v := Value.ref 154) hw11 rfl ?_
  refine i_229_90 (x := a11) rfl ?_
  refine i_229_92 (v := Value.int 0) hw12 e40 e41 rfl ?_
  refine i_229_93 ?_
  refine i_229_94 (fun _ => ?_) (fun h => absurd h (by decide))
  refine i_229_111 ?_
  refine i_229_112 (c := 0) (by decide) ?_
  refine i_229_113 (lv2 := [(6, Value.int 0), (8, Value.int 1), (9, Value.int a11), (7, Value.int 0), (5, Value.int 2147483647), (0, Value.ref 128), (1, Value.int a0), (2, Value.int a1), (3, Value.int a2), (4, Value.int a3)]) rfl ?_
  refine i_229_115 (x := 0) rfl ?_
  refine i_229_117 (x := 128) rfl ?_
  refine i_229_118 (v := Value.ref 154) hw11 rfl ?_
  refine i_229_121 (x := a11) rfl ?_
  refine i_229_123 (v := Value.int 0) hw12 e40 e41 rfl ?_
  refine i_229_124 ?_
  refine i_229_125 (fun _ => ?_) (fun h => absurd h (by decide))
  refine i_229_142 ?_
  refine i_229_143 (c := 0) (by decide) ?_
  refine i_229_144 (lv2 := [(7, Value.int 0), (6, Value.int 0), (8, Value.int 1), (9, Value.int a11), (5, Value.int 2147483647), (0, Value.ref 128), (1, Value.int a0), (2, Value.int a1), (3, Value.int a2), (4, Value.int a3)]) rfl ?_
  refine i_229_146 (x := 128) rfl ?_
  refine i_229_147 (v := Value.ref 154) hw11 rfl ?_
  refine i_229_150 (x := a11) rfl ?_
  refine i_229_152 (v := Value.int 0) hw12 e40 e41 rfl ?_
  refine i_229_153 ?_
  refine i_229_154 (fun _ => ?_) (fun h => absurd h (by decide))
  refine i_229_170 (x := a11) (c := a12) (lv2 := [(9, Value.int a12), (7, Value.int 0), (6, Value.int 0), (8, Value.int 1), (5, Value.int 2147483647), (0, Value.ref 128), (1, Value.int a0), (2, Value.int a1), (3, Value.int a2), (4, Value.int a3)]) rfl hg42 rfl ?_
  refine i_229_173 ?_
  refine i_229_56 (x := a12) rfl ?_
  refine i_229_58 (x := a1) rfl ?_
  refine i_229_59 (x := a2) rfl ?_
  refine i_229_60 (c := a4) hg6 ?_
  refine i_229_61 (fun h => absurd e43 (Int.not_lt.mpr h)) (fun _ => ?_)
  refine i_229_64 (x := 1) rfl ?_
  refine i_229_66 (x := 128) rfl ?_
  refine i_229_67 (v := Value.ref 154) hw11 rfl ?_
  refine i_229_70 (x := a12) rfl ?_
  refine i_229_72 (v := Value.int 0) hw12 e44 e45 rfl ?_
  refine i_229_73 (fun h => absurd h (by decide)) (fun _ => ?_)
  refine i_229_76 ?_
  refine i_229_77 ?_
  refine i_229_81 (c := 1) (by decide) ?_
  refine i_229_82 (lv2 := [(8, Value.int 1), (9, Value.int a12), (7, Value.int 0), (6, Value.int 0), (5, Value.int 2147483647), (0, Value.ref 128), (1, Value.int a0), (2, Value.int a1), (3, Value.int a2), (4, Value.int a3)]) rfl ?_
  refine i_229_84 (x := 0) rfl ?_
  refine i_229_86 (x := 128) rfl ?_
  refine i_229_87 (v := Value.ref 154) hw11 rfl ?_
  refine i_229_90 (x := a12) rfl ?_
  refine i_229_92 (v := Value.int 0) hw12 e44 e45 rfl ?_
  refine i_229_93 ?_
  refine i_229_94 (fun _ => ?_) (fun h => absurd h (by decide))
  refine i_229_111 ?_
  refine i_229_112 (c := 0) (by decide) ?_
  refine i_229_113 (lv2 := [(6, Value.int 0), (8, Value.int 1), (9, Value.int a12), (7, Value.int 0), (5, Value.int 2147483647), (0, Value.ref 128), (1, Value.int a0), (2, Value.int a1), (3, Value.int a2), (4, Value.int a3)]) rfl ?_
  refine i_229_115 (x := 0) rfl ?_
  refine i_229_117 (x := 128) rfl ?_
  refine i_229_118 (v := Value.ref 154) hw11 rfl ?_
  refine i_229_121 (x := a12) rfl ?_
  refine i_229_123 (v := Value.int 0) hw12 e44 e45 rfl ?_
  refine i_229_124 ?_
  refine i_229_125 (fun _ => ?_) (fun h => absurd h (by decide))
  refine i_229_142 ?_
  refine i_229_143 (c := 0) (by decide) ?_
  refine i_229_144 (lv2 := [(7, Value.int 0), (6, Value.int 0), (8, Value.int 1), (9, Value.int a12), (5, Value.int 2147483647), (0, Value.ref 128), (1, Value.int a0), (2, Value.int a1), (3, Value.int a2), (4, Value.int a3)]) rfl ?_
  refine i_229_146 (x := 128) rfl ?_
  refine i_229_147 (v := Value.ref 154) hw11 rfl ?_
  refine i_229_150 (x := a12) rfl ?_
  refine i_229_152 (v := Value.int 0) hw12 e44 e45 rfl ?_
  refine i_229_153 ?_
  refine i_229_154 (fun _ => ?_) (fun h => absurd h (by decide))
  refine i_229_170 (x := a12) (c := a13) (lv2 := [(9, Value.int a13), (7, Value.int 0), (6, Value.int 0), (8, Value.int 1), (5, Value.int 2147483647), (0, Value.ref 128), (1, Value.int a0), (2, Value.int a1), (3, Value.int a2), (4, Value.int a3)]) rfl hg46 rfl ?_
  refine i_229_173 ?_
  refine i_229_56 (x := a13) rfl ?_
  refine i_229_58 (x := a1) rfl ?_
  refine i_229_59 (x := a2) rfl ?_
  refine i_229_60 (c := a4) hg6 ?_
  refine i_229_61 (fun h => absurd e47 (Int.not_lt.mpr h)) (fun _ => ?_)
  refine i_229_64 (x := 1) rfl ?_
  refine i_229_66 (x := 128) rfl ?_
  refine i_229_67 (v := Value.ref 154) hw11 rfl ?_
  refine i_229_70 (x := a13) rfl ?_
  refine i_229_72 (v := Value.int 0) hw12 e48 e49 rfl ?_
  refine i_229_73 (fun h => absurd h (by decide)) (fun _ => ?_)
  refine i_229_76 ?_
  refine i_229_77 ?_
  refine i_229_81 (c := 1) (by decide) ?_
  refine i_229_82 (lv2 := [(8, Value.int 1), (9, Value.int a13), (7, Value.int 0), (6, Value.int 0), (5, Value.int 2147483647), (0, Value.ref 128), (1, Value.int a0), (2, Value.int a1), (3, Value.int a2), (4, Value.int a3)]) rfl ?_
  refine i_229_84 (x := 0) rfl ?_
  refine i_229_86 (x := 128) rfl ?_
  refine i_229_87 (v := Value.ref 154) hw11 rfl ?_
  refine i_229_90 (x := a13) rfl ?_
  refine i_229_92 (v := Value.int 0) hw12 e48 e49 rfl ?_
  refine i_229_93 ?_
  refine i_229_94 (fun _ => ?_) (fun h => absurd h (by decide))
  refine i_229_111 ?_
  refine i_229_112 (c := 0) (by decide) ?_
  refine i_229_113 (lv2 := [(6, Value.int 0), (8, Value.int 1), (9, Value.int a13), (7, Value.int 0), (5, Value.int 2147483647), (0, Value.ref 128), (1, Value.int a0), (2, Value.int a1), (3, Value.int a2), (4, Value.int a3)]) rfl ?_
  refine i_229_115 (x := 0) rfl ?_
  refine i_229_117 (x := 128) rfl ?_
  refine i_229_118 (v := Value.ref 154) hw11 rfl ?_
  refine i_229_121 (x := a13) rfl ?_
  refine i_229_123 (v := Value.int 0) hw12 e48 e49 rfl ?_
  refine i_229_124 ?_
  refine i_229_125 (fun _ => ?_) (fun h => absurd h (by decide))
  refine i_229_142 ?_
  refine i_229_143 (c := 0) (by decide) ?_
  refine i_229_144 (lv2 := [(7, Value.int 0), (6, Value.int 0), (8, Value.int 1), (9, Value.int a13), (5, Value.int 2147483647), (0, Value.ref 128), (1, Value.int a0), (2, Value.int a1), (3, Value.int a2), (4, Value.int a3)]) rfl ?_
  refine i_229_146 (x := 128) rfl ?_
  refine i_229_147 (v := Value.ref 154) hw11 rfl ?_
  refine i_229_150 (x := a13) rfl ?_
  refine i_229_152 (v := Value.int 0) hw12 e48 e49 rfl ?_
  refine i_229_153 ?_
  refine i_229_154 (fun _ => ?_) (fun h => absurd h (by decide))
  refine i_229_170 (x := a13) (c := a14) (lv2 := [(9, Value.int a14), (7, Value.int 0), (6, Value.int 0), (8, Value.int 1), (5, Value.int 2147483647), (0, Value.ref 128), (1, Value.int a0), (2, Value.int a1), (3, Value.int a2), (4, Value.int a3)]) rfl hg50 rfl ?_
  refine i_229_173 ?_
  refine i_229_56 (x := a14) rfl ?_
  refine i_229_58 (x := a1) rfl ?_
  refine i_229_59 (x := a2) rfl ?_
  refine i_229_60 (c := a4) hg6 ?_
  refine i_229_61 (fun h => absurd e51 (Int.not_lt.mpr h)) (fun _ => ?_)
  refine i_229_64 (x := 1) rfl ?_
  refine i_229_66 (x := 128) rfl ?_
  refine i_229_67 (v := Value.ref 154) hw11 rfl ?_
  refine i_229_70 (x := a14) rfl ?_
  refine i_229_72 (v := Value.int 0) hw12 e52 e53 rfl ?_
  refine i_229_73 (fun h => absurd h (by decide)) (fun _ => ?_)
  refine i_229_76 ?_
  refine i_229_77 ?_
  refine i_229_81 (c := 1) (by decide) ?_
  refine i_229_82 (lv2 := [(8, Value.int 1), (9, Value.int a14), (7, Value.int 0), (6, Value.int 0), (5, Value.int 2147483647), (0, Value.ref 128), (1, Value.int a0), (2, Value.int a1), (3, Value.int a2), (4, Value.int a3)]) rfl ?_
  refine i_229_84 (x := 0) rfl ?_
  refine i_229_86 (x := 128) rfl ?_
  refine i_229_87 (v := Value.ref 154) hw11 rfl ?_
  refine i_229_90 (x := a14) rfl ?_
  refine i_229_92 (v := Value.int 0) hw12 e52 e53 rfl ?_
  refine i_229_93 ?_
  refine i_229_94 (fun _ => ?_) (fun h => absurd h (by decide))
  refine i_229_111 ?_
  refine i_229_112 (c := 0) (by decide) ?_
  refine i_229_113 (lv2 := [(6, Value.int 0), (8, Value.int 1), (9, Value.int a14), (7, Value.int 0), (5, Value.int 2147483647), (0, Value.ref 128), (1, Value.int a0), (2, Value.int a1), (3, Value.int a2), (4, Value.int a3)]) rfl ?_
  refine i_229_115 (x := 0) rfl ?_
  refine i_229_117 (x := 128) rfl ?_
  refine i_229_118 (v := Value.ref 154) hw11 rfl ?_
  refine i_229_121 (x := a14) rfl ?_
  refine i_229_123 (v := Value.int 0) hw12 e52 e53 rfl ?_
  refine i_229_124 ?_
  refine i_229_125 (fun _ => ?_) (fun h => absurd h (by decide))
  refine i_229_142 ?_
  refine i_229_143 (c := 0) (by decide) ?_
  refine i_229_144 (lv2 := [(7, Value.int 0), (6, Value.int 0), (8, Value.int 1), (9, Value.int a14), (5, Value.int 2147483647), (0, Value.ref 128), (1, Value.int a0), (2, Value.int a1), (3, Value.int a2), (4, Value.int a3)]) rfl ?_
  refine i_229_146 (x := 128) rfl ?_
  refine i_229_147 (v := Value.ref 154) hw11 rfl ?_
  refine i_229_150 (x := a14) rfl ?_
  refine i_229_152 (v := Value.int 0) hw12 e52 e53 rfl ?_
  refine i_229_153 ?_
  refine i_229_154 (fun _ => ?_) (fun h => absurd h (by decide))
  refine i_229_170 (x := a14) (c := a15) (lv2 := [(9, Value.int a15), (7, Value.int 0), (6, Value.int 0), (8, Value.int 1), (5, Value.int 2147483647), (0, Value.ref 128), (1, Value.int a0), (2, Value.int a1), (3, Value.int a2), (4, Value.int a3)]) rfl hg54 rfl ?_
  refine i_229_173 ?_
  refine i_229_56 (x := a15) rfl ?_
  refine i_229_58 (x := a1) rfl ?_
  refine i_229_59 (x := a2) rfl ?_
  refine i_229_60 (c := a4) hg6 ?_
  refine i_229_61 (fun h => absurd e55 (Int.not_lt.mpr h)) (fun _ => ?_)
  refine i_229_64 (x := 1) rfl ?_
  refine i_229_66 (x := 128) rfl ?_
  refine i_229_67 (v := Value.ref 154) hw11 rfl ?_
  refine i_229_70 (x := a15) rfl ?_
  refine i_229_72 (v := Value.int 0) hw12 e56 e57 rfl ?_
  refine i_229_73 (fun h => absurd h (by decide)) (fun _ => ?_)
  refine i_229_76 ?_
  refine i_229_77 ?_
  refine i_229_81 (c := 1) (by decide) ?_
  refine i_229_82 (lv2 := [(8, Value.int 1), (9, Value.int a15), (7, Value.int 0), (6, Value.int 0), (5, Value.int 2147483647), (0, Value.ref 128), (1, Value.int a0), (2, Value.int a1), (3, Value.int a2), (4, Value.int a3)]) rfl ?_
  refine i_229_84 (x := 0) rfl ?_
  refine i_229_86 (x := 128) rfl ?_
  refine i_229_87 (v := Value.ref 154) hw11 rfl ?_
  refine i_229_90 (x := a15) rfl ?_
  refine i_229_92 (v := Value.int 0) hw12 e56 e57 rfl ?_
  refine i_229_93 ?_
  refine i_229_94 (fun _ => ?_) (fun h => absurd h (by decide))
  refine i_229_111 ?_
  refine i_229_112 (c := 0) (by decide) ?_
  refine i_229_113 (lv2 := [(6, Value.int 0), (8, Value.int 1), (9, Value.int a15), (7, Value.int 0), (5, Value.int 2147483647), (0, Value.ref 128), (1, Value.int a0), (2, Value.int a1), (3, Value.int a2), (4, Value.int a3)]) rfl ?_
  refine i_229_115 (x := 0) rfl ?_
  refine i_229_117 (x := 128) rfl ?_
  refine i_229_118 (v := Value.ref 154) hw11 rfl ?_
  refine i_229_121 (x := a15) rfl ?_
  refine i_229_123 (v := Value.int 0) hw12 e56 e57 rfl ?_
  refine i_229_124 ?_
  refine i_229_125 (fun _ => ?_) (fun h => absurd h (by decide))
  refine i_229_142 ?_
  refine i_229_143 (c := 0) (by decide) ?_
  refine i_229_144 (lv2 := [(7, Value.int 0), (6, Value.int 0), (8, Value.int 1), (9, Value.int a15), (5, Value.int 2147483647), (0, Value.ref 128), (1, Value.int a0), (2, Value.int a1), (3, Value.int a2), (4, Value.int a3)]) rfl ?_
  refine i_229_146 (x := 128) rfl ?_
  refine i_229_147 (v := Value.ref 154) hw11 rfl ?_
  refine i_229_150 (x := a15) rfl ?_
  refine i_229_152 (v := Value.int 0) hw12 e56 e57 rfl ?_
  refine i_229_153 ?_
  refine i_229_154 (fun _ => ?_) (fun h => absurd h (by decide))
  refine i_229_170 (x := a15) (c := a16) (lv2 := [(9, Value.int a16), (7, Value.int 0), (6, Value.int 0), (8, Value.int 1), (5, Value.int 2147483647), (0, Value.ref 128), (1, Value.int a0), (2, Value.int a1), (3, Value.int a2), (4, Value.int a3)]) rfl hg58 rfl ?_
  refine i_229_173 ?_
  refine i_229_56 (x := a16) rfl ?_
  refine i_229_58 (x := a1) rfl ?_
  refine i_229_59 (x := a2) rfl ?_
  refine i_229_60 (c := a4) hg6 ?_
  refine i_229_61 (fun h => absurd e59 (Int.not_lt.mpr h)) (fun _ => ?_)
  refine i_229_64 (x := 1) rfl ?_
  refine i_229_66 (x := 128) rfl ?_
  refine i_229_67 (v := Value.ref 154) hw11 rfl ?_
  refine i_229_70 (x := a16) rfl ?_
  refine i_229_72 (v := Value.int 0) hw12 e60 e61 rfl ?_
  refine i_229_73 (fun h => absurd h (by decide)) (fun _ => ?_)
  refine i_229_76 ?_
  refine i_229_77 ?_
  refine i_229_81 (c := 1) (by decide) ?_
  refine i_229_82 (lv2 := [(8, Value.int 1), (9, Value.int a16), (7, Value.int 0), (6, Value.int 0), (5, Value.int 2147483647), (0, Value.ref 128), (1, Value.int a0), (2, Value.int a1), (3, Value.int a2), (4, Value.int a3)]) rfl ?_
  refine i_229_84 (x := 0) rfl ?_
  refine i_229_86 (x := 128) rfl ?_
  refine i_229_87 (v := Value.ref 154) hw11 rfl ?_
  refine i_229_90 (x := a16) rfl ?_
  refine i_229_92 (v := Value.int 0) hw12 e60 e61 rfl ?_
  refine i_229_93 ?_
  refine i_229_94 (fun _ => ?_) (fun h => absurd h (by decide))
  refine i_229_111 ?_
  refine i_229_112 (c := 0) (by decide) ?_
  refine i_229_113 (lv2 := [(6, Value.int 0), (8, Value.int 1), (9, Value.int a16), (7, Value.int 0), (5, Value.int 2147483647), (0, Value.ref 128), (1, Value.int a0), (2, Value.int a1), (3, Value.int a2), (4, Value.int a3)]) rfl ?_
  refine i_229_115 (x := 0) rfl ?_
  refine i_229_117 (x := 128) rfl ?_
  refine i_229_118 (v := Value.ref 154) hw11 rfl ?_
  refine i_229_121 (x := a16) rfl ?_
  refine i_229_123 (v := Value.int 0) hw12 e60 e61 rfl ?_
  refine i_229_124 ?_
  refine i_229_125 (fun _ => ?_) (fun h => absurd h (by decide))
  refine i_229_142 ?_
  refine i_229_143 (c := 0) (by decide) ?_
  refine i_229_144 (lv2 := [(7, Value.int 0), (6, Value.int 0), (8, Value.int 1), (9, Value.int a16), (5, Value.int 2147483647), (0, Value.ref 128), (1, Value.int a0), (2, Value.int a1), (3, Value.int a2), (4, Value.int a3)]) rfl ?_
  refine i_229_146 (x := 128) rfl ?_
  refine i_229_147 (v := Value.ref 154) hw11 rfl ?_
  refine i_229_150 (x := a16) rfl ?_
  refine i_229_152 (v := Value.int 0) hw12 e60 e61 rfl ?_
  refine i_229_153 ?_
  refine i_229_154 (fun _ => ?_) (fun h => absurd h (by decide))
  refine i_229_170 (x := a16) (c := a17) (lv2 := [(9, Value.int a17), (7, Value.int 0), (6, Value.int 0), (8, Value.int 1), (5, Value.int 2147483647), (0, Value.ref 128), (1, Value.int a0), (2, Value.int a1), (3, Value.int a2), (4, Value.int a3)]) rfl hg62 rfl ?_
  refine i_229_173 ?_
  refine i_229_56 (x := a17) rfl ?_
  refine i_229_58 (x := a1) rfl ?_
  refine i_229_59 (x := a2) rfl ?_
  refine i_229_60 (c := a4) hg6 ?_
  refine i_229_61 (fun _ => ?_) (fun h => absurd e63 (Int.not_le.mpr h))
  refine i_229_176 (x := 1) rfl ?_
  refine i_229_178 (fun h => absurd h (by decide)) (fun _ => ?_)
  refine i_229_181 (x := 128) rfl ?_
  refine i_229_182 (x := a0) rfl ?_
  refine i_229_183 ?_
  refine i_229_184 ?_
  refine i_229_185 hw11 (Nat.le_of_ble_eq_true rfl) (p_171_0 hw11 hw12 e0 e64 hw65) ?_
  exact i_229_188 ⟨rfl, rfl⟩
theorem p_228_10 {d : Nat} {w : xW} {a0 : Int32} {a1 : Int32} {a2 : Int32} {a3 : Int32} {a4 : Int32} {a5 : Int32} {a6 : Int32} {a7 : Int32} {a8 : Int32} {a9 : Int32} {a10 : Int32} {a11 : Int32} {a12 : Int32} {a13 : Int32} {a14 : Int32} {a15 : Int32} {a16 : Int32} {a17 : Int32} (hw0 : w[128]? = some (Sum.inr (12, [Value.ref 129, Value.ref 131, Value.ref 133, Value.ref 135, Value.ref 137, Value.ref 139, Value.ref 141, Value.ref 143, Value.ref 145, Value.ref 147, Value.ref 149, Value.ref 151, Value.ref 153, Value.ref 154, Value.ref 155, Value.ref 156, Value.ref 157, Value.int (-16384), Value.int 16384, Value.int 0, Value.int 0, Value.int 0, Value.ref 158, Value.ref 159, Value.int 0, Value.int 0, Value.int 0, Value.int 0, Value.int 0, Value.int 0, Value.int 0, Value.int 0]))) (e1 : 0 ≤ a0.toInt) (e2 : a0.toInt ≤ 15) (e3 : 0 ≤ a1.toInt) (e4 : a1.toInt ≤ 15) (e5 : 1 ≤ a2.toInt) (e6 : a2.toInt ≤ 16) (hg7 : (a1 + a2) = a4) (e8 : a4.toInt ≤ 16) (e9 : 0 ≤ a3.toInt) (e10 : a3.toInt ≤ 4) (e11 : a1.toInt < a4.toInt) (hw12 : w[154]? = some (Sum.inl (0, 17, fun _ => Value.int 0))) (e13 : a1.toInt < 17) (hg14 : (a1 + (1 : Int32)) = a5) (e15 : a5.toInt < a4.toInt) (e16 : 0 ≤ a5.toInt) (e17 : a5.toInt < 17) (hg18 : (a5 + (1 : Int32)) = a6) (e19 : a6.toInt < a4.toInt) (e20 : 0 ≤ a6.toInt) (e21 : a6.toInt < 17) (hg22 : (a6 + (1 : Int32)) = a7) (e23 : a7.toInt < a4.toInt) (e24 : 0 ≤ a7.toInt) (e25 : a7.toInt < 17) (hg26 : (a7 + (1 : Int32)) = a8) (e27 : a8.toInt < a4.toInt) (e28 : 0 ≤ a8.toInt) (e29 : a8.toInt < 17) (hg30 : (a8 + (1 : Int32)) = a9) (e31 : a9.toInt < a4.toInt) (e32 : 0 ≤ a9.toInt) (e33 : a9.toInt < 17) (hg34 : (a9 + (1 : Int32)) = a10) (e35 : a10.toInt < a4.toInt) (e36 : 0 ≤ a10.toInt) (e37 : a10.toInt < 17) (hg38 : (a10 + (1 : Int32)) = a11) (e39 : a11.toInt < a4.toInt) (e40 : 0 ≤ a11.toInt) (e41 : a11.toInt < 17) (hg42 : (a11 + (1 : Int32)) = a12) (e43 : a12.toInt < a4.toInt) (e44 : 0 ≤ a12.toInt) (e45 : a12.toInt < 17) (hg46 : (a12 + (1 : Int32)) = a13) (e47 : a13.toInt < a4.toInt) (e48 : 0 ≤ a13.toInt) (e49 : a13.toInt < 17) (hg50 : (a13 + (1 : Int32)) = a14) (e51 : a14.toInt < a4.toInt) (e52 : 0 ≤ a14.toInt) (e53 : a14.toInt < 17) (hg54 : (a14 + (1 : Int32)) = a15) (e55 : a15.toInt < a4.toInt) (e56 : 0 ≤ a15.toInt) (e57 : a15.toInt < 17) (hg58 : (a15 + (1 : Int32)) = a16) (e59 : a16.toInt < a4.toInt) (e60 : 0 ≤ a16.toInt) (e61 : a16.toInt < 17) (hg62 : (a16 + (1 : Int32)) = a17) (e63 : a4.toInt ≤ a17.toInt) (e64 : a0.toInt < 17) (hw65 : w[156]? = some (Sum.inl (2, 17, fun _ => Value.int 0))) : xRun (d + 3) 228 [Value.ref 128, Value.int a0, Value.int a1, Value.int a2, Value.int a3] w (.inl (some (Value.int 0))) (((w.set 128 (Sum.inr (12, [Value.ref 129, Value.ref 131, Value.ref 133, Value.ref 135, Value.ref 137, Value.ref 139, Value.ref 141, Value.ref 143, Value.ref 145, Value.ref 147, Value.ref 149, Value.ref 151, Value.ref 153, Value.ref 154, Value.ref 155, Value.ref 156, Value.ref 157, Value.int (-16384), Value.int 16384, Value.int 0, Value.int 0, Value.int 0, Value.ref 158, Value.ref 159, Value.int 0, Value.int 0, Value.int 0, Value.int 0, Value.int 0, Value.int 0, Value.int 0, Value.int 0]))).set 154 (Sum.inl (0, 17, xup (fun _ => Value.int 0) a0.toInt.toNat (Value.int 0)))).set 156 (Sum.inl (2, 17, xup (fun _ => Value.int 0) a0.toInt.toNat (Value.int 0)))) := by
  refine xRun.of ?_
  refine i_228_0 (x := 128) rfl ?_
  refine i_228_1 ?_
  refine i_228_2 (fs2 := [Value.ref 129, Value.ref 131, Value.ref 133, Value.ref 135, Value.ref 137, Value.ref 139, Value.ref 141, Value.ref 143, Value.ref 145, Value.ref 147, Value.ref 149, Value.ref 151, Value.ref 153, Value.ref 154, Value.ref 155, Value.ref 156, Value.ref 157, Value.int (-16384), Value.int 16384, Value.int 0, Value.int 0, Value.int 0, Value.ref 158, Value.ref 159, Value.int 0, Value.int 0, Value.int 0, Value.int 0, Value.int 0, Value.int 0, Value.int 0, Value.int 0]) hw0 (Nat.le_of_ble_eq_true rfl) rfl (by decide) ?_
  refine i_228_5 (x := 128) rfl ?_
  refine i_228_6 (x := a0) rfl ?_
  refine i_228_7 (x := a1) rfl ?_
  refine i_228_8 (x := a2) rfl ?_
  refine i_228_9 (x := a3) rfl ?_
  refine i_228_11 (xgs hw0) (Nat.le_of_ble_eq_true rfl) (p_229_10 e1 e2 e3 e4 e5 e6 hg7 e8 e9 e10 e11 (xgs hw0) (xgn (by decide) hw12) e13 hg14 e15 e16 e17 hg18 e19 e20 e21 hg22 e23 e24 e25 hg26 e27 e28 e29 hg30 e31 e32 e33 hg34 e35 e36 e37 hg38 e39 e40 e41 hg42 e43 e44 e45 hg46 e47 e48 e49 hg50 e51 e52 e53 hg54 e55 e56 e57 hg58 e59 e60 e61 hg62 e63 e64 (xgn (by decide) hw65)) ?_
  exact i_228_14 ⟨rfl, rfl⟩
theorem g_10_10 {z0 z1 z2 z3 z4 z5 z6 z7 z8 z9 z10 z11 z12 z13 z14 z15 z16 z17 z18 : Int} (h0 : z0 = 10) (c0 : 0 ≤ z1) (c1 : z1 < 16) (c2 : 0 ≤ z2) (c3 : z2 < 16) (c4 : 1 ≤ z3) (c5 : z3 ≤ 16) (nN6 : z4 = z2 + z3) (c7 : z4 ≤ 16) (c8 : 0 ≤ z5) (c9 : z5 ≤ 4) (nN10 : z6 = z2 + 1) (c11 : z6 < z4) (nN12 : z7 = z6 + 1) (c13 : z7 < z4) (nN14 : z8 = z7 + 1) (c15 : z8 < z4) (nN16 : z9 = z8 + 1) (c17 : z9 < z4) (nN18 : z10 = z9 + 1) (c19 : z10 < z4) (nN20 : z11 = z10 + 1) (c21 : z11 < z4) (nN22 : z12 = z11 + 1) (c23 : z12 < z4) (nN24 : z13 = z12 + 1) (c25 : z13 < z4) (nN26 : z14 = z13 + 1) (c27 : z14 < z4) (nN28 : z15 = z14 + 1) (c29 : z15 < z4) (nN30 : z16 = z15 + 1) (c31 : z16 < z4) (nN32 : z17 = z16 + 1) (c33 : z17 < z4) (nN34 : z18 = z17 + 1) (c35 : z4 ≤ z18) : (((((((0 ≤ z1) ∧ ((z1 < 16) ∧ (0 ≤ z2))) ∧ (((z2 < 16) ∧ (1 ≤ z3)) ∧ ((z3 ≤ 16) ∧ (z4 ≤ 16)))) ∧ ((((0 ≤ z5) ∧ (z5 ≤ 4)) ∧ ((z2 < z4) ∧ (z2.toNat < 16))) ∧ (((19 ≠ (30 + 3 * z2.toNat)) ∧ (22 ≠ (30 + 3 * z2.toNat))) ∧ ((20 ≠ (30 + 3 * z2.toNat)) ∧ (z6 < z4))))) ∧ (((((0 ≤ z6) ∧ (z6 < 16)) ∧ ((z6.toNat < 16) ∧ (19 ≠ (30 + 3 * z6.toNat)))) ∧ (((22 ≠ (30 + 3 * z6.toNat)) ∧ (20 ≠ (30 + 3 * z6.toNat))) ∧ ((z7 < z4) ∧ (0 ≤ z7)))) ∧ ((((z7 < 16) ∧ (z7.toNat < 16)) ∧ ((19 ≠ (30 + 3 * z7.toNat)) ∧ (22 ≠ (30 + 3 * z7.toNat)))) ∧ (((20 ≠ (30 + 3 * z7.toNat)) ∧ (z8 < z4)) ∧ ((0 ≤ z8) ∧ (z8 < 16)))))) ∧ (((((z8.toNat < 16) ∧ ((19 ≠ (30 + 3 * z8.toNat)) ∧ (22 ≠ (30 + 3 * z8.toNat)))) ∧ (((20 ≠ (30 + 3 * z8.toNat)) ∧ (z9 < z4)) ∧ ((0 ≤ z9) ∧ (z9 < 16)))) ∧ ((((z9.toNat < 16) ∧ (19 ≠ (30 + 3 * z9.toNat))) ∧ ((22 ≠ (30 + 3 * z9.toNat)) ∧ (20 ≠ (30 + 3 * z9.toNat)))) ∧ (((z10 < z4) ∧ (0 ≤ z10)) ∧ ((z10 < 16) ∧ (z10.toNat < 16))))) ∧ (((((19 ≠ (30 + 3 * z10.toNat)) ∧ (22 ≠ (30 + 3 * z10.toNat))) ∧ ((20 ≠ (30 + 3 * z10.toNat)) ∧ (z11 < z4))) ∧ (((0 ≤ z11) ∧ (z11 < 16)) ∧ ((z11.toNat < 16) ∧ (19 ≠ (30 + 3 * z11.toNat))))) ∧ ((((22 ≠ (30 + 3 * z11.toNat)) ∧ (20 ≠ (30 + 3 * z11.toNat))) ∧ ((z12 < z4) ∧ (0 ≤ z12))) ∧ (((z12 < 16) ∧ (z12.toNat < 16)) ∧ ((19 ≠ (30 + 3 * z12.toNat)) ∧ (22 ≠ (30 + 3 * z12.toNat)))))))) ∧ ((((((20 ≠ (30 + 3 * z12.toNat)) ∧ ((z13 < z4) ∧ (0 ≤ z13))) ∧ (((z13 < 16) ∧ (z13.toNat < 16)) ∧ ((19 ≠ (30 + 3 * z13.toNat)) ∧ (22 ≠ (30 + 3 * z13.toNat))))) ∧ ((((20 ≠ (30 + 3 * z13.toNat)) ∧ (z14 < z4)) ∧ ((0 ≤ z14) ∧ (z14 < 16))) ∧ (((z14.toNat < 16) ∧ (19 ≠ (30 + 3 * z14.toNat))) ∧ ((22 ≠ (30 + 3 * z14.toNat)) ∧ (20 ≠ (30 + 3 * z14.toNat)))))) ∧ (((((z15 < z4) ∧ (0 ≤ z15)) ∧ ((z15 < 16) ∧ (z15.toNat < 16))) ∧ (((19 ≠ (30 + 3 * z15.toNat)) ∧ (22 ≠ (30 + 3 * z15.toNat))) ∧ ((20 ≠ (30 + 3 * z15.toNat)) ∧ (z16 < z4)))) ∧ ((((0 ≤ z16) ∧ (z16 < 16)) ∧ ((z16.toNat < 16) ∧ (19 ≠ (30 + 3 * z16.toNat)))) ∧ (((22 ≠ (30 + 3 * z16.toNat)) ∧ (20 ≠ (30 + 3 * z16.toNat))) ∧ ((z17 < z4) ∧ (0 ≤ z17)))))) ∧ ((((((z17 < 16) ∧ (z17.toNat < 16)) ∧ ((19 ≠ (30 + 3 * z17.toNat)) ∧ (22 ≠ (30 + 3 * z17.toNat)))) ∧ (((20 ≠ (30 + 3 * z17.toNat)) ∧ (z4 ≤ z18)) ∧ ((z1.toNat < 16) ∧ (19 ≠ (30 + 3 * z1.toNat))))) ∧ ((((22 ≠ (30 + 3 * z1.toNat)) ∧ (20 ≠ (30 + 3 * z1.toNat))) ∧ ((7 ≤ (30 + 3 * z1.toNat)) ∧ ((30 + 3 * z1.toNat) ≠ 194))) ∧ ((((30 + 3 * z1.toNat) ≠ 0) ∧ ((30 + 3 * z1.toNat) ≠ 128)) ∧ ((z1 ≤ 15) ∧ (z2 ≤ 15))))) ∧ ((((((30 + 3 * z1.toNat) ≠ 154) ∧ (z2 < 17)) ∧ ((z6 < 17) ∧ (z7 < 17))) ∧ (((z8 < 17) ∧ (z9 < 17)) ∧ ((z10 < 17) ∧ (z11 < 17)))) ∧ ((((z12 < 17) ∧ (z13 < 17)) ∧ ((z14 < 17) ∧ (z15 < 17))) ∧ (((z16 < 17) ∧ (z17 < 17)) ∧ ((z1 < 17) ∧ ((30 + 3 * z1.toNat) ≠ 156)))))))) := by
  subst nN34; subst nN32; subst nN30; subst nN28; subst nN26; subst nN24; subst nN22; subst nN20; subst nN18; subst nN16; subst nN14; subst nN12; subst nN10; subst nN6; exact ⟨⟨⟨⟨⟨⟨by omega, ⟨by omega, by omega⟩⟩, ⟨⟨by omega, by omega⟩, ⟨by omega, by omega⟩⟩⟩, ⟨⟨⟨by omega, by omega⟩, ⟨by omega, by omega⟩⟩, ⟨⟨by omega, by omega⟩, ⟨by omega, by omega⟩⟩⟩⟩, ⟨⟨⟨⟨by omega, by omega⟩, ⟨by omega, by omega⟩⟩, ⟨⟨by omega, by omega⟩, ⟨by omega, by omega⟩⟩⟩, ⟨⟨⟨by omega, by omega⟩, ⟨by omega, by omega⟩⟩, ⟨⟨by omega, by omega⟩, ⟨by omega, by omega⟩⟩⟩⟩⟩, ⟨⟨⟨⟨by omega, ⟨by omega, by omega⟩⟩, ⟨⟨by omega, by omega⟩, ⟨by omega, by omega⟩⟩⟩, ⟨⟨⟨by omega, by omega⟩, ⟨by omega, by omega⟩⟩, ⟨⟨by omega, by omega⟩, ⟨by omega, by omega⟩⟩⟩⟩, ⟨⟨⟨⟨by omega, by omega⟩, ⟨by omega, by omega⟩⟩, ⟨⟨by omega, by omega⟩, ⟨by omega, by omega⟩⟩⟩, ⟨⟨⟨by omega, by omega⟩, ⟨by omega, by omega⟩⟩, ⟨⟨by omega, by omega⟩, ⟨by omega, by omega⟩⟩⟩⟩⟩⟩, ⟨⟨⟨⟨⟨by omega, ⟨by omega, by omega⟩⟩, ⟨⟨by omega, by omega⟩, ⟨by omega, by omega⟩⟩⟩, ⟨⟨⟨by omega, by omega⟩, ⟨by omega, by omega⟩⟩, ⟨⟨by omega, by omega⟩, ⟨by omega, by omega⟩⟩⟩⟩, ⟨⟨⟨⟨by omega, by omega⟩, ⟨by omega, by omega⟩⟩, ⟨⟨by omega, by omega⟩, ⟨by omega, by omega⟩⟩⟩, ⟨⟨⟨by omega, by omega⟩, ⟨by omega, by omega⟩⟩, ⟨⟨by omega, by omega⟩, ⟨by omega, by omega⟩⟩⟩⟩⟩, ⟨⟨⟨⟨⟨by omega, by omega⟩, ⟨by omega, by omega⟩⟩, ⟨⟨by omega, by omega⟩, ⟨by omega, by omega⟩⟩⟩, ⟨⟨⟨by omega, by omega⟩, ⟨by omega, by omega⟩⟩, ⟨⟨by omega, by omega⟩, ⟨by omega, by omega⟩⟩⟩⟩, ⟨⟨⟨⟨by omega, by omega⟩, ⟨by omega, by omega⟩⟩, ⟨⟨by omega, by omega⟩, ⟨by omega, by omega⟩⟩⟩, ⟨⟨⟨by omega, by omega⟩, ⟨by omega, by omega⟩⟩, ⟨⟨by omega, by omega⟩, ⟨by omega, by omega⟩⟩⟩⟩⟩⟩⟩
theorem o_10_10 {d : Nat} {xs : Nat → Int32} {N6 N10 N12 N14 N16 N18 N20 N22 N24 N26 N28 N30 N32 N34 : Int32} (h0 : ((xs 0) &&& (31 : Int32)).toInt = 10) (c0 : 0 ≤ (xs 1).toInt) (c1 : (xs 1).toInt < 16) (c2 : 0 ≤ (xs 2).toInt) (c3 : (xs 2).toInt < 16) (c4 : 1 ≤ (xs 3).toInt) (c5 : (xs 3).toInt ≤ 16) (eN6 : ((xs 2) + (xs 3)) = N6) (nN6 : N6.toInt = (xs 2).toInt + (xs 3).toInt) (c7 : N6.toInt ≤ 16) (c8 : 0 ≤ (xs 4).toInt) (c9 : (xs 4).toInt ≤ 4) (eN10 : ((xs 2) + (1 : Int32)) = N10) (nN10 : N10.toInt = (xs 2).toInt + 1) (c11 : N10.toInt < N6.toInt) (eN12 : (N10 + (1 : Int32)) = N12) (nN12 : N12.toInt = N10.toInt + 1) (c13 : N12.toInt < N6.toInt) (eN14 : (N12 + (1 : Int32)) = N14) (nN14 : N14.toInt = N12.toInt + 1) (c15 : N14.toInt < N6.toInt) (eN16 : (N14 + (1 : Int32)) = N16) (nN16 : N16.toInt = N14.toInt + 1) (c17 : N16.toInt < N6.toInt) (eN18 : (N16 + (1 : Int32)) = N18) (nN18 : N18.toInt = N16.toInt + 1) (c19 : N18.toInt < N6.toInt) (eN20 : (N18 + (1 : Int32)) = N20) (nN20 : N20.toInt = N18.toInt + 1) (c21 : N20.toInt < N6.toInt) (eN22 : (N20 + (1 : Int32)) = N22) (nN22 : N22.toInt = N20.toInt + 1) (c23 : N22.toInt < N6.toInt) (eN24 : (N22 + (1 : Int32)) = N24) (nN24 : N24.toInt = N22.toInt + 1) (c25 : N24.toInt < N6.toInt) (eN26 : (N24 + (1 : Int32)) = N26) (nN26 : N26.toInt = N24.toInt + 1) (c27 : N26.toInt < N6.toInt) (eN28 : (N26 + (1 : Int32)) = N28) (nN28 : N28.toInt = N26.toInt + 1) (c29 : N28.toInt < N6.toInt) (eN30 : (N28 + (1 : Int32)) = N30) (nN30 : N30.toInt = N28.toInt + 1) (c31 : N30.toInt < N6.toInt) (eN32 : (N30 + (1 : Int32)) = N32) (nN32 : N32.toInt = N30.toInt + 1) (c33 : N32.toInt < N6.toInt) (eN34 : (N32 + (1 : Int32)) = N34) (nN34 : N34.toInt = N32.toInt + 1) (c35 : N6.toInt ≤ N34.toInt) : ∃ w1, xEv (d + 20) 287 23 [(4, Value.int 0), (3, Value.ref 194), (2, Value.ref 128), (1, Value.ref 7), (0, Value.ref 0)] [] (W0 6 xs) (fun o' w' => o' = .inl (some (Value.int 1)) ∧ w' = w1) ∧ w1.length ≤ 220 ∧ xsz w1 ≤ 200000 := by
  have G : id (((((((0 ≤ (xs 1).toInt) ∧ (((xs 1).toInt < 16) ∧ (0 ≤ (xs 2).toInt))) ∧ ((((xs 2).toInt < 16) ∧ (1 ≤ (xs 3).toInt)) ∧ (((xs 3).toInt ≤ 16) ∧ (N6.toInt ≤ 16)))) ∧ ((((0 ≤ (xs 4).toInt) ∧ ((xs 4).toInt ≤ 4)) ∧ (((xs 2).toInt < N6.toInt) ∧ ((xs 2).toInt.toNat < 16))) ∧ (((19 ≠ (30 + 3 * (xs 2).toInt.toNat)) ∧ (22 ≠ (30 + 3 * (xs 2).toInt.toNat))) ∧ ((20 ≠ (30 + 3 * (xs 2).toInt.toNat)) ∧ (N10.toInt < N6.toInt))))) ∧ (((((0 ≤ N10.toInt) ∧ (N10.toInt < 16)) ∧ ((N10.toInt.toNat < 16) ∧ (19 ≠ (30 + 3 * N10.toInt.toNat)))) ∧ (((22 ≠ (30 + 3 * N10.toInt.toNat)) ∧ (20 ≠ (30 + 3 * N10.toInt.toNat))) ∧ ((N12.toInt < N6.toInt) ∧ (0 ≤ N12.toInt)))) ∧ ((((N12.toInt < 16) ∧ (N12.toInt.toNat < 16)) ∧ ((19 ≠ (30 + 3 * N12.toInt.toNat)) ∧ (22 ≠ (30 + 3 * N12.toInt.toNat)))) ∧ (((20 ≠ (30 + 3 * N12.toInt.toNat)) ∧ (N14.toInt < N6.toInt)) ∧ ((0 ≤ N14.toInt) ∧ (N14.toInt < 16)))))) ∧ (((((N14.toInt.toNat < 16) ∧ ((19 ≠ (30 + 3 * N14.toInt.toNat)) ∧ (22 ≠ (30 + 3 * N14.toInt.toNat)))) ∧ (((20 ≠ (30 + 3 * N14.toInt.toNat)) ∧ (N16.toInt < N6.toInt)) ∧ ((0 ≤ N16.toInt) ∧ (N16.toInt < 16)))) ∧ ((((N16.toInt.toNat < 16) ∧ (19 ≠ (30 + 3 * N16.toInt.toNat))) ∧ ((22 ≠ (30 + 3 * N16.toInt.toNat)) ∧ (20 ≠ (30 + 3 * N16.toInt.toNat)))) ∧ (((N18.toInt < N6.toInt) ∧ (0 ≤ N18.toInt)) ∧ ((N18.toInt < 16) ∧ (N18.toInt.toNat < 16))))) ∧ (((((19 ≠ (30 + 3 * N18.toInt.toNat)) ∧ (22 ≠ (30 + 3 * N18.toInt.toNat))) ∧ ((20 ≠ (30 + 3 * N18.toInt.toNat)) ∧ (N20.toInt < N6.toInt))) ∧ (((0 ≤ N20.toInt) ∧ (N20.toInt < 16)) ∧ ((N20.toInt.toNat < 16) ∧ (19 ≠ (30 + 3 * N20.toInt.toNat))))) ∧ ((((22 ≠ (30 + 3 * N20.toInt.toNat)) ∧ (20 ≠ (30 + 3 * N20.toInt.toNat))) ∧ ((N22.toInt < N6.toInt) ∧ (0 ≤ N22.toInt))) ∧ (((N22.toInt < 16) ∧ (N22.toInt.toNat < 16)) ∧ ((19 ≠ (30 + 3 * N22.toInt.toNat)) ∧ (22 ≠ (30 + 3 * N22.toInt.toNat)))))))) ∧ ((((((20 ≠ (30 + 3 * N22.toInt.toNat)) ∧ ((N24.toInt < N6.toInt) ∧ (0 ≤ N24.toInt))) ∧ (((N24.toInt < 16) ∧ (N24.toInt.toNat < 16)) ∧ ((19 ≠ (30 + 3 * N24.toInt.toNat)) ∧ (22 ≠ (30 + 3 * N24.toInt.toNat))))) ∧ ((((20 ≠ (30 + 3 * N24.toInt.toNat)) ∧ (N26.toInt < N6.toInt)) ∧ ((0 ≤ N26.toInt) ∧ (N26.toInt < 16))) ∧ (((N26.toInt.toNat < 16) ∧ (19 ≠ (30 + 3 * N26.toInt.toNat))) ∧ ((22 ≠ (30 + 3 * N26.toInt.toNat)) ∧ (20 ≠ (30 + 3 * N26.toInt.toNat)))))) ∧ (((((N28.toInt < N6.toInt) ∧ (0 ≤ N28.toInt)) ∧ ((N28.toInt < 16) ∧ (N28.toInt.toNat < 16))) ∧ (((19 ≠ (30 + 3 * N28.toInt.toNat)) ∧ (22 ≠ (30 + 3 * N28.toInt.toNat))) ∧ ((20 ≠ (30 + 3 * N28.toInt.toNat)) ∧ (N30.toInt < N6.toInt)))) ∧ ((((0 ≤ N30.toInt) ∧ (N30.toInt < 16)) ∧ ((N30.toInt.toNat < 16) ∧ (19 ≠ (30 + 3 * N30.toInt.toNat)))) ∧ (((22 ≠ (30 + 3 * N30.toInt.toNat)) ∧ (20 ≠ (30 + 3 * N30.toInt.toNat))) ∧ ((N32.toInt < N6.toInt) ∧ (0 ≤ N32.toInt)))))) ∧ ((((((N32.toInt < 16) ∧ (N32.toInt.toNat < 16)) ∧ ((19 ≠ (30 + 3 * N32.toInt.toNat)) ∧ (22 ≠ (30 + 3 * N32.toInt.toNat)))) ∧ (((20 ≠ (30 + 3 * N32.toInt.toNat)) ∧ (N6.toInt ≤ N34.toInt)) ∧ (((xs 1).toInt.toNat < 16) ∧ (19 ≠ (30 + 3 * (xs 1).toInt.toNat))))) ∧ ((((22 ≠ (30 + 3 * (xs 1).toInt.toNat)) ∧ (20 ≠ (30 + 3 * (xs 1).toInt.toNat))) ∧ ((7 ≤ (30 + 3 * (xs 1).toInt.toNat)) ∧ ((30 + 3 * (xs 1).toInt.toNat) ≠ 194))) ∧ ((((30 + 3 * (xs 1).toInt.toNat) ≠ 0) ∧ ((30 + 3 * (xs 1).toInt.toNat) ≠ 128)) ∧ (((xs 1).toInt ≤ 15) ∧ ((xs 2).toInt ≤ 15))))) ∧ ((((((30 + 3 * (xs 1).toInt.toNat) ≠ 154) ∧ ((xs 2).toInt < 17)) ∧ ((N10.toInt < 17) ∧ (N12.toInt < 17))) ∧ (((N14.toInt < 17) ∧ (N16.toInt < 17)) ∧ ((N18.toInt < 17) ∧ (N20.toInt < 17)))) ∧ ((((N22.toInt < 17) ∧ (N24.toInt < 17)) ∧ ((N26.toInt < 17) ∧ (N28.toInt < 17))) ∧ (((N30.toInt < 17) ∧ (N32.toInt < 17)) ∧ (((xs 1).toInt < 17) ∧ ((30 + 3 * (xs 1).toInt.toNat) ≠ 156)))))))) := g_10_10 h0 c0 c1 c2 c3 c4 c5 nN6 c7 c8 c9 nN10 c11 nN12 c13 nN14 c15 nN16 c17 nN18 c19 nN20 c21 nN22 c23 nN24 c25 nN26 c27 nN28 c29 nN30 c31 nN32 c33 nN34 c35
  refine ⟨((((((((((((((((((((((W0 6 xs).set 20 (Sum.inr (3, [Value.ref 21, Value.int 0]))).set 22 (Sum.inr (3, [Value.ref 23, Value.int 0]))).set 19 (Sum.inr (5, [Value.ref 20, Value.ref 22, Value.ref 24, Value.ref 26, Value.int 0, Value.int 0, Value.int 0, Value.int 0, Value.int 0, Value.int 0, Value.int 0, Value.int 0]))).set 19 (Sum.inr (5, [Value.ref 20, Value.ref 22, Value.ref 24, Value.ref 26, Value.int 0, Value.int 1, Value.int 0, Value.int 0, Value.int 0, Value.int 0, Value.int 0, Value.int 0]))).set 19 (Sum.inr (5, [Value.ref 20, Value.ref 22, Value.ref 24, Value.ref 26, Value.int 0, Value.int 1, Value.int 0, Value.int 0, Value.int 0, Value.int 0, Value.int 0, Value.int 0]))).set 19 (Sum.inr (5, [Value.ref 20, Value.ref 22, Value.ref 24, Value.ref 26, Value.int 0, Value.int 1, Value.int 0, Value.int 0, Value.int 0, Value.int 0, Value.int 0, Value.int 0]))).set 19 (Sum.inr (5, [Value.ref 20, Value.ref 22, Value.ref 24, Value.ref 26, Value.int 0, Value.int 1, Value.int 0, Value.int 0, Value.int 0, Value.int 0, Value.int 0, Value.int 0]))).set 19 (Sum.inr (5, [Value.ref 20, Value.ref 22, Value.ref 24, Value.ref 26, Value.int 0, Value.int 1, Value.int 0, Value.int 0, Value.int 0, Value.int 0, Value.int 0, Value.int 0]))).set 19 (Sum.inr (5, [Value.ref 20, Value.ref 22, Value.ref 24, Value.ref 26, Value.int 0, Value.int 1, Value.int 0, Value.int 0, Value.int 0, Value.int 0, Value.int 0, Value.int 0]))).set 19 (Sum.inr (5, [Value.ref 20, Value.ref 22, Value.ref 24, Value.ref 26, Value.int 0, Value.int 1, Value.int 0, Value.int 0, Value.int 0, Value.int 0, Value.int 0, Value.int 0]))).set 19 (Sum.inr (5, [Value.ref 20, Value.ref 22, Value.ref 24, Value.ref 26, Value.int 0, Value.int 1, Value.int 0, Value.int 0, Value.int 0, Value.int 0, Value.int 0, Value.int 0]))).set 19 (Sum.inr (5, [Value.ref 20, Value.ref 22, Value.ref 24, Value.ref 26, Value.int 0, Value.int 1, Value.int 0, Value.int 0, Value.int 0, Value.int 0, Value.int 0, Value.int 0]))).set 19 (Sum.inr (5, [Value.ref 20, Value.ref 22, Value.ref 24, Value.ref 26, Value.int 0, Value.int 1, Value.int 0, Value.int 0, Value.int 0, Value.int 0, Value.int 0, Value.int 0]))).set 19 (Sum.inr (5, [Value.ref 20, Value.ref 22, Value.ref 24, Value.ref 26, Value.int 0, Value.int 1, Value.int 0, Value.int 0, Value.int 0, Value.int 0, Value.int 0, Value.int 0]))).set 19 (Sum.inr (5, [Value.ref 20, Value.ref 22, Value.ref 24, Value.ref 26, Value.int 0, Value.int 1, Value.int 0, Value.int 0, Value.int 0, Value.int 0, Value.int 0, Value.int 0]))).set 19 (Sum.inr (5, [Value.ref 20, Value.ref 22, Value.ref 24, Value.ref 26, Value.int 0, Value.int 1, Value.int 0, Value.int 0, Value.int 0, Value.int 0, Value.int 0, Value.int 0]))).set (30 + 3 * (xs 1).toInt.toNat) (Sum.inr (2, [Value.int 64, Value.int 0, Value.int 0, Value.int 0, Value.ref (31 + 3 * (xs 1).toInt.toNat)]))).set 194 (Sum.inl (3, 1, xup (fun _ => Value.long 0) (0 : Int32).toInt.toNat (Value.long 0)))).set 128 (Sum.inr (12, [Value.ref 129, Value.ref 131, Value.ref 133, Value.ref 135, Value.ref 137, Value.ref 139, Value.ref 141, Value.ref 143, Value.ref 145, Value.ref 147, Value.ref 149, Value.ref 151, Value.ref 153, Value.ref 154, Value.ref 155, Value.ref 156, Value.ref 157, Value.int (-16384), Value.int 16384, Value.int 0, Value.int 0, Value.int 0, Value.ref 158, Value.ref 159, Value.int 0, Value.int 0, Value.int 0, Value.int 0, Value.int 0, Value.int 0, Value.int 0, Value.int 0]))).set 154 (Sum.inl (0, 17, xup (fun _ => Value.int 0) (xs 1).toInt.toNat (Value.int 0)))).set 156 (Sum.inl (2, 17, xup (fun _ => Value.int 0) (xs 1).toInt.toNat (Value.int 0)))), ?_, (show xLs _ 220 200000 from ?_)⟩
  · refine i_287_23 (x := 0) rfl ?_
    refine i_287_25 (x := 0) rfl ?_
    refine i_287_26 (c := 6) W0_0 (by decide) ?_
    refine i_287_27 ?_
    refine i_287_29 (c := 0) (by decide) ?_
    refine i_287_30 (fun h => absurd h (by decide)) (fun _ => ?_)
    refine i_287_33 (x := 0) rfl ?_
    refine i_287_34 (x := 0) rfl ?_
    refine i_287_36 (v := Value.int (xs 0)) W0_0 (by decide) (by decide) rfl ?_
    refine i_287_37 ?_
    refine i_287_39 (c := 10) (show ((xs 0) &&& (31 : Int32)) = 10 from (xge_c (n := 10) h0 rfl)) ?_
    refine i_287_40_10 rfl ?_
    refine i_287_1057 (x := 7) rfl ?_
    refine i_287_1058 (x := 0) rfl ?_
    refine i_287_1059 (x := 0) rfl ?_
    refine i_287_1061 ?_
    refine i_287_1062 (c := 1) (by decide) ?_
    refine i_287_1063 (v := Value.int (xs 1)) W0_0 (by decide) (by decide) rfl ?_
    refine i_287_1064 (x := 0) rfl ?_
    refine i_287_1065 (x := 0) rfl ?_
    refine i_287_1067 ?_
    refine i_287_1068 (c := 2) (by decide) ?_
    refine i_287_1069 (v := Value.int (xs 2)) W0_0 (by decide) (by decide) rfl ?_
    refine i_287_1070 (x := 0) rfl ?_
    refine i_287_1071 (x := 0) rfl ?_
    refine i_287_1073 ?_
    refine i_287_1074 (c := 3) (by decide) ?_
    refine i_287_1075 (v := Value.int (xs 3)) W0_0 (by decide) (by decide) rfl ?_
    refine i_287_1076 (x := 0) rfl ?_
    refine i_287_1077 (x := 0) rfl ?_
    refine i_287_1079 ?_
    refine i_287_1080 (c := 4) (by decide) ?_
    refine i_287_1081 (v := Value.int (xs 4)) W0_0 (by decide) (by decide) rfl ?_
    refine i_287_1082 (x := 194) rfl ?_
    refine i_287_1083 (Nat.le_of_ble_eq_true rfl) (p_111_10 W0_7 (G.1.1.1.1.1.1) (G.1.1.1.1.1.2.1) (G.1.1.1.1.1.2.2) (G.1.1.1.1.2.1.1) (G.1.1.1.1.2.1.2) (G.1.1.1.1.2.2.1) (show ((xs 2) + (xs 3)) = N6 from eN6) (G.1.1.1.1.2.2.2) (G.1.1.1.2.1.1.1) (G.1.1.1.2.1.1.2) W0_19 W0_20 W0_22 (G.1.1.1.2.1.2.1) W0_8 (greg_at G.1.1.1.2.1.2.2) (G.1.1.1.2.2.1.1) (G.1.1.1.2.2.1.2) (G.1.1.1.2.2.2.1) (W0_reg G.1.1.1.2.1.2.2) (show ((xs 2) + (1 : Int32)) = N10 from eN10) (G.1.1.1.2.2.2.2) (G.1.1.2.1.1.1.1) (G.1.1.2.1.1.1.2) (greg_at G.1.1.2.1.1.2.1) (G.1.1.2.1.1.2.2) (G.1.1.2.1.2.1.1) (G.1.1.2.1.2.1.2) (W0_reg G.1.1.2.1.1.2.1) (show (N10 + (1 : Int32)) = N12 from eN12) (G.1.1.2.1.2.2.1) (G.1.1.2.1.2.2.2) (G.1.1.2.2.1.1.1) (greg_at G.1.1.2.2.1.1.2) (G.1.1.2.2.1.2.1) (G.1.1.2.2.1.2.2) (G.1.1.2.2.2.1.1) (W0_reg G.1.1.2.2.1.1.2) (show (N12 + (1 : Int32)) = N14 from eN14) (G.1.1.2.2.2.1.2) (G.1.1.2.2.2.2.1) (G.1.1.2.2.2.2.2) (greg_at G.1.2.1.1.1.1) (G.1.2.1.1.1.2.1) (G.1.2.1.1.1.2.2) (G.1.2.1.1.2.1.1) (W0_reg G.1.2.1.1.1.1) (show (N14 + (1 : Int32)) = N16 from eN16) (G.1.2.1.1.2.1.2) (G.1.2.1.1.2.2.1) (G.1.2.1.1.2.2.2) (greg_at G.1.2.1.2.1.1.1) (G.1.2.1.2.1.1.2) (G.1.2.1.2.1.2.1) (G.1.2.1.2.1.2.2) (W0_reg G.1.2.1.2.1.1.1) (show (N16 + (1 : Int32)) = N18 from eN18) (G.1.2.1.2.2.1.1) (G.1.2.1.2.2.1.2) (G.1.2.1.2.2.2.1) (greg_at G.1.2.1.2.2.2.2) (G.1.2.2.1.1.1.1) (G.1.2.2.1.1.1.2) (G.1.2.2.1.1.2.1) (W0_reg G.1.2.1.2.2.2.2) (show (N18 + (1 : Int32)) = N20 from eN20) (G.1.2.2.1.1.2.2) (G.1.2.2.1.2.1.1) (G.1.2.2.1.2.1.2) (greg_at G.1.2.2.1.2.2.1) (G.1.2.2.1.2.2.2) (G.1.2.2.2.1.1.1) (G.1.2.2.2.1.1.2) (W0_reg G.1.2.2.1.2.2.1) (show (N20 + (1 : Int32)) = N22 from eN22) (G.1.2.2.2.1.2.1) (G.1.2.2.2.1.2.2) (G.1.2.2.2.2.1.1) (greg_at G.1.2.2.2.2.1.2) (G.1.2.2.2.2.2.1) (G.1.2.2.2.2.2.2) (G.2.1.1.1.1.1) (W0_reg G.1.2.2.2.2.1.2) (show (N22 + (1 : Int32)) = N24 from eN24) (G.2.1.1.1.1.2.1) (G.2.1.1.1.1.2.2) (G.2.1.1.1.2.1.1) (greg_at G.2.1.1.1.2.1.2) (G.2.1.1.1.2.2.1) (G.2.1.1.1.2.2.2) (G.2.1.1.2.1.1.1) (W0_reg G.2.1.1.1.2.1.2) (show (N24 + (1 : Int32)) = N26 from eN26) (G.2.1.1.2.1.1.2) (G.2.1.1.2.1.2.1) (G.2.1.1.2.1.2.2) (greg_at G.2.1.1.2.2.1.1) (G.2.1.1.2.2.1.2) (G.2.1.1.2.2.2.1) (G.2.1.1.2.2.2.2) (W0_reg G.2.1.1.2.2.1.1) (show (N26 + (1 : Int32)) = N28 from eN28) (G.2.1.2.1.1.1.1) (G.2.1.2.1.1.1.2) (G.2.1.2.1.1.2.1) (greg_at G.2.1.2.1.1.2.2) (G.2.1.2.1.2.1.1) (G.2.1.2.1.2.1.2) (G.2.1.2.1.2.2.1) (W0_reg G.2.1.2.1.1.2.2) (show (N28 + (1 : Int32)) = N30 from eN30) (G.2.1.2.1.2.2.2) (G.2.1.2.2.1.1.1) (G.2.1.2.2.1.1.2) (greg_at G.2.1.2.2.1.2.1) (G.2.1.2.2.1.2.2) (G.2.1.2.2.2.1.1) (G.2.1.2.2.2.1.2) (W0_reg G.2.1.2.2.1.2.1) (show (N30 + (1 : Int32)) = N32 from eN32) (G.2.1.2.2.2.2.1) (G.2.1.2.2.2.2.2) (G.2.2.1.1.1.1.1) (greg_at G.2.2.1.1.1.1.2) (G.2.2.1.1.1.2.1) (G.2.2.1.1.1.2.2) (G.2.2.1.1.2.1.1) (W0_reg G.2.2.1.1.1.1.2) (show (N32 + (1 : Int32)) = N34 from eN34) (G.2.2.1.1.2.1.2) (greg_at G.2.2.1.1.2.2.1) (G.2.2.1.1.2.2.2) (G.2.2.1.2.1.1.1) (G.2.2.1.2.1.1.2) (W0_reg G.2.2.1.1.2.2.1) (G.2.2.1.2.1.2.1) (G.2.2.1.2.1.2.2) W0_194) ?_
    refine i_287_1086 (lv2 := [(5, Value.int 0), (4, Value.int 0), (3, Value.ref 194), (2, Value.ref 128), (1, Value.ref 7), (0, Value.ref 0)]) rfl ?_
    refine i_287_1088 (x := 128) rfl ?_
    refine i_287_1089 (x := 0) rfl ?_
    refine i_287_1090 (x := 0) rfl ?_
    refine i_287_1092 ?_
    refine i_287_1093 (c := 1) (by decide) ?_
    refine i_287_1094 (v := Value.int (xs 1)) (xgn (by decide) (xgn (G.2.2.1.2.2.1.1) (xgn (by decide) (xgn (by decide) (xgn (by decide) (xgn (by decide) (xgn (by decide) (xgn (by decide) (xgn (by decide) (xgn (by decide) (xgn (by decide) (xgn (by decide) (xgn (by decide) (xgn (by decide) (xgn (by decide) (xgn (by decide) (xgn (by decide) (xgn (by decide) W0_0)))))))))))))))))) (by decide) (by decide) rfl ?_
    refine i_287_1095 (x := 0) rfl ?_
    refine i_287_1096 (x := 0) rfl ?_
    refine i_287_1098 ?_
    refine i_287_1099 (c := 2) (by decide) ?_
    refine i_287_1100 (v := Value.int (xs 2)) (xgn (by decide) (xgn (G.2.2.1.2.2.1.1) (xgn (by decide) (xgn (by decide) (xgn (by decide) (xgn (by decide) (xgn (by decide) (xgn (by decide) (xgn (by decide) (xgn (by decide) (xgn (by decide) (xgn (by decide) (xgn (by decide) (xgn (by decide) (xgn (by decide) (xgn (by decide) (xgn (by decide) (xgn (by decide) W0_0)))))))))))))))))) (by decide) (by decide) rfl ?_
    refine i_287_1101 (x := 0) rfl ?_
    refine i_287_1102 (x := 0) rfl ?_
    refine i_287_1104 ?_
    refine i_287_1105 (c := 3) (by decide) ?_
    refine i_287_1106 (v := Value.int (xs 3)) (xgn (by decide) (xgn (G.2.2.1.2.2.1.1) (xgn (by decide) (xgn (by decide) (xgn (by decide) (xgn (by decide) (xgn (by decide) (xgn (by decide) (xgn (by decide) (xgn (by decide) (xgn (by decide) (xgn (by decide) (xgn (by decide) (xgn (by decide) (xgn (by decide) (xgn (by decide) (xgn (by decide) (xgn (by decide) W0_0)))))))))))))))))) (by decide) (by decide) rfl ?_
    refine i_287_1107 (x := 0) rfl ?_
    refine i_287_1108 (x := 0) rfl ?_
    refine i_287_1110 ?_
    refine i_287_1111 (c := 4) (by decide) ?_
    refine i_287_1112 (v := Value.int (xs 4)) (xgn (by decide) (xgn (G.2.2.1.2.2.1.1) (xgn (by decide) (xgn (by decide) (xgn (by decide) (xgn (by decide) (xgn (by decide) (xgn (by decide) (xgn (by decide) (xgn (by decide) (xgn (by decide) (xgn (by decide) (xgn (by decide) (xgn (by decide) (xgn (by decide) (xgn (by decide) (xgn (by decide) (xgn (by decide) W0_0)))))))))))))))))) (by decide) (by decide) rfl ?_
    refine i_287_1113 (xgn (by decide) (xgn (G.2.2.1.2.2.1.2) (xgn (by decide) (xgn (by decide) (xgn (by decide) (xgn (by decide) (xgn (by decide) (xgn (by decide) (xgn (by decide) (xgn (by decide) (xgn (by decide) (xgn (by decide) (xgn (by decide) (xgn (by decide) (xgn (by decide) (xgn (by decide) (xgn (by decide) (xgn (by decide) W0_128)))))))))))))))))) (Nat.le_of_ble_eq_true rfl) (p_228_10 (xgn (by decide) (xgn (G.2.2.1.2.2.1.2) (xgn (by decide) (xgn (by decide) (xgn (by decide) (xgn (by decide) (xgn (by decide) (xgn (by decide) (xgn (by decide) (xgn (by decide) (xgn (by decide) (xgn (by decide) (xgn (by decide) (xgn (by decide) (xgn (by decide) (xgn (by decide) (xgn (by decide) (xgn (by decide) W0_128)))))))))))))))))) (G.1.1.1.1.1.1) (G.2.2.1.2.2.2.1) (G.1.1.1.1.1.2.2) (G.2.2.1.2.2.2.2) (G.1.1.1.1.2.1.2) (G.1.1.1.1.2.2.1) (show ((xs 2) + (xs 3)) = N6 from eN6) (G.1.1.1.1.2.2.2) (G.1.1.1.2.1.1.1) (G.1.1.1.2.1.1.2) (G.1.1.1.2.1.2.1) (xgn (by decide) (xgn (G.2.2.2.1.1.1.1) (xgn (by decide) (xgn (by decide) (xgn (by decide) (xgn (by decide) (xgn (by decide) (xgn (by decide) (xgn (by decide) (xgn (by decide) (xgn (by decide) (xgn (by decide) (xgn (by decide) (xgn (by decide) (xgn (by decide) (xgn (by decide) (xgn (by decide) (xgn (by decide) W0_154)))))))))))))))))) (G.2.2.2.1.1.1.2) (show ((xs 2) + (1 : Int32)) = N10 from eN10) (G.1.1.1.2.2.2.2) (G.1.1.2.1.1.1.1) (G.2.2.2.1.1.2.1) (show (N10 + (1 : Int32)) = N12 from eN12) (G.1.1.2.1.2.2.1) (G.1.1.2.1.2.2.2) (G.2.2.2.1.1.2.2) (show (N12 + (1 : Int32)) = N14 from eN14) (G.1.1.2.2.2.1.2) (G.1.1.2.2.2.2.1) (G.2.2.2.1.2.1.1) (show (N14 + (1 : Int32)) = N16 from eN16) (G.1.2.1.1.2.1.2) (G.1.2.1.1.2.2.1) (G.2.2.2.1.2.1.2) (show (N16 + (1 : Int32)) = N18 from eN18) (G.1.2.1.2.2.1.1) (G.1.2.1.2.2.1.2) (G.2.2.2.1.2.2.1) (show (N18 + (1 : Int32)) = N20 from eN20) (G.1.2.2.1.1.2.2) (G.1.2.2.1.2.1.1) (G.2.2.2.1.2.2.2) (show (N20 + (1 : Int32)) = N22 from eN22) (G.1.2.2.2.1.2.1) (G.1.2.2.2.1.2.2) (G.2.2.2.2.1.1.1) (show (N22 + (1 : Int32)) = N24 from eN24) (G.2.1.1.1.1.2.1) (G.2.1.1.1.1.2.2) (G.2.2.2.2.1.1.2) (show (N24 + (1 : Int32)) = N26 from eN26) (G.2.1.1.2.1.1.2) (G.2.1.1.2.1.2.1) (G.2.2.2.2.1.2.1) (show (N26 + (1 : Int32)) = N28 from eN28) (G.2.1.2.1.1.1.1) (G.2.1.2.1.1.1.2) (G.2.2.2.2.1.2.2) (show (N28 + (1 : Int32)) = N30 from eN30) (G.2.1.2.1.2.2.2) (G.2.1.2.2.1.1.1) (G.2.2.2.2.2.1.1) (show (N30 + (1 : Int32)) = N32 from eN32) (G.2.1.2.2.2.2.1) (G.2.1.2.2.2.2.2) (G.2.2.2.2.2.1.2) (show (N32 + (1 : Int32)) = N34 from eN34) (G.2.2.1.1.2.1.2) (G.2.2.2.2.2.2.1) (xgn (by decide) (xgn (G.2.2.2.2.2.2.2) (xgn (by decide) (xgn (by decide) (xgn (by decide) (xgn (by decide) (xgn (by decide) (xgn (by decide) (xgn (by decide) (xgn (by decide) (xgn (by decide) (xgn (by decide) (xgn (by decide) (xgn (by decide) (xgn (by decide) (xgn (by decide) (xgn (by decide) (xgn (by decide) W0_156))))))))))))))))))) ?_
    refine i_287_1116 (lv2 := [(6, Value.int 0), (5, Value.int 0), (4, Value.int 0), (3, Value.ref 194), (2, Value.ref 128), (1, Value.ref 7), (0, Value.ref 0)]) rfl ?_
    refine i_287_1118 (x := 128) rfl ?_
    refine i_287_1119 (xgn (by decide) (xgn (by decide) (xgs (xgn (by decide) (xgn (G.2.2.1.2.2.1.2) (xgn (by decide) (xgn (by decide) (xgn (by decide) (xgn (by decide) (xgn (by decide) (xgn (by decide) (xgn (by decide) (xgn (by decide) (xgn (by decide) (xgn (by decide) (xgn (by decide) (xgn (by decide) (xgn (by decide) (xgn (by decide) (xgn (by decide) (xgn (by decide) W0_128))))))))))))))))))))) (Nat.le_of_ble_eq_true rfl) (p_165_1 (xgn (by decide) (xgn (by decide) (xgs (xgn (by decide) (xgn (G.2.2.1.2.2.1.2) (xgn (by decide) (xgn (by decide) (xgn (by decide) (xgn (by decide) (xgn (by decide) (xgn (by decide) (xgn (by decide) (xgn (by decide) (xgn (by decide) (xgn (by decide) (xgn (by decide) (xgn (by decide) (xgn (by decide) (xgn (by decide) (xgn (by decide) (xgn (by decide) W0_128)))))))))))))))))))))) ?_
    refine i_287_1122 (x := 0) rfl ?_
    refine i_287_1124 (fun _ => ?_) (fun h => absurd h (by decide))
    refine i_287_1129 (x := 0) rfl ?_
    refine i_287_1131 (fun h => absurd h (by decide)) (fun _ => ?_)
    refine i_287_1134 (x := 194) rfl ?_
    refine i_287_1135 ?_
    refine i_287_1136 (v := Value.long 0) (xgn (by decide) (xgn (by decide) (xgn (by decide) (xgs (xgn (G.2.2.1.2.1.2.2) (xgn (by decide) (xgn (by decide) (xgn (by decide) (xgn (by decide) (xgn (by decide) (xgn (by decide) (xgn (by decide) (xgn (by decide) (xgn (by decide) (xgn (by decide) (xgn (by decide) (xgn (by decide) (xgn (by decide) (xgn (by decide) (xgn (by decide) (xgn (by decide) W0_194))))))))))))))))))))) (by decide) (by decide) xup_s ?_
    refine i_287_1137 (x := 0) rfl ?_
    refine i_287_1139 (c := 0) (by decide) ?_
    refine i_287_1140 (c := 0) (by decide) ?_
    refine i_287_1141 (fun _ => ?_) (fun h => absurd h (by decide))
    refine i_287_1146 ?_
    refine i_287_2154 (x := 0) (c := 6) (lv2 := [(4, Value.int 6), (6, Value.int 0), (5, Value.int 0), (3, Value.ref 194), (2, Value.ref 128), (1, Value.ref 7), (0, Value.ref 0)]) rfl (by decide) rfl ?_
    refine i_287_2157 ?_
    refine i_287_23 (x := 6) rfl ?_
    refine i_287_25 (x := 0) rfl ?_
    refine i_287_26 (c := 6) (xgn (by decide) (xgn (by decide) (xgn (by decide) (xgn (by decide) (xgn (G.2.2.1.2.2.1.1) (xgn (by decide) (xgn (by decide) (xgn (by decide) (xgn (by decide) (xgn (by decide) (xgn (by decide) (xgn (by decide) (xgn (by decide) (xgn (by decide) (xgn (by decide) (xgn (by decide) (xgn (by decide) (xgn (by decide) (xgn (by decide) (xgn (by decide) (xgn (by decide) W0_0))))))))))))))))))))) (by decide) ?_
    refine i_287_27 ?_
    refine i_287_29 (c := 0) (by decide) ?_
    refine i_287_30 (fun _ => ?_) (fun h => absurd h (by decide))
    refine i_287_2160 ?_
    exact i_287_2161 rfl ⟨rfl, rfl⟩
  · refine xLs.set ?_ (xgn (by decide) (xgn (by decide) (xgn (by decide) (xgn (G.2.2.2.2.2.2.2) (xgn (by decide) (xgn (by decide) (xgn (by decide) (xgn (by decide) (xgn (by decide) (xgn (by decide) (xgn (by decide) (xgn (by decide) (xgn (by decide) (xgn (by decide) (xgn (by decide) (xgn (by decide) (xgn (by decide) (xgn (by decide) (xgn (by decide) (xgn (by decide) W0_156)))))))))))))))))))) xcs_a
    refine xLs.set ?_ (xgn (by decide) (xgn (by decide) (xgn (G.2.2.2.1.1.1.1) (xgn (by decide) (xgn (by decide) (xgn (by decide) (xgn (by decide) (xgn (by decide) (xgn (by decide) (xgn (by decide) (xgn (by decide) (xgn (by decide) (xgn (by decide) (xgn (by decide) (xgn (by decide) (xgn (by decide) (xgn (by decide) (xgn (by decide) (xgn (by decide) W0_154))))))))))))))))))) xcs_a
    refine xLs.set ?_ (xgn (by decide) (xgn (G.2.2.1.2.2.1.2) (xgn (by decide) (xgn (by decide) (xgn (by decide) (xgn (by decide) (xgn (by decide) (xgn (by decide) (xgn (by decide) (xgn (by decide) (xgn (by decide) (xgn (by decide) (xgn (by decide) (xgn (by decide) (xgn (by decide) (xgn (by decide) (xgn (by decide) (xgn (by decide) W0_128)))))))))))))))))) xcs_o
    refine xLs.set ?_ (xgn (G.2.2.1.2.1.2.2) (xgn (by decide) (xgn (by decide) (xgn (by decide) (xgn (by decide) (xgn (by decide) (xgn (by decide) (xgn (by decide) (xgn (by decide) (xgn (by decide) (xgn (by decide) (xgn (by decide) (xgn (by decide) (xgn (by decide) (xgn (by decide) (xgn (by decide) (xgn (by decide) W0_194))))))))))))))))) xcs_a
    refine xLs.set ?_ (xgn (G.2.2.1.1.2.2.2) (xgn (G.2.2.1.1.2.2.2) (xgn (G.2.2.1.1.2.2.2) (xgn (G.2.2.1.1.2.2.2) (xgn (G.2.2.1.1.2.2.2) (xgn (G.2.2.1.1.2.2.2) (xgn (G.2.2.1.1.2.2.2) (xgn (G.2.2.1.1.2.2.2) (xgn (G.2.2.1.1.2.2.2) (xgn (G.2.2.1.1.2.2.2) (xgn (G.2.2.1.1.2.2.2) (xgn (G.2.2.1.1.2.2.2) (xgn (G.2.2.1.1.2.2.2) (xgn (G.2.2.1.1.2.2.2) (xgn (G.2.2.1.2.1.1.1) (xgn (G.2.2.1.2.1.1.2) (W0_reg G.2.2.1.1.2.2.1))))))))))))))))) xcs_o
    refine xLs.set ?_ (xgs (xgs (xgs (xgs (xgs (xgs (xgs (xgs (xgs (xgs (xgs (xgs (xgs (xgn (by decide) (xgn (by decide) W0_19))))))))))))))) xcs_o
    refine xLs.set ?_ (xgs (xgs (xgs (xgs (xgs (xgs (xgs (xgs (xgs (xgs (xgs (xgs (xgn (by decide) (xgn (by decide) W0_19)))))))))))))) xcs_o
    refine xLs.set ?_ (xgs (xgs (xgs (xgs (xgs (xgs (xgs (xgs (xgs (xgs (xgs (xgn (by decide) (xgn (by decide) W0_19))))))))))))) xcs_o
    refine xLs.set ?_ (xgs (xgs (xgs (xgs (xgs (xgs (xgs (xgs (xgs (xgs (xgn (by decide) (xgn (by decide) W0_19)))))))))))) xcs_o
    refine xLs.set ?_ (xgs (xgs (xgs (xgs (xgs (xgs (xgs (xgs (xgs (xgn (by decide) (xgn (by decide) W0_19))))))))))) xcs_o
    refine xLs.set ?_ (xgs (xgs (xgs (xgs (xgs (xgs (xgs (xgs (xgn (by decide) (xgn (by decide) W0_19)))))))))) xcs_o
    refine xLs.set ?_ (xgs (xgs (xgs (xgs (xgs (xgs (xgs (xgn (by decide) (xgn (by decide) W0_19))))))))) xcs_o
    refine xLs.set ?_ (xgs (xgs (xgs (xgs (xgs (xgs (xgn (by decide) (xgn (by decide) W0_19)))))))) xcs_o
    refine xLs.set ?_ (xgs (xgs (xgs (xgs (xgs (xgn (by decide) (xgn (by decide) W0_19))))))) xcs_o
    refine xLs.set ?_ (xgs (xgs (xgs (xgs (xgn (by decide) (xgn (by decide) W0_19)))))) xcs_o
    refine xLs.set ?_ (xgs (xgs (xgs (xgn (by decide) (xgn (by decide) W0_19))))) xcs_o
    refine xLs.set ?_ (xgs (xgs (xgn (by decide) (xgn (by decide) W0_19)))) xcs_o
    refine xLs.set ?_ (xgs (xgn (by decide) (xgn (by decide) W0_19))) xcs_o
    refine xLs.set ?_ (xgn (by decide) (xgn (by decide) W0_19)) xcs_o
    refine xLs.set ?_ (xgn (by decide) W0_22) xcs_o
    refine xLs.set ?_ (W0_20) xcs_o
    exact ⟨Nat.le_trans (Nat.le_of_eq W0_len) (by decide), Nat.le_trans (Nat.le_of_eq W0_sz) (by decide)⟩
theorem p_112_11 {d : Nat} {w : xW} {a0 : Int32} {a1 : Int32} {a2 : Int32} {a3 : Int32} {a4 : Int32} {g0 : Nat → Value} {h0 : Nat} {h1 : Nat} {a5 : Int32} {h2 : Nat} {h3 : Nat} {a6 : Int32} {h4 : Nat} {h5 : Nat} {a7 : Int32} {h6 : Nat} {h7 : Nat} {a8 : Int32} {h8 : Nat} {h9 : Nat} {a9 : Int32} {h10 : Nat} {h11 : Nat} {a10 : Int32} {h12 : Nat} {h13 : Nat} {a11 : Int32} {h14 : Nat} {h15 : Nat} {a12 : Int32} {h16 : Nat} {h17 : Nat} {a13 : Int32} {h18 : Nat} {h19 : Nat} {a14 : Int32} {h20 : Nat} {h21 : Nat} {a15 : Int32} {h22 : Nat} {h23 : Nat} {a16 : Int32} {h24 : Nat} {h25 : Nat} (e0 : 0 ≤ a0.toInt) (e1 : a0.toInt < 16) (e2 : 0 ≤ a1.toInt) (e3 : a1.toInt < 16) (e4 : 1 ≤ a2.toInt) (e5 : a2.toInt ≤ 16) (hg6 : (a1 + a2) = a4) (e7 : a4.toInt ≤ 16) (e8 : 0 ≤ a3.toInt) (e9 : a3.toInt ≤ 4) (hw10 : w[7]? = some (Sum.inr (0, [Value.ref 8, Value.ref 78, Value.ref 9, Value.ref 10, Value.ref 13, Value.ref 16, Value.ref 19, Value.ref 93, Value.ref 108, Value.ref 113, Value.ref 29, Value.int 0]))) (hw11 : w[19]? = some (Sum.inr (5, [Value.ref 20, Value.ref 22, Value.ref 24, Value.ref 26, Value.int 0, Value.int 0, Value.int 0, Value.int 0, Value.int 0, Value.int 0, Value.int 0, Value.int 0]))) (hw12 : w[20]? = some (Sum.inr (3, [Value.ref 21, Value.int 0]))) (hw13 : w[22]? = some (Sum.inr (3, [Value.ref 23, Value.int 0]))) (e14 : a1.toInt < a4.toInt) (hw15 : w[8]? = some (Sum.inl (4, 16, g0))) (hg16 : g0 a1.toInt.toNat = Value.ref h0) (e17 : 19 ≠ h0) (e18 : 22 ≠ h0) (e19 : 20 ≠ h0) (hw20 : w[h0]? = some (Sum.inr (2, [Value.int 64, Value.int 0, Value.int 0, Value.int 0, Value.ref h1]))) (hg21 : (a1 + (1 : Int32)) = a5) (e22 : a5.toInt < a4.toInt) (e23 : 0 ≤ a5.toInt) (e24 : a5.toInt < 16) (hg25 : g0 a5.toInt.toNat = Value.ref h2) (e26 : 19 ≠ h2) (e27 : 22 ≠ h2) (e28 : 20 ≠ h2) (hw29 : w[h2]? = some (Sum.inr (2, [Value.int 64, Value.int 0, Value.int 0, Value.int 0, Value.ref h3]))) (hg30 : (a5 + (1 : Int32)) = a6) (e31 : a6.toInt < a4.toInt) (e32 : 0 ≤ a6.toInt) (e33 : a6.toInt < 16) (hg34 : g0 a6.toInt.toNat = Value.ref h4) (e35 : 19 ≠ h4) (e36 : 22 ≠ h4) (e37 : 20 ≠ h4) (hw38 : w[h4]? = some (Sum.inr (2, [Value.int 64, Value.int 0, Value.int 0, Value.int 0, Value.ref h5]))) (hg39 : (a6 + (1 : Int32)) = a7) (e40 : a7.toInt < a4.toInt) (e41 : 0 ≤ a7.toInt) (e42 : a7.toInt < 16) (hg43 : g0 a7.toInt.toNat = Value.ref h6) (e44 : 19 ≠ h6) (e45 : 22 ≠ h6) (e46 : 20 ≠ h6) (hw47 : w[h6]? = some (Sum.inr (2, [Value.int 64, Value.int 0, Value.int 0, Value.int 0, Value.ref h7]))) (hg48 : (a7 + (1 : Int32)) = a8) (e49 : a8.toInt < a4.toInt) (e50 : 0 ≤ a8.toInt) (e51 : a8.toInt < 16) (hg52 : g0 a8.toInt.toNat = Value.ref h8) (e53 : 19 ≠ h8) (e54 : 22 ≠ h8) (e55 : 20 ≠ h8) (hw56 : w[h8]? = some (Sum.inr (2, [Value.int 64, Value.int 0, Value.int 0, Value.int 0, Value.ref h9]))) (hg57 : (a8 + (1 : Int32)) = a9) (e58 : a9.toInt < a4.toInt) (e59 : 0 ≤ a9.toInt) (e60 : a9.toInt < 16) (hg61 : g0 a9.toInt.toNat = Value.ref h10) (e62 : 19 ≠ h10) (e63 : 22 ≠ h10) (e64 : 20 ≠ h10) (hw65 : w[h10]? = some (Sum.inr (2, [Value.int 64, Value.int 0, Value.int 0, Value.int 0, Value.ref h11]))) (hg66 : (a9 + (1 : Int32)) = a10) (e67 : a10.toInt < a4.toInt) (e68 : 0 ≤ a10.toInt) (e69 : a10.toInt < 16) (hg70 : g0 a10.toInt.toNat = Value.ref h12) (e71 : 19 ≠ h12) (e72 : 22 ≠ h12) (e73 : 20 ≠ h12) (hw74 : w[h12]? = some (Sum.inr (2, [Value.int 64, Value.int 0, Value.int 0, Value.int 0, Value.ref h13]))) (hg75 : (a10 + (1 : Int32)) = a11) (e76 : a11.toInt < a4.toInt) (e77 : 0 ≤ a11.toInt) (e78 : a11.toInt < 16) (hg79 : g0 a11.toInt.toNat = Value.ref h14) (e80 : 19 ≠ h14) (e81 : 22 ≠ h14) (e82 : 20 ≠ h14) (hw83 : w[h14]? = some (Sum.inr (2, [Value.int 64, Value.int 0, Value.int 0, Value.int 0, Value.ref h15]))) (hg84 : (a11 + (1 : Int32)) = a12) (e85 : a12.toInt < a4.toInt) (e86 : 0 ≤ a12.toInt) (e87 : a12.toInt < 16) (hg88 : g0 a12.toInt.toNat = Value.ref h16) (e89 : 19 ≠ h16) (e90 : 22 ≠ h16) (e91 : 20 ≠ h16) (hw92 : w[h16]? = some (Sum.inr (2, [Value.int 64, Value.int 0, Value.int 0, Value.int 0, Value.ref h17]))) (hg93 : (a12 + (1 : Int32)) = a13) (e94 : a13.toInt < a4.toInt) (e95 : 0 ≤ a13.toInt) (e96 : a13.toInt < 16) (hg97 : g0 a13.toInt.toNat = Value.ref h18) (e98 : 19 ≠ h18) (e99 : 22 ≠ h18) (e100 : 20 ≠ h18) (hw101 : w[h18]? = some (Sum.inr (2, [Value.int 64, Value.int 0, Value.int 0, Value.int 0, Value.ref h19]))) (hg102 : (a13 + (1 : Int32)) = a14) (e103 : a14.toInt < a4.toInt) (e104 : 0 ≤ a14.toInt) (e105 : a14.toInt < 16) (hg106 : g0 a14.toInt.toNat = Value.ref h20) (e107 : 19 ≠ h20) (e108 : 22 ≠ h20) (e109 : 20 ≠ h20) (hw110 : w[h20]? = some (Sum.inr (2, [Value.int 64, Value.int 0, Value.int 0, Value.int 0, Value.ref h21]))) (hg111 : (a14 + (1 : Int32)) = a15) (e112 : a15.toInt < a4.toInt) (e113 : 0 ≤ a15.toInt) (e114 : a15.toInt < 16) (hg115 : g0 a15.toInt.toNat = Value.ref h22) (e116 : 19 ≠ h22) (e117 : 22 ≠ h22) (e118 : 20 ≠ h22) (hw119 : w[h22]? = some (Sum.inr (2, [Value.int 64, Value.int 0, Value.int 0, Value.int 0, Value.ref h23]))) (hg120 : (a15 + (1 : Int32)) = a16) (e121 : a4.toInt ≤ a16.toInt) (hg122 : g0 a0.toInt.toNat = Value.ref h24) (e123 : 19 ≠ h24) (e124 : 22 ≠ h24) (e125 : 20 ≠ h24) (hw126 : w[h24]? = some (Sum.inr (2, [Value.int 64, Value.int 0, Value.int 0, Value.int 0, Value.ref h25]))) (e127 : 7 ≤ h24) : xRun (d + 3) 112 [Value.ref 7, Value.int a0, Value.int a1, Value.int a2, Value.int a3] w (.inl (some (Value.int 0))) ((((((((((((((((w.set 20 (Sum.inr (3, [Value.ref 21, Value.int 0]))).set 22 (Sum.inr (3, [Value.ref 23, Value.int 0]))).set 19 (Sum.inr (5, [Value.ref 20, Value.ref 22, Value.ref 24, Value.ref 26, Value.int 0, Value.int 0, Value.int 0, Value.int 0, Value.int 0, Value.int 0, Value.int 0, Value.int 0]))).set 19 (Sum.inr (5, [Value.ref 20, Value.ref 22, Value.ref 24, Value.ref 26, Value.int 0, Value.int 1, Value.int 0, Value.int 0, Value.int 0, Value.int 0, Value.int 0, Value.int 0]))).set 19 (Sum.inr (5, [Value.ref 20, Value.ref 22, Value.ref 24, Value.ref 26, Value.int 0, Value.int 1, Value.int 0, Value.int 0, Value.int 0, Value.int 0, Value.int 0, Value.int 0]))).set 19 (Sum.inr (5, [Value.ref 20, Value.ref 22, Value.ref 24, Value.ref 26, Value.int 0, Value.int 1, Value.int 0, Value.int 0, Value.int 0, Value.int 0, Value.int 0, Value.int 0]))).set 19 (Sum.inr (5, [Value.ref 20, Value.ref 22, Value.ref 24, Value.ref 26, Value.int 0, Value.int 1, Value.int 0, Value.int 0, Value.int 0, Value.int 0, Value.int 0, Value.int 0]))).set 19 (Sum.inr (5, [Value.ref 20, Value.ref 22, Value.ref 24, Value.ref 26, Value.int 0, Value.int 1, Value.int 0, Value.int 0, Value.int 0, Value.int 0, Value.int 0, Value.int 0]))).set 19 (Sum.inr (5, [Value.ref 20, Value.ref 22, Value.ref 24, Value.ref 26, Value.int 0, Value.int 1, Value.int 0, Value.int 0, Value.int 0, Value.int 0, Value.int 0, Value.int 0]))).set 19 (Sum.inr (5, [Value.ref 20, Value.ref 22, Value.ref 24, Value.ref 26, Value.int 0, Value.int 1, Value.int 0, Value.int 0, Value.int 0, Value.int 0, Value.int 0, Value.int 0]))).set 19 (Sum.inr (5, [Value.ref 20, Value.ref 22, Value.ref 24, Value.ref 26, Value.int 0, Value.int 1, Value.int 0, Value.int 0, Value.int 0, Value.int 0, Value.int 0, Value.int 0]))).set 19 (Sum.inr (5, [Value.ref 20, Value.ref 22, Value.ref 24, Value.ref 26, Value.int 0, Value.int 1, Value.int 0, Value.int 0, Value.int 0, Value.int 0, Value.int 0, Value.int 0]))).set 19 (Sum.inr (5, [Value.ref 20, Value.ref 22, Value.ref 24, Value.ref 26, Value.int 0, Value.int 1, Value.int 0, Value.int 0, Value.int 0, Value.int 0, Value.int 0, Value.int 0]))).set 19 (Sum.inr (5, [Value.ref 20, Value.ref 22, Value.ref 24, Value.ref 26, Value.int 0, Value.int 1, Value.int 0, Value.int 0, Value.int 0, Value.int 0, Value.int 0, Value.int 0]))).set 19 (Sum.inr (5, [Value.ref 20, Value.ref 22, Value.ref 24, Value.ref 26, Value.int 0, Value.int 1, Value.int 0, Value.int 0, Value.int 0, Value.int 0, Value.int 0, Value.int 0]))).set h24 (Sum.inr (2, [Value.int 64, Value.int 0, Value.int 0, Value.int 0, Value.ref h25]))) := by
  refine xRun.of ?_
  refine i_112_0 (x := a0) rfl ?_
  refine i_112_1 (Nat.le_of_ble_eq_true rfl) (p_15_1 e0 e1) ?_
  refine i_112_4 (fun h => absurd h (by decide)) (fun _ => ?_)
  refine i_112_7 (x := a1) rfl ?_
  refine i_112_8 (x := a2) rfl ?_
  refine i_112_9 (Nat.le_of_ble_eq_true rfl) (p_113_4 e2 e3 e4 e5 hg6 e7) ?_
  refine i_112_12 (fun h => absurd h (by decide)) (fun _ => ?_)
  refine i_112_15 (x := a3) rfl ?_
  refine i_112_17 (Nat.le_of_ble_eq_true rfl) (p_22_2 e8 e9) ?_
  refine i_112_20 (fun _ => ?_) (fun h => absurd h (by decide))
  refine i_112_31 (x := 7) rfl ?_
  refine i_112_32 (v := Value.ref 19) hw10 rfl ?_
  refine i_112_35 hw11 (Nat.le_of_ble_eq_true rfl) (p_59_0 hw11 hw12 hw13) ?_
  refine i_112_38 (x := a1) rfl ?_
  refine i_112_39 (lv2 := [(5, Value.int a1), (0, Value.ref 7), (1, Value.int a0), (2, Value.int a1), (3, Value.int a2), (4, Value.int a3)]) rfl ?_
  refine i_112_41 (x := a1) rfl ?_
  refine i_112_43 (x := a1) rfl ?_
  refine i_112_44 (x := a2) rfl ?_
  refine i_112_45 (c := a4) hg6 ?_
  refine i_112_46 (fun h => absurd e14 (Int.not_lt.mpr h)) (fun _ => ?_)
  refine i_112_49 (x := 7) rfl ?_
  refine i_112_50 (v := Value.ref 19) (xgn (by decide) (xgn (by decide) (xgn (by decide) hw10))) rfl ?_
  refine i_112_53 (x := 7) rfl ?_
  refine i_112_54 (v := Value.ref 8) (xgn (by decide) (xgn (by decide) (xgn (by decide) hw10))) rfl ?_
  refine i_112_57 (x := a1) rfl ?_
  refine i_112_59 (v := Value.ref h0) (xgn (by decide) (xgn (by decide) (xgn (by decide) hw15))) e2 e3 hg16 ?_
  refine i_112_60 ?_
  refine i_112_61 (xgs (xgn (by decide) (xgn (by decide) hw11))) (Nat.le_of_ble_eq_true rfl) (p_60_0 (xgn e17 (xgn e18 (xgn e19 hw20))) (xgs (xgn (by decide) (xgn (by decide) hw11)))) ?_
  refine i_112_64 (x := a1) (c := a5) (lv2 := [(5, Value.int a5), (0, Value.ref 7), (1, Value.int a0), (2, Value.int a1), (3, Value.int a2), (4, Value.int a3)]) rfl hg21 rfl ?_
  refine i_112_67 ?_
  refine i_112_41 (x := a5) rfl ?_
  refine i_112_43 (x := a1) rfl ?_
  refine i_112_44 (x := a2) rfl ?_
  refine i_112_45 (c := a4) hg6 ?_
  refine i_112_46 (fun h => absurd e22 (Int.not_lt.mpr h)) (fun _ => ?_)
  refine i_112_49 (x := 7) rfl ?_
  refine i_112_50 (v := Value.ref 19) (xgn (by decide) (xgn (by decide) (xgn (by decide) (xgn (by decide) hw10)))) rfl ?_
  refine i_112_53 (x := 7) rfl ?_
  refine i_112_54 (v := Value.ref 8) (xgn (by decide) (xgn (by decide) (xgn (by decide) (xgn (by decide) hw10)))) rfl ?_
  refine i_112_57 (x := a5) rfl ?_
  refine i_112_59 (v := Value.ref h2) (xgn (by decide) (xgn (by decide) (xgn (by decide) (xgn (by decide) hw15)))) e23 e24 hg25 ?_
  refine i_112_60 ?_
  refine i_112_61 (xgs (xgs (xgn (by decide) (xgn (by decide) hw11)))) (Nat.le_of_ble_eq_true rfl) (p_60_1 (xgn e26 (xgn e26 (xgn e27 (xgn e28 hw29)))) (xgs (xgs (xgn (by decide) (xgn (by decide) hw11))))) ?_
  refine i_112_64 (x := a5) (c := a6) (lv2 := [(5, Value.int a6), (0, Value.ref 7), (1, Value.int a0), (2, Value.int a1), (3, Value.int a2), (4, Value.int a3)]) rfl hg30 rfl ?_
  refine i_112_67 ?_
  refine i_112_41 (x := a6) rfl ?_
  refine i_112_43 (x := a1) rfl ?_
  refine i_112_44 (x := a2) rfl ?_
  refine i_112_45 (c := a4) hg6 ?_
  refine i_112_46 (fun h => absurd e31 (Int.not_lt.mpr h)) (fun _ => ?_)
  refine i_112_49 (x := 7) rfl ?_
  refine i_112_50 (v := Value.ref 19) (xgn (by decide) (xgn (by decide) (xgn (by decide) (xgn (by decide) (xgn (by decide) hw10))))) rfl ?_
  refine i_112_53 (x := 7) rfl ?_
  refine i_112_54 (v := Value.ref 8) (xgn (by decide) (xgn (by decide) (xgn (by decide) (xgn (by decide) (xgn (by decide) hw10))))) rfl ?_
  refine i_112_57 (x := a6) rfl ?_
  refine i_112_59 (v := Value.ref h4) (xgn (by decide) (xgn (by decide) (xgn (by decide) (xgn (by decide) (xgn (by decide) hw15))))) e32 e33 hg34 ?_
  refine i_112_60 ?_
  refine i_112_61 (xgs (xgs (xgs (xgn (by decide) (xgn (by decide) hw11))))) (Nat.le_of_ble_eq_true rfl) (p_60_1 (xgn e35 (xgn e35 (xgn e35 (xgn e36 (xgn e37 hw38))))) (xgs (xgs (xgs (xgn (by decide) (xgn (by decide) hw11)))))) ?_
  refine i_112_64 (x := a6) (c := a7) (lv2 := [(5, Value.int a7), (0, Value.ref 7), (1, Value.int a0), (2, Value.int a1), (3, Value.int a2), (4, Value.int a3)]) rfl hg39 rfl ?_
  refine i_112_67 ?_
  refine i_112_41 (x := a7) rfl ?_
  refine i_112_43 (x := a1) rfl ?_
  refine i_112_44 (x := a2) rfl ?_
  refine i_112_45 (c := a4) hg6 ?_
  refine i_112_46 (fun h => absurd e40 (Int.not_lt.mpr h)) (fun _ => ?_)
  refine i_112_49 (x := 7) rfl ?_
  refine i_112_50 (v := Value.ref 19) (xgn (by decide) (xgn (by decide) (xgn (by decide) (xgn (by decide) (xgn (by decide) (xgn (by decide) hw10)))))) rfl ?_
  refine i_112_53 (x := 7) rfl ?_
  refine i_112_54 (v := Value.ref 8) (xgn (by decide) (xgn (by decide) (xgn (by decide) (xgn (by decide) (xgn (by decide) (xgn (by decide) hw10)))))) rfl ?_
  refine i_112_57 (x := a7) rfl ?_
  refine i_112_59 (v := Value.ref h6) (xgn (by decide) (xgn (by decide) (xgn (by decide) (xgn (by decide) (xgn (by decide) (xgn (by decide) hw15)))))) e41 e42 hg43 ?_
  refine i_112_60 ?_
  refine i_112_61 (xgs (xgs (xgs (xgs (xgn (by decide) (xgn (by decide) hw11)))))) (Nat.le_of_ble_eq_true rfl) (p_60_1 (xgn e44 (xgn e44 (xgn e44 (xgn e44 (xgn e45 (xgn e46 hw47)))))) (xgs (xgs (xgs (xgs (xgn (by decide) (xgn (by decide) hw11))))))) ?_
  refine i_112_64 (x := a7) (c := a8) (lv2 := [(5, Value.int a8), (0, Value.ref 7), (1, Value.int a0), (2, Value.int a1), (3, Value.int a2), (4, Value.int a3)]) rfl hg48 rfl ?_
  refine i_112_67 ?_
  refine i_112_41 (x := a8) rfl ?_
  refine i_112_43 (x := a1) rfl ?_
  refine i_112_44 (x := a2) rfl ?_
  refine i_112_45 (c := a4) hg6 ?_
  refine i_112_46 (fun h => absurd e49 (Int.not_lt.mpr h)) (fun _ => ?_)
  refine i_112_49 (x := 7) rfl ?_
  refine i_112_50 (v := Value.ref 19) (xgn (by decide) (xgn (by decide) (xgn (by decide) (xgn (by decide) (xgn (by decide) (xgn (by decide) (xgn (by decide) hw10))))))) rfl ?_
  refine i_112_53 (x := 7) rfl ?_
  refine i_112_54 (v := Value.ref 8) (xgn (by decide) (xgn (by decide) (xgn (by decide) (xgn (by decide) (xgn (by decide) (xgn (by decide) (xgn (by decide) hw10))))))) rfl ?_
  refine i_112_57 (x := a8) rfl ?_
  refine i_112_59 (v := Value.ref h8) (xgn (by decide) (xgn (by decide) (xgn (by decide) (xgn (by decide) (xgn (by decide) (xgn (by decide) (xgn (by decide) hw15))))))) e50 e51 hg52 ?_
  refine i_112_60 ?_
  refine i_112_61 (xgs (xgs (xgs (xgs (xgs (xgn (by decide) (xgn (by decide) hw11))))))) (Nat.le_of_ble_eq_true rfl) (p_60_1 (xgn e53 (xgn e53 (xgn e53 (xgn e53 (xgn e53 (xgn e54 (xgn e55 hw56))))))) (xgs (xgs (xgs (xgs (xgs (xgn (by decide) (xgn (by decide) hw11)))))))) ?_
  refine i_112_64 (x := a8) (c := a9) (lv2 := [(5, Value.int a9), (0, Value.ref 7), (1, Value.int a0), (2, Value.int a1), (3, Value.int a2), (4, Value.int a3)]) rfl hg57 rfl ?_
  refine i_112_67 ?_
  refine i_112_41 (x := a9) rfl ?_
  refine i_112_43 (x := a1) rfl ?_
  refine i_112_44 (x := a2) rfl ?_
  refine i_112_45 (c := a4) hg6 ?_
  refine i_112_46 (fun h => absurd e58 (Int.not_lt.mpr h)) (fun _ => ?_)
  refine i_112_49 (x := 7) rfl ?_
  refine i_112_50 (v := Value.ref 19) (xgn (by decide) (xgn (by decide) (xgn (by decide) (xgn (by decide) (xgn (by decide) (xgn (by decide) (xgn (by decide) (xgn (by decide) hw10)))))))) rfl ?_
  refine i_112_53 (x := 7) rfl ?_
  refine i_112_54 (v := Value.ref 8) (xgn (by decide) (xgn (by decide) (xgn (by decide) (xgn (by decide) (xgn (by decide) (xgn (by decide) (xgn (by decide) (xgn (by decide) hw10)))))))) rfl ?_
  refine i_112_57 (x := a9) rfl ?_
  refine i_112_59 (v := Value.ref h10) (xgn (by decide) (xgn (by decide) (xgn (by decide) (xgn (by decide) (xgn (by decide) (xgn (by decide) (xgn (by decide) (xgn (by decide) hw15)))))))) e59 e60 hg61 ?_
  refine i_112_60 ?_
  refine i_112_61 (xgs (xgs (xgs (xgs (xgs (xgs (xgn (by decide) (xgn (by decide) hw11)))))))) (Nat.le_of_ble_eq_true rfl) (p_60_1 (xgn e62 (xgn e62 (xgn e62 (xgn e62 (xgn e62 (xgn e62 (xgn e63 (xgn e64 hw65)))))))) (xgs (xgs (xgs (xgs (xgs (xgs (xgn (by decide) (xgn (by decide) hw11))))))))) ?_
  refine i_112_64 (x := a9) (c := a10) (lv2 := [(5, Value.int a10), (0, Value.ref 7), (1, Value.int a0), (2, Value.int a1), (3, Value.int a2), (4, Value.int a3)]) rfl hg66 rfl ?_
  refine i_112_67 ?_
  refine i_112_41 (x := a10) rfl ?_
  refine i_112_43 (x := a1) rfl ?_
  refine i_112_44 (x := a2) rfl ?_
  refine i_112_45 (c := a4) hg6 ?_
  refine i_112_46 (fun h => absurd e67 (Int.not_lt.mpr h)) (fun _ => ?_)
  refine i_112_49 (x := 7) rfl ?_
  refine i_112_50 (v := Value.ref 19) (xgn (by decide) (xgn (by decide) (xgn (by decide) (xgn (by decide) (xgn (by decide) (xgn (by decide) (xgn (by decide) (xgn (by decide) (xgn (by decide) hw10))))))))) rfl ?_
  refine i_112_53 (x := 7) rfl ?_
  refine i_112_54 (v := Value.ref 8) (xgn (by decide) (xgn (by decide) (xgn (by decide) (xgn (by decide) (xgn (by decide) (xgn (by decide) (xgn (by decide) (xgn (by decide) (xgn (by decide) hw10))))))))) rfl ?_
  refine i_112_57 (x := a10) rfl ?_
  refine i_112_59 (v := Value.ref h12) (xgn (by decide) (xgn (by decide) (xgn (by decide) (xgn (by decide) (xgn (by decide) (xgn (by decide) (xgn (by decide) (xgn (by decide) (xgn (by decide) hw15))))))))) e68 e69 hg70 ?_
  refine i_112_60 ?_
  refine i_112_61 (xgs (xgs (xgs (xgs (xgs (xgs (xgs (xgn (by decide) (xgn (by decide) hw11))))))))) (Nat.le_of_ble_eq_true rfl) (p_60_1 (xgn e71 (xgn e71 (xgn e71 (xgn e71 (xgn e71 (xgn e71 (xgn e71 (xgn e72 (xgn e73 hw74))))))))) (xgs (xgs (xgs (xgs (xgs (xgs (xgs (xgn (by decide) (xgn (by decide) hw11)))))))))) ?_
  refine i_112_64 (x := a10) (c := a11) (lv2 := [(5, Value.int a11), (0, Value.ref 7), (1, Value.int a0), (2, Value.int a1), (3, Value.int a2), (4, Value.int a3)]) rfl hg75 rfl ?_
  refine i_112_67 ?_
  refine i_112_41 (x := a11) rfl ?_
  refine i_112_43 (x := a1) rfl ?_
  refine i_112_44 (x := a2) rfl ?_
  refine i_112_45 (c := a4) hg6 ?_
  refine i_112_46 (fun h => absurd e76 (Int.not_lt.mpr h)) (fun _ => ?_)
  refine i_112_49 (x := 7) rfl ?_
  refine i_112_50 (v := Value.ref 19) (xgn (by decide) (xgn (by decide) (xgn (by decide) (xgn (by decide) (xgn (by decide) (xgn (by decide) (xgn (by decide) (xgn (by decide) (xgn (by decide) (xgn (by decide) hw10)))))))))) rfl ?_
  refine i_112_53 (x := 7) rfl ?_
  refine i_112_54 (v := Value.ref 8) (xgn (by decide) (xgn (by decide) (xgn (by decide) (xgn (by decide) (xgn (by decide) (xgn (by decide) (xgn (by decide) (xgn (by decide) (xgn (by decide) (xgn (by decide) hw10)))))))))) rfl ?_
  refine i_112_57 (x := a11) rfl ?_
  refine i_112_59 (v := Value.ref h14) (xgn (by decide) (xgn (by decide) (xgn (by decide) (xgn (by decide) (xgn (by decide) (xgn (by decide) (xgn (by decide) (xgn (by decide) (xgn (by decide) (xgn (by decide) hw15)))))))))) e77 e78 hg79 ?_
  refine i_112_60 ?_
  refine i_112_61 (xgs (xgs (xgs (xgs (xgs (xgs (xgs (xgs (xgn (by decide) (xgn (by decide) hw11)))))))))) (Nat.le_of_ble_eq_true rfl) (p_60_1 (xgn e80 (xgn e80 (xgn e80 (xgn e80 (xgn e80 (xgn e80 (xgn e80 (xgn e80 (xgn e81 (xgn e82 hw83)))))))))) (xgs (xgs (xgs (xgs (xgs (xgs (xgs (xgs (xgn (by decide) (xgn (by decide) hw11))))))))))) ?_
  refine i_112_64 (x := a11) (c := a12) (lv2 := [(5, Value.int a12), (0, Value.ref 7), (1, Value.int a0), (2, Value.int a1), (3, Value.int a2), (4, Value.int a3)]) rfl hg84 rfl ?_
  refine i_112_67 ?_
  refine i_112_41 (x := a12) rfl ?_
  refine i_112_43 (x := a1) rfl ?_
  refine i_112_44 (x := a2) rfl ?_
  refine i_112_45 (c := a4) hg6 ?_
  refine i_112_46 (fun h => absurd e85 (Int.not_lt.mpr h)) (fun _ => ?_)
  refine i_112_49 (x := 7) rfl ?_
  refine i_112_50 (v := Value.ref 19) (xgn (by decide) (xgn (by decide) (xgn (by decide) (xgn (by decide) (xgn (by decide) (xgn (by decide) (xgn (by decide) (xgn (by decide) (xgn (by decide) (xgn (by decide) (xgn (by decide) hw10))))))))))) rfl ?_
  refine i_112_53 (x := 7) rfl ?_
  refine i_112_54 (v := Value.ref 8) (xgn (by decide) (xgn (by decide) (xgn (by decide) (xgn (by decide) (xgn (by decide) (xgn (by decide) (xgn (by decide) (xgn (by decide) (xgn (by decide) (xgn (by decide) (xgn (by decide) hw10))))))))))) rfl ?_
  refine i_112_57 (x := a12) rfl ?_
  refine i_112_59 (v := Value.ref h16) (xgn (by decide) (xgn (by decide) (xgn (by decide) (xgn (by decide) (xgn (by decide) (xgn (by decide) (xgn (by decide) (xgn (by decide) (xgn (by decide) (xgn (by decide) (xgn (by decide) hw15))))))))))) e86 e87 hg88 ?_
  refine i_112_60 ?_
  refine i_112_61 (xgs (xgs (xgs (xgs (xgs (xgs (xgs (xgs (xgs (xgn (by decide) (xgn (by decide) hw11))))))))))) (Nat.le_of_ble_eq_true rfl) (p_60_1 (xgn e89 (xgn e89 (xgn e89 (xgn e89 (xgn e89 (xgn e89 (xgn e89 (xgn e89 (xgn e89 (xgn e90 (xgn e91 hw92))))))))))) (xgs (xgs (xgs (xgs (xgs (xgs (xgs (xgs (xgs (xgn (by decide) (xgn (by decide) hw11)))))))))))) ?_
  refine i_112_64 (x := a12) (c := a13) (lv2 := [(5, Value.int a13), (0, Value.ref 7), (1, Value.int a0), (2, Value.int a1), (3, Value.int a2), (4, Value.int a3)]) rfl hg93 rfl ?_
  refine i_112_67 ?_
  refine i_112_41 (x := a13) rfl ?_
  refine i_112_43 (x := a1) rfl ?_
  refine i_112_44 (x := a2) rfl ?_
  refine i_112_45 (c := a4) hg6 ?_
  refine i_112_46 (fun h => absurd e94 (Int.not_lt.mpr h)) (fun _ => ?_)
  refine i_112_49 (x := 7) rfl ?_
  refine i_112_50 (v := Value.ref 19) (xgn (by decide) (xgn (by decide) (xgn (by decide) (xgn (by decide) (xgn (by decide) (xgn (by decide) (xgn (by decide) (xgn (by decide) (xgn (by decide) (xgn (by decide) (xgn (by decide) (xgn (by decide) hw10)))))))))))) rfl ?_
  refine i_112_53 (x := 7) rfl ?_
  refine i_112_54 (v := Value.ref 8) (xgn (by decide) (xgn (by decide) (xgn (by decide) (xgn (by decide) (xgn (by decide) (xgn (by decide) (xgn (by decide) (xgn (by decide) (xgn (by decide) (xgn (by decide) (xgn (by decide) (xgn (by decide) hw10)))))))))))) rfl ?_
  refine i_112_57 (x := a13) rfl ?_
  refine i_112_59 (v := Value.ref h18) (xgn (by decide) (xgn (by decide) (xgn (by decide) (xgn (by decide) (xgn (by decide) (xgn (by decide) (xgn (by decide) (xgn (by decide) (xgn (by decide) (xgn (by decide) (xgn (by decide) (xgn (by decide) hw15)))))))))))) e95 e96 hg97 ?_
  refine i_112_60 ?_
  refine i_112_61 (xgs (xgs (xgs (xgs (xgs (xgs (xgs (xgs (xgs (xgs (xgn (by decide) (xgn (by decide) hw11)))))))))))) (Nat.le_of_ble_eq_true rfl) (p_60_1 (xgn e98 (xgn e98 (xgn e98 (xgn e98 (xgn e98 (xgn e98 (xgn e98 (xgn e98 (xgn e98 (xgn e98 (xgn e99 (xgn e100 hw101)))))))))))) (xgs (xgs (xgs (xgs (xgs (xgs (xgs (xgs (xgs (xgs (xgn (by decide) (xgn (by decide) hw11))))))))))))) ?_
  refine i_112_64 (x := a13) (c := a14) (lv2 := [(5, Value.int a14), (0, Value.ref 7), (1, Value.int a0), (2, Value.int a1), (3, Value.int a2), (4, Value.int a3)]) rfl hg102 rfl ?_
  refine i_112_67 ?_
  refine i_112_41 (x := a14) rfl ?_
  refine i_112_43 (x := a1) rfl ?_
  refine i_112_44 (x := a2) rfl ?_
  refine i_112_45 (c := a4) hg6 ?_
  refine i_112_46 (fun h => absurd e103 (Int.not_lt.mpr h)) (fun _ => ?_)
  refine i_112_49 (x := 7) rfl ?_
  refine i_112_50 (v := Value.ref 19) (xgn (by decide) (xgn (by decide) (xgn (by decide) (xgn (by decide) (xgn (by decide) (xgn (by decide) (xgn (by decide) (xgn (by decide) (xgn (by decide) (xgn (by decide) (xgn (by decide) (xgn (by decide) (xgn (by decide) hw10))))))))))))) rfl ?_
  refine i_112_53 (x := 7) rfl ?_
  refine i_112_54 (v := Value.ref 8) (xgn (by decide) (xgn (by decide) (xgn (by decide) (xgn (by decide) (xgn (by decide) (xgn (by decide) (xgn (by decide) (xgn (by decide) (xgn (by decide) (xgn (by decide) (xgn (by decide) (xgn (by decide) (xgn (by decide) hw10))))))))))))) rfl ?_
  refine i_112_57 (x := a14) rfl ?_
  refine i_112_59 (v := Value.ref h20) (xgn (by decide) (xgn (by decide) (xgn (by decide) (xgn (by decide) (xgn (by decide) (xgn (by decide) (xgn (by decide) (xgn (by decide) (xgn (by decide) (xgn (by decide) (xgn (by decide) (xgn (by decide) (xgn (by decide) hw15))))))))))))) e104 e105 hg106 ?_
  refine i_112_60 ?_
  refine i_112_61 (xgs (xgs (xgs (xgs (xgs (xgs (xgs (xgs (xgs (xgs (xgs (xgn (by decide) (xgn (by decide) hw11))))))))))))) (Nat.le_of_ble_eq_true rfl) (p_60_1 (xgn e107 (xgn e107 (xgn e107 (xgn e107 (xgn e107 (xgn e107 (xgn e107 (xgn e107 (xgn e107 (xgn e107 (xgn e107 (xgn e108 (xgn e109 hw110))))))))))))) (xgs (xgs (xgs (xgs (xgs (xgs (xgs (xgs (xgs (xgs (xgs (xgn (by decide) (xgn (by decide) hw11)))))))))))))) ?_
  refine i_112_64 (x := a14) (c := a15) (lv2 := [(5, Value.int a15), (0, Value.ref 7), (1, Value.int a0), (2, Value.int a1), (3, Value.int a2), (4, Value.int a3)]) rfl hg111 rfl ?_
  refine i_112_67 ?_
  refine i_112_41 (x := a15) rfl ?_
  refine i_112_43 (x := a1) rfl ?_
  refine i_112_44 (x := a2) rfl ?_
  refine i_112_45 (c := a4) hg6 ?_
  refine i_112_46 (fun h => absurd e112 (Int.not_lt.mpr h)) (fun _ => ?_)
  refine i_112_49 (x := 7) rfl ?_
  refine i_112_50 (v := Value.ref 19) (xgn (by decide) (xgn (by decide) (xgn (by decide) (xgn (by decide) (xgn (by decide) (xgn (by decide) (xgn (by decide) (xgn (by decide) (xgn (by decide) (xgn (by decide) (xgn (by decide) (xgn (by decide) (xgn (by decide) (xgn (by decide) hw10)))))))))))))) rfl ?_
  refine i_112_53 (x := 7) rfl ?_
  refine i_112_54 (v := Value.ref 8) (xgn (by decide) (xgn (by decide) (xgn (by decide) (xgn (by decide) (xgn (by decide) (xgn (by decide) (xgn (by decide) (xgn (by decide) (xgn (by decide) (xgn (by decide) (xgn (by decide) (xgn (by decide) (xgn (by decide) (xgn (by decide) hw10)))))))))))))) rfl ?_
  refine i_112_57 (x := a15) rfl ?_
  refine i_112_59 (v := Value.ref h22) (xgn (by decide) (xgn (by decide) (xgn (by decide) (xgn (by decide) (xgn (by decide) (xgn (by decide) (xgn (by decide) (xgn (by decide) (xgn (by decide) (xgn (by decide) (xgn (by decide) (xgn (by decide) (xgn (by decide) (xgn (by decide) hw15)))))))))))))) e113 e114 hg115 ?_
  refine i_112_60 ?_
  refine i_112_61 (xgs (xgs (xgs (xgs (xgs (xgs (xgs (xgs (xgs (xgs (xgs (xgs (xgn (by decide) (xgn (by decide) hw11)))))))))))))) (Nat.le_of_ble_eq_true rfl) (p_60_1 (xgn e116 (xgn e116 (xgn e116 (xgn e116 (xgn e116 (xgn e116 (xgn e116 (xgn e116 (xgn e116 (xgn e116 (xgn e116 (xgn e116 (xgn e117 (xgn e118 hw119)))))))))))))) (xgs (xgs (xgs (xgs (xgs (xgs (xgs (xgs (xgs (xgs (xgs (xgs (xgn (by decide) (xgn (by decide) hw11))))))))))))))) ?_
  refine i_112_64 (x := a15) (c := a16) (lv2 := [(5, Value.int a16), (0, Value.ref 7), (1, Value.int a0), (2, Value.int a1), (3, Value.int a2), (4, Value.int a3)]) rfl hg120 rfl ?_
  refine i_112_67 ?_
  refine i_112_41 (x := a16) rfl ?_
  refine i_112_43 (x := a1) rfl ?_
  refine i_112_44 (x := a2) rfl ?_
  refine i_112_45 (c := a4) hg6 ?_
  refine i_112_46 (fun _ => ?_) (fun h => absurd e121 (Int.not_le.mpr h))
  refine i_112_70 (x := 7) rfl ?_
  refine i_112_71 (v := Value.ref 19) (xgn (by decide) (xgn (by decide) (xgn (by decide) (xgn (by decide) (xgn (by decide) (xgn (by decide) (xgn (by decide) (xgn (by decide) (xgn (by decide) (xgn (by decide) (xgn (by decide) (xgn (by decide) (xgn (by decide) (xgn (by decide) (xgn (by decide) hw10))))))))))))))) rfl ?_
  refine i_112_74 (x := 7) rfl ?_
  refine i_112_75 (v := Value.ref 78) (xgn (by decide) (xgn (by decide) (xgn (by decide) (xgn (by decide) (xgn (by decide) (xgn (by decide) (xgn (by decide) (xgn (by decide) (xgn (by decide) (xgn (by decide) (xgn (by decide) (xgn (by decide) (xgn (by decide) (xgn (by decide) (xgn (by decide) hw10))))))))))))))) rfl ?_
  refine i_112_78 (x := 7) rfl ?_
  refine i_112_79 (v := Value.ref 8) (xgn (by decide) (xgn (by decide) (xgn (by decide) (xgn (by decide) (xgn (by decide) (xgn (by decide) (xgn (by decide) (xgn (by decide) (xgn (by decide) (xgn (by decide) (xgn (by decide) (xgn (by decide) (xgn (by decide) (xgn (by decide) (xgn (by decide) hw10))))))))))))))) rfl ?_
  refine i_112_82 (x := a0) rfl ?_
  refine i_112_83 (v := Value.ref h24) (xgn (by decide) (xgn (by decide) (xgn (by decide) (xgn (by decide) (xgn (by decide) (xgn (by decide) (xgn (by decide) (xgn (by decide) (xgn (by decide) (xgn (by decide) (xgn (by decide) (xgn (by decide) (xgn (by decide) (xgn (by decide) (xgn (by decide) hw15))))))))))))))) e0 e1 hg122 ?_
  refine i_112_84 (x := a3) rfl ?_
  refine i_112_86 (xgs (xgs (xgs (xgs (xgs (xgs (xgs (xgs (xgs (xgs (xgs (xgs (xgs (xgn (by decide) (xgn (by decide) hw11))))))))))))))) (Nat.le_of_ble_eq_true rfl) (p_64_0 (xgs (xgs (xgs (xgs (xgs (xgs (xgs (xgs (xgs (xgs (xgs (xgs (xgs (xgn (by decide) (xgn (by decide) hw11))))))))))))))) (xgn e123 (xgn e123 (xgn e123 (xgn e123 (xgn e123 (xgn e123 (xgn e123 (xgn e123 (xgn e123 (xgn e123 (xgn e123 (xgn e123 (xgn e123 (xgn e124 (xgn e125 hw126))))))))))))))) e127) ?_
  exact i_112_89 ⟨rfl, rfl⟩
theorem p_111_11 {d : Nat} {w : xW} {a0 : Int32} {a1 : Int32} {a2 : Int32} {a3 : Int32} {a4 : Int32} {g0 : Nat → Value} {h0 : Nat} {h1 : Nat} {a5 : Int32} {h2 : Nat} {h3 : Nat} {a6 : Int32} {h4 : Nat} {h5 : Nat} {a7 : Int32} {h6 : Nat} {h7 : Nat} {a8 : Int32} {h8 : Nat} {h9 : Nat} {a9 : Int32} {h10 : Nat} {h11 : Nat} {a10 : Int32} {h12 : Nat} {h13 : Nat} {a11 : Int32} {h14 : Nat} {h15 : Nat} {a12 : Int32} {h16 : Nat} {h17 : Nat} {a13 : Int32} {h18 : Nat} {h19 : Nat} {a14 : Int32} {h20 : Nat} {h21 : Nat} {a15 : Int32} {h22 : Nat} {h23 : Nat} {a16 : Int32} {h24 : Nat} {h25 : Nat} (hw0 : w[7]? = some (Sum.inr (0, [Value.ref 8, Value.ref 78, Value.ref 9, Value.ref 10, Value.ref 13, Value.ref 16, Value.ref 19, Value.ref 93, Value.ref 108, Value.ref 113, Value.ref 29, Value.int 0]))) (e1 : 0 ≤ a0.toInt) (e2 : a0.toInt < 16) (e3 : 0 ≤ a1.toInt) (e4 : a1.toInt < 16) (e5 : 1 ≤ a2.toInt) (e6 : a2.toInt ≤ 16) (hg7 : (a1 + a2) = a4) (e8 : a4.toInt ≤ 16) (e9 : 0 ≤ a3.toInt) (e10 : a3.toInt ≤ 4) (hw11 : w[19]? = some (Sum.inr (5, [Value.ref 20, Value.ref 22, Value.ref 24, Value.ref 26, Value.int 0, Value.int 0, Value.int 0, Value.int 0, Value.int 0, Value.int 0, Value.int 0, Value.int 0]))) (hw12 : w[20]? = some (Sum.inr (3, [Value.ref 21, Value.int 0]))) (hw13 : w[22]? = some (Sum.inr (3, [Value.ref 23, Value.int 0]))) (e14 : a1.toInt < a4.toInt) (hw15 : w[8]? = some (Sum.inl (4, 16, g0))) (hg16 : g0 a1.toInt.toNat = Value.ref h0) (e17 : 19 ≠ h0) (e18 : 22 ≠ h0) (e19 : 20 ≠ h0) (hw20 : w[h0]? = some (Sum.inr (2, [Value.int 64, Value.int 0, Value.int 0, Value.int 0, Value.ref h1]))) (hg21 : (a1 + (1 : Int32)) = a5) (e22 : a5.toInt < a4.toInt) (e23 : 0 ≤ a5.toInt) (e24 : a5.toInt < 16) (hg25 : g0 a5.toInt.toNat = Value.ref h2) (e26 : 19 ≠ h2) (e27 : 22 ≠ h2) (e28 : 20 ≠ h2) (hw29 : w[h2]? = some (Sum.inr (2, [Value.int 64, Value.int 0, Value.int 0, Value.int 0, Value.ref h3]))) (hg30 : (a5 + (1 : Int32)) = a6) (e31 : a6.toInt < a4.toInt) (e32 : 0 ≤ a6.toInt) (e33 : a6.toInt < 16) (hg34 : g0 a6.toInt.toNat = Value.ref h4) (e35 : 19 ≠ h4) (e36 : 22 ≠ h4) (e37 : 20 ≠ h4) (hw38 : w[h4]? = some (Sum.inr (2, [Value.int 64, Value.int 0, Value.int 0, Value.int 0, Value.ref h5]))) (hg39 : (a6 + (1 : Int32)) = a7) (e40 : a7.toInt < a4.toInt) (e41 : 0 ≤ a7.toInt) (e42 : a7.toInt < 16) (hg43 : g0 a7.toInt.toNat = Value.ref h6) (e44 : 19 ≠ h6) (e45 : 22 ≠ h6) (e46 : 20 ≠ h6) (hw47 : w[h6]? = some (Sum.inr (2, [Value.int 64, Value.int 0, Value.int 0, Value.int 0, Value.ref h7]))) (hg48 : (a7 + (1 : Int32)) = a8) (e49 : a8.toInt < a4.toInt) (e50 : 0 ≤ a8.toInt) (e51 : a8.toInt < 16) (hg52 : g0 a8.toInt.toNat = Value.ref h8) (e53 : 19 ≠ h8) (e54 : 22 ≠ h8) (e55 : 20 ≠ h8) (hw56 : w[h8]? = some (Sum.inr (2, [Value.int 64, Value.int 0, Value.int 0, Value.int 0, Value.ref h9]))) (hg57 : (a8 + (1 : Int32)) = a9) (e58 : a9.toInt < a4.toInt) (e59 : 0 ≤ a9.toInt) (e60 : a9.toInt < 16) (hg61 : g0 a9.toInt.toNat = Value.ref h10) (e62 : 19 ≠ h10) (e63 : 22 ≠ h10) (e64 : 20 ≠ h10) (hw65 : w[h10]? = some (Sum.inr (2, [Value.int 64, Value.int 0, Value.int 0, Value.int 0, Value.ref h11]))) (hg66 : (a9 + (1 : Int32)) = a10) (e67 : a10.toInt < a4.toInt) (e68 : 0 ≤ a10.toInt) (e69 : a10.toInt < 16) (hg70 : g0 a10.toInt.toNat = Value.ref h12) (e71 : 19 ≠ h12) (e72 : 22 ≠ h12) (e73 : 20 ≠ h12) (hw74 : w[h12]? = some (Sum.inr (2, [Value.int 64, Value.int 0, Value.int 0, Value.int 0, Value.ref h13]))) (hg75 : (a10 + (1 : Int32)) = a11) (e76 : a11.toInt < a4.toInt) (e77 : 0 ≤ a11.toInt) (e78 : a11.toInt < 16) (hg79 : g0 a11.toInt.toNat = Value.ref h14) (e80 : 19 ≠ h14) (e81 : 22 ≠ h14) (e82 : 20 ≠ h14) (hw83 : w[h14]? = some (Sum.inr (2, [Value.int 64, Value.int 0, Value.int 0, Value.int 0, Value.ref h15]))) (hg84 : (a11 + (1 : Int32)) = a12) (e85 : a12.toInt < a4.toInt) (e86 : 0 ≤ a12.toInt) (e87 : a12.toInt < 16) (hg88 : g0 a12.toInt.toNat = Value.ref h16) (e89 : 19 ≠ h16) (e90 : 22 ≠ h16) (e91 : 20 ≠ h16) (hw92 : w[h16]? = some (Sum.inr (2, [Value.int 64, Value.int 0, Value.int 0, Value.int 0, Value.ref h17]))) (hg93 : (a12 + (1 : Int32)) = a13) (e94 : a13.toInt < a4.toInt) (e95 : 0 ≤ a13.toInt) (e96 : a13.toInt < 16) (hg97 : g0 a13.toInt.toNat = Value.ref h18) (e98 : 19 ≠ h18) (e99 : 22 ≠ h18) (e100 : 20 ≠ h18) (hw101 : w[h18]? = some (Sum.inr (2, [Value.int 64, Value.int 0, Value.int 0, Value.int 0, Value.ref h19]))) (hg102 : (a13 + (1 : Int32)) = a14) (e103 : a14.toInt < a4.toInt) (e104 : 0 ≤ a14.toInt) (e105 : a14.toInt < 16) (hg106 : g0 a14.toInt.toNat = Value.ref h20) (e107 : 19 ≠ h20) (e108 : 22 ≠ h20) (e109 : 20 ≠ h20) (hw110 : w[h20]? = some (Sum.inr (2, [Value.int 64, Value.int 0, Value.int 0, Value.int 0, Value.ref h21]))) (hg111 : (a14 + (1 : Int32)) = a15) (e112 : a15.toInt < a4.toInt) (e113 : 0 ≤ a15.toInt) (e114 : a15.toInt < 16) (hg115 : g0 a15.toInt.toNat = Value.ref h22) (e116 : 19 ≠ h22) (e117 : 22 ≠ h22) (e118 : 20 ≠ h22) (hw119 : w[h22]? = some (Sum.inr (2, [Value.int 64, Value.int 0, Value.int 0, Value.int 0, Value.ref h23]))) (hg120 : (a15 + (1 : Int32)) = a16) (e121 : a4.toInt ≤ a16.toInt) (hg122 : g0 a0.toInt.toNat = Value.ref h24) (e123 : 19 ≠ h24) (e124 : 22 ≠ h24) (e125 : 20 ≠ h24) (hw126 : w[h24]? = some (Sum.inr (2, [Value.int 64, Value.int 0, Value.int 0, Value.int 0, Value.ref h25]))) (e127 : 7 ≤ h24) (e128 : h24 ≠ 194) (hw129 : w[194]? = some (Sum.inl (3, 1, fun _ => Value.long 0))) : xRun (d + 4) 111 [Value.ref 7, Value.int a0, Value.int a1, Value.int a2, Value.int a3, Value.ref 194] w (.inl (some (Value.int 0))) (((((((((((((((((w.set 20 (Sum.inr (3, [Value.ref 21, Value.int 0]))).set 22 (Sum.inr (3, [Value.ref 23, Value.int 0]))).set 19 (Sum.inr (5, [Value.ref 20, Value.ref 22, Value.ref 24, Value.ref 26, Value.int 0, Value.int 0, Value.int 0, Value.int 0, Value.int 0, Value.int 0, Value.int 0, Value.int 0]))).set 19 (Sum.inr (5, [Value.ref 20, Value.ref 22, Value.ref 24, Value.ref 26, Value.int 0, Value.int 1, Value.int 0, Value.int 0, Value.int 0, Value.int 0, Value.int 0, Value.int 0]))).set 19 (Sum.inr (5, [Value.ref 20, Value.ref 22, Value.ref 24, Value.ref 26, Value.int 0, Value.int 1, Value.int 0, Value.int 0, Value.int 0, Value.int 0, Value.int 0, Value.int 0]))).set 19 (Sum.inr (5, [Value.ref 20, Value.ref 22, Value.ref 24, Value.ref 26, Value.int 0, Value.int 1, Value.int 0, Value.int 0, Value.int 0, Value.int 0, Value.int 0, Value.int 0]))).set 19 (Sum.inr (5, [Value.ref 20, Value.ref 22, Value.ref 24, Value.ref 26, Value.int 0, Value.int 1, Value.int 0, Value.int 0, Value.int 0, Value.int 0, Value.int 0, Value.int 0]))).set 19 (Sum.inr (5, [Value.ref 20, Value.ref 22, Value.ref 24, Value.ref 26, Value.int 0, Value.int 1, Value.int 0, Value.int 0, Value.int 0, Value.int 0, Value.int 0, Value.int 0]))).set 19 (Sum.inr (5, [Value.ref 20, Value.ref 22, Value.ref 24, Value.ref 26, Value.int 0, Value.int 1, Value.int 0, Value.int 0, Value.int 0, Value.int 0, Value.int 0, Value.int 0]))).set 19 (Sum.inr (5, [Value.ref 20, Value.ref 22, Value.ref 24, Value.ref 26, Value.int 0, Value.int 1, Value.int 0, Value.int 0, Value.int 0, Value.int 0, Value.int 0, Value.int 0]))).set 19 (Sum.inr (5, [Value.ref 20, Value.ref 22, Value.ref 24, Value.ref 26, Value.int 0, Value.int 1, Value.int 0, Value.int 0, Value.int 0, Value.int 0, Value.int 0, Value.int 0]))).set 19 (Sum.inr (5, [Value.ref 20, Value.ref 22, Value.ref 24, Value.ref 26, Value.int 0, Value.int 1, Value.int 0, Value.int 0, Value.int 0, Value.int 0, Value.int 0, Value.int 0]))).set 19 (Sum.inr (5, [Value.ref 20, Value.ref 22, Value.ref 24, Value.ref 26, Value.int 0, Value.int 1, Value.int 0, Value.int 0, Value.int 0, Value.int 0, Value.int 0, Value.int 0]))).set 19 (Sum.inr (5, [Value.ref 20, Value.ref 22, Value.ref 24, Value.ref 26, Value.int 0, Value.int 1, Value.int 0, Value.int 0, Value.int 0, Value.int 0, Value.int 0, Value.int 0]))).set 19 (Sum.inr (5, [Value.ref 20, Value.ref 22, Value.ref 24, Value.ref 26, Value.int 0, Value.int 1, Value.int 0, Value.int 0, Value.int 0, Value.int 0, Value.int 0, Value.int 0]))).set h24 (Sum.inr (2, [Value.int 64, Value.int 0, Value.int 0, Value.int 0, Value.ref h25]))).set 194 (Sum.inl (3, 1, xup (fun _ => Value.long 0) (0 : Int32).toInt.toNat (Value.long 0)))) := by
  refine xRun.of ?_
  refine i_111_0 (x := 194) rfl ?_
  refine i_111_2 ?_
  refine i_111_3 (x := 7) rfl ?_
  refine i_111_4 (x := a0) rfl ?_
  refine i_111_5 (x := a1) rfl ?_
  refine i_111_6 (x := a2) rfl ?_
  refine i_111_7 (x := a3) rfl ?_
  refine i_111_9 hw0 (Nat.le_of_ble_eq_true rfl) (p_112_11 e1 e2 e3 e4 e5 e6 hg7 e8 e9 e10 hw0 hw11 hw12 hw13 e14 hw15 hg16 e17 e18 e19 hw20 hg21 e22 e23 e24 hg25 e26 e27 e28 hw29 hg30 e31 e32 e33 hg34 e35 e36 e37 hw38 hg39 e40 e41 e42 hg43 e44 e45 e46 hw47 hg48 e49 e50 e51 hg52 e53 e54 e55 hw56 hg57 e58 e59 e60 hg61 e62 e63 e64 hw65 hg66 e67 e68 e69 hg70 e71 e72 e73 hw74 hg75 e76 e77 e78 hg79 e80 e81 e82 hw83 hg84 e85 e86 e87 hg88 e89 e90 e91 hw92 hg93 e94 e95 e96 hg97 e98 e99 e100 hw101 hg102 e103 e104 e105 hg106 e107 e108 e109 hw110 hg111 e112 e113 e114 hg115 e116 e117 e118 hw119 hg120 e121 hg122 e123 e124 e125 hw126 e127) ?_
  refine i_111_12 (c := 0) (by decide) ?_
  refine i_111_13 (v := Value.long 0) (xgn e128 (xgn (by decide) (xgn (by decide) (xgn (by decide) (xgn (by decide) (xgn (by decide) (xgn (by decide) (xgn (by decide) (xgn (by decide) (xgn (by decide) (xgn (by decide) (xgn (by decide) (xgn (by decide) (xgn (by decide) (xgn (by decide) (xgn (by decide) hw129)))))))))))))))) (by decide) (by decide) (by decide) rfl ?_
  refine i_111_14 ?_
  refine i_111_21 ?_
  exact i_111_22 ⟨rfl, rfl⟩
theorem p_229_11 {d : Nat} {w : xW} {a0 : Int32} {a1 : Int32} {a2 : Int32} {a3 : Int32} {a4 : Int32} {a5 : Int32} {a6 : Int32} {a7 : Int32} {a8 : Int32} {a9 : Int32} {a10 : Int32} {a11 : Int32} {a12 : Int32} {a13 : Int32} {a14 : Int32} {a15 : Int32} {a16 : Int32} (e0 : 0 ≤ a0.toInt) (e1 : a0.toInt ≤ 15) (e2 : 0 ≤ a1.toInt) (e3 : a1.toInt ≤ 15) (e4 : 1 ≤ a2.toInt) (e5 : a2.toInt ≤ 16) (hg6 : (a1 + a2) = a4) (e7 : a4.toInt ≤ 16) (e8 : 0 ≤ a3.toInt) (e9 : a3.toInt ≤ 4) (e10 : a1.toInt < a4.toInt) (hw11 : w[128]? = some (Sum.inr (12, [Value.ref 129, Value.ref 131, Value.ref 133, Value.ref 135, Value.ref 137, Value.ref 139, Value.ref 141, Value.ref 143, Value.ref 145, Value.ref 147, Value.ref 149, Value.ref 151, Value.ref 153, Value.ref 154, Value.ref 155, Value.ref 156, Value.ref 157, Value.int (-16384), Value.int 16384, Value.int 0, Value.int 0, Value.int 0, Value.ref 158, Value.ref 159, Value.int 0, Value.int 0, Value.int 0, Value.int 0, Value.int 0, Value.int 0, Value.int 0, Value.int 0]))) (hw12 : w[154]? = some (Sum.inl (0, 17, fun _ => Value.int 0))) (e13 : a1.toInt < 17) (hg14 : (a1 + (1 : Int32)) = a5) (e15 : a5.toInt < a4.toInt) (e16 : 0 ≤ a5.toInt) (e17 : a5.toInt < 17) (hg18 : (a5 + (1 : Int32)) = a6) (e19 : a6.toInt < a4.toInt) (e20 : 0 ≤ a6.toInt) (e21 : a6.toInt < 17) (hg22 : (a6 + (1 : Int32)) = a7) (e23 : a7.toInt < a4.toInt) (e24 : 0 ≤ a7.toInt) (e25 : a7.toInt < 17) (hg26 : (a7 + (1 : Int32)) = a8) (e27 : a8.toInt < a4.toInt) (e28 : 0 ≤ a8.toInt) (e29 : a8.toInt < 17) (hg30 : (a8 + (1 : Int32)) = a9) (e31 : a9.toInt < a4.toInt) (e32 : 0 ≤ a9.toInt) (e33 : a9.toInt < 17) (hg34 : (a9 + (1 : Int32)) = a10) (e35 : a10.toInt < a4.toInt) (e36 : 0 ≤ a10.toInt) (e37 : a10.toInt < 17) (hg38 : (a10 + (1 : Int32)) = a11) (e39 : a11.toInt < a4.toInt) (e40 : 0 ≤ a11.toInt) (e41 : a11.toInt < 17) (hg42 : (a11 + (1 : Int32)) = a12) (e43 : a12.toInt < a4.toInt) (e44 : 0 ≤ a12.toInt) (e45 : a12.toInt < 17) (hg46 : (a12 + (1 : Int32)) = a13) (e47 : a13.toInt < a4.toInt) (e48 : 0 ≤ a13.toInt) (e49 : a13.toInt < 17) (hg50 : (a13 + (1 : Int32)) = a14) (e51 : a14.toInt < a4.toInt) (e52 : 0 ≤ a14.toInt) (e53 : a14.toInt < 17) (hg54 : (a14 + (1 : Int32)) = a15) (e55 : a15.toInt < a4.toInt) (e56 : 0 ≤ a15.toInt) (e57 : a15.toInt < 17) (hg58 : (a15 + (1 : Int32)) = a16) (e59 : a4.toInt ≤ a16.toInt) (e60 : a0.toInt < 17) (hw61 : w[156]? = some (Sum.inl (2, 17, fun _ => Value.int 0))) : xRun (d + 2) 229 [Value.ref 128, Value.int a0, Value.int a1, Value.int a2, Value.int a3] w (.inl (some (Value.int 0))) ((w.set 154 (Sum.inl (0, 17, xup (fun _ => Value.int 0) a0.toInt.toNat (Value.int 0)))).set 156 (Sum.inl (2, 17, xup (fun _ => Value.int 0) a0.toInt.toNat (Value.int 0)))) := by
  refine xRun.of ?_
  refine i_229_0 (x := a0) rfl ?_
  refine i_229_1 (Nat.le_of_ble_eq_true rfl) (p_168_1 e0 e1) ?_
  refine i_229_4 (x := a1) rfl ?_
  refine i_229_5 (Nat.le_of_ble_eq_true rfl) (p_168_1 e2 e3) ?_
  refine i_229_8 (x := a2) rfl ?_
  refine i_229_9 ?_
  refine i_229_10 ?_
  refine i_229_12 (Nat.le_of_ble_eq_true rfl) (p_169_44 e4 e5) ?_
  refine i_229_15 (fun h => absurd h (by decide)) (fun _ => ?_)
  refine i_229_18 (x := a1) rfl ?_
  refine i_229_19 (x := a2) rfl ?_
  refine i_229_20 (c := a4) hg6 ?_
  refine i_229_21 ?_
  refine i_229_23 (fun h => absurd e7 (Int.not_le.mpr h)) (fun _ => ?_)
  refine i_229_26 ?_
  refine i_229_27 ?_
  refine i_229_31 (Nat.le_of_ble_eq_true rfl) (p_170_1) ?_
  refine i_229_34 (x := a3) rfl ?_
  refine i_229_36 (Nat.le_of_ble_eq_true rfl) (p_178_2 e8 e9) ?_
  refine i_229_39 ?_
  refine i_229_42 (lv2 := [(5, Value.int 2147483647), (0, Value.ref 128), (1, Value.int a0), (2, Value.int a1), (3, Value.int a2), (4, Value.int a3)]) rfl ?_
  refine i_229_44 ?_
  refine i_229_45 (lv2 := [(6, Value.int 0), (5, Value.int 2147483647), (0, Value.ref 128), (1, Value.int a0), (2, Value.int a1), (3, Value.int a2), (4, Value.int a3)]) rfl ?_
  refine i_229_47 ?_
  refine i_229_48 (lv2 := [(7, Value.int 0), (6, Value.int 0), (5, Value.int 2147483647), (0, Value.ref 128), (1, Value.int a0), (2, Value.int a1), (3, Value.int a2), (4, Value.int a3)]) rfl ?_
  refine i_229_50 ?_
  refine i_229_51 (lv2 := [(8, Value.int 0), (7, Value.int 0), (6, Value.int 0), (5, Value.int 2147483647), (0, Value.ref 128), (1, Value.int a0), (2, Value.int a1), (3, Value.int a2), (4, Value.int a3)]) rfl ?_
  refine i_229_53 (x := a1) rfl ?_
  refine i_229_54 (lv2 := [(9, Value.int a1), (8, Value.int 0), (7, Value.int 0), (6, Value.int 0), (5, Value.int 2147483647), (0, Value.ref 128), (1, Value.int a0), (2, Value.int a1), (3, Value.int a2), (4, Value.int a3)]) rfl ?_
  refine i_229_56 (x := a1) rfl ?_
  refine i_229_58 (x := a1) rfl ?_
  refine i_229_59 (x := a2) rfl ?_
  refine i_229_60 (c := a4) hg6 ?_
  refine i_229_61 (fun h => absurd e10 (Int.not_lt.mpr h)) (fun _ => ?_)
  refine i_229_64 (x := 0) rfl ?_
  refine i_229_66 (x := 128) rfl ?_
  refine i_229_67 (v := Value.ref 154) hw11 rfl ?_
  refine i_229_70 (x := a1) rfl ?_
  refine i_229_72 (v := Value.int 0) hw12 e2 e13 rfl ?_
  refine i_229_73 (fun h => absurd h (by decide)) (fun _ => ?_)
  refine i_229_76 ?_
  refine i_229_77 ?_
  refine i_229_81 (c := 1) (by decide) ?_
  refine i_229_82 (lv2 := [(8, Value.int 1), (9, Value.int a1), (7, Value.int 0), (6, Value.int 0), (5, Value.int 2147483647), (0, Value.ref 128), (1, Value.int a0), (2, Value.int a1), (3, Value.int a2), (4, Value.int a3)]) rfl ?_
  refine i_229_84 (x := 0) rfl ?_
  refine i_229_86 (x := 128) rfl ?_
  refine i_229_87 (v := Value.ref 154) hw11 rfl ?_
  refine i_229_90 (x := a1) rfl ?_
  refine i_229_92 (v := Value.int 0) hw12 e2 e13 rfl ?_
  refine i_229_93 ?_
  refine i_229_94 (fun _ => ?_) (fun h => absurd h (by decide))
  refine i_229_111 ?_
  refine i_229_112 (c := 0) (by decide) ?_
  refine i_229_113 (lv2 := [(6, Value.int 0), (8, Value.int 1), (9, Value.int a1), (7, Value.int 0), (5, Value.int 2147483647), (0, Value.ref 128), (1, Value.int a0), (2, Value.int a1), (3, Value.int a2), (4, Value.int a3)]) rfl ?_
  refine i_229_115 (x := 0) rfl ?_
  refine i_229_117 (x := 128) rfl ?_
  refine i_229_118 (v := Value.ref 154) hw11 rfl ?_
  refine i_229_121 (x := a1) rfl ?_
  refine i_229_123 (v := Value.int 0) hw12 e2 e13 rfl ?_
  refine i_229_124 ?_
  refine i_229_125 (fun _ => ?_) (fun h => absurd h (by decide))
  refine i_229_142 ?_
  refine i_229_143 (c := 0) (by decide) ?_
  refine i_229_144 (lv2 := [(7, Value.int 0), (6, Value.int 0), (8, Value.int 1), (9, Value.int a1), (5, Value.int 2147483647), (0, Value.ref 128), (1, Value.int a0), (2, Value.int a1), (3, Value.int a2), (4, Value.int a3)]) rfl ?_
  refine i_229_146 (x := 128) rfl ?_
  refine i_229_147 (v := Value.ref 154) hw11 rfl ?_
  refine i_229_150 (x := a1) rfl ?_
  refine i_229_152 (v := Value.int 0) hw12 e2 e13 rfl ?_
  refine i_229_153 ?_
  refine i_229_154 (fun _ => ?_) (fun h => absurd h (by decide))
  refine i_229_170 (x := a1) (c := a5) (lv2 := [(9, Value.int a5), (7, Value.int 0), (6, Value.int 0), (8, Value.int 1), (5, Value.int 2147483647), (0, Value.ref 128), (1, Value.int a0), (2, Value.int a1), (3, Value.int a2), (4, Value.int a3)]) rfl hg14 rfl ?_
  refine i_229_173 ?_
  refine i_229_56 (x := a5) rfl ?_
  refine i_229_58 (x := a1) rfl ?_
  refine i_229_59 (x := a2) rfl ?_
  refine i_229_60 (c := a4) hg6 ?_
  refine i_229_61 (fun h => absurd e15 (Int.not_lt.mpr h)) (fun _ => ?_)
  refine i_229_64 (x := 1) rfl ?_
  refine i_229_66 (x := 128) rfl ?_
  refine i_229_67 (v := Value.ref 154) hw11 rfl ?_
  refine i_229_70 (x := a5) rfl ?_
  refine i_229_72 (v := Value.int 0) hw12 e16 e17 rfl ?_
  refine i_229_73 (fun h => absurd h (by decide)) (fun _ => ?_)
  refine i_229_76 ?_
  refine i_229_77 ?_
  refine i_229_81 (c := 1) (by decide) ?_
  refine i_229_82 (lv2 := [(8, Value.int 1), (9, Value.int a5), (7, Value.int 0), (6, Value.int 0), (5, Value.int 2147483647), (0, Value.ref 128), (1, Value.int a0), (2, Value.int a1), (3, Value.int a2), (4, Value.int a3)]) rfl ?_
  refine i_229_84 (x := 0) rfl ?_
  refine i_229_86 (x := 128) rfl ?_
  refine i_229_87 (v := Value.ref 154) hw11 rfl ?_
  refine i_229_90 (x := a5) rfl ?_
  refine i_229_92 (v := Value.int 0) hw12 e16 e17 rfl ?_
  refine i_229_93 ?_
  refine i_229_94 (fun _ => ?_) (fun h => absurd h (by decide))
  refine i_229_111 ?_
  refine i_229_112 (c := 0) (by decide) ?_
  refine i_229_113 (lv2 := [(6, Value.int 0), (8, Value.int 1), (9, Value.int a5), (7, Value.int 0), (5, Value.int 2147483647), (0, Value.ref 128), (1, Value.int a0), (2, Value.int a1), (3, Value.int a2), (4, Value.int a3)]) rfl ?_
  refine i_229_115 (x := 0) rfl ?_
  refine i_229_117 (x := 128) rfl ?_
  refine i_229_118 (v := Value.ref 154) hw11 rfl ?_
  refine i_229_121 (x := a5) rfl ?_
  refine i_229_123 (v := Value.int 0) hw12 e16 e17 rfl ?_
  refine i_229_124 ?_
  refine i_229_125 (fun _ => ?_) (fun h => absurd h (by decide))
  refine i_229_142 ?_
  refine i_229_143 (c := 0) (by decide) ?_
  refine i_229_144 (lv2 := [(7, Value.int 0), (6, Value.int 0), (8, Value.int 1), (9, Value.int a5), (5, Value.int 2147483647), (0, Value.ref 128), (1, Value.int a0), (2, Value.int a1), (3, Value.int a2), (4, Value.int a3)]) rfl ?_
  refine i_229_146 (x := 128) rfl ?_
  refine i_229_147 (v := Value.ref 154) hw11 rfl ?_
  refine i_229_150 (x := a5) rfl ?_
  refine i_229_152 (v := Value.int 0) hw12 e16 e17 rfl ?_
  refine i_229_153 ?_
  refine i_229_154 (fun _ => ?_) (fun h => absurd h (by decide))
  refine i_229_170 (x := a5) (c := a6) (lv2 := [(9, Value.int a6), (7, Value.int 0), (6, Value.int 0), (8, Value.int 1), (5, Value.int 2147483647), (0, Value.ref 128), (1, Value.int a0), (2, Value.int a1), (3, Value.int a2), (4, Value.int a3)]) rfl hg18 rfl ?_
  refine i_229_173 ?_
  refine i_229_56 (x := a6) rfl ?_
  refine i_229_58 (x := a1) rfl ?_
  refine i_229_59 (x := a2) rfl ?_
  refine i_229_60 (c := a4) hg6 ?_
  refine i_229_61 (fun h => absurd e19 (Int.not_lt.mpr h)) (fun _ => ?_)
  refine i_229_64 (x := 1) rfl ?_
  refine i_229_66 (x := 128) rfl ?_
  refine i_229_67 (v := Value.ref 154) hw11 rfl ?_
  refine i_229_70 (x := a6) rfl ?_
  refine i_229_72 (v := Value.int 0) hw12 e20 e21 rfl ?_
  refine i_229_73 (fun h => absurd h (by decide)) (fun _ => ?_)
  refine i_229_76 ?_
  refine i_229_77 ?_
  refine i_229_81 (c := 1) (by decide) ?_
  refine i_229_82 (lv2 := [(8, Value.int 1), (9, Value.int a6), (7, Value.int 0), (6, Value.int 0), (5, Value.int 2147483647), (0, Value.ref 128), (1, Value.int a0), (2, Value.int a1), (3, Value.int a2), (4, Value.int a3)]) rfl ?_
  refine i_229_84 (x := 0) rfl ?_
  refine i_229_86 (x := 128) rfl ?_
  refine i_229_87 (v := Value.ref 154) hw11 rfl ?_
  refine i_229_90 (x := a6) rfl ?_
  refine i_229_92 (v := Value.int 0) hw12 e20 e21 rfl ?_
  refine i_229_93 ?_
  refine i_229_94 (fun _ => ?_) (fun h => absurd h (by decide))
  refine i_229_111 ?_
  refine i_229_112 (c := 0) (by decide) ?_
  refine i_229_113 (lv2 := [(6, Value.int 0), (8, Value.int 1), (9, Value.int a6), (7, Value.int 0), (5, Value.int 2147483647), (0, Value.ref 128), (1, Value.int a0), (2, Value.int a1), (3, Value.int a2), (4, Value.int a3)]) rfl ?_
  refine i_229_115 (x := 0) rfl ?_
  refine i_229_117 (x := 128) rfl ?_
  refine i_229_118 (v := Value.ref 154) hw11 rfl ?_
  refine i_229_121 (x := a6) rfl ?_
  refine i_229_123 (v := Value.int 0) hw12 e20 e21 rfl ?_
  refine i_229_124 ?_
  refine i_229_125 (fun _ => ?_) (fun h => absurd h (by decide))
  refine i_229_142 ?_
  refine i_229_143 (c := 0) (by decide) ?_
  refine i_229_144 (lv2 := [(7, Value.int 0), (6, Value.int 0), (8, Value.int 1), (9, Value.int a6), (5, Value.int 2147483647), (0, Value.ref 128), (1, Value.int a0), (2, Value.int a1), (3, Value.int a2), (4, Value.int a3)]) rfl ?_
  refine i_229_146 (x := 128) rfl ?_
  refine i_229_147 (v := Value.ref 154) hw11 rfl ?_
  refine i_229_150 (x := a6) rfl ?_
  refine i_229_152 (v := Value.int 0) hw12 e20 e21 rfl ?_
  refine i_229_153 ?_
  refine i_229_154 (fun _ => ?_) (fun h => absurd h (by decide))
  refine i_229_170 (x := a6) (c := a7) (lv2 := [(9, Value.int a7), (7, Value.int 0), (6, Value.int 0), (8, Value.int 1), (5, Value.int 2147483647), (0, Value.ref 128), (1, Value.int a0), (2, Value.int a1), (3, Value.int a2), (4, Value.int a3)]) rfl hg22 rfl ?_
  refine i_229_173 ?_
  refine i_229_56 (x := a7) rfl ?_
  refine i_229_58 (x := a1) rfl ?_
  refine i_229_59 (x := a2) rfl ?_
  refine i_229_60 (c := a4) hg6 ?_
  refine i_229_61 (fun h => absurd e23 (Int.not_lt.mpr h)) (fun _ => ?_)
  refine i_229_64 (x := 1) rfl ?_
  refine i_229_66 (x := 128) rfl ?_
  refine i_229_67 (v := Value.ref 154) hw11 rfl ?_
  refine i_229_70 (x := a7) rfl ?_
  refine i_229_72 (v := Value.int 0) hw12 e24 e25 rfl ?_
  refine i_229_73 (fun h => absurd h (by decide)) (fun _ => ?_)
  refine i_229_76 ?_
  refine i_229_77 ?_
  refine i_229_81 (c := 1) (by decide) ?_
  refine i_229_82 (lv2 := [(8, Value.int 1), (9, Value.int a7), (7, Value.int 0), (6, Value.int 0), (5, Value.int 2147483647), (0, Value.ref 128), (1, Value.int a0), (2, Value.int a1), (3, Value.int a2), (4, Value.int a3)]) rfl ?_
  refine i_229_84 (x := 0) rfl ?_
  refine i_229_86 (x := 128) rfl ?_
  refine i_229_87 (v := Value.ref 154) hw11 rfl ?_
  refine i_229_90 (x := a7) rfl ?_
  refine i_229_92 (v := Value.int 0) hw12 e24 e25 rfl ?_
  refine i_229_93 ?_
  refine i_229_94 (fun _ => ?_) (fun h => absurd h (by decide))
  refine i_229_111 ?_
  refine i_229_112 (c := 0) (by decide) ?_
  refine i_229_113 (lv2 := [(6, Value.int 0), (8, Value.int 1), (9, Value.int a7), (7, Value.int 0), (5, Value.int 2147483647), (0, Value.ref 128), (1, Value.int a0), (2, Value.int a1), (3, Value.int a2), (4, Value.int a3)]) rfl ?_
  refine i_229_115 (x := 0) rfl ?_
  refine i_229_117 (x := 128) rfl ?_
  refine i_229_118 (v := Value.ref 154) hw11 rfl ?_
  refine i_229_121 (x := a7) rfl ?_
  refine i_229_123 (v := Value.int 0) hw12 e24 e25 rfl ?_
  refine i_229_124 ?_
  refine i_229_125 (fun _ => ?_) (fun h => absurd h (by decide))
  refine i_229_142 ?_
  refine i_229_143 (c := 0) (by decide) ?_
  refine i_229_144 (lv2 := [(7, Value.int 0), (6, Value.int 0), (8, Value.int 1), (9, Value.int a7), (5, Value.int 2147483647), (0, Value.ref 128), (1, Value.int a0), (2, Value.int a1), (3, Value.int a2), (4, Value.int a3)]) rfl ?_
  refine i_229_146 (x := 128) rfl ?_
  refine i_229_147 (v := Value.ref 154) hw11 rfl ?_
  refine i_229_150 (x := a7) rfl ?_
  refine i_229_152 (v := Value.int 0) hw12 e24 e25 rfl ?_
  refine i_229_153 ?_
  refine i_229_154 (fun _ => ?_) (fun h => absurd h (by decide))
  refine i_229_170 (x := a7) (c := a8) (lv2 := [(9, Value.int a8), (7, Value.int 0), (6, Value.int 0), (8, Value.int 1), (5, Value.int 2147483647), (0, Value.ref 128), (1, Value.int a0), (2, Value.int a1), (3, Value.int a2), (4, Value.int a3)]) rfl hg26 rfl ?_
  refine i_229_173 ?_
  refine i_229_56 (x := a8) rfl ?_
  refine i_229_58 (x := a1) rfl ?_
  refine i_229_59 (x := a2) rfl ?_
  refine i_229_60 (c := a4) hg6 ?_
  refine i_229_61 (fun h => absurd e27 (Int.not_lt.mpr h)) (fun _ => ?_)
  refine i_229_64 (x := 1) rfl ?_
  refine i_229_66 (x := 128) rfl ?_
  refine i_229_67 (v := Value.ref 154) hw11 rfl ?_
  refine i_229_70 (x := a8) rfl ?_
  refine i_229_72 (v := Value.int 0) hw12 e28 e29 rfl ?_
  refine i_229_73 (fun h => absurd h (by decide)) (fun _ => ?_)
  refine i_229_76 ?_
  refine i_229_77 ?_
  refine i_229_81 (c := 1) (by decide) ?_
  refine i_229_82 (lv2 := [(8, Value.int 1), (9, Value.int a8), (7, Value.int 0), (6, Value.int 0), (5, Value.int 2147483647), (0, Value.ref 128), (1, Value.int a0), (2, Value.int a1), (3, Value.int a2), (4, Value.int a3)]) rfl ?_
  refine i_229_84 (x := 0) rfl ?_
  refine i_229_86 (x := 128) rfl ?_
  refine i_229_87 (v := Value.ref 154) hw11 rfl ?_
  refine i_229_90 (x := a8) rfl ?_
  refine i_229_92 (v := Value.int 0) hw12 e28 e29 rfl ?_
  refine i_229_93 ?_
  refine i_229_94 (fun _ => ?_) (fun h => absurd h (by decide))
  refine i_229_111 ?_
  refine i_229_112 (c := 0) (by decide) ?_
  refine i_229_113 (lv2 := [(6, Value.int 0), (8, Value.int 1), (9, Value.int a8), (7, Value.int 0), (5, Value.int 2147483647), (0, Value.ref 128), (1, Value.int a0), (2, Value.int a1), (3, Value.int a2), (4, Value.int a3)]) rfl ?_
  refine i_229_115 (x := 0) rfl ?_
  refine i_229_117 (x := 128) rfl ?_
  refine i_229_118 (v := Value.ref 154) hw11 rfl ?_
  refine i_229_121 (x := a8) rfl ?_
  refine i_229_123 (v := Value.int 0) hw12 e28 e29 rfl ?_
  refine i_229_124 ?_
  refine i_229_125 (fun _ => ?_) (fun h => absurd h (by decide))
  refine i_229_142 ?_
  refine i_229_143 (c := 0) (by decide) ?_
  refine i_229_144 (lv2 := [(7, Value.int 0), (6, Value.int 0), (8, Value.int 1), (9, Value.int a8), (5, Value.int 2147483647), (0, Value.ref 128), (1, Value.int a0), (2, Value.int a1), (3, Value.int a2), (4, Value.int a3)]) rfl ?_
  refine i_229_146 (x := 128) rfl ?_
  refine i_229_147 (v := Value.ref 154) hw11 rfl ?_
  refine i_229_150 (x := a8) rfl ?_
  refine i_229_152 (v := Value.int 0) hw12 e28 e29 rfl ?_
  refine i_229_153 ?_
  refine i_229_154 (fun _ => ?_) (fun h => absurd h (by decide))
  refine i_229_170 (x := a8) (c := a9) (lv2 := [(9, Value.int a9), (7, Value.int 0), (6, Value.int 0), (8, Value.int 1), (5, Value.int 2147483647), (0, Value.ref 128), (1, Value.int a0), (2, Value.int a1), (3, Value.int a2), (4, Value.int a3)]) rfl hg30 rfl ?_
  refine i_229_173 ?_
  refine i_229_56 (x := a9) rfl ?_
  refine i_229_58 (x := a1) rfl ?_
  refine i_229_59 (x := a2) rfl ?_
  refine i_229_60 (c := a4) hg6 ?_
  refine i_229_61 (fun h => absurd e31 (Int.not_lt.mpr h)) (fun _ => ?_)
  refine i_229_64 (x := 1) rfl ?_
  refine i_229_66 (x := 128) rfl ?_
  refine i_229_67 (v := Value.ref 154) hw11 rfl ?_
  refine i_229_70 (x := a9) rfl ?_
  refine i_229_72 (v := Value.int 0) hw12 e32 e33 rfl ?_
  refine i_229_73 (fun h => absurd h (by decide)) (fun _ => ?_)
  refine i_229_76 ?_
  refine i_229_77 ?_
  refine i_229_81 (c := 1) (by decide) ?_
  refine i_229_82 (lv2 := [(8, Value.int 1), (9, Value.int a9), (7, Value.int 0), (6, Value.int 0), (5, Value.int 2147483647), (0, Value.ref 128), (1, Value.int a0), (2, Value.int a1), (3, Value.int a2), (4, Value.int a3)]) rfl ?_
  refine i_229_84 (x := 0) rfl ?_
  refine i_229_86 (x := 128) rfl ?_
  refine i_229_87 (v := Value.ref 154) hw11 rfl ?_
  refine i_229_90 (x := a9) rfl ?_
  refine i_229_92 (v := Value.int 0) hw12 e32 e33 rfl ?_
  refine i_229_93 ?_
  refine i_229_94 (fun _ => ?_) (fun h => absurd h (by decide))
  refine i_229_111 ?_
  refine i_229_112 (c := 0) (by decide) ?_
  refine i_229_113 (lv2 := [(6, Value.int 0), (8, Value.int 1), (9, Value.int a9), (7, Value.int 0), (5, Value.int 2147483647), (0, Value.ref 128), (1, Value.int a0), (2, Value.int a1), (3, Value.int a2), (4, Value.int a3)]) rfl ?_
  refine i_229_115 (x := 0) rfl ?_
  refine i_229_117 (x := 128) rfl ?_
  refine i_229_118 (v := Value.ref 154) hw11 rfl ?_
  refine i_229_121 (x := a9) rfl ?_
  refine i_229_123 (v := Value.int 0) hw12 e32 e33 rfl ?_
  refine i_229_124 ?_
  refine i_229_125 (fun _ => ?_) (fun h => absurd h (by decide))
  refine i_229_142 ?_
  refine i_229_143 (c := 0) (by decide) ?_
  refine i_229_144 (lv2 := [(7, Value.int 0), (6, Value.int 0), (8, Value.int 1), (9, Value.int a9), (5, Value.int 2147483647), (0, Value.ref 128), (1, Value.int a0), (2, Value.int a1), (3, Value.int a2), (4, Value.int a3)]) rfl ?_
  refine i_229_146 (x := 128) rfl ?_
  refine i_229_147 (v := Value.ref 154) hw11 rfl ?_
  refine i_229_150 (x := a9) rfl ?_
  refine i_229_152 (v := Value.int 0) hw12 e32 e33 rfl ?_
  refine i_229_153 ?_
  refine i_229_154 (fun _ => ?_) (fun h => absurd h (by decide))
  refine i_229_170 (x := a9) (c := a10) (lv2 := [(9, Value.int a10), (7, Value.int 0), (6, Value.int 0), (8, Value.int 1), (5, Value.int 2147483647), (0, Value.ref 128), (1, Value.int a0), (2, Value.int a1), (3, Value.int a2), (4, Value.int a3)]) rfl hg34 rfl ?_
  refine i_229_173 ?_
  refine i_229_56 (x := a10) rfl ?_
  refine i_229_58 (x := a1) rfl ?_
  refine i_229_59 (x := a2) rfl ?_
  refine i_229_60 (c := a4) hg6 ?_
  refine i_229_61 (fun h => absurd e35 (Int.not_lt.mpr h)) (fun _ => ?_)
  refine i_229_64 (x := 1) rfl ?_
  refine i_229_66 (x := 128) rfl ?_
  refine i_229_67 (v := Value.ref 154) hw11 rfl ?_
  refine i_229_70 (x := a10) rfl ?_
  refine i_229_72 (v := Value.int 0) hw12 e36 e37 rfl ?_
  refine i_229_73 (fun h => absurd h (by decide)) (fun _ => ?_)
  refine i_229_76 ?_
  refine i_229_77 ?_
  refine i_229_81 (c := 1) (by decide) ?_
  refine i_229_82 (lv2 := [(8, Value.int 1), (9, Value.int a10), (7, Value.int 0), (6, Value.int 0), (5, Value.int 2147483647), (0, Value.ref 128), (1, Value.int a0), (2, Value.int a1), (3, Value.int a2), (4, Value.int a3)]) rfl ?_
  refine i_229_84 (x := 0) rfl ?_
  refine i_229_86 (x := 128) rfl ?_
  refine i_229_87 (v := Value.ref 154) hw11 rfl ?_
  refine i_229_90 (x := a10) rfl ?_
  refine i_229_92 (v := Value.int 0) hw12 e36 e37 rfl ?_
  refine i_229_93 ?_
  refine i_229_94 (fun _ => ?_) (fun h => absurd h (by decide))
  refine i_229_111 ?_
  refine i_229_112 (c := 0) (by decide) ?_
  refine i_229_113 (lv2 := [(6, Value.int 0), (8, Value.int 1), (9, Value.int a10), (7, Value.int 0), (5, Value.int 2147483647), (0, Value.ref 128), (1, Value.int a0), (2, Value.int a1), (3, Value.int a2), (4, Value.int a3)]) rfl ?_
  refine i_229_115 (x := 0) rfl ?_
  refine i_229_117 (x := 128) rfl ?_
  refine i_229_118 (v := Value.ref 154) hw11 rfl ?_
  refine i_229_121 (x := a10) rfl ?_
  refine i_229_123 (v := Value.int 0) hw12 e36 e37 rfl ?_
  refine i_229_124 ?_
  refine i_229_125 (fun _ => ?_) (fun h => absurd h (by decide))
  refine i_229_142 ?_
  refine i_229_143 (c := 0) (by decide) ?_
  refine i_229_144 (lv2 := [(7, Value.int 0), (6, Value.int 0), (8, Value.int 1), (9, Value.int a10), (5, Value.int 2147483647), (0, Value.ref 128), (1, Value.int a0), (2, Value.int a1), (3, Value.int a2), (4, Value.int a3)]) rfl ?_
  refine i_229_146 (x := 128) rfl ?_
  refine i_229_147 (v := Value.ref 154) hw11 rfl ?_
  refine i_229_150 (x := a10) rfl ?_
  refine i_229_152 (v := Value.int 0) hw12 e36 e37 rfl ?_
  refine i_229_153 ?_
  refine i_229_154 (fun _ => ?_) (fun h => absurd h (by decide))
  refine i_229_170 (x := a10) (c := a11) (lv2 := [(9, Value.int a11), (7, Value.int 0), (6, Value.int 0), (8, Value.int 1), (5, Value.int 2147483647), (0, Value.ref 128), (1, Value.int a0), (2, Value.int a1), (3, Value.int a2), (4, Value.int a3)]) rfl hg38 rfl ?_
  refine i_229_173 ?_
  refine i_229_56 (x := a11) rfl ?_
  refine i_229_58 (x := a1) rfl ?_
  refine i_229_59 (x := a2) rfl ?_
  refine i_229_60 (c := a4) hg6 ?_
  refine i_229_61 (fun h => absurd e39 (Int.not_lt.mpr h)) (fun _ => ?_)
  refine i_229_64 (x := 1) rfl ?_
  refine i_229_66 (x := 128) rfl ?_
  refine i_229_67 (v := Value.ref 154) hw11 rfl ?_
  refine i_229_70 (x := a11) rfl ?_
  refine i_229_72 (v := Value.int 0) hw12 e40 e41 rfl ?_
  refine i_229_73 (fun h => absurd h (by decide)) (fun _ => ?_)
  refine i_229_76 ?_
  refine i_229_77 ?_
  refine i_229_81 (c := 1) (by decide) ?_
  refine i_229_82 (lv2 := [(8, Value.int 1), (9, Value.int a11), (7, Value.int 0), (6, Value.int 0), (5, Value.int 2147483647), (0, Value.ref 128), (1, Value.int a0), (2, Value.int a1), (3, Value.int a2), (4, Value.int a3)]) rfl ?_
  refine i_229_84 (x := 0) rfl ?_
  refine i_229_86 (x := 128) rfl ?_
  refine i_229_87 (v := Value.ref 154) hw11 rfl ?_
  refine i_229_90 (x := a11) rfl ?_
  refine i_229_92 (v := Value.int 0) hw12 e40 e41 rfl ?_
  refine i_229_93 ?_
  refine i_229_94 (fun _ => ?_) (fun h => absurd h (by decide))
  refine i_229_111 ?_
  refine i_229_112 (c := 0) (by decide) ?_
  refine i_229_113 (lv2 := [(6, Value.int 0), (8, Value.int 1), (9, Value.int a11), (7, Value.int 0), (5, Value.int 2147483647), (0, Value.ref 128), (1, Value.int a0), (2, Value.int a1), (3, Value.int a2), (4, Value.int a3)]) rfl ?_
  refine i_229_115 (x := 0) rfl ?_
  refine i_229_117 (x := 128) rfl ?_
  refine i_229_118 (v := Value.ref 154) hw11 rfl ?_
  refine i_229_121 (x := a11) rfl ?_
  refine i_229_123 (v := Value.int 0) hw12 e40 e41 rfl ?_
  refine i_229_124 ?_
  refine i_229_125 (fun _ => ?_) (fun h => absurd h (by decide))
  refine i_229_142 ?_
  refine i_229_143 (c := 0) (by decide) ?_
  refine i_229_144 (lv2 := [(7, Value.int 0), (6, Value.int 0), (8, Value.int 1), (9, Value.int a11), (5, Value.int 2147483647), (0, Value.ref 128), (1, Value.int a0), (2, Value.int a1), (3, Value.int a2), (4, Value.int a3)]) rfl ?_
  refine i_229_146 (x := 128) rfl ?_
  refine i_229_147 (v := Value.ref 154) hw11 rfl ?_
  refine i_229_150 (x := a11) rfl ?_
  refine i_229_152 (v := Value.int 0) hw12 e40 e41 rfl ?_
  refine i_229_153 ?_
  refine i_229_154 (fun _ => ?_) (fun h => absurd h (by decide))
  refine i_229_170 (x := a11) (c := a12) (lv2 := [(9, Value.int a12), (7, Value.int 0), (6, Value.int 0), (8, Value.int 1), (5, Value.int 2147483647), (0, Value.ref 128), (1, Value.int a0), (2, Value.int a1), (3, Value.int a2), (4, Value.int a3)]) rfl hg42 rfl ?_
  refine i_229_173 ?_
  refine i_229_56 (x := a12) rfl ?_
  refine i_229_58 (x := a1) rfl ?_
  refine i_229_59 (x := a2) rfl ?_
  refine i_229_60 (c := a4) hg6 ?_
  refine i_229_61 (fun h => absurd e43 (Int.not_lt.mpr h)) (fun _ => ?_)
  refine i_229_64 (x := 1) rfl ?_
  refine i_229_66 (x := 128) rfl ?_
  refine i_229_67 (v := Value.ref 154) hw11 rfl ?_
  refine i_229_70 (x := a12) rfl ?_
  refine i_229_72 (v := Value.int 0) hw12 e44 e45 rfl ?_
  refine i_229_73 (fun h => absurd h (by decide)) (fun _ => ?_)
  refine i_229_76 ?_
  refine i_229_77 ?_
  refine i_229_81 (c := 1) (by decide) ?_
  refine i_229_82 (lv2 := [(8, Value.int 1), (9, Value.int a12), (7, Value.int 0), (6, Value.int 0), (5, Value.int 2147483647), (0, Value.ref 128), (1, Value.int a0), (2, Value.int a1), (3, Value.int a2), (4, Value.int a3)]) rfl ?_
  refine i_229_84 (x := 0) rfl ?_
  refine i_229_86 (x := 128) rfl ?_
  refine i_229_87 (v := Value.ref 154) hw11 rfl ?_
  refine i_229_90 (x := a12) rfl ?_
  refine i_229_92 (v := Value.int 0) hw12 e44 e45 rfl ?_
  refine i_229_93 ?_
  refine i_229_94 (fun _ => ?_) (fun h => absurd h (by decide))
  refine i_229_111 ?_
  refine i_229_112 (c := 0) (by decide) ?_
  refine i_229_113 (lv2 := [(6, Value.int 0), (8, Value.int 1), (9, Value.int a12), (7, Value.int 0), (5, Value.int 2147483647), (0, Value.ref 128), (1, Value.int a0), (2, Value.int a1), (3, Value.int a2), (4, Value.int a3)]) rfl ?_
  refine i_229_115 (x := 0) rfl ?_
  refine i_229_117 (x := 128) rfl ?_
  refine i_229_118 (v := Value.ref 154) hw11 rfl ?_
  refine i_229_121 (x := a12) rfl ?_
  refine i_229_123 (v := Value.int 0) hw12 e44 e45 rfl ?_
  refine i_229_124 ?_
  refine i_229_125 (fun _ => ?_) (fun h => absurd h (by decide))
  refine i_229_142 ?_
  refine i_229_143 (c := 0) (by decide) ?_
  refine i_229_144 (lv2 := [(7, Value.int 0), (6, Value.int 0), (8, Value.int 1), (9, Value.int a12), (5, Value.int 2147483647), (0, Value.ref 128), (1, Value.int a0), (2, Value.int a1), (3, Value.int a2), (4, Value.int a3)]) rfl ?_
  refine i_229_146 (x := 128) rfl ?_
  refine i_229_147 (v := Value.ref 154) hw11 rfl ?_
  refine i_229_150 (x := a12) rfl ?_
  refine i_229_152 (v := Value.int 0) hw12 e44 e45 rfl ?_
  refine i_229_153 ?_
  refine i_229_154 (fun _ => ?_) (fun h => absurd h (by decide))
  refine i_229_170 (x := a12) (c := a13) (lv2 := [(9, Value.int a13), (7, Value.int 0), (6, Value.int 0), (8, Value.int 1), (5, Value.int 2147483647), (0, Value.ref 128), (1, Value.int a0), (2, Value.int a1), (3, Value.int a2), (4, Value.int a3)]) rfl hg46 rfl ?_
  refine i_229_173 ?_
  refine i_229_56 (x := a13) rfl ?_
  refine i_229_58 (x := a1) rfl ?_
  refine i_229_59 (x := a2) rfl ?_
  refine i_229_60 (c := a4) hg6 ?_
  refine i_229_61 (fun h => absurd e47 (Int.not_lt.mpr h)) (fun _ => ?_)
  refine i_229_64 (x := 1) rfl ?_
  refine i_229_66 (x := 128) rfl ?_
  refine i_229_67 (v := Value.ref 154) hw11 rfl ?_
  refine i_229_70 (x := a13) rfl ?_
  refine i_229_72 (v := Value.int 0) hw12 e48 e49 rfl ?_
  refine i_229_73 (fun h => absurd h (by decide)) (fun _ => ?_)
  refine i_229_76 ?_
  refine i_229_77 ?_
  refine i_229_81 (c := 1) (by decide) ?_
  refine i_229_82 (lv2 := [(8, Value.int 1), (9, Value.int a13), (7, Value.int 0), (6, Value.int 0), (5, Value.int 2147483647), (0, Value.ref 128), (1, Value.int a0), (2, Value.int a1), (3, Value.int a2), (4, Value.int a3)]) rfl ?_
  refine i_229_84 (x := 0) rfl ?_
  refine i_229_86 (x := 128) rfl ?_
  refine i_229_87 (v := Value.ref 154) hw11 rfl ?_
  refine i_229_90 (x := a13) rfl ?_
  refine i_229_92 (v := Value.int 0) hw12 e48 e49 rfl ?_
  refine i_229_93 ?_
  refine i_229_94 (fun _ => ?_) (fun h => absurd h (by decide))
  refine i_229_111 ?_
  refine i_229_112 (c := 0) (by decide) ?_
  refine i_229_113 (lv2 := [(6, Value.int 0), (8, Value.int 1), (9, Value.int a13), (7, Value.int 0), (5, Value.int 2147483647), (0, Value.ref 128), (1, Value.int a0), (2, Value.int a1), (3, Value.int a2), (4, Value.int a3)]) rfl ?_
  refine i_229_115 (x := 0) rfl ?_
  refine i_229_117 (x := 128) rfl ?_
  refine i_229_118 (v := Value.ref 154) hw11 rfl ?_
  refine i_229_121 (x := a13) rfl ?_
  refine i_229_123 (v := Value.int 0) hw12 e48 e49 rfl ?_
  refine i_229_124 ?_
  refine i_229_125 (fun _ => ?_) (fun h => absurd h (by decide))
  refine i_229_142 ?_
  refine i_229_143 (c := 0) (by decide) ?_
  refine i_229_144 (lv2 := [(7, Value.int 0), (6, Value.int 0), (8, Value.int 1), (9, Value.int a13), (5, Value.int 2147483647), (0, Value.ref 128), (1, Value.int a0), (2, Value.int a1), (3, Value.int a2), (4, Value.int a3)]) rfl ?_
  refine i_229_146 (x := 128) rfl ?_
  refine i_229_147 (v := Value.ref 154) hw11 rfl ?_
  refine i_229_150 (x := a13) rfl ?_
  refine i_229_152 (v := Value.int 0) hw12 e48 e49 rfl ?_
  refine i_229_153 ?_
  refine i_229_154 (fun _ => ?_) (fun h => absurd h (by decide))
  refine i_229_170 (x := a13) (c := a14) (lv2 := [(9, Value.int a14), (7, Value.int 0), (6, Value.int 0), (8, Value.int 1), (5, Value.int 2147483647), (0, Value.ref 128), (1, Value.int a0), (2, Value.int a1), (3, Value.int a2), (4, Value.int a3)]) rfl hg50 rfl ?_
  refine i_229_173 ?_
  refine i_229_56 (x := a14) rfl ?_
  refine i_229_58 (x := a1) rfl ?_
  refine i_229_59 (x := a2) rfl ?_
  refine i_229_60 (c := a4) hg6 ?_
  refine i_229_61 (fun h => absurd e51 (Int.not_lt.mpr h)) (fun _ => ?_)
  refine i_229_64 (x := 1) rfl ?_
  refine i_229_66 (x := 128) rfl ?_
  refine i_229_67 (v := Value.ref 154) hw11 rfl ?_
  refine i_229_70 (x := a14) rfl ?_
  refine i_229_72 (v := Value.int 0) hw12 e52 e53 rfl ?_
  refine i_229_73 (fun h => absurd h (by decide)) (fun _ => ?_)
  refine i_229_76 ?_
  refine i_229_77 ?_
  refine i_229_81 (c := 1) (by decide) ?_
  refine i_229_82 (lv2 := [(8, Value.int 1), (9, Value.int a14), (7, Value.int 0), (6, Value.int 0), (5, Value.int 2147483647), (0, Value.ref 128), (1, Value.int a0), (2, Value.int a1), (3, Value.int a2), (4, Value.int a3)]) rfl ?_
  refine i_229_84 (x := 0) rfl ?_
  refine i_229_86 (x := 128) rfl ?_
  refine i_229_87 (v := Value.ref 154) hw11 rfl ?_
  refine i_229_90 (x := a14) rfl ?_
  refine i_229_92 (v := Value.int 0) hw12 e52 e53 rfl ?_
  refine i_229_93 ?_
  refine i_229_94 (fun _ => ?_) (fun h => absurd h (by decide))
  refine i_229_111 ?_
  refine i_229_112 (c := 0) (by decide) ?_
  refine i_229_113 (lv2 := [(6, Value.int 0), (8, Value.int 1), (9, Value.int a14), (7, Value.int 0), (5, Value.int 2147483647), (0, Value.ref 128), (1, Value.int a0), (2, Value.int a1), (3, Value.int a2), (4, Value.int a3)]) rfl ?_
  refine i_229_115 (x := 0) rfl ?_
  refine i_229_117 (x := 128) rfl ?_
  refine i_229_118 (v := Value.ref 154) hw11 rfl ?_
  refine i_229_121 (x := a14) rfl ?_
  refine i_229_123 (v := Value.int 0) hw12 e52 e53 rfl ?_
  refine i_229_124 ?_
  refine i_229_125 (fun _ => ?_) (fun h => absurd h (by decide))
  refine i_229_142 ?_
  refine i_229_143 (c := 0) (by decide) ?_
  refine i_229_144 (lv2 := [(7, Value.int 0), (6, Value.int 0), (8, Value.int 1), (9, Value.int a14), (5, Value.int 2147483647), (0, Value.ref 128), (1, Value.int a0), (2, Value.int a1), (3, Value.int a2), (4, Value.int a3)]) rfl ?_
  refine i_229_146 (x := 128) rfl ?_
  refine i_229_147 (v := Value.ref 154) hw11 rfl ?_
  refine i_229_150 (x := a14) rfl ?_
  refine i_229_152 (v := Value.int 0) hw12 e52 e53 rfl ?_
  refine i_229_153 ?_
  refine i_229_154 (fun _ => ?_) (fun h => absurd h (by decide))
  refine i_229_170 (x := a14) (c := a15) (lv2 := [(9, Value.int a15), (7, Value.int 0), (6, Value.int 0), (8, Value.int 1), (5, Value.int 2147483647), (0, Value.ref 128), (1, Value.int a0), (2, Value.int a1), (3, Value.int a2), (4, Value.int a3)]) rfl hg54 rfl ?_
  refine i_229_173 ?_
  refine i_229_56 (x := a15) rfl ?_
  refine i_229_58 (x := a1) rfl ?_
  refine i_229_59 (x := a2) rfl ?_
  refine i_229_60 (c := a4) hg6 ?_
  refine i_229_61 (fun h => absurd e55 (Int.not_lt.mpr h)) (fun _ => ?_)
  refine i_229_64 (x := 1) rfl ?_
  refine i_229_66 (x := 128) rfl ?_
  refine i_229_67 (v := Value.ref 154) hw11 rfl ?_
  refine i_229_70 (x := a15) rfl ?_
  refine i_229_72 (v := Value.int 0) hw12 e56 e57 rfl ?_
  refine i_229_73 (fun h => absurd h (by decide)) (fun _ => ?_)
  refine i_229_76 ?_
  refine i_229_77 ?_
  refine i_229_81 (c := 1) (by decide) ?_
  refine i_229_82 (lv2 := [(8, Value.int 1), (9, Value.int a15), (7, Value.int 0), (6, Value.int 0), (5, Value.int 2147483647), (0, Value.ref 128), (1, Value.int a0), (2, Value.int a1), (3, Value.int a2), (4, Value.int a3)]) rfl ?_
  refine i_229_84 (x := 0) rfl ?_
  refine i_229_86 (x := 128) rfl ?_
  refine i_229_87 (v := Value.ref 154) hw11 rfl ?_
  refine i_229_90 (x := a15) rfl ?_
  refine i_229_92 (v := Value.int 0) hw12 e56 e57 rfl ?_
  refine i_229_93 ?_
  refine i_229_94 (fun _ => ?_) (fun h => absurd h (by decide))
  refine i_229_111 ?_
  refine i_229_112 (c := 0) (by decide) ?_
  refine i_229_113 (lv2 := [(6, Value.int 0), (8, Value.int 1), (9, Value.int a15), (7, Value.int 0), (5, Value.int 2147483647), (0, Value.ref 128), (1, Value.int a0), (2, Value.int a1), (3, Value.int a2), (4, Value.int a3)]) rfl ?_
  refine i_229_115 (x := 0) rfl ?_
  refine i_229_117 (x := 128) rfl ?_
  refine i_229_118 (v := Value.ref 154) hw11 rfl ?_
  refine i_229_121 (x := a15) rfl ?_
  refine i_229_123 (v := Value.int 0) hw12 e56 e57 rfl ?_
  refine i_229_124 ?_
  refine i_229_125 (fun _ => ?_) (fun h => absurd h (by decide))
  refine i_229_142 ?_
  refine i_229_143 (c := 0) (by decide) ?_
  refine i_229_144 (lv2 := [(7, Value.int 0), (6, Value.int 0), (8, Value.int 1), (9, Value.int a15), (5, Value.int 2147483647), (0, Value.ref 128), (1, Value.int a0), (2, Value.int a1), (3, Value.int a2), (4, Value.int a3)]) rfl ?_
  refine i_229_146 (x := 128) rfl ?_
  refine i_229_147 (v := Value.ref 154) hw11 rfl ?_
  refine i_229_150 (x := a15) rfl ?_
  refine i_229_152 (v := Value.int 0) hw12 e56 e57 rfl ?_
  refine i_229_153 ?_
  refine i_229_154 (fun _ => ?_) (fun h => absurd h (by decide))
  refine i_229_170 (x := a15) (c := a16) (lv2 := [(9, Value.int a16), (7, Value.int 0), (6, Value.int 0), (8, Value.int 1), (5, Value.int 2147483647), (0, Value.ref 128), (1, Value.int a0), (2, Value.int a1), (3, Value.int a2), (4, Value.int a3)]) rfl hg58 rfl ?_
  refine i_229_173 ?_
  refine i_229_56 (x := a16) rfl ?_
  refine i_229_58 (x := a1) rfl ?_
  refine i_229_59 (x := a2) rfl ?_
  refine i_229_60 (c := a4) hg6 ?_
  refine i_229_61 (fun _ => ?_) (fun h => absurd e59 (Int.not_le.mpr h))
  refine i_229_176 (x := 1) rfl ?_
  refine i_229_178 (fun h => absurd h (by decide)) (fun _ => ?_)
  refine i_229_181 (x := 128) rfl ?_
  refine i_229_182 (x := a0) rfl ?_
  refine i_229_183 ?_
  refine i_229_184 ?_
  refine i_229_185 hw11 (Nat.le_of_ble_eq_true rfl) (p_171_0 hw11 hw12 e0 e60 hw61) ?_
  exact i_229_188 ⟨rfl, rfl⟩
theorem p_228_11 {d : Nat} {w : xW} {a0 : Int32} {a1 : Int32} {a2 : Int32} {a3 : Int32} {a4 : Int32} {a5 : Int32} {a6 : Int32} {a7 : Int32} {a8 : Int32} {a9 : Int32} {a10 : Int32} {a11 : Int32} {a12 : Int32} {a13 : Int32} {a14 : Int32} {a15 : Int32} {a16 : Int32} (hw0 : w[128]? = some (Sum.inr (12, [Value.ref 129, Value.ref 131, Value.ref 133, Value.ref 135, Value.ref 137, Value.ref 139, Value.ref 141, Value.ref 143, Value.ref 145, Value.ref 147, Value.ref 149, Value.ref 151, Value.ref 153, Value.ref 154, Value.ref 155, Value.ref 156, Value.ref 157, Value.int (-16384), Value.int 16384, Value.int 0, Value.int 0, Value.int 0, Value.ref 158, Value.ref 159, Value.int 0, Value.int 0, Value.int 0, Value.int 0, Value.int 0, Value.int 0, Value.int 0, Value.int 0]))) (e1 : 0 ≤ a0.toInt) (e2 : a0.toInt ≤ 15) (e3 : 0 ≤ a1.toInt) (e4 : a1.toInt ≤ 15) (e5 : 1 ≤ a2.toInt) (e6 : a2.toInt ≤ 16) (hg7 : (a1 + a2) = a4) (e8 : a4.toInt ≤ 16) (e9 : 0 ≤ a3.toInt) (e10 : a3.toInt ≤ 4) (e11 : a1.toInt < a4.toInt) (hw12 : w[154]? = some (Sum.inl (0, 17, fun _ => Value.int 0))) (e13 : a1.toInt < 17) (hg14 : (a1 + (1 : Int32)) = a5) (e15 : a5.toInt < a4.toInt) (e16 : 0 ≤ a5.toInt) (e17 : a5.toInt < 17) (hg18 : (a5 + (1 : Int32)) = a6) (e19 : a6.toInt < a4.toInt) (e20 : 0 ≤ a6.toInt) (e21 : a6.toInt < 17) (hg22 : (a6 + (1 : Int32)) = a7) (e23 : a7.toInt < a4.toInt) (e24 : 0 ≤ a7.toInt) (e25 : a7.toInt < 17) (hg26 : (a7 + (1 : Int32)) = a8) (e27 : a8.toInt < a4.toInt) (e28 : 0 ≤ a8.toInt) (e29 : a8.toInt < 17) (hg30 : (a8 + (1 : Int32)) = a9) (e31 : a9.toInt < a4.toInt) (e32 : 0 ≤ a9.toInt) (e33 : a9.toInt < 17) (hg34 : (a9 + (1 : Int32)) = a10) (e35 : a10.toInt < a4.toInt) (e36 : 0 ≤ a10.toInt) (e37 : a10.toInt < 17) (hg38 : (a10 + (1 : Int32)) = a11) (e39 : a11.toInt < a4.toInt) (e40 : 0 ≤ a11.toInt) (e41 : a11.toInt < 17) (hg42 : (a11 + (1 : Int32)) = a12) (e43 : a12.toInt < a4.toInt) (e44 : 0 ≤ a12.toInt) (e45 : a12.toInt < 17) (hg46 : (a12 + (1 : Int32)) = a13) (e47 : a13.toInt < a4.toInt) (e48 : 0 ≤ a13.toInt) (e49 : a13.toInt < 17) (hg50 : (a13 + (1 : Int32)) = a14) (e51 : a14.toInt < a4.toInt) (e52 : 0 ≤ a14.toInt) (e53 : a14.toInt < 17) (hg54 : (a14 + (1 : Int32)) = a15) (e55 : a15.toInt < a4.toInt) (e56 : 0 ≤ a15.toInt) (e57 : a15.toInt < 17) (hg58 : (a15 + (1 : Int32)) = a16) (e59 : a4.toInt ≤ a16.toInt) (e60 : a0.toInt < 17) (hw61 : w[156]? = some (Sum.inl (2, 17, fun _ => Value.int 0))) : xRun (d + 3) 228 [Value.ref 128, Value.int a0, Value.int a1, Value.int a2, Value.int a3] w (.inl (some (Value.int 0))) (((w.set 128 (Sum.inr (12, [Value.ref 129, Value.ref 131, Value.ref 133, Value.ref 135, Value.ref 137, Value.ref 139, Value.ref 141, Value.ref 143, Value.ref 145, Value.ref 147, Value.ref 149, Value.ref 151, Value.ref 153, Value.ref 154, Value.ref 155, Value.ref 156, Value.ref 157, Value.int (-16384), Value.int 16384, Value.int 0, Value.int 0, Value.int 0, Value.ref 158, Value.ref 159, Value.int 0, Value.int 0, Value.int 0, Value.int 0, Value.int 0, Value.int 0, Value.int 0, Value.int 0]))).set 154 (Sum.inl (0, 17, xup (fun _ => Value.int 0) a0.toInt.toNat (Value.int 0)))).set 156 (Sum.inl (2, 17, xup (fun _ => Value.int 0) a0.toInt.toNat (Value.int 0)))) := by
  refine xRun.of ?_
  refine i_228_0 (x := 128) rfl ?_
  refine i_228_1 ?_
  refine i_228_2 (fs2 := [Value.ref 129, Value.ref 131, Value.ref 133, Value.ref 135, Value.ref 137, Value.ref 139, Value.ref 141, Value.ref 143, Value.ref 145, Value.ref 147, Value.ref 149, Value.ref 151, Value.ref 153, Value.ref 154, Value.ref 155, Value.ref 156, Value.ref 157, Value.int (-16384), Value.int 16384, Value.int 0, Value.int 0, Value.int 0, Value.ref 158, Value.ref 159, Value.int 0, Value.int 0, Value.int 0, Value.int 0, Value.int 0, Value.int 0, Value.int 0, Value.int 0]) hw0 (Nat.le_of_ble_eq_true rfl) rfl (by decide) ?_
  refine i_228_5 (x := 128) rfl ?_
  refine i_228_6 (x := a0) rfl ?_
  refine i_228_7 (x := a1) rfl ?_
  refine i_228_8 (x := a2) rfl ?_
  refine i_228_9 (x := a3) rfl ?_
  refine i_228_11 (xgs hw0) (Nat.le_of_ble_eq_true rfl) (p_229_11 e1 e2 e3 e4 e5 e6 hg7 e8 e9 e10 e11 (xgs hw0) (xgn (by decide) hw12) e13 hg14 e15 e16 e17 hg18 e19 e20 e21 hg22 e23 e24 e25 hg26 e27 e28 e29 hg30 e31 e32 e33 hg34 e35 e36 e37 hg38 e39 e40 e41 hg42 e43 e44 e45 hg46 e47 e48 e49 hg50 e51 e52 e53 hg54 e55 e56 e57 hg58 e59 e60 (xgn (by decide) hw61)) ?_
  exact i_228_14 ⟨rfl, rfl⟩
theorem g_10_11 {z0 z1 z2 z3 z4 z5 z6 z7 z8 z9 z10 z11 z12 z13 z14 z15 z16 z17 : Int} (h0 : z0 = 10) (c0 : 0 ≤ z1) (c1 : z1 < 16) (c2 : 0 ≤ z2) (c3 : z2 < 16) (c4 : 1 ≤ z3) (c5 : z3 ≤ 16) (nN6 : z4 = z2 + z3) (c7 : z4 ≤ 16) (c8 : 0 ≤ z5) (c9 : z5 ≤ 4) (nN10 : z6 = z2 + 1) (c11 : z6 < z4) (nN12 : z7 = z6 + 1) (c13 : z7 < z4) (nN14 : z8 = z7 + 1) (c15 : z8 < z4) (nN16 : z9 = z8 + 1) (c17 : z9 < z4) (nN18 : z10 = z9 + 1) (c19 : z10 < z4) (nN20 : z11 = z10 + 1) (c21 : z11 < z4) (nN22 : z12 = z11 + 1) (c23 : z12 < z4) (nN24 : z13 = z12 + 1) (c25 : z13 < z4) (nN26 : z14 = z13 + 1) (c27 : z14 < z4) (nN28 : z15 = z14 + 1) (c29 : z15 < z4) (nN30 : z16 = z15 + 1) (c31 : z16 < z4) (nN32 : z17 = z16 + 1) (c33 : z4 ≤ z17) : (((((((0 ≤ z1) ∧ ((z1 < 16) ∧ (0 ≤ z2))) ∧ (((z2 < 16) ∧ (1 ≤ z3)) ∧ ((z3 ≤ 16) ∧ (z4 ≤ 16)))) ∧ (((0 ≤ z5) ∧ ((z5 ≤ 4) ∧ (z2 < z4))) ∧ (((z2.toNat < 16) ∧ (19 ≠ (30 + 3 * z2.toNat))) ∧ ((22 ≠ (30 + 3 * z2.toNat)) ∧ (20 ≠ (30 + 3 * z2.toNat)))))) ∧ ((((z6 < z4) ∧ ((0 ≤ z6) ∧ (z6 < 16))) ∧ (((z6.toNat < 16) ∧ (19 ≠ (30 + 3 * z6.toNat))) ∧ ((22 ≠ (30 + 3 * z6.toNat)) ∧ (20 ≠ (30 + 3 * z6.toNat))))) ∧ ((((z7 < z4) ∧ (0 ≤ z7)) ∧ ((z7 < 16) ∧ (z7.toNat < 16))) ∧ (((19 ≠ (30 + 3 * z7.toNat)) ∧ (22 ≠ (30 + 3 * z7.toNat))) ∧ ((20 ≠ (30 + 3 * z7.toNat)) ∧ (z8 < z4)))))) ∧ (((((0 ≤ z8) ∧ ((z8 < 16) ∧ (z8.toNat < 16))) ∧ (((19 ≠ (30 + 3 * z8.toNat)) ∧ (22 ≠ (30 + 3 * z8.toNat))) ∧ ((20 ≠ (30 + 3 * z8.toNat)) ∧ (z9 < z4)))) ∧ (((0 ≤ z9) ∧ ((z9 < 16) ∧ (z9.toNat < 16))) ∧ (((19 ≠ (30 + 3 * z9.toNat)) ∧ (22 ≠ (30 + 3 * z9.toNat))) ∧ ((20 ≠ (30 + 3 * z9.toNat)) ∧ (z10 < z4))))) ∧ ((((0 ≤ z10) ∧ ((z10 < 16) ∧ (z10.toNat < 16))) ∧ (((19 ≠ (30 + 3 * z10.toNat)) ∧ (22 ≠ (30 + 3 * z10.toNat))) ∧ ((20 ≠ (30 + 3 * z10.toNat)) ∧ (z11 < z4)))) ∧ ((((0 ≤ z11) ∧ (z11 < 16)) ∧ ((z11.toNat < 16) ∧ (19 ≠ (30 + 3 * z11.toNat)))) ∧ (((22 ≠ (30 + 3 * z11.toNat)) ∧ (20 ≠ (30 + 3 * z11.toNat))) ∧ ((z12 < z4) ∧ (0 ≤ z12))))))) ∧ ((((((z12 < 16) ∧ ((z12.toNat < 16) ∧ (19 ≠ (30 + 3 * z12.toNat)))) ∧ (((22 ≠ (30 + 3 * z12.toNat)) ∧ (20 ≠ (30 + 3 * z12.toNat))) ∧ ((z13 < z4) ∧ (0 ≤ z13)))) ∧ (((z13 < 16) ∧ ((z13.toNat < 16) ∧ (19 ≠ (30 + 3 * z13.toNat)))) ∧ (((22 ≠ (30 + 3 * z13.toNat)) ∧ (20 ≠ (30 + 3 * z13.toNat))) ∧ ((z14 < z4) ∧ (0 ≤ z14))))) ∧ ((((z14 < 16) ∧ ((z14.toNat < 16) ∧ (19 ≠ (30 + 3 * z14.toNat)))) ∧ (((22 ≠ (30 + 3 * z14.toNat)) ∧ (20 ≠ (30 + 3 * z14.toNat))) ∧ ((z15 < z4) ∧ (0 ≤ z15)))) ∧ ((((z15 < 16) ∧ (z15.toNat < 16)) ∧ ((19 ≠ (30 + 3 * z15.toNat)) ∧ (22 ≠ (30 + 3 * z15.toNat)))) ∧ (((20 ≠ (30 + 3 * z15.toNat)) ∧ (z16 < z4)) ∧ ((0 ≤ z16) ∧ (z16 < 16)))))) ∧ (((((z16.toNat < 16) ∧ ((19 ≠ (30 + 3 * z16.toNat)) ∧ (22 ≠ (30 + 3 * z16.toNat)))) ∧ (((20 ≠ (30 + 3 * z16.toNat)) ∧ (z4 ≤ z17)) ∧ ((z1.toNat < 16) ∧ (19 ≠ (30 + 3 * z1.toNat))))) ∧ ((((22 ≠ (30 + 3 * z1.toNat)) ∧ (20 ≠ (30 + 3 * z1.toNat))) ∧ ((7 ≤ (30 + 3 * z1.toNat)) ∧ ((30 + 3 * z1.toNat) ≠ 194))) ∧ ((((30 + 3 * z1.toNat) ≠ 0) ∧ ((30 + 3 * z1.toNat) ≠ 128)) ∧ ((z1 ≤ 15) ∧ (z2 ≤ 15))))) ∧ (((((30 + 3 * z1.toNat) ≠ 154) ∧ ((z2 < 17) ∧ (z6 < 17))) ∧ (((z7 < 17) ∧ (z8 < 17)) ∧ ((z9 < 17) ∧ (z10 < 17)))) ∧ ((((z11 < 17) ∧ (z12 < 17)) ∧ ((z13 < 17) ∧ (z14 < 17))) ∧ (((z15 < 17) ∧ (z16 < 17)) ∧ ((z1 < 17) ∧ ((30 + 3 * z1.toNat) ≠ 156)))))))) := by
  subst nN32; subst nN30; subst nN28; subst nN26; subst nN24; subst nN22; subst nN20; subst nN18; subst nN16; subst nN14; subst nN12; subst nN10; subst nN6; exact ⟨⟨⟨⟨⟨⟨by omega, ⟨by omega, by omega⟩⟩, ⟨⟨by omega, by omega⟩, ⟨by omega, by omega⟩⟩⟩, ⟨⟨by omega, ⟨by omega, by omega⟩⟩, ⟨⟨by omega, by omega⟩, ⟨by omega, by omega⟩⟩⟩⟩, ⟨⟨⟨by omega, ⟨by omega, by omega⟩⟩, ⟨⟨by omega, by omega⟩, ⟨by omega, by omega⟩⟩⟩, ⟨⟨⟨by omega, by omega⟩, ⟨by omega, by omega⟩⟩, ⟨⟨by omega, by omega⟩, ⟨by omega, by omega⟩⟩⟩⟩⟩, ⟨⟨⟨⟨by omega, ⟨by omega, by omega⟩⟩, ⟨⟨by omega, by omega⟩, ⟨by omega, by omega⟩⟩⟩, ⟨⟨by omega, ⟨by omega, by omega⟩⟩, ⟨⟨by omega, by omega⟩, ⟨by omega, by omega⟩⟩⟩⟩, ⟨⟨⟨by omega, ⟨by omega, by omega⟩⟩, ⟨⟨by omega, by omega⟩, ⟨by omega, by omega⟩⟩⟩, ⟨⟨⟨by omega, by omega⟩, ⟨by omega, by omega⟩⟩, ⟨⟨by omega, by omega⟩, ⟨by omega, by omega⟩⟩⟩⟩⟩⟩, ⟨⟨⟨⟨⟨by omega, ⟨by omega, by omega⟩⟩, ⟨⟨by omega, by omega⟩, ⟨by omega, by omega⟩⟩⟩, ⟨⟨by omega, ⟨by omega, by omega⟩⟩, ⟨⟨by omega, by omega⟩, ⟨by omega, by omega⟩⟩⟩⟩, ⟨⟨⟨by omega, ⟨by omega, by omega⟩⟩, ⟨⟨by omega, by omega⟩, ⟨by omega, by omega⟩⟩⟩, ⟨⟨⟨by omega, by omega⟩, ⟨by omega, by omega⟩⟩, ⟨⟨by omega, by omega⟩, ⟨by omega, by omega⟩⟩⟩⟩⟩, ⟨⟨⟨⟨by omega, ⟨by omega, by omega⟩⟩, ⟨⟨by omega, by omega⟩, ⟨by omega, by omega⟩⟩⟩, ⟨⟨⟨by omega, by omega⟩, ⟨by omega, by omega⟩⟩, ⟨⟨by omega, by omega⟩, ⟨by omega, by omega⟩⟩⟩⟩, ⟨⟨⟨by omega, ⟨by omega, by omega⟩⟩, ⟨⟨by omega, by omega⟩, ⟨by omega, by omega⟩⟩⟩, ⟨⟨⟨by omega, by omega⟩, ⟨by omega, by omega⟩⟩, ⟨⟨by omega, by omega⟩, ⟨by omega, by omega⟩⟩⟩⟩⟩⟩⟩
theorem o_10_11 {d : Nat} {xs : Nat → Int32} {N6 N10 N12 N14 N16 N18 N20 N22 N24 N26 N28 N30 N32 : Int32} (h0 : ((xs 0) &&& (31 : Int32)).toInt = 10) (c0 : 0 ≤ (xs 1).toInt) (c1 : (xs 1).toInt < 16) (c2 : 0 ≤ (xs 2).toInt) (c3 : (xs 2).toInt < 16) (c4 : 1 ≤ (xs 3).toInt) (c5 : (xs 3).toInt ≤ 16) (eN6 : ((xs 2) + (xs 3)) = N6) (nN6 : N6.toInt = (xs 2).toInt + (xs 3).toInt) (c7 : N6.toInt ≤ 16) (c8 : 0 ≤ (xs 4).toInt) (c9 : (xs 4).toInt ≤ 4) (eN10 : ((xs 2) + (1 : Int32)) = N10) (nN10 : N10.toInt = (xs 2).toInt + 1) (c11 : N10.toInt < N6.toInt) (eN12 : (N10 + (1 : Int32)) = N12) (nN12 : N12.toInt = N10.toInt + 1) (c13 : N12.toInt < N6.toInt) (eN14 : (N12 + (1 : Int32)) = N14) (nN14 : N14.toInt = N12.toInt + 1) (c15 : N14.toInt < N6.toInt) (eN16 : (N14 + (1 : Int32)) = N16) (nN16 : N16.toInt = N14.toInt + 1) (c17 : N16.toInt < N6.toInt) (eN18 : (N16 + (1 : Int32)) = N18) (nN18 : N18.toInt = N16.toInt + 1) (c19 : N18.toInt < N6.toInt) (eN20 : (N18 + (1 : Int32)) = N20) (nN20 : N20.toInt = N18.toInt + 1) (c21 : N20.toInt < N6.toInt) (eN22 : (N20 + (1 : Int32)) = N22) (nN22 : N22.toInt = N20.toInt + 1) (c23 : N22.toInt < N6.toInt) (eN24 : (N22 + (1 : Int32)) = N24) (nN24 : N24.toInt = N22.toInt + 1) (c25 : N24.toInt < N6.toInt) (eN26 : (N24 + (1 : Int32)) = N26) (nN26 : N26.toInt = N24.toInt + 1) (c27 : N26.toInt < N6.toInt) (eN28 : (N26 + (1 : Int32)) = N28) (nN28 : N28.toInt = N26.toInt + 1) (c29 : N28.toInt < N6.toInt) (eN30 : (N28 + (1 : Int32)) = N30) (nN30 : N30.toInt = N28.toInt + 1) (c31 : N30.toInt < N6.toInt) (eN32 : (N30 + (1 : Int32)) = N32) (nN32 : N32.toInt = N30.toInt + 1) (c33 : N6.toInt ≤ N32.toInt) : ∃ w1, xEv (d + 20) 287 23 [(4, Value.int 0), (3, Value.ref 194), (2, Value.ref 128), (1, Value.ref 7), (0, Value.ref 0)] [] (W0 6 xs) (fun o' w' => o' = .inl (some (Value.int 1)) ∧ w' = w1) ∧ w1.length ≤ 220 ∧ xsz w1 ≤ 200000 := by
  have G : id (((((((0 ≤ (xs 1).toInt) ∧ (((xs 1).toInt < 16) ∧ (0 ≤ (xs 2).toInt))) ∧ ((((xs 2).toInt < 16) ∧ (1 ≤ (xs 3).toInt)) ∧ (((xs 3).toInt ≤ 16) ∧ (N6.toInt ≤ 16)))) ∧ (((0 ≤ (xs 4).toInt) ∧ (((xs 4).toInt ≤ 4) ∧ ((xs 2).toInt < N6.toInt))) ∧ ((((xs 2).toInt.toNat < 16) ∧ (19 ≠ (30 + 3 * (xs 2).toInt.toNat))) ∧ ((22 ≠ (30 + 3 * (xs 2).toInt.toNat)) ∧ (20 ≠ (30 + 3 * (xs 2).toInt.toNat)))))) ∧ ((((N10.toInt < N6.toInt) ∧ ((0 ≤ N10.toInt) ∧ (N10.toInt < 16))) ∧ (((N10.toInt.toNat < 16) ∧ (19 ≠ (30 + 3 * N10.toInt.toNat))) ∧ ((22 ≠ (30 + 3 * N10.toInt.toNat)) ∧ (20 ≠ (30 + 3 * N10.toInt.toNat))))) ∧ ((((N12.toInt < N6.toInt) ∧ (0 ≤ N12.toInt)) ∧ ((N12.toInt < 16) ∧ (N12.toInt.toNat < 16))) ∧ (((19 ≠ (30 + 3 * N12.toInt.toNat)) ∧ (22 ≠ (30 + 3 * N12.toInt.toNat))) ∧ ((20 ≠ (30 + 3 * N12.toInt.toNat)) ∧ (N14.toInt < N6.toInt)))))) ∧ (((((0 ≤ N14.toInt) ∧ ((N14.toInt < 16) ∧ (N14.toInt.toNat < 16))) ∧ (((19 ≠ (30 + 3 * N14.toInt.toNat)) ∧ (22 ≠ (30 + 3 * N14.toInt.toNat))) ∧ ((20 ≠ (30 + 3 * N14.toInt.toNat)) ∧ (N16.toInt < N6.toInt)))) ∧ (((0 ≤ N16.toInt) ∧ ((N16.toInt < 16) ∧ (N16.toInt.toNat < 16))) ∧ (((19 ≠ (30 + 3 * N16.toInt.toNat)) ∧ (22 ≠ (30 + 3 * N16.toInt.toNat))) ∧ ((20 ≠ (30 + 3 * N16.toInt.toNat)) ∧ (N18.toInt < N6.toInt))))) ∧ ((((0 ≤ N18.toInt) ∧ ((N18.toInt < 16) ∧ (N18.toInt.toNat < 16))) ∧ (((19 ≠ (30 + 3 * N18.toInt.toNat)) ∧ (22 ≠ (30 + 3 * N18.toInt.toNat))) ∧ ((20 ≠ (30 + 3 * N18.toInt.toNat)) ∧ (N20.toInt < N6.toInt)))) ∧ ((((0 ≤ N20.toInt) ∧ (N20.toInt < 16)) ∧ ((N20.toInt.toNat < 16) ∧ (19 ≠ (30 + 3 * N20.toInt.toNat)))) ∧ (((22 ≠ (30 + 3 * N20.toInt.toNat)) ∧ (20 ≠ (30 + 3 * N20.toInt.toNat))) ∧ ((N22.toInt < N6.toInt) ∧ (0 ≤ N22.toInt))))))) ∧ ((((((N22.toInt < 16) ∧ ((N22.toInt.toNat < 16) ∧ (19 ≠ (30 + 3 * N22.toInt.toNat)))) ∧ (((22 ≠ (30 + 3 * N22.toInt.toNat)) ∧ (20 ≠ (30 + 3 * N22.toInt.toNat))) ∧ ((N24.toInt < N6.toInt) ∧ (0 ≤ N24.toInt)))) ∧ (((N24.toInt < 16) ∧ ((N24.toInt.toNat < 16) ∧ (19 ≠ (30 + 3 * N24.toInt.toNat)))) ∧ (((22 ≠ (30 + 3 * N24.toInt.toNat)) ∧ (20 ≠ (30 + 3 * N24.toInt.toNat))) ∧ ((N26.toInt < N6.toInt) ∧ (0 ≤ N26.toInt))))) ∧ ((((N26.toInt < 16) ∧ ((N26.toInt.toNat < 16) ∧ (19 ≠ (30 + 3 * N26.toInt.toNat)))) ∧ (((22 ≠ (30 + 3 * N26.toInt.toNat)) ∧ (20 ≠ (30 + 3 * N26.toInt.toNat))) ∧ ((N28.toInt < N6.toInt) ∧ (0 ≤ N28.toInt)))) ∧ ((((N28.toInt < 16) ∧ (N28.toInt.toNat < 16)) ∧ ((19 ≠ (30 + 3 * N28.toInt.toNat)) ∧ (22 ≠ (30 + 3 * N28.toInt.toNat)))) ∧ (((20 ≠ (30 + 3 * N28.toInt.toNat)) ∧ (N30.toInt < N6.toInt)) ∧ ((0 ≤ N30.toInt) ∧ (N30.toInt < 16)))))) ∧ (((((N30.toInt.toNat < 16) ∧ ((19 ≠ (30 + 3 * N30.toInt.toNat)) ∧ (22 ≠ (30 + 3 * N30.toInt.toNat)))) ∧ (((20 ≠ (30 + 3 * N30.toInt.toNat)) ∧ (N6.toInt ≤ N32.toInt)) ∧ (((xs 1).toInt.toNat < 16) ∧ (19 ≠ (30 + 3 * (xs 1).toInt.toNat))))) ∧ ((((22 ≠ (30 + 3 * (xs 1).toInt.toNat)) ∧ (20 ≠ (30 + 3 * (xs 1).toInt.toNat))) ∧ ((7 ≤ (30 + 3 * (xs 1).toInt.toNat)) ∧ ((30 + 3 * (xs 1).toInt.toNat) ≠ 194))) ∧ ((((30 + 3 * (xs 1).toInt.toNat) ≠ 0) ∧ ((30 + 3 * (xs 1).toInt.toNat) ≠ 128)) ∧ (((xs 1).toInt ≤ 15) ∧ ((xs 2).toInt ≤ 15))))) ∧ (((((30 + 3 * (xs 1).toInt.toNat) ≠ 154) ∧ (((xs 2).toInt < 17) ∧ (N10.toInt < 17))) ∧ (((N12.toInt < 17) ∧ (N14.toInt < 17)) ∧ ((N16.toInt < 17) ∧ (N18.toInt < 17)))) ∧ ((((N20.toInt < 17) ∧ (N22.toInt < 17)) ∧ ((N24.toInt < 17) ∧ (N26.toInt < 17))) ∧ (((N28.toInt < 17) ∧ (N30.toInt < 17)) ∧ (((xs 1).toInt < 17) ∧ ((30 + 3 * (xs 1).toInt.toNat) ≠ 156)))))))) := g_10_11 h0 c0 c1 c2 c3 c4 c5 nN6 c7 c8 c9 nN10 c11 nN12 c13 nN14 c15 nN16 c17 nN18 c19 nN20 c21 nN22 c23 nN24 c25 nN26 c27 nN28 c29 nN30 c31 nN32 c33
  refine ⟨(((((((((((((((((((((W0 6 xs).set 20 (Sum.inr (3, [Value.ref 21, Value.int 0]))).set 22 (Sum.inr (3, [Value.ref 23, Value.int 0]))).set 19 (Sum.inr (5, [Value.ref 20, Value.ref 22, Value.ref 24, Value.ref 26, Value.int 0, Value.int 0, Value.int 0, Value.int 0, Value.int 0, Value.int 0, Value.int 0, Value.int 0]))).set 19 (Sum.inr (5, [Value.ref 20, Value.ref 22, Value.ref 24, Value.ref 26, Value.int 0, Value.int 1, Value.int 0, Value.int 0, Value.int 0, Value.int 0, Value.int 0, Value.int 0]))).set 19 (Sum.inr (5, [Value.ref 20, Value.ref 22, Value.ref 24, Value.ref 26, Value.int 0, Value.int 1, Value.int 0, Value.int 0, Value.int 0, Value.int 0, Value.int 0, Value.int 0]))).set 19 (Sum.inr (5, [Value.ref 20, Value.ref 22, Value.ref 24, Value.ref 26, Value.int 0, Value.int 1, Value.int 0, Value.int 0, Value.int 0, Value.int 0, Value.int 0, Value.int 0]))).set 19 (Sum.inr (5, [Value.ref 20, Value.ref 22, Value.ref 24, Value.ref 26, Value.int 0, Value.int 1, Value.int 0, Value.int 0, Value.int 0, Value.int 0, Value.int 0, Value.int 0]))).set 19 (Sum.inr (5, [Value.ref 20, Value.ref 22, Value.ref 24, Value.ref 26, Value.int 0, Value.int 1, Value.int 0, Value.int 0, Value.int 0, Value.int 0, Value.int 0, Value.int 0]))).set 19 (Sum.inr (5, [Value.ref 20, Value.ref 22, Value.ref 24, Value.ref 26, Value.int 0, Value.int 1, Value.int 0, Value.int 0, Value.int 0, Value.int 0, Value.int 0, Value.int 0]))).set 19 (Sum.inr (5, [Value.ref 20, Value.ref 22, Value.ref 24, Value.ref 26, Value.int 0, Value.int 1, Value.int 0, Value.int 0, Value.int 0, Value.int 0, Value.int 0, Value.int 0]))).set 19 (Sum.inr (5, [Value.ref 20, Value.ref 22, Value.ref 24, Value.ref 26, Value.int 0, Value.int 1, Value.int 0, Value.int 0, Value.int 0, Value.int 0, Value.int 0, Value.int 0]))).set 19 (Sum.inr (5, [Value.ref 20, Value.ref 22, Value.ref 24, Value.ref 26, Value.int 0, Value.int 1, Value.int 0, Value.int 0, Value.int 0, Value.int 0, Value.int 0, Value.int 0]))).set 19 (Sum.inr (5, [Value.ref 20, Value.ref 22, Value.ref 24, Value.ref 26, Value.int 0, Value.int 1, Value.int 0, Value.int 0, Value.int 0, Value.int 0, Value.int 0, Value.int 0]))).set 19 (Sum.inr (5, [Value.ref 20, Value.ref 22, Value.ref 24, Value.ref 26, Value.int 0, Value.int 1, Value.int 0, Value.int 0, Value.int 0, Value.int 0, Value.int 0, Value.int 0]))).set 19 (Sum.inr (5, [Value.ref 20, Value.ref 22, Value.ref 24, Value.ref 26, Value.int 0, Value.int 1, Value.int 0, Value.int 0, Value.int 0, Value.int 0, Value.int 0, Value.int 0]))).set (30 + 3 * (xs 1).toInt.toNat) (Sum.inr (2, [Value.int 64, Value.int 0, Value.int 0, Value.int 0, Value.ref (31 + 3 * (xs 1).toInt.toNat)]))).set 194 (Sum.inl (3, 1, xup (fun _ => Value.long 0) (0 : Int32).toInt.toNat (Value.long 0)))).set 128 (Sum.inr (12, [Value.ref 129, Value.ref 131, Value.ref 133, Value.ref 135, Value.ref 137, Value.ref 139, Value.ref 141, Value.ref 143, Value.ref 145, Value.ref 147, Value.ref 149, Value.ref 151, Value.ref 153, Value.ref 154, Value.ref 155, Value.ref 156, Value.ref 157, Value.int (-16384), Value.int 16384, Value.int 0, Value.int 0, Value.int 0, Value.ref 158, Value.ref 159, Value.int 0, Value.int 0, Value.int 0, Value.int 0, Value.int 0, Value.int 0, Value.int 0, Value.int 0]))).set 154 (Sum.inl (0, 17, xup (fun _ => Value.int 0) (xs 1).toInt.toNat (Value.int 0)))).set 156 (Sum.inl (2, 17, xup (fun _ => Value.int 0) (xs 1).toInt.toNat (Value.int 0)))), ?_, (show xLs _ 220 200000 from ?_)⟩
  · refine i_287_23 (x := 0) rfl ?_
    refine i_287_25 (x := 0) rfl ?_
    refine i_287_26 (c := 6) W0_0 (by decide) ?_
    refine i_287_27 ?_
    refine i_287_29 (c := 0) (by decide) ?_
    refine i_287_30 (fun h => absurd h (by decide)) (fun _ => ?_)
    refine i_287_33 (x := 0) rfl ?_
    refine i_287_34 (x := 0) rfl ?_
    refine i_287_36 (v := Value.int (xs 0)) W0_0 (by decide) (by decide) rfl ?_
    refine i_287_37 ?_
    refine i_287_39 (c := 10) (show ((xs 0) &&& (31 : Int32)) = 10 from (xge_c (n := 10) h0 rfl)) ?_
    refine i_287_40_10 rfl ?_
    refine i_287_1057 (x := 7) rfl ?_
    refine i_287_1058 (x := 0) rfl ?_
    refine i_287_1059 (x := 0) rfl ?_
    refine i_287_1061 ?_
    refine i_287_1062 (c := 1) (by decide) ?_
    refine i_287_1063 (v := Value.int (xs 1)) W0_0 (by decide) (by decide) rfl ?_
    refine i_287_1064 (x := 0) rfl ?_
    refine i_287_1065 (x := 0) rfl ?_
    refine i_287_1067 ?_
    refine i_287_1068 (c := 2) (by decide) ?_
    refine i_287_1069 (v := Value.int (xs 2)) W0_0 (by decide) (by decide) rfl ?_
    refine i_287_1070 (x := 0) rfl ?_
    refine i_287_1071 (x := 0) rfl ?_
    refine i_287_1073 ?_
    refine i_287_1074 (c := 3) (by decide) ?_
    refine i_287_1075 (v := Value.int (xs 3)) W0_0 (by decide) (by decide) rfl ?_
    refine i_287_1076 (x := 0) rfl ?_
    refine i_287_1077 (x := 0) rfl ?_
    refine i_287_1079 ?_
    refine i_287_1080 (c := 4) (by decide) ?_
    refine i_287_1081 (v := Value.int (xs 4)) W0_0 (by decide) (by decide) rfl ?_
    refine i_287_1082 (x := 194) rfl ?_
    refine i_287_1083 (Nat.le_of_ble_eq_true rfl) (p_111_11 W0_7 (G.1.1.1.1.1.1) (G.1.1.1.1.1.2.1) (G.1.1.1.1.1.2.2) (G.1.1.1.1.2.1.1) (G.1.1.1.1.2.1.2) (G.1.1.1.1.2.2.1) (show ((xs 2) + (xs 3)) = N6 from eN6) (G.1.1.1.1.2.2.2) (G.1.1.1.2.1.1) (G.1.1.1.2.1.2.1) W0_19 W0_20 W0_22 (G.1.1.1.2.1.2.2) W0_8 (greg_at G.1.1.1.2.2.1.1) (G.1.1.1.2.2.1.2) (G.1.1.1.2.2.2.1) (G.1.1.1.2.2.2.2) (W0_reg G.1.1.1.2.2.1.1) (show ((xs 2) + (1 : Int32)) = N10 from eN10) (G.1.1.2.1.1.1) (G.1.1.2.1.1.2.1) (G.1.1.2.1.1.2.2) (greg_at G.1.1.2.1.2.1.1) (G.1.1.2.1.2.1.2) (G.1.1.2.1.2.2.1) (G.1.1.2.1.2.2.2) (W0_reg G.1.1.2.1.2.1.1) (show (N10 + (1 : Int32)) = N12 from eN12) (G.1.1.2.2.1.1.1) (G.1.1.2.2.1.1.2) (G.1.1.2.2.1.2.1) (greg_at G.1.1.2.2.1.2.2) (G.1.1.2.2.2.1.1) (G.1.1.2.2.2.1.2) (G.1.1.2.2.2.2.1) (W0_reg G.1.1.2.2.1.2.2) (show (N12 + (1 : Int32)) = N14 from eN14) (G.1.1.2.2.2.2.2) (G.1.2.1.1.1.1) (G.1.2.1.1.1.2.1) (greg_at G.1.2.1.1.1.2.2) (G.1.2.1.1.2.1.1) (G.1.2.1.1.2.1.2) (G.1.2.1.1.2.2.1) (W0_reg G.1.2.1.1.1.2.2) (show (N14 + (1 : Int32)) = N16 from eN16) (G.1.2.1.1.2.2.2) (G.1.2.1.2.1.1) (G.1.2.1.2.1.2.1) (greg_at G.1.2.1.2.1.2.2) (G.1.2.1.2.2.1.1) (G.1.2.1.2.2.1.2) (G.1.2.1.2.2.2.1) (W0_reg G.1.2.1.2.1.2.2) (show (N16 + (1 : Int32)) = N18 from eN18) (G.1.2.1.2.2.2.2) (G.1.2.2.1.1.1) (G.1.2.2.1.1.2.1) (greg_at G.1.2.2.1.1.2.2) (G.1.2.2.1.2.1.1) (G.1.2.2.1.2.1.2) (G.1.2.2.1.2.2.1) (W0_reg G.1.2.2.1.1.2.2) (show (N18 + (1 : Int32)) = N20 from eN20) (G.1.2.2.1.2.2.2) (G.1.2.2.2.1.1.1) (G.1.2.2.2.1.1.2) (greg_at G.1.2.2.2.1.2.1) (G.1.2.2.2.1.2.2) (G.1.2.2.2.2.1.1) (G.1.2.2.2.2.1.2) (W0_reg G.1.2.2.2.1.2.1) (show (N20 + (1 : Int32)) = N22 from eN22) (G.1.2.2.2.2.2.1) (G.1.2.2.2.2.2.2) (G.2.1.1.1.1.1) (greg_at G.2.1.1.1.1.2.1) (G.2.1.1.1.1.2.2) (G.2.1.1.1.2.1.1) (G.2.1.1.1.2.1.2) (W0_reg G.2.1.1.1.1.2.1) (show (N22 + (1 : Int32)) = N24 from eN24) (G.2.1.1.1.2.2.1) (G.2.1.1.1.2.2.2) (G.2.1.1.2.1.1) (greg_at G.2.1.1.2.1.2.1) (G.2.1.1.2.1.2.2) (G.2.1.1.2.2.1.1) (G.2.1.1.2.2.1.2) (W0_reg G.2.1.1.2.1.2.1) (show (N24 + (1 : Int32)) = N26 from eN26) (G.2.1.1.2.2.2.1) (G.2.1.1.2.2.2.2) (G.2.1.2.1.1.1) (greg_at G.2.1.2.1.1.2.1) (G.2.1.2.1.1.2.2) (G.2.1.2.1.2.1.1) (G.2.1.2.1.2.1.2) (W0_reg G.2.1.2.1.1.2.1) (show (N26 + (1 : Int32)) = N28 from eN28) (G.2.1.2.1.2.2.1) (G.2.1.2.1.2.2.2) (G.2.1.2.2.1.1.1) (greg_at G.2.1.2.2.1.1.2) (G.2.1.2.2.1.2.1) (G.2.1.2.2.1.2.2) (G.2.1.2.2.2.1.1) (W0_reg G.2.1.2.2.1.1.2) (show (N28 + (1 : Int32)) = N30 from eN30) (G.2.1.2.2.2.1.2) (G.2.1.2.2.2.2.1) (G.2.1.2.2.2.2.2) (greg_at G.2.2.1.1.1.1) (G.2.2.1.1.1.2.1) (G.2.2.1.1.1.2.2) (G.2.2.1.1.2.1.1) (W0_reg G.2.2.1.1.1.1) (show (N30 + (1 : Int32)) = N32 from eN32) (G.2.2.1.1.2.1.2) (greg_at G.2.2.1.1.2.2.1) (G.2.2.1.1.2.2.2) (G.2.2.1.2.1.1.1) (G.2.2.1.2.1.1.2) (W0_reg G.2.2.1.1.2.2.1) (G.2.2.1.2.1.2.1) (G.2.2.1.2.1.2.2) W0_194) ?_
    refine i_287_1086 (lv2 := [(5, Value.int 0), (4, Value.int 0), (3, Value.ref 194), (2, Value.ref 128), (1, Value.ref 7), (0, Value.ref 0)]) rfl ?_
    refine i_287_1088 (x := 128) rfl ?_
    refine i_287_1089 (x := 0) rfl ?_
    refine i_287_1090 (x := 0) rfl ?_
    refine i_287_1092 ?_
    refine i_287_1093 (c := 1) (by decide) ?_
    refine i_287_1094 (v := Value.int (xs 1)) (xgn (by decide) (xgn (G.2.2.1.2.2.1.1) (xgn (by decide) (xgn (by decide) (xgn (by decide) (xgn (by decide) (xgn (by decide) (xgn (by decide) (xgn (by decide) (xgn (by decide) (xgn (by decide) (xgn (by decide) (xgn (by decide) (xgn (by decide) (xgn (by decide) (xgn (by decide) (xgn (by decide) W0_0))))))))))))))))) (by decide) (by decide) rfl ?_
    refine i_287_1095 (x := 0) rfl ?_
    refine i_287_1096 (x := 0) rfl ?_
    refine i_287_1098 ?_
    refine i_287_1099 (c := 2) (by decide) ?_
    refine i_287_1100 (v := Value.int (xs 2)) (xgn (by decide) (xgn (G.2.2.1.2.2.1.1) (xgn (by decide) (xgn (by decide) (xgn (by decide) (xgn (by decide) (xgn (by decide) (xgn (by decide) (xgn (by decide) (xgn (by decide) (xgn (by decide) (xgn (by decide) (xgn (by decide) (xgn (by decide) (xgn (by decide) (xgn (by decide) (xgn (by decide) W0_0))))))))))))))))) (by decide) (by decide) rfl ?_
    refine i_287_1101 (x := 0) rfl ?_
    refine i_287_1102 (x := 0) rfl ?_
    refine i_287_1104 ?_
    refine i_287_1105 (c := 3) (by decide) ?_
    refine i_287_1106 (v := Value.int (xs 3)) (xgn (by decide) (xgn (G.2.2.1.2.2.1.1) (xgn (by decide) (xgn (by decide) (xgn (by decide) (xgn (by decide) (xgn (by decide) (xgn (by decide) (xgn (by decide) (xgn (by decide) (xgn (by decide) (xgn (by decide) (xgn (by decide) (xgn (by decide) (xgn (by decide) (xgn (by decide) (xgn (by decide) W0_0))))))))))))))))) (by decide) (by decide) rfl ?_
    refine i_287_1107 (x := 0) rfl ?_
    refine i_287_1108 (x := 0) rfl ?_
    refine i_287_1110 ?_
    refine i_287_1111 (c := 4) (by decide) ?_
    refine i_287_1112 (v := Value.int (xs 4)) (xgn (by decide) (xgn (G.2.2.1.2.2.1.1) (xgn (by decide) (xgn (by decide) (xgn (by decide) (xgn (by decide) (xgn (by decide) (xgn (by decide) (xgn (by decide) (xgn (by decide) (xgn (by decide) (xgn (by decide) (xgn (by decide) (xgn (by decide) (xgn (by decide) (xgn (by decide) (xgn (by decide) W0_0))))))))))))))))) (by decide) (by decide) rfl ?_
    refine i_287_1113 (xgn (by decide) (xgn (G.2.2.1.2.2.1.2) (xgn (by decide) (xgn (by decide) (xgn (by decide) (xgn (by decide) (xgn (by decide) (xgn (by decide) (xgn (by decide) (xgn (by decide) (xgn (by decide) (xgn (by decide) (xgn (by decide) (xgn (by decide) (xgn (by decide) (xgn (by decide) (xgn (by decide) W0_128))))))))))))))))) (Nat.le_of_ble_eq_true rfl) (p_228_11 (xgn (by decide) (xgn (G.2.2.1.2.2.1.2) (xgn (by decide) (xgn (by decide) (xgn (by decide) (xgn (by decide) (xgn (by decide) (xgn (by decide) (xgn (by decide) (xgn (by decide) (xgn (by decide) (xgn (by decide) (xgn (by decide) (xgn (by decide) (xgn (by decide) (xgn (by decide) (xgn (by decide) W0_128))))))))))))))))) (G.1.1.1.1.1.1) (G.2.2.1.2.2.2.1) (G.1.1.1.1.1.2.2) (G.2.2.1.2.2.2.2) (G.1.1.1.1.2.1.2) (G.1.1.1.1.2.2.1) (show ((xs 2) + (xs 3)) = N6 from eN6) (G.1.1.1.1.2.2.2) (G.1.1.1.2.1.1) (G.1.1.1.2.1.2.1) (G.1.1.1.2.1.2.2) (xgn (by decide) (xgn (G.2.2.2.1.1.1) (xgn (by decide) (xgn (by decide) (xgn (by decide) (xgn (by decide) (xgn (by decide) (xgn (by decide) (xgn (by decide) (xgn (by decide) (xgn (by decide) (xgn (by decide) (xgn (by decide) (xgn (by decide) (xgn (by decide) (xgn (by decide) (xgn (by decide) W0_154))))))))))))))))) (G.2.2.2.1.1.2.1) (show ((xs 2) + (1 : Int32)) = N10 from eN10) (G.1.1.2.1.1.1) (G.1.1.2.1.1.2.1) (G.2.2.2.1.1.2.2) (show (N10 + (1 : Int32)) = N12 from eN12) (G.1.1.2.2.1.1.1) (G.1.1.2.2.1.1.2) (G.2.2.2.1.2.1.1) (show (N12 + (1 : Int32)) = N14 from eN14) (G.1.1.2.2.2.2.2) (G.1.2.1.1.1.1) (G.2.2.2.1.2.1.2) (show (N14 + (1 : Int32)) = N16 from eN16) (G.1.2.1.1.2.2.2) (G.1.2.1.2.1.1) (G.2.2.2.1.2.2.1) (show (N16 + (1 : Int32)) = N18 from eN18) (G.1.2.1.2.2.2.2) (G.1.2.2.1.1.1) (G.2.2.2.1.2.2.2) (show (N18 + (1 : Int32)) = N20 from eN20) (G.1.2.2.1.2.2.2) (G.1.2.2.2.1.1.1) (G.2.2.2.2.1.1.1) (show (N20 + (1 : Int32)) = N22 from eN22) (G.1.2.2.2.2.2.1) (G.1.2.2.2.2.2.2) (G.2.2.2.2.1.1.2) (show (N22 + (1 : Int32)) = N24 from eN24) (G.2.1.1.1.2.2.1) (G.2.1.1.1.2.2.2) (G.2.2.2.2.1.2.1) (show (N24 + (1 : Int32)) = N26 from eN26) (G.2.1.1.2.2.2.1) (G.2.1.1.2.2.2.2) (G.2.2.2.2.1.2.2) (show (N26 + (1 : Int32)) = N28 from eN28) (G.2.1.2.1.2.2.1) (G.2.1.2.1.2.2.2) (G.2.2.2.2.2.1.1) (show (N28 + (1 : Int32)) = N30 from eN30) (G.2.1.2.2.2.1.2) (G.2.1.2.2.2.2.1) (G.2.2.2.2.2.1.2) (show (N30 + (1 : Int32)) = N32 from eN32) (G.2.2.1.1.2.1.2) (G.2.2.2.2.2.2.1) (xgn (by decide) (xgn (G.2.2.2.2.2.2.2) (xgn (by decide) (xgn (by decide) (xgn (by decide) (xgn (by decide) (xgn (by decide) (xgn (by decide) (xgn (by decide) (xgn (by decide) (xgn (by decide) (xgn (by decide) (xgn (by decide) (xgn (by decide) (xgn (by decide) (xgn (by decide) (xgn (by decide) W0_156)))))))))))))))))) ?_
    refine i_287_1116 (lv2 := [(6, Value.int 0), (5, Value.int 0), (4, Value.int 0), (3, Value.ref 194), (2, Value.ref 128), (1, Value.ref 7), (0, Value.ref 0)]) rfl ?_
    refine i_287_1118 (x := 128) rfl ?_
    refine i_287_1119 (xgn (by decide) (xgn (by decide) (xgs (xgn (by decide) (xgn (G.2.2.1.2.2.1.2) (xgn (by decide) (xgn (by decide) (xgn (by decide) (xgn (by decide) (xgn (by decide) (xgn (by decide) (xgn (by decide) (xgn (by decide) (xgn (by decide) (xgn (by decide) (xgn (by decide) (xgn (by decide) (xgn (by decide) (xgn (by decide) (xgn (by decide) W0_128)))))))))))))))))))) (Nat.le_of_ble_eq_true rfl) (p_165_1 (xgn (by decide) (xgn (by decide) (xgs (xgn (by decide) (xgn (G.2.2.1.2.2.1.2) (xgn (by decide) (xgn (by decide) (xgn (by decide) (xgn (by decide) (xgn (by decide) (xgn (by decide) (xgn (by decide) (xgn (by decide) (xgn (by decide) (xgn (by decide) (xgn (by decide) (xgn (by decide) (xgn (by decide) (xgn (by decide) (xgn (by decide) W0_128))))))))))))))))))))) ?_
    refine i_287_1122 (x := 0) rfl ?_
    refine i_287_1124 (fun _ => ?_) (fun h => absurd h (by decide))
    refine i_287_1129 (x := 0) rfl ?_
    refine i_287_1131 (fun h => absurd h (by decide)) (fun _ => ?_)
    refine i_287_1134 (x := 194) rfl ?_
    refine i_287_1135 ?_
    refine i_287_1136 (v := Value.long 0) (xgn (by decide) (xgn (by decide) (xgn (by decide) (xgs (xgn (G.2.2.1.2.1.2.2) (xgn (by decide) (xgn (by decide) (xgn (by decide) (xgn (by decide) (xgn (by decide) (xgn (by decide) (xgn (by decide) (xgn (by decide) (xgn (by decide) (xgn (by decide) (xgn (by decide) (xgn (by decide) (xgn (by decide) (xgn (by decide) (xgn (by decide) W0_194)))))))))))))))))))) (by decide) (by decide) xup_s ?_
    refine i_287_1137 (x := 0) rfl ?_
    refine i_287_1139 (c := 0) (by decide) ?_
    refine i_287_1140 (c := 0) (by decide) ?_
    refine i_287_1141 (fun _ => ?_) (fun h => absurd h (by decide))
    refine i_287_1146 ?_
    refine i_287_2154 (x := 0) (c := 6) (lv2 := [(4, Value.int 6), (6, Value.int 0), (5, Value.int 0), (3, Value.ref 194), (2, Value.ref 128), (1, Value.ref 7), (0, Value.ref 0)]) rfl (by decide) rfl ?_
    refine i_287_2157 ?_
    refine i_287_23 (x := 6) rfl ?_
    refine i_287_25 (x := 0) rfl ?_
    refine i_287_26 (c := 6) (xgn (by decide) (xgn (by decide) (xgn (by decide) (xgn (by decide) (xgn (G.2.2.1.2.2.1.1) (xgn (by decide) (xgn (by decide) (xgn (by decide) (xgn (by decide) (xgn (by decide) (xgn (by decide) (xgn (by decide) (xgn (by decide) (xgn (by decide) (xgn (by decide) (xgn (by decide) (xgn (by decide) (xgn (by decide) (xgn (by decide) (xgn (by decide) W0_0)))))))))))))))))))) (by decide) ?_
    refine i_287_27 ?_
    refine i_287_29 (c := 0) (by decide) ?_
    refine i_287_30 (fun _ => ?_) (fun h => absurd h (by decide))
    refine i_287_2160 ?_
    exact i_287_2161 rfl ⟨rfl, rfl⟩
  · refine xLs.set ?_ (xgn (by decide) (xgn (by decide) (xgn (by decide) (xgn (G.2.2.2.2.2.2.2) (xgn (by decide) (xgn (by decide) (xgn (by decide) (xgn (by decide) (xgn (by decide) (xgn (by decide) (xgn (by decide) (xgn (by decide) (xgn (by decide) (xgn (by decide) (xgn (by decide) (xgn (by decide) (xgn (by decide) (xgn (by decide) (xgn (by decide) W0_156))))))))))))))))))) xcs_a
    refine xLs.set ?_ (xgn (by decide) (xgn (by decide) (xgn (G.2.2.2.1.1.1) (xgn (by decide) (xgn (by decide) (xgn (by decide) (xgn (by decide) (xgn (by decide) (xgn (by decide) (xgn (by decide) (xgn (by decide) (xgn (by decide) (xgn (by decide) (xgn (by decide) (xgn (by decide) (xgn (by decide) (xgn (by decide) (xgn (by decide) W0_154)))))))))))))))))) xcs_a
    refine xLs.set ?_ (xgn (by decide) (xgn (G.2.2.1.2.2.1.2) (xgn (by decide) (xgn (by decide) (xgn (by decide) (xgn (by decide) (xgn (by decide) (xgn (by decide) (xgn (by decide) (xgn (by decide) (xgn (by decide) (xgn (by decide) (xgn (by decide) (xgn (by decide) (xgn (by decide) (xgn (by decide) (xgn (by decide) W0_128))))))))))))))))) xcs_o
    refine xLs.set ?_ (xgn (G.2.2.1.2.1.2.2) (xgn (by decide) (xgn (by decide) (xgn (by decide) (xgn (by decide) (xgn (by decide) (xgn (by decide) (xgn (by decide) (xgn (by decide) (xgn (by decide) (xgn (by decide) (xgn (by decide) (xgn (by decide) (xgn (by decide) (xgn (by decide) (xgn (by decide) W0_194)))))))))))))))) xcs_a
    refine xLs.set ?_ (xgn (G.2.2.1.1.2.2.2) (xgn (G.2.2.1.1.2.2.2) (xgn (G.2.2.1.1.2.2.2) (xgn (G.2.2.1.1.2.2.2) (xgn (G.2.2.1.1.2.2.2) (xgn (G.2.2.1.1.2.2.2) (xgn (G.2.2.1.1.2.2.2) (xgn (G.2.2.1.1.2.2.2) (xgn (G.2.2.1.1.2.2.2) (xgn (G.2.2.1.1.2.2.2) (xgn (G.2.2.1.1.2.2.2) (xgn (G.2.2.1.1.2.2.2) (xgn (G.2.2.1.1.2.2.2) (xgn (G.2.2.1.2.1.1.1) (xgn (G.2.2.1.2.1.1.2) (W0_reg G.2.2.1.1.2.2.1)))))))))))))))) xcs_o
    refine xLs.set ?_ (xgs (xgs (xgs (xgs (xgs (xgs (xgs (xgs (xgs (xgs (xgs (xgs (xgn (by decide) (xgn (by decide) W0_19)))))))))))))) xcs_o
    refine xLs.set ?_ (xgs (xgs (xgs (xgs (xgs (xgs (xgs (xgs (xgs (xgs (xgs (xgn (by decide) (xgn (by decide) W0_19))))))))))))) xcs_o
    refine xLs.set ?_ (xgs (xgs (xgs (xgs (xgs (xgs (xgs (xgs (xgs (xgs (xgn (by decide) (xgn (by decide) W0_19)))))))))))) xcs_o
    refine xLs.set ?_ (xgs (xgs (xgs (xgs (xgs (xgs (xgs (xgs (xgs (xgn (by decide) (xgn (by decide) W0_19))))))))))) xcs_o
    refine xLs.set ?_ (xgs (xgs (xgs (xgs (xgs (xgs (xgs (xgs (xgn (by decide) (xgn (by decide) W0_19)))))))))) xcs_o
    refine xLs.set ?_ (xgs (xgs (xgs (xgs (xgs (xgs (xgs (xgn (by decide) (xgn (by decide) W0_19))))))))) xcs_o
    refine xLs.set ?_ (xgs (xgs (xgs (xgs (xgs (xgs (xgn (by decide) (xgn (by decide) W0_19)))))))) xcs_o
    refine xLs.set ?_ (xgs (xgs (xgs (xgs (xgs (xgn (by decide) (xgn (by decide) W0_19))))))) xcs_o
    refine xLs.set ?_ (xgs (xgs (xgs (xgs (xgn (by decide) (xgn (by decide) W0_19)))))) xcs_o
    refine xLs.set ?_ (xgs (xgs (xgs (xgn (by decide) (xgn (by decide) W0_19))))) xcs_o
    refine xLs.set ?_ (xgs (xgs (xgn (by decide) (xgn (by decide) W0_19)))) xcs_o
    refine xLs.set ?_ (xgs (xgn (by decide) (xgn (by decide) W0_19))) xcs_o
    refine xLs.set ?_ (xgn (by decide) (xgn (by decide) W0_19)) xcs_o
    refine xLs.set ?_ (xgn (by decide) W0_22) xcs_o
    refine xLs.set ?_ (W0_20) xcs_o
    exact ⟨Nat.le_trans (Nat.le_of_eq W0_len) (by decide), Nat.le_trans (Nat.le_of_eq W0_sz) (by decide)⟩
