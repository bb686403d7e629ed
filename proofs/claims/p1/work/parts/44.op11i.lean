theorem xadd_s {x y : Int32} {n : Int} (h0 : 0 ≤ x.toInt) (h1 : x.toInt < 16) (hy : y.toInt = n) (h2 : 0 ≤ n) (h3 : n ≤ 64) : (x + y).toInt = x.toInt + n := xadd_g rfl hy (by omega) (by omega)
theorem xadd_t {x y : Int32} (h0 : 0 ≤ x.toInt) (h1 : x.toInt < 16) (h2 : 1 ≤ y.toInt) (h3 : y.toInt ≤ 16) : (x + y).toInt = x.toInt + y.toInt := xadd_i (by omega) (by omega)
set_option maxHeartbeats 40000000 in
theorem op_11 {d : Nat} {xs : Nat → Int32} (h0 : ((xs 0) &&& (31 : Int32)).toInt = 11) : ∃ w1, xEv (d + 20) 287 23 [(4, Value.int 0), (3, Value.ref 194), (2, Value.ref 128), (1, Value.ref 7), (0, Value.ref 0)] [] (W0 6 xs) (fun o' w' => o' = .inl (some (Value.int 1)) ∧ w' = w1) ∧ w1.length ≤ 220 ∧ xsz w1 ≤ 200000 := by
  rcases Int.lt_or_le (xs 1).toInt (0) with c0 | c0
  · exact o_11_0 h0 c0
  · rcases Int.lt_or_le (xs 1).toInt (16) with c1 | c1
    · rcases Int.lt_or_le (xs 2).toInt (0) with c2 | c2
      · exact o_11_1 h0 c0 c1 c2
      · rcases Int.lt_or_le (xs 2).toInt (16) with c3 | c3
        · rcases Int.lt_or_le (xs 4).toInt (1) with c4 | c4
          · rcases Int.lt_or_le (xs 3).toInt (0) with c5 | c5
            · exact o_11_2 h0 c0 c1 c2 c3 c4 c5
            · rcases Int.lt_or_le (15) (xs 3).toInt with c6 | c6
              · exact o_11_3 h0 c0 c1 c2 c3 c4 c5 c6
              · exact o_11_4 h0 c0 c1 c2 c3 c4 c5 c6
          · rcases Int.lt_or_le (16) (xs 4).toInt with c5 | c5
            · rcases Int.lt_or_le (xs 3).toInt (0) with c6 | c6
              · exact o_11_5 h0 c0 c1 c2 c3 c4 c5 c6
              · rcases Int.lt_or_le (15) (xs 3).toInt with c7 | c7
                · exact o_11_6 h0 c0 c1 c2 c3 c4 c5 c6 c7
                · exact o_11_7 h0 c0 c1 c2 c3 c4 c5 c6 c7
            · obtain ⟨N6, eN6⟩ : ∃ N : Int32, ((xs 2) + (xs 4)) = N := ⟨_, rfl⟩
              have nN6 : N6.toInt = (xs 2).toInt + (xs 4).toInt := by rw [← eN6]; exact xadd_t c2 c3 c4 c5
              rcases Int.lt_or_le (16) N6.toInt with c7 | c7
              · rcases Int.lt_or_le (xs 3).toInt (0) with c8 | c8
                · exact o_11_8 h0 c0 c1 c2 c3 c4 c5 eN6 nN6 c7 c8
                · rcases Int.lt_or_le (15) (xs 3).toInt with c9 | c9
                  · exact o_11_9 h0 c0 c1 c2 c3 c4 c5 eN6 nN6 c7 c8 c9
                  · exact o_11_10 h0 c0 c1 c2 c3 c4 c5 eN6 nN6 c7 c8 c9
              · rcases Int.lt_or_le (xs 3).toInt (0) with c8 | c8
                · exact o_11_11 h0 c0 c1 c2 c3 c4 c5 eN6 nN6 c7 c8
                · rcases Int.lt_or_le (xs 3).toInt (16) with c9 | c9
                  · obtain ⟨N10, eN10⟩ : ∃ N : Int32, ((xs 3) + (xs 4)) = N := ⟨_, rfl⟩
                    have nN10 : N10.toInt = (xs 3).toInt + (xs 4).toInt := by rw [← eN10]; exact xadd_t c8 c9 c4 c5
                    rcases Int.lt_or_le (16) N10.toInt with c11 | c11
                    · exact o_11_12 h0 c0 c1 c2 c3 c4 c5 eN6 nN6 c7 c8 c9 eN10 nN10 c11
                    · rcases Int.lt_or_le (xs 5).toInt (0) with c12 | c12
                      · exact o_11_13 h0 c0 c1 c2 c3 c4 c5 eN6 nN6 c7 c8 c9 eN10 nN10 c11 c12
                      · rcases Int.lt_or_le (4) (xs 5).toInt with c13 | c13
                        · exact o_11_14 h0 c0 c1 c2 c3 c4 c5 eN6 nN6 c7 c8 c9 eN10 nN10 c11 c12 c13
                        · rcases Int.lt_or_le (1) (xs 4).toInt with c14 | c14
                          · obtain ⟨N15, eN15⟩ : ∃ N : Int32, ((xs 2) + (1 : Int32)) = N := ⟨_, rfl⟩
                            have nN15 : N15.toInt = (xs 2).toInt + 1 := by rw [← eN15]; exact xadd_s c2 c3 rfl (by decide) (by decide)
                            obtain ⟨N16, eN16⟩ : ∃ N : Int32, ((xs 3) + (1 : Int32)) = N := ⟨_, rfl⟩
                            have nN16 : N16.toInt = (xs 3).toInt + 1 := by rw [← eN16]; exact xadd_s c8 c9 rfl (by decide) (by decide)
                            rcases Int.lt_or_le (2) (xs 4).toInt with c17 | c17
                            · obtain ⟨N18, eN18⟩ : ∃ N : Int32, ((xs 2) + (2 : Int32)) = N := ⟨_, rfl⟩
                              have nN18 : N18.toInt = (xs 2).toInt + 2 := by rw [← eN18]; exact xadd_s c2 c3 rfl (by decide) (by decide)
                              obtain ⟨N19, eN19⟩ : ∃ N : Int32, ((xs 3) + (2 : Int32)) = N := ⟨_, rfl⟩
                              have nN19 : N19.toInt = (xs 3).toInt + 2 := by rw [← eN19]; exact xadd_s c8 c9 rfl (by decide) (by decide)
                              rcases Int.lt_or_le (3) (xs 4).toInt with c20 | c20
                              · obtain ⟨N21, eN21⟩ : ∃ N : Int32, ((xs 2) + (3 : Int32)) = N := ⟨_, rfl⟩
                                have nN21 : N21.toInt = (xs 2).toInt + 3 := by rw [← eN21]; exact xadd_s c2 c3 rfl (by decide) (by decide)
                                obtain ⟨N22, eN22⟩ : ∃ N : Int32, ((xs 3) + (3 : Int32)) = N := ⟨_, rfl⟩
                                have nN22 : N22.toInt = (xs 3).toInt + 3 := by rw [← eN22]; exact xadd_s c8 c9 rfl (by decide) (by decide)
                                rcases Int.lt_or_le (4) (xs 4).toInt with c23 | c23
                                · obtain ⟨N24, eN24⟩ : ∃ N : Int32, ((xs 2) + (4 : Int32)) = N := ⟨_, rfl⟩
                                  have nN24 : N24.toInt = (xs 2).toInt + 4 := by rw [← eN24]; exact xadd_s c2 c3 rfl (by decide) (by decide)
                                  obtain ⟨N25, eN25⟩ : ∃ N : Int32, ((xs 3) + (4 : Int32)) = N := ⟨_, rfl⟩
                                  have nN25 : N25.toInt = (xs 3).toInt + 4 := by rw [← eN25]; exact xadd_s c8 c9 rfl (by decide) (by decide)
                                  rcases Int.lt_or_le (5) (xs 4).toInt with c26 | c26
                                  · obtain ⟨N27, eN27⟩ : ∃ N : Int32, ((xs 2) + (5 : Int32)) = N := ⟨_, rfl⟩
                                    have nN27 : N27.toInt = (xs 2).toInt + 5 := by rw [← eN27]; exact xadd_s c2 c3 rfl (by decide) (by decide)
                                    obtain ⟨N28, eN28⟩ : ∃ N : Int32, ((xs 3) + (5 : Int32)) = N := ⟨_, rfl⟩
                                    have nN28 : N28.toInt = (xs 3).toInt + 5 := by rw [← eN28]; exact xadd_s c8 c9 rfl (by decide) (by decide)
                                    rcases Int.lt_or_le (6) (xs 4).toInt with c29 | c29
                                    · obtain ⟨N30, eN30⟩ : ∃ N : Int32, ((xs 2) + (6 : Int32)) = N := ⟨_, rfl⟩
                                      have nN30 : N30.toInt = (xs 2).toInt + 6 := by rw [← eN30]; exact xadd_s c2 c3 rfl (by decide) (by decide)
                                      obtain ⟨N31, eN31⟩ : ∃ N : Int32, ((xs 3) + (6 : Int32)) = N := ⟨_, rfl⟩
                                      have nN31 : N31.toInt = (xs 3).toInt + 6 := by rw [← eN31]; exact xadd_s c8 c9 rfl (by decide) (by decide)
                                      rcases Int.lt_or_le (7) (xs 4).toInt with c32 | c32
                                      · obtain ⟨N33, eN33⟩ : ∃ N : Int32, ((xs 2) + (7 : Int32)) = N := ⟨_, rfl⟩
                                        have nN33 : N33.toInt = (xs 2).toInt + 7 := by rw [← eN33]; exact xadd_s c2 c3 rfl (by decide) (by decide)
                                        obtain ⟨N34, eN34⟩ : ∃ N : Int32, ((xs 3) + (7 : Int32)) = N := ⟨_, rfl⟩
                                        have nN34 : N34.toInt = (xs 3).toInt + 7 := by rw [← eN34]; exact xadd_s c8 c9 rfl (by decide) (by decide)
                                        rcases Int.lt_or_le (8) (xs 4).toInt with c35 | c35
                                        · obtain ⟨N36, eN36⟩ : ∃ N : Int32, ((xs 2) + (8 : Int32)) = N := ⟨_, rfl⟩
                                          have nN36 : N36.toInt = (xs 2).toInt + 8 := by rw [← eN36]; exact xadd_s c2 c3 rfl (by decide) (by decide)
                                          obtain ⟨N37, eN37⟩ : ∃ N : Int32, ((xs 3) + (8 : Int32)) = N := ⟨_, rfl⟩
                                          have nN37 : N37.toInt = (xs 3).toInt + 8 := by rw [← eN37]; exact xadd_s c8 c9 rfl (by decide) (by decide)
                                          rcases Int.lt_or_le (9) (xs 4).toInt with c38 | c38
                                          · obtain ⟨N39, eN39⟩ : ∃ N : Int32, ((xs 2) + (9 : Int32)) = N := ⟨_, rfl⟩
                                            have nN39 : N39.toInt = (xs 2).toInt + 9 := by rw [← eN39]; exact xadd_s c2 c3 rfl (by decide) (by decide)
                                            obtain ⟨N40, eN40⟩ : ∃ N : Int32, ((xs 3) + (9 : Int32)) = N := ⟨_, rfl⟩
                                            have nN40 : N40.toInt = (xs 3).toInt + 9 := by rw [← eN40]; exact xadd_s c8 c9 rfl (by decide) (by decide)
                                            rcases Int.lt_or_le (10) (xs 4).toInt with c41 | c41
                                            · obtain ⟨N42, eN42⟩ : ∃ N : Int32, ((xs 2) + (10 : Int32)) = N := ⟨_, rfl⟩
                                              have nN42 : N42.toInt = (xs 2).toInt + 10 := by rw [← eN42]; exact xadd_s c2 c3 rfl (by decide) (by decide)
                                              obtain ⟨N43, eN43⟩ : ∃ N : Int32, ((xs 3) + (10 : Int32)) = N := ⟨_, rfl⟩
                                              have nN43 : N43.toInt = (xs 3).toInt + 10 := by rw [← eN43]; exact xadd_s c8 c9 rfl (by decide) (by decide)
                                              rcases Int.lt_or_le (11) (xs 4).toInt with c44 | c44
                                              · obtain ⟨N45, eN45⟩ : ∃ N : Int32, ((xs 2) + (11 : Int32)) = N := ⟨_, rfl⟩
                                                have nN45 : N45.toInt = (xs 2).toInt + 11 := by rw [← eN45]; exact xadd_s c2 c3 rfl (by decide) (by decide)
                                                obtain ⟨N46, eN46⟩ : ∃ N : Int32, ((xs 3) + (11 : Int32)) = N := ⟨_, rfl⟩
                                                have nN46 : N46.toInt = (xs 3).toInt + 11 := by rw [← eN46]; exact xadd_s c8 c9 rfl (by decide) (by decide)
                                                rcases Int.lt_or_le (12) (xs 4).toInt with c47 | c47
                                                · obtain ⟨N48, eN48⟩ : ∃ N : Int32, ((xs 2) + (12 : Int32)) = N := ⟨_, rfl⟩
                                                  have nN48 : N48.toInt = (xs 2).toInt + 12 := by rw [← eN48]; exact xadd_s c2 c3 rfl (by decide) (by decide)
                                                  obtain ⟨N49, eN49⟩ : ∃ N : Int32, ((xs 3) + (12 : Int32)) = N := ⟨_, rfl⟩
                                                  have nN49 : N49.toInt = (xs 3).toInt + 12 := by rw [← eN49]; exact xadd_s c8 c9 rfl (by decide) (by decide)
                                                  rcases Int.lt_or_le (13) (xs 4).toInt with c50 | c50
                                                  · obtain ⟨N51, eN51⟩ : ∃ N : Int32, ((xs 2) + (13 : Int32)) = N := ⟨_, rfl⟩
                                                    have nN51 : N51.toInt = (xs 2).toInt + 13 := by rw [← eN51]; exact xadd_s c2 c3 rfl (by decide) (by decide)
                                                    obtain ⟨N52, eN52⟩ : ∃ N : Int32, ((xs 3) + (13 : Int32)) = N := ⟨_, rfl⟩
                                                    have nN52 : N52.toInt = (xs 3).toInt + 13 := by rw [← eN52]; exact xadd_s c8 c9 rfl (by decide) (by decide)
                                                    rcases Int.lt_or_le (14) (xs 4).toInt with c53 | c53
                                                    · obtain ⟨N54, eN54⟩ : ∃ N : Int32, ((xs 2) + (14 : Int32)) = N := ⟨_, rfl⟩
                                                      have nN54 : N54.toInt = (xs 2).toInt + 14 := by rw [← eN54]; exact xadd_s c2 c3 rfl (by decide) (by decide)
                                                      obtain ⟨N55, eN55⟩ : ∃ N : Int32, ((xs 3) + (14 : Int32)) = N := ⟨_, rfl⟩
                                                      have nN55 : N55.toInt = (xs 3).toInt + 14 := by rw [← eN55]; exact xadd_s c8 c9 rfl (by decide) (by decide)
                                                      rcases Int.lt_or_le (15) (xs 4).toInt with c56 | c56
                                                      · obtain ⟨N57, eN57⟩ : ∃ N : Int32, ((xs 2) + (15 : Int32)) = N := ⟨_, rfl⟩
                                                        have nN57 : N57.toInt = (xs 2).toInt + 15 := by rw [← eN57]; exact xadd_s c2 c3 rfl (by decide) (by decide)
                                                        obtain ⟨N58, eN58⟩ : ∃ N : Int32, ((xs 3) + (15 : Int32)) = N := ⟨_, rfl⟩
                                                        have nN58 : N58.toInt = (xs 3).toInt + 15 := by rw [← eN58]; exact xadd_s c8 c9 rfl (by decide) (by decide)
                                                        exact o_11_15 h0 c0 c1 c2 c3 c4 c5 eN6 nN6 c7 c8 c9 eN10 nN10 c11 c12 c13 c14 eN15 nN15 eN16 nN16 c17 eN18 nN18 eN19 nN19 c20 eN21 nN21 eN22 nN22 c23 eN24 nN24 eN25 nN25 c26 eN27 nN27 eN28 nN28 c29 eN30 nN30 eN31 nN31 c32 eN33 nN33 eN34 nN34 c35 eN36 nN36 eN37 nN37 c38 eN39 nN39 eN40 nN40 c41 eN42 nN42 eN43 nN43 c44 eN45 nN45 eN46 nN46 c47 eN48 nN48 eN49 nN49 c50 eN51 nN51 eN52 nN52 c53 eN54 nN54 eN55 nN55 c56 eN57 nN57 eN58 nN58
                                                      · exact o_11_16 h0 c0 c1 c2 c3 c4 c5 eN6 nN6 c7 c8 c9 eN10 nN10 c11 c12 c13 c14 eN15 nN15 eN16 nN16 c17 eN18 nN18 eN19 nN19 c20 eN21 nN21 eN22 nN22 c23 eN24 nN24 eN25 nN25 c26 eN27 nN27 eN28 nN28 c29 eN30 nN30 eN31 nN31 c32 eN33 nN33 eN34 nN34 c35 eN36 nN36 eN37 nN37 c38 eN39 nN39 eN40 nN40 c41 eN42 nN42 eN43 nN43 c44 eN45 nN45 eN46 nN46 c47 eN48 nN48 eN49 nN49 c50 eN51 nN51 eN52 nN52 c53 eN54 nN54 eN55 nN55 c56
                                                    · exact o_11_17 h0 c0 c1 c2 c3 c4 c5 eN6 nN6 c7 c8 c9 eN10 nN10 c11 c12 c13 c14 eN15 nN15 eN16 nN16 c17 eN18 nN18 eN19 nN19 c20 eN21 nN21 eN22 nN22 c23 eN24 nN24 eN25 nN25 c26 eN27 nN27 eN28 nN28 c29 eN30 nN30 eN31 nN31 c32 eN33 nN33 eN34 nN34 c35 eN36 nN36 eN37 nN37 c38 eN39 nN39 eN40 nN40 c41 eN42 nN42 eN43 nN43 c44 eN45 nN45 eN46 nN46 c47 eN48 nN48 eN49 nN49 c50 eN51 nN51 eN52 nN52 c53
                                                  · exact o_11_18 h0 c0 c1 c2 c3 c4 c5 eN6 nN6 c7 c8 c9 eN10 nN10 c11 c12 c13 c14 eN15 nN15 eN16 nN16 c17 eN18 nN18 eN19 nN19 c20 eN21 nN21 eN22 nN22 c23 eN24 nN24 eN25 nN25 c26 eN27 nN27 eN28 nN28 c29 eN30 nN30 eN31 nN31 c32 eN33 nN33 eN34 nN34 c35 eN36 nN36 eN37 nN37 c38 eN39 nN39 eN40 nN40 c41 eN42 nN42 eN43 nN43 c44 eN45 nN45 eN46 nN46 c47 eN48 nN48 eN49 nN49 c50
                                                · exact o_11_19 h0 c0 c1 c2 c3 c4 c5 eN6 nN6 c7 c8 c9 eN10 nN10 c11 c12 c13 c14 eN15 nN15 eN16 nN16 c17 eN18 nN18 eN19 nN19 c20 eN21 nN21 eN22 nN22 c23 eN24 nN24 eN25 nN25 c26 eN27 nN27 eN28 nN28 c29 eN30 nN30 eN31 nN31 c32 eN33 nN33 eN34 nN34 c35 eN36 nN36 eN37 nN37 c38 eN39 nN39 eN40 nN40 c41 eN42 nN42 eN43 nN43 c44 eN45 nN45 eN46 nN46 c47
                                              · exact o_11_20 h0 c0 c1 c2 c3 c4 c5 eN6 nN6 c7 c8 c9 eN10 nN10 c11 c12 c13 c14 eN15 nN15 eN16 nN16 c17 eN18 nN18 eN19 nN19 c20 eN21 nN21 eN22 nN22 c23 eN24 nN24 eN25 nN25 c26 eN27 nN27 eN28 nN28 c29 eN30 nN30 eN31 nN31 c32 eN33 nN33 eN34 nN34 c35 eN36 nN36 eN37 nN37 c38 eN39 nN39 eN40 nN40 c41 eN42 nN42 eN43 nN43 c44
                                            · exact o_11_21 h0 c0 c1 c2 c3 c4 c5 eN6 nN6 c7 c8 c9 eN10 nN10 c11 c12 c13 c14 eN15 nN15 eN16 nN16 c17 eN18 nN18 eN19 nN19 c20 eN21 nN21 eN22 nN22 c23 eN24 nN24 eN25 nN25 c26 eN27 nN27 eN28 nN28 c29 eN30 nN30 eN31 nN31 c32 eN33 nN33 eN34 nN34 c35 eN36 nN36 eN37 nN37 c38 eN39 nN39 eN40 nN40 c41
                                          · exact o_11_22 h0 c0 c1 c2 c3 c4 c5 eN6 nN6 c7 c8 c9 eN10 nN10 c11 c12 c13 c14 eN15 nN15 eN16 nN16 c17 eN18 nN18 eN19 nN19 c20 eN21 nN21 eN22 nN22 c23 eN24 nN24 eN25 nN25 c26 eN27 nN27 eN28 nN28 c29 eN30 nN30 eN31 nN31 c32 eN33 nN33 eN34 nN34 c35 eN36 nN36 eN37 nN37 c38
                                        · exact o_11_23 h0 c0 c1 c2 c3 c4 c5 eN6 nN6 c7 c8 c9 eN10 nN10 c11 c12 c13 c14 eN15 nN15 eN16 nN16 c17 eN18 nN18 eN19 nN19 c20 eN21 nN21 eN22 nN22 c23 eN24 nN24 eN25 nN25 c26 eN27 nN27 eN28 nN28 c29 eN30 nN30 eN31 nN31 c32 eN33 nN33 eN34 nN34 c35
                                      · exact o_11_24 h0 c0 c1 c2 c3 c4 c5 eN6 nN6 c7 c8 c9 eN10 nN10 c11 c12 c13 c14 eN15 nN15 eN16 nN16 c17 eN18 nN18 eN19 nN19 c20 eN21 nN21 eN22 nN22 c23 eN24 nN24 eN25 nN25 c26 eN27 nN27 eN28 nN28 c29 eN30 nN30 eN31 nN31 c32
                                    · exact o_11_25 h0 c0 c1 c2 c3 c4 c5 eN6 nN6 c7 c8 c9 eN10 nN10 c11 c12 c13 c14 eN15 nN15 eN16 nN16 c17 eN18 nN18 eN19 nN19 c20 eN21 nN21 eN22 nN22 c23 eN24 nN24 eN25 nN25 c26 eN27 nN27 eN28 nN28 c29
                                  · exact o_11_26 h0 c0 c1 c2 c3 c4 c5 eN6 nN6 c7 c8 c9 eN10 nN10 c11 c12 c13 c14 eN15 nN15 eN16 nN16 c17 eN18 nN18 eN19 nN19 c20 eN21 nN21 eN22 nN22 c23 eN24 nN24 eN25 nN25 c26
                                · exact o_11_27 h0 c0 c1 c2 c3 c4 c5 eN6 nN6 c7 c8 c9 eN10 nN10 c11 c12 c13 c14 eN15 nN15 eN16 nN16 c17 eN18 nN18 eN19 nN19 c20 eN21 nN21 eN22 nN22 c23
                              · exact o_11_28 h0 c0 c1 c2 c3 c4 c5 eN6 nN6 c7 c8 c9 eN10 nN10 c11 c12 c13 c14 eN15 nN15 eN16 nN16 c17 eN18 nN18 eN19 nN19 c20
                            · exact o_11_29 h0 c0 c1 c2 c3 c4 c5 eN6 nN6 c7 c8 c9 eN10 nN10 c11 c12 c13 c14 eN15 nN15 eN16 nN16 c17
                          · exact o_11_30 h0 c0 c1 c2 c3 c4 c5 eN6 nN6 c7 c8 c9 eN10 nN10 c11 c12 c13 c14
                  · exact o_11_31 h0 c0 c1 c2 c3 c4 c5 eN6 nN6 c7 c8 c9
        · exact o_11_32 h0 c0 c1 c2 c3
    · exact o_11_33 h0 c0 c1
