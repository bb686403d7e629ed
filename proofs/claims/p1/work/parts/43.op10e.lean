theorem op_10 {d : Nat} {xs : Nat → Int32} (h0 : ((xs 0) &&& (31 : Int32)).toInt = 10) : ∃ w1, xEv (d + 20) 287 23 [(4, Value.int 0), (3, Value.ref 194), (2, Value.ref 128), (1, Value.ref 7), (0, Value.ref 0)] [] (W0 6 xs) (fun o' w' => o' = .inl (some (Value.int 1)) ∧ w' = w1) ∧ w1.length ≤ 220 ∧ xsz w1 ≤ 200000 := by
  rcases Int.lt_or_le (xs 1).toInt (0) with c0 | c0
  · exact o_10_0 h0 c0
  · rcases Int.lt_or_le (xs 1).toInt (16) with c1 | c1
    · rcases Int.lt_or_le (xs 2).toInt (0) with c2 | c2
      · exact o_10_1 h0 c0 c1 c2
      · rcases Int.lt_or_le (xs 2).toInt (16) with c3 | c3
        · rcases Int.lt_or_le (xs 3).toInt (1) with c4 | c4
          · exact o_10_2 h0 c0 c1 c2 c3 c4
          · rcases Int.lt_or_le (16) (xs 3).toInt with c5 | c5
            · exact o_10_3 h0 c0 c1 c2 c3 c4 c5
            · obtain ⟨N6, eN6⟩ : ∃ N : Int32, ((xs 2) + (xs 3)) = N := ⟨_, rfl⟩
              have nN6 : N6.toInt = (xs 2).toInt + (xs 3).toInt := by rw [← eN6]; exact xadd_g rfl rfl (by omega) (by omega)
              rcases Int.lt_or_le (16) N6.toInt with c7 | c7
              · exact o_10_4 h0 c0 c1 c2 c3 c4 c5 eN6 nN6 c7
              · rcases Int.lt_or_le (xs 4).toInt (0) with c8 | c8
                · exact o_10_5 h0 c0 c1 c2 c3 c4 c5 eN6 nN6 c7 c8
                · rcases Int.lt_or_le (4) (xs 4).toInt with c9 | c9
                  · exact o_10_6 h0 c0 c1 c2 c3 c4 c5 eN6 nN6 c7 c8 c9
                  · obtain ⟨N10, eN10⟩ : ∃ N : Int32, ((xs 2) + (1 : Int32)) = N := ⟨_, rfl⟩
                    have nN10 : N10.toInt = (xs 2).toInt + 1 := by rw [← eN10]; exact xadd_g rfl rfl (by omega) (by omega)
                    rcases Int.lt_or_le N10.toInt N6.toInt with c11 | c11
                    · obtain ⟨N12, eN12⟩ : ∃ N : Int32, (N10 + (1 : Int32)) = N := ⟨_, rfl⟩
                      have nN12 : N12.toInt = N10.toInt + 1 := by rw [← eN12]; exact xadd_g rfl rfl (by omega) (by omega)
                      rcases Int.lt_or_le N12.toInt N6.toInt with c13 | c13
                      · obtain ⟨N14, eN14⟩ : ∃ N : Int32, (N12 + (1 : Int32)) = N := ⟨_, rfl⟩
                        have nN14 : N14.toInt = N12.toInt + 1 := by rw [← eN14]; exact xadd_g rfl rfl (by omega) (by omega)
                        rcases Int.lt_or_le N14.toInt N6.toInt with c15 | c15
                        · obtain ⟨N16, eN16⟩ : ∃ N : Int32, (N14 + (1 : Int32)) = N := ⟨_, rfl⟩
                          have nN16 : N16.toInt = N14.toInt + 1 := by rw [← eN16]; exact xadd_g rfl rfl (by omega) (by omega)
                          rcases Int.lt_or_le N16.toInt N6.toInt with c17 | c17
                          · obtain ⟨N18, eN18⟩ : ∃ N : Int32, (N16 + (1 : Int32)) = N := ⟨_, rfl⟩
                            have nN18 : N18.toInt = N16.toInt + 1 := by rw [← eN18]; exact xadd_g rfl rfl (by omega) (by omega)
                            rcases Int.lt_or_le N18.toInt N6.toInt with c19 | c19
                            · obtain ⟨N20, eN20⟩ : ∃ N : Int32, (N18 + (1 : Int32)) = N := ⟨_, rfl⟩
                              have nN20 : N20.toInt = N18.toInt + 1 := by rw [← eN20]; exact xadd_g rfl rfl (by omega) (by omega)
                              rcases Int.lt_or_le N20.toInt N6.toInt with c21 | c21
                              · obtain ⟨N22, eN22⟩ : ∃ N : Int32, (N20 + (1 : Int32)) = N := ⟨_, rfl⟩
                                have nN22 : N22.toInt = N20.toInt + 1 := by rw [← eN22]; exact xadd_g rfl rfl (by omega) (by omega)
                                rcases Int.lt_or_le N22.toInt N6.toInt with c23 | c23
                                · obtain ⟨N24, eN24⟩ : ∃ N : Int32, (N22 + (1 : Int32)) = N := ⟨_, rfl⟩
                                  have nN24 : N24.toInt = N22.toInt + 1 := by rw [← eN24]; exact xadd_g rfl rfl (by omega) (by omega)
                                  rcases Int.lt_or_le N24.toInt N6.toInt with c25 | c25
                                  · obtain ⟨N26, eN26⟩ : ∃ N : Int32, (N24 + (1 : Int32)) = N := ⟨_, rfl⟩
                                    have nN26 : N26.toInt = N24.toInt + 1 := by rw [← eN26]; exact xadd_g rfl rfl (by omega) (by omega)
                                    rcases Int.lt_or_le N26.toInt N6.toInt with c27 | c27
                                    · obtain ⟨N28, eN28⟩ : ∃ N : Int32, (N26 + (1 : Int32)) = N := ⟨_, rfl⟩
                                      have nN28 : N28.toInt = N26.toInt + 1 := by rw [← eN28]; exact xadd_g rfl rfl (by omega) (by omega)
                                      rcases Int.lt_or_le N28.toInt N6.toInt with c29 | c29
                                      · obtain ⟨N30, eN30⟩ : ∃ N : Int32, (N28 + (1 : Int32)) = N := ⟨_, rfl⟩
                                        have nN30 : N30.toInt = N28.toInt + 1 := by rw [← eN30]; exact xadd_g rfl rfl (by omega) (by omega)
                                        rcases Int.lt_or_le N30.toInt N6.toInt with c31 | c31
                                        · obtain ⟨N32, eN32⟩ : ∃ N : Int32, (N30 + (1 : Int32)) = N := ⟨_, rfl⟩
                                          have nN32 : N32.toInt = N30.toInt + 1 := by rw [← eN32]; exact xadd_g rfl rfl (by omega) (by omega)
                                          rcases Int.lt_or_le N32.toInt N6.toInt with c33 | c33
                                          · obtain ⟨N34, eN34⟩ : ∃ N : Int32, (N32 + (1 : Int32)) = N := ⟨_, rfl⟩
                                            have nN34 : N34.toInt = N32.toInt + 1 := by rw [← eN34]; exact xadd_g rfl rfl (by omega) (by omega)
                                            rcases Int.lt_or_le N34.toInt N6.toInt with c35 | c35
                                            · obtain ⟨N36, eN36⟩ : ∃ N : Int32, (N34 + (1 : Int32)) = N := ⟨_, rfl⟩
                                              have nN36 : N36.toInt = N34.toInt + 1 := by rw [← eN36]; exact xadd_g rfl rfl (by omega) (by omega)
                                              rcases Int.lt_or_le N36.toInt N6.toInt with c37 | c37
                                              · obtain ⟨N38, eN38⟩ : ∃ N : Int32, (N36 + (1 : Int32)) = N := ⟨_, rfl⟩
                                                have nN38 : N38.toInt = N36.toInt + 1 := by rw [← eN38]; exact xadd_g rfl rfl (by omega) (by omega)
                                                rcases Int.lt_or_le N38.toInt N6.toInt with c39 | c39
                                                · obtain ⟨N40, eN40⟩ : ∃ N : Int32, (N38 + (1 : Int32)) = N := ⟨_, rfl⟩
                                                  have nN40 : N40.toInt = N38.toInt + 1 := by rw [← eN40]; exact xadd_g rfl rfl (by omega) (by omega)
                                                  exact o_10_7 h0 c0 c1 c2 c3 c4 c5 eN6 nN6 c7 c8 c9 eN10 nN10 c11 eN12 nN12 c13 eN14 nN14 c15 eN16 nN16 c17 eN18 nN18 c19 eN20 nN20 c21 eN22 nN22 c23 eN24 nN24 c25 eN26 nN26 c27 eN28 nN28 c29 eN30 nN30 c31 eN32 nN32 c33 eN34 nN34 c35 eN36 nN36 c37 eN38 nN38 c39 eN40 nN40
                                                · exact o_10_8 h0 c0 c1 c2 c3 c4 c5 eN6 nN6 c7 c8 c9 eN10 nN10 c11 eN12 nN12 c13 eN14 nN14 c15 eN16 nN16 c17 eN18 nN18 c19 eN20 nN20 c21 eN22 nN22 c23 eN24 nN24 c25 eN26 nN26 c27 eN28 nN28 c29 eN30 nN30 c31 eN32 nN32 c33 eN34 nN34 c35 eN36 nN36 c37 eN38 nN38 c39
                                              · exact o_10_9 h0 c0 c1 c2 c3 c4 c5 eN6 nN6 c7 c8 c9 eN10 nN10 c11 eN12 nN12 c13 eN14 nN14 c15 eN16 nN16 c17 eN18 nN18 c19 eN20 nN20 c21 eN22 nN22 c23 eN24 nN24 c25 eN26 nN26 c27 eN28 nN28 c29 eN30 nN30 c31 eN32 nN32 c33 eN34 nN34 c35 eN36 nN36 c37
                                            · exact o_10_10 h0 c0 c1 c2 c3 c4 c5 eN6 nN6 c7 c8 c9 eN10 nN10 c11 eN12 nN12 c13 eN14 nN14 c15 eN16 nN16 c17 eN18 nN18 c19 eN20 nN20 c21 eN22 nN22 c23 eN24 nN24 c25 eN26 nN26 c27 eN28 nN28 c29 eN30 nN30 c31 eN32 nN32 c33 eN34 nN34 c35
                                          · exact o_10_11 h0 c0 c1 c2 c3 c4 c5 eN6 nN6 c7 c8 c9 eN10 nN10 c11 eN12 nN12 c13 eN14 nN14 c15 eN16 nN16 c17 eN18 nN18 c19 eN20 nN20 c21 eN22 nN22 c23 eN24 nN24 c25 eN26 nN26 c27 eN28 nN28 c29 eN30 nN30 c31 eN32 nN32 c33
                                        · exact o_10_12 h0 c0 c1 c2 c3 c4 c5 eN6 nN6 c7 c8 c9 eN10 nN10 c11 eN12 nN12 c13 eN14 nN14 c15 eN16 nN16 c17 eN18 nN18 c19 eN20 nN20 c21 eN22 nN22 c23 eN24 nN24 c25 eN26 nN26 c27 eN28 nN28 c29 eN30 nN30 c31
                                      · exact o_10_13 h0 c0 c1 c2 c3 c4 c5 eN6 nN6 c7 c8 c9 eN10 nN10 c11 eN12 nN12 c13 eN14 nN14 c15 eN16 nN16 c17 eN18 nN18 c19 eN20 nN20 c21 eN22 nN22 c23 eN24 nN24 c25 eN26 nN26 c27 eN28 nN28 c29
                                    · exact o_10_14 h0 c0 c1 c2 c3 c4 c5 eN6 nN6 c7 c8 c9 eN10 nN10 c11 eN12 nN12 c13 eN14 nN14 c15 eN16 nN16 c17 eN18 nN18 c19 eN20 nN20 c21 eN22 nN22 c23 eN24 nN24 c25 eN26 nN26 c27
                                  · exact o_10_15 h0 c0 c1 c2 c3 c4 c5 eN6 nN6 c7 c8 c9 eN10 nN10 c11 eN12 nN12 c13 eN14 nN14 c15 eN16 nN16 c17 eN18 nN18 c19 eN20 nN20 c21 eN22 nN22 c23 eN24 nN24 c25
                                · exact o_10_16 h0 c0 c1 c2 c3 c4 c5 eN6 nN6 c7 c8 c9 eN10 nN10 c11 eN12 nN12 c13 eN14 nN14 c15 eN16 nN16 c17 eN18 nN18 c19 eN20 nN20 c21 eN22 nN22 c23
                              · exact o_10_17 h0 c0 c1 c2 c3 c4 c5 eN6 nN6 c7 c8 c9 eN10 nN10 c11 eN12 nN12 c13 eN14 nN14 c15 eN16 nN16 c17 eN18 nN18 c19 eN20 nN20 c21
                            · exact o_10_18 h0 c0 c1 c2 c3 c4 c5 eN6 nN6 c7 c8 c9 eN10 nN10 c11 eN12 nN12 c13 eN14 nN14 c15 eN16 nN16 c17 eN18 nN18 c19
                          · exact o_10_19 h0 c0 c1 c2 c3 c4 c5 eN6 nN6 c7 c8 c9 eN10 nN10 c11 eN12 nN12 c13 eN14 nN14 c15 eN16 nN16 c17
                        · exact o_10_20 h0 c0 c1 c2 c3 c4 c5 eN6 nN6 c7 c8 c9 eN10 nN10 c11 eN12 nN12 c13 eN14 nN14 c15
                      · exact o_10_21 h0 c0 c1 c2 c3 c4 c5 eN6 nN6 c7 c8 c9 eN10 nN10 c11 eN12 nN12 c13
                    · exact o_10_22 h0 c0 c1 c2 c3 c4 c5 eN6 nN6 c7 c8 c9 eN10 nN10 c11
        · exact o_10_23 h0 c0 c1 c2 c3
    · exact o_10_24 h0 c0 c1
