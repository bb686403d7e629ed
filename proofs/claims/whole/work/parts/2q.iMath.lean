section
variable {d : Nat} {lv : xLv} {st : List Value} {w : xW} {Q : Option Value ⊕ Nat → xW → Prop}
theorem dd_272_0 : decode (xby xM_272) 0 = .ok (.iload_n 0, 1) ∧ decode (xby xM_272) 1 = .ok (.iload_n 1, 1) ∧ decode (xby xM_272) 2 = .ok (.if_icmp .gt 7, 3) ∧ decode (xby xM_272) 5 = .ok (.iload_n 0, 1) ∧ decode (xby xM_272) 6 = .ok (.goto 4, 3) ∧ decode (xby xM_272) 9 = .ok (.iload_n 1, 1) ∧ decode (xby xM_272) 10 = .ok (.ireturn, 1) := by decide +kernel
theorem i_272_0 {x : Int32} (h : xld lv 0 = some (.int x)) (k : xEv d 272 1 lv (.int x :: st) w Q) : xEv d 272 0 lv (st) w Q := R_iload_n q_272 dd_272_0.1 rfl h rfl k
theorem i_272_1 {x : Int32} (h : xld lv 1 = some (.int x)) (k : xEv d 272 2 lv (.int x :: st) w Q) : xEv d 272 1 lv (st) w Q := R_iload_n q_272 dd_272_0.2.1 rfl h rfl k
theorem i_272_2 {x z : Int32} (kt : z.toInt < x.toInt → xEv d 272 9 lv (st) w Q) (kf : x.toInt ≤ z.toInt → xEv d 272 5 lv (st) w Q) : xEv d 272 2 lv (.int z :: .int x :: st) w Q := R_ic_gt q_272 dd_272_0.2.2.1 rfl rfl kt kf
theorem i_272_5 {x : Int32} (h : xld lv 0 = some (.int x)) (k : xEv d 272 6 lv (.int x :: st) w Q) : xEv d 272 5 lv (st) w Q := R_iload_n q_272 dd_272_0.2.2.2.1 rfl h rfl k
theorem i_272_6 (k : xEv d 272 10 lv (st) w Q) : xEv d 272 6 lv (st) w Q := R_goto q_272 dd_272_0.2.2.2.2.1 rfl k
theorem i_272_9 {x : Int32} (h : xld lv 1 = some (.int x)) (k : xEv d 272 10 lv (.int x :: st) w Q) : xEv d 272 9 lv (st) w Q := R_iload_n q_272 dd_272_0.2.2.2.2.2.1 rfl h rfl k
theorem i_272_10 {x : Int32} (hQ : Q (.inl (some (.int x))) w) : xEv d 272 10 lv [.int x] w Q := R_iret q_272 dd_272_0.2.2.2.2.2.2 rfl hQ
theorem dd_273_0 : decode (xby xM_273) 0 = .ok (.iload_n 0, 1) ∧ decode (xby xM_273) 1 = .ok (.iload_n 1, 1) ∧ decode (xby xM_273) 2 = .ok (.if_icmp .lt 7, 3) ∧ decode (xby xM_273) 5 = .ok (.iload_n 0, 1) ∧ decode (xby xM_273) 6 = .ok (.goto 4, 3) ∧ decode (xby xM_273) 9 = .ok (.iload_n 1, 1) ∧ decode (xby xM_273) 10 = .ok (.ireturn, 1) := by decide +kernel
theorem i_273_0 {x : Int32} (h : xld lv 0 = some (.int x)) (k : xEv d 273 1 lv (.int x :: st) w Q) : xEv d 273 0 lv (st) w Q := R_iload_n q_273 dd_273_0.1 rfl h rfl k
theorem i_273_1 {x : Int32} (h : xld lv 1 = some (.int x)) (k : xEv d 273 2 lv (.int x :: st) w Q) : xEv d 273 1 lv (st) w Q := R_iload_n q_273 dd_273_0.2.1 rfl h rfl k
theorem i_273_2 {x z : Int32} (kt : x.toInt < z.toInt → xEv d 273 9 lv (st) w Q) (kf : z.toInt ≤ x.toInt → xEv d 273 5 lv (st) w Q) : xEv d 273 2 lv (.int z :: .int x :: st) w Q := R_ic_lt q_273 dd_273_0.2.2.1 rfl rfl kt kf
theorem i_273_5 {x : Int32} (h : xld lv 0 = some (.int x)) (k : xEv d 273 6 lv (.int x :: st) w Q) : xEv d 273 5 lv (st) w Q := R_iload_n q_273 dd_273_0.2.2.2.1 rfl h rfl k
theorem i_273_6 (k : xEv d 273 10 lv (st) w Q) : xEv d 273 6 lv (st) w Q := R_goto q_273 dd_273_0.2.2.2.2.1 rfl k
theorem i_273_9 {x : Int32} (h : xld lv 1 = some (.int x)) (k : xEv d 273 10 lv (.int x :: st) w Q) : xEv d 273 9 lv (st) w Q := R_iload_n q_273 dd_273_0.2.2.2.2.2.1 rfl h rfl k
theorem i_273_10 {x : Int32} (hQ : Q (.inl (some (.int x))) w) : xEv d 273 10 lv [.int x] w Q := R_iret q_273 dd_273_0.2.2.2.2.2.2 rfl hQ
theorem dd_274_0 : decode (xby xM_274) 0 = .ok (.iload_n 0, 1) ∧ decode (xby xM_274) 1 = .ok (.ifCond .ge 8, 3) ∧ decode (xby xM_274) 4 = .ok (.iload_n 0, 1) ∧ decode (xby xM_274) 5 = .ok (.ineg, 1) ∧ decode (xby xM_274) 6 = .ok (.goto 4, 3) ∧ decode (xby xM_274) 9 = .ok (.iload_n 0, 1) ∧ decode (xby xM_274) 10 = .ok (.ireturn, 1) := by decide +kernel
theorem i_274_0 {x : Int32} (h : xld lv 0 = some (.int x)) (k : xEv d 274 1 lv (.int x :: st) w Q) : xEv d 274 0 lv (st) w Q := R_iload_n q_274 dd_274_0.1 rfl h rfl k
theorem i_274_1 {x : Int32} (kt : 0 ≤ x.toInt → xEv d 274 9 lv (st) w Q) (kf : x.toInt < 0 → xEv d 274 4 lv (st) w Q) : xEv d 274 1 lv (.int x :: st) w Q := R_if_ge q_274 dd_274_0.2.1 rfl rfl kt kf
theorem i_274_4 {x : Int32} (h : xld lv 0 = some (.int x)) (k : xEv d 274 5 lv (.int x :: st) w Q) : xEv d 274 4 lv (st) w Q := R_iload_n q_274 dd_274_0.2.2.1 rfl h rfl k
theorem i_274_5 {x : Int32} {c : Int32} (hc : -x = c) (k : xEv d 274 6 lv (.int c :: st) w Q) : xEv d 274 5 lv (.int x :: st) w Q := by subst hc; exact R_ineg q_274 dd_274_0.2.2.2.1 rfl k
theorem i_274_6 (k : xEv d 274 10 lv (st) w Q) : xEv d 274 6 lv (st) w Q := R_goto q_274 dd_274_0.2.2.2.2.1 rfl k
theorem i_274_9 {x : Int32} (h : xld lv 0 = some (.int x)) (k : xEv d 274 10 lv (.int x :: st) w Q) : xEv d 274 9 lv (st) w Q := R_iload_n q_274 dd_274_0.2.2.2.2.2.1 rfl h rfl k
theorem i_274_10 {x : Int32} (hQ : Q (.inl (some (.int x))) w) : xEv d 274 10 lv [.int x] w Q := R_iret q_274 dd_274_0.2.2.2.2.2.2 rfl hQ
theorem dd_275_0 : decode (xby xM_275) 0 = .ok (.iload_n 0, 1) ∧ decode (xby xM_275) 1 = .ok (.iload_n 1, 1) ∧ decode (xby xM_275) 2 = .ok (.idiv, 1) ∧ decode (xby xM_275) 3 = .ok (.istore_n 2, 1) ∧ decode (xby xM_275) 4 = .ok (.iload_n 0, 1) ∧ decode (xby xM_275) 5 = .ok (.iload_n 1, 1) ∧ decode (xby xM_275) 6 = .ok (.ixor, 1) ∧ decode (xby xM_275) 7 = .ok (.ifCond .ge 14, 3) ∧ decode (xby xM_275) 10 = .ok (.iload_n 2, 1) ∧ decode (xby xM_275) 11 = .ok (.iload_n 1, 1) ∧ decode (xby xM_275) 12 = .ok (.imul, 1) ∧ decode (xby xM_275) 13 = .ok (.iload_n 0, 1) := by decide +kernel
theorem dd_275_1 : decode (xby xM_275) 14 = .ok (.if_icmp .eq 7, 3) ∧ decode (xby xM_275) 17 = .ok (.iload_n 2, 1) ∧ decode (xby xM_275) 18 = .ok (.iconst 1, 1) ∧ decode (xby xM_275) 19 = .ok (.isub, 1) ∧ decode (xby xM_275) 20 = .ok (.ireturn, 1) ∧ decode (xby xM_275) 21 = .ok (.iload_n 2, 1) ∧ decode (xby xM_275) 22 = .ok (.ireturn, 1) := by decide +kernel
theorem i_275_0 {x : Int32} (h : xld lv 0 = some (.int x)) (k : xEv d 275 1 lv (.int x :: st) w Q) : xEv d 275 0 lv (st) w Q := R_iload_n q_275 dd_275_0.1 rfl h rfl k
theorem i_275_1 {x : Int32} (h : xld lv 1 = some (.int x)) (k : xEv d 275 2 lv (.int x :: st) w Q) : xEv d 275 1 lv (st) w Q := R_iload_n q_275 dd_275_0.2.1 rfl h rfl k
theorem i_275_2 {x : Int32} {z : Int32} {c : Int32} (hz : z ≠ 0) (hc : x / z = c) (k : xEv d 275 3 lv (.int c :: st) w Q) : xEv d 275 2 lv (.int z :: .int x :: st) w Q := by subst hc; exact R_idiv q_275 dd_275_0.2.2.1 hz rfl k
theorem i_275_3 {x : Int32} {lv2 : xLv} (hl : xst1 lv 2 (.int x) = lv2) (k : xEv d 275 4 lv2 (st) w Q) : xEv d 275 3 lv (.int x :: st) w Q := by subst hl; exact R_istore_n q_275 dd_275_0.2.2.2.1 rfl rfl rfl k
theorem i_275_4 {x : Int32} (h : xld lv 0 = some (.int x)) (k : xEv d 275 5 lv (.int x :: st) w Q) : xEv d 275 4 lv (st) w Q := R_iload_n q_275 dd_275_0.2.2.2.2.1 rfl h rfl k
theorem i_275_5 {x : Int32} (h : xld lv 1 = some (.int x)) (k : xEv d 275 6 lv (.int x :: st) w Q) : xEv d 275 5 lv (st) w Q := R_iload_n q_275 dd_275_0.2.2.2.2.2.1 rfl h rfl k
theorem i_275_6 {x : Int32} {z : Int32} {c : Int32} (hc : x ^^^ z = c) (k : xEv d 275 7 lv (.int c :: st) w Q) : xEv d 275 6 lv (.int z :: .int x :: st) w Q := by subst hc; exact R_ixor q_275 dd_275_0.2.2.2.2.2.2.1 rfl k
theorem i_275_7 {x : Int32} (kt : 0 ≤ x.toInt → xEv d 275 21 lv (st) w Q) (kf : x.toInt < 0 → xEv d 275 10 lv (st) w Q) : xEv d 275 7 lv (.int x :: st) w Q := R_if_ge q_275 dd_275_0.2.2.2.2.2.2.2.1 rfl rfl kt kf
theorem i_275_10 {x : Int32} (h : xld lv 2 = some (.int x)) (k : xEv d 275 11 lv (.int x :: st) w Q) : xEv d 275 10 lv (st) w Q := R_iload_n q_275 dd_275_0.2.2.2.2.2.2.2.2.1 rfl h rfl k
theorem i_275_11 {x : Int32} (h : xld lv 1 = some (.int x)) (k : xEv d 275 12 lv (.int x :: st) w Q) : xEv d 275 11 lv (st) w Q := R_iload_n q_275 dd_275_0.2.2.2.2.2.2.2.2.2.1 rfl h rfl k
theorem i_275_12 {x : Int32} {z : Int32} {c : Int32} (hc : x * z = c) (k : xEv d 275 13 lv (.int c :: st) w Q) : xEv d 275 12 lv (.int z :: .int x :: st) w Q := by subst hc; exact R_imul q_275 dd_275_0.2.2.2.2.2.2.2.2.2.2.1 rfl k
theorem i_275_13 {x : Int32} (h : xld lv 0 = some (.int x)) (k : xEv d 275 14 lv (.int x :: st) w Q) : xEv d 275 13 lv (st) w Q := R_iload_n q_275 dd_275_0.2.2.2.2.2.2.2.2.2.2.2 rfl h rfl k
theorem i_275_14 {x z : Int32} (kt : x.toInt = z.toInt → xEv d 275 21 lv (st) w Q) (kf : ¬ x.toInt = z.toInt → xEv d 275 17 lv (st) w Q) : xEv d 275 14 lv (.int z :: .int x :: st) w Q := R_ic_eq q_275 dd_275_1.1 rfl rfl kt kf
theorem i_275_17 {x : Int32} (h : xld lv 2 = some (.int x)) (k : xEv d 275 18 lv (.int x :: st) w Q) : xEv d 275 17 lv (st) w Q := R_iload_n q_275 dd_275_1.2.1 rfl h rfl k
theorem i_275_18 (k : xEv d 275 19 lv (.int 1 :: st) w Q) : xEv d 275 18 lv (st) w Q := R_iconst q_275 dd_275_1.2.2.1 ci_1 rfl k
theorem i_275_19 {x : Int32} {z : Int32} {c : Int32} (hc : x - z = c) (k : xEv d 275 20 lv (.int c :: st) w Q) : xEv d 275 19 lv (.int z :: .int x :: st) w Q := by subst hc; exact R_isub q_275 dd_275_1.2.2.2.1 rfl k
theorem i_275_20 {x : Int32} (hQ : Q (.inl (some (.int x))) w) : xEv d 275 20 lv [.int x] w Q := R_iret q_275 dd_275_1.2.2.2.2.1 rfl hQ
theorem i_275_21 {x : Int32} (h : xld lv 2 = some (.int x)) (k : xEv d 275 22 lv (.int x :: st) w Q) : xEv d 275 21 lv (st) w Q := R_iload_n q_275 dd_275_1.2.2.2.2.2.1 rfl h rfl k
theorem i_275_22 {x : Int32} (hQ : Q (.inl (some (.int x))) w) : xEv d 275 22 lv [.int x] w Q := R_iret q_275 dd_275_1.2.2.2.2.2.2 rfl hQ
theorem dd_276_0 : decode (xby xM_276) 0 = .ok (.iload_n 0, 1) ∧ decode (xby xM_276) 1 = .ok (.iload_n 1, 1) ∧ decode (xby xM_276) 2 = .ok (.irem, 1) ∧ decode (xby xM_276) 3 = .ok (.istore_n 2, 1) ∧ decode (xby xM_276) 4 = .ok (.iload_n 0, 1) ∧ decode (xby xM_276) 5 = .ok (.iload_n 1, 1) ∧ decode (xby xM_276) 6 = .ok (.ixor, 1) ∧ decode (xby xM_276) 7 = .ok (.ifCond .ge 11, 3) ∧ decode (xby xM_276) 10 = .ok (.iload_n 2, 1) ∧ decode (xby xM_276) 11 = .ok (.ifCond .eq 7, 3) ∧ decode (xby xM_276) 14 = .ok (.iload_n 2, 1) ∧ decode (xby xM_276) 15 = .ok (.iload_n 1, 1) := by decide +kernel
theorem dd_276_1 : decode (xby xM_276) 16 = .ok (.iadd, 1) ∧ decode (xby xM_276) 17 = .ok (.ireturn, 1) ∧ decode (xby xM_276) 18 = .ok (.iload_n 2, 1) ∧ decode (xby xM_276) 19 = .ok (.ireturn, 1) := by decide +kernel
theorem i_276_0 {x : Int32} (h : xld lv 0 = some (.int x)) (k : xEv d 276 1 lv (.int x :: st) w Q) : xEv d 276 0 lv (st) w Q := R_iload_n q_276 dd_276_0.1 rfl h rfl k
theorem i_276_1 {x : Int32} (h : xld lv 1 = some (.int x)) (k : xEv d 276 2 lv (.int x :: st) w Q) : xEv d 276 1 lv (st) w Q := R_iload_n q_276 dd_276_0.2.1 rfl h rfl k
theorem i_276_2 {x : Int32} {z : Int32} {c : Int32} (hz : z ≠ 0) (hc : x - x / z * z = c) (k : xEv d 276 3 lv (.int c :: st) w Q) : xEv d 276 2 lv (.int z :: .int x :: st) w Q := by subst hc; exact R_irem q_276 dd_276_0.2.2.1 hz rfl k
theorem i_276_3 {x : Int32} {lv2 : xLv} (hl : xst1 lv 2 (.int x) = lv2) (k : xEv d 276 4 lv2 (st) w Q) : xEv d 276 3 lv (.int x :: st) w Q := by subst hl; exact R_istore_n q_276 dd_276_0.2.2.2.1 rfl rfl rfl k
theorem i_276_4 {x : Int32} (h : xld lv 0 = some (.int x)) (k : xEv d 276 5 lv (.int x :: st) w Q) : xEv d 276 4 lv (st) w Q := R_iload_n q_276 dd_276_0.2.2.2.2.1 rfl h rfl k
theorem i_276_5 {x : Int32} (h : xld lv 1 = some (.int x)) (k : xEv d 276 6 lv (.int x :: st) w Q) : xEv d 276 5 lv (st) w Q := R_iload_n q_276 dd_276_0.2.2.2.2.2.1 rfl h rfl k
theorem i_276_6 {x : Int32} {z : Int32} {c : Int32} (hc : x ^^^ z = c) (k : xEv d 276 7 lv (.int c :: st) w Q) : xEv d 276 6 lv (.int z :: .int x :: st) w Q := by subst hc; exact R_ixor q_276 dd_276_0.2.2.2.2.2.2.1 rfl k
theorem i_276_7 {x : Int32} (kt : 0 ≤ x.toInt → xEv d 276 18 lv (st) w Q) (kf : x.toInt < 0 → xEv d 276 10 lv (st) w Q) : xEv d 276 7 lv (.int x :: st) w Q := R_if_ge q_276 dd_276_0.2.2.2.2.2.2.2.1 rfl rfl kt kf
theorem i_276_10 {x : Int32} (h : xld lv 2 = some (.int x)) (k : xEv d 276 11 lv (.int x :: st) w Q) : xEv d 276 10 lv (st) w Q := R_iload_n q_276 dd_276_0.2.2.2.2.2.2.2.2.1 rfl h rfl k
theorem i_276_11 {x : Int32} (kt : x.toInt = 0 → xEv d 276 18 lv (st) w Q) (kf : ¬ x.toInt = 0 → xEv d 276 14 lv (st) w Q) : xEv d 276 11 lv (.int x :: st) w Q := R_if_eq q_276 dd_276_0.2.2.2.2.2.2.2.2.2.1 rfl rfl kt kf
theorem i_276_14 {x : Int32} (h : xld lv 2 = some (.int x)) (k : xEv d 276 15 lv (.int x :: st) w Q) : xEv d 276 14 lv (st) w Q := R_iload_n q_276 dd_276_0.2.2.2.2.2.2.2.2.2.2.1 rfl h rfl k
theorem i_276_15 {x : Int32} (h : xld lv 1 = some (.int x)) (k : xEv d 276 16 lv (.int x :: st) w Q) : xEv d 276 15 lv (st) w Q := R_iload_n q_276 dd_276_0.2.2.2.2.2.2.2.2.2.2.2 rfl h rfl k
theorem i_276_16 {x : Int32} {z : Int32} {c : Int32} (hc : x + z = c) (k : xEv d 276 17 lv (.int c :: st) w Q) : xEv d 276 16 lv (.int z :: .int x :: st) w Q := by subst hc; exact R_iadd q_276 dd_276_1.1 rfl k
theorem i_276_17 {x : Int32} (hQ : Q (.inl (some (.int x))) w) : xEv d 276 17 lv [.int x] w Q := R_iret q_276 dd_276_1.2.1 rfl hQ
theorem i_276_18 {x : Int32} (h : xld lv 2 = some (.int x)) (k : xEv d 276 19 lv (.int x :: st) w Q) : xEv d 276 18 lv (st) w Q := R_iload_n q_276 dd_276_1.2.2.1 rfl h rfl k
theorem i_276_19 {x : Int32} (hQ : Q (.inl (some (.int x))) w) : xEv d 276 19 lv [.int x] w Q := R_iret q_276 dd_276_1.2.2.2 rfl hQ
end
