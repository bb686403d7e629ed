section
variable {d : Nat} {lv : xLv} {st : List Value} {w : xW} {Q : Option Value ⊕ Nat → xW → Prop}
theorem dd_272_0 : decode (xby xM_272) 0 = .ok (.iload_n 0, 1) ∧ decode (xby xM_272) 1 = .ok (.iload_n 1, 1) ∧ decode (xby xM_272) 2 = .ok (.if_icmp .gt 7, 3) ∧ decode (xby xM_272) 5 = .ok (.iload_n 0, 1) ∧ decode (xby xM_272) 6 = .ok (.goto 4, 3) ∧ decode (xby xM_272) 9 = .ok (.iload_n 1, 1) ∧ decode (xby xM_272) 10 = .ok (.ireturn, 1) := by decide +kernel
theorem i_272_0 {x : Int32} (h : xld lv 0 = some (.int x)) (k : xEv d 272 1 lv (.int x :: st) w Q) : xEv d 272 0 lv (st) w Q := R_iload_n q_272 dd_272_0.1 rfl h rfl k
theorem i_272_1 {x : Int32} (h : xld lv 1 = some (.int x)) (k : xEv d 272 2 lv (.int x :: st) w Q) : xEv d 272 1 lv (st) w Q := R_iload_n q_272 dd_272_0.2.1 rfl h rfl k
theorem i_272_2 {x z : Int32} (kt : z.toInt < x.toInt → xEv d 272 9 lv (st) w Q) (kf : x.toInt ≤ z.toInt → xEv d 272 5 lv (st) w Q) : xEv d 272 2 lv (.int z :: .int x :: st) w Q := R_ic_gt q_272 dd_272_0.2.2.1 rfl rfl kt kf
theorem i_272_5 {x : Int32} (h : xld lv 0 = some (.int x)) (k : xEv d 272 6 lv (.int x :: st) w Q) : xEv d 272 5 lv (st) w Q := R_iload_n q_272 dd_272_0.2.2.2.1 rfl h rfl k
theorem i_272_6 (k : xEv d 272 10 lv (st) w Q) : xEv d 272 6 lv (st) w Q := R_goto q_272 dd_272_0.2.2.2.2.1 rfl k
theorem i_272_9 {x : Int32} (h : xld lv 1 = some (.int x)) (k : xEv d 272 10 lv (.int x :: st) w Q) : xEv d 272 9 lv (st) w Q := R_iload_n q_272 dd_272_0.2.2.2.2.2.1 rfl h rfl k
theorem i_272_10 {x : Int32} (hQ : Q (.inl (some (.int x))) w) : xEv d 272 10 lv [.int x] w Q := R_iret q_272 dd_272_0.2.2.2.2.2.2 rfl hQ
theorem dd_273_0 : decode (xby xM_273) 0 = .ok (.iload_n 0, 1) ∧ decode (xby xM_273) 1 = .ok (.iload_n 1, 1) ∧ decode (xby xM_273) 2 = .ok (.if_icmp .lt 7, 3) ∧ decode (xby xM_273) 5 = .ok (.iload_n 0, 1) ∧ decode (xby xM_273) 6 = .ok (.goto 4, 3) ∧ decode (xby xM_273) 9 = .ok (.iload_n 1, 1) ∧ decode (xby xM_273) 10 = .ok (.ireturn, 1) := by decide +kernel
theorem i_273_0 {x : Int32} (h : xld lv 0 = some (.int x)) (k : xEv d 273 1 lv (.int x :: st) w Q) : xEv d 273 0 lv (st) w Q := R_iload_n q_273 dd_273_0.1 rfl h rfl k
theorem i_273_1 {x : Int32} (h : xld lv 1 = some (.int x)) (k : xEv d 273 2 lv (.int x :: st) w Q) : xEv d 273 1 lv (st) w Q := R_iload_n q_273 dd_273_0.2.1 rfl h rfl k
theorem i_273_2 {x z : Int32} (kt : x.toInt < z.toInt → xEv d 273 9 lv (st) w Q) (kf : z.toInt ≤ x.toInt → xEv d 273 5 lv (st) w Q) : xEv d 273 2 lv (.int z :: .int x :: st) w Q := R_ic_lt q_273 dd_273_0.2.2.1 rfl rfl kt kf
theorem i_273_5 {x : Int32} (h : xld lv 0 = some (.int x)) (k : xEv d 273 6 lv (.int x :: st) w Q) : xEv d 273 5 lv (st) w Q := R_iload_n q_273 dd_273_0.2.2.2.1 rfl h rfl k
theorem i_273_6 (k : xEv d 273 10 lv (st) w Q) : xEv d 273 6 lv (st) w Q := R_goto q_273 dd_273_0.2.2.2.2.1 rfl k
theorem i_273_9 {x : Int32} (h : xld lv 1 = some (.int x)) (k : xEv d 273 10 lv (.int x :: st) w Q) : xEv d 273 9 lv (st) w Q := R_iload_n q_273 dd_273_0.2.2.2.2.2.1 rfl h rfl k
theorem i_273_10 {x : Int32} (hQ : Q (.inl (some (.int x))) w) : xEv d 273 10 lv [.int x] w Q := R_iret q_273 dd_273_0.2.2.2.2.2.2 rfl hQ
end
