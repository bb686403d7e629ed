section
variable {d : Nat} {lv : xLv} {st : List Value} {w : xW} {Q : Option Value ⊕ Nat → xW → Prop}
theorem dd_282_0 : decode (xby xM_282) 0 = .ok (.aload_n 0, 1) ∧ decode (xby xM_282) 1 = .ok (.getfield 9, 3) ∧ decode (xby xM_282) 4 = .ok (.arraylength, 1) ∧ decode (xby xM_282) 5 = .ok (.aload_n 0, 1) ∧ decode (xby xM_282) 6 = .ok (.invokevirtual 335, 3) ∧ decode (xby xM_282) 9 = .ok (.ishr, 1) ∧ decode (xby xM_282) 10 = .ok (.ireturn, 1) := by decide +kernel
theorem i_282_0 {x : Nat} (h : xld lv 0 = some (.ref x)) (k : xEv d 282 1 lv (.ref x :: st) w Q) : xEv d 282 0 lv (st) w Q := R_aload_n q_282 dd_282_0.1 rfl h rfl k
theorem i_282_1 {h : Nat} {fs : List Value} {v : Value} (hw : w[h]? = some (.inr (18, fs))) (hv : fs[0]? = some v) (k : xEv d 282 4 lv (v :: st) w Q) : xEv d 282 1 lv (.ref h :: st) w Q := R_getf q_282 dd_282_0.2.1 l_18_36 rfl rfl rfl hw hv k
theorem i_282_4 {h t n : Nat} {c : Int32} {g : Nat → Value} (hw : w[h]? = some (.inl (t, n, g))) (hn : Int32.ofNat n = c) (k : xEv d 282 5 lv (.int c :: st) w Q) : xEv d 282 4 lv (.ref h :: st) w Q := R_alen q_282 dd_282_0.2.2.1 rfl hw hn k
theorem i_282_5 {x : Nat} (h : xld lv 0 = some (.ref x)) (k : xEv d 282 6 lv (.ref x :: st) w Q) : xEv d 282 5 lv (st) w Q := R_aload_n q_282 dd_282_0.2.2.2.1 rfl h rfl k
theorem j_282_6 {h : Nat} {fs : List Value} {o : Option Value ⊕ Nat} {w1 : xW} (hw : w[h]? = some (.inr (18, fs))) (h16 : xcat st ≤ 16) (hrun : xRun d 283 [.ref h] w o w1) (k : xDone xM_282 d 282 6 lv st o w1 Q) : xEv (d + 1) 282 6 lv (.ref h :: st) w Q := R_virtual (as := []) (rest := st) q_282 dd_282_0.2.2.2.2.1 l_18_1340 rfl q_283 rfl rfl rfl (Nat.le_of_ble_eq_true rfl) hw h16 hrun k
theorem i_282_6 {h : Nat} {fs : List Value} {v : Value} {w1 : xW} (hw : w[h]? = some (.inr (18, fs))) (h16 : xcat st ≤ 16) (hrun : xRun d 283 [.ref h] w (.inl (some v)) w1) (k : xEv (d + 1) 282 9 lv (v :: st) w1 Q) : xEv (d + 1) 282 6 lv (.ref h :: st) w Q := j_282_6 hw h16 hrun (xDone.v rfl k)
theorem i_282_9 {x : Int32} {z : Int32} {c : Int32} (hc : x >>> (z &&& 31) = c) (k : xEv d 282 10 lv (.int c :: st) w Q) : xEv d 282 9 lv (.int z :: .int x :: st) w Q := by subst hc; exact R_ishr q_282 dd_282_0.2.2.2.2.2.1 rfl k
theorem i_282_10 {x : Int32} (hQ : Q (.inl (some (.int x))) w) : xEv d 282 10 lv [.int x] w Q := R_iret q_282 dd_282_0.2.2.2.2.2.2 rfl hQ
theorem dd_283_0 : decode (xby xM_283) 0 = .ok (.getstatic 38, 3) ∧ decode (xby xM_283) 3 = .ok (.ifCond .eq 10, 3) ∧ decode (xby xM_283) 6 = .ok (.aload_n 0, 1) ∧ decode (xby xM_283) 7 = .ok (.getfield 15, 3) ∧ decode (xby xM_283) 10 = .ok (.goto 4, 3) ∧ decode (xby xM_283) 13 = .ok (.iconst 1, 1) ∧ decode (xby xM_283) 14 = .ok (.ireturn, 1) := by decide +kernel
theorem i_283_0 (k : xEv d 283 3 lv (.int 1 :: st) w Q) : xEv d 283 0 lv (st) w Q := R_gets q_283 dd_283_0.1 l_18_152 (Or.inr (Or.inl ⟨rfl, rfl, rfl⟩)) rfl k
theorem i_283_3 {x : Int32} (kt : x.toInt = 0 → xEv d 283 13 lv (st) w Q) (kf : ¬ x.toInt = 0 → xEv d 283 6 lv (st) w Q) : xEv d 283 3 lv (.int x :: st) w Q := R_if_eq q_283 dd_283_0.2.1 rfl rfl kt kf
theorem i_283_6 {x : Nat} (h : xld lv 0 = some (.ref x)) (k : xEv d 283 7 lv (.ref x :: st) w Q) : xEv d 283 6 lv (st) w Q := R_aload_n q_283 dd_283_0.2.2.1 rfl h rfl k
theorem i_283_7 {h : Nat} {fs : List Value} {v : Value} (hw : w[h]? = some (.inr (18, fs))) (hv : fs[1]? = some v) (k : xEv d 283 10 lv (v :: st) w Q) : xEv d 283 7 lv (.ref h :: st) w Q := R_getf q_283 dd_283_0.2.2.2.1 l_18_60 rfl rfl rfl hw hv k
theorem i_283_10 (k : xEv d 283 14 lv (st) w Q) : xEv d 283 10 lv (st) w Q := R_goto q_283 dd_283_0.2.2.2.2.1 rfl k
theorem i_283_13 (k : xEv d 283 14 lv (.int 1 :: st) w Q) : xEv d 283 13 lv (st) w Q := R_iconst q_283 dd_283_0.2.2.2.2.2.1 ci_1 rfl k
theorem i_283_14 {x : Int32} (hz : xok .byte (.int x) = true) (hQ : Q (.inl (some (.int x))) w) : xEv d 283 14 lv ([.int x]) w Q := R_bret q_283 dd_283_0.2.2.2.2.2.2 rfl hz hQ
end
