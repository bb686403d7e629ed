section
variable {d : Nat} {lv : xLv} {st : List Value} {w : xW} {Q : Option Value ⊕ Nat → xW → Prop}
theorem dd_286_0 : decode (xby xM_286) 0 = .ok (.iload_n 1, 1) ∧ decode (xby xM_286) 1 = .ok (.aload_n 0, 1) ∧ decode (xby xM_286) 2 = .ok (.arraylength, 1) ∧ decode (xby xM_286) 6 = .ok (.aload_n 0, 1) ∧ decode (xby xM_286) 7 = .ok (.iload_n 1, 1) ∧ decode (xby xM_286) 8 = .ok (.baload, 1) ∧ decode (xby xM_286) 9 = .ok (.sipush 255, 3) ∧ decode (xby xM_286) 12 = .ok (.iand, 1) ∧ decode (xby xM_286) 13 = .ok (.i2c, 1) ∧ decode (xby xM_286) 14 = .ok (.ireturn, 1) := by decide +kernel
theorem i_286_0 {x : Int32} (h : xld lv 1 = some (.int x)) (k : xEv d 286 1 lv (.int x :: st) w Q) : xEv d 286 0 lv (st) w Q := R_iload_n q_286 dd_286_0.1 rfl h rfl k
theorem i_286_1 {x : Nat} (h : xld lv 0 = some (.ref x)) (k : xEv d 286 2 lv (.ref x :: st) w Q) : xEv d 286 1 lv (st) w Q := R_aload_n q_286 dd_286_0.2.1 rfl h rfl k
theorem i_286_2 {h t n : Nat} {c : Int32} {g : Nat → Value} (hw : w[h]? = some (.inl (t, n, g))) (hn : Int32.ofNat n = c) (k : xEv d 286 3 lv (.int c :: st) w Q) : xEv d 286 2 lv (.ref h :: st) w Q := R_alen q_286 dd_286_0.2.2.1 rfl hw hn k
theorem i_286_6 {x : Nat} (h : xld lv 0 = some (.ref x)) (k : xEv d 286 7 lv (.ref x :: st) w Q) : xEv d 286 6 lv (st) w Q := R_aload_n q_286 dd_286_0.2.2.2.1 rfl h rfl k
theorem i_286_7 {x : Int32} (h : xld lv 1 = some (.int x)) (k : xEv d 286 8 lv (.int x :: st) w Q) : xEv d 286 7 lv (st) w Q := R_iload_n q_286 dd_286_0.2.2.2.2.1 rfl h rfl k
theorem i_286_8 {j : Int32} {h n : Nat} {g : Nat → Value} {v : Value} (hw : w[h]? = some (.inl (1, n, g))) (h0 : 0 ≤ j.toInt) (h1 : j.toInt < n) (hv : g j.toInt.toNat = v) (k : xEv d 286 9 lv (v :: st) w Q) : xEv d 286 8 lv (.int j :: .ref h :: st) w Q := R_baload q_286 dd_286_0.2.2.2.2.2.1 rfl hw h0 h1 hv k
theorem i_286_8z {j : Int32} {h n : Nat} {g : Nat → Value} {v : Value} (hw : w[h]? = some (.inl (2, n, g))) (h0 : 0 ≤ j.toInt) (h1 : j.toInt < n) (hv : g j.toInt.toNat = v) (k : xEv d 286 9 lv (v :: st) w Q) : xEv d 286 8 lv (.int j :: .ref h :: st) w Q := R_zaload q_286 dd_286_0.2.2.2.2.2.1 rfl hw h0 h1 hv k
theorem i_286_9 (k : xEv d 286 12 lv (.int 255 :: st) w Q) : xEv d 286 9 lv (st) w Q := R_sipush q_286 dd_286_0.2.2.2.2.2.2.1 cs_255 rfl k
theorem i_286_12 {x : Int32} {z : Int32} {c : Int32} (hc : x &&& z = c) (k : xEv d 286 13 lv (.int c :: st) w Q) : xEv d 286 12 lv (.int z :: .int x :: st) w Q := by subst hc; exact R_iand q_286 dd_286_0.2.2.2.2.2.2.2.1 rfl k
theorem i_286_13 {x : Int32} {c : Int32} (hc : (x.toUInt32 % 65536).toInt32 = c) (k : xEv d 286 14 lv (.int c :: st) w Q) : xEv d 286 13 lv (.int x :: st) w Q := by subst hc; exact R_i2c q_286 dd_286_0.2.2.2.2.2.2.2.2.1 rfl k
theorem i_286_14 {x : Int32} (hz : xok .char (.int x) = true) (hQ : Q (.inl (some (.int x))) w) : xEv d 286 14 lv ([.int x]) w Q := R_cret q_286 dd_286_0.2.2.2.2.2.2.2.2.2 rfl hz hQ
end
