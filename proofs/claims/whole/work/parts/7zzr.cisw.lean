/-! isWord: the characters of the two words -/
set_option maxRecDepth 4000 in
theorem q_288 : xms[288]? = some xM_288 := rfl
set_option maxRecDepth 4000 in
theorem q_289 : xms[289]? = some xM_289 := rfl
theorem l_18_4212 : xlook 18 4212 = some (14, 3, 867) := by decide +kernel
theorem l_18_4236 : xlook 18 4236 = some (1, 289, 1575) := by decide +kernel
theorem l_19_36 : xlook 19 36 = some (1, 288, 1572) := by decide +kernel
section
variable {d : Nat} {lv : xLv} {st : List Value} {w : xW} {Q : Option Value ⊕ Nat → xW → Prop}
theorem ddx_286_0 : decode (xby xM_286) 3 = .ok (.invokestatic 9, 3) := by decide +kernel
theorem j_286_3 {a0 : Int32} {a1 : Int32} {o : Option Value ⊕ Nat} {w1 : xW} (h16 : xcat st ≤ 16) (hrun : xRun d 288 [.int a0, .int a1] w o w1) (k : xDone xM_286 d 286 3 lv st o w1 Q) : xEv (d + 1) 286 3 lv (.int a1 :: .int a0 :: st) w Q := R_static (as := [.int a0, .int a1]) (rest := st) q_286 ddx_286_0 l_19_36 q_288 rfl rfl (Nat.le_of_ble_eq_true rfl) h16 hrun k
theorem i_286_3 {a0 : Int32} {a1 : Int32} {w1 : xW} (h16 : xcat st ≤ 16) (hrun : xRun d 288 [.int a0, .int a1] w (.inl none) w1) (k : xEv (d + 1) 286 6 lv (st) w1 Q) : xEv (d + 1) 286 3 lv (.int a1 :: .int a0 :: st) w Q := j_286_3 h16 hrun (xDone.n rfl k)
theorem dd_288_0 : decode (xby xM_288) 0 = .ok (.iload_n 0, 1) ∧ decode (xby xM_288) 1 = .ok (.iload_n 1, 1) ∧ decode (xby xM_288) 2 = .ok (.getstatic 1053, 3) ∧ decode (xby xM_288) 5 = .ok (.invokestatic 1059, 3) ∧ decode (xby xM_288) 8 = .ok (.pop, 1) ∧ decode (xby xM_288) 9 = .ok (.return_, 1) := by decide +kernel
theorem i_288_0 {x : Int32} (h : xld lv 0 = some (.int x)) (k : xEv d 288 1 lv (.int x :: st) w Q) : xEv d 288 0 lv (st) w Q := R_iload_n q_288 dd_288_0.1 rfl h rfl k
theorem i_288_1 {x : Int32} (h : xld lv 1 = some (.int x)) (k : xEv d 288 2 lv (.int x :: st) w Q) : xEv d 288 1 lv (st) w Q := R_iload_n q_288 dd_288_0.2.1 rfl h rfl k
theorem i_288_8 {a : Value} (ha : a.category = 1) (k : xEv d 288 9 lv (st) w Q) : xEv d 288 8 lv (a :: st) w Q := R_pop ha q_288 dd_288_0.2.2.2.2.1 rfl k
theorem i_288_9 (hQ : Q (.inl none) w) : xEv d 288 9 lv ([]) w Q := R_vret q_288 dd_288_0.2.2.2.2.2 rfl hQ
theorem i_288_2 (k : xEv d 288 5 lv (.retAddr 0 :: st) w Q) : xEv d 288 2 lv (st) w Q := by
  refine xEv.hp q_288 dd_288_0.2.2.1 rfl (st' := .retAddr 0 :: st) (w' := w) ?_ rfl k
  simp only [xhp, show xcno xM_288 = 18 from rfl, Nat.reduceMul, l_18_4212]
theorem i_288_5 {a0 a1 : Int32} {v : Value} {w1 : xW} (h16 : xcat st ≤ 16) (hrun : xRun d 289 [.int a0, .int a1, .retAddr 0] w (.inl (some v)) w1) (k : xEv (d + 1) 288 8 lv (v :: st) w1 Q) : xEv (d + 1) 288 5 lv (.retAddr 0 :: .int a1 :: .int a0 :: st) w Q := R_static (as := [.int a0, .int a1, .retAddr 0]) (rest := st) q_288 dd_288_0.2.2.2.1 l_18_4236 q_289 rfl rfl (Nat.le_of_ble_eq_true rfl) h16 hrun (xDone.v rfl k)
theorem dd_289_0 : decode (xby xM_289) 0 = .ok (.iload_n 0, 1) ∧ decode (xby xM_289) 1 = .ok (.ifCond .lt 8, 3) ∧ decode (xby xM_289) 4 = .ok (.iload_n 0, 1) ∧ decode (xby xM_289) 5 = .ok (.iload_n 1, 1) ∧ decode (xby xM_289) 6 = .ok (.if_icmp .lt 10, 3) ∧ decode (xby xM_289) 16 = .ok (.iload_n 0, 1) ∧ decode (xby xM_289) 17 = .ok (.ireturn, 1) := by decide +kernel
theorem i_289_0 {x : Int32} (h : xld lv 0 = some (.int x)) (k : xEv d 289 1 lv (.int x :: st) w Q) : xEv d 289 0 lv (st) w Q := R_iload_n q_289 dd_289_0.1 rfl h rfl k
theorem i_289_1 {x : Int32} (kt : x.toInt < 0 → xEv d 289 9 lv (st) w Q) (kf : 0 ≤ x.toInt → xEv d 289 4 lv (st) w Q) : xEv d 289 1 lv (.int x :: st) w Q := R_if_lt q_289 dd_289_0.2.1 rfl rfl kt kf
theorem i_289_4 {x : Int32} (h : xld lv 0 = some (.int x)) (k : xEv d 289 5 lv (.int x :: st) w Q) : xEv d 289 4 lv (st) w Q := R_iload_n q_289 dd_289_0.2.2.1 rfl h rfl k
theorem i_289_5 {x : Int32} (h : xld lv 1 = some (.int x)) (k : xEv d 289 6 lv (.int x :: st) w Q) : xEv d 289 5 lv (st) w Q := R_iload_n q_289 dd_289_0.2.2.2.1 rfl h rfl k
theorem i_289_6 {x z : Int32} (kt : x.toInt < z.toInt → xEv d 289 16 lv (st) w Q) (kf : z.toInt ≤ x.toInt → xEv d 289 9 lv (st) w Q) : xEv d 289 6 lv (.int z :: .int x :: st) w Q := R_ic_lt q_289 dd_289_0.2.2.2.2.1 rfl rfl kt kf
theorem i_289_16 {x : Int32} (h : xld lv 0 = some (.int x)) (k : xEv d 289 17 lv (.int x :: st) w Q) : xEv d 289 16 lv (st) w Q := R_iload_n q_289 dd_289_0.2.2.2.2.2.1 rfl h rfl k
theorem i_289_17 {x : Int32} (hQ : Q (.inl (some (.int x))) w) : xEv d 289 17 lv [.int x] w Q := R_iret q_289 dd_289_0.2.2.2.2.2.2 rfl hQ
end
section
variable {d h hb : Nat} {w : xW} {g : Nat → Value}
theorem s_chk {i n : Int32} (h0 : ¬ i.toInt < 0) (h1 : i.toInt < n.toInt) : xRun d 289 [.int i, .int n, .retAddr 0] w (.inl (some (.int i))) w := by
  have key : xEv d 289 0 (lv_args 0 [.int i, .int n, .retAddr 0]) [] w (fun o w' => o = .inl (some (.int i)) ∧ w' = w) := by
    refine i_289_0 rfl ?_
    refine i_289_1 (fun c => absurd c h0) (fun _ => ?_)
    refine i_289_4 rfl ?_
    refine i_289_5 rfl ?_
    refine i_289_6 (fun _ => ?_) (fun c => absurd h1 (by omega))
    refine i_289_16 rfl ?_
    exact i_289_17 ⟨rfl, rfl⟩
  obtain ⟨o, w', h1, rfl, rfl⟩ := key.run
  exact h1
theorem s_chi {i n : Int32} (h0 : ¬ i.toInt < 0) (h1 : i.toInt < n.toInt) : xRun (d + 1) 288 [.int i, .int n] w (.inl none) w := by
  have key : xEv (d + 1) 288 0 (lv_args 0 [.int i, .int n]) [] w (fun o w' => o = .inl none ∧ w' = w) := by
    refine i_288_0 rfl ?_
    refine i_288_1 rfl ?_
    refine i_288_2 ?_
    refine i_288_5 (Nat.le_of_ble_eq_true rfl) (s_chk h0 h1) ?_
    refine i_288_8 rfl ?_
    exact i_288_9 ⟨rfl, rfl⟩
  obtain ⟨o, w', h1, rfl, rfl⟩ := key.run
  exact h1
theorem s_lat {i c : Int32} (hw : w[hb]? = some (.inl (1, 3, g))) (h0 : 0 ≤ i.toInt) (h1 : i.toInt < 3) (hg : g i.toInt.toNat = .int c) (hc : ((c &&& 255).toUInt32 % 65536).toInt32 = c) (hx : xok .char (.int c) = true) : xRun (d + 2) 286 [.ref hb, .int i] w (.inl (some (.int c))) w := by
  have key : xEv (d + 2) 286 0 (lv_args 0 [.ref hb, .int i]) [] w (fun o w' => o = .inl (some (.int c)) ∧ w' = w) := by
    refine i_286_0 rfl ?_
    refine i_286_1 rfl ?_
    refine i_286_2 (c := 3) hw rfl ?_
    refine i_286_3 (Nat.le_of_ble_eq_true rfl) (s_chi (by omega) (show i.toInt < (3 : Int32).toInt from h1)) ?_
    refine i_286_6 rfl ?_
    refine i_286_7 rfl ?_
    refine i_286_8 hw h0 h1 hg ?_
    refine i_286_9 ?_
    refine i_286_12 rfl ?_
    refine i_286_13 hc ?_
    exact i_286_14 hx ⟨rfl, rfl⟩
  obtain ⟨o, w', h1, rfl, rfl⟩ := key.run
  exact h1
theorem s_isl (hh : w[h]? = some (.inr (18, [.ref hb, .int 0]))) : xRun d 285 [.ref h] w (.inl (some (.int 1))) w := by
  have key : xEv d 285 0 (lv_args 0 [.ref h]) [] w (fun o w' => o = .inl (some (.int 1)) ∧ w' = w) := by
    refine i_285_0 ?_
    refine i_285_3 (fun c => absurd c (by decide)) (fun _ => ?_)
    refine i_285_6 rfl ?_
    refine i_285_7 hh rfl ?_
    refine i_285_10 (fun c => absurd c (by decide)) (fun _ => ?_)
    refine i_285_13 ?_
    refine i_285_14 ?_
    exact i_285_18 rfl ⟨rfl, rfl⟩
  obtain ⟨o, w', h1, rfl, rfl⟩ := key.run
  exact h1
theorem s_cod (hh : w[h]? = some (.inr (18, [.ref hb, .int 0]))) : xRun d 283 [.ref h] w (.inl (some (.int 0))) w := by
  have key : xEv d 283 0 (lv_args 0 [.ref h]) [] w (fun o w' => o = .inl (some (.int 0)) ∧ w' = w) := by
    refine i_283_0 ?_
    refine i_283_3 (fun c => absurd c (by decide)) (fun _ => ?_)
    refine i_283_6 rfl ?_
    refine i_283_7 hh rfl ?_
    refine i_283_10 ?_
    exact i_283_14 rfl ⟨rfl, rfl⟩
  obtain ⟨o, w', h1, rfl, rfl⟩ := key.run
  exact h1
theorem s_sln (hh : w[h]? = some (.inr (18, [.ref hb, .int 0]))) (hw : w[hb]? = some (.inl (1, 3, g))) : xRun (d + 1) 282 [.ref h] w (.inl (some (.int 3))) w := by
  have key : xEv (d + 1) 282 0 (lv_args 0 [.ref h]) [] w (fun o w' => o = .inl (some (.int 3)) ∧ w' = w) := by
    refine i_282_0 rfl ?_
    refine i_282_1 hh rfl ?_
    refine i_282_4 (c := 3) hw rfl ?_
    refine i_282_5 rfl ?_
    refine i_282_6 hh (Nat.le_of_ble_eq_true rfl) (s_cod hh) ?_
    refine i_282_9 (c := 3) (by decide) ?_
    exact i_282_10 ⟨rfl, rfl⟩
  obtain ⟨o, w', h1, rfl, rfl⟩ := key.run
  exact h1
theorem s_chr {i c : Int32} (hh : w[h]? = some (.inr (18, [.ref hb, .int 0]))) (hw : w[hb]? = some (.inl (1, 3, g))) (h0 : 0 ≤ i.toInt) (h1 : i.toInt < 3) (hg : g i.toInt.toNat = .int c) (hc : ((c &&& 255).toUInt32 % 65536).toInt32 = c) (hx : xok .char (.int c) = true) : xRun (d + 3) 284 [.ref h, .int i] w (.inl (some (.int c))) w := by
  have key : xEv (d + 3) 284 0 (lv_args 0 [.ref h, .int i]) [] w (fun o w' => o = .inl (some (.int c)) ∧ w' = w) := by
    refine i_284_0 rfl ?_
    refine i_284_1 hh (Nat.le_of_ble_eq_true rfl) (s_isl hh) ?_
    refine i_284_4 (fun c => absurd c (by decide)) (fun _ => ?_)
    refine i_284_7 rfl ?_
    refine i_284_8 hh rfl ?_
    refine i_284_11 rfl ?_
    refine i_284_12 (Nat.le_of_ble_eq_true rfl) (s_lat hw h0 h1 hg hc hx) ?_
    exact i_284_15 hx ⟨rfl, rfl⟩
  obtain ⟨o, w', h1, rfl, rfl⟩ := key.run
  exact h1
theorem w_nan {w0 : xW} (h1 : w0[1]? = some (.inr (18, [.ref 2, .int 0]))) (h2 : w0[2]? = some (.inl (1, 3, fun j => .int (xnan.getD j 0)))) : wrdC w0 1 110 97 110 := by
  intro d L Z S V w a n hR hB hn ha
  have hh : w[1]? = some (.inr (18, [.ref 2, .int 0])) := (hR.low (by decide)).trans h1
  have hb : w[2]? = some (.inl (1, 3, fun j => .int (xnan.getD j 0))) := (hR.low (by decide)).trans h2
  have key : ∀ lv, xld lv 0 = some (Value.ref 29) → xld lv 1 = some (Value.int (Int32.ofInt (a : Int))) → xld lv 2 = some (Value.int (Int32.ofInt (n : Int))) → xld lv 3 = some (Value.ref 1) → xEv (d + 5) 144 0 lv [] w (fun o w' => o = .inl (some (.int (Int32.ofInt (bb (wrd (S 29) a n 110 97 110))))) ∧ w' = w) := by
    intro lv l0 l1 l2 l3
    refine i_144_0 l2 ?_
    refine i_144_1 l1 ?_
    refine i_144_2 (c := Int32.ofInt ((n : Int) - (a : Int))) (o_sub (n : Int) (a : Int)) ?_
    refine i_144_3 l3 ?_
    refine i_144_4 hh (Nat.le_of_ble_eq_true rfl) (s_sln hh hb) ?_
    have kn : (Int32.ofInt ((n : Int) - (a : Int))).toInt = (n : Int) - (a : Int) := oI (by omega) (by omega)
    refine i_144_7 (fun c => ?_) (fun c => ?_)
    · rw [kn, show (3 : Int32).toInt = 3 from rfl] at c
      refine i_144_12 ?_
      refine i_144_13 rfl ?_
      refine lgen1 (i := 4) (v := Value.int 0) (fun lv lg ls => ?_)
      replace l0 := lg 0 _ rfl rfl l0
      replace l1 := lg 1 _ rfl rfl l1
      replace l2 := lg 2 _ rfl rfl l2
      replace l3 := lg 3 _ rfl rfl l3
      have l4 := ls
      refine i_144_15 l4 ?_
      refine i_144_17 l3 ?_
      refine i_144_18 hh (Nat.le_of_ble_eq_true rfl) (s_sln hh hb) ?_
      refine i_144_21 (fun c => absurd c (by decide)) (fun _ => ?_)
      refine i_144_24 l0 ?_
      refine i_144_25 l1 ?_
      refine i_144_26 l4 ?_
      refine i_144_28 (c := Int32.ofInt ((a : Int) + 0)) (o_add (a : Int) 0) ?_
      refine i_144_29 (v := Value.int (Int32.ofInt (S 29 (a + 0)))) (hR.bytes (a := 29) (n := 4096) (by omega)) (ix0 (T := (a : Int) + 0) (by omega) (by omega)) (ix1 (T := (a : Int) + 0) (by omega) (by omega) (by omega)) (by rw [ixn (T := (a : Int) + 0) (by omega) (by omega), show ((a : Int) + 0).toNat = a + 0 by omega]; rfl) ?_
      refine i_144_30 l3 ?_
      refine i_144_31 l4 ?_
      refine i_144_33 hh (Nat.le_of_ble_eq_true rfl) (s_chr (i := 0) (c := 110) hh hb (by decide) (by decide) rfl (by decide) (by decide)) ?_
      have b0 := hB (a + 0)
      have k0 : (Int32.ofInt (S 29 (a + 0))).toInt = S 29 (a + 0) := oI (by omega) (by omega)
      refine i_144_36 (fun c0 => ?_) (fun c0 => ?_)
      · rw [k0, show (110 : Int32).toInt = 110 from rfl] at c0
        refine i_144_41 l4 (c := 1) (by decide) rfl ?_
        refine lgen1 (i := 4) (v := Value.int 1) (fun lv lg ls => ?_)
        replace l0 := lg 0 _ rfl rfl l0
        replace l1 := lg 1 _ rfl rfl l1
        replace l2 := lg 2 _ rfl rfl l2
        replace l3 := lg 3 _ rfl rfl l3
        have l4 := ls
        refine i_144_44 ?_
        refine i_144_15 l4 ?_
        refine i_144_17 l3 ?_
        refine i_144_18 hh (Nat.le_of_ble_eq_true rfl) (s_sln hh hb) ?_
        refine i_144_21 (fun c => absurd c (by decide)) (fun _ => ?_)
        refine i_144_24 l0 ?_
        refine i_144_25 l1 ?_
        refine i_144_26 l4 ?_
        refine i_144_28 (c := Int32.ofInt ((a : Int) + 1)) (o_add (a : Int) 1) ?_
        refine i_144_29 (v := Value.int (Int32.ofInt (S 29 (a + 1)))) (hR.bytes (a := 29) (n := 4096) (by omega)) (ix0 (T := (a : Int) + 1) (by omega) (by omega)) (ix1 (T := (a : Int) + 1) (by omega) (by omega) (by omega)) (by rw [ixn (T := (a : Int) + 1) (by omega) (by omega), show ((a : Int) + 1).toNat = a + 1 by omega]; rfl) ?_
        refine i_144_30 l3 ?_
        refine i_144_31 l4 ?_
        refine i_144_33 hh (Nat.le_of_ble_eq_true rfl) (s_chr (i := 1) (c := 97) hh hb (by decide) (by decide) rfl (by decide) (by decide)) ?_
        have b1 := hB (a + 1)
        have k1 : (Int32.ofInt (S 29 (a + 1))).toInt = S 29 (a + 1) := oI (by omega) (by omega)
        refine i_144_36 (fun c1 => ?_) (fun c1 => ?_)
        · rw [k1, show (97 : Int32).toInt = 97 from rfl] at c1
          refine i_144_41 l4 (c := 2) (by decide) rfl ?_
          refine lgen1 (i := 4) (v := Value.int 2) (fun lv lg ls => ?_)
          replace l0 := lg 0 _ rfl rfl l0
          replace l1 := lg 1 _ rfl rfl l1
          replace l2 := lg 2 _ rfl rfl l2
          replace l3 := lg 3 _ rfl rfl l3
          have l4 := ls
          refine i_144_44 ?_
          refine i_144_15 l4 ?_
          refine i_144_17 l3 ?_
          refine i_144_18 hh (Nat.le_of_ble_eq_true rfl) (s_sln hh hb) ?_
          refine i_144_21 (fun c => absurd c (by decide)) (fun _ => ?_)
          refine i_144_24 l0 ?_
          refine i_144_25 l1 ?_
          refine i_144_26 l4 ?_
          refine i_144_28 (c := Int32.ofInt ((a : Int) + 2)) (o_add (a : Int) 2) ?_
          refine i_144_29 (v := Value.int (Int32.ofInt (S 29 (a + 2)))) (hR.bytes (a := 29) (n := 4096) (by omega)) (ix0 (T := (a : Int) + 2) (by omega) (by omega)) (ix1 (T := (a : Int) + 2) (by omega) (by omega) (by omega)) (by rw [ixn (T := (a : Int) + 2) (by omega) (by omega), show ((a : Int) + 2).toNat = a + 2 by omega]; rfl) ?_
          refine i_144_30 l3 ?_
          refine i_144_31 l4 ?_
          refine i_144_33 hh (Nat.le_of_ble_eq_true rfl) (s_chr (i := 2) (c := 110) hh hb (by decide) (by decide) rfl (by decide) (by decide)) ?_
          have b2 := hB (a + 2)
          have k2 : (Int32.ofInt (S 29 (a + 2))).toInt = S 29 (a + 2) := oI (by omega) (by omega)
          refine i_144_36 (fun c2 => ?_) (fun c2 => ?_)
          · rw [k2, show (110 : Int32).toInt = 110 from rfl] at c2
            refine i_144_41 l4 (c := 3) (by decide) rfl ?_
            refine lgen1 (i := 4) (v := Value.int 3) (fun lv lg ls => ?_)
            replace l0 := lg 0 _ rfl rfl l0
            replace l1 := lg 1 _ rfl rfl l1
            replace l2 := lg 2 _ rfl rfl l2
            replace l3 := lg 3 _ rfl rfl l3
            have l4 := ls
            refine i_144_44 ?_
            refine i_144_15 l4 ?_
            refine i_144_17 l3 ?_
            refine i_144_18 hh (Nat.le_of_ble_eq_true rfl) (s_sln hh hb) ?_
            refine i_144_21 (fun _ => ?_) (fun c => absurd c (by decide))
            refine i_144_47 ?_
            refine i_144_48 rfl ?_
            rw [show wrd (S 29) a n 110 97 110 = true from decide_eq_true ⟨by omega, by omega, by omega, by omega⟩]
            exact ⟨rfl, rfl⟩
          · rw [k2, show (110 : Int32).toInt = 110 from rfl] at c2
            try rw [Nat.add_zero] at c2
            refine i_144_39 ?_
            refine i_144_40 rfl ?_
            rw [show wrd (S 29) a n 110 97 110 = false from decide_eq_false (fun e => by obtain ⟨e1, e2, e3, e4⟩ := e; omega)]
            exact ⟨rfl, rfl⟩
        · rw [k1, show (97 : Int32).toInt = 97 from rfl] at c1
          try rw [Nat.add_zero] at c1
          refine i_144_39 ?_
          refine i_144_40 rfl ?_
          rw [show wrd (S 29) a n 110 97 110 = false from decide_eq_false (fun e => by obtain ⟨e1, e2, e3, e4⟩ := e; omega)]
          exact ⟨rfl, rfl⟩
      · rw [k0, show (110 : Int32).toInt = 110 from rfl] at c0
        try rw [Nat.add_zero] at c0
        refine i_144_39 ?_
        refine i_144_40 rfl ?_
        rw [show wrd (S 29) a n 110 97 110 = false from decide_eq_false (fun e => by obtain ⟨e1, e2, e3, e4⟩ := e; omega)]
        exact ⟨rfl, rfl⟩
    · rw [kn, show (3 : Int32).toInt = 3 from rfl] at c
      refine i_144_10 ?_
      refine i_144_11 rfl ?_
      rw [show wrd (S 29) a n 110 97 110 = false from decide_eq_false (fun e => by obtain ⟨e1, e2, e3, e4⟩ := e; omega)]
      exact ⟨rfl, rfl⟩
  obtain ⟨o, w', g1, rfl, rfl⟩ := (key (lv_args 0 [Value.ref 29, Value.int (Int32.ofInt (a : Int)), Value.int (Int32.ofInt (n : Int)), Value.ref 1]) rfl rfl rfl rfl).run
  exact g1
theorem w_inf {w0 : xW} (h1 : w0[3]? = some (.inr (18, [.ref 4, .int 0]))) (h2 : w0[4]? = some (.inl (1, 3, fun j => .int (xinf.getD j 0)))) : wrdC w0 3 105 110 102 := by
  intro d L Z S V w a n hR hB hn ha
  have hh : w[3]? = some (.inr (18, [.ref 4, .int 0])) := (hR.low (by decide)).trans h1
  have hb : w[4]? = some (.inl (1, 3, fun j => .int (xinf.getD j 0))) := (hR.low (by decide)).trans h2
  have key : ∀ lv, xld lv 0 = some (Value.ref 29) → xld lv 1 = some (Value.int (Int32.ofInt (a : Int))) → xld lv 2 = some (Value.int (Int32.ofInt (n : Int))) → xld lv 3 = some (Value.ref 3) → xEv (d + 5) 144 0 lv [] w (fun o w' => o = .inl (some (.int (Int32.ofInt (bb (wrd (S 29) a n 105 110 102))))) ∧ w' = w) := by
    intro lv l0 l1 l2 l3
    refine i_144_0 l2 ?_
    refine i_144_1 l1 ?_
    refine i_144_2 (c := Int32.ofInt ((n : Int) - (a : Int))) (o_sub (n : Int) (a : Int)) ?_
    refine i_144_3 l3 ?_
    refine i_144_4 hh (Nat.le_of_ble_eq_true rfl) (s_sln hh hb) ?_
    have kn : (Int32.ofInt ((n : Int) - (a : Int))).toInt = (n : Int) - (a : Int) := oI (by omega) (by omega)
    refine i_144_7 (fun c => ?_) (fun c => ?_)
    · rw [kn, show (3 : Int32).toInt = 3 from rfl] at c
      refine i_144_12 ?_
      refine i_144_13 rfl ?_
      refine lgen1 (i := 4) (v := Value.int 0) (fun lv lg ls => ?_)
      replace l0 := lg 0 _ rfl rfl l0
      replace l1 := lg 1 _ rfl rfl l1
      replace l2 := lg 2 _ rfl rfl l2
      replace l3 := lg 3 _ rfl rfl l3
      have l4 := ls
      refine i_144_15 l4 ?_
      refine i_144_17 l3 ?_
      refine i_144_18 hh (Nat.le_of_ble_eq_true rfl) (s_sln hh hb) ?_
      refine i_144_21 (fun c => absurd c (by decide)) (fun _ => ?_)
      refine i_144_24 l0 ?_
      refine i_144_25 l1 ?_
      refine i_144_26 l4 ?_
      refine i_144_28 (c := Int32.ofInt ((a : Int) + 0)) (o_add (a : Int) 0) ?_
      refine i_144_29 (v := Value.int (Int32.ofInt (S 29 (a + 0)))) (hR.bytes (a := 29) (n := 4096) (by omega)) (ix0 (T := (a : Int) + 0) (by omega) (by omega)) (ix1 (T := (a : Int) + 0) (by omega) (by omega) (by omega)) (by rw [ixn (T := (a : Int) + 0) (by omega) (by omega), show ((a : Int) + 0).toNat = a + 0 by omega]; rfl) ?_
      refine i_144_30 l3 ?_
      refine i_144_31 l4 ?_
      refine i_144_33 hh (Nat.le_of_ble_eq_true rfl) (s_chr (i := 0) (c := 105) hh hb (by decide) (by decide) rfl (by decide) (by decide)) ?_
      have b0 := hB (a + 0)
      have k0 : (Int32.ofInt (S 29 (a + 0))).toInt = S 29 (a + 0) := oI (by omega) (by omega)
      refine i_144_36 (fun c0 => ?_) (fun c0 => ?_)
      · rw [k0, show (105 : Int32).toInt = 105 from rfl] at c0
        refine i_144_41 l4 (c := 1) (by decide) rfl ?_
        refine lgen1 (i := 4) (v := Value.int 1) (fun lv lg ls => ?_)
        replace l0 := lg 0 _ rfl rfl l0
        replace l1 := lg 1 _ rfl rfl l1
        replace l2 := lg 2 _ rfl rfl l2
        replace l3 := lg 3 _ rfl rfl l3
        have l4 := ls
        refine i_144_44 ?_
        refine i_144_15 l4 ?_
        refine i_144_17 l3 ?_
        refine i_144_18 hh (Nat.le_of_ble_eq_true rfl) (s_sln hh hb) ?_
        refine i_144_21 (fun c => absurd c (by decide)) (fun _ => ?_)
        refine i_144_24 l0 ?_
        refine i_144_25 l1 ?_
        refine i_144_26 l4 ?_
        refine i_144_28 (c := Int32.ofInt ((a : Int) + 1)) (o_add (a : Int) 1) ?_
        refine i_144_29 (v := Value.int (Int32.ofInt (S 29 (a + 1)))) (hR.bytes (a := 29) (n := 4096) (by omega)) (ix0 (T := (a : Int) + 1) (by omega) (by omega)) (ix1 (T := (a : Int) + 1) (by omega) (by omega) (by omega)) (by rw [ixn (T := (a : Int) + 1) (by omega) (by omega), show ((a : Int) + 1).toNat = a + 1 by omega]; rfl) ?_
        refine i_144_30 l3 ?_
        refine i_144_31 l4 ?_
        refine i_144_33 hh (Nat.le_of_ble_eq_true rfl) (s_chr (i := 1) (c := 110) hh hb (by decide) (by decide) rfl (by decide) (by decide)) ?_
        have b1 := hB (a + 1)
        have k1 : (Int32.ofInt (S 29 (a + 1))).toInt = S 29 (a + 1) := oI (by omega) (by omega)
        refine i_144_36 (fun c1 => ?_) (fun c1 => ?_)
        · rw [k1, show (110 : Int32).toInt = 110 from rfl] at c1
          refine i_144_41 l4 (c := 2) (by decide) rfl ?_
          refine lgen1 (i := 4) (v := Value.int 2) (fun lv lg ls => ?_)
          replace l0 := lg 0 _ rfl rfl l0
          replace l1 := lg 1 _ rfl rfl l1
          replace l2 := lg 2 _ rfl rfl l2
          replace l3 := lg 3 _ rfl rfl l3
          have l4 := ls
          refine i_144_44 ?_
          refine i_144_15 l4 ?_
          refine i_144_17 l3 ?_
          refine i_144_18 hh (Nat.le_of_ble_eq_true rfl) (s_sln hh hb) ?_
          refine i_144_21 (fun c => absurd c (by decide)) (fun _ => ?_)
          refine i_144_24 l0 ?_
          refine i_144_25 l1 ?_
          refine i_144_26 l4 ?_
          refine i_144_28 (c := Int32.ofInt ((a : Int) + 2)) (o_add (a : Int) 2) ?_
          refine i_144_29 (v := Value.int (Int32.ofInt (S 29 (a + 2)))) (hR.bytes (a := 29) (n := 4096) (by omega)) (ix0 (T := (a : Int) + 2) (by omega) (by omega)) (ix1 (T := (a : Int) + 2) (by omega) (by omega) (by omega)) (by rw [ixn (T := (a : Int) + 2) (by omega) (by omega), show ((a : Int) + 2).toNat = a + 2 by omega]; rfl) ?_
          refine i_144_30 l3 ?_
          refine i_144_31 l4 ?_
          refine i_144_33 hh (Nat.le_of_ble_eq_true rfl) (s_chr (i := 2) (c := 102) hh hb (by decide) (by decide) rfl (by decide) (by decide)) ?_
          have b2 := hB (a + 2)
          have k2 : (Int32.ofInt (S 29 (a + 2))).toInt = S 29 (a + 2) := oI (by omega) (by omega)
          refine i_144_36 (fun c2 => ?_) (fun c2 => ?_)
          · rw [k2, show (102 : Int32).toInt = 102 from rfl] at c2
            refine i_144_41 l4 (c := 3) (by decide) rfl ?_
            refine lgen1 (i := 4) (v := Value.int 3) (fun lv lg ls => ?_)
            replace l0 := lg 0 _ rfl rfl l0
            replace l1 := lg 1 _ rfl rfl l1
            replace l2 := lg 2 _ rfl rfl l2
            replace l3 := lg 3 _ rfl rfl l3
            have l4 := ls
            refine i_144_44 ?_
            refine i_144_15 l4 ?_
            refine i_144_17 l3 ?_
            refine i_144_18 hh (Nat.le_of_ble_eq_true rfl) (s_sln hh hb) ?_
            refine i_144_21 (fun _ => ?_) (fun c => absurd c (by decide))
            refine i_144_47 ?_
            refine i_144_48 rfl ?_
            rw [show wrd (S 29) a n 105 110 102 = true from decide_eq_true ⟨by omega, by omega, by omega, by omega⟩]
            exact ⟨rfl, rfl⟩
          · rw [k2, show (102 : Int32).toInt = 102 from rfl] at c2
            try rw [Nat.add_zero] at c2
            refine i_144_39 ?_
            refine i_144_40 rfl ?_
            rw [show wrd (S 29) a n 105 110 102 = false from decide_eq_false (fun e => by obtain ⟨e1, e2, e3, e4⟩ := e; omega)]
            exact ⟨rfl, rfl⟩
        · rw [k1, show (110 : Int32).toInt = 110 from rfl] at c1
          try rw [Nat.add_zero] at c1
          refine i_144_39 ?_
          refine i_144_40 rfl ?_
          rw [show wrd (S 29) a n 105 110 102 = false from decide_eq_false (fun e => by obtain ⟨e1, e2, e3, e4⟩ := e; omega)]
          exact ⟨rfl, rfl⟩
      · rw [k0, show (105 : Int32).toInt = 105 from rfl] at c0
        try rw [Nat.add_zero] at c0
        refine i_144_39 ?_
        refine i_144_40 rfl ?_
        rw [show wrd (S 29) a n 105 110 102 = false from decide_eq_false (fun e => by obtain ⟨e1, e2, e3, e4⟩ := e; omega)]
        exact ⟨rfl, rfl⟩
    · rw [kn, show (3 : Int32).toInt = 3 from rfl] at c
      refine i_144_10 ?_
      refine i_144_11 rfl ?_
      rw [show wrd (S 29) a n 105 110 102 = false from decide_eq_false (fun e => by obtain ⟨e1, e2, e3, e4⟩ := e; omega)]
      exact ⟨rfl, rfl⟩
  obtain ⟨o, w', g1, rfl, rfl⟩ := (key (lv_args 0 [Value.ref 29, Value.int (Int32.ofInt (a : Int)), Value.int (Int32.ofInt (n : Int)), Value.ref 3]) rfl rfl rfl rfl).run
  exact g1
end
