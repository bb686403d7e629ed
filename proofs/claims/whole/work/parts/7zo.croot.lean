/-! orderOfPower of the class -/
theorem oV_b (G : Nat) (a : Int) (s : Nat) (b : Int) : -1 ≤ oV G a s b ∧ oV G a s b ≤ 1 := by
  unfold oV
  have := ncmp_3 (G * 2 ^ xbl s) (s * 2 ^ xbl G)
  split
  · omega
  · split <;> decide
theorem cS_of {L n s p z : Nat} {lift : Int} : cS (2 ^ z * L) n lift s p = ncmp (L ^ n * 2 ^ (z * n) * rY lift) (rX s lift * 2 ^ (p * n)) := by
  unfold cS
  rw [Nat.mul_pow, ← Nat.pow_mul, Nat.mul_comm (2 ^ (z * n))]
theorem oP_1 {x : PT} {L n s p z : Nat} {lift : Int} (h1 : 0 < x.1) (h2 : 0 ≤ x.2.1) (hs : s ≠ 0) (h : pA x = L ^ n) : oV x.1 (x.2.1 + (n : Int) * (-(p : Int) + z)) s lift = cS (2 ^ z * L) n lift s p := by
  rw [oV_cS (by omega) hs h2, cS_of, ← h]
  rfl
theorem oP_2 {x : PT} {L n s p z : Nat} {lift : Int} (h1 : 0 < x.1) (h2 : 0 ≤ x.2.1) (hs : s ≠ 0) (h : pA x < L ^ n) (ho : 0 ≤ oV x.1 (x.2.1 + (n : Int) * (-(p : Int) + z)) s lift) : cS (2 ^ z * L) n lift s p = 1 := by
  rw [oV_cS (by omega) hs h2] at ho
  rw [cS_of]
  have a1 : x.1 * 2 ^ x.2.1.toNat * 2 ^ (z * n) * rY lift < L ^ n * 2 ^ (z * n) * rY lift := (Nat.mul_lt_mul_right (rY_pos _)).mpr ((Nat.mul_lt_mul_right (Nat.two_pow_pos _)).mpr h)
  have a2 := ncmp_3 (x.1 * 2 ^ x.2.1.toNat * 2 ^ (z * n) * rY lift) (rX s lift * 2 ^ (p * n))
  unfold ncmp
  rw [if_neg (by omega), if_neg (by omega)]
theorem oP_3 {G : Nat} {sc : Int} {L n s p z : Nat} {lift : Int} (h1 : 0 < G) (h2 : 0 ≤ sc) (hs : s ≠ 0) (h : L ^ n < G * 2 ^ sc.toNat) (ho : oV G (sc + (n : Int) * (-(p : Int) + z)) s lift ≤ 0) : cS (2 ^ z * L) n lift s p = -1 := by
  rw [oV_cS (by omega) hs h2] at ho
  rw [cS_of]
  have a1 : L ^ n * 2 ^ (z * n) * rY lift < G * 2 ^ sc.toNat * 2 ^ (z * n) * rY lift := (Nat.mul_lt_mul_right (rY_pos _)).mpr ((Nat.mul_lt_mul_right (Nat.two_pow_pos _)).mpr h)
  have a2 := ncmp_3 (G * 2 ^ sc.toNat * 2 ^ (z * n) * rY lift) (rX s lift * 2 ^ (p * n))
  unfold ncmp
  rw [if_pos (by omega)]
section
variable {w0 w : xW} {L Z : Nat} {S S1 : Nat → Nat → Int} {V V1 : Nat → Nat} {d hb hr hc k P g p n : Nat} {lv : xLv} {Q : Option Value ⊕ Nat → xW → Prop} {lift most E : Int}
/-- raise, by what it leaves -/
theorem x_raiseP (hR : cX w0 L Z S V w) (khb : kd hb = 3) (b80 : hb ≠ 80) (b82 : hb ≠ 82) (b84 : hb ≠ 84) (hpw : pwP S) (hm : 0 ≤ most ∧ most ≤ 20000000) (hn : 1 ≤ n ∧ n < 2147483648) (hB : xbl (V hb) ≤ 310000) (hok : pOk most (V hb / 2 ^ (32 * cutc (V hb) most)) (32 * ((cutc (V hb) most : Nat) : Int)) n (xbl n) ((1, 0, orI 0 (nany (V hb) (32 * ((cutc (V hb) most : Nat) : Int)) = true)) : PT)) : ∃ w', xRun (d + 5) 83 [Value.ref 79, Value.ref hb, Value.int (Int32.ofInt (n : Int)), Value.int (Int32.ofInt most)] w (.inl none) w' ∧ ∃ S2 V2, ∃ hv : Nat, cX w0 L Z S2 V2 w' ∧ (∀ b j, b ≠ 79 → S2 b j = S b j) ∧ pwP S2 ∧ S2 79 0 = (hv : Int) ∧ (hv = 80 ∨ hv = 82) ∧ S2 79 3 = (pR most (V hb) n).2.1 ∧ S2 79 4 = (pR most (V hb) n).2.2 ∧ V2 hv = (pR most (V hb) n).1 ∧ (∀ i, i ≠ 80 → i ≠ 82 → i ≠ 84 → V2 i = V i) ∧ ((pR most (V hb) n).2.2 = 0 ∨ (pR most (V hb) n).2.2 = 1) := by
  obtain ⟨hv, hs, e0, e1, hd⟩ : ∃ hv hs : Nat, S 79 0 = (hv : Int) ∧ S 79 1 = (hs : Int) ∧ ((hv = 80 ∧ hs = 82) ∨ (hv = 82 ∧ hs = 80)) := by
    rcases hpw with ⟨a1, a2⟩ | ⟨a1, a2⟩
    · exact ⟨80, 82, a1, a2, Or.inl ⟨rfl, rfl⟩⟩
    · exact ⟨82, 80, a1, a2, Or.inr ⟨rfl, rfl⟩⟩
  obtain ⟨w', hrun, S2, V2, hv2, hs2, hX, p1, p2, p3, p4, p5, p6, p7, p8, p9, p10⟩ := x_raise (d := d) (n := (n : Int)) (most := most) hR khb b80 b82 b84 e0 e1 hd hm ⟨by omega, by omega⟩ hB hok
  refine ⟨w', hrun, S2, V2, hv2, hX, p1, ?_, p2, by omega, p4, p5, p6, p8, p10⟩
  unfold pwP
  rw [p2, p3]
  omega
set_option maxHeartbeats 8000000 in
theorem x_oPow (hR : cX w0 L Z S1 V1 w) (hf : fS S V S1 V1 hr lift E k P g) (khr : kd hr = 3) (nhr : ¬ scr hr) (khc : kd hc = 3) (nhc : ¬ scr hc) (hk : 1 ≤ k ∧ k ≤ 31) (hc0 : V1 hc ≠ 0) (bc : xbl (V1 hc) ≤ 4200) (hs0 : V1 hr ≠ 0) (bs : xbl (V1 hr) ≤ 150000) (bl : -200000 ≤ lift ∧ lift ≤ 100) (hp : p ≤ 4096) : ∃ w', xRun (d + 6) 90 [Value.ref 101, Value.ref hc, Value.int (Int32.ofInt (-(p : Int))), Value.int (Int32.ofInt (p : Int))] w (.inl (some (.int (Int32.ofInt (cS (V1 hc) (k + 1) lift (V1 hr) p))))) w' ∧ ∃ S' V', cX w0 L Z S' V' w' ∧ (∀ b j, b ≠ 79 → S' b j = S1 b j) ∧ pwP S' ∧ (∀ i, i ≠ 80 → i ≠ 82 → i ≠ 84 → i ≠ 106 → V' i = V1 i) := by
  have key : ∀ lv, xld lv 0 = some (Value.ref 101) → xld lv 1 = some (Value.ref hc) → xld lv 2 = some (Value.int (Int32.ofInt (-(p : Int)))) → xld lv 3 = some (Value.int (Int32.ofInt (p : Int))) → xEv (d + 6) 90 0 lv [] w (fun o w' => o = .inl (some (.int (Int32.ofInt (cS (V1 hc) (k + 1) lift (V1 hr) p)))) ∧ ∃ S' V', cX w0 L Z S' V' w' ∧ (∀ b j, b ≠ 79 → S' b j = S1 b j) ∧ pwP S' ∧ (∀ i, i ≠ 80 → i ≠ 82 → i ≠ 84 → i ≠ 106 → V' i = V1 i)) := by
    intro lv l0 l1 l2 l3
    obtain ⟨q0, q5, q6, q7, q8, q9, qp, qg, qv⟩ := hf
    have nq := nhr
    unfold scr at nq
    refine i_90_0 (x := hc) l1 ?_
    obtain ⟨fs, hobj⟩ := hR.nat khc
    obtain ⟨z, K, hrun, hz⟩ := X_zeros (d := d + 4) (h := hc) (u := V1 hc) hR khc (rfl)
    have ec : V1 hc = 2 ^ z * (2 * K + 1) := hz.resolve_left (fun e => hc0 e.1)
    have hzb : z < xbl (V1 hc) := xbl_ge (show 2 ^ z ≤ V1 hc by rw [ec]; exact Nat.le_mul_of_pos_right _ (by omega))
    have eL : shf (V1 hc) (-(z : Int)) = 2 * K + 1 := by rw [ec, Nat.mul_comm]; exact shf_back
    obtain ⟨Lo, eLo⟩ : ∃ Lo, Lo = 2 * K + 1 := ⟨_, rfl⟩
    rw [← eLo] at ec eL
    have hLb : xbl Lo ≤ 4200 := by rw [← eL]; have := shf_ble (V1 hc) (-(z : Int)); omega
    have hLn : xbl (Lo ^ (k + 1)) ≤ 310000 := by have h1 := xbl_npow Lo (k + 1); have h2 : (k + 1) * xbl Lo ≤ 32 * 4200 := Nat.mul_le_mul (by omega) hLb; omega
    refine i_90_1 hobj (Nat.le_of_ble_eq_true rfl) hrun ?_
    refine i_90_4 rfl ?_
    refine lgen1 (i := 4) (v := Value.int (Int32.ofInt (z : Int))) (fun lv lg ls => ?_)
    replace l0 := lg 0 _ rfl rfl l0
    replace l1 := lg 1 _ rfl rfl l1
    replace l2 := lg 2 _ rfl rfl l2
    replace l3 := lg 3 _ rfl rfl l3
    have l4 := ls
    refine i_90_6 (x := 101) l0 ?_
    refine i_90_7 (v := Value.ref 106) (hR.k9 kq_101) rfl ?_
    refine i_90_10 (x := hc) l1 ?_
    refine i_90_11 (x := Int32.ofInt (z : Int)) l4 ?_
    refine i_90_13 (c := Int32.ofInt (-(z : Int))) (o_neg (z : Int)) ?_
    obtain ⟨fs, hobj⟩ := hR.nat kq_106
    obtain ⟨w, hrun, hR⟩ := X_shift (d := d + 2) (h := 106) (h2 := hc) (u := V1 hc) (k := -(z : Int)) hR kq_106 khc rfl (by omega) (by omega)
    rw [eL] at hR
    refine i_90_14 hobj (Nat.le_of_ble_eq_true rfl) hrun ?_
    refine i_90_17 (x := 101) l0 ?_
    refine i_90_18 (v := Value.int (Int32.ofInt (S1 101 7))) (hR.k9 kq_101) rfl ?_
    rw [q7]
    refine i_90_21 (x := Int32.ofInt (-(p : Int))) l2 ?_
    refine i_90_22 (x := Int32.ofInt (z : Int)) l4 ?_
    refine i_90_24 (c := Int32.ofInt ((-(p : Int)) + (z : Int))) (o_add (-(p : Int)) (z : Int)) ?_
    refine i_90_25 (c := Int32.ofInt (((k : Int) + 1) * ((-(p : Int)) + (z : Int)))) (o_mul ((k : Int) + 1) ((-(p : Int)) + (z : Int))) ?_
    have htb : -1000000 ≤ ((k : Int) + 1) * (-(p : Int) + (z : Int)) ∧ ((k : Int) + 1) * (-(p : Int) + (z : Int)) ≤ 1000000 := by
      have a1 := Int.mul_le_mul (show (k : Int) + 1 ≤ 32 by omega) (show (z : Int) ≤ 4200 by omega) (by omega) (by omega)
      have a2 := Int.mul_le_mul (show (k : Int) + 1 ≤ 32 by omega) (show (p : Int) ≤ 4200 by omega) (by omega) (by omega)
      have a3 : 0 ≤ ((k : Int) + 1) * (z : Int) := Int.mul_nonneg (by omega) (by omega)
      have a4 : 0 ≤ ((k : Int) + 1) * (p : Int) := Int.mul_nonneg (by omega) (by omega)
      rw [Int.mul_add, Int.mul_neg]
      omega
    refine i_90_26 rfl ?_
    refine lgen1 (i := 5) (v := Value.int (Int32.ofInt (((k : Int) + 1) * ((-(p : Int)) + (z : Int))))) (fun lv lg ls => ?_)
    replace l4 := lg 4 _ rfl rfl l4
    replace l0 := lg 0 _ rfl rfl l0
    replace l1 := lg 1 _ rfl rfl l1
    replace l2 := lg 2 _ rfl rfl l2
    replace l3 := lg 3 _ rfl rfl l3
    have l5 := ls
    refine i_90_28 (x := 101) l0 ?_
    refine i_90_29 (v := Value.ref 79) (hR.k9 kq_101) rfl ?_
    refine i_90_32 (x := 101) l0 ?_
    refine i_90_33 (v := Value.ref 106) (hR.k9 kq_101) rfl ?_
    refine i_90_36 (x := 101) l0 ?_
    refine i_90_37 (v := Value.int (Int32.ofInt (S1 101 7))) (hR.k9 kq_101) rfl ?_
    rw [q7]
    refine i_90_40 (x := Int32.ofInt (p : Int)) l3 ?_
    refine i_90_41 (x := 101) l0 ?_
    refine i_90_42 (v := Value.ref (S1 101 5).toNat) (hR.k9 kq_101) rfl ?_
    rw [show (S1 101 5).toNat = hr by rw [q5]; rfl]
    obtain ⟨fs, hobj⟩ := hR.nat khr
    have hrun := X_bits (d := d + 4) (h := hr) (u := V1 hr) hR khr ((uv_n (by omega)).trans (rfl))
    refine i_90_45 hobj (Nat.le_of_ble_eq_true rfl) hrun ?_
    refine i_90_48 (c := Int32.ofInt ((p : Int) + (xbl (V1 hr) : Int))) (o_add (p : Int) (xbl (V1 hr) : Int)) ?_
    refine i_90_49 ?_
    refine i_90_51 (c := Int32.ofInt (Int.tdiv ((p : Int) + (xbl (V1 hr) : Int)) 32)) (o_nz (b := 32) ⟨by decide, by decide⟩) (o_tdiv (a := (p : Int) + (xbl (V1 hr) : Int)) (b := 32) ⟨by omega, by omega⟩ ⟨by decide, by decide⟩) ?_
    refine i_90_52 ?_
    refine i_90_54 (c := Int32.ofInt ((Int.tdiv ((p : Int) + (xbl (V1 hr) : Int)) 32) + 6)) (o_add (Int.tdiv ((p : Int) + (xbl (V1 hr) : Int)) 32) 6) ?_
    rw [show ((k : Int) + 1) = ((k + 1 : Nat) : Int) by omega]
    obtain ⟨mo, emo⟩ : ∃ mo : Int, mo = Int.tdiv ((p : Int) + (xbl (V1 hr) : Int)) 32 + 6 := ⟨_, rfl⟩
    have hmo : 6 ≤ mo ∧ mo ≤ 9000 := by rw [emo, Int.tdiv_eq_ediv_of_nonneg (by omega)]; omega
    rw [← emo]
    have hobj := hR.k6 kq_79
    have e106 : (uv V1 106 Lo) 106 = Lo := uv_s
    obtain ⟨w, hrun, S10, V10, hv1, hR, r1, r2, r3, r4, r5, r6, r7, r8, r9⟩ := x_raiseP (d := d) (hb := 106) (n := k + 1) (most := mo) hR kq_106 (by decide) (by decide) (by decide) qp ⟨by omega, by omega⟩ ⟨by omega, by omega⟩ (by rw [e106]; omega) (pOk_cut (by omega) (by omega) _ _ (by show ((xbl 1 : Nat) : Int) ≤ _; rw [xbl_one]; omega))
    rw [e106] at r5 r6 r7 r9
    obtain ⟨x1, ex1⟩ : ∃ x : PT, x = pR mo Lo (k + 1) := ⟨_, rfl⟩
    rw [← ex1] at r5 r6 r7 r9
    have hJ : pJ (2 ^ (32 * (mo.toNat - 1))) (Lo ^ (k + 1)) 256 x1 := by rw [ex1]; exact pR_J (by omega) rfl (by omega) (by omega) (by omega)
    have hxb : (xbl x1.1 : Int) ≤ 32 * mo := by rw [ex1]; exact pF_b (by omega) _ _ (by show ((xbl 1 : Nat) : Int) ≤ _; rw [xbl_one]; omega)
    have hsc1 : x1.2.1 ≤ 400000 := by
      have a1 := hJ.2.2.1
      unfold pA at a1
      have a2 : 2 ^ (x1.2.1.toNat) ≤ Lo ^ (k + 1) := Nat.le_trans (Nat.le_mul_of_pos_left _ hJ.1) a1
      have a3 := xbl_ge a2
      omega
    have hsc0 := hJ.2.1
    have ehr : V10 hr = V1 hr := (r8 hr (fun e => nhr (by unfold scr; omega)) (fun e => nhr (by unfold scr; omega)) (fun e => nhr (by unfold scr; omega))).trans (uv_n (fun e => nhr (by unfold scr; omega)))
    have e106b : V10 106 = Lo := (r8 106 (by decide) (by decide) (by decide)).trans e106
    have e101 : ∀ j, S10 101 j = S1 101 j := fun j => r1 101 j (by decide)
    have g9 := fun i (i1 : i ≠ 80) (i2 : i ≠ 82) (i3 : i ≠ 84) (i4 : i ≠ 106) => (r8 i i1 i2 i3).trans (uv_n (V := V1) (u := Lo) i4)
    have g1 := r1
    obtain ⟨k3, k4, k5, k6⟩ := (⟨r3, r4, r5, r6⟩ : _ ∧ _ ∧ _ ∧ _)
    have khv1 : kd hv1 = 3 := by rcases k4 with rfl | rfl <;> decide +kernel
    refine i_90_55 hobj (Nat.le_of_ble_eq_true rfl) hrun ?_
    refine i_90_58 (x := 101) l0 ?_
    refine i_90_59 (x := Int32.ofInt (((k : Int) + 1) * ((-(p : Int)) + (z : Int)))) l5 ?_
    have hobj := hR.k9 kq_101
    have eG : V10 hv1 = x1.1 := r7
    have eH : V10 hr = V1 hr := ehr
    have hrun := x_oVal (d := d + 2) (hr := hr) (hv := hv1) (t := ((k : Int) + 1) * ((-(p : Int)) + (z : Int))) hR khr (by rw [e101]; exact q5) k3 k4 (by rw [eG]; omega) (by rw [k5]; omega) htb (by rw [eH]; omega) (by rw [e101, q6]; omega)
    rw [eG, k5, eH, e101, q6] at hrun
    have hob1 := oV_b (x1.1) (x1.2.1 + ((k : Int) + 1) * ((-(p : Int)) + (z : Int))) (V1 hr) lift
    refine i_90_61 hobj (Nat.le_of_ble_eq_true rfl) hrun ?_
    refine i_90_64 rfl ?_
    refine lgen1 (i := 6) (v := Value.int (Int32.ofInt (oV (x1.1) (x1.2.1 + ((k : Int) + 1) * ((-(p : Int)) + (z : Int))) (V1 hr) lift))) (fun lv lg ls => ?_)
    replace l5 := lg 5 _ rfl rfl l5
    replace l4 := lg 4 _ rfl rfl l4
    replace l0 := lg 0 _ rfl rfl l0
    replace l1 := lg 1 _ rfl rfl l1
    replace l2 := lg 2 _ rfl rfl l2
    replace l3 := lg 3 _ rfl rfl l3
    have l6 := ls
    refine i_90_66 (x := 101) l0 ?_
    refine i_90_67 (v := Value.ref 79) (hR.k9 kq_101) rfl ?_
    refine i_90_70 (v := Value.int (Int32.ofInt (S10 79 4))) (hR.k6 kq_79) rfl ?_
    rw [k6]
    refine i_90_73 (z_ne (a := x1.2.2) ⟨by omega, by omega⟩ fun c0 => ?_) (z_eq (a := x1.2.2) ⟨by omega, by omega⟩ fun c0 => ?_)
    · refine i_90_79 (x := Int32.ofInt (oV (x1.1) (x1.2.1 + ((k : Int) + 1) * ((-(p : Int)) + (z : Int))) (V1 hr) lift)) l6 ?_
      refine i_90_81 (z_lt (a := oV (x1.1) (x1.2.1 + ((k : Int) + 1) * ((-(p : Int)) + (z : Int))) (V1 hr) lift) ⟨by omega, by omega⟩ fun c1 => ?_) (z_ge (a := oV (x1.1) (x1.2.1 + ((k : Int) + 1) * ((-(p : Int)) + (z : Int))) (V1 hr) lift) ⟨by omega, by omega⟩ fun c1 => ?_)
      · refine i_90_86 (x := 101) l0 ?_
        refine i_90_87 (v := Value.ref 79) (hR.k9 kq_101) rfl ?_
        refine i_90_90 (v := Value.ref (S10 79 0).toNat) (hR.k6 kq_79) rfl ?_
        rw [show (S10 79 0).toNat = hv1 by rw [k3]; rfl]
        refine i_90_93 ?_
        obtain ⟨fs, hobj⟩ := hR.nat khv1
        obtain ⟨w, hrun, hR⟩ := X_addBit (d := d + 1) (h := hv1) (u := x1.1) (p := 42) hR khv1 r7 ⟨by decide, by decide⟩ (by omega)
        rw [show Int32.ofInt (42 : Int) = 42 from rfl] at hrun
        refine i_90_95 hobj (Nat.le_of_ble_eq_true rfl) hrun ?_
        refine i_90_98 (x := 101) l0 ?_
        refine i_90_99 (x := Int32.ofInt (((k : Int) + 1) * ((-(p : Int)) + (z : Int)))) l5 ?_
        have hobj := hR.k9 kq_101
        have eG : (uv V10 hv1 (x1.1 + 2 ^ (42 : Int).toNat)) hv1 = x1.1 + 2 ^ (42 : Int).toNat := uv_s
        have eH : (uv V10 hv1 (x1.1 + 2 ^ (42 : Int).toNat)) hr = V1 hr := (uv_n (fun e => nhr (by unfold scr; omega))).trans ehr
        have hgb : xbl (x1.1 + 2 ^ (42 : Int).toNat) ≤ 600000 := by have h1 := xbl_add (a := x1.1) (b := 2 ^ (42 : Int).toNat) (n := 290000) (by omega) (by rw [xbl_2pow]; decide); omega
        have hrun := x_oVal (d := d + 2) (hr := hr) (hv := hv1) (t := ((k : Int) + 1) * ((-(p : Int)) + (z : Int))) hR khr (by rw [e101]; exact q5) k3 k4 (by rw [eG]; exact hgb) (by rw [k5]; omega) htb (by rw [eH]; omega) (by rw [e101, q6]; omega)
        rw [eG, k5, eH, e101, q6] at hrun
        have hob2 := oV_b (x1.1 + 2 ^ (42 : Int).toNat) (x1.2.1 + ((k : Int) + 1) * ((-(p : Int)) + (z : Int))) (V1 hr) lift
        refine i_90_101 hobj (Nat.le_of_ble_eq_true rfl) hrun ?_
        refine i_90_104 (z_gt (a := oV (x1.1 + 2 ^ (42 : Int).toNat) (x1.2.1 + ((k : Int) + 1) * ((-(p : Int)) + (z : Int))) (V1 hr) lift) ⟨by omega, by omega⟩ fun c2 => ?_) (z_le (a := oV (x1.1 + 2 ^ (42 : Int).toNat) (x1.2.1 + ((k : Int) + 1) * ((-(p : Int)) + (z : Int))) (V1 hr) lift) ⟨by omega, by omega⟩ fun c2 => ?_)
        · refine i_90_109 (x := 101) l0 ?_
          refine i_90_110 (v := Value.ref 79) (hR.k9 kq_101) rfl ?_
          refine i_90_113 (x := 101) l0 ?_
          refine i_90_114 (v := Value.ref 106) (hR.k9 kq_101) rfl ?_
          refine i_90_117 (x := 101) l0 ?_
          refine i_90_118 (v := Value.int (Int32.ofInt (S10 101 7))) (hR.k9 kq_101) rfl ?_
          rw [((e101 7).trans q7)]
          refine i_90_121 ?_
          rw [show ((k : Int) + 1) = ((k + 1 : Nat) : Int) by omega]
          have hobj := hR.k6 kq_79
          have e106 : (uv V10 hv1 (x1.1 + 2 ^ (42 : Int).toNat)) 106 = Lo := (uv_n (by omega)).trans e106b
          obtain ⟨w, hrun, S30, V30, hv3, hR, r1, r2, r3, r4, r5, r6, r7, r8, r9⟩ := x_raiseP (d := d) (hb := 106) (n := k + 1) (most := 16777216) hR kq_106 (by decide) (by decide) (by decide) r2 ⟨by omega, by omega⟩ ⟨by omega, by omega⟩ (by rw [e106]; omega) (by rw [e106]; exact (pR_ex (most := 16777216) (b := Lo) (n := k + 1) (by decide) (by omega) (by omega) hLn).2)
          rw [e106] at r5 r6 r7 r9
          rw [show Int32.ofInt (16777216 : Int) = 16777216 from rfl] at hrun
          obtain ⟨x3, ex3⟩ : ∃ x : PT, x = pR 16777216 Lo (k + 1) := ⟨_, rfl⟩
          rw [← ex3] at r5 r6 r7 r9
          have eX : x3 = ((Lo ^ (k + 1), 0, 0) : PT) := by rw [ex3]; exact (pR_ex (by decide) (by omega) (by omega) hLn).1
          have ehr3 : V30 hr = V1 hr := (r8 hr (fun e => nhr (by unfold scr; omega)) (fun e => nhr (by unfold scr; omega)) (fun e => nhr (by unfold scr; omega))).trans ((uv_n (fun e => nhr (by unfold scr; omega))).trans ehr)
          have e101b : ∀ j, S30 101 j = S1 101 j := fun j => (r1 101 j (by decide)).trans (e101 j)
          refine i_90_123 hobj (Nat.le_of_ble_eq_true rfl) hrun ?_
          refine i_90_126 (x := 101) l0 ?_
          refine i_90_127 (x := Int32.ofInt (((k : Int) + 1) * ((-(p : Int)) + (z : Int)))) l5 ?_
          have hobj := hR.k9 kq_101
          have eG : V30 hv3 = x3.1 := r7
          have eH : V30 hr = V1 hr := ehr3
          have hx3 : x3.2.1 = 0 ∧ x3.1 = Lo ^ (k + 1) := by rw [eX]; exact ⟨rfl, rfl⟩
          have hrun := x_oVal (d := d + 2) (hr := hr) (hv := hv3) (t := ((k : Int) + 1) * ((-(p : Int)) + (z : Int))) hR khr (by rw [e101b]; exact q5) r3 r4 (by rw [eG]; rw [hx3.2]; omega) (by rw [r5]; omega) htb (by rw [eH]; omega) (by rw [e101b, q6]; omega)
          rw [eG, r5, eH, e101b, q6] at hrun
          have hob3 := oV_b (x3.1) (x3.2.1 + ((k : Int) + 1) * ((-(p : Int)) + (z : Int))) (V1 hr) lift
          refine i_90_129 hobj (Nat.le_of_ble_eq_true rfl) hrun ?_
          refine i_90_132 ?_
          have er : cS (V1 hc) (k + 1) lift (V1 hr) p = oV (x3.1) (x3.2.1 + ((k : Int) + 1) * ((-(p : Int)) + (z : Int))) (V1 hr) lift := by
            rw [ec]
            rw [show x3.2.1 + ((k : Int) + 1) * (-(p : Int) + (z : Int)) = x3.2.1 + ((k + 1 : Nat) : Int) * (-(p : Int) + (z : Int)) by rw [show ((k + 1 : Nat) : Int) = (k : Int) + 1 by omega]]; exact (oP_1 (by rw [hx3.2]; exact Nat.pow_pos (by omega)) (by omega) hs0 (by rw [eX]; show Lo ^ (k + 1) * 2 ^ (0 : Int).toNat = _; simp)).symm
          rw [er]
          exact ⟨rfl, _, _, hR, fun b j b1 => (r1 b j b1).trans (g1 b j b1), r2, fun i i1 i2 i3 i4 => (r8 i i1 i2 i3).trans ((uv_n (by omega)).trans (g9 i i1 i2 i3 i4))⟩
        · refine i_90_107 ?_
          refine i_90_108 ?_
          have er : cS (V1 hc) (k + 1) lift (V1 hr) p = (-1) := by
            rw [ec]
            exact oP_3 (G := x1.1 + 2 ^ (42 : Int).toNat) (sc := x1.2.1) (Nat.lt_of_lt_of_le hJ.1 (Nat.le_add_right _ _)) hsc0 hs0 (pJ_top (by omega) rfl hJ hxb) (by rw [show ((k + 1 : Nat) : Int) = (k : Int) + 1 by omega]; assumption)
          rw [er]
          exact ⟨rfl, _, _, hR, g1, r2, fun i i1 i2 i3 i4 => (uv_n (by omega)).trans (g9 i i1 i2 i3 i4)⟩
      · refine i_90_84 ?_
        refine i_90_85 ?_
        have er : cS (V1 hc) (k + 1) lift (V1 hr) p = 1 := by
          rw [ec]
          exact oP_2 hJ.1 hsc0 hs0 (hJ.2.2.2.2.2.1 ‹_›) (by rw [show ((k + 1 : Nat) : Int) = (k : Int) + 1 by omega]; assumption)
        rw [er]
        exact ⟨rfl, _, _, hR, g1, r2, g9⟩
    · refine i_90_76 (x := Int32.ofInt (oV (x1.1) (x1.2.1 + ((k : Int) + 1) * ((-(p : Int)) + (z : Int))) (V1 hr) lift)) l6 ?_
      refine i_90_78 ?_
      have er : cS (V1 hc) (k + 1) lift (V1 hr) p = oV (x1.1) (x1.2.1 + ((k : Int) + 1) * ((-(p : Int)) + (z : Int))) (V1 hr) lift := by
        rw [ec]
        rw [show x1.2.1 + ((k : Int) + 1) * (-(p : Int) + (z : Int)) = x1.2.1 + ((k + 1 : Nat) : Int) * (-(p : Int) + (z : Int)) by rw [show ((k + 1 : Nat) : Int) = (k : Int) + 1 by omega]]; exact (oP_1 hJ.1 hsc0 hs0 (hJ.2.2.2.2.1 ‹_›)).symm
      rw [er]
      exact ⟨rfl, _, _, hR, g1, r2, g9⟩
  obtain ⟨o, w', h1, rfl, h2⟩ := (key (lv_args 0 [Value.ref 101, Value.ref hc, Value.int (Int32.ofInt (-(p : Int))), Value.int (Int32.ofInt (p : Int))]) rfl rfl rfl rfl).run
  exact ⟨w', h1, h2⟩
end
