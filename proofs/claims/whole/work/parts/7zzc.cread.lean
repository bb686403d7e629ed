/-! reading: evaluate -/
theorem s_nlz0 {d : Nat} {w : xW} {n : Int} (h0 : 0 ≤ n) (h1 : n < 2147483648) : xRun d 277 [.int (Int32.ofInt n)] w (.inl (some (.int (Int32.ofInt (32 - (xbl n.toNat : Int)))))) w := by
  have h := nlz_run (d := d) (w := w) (x := Int32.ofInt n)
  have en := oI (k := n) (by omega) h1
  have hx := xun_i (x := Int32.ofInt n) (by omega)
  have e : xnlz (Int32.ofInt n) = Int32.ofInt (32 - (xbl n.toNat : Int)) := by
    apply Int32.toInt_inj.mp
    have hb : xbl n.toNat ≤ 31 := xbl_le (by omega)
    rw [xnlz_i, show xun (Int32.ofInt n) = n.toNat by omega, oI (by omega) (by omega)]
  rwa [e] at h
section
variable {w0 w : xW} {L Z : Nat} {S : Nat → Nat → Int} {V : Nat → Nat} {d hv hs hb : Nat}
set_option maxHeartbeats 4000000 in
theorem x_raiseZ {n most : Int} (hR : cX w0 L Z S V w) (khb : kd hb = 3) (b80 : hb ≠ 80) (b82 : hb ≠ 82) (b84 : hb ≠ 84) (e0 : S 79 0 = (hv : Int)) (e1 : S 79 1 = (hs : Int)) (hd : (hv = 80 ∧ hs = 82) ∨ (hv = 82 ∧ hs = 80)) (hm : 0 ≤ most ∧ most ≤ 20000000) (hn : 0 ≤ n ∧ n < 2147483648) (hB : xbl (V hb) ≤ 310000) (hok : pOk most (V hb / 2 ^ (32 * cutc (V hb) most)) (32 * ((cutc (V hb) most : Nat) : Int)) n.toNat (xbl n.toNat) ((1, 0, orI 0 (nany (V hb) (32 * ((cutc (V hb) most : Nat) : Int)) = true)) : PT)) : ∃ w', xRun (d + 5) 83 [Value.ref 79, Value.ref hb, Value.int (Int32.ofInt n), Value.int (Int32.ofInt most)] w (.inl none) w' ∧ ∃ S2 V2 hv2 hs2, cX w0 L Z S2 V2 w' ∧ pS S V S2 V2 hv2 hs2 (V hb / 2 ^ (32 * cutc (V hb) most)) (pF most (V hb / 2 ^ (32 * cutc (V hb) most)) (32 * ((cutc (V hb) most : Nat) : Int)) n.toNat (xbl n.toNat) ((1, 0, orI 0 (nany (V hb) (32 * ((cutc (V hb) most : Nat) : Int)) = true)) : PT)) := by
  have key : ∀ lv, xld lv 0 = some (Value.ref 79) → xld lv 1 = some (Value.ref hb) → xld lv 2 = some (Value.int (Int32.ofInt n)) → xld lv 3 = some (Value.int (Int32.ofInt most)) → xEv (d + 5) 83 0 lv [] w (fun o w' => o = .inl none ∧ ∃ S2 V2 hv2 hs2, cX w0 L Z S2 V2 w' ∧ pS S V S2 V2 hv2 hs2 (V hb / 2 ^ (32 * cutc (V hb) most)) (pF most (V hb / 2 ^ (32 * cutc (V hb) most)) (32 * ((cutc (V hb) most : Nat) : Int)) n.toNat (xbl n.toNat) ((1, 0, orI 0 (nany (V hb) (32 * ((cutc (V hb) most : Nat) : Int)) = true)) : PT))) := by
    intro lv l0 l1 l2 l3
    have khv : kd hv = 3 := by rcases hd with ⟨rfl, rfl⟩ | ⟨rfl, rfl⟩ <;> decide +kernel
    have khs : kd hs = 3 := by rcases hd with ⟨rfl, rfl⟩ | ⟨rfl, rfl⟩ <;> decide +kernel
    have hF : xbl (V hb / 2 ^ (32 * cutc (V hb) most)) ≤ 310000 := Nat.le_trans (xbl_mono (Nat.div_le_self _ _)) hB
    have hnb : xbl n.toNat ≤ 31 := xbl_le (by omega)
    refine i_83_0 (x := 79) l0 ?_
    refine i_83_1 (v := Value.ref 84) (hR.k6 kq_79) rfl ?_
    refine i_83_4 (x := hb) l1 ?_
    obtain ⟨fs, hobj⟩ := hR.nat kq_84
    obtain ⟨w, hrun, hR⟩ := X_set (d := d + 1) (h := 84) (h2 := hb) (u := V hb) hR kq_84 khb (by omega) (rfl) (by omega)
    refine i_83_5 hobj (Nat.le_of_ble_eq_true rfl) hrun ?_
    refine i_83_8 (x := 79) l0 ?_
    refine i_83_9 ?_
    refine i_83_10 (fs2 := f6 (u1 (S 79) 4 0)) (hR.k6 kq_79) rfl (Nat.le_of_ble_eq_true rfl) rfl (h7k kq_79 (by decide)) ?_
    refine xgen (P := cX w0 L Z (u2 S 79 4 0) (uv V 84 (V hb))) (hR.p6 kq_79) (fun w hR => ?_)
    refine i_83_13 (x := 79) l0 ?_
    refine i_83_14 (x := 79) l0 ?_
    refine i_83_15 (v := Value.ref 84) (hR.k6 kq_79) rfl ?_
    refine i_83_18 (x := Int32.ofInt most) l3 ?_
    have hobj := hR.k6 kq_79
    have ecu1 : (u2 S 79 4 0) 79 4 = 0 := by rw [u2_eq, if_pos ⟨rfl, rfl⟩]
    have ev1 : (uv V 84 (V hb)) 84 = V hb := uv_s
    obtain ⟨w, hrun, hR⟩ := x_cut (d := d) (h := 84) (most := most) hR kq_84 (by rw [ecu1]; first | exact orI_01 _ _ | omega) ⟨by omega, by omega⟩
    rw [ev1] at hrun
    rw [ecu1, ev1] at hR
    rw [uvv] at hR
    refine i_83_19 hobj (Nat.le_of_ble_eq_true rfl) hrun ?_
    refine i_83_22 rfl ?_
    refine lgen1 (i := 4) (v := Value.int (Int32.ofInt (32 * ((cutc (V hb) most : Nat) : Int)))) (fun lv lg ls => ?_)
    replace l0 := lg 0 _ rfl rfl l0
    replace l1 := lg 1 _ rfl rfl l1
    replace l2 := lg 2 _ rfl rfl l2
    replace l3 := lg 3 _ rfl rfl l3
    have l4 := ls
    refine i_83_24 (x := 79) l0 ?_
    refine i_83_25 (v := Value.ref ((u2 (u2 S 79 4 0) 79 4 (orI 0 (nany (V hb) (32 * ((cutc (V hb) most : Nat) : Int)) = true))) 79 0).toNat) (hR.k6 kq_79) rfl ?_
    rw [show ((u2 (u2 S 79 4 0) 79 4 (orI 0 (nany (V hb) (32 * ((cutc (V hb) most : Nat) : Int)) = true))) 79 0).toNat = hv by rw [u2_eq, if_neg (fun e => absurd e.2 (by decide)), u2_eq, if_neg (fun e => absurd e.2 (by decide)), e0]; rfl]
    refine i_83_28 ?_
    obtain ⟨fs, hobj⟩ := hR.nat khv
    obtain ⟨w, hrun, hR⟩ := X_setl (d := d + 3) (h := hv) (x := 1) hR khv
    rw [show xul (1) = 1 from rfl] at hR
    refine i_83_29 hobj (Nat.le_of_ble_eq_true rfl) hrun ?_
    refine i_83_32 (x := 79) l0 ?_
    refine i_83_33 ?_
    refine i_83_34 (fs2 := f6 (u1 ((u2 (u2 S 79 4 0) 79 4 (orI 0 (nany (V hb) (32 * ((cutc (V hb) most : Nat) : Int)) = true))) 79) 3 0)) (hR.k6 kq_79) (Nat.le_of_ble_eq_true rfl) rfl (h7k kq_79 (by decide)) ?_
    refine xgen (P := cX w0 L Z (u2 (u2 (u2 S 79 4 0) 79 4 (orI 0 (nany (V hb) (32 * ((cutc (V hb) most : Nat) : Int)) = true))) 79 3 0) (uv (uv V 84 ((V hb) / 2 ^ (32 * cutc (V hb) most))) hv 1)) (hR.p6 kq_79) (fun w hR => ?_)
    refine i_83_37 ?_
    refine i_83_39 (x := Int32.ofInt n) l2 ?_
    have hrun := s_nlz0 (d := d + 4) (w := w) (n := n) (by omega) (by omega)
    refine i_83_40 (Nat.le_of_ble_eq_true rfl) hrun ?_
    refine i_83_43 (c := Int32.ofInt (31 - (32 - (xbl n.toNat : Int)))) (o_sub 31 (32 - (xbl n.toNat : Int))) ?_
    refine i_83_44 rfl ?_
    refine lgen1 (i := 5) (v := Value.int (Int32.ofInt (31 - (32 - (xbl n.toNat : Int))))) (fun lv lg ls => ?_)
    replace l4 := lg 4 _ rfl rfl l4
    replace l0 := lg 0 _ rfl rfl l0
    replace l1 := lg 1 _ rfl rfl l1
    replace l2 := lg 2 _ rfl rfl l2
    replace l3 := lg 3 _ rfl rfl l3
    have l5 := ls
    rw [show 31 - (32 - (xbl n.toNat : Int)) = (xbl n.toNat : Int) + (-1) by omega] at l5
    refine pw_loop (S := S) (V := V) (F := V hb / 2 ^ (32 * cutc (V hb) most)) (x := ((1, 0, orI 0 (nany (V hb) (32 * ((cutc (V hb) most : Nat) : Int)) = true)) : PT)) hm hF ⟨by omega, hn.2⟩ (xbl n.toNat) hnb hR ⟨fun b j hb => by rw [u2_eq, if_neg (fun e => hb e.1), u2_eq, if_neg (fun e => hb e.1), u2_eq, if_neg (fun e => hb e.1)], ?_, ?_, ?_, ?_, ?_, ?_, ?_, hd, orI_01 _ _⟩ hok l0 l2 l3 l4 l5 (fun w' S2 V2 hv2 hs2 hX hp => ⟨rfl, S2, V2, hv2, hs2, hX, hp⟩)
    · rw [u2_eq, if_neg (fun e => absurd e.2 (by decide)), u2_eq, if_neg (fun e => absurd e.2 (by decide)), u2_eq, if_neg (fun e => absurd e.2 (by decide)), e0]
    · rw [u2_eq, if_neg (fun e => absurd e.2 (by decide)), u2_eq, if_neg (fun e => absurd e.2 (by decide)), u2_eq, if_neg (fun e => absurd e.2 (by decide)), e1]
    · rw [u2_eq, if_pos ⟨rfl, rfl⟩]
    · rw [u2_eq, if_neg (fun e => absurd e.2 (by decide)), u2_eq, if_pos ⟨rfl, rfl⟩]
    · exact uv_s
    · exact (uv_n (by omega)).trans (uv_s)
    · exact fun k k1 k2 k3 => by simp only [uv_e]; rw [if_neg (by omega), if_neg (by omega)]
  obtain ⟨o, w', h1, rfl, h2⟩ := (key (lv_args 0 [Value.ref 79, Value.ref hb, Value.int (Int32.ofInt n), Value.int (Int32.ofInt most)]) rfl rfl rfl rfl).run
  exact ⟨w', h1, h2⟩
end
theorem pR_e0 {most : Int} {b n : Nat} (hm : 310000 ≤ most) (hb : 0 < b) (hB : xbl (b ^ n) ≤ 310000) (hb1 : xbl b ≤ 310000) : pR most b n = ((b ^ n, 0, 0) : PT) ∧ pOk most (b / 2 ^ (32 * cutc b most)) (32 * ((cutc b most : Nat) : Int)) n (xbl n) ((1, 0, orI 0 (nany b (32 * ((cutc b most : Nat) : Int)) = true)) : PT) := by
  rcases Nat.eq_zero_or_pos n with z | z
  · have hc : cutc b most = 0 := cutc_0 (by omega)
    unfold pR
    rw [hc, z]
    have e : orI 0 (nany b (32 * ((0 : Nat) : Int)) = true) = 0 := by simp [orI, nany, Nat.mod_one]
    rw [e]
    exact ⟨rfl, trivial⟩
  · exact pR_ex hm hb z hB
section
variable {w0 w : xW} {L Z : Nat} {S : Nat → Nat → Int} {V : Nat → Nat} {d hb n : Nat}
/-- raise without cuts -/
theorem x_raiseE (hR : cX w0 L Z S V w) (khb : kd hb = 3) (b80 : hb ≠ 80) (b82 : hb ≠ 82) (b84 : hb ≠ 84) (hpw : pwP S) (hn : n < 2147483648) (h0 : 0 < V hb) (hB : xbl (V hb ^ n) ≤ 310000) (hB1 : xbl (V hb) ≤ 310000) : ∃ w', xRun (d + 5) 83 [Value.ref 79, Value.ref hb, Value.int (Int32.ofInt (n : Int)), Value.int 16777216] w (.inl none) w' ∧ ∃ S2 V2, ∃ hv : Nat, cX w0 L Z S2 V2 w' ∧ (∀ b j, b ≠ 79 → S2 b j = S b j) ∧ pwP S2 ∧ S2 79 0 = (hv : Int) ∧ (hv = 80 ∨ hv = 82) ∧ V2 hv = V hb ^ n ∧ (∀ i, i ≠ 80 → i ≠ 82 → i ≠ 84 → V2 i = V i) := by
  obtain ⟨hv, hs, e0, e1, hd⟩ : ∃ hv hs : Nat, S 79 0 = (hv : Int) ∧ S 79 1 = (hs : Int) ∧ ((hv = 80 ∧ hs = 82) ∨ (hv = 82 ∧ hs = 80)) := by
    rcases hpw with ⟨a1, a2⟩ | ⟨a1, a2⟩
    · exact ⟨80, 82, a1, a2, Or.inl ⟨rfl, rfl⟩⟩
    · exact ⟨82, 80, a1, a2, Or.inr ⟨rfl, rfl⟩⟩
  obtain ⟨q1, q2⟩ := pR_e0 (most := 16777216) (b := V hb) (n := n) (by decide) h0 hB hB1
  obtain ⟨w', hrun, S2, V2, hv2, hs2, hX, p1, p2, p3, p4, p5, p6, p7, p8, p9, p10⟩ := x_raiseZ (d := d) (n := (n : Int)) (most := 16777216) hR khb b80 b82 b84 e0 e1 hd ⟨by decide, by decide⟩ ⟨by omega, by omega⟩ hB1 q2
  rw [show Int32.ofInt (16777216 : Int) = 16777216 from rfl] at hrun
  have p6' : V2 hv2 = (pR 16777216 (V hb) n).1 := p6
  rw [q1] at p6'
  refine ⟨w', hrun, S2, V2, hv2, hX, p1, ?_, p2, by omega, p6', p8⟩
  unfold pwP
  rw [p2, p3]
  omega
end
theorem q_shr40 {t : Int} (h : -9223372036854775808 ≤ t ∧ t < 9223372036854775808) : (Int64.ofInt t) >>> ((40 : Int32).toInt64 &&& 63) = Int64.ofInt (t / 1099511627776) := q_shr (n := 40) rfl (by decide) h
theorem o_shrk {n k : Nat} (h1 : n < 2147483648) (hk : k < 31) : (Int32.ofInt (n : Int)) >>> (Int32.ofInt (k : Int) &&& 31) = Int32.ofInt ((n / 2 ^ k : Nat) : Int) := by
  have en := oI (k := (n : Int)) (by omega) (by omega)
  have ek := oI (k := (k : Int)) (by omega) (by omega)
  have hs := xi_shr (x := Int32.ofInt (n : Int)) (p := Int32.ofInt (k : Int)) (q := k) (by omega) ek (by omega)
  have hx := xun_i (x := Int32.ofInt (n : Int)) (by omega)
  apply xun_inj
  have h2 := Nat.div_le_self n (2 ^ k)
  have h3 := xun_m ((n / 2 ^ k : Nat) : Int)
  rw [hs, show xun (Int32.ofInt (n : Int)) = n by omega]
  generalize n / 2 ^ k = q at h2 h3 ⊢
  omega
theorem s_ntz {d : Nat} {w : xW} {n : Nat} (h0 : 0 < n) (h1 : n < 2147483648) : ∃ t q : Nat, xRun d 278 [.int (Int32.ofInt (n : Int))] w (.inl (some (.int (Int32.ofInt (t : Int))))) w ∧ n = 2 ^ t * (2 * q + 1) ∧ t < 31 := by
  have en := oI (k := (n : Int)) (by omega) (by omega)
  have hx := xun_i (x := Int32.ofInt (n : Int)) (by omega)
  have hu : xun (Int32.ofInt (n : Int)) = n := by omega
  obtain ⟨t, q, a1, a2, a3⟩ := xntz_n (x := Int32.ofInt (n : Int)) (by omega)
  have h := ntz_run (d := d) (w := w) (x := Int32.ofInt (n : Int)) (by omega)
  rw [hu] at a1 a3
  have hb : xbl n ≤ 31 := xbl_le (by omega)
  have hq : 1 ≤ xbl (2 * q + 1) := (xbl_of (by omega)).2.2
  have e : xntz (Int32.ofInt (n : Int)) = Int32.ofInt (t : Int) := by
    apply Int32.toInt_inj.mp
    rw [a2, oI (by omega) (by omega)]
  rw [e] at h
  exact ⟨t, q, h, a1, by omega⟩
theorem cX.low {w0 w : xW} {L Z : Nat} {S : Nat → Nat → Int} {V : Nat → Nat} (hR : cX w0 L Z S V w) {k : Nat} (hk : k < 7) : w[k]? = w0[k]? := by
  obtain ⟨A, C, B, S0, h, -, -⟩ := hR
  exact h.1 k (Or.inl hk)
def lgt (rx : Nat) : Int := (xlogc.getD rx 0).toInt
theorem lgt_all : (List.range 35).all (fun j => decide (0 < lgt (j + 2) ∧ lgt (j + 2) ≤ 1099511627776) && (decide (2 ^ 16400 ≤ (j + 2) ^ (3 + 16400 * lgt (j + 2) / 1099511627776).toNat) && decide (2 ^ 20600 ≤ (j + 2) ^ (3 - (-20600 * lgt (j + 2)) / 1099511627776).toNat))) = true := by decide +kernel
theorem lgt_ok {rx : Nat} (h : 2 ≤ rx ∧ rx ≤ 36) : (0 < lgt rx ∧ lgt rx ≤ 1099511627776) ∧ 2 ^ 16400 ≤ rx ^ (3 + 16400 * lgt rx / 1099511627776).toNat ∧ 2 ^ 20600 ≤ rx ^ (3 - (-20600 * lgt rx) / 1099511627776).toNat := by
  have := List.all_eq_true.mp lgt_all (rx - 2) (List.mem_range.mpr (by omega))
  rw [show rx - 2 + 2 = rx by omega] at this
  rw [Bool.and_eq_true, Bool.and_eq_true, decide_eq_true_iff, decide_eq_true_iff, decide_eq_true_iff] at this
  exact this
/-- what evaluate makes of digits and shift -/
def evS (p : Int) (rx v : Nat) (sh : Int) (sig : Nat) (O tw : Nat) : Nat × Int × Int :=
  if 2 + 16400 * lgt rx / 1099511627776 < (sig : Int) - 1 + sh then (1, 30000, 0)
  else if (sig : Int) + sh < (-20600 * lgt rx) / 1099511627776 - 2 then (1, -30000, 0)
  else if 0 ≤ sh then (v * O ^ sh.natAbs, (tw : Int) * sh, 0)
  else (v * 2 ^ (max 0 (p + 3 + xbl (O ^ sh.natAbs) - xbl v)).toNat / O ^ sh.natAbs, (tw : Int) * sh - max 0 (p + 3 + xbl (O ^ sh.natAbs) - xbl v), if v * 2 ^ (max 0 (p + 3 + xbl (O ^ sh.natAbs) - xbl v)).toNat % O ^ sh.natAbs = 0 then 0 else 1)
