/-! raise of the class's powers: the loop, the whole -/
section
variable {w0 : xW} {L Z : Nat} {S : Nat → Nat → Int} {V : Nat → Nat} {d F : Nat} {Q : Option Value ⊕ Nat → xW → Prop} {most n sF : Int}
theorem pw_loop (hm : 0 ≤ most ∧ most ≤ 20000000) (hF : xbl F ≤ 310000) (hn : 0 ≤ n ∧ n < 2147483648) : ∀ (i : Nat) {hv hs : Nat} {x : PT} {lv : xLv} {w : xW} {S1 : Nat → Nat → Int} {V1 : Nat → Nat}, i ≤ 31 → cX w0 L Z S1 V1 w → pS S V S1 V1 hv hs F x → pOk most F sF n.toNat i x → xld lv 0 = some (Value.ref 79) → xld lv 2 = some (Value.int (Int32.ofInt n)) → xld lv 3 = some (Value.int (Int32.ofInt most)) → xld lv 4 = some (Value.int (Int32.ofInt sF)) → xld lv 5 = some (.int (Int32.ofInt ((i : Int) + (-1)))) → (∀ w' S2 V2 hv' hs', cX w0 L Z S2 V2 w' → pS S V S2 V2 hv' hs' F (pF most F sF n.toNat i x) → Q (.inl none) w') → xEv (d + 5) 83 46 lv [] w Q := by
  intro i
  induction i with
  | zero =>
    intro hv hs x lv w S1 V1 hi hR hp hok l0 l2 l3 l4 l5 hQ
    refine i_83_46 l5 ?_
    refine i_83_48 (fun _ => ?_) (fun g => absurd g (by decide))
    exact i_83_144 (hQ w S1 V1 hv hs hR hp)
  | succ i ih =>
    intro hv hs x lv w S1 V1 hi hR hp hok l0 l2 l3 l4 l5 hQ
    obtain ⟨o1, o2, o3⟩ := hok
    rw [show ((i + 1 : Nat) : Int) + (-1) = (i : Int) by omega] at l5
    refine i_83_46 l5 ?_
    refine i_83_48 (z_lt (a := (i : Int)) ⟨by omega, by omega⟩ fun g => absurd g (by omega)) (fun _ => ?_)
    refine pw_sq (sF := sF) hR hp o1 hm l0 l3 l4 (fun w S2 V2 hR hp => ?_)
    have fin : ∀ (hv hs : Nat) (y : PT) (w : xW) (S2 : Nat → Nat → Int) (V2 : Nat → Nat), cX w0 L Z S2 V2 w → pS S V S2 V2 hv hs F y → y = pSt most F sF (n.toNat / 2 ^ i % 2) x → xEv (d + 5) 83 138 lv [] w Q := by
      intro hv hs y w S2 V2 hR hp hy
      subst hy
      refine i_83_138 l5 (o_dec (i : Int)) rfl ?_
      refine lgen1 (i := 5) (v := Value.int (Int32.ofInt ((i : Int) + (-1)))) (fun lv lg ls => ?_)
      refine i_83_141 ?_
      exact ih (by omega) hR hp o3 (lg 0 _ rfl rfl l0) (lg 2 _ rfl rfl l2) (lg 3 _ rfl rfl l3) (lg 4 _ rfl rfl l4) ls hQ
    refine i_83_89 l2 ?_
    refine i_83_90 l5 ?_
    refine i_83_92 rfl ?_
    refine i_83_93 ?_
    refine i_83_94 (o_ubit hn.1 hn.2 (by omega)) ?_
    have hb := Nat.mod_lt (n.toNat / 2 ^ i) (show 0 < 2 by decide)
    obtain ⟨b, hbe⟩ : ∃ b, b = n.toNat / 2 ^ i % 2 := ⟨_, rfl⟩
    rw [← hbe] at hb fin ⊢
    refine i_83_95 (z_eq (a := (b : Int)) ⟨by omega, by omega⟩ fun g => ?_) (z_ne (a := (b : Int)) ⟨by omega, by omega⟩ fun g => ?_)
    · exact fin _ _ _ w S2 V2 hR hp (by unfold pSt; rw [if_pos (by omega)])
    · refine pw_mu (sF := sF) hR hp o2 hF hm l0 l3 l4 (fun w S2 V2 hR hp => ?_)
      exact fin _ _ _ w S2 V2 hR hp (by unfold pSt; rw [if_neg (by omega)])
end
section
variable {w0 w : xW} {L Z : Nat} {S : Nat → Nat → Int} {V : Nat → Nat} {d hv hs hb : Nat}
set_option maxHeartbeats 4000000 in
theorem x_raise {n most : Int} (hR : cX w0 L Z S V w) (khb : kd hb = 3) (b80 : hb ≠ 80) (b82 : hb ≠ 82) (b84 : hb ≠ 84) (e0 : S 79 0 = (hv : Int)) (e1 : S 79 1 = (hs : Int)) (hd : (hv = 80 ∧ hs = 82) ∨ (hv = 82 ∧ hs = 80)) (hm : 0 ≤ most ∧ most ≤ 20000000) (hn : 0 < n ∧ n < 2147483648) (hB : xbl (V hb) ≤ 310000) (hok : pOk most (V hb / 2 ^ (32 * cutc (V hb) most)) (32 * ((cutc (V hb) most : Nat) : Int)) n.toNat (xbl n.toNat) ((1, 0, orI 0 (nany (V hb) (32 * ((cutc (V hb) most : Nat) : Int)) = true)) : PT)) : ∃ w', xRun (d + 5) 83 [Value.ref 79, Value.ref hb, Value.int (Int32.ofInt n), Value.int (Int32.ofInt most)] w (.inl none) w' ∧ ∃ S2 V2 hv2 hs2, cX w0 L Z S2 V2 w' ∧ pS S V S2 V2 hv2 hs2 (V hb / 2 ^ (32 * cutc (V hb) most)) (pF most (V hb / 2 ^ (32 * cutc (V hb) most)) (32 * ((cutc (V hb) most : Nat) : Int)) n.toNat (xbl n.toNat) ((1, 0, orI 0 (nany (V hb) (32 * ((cutc (V hb) most : Nat) : Int)) = true)) : PT)) := by
  have key : ∀ lv, xld lv 0 = some (Value.ref 79) → xld lv 1 = some (Value.ref hb) → xld lv 2 = some (Value.int (Int32.ofInt n)) → xld lv 3 = some (Value.int (Int32.ofInt most)) → xEv (d + 5) 83 0 lv [] w (fun o w' => o = .inl none ∧ ∃ S2 V2 hv2 hs2, cX w0 L Z S2 V2 w' ∧ pS S V S2 V2 hv2 hs2 (V hb / 2 ^ (32 * cutc (V hb) most)) (pF most (V hb / 2 ^ (32 * cutc (V hb) most)) (32 * ((cutc (V hb) most : Nat) : Int)) n.toNat (xbl n.toNat) ((1, 0, orI 0 (nany (V hb) (32 * ((cutc (V hb) most : Nat) : Int)) = true)) : PT))) := by
    intro lv l0 l1 l2 l3
    have khv : kd hv = 3 := by rcases hd with ⟨rfl, rfl⟩ | ⟨rfl, rfl⟩ <;> decide +kernel
    have khs : kd hs = 3 := by rcases hd with ⟨rfl, rfl⟩ | ⟨rfl, rfl⟩ <;> decide +kernel
    have hF : xbl (V hb / 2 ^ (32 * cutc (V hb) most)) ≤ 310000 := Nat.le_trans (xbl_mono (Nat.div_le_self _ _)) hB
    have hnb : xbl n.toNat ≤ 31 := xbl_le (by omega)
    refine i_83_0 (x := 79) l0 ?_
    refine i_83_1 (v := Value.ref 84) (hR.k6 kq_79) rfl ?_
    refine i_83_4 (x := hb) l1 ?_
    obtain ⟨fs, hobj⟩ := hR.nat kq_84
    obtain ⟨w, hrun, hR⟩ := X_set (d := d + 1) (h := 84) (h2 := hb) (u := V hb) hR kq_84 khb (by omega) (rfl) (by omega)
    refine i_83_5 hobj (Nat.le_of_ble_eq_true rfl) hrun ?_
    refine i_83_8 (x := 79) l0 ?_
    refine i_83_9 ?_
    refine i_83_10 (fs2 := f6 (u1 (S 79) 4 0)) (hR.k6 kq_79) rfl (Nat.le_of_ble_eq_true rfl) rfl (h7k kq_79 (by decide)) ?_
    refine xgen (P := cX w0 L Z (u2 S 79 4 0) (uv V 84 (V hb))) (hR.p6 kq_79) (fun w hR => ?_)
    refine i_83_13 (x := 79) l0 ?_
    refine i_83_14 (x := 79) l0 ?_
    refine i_83_15 (v := Value.ref 84) (hR.k6 kq_79) rfl ?_
    refine i_83_18 (x := Int32.ofInt most) l3 ?_
    have hobj := hR.k6 kq_79
    have ecu1 : (u2 S 79 4 0) 79 4 = 0 := by rw [u2_eq, if_pos ⟨rfl, rfl⟩]
    have ev1 : (uv V 84 (V hb)) 84 = V hb := uv_s
    obtain ⟨w, hrun, hR⟩ := x_cut (d := d) (h := 84) (most := most) hR kq_84 (by rw [ecu1]; first | exact orI_01 _ _ | omega) ⟨by omega, by omega⟩
    rw [ev1] at hrun
    rw [ecu1, ev1] at hR
    rw [uvv] at hR
    refine i_83_19 hobj (Nat.le_of_ble_eq_true rfl) hrun ?_
    refine i_83_22 rfl ?_
    refine lgen1 (i := 4) (v := Value.int (Int32.ofInt (32 * ((cutc (V hb) most : Nat) : Int)))) (fun lv lg ls => ?_)
    replace l0 := lg 0 _ rfl rfl l0
    replace l1 := lg 1 _ rfl rfl l1
    replace l2 := lg 2 _ rfl rfl l2
    replace l3 := lg 3 _ rfl rfl l3
    have l4 := ls
    refine i_83_24 (x := 79) l0 ?_
    refine i_83_25 (v := Value.ref ((u2 (u2 S 79 4 0) 79 4 (orI 0 (nany (V hb) (32 * ((cutc (V hb) most : Nat) : Int)) = true))) 79 0).toNat) (hR.k6 kq_79) rfl ?_
    rw [show ((u2 (u2 S 79 4 0) 79 4 (orI 0 (nany (V hb) (32 * ((cutc (V hb) most : Nat) : Int)) = true))) 79 0).toNat = hv by rw [u2_eq, if_neg (fun e => absurd e.2 (by decide)), u2_eq, if_neg (fun e => absurd e.2 (by decide)), e0]; rfl]
    refine i_83_28 ?_
    obtain ⟨fs, hobj⟩ := hR.nat khv
    obtain ⟨w, hrun, hR⟩ := X_setl (d := d + 3) (h := hv) (x := 1) hR khv
    rw [show xul (1) = 1 from rfl] at hR
    refine i_83_29 hobj (Nat.le_of_ble_eq_true rfl) hrun ?_
    refine i_83_32 (x := 79) l0 ?_
    refine i_83_33 ?_
    refine i_83_34 (fs2 := f6 (u1 ((u2 (u2 S 79 4 0) 79 4 (orI 0 (nany (V hb) (32 * ((cutc (V hb) most : Nat) : Int)) = true))) 79) 3 0)) (hR.k6 kq_79) (Nat.le_of_ble_eq_true rfl) rfl (h7k kq_79 (by decide)) ?_
    refine xgen (P := cX w0 L Z (u2 (u2 (u2 S 79 4 0) 79 4 (orI 0 (nany (V hb) (32 * ((cutc (V hb) most : Nat) : Int)) = true))) 79 3 0) (uv (uv V 84 ((V hb) / 2 ^ (32 * cutc (V hb) most))) hv 1)) (hR.p6 kq_79) (fun w hR => ?_)
    refine i_83_37 ?_
    refine i_83_39 (x := Int32.ofInt n) l2 ?_
    have hrun := s_nlz (d := d + 4) (w := w) (n := n) (by omega) (by omega)
    refine i_83_40 (Nat.le_of_ble_eq_true rfl) hrun ?_
    refine i_83_43 (c := Int32.ofInt (31 - (32 - (xbl n.toNat : Int)))) (o_sub 31 (32 - (xbl n.toNat : Int))) ?_
    refine i_83_44 rfl ?_
    refine lgen1 (i := 5) (v := Value.int (Int32.ofInt (31 - (32 - (xbl n.toNat : Int))))) (fun lv lg ls => ?_)
    replace l4 := lg 4 _ rfl rfl l4
    replace l0 := lg 0 _ rfl rfl l0
    replace l1 := lg 1 _ rfl rfl l1
    replace l2 := lg 2 _ rfl rfl l2
    replace l3 := lg 3 _ rfl rfl l3
    have l5 := ls
    rw [show 31 - (32 - (xbl n.toNat : Int)) = (xbl n.toNat : Int) + (-1) by omega] at l5
    refine pw_loop (S := S) (V := V) (F := V hb / 2 ^ (32 * cutc (V hb) most)) (x := ((1, 0, orI 0 (nany (V hb) (32 * ((cutc (V hb) most : Nat) : Int)) = true)) : PT)) hm hF ⟨by omega, hn.2⟩ (xbl n.toNat) hnb hR ⟨fun b j hb => by rw [u2_eq, if_neg (fun e => hb e.1), u2_eq, if_neg (fun e => hb e.1), u2_eq, if_neg (fun e => hb e.1)], ?_, ?_, ?_, ?_, ?_, ?_, ?_, hd, orI_01 _ _⟩ hok l0 l2 l3 l4 l5 (fun w' S2 V2 hv2 hs2 hX hp => ⟨rfl, S2, V2, hv2, hs2, hX, hp⟩)
    · rw [u2_eq, if_neg (fun e => absurd e.2 (by decide)), u2_eq, if_neg (fun e => absurd e.2 (by decide)), u2_eq, if_neg (fun e => absurd e.2 (by decide)), e0]
    · rw [u2_eq, if_neg (fun e => absurd e.2 (by decide)), u2_eq, if_neg (fun e => absurd e.2 (by decide)), u2_eq, if_neg (fun e => absurd e.2 (by decide)), e1]
    · rw [u2_eq, if_pos ⟨rfl, rfl⟩]
    · rw [u2_eq, if_neg (fun e => absurd e.2 (by decide)), u2_eq, if_pos ⟨rfl, rfl⟩]
    · exact uv_s
    · exact (uv_n (by omega)).trans (uv_s)
    · exact fun k k1 k2 k3 => by simp only [uv_e]; rw [if_neg (by omega), if_neg (by omega)]
  obtain ⟨o, w', h1, rfl, h2⟩ := (key (lv_args 0 [Value.ref 79, Value.ref hb, Value.int (Int32.ofInt n), Value.int (Int32.ofInt most)]) rfl rfl rfl rfl).run
  exact ⟨w', h1, h2⟩
end
