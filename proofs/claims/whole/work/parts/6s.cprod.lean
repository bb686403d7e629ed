/-! setProduct of the class's naturals -/
section
variable {w0 w : xW} {L Z : Nat} {A C B : Nat → Nat} {S S0 : Nat → Nat → Int} {V : Nat → Nat} {h ha hb r d : Nat} {v p : Int}
theorem pr_loop (hc : kd h = 3) (hca : kd ha = 3) (hcb : kd hb = 3) (hnea : ha ≠ h) (hneb : hb ≠ h) {n m : Nat} {a b : Nat → Int} (hnm : n + m ≤ C h) (hm : m ≤ C hb) (hn : n ≤ C ha) {Q : Option Value ⊕ Nat → xW → Prop} : ∀ (t : Nat) {i : Nat} {lv : xLv} {w : xW} {S : Nat → Nat → Int}, cR w0 L Z A C B S w → S hb 1 = m → (∀ j, j < n → S (ha + 1) j = a j) → (∀ j, j < m → S (hb + 1) j = b j) → i + t = n → cv (S (h + 1)) (i + m) = cv a i * cv b m → (∀ j, i + m ≤ j → j < n + m → S (h + 1) j = 0) → xld lv 0 = some (.ref h) → xld lv 1 = some (.ref ha) → xld lv 2 = some (.ref hb) → xld lv 3 = some (.int (Int32.ofInt (n : Int))) → xld lv 4 = some (.int (Int32.ofInt (m : Int))) → xld lv 5 = some (.int (Int32.ofInt (i : Int))) →
    (∀ lv' w' S', cR w0 L Z A C B S' w' → (∀ b j, b ≠ h + 1 → S' b j = S b j) → cv (S' (h + 1)) (n + m) = cv a n * cv b m → xld lv' 0 = some (.ref h) → xld lv' 3 = some (.int (Int32.ofInt (n : Int))) → xld lv' 4 = some (.int (Int32.ofInt (m : Int))) → xEv (d + 1) 69 72 lv' [] w' Q) → xEv (d + 1) 69 35 lv [] w Q := by
  have hza : ha ≠ h + 1 := fun g => by have := kd_c hc; rw [← g] at this; omega
  have hzb : hb ≠ h + 1 := fun g => by have := kd_c hc; rw [← g] at this; omega
  intro t
  induction t with
  | zero =>
    intro i lv w S hR m1 ea eb hi hv hz0 l0 l1 l2 l3 l4 l5 hQ
    have hcap := hR.cap hc
    have e1 : i = n := by omega
    subst e1
    refine i_69_35 l5 ?_
    refine i_69_37 l3 ?_
    refine i_69_38 (fun _ => ?_) (fun g => absurd g (by omega))
    exact hQ lv w S hR (fun _ _ _ => rfl) hv l0 l3 l4
  | succ t ih =>
    intro i lv w S hR m1 ea eb hi hv hz0 l0 l1 l2 l3 l4 l5 hQ
    have hcap := hR.cap hc
    have hcapa := hR.cap hca
    have hcapb := hR.cap hcb
    refine i_69_35 (x := Int32.ofInt (i : Int)) l5 ?_
    refine i_69_37 (x := Int32.ofInt (n : Int)) l3 ?_
    refine i_69_38 (b_le (a := (n : Int)) (b := (i : Int)) ⟨by omega, by omega⟩ ⟨by omega, by omega⟩ fun c0 => absurd c0 (by omega)) (b_lt (a := (i : Int)) (b := (n : Int)) ⟨by omega, by omega⟩ ⟨by omega, by omega⟩ fun c0 => ?_)
    refine i_69_41 (x := h) l0 ?_
    refine i_69_42 (v := Value.ref (A h)) (hR.n3 hc) rfl ?_
    refine i_69_45 (x := Int32.ofInt (i : Int)) l5 ?_
    refine i_69_47 (x := Int32.ofInt (m : Int)) l4 ?_
    refine i_69_49 (c := Int32.ofInt ((i : Int) + (m : Int))) (o_add (i : Int) (m : Int)) ?_
    refine i_69_50 (x := h) l0 ?_
    refine i_69_51 (x := Int32.ofInt (i : Int)) l5 ?_
    refine i_69_53 (x := hb) l2 ?_
    refine i_69_54 ?_
    refine i_69_55 (x := ha) l1 ?_
    refine i_69_56 (v := Value.ref (A ha)) (hR.n3 hca) rfl ?_
    refine i_69_59 (x := Int32.ofInt (i : Int)) l5 ?_
    refine i_69_61 (v := Value.int (Int32.ofInt (S (ha + 1) i))) (hR.w3 hca) (ix0 (T := (i : Int)) (by omega) (by omega)) (ix1 (T := (i : Int)) (by omega) (by omega) (by omega)) (ra (T := (i : Int)) (by omega) (by omega) (congrArg _ rfl)) ?_
    have hobj := hR.n3 hc
    obtain ⟨w, S1, y, hrun, hR, y1, y2, y3⟩ := c_addRow (d := d) (m := m) (f := 0) (q0 := i) (pl := (i : Int)) (fz := S (ha + 1) i) hR hc hcb (Ne.symm hneb) m1 hm (by omega) (by omega) (by omega)
    replace m1 : S1 hb 1 = m := by rw [y2 _ _ (Or.inl (by omega))]; exact m1
    refine i_69_62 hobj (Nat.le_of_ble_eq_true rfl) hrun ?_
    refine i_69_65 (hR.w3 hc) (ix0 (T := (i : Int) + (m : Int)) (by omega) (by omega)) (ix1 (T := (i : Int) + (m : Int)) (by omega) (by omega) (by omega)) (hR.apart hc).2.2.2.2.1 rfl ?_
    rw [ixn (T := (i : Int) + (m : Int)) (by omega) (by omega), show ((i : Int) + (m : Int)).toNat = i + m from (by omega)]
    refine xgen (P := cR w0 L Z A C B (u2 S1 (h + 1) (i + m) (y : Int))) (hR.arr hc rfl) (fun w hR => ?_)
    replace m1 : (u2 S1 (h + 1) (i + m) (y : Int)) hb 1 = ((m : Nat) : Int) := by rw [u2_n (by omega)]; exact m1
    refine i_69_66 (x := (Int32.ofInt (i : Int))) (c := (Int32.ofInt ((i : Int) + 1))) l5 (o_add (i : Int) 1) rfl ?_
    refine lgen1 (i := 5) (v := Value.int (Int32.ofInt ((i : Int) + 1))) (fun lv lg ls => ?_)
    replace l0 := lg 0 _ rfl rfl l0
    replace l1 := lg 1 _ rfl rfl l1
    replace l2 := lg 2 _ rfl rfl l2
    replace l3 := lg 3 _ rfl rfl l3
    replace l4 := lg 4 _ rfl rfl l4
    have l5 := ls
    refine i_69_69 ?_
    refine ih (i := i + 1) hR m1 (fun j hj => by rw [u2_n (by omega), y2 _ _ (Or.inl (by omega))]; exact ea j hj) (fun j hj => by rw [u2_n (by omega), y2 _ _ (Or.inl (by omega))]; exact eb j hj) (by omega) ?_ (fun j g1 g2 => by rw [u2_s, u1_n (by omega), y2 _ _ (by omega)]; exact hz0 j (by omega) g2) l0 l1 l2 l3 l4 l5 (fun lv' w' S' q1 q2 q3 q4 q5 q6 => hQ lv' w' S' q1 (fun b j hb => by rw [q2 b j hb, u2_n hb, y2 _ _ (Or.inl hb)]) q3 q4 q5 q6)
    have en : i + 1 + m = i + m + 1 := by omega
    rw [en, u2_s, cv_set rfl, Nat.mod_eq_of_lt y1, y3, hv]
    show _ = (cv a i + cw a i * 2 ^ (32 * i)) * cv b m
    rw [Nat.add_mul, show cv (fun i => S (hb + 1) (0 + i)) (m - 0) = cv b m from cv_same (fun j hj => by rw [Nat.zero_add]; exact eb j hj), show (S (ha + 1) i % 4294967296).toNat = cw a i by unfold cw; rw [ea i (by omega)], Nat.add_zero, Nat.mul_right_comm (cw a i), Nat.mul_comm (cw a i)]
theorem X_prod {u v2 : Nat} (hX : cX w0 L Z S V w) (hc : kd h = 3) (hca : kd ha = 3) (hcb : kd hb = 3) (hnea : ha ≠ h) (hneb : hb ≠ h) (hu : V ha = u) (hu2 : V hb = v2) (hbd : xbl u + xbl v2 ≤ 638000) : ∃ w', xRun (d + 3) 69 [.ref h, .ref ha, .ref hb] w (.inl none) w' ∧ cX w0 L Z S (uv V h (u * v2)) w' := by
  obtain ⟨A, C, B, S0, hR, hv, hs⟩ := hX
  obtain ⟨n, n1, n2, n3, n4⟩ := hv ha hca
  obtain ⟨m, m1, m2, m3, m4⟩ := hv hb hcb
  rw [hu] at n3
  rw [hu2] at m3
  have hza : ha ≠ h + 1 := fun g => by have := kd_c hc; rw [← g] at this; omega
  have hzb : hb ≠ h + 1 := fun g => by have := kd_c hc; rw [← g] at this; omega
  have hcapa := hR.cap hca
  have hcapb := hR.cap hcb
  have hsz : n = (xbl u + 31) / 32 := by rw [← n3]; exact nv_size n4
  have hsz2 : m = (xbl v2 + 31) / 32 := by rw [← m3]; exact nv_size m4
  obtain ⟨w1, A1, C1, B1, S1, r1, hR1, p1, p2, p3⟩ := c_room (d := d) (t := (n : Int) + (m : Int)) hR hc (by omega) (by omega)
  have hcap1 := hR1.cap hc
  obtain ⟨w2, S2, r2, hR2, f1, f2⟩ := c_fill (d := d + 1) (t := n + m) (z := 0) hR1 hc (by omega)
  rw [Int.natCast_add] at r2
  have om1 : S2 hb 1 = m := by rw [f1 _ _ (Or.inl hzb), p3 _ _ (Or.inl hzb)]; exact m1
  have key : ∀ lv, xld lv 0 = some (.ref h) → xld lv 1 = some (.ref ha) → xld lv 2 = some (.ref hb) → xEv (d + 3) 69 0 lv [] w (fun o w' => o = .inl none ∧ cX w0 L Z S (uv V h (u * v2)) w') := by
    intro lv l0 l1 l2
    refine i_69_0 (x := ha) l1 ?_
    refine i_69_1 (v := Value.int (Int32.ofInt (n : Int))) (hR.n3n hca n1) rfl ?_
    refine i_69_4 rfl ?_
    refine lgen1 (i := 3) (v := Value.int (Int32.ofInt (n : Int))) (fun lv lg ls => ?_)
    replace l0 := lg 0 _ rfl rfl l0
    replace l1 := lg 1 _ rfl rfl l1
    replace l2 := lg 2 _ rfl rfl l2
    have l3 := ls
    refine i_69_5 (x := hb) l2 ?_
    refine i_69_6 (v := Value.int (Int32.ofInt (m : Int))) (hR.n3n hcb m1) rfl ?_
    refine i_69_9 rfl ?_
    refine lgen1 (i := 4) (v := Value.int (Int32.ofInt (m : Int))) (fun lv lg ls => ?_)
    replace l3 := lg 3 _ rfl rfl l3
    replace l0 := lg 0 _ rfl rfl l0
    replace l1 := lg 1 _ rfl rfl l1
    replace l2 := lg 2 _ rfl rfl l2
    have l4 := ls
    refine i_69_11 (x := h) l0 ?_
    refine i_69_12 (x := Int32.ofInt (n : Int)) l3 ?_
    refine i_69_13 (x := Int32.ofInt (m : Int)) l4 ?_
    refine i_69_15 (c := Int32.ofInt ((n : Int) + (m : Int))) (o_add (n : Int) (m : Int)) ?_
    have hobj := hR.n3 hc
    have hrun := r1
    replace hR := hR1
    refine i_69_16 hobj (Nat.le_of_ble_eq_true rfl) hrun ?_
    refine i_69_19 (x := h) l0 ?_
    refine i_69_20 (v := Value.ref (A1 h)) (hR.n3 hc) rfl ?_
    refine i_69_23 ?_
    refine i_69_24 (x := Int32.ofInt (n : Int)) l3 ?_
    refine i_69_25 (x := Int32.ofInt (m : Int)) l4 ?_
    refine i_69_27 (c := Int32.ofInt ((n : Int) + (m : Int))) (o_add (n : Int) (m : Int)) ?_
    refine i_69_28 ?_
    have hrun := r2
    replace hR := hR2
    refine i_69_29 (Nat.le_of_ble_eq_true rfl) hrun ?_
    refine i_69_32 ?_
    refine i_69_33 rfl ?_
    refine lgen1 (i := 5) (v := Value.int 0) (fun lv lg ls => ?_)
    replace l4 := lg 4 _ rfl rfl l4
    replace l3 := lg 3 _ rfl rfl l3
    replace l0 := lg 0 _ rfl rfl l0
    replace l1 := lg 1 _ rfl rfl l1
    replace l2 := lg 2 _ rfl rfl l2
    have l5 := ls
    refine pr_loop (d := d + 2) (a := S0 (ha + 1)) (b := S0 (hb + 1)) hc hca hcb hnea hneb (by omega) (Nat.le_trans m2 (p2 hb)) (Nat.le_trans n2 (p2 ha)) n (i := 0) hR om1 (fun j hj => by rw [f1 _ _ (Or.inl (by omega)), p3 _ _ (Or.inl (by omega))]) (fun j hj => by rw [f1 _ _ (Or.inl (by omega)), p3 _ _ (Or.inl (by omega))]) (by omega) ?_ (fun j g1 g2 => f2 j (by omega)) l0 l1 l2 l3 l4 l5 (fun lv w S' hR q2 q3 l0 l3 l4 => ?_)
    · rw [cv_none (fun j hj => by unfold cw; rw [f2 j (by omega)]; rfl)]
      show 0 = 0 * _
      rw [Nat.zero_mul]
    · refine i_69_72 (x := h) l0 ?_
      refine i_69_73 (x := Int32.ofInt (n : Int)) l3 ?_
      refine i_69_74 (x := Int32.ofInt (m : Int)) l4 ?_
      refine i_69_76 (c := Int32.ofInt ((n : Int) + (m : Int))) (o_add (n : Int) (m : Int)) ?_
      refine i_69_77 (fs2 := [Value.ref (A1 h), Value.int (Int32.ofInt ((n : Int) + (m : Int)))]) (hR.n3 hc) (Nat.le_of_ble_eq_true rfl) rfl (kd_o (show kd h < 12 by omega)).1 ?_
      refine xgen (P := cR w0 L Z A1 C1 B1 (u2 S' h 1 ((n : Int) + (m : Int)))) (hR.set1 (v := (n : Int) + (m : Int)) hc rfl) (fun w hR => ?_)
      refine i_69_80 (x := h) l0 ?_
      obtain ⟨w2, hrun, hX2⟩ := X_trim (d := d + 2) (n := n + m) (u := u * v2) hv hs hc hR p2 (fun b j g1 g2 => by rw [u2_n g1, q2 b j g2, f1 _ _ (Or.inl g2), p3 _ _ (Or.inl g2)]) (by rw [u2_s, u1_s, Int.natCast_add]) (by omega) (by rw [u2_n (by omega), q3, n3, m3])
      have hobj := hR.n3 hc
      refine i_69_81 hobj (Nat.le_of_ble_eq_true rfl) hrun ?_
      refine i_69_84 ?_
      exact ⟨rfl, hX2⟩
  obtain ⟨o, w', h1, rfl, h2⟩ := (key (lv_args 0 [.ref h, .ref ha, .ref hb]) rfl rfl rfl).run
  exact ⟨w', h1, h2⟩
end
