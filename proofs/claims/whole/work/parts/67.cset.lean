/-! setTo of the class's naturals -/
section
variable {w0 w : xW} {L Z : Nat} {A C B : Nat → Nat} {S S0 : Nat → Nat → Int} {V : Nat → Nat} {h k r d : Nat} {v : Int}
theorem mrow_cp {s s' : Nat → Int} {n : Nat} : xcp (mrow s) (mrow s') 0 0 n = mrow (fun j => if j < n then s j else s' j) := by
  funext j
  by_cases hj : j < n
  · rw [xcp_lo hj]; unfold mrow; dsimp only; rw [if_pos hj]
  · rw [xcp_hi (by omega)]; unfold mrow; dsimp only; rw [if_neg hj]
theorem cR.n3n {n : Nat} (hR : cR w0 L Z A C B S w) (hc : kd h = 3) (hn : S h 1 = n) : w[h]? = some (.inr (3, [.ref (A h), .int (Int32.ofInt (n : Int))])) := by
  have := hR.n3 hc
  unfold vI at this
  rw [hn] at this
  exact this
theorem X_set {h2 u : Nat} (hX : cX w0 L Z S V w) (hc : kd h = 3) (hc2 : kd h2 = 3) (hne : h ≠ h2) (hu : V h2 = u) (hb : xbl u ≤ 640000) : ∃ w', xRun (d + 3) 56 [.ref h, .ref h2] w (.inl none) w' ∧ cX w0 L Z S (uv V h u) w' := by
  obtain ⟨A, C, B, S0, hR, hv, hs⟩ := hX
  have h7 := (kd_o (show kd h < 12 by omega)).1
  have k1 := kd_c hc
  have a1 : h2 ≠ h + 1 := fun g => by rw [← g] at k1; omega
  obtain ⟨n, n1, n2, n3, n4⟩ := hv h2 hc2
  have hsz := nv_size n4
  rw [n3, hu] at hsz
  obtain ⟨w1, A1, C1, B1, S1, r1, hR1, q1, q2, q3⟩ := c_room (d := d) (t := (n : Int)) hR hc (by omega) (by omega)
  have m1 : S1 h2 1 = n := by rw [q3 h2 1 (Or.inl a1)]; exact n1
  have q2' := q2 h2
  have ec : (Int32.ofInt (n : Int)).toInt = (n : Int) := oI (by omega) (by omega)
  have key : xEv (d + 3) 56 0 (lv_args 0 [.ref h, .ref h2]) [] w (fun o w' => o = .inl none ∧ cX w0 L Z S (uv V h u) w') := by
    refine i_56_0 (x := h) rfl ?_
    refine i_56_1 (x := h2) rfl ?_
    refine i_56_2 (v := Value.int (Int32.ofInt (n : Int))) (hR.n3n hc2 n1) rfl ?_
    refine i_56_5 (hR.n3 hc) (Nat.le_of_ble_eq_true rfl) r1 ?_
    refine i_56_8 (x := h2) rfl ?_
    refine i_56_9 (v := Value.ref (A1 h2)) (hR1.n3 hc2) rfl ?_
    refine i_56_12 ?_
    refine i_56_13 (x := h) rfl ?_
    refine i_56_14 (v := Value.ref (A1 h)) (hR1.n3 hc) rfl ?_
    refine i_56_17 ?_
    refine i_56_18 (x := h2) rfl ?_
    refine i_56_19 (v := Value.int (Int32.ofInt (n : Int))) (hR1.n3n hc2 m1) rfl ?_
    refine i_56_22 (hR1.w3 hc2) (hR1.w3 hc) (by decide) (by decide) (by omega) (by show (0 : Int) + _ ≤ _; omega) (by show (0 : Int) + _ ≤ _; omega) (hR1.apart hc).2.2.2.2.1 (fun k hk => ⟨_, rfl⟩) (Nat.le_of_ble_eq_true rfl) ?_
    rw [show (0 : Int32).toInt.toNat = 0 from rfl, show (Int32.ofInt (n : Int)).toInt.toNat = n by omega, mrow_cp]
    refine xgen (P := cR w0 L Z A1 C1 B1 (fun b => bif Nat.beq b (h + 1) then (fun j => if j < n then S1 (h2 + 1) j else S1 (h + 1) j) else S1 b)) (hR1.row hc) (fun w hR2 => ?_)
    have es : ∀ b, b ≠ h + 1 → (fun b => bif Nat.beq b (h + 1) then (fun j => if j < n then S1 (h2 + 1) j else S1 (h + 1) j) else S1 b) b = S1 b := fun b hb => by show (bif Nat.beq b (h + 1) then _ else S1 b) = S1 b; rw [beq_ne hb]; rfl
    have e1 : (fun b => bif Nat.beq b (h + 1) then (fun j => if j < n then S1 (h2 + 1) j else S1 (h + 1) j) else S1 b) (h + 1) = fun j => if j < n then S1 (h2 + 1) j else S1 (h + 1) j := by show (bif Nat.beq (h + 1) (h + 1) then _ else _) = _; rw [Nat.beq_refl]; rfl
    generalize (fun b => bif Nat.beq b (h + 1) then (fun j => if j < n then S1 (h2 + 1) j else S1 (h + 1) j) else S1 b) = S2 at hR2 es e1
    refine i_56_25 (x := h) rfl ?_
    refine i_56_26 (x := h2) rfl ?_
    refine i_56_27 (v := Value.int (Int32.ofInt (n : Int))) (hR2.n3n hc2 (by rw [es h2 a1]; exact m1)) rfl ?_
    refine i_56_30 (fs2 := [Value.ref (A1 h), Value.int (Int32.ofInt (n : Int))]) (hR2.n3 hc) (Nat.le_of_ble_eq_true rfl) rfl h7 ?_
    have hw : ∀ j, j < n → S2 (h + 1) j = S0 (h2 + 1) j := fun j hj => by
      rw [e1]
      dsimp only
      rw [if_pos hj, q3 (h2 + 1) j (by omega)]
    refine i_56_33 ⟨rfl, cX.close hv hs hc (hR2.set1 (v := (n : Int)) hc rfl) q2 (fun b j g1 g2 => ?_) ⟨n, by rw [u2_s, u1_s], by omega, ?_, ?_⟩⟩
    · rw [u2_n g1, es b g2, q3 b j (Or.inl g2)]
    · rw [u2_n (by omega), cv_same hw, n3, hu]
    · rw [u2_n (by omega)]
      rcases Nat.eq_zero_or_pos n with g | g
      · exact Or.inl g
      · refine Or.inr ?_
        rw [show cw (S2 (h + 1)) (n - 1) = cw (S0 (h2 + 1)) (n - 1) by unfold cw; rw [hw (n - 1) (by omega)]]
        rcases n4 with n4 | n4
        · omega
        · exact n4
  obtain ⟨o, w', h1, rfl, h2⟩ := key.run
  exact ⟨w', h1, h2⟩
end
