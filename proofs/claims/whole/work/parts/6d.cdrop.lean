/-! drop of the class's naturals -/
theorem mrow_cpk {s : Nat → Int} {k c : Nat} : xcp (mrow s) (mrow s) k 0 c = mrow (fun j => if j < c then s (k + j) else s j) := by
  funext j
  by_cases hj : j < c
  · have e : xcp (mrow s) (mrow s) k 0 c j = mrow s (k + j) := by
      refine xcp_i ?_ (by rw [Nat.sub_zero])
      rw [Nat.zero_add, Bool.and_eq_true]
      exact ⟨Nat.ble_eq_true_of_le (Nat.zero_le _), Nat.ble_eq_true_of_le hj⟩
    rw [e]; unfold mrow; dsimp only; rw [if_pos hj]
  · have e : xcp (mrow s) (mrow s) k 0 c j = mrow s j := by
      refine xcp_o ?_ rfl
      rw [Nat.zero_add, Bool.and_eq_false_iff]
      refine Or.inr ?_
      cases e : Nat.blt j c with
      | false => rfl
      | true => have : j + 1 ≤ c := Nat.le_of_ble_eq_true e
                omega
    rw [e]; unfold mrow; dsimp only; rw [if_neg hj]
theorem cv_cut {s : Nat → Int} {k c : Nat} : cv s (k + c) = cv s k + cv (fun j => s (k + j)) c * 2 ^ (32 * k) := by
  induction c with
  | zero => show cv s k = cv s k + 0 * _; rw [Nat.zero_mul, Nat.add_zero]
  | succ c ih =>
    show cv s (k + c) + cw s (k + c) * 2 ^ (32 * (k + c)) = cv s k + (cv (fun j => s (k + j)) c + cw (fun j => s (k + j)) c * 2 ^ (32 * c)) * 2 ^ (32 * k)
    rw [ih, Nat.add_mul, Nat.mul_assoc (cw _ c), ← Nat.pow_add, show 32 * c + 32 * k = 32 * (k + c) by omega, Nat.add_assoc]
    rfl
theorem cv_drop {s : Nat → Int} {k c : Nat} : cv (fun j => s (k + j)) c = cv s (k + c) / 2 ^ (32 * k) := by
  rw [cv_cut, Nat.add_mul_div_right _ _ (Nat.two_pow_pos _), Nat.div_eq_of_lt cv_lt, Nat.zero_add]
section
variable {w0 w : xW} {L Z : Nat} {A C B : Nat → Nat} {S S0 : Nat → Nat → Int} {V : Nat → Nat} {h h2 k r d : Nat} {v : Int}
theorem X_drop {t u : Nat} (hX : cX w0 L Z S V w) (hc : kd h = 3) (hu : V h = u) (ht : t ≤ (xbl u + 31) / 32) : ∃ w', xRun (d + 1) 85 [.ref h, .int (Int32.ofInt (t : Int))] w (.inl none) w' ∧ cX w0 L Z S (uv V h (u / 2 ^ (32 * t))) w' := by
  obtain ⟨A, C, B, S0, hR, hv, hs⟩ := hX
  obtain ⟨n, n1, n2, n3, n4⟩ := hv h hc
  have hsz := nv_size n4
  rw [hu] at n3
  rw [n3] at hsz
  have hcap := hR.cap hc
  have h7 := (kd_o (show kd h < 12 by omega)).1
  have et : (Int32.ofInt (t : Int)).toInt = (t : Int) := oI (by omega) (by omega)
  have en : (Int32.ofInt (n : Int)).toInt = (n : Int) := oI (by omega) (by omega)
  have ed : (Int32.ofInt ((n : Int) - t)).toInt = (n : Int) - t := oI (by omega) (by omega)
  have key : xEv (d + 1) 85 0 (lv_args 0 [.ref h, .int (Int32.ofInt (t : Int))]) [] w (fun o w' => o = .inl none ∧ cX w0 L Z S (uv V h (u / 2 ^ (32 * t))) w') := by
    refine i_85_0 (x := Int32.ofInt (t : Int)) rfl ?_
    refine i_85_1 (fun g => ?_) (fun g => ?_)
    · have e0 : t = 0 := by omega
      subst e0
      refine i_85_41 ⟨rfl, cX.close hv hs hc hR (fun _ => Nat.le_refl _) (fun _ _ _ _ => rfl) ⟨n, n1, n2, ?_, n4⟩⟩
      rw [n3, Nat.mul_zero, Nat.pow_zero, Nat.div_one]
    · refine i_85_4 (x := Int32.ofInt (t : Int)) rfl ?_
      refine i_85_5 (x := h) rfl ?_
      refine i_85_6 (v := Value.int (Int32.ofInt (n : Int))) (hR.n3n hc n1) rfl ?_
      refine i_85_9 (fun g2 => absurd g2 (by omega)) (fun _ => ?_)
      refine i_85_12 (x := h) rfl ?_
      refine i_85_13 (v := Value.ref (A h)) (hR.n3 hc) rfl ?_
      refine i_85_16 (x := Int32.ofInt (t : Int)) rfl ?_
      refine i_85_17 (x := h) rfl ?_
      refine i_85_18 (v := Value.ref (A h)) (hR.n3 hc) rfl ?_
      refine i_85_21 ?_
      refine i_85_22 (x := h) rfl ?_
      refine i_85_23 (v := Value.int (Int32.ofInt (n : Int))) (hR.n3n hc n1) rfl ?_
      refine i_85_26 (x := Int32.ofInt (t : Int)) rfl ?_
      refine i_85_27 (c := Int32.ofInt ((n : Int) - t)) (o_sub _ _) ?_
      refine i_85_28 (hR.w3 hc) (hR.w3 hc) (by omega) (by decide) (by omega) (by omega) (by show (0 : Int) + _ ≤ _; omega) (hR.apart hc).2.2.2.2.1 (fun k hk => ⟨_, rfl⟩) (Nat.le_of_ble_eq_true rfl) ?_
      rw [show (0 : Int32).toInt.toNat = 0 from rfl, show (Int32.ofInt (t : Int)).toInt.toNat = t by omega, show (Int32.ofInt ((n : Int) - t)).toInt.toNat = n - t by omega, mrow_cpk]
      refine xgen (P := cR w0 L Z A C B (fun b => bif Nat.beq b (h + 1) then (fun j => if j < n - t then S0 (h + 1) (t + j) else S0 (h + 1) j) else S0 b)) (hR.row hc) (fun w hR2 => ?_)
      have es : ∀ b, b ≠ h + 1 → (fun b => bif Nat.beq b (h + 1) then (fun j => if j < n - t then S0 (h + 1) (t + j) else S0 (h + 1) j) else S0 b) b = S0 b := fun b hb => by show (bif Nat.beq b (h + 1) then _ else S0 b) = S0 b; rw [beq_ne hb]; rfl
      have e1 : (fun b => bif Nat.beq b (h + 1) then (fun j => if j < n - t then S0 (h + 1) (t + j) else S0 (h + 1) j) else S0 b) (h + 1) = fun j => if j < n - t then S0 (h + 1) (t + j) else S0 (h + 1) j := by show (bif Nat.beq (h + 1) (h + 1) then _ else _) = _; rw [Nat.beq_refl]; rfl
      generalize (fun b => bif Nat.beq b (h + 1) then (fun j => if j < n - t then S0 (h + 1) (t + j) else S0 (h + 1) j) else S0 b) = S2 at hR2 es e1
      have hw : ∀ j, j < n - t → S2 (h + 1) j = S0 (h + 1) (t + j) := fun j hj => by rw [e1]; exact if_pos hj
      have m1 : S2 h 1 = n := by rw [es h (by omega)]; exact n1
      refine i_85_31 (x := h) rfl ?_
      refine i_85_32 rfl ?_
      refine i_85_33 (v := Value.int (Int32.ofInt (n : Int))) (hR2.n3n hc m1) rfl ?_
      refine i_85_36 (x := Int32.ofInt (t : Int)) rfl ?_
      refine i_85_37 (c := Int32.ofInt ((n : Int) - t)) (o_sub _ _) ?_
      refine i_85_38 (fs2 := [Value.ref (A h), Value.int (Int32.ofInt ((n : Int) - t))]) (hR2.n3 hc) (Nat.le_of_ble_eq_true rfl) rfl h7 ?_
      refine i_85_41 ⟨rfl, cX.close hv hs hc (hR2.set1 (v := (n : Int) - t) hc rfl) (fun _ => Nat.le_refl _) (fun b j g1 g2 => by rw [u2_n g1, es b g2]) ⟨n - t, by rw [u2_s, u1_s]; omega, by omega, ?_, ?_⟩⟩
      · rw [u2_n (by omega), cv_same hw, cv_drop, show t + (n - t) = n by omega, n3]
      · rw [u2_n (by omega)]
        rcases Nat.eq_zero_or_pos (n - t) with g3 | g3
        · exact Or.inl g3
        · refine Or.inr ?_
          have e : cw (S2 (h + 1)) (n - t - 1) = cw (S0 (h + 1)) (n - 1) := by unfold cw; rw [hw _ (by omega), show t + (n - t - 1) = n - 1 by omega]
          rw [e]
          rcases n4 with g4 | g4
          · omega
          · exact g4
  obtain ⟨o, w', h1, rfl, h2⟩ := key.run
  exact ⟨w', h1, h2⟩
end
