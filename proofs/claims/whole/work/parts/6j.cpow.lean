/-! fill of a natural's words; setPowerOfTwo -/
section
variable {w0 w : xW} {L Z : Nat} {A C B : Nat → Nat} {S S0 : Nat → Nat → Int} {V : Nat → Nat} {h h2 k r d : Nat} {v : Int}
theorem c_fill {t : Nat} {z : Int} (hR : cR w0 L Z A C B S w) (hc : kd h = 3) (ht : t ≤ C h) : ∃ w' S', xRun (d + 1) 279 [.ref (A h), .int 0, .int (Int32.ofInt (t : Int)), .int (Int32.ofInt z)] w (.inl none) w' ∧ cR w0 L Z A C B S' w' ∧ (∀ b j, b ≠ h + 1 ∨ t ≤ j → S' b j = S b j) ∧ ∀ j, j < t → S' (h + 1) j = z := by
  have hcap := hR.cap hc
  have key : xEv (d + 1) 279 0 (lv_args 0 [.ref (A h), .int 0, .int (Int32.ofNat t), .int (Int32.ofInt z)]) [] w (fun o w' => o = .inl none ∧ cR w0 L Z A C B (fun b => bif Nat.beq b (h + 1) then (fun j => if j < t then z else S (h + 1) j) else S b) w') := by
    refine fill_ev (by omega) (hR.apart hc).2.2.2.2.1 (hR.w3 hc) ht (fun g' h1 h2 => ⟨rfl, ?_⟩)
    have e : g' = mrow (fun j => if j < t then z else S (h + 1) j) := by
      funext j
      by_cases hj : j < t
      · rw [h1 j hj]; unfold mrow; dsimp only; rw [if_pos hj]
      · rw [h2 j (by omega)]; unfold mrow; dsimp only; rw [if_neg hj]
    rw [e]
    exact hR.row hc
  obtain ⟨o, w', r1, rfl, hR'⟩ := key.run
  rw [← oNn] at r1
  refine ⟨w', _, r1, hR', fun b j hb => ?_, fun j hj => ?_⟩
  · show (bif Nat.beq b (h + 1) then (fun j => if j < t then z else S (h + 1) j) else S b) j = _
    by_cases e : b = h + 1
    · subst e
      rw [Nat.beq_refl]
      show (if j < t then z else S (h + 1) j) = _
      rw [if_neg (by omega)]
    · rw [beq_ne e]; rfl
  · show (bif Nat.beq (h + 1) (h + 1) then (fun j => if j < t then z else S (h + 1) j) else S (h + 1)) j = _
    rw [Nat.beq_refl]
    show (if j < t then z else S (h + 1) j) = _
    rw [if_pos hj]
theorem X_pow {p : Nat} (hX : cX w0 L Z S V w) (hc : kd h = 3) (hp : p ≤ 639000) : ∃ w', xRun (d + 3) 40 [.ref h, .int (Int32.ofInt (p : Int))] w (.inl none) w' ∧ cX w0 L Z S (uv V h (2 ^ p)) w' := by
  obtain ⟨A, C, B, S0, hR, hv, hs⟩ := hX
  have h7 := (kd_o (show kd h < 12 by omega)).1
  obtain ⟨w1, A1, C1, B1, S1, r1, hR1, p1, p2, p3⟩ := c_room (d := d) (t := (p : Int) / 32 + 1) hR hc (by omega) (by omega)
  have hcap1 := hR1.cap hc
  obtain ⟨w2, S2, r2, hR2, f1, f2⟩ := c_fill (d := d + 1) (t := p / 32 + 1) (z := 0) hR1 hc (by omega)
  have ec : ((p / 32 + 1 : Nat) : Int) = (p : Int) / 32 + 1 := by omega
  rw [ec] at r2
  have el : (Int32.ofInt ((p : Int) / 32)).toInt = (p : Int) / 32 := oI (by omega) (by omega)
  have eb : (Int32.ofInt ((p : Int) % 32)).toInt = (p : Int) % 32 := oI (by omega) (by omega)
  obtain ⟨x, hx⟩ : ∃ x : Int32, x = (1 : Int32) <<< (Int32.ofInt ((p : Int) % 32) &&& 31) := ⟨_, rfl⟩
  have hxn : xun x = 2 ^ (p % 32) := by
    rw [hx, xshl_n (by omega) (by omega), eb, show ((p : Int) % 32).toNat = p % 32 by omega]
    have h1 : 2 ^ (p % 32) < 2 ^ 32 := Nat.pow_lt_pow_right (by decide) (by omega)
    show 1 * 2 ^ (p % 32) % 2 ^ 32 = _
    rw [Nat.one_mul, Nat.mod_eq_of_lt h1]
  have key : xEv (d + 3) 40 0 (lv_args 0 [.ref h, .int (Int32.ofInt (p : Int))]) [] w (fun o w' => o = .inl none ∧ cX w0 L Z S (uv V h (2 ^ p)) w') := by
    refine i_40_0 (x := Int32.ofInt (p : Int)) rfl ?_
    refine i_40_1 ?_
    refine i_40_2 (c := Int32.ofInt ((p : Int) / 32)) (o_shr5 ⟨by omega, by omega⟩) ?_
    refine i_40_3 ?_
    refine i_40_4 (c := Int32.ofInt ((p : Int) / 32 + 1)) (o_add _ 1) ?_
    refine i_40_5 rfl ?_
    refine i_40_6 (x := h) rfl ?_
    refine i_40_7 (x := Int32.ofInt ((p : Int) / 32 + 1)) rfl ?_
    refine i_40_8 (hR.n3 hc) (Nat.le_of_ble_eq_true rfl) r1 ?_
    refine i_40_11 (x := h) rfl ?_
    refine i_40_12 (v := Value.ref (A1 h)) (hR1.n3 hc) rfl ?_
    refine i_40_15 ?_
    refine i_40_16 (x := Int32.ofInt ((p : Int) / 32 + 1)) rfl ?_
    refine i_40_17 ?_
    refine i_40_18 (Nat.le_of_ble_eq_true rfl) r2 ?_
    refine i_40_21 (x := h) rfl ?_
    refine i_40_22 (v := Value.ref (A1 h)) (hR2.n3 hc) rfl ?_
    refine i_40_25 (x := Int32.ofInt ((p : Int) / 32 + 1)) rfl ?_
    refine i_40_26 ?_
    refine i_40_27 (c := Int32.ofInt ((p : Int) / 32)) ((o_sub _ 1).trans (by congr 1; omega)) ?_
    refine i_40_28 ?_
    refine i_40_29 (x := Int32.ofInt (p : Int)) rfl ?_
    refine i_40_30 ?_
    refine i_40_32 (c := Int32.ofInt ((p : Int) % 32)) (o_mask5 _) ?_
    refine i_40_33 hx.symm ?_
    refine i_40_34 (hR2.w3 hc) (by omega) (by omega) (hR2.apart hc).2.2.2.2.1 rfl ?_
    rw [el, show ((p : Int) / 32).toNat = p / 32 by omega]
    refine xgen (P := cR w0 L Z A1 C1 B1 (u2 S2 (h + 1) (p / 32) x.toInt)) (hR2.arr hc (Int32.ofInt_toInt x)) (fun w hR3 => ?_)
    refine i_40_35 (x := h) rfl ?_
    refine i_40_36 (x := Int32.ofInt ((p : Int) / 32 + 1)) rfl ?_
    refine i_40_37 (fs2 := [Value.ref (A1 h), Value.int (Int32.ofInt ((p : Int) / 32 + 1))]) (hR3.n3 hc) (Nat.le_of_ble_eq_true rfl) rfl h7 ?_
    have ecw : cw (u2 S2 (h + 1) (p / 32) x.toInt (h + 1)) (p / 32) = 2 ^ (p % 32) := by rw [← cw_un, u2_s, u1_s, Int32.ofInt_toInt, hxn]
    have ecv : cv (u2 S2 (h + 1) (p / 32) x.toInt (h + 1)) (p / 32) = 0 := by
      rw [cv_zero (Nat.zero_le _) (fun i _ hi => by unfold cw; rw [u2_s, u1_n (by omega), f2 i (by omega)]; rfl)]
      rfl
    refine i_40_40 ⟨rfl, cX.close hv hs hc (hR3.set1 (v := (p : Int) / 32 + 1) hc rfl) p2 (fun b j g1 g2 => by rw [u2_n g1, u2_n g2, f1 b j (Or.inl g2), p3 b j (Or.inl g2)]) ⟨p / 32 + 1, by rw [u2_s, u1_s]; omega, by omega, ?_, Or.inr ?_⟩⟩
    · rw [u2_n (by omega)]
      show cv (u2 S2 (h + 1) (p / 32) x.toInt (h + 1)) (p / 32) + cw (u2 S2 (h + 1) (p / 32) x.toInt (h + 1)) (p / 32) * 2 ^ (32 * (p / 32)) = _
      rw [ecv, ecw, Nat.zero_add, ← Nat.pow_add, show p % 32 + 32 * (p / 32) = p by omega]
    · rw [u2_n (by omega), Nat.add_sub_cancel, ecw]
      exact Nat.ne_of_gt (Nat.two_pow_pos _)
  obtain ⟨o, w', h1, rfl, h2⟩ := key.run
  exact ⟨w', h1, h2⟩
end
