/-! setOnes of the class's naturals -/
theorem cv_ones {s : Nat → Int} {n : Nat} (h : ∀ j, j < n → s j = -1) : cv s n + 1 = 2 ^ (32 * n) := by
  induction n with
  | zero => rfl
  | succ n ih =>
    have h1 := ih (fun j hj => h j (by omega))
    have h2 : cw s n = 4294967295 := by unfold cw; rw [h n (by omega)]; rfl
    show cv s n + cw s n * 2 ^ (32 * n) + 1 = _
    rw [h2, show 32 * (n + 1) = 32 * n + 32 by omega, Nat.pow_add]
    omega
theorem ones_top : ∀ e, e < 32 → 4294967295 / 2 ^ e + 1 = 2 ^ (32 - e) := by decide
section
variable {w0 w : xW} {L Z : Nat} {A C B : Nat → Nat} {S S0 : Nat → Nat → Int} {V : Nat → Nat} {h h2 k r d : Nat} {v : Int}
theorem X_ones {q : Nat} (hX : cX w0 L Z S V w) (hc : kd h = 3) (hq0 : 1 ≤ q) (hq : q ≤ 639000) : ∃ w', xRun (d + 3) 49 [.ref h, .int (Int32.ofInt (q : Int))] w (.inl none) w' ∧ cX w0 L Z S (uv V h (2 ^ q - 1)) w' := by
  obtain ⟨A, C, B, S0, hR, hv, hs⟩ := hX
  have h7 := (kd_o (show kd h < 12 by omega)).1
  obtain ⟨m, hm⟩ : ∃ m : Nat, (q + 31) / 32 = m + 1 := ⟨(q + 31) / 32 - 1, by omega⟩
  have ec : ((q : Int) + 31) / 32 = (m : Int) + 1 := by omega
  obtain ⟨w1, A1, C1, B1, S1, r1, hR1, p1, p2, p3⟩ := c_room (d := d) (t := (m : Int) + 1) hR hc (by omega) (by omega)
  have hcap1 := hR1.cap hc
  obtain ⟨w2, S2, r2, hR2, f1, f2⟩ := c_fill (d := d + 1) (t := m + 1) (z := -1) hR1 hc (by omega)
  have em : (Int32.ofInt (m : Int)).toInt = (m : Int) := oI (by omega) (by omega)
  obtain ⟨e, he⟩ : ∃ e : Nat, 32 * (m + 1) = q + e := ⟨32 * (m + 1) - q, by omega⟩
  have ee : (Int32.ofInt (32 * ((m : Int) + 1) - q)).toInt = (e : Int) := by rw [oI (by omega) (by omega)]; omega
  obtain ⟨x, hx⟩ : ∃ x : Int32, x = ((-1 : Int32).toUInt32 >>> ((Int32.ofInt (32 * ((m : Int) + 1) - q)).toUInt32 &&& Int32.toUInt32 31)).toInt32 := ⟨_, rfl⟩
  have hxn : xun x + 1 = 2 ^ (32 - e) := by
    rw [hx, xushr_n (by omega) (by omega), ee, Int.toNat_natCast]
    exact ones_top e (by omega)
  have key : xEv (d + 3) 49 0 (lv_args 0 [.ref h, .int (Int32.ofInt (q : Int))]) [] w (fun o w' => o = .inl none ∧ cX w0 L Z S (uv V h (2 ^ q - 1)) w') := by
    refine i_49_0 (x := Int32.ofInt (q : Int)) rfl ?_
    refine i_49_1 ?_
    refine i_49_3 (c := Int32.ofInt ((q : Int) + 31)) (o_add _ 31) ?_
    refine i_49_4 ?_
    refine i_49_5 (c := Int32.ofInt ((m : Int) + 1)) ((o_shr5 ⟨by omega, by omega⟩).trans (by rw [ec])) ?_
    refine i_49_6 rfl ?_
    refine i_49_7 (x := h) rfl ?_
    refine i_49_8 (x := Int32.ofInt ((m : Int) + 1)) rfl ?_
    refine i_49_9 (hR.n3 hc) (Nat.le_of_ble_eq_true rfl) r1 ?_
    refine i_49_12 (x := h) rfl ?_
    refine i_49_13 (v := Value.ref (A1 h)) (hR1.n3 hc) rfl ?_
    refine i_49_16 ?_
    refine i_49_17 (x := Int32.ofInt ((m : Int) + 1)) rfl ?_
    refine i_49_18 ?_
    refine i_49_19 (Nat.le_of_ble_eq_true rfl) r2 ?_
    refine i_49_22 (x := h) rfl ?_
    refine i_49_23 (v := Value.ref (A1 h)) (hR2.n3 hc) rfl ?_
    refine i_49_26 (x := Int32.ofInt ((m : Int) + 1)) rfl ?_
    refine i_49_27 ?_
    refine i_49_28 (c := Int32.ofInt (m : Int)) ((o_sub _ 1).trans (by congr 1; omega)) ?_
    refine i_49_29 ?_
    refine i_49_30 ?_
    refine i_49_32 (x := Int32.ofInt ((m : Int) + 1)) rfl ?_
    refine i_49_33 (c := Int32.ofInt (32 * ((m : Int) + 1))) (o_mul 32 _) ?_
    refine i_49_34 (x := Int32.ofInt (q : Int)) rfl ?_
    refine i_49_35 (c := Int32.ofInt (32 * ((m : Int) + 1) - q)) (o_sub _ _) ?_
    refine i_49_36 hx.symm ?_
    refine i_49_37 (hR2.w3 hc) (by omega) (by omega) (hR2.apart hc).2.2.2.2.1 rfl ?_
    rw [em, Int.toNat_natCast]
    refine xgen (P := cR w0 L Z A1 C1 B1 (u2 S2 (h + 1) m x.toInt)) (hR2.arr hc (Int32.ofInt_toInt x)) (fun w hR3 => ?_)
    refine i_49_38 (x := h) rfl ?_
    refine i_49_39 (x := Int32.ofInt ((m : Int) + 1)) rfl ?_
    refine i_49_40 (fs2 := [Value.ref (A1 h), Value.int (Int32.ofInt ((m : Int) + 1))]) (hR3.n3 hc) (Nat.le_of_ble_eq_true rfl) rfl h7 ?_
    have ecw : cw (u2 S2 (h + 1) m x.toInt (h + 1)) m = xun x := by rw [← cw_un, u2_s, u1_s, Int32.ofInt_toInt]
    have ecv : cv (u2 S2 (h + 1) m x.toInt (h + 1)) m + 1 = 2 ^ (32 * m) := cv_ones (fun j hj => by rw [u2_s, u1_n (by omega), f2 j (by omega)])
    have hx1 : 2 ≤ 2 ^ (32 - e) := by
      have : 2 ^ 1 ≤ 2 ^ (32 - e) := Nat.pow_le_pow_right (by decide) (by omega)
      omega
    refine i_49_43 ⟨rfl, cX.close hv hs hc (hR3.set1 (v := (m : Int) + 1) hc rfl) p2 (fun b j g1 g2 => by rw [u2_n g1, u2_n g2, f1 b j (Or.inl g2), p3 b j (Or.inl g2)]) ⟨m + 1, by rw [u2_s, u1_s]; rfl, by omega, ?_, Or.inr ?_⟩⟩
    · rw [u2_n (by omega)]
      show cv (u2 S2 (h + 1) m x.toInt (h + 1)) m + cw (u2 S2 (h + 1) m x.toInt (h + 1)) m * 2 ^ (32 * m) = _
      rw [ecw]
      have e1 : (xun x + 1) * 2 ^ (32 * m) = 2 ^ q := by rw [hxn, ← Nat.pow_add]; congr 1; omega
      rw [Nat.add_mul, Nat.one_mul] at e1
      omega
    · rw [u2_n (by omega), Nat.add_sub_cancel, ecw]
      omega
  obtain ⟨o, w', h1, rfl, h2⟩ := key.run
  exact ⟨w', h1, h2⟩
end
