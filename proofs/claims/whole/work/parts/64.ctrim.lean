/-! trim, bits of the class's naturals -/
section
variable {w0 w : xW} {L Z : Nat} {A C B : Nat → Nat} {S : Nat → Nat → Int} {h k r d : Nat} {v : Int}
theorem cR.set1 {v' : Int} (hR : cR w0 L Z A C B S w) (hc : kd h = 3) (e : Int32.ofInt v = Int32.ofInt v') : cR w0 L Z A C B (u2 S h 1 v) (w.set h (.inr (3, [.ref (A h), .int (Int32.ofInt v')]))) := by
  have := hR.fld (h := h) (r := 1) (v := v) (by omega)
  rw [cF_3 hc, hc] at this
  have e2 : f3 (A h) (u2 S h 1 v h) = [.ref (A h), .int (Int32.ofInt v')] := by
    unfold f3 vI
    rw [u2_s, u1_s, e]
  rw [e2] at this
  exact this
theorem u2_eq {a b i j : Nat} : u2 S a i v b j = if b = a ∧ j = i then v else S b j := by
  by_cases e : b = a
  · subst e
    rw [u2_s, u1_e]
    by_cases e2 : j = i
    · rw [if_pos e2, if_pos ⟨rfl, e2⟩]
    · rw [if_neg e2, if_neg (fun g => e2 g.2)]
  · rw [u2_n e, if_neg (fun g => e g.1)]
theorem u2u2 {a i : Nat} {v2 : Int} : u2 (u2 S a i v) a i v2 = u2 S a i v2 := by
  funext b j
  rw [u2_eq, u2_eq, u2_eq]
  by_cases e : b = a ∧ j = i
  · rw [if_pos e, if_pos e]
  · rw [if_neg e, if_neg e, if_neg e]
theorem u2self {a i : Nat} : u2 S a i (S a i) = S := by
  funext b j
  rw [u2_eq]
  split
  · rename_i e; rw [e.1, e.2]
  · rfl
theorem cw_0 {s : Nat → Int} {j : Nat} : (Int32.ofInt (s j)).toInt = 0 ↔ cw s j = 0 := by
  unfold cw
  rw [Int32.toInt_ofInt]
  have h1 := Int.emod_nonneg (s j) (show (4294967296 : Int) ≠ 0 by decide)
  have h2 := Int.emod_lt_of_pos (s j) (show (0 : Int) < 4294967296 by decide)
  have e : (s j).bmod Int32.size = if s j % 4294967296 < 2147483648 then s j % 4294967296 else s j % 4294967296 - 4294967296 := rfl
  rw [e]
  split <;> omega
/-- trim: the size becomes n', what lies between is 0 -/
theorem ctrim_ev (hc : kd h = 3) {Q : Option Value ⊕ Nat → xW → Prop} : ∀ (n : Nat) {w : xW} {S : Nat → Nat → Int}, cR w0 L Z A C B S w → S h 1 = n → n ≤ C h →
    (∀ n' w', cR w0 L Z A C B (u2 S h 1 (n' : Nat)) w' → n' ≤ n → (∀ i, n' ≤ i → i < n → cw (S (h + 1)) i = 0) → (n' = 0 ∨ cw (S (h + 1)) (n' - 1) ≠ 0) → Q (.inl none) w') → xEv d 26 0 (lv_args 0 [.ref h]) [] w Q := by
  intro n
  induction n with
  | zero =>
    intro w S hR hn hC hQ
    have hw := hR.n3 hc
    unfold vI at hw
    rw [hn] at hw
    refine i_26_0 (x := h) rfl ?_
    refine i_26_1 (v := Value.int (Int32.ofInt ((0 : Nat) : Int))) hw rfl ?_
    refine i_26_4 (fun _ => ?_) (fun g => absurd g (by decide))
    refine i_26_34 (hQ 0 w ?_ (Nat.le_refl _) (fun i _ hi => by omega) (Or.inl rfl))
    rw [← hn, u2self]; exact hR
  | succ n ih =>
    intro w S hR hn hC hQ
    have hw := hR.n3 hc
    have ha := hR.w3 hc
    have hcap := hR.cap hc
    have h7 := (kd_o (show kd h < 12 by omega)).1
    have e1 : (Int32.ofInt ((n + 1 : Nat) : Int)).toInt = ((n + 1 : Nat) : Int) := oI (by omega) (by omega)
    have e2 : Int32.ofInt ((n + 1 : Nat) : Int) - 1 = Int32.ofInt (n : Int) := by rw [show (1 : Int32) = Int32.ofInt 1 from rfl, o_sub]; congr 1; omega
    have e3 : (Int32.ofInt (n : Int)).toInt = (n : Int) := oI (by omega) (by omega)
    unfold vI at hw
    rw [hn] at hw
    refine i_26_0 (x := h) rfl ?_
    refine i_26_1 (v := Value.int (Int32.ofInt ((n + 1 : Nat) : Int))) hw rfl ?_
    refine i_26_4 (fun g => absurd g (by omega)) (fun _ => ?_)
    refine i_26_7 (x := h) rfl ?_
    refine i_26_8 (v := Value.ref (A h)) hw rfl ?_
    refine i_26_11 (x := h) rfl ?_
    refine i_26_12 (v := Value.int (Int32.ofInt ((n + 1 : Nat) : Int))) hw rfl ?_
    refine i_26_15 ?_
    refine i_26_16 e2 ?_
    refine i_26_17 (v := Value.int (Int32.ofInt (S (h + 1) n))) ha (by omega) (by omega) (by rw [e3]; rfl) ?_
    refine i_26_18 (fun g => ?_) (fun g => ?_)
    · refine i_26_34 (hQ (n + 1) w ?_ (Nat.le_refl _) (fun i _ hi => by omega) (Or.inr (fun g2 => g (cw_0.mpr g2))))
      rw [← hn, u2self]; exact hR
    · refine i_26_21 (x := h) rfl ?_
      refine i_26_22 rfl ?_
      refine i_26_23 (v := Value.int (Int32.ofInt ((n + 1 : Nat) : Int))) hw rfl ?_
      refine i_26_26 ?_
      refine i_26_27 e2 ?_
      refine i_26_28 (fs2 := [Value.ref (A h), Value.int (Int32.ofInt (n : Int))]) hw (Nat.le_of_ble_eq_true rfl) rfl h7 ?_
      refine i_26_31 ?_
      have hz : cw (S (h + 1)) n = 0 := cw_0.mp g
      have hk : h + 1 ≠ h := by omega
      refine ih (hR.set1 (v := (n : Int)) hc rfl) (by rw [u2_s, u1_s]) (by omega) (fun n' w' k1 k2 k3 k4 => ?_)
      rw [u2u2] at k1
      rw [u2_n hk] at k3 k4
      refine hQ n' w' k1 (by omega) (fun i hi1 hi2 => ?_) k4
      by_cases e : i = n
      · rw [e]; exact hz
      · exact k3 i hi1 (by omega)
/-- trim keeps the value -/
theorem c_trim {n : Nat} (hR : cR w0 L Z A C B S w) (hc : kd h = 3) (hn : S h 1 = n) (hC : n ≤ C h) : ∃ w' n', xRun d 26 [.ref h] w (.inl none) w' ∧ cR w0 L Z A C B (u2 S h 1 (n' : Nat)) w' ∧ n' ≤ n ∧ cv (S (h + 1)) n' = cv (S (h + 1)) n ∧ (n' = 0 ∨ cw (S (h + 1)) (n' - 1) ≠ 0) := by
  have key : xEv d 26 0 (lv_args 0 [.ref h]) [] w (fun o w' => o = .inl none ∧ ∃ n', cR w0 L Z A C B (u2 S h 1 (n' : Nat)) w' ∧ n' ≤ n ∧ cv (S (h + 1)) n' = cv (S (h + 1)) n ∧ (n' = 0 ∨ cw (S (h + 1)) (n' - 1) ≠ 0)) :=
    ctrim_ev hc n hR hn hC (fun n' w' k1 k2 k3 k4 => ⟨rfl, n', k1, k2, (cv_zero k2 k3).symm, k4⟩)
  obtain ⟨o, w', h1, rfl, n', h2⟩ := key.run
  exact ⟨w', n', h1, h2⟩
end
