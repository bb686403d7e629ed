/-! room and trim of the class's naturals -/
section
variable {w0 w : xW} {L Z : Nat} {A C B : Nat → Nat} {S : Nat → Nat → Int} {h k r d : Nat} {v : Int}
theorem cR.n3 (hR : cR w0 L Z A C B S w) (hc : kd h = 3) : w[h]? = some (.inr (3, [.ref (A h), vI (S h) 1])) := by
  have := hR.2.1 h (by omega)
  rw [cF_3 hc, hc] at this
  exact this
theorem cR.w3 (hR : cR w0 L Z A C B S w) (hc : kd h = 3) : w[A h]? = some (.inl (0, C h, mrow (S (h + 1)))) := (hR.2.2.1 h hc).1
theorem cR.cap (hR : cR w0 L Z A C B S w) (hc : kd h = 3) : 8 ≤ C h ∧ C h ≤ 40000 := by
  have h1 := (hR.2.2.1 h hc).2
  have h2 := Nat.one_le_two_pow (n := B h)
  omega
/-- a row copied into a longer one -/
theorem copy_run {a c m : Nat} {s : Nat → Int} (h7 : 7 ≤ w.length) (ha : w[a]? = some (.inl (0, c, mrow s))) (hcm : c < m) (hm : m ≤ 40000) : xRun (d + 1) 281 [.ref a, .int (Int32.ofNat m)] w (.inl (some (.ref w.length))) (w ++ [.inl (0, m, mrow (fun j => if j < c then s j else 0))]) := by
  have e1 := xof_i (k := m) (by omega)
  have e2 := xof_i (k := c) (by omega)
  have hmin : min c m = c := by omega
  have key : xEv (d + 1) 281 0 (lv_args 0 [.ref a, .int (Int32.ofNat m)]) [] w (fun o w' => o = .inl (some (.ref w.length)) ∧ w' = w ++ [.inl (0, m, mrow (fun j => if j < c then s j else 0))]) := by
    refine i_281_0 (x := Int32.ofNat m) rfl ?_
    refine i_281_1 (x := a) rfl ?_
    refine i_281_2 ha rfl ?_
    refine i_281_3 (fun _ => ?_) (fun g => absurd g (by omega))
    refine i_281_14 (x := Int32.ofNat m) rfl ?_
    refine i_281_15 (m := m) (by omega) (by omega) (by omega) rfl ?_
    refine i_281_17 rfl ?_
    refine i_281_18 (x := a) rfl ?_
    refine i_281_19 ?_
    refine i_281_20 (x := w.length) rfl ?_
    refine i_281_21 ?_
    refine i_281_22 (x := a) rfl ?_
    refine i_281_23 (xga ha) rfl ?_
    refine i_281_24 (x := Int32.ofNat m) rfl ?_
    have hr := min_run (d := d) (w := w ++ [Sum.inl (0, m, fun _ => Value.int 0)]) (a := c) (b := m) (by omega) (by omega)
    rw [hmin] at hr
    refine i_281_25 (Nat.le_of_ble_eq_true rfl) hr ?_
    refine i_281_28 (xga ha) xgl (by decide) (by decide) (by omega) (by show (0 : Int) + _ ≤ _; omega) (by show (0 : Int) + _ ≤ _; omega) h7 (fun k hk => ⟨_, rfl⟩) (Nat.le_of_ble_eq_true rfl) ?_
    refine i_281_31 (x := w.length) rfl ?_
    refine i_281_32 ⟨rfl, ?_⟩
    rw [show (Int32.ofNat c).toInt.toNat = c by omega, show (0 : Int32).toInt.toNat = 0 from rfl]
    have ef : xcp (mrow s) (fun _ => Value.int 0) 0 0 c = mrow (fun j => if j < c then s j else 0) := by
      funext j
      by_cases hj : j < c
      · rw [xcp_lo hj]; unfold mrow; dsimp only; rw [if_pos hj]
      · rw [xcp_hi (by omega)]; unfold mrow; dsimp only; rw [if_neg hj]; rfl
    rw [ef]
    simp
  obtain ⟨o, w', h1, rfl, rfl⟩ := key.run
  exact h1
/-- room: the words that there were stay -/
theorem c_room {t : Int} (hR : cR w0 L Z A C B S w) (hc : kd h = 3) (h0 : -2147483648 ≤ t) (ht : t ≤ 20000) : ∃ w' A' C' B' S', xRun (d + 2) 41 [.ref h, .int (Int32.ofInt t)] w (.inl none) w' ∧ cR w0 L Z A' C' B' S' w' ∧ t ≤ C' h ∧ (∀ k, C k ≤ C' k) ∧ ∀ b j, (b ≠ h + 1 ∨ j < C h) → S' b j = S b j := by
  have hw := hR.n3 hc
  have ha := hR.w3 hc
  have hcap := hR.cap hc
  have hl := hR.2.2.2.2.2.2.2.1
  have h7 := (kd_o (show kd h < 12 by omega)).1
  have e1 : (Int32.ofInt t).toInt = t := oI h0 (by omega)
  have e2 := xof_i (k := C h) (by omega)
  have key : xEv (d + 2) 41 0 (lv_args 0 [.ref h, .int (Int32.ofInt t)]) [] w (fun o w' => o = .inl none ∧ ∃ A' C' B' S', cR w0 L Z A' C' B' S' w' ∧ t ≤ C' h ∧ (∀ k, C k ≤ C' k) ∧ ∀ b j, (b ≠ h + 1 ∨ j < C h) → S' b j = S b j) := by
    refine i_41_0 (x := h) rfl ?_
    refine i_41_1 (v := Value.ref (A h)) hw rfl ?_
    refine i_41_4 ha rfl ?_
    refine i_41_5 (x := Int32.ofInt t) rfl ?_
    refine i_41_6 (fun g => ?_) (fun g => ?_)
    · exact i_41_31 ⟨rfl, A, C, B, S, hR, by omega, fun _ => Nat.le_refl _, fun _ _ _ => rfl⟩
    · refine i_41_9 (x := h) rfl ?_
      refine i_41_10 (x := h) rfl ?_
      refine i_41_11 (v := Value.ref (A h)) hw rfl ?_
      refine i_41_14 (x := Int32.ofInt t) rfl ?_
      refine i_41_15 ?_
      refine i_41_16 (x := h) rfl ?_
      refine i_41_17 (v := Value.ref (A h)) hw rfl ?_
      refine i_41_20 ha rfl ?_
      refine i_41_21 (c := Int32.ofNat (2 * C h)) (by rw [Int32.ofNat_mul]; rfl) ?_
      rw [oN (show 0 ≤ t by omega)]
      refine i_41_22 (Nat.le_of_ble_eq_true rfl) (max_run (by omega) (by omega)) ?_
      refine i_41_25 (Nat.le_of_ble_eq_true rfl) (copy_run (by omega) ha (by omega) (by omega)) ?_
      refine i_41_28 (fs2 := [Value.ref w.length, vI (S h) 1]) (xga hw) (Nat.le_of_ble_eq_true rfl) rfl h7 ?_
      refine i_41_31 ⟨rfl, _, _, _, _, hR.grow hc (c := max t.toNat (2 * C h)) (by omega) (by omega), ?_, fun k => ?_, fun b j hbj => ?_⟩
      · rw [uv_s]; omega
      · by_cases e : k = h
        · subst e; rw [uv_s]; omega
        · rw [uv_n e]; exact Nat.le_refl _
      · by_cases e : b = h + 1
        · subst e
          show (bif Nat.beq (h + 1) (h + 1) then (fun j => if j < C h then S (h + 1) j else 0) else S (h + 1)) j = _
          rw [Nat.beq_refl]
          show (if j < C h then S (h + 1) j else 0) = _
          rw [if_pos (by omega)]
        · show (bif Nat.beq b (h + 1) then (fun j => if j < C h then S (h + 1) j else 0) else S b) j = _
          rw [beq_ne e]; rfl
  obtain ⟨o, w', h1, rfl, h2⟩ := key.run
  obtain ⟨A', C', B', S', h3⟩ := h2
  exact ⟨w', A', C', B', S', h1, h3⟩
end
