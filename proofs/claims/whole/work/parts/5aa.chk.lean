/-! checks of the reference -/
theorem s_in {d : Nat} {w : xW} {v lo hi : Int} (hv : -2147483648 ≤ v ∧ v < 2147483648) (hlo : -2147483648 ≤ lo ∧ lo < 2147483648) (hhi : -2147483648 ≤ hi ∧ hi < 2147483648) : xRun (d + 1) 169 [Value.int (Int32.ofInt v), Value.int (Int32.ofInt lo), Value.int (Int32.ofInt hi)] w (.inl (some (.int (Int32.ofInt (bb (decide (lo ≤ v ∧ v ≤ hi))))))) w := by
  have key : xEv (d + 1) 169 0 (lv_args 0 [Value.int (Int32.ofInt v), Value.int (Int32.ofInt lo), Value.int (Int32.ofInt hi)]) [] w (fun o w' => o = .inl (some (.int (Int32.ofInt (bb (decide (lo ≤ v ∧ v ≤ hi)))))) ∧ w' = w) := by
    refine i_169_0 (x := Int32.ofInt v) rfl ?_
    refine i_169_1 (x := Int32.ofInt lo) rfl ?_
    refine i_169_2 (b_lt (a := v) (b := lo) ⟨by omega, by omega⟩ ⟨by omega, by omega⟩ fun c0 => ?_) (b_le (a := lo) (b := v) ⟨by omega, by omega⟩ ⟨by omega, by omega⟩ fun c0 => ?_)
    · refine i_169_14 ?_
      refine i_169_15 rfl ?_
      have e : decide (lo ≤ v ∧ v ≤ hi) = false := by exact decide_eq_false (by omega)
      rw [e]
      exact ⟨rfl, rfl⟩
    · refine i_169_5 (x := Int32.ofInt v) rfl ?_
      refine i_169_6 (x := Int32.ofInt hi) rfl ?_
      refine i_169_7 (b_lt (a := hi) (b := v) ⟨by omega, by omega⟩ ⟨by omega, by omega⟩ fun c1 => ?_) (b_le (a := v) (b := hi) ⟨by omega, by omega⟩ ⟨by omega, by omega⟩ fun c1 => ?_)
      · refine i_169_14 ?_
        refine i_169_15 rfl ?_
        have e : decide (lo ≤ v ∧ v ≤ hi) = false := by exact decide_eq_false (by omega)
        rw [e]
        exact ⟨rfl, rfl⟩
      · refine i_169_10 ?_
        refine i_169_11 ?_
        refine i_169_15 rfl ?_
        have e : decide (lo ≤ v ∧ v ≤ hi) = true := by exact decide_eq_true (by omega)
        rw [e]
        exact ⟨rfl, rfl⟩
  obtain ⟨o, w', h1, rfl, h2⟩ := key.run
  subst h2; exact h1
theorem s_ck1 {d : Nat} {w : xW} {b : Bool} (h : b = true) : xRun (d + 1) 170 [.int (Int32.ofInt (bb b))] w (.inl none) w := by
  subst h
  exact xRun.of (i_170_0 rfl (i_170_1 (fun _ => i_170_12 ⟨rfl, rfl⟩) (fun c => absurd c (by decide))))
theorem s_ck0 {d : Nat} {w : xW} {b : Bool} (h : b = false) : xRun (d + 6) 170 [.int (Int32.ofInt (bb b))] w (.inr w.length) (w ++ [.inr (14, [])]) := by
  subst h
  exact xRun.of (i_170_0 rfl (i_170_1 (fun c => absurd rfl c) (fun _ => i_170_4 (by omega) (Nat.le_of_ble_eq_true rfl) ⟨rfl, rfl⟩)))
theorem s_reg1 {d : Nat} {w : xW} {r : Int} (hr : -2147483648 ≤ r ∧ r < 2147483648) (h : (0 ≤ r ∧ r ≤ 15)) : xRun (d + 2) 168 [.int (Int32.ofInt r)] w (.inl none) w := by
  refine xRun.of ?_
  refine i_168_0 (x := Int32.ofInt r) rfl ?_
  refine i_168_1 ?_
  refine i_168_2 ?_
  have hrun := s_in (d := d) (w := w) (v := r) (lo := 0) (hi := 15) (by omega) (by decide) (by decide)
  refine i_168_4 (Nat.le_of_ble_eq_true rfl) hrun ?_
  have hrun := s_ck1 (d := d) (w := w) (b := decide (0 ≤ r ∧ r ≤ 15)) (decide_eq_true h)
  refine i_168_7 (Nat.le_of_ble_eq_true rfl) hrun ?_
  exact i_168_10 ⟨rfl, rfl⟩
theorem s_reg0 {d : Nat} {w : xW} {r : Int} (hr : -2147483648 ≤ r ∧ r < 2147483648) (h : ¬ (0 ≤ r ∧ r ≤ 15)) : xRun (d + 7) 168 [.int (Int32.ofInt r)] w (.inr w.length) (w ++ [.inr (14, [])]) := by
  refine xRun.of ?_
  refine i_168_0 (x := Int32.ofInt r) rfl ?_
  refine i_168_1 ?_
  refine i_168_2 ?_
  have hrun := s_in (d := d + 5) (w := w) (v := r) (lo := 0) (hi := 15) (by omega) (by decide) (by decide)
  refine i_168_4 (Nat.le_of_ble_eq_true rfl) hrun ?_
  have hrun := s_ck0 (d := d) (w := w) (b := decide (0 ≤ r ∧ r ≤ 15)) (decide_eq_false h)
  exact j_168_7 (Nat.le_of_ble_eq_true rfl) hrun (xDone.t (ci := 14) xgl rfl rfl ⟨rfl, rfl⟩)
theorem s_mode1 {d : Nat} {w : xW} {r : Int} (hr : -2147483648 ≤ r ∧ r < 2147483648) (h : (0 ≤ r ∧ r ≤ 4)) : xRun (d + 2) 178 [.int (Int32.ofInt r)] w (.inl none) w := by
  refine xRun.of ?_
  refine i_178_0 (x := Int32.ofInt r) rfl ?_
  refine i_178_1 ?_
  refine i_178_2 ?_
  have hrun := s_in (d := d) (w := w) (v := r) (lo := 0) (hi := 4) (by omega) (by decide) (by decide)
  refine i_178_3 (Nat.le_of_ble_eq_true rfl) hrun ?_
  have hrun := s_ck1 (d := d) (w := w) (b := decide (0 ≤ r ∧ r ≤ 4)) (decide_eq_true h)
  refine i_178_6 (Nat.le_of_ble_eq_true rfl) hrun ?_
  exact i_178_9 ⟨rfl, rfl⟩
theorem s_mode0 {d : Nat} {w : xW} {r : Int} (hr : -2147483648 ≤ r ∧ r < 2147483648) (h : ¬ (0 ≤ r ∧ r ≤ 4)) : xRun (d + 7) 178 [.int (Int32.ofInt r)] w (.inr w.length) (w ++ [.inr (14, [])]) := by
  refine xRun.of ?_
  refine i_178_0 (x := Int32.ofInt r) rfl ?_
  refine i_178_1 ?_
  refine i_178_2 ?_
  have hrun := s_in (d := d + 5) (w := w) (v := r) (lo := 0) (hi := 4) (by omega) (by decide) (by decide)
  refine i_178_3 (Nat.le_of_ble_eq_true rfl) hrun ?_
  have hrun := s_ck0 (d := d) (w := w) (b := decide (0 ≤ r ∧ r ≤ 4)) (decide_eq_false h)
  exact j_178_6 (Nat.le_of_ble_eq_true rfl) hrun (xDone.t (ci := 14) xgl rfl rfl ⟨rfl, rfl⟩)
