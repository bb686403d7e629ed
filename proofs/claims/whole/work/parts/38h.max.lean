/-- Math.max and Math.min of small numbers -/
theorem max_run {d a b : Nat} {w : xW} (ha : a < 2147483648) (hb : b < 2147483648) : xRun d 273 [.int (Int32.ofNat a), .int (Int32.ofNat b)] w (.inl (some (.int (Int32.ofNat (max a b))))) w := by
  have ea := xof_i ha
  have eb := xof_i hb
  refine xRun.of ?_
  refine i_273_0 (x := Int32.ofNat a) rfl ?_
  refine i_273_1 (x := Int32.ofNat b) rfl ?_
  refine i_273_2 (fun h => ?_) (fun h => ?_)
  · refine i_273_9 (x := Int32.ofNat b) rfl ?_
    exact i_273_10 ⟨by rw [Nat.max_eq_right (by omega)], rfl⟩
  · refine i_273_5 (x := Int32.ofNat a) rfl ?_
    refine i_273_6 ?_
    exact i_273_10 ⟨by rw [Nat.max_eq_left (by omega)], rfl⟩
theorem min_run {d a b : Nat} {w : xW} (ha : a < 2147483648) (hb : b < 2147483648) : xRun d 272 [.int (Int32.ofNat a), .int (Int32.ofNat b)] w (.inl (some (.int (Int32.ofNat (min a b))))) w := by
  have ea := xof_i ha
  have eb := xof_i hb
  refine xRun.of ?_
  refine i_272_0 (x := Int32.ofNat a) rfl ?_
  refine i_272_1 (x := Int32.ofNat b) rfl ?_
  refine i_272_2 (fun h => ?_) (fun h => ?_)
  · refine i_272_9 (x := Int32.ofNat b) rfl ?_
    exact i_272_10 ⟨by rw [Nat.min_eq_right (by omega)], rfl⟩
  · refine i_272_5 (x := Int32.ofNat a) rfl ?_
    refine i_272_6 ?_
    exact i_272_10 ⟨by rw [Nat.min_eq_left (by omega)], rfl⟩
