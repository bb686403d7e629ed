/-! rootOf of the reference: Newton's method on naturals -/
theorem bern (r x : Int) (hr : 0 ≤ r) (hx : 0 ≤ x) (n : Nat) : 0 ≤ r ^ (n + 1) - (n + 1 : Nat) * r * x ^ n + (n : Nat) * x ^ (n + 1) := by
  induction n with
  | zero =>
    have e1 : r ^ (0 + 1) = r := by rw [Int.pow_succ, Int.pow_zero, Int.one_mul]
    rw [e1]
    simp
  | succ n ih =>
    have h1 : 0 ≤ r * (r ^ (n + 1) - (n + 1 : Nat) * r * x ^ n + (n : Nat) * x ^ (n + 1)) := Int.mul_nonneg hr ih
    have h2 : 0 ≤ ((n + 1 : Nat) : Int) * x ^ n * ((r - x) * (r - x)) := by
      refine Int.mul_nonneg (Int.mul_nonneg (by omega) (Int.pow_nonneg hx)) ?_
      rcases Int.le_total 0 (r - x) with h | h
      · exact Int.mul_nonneg h h
      · exact Int.mul_nonneg_of_nonpos_of_nonpos h h
    have e : r ^ (n + 1 + 1) - (n + 1 + 1 : Nat) * r * x ^ (n + 1) + (n + 1 : Nat) * x ^ (n + 1 + 1) = r * (r ^ (n + 1) - (n + 1 : Nat) * r * x ^ n + (n : Nat) * x ^ (n + 1)) + ((n + 1 : Nat) : Int) * x ^ n * ((r - x) * (r - x)) := by
      have p1 : r ^ (n + 1 + 1) = r * r ^ (n + 1) := by rw [Int.pow_succ, Int.mul_comm]
      have p2 : x ^ (n + 1 + 1) = x * (x * x ^ n) := by rw [Int.pow_succ, Int.pow_succ, Int.mul_comm, Int.mul_comm (x ^ n)]
      have p3 : x ^ (n + 1) = x * x ^ n := by rw [Int.pow_succ, Int.mul_comm]
      have c1 : ((n + 1 + 1 : Nat) : Int) = (n : Int) + 2 := by omega
      have c2 : ((n + 1 : Nat) : Int) = (n : Int) + 1 := by omega
      rw [p1, p2, p3, c1, c2]
      generalize r ^ (n + 1) = A
      generalize x ^ n = B
      generalize (n : Int) = N
      grind
    rw [e]
    omega
/-- a step is never below the root -/
theorem newt_ge {r x v n : Nat} (hx : 0 < x) (hr : r ^ (n + 1) ≤ v) : r ≤ (x * n + v / x ^ n) / (n + 1) := by
  rw [Nat.le_div_iff_mul_le (by omega)]
  have hb := bern (r : Int) (x : Int) (by omega) (by omega) n
  have hp : 0 < x ^ n := Nat.pow_pos hx
  by_cases h : r * (n + 1) ≤ x * n
  · exact Nat.le_trans h (Nat.le_add_right _ _)
  · have h1 : (r * (n + 1) - x * n) * x ^ n ≤ r ^ (n + 1) := by
      have e : ((r * (n + 1) - x * n : Nat) : Int) = (r : Int) * ((n : Int) + 1) - (x : Int) * (n : Int) := by
        have := Int.ofNat_sub (m := x * n) (n := r * (n + 1)) (by omega)
        rw [this]
        simp
      have : (((r * (n + 1) - x * n) * x ^ n : Nat) : Int) ≤ ((r ^ (n + 1) : Nat) : Int) := by
        rw [Int.natCast_mul, e, Int.natCast_pow, Int.natCast_pow]
        have c2 : ((n + 1 : Nat) : Int) = (n : Int) + 1 := by omega
        have p3 : (x : Int) ^ (n + 1) = (x : Int) * (x : Int) ^ n := by rw [Int.pow_succ, Int.mul_comm]
        rw [c2, p3] at hb
        have e3 : ((r : Int) * ((n : Int) + 1) - (x : Int) * (n : Int)) * (x : Int) ^ n = ((n : Int) + 1) * (r : Int) * (x : Int) ^ n - (n : Int) * ((x : Int) * (x : Int) ^ n) := by
          generalize (x : Int) ^ n = B
          grind
        rw [e3]
        omega
      exact Int.ofNat_le.mp this
    have h2 : r * (n + 1) - x * n ≤ v / x ^ n := by
      rw [Nat.le_div_iff_mul_le hp]
      omega
    omega
/-- above the root it falls -/
theorem newt_lt {x v n : Nat} (hx : 0 < x) (hv : v < x ^ (n + 1)) : (x * n + v / x ^ n) / (n + 1) < x := by
  rw [Nat.div_lt_iff_lt_mul (by omega)]
  have h1 : v / x ^ n < x := by
    rw [Nat.div_lt_iff_lt_mul (Nat.pow_pos hx), Nat.mul_comm, ← Nat.pow_succ]
    exact hv
  rw [Nat.mul_add, Nat.mul_one]
  omega
theorem root_ex (v n : Nat) : ∃ r, r ^ (n + 1) ≤ v ∧ v < (r + 1) ^ (n + 1) := by
  have h : ∀ k, (∃ r, r ^ (n + 1) ≤ v ∧ v < (r + 1) ^ (n + 1)) ∨ k ^ (n + 1) ≤ v := by
    intro k
    induction k with
    | zero => right; rw [Nat.zero_pow (by omega)]; omega
    | succ k ih =>
      rcases ih with h | h
      · exact Or.inl h
      · by_cases h2 : (k + 1) ^ (n + 1) ≤ v
        · exact Or.inr h2
        · exact Or.inl ⟨k, h, by omega⟩
  rcases h (v + 1) with h | h
  · exact h
  · have : v + 1 ≤ (v + 1) ^ (n + 1) := by
      rw [Nat.pow_succ]
      have := Nat.pow_pos (n := n) (show 0 < v + 1 by omega)
      exact Nat.le_mul_of_pos_left _ this
    omega
theorem pow_lt_root {x r v n : Nat} (h : r < x) (hv : v < (r + 1) ^ (n + 1)) : v < x ^ (n + 1) := Nat.lt_of_lt_of_le hv (Nat.pow_le_pow_left h _)
