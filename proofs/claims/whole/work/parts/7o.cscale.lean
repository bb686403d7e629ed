/-! rounding does not see how a number is scaled -/
theorem nany_sc {m k : Nat} {c : Int} : nany (m * 2 ^ k) (c + k) = nany m c := by
  by_cases h : 0 ≤ c
  · have e : m * 2 ^ k % 2 ^ (c + k).toNat = m % 2 ^ c.toNat * 2 ^ k := by rw [show (c + k).toNat = c.toNat + k by omega, Nat.pow_add, Nat.mul_mod_mul_right]
    by_cases g : m % 2 ^ c.toNat = 0
    · rw [nany_f g, nany_f (by rw [e, g, Nat.zero_mul])]
    · rw [nany_t g, nany_t (by rw [e]; exact Nat.mul_ne_zero g (Nat.ne_of_gt (Nat.two_pow_pos _)))]
  · rw [nany_0 (m := m) (by omega)]
    refine nany_f ?_
    rw [show k = (k - (c + k).toNat) + (c + k).toNat by omega, Nat.pow_add, ← Nat.mul_assoc]
    conv => lhs; rhs; rw [show (c + ((k - (c + k).toNat + (c + k).toNat : Nat) : Int)).toNat = (c + k).toNat by omega]
    exact Nat.mul_mod_left _ _
theorem nbit_sc {m k : Nat} {c : Int} : nbit (m * 2 ^ k) (c + k) = nbit m c := by
  unfold nbit
  by_cases h : 0 ≤ c
  · rw [decide_eq_true h, decide_eq_true (show 0 ≤ c + (k : Int) by omega), show (c + k).toNat = c.toNat + k by omega, Nat.pow_add, Nat.mul_div_mul_right _ _ (Nat.two_pow_pos _)]
  · rw [decide_eq_false h, Bool.false_and]
    by_cases g : 0 ≤ c + (k : Int)
    · rw [decide_eq_true g, Bool.true_and]
      refine decide_eq_false ?_
      have e : m * 2 ^ k / 2 ^ (c + k).toNat = m * 2 ^ (-c).toNat := by
        rw [show 2 ^ k = 2 ^ (-c).toNat * 2 ^ (c + k).toNat by rw [← Nat.pow_add]; congr 1; omega, ← Nat.mul_assoc, Nat.mul_div_cancel _ (Nat.two_pow_pos _)]
      rw [e, show (-c).toNat = (-c).toNat - 1 + 1 by omega, Nat.pow_succ, ← Nat.mul_assoc]
      omega
    · rw [decide_eq_false g, Bool.false_and]
theorem rq_sc {m k : Nat} {c : Int} : rq (m * 2 ^ k) (c + k) = rq m c := by
  unfold rq
  by_cases h : 0 < c
  · rw [if_pos h, if_pos (by omega), show (c + k).toNat = c.toNat + k by omega, Nat.pow_add, Nat.mul_div_mul_right _ _ (Nat.two_pow_pos _)]
  · rw [if_neg h]
    by_cases g : 0 < c + (k : Int)
    · rw [if_pos g, show 2 ^ k = 2 ^ (-c).toNat * 2 ^ (c + k).toNat by rw [← Nat.pow_add]; congr 1; omega, ← Nat.mul_assoc, Nat.mul_div_cancel _ (Nat.two_pow_pos _)]
    · rw [if_neg g, Nat.mul_assoc, ← Nat.pow_add, show k + (-(c + (k : Int))).toNat = (-c).toNat by omega]
theorem gU_sc {m k : Nat} {c sg mode : Int} : gU (m * 2 ^ k) (c + k) 0 sg mode (bb (nbit (m * 2 ^ k) (c + k))) = gU m c 0 sg mode (bb (nbit m c)) := by
  unfold gU
  rw [nany_sc, nbit_sc, show c + (k : Int) - 1 = (c - 1) + k by omega, nany_sc, nbit_sc]
theorem rG_sc {m k : Nat} {c sg mode : Int} : rG (m * 2 ^ k) (c + k) 0 sg mode = rG m c 0 sg mode := by rw [← gU_rG (Or.inl rfl), ← gU_rG (Or.inl rfl), gU_sc]
theorem rE_sc {m k : Nat} {c : Int} : rE (m * 2 ^ k) (c + k) 0 = rE m c 0 := by
  rw [← isM_rE, ← isM_rE]
  unfold isM
  rw [nany_sc]
theorem upU_sc {m k : Nat} {x least sg mode : Int} (hm : m ≠ 0) : upU (m * 2 ^ k) x least 0 sg mode = upU m x least 0 sg mode := by
  unfold upU
  rw [xbl_pow _ _ hm, show ((xbl m + k : Nat) : Int) - 1 = ((xbl m : Int) - 1) + k by omega, nany_sc]
theorem rnd_sc {p least greatest gradual sg mode e f : Int} {m k : Nat} (hm : m ≠ 0) : rnd p least greatest gradual 0 sg mode 0 (m * 2 ^ k) (e - k) f = rnd p least greatest gradual 0 sg mode 0 m e f := by
  have hx : ((xbl (m * 2 ^ k) : Nat) : Int) + (e - k) = (xbl m : Int) + e := by rw [xbl_pow _ _ hm]; omega
  obtain ⟨x, ex⟩ : ∃ x : Int, x = (xbl m : Int) + e := ⟨_, rfl⟩
  obtain ⟨u, eu⟩ : ∃ u, u = rU p least gradual 0 x := ⟨_, rfl⟩
  obtain ⟨q, eq⟩ : ∃ q, q = rq1 m (u - e) 0 sg mode := ⟨_, rfl⟩
  obtain ⟨ch, ec⟩ : ∃ ch, ch = rway (rE m (u - e) 0) (rG m (u - e) 0 sg mode) := ⟨_, rfl⟩
  have hc : u - (e - (k : Int)) = (u - e) + k := by omega
  have eq2 : q = rq1 (m * 2 ^ k) (u - (e - k)) 0 sg mode := by
    rw [eq, hc]
    unfold rq1
    rw [rq_sc, rG_sc]
  have ec2 : ch = rway (rE (m * 2 ^ k) (u - (e - k)) 0) (rG (m * 2 ^ k) (u - (e - k)) 0 sg mode) := by rw [ec, hc, rE_sc, rG_sc]
  have eD : rD p least greatest gradual 0 sg mode x 0 (m * 2 ^ k) q u ch f = rD p least greatest gradual 0 sg mode x 0 m q u ch f := by
    unfold rD
    rw [upU_sc hm]
  obtain ⟨o, eo⟩ : ∃ o, o = rD p least greatest gradual 0 sg mode x 0 m q u ch f := ⟨_, rfl⟩
  obtain ⟨o1, o2, o3, o4, o5⟩ := o
  rw [rnd_eq ex eu eq ec eo.symm, rnd_eq (ex.trans hx.symm) eu eq2 ec2 (eD.trans eo.symm)]
theorem oR_sc {p least greatest gradual sg mode e f : Int} {m k : Nat} (hm : m ≠ 0) : oR p least greatest gradual sg mode 0 (m * 2 ^ k) (e - k) f = oR p least greatest gradual sg mode 0 m e f := by
  unfold oR
  rw [rnd_sc hm]
