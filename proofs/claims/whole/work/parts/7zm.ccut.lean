/-! rounding sees of what lies behind its place only whether there is anything -/
def mo2 (more : Int) (m k : Nat) : Int := if more = 0 ∧ m % 2 ^ k = 0 then 0 else 1
theorem nany_cut {m k : Nat} {c : Int} (hc : 0 ≤ c) : nany m (c + k) = true ↔ (nany (m / 2 ^ k) c = true ∨ m % 2 ^ k ≠ 0) := by
  have e : m % 2 ^ (c + k).toNat = m % 2 ^ k + 2 ^ k * (m / 2 ^ k % 2 ^ c.toNat) := by
    rw [show (c + k).toNat = k + c.toNat by omega, Nat.pow_add, Nat.mod_mul]
  unfold nany
  rw [decide_eq_true_iff, decide_eq_true_iff, e]
  constructor
  · intro h
    by_cases g : m % 2 ^ k = 0
    · left
      intro h2
      rw [g, h2, Nat.mul_zero] at h
      exact h rfl
    · exact Or.inr g
  · rintro (h | h)
    · have := Nat.mul_ne_zero (Nat.ne_of_gt (Nat.two_pow_pos k)) h
      omega
    · omega
theorem nbit_cut {m k : Nat} {c : Int} (hc : 0 ≤ c) : nbit m (c + k) = nbit (m / 2 ^ k) c := by
  unfold nbit
  rw [decide_eq_true hc, decide_eq_true (show 0 ≤ c + (k : Int) by omega), Nat.div_div_eq_div_mul, ← Nat.pow_add, show k + c.toNat = (c + k).toNat by omega]
theorem gU_cut {m k : Nat} {c more sg mode odd : Int} (hc : 1 ≤ c) : gU m (c + k) more sg mode odd = gU (m / 2 ^ k) c (mo2 more m k) sg mode odd := by
  have h1 := nany_cut (m := m) (k := k) (c := c) (by omega)
  have h2 := nany_cut (m := m) (k := k) (c := c - 1) (by omega)
  have h3 := nbit_cut (m := m) (k := k) (c := c - 1) (by omega)
  unfold gU mo2
  rw [show c + (k : Int) - 1 = (c - 1) + k by omega, h3]
  by_cases g : more = 0 ∧ m % 2 ^ k = 0
  · rw [if_pos g]
    have e1 : nany m (c + k) = nany (m / 2 ^ k) c := by rw [Bool.eq_iff_iff, h1]; simp [g.2]
    have e2 : nany m (c - 1 + k) = nany (m / 2 ^ k) (c - 1) := by rw [Bool.eq_iff_iff, h2]; simp [g.2]
    rw [e1, e2, g.1]
  · rw [if_neg g]
    have n1 : ¬ (more = 0 ∧ nany m (c + k) = false) := by
      rintro ⟨a, b⟩
      have : nany m (c + k) = true := h1.mpr (Or.inr fun e => g ⟨a, e⟩)
      rw [b] at this
      exact absurd this (by decide)
    rw [if_neg n1, if_neg (show ¬ ((1 : Int) = 0 ∧ nany (m / 2 ^ k) c = false) from fun h => absurd h.1 (by decide))]
    have e3 : (!decide (more = 0) || nany m (c - 1 + k)) = true := by
      by_cases a : more = 0
      · rw [h2.mpr (Or.inr fun e => g ⟨a, e⟩)]
        simp
      · simp [a]
    by_cases hm : mode = 0
    · rw [if_pos hm, if_pos hm, e3]
      simp
    · rw [if_neg hm, if_neg hm]
theorem rG_cut {m k : Nat} {c more sg mode : Int} (hc : 1 ≤ c) : rG m (c + k) more sg mode = rG (m / 2 ^ k) c (mo2 more m k) sg mode := by
  unfold rG
  rw [gU_cut hc, nbit_cut (by omega), decide_eq_true (show 0 < c by omega), decide_eq_true (show 0 < c + (k : Int) by omega)]
theorem rE_cut {m k : Nat} {c more : Int} (hc : 1 ≤ c) : rE m (c + k) more = rE (m / 2 ^ k) c (mo2 more m k) := by
  have h1 := nany_cut (m := m) (k := k) (c := c) (by omega)
  unfold rE mo2
  rw [decide_eq_true (show 0 < c by omega), decide_eq_true (show 0 < c + (k : Int) by omega), Bool.true_and, Bool.true_and]
  by_cases g : more = 0 ∧ m % 2 ^ k = 0
  · rw [if_pos g]
    have e1 : nany m (c + k) = nany (m / 2 ^ k) c := by rw [Bool.eq_iff_iff, h1]; simp [g.2]
    rw [e1, g.1]
  · rw [if_neg g]
    by_cases a : more = 0
    · rw [h1.mpr (Or.inr fun e => g ⟨a, e⟩)]
      simp
    · simp [a]
theorem rq_cut {m k : Nat} {c : Int} (hc : 1 ≤ c) : rq m (c + k) = rq (m / 2 ^ k) c := by
  unfold rq
  rw [if_pos (by omega), if_pos (by omega), Nat.div_div_eq_div_mul, ← Nat.pow_add, show k + c.toNat = (c + k).toNat by omega]
theorem upU_cut {m k : Nat} {x least more sg mode : Int} (hk : k + 1 ≤ xbl m) : upU m x least more sg mode = upU (m / 2 ^ k) x least (mo2 more m k) sg mode := by
  have hx : xbl (m / 2 ^ k) = xbl m - k := xbl_div m k
  have h1 := nany_cut (m := m) (k := k) (c := (xbl (m / 2 ^ k) : Int) - 1) (by omega)
  have e : (!decide (more = 0) || nany m ((xbl m : Int) - 1)) = (!decide (mo2 more m k = 0) || nany (m / 2 ^ k) ((xbl (m / 2 ^ k) : Int) - 1)) := by
    rw [show (xbl m : Int) - 1 = (xbl (m / 2 ^ k) : Int) - 1 + k by omega]
    unfold mo2
    by_cases g : more = 0 ∧ m % 2 ^ k = 0
    · rw [if_pos g]
      have e1 : nany m ((xbl (m / 2 ^ k) : Int) - 1 + k) = nany (m / 2 ^ k) ((xbl (m / 2 ^ k) : Int) - 1) := by rw [Bool.eq_iff_iff, h1]; simp [g.2]
      rw [e1, g.1]
    · rw [if_neg g]
      by_cases a : more = 0
      · rw [h1.mpr (Or.inr fun e => g ⟨a, e⟩)]
        simp
      · simp [a]
  unfold upU
  rw [e]
theorem rnd_cut {p least greatest gradual sg mode more e f : Int} {m k : Nat} (hk : p + 1 ≤ (xbl m : Int) - k) (hp : 0 ≤ p) : rnd p least greatest gradual 0 sg mode (mo2 more m k) (m / 2 ^ k) (e + k) f = rnd p least greatest gradual 0 sg mode more m e f := by
  have hxk : xbl (m / 2 ^ k) = xbl m - k := xbl_div m k
  have hx : ((xbl (m / 2 ^ k) : Nat) : Int) + (e + k) = (xbl m : Int) + e := by omega
  obtain ⟨x, ex⟩ : ∃ x : Int, x = (xbl m : Int) + e := ⟨_, rfl⟩
  obtain ⟨u, eu⟩ : ∃ u, u = rU p least gradual 0 x := ⟨_, rfl⟩
  have hu : x - p ≤ u := by
    rw [eu]
    unfold rU
    split <;> omega
  obtain ⟨q, eq⟩ : ∃ q, q = rq1 m (u - e) more sg mode := ⟨_, rfl⟩
  obtain ⟨ch, ec⟩ : ∃ ch, ch = rway (rE m (u - e) more) (rG m (u - e) more sg mode) := ⟨_, rfl⟩
  have hc : u - e = (u - (e + (k : Int))) + k := by omega
  have eq2 : q = rq1 (m / 2 ^ k) (u - (e + k)) (mo2 more m k) sg mode := by
    rw [eq, hc]
    unfold rq1
    rw [rq_cut (by omega), rG_cut (by omega)]
  have ec2 : ch = rway (rE (m / 2 ^ k) (u - (e + k)) (mo2 more m k)) (rG (m / 2 ^ k) (u - (e + k)) (mo2 more m k) sg mode) := by rw [ec, hc, rE_cut (by omega), rG_cut (by omega)]
  have eD : rD p least greatest gradual 0 sg mode x (mo2 more m k) (m / 2 ^ k) q u ch f = rD p least greatest gradual 0 sg mode x more m q u ch f := by
    unfold rD
    rw [upU_cut (k := k) (more := more) (by omega)]
  obtain ⟨o, eo⟩ : ∃ o, o = rD p least greatest gradual 0 sg mode x more m q u ch f := ⟨_, rfl⟩
  obtain ⟨o1, o2, o3, o4, o5⟩ := o
  rw [rnd_eq ex eu eq ec eo.symm, rnd_eq (ex.trans hx.symm) eu eq2 ec2 (eD.trans eo.symm)]
theorem oR_cut {p least greatest gradual sg mode more e f : Int} {m k : Nat} (hk : p + 1 ≤ (xbl m : Int) - k) (hp : 0 ≤ p) : oR p least greatest gradual sg mode (mo2 more m k) (m / 2 ^ k) (e + k) f = oR p least greatest gradual sg mode more m e f := by
  unfold oR
  rw [rnd_cut hk hp]
