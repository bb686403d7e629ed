/-! rounding in a free range, to nearest: which numbers come back -/
/-- a / b to the nearest, ties to even -/
def nE (a b : Nat) : Nat := a / b + (if b < 2 * (a % b) ∨ (b = 2 * (a % b) ∧ a / b % 2 = 1) then 1 else 0)
theorem nE_iff {a b z : Nat} (hb : 0 < b) : nE a b = z ↔ 2 * ((a - z * b) + (z * b - a)) < b ∨ (2 * ((a - z * b) + (z * b - a)) = b ∧ z % 2 = 0) := by
  have e := Nat.div_add_mod a b
  have hr := Nat.mod_lt a hb
  unfold nE
  generalize a / b = q at e ⊢
  generalize a % b = r at e hr ⊢
  rw [Nat.mul_comm] at e
  rcases Nat.lt_trichotomy z q with c | c | c
  · have h1 := Nat.mul_le_mul_right b (Nat.succ_le_of_lt c)
    rw [Nat.succ_mul] at h1
    generalize z * b = zb at h1 ⊢
    generalize q * b = qb at h1 e
    split <;> omega
  · subst c
    generalize z * b = zb at e ⊢
    split <;> omega
  · by_cases h : z = q + 1
    · subst h
      have e3 : (q + 1) * b = q * b + b := Nat.succ_mul q b
      generalize (q + 1) * b = q1 at e3 ⊢
      generalize q * b = qb at e e3
      split <;> omega
    · have h1 := Nat.mul_le_mul_right b (show q + 2 ≤ z by omega)
      rw [Nat.add_mul] at h1
      generalize z * b = zb at h1 ⊢
      generalize q * b = qb at h1 e
      split <;> omega
theorem gU0 {m c : Nat} {more sg : Int} (hc : 1 ≤ c) (hmo : more = 0 ∨ more = 1) : gU m (c : Int) more sg 0 (bb (nbit m (c : Int))) = true ↔ 2 ^ (c - 1) < m % 2 ^ c ∨ (m % 2 ^ c = 2 ^ (c - 1) ∧ (more = 1 ∨ m / 2 ^ c % 2 = 1)) := by
  have hP : 2 ^ c = 2 ^ (c - 1) * 2 := by rw [← Nat.pow_succ]; congr 1; omega
  have hh : 0 < 2 ^ (c - 1) := Nat.two_pow_pos _
  have hR := Nat.mod_lt m (Nat.two_pow_pos c)
  have b1 : m / 2 ^ (c - 1) % 2 = m % 2 ^ c / 2 ^ (c - 1) := by rw [hP, Nat.mod_mul_right_div_self]
  have b2 : m % 2 ^ (c - 1) = m % 2 ^ c % 2 ^ (c - 1) := by rw [hP, Nat.mod_mul_right_mod]
  have hodd : (bb (nbit m (c : Int)) = 0) ↔ ¬ m / 2 ^ c % 2 = 1 := by
    rw [nbit_v]
    omega
  have e1 : ((c : Int) - 1).toNat = c - 1 := by omega
  unfold gU nany nbit
  rw [if_pos rfl, e1, Int.toNat_natCast, decide_eq_true (show (0 : Int) ≤ (c : Int) - 1 by omega), Bool.true_and, b1, b2]
  have hodd2 : (!decide (bb (nbit m (c : Int)) = 0)) = true ↔ m / 2 ^ c % 2 = 1 := by
    rw [Bool.not_eq_true', decide_eq_false_iff_not, hodd]
    omega
  unfold nbit at hodd2
  rw [Int.toNat_natCast] at hodd2
  generalize m % 2 ^ c = R at hR ⊢
  rw [hP] at hR
  generalize 2 ^ (c - 1) = h at hh hR hodd2 ⊢
  have hdv : R / h = 1 ↔ h ≤ R := by
    constructor
    · intro k
      have := Nat.div_mul_le_self R h
      rw [k] at this
      omega
    · intro k
      refine Nat.div_eq_of_lt_le ?_ ?_ <;> omega
  have hmd : h ≤ R → (R % h ≠ 0 ↔ h < R) := by
    intro k
    have e2 : R % h = R - h := by rw [Nat.mod_eq_sub_mod k, Nat.mod_eq_of_lt (by omega)]
    rw [e2]
    omega
  by_cases h0 : more = 0 ∧ decide (R ≠ 0) = false
  · rw [if_pos h0]
    have := h0.2
    rw [decide_eq_false_iff_not] at this
    constructor
    · intro c; cases c
    · intro c; omega
  · rw [if_neg h0, Bool.and_eq_true, decide_eq_true_eq, Bool.or_eq_true, Bool.or_eq_true, hodd2, hdv, Bool.not_eq_true', decide_eq_false_iff_not, decide_eq_true_eq]
    constructor
    · rintro ⟨k, h1⟩
      rw [hmd k] at h1
      omega
    · intro k
      have k2 : h ≤ R := by omega
      refine ⟨k2, ?_⟩
      rw [hmd k2]
      omega
theorem rq_nE {A C m : Nat} {more sg cut : Int} (hC : 0 < C) (hm : m = A / C) (hmo : more = if A % C = 0 then 0 else 1) (h : more = 0 ∨ 0 < cut) : rq1 m cut more sg 0 = nE (A * 2 ^ (max 0 (-cut)).toNat) (C * 2 ^ (max 0 cut).toNat) := by
  have e := Nat.div_add_mod A C
  have hs := Nat.mod_lt A hC
  rw [← hm] at e
  unfold rq1 rq rG
  by_cases hc : 0 < cut
  · obtain ⟨c, hcc⟩ : ∃ c : Nat, cut = (c : Int) := ⟨cut.toNat, by omega⟩
    subst hcc
    have hmo1 : more = 0 ∨ more = 1 := by rw [hmo]; split <;> simp
    rw [if_pos hc, decide_eq_true hc, Bool.true_and, show (max 0 (-(c : Int))).toNat = 0 by omega, show (max 0 (c : Int)).toNat = c by omega, Nat.pow_zero, Nat.mul_one, Int.toNat_natCast]
    unfold nE
    have d1 : A / (C * 2 ^ c) = m / 2 ^ c := by rw [hm, Nat.div_div_eq_div_mul]
    have d2 : A % (C * 2 ^ c) = C * (m % 2 ^ c) + A % C := by rw [hm, Nat.mod_mul, Nat.add_comm]
    rw [d1, d2]
    congr 1
    have k := gU0 (m := m) (c := c) (more := more) (sg := sg) (by omega) hmo1
    have hP : 2 ^ c = 2 ^ (c - 1) * 2 := by rw [← Nat.pow_succ]; congr 1; omega
    rw [hP, ← Nat.mul_assoc]
    rw [hP] at k
    generalize m % (2 ^ (c - 1) * 2) = R at k ⊢
    generalize m / (2 ^ (c - 1) * 2) = q0 at k ⊢
    generalize hh : 2 ^ (c - 1) = hf at k ⊢
    have hx : (hf < R ∨ (R = hf ∧ (more = 1 ∨ q0 % 2 = 1))) ↔ (C * hf * 2 < 2 * (C * R + A % C) ∨ (C * hf * 2 = 2 * (C * R + A % C) ∧ q0 % 2 = 1)) := by
      have m1 : more = 1 ↔ A % C ≠ 0 := by rw [hmo]; split <;> simp_all
      rw [m1]
      generalize A % C = s at hs ⊢
      rcases Nat.lt_trichotomy R hf with g | g | g
      · have := Nat.mul_le_mul_left C (Nat.succ_le_of_lt g)
        rw [Nat.mul_succ] at this
        generalize C * R = x at this ⊢
        generalize C * hf = y at this ⊢
        omega
      · subst g
        generalize C * R = x
        omega
      · have := Nat.mul_le_mul_left C (Nat.succ_le_of_lt g)
        rw [Nat.mul_succ] at this
        generalize C * R = x at this ⊢
        generalize C * hf = y at this ⊢
        omega
    by_cases hg : gU m (c : Int) more sg 0 (bb (nbit m (c : Int))) = true
    · rw [hg, if_pos (hx.mp (k.mp hg))]
      rfl
    · rw [if_neg (fun c => hg (k.mpr (hx.mpr c))), Bool.eq_false_iff.mpr hg]
      rfl
  · have hA : A % C = 0 := by
      rcases Nat.eq_zero_or_pos (A % C) with g | g
      · exact g
      · rw [if_neg (by omega)] at hmo; omega
    rw [if_neg hc, decide_eq_false hc, Bool.false_and, show (max 0 cut).toNat = 0 by omega, show max 0 (-cut) = -cut by omega, Nat.pow_zero, Nat.mul_one]
    have e2 : A * 2 ^ (-cut).toNat = C * (m * 2 ^ (-cut).toNat) := by rw [← Nat.mul_assoc]; congr 1; omega
    unfold nE
    rw [e2, Nat.mul_div_cancel_left _ hC, Nat.mul_mod_right, if_neg (by omega)]
    rfl
/-- the number a / g (in units of M's last place) comes back to M -/
def cbX (M a g p : Nat) : Prop := if a ≤ M * g ∧ M = 2 ^ (p - 1) then 4 * (M * g - a) ≤ g else 2 * ((a - M * g) + (M * g - a)) < g ∨ (2 * ((a - M * g) + (M * g - a)) = g ∧ M % 2 = 0)
theorem rt_iff {a b M a' g p : Nat} {u E : Int} (hb : 0 < b) (hg : 0 < g) (hp : 2 ≤ p) (h1 : 2 ^ (p - 1) * b ≤ a) (h2 : a < 2 ^ p * b) (hM1 : 2 ^ (p - 1) ≤ M) (hM2 : M < 2 ^ p) (hr : a * g * 2 ^ (max 0 (u - E)).toNat = a' * b * 2 ^ (max 0 (E - u)).toNat) : ((E = u ∧ nE a b = M) ∨ (E = u + 1 ∧ nE a b = 2 ^ p ∧ M = 2 ^ (p - 1))) ↔ cbX M a' g p := by
  have hp2 : 2 ^ p = 2 ^ (p - 1) * 2 := by rw [← Nat.pow_succ]; congr 1; omega
  have hpe : 2 ^ (p - 1) % 2 = 0 := by
    rw [show p - 1 = p - 2 + 1 by omega, Nat.pow_succ]
    exact Nat.mul_mod_left _ _
  have hM3 : 2 ≤ M := by
    have := Nat.pow_le_pow_right (show 0 < 2 by decide) (show 1 ≤ p - 1 by omega)
    omega
  unfold cbX
  rcases (show E = u ∨ E = u + 1 ∨ u + 2 ≤ E ∨ E + 1 ≤ u by omega) with c | c | c | c
  · -- the same place
    rw [show (max 0 (u - E)).toNat = 0 by omega, show (max 0 (E - u)).toNat = 0 by omega, Nat.pow_zero, Nat.mul_one, Nat.mul_one] at hr
    have hl : ((E = u ∧ nE a b = M) ∨ (E = u + 1 ∧ nE a b = 2 ^ p ∧ M = 2 ^ (p - 1))) ↔ nE a b = M := ⟨fun h => h.elim And.right (fun h => absurd h.1 (by omega)), fun h => Or.inl ⟨c, h⟩⟩
    rw [hl, nE_iff hb]
    have hd : ((a - M * b) + (M * b - a)) * g = ((a' - M * g) + (M * g - a')) * b := by
      have k : M * b * g = M * g * b := Nat.mul_right_comm _ _ _
      rw [Nat.add_mul, Nat.add_mul, Nat.sub_mul, Nat.sub_mul, Nat.sub_mul, Nat.sub_mul, k, hr]
    generalize hd1 : (a - M * b) + (M * b - a) = d1 at hd ⊢
    generalize hd2 : (a' - M * g) + (M * g - a') = d2 at hd ⊢
    have q1 : 2 * d1 < b ↔ 2 * d2 < g := by
      rw [← mlt hg, ← mlt (x := 2 * d2) hb, Nat.mul_assoc, Nat.mul_assoc, hd, Nat.mul_comm g b]
    have q2 : 2 * d1 = b ↔ 2 * d2 = g := by
      rw [← meq hg, ← meq (x := 2 * d2) hb, Nat.mul_assoc, Nat.mul_assoc, hd, Nat.mul_comm g b]
    rw [q1, q2]
    by_cases hc : a' ≤ M * g ∧ M = 2 ^ (p - 1)
    · rw [if_pos hc]
      have k1 : a * g ≤ M * b * g := by rw [hr, Nat.mul_right_comm]; exact Nat.mul_le_mul_right _ hc.1
      have k2 : a ≤ M * b := Nat.le_of_mul_le_mul_right k1 hg
      rw [← hc.2] at h1
      have k3 : a = M * b := by omega
      have k4 : d1 = 0 := by omega
      rw [k4, Nat.zero_mul] at hd
      have k5 : d2 = 0 := (Nat.mul_eq_zero.mp hd.symm).resolve_right (by omega)
      omega
    · rw [if_neg hc]
  · -- one place above
    rw [show (max 0 (u - E)).toNat = 0 by omega, show (max 0 (E - u)).toNat = 1 by omega, Nat.pow_zero, Nat.mul_one, Nat.pow_one] at hr
    have k0 : a' < 2 ^ (p - 1) * g := by
      have k1 : a * g < 2 ^ p * b * g := Nat.mul_lt_mul_of_pos_right h2 hg
      rw [hr, hp2] at k1
      have k2 : a' * (b * 2) < 2 ^ (p - 1) * g * (b * 2) := by
        calc a' * (b * 2) = a' * b * 2 := (Nat.mul_assoc _ _ _).symm
          _ < 2 ^ (p - 1) * 2 * b * g := k1
          _ = 2 ^ (p - 1) * g * (b * 2) := by ac_rfl
      exact Nat.lt_of_mul_lt_mul_right k2
    have kM : 2 ^ (p - 1) * g ≤ M * g := Nat.mul_le_mul_right _ hM1
    by_cases hM : M = 2 ^ (p - 1)
    · rw [if_pos ⟨by omega, hM⟩]
      have hl : ((E = u ∧ nE a b = M) ∨ (E = u + 1 ∧ nE a b = 2 ^ p ∧ M = 2 ^ (p - 1))) ↔ nE a b = 2 ^ p := ⟨fun h => h.elim (fun h => absurd h.1 (by omega)) (fun h => h.2.1), fun h => Or.inr ⟨c, h, hM⟩⟩
      rw [hl, nE_iff hb, hM]
      have ev : 2 ^ p % 2 = 0 := by rw [hp2]; exact Nat.mul_mod_left _ _
      rw [show a - 2 ^ p * b = 0 by omega, Nat.zero_add]
      have hd : (2 ^ p * b - a) * g = 2 * (2 ^ (p - 1) * g - a') * b := by
        have k : 2 ^ p * b * g = 2 * (2 ^ (p - 1) * g) * b := by rw [hp2]; ac_rfl
        have k' : a' * b * 2 = 2 * a' * b := by ac_rfl
        rw [Nat.sub_mul, hr, k, k', ← Nat.sub_mul, Nat.mul_sub]
      generalize 2 ^ p * b - a = d1 at hd ⊢
      generalize 2 ^ (p - 1) * g - a' = d2 at hd ⊢
      have q : 2 * d1 ≤ b ↔ 4 * d2 ≤ g := by
        have q1 : b < 2 * d1 ↔ g < 4 * d2 := by
          rw [← mlt hg, ← mlt (x := g) hb, Nat.mul_assoc, hd, show 2 * (2 * d2 * b) = 4 * d2 * b by rw [← Nat.mul_assoc, ← Nat.mul_assoc], Nat.mul_comm b g]
        omega
      rw [← q]
      omega
    · rw [if_neg (fun h => hM h.2)]
      have k3 : (2 ^ (p - 1) + 1) * g ≤ M * g := Nat.mul_le_mul_right _ (by omega)
      rw [Nat.succ_mul] at k3
      constructor
      · intro h
        exact absurd (h.elim (fun h => absurd h.1 (by omega)) (fun h => h.2.2)) hM
      · intro h
        omega
  · -- far above
    rw [show (max 0 (u - E)).toNat = 0 by omega, Nat.pow_zero, Nat.mul_one] at hr
    have k0 : 4 * a' < 2 ^ p * g := by
      have k1 : a * g < 2 ^ p * b * g := Nat.mul_lt_mul_of_pos_right h2 hg
      have k2 : a' * b * 2 ^ 2 ≤ a' * b * 2 ^ (max 0 (E - u)).toNat := Nat.mul_le_mul_left _ (Nat.pow_le_pow_right (by decide) (by omega))
      have k3 : 4 * a' * b < 2 ^ p * g * b := by
        calc 4 * a' * b = a' * b * 2 ^ 2 := by rw [show (2 : Nat) ^ 2 = 4 from rfl]; ac_rfl
          _ ≤ a' * b * 2 ^ (max 0 (E - u)).toNat := k2
          _ = a * g := hr.symm
          _ < 2 ^ p * b * g := k1
          _ = 2 ^ p * g * b := Nat.mul_right_comm _ _ _
      exact Nat.lt_of_mul_lt_mul_right k3
    rw [hp2, Nat.mul_right_comm] at k0
    have kM : 2 ^ (p - 1) * g ≤ M * g := Nat.mul_le_mul_right _ hM1
    have k2 : 2 * g ≤ M * g := Nat.mul_le_mul_right _ hM3
    generalize M * g = x at kM k2 ⊢
    generalize 2 ^ (p - 1) * g = y at k0 kM
    constructor
    · intro h
      rcases h with h | h <;> exact absurd h.1 (by omega)
    · intro h
      exfalso
      split at h <;> omega
  · -- below
    rw [show (max 0 (E - u)).toNat = 0 by omega, Nat.pow_zero, Nat.mul_one] at hr
    have k0 : 2 ^ p * g ≤ a' := by
      have k1 : 2 ^ (p - 1) * b * g ≤ a * g := Nat.mul_le_mul_right _ h1
      have k2 : a * g * 2 ^ 1 ≤ a * g * 2 ^ (max 0 (u - E)).toNat := Nat.mul_le_mul_left _ (Nat.pow_le_pow_right (by decide) (by omega))
      have k3 : 2 ^ p * g * b ≤ a' * b := by
        calc 2 ^ p * g * b = 2 ^ (p - 1) * b * g * 2 ^ 1 := by rw [hp2, Nat.pow_one]; ac_rfl
          _ ≤ a * g * 2 ^ 1 := Nat.mul_le_mul_right _ k1
          _ ≤ a * g * 2 ^ (max 0 (u - E)).toNat := k2
          _ = a' * b := hr
      exact Nat.le_of_mul_le_mul_right k3 hb
    have kM : (M + 1) * g ≤ 2 ^ p * g := Nat.mul_le_mul_right _ hM2
    rw [Nat.succ_mul] at kM
    generalize M * g = x at kM ⊢
    generalize 2 ^ p * g = y at k0 kM
    constructor
    · intro h
      rcases h with h | h <;> exact absurd h.1 (by omega)
    · intro h
      exfalso
      split at h <;> omega
theorem pw_eq {X Y α β γ δ : Nat} (h : X * 2 ^ α = Y * 2 ^ β) (e : (γ : Int) - δ = (α : Int) - β) : X * 2 ^ γ = Y * 2 ^ δ := by
  refine Nat.eq_of_mul_eq_mul_right (Nat.two_pow_pos α) ?_
  calc X * 2 ^ γ * 2 ^ α = X * 2 ^ α * 2 ^ γ := Nat.mul_right_comm _ _ _
    _ = Y * 2 ^ β * 2 ^ γ := by rw [h]
    _ = Y * 2 ^ δ * 2 ^ α := by rw [Nat.mul_assoc, Nat.mul_assoc, ← Nat.pow_add, ← Nat.pow_add]; congr 2; omega
theorem rnd_fr {p m : Nat} {least greatest gradual sg more e f : Int} (hq : rq1 m ((xbl m : Int) - p) more sg 0 ≠ 0) : (rnd (p : Int) least greatest gradual 1 sg 0 more m e f).1 = 3 ∧ (rnd (p : Int) least greatest gradual 1 sg 0 more m e f).2.1 = (xbl (rq1 m ((xbl m : Int) - p) more sg 0) : Int) + ((xbl m : Int) + e - p) ∧ (rnd (p : Int) least greatest gradual 1 sg 0 more m e f).2.2.1 = nrm (rq1 m ((xbl m : Int) - p) more sg 0) p := by
  have hu : rU (p : Int) least gradual 1 ((xbl m : Int) + e) = (xbl m : Int) + e - p := if_neg (fun c => absurd c.1 (by decide))
  have hw : ∀ way : Int, rD (p : Int) least greatest gradual 1 sg 0 ((xbl m : Int) + e) more m (rq1 m ((xbl m : Int) - p) more sg 0) ((xbl m : Int) + e - p) way f = (3, (xbl (rq1 m ((xbl m : Int) - p) more sg 0) : Int) + ((xbl m : Int) + e - p), nrm (rq1 m ((xbl m : Int) - p) more sg 0) p, way, f) := by
    intro way
    unfold rD
    rw [if_neg (fun c => absurd c.1 (by decide)), if_neg hq, if_neg (fun c => absurd c.1 (by decide))]
  unfold rnd
  rw [hu, show (xbl m : Int) + e - p - e = (xbl m : Int) - p by omega, hw]
  exact ⟨rfl, rfl, rfl⟩
/-- rounding A / C * 2 ^ e to p bits gives M * 2 ^ E -/
theorem fr_iff {A C M m a' g p : Nat} {least greatest gradual sg more e f E : Int} (hC : 0 < C) (hg : 0 < g) (hp : 2 ≤ p) (hm : m = A / C) (hm0 : m ≠ 0) (hmo : more = if A % C = 0 then 0 else 1) (h : more = 0 ∨ (p : Int) < xbl m) (hM : xbl M = p) (hw : a' * C * 2 ^ (max 0 (E - e)).toNat = A * g * 2 ^ (max 0 (e - E)).toNat) : ((rnd (p : Int) least greatest gradual 1 sg 0 more m e f).2.1 = E + p ∧ (rnd (p : Int) least greatest gradual 1 sg 0 more m e f).2.2.1 = M) ↔ cbX M a' g p := by
  obtain ⟨x1, x2, x3⟩ := xbl_of hm0
  have hM0 : M ≠ 0 := fun c => by rw [c, xbl_zero] at hM; omega
  obtain ⟨y1, y2, -⟩ := xbl_of hM0
  rw [hM] at y1 y2
  have ed := Nat.div_add_mod A C
  have hs := Nat.mod_lt A hC
  rw [← hm] at ed
  obtain ⟨cut, hcut⟩ : ∃ cut : Int, (xbl m : Int) - p = cut := ⟨_, rfl⟩
  have hq := rq_nE (sg := sg) (cut := cut) hC hm hmo (by omega)
  have hA1 : C * m ≤ A := by omega
  have hA2 : A < C * (m + 1) := by rw [Nat.mul_succ]; omega
  generalize ha : A * 2 ^ (max 0 (-cut)).toNat = a at hq
  generalize hb : C * 2 ^ (max 0 cut).toNat = b at hq
  have hb0 : 0 < b := by rw [← hb]; exact Nat.mul_pos hC (Nat.two_pow_pos _)
  have g1 : 2 ^ (p - 1) * b ≤ a := by
    rw [← ha, ← hb]
    calc 2 ^ (p - 1) * (C * 2 ^ (max 0 cut).toNat) = C * (2 ^ (p - 1) * 2 ^ (max 0 cut).toNat) := by ac_rfl
      _ = C * (2 ^ (xbl m - 1) * 2 ^ (max 0 (-cut)).toNat) := by rw [← Nat.pow_add, ← Nat.pow_add]; congr 2; omega
      _ = C * 2 ^ (xbl m - 1) * 2 ^ (max 0 (-cut)).toNat := (Nat.mul_assoc _ _ _).symm
      _ ≤ A * 2 ^ (max 0 (-cut)).toNat := Nat.mul_le_mul_right _ (Nat.le_trans (Nat.mul_le_mul_left _ x1) hA1)
  have g2 : a < 2 ^ p * b := by
    rw [← ha, ← hb]
    calc A * 2 ^ (max 0 (-cut)).toNat < C * 2 ^ xbl m * 2 ^ (max 0 (-cut)).toNat := Nat.mul_lt_mul_of_pos_right (Nat.lt_of_lt_of_le hA2 (Nat.mul_le_mul_left _ x2)) (Nat.two_pow_pos _)
      _ = C * (2 ^ xbl m * 2 ^ (max 0 (-cut)).toNat) := Nat.mul_assoc _ _ _
      _ = C * (2 ^ p * 2 ^ (max 0 cut).toNat) := by rw [← Nat.pow_add, ← Nat.pow_add]; congr 2; omega
      _ = 2 ^ p * (C * 2 ^ (max 0 cut).toNat) := by ac_rfl
  have hlo : 2 ^ (p - 1) ≤ nE a b := by
    unfold nE
    have := (Nat.le_div_iff_mul_le hb0).mpr g1
    omega
  have hhi : nE a b ≤ 2 ^ p := by
    unfold nE
    have := (Nat.div_lt_iff_lt_mul hb0).mpr g2
    split <;> omega
  have hpp : 0 < 2 ^ (p - 1) := Nat.two_pow_pos _
  have hp2 : 2 ^ p = 2 ^ (p - 1) * 2 := by rw [← Nat.pow_succ]; congr 1; omega
  obtain ⟨-, r1, r2⟩ := rnd_fr (p := p) (m := m) (least := least) (greatest := greatest) (gradual := gradual) (sg := sg) (more := more) (e := e) (f := f) (by rw [hcut, hq]; omega)
  rw [hcut, hq] at r1 r2
  rw [r1, r2, ← rt_iff (u := e + cut) (E := E) hb0 hg hp g1 g2 y1 y2 ?_]
  · by_cases hc : nE a b = 2 ^ p
    · have b1 : xbl (nE a b) = p + 1 := by rw [hc]; exact xbl_eq (Nat.le_refl _) (Nat.pow_lt_pow_right (by decide) (by omega))
      have b2 : nrm (nE a b) p = 2 ^ (p - 1) := by
        unfold nrm
        rw [b1, if_pos (by omega), hc, show ((p + 1 : Nat) : Int) - (p : Int) = 1 by omega, show (1 : Int).toNat = 1 from rfl, hp2, Nat.pow_one, Nat.mul_div_cancel _ (by decide)]
      rw [b1, b2]
      constructor
      · rintro ⟨k1, k2⟩
        exact Or.inr ⟨by omega, hc, k2.symm⟩
      · rintro (⟨k1, k2⟩ | ⟨k1, k2, k3⟩)
        · omega
        · exact ⟨by omega, k3.symm⟩
    · have b1 : xbl (nE a b) = p := by
        have := xbl_eq (n := nE a b) (k := p - 1) hlo (by rw [show p - 1 + 1 = p by omega]; omega)
        omega
      have b2 : nrm (nE a b) p = nE a b := by
        unfold nrm
        rw [b1, if_neg (by omega), Int.sub_self, show (0 : Int).toNat = 0 from rfl, Nat.pow_zero, Nat.mul_one]
      rw [b1, b2]
      constructor
      · rintro ⟨k1, k2⟩
        exact Or.inl ⟨by omega, k2⟩
      · rintro (⟨k1, k2⟩ | ⟨k1, k2, k3⟩)
        · exact ⟨by omega, k2⟩
        · exact absurd k2 hc
  · rw [← ha, ← hb]
    have k := pw_eq (X := A * g) (Y := a' * C) (α := (max 0 (e - E)).toNat) (β := (max 0 (E - e)).toNat) (γ := (max 0 (-cut)).toNat + (max 0 (e + cut - E)).toNat) (δ := (max 0 cut).toNat + (max 0 (E - (e + cut))).toNat) hw.symm (by omega)
    rw [Nat.pow_add, Nat.pow_add] at k
    calc A * 2 ^ (max 0 (-cut)).toNat * g * 2 ^ (max 0 (e + cut - E)).toNat = A * g * (2 ^ (max 0 (-cut)).toNat * 2 ^ (max 0 (e + cut - E)).toNat) := by ac_rfl
      _ = a' * C * (2 ^ (max 0 cut).toNat * 2 ^ (max 0 (E - (e + cut))).toNat) := k
      _ = _ := by ac_rfl
