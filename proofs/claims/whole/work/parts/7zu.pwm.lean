/-! powers of the class: what their cut forms round to -/
theorem mo2_1 {m k : Nat} : mo2 1 m k = 1 := by
  unfold mo2
  rw [if_neg (fun e => absurd e.1 (by decide))]
theorem mo2_t {m k : Nat} {mo : Int} (h : m % 2 ^ k ≠ 0) : mo2 mo m k = 1 := by
  unfold mo2
  rw [if_neg (fun e => h e.2)]
section
variable {least greatest gradual sg mode e f : Int} {p T M s b A : Nat}
theorem fp_up (hb : 43 ≤ b) (hx : xbl M = p + 1 + b) (h : M / 2 ^ b % 2 = (M + 2 ^ 42) / 2 ^ b % 2) (h1 : M * 2 ^ s < T) (h2 : T < (M + 2 ^ 42) * 2 ^ s) : oR (p : Int) least greatest gradual sg mode 1 M ((s : Int) + e) f = oR (p : Int) least greatest gradual sg mode 0 T e f := by
  obtain ⟨a1, a2⟩ := fp_pos hb h h1 h2
  have x1 := xbl_div M b
  have x2 := xbl_div T (s + b)
  rw [a1] at x2
  rw [← oR_cut (m := M) (k := b) (more := 1) (by omega) (by omega), ← oR_cut (m := T) (k := s + b) (more := 0) (by omega) (by omega), a1, mo2_1, mo2_t a2, show (s : Int) + e + (b : Int) = e + ((s + b : Nat) : Int) by omega]
/-- the standard cut of a reciprocal -/
theorem rc_ge (hT : 0 < T) (a : Nat) (k : Nat) (ha : xbl T + k ≤ a) : 2 ^ k ≤ 1 * 2 ^ a / T := by
  rw [Nat.one_mul, Nat.le_div_iff_mul_le hT]
  have h1 := xbl_lt T
  have h2 : 2 ^ k * T ≤ 2 ^ k * 2 ^ xbl T := Nat.mul_le_mul_left _ (Nat.le_of_lt h1)
  rw [← Nat.pow_add] at h2
  exact Nat.le_trans h2 (Nat.pow_le_pow_right (by omega) (by omega))
theorem oR_rc (hT : 0 < T) {a a0 : Nat} (ha : p + 1 ≤ xbl (1 * 2 ^ a / T)) (ha0 : p + 1 ≤ xbl (1 * 2 ^ a0 / T)) : oR (p : Int) least greatest gradual sg mode (if 1 * 2 ^ a % T = 0 then 0 else 1) (1 * 2 ^ a / T) (e - (a : Int)) f = oR (p : Int) least greatest gradual sg mode (if 1 * 2 ^ a0 % T = 0 then 0 else 1) (1 * 2 ^ a0 / T) (e - (a0 : Int)) f := by
  by_cases h : a0 ≤ a
  · obtain ⟨k, rfl⟩ : ∃ k, a = a0 + k := ⟨a - a0, by omega⟩
    exact oR_rat hT (by omega) (by omega)
  · obtain ⟨k, rfl⟩ : ∃ k, a0 = a + k := ⟨a0 - a, by omega⟩
    exact (oR_rat hT (by omega) (by omega)).symm
theorem fp_dn (hb : 43 ≤ b) (hx : xbl M = p + 1 + b) (h : M / 2 ^ b % 2 = (M + 2 ^ 42) / 2 ^ b % 2) (hT : 0 < T) (h1 : M * T < 2 ^ A) (h2 : 2 ^ A < (M + 2 ^ 42) * T) : oR (p : Int) least greatest gradual sg mode 1 M (e - (A : Int)) f = oR (p : Int) least greatest gradual sg mode (if 1 * 2 ^ (xbl T + p + 3) % T = 0 then 0 else 1) (1 * 2 ^ (xbl T + p + 3) / T) (e - ((xbl T + p + 3 : Nat) : Int)) f := by
  have h3 := near_bit hb h
  have hq : M / 2 ^ b * 2 ^ b ≤ M := Nat.div_mul_le_self _ _
  have x1 := xbl_div M b
  obtain ⟨q, eq⟩ : ∃ q, q = M / 2 ^ b := ⟨_, rfl⟩
  rw [← eq] at h3 hq x1
  have q0 : 0 < q := by
    rcases Nat.eq_zero_or_pos q with z | z
    · rw [z, xbl_zero] at x1; omega
    · exact z
  have l1 : q * T * 2 ^ b < 2 ^ A := by
    refine Nat.lt_of_le_of_lt ?_ h1
    rw [Nat.mul_assoc, Nat.mul_comm T, ← Nat.mul_assoc]
    exact Nat.mul_le_mul_right _ hq
  have l2 : 2 ^ A < (q + 1) * T * 2 ^ b := by
    refine Nat.lt_of_lt_of_le h2 ?_
    rw [Nat.mul_assoc (q + 1), Nat.mul_comm T, ← Nat.mul_assoc]
    exact Nat.mul_le_mul_right _ (Nat.le_of_lt h3)
  have hAb : b ≤ A := by
    have : 2 ^ b < 2 ^ A := Nat.lt_of_le_of_lt (Nat.le_mul_of_pos_left _ (Nat.mul_pos q0 hT)) l1
    exact Nat.le_of_lt ((Nat.pow_lt_pow_iff_right (by decide)).mp this)
  obtain ⟨a, ea⟩ : ∃ a, A = a + b := ⟨A - b, by omega⟩
  rw [ea, Nat.pow_add] at l1 l2
  have l3 := Nat.lt_of_mul_lt_mul_right l1
  have l4 := Nat.lt_of_mul_lt_mul_right l2
  have hd : 1 * 2 ^ a / T = q := by rw [Nat.one_mul]; exact Nat.div_eq_of_lt_le (Nat.le_of_lt l3) l4
  have hr : 1 * 2 ^ a % T ≠ 0 := by
    intro z
    have := Nat.div_add_mod (1 * 2 ^ a) T
    rw [hd, z, Nat.add_zero, Nat.one_mul, Nat.mul_comm] at this
    omega
  have r1 := oR_rc (least := least) (greatest := greatest) (gradual := gradual) (sg := sg) (mode := mode) (e := e) (f := f) (p := p) hT (a := a) (a0 := xbl T + p + 3) (by rw [hd]; omega) (by have := xbl_ge (rc_ge hT (xbl T + p + 3) (p + 3) (by omega)); omega)
  rw [← r1, hd, if_neg hr, ← oR_cut (m := M) (k := b) (more := 1) (by omega) (by omega), mo2_1, ← eq, show e - (A : Int) + (b : Int) = e - (a : Int) by omega]
theorem odd_nd {T : Nat} (ho : T % 2 = 1) (h1 : 1 < T) : ∀ a, 2 ^ a % T ≠ 0
  | 0 => by rw [Nat.pow_zero, Nat.mod_eq_of_lt h1]; decide
  | a + 1 => by
    intro z
    obtain ⟨k, hk⟩ := Nat.dvd_of_mod_eq_zero z
    have hk2 : k % 2 = 0 := by
      have h3 : T * k % 2 = 0 := by rw [← hk, Nat.pow_succ]; exact Nat.mul_mod_left _ _
      rw [Nat.mul_mod, ho, Nat.one_mul, Nat.mod_mod] at h3
      exact h3
    obtain ⟨j, hj⟩ : ∃ j, k = j * 2 := ⟨k / 2, by omega⟩
    rw [hj, ← Nat.mul_assoc, Nat.pow_succ] at hk
    have := Nat.eq_of_mul_eq_mul_right (by decide) hk
    exact odd_nd ho h1 a (by rw [this]; exact Nat.mul_mod_right _ _)
theorem odd_pow {L : Nat} (ho : L % 2 = 1) : ∀ m, L ^ m % 2 = 1
  | 0 => rfl
  | m + 1 => by rw [Nat.pow_succ, Nat.mul_mod, odd_pow ho m, ho]
theorem fp_ex (ho : T % 2 = 1) (h1 : 1 < T) : oR (p : Int) least greatest gradual sg mode 1 (2 ^ (xbl T + (p + 3)) / T) (e - ((xbl T + (p + 3) : Nat) : Int)) f = oR (p : Int) least greatest gradual sg mode (if 1 * 2 ^ (xbl T + p + 3) % T = 0 then 0 else 1) (1 * 2 ^ (xbl T + p + 3) / T) (e - ((xbl T + p + 3 : Nat) : Int)) f := by
  rw [Nat.one_mul, if_neg (odd_nd ho h1 _), show xbl T + (p + 3) = xbl T + p + 3 by omega]
theorem fp_one : oR (p : Int) least greatest gradual sg mode 0 1 e f = oR (p : Int) least greatest gradual sg mode (if 1 * 2 ^ (xbl 1 + p + 3) % 1 = 0 then 0 else 1) (1 * 2 ^ (xbl 1 + p + 3) / 1) (e - ((xbl 1 + p + 3 : Nat) : Int)) f := by
  rw [if_pos (Nat.mod_one _), Nat.div_one]
  exact (oR_sc (by decide)).symm
/-- the reciprocal of a cut power lies near the quotient -/
theorem inv_near {most : Int} {W G P m : Nat} {sc : Nat} (hm : 2 ≤ most) (hW : W = 2 ^ (32 * (most.toNat - 1))) (hG : 2 ^ 64 ≤ G) (hb : (xbl G : Int) ≤ 32 * most) (h1 : G * 2 ^ sc < P) (h2 : P * (1024 * W) ≤ G * 2 ^ sc * (1024 * W + 97406)) : (2 ^ (xbl G + xbl G) / G - 2 ^ 40) * P < 2 ^ (xbl G + xbl G + sc) ∧ 2 ^ (xbl G + xbl G + sc) < (2 ^ (xbl G + xbl G) / G - 2 ^ 40 + 2 ^ 42) * P ∧ 2 ^ 40 ≤ 2 ^ (xbl G + xbl G) / G ∧ xbl G ≤ xbl (2 ^ (xbl G + xbl G) / G - 2 ^ 40) ∧ xbl (2 ^ (xbl G + xbl G) / G - 2 ^ 40) ≤ xbl G + 1 := by
  obtain ⟨g1, g2, g3⟩ := xbl_of (n := G) (by omega)
  obtain ⟨len, el⟩ : ∃ len, len = xbl G := ⟨_, rfl⟩
  rw [← el] at g1 g2 g3 hb ⊢
  have hG0 : 0 < G := by omega
  have hl64 : 65 ≤ len := by have := xbl_ge hG; omega
  obtain ⟨Q, eQ⟩ : ∃ Q, Q = 2 ^ (len + len) / G := ⟨_, rfl⟩
  have k1 : Q * G ≤ 2 ^ (len + len) := by rw [eQ]; exact Nat.div_mul_le_self _ _
  have k2 : 2 ^ (len + len) < (Q + 1) * G := by rw [eQ, Nat.mul_comm]; exact Nat.lt_mul_div_succ _ hG0
  have k3 : 2 ^ len ≤ Q := by
    rw [eQ, Nat.le_div_iff_mul_le hG0, Nat.pow_add]
    exact Nat.mul_le_mul_left _ (Nat.le_of_lt g2)
  have k4 : 2 ^ 65 ≤ 2 ^ len := Nat.pow_le_pow_right (by omega) hl64
  have k5 : Q ≤ 2 ^ (len + 1) := by
    refine Nat.le_of_mul_le_mul_right (c := G) (Nat.le_trans k1 ?_) hG0
    refine Nat.le_trans ?_ (Nat.mul_le_mul_left _ g1)
    rw [← Nat.pow_add]
    exact Nat.pow_le_pow_right (by omega) (by omega)
  rw [← eQ]
  have W0 : 0 < W := by rw [hW]; exact Nat.two_pow_pos _
  have S0 : 0 < 2 ^ sc := Nat.two_pow_pos _
  have hlW : 2 ^ len ≤ W * 2 ^ 32 := by
    rw [hW, ← Nat.pow_add]
    exact Nat.pow_le_pow_right (by omega) (by omega)
  have e2l : 2 ^ (len + len) = 2 ^ len * 2 ^ len := Nat.pow_add _ _ _
  have eh : 2 ^ len = 2 * 2 ^ (len - 1) := by rw [show len = len - 1 + 1 by omega, Nat.pow_succ]; simp [Nat.mul_comm]
  refine ⟨?_, ?_, by omega, ?_, ?_⟩
  · refine Nat.lt_of_mul_lt_mul_right (a := 1024 * W) ?_
    have a1 := Nat.mul_le_mul_left (Q - 2 ^ 40) h2
    refine Nat.lt_of_le_of_lt (Nat.le_trans (Nat.le_of_eq (Nat.mul_assoc _ _ _)) a1) ?_
    have a2 : (Q - 2 ^ 40) * G * (1024 * W + 97406) < 2 ^ (len + len) * (1024 * W) := by
      have b1 : (Q - 2 ^ 40) * G + 2 ^ 40 * G = Q * G := by rw [← Nat.add_mul]; congr 1; omega
      have b2 : 2 ^ (len + len) * 97406 < 2 ^ 40 * G * (1024 * W) := by
        have c1 : 2 ^ len * 97406 < 2 ^ 49 * W := by omega
        have c2 := (Nat.mul_lt_mul_right (Nat.two_pow_pos len)).mpr c1
        have c3 : 2 ^ 49 * W * 2 ^ len ≤ 2 ^ 40 * G * (1024 * W) := by
          have d1 : 2 ^ len ≤ 2 * G := by rw [eh]; omega
          have d2 := Nat.mul_le_mul_left (2 ^ 49 * W) d1
          refine Nat.le_trans d2 (Nat.le_of_eq ?_)
          rw [show (2 : Nat) ^ 49 = 562949953421312 by decide, show (2 : Nat) ^ 40 = 1099511627776 by decide]
          grind
        refine Nat.lt_of_le_of_lt (Nat.le_of_eq ?_) (Nat.lt_of_lt_of_le c2 c3)
        rw [e2l]
        generalize 2 ^ len = B
        grind
      obtain ⟨X, eX⟩ : ∃ X, X = (Q - 2 ^ 40) * G := ⟨_, rfl⟩
      obtain ⟨Y, eY⟩ : ∃ Y, Y = 2 ^ 40 * G := ⟨_, rfl⟩
      rw [← eX, ← eY] at b1
      rw [← eY] at b2
      rw [← eX]
      have b3 : X + Y ≤ 2 ^ (len + len) := by omega
      generalize 2 ^ (len + len) = N at b2 b3 ⊢
      have b4 := Nat.mul_le_mul_right (1024 * W) b3
      have b5 : X * 97406 ≤ N * 97406 := Nat.mul_le_mul_right _ (by omega)
      rw [Nat.add_mul] at b4
      rw [Nat.mul_add]
      omega
    have a3 := (Nat.mul_lt_mul_right S0).mpr a2
    refine Nat.lt_of_le_of_lt (Nat.le_of_eq ?_) (Nat.lt_of_lt_of_le a3 (Nat.le_of_eq ?_))
    · generalize 2 ^ sc = B
      grind
    · rw [Nat.pow_add _ (len + len) sc]
      generalize 2 ^ sc = B
      generalize 2 ^ (len + len) = C
      grind
  · have a1 : 2 ^ (len + len) * 2 ^ sc < (Q + 1) * (G * 2 ^ sc) := by
      rw [← Nat.mul_assoc]
      exact (Nat.mul_lt_mul_right S0).mpr k2
    rw [Nat.pow_add]
    refine Nat.lt_of_lt_of_le a1 (Nat.le_trans (Nat.mul_le_mul_left _ (Nat.le_of_lt h1)) (Nat.mul_le_mul_right _ (by omega)))
  · have : 2 ^ (len - 1) ≤ Q - 2 ^ 40 := by
      have c : 2 ^ 64 ≤ 2 ^ (len - 1) := Nat.pow_le_pow_right (by omega) (by omega)
      omega
    have := xbl_ge this
    omega
  · refine xbl_le (Nat.lt_of_le_of_lt (Nat.sub_le_sub_right k5 _) ?_)
    have := Nat.two_pow_pos (len + 1)
    omega
end
