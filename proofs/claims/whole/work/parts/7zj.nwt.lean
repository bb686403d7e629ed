/-! the guess of a root comes within one of it -/
theorem shf_b {s α β : Nat} {t : Int} (ht : t = (α : Int) - β) : shf s t * 2 ^ β ≤ s * 2 ^ α ∧ s * 2 ^ α < (shf s t + 1) * 2 ^ β := by
  unfold shf
  by_cases h : 0 ≤ t
  · rw [if_pos h, show α = t.toNat + β by omega, Nat.pow_add, ← Nat.mul_assoc]
    have := Nat.two_pow_pos β
    refine ⟨Nat.le_refl _, ?_⟩
    rw [Nat.add_mul]
    omega
  · rw [if_neg h, show β = (-t).toNat + α by omega, Nat.pow_add, ← Nat.mul_assoc, ← Nat.mul_assoc]
    have h1 := Nat.two_pow_pos (-t).toNat
    refine ⟨Nat.mul_le_mul_right _ (Nat.div_mul_le_self _ _), (Nat.mul_lt_mul_right (Nat.two_pow_pos α)).mpr ?_⟩
    rw [Nat.mul_comm]
    exact Nat.lt_mul_div_succ _ h1
def rX (s : Nat) (lift : Int) : Nat := s * 2 ^ lift.toNat
def rY (lift : Int) : Nat := 2 ^ (-lift).toNat
theorem rY_pos (lift : Int) : 0 < rY lift := Nat.two_pow_pos _
/-- the quotient that a step divides out -/
theorem nq_b {s k P N G q g W : Nat} {lift sc t cut : Int} (ht : t = lift + 32 * N + 32 * P * k - sc) (hG : pJ W (g ^ k) 256 ((G, sc, cut) : PT)) (hq : q = shf s t / G) (hPN : P ≤ N) :
    rX s lift * (2 ^ (32 * N)) ^ (k + 1) < (q + 1) * (g * 2 ^ (32 * (N - P))) ^ k * rY lift ∧
    q * (g * 2 ^ (32 * (N - P))) ^ k * W * rY lift ≤ rX s lift * (2 ^ (32 * N)) ^ (k + 1) * (W + 256) := by
  obtain ⟨h1, h2, h3, h4, -, -, -⟩ := hG
  unfold pA at h3 h4
  dsimp only at h1 h2 h3 h4
  have hb := shf_b (s := s) (α := lift.toNat + (32 * N + 32 * P * k)) (β := (-lift).toNat + sc.toNat) (t := t) (by
    rw [ht, Int.natCast_add, Int.natCast_add, Int.natCast_add, Int.natCast_mul, Int.natCast_mul, Int.natCast_mul]
    generalize ((P : Nat) : Int) = p
    have : (32 : Int) * p * k = ((32 : Nat) : Int) * p * k := rfl
    omega)
  have hk1 : q * G ≤ shf s t := by rw [hq]; exact Nat.div_mul_le_self _ _
  have hk2 : shf s t + 1 ≤ (q + 1) * G := by
    have := Nat.lt_mul_div_succ (shf s t) h1
    rw [hq, Nat.mul_comm]
    omega
  have eA : s * 2 ^ (lift.toNat + (32 * N + 32 * P * k)) = rX s lift * (2 ^ (32 * N) * (2 ^ (32 * P)) ^ k) := by
    unfold rX
    rw [Nat.pow_add, Nat.pow_add, Nat.pow_mul (m := 32 * P), ← Nat.mul_assoc]
  have eD : 2 ^ ((-lift).toNat + sc.toNat) = rY lift * 2 ^ sc.toNat := Nat.pow_add _ _ _
  rw [eA, eD] at hb
  have eM : (2 ^ (32 * N)) ^ (k + 1) = 2 ^ (32 * N) * (2 ^ (32 * P)) ^ k * (2 ^ (32 * (N - P))) ^ k := by
    rw [Nat.pow_succ, Nat.mul_assoc, ← Nat.mul_pow, ← Nat.pow_add, show 32 * P + 32 * (N - P) = 32 * N by omega, Nat.mul_comm]
  have Y0 := rY_pos lift
  rw [eM, Nat.mul_pow]
  generalize rX s lift = X at hb ⊢
  generalize rY lift = Y at hb Y0 ⊢
  generalize 2 ^ (32 * N) * (2 ^ (32 * P)) ^ k = K at hb ⊢
  have R0 : 0 < (2 ^ (32 * (N - P))) ^ k := Nat.pow_pos (Nat.two_pow_pos _)
  generalize (2 ^ (32 * (N - P))) ^ k = R at R0 ⊢
  generalize 2 ^ sc.toNat = E at hb h3 h4
  generalize g ^ k = D at h3 h4 ⊢
  constructor
  · have a1 : X * K < (q + 1) * G * (Y * E) := Nat.lt_of_lt_of_le hb.2 (Nat.mul_le_mul_right _ hk2)
    have a2 : (q + 1) * G * (Y * E) ≤ (q + 1) * D * Y := by
      have := Nat.mul_le_mul_left ((q + 1) * Y) h3
      refine Nat.le_trans (Nat.le_of_eq ?_) (Nat.le_trans this (Nat.le_of_eq ?_))
      · grind
      · grind
    have a3 := (Nat.mul_lt_mul_right R0).mpr (Nat.lt_of_lt_of_le a1 a2)
    refine Nat.lt_of_le_of_lt (Nat.le_of_eq ?_) (Nat.lt_of_lt_of_le a3 (Nat.le_of_eq ?_))
    · grind
    · grind
  · have a1 : q * G * (Y * E) ≤ X * K := Nat.le_trans (Nat.mul_le_mul_right _ hk1) hb.1
    have a2 := Nat.mul_le_mul_left (q * Y * R) h4
    have a3 := Nat.mul_le_mul_right (R * (W + 256)) a1
    refine Nat.le_trans (Nat.le_of_eq ?_) (Nat.le_trans a2 (Nat.le_trans (Nat.le_of_eq ?_) (Nat.le_trans a3 (Nat.le_of_eq ?_))))
    · grind
    · grind
    · grind
theorem pow_lt_inv {a b n : Nat} (h : a ^ n < b ^ n) : a < b := Nat.lt_of_not_le fun g => Nat.not_lt_of_le (Nat.pow_le_pow_left g n) h
/-- the next natural not below the root -/
theorem ceil_ex {Z Y k : Nat} (hZ : 0 < Z) (hY : 0 < Y) : ∃ h, 0 < h ∧ Z ≤ h ^ (k + 1) * Y ∧ (h - 1) ^ (k + 1) * Y < Z := by
  obtain ⟨r, h1, h2⟩ := root_ex ((Z - 1) / Y) k
  refine ⟨r + 1, by omega, ?_, ?_⟩
  · rw [Nat.div_lt_iff_lt_mul hY] at h2
    omega
  · rw [Nat.le_div_iff_mul_le hY] at h1
    rw [Nat.add_sub_cancel]
    omega
theorem ceil_b {X Y k B h : Nat} (hY : 0 < Y) (h1 : Y ≤ X) (h2 : X < 2 ^ (k + 1) * Y) (hh : 0 < h) (c1 : X * B ^ (k + 1) ≤ h ^ (k + 1) * Y) (c2 : (h - 1) ^ (k + 1) * Y < X * B ^ (k + 1)) : B ≤ h ∧ h ≤ 2 * B := by
  constructor
  · refine Nat.le_of_not_lt fun g => ?_
    have a1 : h ^ (k + 1) < B ^ (k + 1) := Nat.pow_lt_pow_left g (by omega)
    have a2 : h ^ (k + 1) * Y < B ^ (k + 1) * Y := (Nat.mul_lt_mul_right hY).mpr a1
    have a3 := Nat.mul_le_mul_right (B ^ (k + 1)) h1
    rw [Nat.mul_comm Y] at a3
    omega
  · have a1 : X * B ^ (k + 1) ≤ (2 * B) ^ (k + 1) * Y := by
      rw [Nat.mul_pow]
      refine Nat.le_trans (Nat.mul_le_mul_right _ (Nat.le_of_lt h2)) (Nat.le_of_eq ?_)
      rw [Nat.mul_assoc, Nat.mul_comm Y, Nat.mul_assoc]
    have a2 := Nat.lt_of_mul_lt_mul_right (Nat.lt_of_lt_of_le c2 a1)
    have := pow_lt_inv a2
    omega
theorem near_pow : ∀ k, k ≤ 31 → 4096 ^ k ≤ 2 * 4095 ^ k := by decide +kernel
theorem nq_up {Y k W a h q Z : Nat} (hY : 0 < Y) (hk : k ≤ 31) (hW : 512 * h ≤ W) (ha : 4095 * h ≤ 4096 * a) (hz : Z ≤ h ^ (k + 1) * Y) (hu : q * a ^ k * W * Y ≤ Z * (W + 256)) (W0 : 0 < W) : (q - 1) * a ^ k ≤ h ^ (k + 1) := by
  have a1 : q * a ^ k * W ≤ h ^ (k + 1) * (W + 256) := by
    refine Nat.le_of_mul_le_mul_right (c := Y) ?_ hY
    refine Nat.le_trans hu (Nat.le_trans (Nat.mul_le_mul_right _ hz) (Nat.le_of_eq ?_))
    rw [Nat.mul_assoc, Nat.mul_comm Y, Nat.mul_assoc]
  have a2 : h ^ k ≤ 2 * a ^ k := by
    have b1 := Nat.pow_le_pow_left ha k
    rw [Nat.mul_pow, Nat.mul_pow] at b1
    have b2 := Nat.mul_le_mul_right (a ^ k) (near_pow k hk)
    refine Nat.le_of_mul_le_mul_left (c := 4095 ^ k) ?_ (Nat.pow_pos (by decide))
    refine Nat.le_trans b1 (Nat.le_trans b2 (Nat.le_of_eq ?_))
    generalize 4095 ^ k = A
    generalize a ^ k = B
    grind
  have a3 : 256 * h ^ (k + 1) ≤ a ^ k * W := by
    rw [Nat.pow_succ]
    have b1 := Nat.mul_le_mul a2 hW
    generalize h ^ k = A at b1 ⊢
    generalize a ^ k = B at b1 ⊢
    have e1 : A * (512 * h) = 2 * (256 * (A * h)) := by grind
    have e2 : 2 * B * W = 2 * (B * W) := by grind
    rw [e1, e2] at b1
    omega
  refine Nat.le_of_mul_le_mul_right (c := W) ?_ W0
  rw [Nat.mul_add, Nat.mul_comm _ 256] at a1
  have e3 : q * a ^ k * W ≤ h ^ (k + 1) * W + a ^ k * W := by omega
  rcases Nat.eq_zero_or_pos q with g | g
  · rw [g, Nat.zero_sub, Nat.zero_mul, Nat.zero_mul]
    exact Nat.zero_le _
  · obtain ⟨p, ep⟩ : ∃ p, q = p + 1 := ⟨q - 1, by omega⟩
    rw [ep, Nat.add_mul, Nat.add_mul, Nat.one_mul] at e3
    rw [ep, Nat.add_sub_cancel]
    omega
/-- within one of the root -/
def gOk (X Y k B g : Nat) : Prop := (g - 1) ^ (k + 1) * Y < X * B ^ (k + 1) ∧ X * B ^ (k + 1) < (g + 1) ^ (k + 1) * Y
theorem nw_lowY {X Y k M a q g : Nat} (hY : 0 < Y) (hg : g = (k * a + q) / (k + 1)) (hl : X * M ^ (k + 1) < (q + 1) * a ^ k * Y) : X * M ^ (k + 1) < (g + 1) ^ (k + 1) * Y := by
  have h1 : X * M ^ (k + 1) / Y < (q + 1) * a ^ k := (Nat.div_lt_iff_lt_mul hY).mpr hl
  exact (Nat.div_lt_iff_lt_mul hY).mp (nw_low hg h1)
theorem nw_upY {X Y k M h g : Nat} (hgh : g ≤ h) (c2 : (h - 1) ^ (k + 1) * Y < X * M ^ (k + 1)) : (g - 1) ^ (k + 1) * Y < X * M ^ (k + 1) :=
  Nat.lt_of_le_of_lt (Nat.mul_le_mul_right _ (Nat.pow_le_pow_left (by omega) _)) c2
theorem sq_le {d : Int} {R : Nat} (h1 : -(R : Int) ≤ d) (h2 : d ≤ R) : d * d ≤ (R : Int) * R := by
  rcases Int.le_total 0 d with g | g
  · exact Int.mul_le_mul h2 h2 g (by omega)
  · have := Int.mul_le_mul (show -d ≤ (R : Int) by omega) (show -d ≤ (R : Int) by omega) (by omega) (by omega)
    rw [Int.neg_mul_neg] at this
    exact this
theorem kk_le {k : Nat} {d : Int} {R h : Nat} (hk : k ≤ 31) (h1 : -(R : Int) ≤ d) (h2 : d ≤ R) (hR : 1054 * (R * R) < 2 * h) : (k : Int) * ((k : Int) + 3) * (d * d) < 2 * h := by
  have a1 := sq_le h1 h2
  have a0 : 0 ≤ d * d := by
    rcases Int.le_total 0 d with g | g
    · exact Int.mul_nonneg g g
    · exact Int.mul_nonneg_of_nonpos_of_nonpos g g
  have a2 : (k : Int) * ((k : Int) + 3) ≤ 1054 := Int.le_trans (Int.mul_le_mul (show (k : Int) ≤ 31 by omega) (show (k : Int) + 3 ≤ 34 by omega) (by omega) (by omega)) (by decide)
  have a3 := Int.mul_le_mul a2 a1 a0 (by decide)
  have a4 : (1054 : Int) * ((R : Int) * R) < 2 * h := by
    have := Int.ofNat_lt.mpr hR
    rw [Int.natCast_mul, Int.natCast_mul, Int.natCast_mul] at this
    exact this
  exact Int.lt_of_le_of_lt a3 a4
/-- a step that doubles the places -/
theorem nw_dbl {X Y k P N g q g' : Nat} (hk : 1 ≤ k ∧ k ≤ 31) (hY : 0 < Y) (h1 : Y ≤ X) (h2 : X < 2 ^ (k + 1) * Y) (hP : 2 ≤ P) (hPN : P ≤ N) (hN : N + 1 ≤ 2 * P) (ho : gOk X Y k (2 ^ (32 * P)) g)
    (hl : X * (2 ^ (32 * N)) ^ (k + 1) < (q + 1) * (g * 2 ^ (32 * (N - P))) ^ k * Y) (hu : q * (g * 2 ^ (32 * (N - P))) ^ k * 2 ^ (32 * (N + 1)) * Y ≤ X * (2 ^ (32 * N)) ^ (k + 1) * (2 ^ (32 * (N + 1)) + 256))
    (hg : g' = (k * (g * 2 ^ (32 * (N - P))) + q) / (k + 1)) : gOk X Y k (2 ^ (32 * N)) g' := by
  refine ⟨?_, nw_lowY hY hg hl⟩
  have X0 : 0 < X := by omega
  have B1 : 18446744073709551616 ≤ 2 ^ (32 * P) := by
    rw [show (18446744073709551616 : Nat) = 2 ^ 64 by decide]
    exact Nat.pow_le_pow_right (by omega) (by omega)
  have eMB : 2 ^ (32 * N) = 2 ^ (32 * P) * 2 ^ (32 * (N - P)) := by rw [← Nat.pow_add]; congr 1; omega
  have eW : 2 ^ (32 * (N + 1)) = 2 ^ (32 * N) * 4294967296 := by rw [show 32 * (N + 1) = 32 * N + 32 by omega, Nat.pow_add]
  have R0 : 0 < 2 ^ (32 * (N - P)) := Nat.two_pow_pos _
  have hRR : 2 ^ (32 * (N - P)) * 2 ^ (32 * (N - P)) * 4294967296 ≤ 2 ^ (32 * N) := by
    rw [← Nat.pow_add, show (4294967296 : Nat) = 2 ^ 32 by decide, ← Nat.pow_add]
    exact Nat.pow_le_pow_right (by omega) (by omega)
  generalize 2 ^ (32 * (N + 1)) = W at hu eW
  generalize 2 ^ (32 * (N - P)) = R at *
  generalize 2 ^ (32 * N) = M at *
  generalize 2 ^ (32 * P) = B at *
  have hRM : 8192 * R ≤ M := by
    rw [eMB]
    exact Nat.mul_le_mul_right _ (by omega)
  obtain ⟨h, hh, c1, c2⟩ := ceil_ex (Z := X * M ^ (k + 1)) (Y := Y) (k := k) (Nat.mul_pos X0 (Nat.pow_pos (by omega))) hY
  obtain ⟨b1, b2⟩ := ceil_b hY h1 h2 hh c1 c2
  have eP : X * M ^ (k + 1) = X * B ^ (k + 1) * R ^ (k + 1) := by rw [eMB, Nat.mul_pow, Nat.mul_assoc]
  have Rk : 0 < R ^ (k + 1) := Nat.pow_pos R0
  have d1 : (g - 1) * R < h := by
    refine pow_lt_inv (n := k + 1) (Nat.lt_of_mul_lt_mul_right (a := Y) (Nat.lt_of_lt_of_le ?_ c1))
    rw [eP, Nat.mul_pow, Nat.mul_assoc, Nat.mul_comm (R ^ (k + 1)), ← Nat.mul_assoc]
    exact (Nat.mul_lt_mul_right Rk).mpr ho.1
  have d2 : h - 1 < (g + 1) * R := by
    refine pow_lt_inv (n := k + 1) (Nat.lt_of_mul_lt_mul_right (a := Y) (Nat.lt_trans c2 ?_))
    rw [eP, Nat.mul_pow, Nat.mul_assoc ((g + 1) ^ (k + 1)), Nat.mul_comm (R ^ (k + 1)), ← Nat.mul_assoc]
    exact (Nat.mul_lt_mul_right Rk).mpr ho.2
  obtain ⟨a, ea⟩ : ∃ a, a = g * R := ⟨_, rfl⟩
  rw [← ea] at hl hu hg
  have d3 : a < h + R := by
    rcases Nat.eq_zero_or_pos g with z | z
    · rw [ea, z, Nat.zero_mul]; omega
    · obtain ⟨t, et⟩ : ∃ t, g = t + 1 := ⟨g - 1, by omega⟩
      rw [et, Nat.add_sub_cancel] at d1
      rw [ea, et, Nat.add_mul, Nat.one_mul]
      omega
  have d4 : h ≤ a + R := by
    rw [Nat.add_mul, Nat.one_mul, ← ea] at d2
    omega
  have hq1 := nq_up hY hk.2 (W := W) (by omega) (a := a) (h := h) (by omega) c1 hu (by omega)
  refine nw_upY (nw_up hk (by omega) hh hg hq1 (by omega) (by omega) (kk_le (R := R) hk.2 (by omega) (by omega) ?_)) c2
  generalize R * R = RR at hRR ⊢
  omega
/-- a step in the first two places -/
theorem nw_one {X Y k g q g' i h : Nat} (hk : 1 ≤ k ∧ k ≤ 31) (hY : 0 < Y) (h1 : Y ≤ X) (h2 : X < 2 ^ (k + 1) * Y) (hh : 0 < h) (c1 : X * 18446744073709551616 ^ (k + 1) ≤ h ^ (k + 1) * Y) (c2 : (h - 1) ^ (k + 1) * Y < X * 18446744073709551616 ^ (k + 1))
    (lo : X * 18446744073709551616 ^ (k + 1) < (g + 1) ^ (k + 1) * Y) (tb : g * 1208925819614629174706176 ≤ nwI k i * h)
    (hl : X * 18446744073709551616 ^ (k + 1) < (q + 1) * g ^ k * Y) (hu : q * g ^ k * 2 ^ 96 * Y ≤ X * 18446744073709551616 ^ (k + 1) * (2 ^ 96 + 256))
    (hg : g' = (k * g + q) / (k + 1)) : X * 18446744073709551616 ^ (k + 1) < (g' + 1) ^ (k + 1) * Y ∧ g' * 1208925819614629174706176 ≤ nwI k (i + 1) * h ∧ (g ≤ g' + 2 ∨ i = 99 → gOk X Y k 18446744073709551616 g') := by
  have hlo := nw_lowY hY hg hl
  obtain ⟨b1, b2⟩ := ceil_b hY h1 h2 hh c1 c2
  have d2 : h - 1 < g + 1 := pow_lt_inv (n := k + 1) (Nat.lt_of_mul_lt_mul_right (a := Y) (Nat.lt_trans c2 lo))
  have hq1 := nq_up hY hk.2 (W := 2 ^ 96) (by omega) (a := g) (h := h) (by omega) c1 hu (by decide)
  have near : g ≤ h + 70 → g' ≤ h := fun hn => nw_up hk (by omega) hh hg hq1 (by omega) (by omega) (kk_le (R := 70) hk.2 (by omega) (by omega) (by omega))
  refine ⟨hlo, ?_, ?_⟩
  · by_cases ha : h ≤ g
    · obtain ⟨j, rfl⟩ : ∃ j, k = j + 1 := ⟨k - 1, by omega⟩
      exact nw_fall ha (by omega) tb hq1 hg
    · have := near (by omega)
      have a1 := nwI_ge (k := k) (i + 1)
      rw [Nat.mul_comm]
      exact Nat.mul_le_mul a1 this
  · intro hc
    refine ⟨nw_upY (near ?_) c2, hlo⟩
    rcases hc with hc | hc
    · by_cases ha : h ≤ g
      · have a1 : q - 1 ≤ h := by
          refine Nat.le_of_mul_le_mul_right (Nat.le_trans hq1 ?_) (Nat.pow_pos (n := k) (show 0 < g by omega))
          rw [Nat.pow_succ, Nat.mul_comm]
          exact Nat.mul_le_mul_left _ (Nat.pow_le_pow_left ha _)
        have a2 : (k + 1) * g' ≤ k * g + q := by rw [hg]; exact Nat.mul_div_le _ _
        have a3 : (k + 1) * g ≤ (k + 1) * (g' + 2) := Nat.mul_le_mul_left _ hc
        rw [Nat.mul_add, Nat.add_mul k 1 g, Nat.one_mul] at a3
        omega
      · omega
    · rw [hc] at tb
      have a1 := nwI_ok hk.1 hk.2
      have a2 := Nat.mul_le_mul_right h a1
      have a3 := Nat.le_trans tb a2
      rw [Nat.add_mul] at a3
      omega
