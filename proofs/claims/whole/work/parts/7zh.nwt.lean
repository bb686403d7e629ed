/-! Newton's step with a cut power: what it leaves -/
theorem nw_low {a q k g z : Nat} (hg : g = (k * a + q) / (k + 1)) (hz : z < (q + 1) * a ^ k) : z < (g + 1) ^ (k + 1) := by
  refine Nat.lt_of_not_le fun hc => ?_
  have h1 : k * a + (q + 1) ≤ (k + 1) * (g + 1) := by
    rw [hg, Nat.mul_add, Nat.mul_one]
    have e1 := Nat.div_add_mod (k * a + q) (k + 1)
    have e2 := Nat.mod_lt (k * a + q) (show 0 < k + 1 by omega)
    omega
  have h2 : (k * a + (q + 1)) * a ^ k ≤ (k + 1) * (g + 1) * a ^ k := Nat.mul_le_mul_right _ h1
  have hb := bern ((g + 1 : Nat) : Int) (a : Int) (by omega) (by omega) k
  have h3 : (((k + 1) * (g + 1) * a ^ k : Nat) : Int) ≤ (((g + 1) ^ (k + 1) + k * a ^ (k + 1) : Nat) : Int) := by
    rw [Int.natCast_add, Int.natCast_mul, Int.natCast_mul, Int.natCast_mul, Int.natCast_pow, Int.natCast_pow, Int.natCast_pow]
    generalize ((g + 1 : Nat) : Int) ^ (k + 1) = A at hb ⊢
    generalize ((k + 1 : Nat) : Int) * ((g + 1 : Nat) : Int) * (a : Int) ^ k = B at hb ⊢
    generalize (k : Int) * (a : Int) ^ (k + 1) = C at hb ⊢
    omega
  have h4 := Int.ofNat_le.mp h3
  have e3 : (k * a + (q + 1)) * a ^ k = k * a ^ (k + 1) + (q + 1) * a ^ k := by
    rw [Nat.add_mul, Nat.pow_succ, Nat.mul_assoc, Nat.mul_comm a]
  omega
theorem nw_quad {h d : Int} (hh : 0 < h) (hd1 : -h ≤ 4096 * d) (hd2 : 4096 * d ≤ h) : ∀ k : Nat, k ≤ 31 → 2 * h ^ (k + 2) ≤ (h + d) ^ k * (2 * (h * h) - 2 * ((k : Int) * (d * h)) + (k : Int) * ((k : Int) + 3) * (d * d))
  | 0, _ => by
    rw [Int.pow_zero, show h ^ (0 + 2) = h * h from by rw [Int.pow_succ, Int.pow_succ, Int.pow_zero, Int.one_mul]]
    simp
  | k + 1, hk => by
    have ih := nw_quad hh hd1 hd2 k (by omega)
    have c1 : ((k + 1 : Nat) : Int) = (k : Int) + 1 := by omega
    have p1 : 0 ≤ (h + d) ^ k := Int.pow_nonneg (by omega)
    have p2 : 0 ≤ 2 * h + ((k : Int) + 1) * ((k : Int) + 4) * d := by
      obtain ⟨c, ec⟩ : ∃ c, c = ((k : Int) + 1) * ((k : Int) + 4) := ⟨_, rfl⟩
      have b1 : 0 ≤ c := by rw [ec]; exact Int.mul_nonneg (by omega) (by omega)
      have b2 : c ≤ 1054 := by
        have := Int.mul_le_mul (show (k : Int) + 1 ≤ 31 by omega) (show (k : Int) + 4 ≤ 34 by omega) (by omega) (by omega)
        rw [ec]
        exact Int.le_trans this (by decide)
      rw [← ec]
      by_cases hd : 0 ≤ d
      · have := Int.mul_nonneg b1 hd
        omega
      · have := Int.mul_le_mul_of_nonneg_right b2 (show 0 ≤ -d by omega)
        rw [Int.mul_neg] at this
        omega
    have p0 : 0 ≤ d * d := by
      rcases Int.le_total 0 d with h | h
      · exact Int.mul_nonneg h h
      · exact Int.mul_nonneg_of_nonpos_of_nonpos h h
    have p3 : 0 ≤ (h + d) ^ k * (d * d * (2 * h + ((k : Int) + 1) * ((k : Int) + 4) * d)) := Int.mul_nonneg p1 (Int.mul_nonneg p0 p2)
    have p4 := Int.mul_le_mul_of_nonneg_left ih (show 0 ≤ h by omega)
    have e1 : 2 * h ^ (k + 1 + 2) = h * (2 * h ^ (k + 2)) := by
      rw [show k + 1 + 2 = (k + 2) + 1 from rfl, Int.pow_succ]
      generalize h ^ (k + 2) = A
      grind
    have e2 : (h + d) ^ (k + 1) * (2 * (h * h) - 2 * (((k + 1 : Nat) : Int) * (d * h)) + ((k + 1 : Nat) : Int) * (((k + 1 : Nat) : Int) + 3) * (d * d)) = h * ((h + d) ^ k * (2 * (h * h) - 2 * ((k : Int) * (d * h)) + (k : Int) * ((k : Int) + 3) * (d * d))) + (h + d) ^ k * (d * d * (2 * h + ((k : Int) + 1) * ((k : Int) + 4) * d)) := by
      rw [Int.pow_succ, c1]
      generalize (h + d) ^ k = A
      generalize (k : Int) = N
      grind
    rw [e1, e2]
    exact Int.le_trans p4 (Int.le_add_of_nonneg_right p3)
/-- near the root it lands on it or right above -/
theorem nw_up {a q k g h : Nat} (hk : 1 ≤ k ∧ k ≤ 31) (ha : 0 < a) (hh : 0 < h) (hg : g = (k * a + q) / (k + 1)) (hq : (q - 1) * a ^ k ≤ h ^ (k + 1)) (hd1 : -(h : Int) ≤ 4096 * ((a : Int) - h)) (hd2 : 4096 * ((a : Int) - h) ≤ h) (hd3 : (k : Int) * ((k : Int) + 3) * (((a : Int) - h) * ((a : Int) - h)) < 2 * h) : g ≤ h := by
  have h0 := nw_quad (h := (h : Int)) (d := (a : Int) - h) (by omega) hd1 hd2 k hk.2
  rw [show (h : Int) + ((a : Int) - h) = a by omega] at h0
  obtain ⟨dd, ed⟩ : ∃ dd, dd = (a : Int) - h := ⟨_, rfl⟩
  rw [← ed] at h0 hd3
  obtain ⟨Qm, eQ⟩ : ∃ Qm, Qm = ((q - 1 : Nat) : Int) := ⟨_, rfl⟩
  have h1 : Qm * (a : Int) ^ k ≤ (h : Int) ^ (k + 1) := by
    have := Int.ofNat_le.mpr hq
    rw [Int.natCast_mul, Int.natCast_pow, Int.natCast_pow] at this
    rw [eQ]
    exact this
  have h2 := Int.mul_le_mul_of_nonneg_left h1 (show 0 ≤ 2 * (h : Int) by omega)
  have e1 : 2 * (h : Int) * (h : Int) ^ (k + 1) = 2 * (h : Int) ^ (k + 2) := by
    rw [show k + 2 = (k + 1) + 1 from rfl, Int.pow_succ (n := k + 1)]
    generalize (h : Int) ^ (k + 1) = A
    grind
  have pa : 0 < (a : Int) ^ k := Int.pow_pos (by omega)
  have h3 : (a : Int) ^ k * (2 * (h : Int) * Qm) ≤ (a : Int) ^ k * (2 * ((h : Int) * h) - 2 * ((k : Int) * (dd * h)) + (k : Int) * ((k : Int) + 3) * (dd * dd)) := by
    refine Int.le_trans (Int.le_of_eq ?_) (Int.le_trans h2 (Int.le_trans (Int.le_of_eq e1) h0))
    generalize (a : Int) ^ k = A
    grind
  have h4 := Int.le_of_mul_le_mul_left h3 pa
  have h5 : (h : Int) * Qm < (h : Int) * (h - k * dd + 1) := by
    have e2 : (h : Int) * (h - k * dd + 1) = (h : Int) * h - (k : Int) * (dd * h) + h := by grind
    rw [e2]
    generalize (k : Int) * ((k : Int) + 3) * (dd * dd) = A at h4 hd3
    have e3 : 2 * (h : Int) * Qm = 2 * ((h : Int) * Qm) := Int.mul_assoc _ _ _
    rw [e3] at h4
    generalize (h : Int) * Qm = B at h4 ⊢
    generalize (h : Int) * (h : Int) = D at h4 ⊢
    generalize (k : Int) * (dd * h) = E at h4 ⊢
    omega
  have h6 := Int.lt_of_mul_lt_mul_left h5 (show 0 ≤ (h : Int) by omega)
  rw [hg]
  refine Nat.le_of_lt_succ ((Nat.div_lt_iff_lt_mul (by omega)).mpr ?_)
  have e4 : (k : Int) * (a : Int) = (k : Int) * h + k * dd := by rw [ed]; grind
  have h7 : ((k * a + q : Nat) : Int) < (((h + 1) * (k + 1) : Nat) : Int) := by
    rw [Int.natCast_add, Int.natCast_mul, e4, Int.natCast_mul]
    have e5 : ((h + 1 : Nat) : Int) * ((k + 1 : Nat) : Int) = (h : Int) * k + h + k + 1 := by
      rw [show ((h + 1 : Nat) : Int) = (h : Int) + 1 by omega, show ((k + 1 : Nat) : Int) = (k : Int) + 1 by omega]
      grind
    rw [e5, Int.mul_comm (h : Int) k]
    generalize (k : Int) * (h : Int) = A
    generalize (k : Int) * dd = B at h6 ⊢
    omega
  exact Int.ofNat_lt.mp h7
theorem pw_diff {u e : Nat} : ∀ k : Nat, (u + e) ^ (k + 1) ≤ u ^ (k + 1) + (k + 1) * e * (u + e) ^ k
  | 0 => by rw [Nat.pow_succ, Nat.pow_zero, Nat.pow_succ, Nat.pow_zero]; omega
  | k + 1 => by
    have ih := pw_diff (u := u) (e := e) k
    have h1 : u ^ (k + 1) ≤ (u + e) ^ (k + 1) := Nat.pow_le_pow_left (by omega) _
    have h2 := Nat.mul_le_mul_right (u + e) ih
    have h3 : e * u ^ (k + 1) ≤ e * (u + e) ^ (k + 1) := Nat.mul_le_mul_left _ h1
    have e1 : (u + e) ^ (k + 1 + 1) = (u + e) ^ (k + 1) * (u + e) := Nat.pow_succ _ _
    have e2 : u ^ (k + 1 + 1) = u ^ (k + 1) * u := Nat.pow_succ _ _
    have e3 : (u + e) ^ (k + 1) = (u + e) ^ k * (u + e) := Nat.pow_succ _ _
    have e4 : (u ^ (k + 1) + (k + 1) * e * (u + e) ^ k) * (u + e) = u ^ (k + 1) * u + e * u ^ (k + 1) + (k + 1) * e * (u + e) ^ (k + 1) := by
      rw [e3]
      generalize u ^ (k + 1) = A
      generalize (u + e) ^ k = B
      grind
    have e5 : (k + 1 + 1) * e * (u + e) ^ (k + 1) = (k + 1) * e * (u + e) ^ (k + 1) + e * (u + e) ^ (k + 1) := by
      generalize (u + e) ^ (k + 1) = B
      grind
    rw [e5, e1, e2]
    rw [e4] at h2
    omega
/-- above the root a step grows with the guess -/
theorem nw_mono {w u e b j : Nat} (hw : w ≤ u) (hu : 0 < u) (hb : w ^ (j + 2) ≤ b * (u + e) ^ (j + 1)) : w ^ (j + 2) ≤ ((j + 1) * e + b) * u ^ (j + 1) := by
  have d1 := pw_diff (u := u) (e := e) j
  have d2 : w ^ (j + 2) ≤ u ^ (j + 1) * (u + e) := by
    refine Nat.le_trans (Nat.pow_le_pow_left hw _) ?_
    rw [show j + 2 = (j + 1) + 1 from rfl, Nat.pow_succ]
    exact Nat.mul_le_mul_left _ (by omega)
  have pv : 0 < (u + e) ^ (j + 1) := Nat.pow_pos (by omega)
  refine Nat.le_of_mul_le_mul_right ?_ pv
  have h1 := Nat.mul_le_mul_left (w ^ (j + 2)) d1
  have h2 := Nat.mul_le_mul_right (u ^ (j + 1)) hb
  have h3 := Nat.mul_le_mul_right ((j + 1) * e * (u + e) ^ j) d2
  have e3 : (u + e) ^ (j + 1) = (u + e) ^ j * (u + e) := Nat.pow_succ _ _
  have e1 : w ^ (j + 2) * (u ^ (j + 1) + (j + 1) * e * (u + e) ^ j) = w ^ (j + 2) * u ^ (j + 1) + w ^ (j + 2) * ((j + 1) * e * (u + e) ^ j) := Nat.mul_add _ _ _
  have e2 : ((j + 1) * e + b) * u ^ (j + 1) * (u + e) ^ (j + 1) = b * (u + e) ^ (j + 1) * u ^ (j + 1) + u ^ (j + 1) * (u + e) * ((j + 1) * e * (u + e) ^ j) := by
    rw [e3]
    generalize u ^ (j + 1) = A
    generalize (u + e) ^ j = B
    generalize u + e = F
    grind
  rw [e2]
  rw [e1] at h1
  exact Nat.le_trans h1 (Nat.add_le_add h2 h3)
theorem nw_tab {a q j g h H C E D c' : Nat} (ha : h ≤ a) (h0 : 0 < h) (H0 : 0 < H) (hC : a * H ≤ C * h) (hE : H ^ (j + 2) ≤ E * C ^ (j + 1)) (hq : (q - 1) * a ^ (j + 1) ≤ h ^ (j + 2)) (hg : g = ((j + 1) * a + q) / (j + 2)) (hD : H ≤ D * h) (hc : (j + 1) * C + E + D ≤ (j + 2) * c') : g * H ≤ c' * h := by
  obtain ⟨e, he⟩ : ∃ e, C * h = a * H + e := ⟨C * h - a * H, by omega⟩
  have m := nw_mono (w := h * H) (u := a * H) (e := e) (b := h * E) (j := j) (Nat.mul_le_mul_right _ ha) (Nat.mul_pos (by omega) H0) (by
    rw [← he, Nat.mul_pow, Nat.mul_pow]
    have := Nat.mul_le_mul_left (h ^ (j + 2)) hE
    refine Nat.le_trans this (Nat.le_of_eq ?_)
    rw [show h ^ (j + 2) = h ^ (j + 1) * h from Nat.pow_succ _ _]
    generalize h ^ (j + 1) = A
    generalize C ^ (j + 1) = B
    grind)
  have m2 : (q - 1) * H * (a * H) ^ (j + 1) ≤ (h * H) ^ (j + 2) := by
    rw [Nat.mul_pow, Nat.mul_pow]
    refine Nat.le_trans (Nat.le_of_eq ?_) (Nat.mul_le_mul_right (H ^ (j + 2)) hq)
    rw [show H ^ (j + 2) = H ^ (j + 1) * H from Nat.pow_succ _ _]
    generalize H ^ (j + 1) = A
    generalize a ^ (j + 1) = B
    grind
  have m3 := Nat.le_of_mul_le_mul_right (Nat.le_trans m2 m) (Nat.pow_pos (Nat.mul_pos (show 0 < a by omega) H0))
  have m4 : (j + 2) * g ≤ (j + 1) * a + q := by rw [hg]; exact Nat.mul_div_le _ _
  have m5 := Nat.mul_le_mul_right H m4
  have m6 : q * H ≤ (q - 1) * H + H := by
    have := Nat.mul_le_mul_right H (show q ≤ (q - 1) + 1 by omega)
    rw [Nat.add_mul, Nat.one_mul] at this
    exact this
  have m7 := Nat.mul_le_mul_right h hc
  refine Nat.le_of_mul_le_mul_left (c := j + 2) ?_ (by omega)
  have e1 : ((j + 1) * a + q) * H = (j + 1) * (a * H) + q * H := by rw [Nat.add_mul, Nat.mul_assoc]
  have e2 : ((j + 1) * C + E + D) * h = (j + 1) * (C * h) + h * E + D * h := by rw [Nat.add_mul, Nat.add_mul, Nat.mul_assoc, Nat.mul_comm E]
  rw [he, Nat.mul_add] at e2
  have e3 : (j + 2) * (g * H) = (j + 2) * g * H := (Nat.mul_assoc _ _ _).symm
  have e4 : (j + 2) * (c' * h) = (j + 2) * c' * h := (Nat.mul_assoc _ _ _).symm
  rw [e3, e4]
  rw [e1] at m5
  rw [e2] at m7
  generalize (j + 1) * (a * H) = A1 at m5 m7
  generalize (j + 1) * e = A2 at m3 m7
  omega
def nwN (k C : Nat) : Nat := max 1208925819614629174706176 ((k * C + (1208925819614629174706176 ^ (k + 1) / C ^ k + 1) + 65536) / (k + 1) + 1)
def nwI (k : Nat) : Nat → Nat
  | 0 => 2 * 1208925819614629174706176
  | i + 1 => nwN k (nwI k i)
theorem nwI_all : (List.range 31).all (fun k => Nat.ble (nwI (k + 1) 99) (1208925819614629174706176 + 32769)) = true := by decide +kernel
theorem nwI_ok {k : Nat} (h1 : 1 ≤ k) (h2 : k ≤ 31) : nwI k 99 ≤ 1208925819614629174706176 + 32769 := by
  have := List.all_eq_true.mp nwI_all (k - 1) (List.mem_range.mpr (by omega))
  rw [show k - 1 + 1 = k by omega] at this
  exact Nat.le_of_ble_eq_true this
theorem nwI_ge {k : Nat} : ∀ i, 1208925819614629174706176 ≤ nwI k i
  | 0 => by unfold nwI; decide
  | i + 1 => by unfold nwI nwN; exact Nat.le_max_left _ _
/-- the falling steps -/
theorem nw_fall {a q j g h i : Nat} (ha : h ≤ a) (h0 : 18446744073709551616 ≤ h) (hC : a * 1208925819614629174706176 ≤ nwI (j + 1) i * h) (hq : (q - 1) * a ^ (j + 1) ≤ h ^ (j + 2)) (hg : g = ((j + 1) * a + q) / (j + 2)) : g * 1208925819614629174706176 ≤ nwI (j + 1) (i + 1) * h := by
  have hC0 := nwI_ge (k := j + 1) i
  show _ ≤ nwN (j + 1) (nwI (j + 1) i) * h
  obtain ⟨C, eC⟩ : ∃ C, C = nwI (j + 1) i := ⟨_, rfl⟩
  rw [← eC] at hC hC0 ⊢
  refine nw_tab (C := C) (E := 1208925819614629174706176 ^ (j + 2) / C ^ (j + 1) + 1) (D := 65536) ha (by omega) (by decide) hC ?_ hq hg (by omega) ?_
  · have := Nat.lt_mul_div_succ (1208925819614629174706176 ^ (j + 2)) (b := C ^ (j + 1)) (Nat.pow_pos (by omega))
    rw [Nat.mul_comm]
    omega
  · have h1 : ((j + 1) * C + (1208925819614629174706176 ^ (j + 1 + 1) / C ^ (j + 1) + 1) + 65536) / (j + 1 + 1) + 1 ≤ nwN (j + 1) C := Nat.le_max_right _ _
    have h2 := Nat.mul_le_mul_left (j + 2) h1
    refine Nat.le_trans ?_ h2
    generalize (j + 1) * C + (1208925819614629174706176 ^ (j + 1 + 1) / C ^ (j + 1) + 1) + 65536 = A
    have : A < (j + 2) * (A / (j + 1 + 1) + 1) := Nat.lt_mul_div_succ A (b := j + 1 + 1) (by omega)
    omega
