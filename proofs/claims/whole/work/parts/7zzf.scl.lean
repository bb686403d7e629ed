/-! a text's number: the class's and the reference's are one -/
def sScl (p least greatest gradual sg mode : Int) (rx v : Nat) (sc f : Int) : OO :=
  if 18000 < sc * ((xbl rx : Int) - 1) then oR p least greatest gradual sg mode 0 1 40000 f
  else if 50000 < -sc * ((xbl rx : Int) - 1) then oR p least greatest gradual sg mode 0 1 (-40000) f
  else if sc = 0 then oR p least greatest gradual sg mode 0 v 0 f
  else if 0 < sc then oR p least greatest gradual sg mode 0 (v * rx ^ sc.natAbs) 0 f
  else oR p least greatest gradual sg mode (if ratX p v (rx ^ sc.natAbs) % rx ^ sc.natAbs = 0 then 0 else 1) (ratX p v (rx ^ sc.natAbs) / rx ^ sc.natAbs) (0 - moreOf p v (rx ^ sc.natAbs) - 0) f
theorem pow_b1 {rx n : Nat} (hr : rx ≠ 0) : 2 ^ ((xbl rx - 1) * n) ≤ rx ^ n := by
  rw [Nat.pow_mul]
  exact Nat.pow_le_pow_left (xbl_of hr).1 n
theorem ratq_b {p : Int} {v D : Nat} (hv : v ≠ 0) (hD : D ≠ 0) : p + 3 ≤ (xbl (ratX p v D / D) : Int) := by
  have h1 := quo_bl (x := ratX p v D) (y := D) hD
  have h2 : xbl (ratX p v D) = xbl v + (moreOf p v D).toNat := xbl_pow _ _ hv
  unfold moreOf at h2
  omega
/-- a quotient's denominator with a power of two -/
theorem oR_den {p least greatest gradual sg mode f : Int} {v D k j : Nat} {e : Int} (hD : 0 < D) (hp : 0 ≤ p) (hx : p + 1 ≤ (xbl (v * 2 ^ k / (D * 2 ^ j)) : Int)) : ∃ a : Nat, p + 1 ≤ (xbl (v * 2 ^ a / D) : Int) ∧ oR p least greatest gradual sg mode (if v * 2 ^ k % (D * 2 ^ j) = 0 then 0 else 1) (v * 2 ^ k / (D * 2 ^ j)) (e - (k : Int)) f = oR p least greatest gradual sg mode (if v * 2 ^ a % D = 0 then 0 else 1) (v * 2 ^ a / D) (e - (j : Int) - (a : Int)) f := by
  by_cases h : j ≤ k
  · obtain ⟨a, rfl⟩ : ∃ a, k = a + j := ⟨k - j, by omega⟩
    have e1 : v * 2 ^ (a + j) = v * 2 ^ a * 2 ^ j := by rw [Nat.pow_add, Nat.mul_assoc]
    have e2 : v * 2 ^ a * 2 ^ j / (D * 2 ^ j) = v * 2 ^ a / D := Nat.mul_div_mul_right _ _ (Nat.two_pow_pos _)
    have e3 : (v * 2 ^ a * 2 ^ j % (D * 2 ^ j) = 0) = (v * 2 ^ a % D = 0) := by
      rw [Nat.mul_mod_mul_right]
      refine propext ⟨fun h => ?_, fun h => by rw [h, Nat.zero_mul]⟩
      rcases Nat.mul_eq_zero.mp h with g | g
      · exact g
      · exact absurd g (Nat.ne_of_gt (Nat.two_pow_pos _))
    rw [e1, e2] at hx
    refine ⟨a, hx, ?_⟩
    rw [e1, e2]
    simp only [e3]
    rw [show e - ((a + j : Nat) : Int) = e - (j : Int) - (a : Int) by omega]
  · obtain ⟨b, rfl⟩ : ∃ b, j = k + b := ⟨j - k, by omega⟩
    have e0 : D * 2 ^ (k + b) = D * 2 ^ b * 2 ^ k := by rw [Nat.pow_add, Nat.mul_comm (2 ^ k), Nat.mul_assoc]
    have e2 : v * 2 ^ k / (D * 2 ^ b * 2 ^ k) = v / (D * 2 ^ b) := Nat.mul_div_mul_right _ _ (Nat.two_pow_pos _)
    have e3 : (v * 2 ^ k % (D * 2 ^ b * 2 ^ k) = 0) = (v % (D * 2 ^ b) = 0) := by
      rw [Nat.mul_mod_mul_right]
      refine propext ⟨fun h => ?_, fun h => by rw [h, Nat.zero_mul]⟩
      rcases Nat.mul_eq_zero.mp h with g | g
      · exact g
      · exact absurd g (Nat.ne_of_gt (Nat.two_pow_pos _))
    have e4 : v / (D * 2 ^ b) = v / D / 2 ^ b := (Nat.div_div_eq_div_mul _ _ _).symm
    rw [e0, e2, e4] at hx
    have x1 := xbl_div (v / D) b
    have hx0 : p + 1 ≤ (xbl (v / D) : Int) - b := by omega
    refine ⟨0, ?_, ?_⟩
    · rw [Nat.pow_zero, Nat.mul_one]; omega
    · rw [e0, e2, Nat.pow_zero, Nat.mul_one]
      simp only [e3]
      rw [← oR_cut (m := v / D) (k := b) (more := if v % D = 0 then 0 else 1) hx0 hp, e4, show e - ((k : Nat) : Int) = e - ((k + b : Nat) : Int) - ((0 : Nat) : Int) + (b : Int) by omega]
      congr 1
      unfold mo2
      have d1 := Nat.div_add_mod v D
      have d2 := Nat.div_add_mod (v / D) (2 ^ b)
      have d3 := Nat.div_add_mod v (D * 2 ^ b)
      have D0 : 0 < D * 2 ^ b := Nat.mul_pos hD (Nat.two_pow_pos _)
      by_cases hz : v % (D * 2 ^ b) = 0
      · rw [if_pos hz]
        rw [hz, Nat.add_zero, e4] at d3
        have hv1 : v % D = 0 := by rw [← d3, Nat.mul_assoc]; exact Nat.mul_mod_right _ _
        have hv2 : v / D = 2 ^ b * (v / D / 2 ^ b) := by
          have h5 : v = D * (2 ^ b * (v / D / 2 ^ b)) := by rw [← Nat.mul_assoc]; exact d3.symm
          have h6 := congrArg (· / D) h5
          simp only [Nat.mul_div_cancel_left _ hD] at h6
          exact h6
        rw [if_pos ⟨by rw [if_pos hv1], by rw [hv2]; exact Nat.mul_mod_right _ _⟩]
      · rw [if_neg hz, if_neg ?_]
        rintro ⟨a1, a2⟩
        have b1 : v % D = 0 := Classical.byContradiction fun q => by rw [if_neg q] at a1; exact absurd a1 (by decide)
        apply hz
        rw [a2, Nat.add_zero] at d2
        rw [b1, Nat.add_zero, ← d2, ← Nat.mul_assoc] at d1
        rw [← d1]
        exact Nat.mul_mod_right _ _
theorem oR_rc2 {p least greatest gradual sg mode e f : Int} {v D a a0 : Nat} (hD : 0 < D) (hp : 0 ≤ p) (ha : p + 1 ≤ (xbl (v * 2 ^ a / D) : Int)) (ha0 : p + 1 ≤ (xbl (v * 2 ^ a0 / D) : Int)) : oR p least greatest gradual sg mode (if v * 2 ^ a % D = 0 then 0 else 1) (v * 2 ^ a / D) (e - (a : Int)) f = oR p least greatest gradual sg mode (if v * 2 ^ a0 % D = 0 then 0 else 1) (v * 2 ^ a0 / D) (e - (a0 : Int)) f := by
  by_cases h : a0 ≤ a
  · obtain ⟨k, rfl⟩ : ∃ k, a = a0 + k := ⟨a - a0, by omega⟩
    exact oR_rat hD hp ha0
  · obtain ⟨k, rfl⟩ : ∃ k, a0 = a + k := ⟨a0 - a, by omega⟩
    exact (oR_rat hD hp ha).symm
section
variable {p least greatest gradual sg mode f sh : Int} {rx v sig O tw : Nat}
theorem mul_b1 (hr : 2 ≤ rx ∧ rx ≤ 36) : 2 ≤ xbl rx ∧ xbl rx ≤ 6 := ⟨by have := xbl_ge (show 2 ^ 1 ≤ rx from hr.1); omega, xbl_le (by omega)⟩
theorem sub_len {M k c : Nat} (h : M * 2 ^ c ≤ 2 ^ k) (hM : M ≠ 0) : xbl M + c ≤ k + 1 := by
  have h1 := xbl_mono h
  rw [xbl_pow _ _ hM, xbl_2pow] at h1
  exact h1
/-- the class's far numbers -/
theorem ev_hi (hr : 2 ≤ rx ∧ rx ≤ 36) (hv : v ≠ 0) (bs : sig ≤ 4096) (h1 : v < rx ^ sig) (h2 : sig = 0 ∨ rx ^ (sig - 1) ≤ v) (hp : 2 ≤ p ∧ p ≤ 4096) (hl : -16384 ≤ least ∧ least ≤ greatest ∧ greatest ≤ 16384) (h : 2 + 16400 * lgt rx / 1099511627776 < (sig : Int) - 1 + sh) : sScl p least greatest gradual sg mode rx v sh f = bigR p greatest sg mode f := by
  obtain ⟨⟨l1, l2⟩, l3, -⟩ := lgt_ok hr
  have hd : 0 ≤ 16400 * lgt rx / 1099511627776 := Int.ediv_nonneg (by omega) (by decide)
  obtain ⟨K, hK⟩ : ∃ K : Int, K = 16400 * lgt rx / 1099511627776 := ⟨_, rfl⟩
  rw [← hK] at h l3 hd
  have hs0 : sig ≠ 0 := by
    intro z
    rw [z, Nat.pow_zero] at h1
    omega
  have h3 := h2.resolve_left hs0
  have hb := mul_b1 hr
  have hmul : ∀ x : Int, 0 ≤ x → x ≤ x * ((xbl rx : Int) - 1) ∧ x * ((xbl rx : Int) - 1) ≤ x * 5 := fun x hx => ⟨by have := Int.mul_le_mul_of_nonneg_left (show (1 : Int) ≤ (xbl rx : Int) - 1 by omega) hx; omega, Int.mul_le_mul_of_nonneg_left (by omega) hx⟩
  unfold sScl
  by_cases c1 : 18000 < sh * ((xbl rx : Int) - 1)
  · rw [if_pos c1]
    exact oR_big (by decide) (by omega) hl.2.1 (by rw [xbl_one]; omega)
  · rw [if_neg c1]
    by_cases hn : 0 ≤ sh
    · have hP : 2 ^ 16400 ≤ v * rx ^ sh.natAbs := by
        refine Nat.le_trans l3 (Nat.le_trans (Nat.pow_le_pow_right (by omega) (show (3 + K).toNat ≤ sig - 1 + sh.natAbs by omega)) ?_)
        rw [Nat.pow_add]
        exact Nat.mul_le_mul_right _ h3
      have hx := xbl_ge hP
      rw [if_neg (by have := (hmul sh hn).1; rw [Int.neg_mul]; omega)]
      by_cases c0 : sh = 0
      · rw [if_pos c0]
        rw [c0, show (0 : Int).natAbs = 0 from rfl, Nat.pow_zero, Nat.mul_one] at hx
        exact oR_big hv (by omega) hl.2.1 (by omega)
      · rw [if_neg c0, if_pos (by omega)]
        exact oR_big (Nat.mul_ne_zero hv (Nat.ne_of_gt (Nat.pow_pos (by omega)))) (by omega) hl.2.1 (by omega)
    · have c2 : ¬ 50000 < -sh * ((xbl rx : Int) - 1) := by
        have := (hmul (-sh) (by omega)).2
        omega
      rw [if_neg c2, if_neg (by omega), if_neg (by omega)]
      have D0 : 0 < rx ^ sh.natAbs := Nat.pow_pos (by omega)
      have hP : 2 ^ 16400 * rx ^ sh.natAbs ≤ v := by
        refine Nat.le_trans (Nat.mul_le_mul_right _ l3) (Nat.le_trans ?_ h3)
        rw [← Nat.pow_add]
        exact Nat.pow_le_pow_right (by omega) (by omega)
      have hq : 2 ^ 16400 * 2 ^ (moreOf p v (rx ^ sh.natAbs)).toNat ≤ ratX p v (rx ^ sh.natAbs) / rx ^ sh.natAbs := by
        unfold ratX
        rw [Nat.le_div_iff_mul_le D0, Nat.mul_assoc, Nat.mul_comm (2 ^ _) (rx ^ _), ← Nat.mul_assoc]
        exact Nat.mul_le_mul_right _ hP
      rw [← Nat.pow_add] at hq
      have hx := xbl_ge hq
      have hm0 : 0 ≤ moreOf p v (rx ^ sh.natAbs) := by unfold moreOf; omega
      exact oR_big (fun z => by rw [z, xbl_zero] at hx; omega) (by omega) hl.2.1 (by omega)
theorem ev_lo (hr : 2 ≤ rx ∧ rx ≤ 36) (hv : v ≠ 0) (h1 : v < rx ^ sig) (hp : 2 ≤ p ∧ p ≤ 4096) (hl : -16384 ≤ least ∧ least ≤ greatest ∧ greatest ≤ 16384) (h : (sig : Int) + sh < (-20600 * lgt rx) / 1099511627776 - 2) : sScl p least greatest gradual sg mode rx v sh f = tinR p least gradual sg mode f := by
  obtain ⟨⟨l1, l2⟩, -, l3⟩ := lgt_ok hr
  have hd : (-20600 * lgt rx) / 1099511627776 ≤ 0 := by omega
  obtain ⟨K, hK⟩ : ∃ K : Int, K = (-20600 * lgt rx) / 1099511627776 := ⟨_, rfl⟩
  rw [← hK] at h l3 hd
  have hb := mul_b1 hr
  have D0 : 0 < rx ^ sh.natAbs := Nat.pow_pos (by omega)
  have hneg := Int.mul_le_mul_of_nonneg_left (show (1 : Int) ≤ (xbl rx : Int) - 1 by omega) (show 0 ≤ -sh by omega)
  unfold sScl
  have hng2 : -sh * ((xbl rx : Int) - 1) = -(sh * ((xbl rx : Int) - 1)) := Int.neg_mul _ _
  rw [if_neg (by omega)]
  by_cases c2 : 50000 < -sh * ((xbl rx : Int) - 1)
  · rw [if_pos c2]
    exact oR_tiny (by decide) (Or.inl rfl) hp.1 hl.2.1 (by rw [xbl_one]; omega)
  · rw [if_neg c2, if_neg (by omega), if_neg (by omega)]
    have hP : v * 2 ^ 20600 ≤ rx ^ sh.natAbs := by
      have g1 : v * 2 ^ 20600 ≤ rx ^ sig * rx ^ (3 - K).toNat := Nat.mul_le_mul (Nat.le_of_lt h1) l3
      rw [← Nat.pow_add] at g1
      exact Nat.le_trans g1 (Nat.pow_le_pow_right (by omega) (by omega))
    have hqb := ratq_b (p := p) hv (show rx ^ sh.natAbs ≠ 0 by omega)
    obtain ⟨M, eM⟩ : ∃ M, M = ratX p v (rx ^ sh.natAbs) / rx ^ sh.natAbs := ⟨_, rfl⟩
    rw [← eM] at hqb ⊢
    have hM0 : M ≠ 0 := fun z => by rw [z, xbl_zero] at hqb; omega
    have hMD : M * rx ^ sh.natAbs ≤ ratX p v (rx ^ sh.natAbs) := by rw [eM]; exact Nat.div_mul_le_self _ _
    have hm0 : 0 ≤ moreOf p v (rx ^ sh.natAbs) := by unfold moreOf; omega
    unfold ratX at hMD
    have hM2 : M * 2 ^ 20600 ≤ 2 ^ (moreOf p v (rx ^ sh.natAbs)).toNat := by
      refine Nat.le_of_mul_le_mul_left (c := v) ?_ (by omega)
      refine Nat.le_trans (Nat.le_trans (Nat.le_of_eq ?_) (Nat.mul_le_mul_left M hP)) hMD
      rw [← Nat.mul_assoc, ← Nat.mul_assoc, Nat.mul_comm v]
    have := sub_len hM2 hM0
    exact oR_tiny hM0 (by split; exact Or.inl rfl; exact Or.inr rfl) hp.1 hl.2.1 (by omega)
/-- the number of a text rounds as the reference's -/
theorem ev_same (hr : 2 ≤ rx ∧ rx ≤ 36) (etw : rx = 2 ^ tw * O) (hO : 0 < O) (hv : v ≠ 0) (bv : xbl v ≤ 24576) (bs : sig ≤ 4096) (h1 : v < rx ^ sig) (h2 : sig = 0 ∨ rx ^ (sig - 1) ≤ v) (hp : 2 ≤ p ∧ p ≤ 4096) (hl : -16384 ≤ least ∧ least ≤ greatest ∧ greatest ≤ 16384) : oR p least greatest gradual sg mode (evS p rx v sh sig O tw).2.2 (evS p rx v sh sig O tw).1 (evS p rx v sh sig O tw).2.1 f = sScl p least greatest gradual sg mode rx v sh f := by
  have hb := mul_b1 hr
  unfold evS
  by_cases c1 : 2 + 16400 * lgt rx / 1099511627776 < (sig : Int) - 1 + sh
  · rw [if_pos c1, ev_hi hr hv bs h1 h2 hp hl c1]
    exact oR_big (by decide) (by omega) hl.2.1 (by show greatest < ((xbl 1 : Nat) : Int) + 30000; rw [xbl_one]; omega)
  · rw [if_neg c1]
    by_cases c2 : (sig : Int) + sh < (-20600 * lgt rx) / 1099511627776 - 2
    · rw [if_pos c2, ev_lo hr hv h1 hp hl c2]
      exact oR_tiny (by decide) (Or.inl rfl) hp.1 hl.2.1 (by show ((xbl 1 : Nat) : Int) + -30000 < _; rw [xbl_one]; omega)
    · rw [if_neg c2]
      have eT : O ^ sh.natAbs * 2 ^ (tw * sh.natAbs) = rx ^ sh.natAbs := by rw [etw, Nat.mul_pow, ← Nat.pow_mul, Nat.mul_comm]
      have T0 : 0 < O ^ sh.natAbs := Nat.pow_pos hO
      have hpb := pow_b1 (rx := rx) (n := sh.natAbs) (by omega)
      unfold sScl
      by_cases hn : 0 ≤ sh
      · rw [if_pos hn]
        have hbn : sh * ((xbl rx : Int) - 1) = (((xbl rx - 1) * sh.natAbs : Nat) : Int) := by
          rw [Int.natCast_mul, show ((xbl rx - 1 : Nat) : Int) = (xbl rx : Int) - 1 by omega, show (sh.natAbs : Int) = sh by omega, Int.mul_comm]
        have hsx : (tw : Int) * sh = ((tw * sh.natAbs : Nat) : Int) := by rw [Int.natCast_mul, show (sh.natAbs : Int) = sh by omega]
        have hx : xbl (v * O ^ sh.natAbs) + tw * sh.natAbs = xbl (v * rx ^ sh.natAbs) := by
          rw [← eT, ← Nat.mul_assoc, xbl_pow _ _ (Nat.mul_ne_zero hv (by omega))]
        by_cases c3 : 18000 < sh * ((xbl rx : Int) - 1)
        · rw [if_pos c3]
          have g1 : 2 ^ ((xbl rx - 1) * sh.natAbs) ≤ v * rx ^ sh.natAbs := Nat.le_trans hpb (Nat.le_mul_of_pos_left _ (by omega))
          have g2 := xbl_ge g1
          rw [oR_big (m := 1) (e := 40000) (by decide) (by omega) hl.2.1 (by rw [xbl_one]; omega)]
          dsimp only
          rw [hsx]
          exact oR_big (Nat.mul_ne_zero hv (by omega)) (by omega) hl.2.1 (by omega)
        · rw [if_neg c3, if_neg (by rw [Int.neg_mul]; omega)]
          dsimp only
          by_cases c0 : sh = 0
          · rw [if_pos c0, c0, show (0 : Int).natAbs = 0 from rfl, Nat.pow_zero, Nat.mul_one, Int.mul_zero]
          · rw [if_neg c0, if_pos (by omega), ← eT, ← Nat.mul_assoc, hsx]
            have := oR_sc (p := p) (least := least) (greatest := greatest) (gradual := gradual) (sg := sg) (mode := mode) (e := ((tw * sh.natAbs : Nat) : Int)) (f := f) (m := v * O ^ sh.natAbs) (k := tw * sh.natAbs) (Nat.mul_ne_zero hv (by omega))
            rw [← this, Int.sub_self]
      · rw [if_neg hn]
        have hbn : -sh * ((xbl rx : Int) - 1) = (((xbl rx - 1) * sh.natAbs : Nat) : Int) := by
          rw [Int.natCast_mul, show ((xbl rx - 1 : Nat) : Int) = (xbl rx : Int) - 1 by omega, show (sh.natAbs : Int) = -sh by omega, Int.mul_comm]
        have hsx : (tw : Int) * sh = -((tw * sh.natAbs : Nat) : Int) := by rw [Int.natCast_mul, show (sh.natAbs : Int) = -sh by omega, Int.mul_neg, Int.neg_neg]
        have hng2 : -sh * ((xbl rx : Int) - 1) = -(sh * ((xbl rx : Int) - 1)) := Int.neg_mul _ _
        have hcl := ratq_b (p := p) hv (show O ^ sh.natAbs ≠ 0 by omega)
        unfold ratX moreOf at hcl
        obtain ⟨pl, epl⟩ : ∃ pl : Nat, max 0 (p + 3 + (xbl (O ^ sh.natAbs) : Int) - (xbl v : Int)) = (pl : Int) := ⟨(max 0 (p + 3 + (xbl (O ^ sh.natAbs) : Int) - (xbl v : Int))).toNat, by omega⟩
        rw [epl, show ((pl : Nat) : Int).toNat = pl from rfl] at hcl
        rw [if_neg (show ¬ 18000 < sh * ((xbl rx : Int) - 1) by omega), epl, show ((pl : Nat) : Int).toNat = pl from rfl, hsx]
        dsimp only
        by_cases c3 : 50000 < -sh * ((xbl rx : Int) - 1)
        · rw [if_pos c3, oR_tiny (m := 1) (e := -40000) (by decide) (Or.inl rfl) hp.1 hl.2.1 (by rw [xbl_one]; omega)]
          obtain ⟨M, eM⟩ : ∃ M, M = v * 2 ^ pl / O ^ sh.natAbs := ⟨_, rfl⟩
          rw [← eM] at hcl ⊢
          have hM0 : M ≠ 0 := fun z => by rw [z, xbl_zero] at hcl; omega
          have hMD : M * O ^ sh.natAbs ≤ v * 2 ^ pl := by rw [eM]; exact Nat.div_mul_le_self _ _
          have g1 : M * 2 ^ 50001 ≤ 2 ^ (24576 + (pl + tw * sh.natAbs)) := by
            have g2 : M * rx ^ sh.natAbs ≤ v * 2 ^ (pl + tw * sh.natAbs) := by
              rw [← eT, ← Nat.mul_assoc, Nat.pow_add, ← Nat.mul_assoc]
              exact Nat.mul_le_mul_right _ hMD
            have g3 : 2 ^ 50001 ≤ rx ^ sh.natAbs := Nat.le_trans (Nat.pow_le_pow_right (by omega) (by omega)) hpb
            have g4 : v ≤ 2 ^ 24576 := Nat.le_of_lt (Nat.lt_of_lt_of_le (xbl_lt v) (Nat.pow_le_pow_right (by omega) bv))
            rw [Nat.pow_add]
            exact Nat.le_trans (Nat.mul_le_mul_left _ g3) (Nat.le_trans g2 (Nat.mul_le_mul_right _ g4))
          have g5 := sub_len g1 hM0
          exact oR_tiny hM0 (by split; exact Or.inl rfl; exact Or.inr rfl) hp.1 hl.2.1 (by omega)
        · rw [if_neg c3, if_neg (show ¬ sh = 0 by omega), if_neg (show ¬ 0 < sh by omega)]
          have hq := ratq_b (p := p) hv (show rx ^ sh.natAbs ≠ 0 from Nat.ne_of_gt (Nat.pow_pos (by omega)))
          unfold ratX at hq ⊢
          have hm0 : 0 ≤ moreOf p v (rx ^ sh.natAbs) := by unfold moreOf; omega
          obtain ⟨k, ek⟩ : ∃ k : Nat, moreOf p v (rx ^ sh.natAbs) = (k : Int) := ⟨(moreOf p v (rx ^ sh.natAbs)).toNat, by omega⟩
          rw [ek, show ((k : Nat) : Int).toNat = k from rfl] at hq ⊢
          rw [← eT] at hq ⊢
          obtain ⟨a, a1, a2⟩ := oR_den (p := p) (least := least) (greatest := greatest) (gradual := gradual) (sg := sg) (mode := mode) (f := f) (v := v) (D := O ^ sh.natAbs) (k := k) (j := tw * sh.natAbs) (e := 0) T0 (by omega) (by omega)
          rw [show (0 : Int) - (k : Int) - 0 = 0 - (k : Int) by omega, a2, oR_rc2 (a := a) (a0 := pl) T0 (by omega) a1 (by omega), show (0 : Int) - ((tw * sh.natAbs : Nat) : Int) - (pl : Int) = -((tw * sh.natAbs : Nat) : Int) - (pl : Int) by omega]
end
