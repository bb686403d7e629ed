/-! a cut power, by finer measure -/
theorem pCut_K {most : Int} {v W m P : Nat} {sc cut : Int} (hm : 2 ≤ most) (hW : W = 2 ^ (32 * (most.toNat - 1))) (hmW : m ≤ W) (h : pJ (1024 * W) P m ((v, sc, cut) : PT)) : pJ (1024 * W) P (m + 1025) (pCut most v sc cut) := by
  obtain ⟨h1, h2, h3, h4, h5, h6, h7⟩ := h
  unfold pA at h3 h4 h5 h6
  dsimp only at h1 h2 h3 h4 h5 h6 h7
  obtain ⟨c, ec⟩ : ∃ c, c = cutc v most := ⟨_, rfl⟩
  obtain ⟨y, ey⟩ : ∃ y, y = v / 2 ^ (32 * c) := ⟨_, rfl⟩
  have e32 : (32 * ((c : Nat) : Int)) = ((32 * c : Nat) : Int) := by omega
  have ePC : pCut most v sc cut = ((y, sc + ((32 * c : Nat) : Int), orI cut (v % 2 ^ (32 * c) ≠ 0)) : PT) := by
    unfold pCut
    rw [← ec, ← ey, e32]
    have : orI cut (nany v ((32 * c : Nat) : Int) = true) = orI cut (v % 2 ^ (32 * c) ≠ 0) := by
      unfold orI
      by_cases g : v % 2 ^ (32 * c) ≠ 0
      · rw [if_pos (Or.inr (nany_iff.mpr g)), if_pos (Or.inr g)]
      · by_cases g2 : cut ≠ 0
        · rw [if_pos (Or.inl g2), if_pos (Or.inl g2)]
        · rw [if_neg (fun hh => hh.elim g2 fun x => g (nany_iff.mp x)), if_neg (fun hh => hh.elim g2 g)]
    rw [this]
  have eA : pA (pCut most v sc cut) = y * 2 ^ (32 * c) * 2 ^ sc.toNat := by
    rw [ePC]
    unfold pA
    dsimp only
    rw [show (sc + ((32 * c : Nat) : Int)).toNat = 32 * c + sc.toNat by omega, Nat.pow_add, Nat.mul_assoc]
  have py : y * 2 ^ (32 * c) ≤ v := by rw [ey]; exact Nat.div_mul_le_self _ _
  have ps : 0 < 2 ^ sc.toNat := Nat.two_pow_pos _
  have pc : 0 < 2 ^ (32 * c) := Nat.two_pow_pos _
  have hA : y * 2 ^ (32 * c) * 2 ^ sc.toNat ≤ v * 2 ^ sc.toNat := Nat.mul_le_mul_right _ py
  have hWy : c = 0 ∨ W ≤ y := by
    by_cases g : c = 0
    · exact Or.inl g
    · right
      have hx : 32 * (most.toNat - 1) + 32 * c + 1 ≤ xbl v := by
        unfold cutc at ec
        omega
      have hv := (xbl_of (n := v) (by omega)).1
      rw [ey, hW, Nat.le_div_iff_mul_le pc, ← Nat.pow_add]
      exact Nat.le_trans (Nat.pow_le_pow_right (by omega) (by omega)) hv
  have hvW : v * W ≤ y * (W + 1) * 2 ^ (32 * c) := by
    rcases hWy with g | g
    · rw [g] at ey ⊢
      rw [Nat.mul_zero, Nat.pow_zero, Nat.div_one] at ey
      rw [ey, Nat.mul_zero, Nat.pow_zero, Nat.mul_one]
      exact Nat.mul_le_mul_left _ (by omega)
    · have h8 : v < (y + 1) * 2 ^ (32 * c) := by rw [ey, Nat.mul_comm]; exact Nat.lt_mul_div_succ _ pc
      have h9 : (y + 1) * W ≤ y * (W + 1) := by rw [Nat.add_mul, Nat.mul_add]; omega
      have h10 := Nat.mul_le_mul_right (2 ^ (32 * c)) h9
      have h11 := Nat.mul_le_mul_right W (Nat.le_of_lt h8)
      refine Nat.le_trans h11 (Nat.le_trans (Nat.le_of_eq ?_) h10)
      rw [Nat.mul_assoc, Nat.mul_comm (2 ^ (32 * c)), ← Nat.mul_assoc]
  have W0 : 0 < W := by rw [hW]; exact Nat.two_pow_pos _
  have y0 : 0 < y := by
    rcases hWy with g | g
    · rw [ey, g, Nat.mul_zero, Nat.pow_zero, Nat.div_one]; exact h1
    · omega
  refine ⟨by rw [ePC]; exact y0, by rw [ePC]; show 0 ≤ sc + ((32 * c : Nat) : Int); omega, by rw [eA]; omega, ?_, ?_, ?_, by rw [ePC]; exact orI_01 _ _⟩
  · rw [eA]
    refine Nat.le_of_mul_le_mul_right (c := W) ?_ W0
    have a1 := Nat.mul_le_mul_right W h4
    have a2 := Nat.mul_le_mul_right (2 ^ sc.toNat * (1024 * W + m)) hvW
    have a3 : (W + 1) * (1024 * W + m) ≤ (1024 * W + (m + 1025)) * W := by
      have e1 : (W + 1) * (1024 * W + m) = 1024 * (W * W) + m * W + 1024 * W + m := by grind
      have e2 : (1024 * W + (m + 1025)) * W = 1024 * (W * W) + m * W + 1025 * W := by grind
      rw [e1, e2]
      omega
    have a4 := Nat.mul_le_mul_left (y * 2 ^ (32 * c) * 2 ^ sc.toNat) a3
    generalize 2 ^ (32 * c) = A at a2 a4 ⊢
    generalize 2 ^ sc.toNat = B at a1 a2 a4 ⊢
    refine Nat.le_trans a1 (Nat.le_trans (Nat.le_of_eq ?_) (Nat.le_trans a2 (Nat.le_trans (Nat.le_of_eq ?_) (Nat.le_trans a4 (Nat.le_of_eq ?_)))))
    · grind
    · grind
    · grind
  · intro hc
    rw [ePC] at hc
    have := orI_0 hc
    rw [eA, ← h5 this.1]
    congr 1
    have h12 := Nat.div_add_mod v (2 ^ (32 * c))
    rw [← ey, Nat.mul_comm] at h12
    have h13 : v % 2 ^ (32 * c) = 0 := Classical.byContradiction this.2
    omega
  · intro hc
    rw [ePC] at hc
    rw [eA]
    rcases orI_n hc with g | g
    · have := h6 g
      omega
    · have h12 := Nat.div_add_mod v (2 ^ (32 * c))
      rw [← ey, Nat.mul_comm] at h12
      have h13 : y * 2 ^ (32 * c) < v := by omega
      have := (Nat.mul_lt_mul_right ps).mpr h13
      omega
theorem pJ_stepK {most : Int} {W b j m n i : Nat} {F : Nat} {sF cF : Int} {x : PT} (hm : 2 ≤ most) (hW : W = 2 ^ (32 * (most.toNat - 1))) (hj : n / 2 ^ (i + 1) = j) (hn : n ≤ 32) (hmj : m + 1026 ≤ 3076 * j) (h : pJ (1024 * W) (b ^ j) m x) (hF : pJ (1024 * W) b 1025 ((F, sF, cF) : PT)) (hc : cF ≠ 0 → x.2.2 ≠ 0) : ∃ m', m' + 1026 ≤ 3076 * (n / 2 ^ i) ∧ pJ (1024 * W) (b ^ (n / 2 ^ i)) m' (pSt most F sF (n / 2 ^ i % 2) x) ∧ (cF ≠ 0 → (pSt most F sF (n / 2 ^ i % 2) x).2.2 ≠ 0) := by
  have hW2 : 4294967296 ≤ W := by
    rw [hW, show (4294967296 : Nat) = 2 ^ 32 by decide]
    exact Nat.pow_le_pow_right (by omega) (by omega)
  have hh := half_step n i
  rw [hj] at hh
  have hle : n / 2 ^ i ≤ n := Nat.div_le_self _ _
  have hb2 := Nat.mod_lt (n / 2 ^ i) (show 0 < 2 by decide)
  obtain ⟨v, s, c⟩ := x
  have hmm : m * m ≤ 1024 * W := by
    have := Nat.mul_le_mul (show m ≤ 100000 by omega) (show m ≤ 100000 by omega)
    omega
  have q1 := pJ_mul (F := v) (sF := s) (cF := c) hmm (by omega) h h (fun g => g)
  have q2 := pCut_K hm hW (by omega) q1
  rw [pw2] at q2
  by_cases hb : n / 2 ^ i % 2 = 0
  · refine ⟨m + m + 1 + 1025, by omega, ?_, ?_⟩
    · rw [hb]
      unfold pSt
      rw [if_pos rfl, show n / 2 ^ i = 2 * j by omega]
      exact q2
    · intro g
      rw [hb]
      unfold pSt
      rw [if_pos rfl]
      exact pCut_c (hc g)
  · have hb1 : n / 2 ^ i % 2 = 1 := by omega
    have q3 := pJ_mul (m := m + m + 1 + 1025) (r := 1025) (Nat.le_trans (Nat.mul_le_mul_right 1025 (show m + m + 1 + 1025 ≤ 300000 by omega)) (Nat.le_trans (show 300000 * 1025 ≤ 1024 * 4294967296 by decide) (Nat.mul_le_mul_left 1024 hW2))) (Nat.mul_pos (by decide) (by omega)) q2 hF (fun g => pCut_c (hc g))
    have q4 := pCut_K hm hW (by omega) q3
    rw [← Nat.pow_succ] at q4
    refine ⟨m + m + 1 + 1025 + 1025 + 1 + 1025, by omega, ?_, ?_⟩
    · rw [hb1]
      unfold pSt
      rw [if_neg (by decide), show n / 2 ^ i = 2 * j + 1 by omega]
      exact q4
    · intro g
      rw [hb1]
      unfold pSt
      rw [if_neg (by decide)]
      exact pCut_c (pCut_c (hc g))
theorem pF_K {most : Int} {W b n : Nat} {F : Nat} {sF cF : Int} (hm : 2 ≤ most) (hW : W = 2 ^ (32 * (most.toNat - 1))) (hn : n ≤ 32) (hF : pJ (1024 * W) b 1025 ((F, sF, cF) : PT)) : ∀ (i m : Nat) (x : PT), m + 1026 ≤ 3076 * (n / 2 ^ i) → pJ (1024 * W) (b ^ (n / 2 ^ i)) m x → (cF ≠ 0 → x.2.2 ≠ 0) → ∃ m', m' + 1026 ≤ 3076 * n ∧ pJ (1024 * W) (b ^ n) m' (pF most F sF n i x)
  | 0, m, x, h1, h2, _ => by
    rw [Nat.pow_zero, Nat.div_one] at h1 h2
    exact ⟨m, h1, h2⟩
  | i + 1, m, x, h1, h2, h3 => by
    obtain ⟨m', g1, g2, g3⟩ := pJ_stepK (j := n / 2 ^ (i + 1)) hm hW rfl hn h1 h2 hF h3
    exact pF_K hm hW hn hF i m' _ g1 g2 g3
/-- what raise leaves -/
theorem pR_K {most : Int} {W b n : Nat} (hm : 2 ≤ most) (hW : W = 2 ^ (32 * (most.toNat - 1))) (hb : 0 < b) (hn1 : 1 ≤ n) (hn : n ≤ 32) : pJ (1024 * W) (b ^ n) 97406 (pR most b n) := by
  have W0 : 0 < W := by rw [hW]; exact Nat.two_pow_pos _
  have hF : pJ (1024 * W) b 1025 (pCut most b 0 0) := by
    refine pCut_K hm hW (m := 0) (by omega) ⟨hb, Int.le_refl _, ?_, ?_, fun _ => ?_, fun h => absurd rfl h, Or.inl rfl⟩
    · show b * 2 ^ (0 : Int).toNat ≤ b; simp
    · show b * (1024 * W) ≤ b * 2 ^ (0 : Int).toNat * (1024 * W + 0); simp
    · show b * 2 ^ (0 : Int).toNat = b; simp
  have eF : pCut most b 0 0 = ((b / 2 ^ (32 * cutc b most), 32 * ((cutc b most : Nat) : Int), orI 0 (nany b (32 * ((cutc b most : Nat) : Int)) = true)) : PT) := by
    unfold pCut
    rw [Int.zero_add]
  rw [eF] at hF
  unfold pR
  generalize b / 2 ^ (32 * cutc b most) = F at hF ⊢
  generalize 32 * ((cutc b most : Nat) : Int) = sF at hF ⊢
  generalize orI 0 (nany b sF = true) = cF at hF ⊢
  have hx := xbl_of (n := n) (by omega)
  obtain ⟨i, ei⟩ : ∃ i, xbl n = i + 1 := ⟨xbl n - 1, by omega⟩
  rw [ei] at hx ⊢
  have h1 : n / 2 ^ i = 1 := by
    have a1 : 1 ≤ n / 2 ^ i := (Nat.le_div_iff_mul_le (Nat.two_pow_pos _)).mpr (by simpa using hx.1)
    have a2 : n / 2 ^ i < 2 := (Nat.div_lt_iff_lt_mul (Nat.two_pow_pos _)).mpr (by have := hx.2.1; rw [Nat.pow_succ, Nat.mul_comm] at this; exact this)
    omega
  have e1 : pF most F sF n (i + 1) ((1, 0, cF) : PT) = pF most F sF n i (pSt most F sF (n / 2 ^ i % 2) ((1, 0, cF) : PT)) := rfl
  have ec1 : cutc 1 most = 0 := by
    unfold cutc
    rw [xbl_one]
    omega
  have e2 : pSq most ((1, 0, cF) : PT) = ((1, 0, cF) : PT) := by
    show pCut most 1 0 cF = _
    exact pCut_z ec1 hF.2.2.2.2.2.2
  have e3 : pSt most F sF (n / 2 ^ i % 2) ((1, 0, cF) : PT) = pCut most F sF cF := by
    rw [h1]
    unfold pSt
    rw [if_neg (by decide), e2]
    unfold pMu
    dsimp only
    rw [Nat.one_mul, Int.zero_add]
  rw [e1, e3]
  have q := pCut_K hm hW (show 1025 ≤ W by
    have : 2 ^ 32 ≤ W := by rw [hW]; exact Nat.pow_le_pow_right (by omega) (by omega)
    omega) hF
  obtain ⟨m', g1, g2⟩ := pF_K hm hW hn hF i 2050 _ (by rw [h1]; decide) (by rw [h1, Nat.pow_one]; exact q) (fun g => pCut_c g)
  exact pJ_weak (by omega) g2
/-- once cut, it is wide -/
theorem pCut_W {most : Int} {v W : Nat} {sc cut : Int} (hm : 2 ≤ most) (hW : W = 2 ^ (32 * (most.toNat - 1))) (hv : 0 < v) (h : cut ≠ 0 → W ≤ v) : (pCut most v sc cut).2.2 ≠ 0 → W ≤ (pCut most v sc cut).1 := by
  intro hc
  show W ≤ v / 2 ^ (32 * cutc v most)
  by_cases g : cutc v most = 0
  · rw [g, Nat.mul_zero, Nat.pow_zero, Nat.div_one]
    refine h ?_
    rcases orI_n hc with e | e
    · exact e
    · rw [g] at e
      exact absurd e (by simp [nany, Nat.mod_one])
  · have hx : 32 * (most.toNat - 1) + 32 * cutc v most + 1 ≤ xbl v := by
      unfold cutc at g ⊢
      omega
    have hv := (xbl_of (n := v) (by omega)).1
    rw [hW, Nat.le_div_iff_mul_le (Nat.two_pow_pos _), ← Nat.pow_add]
    exact Nat.le_trans (Nat.pow_le_pow_right (by omega) (by omega)) hv
theorem pCut_pos {most : Int} {v : Nat} {sc cut : Int} (hm : 1 ≤ most) (hv : 0 < v) : 0 < (pCut most v sc cut).1 := by
  show 0 < v / 2 ^ (32 * cutc v most)
  have h1 := (xbl_of (n := v) (by omega)).1
  refine Nat.div_pos (Nat.le_trans (Nat.pow_le_pow_right (by omega) ?_) h1) (Nat.two_pow_pos _)
  unfold cutc
  have := (xbl_of (n := v) (by omega)).2.2
  omega
theorem pSt_W {most : Int} {W F b : Nat} {sF : Int} {x : PT} (hm : 2 ≤ most) (hW : W = 2 ^ (32 * (most.toNat - 1))) (hF : 0 < F) (hx : 0 < x.1) (h : x.2.2 ≠ 0 → W ≤ x.1) : 0 < (pSt most F sF b x).1 ∧ ((pSt most F sF b x).2.2 ≠ 0 → W ≤ (pSt most F sF b x).1) := by
  have q1 : 0 < (pSq most x).1 ∧ ((pSq most x).2.2 ≠ 0 → W ≤ (pSq most x).1) := ⟨pCut_pos (by omega) (Nat.mul_pos hx hx), pCut_W hm hW (Nat.mul_pos hx hx) (fun e => Nat.le_trans (h e) (Nat.le_mul_of_pos_right _ hx))⟩
  unfold pSt
  split
  · exact q1
  · exact ⟨pCut_pos (by omega) (Nat.mul_pos q1.1 hF), pCut_W hm hW (Nat.mul_pos q1.1 hF) (fun e => Nat.le_trans (q1.2 e) (Nat.le_mul_of_pos_right _ hF))⟩
theorem pF_W {most : Int} {W F n : Nat} {sF : Int} (hm : 2 ≤ most) (hW : W = 2 ^ (32 * (most.toNat - 1))) (hF : 0 < F) : ∀ (i : Nat) (x : PT), 0 < x.1 → (x.2.2 ≠ 0 → W ≤ x.1) → (pF most F sF n i x).2.2 ≠ 0 → W ≤ (pF most F sF n i x).1
  | 0, _, _, h => h
  | i + 1, x, hx, h => by
    have q := pSt_W (sF := sF) (b := n / 2 ^ i % 2) hm hW hF hx h
    exact pF_W hm hW hF i _ q.1 q.2
theorem pR_W {most : Int} {W b n : Nat} (hm : 2 ≤ most) (hW : W = 2 ^ (32 * (most.toNat - 1))) (hb : 0 < b) (hn1 : 1 ≤ n) : (pR most b n).2.2 ≠ 0 → W ≤ (pR most b n).1 := by
  have hF0 : 0 < (pCut most b 0 0).1 := pCut_pos (by omega) hb
  have hF1 := pCut_W (sc := 0) (cut := 0) hm hW hb (fun e => absurd rfl e)
  have hc01 : (pCut most b 0 0).2.2 = 0 ∨ (pCut most b 0 0).2.2 = 1 := orI_01 _ _
  have eF : pCut most b 0 0 = ((b / 2 ^ (32 * cutc b most), 32 * ((cutc b most : Nat) : Int), orI 0 (nany b (32 * ((cutc b most : Nat) : Int)) = true)) : PT) := by
    unfold pCut
    rw [Int.zero_add]
  rw [eF] at hF0 hF1 hc01
  unfold pR
  generalize b / 2 ^ (32 * cutc b most) = F at hF0 hF1 ⊢
  generalize 32 * ((cutc b most : Nat) : Int) = sF at hF1 hc01 ⊢
  generalize orI 0 (nany b sF = true) = cF at hF1 hc01 ⊢
  have hx := xbl_of (n := n) (by omega)
  obtain ⟨i, ei⟩ : ∃ i, xbl n = i + 1 := ⟨xbl n - 1, by omega⟩
  rw [ei] at hx ⊢
  have h1 : n / 2 ^ i = 1 := by
    have a1 : 1 ≤ n / 2 ^ i := (Nat.le_div_iff_mul_le (Nat.two_pow_pos _)).mpr (by simpa using hx.1)
    have a2 : n / 2 ^ i < 2 := (Nat.div_lt_iff_lt_mul (Nat.two_pow_pos _)).mpr (by have := hx.2.1; rw [Nat.pow_succ, Nat.mul_comm] at this; exact this)
    omega
  have ec1 : cutc 1 most = 0 := by
    unfold cutc
    rw [xbl_one]
    omega
  have e2 : pSq most ((1, 0, cF) : PT) = ((1, 0, cF) : PT) := by
    show pCut most 1 0 cF = _
    exact pCut_z ec1 hc01
  have e3 : pSt most F sF (n / 2 ^ i % 2) ((1, 0, cF) : PT) = pCut most F sF cF := by
    rw [h1]
    unfold pSt
    rw [if_neg (by decide), e2]
    unfold pMu
    dsimp only
    rw [Nat.one_mul, Int.zero_add]
  show (pF most F sF n i (pSt most F sF (n / 2 ^ i % 2) ((1, 0, cF) : PT))).2.2 ≠ 0 → _ ≤ (pF most F sF n i (pSt most F sF (n / 2 ^ i % 2) ((1, 0, cF) : PT))).1
  rw [e3]
  exact pF_W hm hW hF0 i _ (pCut_pos (by omega) hF0) (pCut_W hm hW hF0 hF1)
/-- two numbers that agree in a bit and lie near agree from there on -/
theorem near_bit {M b : Nat} (hb : 43 ≤ b) (h : M / 2 ^ b % 2 = (M + 2 ^ 42) / 2 ^ b % 2) : M + 2 ^ 42 < (M / 2 ^ b + 1) * 2 ^ b := by
  have h1 : 2 ^ 43 ≤ 2 ^ b := Nat.pow_le_pow_right (by omega) hb
  have h2 := Nat.div_add_mod M (2 ^ b)
  have h3 := Nat.mod_lt M (Nat.two_pow_pos b)
  refine Nat.lt_of_not_le fun hc => ?_
  have h4 : (M + 2 ^ 42) / 2 ^ b = M / 2 ^ b + 1 := by
    refine Nat.le_antisymm (Nat.le_of_lt_succ ?_) ((Nat.le_div_iff_mul_le (Nat.two_pow_pos b)).mpr hc)
    rw [Nat.div_lt_iff_lt_mul (Nat.two_pow_pos b), Nat.succ_mul, Nat.add_mul, Nat.one_mul, Nat.mul_comm]
    generalize 2 ^ b * (M / 2 ^ b) = A at h2 ⊢
    omega
  rw [h4] at h
  generalize M / 2 ^ b = q at h
  omega
/-- cut off at the same place -/
theorem fp_pos {T M s b : Nat} (hb : 43 ≤ b) (h : M / 2 ^ b % 2 = (M + 2 ^ 42) / 2 ^ b % 2) (h1 : M * 2 ^ s < T) (h2 : T < (M + 2 ^ 42) * 2 ^ s) : T / 2 ^ (s + b) = M / 2 ^ b ∧ T % 2 ^ (s + b) ≠ 0 := by
  have h3 := near_bit hb h
  have hq : M / 2 ^ b * 2 ^ b ≤ M := Nat.div_mul_le_self _ _
  have e1 : 2 ^ (s + b) = 2 ^ b * 2 ^ s := by rw [Nat.pow_add, Nat.mul_comm]
  have lo : M / 2 ^ b * 2 ^ (s + b) < T := by
    rw [e1, ← Nat.mul_assoc]
    exact Nat.lt_of_le_of_lt (Nat.mul_le_mul_right _ hq) h1
  have hi : T < (M / 2 ^ b + 1) * 2 ^ (s + b) := by
    rw [e1, ← Nat.mul_assoc]
    exact Nat.lt_trans h2 ((Nat.mul_lt_mul_right (Nat.two_pow_pos _)).mpr h3)
  have hd : T / 2 ^ (s + b) = M / 2 ^ b := Nat.div_eq_of_lt_le (Nat.le_of_lt lo) hi
  refine ⟨hd, fun e => ?_⟩
  have h4 := Nat.div_add_mod T (2 ^ (s + b))
  rw [hd, e, Nat.add_zero, Nat.mul_comm] at h4
  omega
theorem rat_div {N D a k : Nat} : N * 2 ^ (a + k) / D / 2 ^ k = N * 2 ^ a / D := by
  rw [Nat.pow_add, ← Nat.mul_assoc, Nat.div_div_eq_div_mul, Nat.mul_comm D, ← Nat.div_div_eq_div_mul, Nat.mul_div_cancel _ (Nat.two_pow_pos k)]
theorem rat_mo {N D a k : Nat} (hD : 0 < D) : mo2 (if N * 2 ^ (a + k) % D = 0 then 0 else 1) (N * 2 ^ (a + k) / D) k = if N * 2 ^ a % D = 0 then 0 else 1 := by
  have h1 := Nat.div_add_mod (N * 2 ^ (a + k)) D
  have h2 := Nat.div_add_mod (N * 2 ^ (a + k) / D) (2 ^ k)
  have h3 := Nat.div_add_mod (N * 2 ^ a) D
  rw [rat_div] at h2
  have e : N * 2 ^ (a + k) = N * 2 ^ a * 2 ^ k := by rw [Nat.pow_add, Nat.mul_assoc]
  have k0 := Nat.two_pow_pos k
  have hm := Nat.mod_lt (N * 2 ^ (a + k)) hD
  have hm2 := Nat.mod_lt (N * 2 ^ a) hD
  unfold mo2
  by_cases hz : N * 2 ^ a % D = 0
  · rw [if_pos hz]
    rw [hz, Nat.add_zero] at h3
    have hx : N * 2 ^ (a + k) % D = 0 := by rw [e, ← h3, Nat.mul_assoc]; exact Nat.mul_mod_right _ _
    have hy : N * 2 ^ (a + k) / D = N * 2 ^ a / D * 2 ^ k := by
      have h5 : N * 2 ^ (a + k) = D * (N * 2 ^ a / D * 2 ^ k) := by rw [e, ← Nat.mul_assoc, h3]
      rw [h5]
      exact Nat.mul_div_cancel_left _ hD
    rw [if_pos ⟨by rw [if_pos hx], by rw [hy]; exact Nat.mul_mod_left _ _⟩]
  · rw [if_neg hz, if_neg ?_]
    rintro ⟨a1, a2⟩
    have b1 : N * 2 ^ (a + k) % D = 0 := Classical.byContradiction fun q => by rw [if_neg q] at a1; exact absurd a1 (by decide)
    apply hz
    rw [a2, Nat.add_zero] at h2
    rw [b1, Nat.add_zero, ← h2, e, Nat.mul_comm (2 ^ k), ← Nat.mul_assoc] at h1
    have b2 := Nat.eq_of_mul_eq_mul_right k0 h1
    rw [← b2]
    exact Nat.mul_mod_right _ _
/-- a quotient, cut off finer or coarser, rounds alike -/
theorem oR_rat {p least greatest gradual sg mode e f : Int} {N D a k : Nat} (hD : 0 < D) (hp : 0 ≤ p) (hx : p + 1 ≤ (xbl (N * 2 ^ a / D) : Int)) : oR p least greatest gradual sg mode (if N * 2 ^ (a + k) % D = 0 then 0 else 1) (N * 2 ^ (a + k) / D) (e - ((a + k : Nat) : Int)) f = oR p least greatest gradual sg mode (if N * 2 ^ a % D = 0 then 0 else 1) (N * 2 ^ a / D) (e - (a : Int)) f := by
  have h1 : p + 1 ≤ (xbl (N * 2 ^ (a + k) / D) : Int) - k := by
    have h2 := xbl_div (N * 2 ^ (a + k) / D) k
    rw [rat_div] at h2
    omega
  rw [← oR_cut (k := k) h1 hp, rat_mo hD, rat_div, show e - ((a + k : Nat) : Int) + (k : Int) = e - (a : Int) by omega]
