/-! a cut power and what it misses -/
def pA (x : PT) : Nat := x.1 * 2 ^ x.2.1.toNat
def pJ (W P m : Nat) (x : PT) : Prop := 0 < x.1 ∧ 0 ≤ x.2.1 ∧ pA x ≤ P ∧ P * W ≤ pA x * (W + m) ∧ (x.2.2 = 0 → pA x = P) ∧ (x.2.2 ≠ 0 → pA x < P) ∧ (x.2.2 = 0 ∨ x.2.2 = 1)
theorem orI_0 {x : Int} {p : Prop} [Decidable p] (h : orI x p = 0) : x = 0 ∧ ¬ p := by
  unfold orI at h
  split at h
  · exact absurd h (by decide)
  · rename_i hc
    exact ⟨Classical.byContradiction fun g => hc (Or.inl g), fun g => hc (Or.inr g)⟩
theorem orI_n {x : Int} {p : Prop} [Decidable p] (h : orI x p ≠ 0) : x ≠ 0 ∨ p := by
  unfold orI at h
  split at h
  · assumption
  · exact absurd rfl h
theorem orI_l {x : Int} {p : Prop} [Decidable p] (h : x ≠ 0) : orI x p ≠ 0 := by
  unfold orI
  rw [if_pos (Or.inl h)]
  decide
theorem nany_iff {v : Nat} {k : Nat} : nany v (k : Int) = true ↔ v % 2 ^ k ≠ 0 := by
  unfold nany
  rw [decide_eq_true_iff, show ((k : Int)).toNat = k from rfl]
theorem pCut_J {most : Int} {v W m P : Nat} {sc cut : Int} (hm : 2 ≤ most) (hW : W = 2 ^ (32 * (most.toNat - 1))) (hmW : m ≤ W) (h : pJ W P m ((v, sc, cut) : PT)) : pJ W P (m + 2) (pCut most v sc cut) := by
  obtain ⟨h1, h2, h3, h4, h5, h6, h7⟩ := h
  unfold pA at h3 h4 h5 h6
  dsimp only at h1 h2 h3 h4 h5 h6 h7
  obtain ⟨c, ec⟩ : ∃ c, c = cutc v most := ⟨_, rfl⟩
  obtain ⟨y, ey⟩ : ∃ y, y = v / 2 ^ (32 * c) := ⟨_, rfl⟩
  have e32 : (32 * ((c : Nat) : Int)) = ((32 * c : Nat) : Int) := by omega
  have ePC : pCut most v sc cut = ((y, sc + ((32 * c : Nat) : Int), orI cut (v % 2 ^ (32 * c) ≠ 0)) : PT) := by
    unfold pCut
    rw [← ec, ← ey, e32]
    have : orI cut (nany v ((32 * c : Nat) : Int) = true) = orI cut (v % 2 ^ (32 * c) ≠ 0) := by
      unfold orI
      by_cases g : v % 2 ^ (32 * c) ≠ 0
      · rw [if_pos (Or.inr (nany_iff.mpr g)), if_pos (Or.inr g)]
      · by_cases g2 : cut ≠ 0
        · rw [if_pos (Or.inl g2), if_pos (Or.inl g2)]
        · rw [if_neg (fun hh => hh.elim g2 fun x => g (nany_iff.mp x)), if_neg (fun hh => hh.elim g2 g)]
    rw [this]
  have eA : pA (pCut most v sc cut) = y * 2 ^ (32 * c) * 2 ^ sc.toNat := by
    rw [ePC]
    unfold pA
    dsimp only
    rw [show (sc + ((32 * c : Nat) : Int)).toNat = 32 * c + sc.toNat by omega, Nat.pow_add, Nat.mul_assoc]
  have py : y * 2 ^ (32 * c) ≤ v := by rw [ey]; exact Nat.div_mul_le_self _ _
  have ps : 0 < 2 ^ sc.toNat := Nat.two_pow_pos _
  have pc : 0 < 2 ^ (32 * c) := Nat.two_pow_pos _
  have hA : y * 2 ^ (32 * c) * 2 ^ sc.toNat ≤ v * 2 ^ sc.toNat := Nat.mul_le_mul_right _ py
  have hWy : c = 0 ∨ W ≤ y := by
    by_cases g : c = 0
    · exact Or.inl g
    · right
      have hx : 32 * (most.toNat - 1) + 32 * c + 1 ≤ xbl v := by
        unfold cutc at ec
        omega
      have hv := (xbl_of (n := v) (by omega)).1
      rw [ey, hW, Nat.le_div_iff_mul_le pc, ← Nat.pow_add]
      exact Nat.le_trans (Nat.pow_le_pow_right (by omega) (by omega)) hv
  have hvW : v * W ≤ y * (W + 1) * 2 ^ (32 * c) := by
    rcases hWy with g | g
    · rw [g] at ey ⊢
      rw [Nat.mul_zero, Nat.pow_zero, Nat.div_one] at ey
      rw [ey, Nat.mul_zero, Nat.pow_zero, Nat.mul_one]
      exact Nat.mul_le_mul_left _ (by omega)
    · have h8 : v < (y + 1) * 2 ^ (32 * c) := by rw [ey, Nat.mul_comm]; exact Nat.lt_mul_div_succ _ pc
      have h9 : (y + 1) * W ≤ y * (W + 1) := by rw [Nat.add_mul, Nat.mul_add]; omega
      have h10 := Nat.mul_le_mul_right (2 ^ (32 * c)) h9
      have h11 := Nat.mul_le_mul_right W (Nat.le_of_lt h8)
      refine Nat.le_trans h11 (Nat.le_trans (Nat.le_of_eq ?_) h10)
      rw [Nat.mul_assoc, Nat.mul_comm (2 ^ (32 * c)), ← Nat.mul_assoc]
  have W0 : 0 < W := by rw [hW]; exact Nat.two_pow_pos _
  have y0 : 0 < y := by
    rcases hWy with g | g
    · rw [ey, g, Nat.mul_zero, Nat.pow_zero, Nat.div_one]; exact h1
    · omega
  refine ⟨by rw [ePC]; exact y0, by rw [ePC]; show 0 ≤ sc + ((32 * c : Nat) : Int); omega, by rw [eA]; omega, ?_, ?_, ?_, by rw [ePC]; exact orI_01 _ _⟩
  · rw [eA]
    refine Nat.le_of_mul_le_mul_right (c := W) ?_ W0
    have a1 := Nat.mul_le_mul_right W h4
    have a2 := Nat.mul_le_mul_right (2 ^ sc.toNat * (W + m)) hvW
    have a3 : (W + 1) * (W + m) ≤ (W + (m + 2)) * W := by
      have e1 : (W + 1) * (W + m) = W * W + m * W + W + m := by grind
      have e2 : (W + (m + 2)) * W = W * W + m * W + 2 * W := by grind
      rw [e1, e2]
      omega
    have a4 := Nat.mul_le_mul_left (y * 2 ^ (32 * c) * 2 ^ sc.toNat) a3
    generalize 2 ^ (32 * c) = A at a2 a4 ⊢
    generalize 2 ^ sc.toNat = B at a1 a2 a4 ⊢
    refine Nat.le_trans a1 (Nat.le_trans (Nat.le_of_eq ?_) (Nat.le_trans a2 (Nat.le_trans (Nat.le_of_eq ?_) (Nat.le_trans a4 (Nat.le_of_eq ?_)))))
    · grind
    · grind
    · grind
  · intro hc
    rw [ePC] at hc
    have := orI_0 hc
    rw [eA, ← h5 this.1]
    congr 1
    have h12 := Nat.div_add_mod v (2 ^ (32 * c))
    rw [← ey, Nat.mul_comm] at h12
    have h13 : v % 2 ^ (32 * c) = 0 := Classical.byContradiction this.2
    omega
  · intro hc
    rw [ePC] at hc
    rw [eA]
    rcases orI_n hc with g | g
    · have := h6 g
      omega
    · have h12 := Nat.div_add_mod v (2 ^ (32 * c))
      rw [← ey, Nat.mul_comm] at h12
      have h13 : y * 2 ^ (32 * c) < v := by omega
      have := (Nat.mul_lt_mul_right ps).mpr h13
      omega
theorem pA_mul {a b : Nat} {s t c c' c'' : Int} (hs : 0 ≤ s) (ht : 0 ≤ t) : pA ((a * b, s + t, c) : PT) = pA ((a, s, c') : PT) * pA ((b, t, c'') : PT) := by
  unfold pA
  dsimp only
  rw [show (s + t).toNat = s.toNat + t.toNat by omega, Nat.pow_add]
  generalize 2 ^ s.toNat = A
  generalize 2 ^ t.toNat = B
  grind
/-- a product of two such -/
theorem pJ_mul {W P R m r : Nat} {x : PT} {F : Nat} {sF cF : Int} (hW : m * r ≤ W) (W0 : 0 < W) (h : pJ W P m x) (g : pJ W R r ((F, sF, cF) : PT)) (hc : cF ≠ 0 → x.2.2 ≠ 0) : pJ W (P * R) (m + r + 1) ((x.1 * F, x.2.1 + sF, x.2.2) : PT) := by
  obtain ⟨v, s, c⟩ := x
  have eA := pA_mul (a := v) (b := F) (c := c) (c' := c) (c'' := cF) h.2.1 g.2.1
  obtain ⟨h1, h2, h3, h4, h5, h6, h7⟩ := h
  obtain ⟨g1, g2, g3, g4, g5, g6, g7⟩ := g
  dsimp only at h1 h2 h3 h4 h5 h6 h7 g1 g2 g3 g4 g5 g6 g7 hc eA ⊢
  have pF0 : 0 < pA ((F, sF, cF) : PT) := Nat.mul_pos g1 (Nat.two_pow_pos _)
  refine ⟨Nat.mul_pos h1 g1, by show 0 ≤ s + sF; omega, by rw [eA]; exact Nat.mul_le_mul h3 g3, ?_, ?_, ?_, h7⟩
  · rw [eA]
    generalize pA ((v, s, c) : PT) = A at h4 ⊢
    generalize pA ((F, sF, cF) : PT) = B at g4 ⊢
    refine Nat.le_of_mul_le_mul_right (c := W) ?_ W0
    have a1 := Nat.mul_le_mul h4 g4
    have a3 : (W + m) * (W + r) ≤ (W + (m + r + 1)) * W := by
      have e1 : (W + m) * (W + r) = W * W + m * W + r * W + m * r := by grind
      have e2 : (W + (m + r + 1)) * W = W * W + m * W + r * W + W := by grind
      rw [e1, e2]
      omega
    have a4 := Nat.mul_le_mul_left (A * B) a3
    refine Nat.le_trans (Nat.le_of_eq ?_) (Nat.le_trans a1 (Nat.le_trans (Nat.le_of_eq ?_) (Nat.le_trans a4 (Nat.le_of_eq ?_))))
    · grind
    · grind
    · grind
  · intro hz
    rw [eA, h5 hz, g5 (Classical.byContradiction fun q => hc q hz)]
  · intro hz
    rw [eA]
    have := h6 hz
    exact Nat.lt_of_lt_of_le ((Nat.mul_lt_mul_right pF0).mpr this) (Nat.mul_le_mul_left _ g3)
theorem pJ_weak {W P m r : Nat} {x : PT} (hm : m ≤ r) (h : pJ W P m x) : pJ W P r x := by
  obtain ⟨h1, h2, h3, h4, h5, h6, h7⟩ := h
  exact ⟨h1, h2, h3, Nat.le_trans h4 (Nat.mul_le_mul_left _ (by omega)), h5, h6, h7⟩
theorem pCut_z {most : Int} {v : Nat} {sc cut : Int} (h : cutc v most = 0) (hc : cut = 0 ∨ cut = 1) : pCut most v sc cut = ((v, sc, cut) : PT) := by
  unfold pCut
  rw [h]
  rcases hc with g | g <;> rw [g] <;> simp [orI, nany, Nat.mod_one]
theorem pCut_c {most : Int} {v : Nat} {sc cut : Int} (h : cut ≠ 0) : (pCut most v sc cut).2.2 ≠ 0 := orI_l h
theorem pJ_step {most : Int} {W b j m n i : Nat} {F : Nat} {sF cF : Int} {x : PT} (hm : 2 ≤ most) (hW : W = 2 ^ (32 * (most.toNat - 1))) (hj : n / 2 ^ (i + 1) = j) (hn : n ≤ 32) (hmj : m + 3 ≤ 8 * j) (h : pJ W (b ^ j) m x) (hF : pJ W b 2 ((F, sF, cF) : PT)) (hc : cF ≠ 0 → x.2.2 ≠ 0) : ∃ m', m' + 3 ≤ 8 * (n / 2 ^ i) ∧ pJ W (b ^ (n / 2 ^ i)) m' (pSt most F sF (n / 2 ^ i % 2) x) ∧ (cF ≠ 0 → (pSt most F sF (n / 2 ^ i % 2) x).2.2 ≠ 0) := by
  have hW2 : 4294967296 ≤ W := by
    rw [hW, show (4294967296 : Nat) = 2 ^ 32 by decide]
    exact Nat.pow_le_pow_right (by omega) (by omega)
  have hh := half_step n i
  rw [hj] at hh
  have hle : n / 2 ^ i ≤ n := Nat.div_le_self _ _
  have hb2 := Nat.mod_lt (n / 2 ^ i) (show 0 < 2 by decide)
  obtain ⟨v, s, c⟩ := x
  have hmm : m * m ≤ W := by
    have := Nat.mul_le_mul (show m ≤ 256 by omega) (show m ≤ 256 by omega)
    omega
  have q1 := pJ_mul (F := v) (sF := s) (cF := c) hmm (by omega) h h (fun g => g)
  have q2 := pCut_J hm hW (by omega) q1
  rw [pw2] at q2
  by_cases hb : n / 2 ^ i % 2 = 0
  · refine ⟨m + m + 1 + 2, by omega, ?_, ?_⟩
    · rw [hb]
      unfold pSt
      rw [if_pos rfl, show n / 2 ^ i = 2 * j by omega]
      exact q2
    · intro g
      rw [hb]
      unfold pSt
      rw [if_pos rfl]
      exact pCut_c (hc g)
  · have hb1 : n / 2 ^ i % 2 = 1 := by omega
    have q3 := pJ_mul (by omega) (by omega) q2 hF (fun g => pCut_c (hc g))
    have q4 := pCut_J hm hW (by omega) q3
    rw [← Nat.pow_succ] at q4
    refine ⟨m + m + 1 + 2 + 2 + 1 + 2, by omega, ?_, ?_⟩
    · rw [hb1]
      unfold pSt
      rw [if_neg (by decide), show n / 2 ^ i = 2 * j + 1 by omega]
      exact q4
    · intro g
      rw [hb1]
      unfold pSt
      rw [if_neg (by decide)]
      exact pCut_c (pCut_c (hc g))
theorem pF_J {most : Int} {W b n : Nat} {F : Nat} {sF cF : Int} (hm : 2 ≤ most) (hW : W = 2 ^ (32 * (most.toNat - 1))) (hn : n ≤ 32) (hF : pJ W b 2 ((F, sF, cF) : PT)) : ∀ (i m : Nat) (x : PT), m + 3 ≤ 8 * (n / 2 ^ i) → pJ W (b ^ (n / 2 ^ i)) m x → (cF ≠ 0 → x.2.2 ≠ 0) → ∃ m', m' + 3 ≤ 8 * n ∧ pJ W (b ^ n) m' (pF most F sF n i x)
  | 0, m, x, h1, h2, _ => by
    rw [Nat.pow_zero, Nat.div_one] at h1 h2
    exact ⟨m, h1, h2⟩
  | i + 1, m, x, h1, h2, h3 => by
    obtain ⟨m', g1, g2, g3⟩ := pJ_step (j := n / 2 ^ (i + 1)) hm hW rfl hn h1 h2 hF h3
    exact pF_J hm hW hn hF i m' _ g1 g2 g3
abbrev pR (most : Int) (b n : Nat) : PT := pF most (b / 2 ^ (32 * cutc b most)) (32 * ((cutc b most : Nat) : Int)) n (xbl n) ((1, 0, orI 0 (nany b (32 * ((cutc b most : Nat) : Int)) = true)) : PT)
/-- what raise leaves -/
theorem pR_J {most : Int} {W b n : Nat} (hm : 2 ≤ most) (hW : W = 2 ^ (32 * (most.toNat - 1))) (hb : 0 < b) (hn1 : 1 ≤ n) (hn : n ≤ 32) : pJ W (b ^ n) 256 (pR most b n) := by
  have W0 : 0 < W := by rw [hW]; exact Nat.two_pow_pos _
  have hF : pJ W b 2 (pCut most b 0 0) := by
    refine pCut_J hm hW (m := 0) (by omega) ⟨hb, Int.le_refl _, ?_, ?_, fun _ => ?_, fun h => absurd rfl h, Or.inl rfl⟩
    · show b * 2 ^ (0 : Int).toNat ≤ b; simp
    · show b * W ≤ b * 2 ^ (0 : Int).toNat * (W + 0); simp
    · show b * 2 ^ (0 : Int).toNat = b; simp
  have eF : pCut most b 0 0 = ((b / 2 ^ (32 * cutc b most), 32 * ((cutc b most : Nat) : Int), orI 0 (nany b (32 * ((cutc b most : Nat) : Int)) = true)) : PT) := by
    unfold pCut
    rw [Int.zero_add]
  rw [eF] at hF
  unfold pR
  generalize b / 2 ^ (32 * cutc b most) = F at hF ⊢
  generalize 32 * ((cutc b most : Nat) : Int) = sF at hF ⊢
  generalize orI 0 (nany b sF = true) = cF at hF ⊢
  have hx := xbl_of (n := n) (by omega)
  obtain ⟨i, ei⟩ : ∃ i, xbl n = i + 1 := ⟨xbl n - 1, by omega⟩
  rw [ei] at hx ⊢
  have h1 : n / 2 ^ i = 1 := by
    have a1 : 1 ≤ n / 2 ^ i := (Nat.le_div_iff_mul_le (Nat.two_pow_pos _)).mpr (by simpa using hx.1)
    have a2 : n / 2 ^ i < 2 := (Nat.div_lt_iff_lt_mul (Nat.two_pow_pos _)).mpr (by have := hx.2.1; rw [Nat.pow_succ, Nat.mul_comm] at this; exact this)
    omega
  have e1 : pF most F sF n (i + 1) ((1, 0, cF) : PT) = pF most F sF n i (pSt most F sF (n / 2 ^ i % 2) ((1, 0, cF) : PT)) := rfl
  have ec1 : cutc 1 most = 0 := by
    unfold cutc
    rw [xbl_one]
    omega
  have e2 : pSq most ((1, 0, cF) : PT) = ((1, 0, cF) : PT) := by
    show pCut most 1 0 cF = _
    exact pCut_z ec1 hF.2.2.2.2.2.2
  have e3 : pSt most F sF (n / 2 ^ i % 2) ((1, 0, cF) : PT) = pCut most F sF cF := by
    rw [h1]
    unfold pSt
    rw [if_neg (by decide), e2]
    unfold pMu
    dsimp only
    rw [Nat.one_mul, Int.zero_add]
  rw [e1, e3]
  have q := pCut_J hm hW (show 2 ≤ W by
    have : 2 ^ 1 ≤ W := by rw [hW]; exact Nat.pow_le_pow_right (by omega) (by omega)
    omega) hF
  obtain ⟨m', g1, g2⟩ := pF_J hm hW hn hF i 4 _ (by rw [h1]; decide) (by rw [h1, Nat.pow_one]; exact q) (fun g => pCut_c g)
  exact pJ_weak (by omega) g2
theorem pCut_b {most : Int} {v : Nat} {sc cut : Int} (hm : 1 ≤ most) : (xbl (pCut most v sc cut).1 : Int) ≤ 32 * most := by
  unfold pCut
  dsimp only
  rw [xbl_div]
  unfold cutc
  omega
theorem pSt_b {most : Int} {F b : Nat} {sF : Int} {x : PT} (hm : 1 ≤ most) : (xbl (pSt most F sF b x).1 : Int) ≤ 32 * most := by
  unfold pSt
  split
  · exact pCut_b hm
  · exact pCut_b hm
theorem pOk_cut {most : Int} {F n : Nat} {sF : Int} (hm : 1 ≤ most) (hm2 : most ≤ 9000) : ∀ (i : Nat) (x : PT), (xbl x.1 : Int) ≤ 32 * most → pOk most F sF n i x
  | 0, _, _ => trivial
  | i + 1, x, h => ⟨by omega, by have := pCut_b (most := most) (v := x.1 * x.1) (sc := x.2.1 + x.2.1) (cut := x.2.2) hm; show xbl (pCut most (x.1 * x.1) (x.2.1 + x.2.1) x.2.2).1 ≤ 310000; omega, pOk_cut hm hm2 i _ (pSt_b hm)⟩
theorem pF_b {most : Int} {F n : Nat} {sF : Int} (hm : 1 ≤ most) : ∀ (i : Nat) (x : PT), (xbl x.1 : Int) ≤ 32 * most → (xbl (pF most F sF n i x).1 : Int) ≤ 32 * most
  | 0, _, h => h
  | i + 1, _, _ => pF_b hm i _ (pSt_b hm)
/-- with room enough nothing is cut -/
theorem cutc_0 {v : Nat} {most : Int} (h : (xbl v : Int) ≤ 32 * most) : cutc v most = 0 := by
  unfold cutc
  omega
theorem pCut_0 {most : Int} {v : Nat} {sc : Int} (h : (xbl v : Int) ≤ 32 * most) : pCut most v sc 0 = ((v, sc, 0) : PT) := by
  exact pCut_z (cutc_0 h) (Or.inl rfl)
theorem pF_ex {most : Int} {b n : Nat} (hm : 310000 ≤ most) (hb : 0 < b) (hB : xbl (b ^ n) ≤ 310000) : ∀ (i : Nat), pF most b 0 n i ((b ^ (n / 2 ^ i), 0, 0) : PT) = ((b ^ n, 0, 0) : PT) ∧ pOk most b 0 n i ((b ^ (n / 2 ^ i), 0, 0) : PT)
  | 0 => by
    rw [Nat.pow_zero, Nat.div_one]
    exact ⟨rfl, trivial⟩
  | i + 1 => by
    have ih := pF_ex hm hb hB i
    have hh := half_step n i
    have hle : n / 2 ^ i ≤ n := Nat.div_le_self _ _
    have hb2 := Nat.mod_lt (n / 2 ^ i) (show 0 < 2 by decide)
    have s0 : ∀ k, k ≤ n → xbl (b ^ k) ≤ 310000 := fun k hk => Nat.le_trans (pow_le_b (by omega) hk) hB
    have q1 : pSq most ((b ^ (n / 2 ^ (i + 1)), 0, 0) : PT) = ((b ^ (2 * (n / 2 ^ (i + 1))), 0, 0) : PT) := by
      unfold pSq
      dsimp only
      rw [pw2]
      refine pCut_0 ?_
      have := s0 (2 * (n / 2 ^ (i + 1))) (by omega)
      omega
    have q2 : pSt most b 0 (n / 2 ^ i % 2) ((b ^ (n / 2 ^ (i + 1)), 0, 0) : PT) = ((b ^ (n / 2 ^ i), 0, 0) : PT) := by
      unfold pSt
      rw [q1]
      by_cases hz : n / 2 ^ i % 2 = 0
      · rw [if_pos hz, show n / 2 ^ i = 2 * (n / 2 ^ (i + 1)) by omega]
      · rw [if_neg hz]
        unfold pMu
        dsimp only
        rw [← Nat.pow_succ, show (2 * (n / 2 ^ (i + 1))).succ = n / 2 ^ i by omega]
        refine pCut_0 ?_
        have := s0 (n / 2 ^ i) (by omega)
        omega
    refine ⟨?_, ?_, ?_, ?_⟩
    · show pF most b 0 n i (pSt most b 0 (n / 2 ^ i % 2) _) = _
      rw [q2]
      exact ih.1
    · exact s0 _ (by omega)
    · rw [q1]
      exact s0 _ (by omega)
    · rw [q2]
      exact ih.2
theorem pR_ex {most : Int} {b n : Nat} (hm : 310000 ≤ most) (hb : 0 < b) (hn : 1 ≤ n) (hB : xbl (b ^ n) ≤ 310000) : pR most b n = ((b ^ n, 0, 0) : PT) ∧ pOk most (b / 2 ^ (32 * cutc b most)) (32 * ((cutc b most : Nat) : Int)) n (xbl n) ((1, 0, orI 0 (nany b (32 * ((cutc b most : Nat) : Int)) = true)) : PT) := by
  have hb1 : xbl b ≤ 310000 := by
    have := pow_le_b (x := b) (j := 1) (n := n) (by omega) hn
    rw [Nat.pow_one] at this
    omega
  have hc : cutc b most = 0 := cutc_0 (by omega)
  have h0 : n / 2 ^ xbl n = 0 := Nat.div_eq_of_lt (xbl_lt n)
  have := pF_ex hm hb hB (xbl n)
  rw [h0, Nat.pow_zero] at this
  unfold pR
  rw [hc]
  have e : orI 0 (nany b (32 * ((0 : Nat) : Int)) = true) = 0 := by simp [orI, nany, Nat.mod_one]
  rw [e, Nat.mul_zero, Nat.pow_zero, Nat.div_one]
  exact this
