/-! writing: how many digits stand before the point -/
/-- Farey neighbours of the logarithm of two to the base j + 2 (a base that is no power of two) -/
def fry : List (Nat × Nat × Nat × Nat) := [(0, 0, 0, 0), (12276, 19457, 665, 1054), (0, 0, 0, 0), (8651, 20087, 4004, 9297), (7621, 19700, 665, 1719), (2964, 8321, 5357, 15039), (0, 0, 0, 0), (6138, 19457, 665, 2108), (4647, 15437, 4004, 13301), (4856, 16799, 1935, 6694), (5626, 20169, 665, 2384), (5458, 20197, 5231, 19357), (2964, 11285, 5357, 20396), (3512, 13721, 4049, 15819), (0, 0, 0, 0), (4379, 17899, 4036, 16497), (4808, 20049, 665, 2773), (1327, 5637, 3860, 16397), (4647, 20084, 4004, 17305), (3905, 17152, 1588, 6975), (2921, 13026, 1935, 8629), (2886, 13055, 3077, 13919), (4296, 19697, 665, 3049), (2645, 12283, 2002, 9297), (227, 1067, 4323, 20320), (4092, 19457, 665, 3162), (2964, 14249, 2393, 11504), (852, 4139, 4091, 19874), (3512, 17233, 4049, 19868), (3646, 18063, 3515, 17414), (0, 0, 0, 0), (1329, 6704, 3086, 15567), (343, 1745, 3693, 18788), (3473, 17814, 2831, 14521), (3478, 17981, 665, 3438)]
def fok (B l : Nat) (q : Nat × Nat × Nat × Nat) : Bool := decide (q.2.2.1 * q.2.1 = q.1 * q.2.2.2 + 1) && decide (20480 < q.2.1 + q.2.2.2) && decide (B ^ q.1 ≤ 2 ^ q.2.1) && decide (2 ^ q.2.2.2 ≤ B ^ q.2.2.1) && decide (q.1 * 1099511627776 < l * q.2.1) && decide (l * q.2.2.2 < q.2.2.1 * 1099511627776)
theorem fry_all : (List.range 35).all (fun j => decide (j = 0 ∨ j = 2 ∨ j = 6 ∨ j = 14 ∨ j = 30) || fok (j + 2) (lgt (j + 2)).toNat (fry.getD j (0, 0, 0, 0))) = true := by decide +kernel
theorem far_a {B l T p1 q1 p2 q2 k n : Nat} (h1 : p2 * q1 = p1 * q2 + 1) (h3 : B ^ p1 ≤ 2 ^ q1) (h5 : l * q2 < p2 * T) (hB : 0 < B) (hn : n < q1 + q2) (h : k * T ≤ n * l) : B ^ k ≤ 2 ^ n := by
  have hT : 0 < T := by
    rcases Nat.eq_zero_or_pos T with e | e
    · rw [e, Nat.mul_zero] at h5; omega
    · exact e
  rcases Nat.eq_zero_or_pos n with e | e
  · subst e
    rw [Nat.zero_mul] at h
    have hk : k = 0 := by
      rcases Nat.eq_zero_or_pos k with g | g
      · exact g
      · have := Nat.mul_pos g hT; omega
    rw [hk]
    exact Nat.le_refl _
  · have a1 : k * q2 < n * p2 := by
      refine Nat.lt_of_mul_lt_mul_right (a := T) ?_
      calc k * q2 * T = k * T * q2 := Nat.mul_right_comm _ _ _
        _ ≤ n * l * q2 := Nat.mul_le_mul_right _ h
        _ = n * (l * q2) := Nat.mul_assoc _ _ _
        _ < n * (p2 * T) := Nat.mul_lt_mul_of_pos_left h5 e
        _ = n * p2 * T := (Nat.mul_assoc _ _ _).symm
    have hq : q1 ≠ 0 := fun e => by rw [e, Nat.mul_zero] at h1; omega
    have a2 : k * q1 ≤ n * p1 := by
      refine Nat.le_of_not_lt fun hc => ?_
      have c1 := Nat.mul_le_mul_right q1 (Nat.succ_le_of_lt a1)
      have c2 := Nat.mul_le_mul_right q2 (Nat.succ_le_of_lt hc)
      have c3 : n * p2 * q1 = n * p1 * q2 + n := by rw [Nat.mul_assoc, h1, Nat.mul_add, Nat.mul_one, Nat.mul_assoc]
      rw [Nat.succ_mul] at c1 c2
      have c4 : k * q2 * q1 = k * q1 * q2 := Nat.mul_right_comm _ _ _
      omega
    refine Nat.le_of_not_lt fun hc => ?_
    have d1 := Nat.pow_lt_pow_left hc hq
    have d2 : (B ^ k) ^ q1 ≤ (2 ^ n) ^ q1 := by
      calc (B ^ k) ^ q1 = B ^ (k * q1) := (Nat.pow_mul _ _ _).symm
        _ ≤ B ^ (n * p1) := Nat.pow_le_pow_right hB a2
        _ = (B ^ p1) ^ n := by rw [Nat.mul_comm, Nat.pow_mul]
        _ ≤ (2 ^ q1) ^ n := Nat.pow_le_pow_left h3 _
        _ = (2 ^ n) ^ q1 := by rw [← Nat.pow_mul, ← Nat.pow_mul, Nat.mul_comm]
    omega
theorem far_b {B l T p1 q1 p2 q2 k n : Nat} (h1 : p2 * q1 = p1 * q2 + 1) (h4 : 2 ^ q2 ≤ B ^ p2) (h6 : p1 * T < l * q1) (hB : 0 < B) (hn : n < q1 + q2) (h : n * l ≤ k * T) : 2 ^ n ≤ B ^ k := by
  rcases Nat.eq_zero_or_pos n with e | e
  · rw [e, Nat.pow_zero]
    exact Nat.pow_pos hB
  · have a1 : n * p1 < k * q1 := by
      refine Nat.lt_of_mul_lt_mul_right (a := T) ?_
      calc n * p1 * T = n * (p1 * T) := Nat.mul_assoc _ _ _
        _ < n * (l * q1) := Nat.mul_lt_mul_of_pos_left h6 e
        _ = n * l * q1 := (Nat.mul_assoc _ _ _).symm
        _ ≤ k * T * q1 := Nat.mul_le_mul_right _ h
        _ = k * q1 * T := Nat.mul_right_comm _ _ _
    have a2 : n * p2 ≤ k * q2 := by
      refine Nat.le_of_not_lt fun hc => ?_
      have c1 := Nat.mul_le_mul_right q2 (Nat.succ_le_of_lt a1)
      have c2 := Nat.mul_le_mul_right q1 (Nat.succ_le_of_lt hc)
      have c3 : n * p2 * q1 = n * p1 * q2 + n := by rw [Nat.mul_assoc, h1, Nat.mul_add, Nat.mul_one, Nat.mul_assoc]
      rw [Nat.succ_mul] at c1 c2
      have c4 : k * q2 * q1 = k * q1 * q2 := Nat.mul_right_comm _ _ _
      omega
    have hp2 : 0 < p2 := by
      rcases Nat.eq_zero_or_pos p2 with g | g
      · rw [g, Nat.zero_mul] at h1; omega
      · exact g
    have hq : q2 ≠ 0 := by
      intro z
      rw [z, Nat.mul_zero] at a2
      have := Nat.mul_pos e hp2
      omega
    refine Nat.le_of_not_lt fun hc => ?_
    have d1 := Nat.pow_lt_pow_left hc hq
    have d2 : (2 ^ n) ^ q2 ≤ (B ^ k) ^ q2 := by
      calc (2 ^ n) ^ q2 = (2 ^ q2) ^ n := by rw [← Nat.pow_mul, ← Nat.pow_mul, Nat.mul_comm]
        _ ≤ (B ^ p2) ^ n := Nat.pow_le_pow_left h4 _
        _ = B ^ (n * p2) := by rw [← Nat.pow_mul, Nat.mul_comm]
        _ ≤ B ^ (k * q2) := Nat.pow_le_pow_right hB a2
        _ = (B ^ k) ^ q2 := Nat.pow_mul _ _ _
    omega
/-- the table is near enough -/
theorem lg_cert {B : Nat} (h : 2 ≤ B ∧ B ≤ 36) (h2 : B ≠ 2 ∧ B ≠ 4 ∧ B ≠ 8 ∧ B ≠ 16 ∧ B ≠ 32) {n k : Nat} (hn : n ≤ 20480) : (k * 1099511627776 ≤ n * (lgt B).toNat → B ^ k ≤ 2 ^ n) ∧ (n * (lgt B).toNat ≤ k * 1099511627776 → 2 ^ n ≤ B ^ k) := by
  have := List.all_eq_true.mp fry_all (B - 2) (List.mem_range.mpr (by omega))
  rw [Bool.or_eq_true, show B - 2 + 2 = B by omega] at this
  have h3 : decide (B - 2 = 0 ∨ B - 2 = 2 ∨ B - 2 = 6 ∨ B - 2 = 14 ∨ B - 2 = 30) ≠ true := by
    rw [ne_eq, decide_eq_true_eq]
    omega
  have q := this.resolve_left h3
  generalize fry.getD (B - 2) (0, 0, 0, 0) = z at q
  obtain ⟨p1, q1, p2, q2⟩ := z
  unfold fok at q
  simp only [Bool.and_eq_true, decide_eq_true_eq] at q
  obtain ⟨⟨⟨⟨⟨c1, c2⟩, c3⟩, c4⟩, c5⟩, c6⟩ := q
  exact ⟨far_a c1 c3 c6 (by omega) (by omega), far_b c1 c4 c5 (by omega) (by omega)⟩
/-- B ^ k over 1, or 1 over B ^ -k -/
def bNu (B : Nat) (k : Int) : Nat := if 0 ≤ k then B ^ k.natAbs else 1
def bDe (B : Nat) (k : Int) : Nat := if 0 ≤ k then 1 else B ^ k.natAbs
/-- M * 2 ^ E reaches B ^ k -/
abbrev vGe (M : Nat) (E : Int) (B : Nat) (k : Int) : Prop := bNu B k * 2 ^ (max 0 (-E)).toNat ≤ M * 2 ^ (max 0 E).toNat * bDe B k
theorem bDe_pos {B : Nat} {k : Int} (hB : 0 < B) : 0 < bDe B k := by
  unfold bDe
  split
  · exact Nat.one_pos
  · exact Nat.pow_pos hB
theorem bNu_pos {B : Nat} {k : Int} (hB : 0 < B) : 0 < bNu B k := by
  unfold bNu
  split
  · exact Nat.pow_pos hB
  · exact Nat.one_pos
theorem bND {B K : Nat} {k : Int} (h : -(K : Int) ≤ k) : bNu B k * B ^ K = B ^ (k + K).toNat * bDe B k := by
  unfold bNu bDe
  by_cases g : 0 ≤ k
  · rw [if_pos g, if_pos g, Nat.mul_one, ← Nat.pow_add, show k.natAbs + K = (k + K).toNat by omega]
  · rw [if_neg g, if_neg g, Nat.one_mul, ← Nat.pow_add, show (k + K).toNat + k.natAbs = K by omega]
theorem tPQ {K : Nat} {E : Int} (h : -(K : Int) ≤ E) : 2 ^ (max 0 E).toNat * 2 ^ K = 2 ^ (E + K).toNat * 2 ^ (max 0 (-E)).toNat := by
  rw [← Nat.pow_add, ← Nat.pow_add, show (max 0 E).toNat + K = (E + K).toNat + (max 0 (-E)).toNat by omega]
theorem vGe_K {M B K : Nat} {E k : Int} (hB : 0 < B) (hk : -(K : Int) ≤ k) (hE : -(K : Int) ≤ E) : vGe M E B k ↔ B ^ (k + K).toNat * 2 ^ K ≤ M * 2 ^ (E + K).toNat * B ^ K := by
  have e1 : bNu B k * 2 ^ (max 0 (-E)).toNat * (B ^ K * 2 ^ K) = B ^ (k + K).toNat * 2 ^ K * (bDe B k * 2 ^ (max 0 (-E)).toNat) := by
    calc bNu B k * 2 ^ (max 0 (-E)).toNat * (B ^ K * 2 ^ K) = (bNu B k * B ^ K) * (2 ^ (max 0 (-E)).toNat * 2 ^ K) := by ac_rfl
      _ = B ^ (k + K).toNat * bDe B k * (2 ^ (max 0 (-E)).toNat * 2 ^ K) := by rw [bND hk]
      _ = _ := by ac_rfl
  have e2 : M * 2 ^ (max 0 E).toNat * bDe B k * (B ^ K * 2 ^ K) = M * 2 ^ (E + K).toNat * B ^ K * (bDe B k * 2 ^ (max 0 (-E)).toNat) := by
    calc M * 2 ^ (max 0 E).toNat * bDe B k * (B ^ K * 2 ^ K) = M * (2 ^ (max 0 E).toNat * 2 ^ K) * (bDe B k * B ^ K) := by ac_rfl
      _ = M * (2 ^ (E + K).toNat * 2 ^ (max 0 (-E)).toNat) * (bDe B k * B ^ K) := by rw [tPQ hE]
      _ = _ := by ac_rfl
  have p1 : 0 < B ^ K * 2 ^ K := Nat.mul_pos (Nat.pow_pos hB) (Nat.two_pow_pos _)
  have p2 : 0 < bDe B k * 2 ^ (max 0 (-E)).toNat := Nat.mul_pos (bDe_pos hB) (Nat.two_pow_pos _)
  constructor
  · intro h
    refine Nat.le_of_mul_le_mul_right ?_ p2
    rw [← e1, ← e2]
    exact Nat.mul_le_mul_right _ h
  · intro h
    refine Nat.le_of_mul_le_mul_right ?_ p1
    rw [e1, e2]
    exact Nat.mul_le_mul_right _ h
/-- the number lies below B ^ F and reaches B ^ (F - 1) -/
def fst_is (M : Nat) (E : Int) (B : Nat) (F : Int) : Prop := vGe M E B (F - 1) ∧ ¬ vGe M E B F
theorem vGe_mono {M B : Nat} {E k k' : Int} (hB : 0 < B) (hk : k' ≤ k) (h : vGe M E B k) : vGe M E B k' := by
  obtain ⟨K, hK⟩ : ∃ K : Nat, (K : Int) = max 0 (max (-k') (-E)) := ⟨(max 0 (max (-k') (-E))).toNat, by omega⟩
  rw [vGe_K (K := K) hB (by omega) (by omega)] at h ⊢
  exact Nat.le_trans (Nat.mul_le_mul_right _ (Nat.pow_le_pow_right hB (by omega))) h
theorem fst_uniq {M B : Nat} {E F G : Int} (hB : 0 < B) (h : fst_is M E B F) (g : fst_is M E B G) : F = G := by
  rcases Int.lt_trichotomy F G with c | c | c
  · exact absurd (vGe_mono hB (by omega) g.1) h.2
  · exact c
  · exact absurd (vGe_mono hB (by omega) h.1) g.2
/-- from B ^ g <= 2 ^ e <= B ^ (g + 1) to the number -/
theorem fst_two {M B p : Nat} {E e g : Int} (hB : 2 ≤ B) (h1 : vGe 1 e B g) (h2 : ∀ K : Nat, -(K : Int) ≤ g → -(K : Int) ≤ e → 2 ^ (e + K).toNat * B ^ K ≤ B ^ (g + 1 + K).toNat * 2 ^ K) (hM : xbl M = p) (hp : 1 ≤ p) (hE : E = e + 1 - p) : vGe M E B g ∧ ¬ vGe M E B (g + 2) := by
  have hM0 : M ≠ 0 := fun c => by rw [c, xbl_zero] at hM; omega
  obtain ⟨x1, x2, x3⟩ := xbl_of hM0
  rw [hM] at x1 x2
  obtain ⟨K, hK⟩ : ∃ K : Nat, (K : Int) = max 0 (max (-g) (max (-E) (-e))) := ⟨(max 0 (max (-g) (max (-E) (-e)))).toNat, by omega⟩
  have hB0 : 0 < B := by omega
  rw [vGe_K (K := K) hB0 (by omega) (by omega)] at h1 ⊢
  rw [vGe_K (K := K) hB0 (by omega) (by omega)]
  have h2 := h2 K (by omega) (by omega)
  have e1 : 2 ^ (e + K).toNat = 2 ^ (p - 1) * 2 ^ (E + K).toNat := by rw [← Nat.pow_add]; congr 1; omega
  rw [Nat.one_mul, e1] at h1
  rw [e1] at h2
  refine ⟨Nat.le_trans h1 (Nat.mul_le_mul_right _ (Nat.mul_le_mul_right _ x1)), fun c => ?_⟩
  have c1 : M * 2 ^ (E + K).toNat * B ^ K < 2 ^ p * 2 ^ (E + K).toNat * B ^ K := Nat.mul_lt_mul_of_pos_right (Nat.mul_lt_mul_of_pos_right x2 (Nat.two_pow_pos _)) (Nat.pow_pos hB0)
  have c2 : 2 ^ p * 2 ^ (E + K).toNat * B ^ K = 2 * (2 ^ (p - 1) * 2 ^ (E + K).toNat * B ^ K) := by
    rw [show p = p - 1 + 1 by omega, Nat.pow_succ, Nat.add_sub_cancel]
    ac_rfl
  have c3 : B ^ (g + 2 + K).toNat * 2 ^ K = B * (B ^ (g + 1 + K).toNat * 2 ^ K) := by
    rw [show (g + 2 + K).toNat = (g + 1 + K).toNat + 1 by omega, Nat.pow_succ]
    ac_rfl
  have c4 := Nat.mul_le_mul_right (B ^ (g + 1 + K).toNat * 2 ^ K) hB
  omega
/-- the guess out of the table -/
theorem fst_gue {B : Nat} {e : Int} (h : 2 ≤ B ∧ B ≤ 36) (h2 : B ≠ 2 ∧ B ≠ 4 ∧ B ≠ 8 ∧ B ≠ 16 ∧ B ≠ 32) (he : -20480 ≤ e ∧ e ≤ 20480) : vGe 1 e B (e * lgt B / 1099511627776) ∧ ∀ K : Nat, -(K : Int) ≤ e * lgt B / 1099511627776 → -(K : Int) ≤ e → 2 ^ (e + K).toNat * B ^ K ≤ B ^ (e * lgt B / 1099511627776 + 1 + K).toNat * 2 ^ K := by
  obtain ⟨⟨l1, l2⟩, -⟩ := lgt_ok h
  have hB0 : 0 < B := by omega
  obtain ⟨n, hn⟩ : ∃ n : Nat, e.natAbs = n := ⟨_, rfl⟩
  have C := fun k => lg_cert h h2 (n := n) (k := k) (by omega)
  generalize lgt B = l at l1 l2 C ⊢
  obtain ⟨m, hm⟩ : ∃ m : Nat, l = (m : Int) := ⟨l.toNat, by omega⟩
  subst hm
  simp only [Int.toNat_natCast] at C
  obtain ⟨P, hP⟩ : ∃ P : Nat, n * m = P := ⟨_, rfl⟩
  rw [hP] at C
  have q : e * (m : Int) = if 0 ≤ e then (P : Int) else -(P : Int) := by
    split
    · rw [show e = (n : Int) by omega, ← hP]; simp
    · rw [show e = -(n : Int) by omega, ← hP]; simp [Int.neg_mul]
  generalize e * (m : Int) = z at q ⊢
  obtain ⟨g, hg⟩ : ∃ g : Int, z / 1099511627776 = g := ⟨_, rfl⟩
  rw [hg]
  by_cases h0 : 0 ≤ e
  · rw [if_pos h0] at q
    obtain ⟨G, hG⟩ : ∃ G : Nat, g = (G : Int) := ⟨g.toNat, by omega⟩
    subst hG
    have c1 := (C G).1 (by omega)
    have c2 := (C (G + 1)).2 (by omega)
    rw [show n = e.toNat by omega] at c1 c2
    constructor
    · unfold vGe bNu bDe
      rw [if_pos (by omega), if_pos (by omega), show max 0 (-e) = 0 by omega, show max 0 e = e by omega, show (0 : Int).toNat = 0 from rfl, Nat.pow_zero, Nat.mul_one, Nat.one_mul, Nat.mul_one, Int.natAbs_natCast]
      exact c1
    · intro K k1 k2
      rw [show (e + K).toNat = e.toNat + K by omega, show ((G : Int) + 1 + K).toNat = G + 1 + K by omega, Nat.pow_add, Nat.pow_add, Nat.mul_assoc, Nat.mul_assoc, Nat.mul_comm (2 ^ K)]
      exact Nat.mul_le_mul_right _ c2
  · rw [if_neg h0] at q
    obtain ⟨G, hG⟩ : ∃ G : Nat, g = -(G : Int) := ⟨(-g).toNat, by omega⟩
    subst hG
    have c1 := (C G).2 (by omega)
    have c2 := (C (G - 1)).1 (by omega)
    by_cases hG0 : G = 0
    · subst hG0
      have : P = 0 := by omega
      rw [Nat.pow_zero] at c1
      have : n = 0 := by
        rcases Nat.eq_zero_or_pos n with e | e
        · exact e
        · have := Nat.pow_le_pow_right (show 0 < 2 by omega) e; omega
      omega
    · constructor
      · unfold vGe bNu bDe
        rw [if_neg (by omega), if_neg (by omega), show max 0 (-e) = -e by omega, show max 0 e = 0 by omega, show (0 : Int).toNat = 0 from rfl, Nat.pow_zero, Nat.one_mul, Nat.mul_one, Nat.one_mul, Int.natAbs_neg, Int.natAbs_natCast, show (-e).toNat = n by omega]
        exact c1
      · intro K k1 k2
        have e1 : 2 ^ K = 2 ^ (e + K).toNat * 2 ^ n := by rw [← Nat.pow_add]; congr 1; omega
        have e2 : B ^ K = B ^ (-(G : Int) + 1 + K).toNat * B ^ (G - 1) := by rw [← Nat.pow_add]; congr 1; omega
        rw [e1, e2, ← Nat.mul_assoc, ← Nat.mul_assoc, Nat.mul_comm (2 ^ (e + K).toNat)]
        exact Nat.mul_le_mul_left _ c2
/-- bases that are powers of two -/
theorem fst_bin {tw : Nat} {e : Int} (ht : 1 ≤ tw) : vGe 1 e (2 ^ tw) (e / (tw : Int)) ∧ ¬ False := by
  refine ⟨?_, fun h => h⟩
  obtain ⟨g, hg⟩ : ∃ g : Int, e / (tw : Int) = g := ⟨_, rfl⟩
  have h1 : (tw : Int) * g ≤ e := by rw [← hg]; exact Int.mul_ediv_self_le (by omega)
  rw [hg]
  obtain ⟨K, hK⟩ : ∃ K : Nat, (K : Int) = max 0 (max (-g) (-e)) := ⟨(max 0 (max (-g) (-e))).toNat, by omega⟩
  rw [vGe_K (K := K) (Nat.two_pow_pos _) (by omega) (by omega), Nat.one_mul, ← Nat.pow_mul, ← Nat.pow_mul, ← Nat.pow_add, ← Nat.pow_add]
  refine Nat.pow_le_pow_right (by omega) ?_
  have h2 : ((tw * (g + K).toNat : Nat) : Int) = tw * g + tw * K := by
    rw [Int.natCast_mul, show (((g + K).toNat : Nat) : Int) = g + K by omega, Int.mul_add]
  have h3 : ((tw * K : Nat) : Int) = tw * K := Int.natCast_mul _ _
  omega
theorem fst_bin2 {M tw p : Nat} {E e : Int} (ht : 1 ≤ tw) (hM : xbl M = p) (hp : 1 ≤ p) (hE : E = e + 1 - p) : fst_is M E (2 ^ tw) (e / (tw : Int) + 1) := by
  have hM0 : M ≠ 0 := fun c => by rw [c, xbl_zero] at hM; omega
  obtain ⟨x1, x2, x3⟩ := xbl_of hM0
  rw [hM] at x1 x2
  have H := (fst_bin (tw := tw) (e := e) ht).1
  obtain ⟨g, hg⟩ : ∃ g : Int, e / (tw : Int) = g := ⟨_, rfl⟩
  have h2 : e + 1 ≤ (tw : Int) * (g + 1) := by
    rw [← hg]
    have := Int.lt_mul_ediv_self_add (x := e) (k := (tw : Int)) (by omega)
    rw [Int.mul_add, Int.mul_one]
    omega
  rw [hg] at H ⊢
  obtain ⟨K, hK⟩ : ∃ K : Nat, (K : Int) = max 0 (max (-g) (max (-e) (-E))) := ⟨(max 0 (max (-g) (max (-e) (-E)))).toNat, by omega⟩
  unfold fst_is
  rw [show g + 1 - 1 = g by omega, vGe_K (K := K) (Nat.two_pow_pos _) (by omega) (by omega), vGe_K (K := K) (Nat.two_pow_pos _) (by omega) (by omega)]
  rw [vGe_K (K := K) (Nat.two_pow_pos _) (by omega) (by omega), Nat.one_mul] at H
  have e1 : 2 ^ (e + K).toNat = 2 ^ (p - 1) * 2 ^ (E + K).toNat := by rw [← Nat.pow_add]; congr 1; omega
  rw [e1] at H
  refine ⟨Nat.le_trans H (Nat.mul_le_mul_right _ (Nat.mul_le_mul_right _ x1)), fun c => ?_⟩
  have c1 : M * 2 ^ (E + K).toNat * (2 ^ tw) ^ K < 2 ^ p * 2 ^ (E + K).toNat * (2 ^ tw) ^ K := Nat.mul_lt_mul_of_pos_right (Nat.mul_lt_mul_of_pos_right x2 (Nat.two_pow_pos _)) (Nat.pow_pos (Nat.two_pow_pos _))
  have c2 : 2 ^ p * 2 ^ (E + K).toNat * (2 ^ tw) ^ K ≤ (2 ^ tw) ^ (g + 1 + K).toNat * 2 ^ K := by
    rw [← Nat.pow_mul, ← Nat.pow_mul, ← Nat.pow_add, ← Nat.pow_add, ← Nat.pow_add]
    refine Nat.pow_le_pow_right (by omega) ?_
    have h4 : ((tw * (g + 1 + K).toNat : Nat) : Int) = tw * (g + 1) + tw * K := by
      rw [Int.natCast_mul, show (((g + 1 + K).toNat : Nat) : Int) = g + 1 + K by omega, Int.mul_add]
    have h3 : ((tw * K : Nat) : Int) = tw * K := Int.natCast_mul _ _
    omega
  omega
/-- the writer's own comparison -/
theorem pw2s {A C x y : Nat} {s : Int} (h : (y : Int) - x = s) : A * 2 ^ (max 0 (-s)).toNat ≤ C * 2 ^ (max 0 s).toNat ↔ A * 2 ^ x ≤ C * 2 ^ y := by
  obtain ⟨z, hz⟩ : ∃ z : Nat, min x y = z := ⟨_, rfl⟩
  have e1 : 2 ^ x = 2 ^ (max 0 (-s)).toNat * 2 ^ z := by rw [← Nat.pow_add]; congr 1; omega
  have e2 : 2 ^ y = 2 ^ (max 0 s).toNat * 2 ^ z := by rw [← Nat.pow_add]; congr 1; omega
  rw [e1, e2, ← Nat.mul_assoc, ← Nat.mul_assoc]
  exact ⟨fun h => Nat.mul_le_mul_right _ h, fun h => Nat.le_of_mul_le_mul_right h (Nat.two_pow_pos z)⟩
theorem wRe_v {M O tw : Nat} {k s E : Int} (hs : E + (tw : Int) * (-k) = s) : wRe M O k s ↔ vGe M E (O * 2 ^ tw) k := by
  unfold wRe vGe wD wG bNu bDe
  rw [Int.natAbs_neg]
  by_cases hk : 0 ≤ k
  · have h1 : ((tw * k.natAbs : Nat) : Int) = tw * k := by rw [Int.natCast_mul, show ((k.natAbs : Nat) : Int) = k by omega]
    rw [Int.mul_neg] at hs
    rw [if_pos hk, if_pos hk, Nat.mul_one, Nat.mul_pow, ← Nat.pow_mul, Nat.mul_assoc, ← Nat.pow_add, ← pw2s (s := s) (by omega)]
    by_cases h0 : k = 0
    · rw [if_pos (by omega), if_pos (by omega), h0, show (0 : Int).natAbs = 0 from rfl, Nat.pow_zero]
      simp only [Nat.one_mul]
    · rw [if_neg (by omega), if_neg (by omega)]
      simp only [Nat.one_mul]
  · have h1 : ((tw * k.natAbs : Nat) : Int) = tw * (-k) := by rw [Int.natCast_mul, show ((k.natAbs : Nat) : Int) = -k by omega]
    rw [if_neg hk, if_neg hk, if_pos (by omega), if_pos (by omega), Nat.mul_pow, ← Nat.pow_mul]
    have e1 : M * 2 ^ (max 0 E).toNat * (O ^ k.natAbs * 2 ^ (tw * k.natAbs)) = M * O ^ k.natAbs * 2 ^ ((max 0 E).toNat + tw * k.natAbs) := by rw [Nat.pow_add]; ac_rfl
    rw [e1, ← pw2s (s := s) (by omega), ← Nat.mul_assoc]
