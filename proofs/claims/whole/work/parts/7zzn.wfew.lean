/-! writing: how many digits are enough -/
theorem ncmp_lt {a b : Nat} : ncmp a b < 0 ↔ a < b := by
  have := ncmp_3 a b
  omega
theorem ncmp_eq {a b : Nat} : ncmp a b = 0 ↔ a = b := by
  have := ncmp_3 a b
  omega
theorem shf_1 {u : Nat} : shf u 1 = u * 2 := by
  unfold shf
  rw [if_pos (by decide)]
  rfl
theorem shf_2 {u : Nat} : shf u 2 = u * 4 := by
  unfold shf
  rw [if_pos (by decide)]
  rfl
theorem mlt {x y c : Nat} (hc : 0 < c) : x * c < y * c ↔ x < y := ⟨fun h => Nat.lt_of_mul_lt_mul_right h, fun h => Nat.mul_lt_mul_of_pos_right h hc⟩
theorem meq {x y c : Nat} (hc : 0 < c) : x * c = y * c ↔ x = y := ⟨fun h => Nat.eq_of_mul_eq_mul_right hc h, fun h => by rw [h]⟩
theorem qUp_sc {mode ng : Int} {Q R D c : Nat} (hc : 0 < c) : qUp mode ng Q (R * c) (D * c) = qUp mode ng Q R D := by
  unfold qUp
  rw [shf_1, shf_1, Nat.mul_right_comm, ncmp_sc hc, decide_eq_decide.mpr (show R * c = 0 ↔ R = 0 from ⟨fun h => (Nat.mul_eq_zero.mp h).resolve_right (by omega), fun h => by rw [h, Nat.zero_mul]⟩)]
section
variable {M G D c B O tw : Nat} {ng p E F k n m s : Int} {ev : Bool}
theorem cUp_sc (hc : 0 < c) : cUp M (G * c) (D * c) ng = cUp M G D ng := by
  unfold cUp
  rw [← Nat.mul_assoc, Nat.mul_div_mul_right _ _ hc, Nat.mul_mod_mul_right, qUp_sc hc]
theorem cDi_sc (hc : 0 < c) : cDi M (G * c) (D * c) ng = cDi M G D ng * c := by
  unfold cDi
  rw [cUp_sc hc, ← Nat.mul_assoc, Nat.mul_mod_mul_right]
  split
  · rw [Nat.sub_mul]
  · rfl
theorem cCl_sc (hc : 0 < c) : cCl M (G * c) (D * c) ng p ev = cCl M G D ng p ev := by
  unfold cCl
  rw [cUp_sc hc]
theorem cbk_iff : cbk M G D ng p ev = true ↔ cDi M G D ng * (if cCl M G D ng p ev = true then 4 else 2) < G ∨ (cDi M G D ng * (if cCl M G D ng p ev = true then 4 else 2) = G ∧ M % 2 = 0) := by
  unfold cbk
  have e : shf (cDi M G D ng) (if cCl M G D ng p ev = true then 2 else 1) = cDi M G D ng * (if cCl M G D ng p ev = true then 4 else 2) := by
    split
    · exact shf_2
    · exact shf_1
  rw [e, Bool.or_eq_true, Bool.and_eq_true, decide_eq_true_eq, decide_eq_true_eq, decide_eq_true_eq, ncmp_lt, ncmp_eq]
theorem cbk_sc (hc : 0 < c) : cbk M (G * c) (D * c) ng p ev = cbk M G D ng p ev := by
  rw [Bool.eq_iff_iff, cbk_iff, cbk_iff, cDi_sc hc, cCl_sc hc, Nat.mul_right_comm, mlt hc, meq hc]
theorem cDi_min (hD : 0 < D) : cDi M G D ng = min (M * G % D) (D - M * G % D) := by
  have hR := Nat.mod_lt (M * G) hD
  unfold cDi cUp qUp
  rw [shf_1]
  generalize M * G % D = R at hR ⊢
  generalize bb (nbit (M * G / D) 0) = od
  have hc := ncmp_3 (R * 2) D
  by_cases h : (!decide (R = 0) && gO 0 ng od (ncmp (R * 2) D)) = true
  · rw [if_pos h]
    rw [Bool.and_eq_true] at h
    have h := h.2
    unfold gO at h
    rw [if_pos rfl, Bool.or_eq_true, Bool.and_eq_true, decide_eq_true_eq, decide_eq_true_eq] at h
    have h : 0 < ncmp (R * 2) D ∨ ncmp (R * 2) D = 0 := h.imp_right And.left
    omega
  · rw [if_neg h]
    have h' : ¬ (R ≠ 0 ∧ D < R * 2) := by
      intro ⟨a, b⟩
      refine h ?_
      rw [decide_eq_false a, ncmp_g b]
      unfold gO
      rw [if_pos rfl]
      rfl
    omega
theorem near_a {N D x y : Nat} (h : N = D * x + y) : N % D ≤ y := by
  rw [h, Nat.mul_add_mod]
  exact Nat.mod_le _ _
theorem near_b {N D x y : Nat} (hD : 0 < D) (h : N + y = D * x) : min (N % D) (D - N % D) ≤ y := by
  have h1 : (N % D + y) % D = 0 := by rw [Nat.mod_add_mod, h, Nat.mul_mod_right]
  have h2 := Nat.mod_lt N hD
  by_cases c : N % D + y < D
  · rw [Nat.mod_eq_of_lt c] at h1
    omega
  · omega
theorem cDi_B (hD : 0 < D) : cDi M (G * B) D ng ≤ cDi M G D ng * B := by
  rw [cDi_min hD, cDi_min hD, ← Nat.mul_assoc]
  have e := Nat.div_add_mod (M * G) D
  have hR := Nat.mod_lt (M * G) hD
  generalize M * G = N at e hR ⊢
  generalize N % D = R at e hR ⊢
  generalize N / D = q at e
  rcases Nat.le_total R (D - R) with c | c
  · rw [Nat.min_eq_left c]
    exact Nat.le_trans (Nat.min_le_left _ _) (near_a (x := q * B) (by rw [← e, Nat.add_mul, Nat.mul_assoc]))
  · rw [Nat.min_eq_right c]
    refine near_b (x := (q + 1) * B) hD ?_
    rw [← Nat.add_mul, ← Nat.mul_assoc]
    congr 1
    rw [Nat.mul_add, Nat.mul_one]
    omega
theorem cCl_t : cCl M G D ng p true = false := rfl
theorem cbk_mono (hB : 0 < B) (hD : 0 < D) (h : cbk M G D ng p true = true) : cbk M (G * B) D ng p true = true := by
  rw [cbk_iff, cCl_t, if_neg (by decide)] at h ⊢
  have h1 := cDi_B (M := M) (G := G) (B := B) (ng := ng) hD
  generalize cDi M G D ng = x at h h1
  generalize cDi M (G * B) D ng = y at h1 ⊢
  rcases h with h | ⟨h, h2⟩
  · left
    have := Nat.mul_lt_mul_of_pos_right h hB
    rw [Nat.mul_right_comm] at this
    omega
  · have := congrArg (· * B) h
    simp only [Nat.mul_right_comm] at this
    omega
theorem cbk_big (h : cDi M G D ng * 4 < G) : cbk M G D ng p ev = true := by
  rw [cbk_iff]
  left
  split <;> omega
theorem cbk_ft (hG : 0 < G) (h : cbk M G D ng p false = true) : cbk M G D ng p true = true := by
  rw [cbk_iff] at h ⊢
  rw [cCl_t, if_neg (by decide)]
  split at h <;> omega
theorem cbk_np (h : ¬ M = 2 ^ (p - 1).toNat) : cbk M G D ng p false = cbk M G D ng p true := by
  have e : cCl M G D ng p false = false := by
    unfold cCl
    rw [decide_eq_false h, Bool.and_false]
  unfold cbk
  rw [e, cCl_t]
/-- 2 ^ E times B ^ k, as a fraction -/
def fGn (B : Nat) (k E : Int) : Nat := bNu B k * 2 ^ (max 0 E).toNat
def fDn (B : Nat) (k E : Int) : Nat := bDe B k * 2 ^ (max 0 (-E)).toNat
theorem fGn_pos (hB : 0 < B) : 0 < fGn B k E := Nat.mul_pos (bNu_pos hB) (Nat.two_pow_pos _)
theorem fDn_pos (hB : 0 < B) : 0 < fDn B k E := Nat.mul_pos (bDe_pos hB) (Nat.two_pow_pos _)
theorem rw_sc (hs : E + (tw : Int) * k = s) : ∃ z, fGn (2 ^ tw * O) k E = wG O k s * 2 ^ z ∧ fDn (2 ^ tw * O) k E = wD O k s * 2 ^ z := by
  unfold fGn fDn wG wD bNu bDe
  by_cases hk : 0 ≤ k
  · have h1 : ((tw * k.natAbs : Nat) : Int) = tw * k := by rw [Int.natCast_mul, show ((k.natAbs : Nat) : Int) = k by omega]
    rw [if_pos hk, if_pos hk, if_pos hk, if_pos hk, Nat.mul_pow, ← Nat.pow_mul]
    refine ⟨((max 0 (-E)) - (max 0 (-s))).toNat, ?_, ?_⟩
    · rw [Nat.mul_comm (2 ^ (tw * k.natAbs)), Nat.mul_assoc, Nat.mul_assoc, ← Nat.pow_add, ← Nat.pow_add]
      congr 2
      omega
    · rw [Nat.one_mul, Nat.one_mul, ← Nat.pow_add]
      congr 1
      omega
  · have h1 : ((tw * k.natAbs : Nat) : Int) = tw * (-k) := by rw [Int.natCast_mul, show ((k.natAbs : Nat) : Int) = -k by omega]
    rw [Int.mul_neg] at h1
    rw [if_neg hk, if_neg hk, if_neg hk, if_neg hk, Nat.mul_pow, ← Nat.pow_mul]
    refine ⟨((max 0 E) - (max 0 s)).toNat, ?_, ?_⟩
    · rw [Nat.one_mul, Nat.one_mul, ← Nat.pow_add]
      congr 1
      omega
    · rw [Nat.mul_comm (2 ^ (tw * k.natAbs)), Nat.mul_assoc, Nat.mul_assoc, ← Nat.pow_add, ← Nat.pow_add]
      congr 2
      omega
/-- whether n digits come back -/
def cbF (M : Nat) (E : Int) (B : Nat) (F ng p n : Int) (ev : Bool) : Bool := cbk M (fGn B (n - F) E) (fDn B (n - F) E) ng p ev
theorem cb_w {rx : Nat} (hB : rx = 2 ^ tw * O) (hs : E + (tw : Int) * (n - F) = s) : cbk M (wG O (n - F) s) (wD O (n - F) s) ng p ev = cbF M E rx F ng p n ev := by
  obtain ⟨z, h1, h2⟩ := rw_sc (O := O) hs
  unfold cbF
  rw [hB, h1, h2, cbk_sc (Nat.two_pow_pos z)]
theorem bN_step (hB : 0 < B) : bNu B (k + 1) * bDe B k = bNu B k * bDe B (k + 1) * B := by
  unfold bNu bDe
  by_cases h : 0 ≤ k
  · rw [if_pos h, if_pos (by omega), if_pos h, if_pos (by omega), show (k + 1).natAbs = k.natAbs + 1 by omega, Nat.pow_succ]
    ac_rfl
  · rw [if_neg h, if_neg h]
    by_cases h2 : k = -1
    · subst h2
      rw [if_pos (by omega), if_pos (by omega)]
      simp
    · rw [if_neg (by omega), if_neg (by omega), show k.natAbs = (k + 1).natAbs + 1 by omega, Nat.pow_succ]
      ac_rfl
theorem cbF_step (hB : 0 < B) (h : cbF M E B F ng p n true = true) : cbF M E B F ng p (n + 1) true = true := by
  unfold cbF at h ⊢
  rw [show n + 1 - F = n - F + 1 by omega]
  generalize n - F = k at h ⊢
  have p1 := fDn_pos (k := k) (E := E) hB
  have p2 := fDn_pos (k := k + 1) (E := E) hB
  rw [← cbk_sc p2] at h
  have h := cbk_mono hB (Nat.mul_pos p1 p2) h
  have e : fGn B k E * fDn B (k + 1) E * B = fGn B (k + 1) E * fDn B k E := by
    unfold fGn fDn
    have := bN_step (k := k) hB
    calc bNu B k * 2 ^ (max 0 E).toNat * (bDe B (k + 1) * 2 ^ (max 0 (-E)).toNat) * B = bNu B k * bDe B (k + 1) * B * (2 ^ (max 0 E).toNat * 2 ^ (max 0 (-E)).toNat) := by ac_rfl
      _ = bNu B (k + 1) * bDe B k * (2 ^ (max 0 E).toNat * 2 ^ (max 0 (-E)).toNat) := by rw [this]
      _ = _ := by ac_rfl
  rw [e, Nat.mul_comm (fDn B k E), cbk_sc p1] at h
  exact h
theorem cbF_le (hB : 0 < B) (h : cbF M E B F ng p m true = true) (hm : m ≤ n) : cbF M E B F ng p n true = true := by
  obtain ⟨j, hj⟩ : ∃ j : Nat, n = m + j := ⟨(n - m).toNat, by omega⟩
  subst hj
  clear hm
  induction j with
  | zero => rw [show m + ((0 : Nat) : Int) = m by omega]; exact h
  | succ j ih =>
    rw [show m + ((j + 1 : Nat) : Int) = m + j + 1 by omega]
    exact cbF_step hB ih
theorem bN_add (h : 1 ≤ n) : bNu B (n - F) * bNu B (F - 1) = B ^ (n - 1).toNat * bDe B (n - F) * bDe B (F - 1) := by
  unfold bNu bDe
  by_cases h1 : 0 ≤ n - F
  · by_cases h2 : 0 ≤ F - 1
    · rw [if_pos h1, if_pos h2, if_pos h1, if_pos h2, Nat.mul_one, Nat.mul_one, ← Nat.pow_add]
      congr 1
      omega
    · rw [if_pos h1, if_neg h2, if_pos h1, if_neg h2, Nat.mul_one, Nat.mul_one, ← Nat.pow_add]
      congr 1
      omega
  · rw [if_neg h1, if_pos (by omega), if_neg h1, if_pos (by omega), Nat.mul_one, Nat.one_mul, ← Nat.pow_add]
    congr 1
    omega
theorem vB_n (hB : 0 < B) (h : vGe M E B (F - 1)) (h1 : 1 ≤ n) : B ^ (n - 1).toNat * fDn B (n - F) E ≤ M * fGn B (n - F) E := by
  unfold vGe at h
  unfold fGn fDn
  refine Nat.le_of_mul_le_mul_right (c := bDe B (F - 1)) ?_ (bDe_pos hB)
  have e := bN_add (B := B) (F := F) h1
  calc B ^ (n - 1).toNat * (bDe B (n - F) * 2 ^ (max 0 (-E)).toNat) * bDe B (F - 1) = B ^ (n - 1).toNat * bDe B (n - F) * bDe B (F - 1) * 2 ^ (max 0 (-E)).toNat := by ac_rfl
    _ = bNu B (n - F) * (bNu B (F - 1) * 2 ^ (max 0 (-E)).toNat) := by rw [← e]; ac_rfl
    _ ≤ bNu B (n - F) * (M * 2 ^ (max 0 E).toNat * bDe B (F - 1)) := Nat.mul_le_mul_left _ h
    _ = _ := by ac_rfl
theorem cbF_lim {q : Nat} (hB : 0 < B) (h : vGe M E B (F - 1)) (hq : M < 2 ^ q) (h1 : 1 ≤ n) (hn : 2 ^ (q + 1) < B ^ (n - 1).toNat) : cbF M E B F ng p n ev = true := by
  unfold cbF
  have v := vB_n hB h h1
  have hD := fDn_pos (k := n - F) (E := E) hB
  generalize fGn B (n - F) E = G at v ⊢
  generalize fDn B (n - F) E = D at v hD ⊢
  refine cbk_big ?_
  rw [cDi_min hD]
  have a1 : 2 ^ (q + 1) * D < B ^ (n - 1).toNat * D := Nat.mul_lt_mul_of_pos_right hn hD
  have a2 : M * (2 * D) ≤ 2 ^ q * (2 * D) := Nat.mul_le_mul_right _ (Nat.le_of_lt hq)
  have a3 : 2 ^ q * (2 * D) = 2 ^ (q + 1) * D := by rw [Nat.pow_succ, Nat.mul_assoc]
  have a4 : 2 * D < G := Nat.lt_of_mul_lt_mul_left (a := M) (by omega)
  omega
/-- the bound of fewestDigits -/
theorem lim_ok {rx m : Nat} (h : 2 ≤ rx ∧ rx ≤ 36) (hm : m ≤ 4100) : 0 ≤ (m : Int) * lgt rx / 1099511627776 ∧ (m : Int) * lgt rx / 1099511627776 ≤ (m : Int) ∧ 2 ^ m < rx ^ (2 + (m : Int) * lgt rx / 1099511627776).toNat := by
  obtain ⟨⟨l1, l2⟩, l3, -⟩ := lgt_ok h
  generalize lgt rx = l at l1 l2 l3 ⊢
  obtain ⟨z, hz⟩ : ∃ z : Int, (m : Int) * l = z := ⟨_, rfl⟩
  have z0 : 0 ≤ z := by rw [← hz]; exact Int.mul_nonneg (by omega) (by omega)
  have z1 : z ≤ (m : Int) * 1099511627776 := by rw [← hz]; exact Int.mul_le_mul_of_nonneg_left l2 (by omega)
  rw [hz]
  refine ⟨by omega, by omega, ?_⟩
  obtain ⟨a, ha⟩ : ∃ a : Nat, (3 + 16400 * l / 1099511627776).toNat = a := ⟨_, rfl⟩
  obtain ⟨c, hc⟩ : ∃ c : Nat, (2 + z / 1099511627776).toNat = c := ⟨_, rfl⟩
  rw [ha] at l3
  rw [hc]
  have key : a * m < c * 16400 := by
    have h1 : (a : Int) * 1099511627776 ≤ 3 * 1099511627776 + 16400 * l := by omega
    have h2 : (m : Int) * ((a : Int) * 1099511627776) ≤ (m : Int) * (3 * 1099511627776 + 16400 * l) := Int.mul_le_mul_of_nonneg_left h1 (by omega)
    have h3 : (m : Int) * (3 * 1099511627776 + 16400 * l) = (m : Int) * 3298534883328 + 16400 * z := by
      rw [Int.mul_add, ← hz, Int.mul_left_comm (m : Int) 16400 l]
      omega
    have h4 : (m : Int) * ((a : Int) * 1099511627776) = ((a * m : Nat) : Int) * 1099511627776 := by
      rw [Int.natCast_mul, ← Int.mul_assoc, Int.mul_comm (m : Int)]
    omega
  refine Nat.lt_of_not_le fun hcn => ?_
  have e1 : rx ^ (c * 16400) ≤ rx ^ (a * m) := by
    calc rx ^ (c * 16400) = (rx ^ c) ^ 16400 := Nat.pow_mul _ _ _
      _ ≤ (2 ^ m) ^ 16400 := Nat.pow_le_pow_left hcn _
      _ = (2 ^ 16400) ^ m := by rw [← Nat.pow_mul, ← Nat.pow_mul, Nat.mul_comm]
      _ ≤ (rx ^ a) ^ m := Nat.pow_le_pow_left l3 _
      _ = rx ^ (a * m) := (Nat.pow_mul _ _ _).symm
  have e2 := Nat.pow_lt_pow_right (show 1 < rx by omega) key
  omega
/-- the fewest digits that come back -/
def fewest (M : Nat) (E : Int) (B : Nat) (F ng p n : Int) : Prop := 1 ≤ n ∧ cbF M E B F ng p n false = true ∧ ∀ m : Int, 1 ≤ m → m < n → cbF M E B F ng p m false = false
theorem few_uniq (h : fewest M E B F ng p n) (g : fewest M E B F ng p m) : n = m := by
  rcases Int.lt_trichotomy n m with c | c | c
  · have := g.2.2 n h.1 c; rw [h.2.1] at this; cases this
  · exact c
  · have := h.2.2 m g.1 c; rw [g.2.1] at this; cases this
end
