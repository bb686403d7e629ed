/-! the class's root and the reference's are one -/
theorem rMo_f {p n e : Int} {v : Nat} (hn : 0 < n) : 0 ≤ rMo p n e v ∧ n * (p + 3) ≤ (xbl v : Int) + rMo p n e v ∧ n * ((e - rMo p n e v) / n) = e - rMo p n e v := by
  unfold rMo
  obtain ⟨M0, hM⟩ : ∃ M0, M0 = max 0 (n * (p + 3) - (xbl v : Int)) := ⟨_, rfl⟩
  rw [← hM]
  have h0 := Int.emod_nonneg (e - M0) (show n ≠ 0 by omega)
  have h1 := Int.mul_ediv_add_emod (e - M0) n
  refine ⟨by omega, by omega, ?_⟩
  have h2 : e - (M0 + (e - M0) % n) = n * ((e - M0) / n) := by omega
  rw [h2, Int.mul_ediv_cancel_left _ (by omega)]
theorem rtC.uniq {X Y n p c c' : Nat} (hY : 0 < Y) (h : rtC X Y n p c) (h' : rtC X Y n p c') : c = c' := by
  have key : ∀ a b, rtC X Y n p a → rtC X Y n p b → ¬ a < b := by
    intro a b ha hb hab
    have h1 : (a + 1) ^ n * Y ≤ b ^ n * Y := Nat.mul_le_mul_right _ (Nat.pow_le_pow_left hab _)
    have := ha.2
    have := hb.1
    omega
  have := key _ _ h h'
  have := key _ _ h' h
  omega
theorem rtC.ge {X Y n p c : Nat} (hY : 0 < Y) (h1 : Y ≤ X) (h : rtC X Y n p c) : 2 ^ p ≤ c := by
  have a1 : (2 ^ p) ^ n * Y < (c + 1) ^ n * Y := by
    refine Nat.lt_of_le_of_lt ?_ h.2
    rw [← Nat.pow_mul, Nat.mul_comm]
    exact Nat.mul_le_mul_right _ h1
  have := pow_lt_inv (Nat.lt_of_mul_lt_mul_right a1)
  omega
theorem root_same {n p v c g : Nat} {e E lift : Int} (hn : 1 ≤ n) (hv : v ≠ 0) (hE : ((xbl v : Int) + e - 1) / (n : Int) = E) (hl : e - (n : Int) * E = lift) (x1 : rY lift ≤ rX v lift) (hc : rtC (rX v lift) (rY lift) n p c) (hg : isRt (rtX (p : Int) (n : Int) e v) n g) :
    ∃ kk : Nat, (e - rMo (p : Int) (n : Int) e v) / (n : Int) + (kk : Int) = E - (p : Int) ∧ g / 2 ^ kk = c ∧ mo2 (if g ^ n = rtX (p : Int) (n : Int) e v then 0 else 1) g kk = rtO (rX v lift) (rY lift) n p c ∧ (p : Int) + 1 ≤ (xbl g : Int) - kk := by
  obtain ⟨m0, m1, m2⟩ := rMo_f (p := (p : Int)) (n := (n : Int)) (e := e) (v := v) (by omega)
  unfold rtX at hg ⊢
  obtain ⟨mo, emo⟩ : ∃ mo, mo = rMo (p : Int) (n : Int) e v := ⟨_, rfl⟩
  rw [← emo] at m0 m1 m2 hg ⊢
  obtain ⟨e1, ee1⟩ : ∃ e1, e1 = (e - mo) / (n : Int) := ⟨_, rfl⟩
  rw [← ee1] at m2 ⊢
  have hd := Int.mul_ediv_add_emod ((xbl v : Int) + e - 1) (n : Int)
  have hd2 := Int.emod_lt_of_pos ((xbl v : Int) + e - 1) (show 0 < (n : Int) by omega)
  rw [hE] at hd
  have hk0 : (p : Int) + 2 ≤ E - e1 := by
    have a1 : (n : Int) * (p + 2) ≤ (n : Int) * (E - e1) := by
      rw [Int.mul_sub, m2, Int.mul_add]
      rw [Int.mul_add] at m1
      omega
    exact Int.le_of_mul_le_mul_left a1 (by omega)
  obtain ⟨kk, ekk⟩ : ∃ kk : Nat, (kk : Int) = E - e1 - p := ⟨(E - e1 - p).toNat, by omega⟩
  have Y0 := rY_pos lift
  have hXg : v * 2 ^ mo.toNat * rY lift = rX v lift * 2 ^ (p * n) * 2 ^ (kk * n) := by
    unfold rX rY
    rw [Nat.mul_assoc, ← Nat.pow_add, Nat.mul_assoc, Nat.mul_assoc, ← Nat.pow_add, ← Nat.pow_add]
    congr 2
    have a1 : ((p * n : Nat) : Int) + ((kk * n : Nat) : Int) = (n : Int) * E - (n : Int) * e1 := by
      rw [Int.natCast_mul, Int.natCast_mul, ekk]
      generalize (n : Int) = N
      generalize (p : Int) = Pp
      grind
    generalize p * n = A at a1 ⊢
    generalize kk * n = B at a1 ⊢
    omega
  have hgk := Nat.div_add_mod g (2 ^ kk)
  have hgm := Nat.mod_lt g (Nat.two_pow_pos kk)
  have hc' : rtC (rX v lift) (rY lift) n p (g / 2 ^ kk) := by
    constructor
    · refine Nat.le_of_mul_le_mul_right (c := 2 ^ (kk * n)) ?_ (Nat.two_pow_pos _)
      rw [← hXg, ← dsc2]
      exact Nat.mul_le_mul_right _ (Nat.le_trans (Nat.pow_le_pow_left (Nat.div_mul_le_self _ _) _) hg.1)
    · refine Nat.lt_of_mul_lt_mul_right (a := 2 ^ (kk * n)) ?_
      rw [← hXg, ← dsc2]
      refine (Nat.mul_lt_mul_right Y0).mpr (Nat.lt_of_lt_of_le hg.2 (Nat.pow_le_pow_left ?_ _))
      rw [Nat.add_mul, Nat.one_mul, Nat.mul_comm]
      omega
  have ec := hc'.uniq Y0 hc
  refine ⟨kk, by omega, ec, ?_, ?_⟩
  · unfold mo2 rtO
    by_cases hx : c ^ n * rY lift = rX v lift * 2 ^ (p * n)
    · rw [if_pos hx]
      have b1 : (c * 2 ^ kk) ^ n = v * 2 ^ mo.toNat := by
        refine Nat.eq_of_mul_eq_mul_right Y0 ?_
        rw [hXg, dsc2, hx]
      have b2 : g = c * 2 ^ kk := by
        refine hg.uniq hn ⟨Nat.le_of_eq b1, ?_⟩
        rw [← b1]
        exact Nat.pow_lt_pow_left (by omega) (by omega)
      rw [if_pos ⟨by rw [if_pos (by rw [b2]; exact b1)], by rw [b2]; exact Nat.mul_mod_left _ _⟩]
    · rw [if_neg hx, if_neg ?_]
      rintro ⟨a1, a2⟩
      apply hx
      have b1 : g ^ n = v * 2 ^ mo.toNat := Classical.byContradiction fun q => by rw [if_neg q] at a1; exact absurd a1 (by decide)
      rw [a2, Nat.add_zero, ec, Nat.mul_comm] at hgk
      refine Nat.eq_of_mul_eq_mul_right (Nat.two_pow_pos (kk * n)) ?_
      rw [← hXg, ← dsc2, hgk, b1]
  · have b1 := hc.ge Y0 x1
    rw [← ec] at b1
    have b2 := xbl_ge b1
    rw [xbl_div] at b2
    omega
/-- the first root is the number -/
theorem root_1 {S : Nat → Nat → Int} {r : Nat} {e sg mode : Int} {v : Nat} (hv : v ≠ 0) : sRtd S r e 1 sg mode v = oR (S 153 r) (S 128 17) (S 128 18) (S 128 20) sg mode 0 v e (S 128 19) := by
  have h := rtF_is (v := rtX (S 153 r) 1 e v) (n := (1 : Int).toNat) (by decide)
  have h0 := (rMo_f (p := S 153 r) (n := 1) (e := e) (v := v) (by decide)).1
  unfold sRtd
  generalize rtF (rtX (S 153 r) 1 e v) (1 : Int).toNat = g at h ⊢
  have e1 : g = rtX (S 153 r) 1 e v := by
    have h1 := h.1
    have h2 := h.2
    rw [show (1 : Int).toNat = 1 from rfl, Nat.pow_one] at h1 h2
    omega
  unfold oRt
  rw [show (1 : Int).toNat = 1 from rfl, Nat.pow_one, if_pos e1, e1, Int.ediv_one]
  unfold rtX
  obtain ⟨kk, ekk⟩ : ∃ kk : Nat, rMo (S 153 r) 1 e v = (kk : Int) := ⟨(rMo (S 153 r) 1 e v).toNat, by omega⟩
  rw [ekk]
  exact oR_sc hv
/-- roots of higher degree -/
theorem root_n {S : Nat → Nat → Int} {r p k v : Nat} {e E lift sg mode sc more : Int} {M : Nat} (hp : S 153 r = (p : Int)) (hv : v ≠ 0) (hE : ((xbl v : Int) + e - 1) / ((k : Int) + 1) = E) (hl : e - ((k : Int) + 1) * E = lift) (x1 : rY lift ≤ rX v lift) (hR : rtR (rX v lift) (rY lift) (k + 1) p E sc more M) : sRtd S r e ((k : Int) + 1) sg mode v = oR (S 153 r) (S 128 17) (S 128 18) (S 128 20) sg mode more M sc (S 128 19) ∧ (p : Int) + 1 ≤ (xbl M : Int) := by
  obtain ⟨kk, c, a1, a2, a3, a4, a5⟩ := hR
  have cn : (k : Int) + 1 = ((k + 1 : Nat) : Int) := by omega
  have ct : ((k : Int) + 1).toNat = k + 1 := by omega
  have Y0 := rY_pos lift
  have h := rtF_is (v := rtX (S 153 r) ((k : Int) + 1) e v) (n := ((k : Int) + 1).toNat) (by omega)
  unfold sRtd
  generalize rtF (rtX (S 153 r) ((k : Int) + 1) e v) ((k : Int) + 1).toNat = g at h ⊢
  rw [cn] at hE hl
  rw [ct, hp, cn] at h
  obtain ⟨kg, g1, g2, g3, g4⟩ := root_same (n := k + 1) (by omega) hv hE hl x1 a3 h
  have cM : (p : Int) + 1 ≤ (xbl M : Int) - kk := by
    have b1 := a3.ge Y0 x1
    rw [← a2] at b1
    have b2 := xbl_ge b1
    rw [xbl_div] at b2
    omega
  unfold oRt
  rw [ct, hp, cn]
  refine ⟨?_, by omega⟩
  rw [← oR_cut (k := kg) g4 (by omega), ← oR_cut (m := M) (k := kk) (more := more) cM (by omega), g2, g3, g1, a2, a4, a1]
