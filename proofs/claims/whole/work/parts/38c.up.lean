/-! shifts of naturals: words from a place on -/
theorem xvl_cons {f : Nat → Value} {m : Nat} : xvl f (m + 1) = xwd f 0 + 1073741824 * xvl (fun j => f (j + 1)) m := by
  induction m with
  | zero => simp [xvl]
  | succ m ih =>
    have e1 : xvl f (m + 1 + 1) = xvl f (m + 1) + xwd f (m + 1) * 2 ^ (30 * (m + 1)) := rfl
    have e2 : xvl (fun j => f (j + 1)) (m + 1) = xvl (fun j => f (j + 1)) m + xwd f (m + 1) * 2 ^ (30 * m) := rfl
    have e3 : xwd f (m + 1) * 2 ^ (30 * (m + 1)) = 1073741824 * (xwd f (m + 1) * 2 ^ (30 * m)) := by
      rw [show 30 * (m + 1) = 30 * m + 30 by omega, Nat.pow_add, ← Nat.mul_assoc, Nat.mul_comm]
    rw [e1, e2, ih, e3, Nat.mul_add 1073741824, Nat.add_assoc]
def xsv (g : Nat → Value) (lo m : Nat) : Nat := xvl (fun j => g (lo + j)) m
theorem xsv_cons {g : Nat → Value} {lo m : Nat} : xsv g lo (m + 1) = xwd g lo + 1073741824 * xsv g (lo + 1) m := by
  unfold xsv
  rw [xvl_cons]
  have e : xvl (fun j => g (lo + (j + 1))) m = xvl (fun j => g (lo + 1 + j)) m := xvl_same fun j _ => by
    show g (lo + (j + 1)) = g (lo + 1 + j)
    rw [show lo + (j + 1) = lo + 1 + j by omega]
  rw [e]
  rfl
theorem xsv_same {g g' : Nat → Value} {lo m : Nat} (h : ∀ j, lo ≤ j → j < lo + m → g j = g' j) : xsv g lo m = xsv g' lo m := xvl_same fun j hj => h _ (by omega) (by omega)
theorem xsv_zero {g : Nat → Value} {m : Nat} : xsv g 0 m = xvl g m := by
  unfold xsv
  apply xvl_same
  intro j _
  show g (0 + j) = g j
  rw [Nat.zero_add]
/-- a multiple of 2^p, and something below -/
theorem xor_add {a b p : Nat} (ha : a % 2 ^ p = 0) (hb : b < 2 ^ p) : a ||| b = a + b := by
  have e : a = 2 ^ p * (a / 2 ^ p) := by have := Nat.div_add_mod a (2 ^ p); omega
  rw [e, Nat.two_pow_add_eq_or_of_lt hb]
theorem xor_word {u y : Int32} {p : Nat} (hp : p < 30) (u0 : 0 ≤ u.toInt) (u1 : u.toInt < 1073741824) (hu : xun u % 2 ^ p = 0) (hy : xun y < 2 ^ p) : xun (u ||| y) = xun u + xun y ∧ 0 ≤ (u ||| y).toInt ∧ (u ||| y).toInt < 1073741824 := by
  have uu := xun_i u0
  have e : xun (u ||| y) = xun u + xun y := by rw [xun_or, xor_add hu hy]
  have hd : 1073741824 % 2 ^ p = 0 := by
    have : (1073741824 : Nat) = 2 ^ p * 2 ^ (30 - p) := by rw [← Nat.pow_add, show p + (30 - p) = 30 by omega]
    rw [this]; exact Nat.mul_mod_right _ _
  have hp0 := Nat.two_pow_pos p
  have hlt : xun u + 2 ^ p ≤ 1073741824 := by
    have a1 := Nat.div_add_mod (xun u) (2 ^ p)
    have a2 := Nat.div_add_mod 1073741824 (2 ^ p)
    have a3 : xun u / 2 ^ p < 1073741824 / 2 ^ p := by
      apply Nat.lt_of_not_le
      intro hc
      have := Nat.mul_le_mul_left (2 ^ p) hc
      omega
    have a4 := Nat.mul_le_mul_left (2 ^ p) (show xun u / 2 ^ p + 1 ≤ 1073741824 / 2 ^ p from a3)
    rw [Nat.mul_add, Nat.mul_one] at a4
    omega
  have hp2 := xun_p (x := u ||| y) (by omega)
  exact ⟨e, by omega, by omega⟩
/-- a word shifted: its two parts -/
theorem xsplit {x s : Int32} {p : Nat} (x0 : 0 ≤ x.toInt) (x1 : x.toInt < 1073741824) (hs : s.toInt = p) (hp : p < 30) : xun (xL x s) + 1073741824 * xun (xH x s) = xun x * 2 ^ p ∧ xun (xH x s) < 2 ^ p ∧ xun (xL x s) % 2 ^ p = 0 ∧ 0 ≤ (xL x s).toInt ∧ (xL x s).toInt < 1073741824 := by
  have e : s.toInt.toNat = p := by omega
  have h1 := xL_n x0 x1 (p := s) (by omega) (by omega)
  have h2 := xH_n x0 x1 (p := s) (by omega) (by omega)
  rw [e] at h1 h2
  have ux := xun_i x0
  have hd := Nat.div_add_mod (xun x * 2 ^ p) 1073741824
  have hq := xun_p (x := xL x s) (by omega)
  have e30 : (1073741824 : Nat) = 2 ^ p * 2 ^ (30 - p) := by rw [← Nat.pow_add, show p + (30 - p) = 30 by omega]
  refine ⟨by omega, ?_, ?_, by omega, by omega⟩
  · rw [h2]
    apply Nat.div_lt_of_lt_mul
    have : xun x * 2 ^ p < 1073741824 * 2 ^ p := Nat.mul_lt_mul_of_pos_right (by omega) (Nat.two_pow_pos p)
    exact this
  · rw [h1, Nat.mul_comm, e30, Nat.mul_mod_mul_left]
    exact Nat.mul_mod_right _ _
/-- one step of the shift upward, seen on the words -/
theorem up_step {G g : Nat → Value} {x u s : Int32} {t W n p : Nat} (hp : p < 30) (hs : s.toInt = p) (ht : t < n) (hx : g t = .int x) (x0 : 0 ≤ x.toInt) (x1 : x.toInt < 1073741824) (hu : G (t + 1 + W) = .int u) (u0 : 0 ≤ u.toInt) (u1 : u.toInt < 1073741824) (hd : xun u % 2 ^ p = 0) (hv : xsv G (t + 1 + W) (n - t) = xsv g (t + 1) (n - (t + 1)) * 2 ^ p) :
    xsv (xup (xup G (t + 1 + W) (.int (u ||| xH x s))) (t + W) (.int (xL x s))) (t + W) (n + 1 - t) = xsv g t (n - t) * 2 ^ p := by
  have hsp := xsplit x0 x1 hs hp
  have hor := xor_word hp u0 u1 hd hsp.2.1
  have e1 : n + 1 - t = (n - t) + 1 := by omega
  have e2 : n - t = (n - (t + 1)) + 1 := by omega
  rw [e1, xsv_cons, xwd_int (x := xL x s) xup_eq]
  have e3 : xsv (xup (xup G (t + 1 + W) (.int (u ||| xH x s))) (t + W) (.int (xL x s))) (t + W + 1) (n - t) = xun (xH x s) + xsv G (t + 1 + W) (n - t) := by
    rw [show t + W + 1 = t + 1 + W by omega, e2, xsv_cons, xsv_cons, xwd_int (x := u ||| xH x s) ((xup_ne (by omega)).trans xup_eq), xwd_int hu, hor.1]
    rw [xsv_same (g' := G) fun j j1 j2 => (xup_ne (by omega)).trans (xup_ne (by omega))]
    omega
  rw [e3, hv]
  have e4 : xsv g t (n - t) = xun x + 1073741824 * xsv g (t + 1) (n - (t + 1)) := by
    rw [e2, xsv_cons, xwd_int hx]
  rw [e4, Nat.add_mul, ← hsp.1, Nat.mul_add, Nat.mul_assoc]
  omega
