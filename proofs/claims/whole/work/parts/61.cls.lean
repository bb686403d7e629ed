/-! the class's world: its objects by their fields, its naturals (words of 32 bits, in rows that grow) by their values -/
/-- a register's, a range's, a real's handle -/
def isReg (h : Nat) : Prop := (30 ≤ h ∧ h ≤ 75 ∧ h % 3 = 0) ∨ h = 10 ∨ h = 13 ∨ h = 125
def isReal (h : Nat) : Prop := h = 16 ∨ h = 26 ∨ h = 94
def isRng (h : Nat) : Prop := h = 9 ∨ h = 78
/-- a natural's handle -/
def isC (h : Nat) : Prop := (31 ≤ h ∧ h ≤ 76 ∧ h % 3 = 1) ∨ h = 11 ∨ h = 14 ∨ h = 17 ∨ h = 20 ∨ h = 22 ∨ h = 24 ∨ h = 27 ∨ h = 80 ∨ h = 82 ∨ h = 84 ∨ h = 87 ∨ h = 89 ∨ h = 91 ∨ h = 95 ∨ h = 97 ∨ h = 99 ∨ h = 102 ∨ h = 104 ∨ h = 106 ∨ h = 109 ∨ h = 111 ∨ h = 115 ∨ h = 117 ∨ h = 119 ∨ h = 121 ∨ h = 123 ∨ h = 126
def vI (s : Nat → Int) (k : Nat) : Value := .int (Int32.ofInt (s k))
def vR (s : Nat → Int) (k : Nat) : Value := .ref (s k).toNat
def f1 (s : Nat → Int) : List Value := [vI s 0, vI s 1, vI s 2, vI s 3]
def f2 (h : Nat) (s : Nat → Int) : List Value := [vI s 0, vI s 1, vI s 2, vI s 3, .ref (h + 1)]
def f4 (h : Nat) (s : Nat → Int) : List Value := [vI s 0, .ref (h + 1), vI s 2, vI s 3]
def f0 (s : Nat → Int) : List Value := [.ref 8, .ref 78, .ref 9, .ref 10, .ref 13, .ref 16, .ref 19, .ref 93, .ref 108, .ref 113, .ref 29, vI s 11]
def f5 (s : Nat → Int) : List Value := [.ref 20, .ref 22, .ref 24, .ref 26, vI s 4, vI s 5, vI s 6, vI s 7, vI s 8, vI s 9, vI s 10, vI s 11]
def f6 (s : Nat → Int) : List Value := [vR s 0, vR s 1, .ref 84, vI s 3, vI s 4]
def f7 : List Value := [.ref 87, .ref 89, .ref 91]
def f8 : List Value := [.ref 78, .ref 79, .ref 86, .ref 101, .ref 94, .ref 97, .ref 99]
def f9 (s : Nat → Int) : List Value := [.ref 79, .ref 86, .ref 102, .ref 104, .ref 106, vR s 5, vI s 6, vI s 7, vI s 8, vI s 9]
def f10 (s : Nat → Int) : List Value := [.ref 79, .ref 86, .ref 109, .ref 111, vI s 4, vI s 5, vI s 6, vI s 7, vI s 8]
def f11 (s : Nat → Int) : List Value := [.ref 79, .ref 86, .ref 114, vI s 3, .ref 115, .ref 117, .ref 119, .ref 121, .ref 123, vR s 9, vI s 10, vI s 11, vI s 12]
/-- the objects of the class, but its naturals -/
def cO (w : xW) (S : Nat → Nat → Int) : Prop :=
  (∀ h, isRng h → w[h]? = some (.inr (1, f1 (S h)))) ∧ (∀ h, isReg h → w[h]? = some (.inr (2, f2 h (S h)))) ∧ (∀ h, isReal h → w[h]? = some (.inr (4, f4 h (S h)))) ∧
  w[7]? = some (.inr (0, f0 (S 7))) ∧ w[19]? = some (.inr (5, f5 (S 19))) ∧ w[79]? = some (.inr (6, f6 (S 79))) ∧ w[86]? = some (.inr (7, f7)) ∧ w[93]? = some (.inr (8, f8)) ∧ w[101]? = some (.inr (9, f9 (S 101))) ∧ w[108]? = some (.inr (10, f10 (S 108))) ∧ w[113]? = some (.inr (11, f11 (S 113))) ∧
  (∃ gr, w[8]? = some (.inl (4, 16, gr)) ∧ ∀ j, j < 16 → gr j = .ref (30 + 3 * j)) ∧ w[29]? = some (.inl (1, 4096, mrow (S 29))) ∧ w[114]? = some (.inl (1, 4112, mrow (S 114)))
/-- words of 32 bits -/
def cw (g : Nat → Value) (j : Nat) : Nat := match g j with | .int x => xun x | _ => 0
def cv (g : Nat → Value) : Nat → Nat
  | 0 => 0
  | n + 1 => cv g n + cw g n * 2 ^ (32 * n)
def ints (g : Nat → Value) (c : Nat) : Prop := ∀ j, j < c → ∃ x : Int32, g j = .int x
/-- the natural at h with its row at a: n words of c, trimmed, of value v -/
def nC (w : xW) (h a c v : Nat) : Prop := ∃ n g, w[h]? = some (.inr (3, [.ref a, .int (Int32.ofNat n)])) ∧ w[a]? = some (.inl (0, c, g)) ∧ n ≤ c ∧ ints g c ∧ cv g n = v ∧ (n = 0 ∨ cw g (n - 1) ≠ 0)
def cL : List Nat := [11, 14, 17, 20, 22, 24, 27, 31, 34, 37, 40, 43, 46, 49, 52, 55, 58, 61, 64, 67, 70, 73, 76, 80, 82, 84, 87, 89, 91, 95, 97, 99, 102, 104, 106, 109, 111, 115, 117, 119, 121, 123, 126]
/-- the class's cells; what is not its own is as in w0; but for the rows that naturals grew there are L cells, and Z is what they hold -/
def cR (w0 : xW) (L Z : Nat) (S : Nat → Nat → Int) (V : Nat → Nat) (w : xW) : Prop :=
  (∀ k, k < 7 ∨ (128 ≤ k ∧ k < 195) → w[k]? = w0[k]?) ∧ cO w S ∧ ∃ A C B : Nat → Nat,
    (∀ h, isC h → nC w h (A h) (C h) (V h) ∧ (A h = h + 1 ∨ 195 ≤ A h) ∧ 8 * 2 ^ B h ≤ C h ∧ C h ≤ 40000) ∧ (∀ h k, isC h → isC k → A h = A k → h = k) ∧
    195 ≤ w.length ∧ w.length = L + (cL.map B).sum ∧ xsz w ≤ Z + (cL.map (fun h => 2 * C h)).sum
section
variable {h k : Nat}
theorem isC.b (hc : isC h) : 11 ≤ h ∧ h ≤ 126 := by unfold isC at hc; omega
theorem isC.o (hc : isC h) : ¬ isRng h ∧ ¬ isReg h ∧ ¬ isReal h ∧ h ≠ 7 ∧ h ≠ 8 ∧ h ≠ 19 ∧ h ≠ 29 ∧ h ≠ 79 ∧ h ≠ 86 ∧ h ≠ 93 ∧ h ≠ 101 ∧ h ≠ 108 ∧ h ≠ 113 ∧ h ≠ 114 := by unfold isC at hc; unfold isRng isReg isReal; omega
theorem isC.a (hc : isC h) : ¬ isRng (h + 1) ∧ ¬ isReg (h + 1) ∧ ¬ isReal (h + 1) ∧ h + 1 ≠ 7 ∧ h + 1 ≠ 8 ∧ h + 1 ≠ 19 ∧ h + 1 ≠ 29 ∧ h + 1 ≠ 79 ∧ h + 1 ≠ 86 ∧ h + 1 ≠ 93 ∧ h + 1 ≠ 101 ∧ h + 1 ≠ 108 ∧ h + 1 ≠ 113 ∧ h + 1 ≠ 114 ∧ ¬ isC (h + 1) := by unfold isC at hc; unfold isRng isReg isReal isC; omega
end
theorem cw_int {g : Nat → Value} {j : Nat} {x : Int32} (h : g j = .int x) : cw g j = xun x := by unfold cw; rw [h]
theorem cw_lt {g : Nat → Value} {j : Nat} : cw g j < 4294967296 := by
  unfold cw
  split
  · exact xun_lt _
  · decide
theorem cv_lt {g : Nat → Value} {n : Nat} : cv g n < 2 ^ (32 * n) := by
  induction n with
  | zero => exact Nat.one_pos
  | succ n ih =>
    have h2 : cw g n < 4294967296 := cw_lt
    show cv g n + cw g n * 2 ^ (32 * n) < _
    have e : 2 ^ (32 * (n + 1)) = 4294967296 * 2 ^ (32 * n) := by rw [show 32 * (n + 1) = 32 * n + 32 by omega, Nat.pow_add, Nat.mul_comm]
    have h3 : (cw g n + 1) * 2 ^ (32 * n) ≤ 4294967296 * 2 ^ (32 * n) := Nat.mul_le_mul_right _ (by omega)
    rw [Nat.add_mul, Nat.one_mul] at h3
    omega
theorem cv_same {g g' : Nat → Value} {n : Nat} (h : ∀ j, j < n → g j = g' j) : cv g n = cv g' n := by
  induction n with
  | zero => rfl
  | succ n ih =>
    show cv g n + cw g n * _ = cv g' n + cw g' n * _
    rw [ih fun j hj => h j (by omega), show cw g n = cw g' n by unfold cw; rw [h n (by omega)]]
theorem cv_zero {g : Nat → Value} {j n : Nat} (hj : j ≤ n) (h : ∀ i, j ≤ i → i < n → cw g i = 0) : cv g n = cv g j := by
  induction n with
  | zero => have : j = 0 := by omega
            subst this; rfl
  | succ n ih =>
    by_cases e : j = n + 1
    · subst e; rfl
    · show cv g n + cw g n * _ = _
      rw [h n (by omega) (by omega), Nat.zero_mul, Nat.add_zero]
      exact ih (by omega) fun i h1 h2 => h i h1 (by omega)
theorem cv_low {g : Nat → Value} {n : Nat} (hn : 0 < n) (ht : cw g (n - 1) ≠ 0) : 2 ^ (32 * (n - 1)) ≤ cv g n := by
  obtain ⟨m, rfl⟩ : ∃ m, n = m + 1 := ⟨n - 1, by omega⟩
  show _ ≤ cv g m + cw g m * 2 ^ (32 * m)
  have h1 : 1 * 2 ^ (32 * m) ≤ cw g m * 2 ^ (32 * m) := Nat.mul_le_mul_right _ (Nat.one_le_iff_ne_zero.mpr ht)
  rw [Nat.one_mul] at h1
  show 2 ^ (32 * m) ≤ _
  omega
theorem cv_bl {g : Nat → Value} {n : Nat} (ht : cw g n ≠ 0) : xbl (cv g (n + 1)) = xbl (cw g n) + 32 * n := by
  show xbl (cv g n + cw g n * 2 ^ (32 * n)) = _
  rw [Nat.add_comm]
  exact xbl_mul ht cv_lt
theorem cw_at {g : Nat → Value} {n i : Nat} (hi : i < n) : cw g i = cv g n / 2 ^ (32 * i) % 4294967296 := by
  induction n with
  | zero => omega
  | succ n ih =>
    show _ = (cv g n + cw g n * 2 ^ (32 * n)) / 2 ^ (32 * i) % 4294967296
    have hp := Nat.two_pow_pos (32 * i)
    by_cases e : i = n
    · subst e
      rw [Nat.add_mul_div_right _ _ hp, Nat.div_eq_of_lt cv_lt, Nat.zero_add, Nat.mod_eq_of_lt cw_lt]
    · have e2 : 2 ^ (32 * n) = 2 ^ (32 * (n - 1 - i)) * 4294967296 * 2 ^ (32 * i) := by
        rw [show (4294967296 : Nat) = 2 ^ 32 from rfl, ← Nat.pow_add, ← Nat.pow_add]; congr 1; omega
      rw [e2, ← Nat.mul_assoc, Nat.add_mul_div_right _ _ hp, ← Nat.mul_assoc, Nat.add_mul_mod_self_right]
      exact ih (by omega)
theorem csz {g : Nat → Value} {n m : Nat} (ht : n = 0 ∨ cw g (n - 1) ≠ 0) (h : xbl (cv g n) ≤ 32 * m) : n ≤ m := by
  rcases Nat.eq_zero_or_pos n with e | e
  · omega
  · rcases ht with h0 | h0
    · omega
    · have h1 := xbl_ge (cv_low e h0)
      omega
