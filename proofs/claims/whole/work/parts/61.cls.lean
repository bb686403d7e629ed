/-! the class's world: its objects by their fields, its naturals (words of 32 bits, in rows that grow) by their words -/
/-- the kinds of the class's handles: 0 to 11 objects of the class with that number (3: naturals), 21 rows of bytes, 22 the row of registers -/
def kdL : List Nat := [99, 99, 99, 99, 99, 99, 99, 0, 22, 1, 2, 3, 99, 2, 3, 99, 4, 3, 99, 5, 3, 99, 3, 99, 3, 99, 4, 3, 99, 21, 2, 3, 99, 2, 3, 99, 2, 3, 99, 2, 3, 99, 2, 3, 99, 2, 3, 99, 2, 3, 99, 2, 3, 99, 2, 3, 99, 2, 3, 99, 2, 3, 99, 2, 3, 99, 2, 3, 99, 2, 3, 99, 2, 3, 99, 2, 3, 99, 1, 6, 3, 99, 3, 99, 3, 99, 7, 3, 99, 3, 99, 3, 99, 8, 4, 3, 99, 3, 99, 3, 99, 9, 3, 99, 3, 99, 3, 99, 10, 3, 99, 3, 99, 11, 21, 3, 99, 3, 99, 3, 99, 3, 99, 3, 99, 2, 3, 99]
def kd (h : Nat) : Nat := kdL.getD h 99
def vI (s : Nat → Int) (k : Nat) : Value := .int (Int32.ofInt (s k))
def vR (s : Nat → Int) (k : Nat) : Value := .ref (s k).toNat
def f1 (s : Nat → Int) : List Value := [vI s 0, vI s 1, vI s 2, vI s 3]
def f2 (h : Nat) (s : Nat → Int) : List Value := [vI s 0, vI s 1, vI s 2, vI s 3, .ref (h + 1)]
def f3 (a : Nat) (s : Nat → Int) : List Value := [.ref a, vI s 1]
def f4 (h : Nat) (s : Nat → Int) : List Value := [vI s 0, .ref (h + 1), vI s 2, vI s 3]
def f0 (s : Nat → Int) : List Value := [.ref 8, .ref 78, .ref 9, .ref 10, .ref 13, .ref 16, .ref 19, .ref 93, .ref 108, .ref 113, .ref 29, vI s 11]
def f5 (s : Nat → Int) : List Value := [.ref 20, .ref 22, .ref 24, .ref 26, vI s 4, vI s 5, vI s 6, vI s 7, vI s 8, vI s 9, vI s 10, vI s 11]
def f6 (s : Nat → Int) : List Value := [vR s 0, vR s 1, .ref 84, vI s 3, vI s 4]
def f7 : List Value := [.ref 87, .ref 89, .ref 91]
def f8 : List Value := [.ref 78, .ref 79, .ref 86, .ref 101, .ref 94, .ref 97, .ref 99]
def f9 (s : Nat → Int) : List Value := [.ref 79, .ref 86, .ref 102, .ref 104, .ref 106, vR s 5, vI s 6, vI s 7, vI s 8, vI s 9]
def f10 (s : Nat → Int) : List Value := [.ref 79, .ref 86, .ref 109, .ref 111, vI s 4, vI s 5, vI s 6, vI s 7, vI s 8]
def f11 (s : Nat → Int) : List Value := [.ref 79, .ref 86, .ref 114, vI s 3, .ref 115, .ref 117, .ref 119, .ref 121, .ref 123, vR s 9, vI s 10, vI s 11, vI s 12]
/-- the fields of the object at h; a: where its row lies, if it is a natural -/
def cF (a h : Nat) (s : Nat → Int) : List Value :=
  match kd h with
  | 0 => f0 s
  | 1 => f1 s
  | 2 => f2 h s
  | 3 => f3 a s
  | 4 => f4 h s
  | 5 => f5 s
  | 6 => f6 s
  | 7 => f7
  | 8 => f8
  | 9 => f9 s
  | 10 => f10 s
  | 11 => f11 s
  | _ => []
def cL : List Nat := [11, 14, 17, 20, 22, 24, 27, 31, 34, 37, 40, 43, 46, 49, 52, 55, 58, 61, 64, 67, 70, 73, 76, 80, 82, 84, 87, 89, 91, 95, 97, 99, 102, 104, 106, 109, 111, 115, 117, 119, 121, 123, 126]
/-- the class's cells; what is not its own is as in w0. S h: the fields of the object at h (of a natural: 1 its size), S (h + 1): the words of the natural at h, S 29, S 114: bytes. The natural's row lies at A h and has C h words; it was made anew B h times. But for such rows there are L cells, and Z is what they hold -/
def cR (w0 : xW) (L Z : Nat) (A C B : Nat → Nat) (S : Nat → Nat → Int) (w : xW) : Prop :=
  (∀ k, k < 7 ∨ (128 ≤ k ∧ k < 195) → w[k]? = w0[k]?) ∧
  (∀ h, kd h < 12 → w[h]? = some (.inr (kd h, cF (A h) h (S h)))) ∧
  (∀ h, kd h = 3 → w[A h]? = some (.inl (0, C h, mrow (S (h + 1)))) ∧ 8 * 2 ^ B h ≤ C h ∧ C h ≤ 40000) ∧
  (∀ h, kd h = 3 → A h = h + 1 ∨ (195 ≤ A h ∧ A h < w.length)) ∧
  (∀ h k, kd h = 3 → kd k = 3 → A h = A k → h = k) ∧
  (∃ gr, w[8]? = some (.inl (4, 16, gr)) ∧ ∀ j, j < 16 → gr j = .ref (30 + 3 * j)) ∧
  (w[29]? = some (.inl (1, 4096, mrow (S 29))) ∧ w[114]? = some (.inl (1, 4112, mrow (S 114)))) ∧
  195 ≤ w.length ∧ w.length = L + (cL.map B).sum ∧ xsz w ≤ Z + (cL.map (fun h => 2 * C h)).sum
theorem kd_ge {h : Nat} (hh : 128 ≤ h) : kd h = 99 := by
  unfold kd
  rw [List.getD_eq_getElem?_getD, List.getElem?_eq_none (show kdL.length ≤ h from hh)]
  rfl
def kdA (h : Nat) : Bool := !Nat.blt (kd h) 12 || (Nat.ble 7 h && (!Nat.beq h 8 && (!Nat.beq h 29 && (!Nat.beq h 114 && Nat.blt h 127))))
def kdB (h : Nat) : Bool := !Nat.beq (kd h) 3 || (Nat.ble 12 (kd (h + 1)) && (!Nat.beq (h + 1) 8 && (!Nat.beq (h + 1) 29 && (!Nat.beq (h + 1) 114 && cL.contains h))))
theorem kd_tab : ∀ h, h < 128 → (kdA h && kdB h) = true := by decide +kernel
theorem kd_o {h : Nat} (hk : kd h < 12) : 7 ≤ h ∧ h ≠ 8 ∧ h ≠ 29 ∧ h ≠ 114 ∧ h < 127 := by
  by_cases hh : h < 128
  · have h1 := (Bool.and_eq_true_iff.mp (kd_tab h hh)).1
    unfold kdA at h1
    rw [show Nat.blt (kd h) 12 = true from Nat.ble_eq_true_of_le hk] at h1
    simp only [Bool.not_true, Bool.false_or, Bool.and_eq_true, Bool.not_eq_true'] at h1
    obtain ⟨a1, a2, a3, a4, a5⟩ := h1
    exact ⟨Nat.le_of_ble_eq_true a1, Nat.ne_of_beq_eq_false a2, Nat.ne_of_beq_eq_false a3, Nat.ne_of_beq_eq_false a4, Nat.le_of_ble_eq_true a5⟩
  · rw [kd_ge (by omega)] at hk; omega
theorem kd_c {h : Nat} (hk : kd h = 3) : 12 ≤ kd (h + 1) ∧ h + 1 ≠ 8 ∧ h + 1 ≠ 29 ∧ h + 1 ≠ 114 ∧ h ∈ cL := by
  by_cases hh : h < 128
  · have h1 := (Bool.and_eq_true_iff.mp (kd_tab h hh)).2
    unfold kdB at h1
    rw [hk, Nat.beq_refl] at h1
    simp only [Bool.not_true, Bool.false_or, Bool.and_eq_true, Bool.not_eq_true'] at h1
    obtain ⟨a1, a2, a3, a4, a5⟩ := h1
    exact ⟨Nat.le_of_ble_eq_true a1, Nat.ne_of_beq_eq_false a2, Nat.ne_of_beq_eq_false a3, Nat.ne_of_beq_eq_false a4, List.contains_iff_mem.mp a5⟩
  · rw [kd_ge (by omega)] at hk; omega
theorem cL_nodup : cL.Nodup := by decide +kernel
theorem cF_len {a a' h : Nat} {s s' : Nat → Int} (hk : kd h < 12) : xcs (.inr (kd h, cF a' h s')) = xcs (.inr (kd h, cF a h s)) := rfl
theorem cF_3 {a h : Nat} {s : Nat → Int} (hk : kd h = 3) : cF a h s = f3 a s := by unfold cF; rw [hk]; rfl
theorem cF_a {a a' h : Nat} {s : Nat → Int} (hk : kd h ≠ 3) : cF a h s = cF a' h s := by
  unfold cF
  split
  all_goals first | rfl | (exact absurd ‹kd h = 3› hk)
/-- words of 32 bits, and the value of n of them -/
def cw (s : Nat → Int) (j : Nat) : Nat := (s j % 4294967296).toNat
def cv (s : Nat → Int) : Nat → Nat
  | 0 => 0
  | n + 1 => cv s n + cw s n * 2 ^ (32 * n)
theorem cw_lt {g : Nat → Int} {j : Nat} : cw g j < 4294967296 := by
  unfold cw
  have h1 := Int.emod_lt_of_pos (g j) (show (0 : Int) < 4294967296 by decide)
  omega
theorem cv_lt {g : Nat → Int} {n : Nat} : cv g n < 2 ^ (32 * n) := by
  induction n with
  | zero => exact Nat.one_pos
  | succ n ih =>
    have h2 : cw g n < 4294967296 := cw_lt
    show cv g n + cw g n * 2 ^ (32 * n) < _
    have e : 2 ^ (32 * (n + 1)) = 4294967296 * 2 ^ (32 * n) := by rw [show 32 * (n + 1) = 32 * n + 32 by omega, Nat.pow_add, Nat.mul_comm]
    have h3 : (cw g n + 1) * 2 ^ (32 * n) ≤ 4294967296 * 2 ^ (32 * n) := Nat.mul_le_mul_right _ (by omega)
    rw [Nat.add_mul, Nat.one_mul] at h3
    omega
theorem cv_same {g g' : Nat → Int} {n : Nat} (h : ∀ j, j < n → g j = g' j) : cv g n = cv g' n := by
  induction n with
  | zero => rfl
  | succ n ih =>
    show cv g n + cw g n * _ = cv g' n + cw g' n * _
    rw [ih fun j hj => h j (by omega), show cw g n = cw g' n by unfold cw; rw [h n (by omega)]]
theorem cv_zero {g : Nat → Int} {j n : Nat} (hj : j ≤ n) (h : ∀ i, j ≤ i → i < n → cw g i = 0) : cv g n = cv g j := by
  induction n with
  | zero => have : j = 0 := by omega
            subst this; rfl
  | succ n ih =>
    by_cases e : j = n + 1
    · subst e; rfl
    · show cv g n + cw g n * _ = _
      rw [h n (by omega) (by omega), Nat.zero_mul, Nat.add_zero]
      exact ih (by omega) fun i h1 h2 => h i h1 (by omega)
theorem cv_low {g : Nat → Int} {n : Nat} (hn : 0 < n) (ht : cw g (n - 1) ≠ 0) : 2 ^ (32 * (n - 1)) ≤ cv g n := by
  obtain ⟨m, rfl⟩ : ∃ m, n = m + 1 := ⟨n - 1, by omega⟩
  show _ ≤ cv g m + cw g m * 2 ^ (32 * m)
  have h1 : 1 * 2 ^ (32 * m) ≤ cw g m * 2 ^ (32 * m) := Nat.mul_le_mul_right _ (Nat.one_le_iff_ne_zero.mpr ht)
  rw [Nat.one_mul] at h1
  show 2 ^ (32 * m) ≤ _
  omega
theorem cv_bl {g : Nat → Int} {n : Nat} (ht : cw g n ≠ 0) : xbl (cv g (n + 1)) = xbl (cw g n) + 32 * n := by
  show xbl (cv g n + cw g n * 2 ^ (32 * n)) = _
  rw [Nat.add_comm]
  exact xbl_mul ht cv_lt
theorem cw_at {g : Nat → Int} {n i : Nat} (hi : i < n) : cw g i = cv g n / 2 ^ (32 * i) % 4294967296 := by
  induction n with
  | zero => omega
  | succ n ih =>
    show _ = (cv g n + cw g n * 2 ^ (32 * n)) / 2 ^ (32 * i) % 4294967296
    have hp := Nat.two_pow_pos (32 * i)
    by_cases e : i = n
    · subst e
      rw [Nat.add_mul_div_right _ _ hp, Nat.div_eq_of_lt cv_lt, Nat.zero_add, Nat.mod_eq_of_lt cw_lt]
    · have e2 : 2 ^ (32 * n) = 2 ^ (32 * (n - 1 - i)) * 4294967296 * 2 ^ (32 * i) := by
        rw [show (4294967296 : Nat) = 2 ^ 32 from rfl, ← Nat.pow_add, ← Nat.pow_add]; congr 1; omega
      rw [e2, ← Nat.mul_assoc, Nat.add_mul_div_right _ _ hp, ← Nat.mul_assoc, Nat.add_mul_mod_self_right]
      exact ih (by omega)
theorem csz {g : Nat → Int} {n m : Nat} (ht : n = 0 ∨ cw g (n - 1) ≠ 0) (h : xbl (cv g n) ≤ 32 * m) : n ≤ m := by
  rcases Nat.eq_zero_or_pos n with e | e
  · omega
  · rcases ht with h0 | h0
    · omega
    · have h1 := xbl_ge (cv_low e h0)
      omega
