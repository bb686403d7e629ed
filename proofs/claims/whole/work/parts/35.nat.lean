/-! the reference's naturals: words of 30 bits, the lowest first -/
/-- a word of an array, as a number -/
def xwd (g : Nat → Value) (j : Nat) : Nat := match g j with | .int x => xun x | _ => 0
/-- the value of the first n words -/
def xvl (g : Nat → Value) : Nat → Nat
  | 0 => 0
  | n + 1 => xvl g n + xwd g n * 2 ^ (30 * n)
/-- the j-th content is a word of 30 bits -/
def xiw (g : Nat → Value) (j : Nat) : Prop := ∃ x : Int32, g j = .int x ∧ 0 ≤ x.toInt ∧ x.toInt < 1073741824
theorem xwd_int {g : Nat → Value} {j : Nat} {x : Int32} (h : g j = .int x) : xwd g j = xun x := by unfold xwd; rw [h]
theorem xiw.lt {g : Nat → Value} {j : Nat} (h : xiw g j) : xwd g j < 1073741824 := by
  obtain ⟨x, e, h0, h1⟩ := h
  rw [xwd_int e]
  have := xun_i h0
  omega
theorem xvl_lt {g : Nat → Value} {n : Nat} (h : ∀ j, j < n → xiw g j) : xvl g n < 2 ^ (30 * n) := by
  induction n with
  | zero => exact Nat.one_pos
  | succ n ih =>
    have h1 := ih fun j hj => h j (by omega)
    have h2 := (h n (by omega)).lt
    show xvl g n + xwd g n * 2 ^ (30 * n) < _
    have e : 2 ^ (30 * (n + 1)) = 1073741824 * 2 ^ (30 * n) := by rw [show 30 * (n + 1) = 30 * n + 30 by omega, Nat.pow_add, Nat.mul_comm]
    have h3 : (xwd g n + 1) * 2 ^ (30 * n) ≤ 1073741824 * 2 ^ (30 * n) := Nat.mul_le_mul_right _ (by omega)
    rw [Nat.add_mul, Nat.one_mul] at h3
    omega
theorem xvl_same {g g' : Nat → Value} {n : Nat} (h : ∀ j, j < n → g j = g' j) : xvl g n = xvl g' n := by
  induction n with
  | zero => rfl
  | succ n ih =>
    show xvl g n + xwd g n * _ = xvl g' n + xwd g' n * _
    rw [ih fun j hj => h j (by omega), show xwd g n = xwd g' n by unfold xwd; rw [h n (by omega)]]
/-- words of zeros above change nothing -/
theorem xvl_zero {g : Nat → Value} {j n : Nat} (hj : j ≤ n) (h : ∀ i, j ≤ i → i < n → xwd g i = 0) : xvl g n = xvl g j := by
  induction n with
  | zero => have : j = 0 := by omega
            subst this; rfl
  | succ n ih =>
    by_cases e : j = n + 1
    · subst e; rfl
    · show xvl g n + xwd g n * _ = _
      rw [h n (by omega) (by omega), Nat.zero_mul, Nat.add_zero]
      exact ih (by omega) fun i h1 h2 => h i h1 (by omega)
/-- a number with a word other than 0 on top has its length there -/
theorem xvl_bl {g : Nat → Value} {n : Nat} (h : ∀ j, j < n + 1 → xiw g j) (ht : xwd g n ≠ 0) : xbl (xvl g (n + 1)) = xbl (xwd g n) + 30 * n := by
  show xbl (xvl g n + xwd g n * 2 ^ (30 * n)) = _
  rw [Nat.add_comm]
  exact xbl_mul ht (xvl_lt fun j hj => h j (by omega))
theorem xset_self {w : xW} {h : Nat} {c : xC} (hw : w[h]? = some c) : w.set h c = w := by
  apply List.ext_getElem?
  intro i
  by_cases e : h = i
  · subst e; rw [xgs hw]; exact hw.symm
  · exact xgn e rfl
theorem xset_set {w : xW} {h : Nat} {c c' : xC} : (w.set h c).set h c' = w.set h c' := List.set_set ..
theorem xof_i {k : Nat} (h : k < 2147483648) : (Int32.ofNat k).toInt = (k : Int) := Int32.toInt_ofNat_of_lt (by omega)
theorem xof_pred {k : Nat} : Int32.ofNat (k + 1) - (1 : Int32) = Int32.ofNat k := by
  rw [Int32.ofNat_add]
  show Int32.ofNat k + 1 - 1 = _
  rw [Int32.add_sub_cancel]
/-- trim: the loop -/
theorem trim_loop {d h a c : Nat} {g : Nat → Value} {t : Int32} {Q : Option Value ⊕ Nat → xW → Prop} (hne : h ≠ a) (h7 : 7 ≤ h) (hc : c < 2147483648) (k : Nat) : ∀ (w : xW), w[h]? = some (.inr (13, [.ref a, .int (Int32.ofNat k)])) → w[a]? = some (.inl (0, c, g)) → k ≤ c → (∀ j, j < k → xiw g j) →
    (∀ j, j ≤ k → (∀ i, j ≤ i → i < k → xwd g i = 0) → (j = 0 ∨ xwd g (j - 1) ≠ 0) → Q (.inl none) (w.set h (.inr (13, [.ref a, .int (Int32.ofNat j)])))) → xEv d 187 5 [(0, Value.ref h), (1, Value.int t)] [] w Q := by
  induction k with
  | zero =>
    intro w hw ha hk hi hQ
    refine i_187_5 (x := h) rfl ?_
    refine i_187_6 (v := Value.int (Int32.ofNat 0)) hw rfl ?_
    refine i_187_9 (fun _ => ?_) (fun g => absurd g (by decide))
    have := hQ 0 (Nat.le_refl _) (fun i _ h2 => absurd h2 (by omega)) (Or.inl rfl)
    rw [xset_self hw] at this
    exact i_187_39 this
  | succ k ih =>
    intro w hw ha hk hi hQ
    have hn := xof_i (k := k + 1) (by omega)
    have hn0 := xof_i (k := k) (by omega)
    obtain ⟨x, hx, x0, x1⟩ := hi k (by omega)
    refine i_187_5 (x := h) rfl ?_
    refine i_187_6 (v := Value.int (Int32.ofNat (k + 1))) hw rfl ?_
    refine i_187_9 (fun g => absurd g (by omega)) (fun _ => ?_)
    refine i_187_12 (x := h) rfl ?_
    refine i_187_13 (v := Value.ref a) hw rfl ?_
    refine i_187_16 (x := h) rfl ?_
    refine i_187_17 (v := Value.int (Int32.ofNat (k + 1))) hw rfl ?_
    refine i_187_20 ?_
    refine i_187_21 (c := Int32.ofNat k) xof_pred ?_
    refine i_187_22 (v := Value.int x) ha (by omega) (by omega) (by rw [show (Int32.ofNat k).toInt.toNat = k by omega]; exact hx) ?_
    refine i_187_23 (fun hz => ?_) (fun hz => ?_)
    · have := hQ (k + 1) (Nat.le_refl _) (fun i h1 h2 => absurd h2 (by omega)) (Or.inr (by
        show xwd g k ≠ 0
        rw [xwd_int hx]
        exact fun e => hz (xun_z.mp e)))
      rw [xset_self hw] at this
      exact i_187_39 this
    · refine i_187_26 (x := h) rfl ?_
      refine i_187_27 rfl ?_
      refine i_187_28 (v := Value.int (Int32.ofNat (k + 1))) hw rfl ?_
      refine i_187_31 ?_
      refine i_187_32 (c := Int32.ofNat k) xof_pred ?_
      refine i_187_33 (fs2 := [Value.ref a, Value.int (Int32.ofNat k)]) hw (Nat.le_of_ble_eq_true rfl) rfl h7 ?_
      refine i_187_36 ?_
      refine ih _ (xgs hw) (xgn hne ha) (by omega) (fun j hj => hi j (by omega)) fun j hj h1 h2 => ?_
      rw [xset_set]
      refine hQ j (by omega) (fun i hi1 hi2 => ?_) h2
      by_cases e : i = k
      · subst e; rw [xwd_int hx]; exact xun_z.mpr hz
      · exact h1 i hi1 (by omega)
/-- trim -/
theorem trim_ev {d h a c k : Nat} {g : Nat → Value} {n0 : Int32} {w : xW} {Q : Option Value ⊕ Nat → xW → Prop} (hne : h ≠ a) (h7 : 7 ≤ h) (hc : c < 2147483648) (hw : w[h]? = some (.inr (13, [.ref a, .int n0]))) (ha : w[a]? = some (.inl (0, c, g))) (hk : k ≤ c) (hi : ∀ j, j < k → xiw g j)
    (hQ : ∀ n, n ≤ k → xvl g n = xvl g k → (n = 0 ∨ xwd g (n - 1) ≠ 0) → Q (.inl none) (w.set h (.inr (13, [.ref a, .int (Int32.ofNat n)])))) : xEv d 187 0 (lv_args 0 [.ref h, .int (Int32.ofNat k)]) [] w Q := by
  refine i_187_0 (x := h) rfl ?_
  refine i_187_1 (x := Int32.ofNat k) rfl ?_
  refine i_187_2 (fs2 := [Value.ref a, Value.int (Int32.ofNat k)]) hw (Nat.le_of_ble_eq_true rfl) rfl h7 ?_
  refine trim_loop hne h7 hc k _ (xgs hw) (xgn hne ha) hk hi fun j hj h1 h2 => ?_
  rw [xset_set]
  exact hQ j hj (xvl_zero hj h1).symm h2
