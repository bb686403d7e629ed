theorem xvl_split {g : Nat → Value} {W m : Nat} : xvl g (W + m) = xvl g W + xsv g W m * 2 ^ (30 * W) := by
  induction m with
  | zero => show xvl g W = xvl g W + 0 * _; omega
  | succ m ih =>
    show xvl g (W + m) + xwd g (W + m) * 2 ^ (30 * (W + m)) = _
    have e : xsv g W (m + 1) = xsv g W m + xwd g (W + m) * 2 ^ (30 * m) := rfl
    rw [ih, e, Nat.add_mul, Nat.mul_assoc, ← Nat.pow_add, show 30 * m + 30 * W = 30 * (W + m) by omega]
    omega
theorem xdiv30 {k : Int32} (h : 0 ≤ k.toInt) : (k / (30 : Int32)).toInt = k.toInt / 30 ∧ (k - k / (30 : Int32) * (30 : Int32)).toInt = k.toInt % 30 := by
  have hk := Int32.toInt_lt k
  have h1 : (k / (30 : Int32)).toInt = k.toInt / 30 := by
    rw [Int32.toInt_div]
    show (k.toInt.tdiv 30).bmod (2 ^ 32) = _
    rw [Int.tdiv_eq_ediv_of_nonneg h, Int.bmod_eq_of_le (by omega) (by omega)]
  have h2 : (k / (30 : Int32) * (30 : Int32)).toInt = k.toInt / 30 * 30 := by
    rw [Int32.toInt_mul, h1]
    show (k.toInt / 30 * 30).bmod (2 ^ 32) = _
    rw [Int.bmod_eq_of_le (by omega) (by omega)]
  refine ⟨h1, ?_⟩
  rw [xsub_i (by omega) (by omega), h2]
  omega
/-- up: zeros below -/
theorem up_zero {d h a c n W : Nat} {Wi : Int32} {w : xW} {g : Nat → Value} {Q : Option Value ⊕ Nat → xW → Prop} (hc : c < 2147483648) (hne : h ≠ a) (a7 : 7 ≤ a) (hw : w[h]? = some (.inr (13, [.ref a, .int (Int32.ofNat n)]))) (ha : w[a]? = some (.inl (0, c, g))) (hn : W ≤ c) (hW : Wi.toInt = W)
    (hQ : ∀ (lv : xLv) (G : Nat → Value), xld lv 0 = some (.ref h) → xld lv 2 = some (.int Wi) → (∀ x, x < W → G x = .int 0) → (∀ x, W ≤ x → G x = g x) → xEv d 188 147 lv [] (w.set a (.inl (0, c, G))) Q) (m : Nat) :
    ∀ (k : Nat) (lv : xLv) (G : Nat → Value), k + m = W → xld lv 0 = some (.ref h) → xld lv 2 = some (.int Wi) → xld lv 4 = some (.int (Int32.ofNat k)) → (∀ x, x < k → G x = .int 0) → (∀ x, W ≤ x → G x = g x) → xEv d 188 127 lv [] (w.set a (.inl (0, c, G))) Q := by
  induction m with
  | zero =>
    intro k lv G hk l0 l2 l4 h1 h2
    have ek := xof_i (k := k) (by omega)
    refine i_188_127 (x := Int32.ofNat k) l4 ?_
    refine i_188_129 (x := Wi) l2 ?_
    refine i_188_130 (fun _ => hQ lv G l0 l2 (fun x hx => h1 x (by omega)) h2) (fun g => absurd g (by omega))
  | succ m ih =>
    intro k lv G hk l0 l2 l4 h1 h2
    have ek := xof_i (k := k) (by omega)
    refine i_188_127 (x := Int32.ofNat k) l4 ?_
    refine i_188_129 (x := Wi) l2 ?_
    refine i_188_130 (fun g => absurd g (by omega)) (fun _ => ?_)
    refine i_188_133 (x := h) l0 ?_
    refine i_188_134 (v := Value.ref a) (xgn (fun e => hne e.symm) hw) rfl ?_
    refine i_188_137 (x := Int32.ofNat k) l4 ?_
    refine i_188_139 ?_
    refine i_188_140 (v := Value.int 0) (xgs ha) (by omega) (by omega) a7 rfl ?_
    rw [xset_set, show (Int32.ofNat k).toInt.toNat = k by omega]
    refine i_188_141 (c := Int32.ofNat (k + 1)) l4 xof_succ rfl ?_
    refine i_188_144 ?_
    refine ih (k + 1) _ _ (by omega) (xld_n1 rfl rfl l0) (xld_n1 rfl rfl l2) xld_s1 (fun x hx => ?_) (fun x hx => ?_)
    · by_cases e : x = k
      · subst e; exact xup_eq
      · rw [xup_ne e]; exact h1 x (by omega)
    · rw [xup_ne (by omega)]; exact h2 x hx
