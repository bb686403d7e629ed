/-! divide of the reference -/
theorem uv_comm {V : Nat → Nat} {a b x y : Nat} (h : a ≠ b) : uv (uv V a x) b y = uv (uv V b y) a x := by
  funext j
  rw [uv_e, uv_e, uv_e, uv_e]
  by_cases h1 : j = b
  · rw [if_pos h1, if_neg (by omega), if_pos h1]
  · rw [if_neg h1, if_neg h1]
theorem and29 {v : Nat} (h : v < 1073741824) : v &&& 536870912 = if 536870912 ≤ v then 536870912 else 0 := by
  have e : (536870912 : Nat) = 2 ^ 29 := rfl
  rw [e]
  have ht : v.testBit 29 = decide (v / 2 ^ 29 % 2 = 1) := Nat.testBit_eq_decide_div_mod_eq
  split
  · rename_i h1
    apply Nat.eq_of_testBit_eq
    intro i
    rw [Nat.testBit_and]
    by_cases hi : 29 = i
    · subst hi
      rw [ht, decide_eq_true (show v / 2 ^ 29 % 2 = 1 by omega), Bool.true_and]
    · rw [Nat.testBit_two_pow_of_ne hi, Bool.and_false]
  · rename_i h1
    apply Nat.eq_of_testBit_eq
    intro i
    rw [Nat.testBit_and, Nat.zero_testBit]
    by_cases hi : 29 = i
    · subst hi
      rw [ht, decide_eq_false (show ¬ v / 2 ^ 29 % 2 = 1 by omega), Bool.false_and]
    · rw [Nat.testBit_two_pow_of_ne hi, Bool.and_false]
/-- the top word, shifted: whether its bit 29 is set -/
theorem top29 {x : Int32} {k : Nat} (x0 : 0 < x.toInt) (x1 : x.toInt < 1073741824) (hk : xbl (xun x) + k ≤ 30) : ((x <<< (Int32.ofInt (k : Int) &&& 31)) &&& (536870912 : Int32)).toInt ≠ 0 ↔ xbl (xun x) + k = 30 := by
  have hx := xun_i (x := x) (by omega)
  have hz : xun x ≠ 0 := by omega
  have ek : (Int32.ofInt (k : Int)).toInt = (k : Int) := oI (by omega) (by omega)
  have hs := xshl_n (u := x) (p := Int32.ofInt (k : Int)) (by omega) (by omega)
  rw [show (Int32.ofInt (k : Int)).toInt.toNat = k by omega] at hs
  have hb := xbl_pow (xun x) k hz
  have hl := xbl_lt (xun x * 2 ^ k)
  have h30 : xun x * 2 ^ k < 2 ^ 30 := Nat.lt_of_lt_of_le hl (Nat.pow_le_pow_right (by omega) (by omega))
  rw [Nat.mod_eq_of_lt (by omega)] at hs
  have ha : xun ((x <<< (Int32.ofInt (k : Int) &&& 31)) &&& (536870912 : Int32)) = (xun x * 2 ^ k) &&& 536870912 := by rw [← hs]; rfl
  rw [and29 (by omega)] at ha
  have e : ((x <<< (Int32.ofInt (k : Int) &&& 31)) &&& (536870912 : Int32)).toInt ≠ 0 ↔ 536870912 ≤ xun x * 2 ^ k := by
    rw [Ne, ← xun_z, ha]
    split <;> omega
  rw [e]
  constructor
  · intro h
    have := xbl_ge (n := xun x * 2 ^ k) (k := 29) h
    omega
  · intro h
    have h0 := xbl_of (n := xun x * 2 ^ k) (by have := Nat.mul_ne_zero hz (by have := Nat.two_pow_pos k; omega : 2 ^ k ≠ 0); exact this)
    rw [hb, h] at h0
    exact h0.1
def wso (G : Nat → Value) (k : Nat) : Int := (xwd G k : Int)
theorem wds_of {G : Nat → Value} {n : Nat} (h : ∀ j, j < n → xiw G j) : wds G (wso G) n := by
  intro k hk
  obtain ⟨x, e, x0, x1⟩ := h k hk
  have hu := xun_i x0
  unfold wso
  rw [xwd_int e]
  refine ⟨?_, by omega, by omega⟩
  rw [e, hu, Int32.ofInt_toInt]
theorem ivs_xvl {G : Nat → Value} {ws : Nat → Int} {c n : Nat} (h : wds G ws c) (hn : n ≤ c) : (xvl G n : Int) = ivs ws 0 n := by
  induction n with
  | zero => rfl
  | succ n ih =>
    show ((xvl G n + xwd G n * 2 ^ (30 * n) : Nat) : Int) = ivs ws 0 n + ws (0 + n) * 1073741824 ^ n
    have hw := h n (by omega)
    have e : (xwd G n : Int) = ws n := by
      rw [xwd_int hw.1]
      have := xun_i (x := Int32.ofInt (ws n)) (by rw [oI (by omega) (by omega)]; exact hw.2.1)
      rw [oI (by omega) (by omega)] at this
      exact this
    have e2 : ((2 ^ (30 * n) : Nat) : Int) = 1073741824 ^ n := by
      rw [Nat.pow_mul]
      exact Int.natCast_pow (2 ^ 30) n
    rw [Nat.zero_add, Int.natCast_add, Int.natCast_mul, ih (by omega), e, e2]
theorem wdf_iw {H : Nat → Value} {ts : Nat → Int} {m : Nat} (h : wdf H ts 0 m) : ∀ j, j < m + 1 → xiw H j := by
  intro j hj
  have := h j (by omega) (by omega)
  exact ⟨_, this.1, by rw [oI (by omega) (by omega)]; exact this.2.1, by rw [oI (by omega) (by omega)]; exact this.2.2⟩
theorem wds_iw {H : Nat → Value} {ts : Nat → Int} {c m : Nat} (h : wds H ts c) (hm : m ≤ c) : ∀ j, j < m → xiw H j := by
  intro j hj
  have := h j (by omega)
  exact ⟨_, this.1, by rw [oI (by omega) (by omega)]; exact this.2.1, by rw [oI (by omega) (by omega)]; exact this.2.2⟩
theorem wdf_wds {H : Nat → Value} {ts : Nat → Int} {m : Nat} (h : wdf H ts 0 m) : wds H ts (m + 1) := fun k hk => h k (by omega) (by omega)
section
variable {d : Nat} {w : xW} {Q : Option Value ⊕ Nat → xW → Prop}
theorem dv_sh {hx hy t n c : Nat} {g : Nat → Value} {x : Int32} (hyc : w[hy]? = some (.inr (13, [.ref (hy + 1), .int (Int32.ofInt (n : Int))]))) (hya : w[hy + 1]? = some (.inl (0, c, g))) (hn : 0 < n) (hnc : n ≤ c) (hc : c ≤ 4700) (hx1 : g (n - 1) = .int x) (x0 : 0 < x.toInt) (x1 : x.toInt < 1073741824) (hQ : ∀ lv, xld lv 0 = some (Value.ref 128) → xld lv 1 = some (Value.ref hx) → xld lv 2 = some (Value.ref hy) → xld lv 3 = some (Value.ref t) → xld lv 4 = some (Value.int (Int32.ofInt ((30 - xbl (xun x) : Nat) : Int))) → xEv d 207 29 lv [] w Q) (m : Nat) : ∀ (k : Nat) (lv : xLv), xbl (xun x) + k + m = 30 → xld lv 0 = some (Value.ref 128) → xld lv 1 = some (Value.ref hx) → xld lv 2 = some (Value.ref hy) → xld lv 3 = some (Value.ref t) → xld lv 4 = some (Value.int (Int32.ofInt (k : Int))) → xEv d 207 3 lv [] w Q := by
  induction m with
  | zero =>
    intro k lv hk l0 l1 l2 l3 l4
    have ht := top29 (k := k) x0 x1 (by omega)
    refine i_207_3 (x := hy) l2 ?_
    refine i_207_4 (v := Value.ref (hy + 1)) hyc rfl ?_
    refine i_207_7 (x := hy) l2 ?_
    refine i_207_8 (v := Value.int (Int32.ofInt (n : Int))) hyc rfl ?_
    refine i_207_11 ?_
    refine i_207_12 (c := Int32.ofInt ((n : Int) - 1)) (o_sub (n : Int) 1) ?_
    refine i_207_13 (v := Value.int x) hya (ix0 (T := (n : Int) - 1) (by omega) (by omega)) (ix1 (T := (n : Int) - 1) (by omega) (by omega) (by omega)) (by rw [ixn (T := (n : Int) - 1) (by omega) (by omega)]; exact (by rw [show ((n : Int) - 1).toNat = n - 1 by omega]; exact hx1)) ?_
    refine i_207_14 (x := Int32.ofInt (k : Int)) l4 ?_
    refine i_207_16 rfl ?_
    refine i_207_17 ?_
    refine i_207_19 rfl ?_
    refine i_207_20 (fun _ => ?_) (fun c => absurd (ht.mpr (by omega)) (fun h => h c))
    rw [show (k : Int) = ((30 - xbl (xun x) : Nat) : Int) by omega] at l4
    exact hQ _ l0 l1 l2 l3 l4
  | succ m ih =>
    intro k lv hk l0 l1 l2 l3 l4
    have ht := top29 (k := k) x0 x1 (by omega)
    refine i_207_3 (x := hy) l2 ?_
    refine i_207_4 (v := Value.ref (hy + 1)) hyc rfl ?_
    refine i_207_7 (x := hy) l2 ?_
    refine i_207_8 (v := Value.int (Int32.ofInt (n : Int))) hyc rfl ?_
    refine i_207_11 ?_
    refine i_207_12 (c := Int32.ofInt ((n : Int) - 1)) (o_sub (n : Int) 1) ?_
    refine i_207_13 (v := Value.int x) hya (ix0 (T := (n : Int) - 1) (by omega) (by omega)) (ix1 (T := (n : Int) - 1) (by omega) (by omega) (by omega)) (by rw [ixn (T := (n : Int) - 1) (by omega) (by omega)]; exact (by rw [show ((n : Int) - 1).toNat = n - 1 by omega]; exact hx1)) ?_
    refine i_207_14 (x := Int32.ofInt (k : Int)) l4 ?_
    refine i_207_16 rfl ?_
    refine i_207_17 ?_
    refine i_207_19 rfl ?_
    refine i_207_20 (fun c => absurd (ht.mp c) (by omega)) (fun _ => ?_)
    refine i_207_23 (x := (Int32.ofInt (k : Int))) (c := (Int32.ofInt ((k : Int) + 1))) l4 (o_add (k : Int) 1) rfl ?_
    refine lgen1 (i := 4) (v := Value.int (Int32.ofInt ((k : Int) + 1))) (fun lv lg ls => ?_)
    replace l0 := lg 0 _ rfl rfl l0
    replace l1 := lg 1 _ rfl rfl l1
    replace l2 := lg 2 _ rfl rfl l2
    replace l3 := lg 3 _ rfl rfl l3
    have l4 := ls
    refine i_207_26 ?_
    exact ih (k + 1) _ (by omega) l0 l1 l2 l3 l4
theorem dv_zero {t n m : Nat} {sh : Int} {G : Nat → Value} {vt : Value} {ot : xC} (ht : t = 129 ∨ t = 133) (htt : w[t]? = some (.inr (13, [.ref (t + 1), vt]))) (ht1 : w[t + 1]? = some ot) (hm : m < 4700) (hQ : ∀ lv H, xld lv 0 = some (Value.ref 128) → xld lv 3 = some (Value.ref t) → xld lv 4 = some (Value.int (Int32.ofInt sh)) → xld lv 5 = some (Value.int (Int32.ofInt (n : Int))) → xld lv 6 = some (Value.int (Int32.ofInt (m : Int))) → xEv d 207 144 lv [] ((w.set (t + 1) (.inl (0, 4700, H))).set 138 (.inl (0, 4700, G))) Q) (r : Nat) : ∀ (k : Nat) (lv : xLv) (H : Nat → Value), k + r = m + 1 → xld lv 0 = some (Value.ref 128) → xld lv 3 = some (Value.ref t) → xld lv 4 = some (Value.int (Int32.ofInt sh)) → xld lv 5 = some (Value.int (Int32.ofInt (n : Int))) → xld lv 6 = some (Value.int (Int32.ofInt (m : Int))) → xld lv 7 = some (Value.int (Int32.ofInt (k : Int))) → xEv d 207 123 lv [] ((w.set (t + 1) (.inl (0, 4700, H))).set 138 (.inl (0, 4700, G))) Q := by
  induction r with
  | zero =>
    intro k lv H hk l0 l3 l4 l5 l6 l7
    refine i_207_123 (x := Int32.ofInt (k : Int)) l7 ?_
    refine i_207_125 (x := Int32.ofInt (m : Int)) l6 ?_
    refine i_207_127 (b_lt (a := (m : Int)) (b := (k : Int)) ⟨by omega, by omega⟩ ⟨by omega, by omega⟩ fun c0 => ?_) (b_le (a := (k : Int)) (b := (m : Int)) ⟨by omega, by omega⟩ ⟨by omega, by omega⟩ fun c0 => absurd c0 (by omega))
    exact hQ _ _ l0 l3 l4 l5 l6
  | succ r ih =>
    intro k lv H hk l0 l3 l4 l5 l6 l7
    refine i_207_123 (x := Int32.ofInt (k : Int)) l7 ?_
    refine i_207_125 (x := Int32.ofInt (m : Int)) l6 ?_
    refine i_207_127 (b_lt (a := (m : Int)) (b := (k : Int)) ⟨by omega, by omega⟩ ⟨by omega, by omega⟩ fun c0 => absurd c0 (by omega)) (b_le (a := (k : Int)) (b := (m : Int)) ⟨by omega, by omega⟩ ⟨by omega, by omega⟩ fun c0 => ?_)
    refine i_207_130 (x := t) l3 ?_
    refine i_207_131 (v := Value.ref (t + 1)) (show ((w.set (t + 1) (.inl (0, 4700, H))).set 138 (.inl (0, 4700, G)))[t]? = some (.inr (13, [.ref (t + 1), vt])) from xgn (by omega) (xgn (by omega) htt)) rfl ?_
    refine i_207_134 (x := Int32.ofInt (k : Int)) l7 ?_
    refine i_207_136 ?_
    refine i_207_137 (v := Value.int 0) (show ((w.set (t + 1) (.inl (0, 4700, H))).set 138 (.inl (0, 4700, G)))[t + 1]? = some (.inl (0, 4700, H)) from xgn (by omega) (xgs ht1)) (ix0 (T := (k : Int)) (by omega) (by omega)) (ix1 (T := (k : Int)) (by omega) (by omega) (by omega)) (by omega) rfl ?_
    rw [ixn (T := (k : Int)) (by omega) (by omega)]
    rw [wcomm (by omega)]
    refine i_207_138 (x := (Int32.ofInt (k : Int))) (c := (Int32.ofInt ((k : Int) + 1))) l7 (o_add (k : Int) 1) rfl ?_
    refine lgen1 (i := 7) (v := Value.int (Int32.ofInt ((k : Int) + 1))) (fun lv lg ls => ?_)
    replace l0 := lg 0 _ rfl rfl l0
    replace l3 := lg 3 _ rfl rfl l3
    replace l4 := lg 4 _ rfl rfl l4
    replace l5 := lg 5 _ rfl rfl l5
    replace l6 := lg 6 _ rfl rfl l6
    have l7 := ls
    refine i_207_141 ?_
    exact ih (k + 1) _ _ (by omega) l0 l3 l4 l5 l6 l7
end
