/-! divide of the reference: its loops -/
theorem q_nz {d : Int} (h : 0 < d ∧ d < 9223372036854775808) : Int64.ofInt d ≠ 0 := fun e => by
  have := qI (k := d) ⟨by omega, by omega⟩
  rw [e] at this
  have h0 : (0 : Int64).toInt = 0 := rfl
  omega
theorem ivs_cons {ws : Nat → Int} {j n : Nat} : ivs ws j (n + 1) = ws j + 1073741824 * ivs ws (j + 1) n := by
  induction n with
  | zero => show 0 + ws (j + 0) * 1 = ws j + 1073741824 * 0; rw [Nat.add_zero]; omega
  | succ n ih =>
    show ivs ws j (n + 1) + ws (j + (n + 1)) * 1073741824 ^ (n + 1) = ws j + 1073741824 * (ivs ws (j + 1) n + ws (j + 1 + n) * 1073741824 ^ n)
    rw [ih, show j + (n + 1) = j + 1 + n by omega, Int.pow_succ]
    grind
theorem ivs_split {ws : Nat → Int} {j n : Nat} : ivs ws 0 (j + n) = ivs ws 0 j + 1073741824 ^ j * ivs ws j n := by
  induction n with
  | zero => show _ = _ + _ * (0 : Int); rw [Int.mul_zero, Int.add_zero]; rfl
  | succ n ih =>
    show ivs ws 0 (j + n) + ws (0 + (j + n)) * 1073741824 ^ (j + n) = ivs ws 0 j + 1073741824 ^ j * (ivs ws j n + ws (j + n) * 1073741824 ^ n)
    rw [ih, Nat.zero_add, Int.pow_add]
    grind
theorem ivs_top {ws : Nat → Int} {k : Nat} (h : ∀ i, i < k + 1 → 0 ≤ ws i ∧ ws i < 1073741824) (hl : ivs ws 0 (k + 1) < 1073741824 ^ k) : ivs ws 0 k = ivs ws 0 (k + 1) := by
  have h1 := ivs_b (ws := ws) (j := 0) (n := k) fun i _ hi => h i (by omega)
  have h2 := h k (by omega)
  have e : ivs ws 0 (k + 1) = ivs ws 0 k + ws (0 + k) * 1073741824 ^ k := rfl
  rw [Nat.zero_add] at e
  have hz : ws k = 0 := by
    rcases Int.lt_or_le 0 (ws k) with h3 | h3
    · have := mulP (P := 1073741824 ^ k) (a := 1) (b := ws k) (Int.le_of_lt (Int.pow_pos (by decide))) (by omega)
      rw [Int.one_mul] at this
      omega
    · omega
  rw [e, hz, Int.zero_mul, Int.add_zero]
/-- the guess is not below the quotient -/
theorem guess_ge {R D low hd dt Qt P : Int} (hP : 0 < P) (hR : R = hd * P + low) (hlow : low < P) (hD : dt * P ≤ D) (hdt : 0 < dt) (hq : Qt * D ≤ R) (hQ0 : 0 ≤ Qt) : Qt ≤ hd / dt := by
  rw [Int.le_ediv_iff_mul_le hdt]
  have h1 : Qt * (dt * P) ≤ Qt * D := Int.mul_le_mul_of_nonneg_left hD hQ0
  have h2 : (Qt * dt) * P < (hd + 1) * P := by
    rw [Int.mul_assoc, Int.add_mul, Int.one_mul]
    omega
  have := Int.lt_of_mul_lt_mul_right h2 (Int.le_of_lt hP)
  omega
theorem quot_R {R D q : Int} (hD : 0 < D) (h0 : 0 ≤ R - q * D) (h1 : R - q * D < D) : R / D = q := by
  have : R = (R - q * D) + q * D := by omega
  rw [this, Int.add_mul_ediv_right _ _ (by omega), Int.ediv_eq_zero_of_lt h0 h1]
  omega
section
variable {d j n m cap t : Nat} {w : xW} {s : Nat → Int} {o : xC} {Gd : Nat → Value} {ds : Nat → Int} {v137 v139 : Value} {hx hy : Nat} {sh hd : Int} {Q : Option Value ⊕ Nat → xW → Prop}
theorem dv_in (hj : j + n < cap) (hcap : cap ≤ 4700) (h128 : w[128]? = some (.inr (12, mf s))) (h137 : w[137]? = some (.inr (13, [.ref 138, v137]))) (h138 : w[138]? = some o) (h139 : w[139]? = some (.inr (13, [.ref 140, v139]))) (h140 : w[140]? = some (.inl (0, 4700, Gd))) (hds : wds Gd ds n) (hD : 0 < ivs ds 0 n) {R : Int} {ws0 : Nat → Int} (hQ : ∀ lv G ws, xld lv 0 = some (Value.ref 128) → xld lv 3 = some (Value.ref t) → xld lv 4 = some (Value.int (Int32.ofInt sh)) → xld lv 5 = some (Value.int (Int32.ofInt (n : Int))) → xld lv 6 = some (Value.int (Int32.ofInt (m : Int))) → xld lv 7 = some (Value.int (Int32.ofInt (j : Int))) → xld lv 10 = some (Value.long (Int64.ofInt (R / ivs ds 0 n))) → wds G ws cap → (∀ k, k < j ∨ j + n < k → ws k = ws0 k) → ivs ws j (n + 1) = R - R / ivs ds 0 n * ivs ds 0 n → xEv (d + 2) 207 250 lv [] (w.set 138 (.inl (0, 4700, G))) Q) (k : Nat) :
    ∀ (lv : xLv) (G : Nat → Value) (ws : Nat → Int), k < 1073741824 → R / ivs ds 0 n ≤ k → xld lv 0 = some (Value.ref 128) → xld lv 3 = some (Value.ref t) → xld lv 4 = some (Value.int (Int32.ofInt sh)) → xld lv 5 = some (Value.int (Int32.ofInt (n : Int))) → xld lv 6 = some (Value.int (Int32.ofInt (m : Int))) → xld lv 7 = some (Value.int (Int32.ofInt (j : Int))) → xld lv 10 = some (Value.long (Int64.ofInt (k : Int))) → wds G ws cap → (∀ k, k < j ∨ j + n < k → ws k = ws0 k) → ivs ws j (n + 1) = R → xEv (d + 2) 207 221 lv [] (w.set 138 (.inl (0, 4700, G))) Q := by
  induction k with
  | zero =>
    intro lv G ws hk hle l0 l3 l4 l5 l6 l7 l10 hG hf hR
    have hR0 := ivs_b (ws := ws) (j := j) (n := n + 1) fun k _ h2 => (hG k (by omega)).2
    have h00 : 0 ≤ R / ivs ds 0 n := Int.ediv_nonneg (by omega) (by omega)
    refine i_207_221 (x := Int64.ofInt ((0 : Nat) : Int)) l10 ?_
    refine i_207_223 ?_
    refine i_207_224 (c := Int32.ofInt (lc ((0 : Nat) : Int) 0)) (q_cmp (a := ((0 : Nat) : Int)) (b := 0) ⟨by omega, by omega⟩ ⟨by decide, by decide⟩) ?_
    refine i_207_225 (lc_le (a := ((0 : Nat) : Int)) (b := 0) fun c0 => ?_) (lc_gt (a := ((0 : Nat) : Int)) (b := 0) fun c0 => absurd c0 (by omega))
    have e0 : R / ivs ds 0 n = 0 := by omega
    exact hQ _ _ _ l0 l3 l4 l5 l6 l7 (by rw [e0]; exact l10) hG hf (by rw [e0, Int.zero_mul, Int.sub_zero]; exact hR)
  | succ k ih =>
    intro lv G ws hk hle l0 l3 l4 l5 l6 l7 l10 hG hf hR
    have hR0 := ivs_b (ws := ws) (j := j) (n := n + 1) fun k _ h2 => (hG k (by omega)).2
    refine i_207_221 (x := Int64.ofInt ((k + 1 : Nat) : Int)) l10 ?_
    refine i_207_223 ?_
    refine i_207_224 (c := Int32.ofInt (lc ((k + 1 : Nat) : Int) 0)) (q_cmp (a := ((k + 1 : Nat) : Int)) (b := 0) ⟨by omega, by omega⟩ ⟨by decide, by decide⟩) ?_
    refine i_207_225 (lc_le (a := ((k + 1 : Nat) : Int)) (b := 0) fun c0 => absurd c0 (by omega)) (lc_gt (a := ((k + 1 : Nat) : Int)) (b := 0) fun c0 => ?_)
    refine i_207_228 (x := 128) l0 ?_
    refine i_207_229 (x := Int64.ofInt ((k + 1 : Nat) : Int)) l10 ?_
    refine i_207_231 (x := Int32.ofInt (j : Int)) l7 ?_
    refine i_207_233 (x := Int32.ofInt (n : Int)) l5 ?_
    obtain ⟨r, G', ws', hrun, hG', hf', hr⟩ := ttm (d := d) (j := j) (n := n) (q := ((k + 1 : Nat) : Int)) (⟨by omega, by omega⟩) hj hcap h128 h137 h138 h139 h140 hds hG
    have hr01 : r = 0 ∨ r = 1 := by rcases hr with h | h <;> omega
    have hobj := xgn (w := w) (c := .inl (0, 4700, G)) (show 138 ≠ 128 by decide) h128
    refine i_207_235 hobj (Nat.le_of_ble_eq_true rfl) hrun ?_
    refine i_207_238 (z_eq (a := r) ⟨by omega, by omega⟩ fun c1 => ?_) (z_ne (a := r) ⟨by omega, by omega⟩ fun c1 => ?_)
    · obtain ⟨rfl, hr⟩ | ⟨hr1, -⟩ := hr
      · have hR1 := ivs_b (ws := ws') (j := j) (n := n + 1) fun k _ h2 => (hG' k (by omega)).2
        have hq0 : ((k + 1 : Nat) : Int) ≤ R / ivs ds 0 n := by
          rw [Int.le_ediv_iff_mul_le hD]
          rw [hR] at hr
          omega
        have e0 : R / ivs ds 0 n = ((k + 1 : Nat) : Int) := by omega
        exact hQ _ _ _ l0 l3 l4 l5 l6 l7 (by rw [e0]; exact l10) hG' (fun k hk => (hf' k hk).trans (hf k hk)) (by rw [e0, hr, hR])
      · omega
    · refine i_207_241 (x := Int64.ofInt ((k + 1 : Nat) : Int)) l10 ?_
      refine i_207_243 ?_
      refine i_207_244 (c := Int64.ofInt (((k + 1 : Nat) : Int) - 1)) (q_sub ((k + 1 : Nat) : Int) 1) ?_
      refine i_207_245 rfl ?_
      refine lgen2 (i := 10) (v := Value.long (Int64.ofInt (((k + 1 : Nat) : Int) - 1))) (fun lv lg ls => ?_)
      replace l0 := lg 0 _ rfl rfl l0
      replace l3 := lg 3 _ rfl rfl l3
      replace l4 := lg 4 _ rfl rfl l4
      replace l5 := lg 5 _ rfl rfl l5
      replace l6 := lg 6 _ rfl rfl l6
      replace l7 := lg 7 _ rfl rfl l7
      have l10 := ls
      refine i_207_247 ?_
      obtain ⟨hr1, -⟩ | ⟨rfl, hlt, hr⟩ := hr
      · omega
      · have e1 : ((k + 1 : Nat) : Int) - 1 = (k : Int) := by omega
        rw [e1] at l10
        have hlt2 : R / ivs ds 0 n < ((k + 1 : Nat) : Int) := by
          rw [Int.ediv_lt_iff_lt_mul hD]
          omega
        exact ih _ _ _ (by omega) (by omega) l0 l3 l4 l5 l6 l7 l10 hG' (fun k hk => (hf' k hk).trans (hf k hk)) (hr.trans hR)
end
