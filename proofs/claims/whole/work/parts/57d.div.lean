theorem wcomm {w : xW} {a b : Nat} {x y z : xC} (h : a ≠ b) : ((w.set a x).set b y).set a z = (w.set a z).set b y := by
  rw [List.set_comm _ _ (fun e => h e.symm), List.set_set]
/-- words of a row from a place on -/
def wdf (H : Nat → Value) (ts : Nat → Int) (k m : Nat) : Prop := ∀ i, k ≤ i → i ≤ m → H i = .int (Int32.ofInt (ts i)) ∧ 0 ≤ ts i ∧ ts i < 1073741824
/-- what one step of the division does to the numbers -/
theorem dv_step {j n m : Nat} {ws ws' ds ts : Nat → Int} {X : Int} (hw : ∀ i, i < j + n + 1 → 0 ≤ ws i ∧ ws i < 1073741824) (hw' : ∀ i, i < j + n + 1 → 0 ≤ ws' i ∧ ws' i < 1073741824) (hd : ∀ i, i < n → 0 ≤ ds i ∧ ds i < 1073741824) (hD : 0 < ivs ds 0 n) (hjm : j ≤ m) (hf : ∀ k, k < j ∨ j + n < k → ws' k = ws k)
    (hX : X = ivs ws 0 (j + 1 + n) + ivs ds 0 n * (1073741824 ^ (j + 1) * ivs ts (j + 1) (m + 1 - (j + 1)))) (hr : ivs ws' j (n + 1) = ivs ws j (n + 1) - ivs ws j (n + 1) / ivs ds 0 n * ivs ds 0 n) :
    X = ivs ws' 0 (j + n) + ivs ds 0 n * (1073741824 ^ j * ivs (u1 ts j (ivs ws j (n + 1) / ivs ds 0 n)) j (m + 1 - j)) ∧ ivs ws' 0 (j + n) < ivs ds 0 n * 1073741824 ^ j := by
  have hPj : (0 : Int) < 1073741824 ^ j := Int.pow_pos (by decide)
  have hdb := ivs_b (ws := ds) (j := 0) (n := n) fun k _ h2 => hd k (by omega)
  have hm0 := Int.emod_nonneg (ivs ws j (n + 1)) (show ivs ds 0 n ≠ 0 by omega)
  have hm1 := Int.emod_lt_of_pos (ivs ws j (n + 1)) hD
  have hed := Int.emod_add_mul_ediv (ivs ws j (n + 1)) (ivs ds 0 n)
  have hlo := ivs_b (ws := ws) (j := 0) (n := j) fun k _ h2 => hw k (by omega)
  have s1 := ivs_split (ws := ws) (j := j) (n := n + 1)
  have s2 := ivs_split (ws := ws') (j := j) (n := n + 1)
  have e0 : ivs ws' 0 j = ivs ws 0 j := ivs_same fun k _ h2 => hf k (by omega)
  rw [show j + 1 + n = j + (n + 1) by omega] at hX
  generalize hQ : ivs ws j (n + 1) / ivs ds 0 n = q at *
  generalize hR : ivs ws j (n + 1) % ivs ds 0 n = R' at *
  have e1 : ivs ws' j (n + 1) = R' := by
    rw [hr, Int.mul_comm q]
    omega
  have hlt : ivs ws' 0 (j + (n + 1)) < ivs ds 0 n * 1073741824 ^ j := by
    rw [s2, e0, e1]
    have := mulP (P := 1073741824 ^ j) (a := R' + 1) (b := ivs ds 0 n) (by omega) (by omega)
    rw [Int.add_mul, Int.one_mul] at this
    rw [Int.mul_comm (1073741824 ^ j) R']
    omega
  have htop : ivs ws' 0 (j + n) = ivs ws' 0 (j + (n + 1)) := by
    refine ivs_top (k := j + n) (fun i hi => hw' i (by omega)) ?_
    have h1 := mulP (P := 1073741824 ^ j) (a := ivs ds 0 n) (b := 1073741824 ^ n) (by omega) (by omega)
    rw [Int.pow_add, Int.mul_comm (1073741824 ^ j)]
    exact Int.lt_of_lt_of_le hlt h1
  refine ⟨?_, by rw [htop]; exact hlt⟩
  have e3 : ivs (u1 ts j q) j (m - j + 1) = q + 1073741824 * ivs ts (j + 1) (m - j) := by rw [ivs_cons, u1_s, ivs_same (ws' := ts) (fun k h1 _ => u1_n (by omega))]
  rw [htop, s2, e0, e1, hX, s1, show m + 1 - j = (m - j) + 1 by omega, e3, show m + 1 - (j + 1) = m - j by omega, Int.pow_succ]
  have e2 : ivs ws j (n + 1) = R' + ivs ds 0 n * q := by omega
  rw [e2]
  generalize ivs ds 0 n = D at *
  generalize (1073741824 : Int) ^ j = P at *
  grind
section
variable {d n m cap t : Nat} {w : xW} {s : Nat → Int} {o ot : xC} {Gd : Nat → Value} {ds : Nat → Int} {v137 v139 vt : Value} {sh : Int} {Q : Option Value ⊕ Nat → xW → Prop}
theorem dv_out (ht : t = 129 ∨ t = 133) (hn : 0 < n) (hcap : m + n + 1 ≤ 4700) (h128 : w[128]? = some (.inr (12, mf s))) (h137 : w[137]? = some (.inr (13, [.ref 138, v137]))) (h138 : w[138]? = some o) (h139 : w[139]? = some (.inr (13, [.ref 140, v139]))) (h140 : w[140]? = some (.inl (0, 4700, Gd))) (htt : w[t]? = some (.inr (13, [.ref (t + 1), vt]))) (ht1 : w[t + 1]? = some ot) (hds : wds Gd ds n) (hdt : 0 < ds (n - 1)) {X : Int} (hQ : ∀ lv G ws H ts, xld lv 0 = some (Value.ref 128) → xld lv 3 = some (Value.ref t) → xld lv 4 = some (Value.int (Int32.ofInt sh)) → xld lv 5 = some (Value.int (Int32.ofInt (n : Int))) → xld lv 6 = some (Value.int (Int32.ofInt (m : Int))) → wds G ws (m + n + 1) → wdf H ts 0 m → X = ivs ws 0 n + ivs ds 0 n * ivs ts 0 (m + 1) → ivs ws 0 n < ivs ds 0 n → xEv (d + 2) 207 266 lv [] ((w.set (t + 1) (.inl (0, 4700, H))).set 138 (.inl (0, 4700, G))) Q) (k : Nat) :
    ∀ (lv : xLv) (G : Nat → Value) (ws : Nat → Int) (H : Nat → Value) (ts : Nat → Int), k ≤ m + 1 → xld lv 0 = some (Value.ref 128) → xld lv 3 = some (Value.ref t) → xld lv 4 = some (Value.int (Int32.ofInt sh)) → xld lv 5 = some (Value.int (Int32.ofInt (n : Int))) → xld lv 6 = some (Value.int (Int32.ofInt (m : Int))) → xld lv 7 = some (Value.int (Int32.ofInt ((k : Int) - 1))) → wds G ws (m + n + 1) → wdf H ts k m → X = ivs ws 0 (k + n) + ivs ds 0 n * (1073741824 ^ k * ivs ts k (m + 1 - k)) → ivs ws 0 (k + n) < ivs ds 0 n * 1073741824 ^ k → xEv (d + 2) 207 148 lv [] ((w.set (t + 1) (.inl (0, 4700, H))).set 138 (.inl (0, 4700, G))) Q := by
  have hdb := ivs_b (ws := ds) (j := 0) (n := n) fun k _ h2 => (hds k (by omega)).2
  have hdn := (hds (n - 1) (by omega)).2
  have eD : ivs ds 0 n = ivs ds 0 (n - 1) + ds (n - 1) * 1073741824 ^ (n - 1) := by
    obtain ⟨n1, rfl⟩ : ∃ n1, n = n1 + 1 := ⟨n - 1, by omega⟩
    show ivs ds 0 n1 + ds (0 + n1) * _ = _
    rw [Nat.zero_add]; rfl
  have hdlo := ivs_b (ws := ds) (j := 0) (n := n - 1) fun k _ h2 => (hds k (by omega)).2
  have hPn : (0 : Int) < 1073741824 ^ (n - 1) := Int.pow_pos (by decide)
  have hDp : 0 < ivs ds 0 n := by
    have := mulP (P := 1073741824 ^ (n - 1)) (a := 1) (b := ds (n - 1)) (by omega) (by omega)
    omega
  induction k with
  | zero =>
    intro lv G ws H ts hk l0 l3 l4 l5 l6 l7 hG hH hX hlt
    refine i_207_148 (x := Int32.ofInt (((0 : Nat) : Int) - 1)) l7 ?_
    refine i_207_150 (z_lt (a := ((0 : Nat) : Int) - 1) ⟨by omega, by omega⟩ fun c0 => ?_) (z_ge (a := ((0 : Nat) : Int) - 1) ⟨by omega, by omega⟩ fun c0 => absurd c0 (by omega))
    refine hQ _ _ _ _ _ l0 l3 l4 l5 l6 hG hH ?_ ?_
    · rw [hX, Nat.zero_add, Int.pow_zero, Int.one_mul]; rfl
    · rw [Nat.zero_add, Int.pow_zero, Int.mul_one] at hlt; exact hlt
  | succ j ih =>
    intro lv G ws H ts hk l0 l3 l4 l5 l6 l7 hG hH hX hlt
    have ej : ((j + 1 : Nat) : Int) - 1 = (j : Int) := by omega
    rw [ej] at l7
    have hh : ∀ i, t + 1 ≠ i → (w.set (t + 1) (.inl (0, 4700, H)))[i]? = w[i]? := fun i hi => xgn hi rfl
    have h128' : (w.set (t + 1) (.inl (0, 4700, H)))[128]? = some (.inr (12, mf s)) := (hh _ (by omega)).trans h128
    have h137' : (w.set (t + 1) (.inl (0, 4700, H)))[137]? = some (.inr (13, [.ref 138, v137])) := (hh _ (by omega)).trans h137
    have h138' : (w.set (t + 1) (.inl (0, 4700, H)))[138]? = some o := (hh _ (by omega)).trans h138
    have h139' : (w.set (t + 1) (.inl (0, 4700, H)))[139]? = some (.inr (13, [.ref 140, v139])) := (hh _ (by omega)).trans h139
    have h140' : (w.set (t + 1) (.inl (0, 4700, H)))[140]? = some (.inl (0, 4700, Gd)) := (hh _ (by omega)).trans h140
    have g128 := xgn (c := .inl (0, 4700, G)) (show 138 ≠ 128 by decide) h128'
    have g137 := xgn (c := .inl (0, 4700, G)) (show 138 ≠ 137 by decide) h137'
    have g138 : (((w.set (t + 1) (.inl (0, 4700, H))).set 138 (.inl (0, 4700, G))))[138]? = some (.inl (0, 4700, G)) := xgs h138'
    have g139 := xgn (c := .inl (0, 4700, G)) (show 138 ≠ 139 by decide) h139'
    have g140 := xgn (c := .inl (0, 4700, G)) (show 138 ≠ 140 by decide) h140'
    have hw1 := (hG (j + n) (by omega)).2
    have hw2 := (hG (j + n - 1) (by omega)).2
    have hwin := ivs_b (ws := ws) (j := j) (n := n + 1) fun k _ h2 => (hG k (by omega)).2
    have hR : ivs ws j (n + 1) = (ws (j + n) * 1073741824 + ws (j + n - 1)) * 1073741824 ^ (n - 1) + ivs ws j (n - 1) := by
      obtain ⟨n1, rfl⟩ : ∃ n1, n = n1 + 1 := ⟨n - 1, by omega⟩
      show ivs ws j n1 + ws (j + n1) * 1073741824 ^ n1 + ws (j + (n1 + 1)) * 1073741824 ^ (n1 + 1) = _
      rw [show n1 + 1 - 1 = n1 by omega, show j + (n1 + 1) - 1 = j + n1 by omega, Int.pow_succ]
      grind
    have hlow := ivs_b (ws := ws) (j := j) (n := n - 1) fun k _ h2 => (hG k (by omega)).2
    have hq0 : 0 ≤ ivs ws j (n + 1) / ivs ds 0 n := Int.ediv_nonneg hwin.1 (by omega)
    have hg := guess_ge (Qt := ivs ws j (n + 1) / ivs ds 0 n) (dt := ds (n - 1)) hPn hR hlow.2 (by omega) hdt (Int.ediv_mul_le _ (by omega)) hq0
    have hB : ivs ws j (n + 1) / ivs ds 0 n < 1073741824 := by
      rw [Int.ediv_lt_iff_lt_mul hDp]
      have s1 := ivs_split (ws := ws) (j := j) (n := n + 1)
      have hlo := ivs_b (ws := ws) (j := 0) (n := j) fun k _ h2 => (hG k (by omega)).2
      rw [show j + 1 + n = j + (n + 1) by omega, s1, Int.pow_succ, ← Int.mul_assoc, Int.mul_right_comm] at hlt
      have h3 : ivs ws j (n + 1) * 1073741824 ^ j < ivs ds 0 n * 1073741824 * 1073741824 ^ j := by rw [Int.mul_comm (ivs ws j (n + 1))]; omega
      have := Int.lt_of_mul_lt_mul_right h3 (Int.le_of_lt (Int.pow_pos (by decide)))
      omega
    have hhd : 0 ≤ (ws (j + n) * 1073741824 + ws (j + n - 1)) / ds (n - 1) := Int.ediv_nonneg (by omega) (by omega)
    have hhl : (ws (j + n) * 1073741824 + ws (j + n - 1)) / ds (n - 1) ≤ ws (j + n) * 1073741824 + ws (j + n - 1) := Int.ediv_le_self _ (by omega)
    refine i_207_148 (x := Int32.ofInt (j : Int)) l7 ?_
    refine i_207_150 (z_lt (a := (j : Int)) ⟨by omega, by omega⟩ fun c0 => absurd c0 (by omega)) (z_ge (a := (j : Int)) ⟨by omega, by omega⟩ fun c0 => ?_)
    refine i_207_153 (x := 128) l0 ?_
    refine i_207_154 (v := Value.ref 137) g128 rfl ?_
    refine i_207_157 (v := Value.ref 138) g137 rfl ?_
    refine i_207_160 (x := Int32.ofInt (j : Int)) l7 ?_
    refine i_207_162 (x := Int32.ofInt (n : Int)) l5 ?_
    refine i_207_164 (c := Int32.ofInt ((j : Int) + (n : Int))) (o_add (j : Int) (n : Int)) ?_
    refine i_207_165 (v := Value.int (Int32.ofInt (ws (j + n)))) g138 (ix0 (T := (j : Int) + (n : Int)) (by omega) (by omega)) (ix1 (T := (j : Int) + (n : Int)) (by omega) (by omega) (by omega)) (by rw [ixn (T := (j : Int) + (n : Int)) (by omega) (by omega)]; exact (by rw [show ((j : Int) + (n : Int)).toNat = j + n by omega]; exact (hG (j + n) (by omega)).1)) ?_
    refine i_207_166 (c := Int64.ofInt (ws (j + n))) (q_i2l (a := ws (j + n)) ⟨by omega, by omega⟩) ?_
    refine i_207_167 ?_
    refine i_207_169 rfl ?_
    refine i_207_170 (x := 128) l0 ?_
    refine i_207_171 (v := Value.ref 137) g128 rfl ?_
    refine i_207_174 (v := Value.ref 138) g137 rfl ?_
    refine i_207_177 (x := Int32.ofInt (j : Int)) l7 ?_
    refine i_207_179 (x := Int32.ofInt (n : Int)) l5 ?_
    refine i_207_181 (c := Int32.ofInt ((j : Int) + (n : Int))) (o_add (j : Int) (n : Int)) ?_
    refine i_207_182 ?_
    refine i_207_183 (c := Int32.ofInt (((j : Int) + (n : Int)) - 1)) (o_sub ((j : Int) + (n : Int)) 1) ?_
    refine i_207_184 (v := Value.int (Int32.ofInt (ws (j + n - 1)))) g138 (ix0 (T := ((j : Int) + (n : Int)) - 1) (by omega) (by omega)) (ix1 (T := ((j : Int) + (n : Int)) - 1) (by omega) (by omega) (by omega)) (by rw [ixn (T := ((j : Int) + (n : Int)) - 1) (by omega) (by omega)]; exact (by rw [show (((j : Int) + (n : Int)) - 1).toNat = j + n - 1 by omega]; exact (hG (j + n - 1) (by omega)).1)) ?_
    refine i_207_185 (c := Int64.ofInt (ws (j + n - 1))) (q_i2l (a := ws (j + n - 1)) ⟨by omega, by omega⟩) ?_
    refine i_207_186 (c := Int64.ofInt ((ws (j + n)) * 1073741824 + (ws (j + n - 1)))) (q_join ⟨by omega, by omega⟩ ⟨by omega, by omega⟩) ?_
    refine i_207_187 rfl ?_
    refine lgen2 (i := 8) (v := Value.long (Int64.ofInt ((ws (j + n)) * 1073741824 + (ws (j + n - 1))))) (fun lv lg ls => ?_)
    replace l0 := lg 0 _ rfl rfl l0
    replace l3 := lg 3 _ rfl rfl l3
    replace l4 := lg 4 _ rfl rfl l4
    replace l5 := lg 5 _ rfl rfl l5
    replace l6 := lg 6 _ rfl rfl l6
    replace l7 := lg 7 _ rfl rfl l7
    have l8 := ls
    refine i_207_189 (x := Int64.ofInt ((ws (j + n)) * 1073741824 + (ws (j + n - 1)))) l8 ?_
    refine i_207_191 (x := 128) l0 ?_
    refine i_207_192 (v := Value.ref 139) g128 rfl ?_
    refine i_207_195 (v := Value.ref 140) g139 rfl ?_
    refine i_207_198 (x := Int32.ofInt (n : Int)) l5 ?_
    refine i_207_200 ?_
    refine i_207_201 (c := Int32.ofInt ((n : Int) - 1)) (o_sub (n : Int) 1) ?_
    refine i_207_202 (v := Value.int (Int32.ofInt (ds (n - 1)))) g140 (ix0 (T := (n : Int) - 1) (by omega) (by omega)) (ix1 (T := (n : Int) - 1) (by omega) (by omega) (by omega)) (by rw [ixn (T := (n : Int) - 1) (by omega) (by omega)]; exact (by rw [show ((n : Int) - 1).toNat = n - 1 by omega]; exact (hds (n - 1) (by omega)).1)) ?_
    refine i_207_203 (c := Int64.ofInt (ds (n - 1))) (q_i2l (a := ds (n - 1)) ⟨by omega, by omega⟩) ?_
    refine i_207_204 (c := Int64.ofInt (((ws (j + n)) * 1073741824 + (ws (j + n - 1))) / (ds (n - 1)))) (q_nz ⟨by omega, by omega⟩) (q_div ⟨by omega, by omega⟩ ⟨by omega, by omega⟩) ?_
    refine i_207_205 rfl ?_
    refine lgen2 (i := 10) (v := Value.long (Int64.ofInt (((ws (j + n)) * 1073741824 + (ws (j + n - 1))) / (ds (n - 1))))) (fun lv lg ls => ?_)
    replace l8 := lg 8 _ rfl rfl l8
    replace l0 := lg 0 _ rfl rfl l0
    replace l3 := lg 3 _ rfl rfl l3
    replace l4 := lg 4 _ rfl rfl l4
    replace l5 := lg 5 _ rfl rfl l5
    replace l6 := lg 6 _ rfl rfl l6
    replace l7 := lg 7 _ rfl rfl l7
    have l10 := ls
    refine i_207_207 (x := Int64.ofInt (((ws (j + n)) * 1073741824 + (ws (j + n - 1))) / (ds (n - 1)))) l10 ?_
    refine i_207_209 ?_
    refine i_207_212 (c := Int32.ofInt (lc (((ws (j + n)) * 1073741824 + (ws (j + n - 1))) / (ds (n - 1))) 1073741823)) (q_cmp (a := ((ws (j + n)) * 1073741824 + (ws (j + n - 1))) / (ds (n - 1))) (b := 1073741823) ⟨by omega, by omega⟩ ⟨by decide, by decide⟩) ?_
    refine i_207_213 (lc_le (a := ((ws (j + n)) * 1073741824 + (ws (j + n - 1))) / (ds (n - 1))) (b := 1073741823) fun c1 => ?_) (lc_gt (a := ((ws (j + n)) * 1073741824 + (ws (j + n - 1))) / (ds (n - 1))) (b := 1073741823) fun c1 => ?_)
    · have eq : ((((ws (j + n)) * 1073741824 + (ws (j + n - 1))) / (ds (n - 1))).toNat : Int) = ((ws (j + n)) * 1073741824 + (ws (j + n - 1))) / (ds (n - 1)) := by omega
      rw [← eq] at l10
      refine dv_in (w := w.set (t + 1) (.inl (0, 4700, H))) (ws0 := ws) (R := ivs ws j (n + 1)) (by omega) hcap h128' h137' h138' h139' h140' hds hDp ?_ (((ws (j + n)) * 1073741824 + (ws (j + n - 1))) / (ds (n - 1))).toNat _ G ws (by omega) (by omega) l0 l3 l4 l5 l6 l7 l10 hG (fun _ _ => rfl) rfl
      intro lv G' ws' l0 l3 l4 l5 l6 l7 l10 hG' hf' hr'
      refine i_207_250 (x := t) l3 ?_
      refine i_207_251 (v := Value.ref (t + 1)) (show ((w.set (t + 1) (.inl (0, 4700, H))).set 138 (.inl (0, 4700, G')))[t]? = some (.inr (13, [.ref (t + 1), vt])) from xgn (by omega) ((hh _ (by omega)).trans htt)) rfl ?_
      refine i_207_254 (x := Int32.ofInt (j : Int)) l7 ?_
      refine i_207_256 (x := Int64.ofInt (ivs ws j (n + 1) / ivs ds 0 n)) l10 ?_
      refine i_207_258 (c := Int32.ofInt (ivs ws j (n + 1) / ivs ds 0 n)) (q_l2i (ivs ws j (n + 1) / ivs ds 0 n)) ?_
      refine i_207_259 (v := Value.int (Int32.ofInt (ivs ws j (n + 1) / ivs ds 0 n))) (show ((w.set (t + 1) (.inl (0, 4700, H))).set 138 (.inl (0, 4700, G')))[t + 1]? = some (.inl (0, 4700, H)) from xgn (by omega) (xgs ht1)) (ix0 (T := (j : Int)) (by omega) (by omega)) (ix1 (T := (j : Int)) (by omega) (by omega) (by omega)) (by omega) rfl ?_
      rw [ixn (T := (j : Int)) (by omega) (by omega)]
      rw [wcomm (by omega), show ((j : Int)).toNat = j by omega]
      refine i_207_260 (x := (Int32.ofInt (j : Int))) (c := (Int32.ofInt ((j : Int) + (-1)))) l7 (o_dec (j : Int)) rfl ?_
      refine lgen1 (i := 7) (v := Value.int (Int32.ofInt ((j : Int) + (-1)))) (fun lv lg ls => ?_)
      replace l0 := lg 0 _ rfl rfl l0
      replace l3 := lg 3 _ rfl rfl l3
      replace l4 := lg 4 _ rfl rfl l4
      replace l5 := lg 5 _ rfl rfl l5
      replace l6 := lg 6 _ rfl rfl l6
      replace l10 := lg 10 _ rfl rfl l10
      have l7 := ls
      refine i_207_263 ?_
      have st := dv_step (ws := ws) (ws' := ws') (ts := ts) (X := X) (fun i hi => (hG i (by omega)).2) (fun i hi => (hG' i (by omega)).2) (fun i hi => (hds i hi).2) hDp (by omega) hf' hX hr'
      refine ih _ _ ws' _ (u1 ts j (ivs ws j (n + 1) / ivs ds 0 n)) (by omega) l0 l3 l4 l5 l6 l7 hG' (fun i h1 h2 => ?_) st.1 st.2
      by_cases e : i = j
      · subst e; rw [u1_s]; exact ⟨xup_eq, hq0, hB⟩
      · rw [u1_n e]; exact ⟨(xup_ne e).trans (hH i (by omega) h2).1, (hH i (by omega) h2).2⟩
    · refine i_207_216 ?_
      refine i_207_219 rfl ?_
      refine lgen2 (i := 10) (v := Value.long 1073741823) (fun lv lg ls => ?_)
      replace l8 := lg 8 _ rfl rfl l8
      replace l0 := lg 0 _ rfl rfl l0
      replace l3 := lg 3 _ rfl rfl l3
      replace l4 := lg 4 _ rfl rfl l4
      replace l5 := lg 5 _ rfl rfl l5
      replace l6 := lg 6 _ rfl rfl l6
      replace l7 := lg 7 _ rfl rfl l7
      have l10 := ls
      refine dv_in (w := w.set (t + 1) (.inl (0, 4700, H))) (ws0 := ws) (R := ivs ws j (n + 1)) (by omega) hcap h128' h137' h138' h139' h140' hds hDp ?_ 1073741823 _ G ws (by omega) (by omega) l0 l3 l4 l5 l6 l7 (show xld lv 10 = some (Value.long (Int64.ofInt ((1073741823 : Nat) : Int))) from l10) hG (fun _ _ => rfl) rfl
      intro lv G' ws' l0 l3 l4 l5 l6 l7 l10 hG' hf' hr'
      refine i_207_250 (x := t) l3 ?_
      refine i_207_251 (v := Value.ref (t + 1)) (show ((w.set (t + 1) (.inl (0, 4700, H))).set 138 (.inl (0, 4700, G')))[t]? = some (.inr (13, [.ref (t + 1), vt])) from xgn (by omega) ((hh _ (by omega)).trans htt)) rfl ?_
      refine i_207_254 (x := Int32.ofInt (j : Int)) l7 ?_
      refine i_207_256 (x := Int64.ofInt (ivs ws j (n + 1) / ivs ds 0 n)) l10 ?_
      refine i_207_258 (c := Int32.ofInt (ivs ws j (n + 1) / ivs ds 0 n)) (q_l2i (ivs ws j (n + 1) / ivs ds 0 n)) ?_
      refine i_207_259 (v := Value.int (Int32.ofInt (ivs ws j (n + 1) / ivs ds 0 n))) (show ((w.set (t + 1) (.inl (0, 4700, H))).set 138 (.inl (0, 4700, G')))[t + 1]? = some (.inl (0, 4700, H)) from xgn (by omega) (xgs ht1)) (ix0 (T := (j : Int)) (by omega) (by omega)) (ix1 (T := (j : Int)) (by omega) (by omega) (by omega)) (by omega) rfl ?_
      rw [ixn (T := (j : Int)) (by omega) (by omega)]
      rw [wcomm (by omega), show ((j : Int)).toNat = j by omega]
      refine i_207_260 (x := (Int32.ofInt (j : Int))) (c := (Int32.ofInt ((j : Int) + (-1)))) l7 (o_dec (j : Int)) rfl ?_
      refine lgen1 (i := 7) (v := Value.int (Int32.ofInt ((j : Int) + (-1)))) (fun lv lg ls => ?_)
      replace l0 := lg 0 _ rfl rfl l0
      replace l3 := lg 3 _ rfl rfl l3
      replace l4 := lg 4 _ rfl rfl l4
      replace l5 := lg 5 _ rfl rfl l5
      replace l6 := lg 6 _ rfl rfl l6
      replace l10 := lg 10 _ rfl rfl l10
      have l7 := ls
      refine i_207_263 ?_
      have st := dv_step (ws := ws) (ws' := ws') (ts := ts) (X := X) (fun i hi => (hG i (by omega)).2) (fun i hi => (hG' i (by omega)).2) (fun i hi => (hds i hi).2) hDp (by omega) hf' hX hr'
      refine ih _ _ ws' _ (u1 ts j (ivs ws j (n + 1) / ivs ds 0 n)) (by omega) l0 l3 l4 l5 l6 l7 hG' (fun i h1 h2 => ?_) st.1 st.2
      by_cases e : i = j
      · subst e; rw [u1_s]; exact ⟨xup_eq, hq0, hB⟩
      · rw [u1_n e]; exact ⟨(xup_ne e).trans (hH i (by omega) h2).1, (hH i (by omega) h2).2⟩
end
