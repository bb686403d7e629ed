/-! takesTooMuch of the reference -/
/-- the first words of a row are these numbers -/
def wds (G : Nat → Value) (ws : Nat → Int) (c : Nat) : Prop := ∀ k, k < c → G k = .int (Int32.ofInt (ws k)) ∧ 0 ≤ ws k ∧ ws k < 1073741824
/-- m of them from the j-th on, as a number -/
def ivs (ws : Nat → Int) (j : Nat) : Nat → Int
  | 0 => 0
  | n + 1 => ivs ws j n + ws (j + n) * 1073741824 ^ n
theorem wds.up {G : Nat → Value} {ws : Nat → Int} {c k : Nat} {x : Int} (h : wds G ws c) (x0 : 0 ≤ x) (x1 : x < 1073741824) : wds (xup G k (.int (Int32.ofInt x))) (u1 ws k x) c := by
  intro j hj
  by_cases e : j = k
  · subst e
    rw [u1_s]
    exact ⟨xup_eq, x0, x1⟩
  · rw [u1_n e]
    exact ⟨(xup_ne e).trans (h j hj).1, (h j hj).2⟩
theorem ivs_same {ws ws' : Nat → Int} {j n : Nat} (h : ∀ k, j ≤ k → k < j + n → ws k = ws' k) : ivs ws j n = ivs ws' j n := by
  induction n with
  | zero => rfl
  | succ n ih =>
    show ivs ws j n + ws (j + n) * _ = ivs ws' j n + ws' (j + n) * _
    rw [ih fun k h1 h2 => h k h1 (by omega), h (j + n) (by omega) (by omega)]
theorem ivs_b {ws : Nat → Int} {j n : Nat} (h : ∀ k, j ≤ k → k < j + n → 0 ≤ ws k ∧ ws k < 1073741824) : 0 ≤ ivs ws j n ∧ ivs ws j n < 1073741824 ^ n := by
  induction n with
  | zero => exact ⟨Int.le_refl _, show (0 : Int) < 1073741824 ^ 0 by decide⟩
  | succ n ih =>
    have h1 := ih fun k h1 h2 => h k h1 (by omega)
    have h2 := h (j + n) (by omega) (by omega)
    show 0 ≤ ivs ws j n + ws (j + n) * _ ∧ ivs ws j n + ws (j + n) * _ < _
    have hp : (0 : Int) < 1073741824 ^ n := Int.pow_pos (by decide)
    have h3 : 0 ≤ ws (j + n) * 1073741824 ^ n := Int.mul_nonneg h2.1 (by omega)
    have h4 : (ws (j + n) + 1) * 1073741824 ^ n ≤ 1073741824 * 1073741824 ^ n := Int.mul_le_mul_of_nonneg_right (by omega) (by omega)
    rw [Int.add_mul, Int.one_mul] at h4
    rw [Int.pow_succ, Int.mul_comm _ 1073741824]
    omega
/-- the window after a step of a loop that writes it -/
theorem ivs_step {ws : Nat → Int} {j i : Nat} {x : Int} : ivs (u1 ws (j + i) x) j (i + 1) = ivs ws j i + x * 1073741824 ^ i := by
  show ivs (u1 ws (j + i) x) j i + u1 ws (j + i) x (j + i) * _ = _
  rw [u1_s, ivs_same (ws' := ws) fun k _ h2 => u1_n (by omega)]
theorem dm30 (v : Int) : v % 1073741824 + v / 1073741824 * 1073741824 = v := by omega
section
variable {d j n cap : Nat} {q : Int} {w : xW} {s : Nat → Int} {o : xC} {Gd : Nat → Value} {ds : Nat → Int} {v137 v139 : Value} {Q : Option Value ⊕ Nat → xW → Prop}
theorem ttm_sub (hq : 0 ≤ q ∧ q < 1073741824) (hj : j + n < cap) (hcap : cap ≤ 4700) (h128 : w[128]? = some (.inr (12, mf s))) (h137 : w[137]? = some (.inr (13, [.ref 138, v137]))) (h138 : w[138]? = some o) (h139 : w[139]? = some (.inr (13, [.ref 140, v139]))) (h140 : w[140]? = some (.inl (0, 4700, Gd))) (hd : wds Gd ds n) {ws0 : Nat → Int} (hQ : ∀ lv G ws b, xld lv 0 = some (Value.ref 128) → xld lv 1 = some (Value.long (Int64.ofInt q)) → xld lv 3 = some (Value.int (Int32.ofInt (j : Int))) → xld lv 4 = some (Value.int (Int32.ofInt (n : Int))) → xld lv 5 = some (Value.long (Int64.ofInt b)) → wds G ws cap → (∀ k, k < j ∨ j + n < k → ws k = ws0 k) → 0 ≤ b ∧ b ≤ 1073741824 → ivs ws j (n + 1) - b * 1073741824 ^ (n + 1) = ivs ws0 j (n + 1) - q * ivs ds 0 n → xEv (d + 1) 208 88 lv [] (w.set 138 (.inl (0, 4700, G))) Q) (m : Nat) :
    ∀ (i : Nat) (lv : xLv) (G : Nat → Value) (ws : Nat → Int) (b : Int), i + m = n + 1 → xld lv 0 = some (Value.ref 128) → xld lv 1 = some (Value.long (Int64.ofInt q)) → xld lv 3 = some (Value.int (Int32.ofInt (j : Int))) → xld lv 4 = some (Value.int (Int32.ofInt (n : Int))) → xld lv 5 = some (Value.long (Int64.ofInt b)) → xld lv 7 = some (Value.int (Int32.ofInt (i : Int))) → wds G ws cap → (∀ k, k < j ∨ j + i ≤ k → ws k = ws0 k) → 0 ≤ b ∧ b ≤ 1073741824 → ivs ws j i - b * 1073741824 ^ i = ivs ws0 j i - q * ivs ds 0 (min i n) → xEv (d + 1) 208 6 lv [] (w.set 138 (.inl (0, 4700, G))) Q := by
  induction m with
  | zero =>
    intro i lv G ws b him l0 l1 l3 l4 l5 l7 hG hfr hb hinv
    have e : i = n + 1 := by omega
    subst e
    refine i_208_6 (x := Int32.ofInt ((n + 1 : Nat) : Int)) l7 ?_
    refine i_208_8 (x := Int32.ofInt (n : Int)) l4 ?_
    refine i_208_10 (b_lt (a := (n : Int)) (b := ((n + 1 : Nat) : Int)) ⟨by omega, by omega⟩ ⟨by omega, by omega⟩ fun c0 => ?_) (b_le (a := ((n + 1 : Nat) : Int)) (b := (n : Int)) ⟨by omega, by omega⟩ ⟨by omega, by omega⟩ fun c0 => absurd c0 (by omega))
    rw [Nat.min_eq_right (by omega)] at hinv
    exact hQ _ _ _ _ l0 l1 l3 l4 l5 hG (fun k hk => hfr k (by omega)) hb hinv
  | succ m ih =>
    intro i lv G ws b him l0 l1 l3 l4 l5 l7 hG hfr hb hinv
    have h128' : (w.set 138 (.inl (0, 4700, G)))[128]? = some (.inr (12, mf s)) := xgn (by decide) h128
    have h137' : (w.set 138 (.inl (0, 4700, G)))[137]? = some (.inr (13, [.ref 138, v137])) := xgn (by decide) h137
    have h138' : (w.set 138 (.inl (0, 4700, G)))[138]? = some (.inl (0, 4700, G)) := xgs h138
    have h139' : (w.set 138 (.inl (0, 4700, G)))[139]? = some (.inr (13, [.ref 140, v139])) := xgn (by decide) h139
    have h140' : (w.set 138 (.inl (0, 4700, G)))[140]? = some (.inl (0, 4700, Gd)) := xgn (by decide) h140
    have hx := (hG (j + i) (by omega)).2
    have hdi : i < n → 0 ≤ ds i ∧ ds i < 1073741824 := fun h => (hd i h).2
    have hqd : i < n → 0 ≤ q * ds i ∧ q * ds i ≤ 1073741823 * 1073741823 := fun h => ⟨Int.mul_nonneg hq.1 (hdi h).1, Int.mul_le_mul (by omega) (by have := hdi h; omega) (hdi h).1 (by decide)⟩
    refine i_208_6 (x := Int32.ofInt (i : Int)) l7 ?_
    refine i_208_8 (x := Int32.ofInt (n : Int)) l4 ?_
    refine i_208_10 (b_lt (a := (n : Int)) (b := (i : Int)) ⟨by omega, by omega⟩ ⟨by omega, by omega⟩ fun c0 => absurd c0 (by omega)) (b_le (a := (i : Int)) (b := (n : Int)) ⟨by omega, by omega⟩ ⟨by omega, by omega⟩ fun c0 => ?_)
    refine i_208_13 (x := 128) l0 ?_
    refine i_208_14 (v := Value.ref 137) h128' rfl ?_
    refine i_208_17 (v := Value.ref 138) h137' rfl ?_
    refine i_208_20 (x := Int32.ofInt (j : Int)) l3 ?_
    refine i_208_21 (x := Int32.ofInt (i : Int)) l7 ?_
    refine i_208_23 (c := Int32.ofInt ((j : Int) + (i : Int))) (o_add (j : Int) (i : Int)) ?_
    refine i_208_24 (v := Value.int (Int32.ofInt (ws (j + i)))) h138' (ix0 (T := (j : Int) + (i : Int)) (by omega) (by omega)) (ix1 (T := (j : Int) + (i : Int)) (by omega) (by omega) (by omega)) (by rw [ixn (T := (j : Int) + (i : Int)) (by omega) (by omega)]; exact (by rw [show ((j : Int) + (i : Int)).toNat = j + i by omega]; exact (hG (j + i) (by omega)).1)) ?_
    refine i_208_25 (c := Int64.ofInt (ws (j + i))) (q_i2l ⟨by omega, by omega⟩) ?_
    refine i_208_26 (x := Int32.ofInt (i : Int)) l7 ?_
    refine i_208_28 (x := Int32.ofInt (n : Int)) l4 ?_
    refine i_208_30 (b_le (a := (n : Int)) (b := (i : Int)) ⟨by omega, by omega⟩ ⟨by omega, by omega⟩ fun c1 => ?_) (b_lt (a := (i : Int)) (b := (n : Int)) ⟨by omega, by omega⟩ ⟨by omega, by omega⟩ fun c1 => ?_)
    · refine i_208_49 ?_
      refine i_208_50 (c := Int64.ofInt ((ws (j + i)) - 0)) (q_sub (ws (j + i)) 0) ?_
      refine i_208_51 (x := Int64.ofInt b) l5 ?_
      refine i_208_53 (c := Int64.ofInt (((ws (j + i)) - 0) - b)) (q_sub ((ws (j + i)) - 0) b) ?_
      refine i_208_54 rfl ?_
      refine lgen2 (i := 8) (v := Value.long (Int64.ofInt (((ws (j + i)) - 0) - b))) (fun lv lg ls => ?_)
      replace l0 := lg 0 _ rfl rfl l0
      replace l1 := lg 1 _ rfl rfl l1
      replace l3 := lg 3 _ rfl rfl l3
      replace l4 := lg 4 _ rfl rfl l4
      replace l5 := lg 5 _ rfl rfl l5
      replace l7 := lg 7 _ rfl rfl l7
      have l8 := ls
      refine i_208_56 (x := 128) l0 ?_
      refine i_208_57 (v := Value.ref 137) h128' rfl ?_
      refine i_208_60 (v := Value.ref 138) h137' rfl ?_
      refine i_208_63 (x := Int32.ofInt (j : Int)) l3 ?_
      refine i_208_64 (x := Int32.ofInt (i : Int)) l7 ?_
      refine i_208_66 (c := Int32.ofInt ((j : Int) + (i : Int))) (o_add (j : Int) (i : Int)) ?_
      refine i_208_67 (x := Int64.ofInt (((ws (j + i)) - 0) - b)) l8 ?_
      refine i_208_69 (c := Int32.ofInt (((ws (j + i)) - 0) - b)) (q_l2i (((ws (j + i)) - 0) - b)) ?_
      refine i_208_70 ?_
      refine i_208_72 (c := Int32.ofInt ((((ws (j + i)) - 0) - b) % 1073741824)) (o_mask (((ws (j + i)) - 0) - b)) ?_
      refine i_208_73 (v := Value.int (Int32.ofInt ((((ws (j + i)) - 0) - b) % 1073741824))) h138' (ix0 (T := (j : Int) + (i : Int)) (by omega) (by omega)) (ix1 (T := (j : Int) + (i : Int)) (by omega) (by omega) (by omega)) (by decide) rfl ?_
      rw [ixn (T := (j : Int) + (i : Int)) (by omega) (by omega)]
      rw [xset_set, show ((j : Int) + (i : Int)).toNat = j + i by omega]
      refine i_208_74 (x := Int64.ofInt (((ws (j + i)) - 0) - b)) l8 ?_
      refine i_208_76 ?_
      refine i_208_78 (c := Int64.ofInt ((((ws (j + i)) - 0) - b) / 1073741824)) (q_shr30 ⟨by omega, by omega⟩) ?_
      refine i_208_79 (c := Int64.ofInt (-((((ws (j + i)) - 0) - b) / 1073741824))) (q_neg ((((ws (j + i)) - 0) - b) / 1073741824)) ?_
      refine i_208_80 rfl ?_
      refine lgen2 (i := 5) (v := Value.long (Int64.ofInt (-((((ws (j + i)) - 0) - b) / 1073741824)))) (fun lv lg ls => ?_)
      replace l8 := lg 8 _ rfl rfl l8
      replace l0 := lg 0 _ rfl rfl l0
      replace l1 := lg 1 _ rfl rfl l1
      replace l3 := lg 3 _ rfl rfl l3
      replace l4 := lg 4 _ rfl rfl l4
      replace l7 := lg 7 _ rfl rfl l7
      have l5 := ls
      refine i_208_82 (x := (Int32.ofInt (i : Int))) (c := (Int32.ofInt ((i : Int) + 1))) l7 (o_add (i : Int) 1) rfl ?_
      refine lgen1 (i := 7) (v := Value.int (Int32.ofInt ((i : Int) + 1))) (fun lv lg ls => ?_)
      replace l5 := lg 5 _ rfl rfl l5
      replace l8 := lg 8 _ rfl rfl l8
      replace l0 := lg 0 _ rfl rfl l0
      replace l1 := lg 1 _ rfl rfl l1
      replace l3 := lg 3 _ rfl rfl l3
      replace l4 := lg 4 _ rfl rfl l4
      have l7 := ls
      refine i_208_85 ?_
      refine ih (i + 1) _ _ (u1 ws (j + i) ((((ws (j + i)) - 0) - b) % 1073741824)) (-((((ws (j + i)) - 0) - b) / 1073741824)) (by omega) l0 l1 l3 l4 l5 l7 (hG.up (by omega) (by omega)) (fun k hk => (u1_n (by omega)).trans (hfr k (by omega))) (by omega) ?_
      rw [ivs_step]
      have dm := dm30 (((ws (j + i)) - 0) - b)
      generalize hV : (((ws (j + i)) - 0) - b) / 1073741824 = vq at *
      generalize hM : (((ws (j + i)) - 0) - b) % 1073741824 = vm at *
      have e0 : ws (j + i) = ws0 (j + i) := hfr _ (by omega)
      have e1 : ivs ws0 j (i + 1) = ivs ws0 j i + ws0 (j + i) * 1073741824 ^ i := rfl
      have e2 : ivs ds 0 (min (i + 1) n) = ivs ds 0 (min i n) := by rw [Nat.min_eq_right (by omega), Nat.min_eq_right (by omega)]
      rw [e1, e2, Int.pow_succ, ← e0]
      generalize (1073741824 : Int) ^ i = P at *
      have e3 : (vm + vq * 1073741824) * P = (((ws (j + i)) - 0) - b) * P := by rw [dm]
      grind
    · refine i_208_33 (x := Int64.ofInt q) l1 ?_
      refine i_208_34 (x := 128) l0 ?_
      refine i_208_35 (v := Value.ref 139) h128' rfl ?_
      refine i_208_38 (v := Value.ref 140) h139' rfl ?_
      refine i_208_41 (x := Int32.ofInt (i : Int)) l7 ?_
      refine i_208_43 (v := Value.int (Int32.ofInt (ds i))) h140' (ix0 (T := (i : Int)) (by omega) (by omega)) (ix1 (T := (i : Int)) (by omega) (by omega) (by omega)) (by rw [ixn (T := (i : Int)) (by omega) (by omega)]; exact (by rw [show ((i : Int) : Int).toNat = i by omega]; exact (hd i (by omega)).1)) ?_
      refine i_208_44 (c := Int64.ofInt (ds i)) (q_i2l ⟨by omega, by omega⟩) ?_
      refine i_208_45 (c := Int64.ofInt (q * (ds i))) (q_mul q (ds i)) ?_
      refine i_208_46 ?_
      refine i_208_50 (c := Int64.ofInt ((ws (j + i)) - (q * (ds i)))) (q_sub (ws (j + i)) (q * (ds i))) ?_
      refine i_208_51 (x := Int64.ofInt b) l5 ?_
      refine i_208_53 (c := Int64.ofInt (((ws (j + i)) - (q * (ds i))) - b)) (q_sub ((ws (j + i)) - (q * (ds i))) b) ?_
      refine i_208_54 rfl ?_
      refine lgen2 (i := 8) (v := Value.long (Int64.ofInt (((ws (j + i)) - (q * (ds i))) - b))) (fun lv lg ls => ?_)
      replace l0 := lg 0 _ rfl rfl l0
      replace l1 := lg 1 _ rfl rfl l1
      replace l3 := lg 3 _ rfl rfl l3
      replace l4 := lg 4 _ rfl rfl l4
      replace l5 := lg 5 _ rfl rfl l5
      replace l7 := lg 7 _ rfl rfl l7
      have l8 := ls
      refine i_208_56 (x := 128) l0 ?_
      refine i_208_57 (v := Value.ref 137) h128' rfl ?_
      refine i_208_60 (v := Value.ref 138) h137' rfl ?_
      refine i_208_63 (x := Int32.ofInt (j : Int)) l3 ?_
      refine i_208_64 (x := Int32.ofInt (i : Int)) l7 ?_
      refine i_208_66 (c := Int32.ofInt ((j : Int) + (i : Int))) (o_add (j : Int) (i : Int)) ?_
      refine i_208_67 (x := Int64.ofInt (((ws (j + i)) - (q * (ds i))) - b)) l8 ?_
      refine i_208_69 (c := Int32.ofInt (((ws (j + i)) - (q * (ds i))) - b)) (q_l2i (((ws (j + i)) - (q * (ds i))) - b)) ?_
      refine i_208_70 ?_
      refine i_208_72 (c := Int32.ofInt ((((ws (j + i)) - (q * (ds i))) - b) % 1073741824)) (o_mask (((ws (j + i)) - (q * (ds i))) - b)) ?_
      refine i_208_73 (v := Value.int (Int32.ofInt ((((ws (j + i)) - (q * (ds i))) - b) % 1073741824))) h138' (ix0 (T := (j : Int) + (i : Int)) (by omega) (by omega)) (ix1 (T := (j : Int) + (i : Int)) (by omega) (by omega) (by omega)) (by decide) rfl ?_
      rw [ixn (T := (j : Int) + (i : Int)) (by omega) (by omega)]
      rw [xset_set, show ((j : Int) + (i : Int)).toNat = j + i by omega]
      refine i_208_74 (x := Int64.ofInt (((ws (j + i)) - (q * (ds i))) - b)) l8 ?_
      refine i_208_76 ?_
      refine i_208_78 (c := Int64.ofInt ((((ws (j + i)) - (q * (ds i))) - b) / 1073741824)) (q_shr30 ⟨by omega, by omega⟩) ?_
      refine i_208_79 (c := Int64.ofInt (-((((ws (j + i)) - (q * (ds i))) - b) / 1073741824))) (q_neg ((((ws (j + i)) - (q * (ds i))) - b) / 1073741824)) ?_
      refine i_208_80 rfl ?_
      refine lgen2 (i := 5) (v := Value.long (Int64.ofInt (-((((ws (j + i)) - (q * (ds i))) - b) / 1073741824)))) (fun lv lg ls => ?_)
      replace l8 := lg 8 _ rfl rfl l8
      replace l0 := lg 0 _ rfl rfl l0
      replace l1 := lg 1 _ rfl rfl l1
      replace l3 := lg 3 _ rfl rfl l3
      replace l4 := lg 4 _ rfl rfl l4
      replace l7 := lg 7 _ rfl rfl l7
      have l5 := ls
      refine i_208_82 (x := (Int32.ofInt (i : Int))) (c := (Int32.ofInt ((i : Int) + 1))) l7 (o_add (i : Int) 1) rfl ?_
      refine lgen1 (i := 7) (v := Value.int (Int32.ofInt ((i : Int) + 1))) (fun lv lg ls => ?_)
      replace l5 := lg 5 _ rfl rfl l5
      replace l8 := lg 8 _ rfl rfl l8
      replace l0 := lg 0 _ rfl rfl l0
      replace l1 := lg 1 _ rfl rfl l1
      replace l3 := lg 3 _ rfl rfl l3
      replace l4 := lg 4 _ rfl rfl l4
      have l7 := ls
      refine i_208_85 ?_
      refine ih (i + 1) _ _ (u1 ws (j + i) ((((ws (j + i)) - (q * (ds i))) - b) % 1073741824)) (-((((ws (j + i)) - (q * (ds i))) - b) / 1073741824)) (by omega) l0 l1 l3 l4 l5 l7 (hG.up (by omega) (by omega)) (fun k hk => (u1_n (by omega)).trans (hfr k (by omega))) (by omega) ?_
      rw [ivs_step]
      have dm := dm30 (((ws (j + i)) - (q * (ds i))) - b)
      generalize hV : (((ws (j + i)) - (q * (ds i))) - b) / 1073741824 = vq at *
      generalize hM : (((ws (j + i)) - (q * (ds i))) - b) % 1073741824 = vm at *
      have e0 : ws (j + i) = ws0 (j + i) := hfr _ (by omega)
      have e1 : ivs ws0 j (i + 1) = ivs ws0 j i + ws0 (j + i) * 1073741824 ^ i := rfl
      have e2 : ivs ds 0 (min (i + 1) n) = ivs ds 0 (min i n) + ds i * 1073741824 ^ i := by
        rw [Nat.min_eq_left (by omega), Nat.min_eq_left (by omega)]
        show ivs ds 0 i + ds (0 + i) * _ = _
        rw [Nat.zero_add]
      rw [e1, e2, Int.pow_succ, ← e0]
      generalize (1073741824 : Int) ^ i = P at *
      have e3 : (vm + vq * 1073741824) * P = (((ws (j + i)) - (q * (ds i))) - b) * P := by rw [dm]
      grind
theorem ttm_add (hq : 0 ≤ q ∧ q < 1073741824) (hj : j + n < cap) (hcap : cap ≤ 4700) (h128 : w[128]? = some (.inr (12, mf s))) (h137 : w[137]? = some (.inr (13, [.ref 138, v137]))) (h138 : w[138]? = some o) (h139 : w[139]? = some (.inr (13, [.ref 140, v139]))) (h140 : w[140]? = some (.inl (0, 4700, Gd))) (hd : wds Gd ds n) {ws0 : Nat → Int} (hQ : ∀ lv G ws b, xld lv 7 = some (Value.int (Int32.ofInt b)) → wds G ws cap → (∀ k, k < j ∨ j + n < k → ws k = ws0 k) → 0 ≤ b ∧ b ≤ 1073741824 → ivs ws j (n + 1) + b * 1073741824 ^ (n + 1) = ivs ws0 j (n + 1) + q * ivs ds 0 n → xEv (d + 1) 208 192 lv [] (w.set 138 (.inl (0, 4700, G))) Q) (m : Nat) :
    ∀ (i : Nat) (lv : xLv) (G : Nat → Value) (ws : Nat → Int) (b : Int), i + m = n + 1 → xld lv 0 = some (Value.ref 128) → xld lv 1 = some (Value.long (Int64.ofInt q)) → xld lv 3 = some (Value.int (Int32.ofInt (j : Int))) → xld lv 4 = some (Value.int (Int32.ofInt (n : Int))) → xld lv 5 = some (Value.long (Int64.ofInt b)) → xld lv 7 = some (Value.int (Int32.ofInt b)) → xld lv 8 = some (Value.int (Int32.ofInt (i : Int))) → wds G ws cap → (∀ k, k < j ∨ j + i ≤ k → ws k = ws0 k) → 0 ≤ b ∧ b ≤ 1073741824 → ivs ws j i + b * 1073741824 ^ i = ivs ws0 j i + q * ivs ds 0 (min i n) → xEv (d + 1) 208 106 lv [] (w.set 138 (.inl (0, 4700, G))) Q := by
  induction m with
  | zero =>
    intro i lv G ws b him l0 l1 l3 l4 l5 l7 l8 hG hfr hb hinv
    have e : i = n + 1 := by omega
    subst e
    refine i_208_106 (x := Int32.ofInt ((n + 1 : Nat) : Int)) l8 ?_
    refine i_208_108 (x := Int32.ofInt (n : Int)) l4 ?_
    refine i_208_110 (b_lt (a := (n : Int)) (b := ((n + 1 : Nat) : Int)) ⟨by omega, by omega⟩ ⟨by omega, by omega⟩ fun c0 => ?_) (b_le (a := ((n + 1 : Nat) : Int)) (b := (n : Int)) ⟨by omega, by omega⟩ ⟨by omega, by omega⟩ fun c0 => absurd c0 (by omega))
    rw [Nat.min_eq_right (by omega)] at hinv
    exact hQ _ _ _ _ l7 hG (fun k hk => hfr k (by omega)) hb hinv
  | succ m ih =>
    intro i lv G ws b him l0 l1 l3 l4 l5 l7 l8 hG hfr hb hinv
    have h128' : (w.set 138 (.inl (0, 4700, G)))[128]? = some (.inr (12, mf s)) := xgn (by decide) h128
    have h137' : (w.set 138 (.inl (0, 4700, G)))[137]? = some (.inr (13, [.ref 138, v137])) := xgn (by decide) h137
    have h138' : (w.set 138 (.inl (0, 4700, G)))[138]? = some (.inl (0, 4700, G)) := xgs h138
    have h139' : (w.set 138 (.inl (0, 4700, G)))[139]? = some (.inr (13, [.ref 140, v139])) := xgn (by decide) h139
    have h140' : (w.set 138 (.inl (0, 4700, G)))[140]? = some (.inl (0, 4700, Gd)) := xgn (by decide) h140
    have hx := (hG (j + i) (by omega)).2
    have hdi : i < n → 0 ≤ ds i ∧ ds i < 1073741824 := fun h => (hd i h).2
    have hqd : i < n → 0 ≤ q * ds i ∧ q * ds i ≤ 1073741823 * 1073741823 := fun h => ⟨Int.mul_nonneg hq.1 (hdi h).1, Int.mul_le_mul (by omega) (by have := hdi h; omega) (hdi h).1 (by decide)⟩
    refine i_208_106 (x := Int32.ofInt (i : Int)) l8 ?_
    refine i_208_108 (x := Int32.ofInt (n : Int)) l4 ?_
    refine i_208_110 (b_lt (a := (n : Int)) (b := (i : Int)) ⟨by omega, by omega⟩ ⟨by omega, by omega⟩ fun c0 => absurd c0 (by omega)) (b_le (a := (i : Int)) (b := (n : Int)) ⟨by omega, by omega⟩ ⟨by omega, by omega⟩ fun c0 => ?_)
    refine i_208_113 (x := 128) l0 ?_
    refine i_208_114 (v := Value.ref 137) h128' rfl ?_
    refine i_208_117 (v := Value.ref 138) h137' rfl ?_
    refine i_208_120 (x := Int32.ofInt (j : Int)) l3 ?_
    refine i_208_121 (x := Int32.ofInt (i : Int)) l8 ?_
    refine i_208_123 (c := Int32.ofInt ((j : Int) + (i : Int))) (o_add (j : Int) (i : Int)) ?_
    refine i_208_124 (v := Value.int (Int32.ofInt (ws (j + i)))) h138' (ix0 (T := (j : Int) + (i : Int)) (by omega) (by omega)) (ix1 (T := (j : Int) + (i : Int)) (by omega) (by omega) (by omega)) (by rw [ixn (T := (j : Int) + (i : Int)) (by omega) (by omega)]; exact (by rw [show ((j : Int) + (i : Int)).toNat = j + i by omega]; exact (hG (j + i) (by omega)).1)) ?_
    refine i_208_125 (c := Int64.ofInt (ws (j + i))) (q_i2l ⟨by omega, by omega⟩) ?_
    refine i_208_126 (x := Int32.ofInt (i : Int)) l8 ?_
    refine i_208_128 (x := Int32.ofInt (n : Int)) l4 ?_
    refine i_208_130 (b_le (a := (n : Int)) (b := (i : Int)) ⟨by omega, by omega⟩ ⟨by omega, by omega⟩ fun c1 => ?_) (b_lt (a := (i : Int)) (b := (n : Int)) ⟨by omega, by omega⟩ ⟨by omega, by omega⟩ fun c1 => ?_)
    · refine i_208_149 ?_
      refine i_208_150 (c := Int64.ofInt ((ws (j + i)) + 0)) (q_add (ws (j + i)) 0) ?_
      refine i_208_151 (x := Int64.ofInt b) l5 ?_
      refine i_208_153 (c := Int64.ofInt (((ws (j + i)) + 0) + b)) (q_add ((ws (j + i)) + 0) b) ?_
      refine i_208_154 rfl ?_
      refine lgen2 (i := 9) (v := Value.long (Int64.ofInt (((ws (j + i)) + 0) + b))) (fun lv lg ls => ?_)
      replace l0 := lg 0 _ rfl rfl l0
      replace l1 := lg 1 _ rfl rfl l1
      replace l3 := lg 3 _ rfl rfl l3
      replace l4 := lg 4 _ rfl rfl l4
      replace l5 := lg 5 _ rfl rfl l5
      replace l7 := lg 7 _ rfl rfl l7
      replace l8 := lg 8 _ rfl rfl l8
      have l9 := ls
      refine i_208_156 (x := 128) l0 ?_
      refine i_208_157 (v := Value.ref 137) h128' rfl ?_
      refine i_208_160 (v := Value.ref 138) h137' rfl ?_
      refine i_208_163 (x := Int32.ofInt (j : Int)) l3 ?_
      refine i_208_164 (x := Int32.ofInt (i : Int)) l8 ?_
      refine i_208_166 (c := Int32.ofInt ((j : Int) + (i : Int))) (o_add (j : Int) (i : Int)) ?_
      refine i_208_167 (x := Int64.ofInt (((ws (j + i)) + 0) + b)) l9 ?_
      refine i_208_169 (c := Int32.ofInt (((ws (j + i)) + 0) + b)) (q_l2i (((ws (j + i)) + 0) + b)) ?_
      refine i_208_170 ?_
      refine i_208_172 (c := Int32.ofInt ((((ws (j + i)) + 0) + b) % 1073741824)) (o_mask (((ws (j + i)) + 0) + b)) ?_
      refine i_208_173 (v := Value.int (Int32.ofInt ((((ws (j + i)) + 0) + b) % 1073741824))) h138' (ix0 (T := (j : Int) + (i : Int)) (by omega) (by omega)) (ix1 (T := (j : Int) + (i : Int)) (by omega) (by omega) (by omega)) (by decide) rfl ?_
      rw [ixn (T := (j : Int) + (i : Int)) (by omega) (by omega)]
      rw [xset_set, show ((j : Int) + (i : Int)).toNat = j + i by omega]
      refine i_208_174 (x := Int64.ofInt (((ws (j + i)) + 0) + b)) l9 ?_
      refine i_208_176 ?_
      refine i_208_178 (c := Int64.ofInt ((((ws (j + i)) + 0) + b) / 1073741824)) (q_shr30 ⟨by omega, by omega⟩) ?_
      refine i_208_179 rfl ?_
      refine lgen2 (i := 5) (v := Value.long (Int64.ofInt ((((ws (j + i)) + 0) + b) / 1073741824))) (fun lv lg ls => ?_)
      replace l9 := lg 9 _ rfl rfl l9
      replace l0 := lg 0 _ rfl rfl l0
      replace l1 := lg 1 _ rfl rfl l1
      replace l3 := lg 3 _ rfl rfl l3
      replace l4 := lg 4 _ rfl rfl l4
      replace l7 := lg 7 _ rfl rfl l7
      replace l8 := lg 8 _ rfl rfl l8
      have l5 := ls
      refine i_208_181 (x := Int64.ofInt ((((ws (j + i)) + 0) + b) / 1073741824)) l5 ?_
      refine i_208_183 (c := Int32.ofInt ((((ws (j + i)) + 0) + b) / 1073741824)) (q_l2i ((((ws (j + i)) + 0) + b) / 1073741824)) ?_
      refine i_208_184 rfl ?_
      refine lgen1 (i := 7) (v := Value.int (Int32.ofInt ((((ws (j + i)) + 0) + b) / 1073741824))) (fun lv lg ls => ?_)
      replace l5 := lg 5 _ rfl rfl l5
      replace l9 := lg 9 _ rfl rfl l9
      replace l0 := lg 0 _ rfl rfl l0
      replace l1 := lg 1 _ rfl rfl l1
      replace l3 := lg 3 _ rfl rfl l3
      replace l4 := lg 4 _ rfl rfl l4
      replace l8 := lg 8 _ rfl rfl l8
      have l7 := ls
      refine i_208_186 (x := (Int32.ofInt (i : Int))) (c := (Int32.ofInt ((i : Int) + 1))) l8 (o_add (i : Int) 1) rfl ?_
      refine lgen1 (i := 8) (v := Value.int (Int32.ofInt ((i : Int) + 1))) (fun lv lg ls => ?_)
      replace l7 := lg 7 _ rfl rfl l7
      replace l5 := lg 5 _ rfl rfl l5
      replace l9 := lg 9 _ rfl rfl l9
      replace l0 := lg 0 _ rfl rfl l0
      replace l1 := lg 1 _ rfl rfl l1
      replace l3 := lg 3 _ rfl rfl l3
      replace l4 := lg 4 _ rfl rfl l4
      have l8 := ls
      refine i_208_189 ?_
      refine ih (i + 1) _ _ (u1 ws (j + i) ((((ws (j + i)) + 0) + b) % 1073741824)) ((((ws (j + i)) + 0) + b) / 1073741824) (by omega) l0 l1 l3 l4 l5 l7 l8 (hG.up (by omega) (by omega)) (fun k hk => (u1_n (by omega)).trans (hfr k (by omega))) (by omega) ?_
      rw [ivs_step]
      have dm := dm30 (((ws (j + i)) + 0) + b)
      generalize hV : (((ws (j + i)) + 0) + b) / 1073741824 = vq at *
      generalize hM : (((ws (j + i)) + 0) + b) % 1073741824 = vm at *
      have e0 : ws (j + i) = ws0 (j + i) := hfr _ (by omega)
      have e1 : ivs ws0 j (i + 1) = ivs ws0 j i + ws0 (j + i) * 1073741824 ^ i := rfl
      have e2 : ivs ds 0 (min (i + 1) n) = ivs ds 0 (min i n) := by rw [Nat.min_eq_right (by omega), Nat.min_eq_right (by omega)]
      rw [e1, e2, Int.pow_succ, ← e0]
      generalize (1073741824 : Int) ^ i = P at *
      have e3 : (vm + vq * 1073741824) * P = (((ws (j + i)) + 0) + b) * P := by rw [dm]
      grind
    · refine i_208_133 (x := Int64.ofInt q) l1 ?_
      refine i_208_134 (x := 128) l0 ?_
      refine i_208_135 (v := Value.ref 139) h128' rfl ?_
      refine i_208_138 (v := Value.ref 140) h139' rfl ?_
      refine i_208_141 (x := Int32.ofInt (i : Int)) l8 ?_
      refine i_208_143 (v := Value.int (Int32.ofInt (ds i))) h140' (ix0 (T := (i : Int)) (by omega) (by omega)) (ix1 (T := (i : Int)) (by omega) (by omega) (by omega)) (by rw [ixn (T := (i : Int)) (by omega) (by omega)]; exact (by rw [show ((i : Int) : Int).toNat = i by omega]; exact (hd i (by omega)).1)) ?_
      refine i_208_144 (c := Int64.ofInt (ds i)) (q_i2l ⟨by omega, by omega⟩) ?_
      refine i_208_145 (c := Int64.ofInt (q * (ds i))) (q_mul q (ds i)) ?_
      refine i_208_146 ?_
      refine i_208_150 (c := Int64.ofInt ((ws (j + i)) + (q * (ds i)))) (q_add (ws (j + i)) (q * (ds i))) ?_
      refine i_208_151 (x := Int64.ofInt b) l5 ?_
      refine i_208_153 (c := Int64.ofInt (((ws (j + i)) + (q * (ds i))) + b)) (q_add ((ws (j + i)) + (q * (ds i))) b) ?_
      refine i_208_154 rfl ?_
      refine lgen2 (i := 9) (v := Value.long (Int64.ofInt (((ws (j + i)) + (q * (ds i))) + b))) (fun lv lg ls => ?_)
      replace l0 := lg 0 _ rfl rfl l0
      replace l1 := lg 1 _ rfl rfl l1
      replace l3 := lg 3 _ rfl rfl l3
      replace l4 := lg 4 _ rfl rfl l4
      replace l5 := lg 5 _ rfl rfl l5
      replace l7 := lg 7 _ rfl rfl l7
      replace l8 := lg 8 _ rfl rfl l8
      have l9 := ls
      refine i_208_156 (x := 128) l0 ?_
      refine i_208_157 (v := Value.ref 137) h128' rfl ?_
      refine i_208_160 (v := Value.ref 138) h137' rfl ?_
      refine i_208_163 (x := Int32.ofInt (j : Int)) l3 ?_
      refine i_208_164 (x := Int32.ofInt (i : Int)) l8 ?_
      refine i_208_166 (c := Int32.ofInt ((j : Int) + (i : Int))) (o_add (j : Int) (i : Int)) ?_
      refine i_208_167 (x := Int64.ofInt (((ws (j + i)) + (q * (ds i))) + b)) l9 ?_
      refine i_208_169 (c := Int32.ofInt (((ws (j + i)) + (q * (ds i))) + b)) (q_l2i (((ws (j + i)) + (q * (ds i))) + b)) ?_
      refine i_208_170 ?_
      refine i_208_172 (c := Int32.ofInt ((((ws (j + i)) + (q * (ds i))) + b) % 1073741824)) (o_mask (((ws (j + i)) + (q * (ds i))) + b)) ?_
      refine i_208_173 (v := Value.int (Int32.ofInt ((((ws (j + i)) + (q * (ds i))) + b) % 1073741824))) h138' (ix0 (T := (j : Int) + (i : Int)) (by omega) (by omega)) (ix1 (T := (j : Int) + (i : Int)) (by omega) (by omega) (by omega)) (by decide) rfl ?_
      rw [ixn (T := (j : Int) + (i : Int)) (by omega) (by omega)]
      rw [xset_set, show ((j : Int) + (i : Int)).toNat = j + i by omega]
      refine i_208_174 (x := Int64.ofInt (((ws (j + i)) + (q * (ds i))) + b)) l9 ?_
      refine i_208_176 ?_
      refine i_208_178 (c := Int64.ofInt ((((ws (j + i)) + (q * (ds i))) + b) / 1073741824)) (q_shr30 ⟨by omega, by omega⟩) ?_
      refine i_208_179 rfl ?_
      refine lgen2 (i := 5) (v := Value.long (Int64.ofInt ((((ws (j + i)) + (q * (ds i))) + b) / 1073741824))) (fun lv lg ls => ?_)
      replace l9 := lg 9 _ rfl rfl l9
      replace l0 := lg 0 _ rfl rfl l0
      replace l1 := lg 1 _ rfl rfl l1
      replace l3 := lg 3 _ rfl rfl l3
      replace l4 := lg 4 _ rfl rfl l4
      replace l7 := lg 7 _ rfl rfl l7
      replace l8 := lg 8 _ rfl rfl l8
      have l5 := ls
      refine i_208_181 (x := Int64.ofInt ((((ws (j + i)) + (q * (ds i))) + b) / 1073741824)) l5 ?_
      refine i_208_183 (c := Int32.ofInt ((((ws (j + i)) + (q * (ds i))) + b) / 1073741824)) (q_l2i ((((ws (j + i)) + (q * (ds i))) + b) / 1073741824)) ?_
      refine i_208_184 rfl ?_
      refine lgen1 (i := 7) (v := Value.int (Int32.ofInt ((((ws (j + i)) + (q * (ds i))) + b) / 1073741824))) (fun lv lg ls => ?_)
      replace l5 := lg 5 _ rfl rfl l5
      replace l9 := lg 9 _ rfl rfl l9
      replace l0 := lg 0 _ rfl rfl l0
      replace l1 := lg 1 _ rfl rfl l1
      replace l3 := lg 3 _ rfl rfl l3
      replace l4 := lg 4 _ rfl rfl l4
      replace l8 := lg 8 _ rfl rfl l8
      have l7 := ls
      refine i_208_186 (x := (Int32.ofInt (i : Int))) (c := (Int32.ofInt ((i : Int) + 1))) l8 (o_add (i : Int) 1) rfl ?_
      refine lgen1 (i := 8) (v := Value.int (Int32.ofInt ((i : Int) + 1))) (fun lv lg ls => ?_)
      replace l7 := lg 7 _ rfl rfl l7
      replace l5 := lg 5 _ rfl rfl l5
      replace l9 := lg 9 _ rfl rfl l9
      replace l0 := lg 0 _ rfl rfl l0
      replace l1 := lg 1 _ rfl rfl l1
      replace l3 := lg 3 _ rfl rfl l3
      replace l4 := lg 4 _ rfl rfl l4
      have l8 := ls
      refine i_208_189 ?_
      refine ih (i + 1) _ _ (u1 ws (j + i) ((((ws (j + i)) + (q * (ds i))) + b) % 1073741824)) ((((ws (j + i)) + (q * (ds i))) + b) / 1073741824) (by omega) l0 l1 l3 l4 l5 l7 l8 (hG.up (by omega) (by omega)) (fun k hk => (u1_n (by omega)).trans (hfr k (by omega))) (by omega) ?_
      rw [ivs_step]
      have dm := dm30 (((ws (j + i)) + (q * (ds i))) + b)
      generalize hV : (((ws (j + i)) + (q * (ds i))) + b) / 1073741824 = vq at *
      generalize hM : (((ws (j + i)) + (q * (ds i))) + b) % 1073741824 = vm at *
      have e0 : ws (j + i) = ws0 (j + i) := hfr _ (by omega)
      have e1 : ivs ws0 j (i + 1) = ivs ws0 j i + ws0 (j + i) * 1073741824 ^ i := rfl
      have e2 : ivs ds 0 (min (i + 1) n) = ivs ds 0 (min i n) + ds i * 1073741824 ^ i := by
        rw [Nat.min_eq_left (by omega), Nat.min_eq_left (by omega)]
        show ivs ds 0 i + ds (0 + i) * _ = _
        rw [Nat.zero_add]
      rw [e1, e2, Int.pow_succ, ← e0]
      generalize (1073741824 : Int) ^ i = P at *
      have e3 : (vm + vq * 1073741824) * P = (((ws (j + i)) + (q * (ds i))) + b) * P := by rw [dm]
      grind
end
