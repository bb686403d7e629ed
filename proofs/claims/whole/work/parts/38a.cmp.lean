/-! order of naturals -/
def xcm (a b : Nat) : Int32 := if a < b then -1 else if a = b then 0 else 1
theorem xvl_eqw {g g' : Nat → Value} {n : Nat} (h : ∀ j, j < n → xwd g j = xwd g' j) : xvl g n = xvl g' n := by
  induction n with
  | zero => rfl
  | succ n ih =>
    show xvl g n + xwd g n * _ = xvl g' n + xwd g' n * _
    rw [ih fun j hj => h j (by omega), h n (by omega)]
/-- equal words above: the order is that of the words below -/
theorem xvl_above {g g' : Nat → Value} {k n : Nat} (hk : k ≤ n) (h : ∀ j, k ≤ j → j < n → xwd g j = xwd g' j) : ∃ t, xvl g n = xvl g k + t ∧ xvl g' n = xvl g' k + t := by
  induction n with
  | zero => have : k = 0 := by omega
            subst this; exact ⟨0, rfl, rfl⟩
  | succ n ih =>
    by_cases e : k = n + 1
    · subst e; exact ⟨0, rfl, rfl⟩
    · obtain ⟨t, h1, h2⟩ := ih (by omega) fun j j1 j2 => h j j1 (by omega)
      refine ⟨t + xwd g n * 2 ^ (30 * n), ?_, ?_⟩
      · show xvl g n + _ = _; rw [h1, Nat.add_assoc]
      · show xvl g' n + xwd g' n * _ = _; rw [h2, ← h n (by omega) (by omega), Nat.add_assoc]
theorem xvl_less {g g' : Nat → Value} {k : Nat} (hi : ∀ j, j < k → xiw g j) (h : xwd g k < xwd g' k) : xvl g (k + 1) < xvl g' (k + 1) := by
  show xvl g k + xwd g k * 2 ^ (30 * k) < xvl g' k + xwd g' k * 2 ^ (30 * k)
  have h1 := xvl_lt hi
  have h2 : (xwd g k + 1) * 2 ^ (30 * k) ≤ xwd g' k * 2 ^ (30 * k) := Nat.mul_le_mul_right _ h
  rw [Nat.add_mul, Nat.one_mul] at h2
  omega
theorem cmp_loop {d h a c h2 a2 c2 n : Nat} {n0 n2 : Int32} {w : xW} {g g2 : Nat → Value} {Q : Option Value ⊕ Nat → xW → Prop} (hc : n < 2147483648) (hw : w[h]? = some (.inr (13, [.ref a, .int n0]))) (ha : w[a]? = some (.inl (0, c, g))) (hw2 : w[h2]? = some (.inr (13, [.ref a2, .int n2]))) (ha2 : w[a2]? = some (.inl (0, c2, g2))) (hn : n ≤ c) (hn2 : n ≤ c2) (hi : ∀ j, j < n → xiw g j) (hi2 : ∀ j, j < n → xiw g2 j) (hQ : Q (.inl (some (.int (xcm (xvl g n) (xvl g2 n))))) w) (k : Nat) :
    ∀ (lv : xLv) (i : Int32), xld lv 0 = some (.ref h) → xld lv 1 = some (.ref h2) → xld lv 2 = some (.int i) → i.toInt = (k : Int) - 1 → k ≤ n → (∀ j, k ≤ j → j < n → xwd g j = xwd g2 j) → xEv d 211 35 lv [] w Q := by
  induction k with
  | zero =>
    intro lv i l0 l1 l2 e hk hs
    refine i_211_35 (x := i) l2 ?_
    refine i_211_36 (fun _ => ?_) (fun g => absurd g (by omega))
    refine i_211_81 ?_
    refine i_211_82 ?_
    rw [xvl_eqw (g' := g2) fun j hj => hs j (Nat.zero_le _) hj] at hQ
    have e0 : xcm (xvl g2 n) (xvl g2 n) = 0 := by unfold xcm; rw [if_neg (by omega), if_pos rfl]
    rw [e0] at hQ
    exact hQ
  | succ k ih =>
    intro lv i l0 l1 l2 e hk hs
    obtain ⟨x, hx, x0, x1⟩ := hi k (by omega)
    obtain ⟨y, hy, y0, y1⟩ := hi2 k (by omega)
    have ei : i.toInt.toNat = k := by omega
    obtain ⟨t, t1, t2⟩ := xvl_above (g := g) (g' := g2) (k := k + 1) (n := n) hk hs
    have ux := xun_i x0
    have uy := xun_i y0
    have wx := xwd_int hx
    have wy := xwd_int hy
    refine i_211_35 (x := i) l2 ?_
    refine i_211_36 (fun g => absurd g (by omega)) (fun _ => ?_)
    refine i_211_39 (x := h) l0 ?_
    refine i_211_40 (v := Value.ref a) hw rfl ?_
    refine i_211_43 (x := i) l2 ?_
    refine i_211_44 (v := Value.int x) ha (by omega) (by omega) (by rw [ei]; exact hx) ?_
    refine i_211_45 (x := h2) l1 ?_
    refine i_211_46 (v := Value.ref a2) hw2 rfl ?_
    refine i_211_49 (x := i) l2 ?_
    refine i_211_50 (v := Value.int y) ha2 (by omega) (by omega) (by rw [ei]; exact hy) ?_
    refine i_211_51 (fun hxy => ?_) (fun hxy => ?_)
    · refine i_211_75 (c := i + (-1)) l2 rfl rfl ?_
      refine i_211_78 ?_
      refine ih _ (i + (-1)) (xld_n1 rfl rfl l0) (xld_n1 rfl rfl l1) xld_s1 ?_ (by omega) (fun j j1 j2 => ?_)
      · rw [xadd_g rfl (show ((-1) : Int32).toInt = -1 from rfl) (by omega) (by omega)]; omega
      · by_cases ej : j = k
        · subst ej; omega
        · exact hs j (by omega) j2
    · refine i_211_54 (x := h) l0 ?_
      refine i_211_55 (v := Value.ref a) hw rfl ?_
      refine i_211_58 (x := i) l2 ?_
      refine i_211_59 (v := Value.int x) ha (by omega) (by omega) (by rw [ei]; exact hx) ?_
      refine i_211_60 (x := h2) l1 ?_
      refine i_211_61 (v := Value.ref a2) hw2 rfl ?_
      refine i_211_64 (x := i) l2 ?_
      refine i_211_65 (v := Value.int y) ha2 (by omega) (by omega) (by rw [ei]; exact hy) ?_
      refine i_211_66 (fun hge => ?_) (fun hlt => ?_)
      · refine i_211_73 ?_
        refine i_211_74 ?_
        have := xvl_less (g := g2) (g' := g) (k := k) (fun j hj => hi2 j (by omega)) (by omega)
        have e1 : xcm (xvl g n) (xvl g2 n) = 1 := by unfold xcm; rw [if_neg (by omega), if_neg (by omega)]
        rw [e1] at hQ
        exact hQ
      · refine i_211_69 ?_
        refine i_211_70 ?_
        refine i_211_74 ?_
        have := xvl_less (g := g) (g' := g2) (k := k) (fun j hj => hi j (by omega)) (by omega)
        have e1 : xcm (xvl g n) (xvl g2 n) = -1 := by unfold xcm; rw [if_pos (by omega)]
        rw [e1] at hQ
        exact hQ
theorem xvl_ge {g : Nat → Value} {n : Nat} (h : n ≠ 0) (ht : n = 0 ∨ xwd g (n - 1) ≠ 0) : 2 ^ (30 * (n - 1)) ≤ xvl g n := by
  obtain ⟨k, rfl⟩ : ∃ k, n = k + 1 := ⟨n - 1, by omega⟩
  have ht : xwd g k ≠ 0 := by
    rcases ht with e | e
    · exact absurd e (by omega)
    · exact e
  show 2 ^ (30 * k) ≤ xvl g k + xwd g k * 2 ^ (30 * k)
  have : 1 * 2 ^ (30 * k) ≤ xwd g k * 2 ^ (30 * k) := Nat.mul_le_mul_right _ (by omega)
  omega
theorem xvl_short {g g2 : Nat → Value} {n n2 : Nat} (hi : ∀ j, j < n → xiw g j) (ht2 : n2 = 0 ∨ xwd g2 (n2 - 1) ≠ 0) (h : n < n2) : xvl g n < xvl g2 n2 := by
  have h1 := xvl_lt hi
  have h2 := xvl_ge (by omega) ht2
  have h3 : 2 ^ (30 * n) ≤ 2 ^ (30 * (n2 - 1)) := Nat.pow_le_pow_right (by omega) (by omega)
  omega
/-- compare -/
theorem cmp_ev {d h a c h2 a2 c2 n n2 : Nat} {w : xW} {g g2 : Nat → Value} {Q : Option Value ⊕ Nat → xW → Prop} (hc : c < 2147483648) (hc2 : c2 < 2147483648) (hw : w[h]? = some (.inr (13, [.ref a, .int (Int32.ofNat n)]))) (ha : w[a]? = some (.inl (0, c, g))) (hw2 : w[h2]? = some (.inr (13, [.ref a2, .int (Int32.ofNat n2)]))) (ha2 : w[a2]? = some (.inl (0, c2, g2))) (hn : n ≤ c) (hn2 : n2 ≤ c2) (hi : ∀ j, j < n → xiw g j) (hi2 : ∀ j, j < n2 → xiw g2 j) (ht : n = 0 ∨ xwd g (n - 1) ≠ 0) (ht2 : n2 = 0 ∨ xwd g2 (n2 - 1) ≠ 0) (hQ : Q (.inl (some (.int (xcm (xvl g n) (xvl g2 n2))))) w) :
    xEv d 211 0 (lv_args 0 [.ref h, .ref h2]) [] w Q := by
  have e1 := xof_i (k := n) (by omega)
  have e2 := xof_i (k := n2) (by omega)
  refine i_211_0 (x := h) rfl ?_
  refine i_211_1 (v := Value.int (Int32.ofNat n)) hw rfl ?_
  refine i_211_4 (x := h2) rfl ?_
  refine i_211_5 (v := Value.int (Int32.ofNat n2)) hw2 rfl ?_
  refine i_211_8 (fun c0 => ?_) (fun c0 => ?_)
  · have en : n2 = n := by omega
    subst en
    refine i_211_28 (x := h) rfl ?_
    refine i_211_29 (v := Value.int (Int32.ofNat n2)) hw rfl ?_
    refine i_211_32 ?_
    refine i_211_33 (c := Int32.ofNat n2 - (1 : Int32)) rfl ?_
    refine i_211_34 (lv2 := [(2, Value.int (Int32.ofNat n2 - (1 : Int32))), (0, Value.ref h), (1, Value.ref h2)]) rfl ?_
    refine cmp_loop (by omega) hw ha hw2 ha2 hn hn2 hi hi2 hQ n2 _ (Int32.ofNat n2 - (1 : Int32)) rfl rfl rfl ?_ (Nat.le_refl _) (fun j h1 h2 => absurd h2 (by omega))
    rw [xsub_g e1 (show (1 : Int32).toInt = 1 from rfl) (by omega) (by omega)]
  · refine i_211_11 (x := h) rfl ?_
    refine i_211_12 (v := Value.int (Int32.ofNat n)) hw rfl ?_
    refine i_211_15 (x := h2) rfl ?_
    refine i_211_16 (v := Value.int (Int32.ofNat n2)) hw2 rfl ?_
    refine i_211_19 (fun c1 => ?_) (fun c1 => ?_)
    · refine i_211_26 ?_
      refine i_211_27 ?_
      have := xvl_short hi2 ht (show n2 < n by omega)
      have e : xcm (xvl g n) (xvl g2 n2) = 1 := by unfold xcm; rw [if_neg (by omega), if_neg (by omega)]
      rw [e] at hQ
      exact hQ
    · refine i_211_22 ?_
      refine i_211_23 ?_
      refine i_211_27 ?_
      have := xvl_short hi ht2 (show n < n2 by omega)
      have e : xcm (xvl g n) (xvl g2 n2) = -1 := by unfold xcm; rw [if_pos (by omega)]
      rw [e] at hQ
      exact hQ
