/-! times: a natural times an int -/
theorem lg_i (x y : Int64) : (x.toInt < y.toInt ∧ (lg_cmp x y).toInt = -1) ∨ (x.toInt = y.toInt ∧ (lg_cmp x y).toInt = 0) ∨ (y.toInt < x.toInt ∧ (lg_cmp x y).toInt = 1) := by
  unfold lg_cmp
  split
  · rename_i h
    exact Or.inr (Or.inr ⟨Int64.lt_iff_toInt_lt.mp h, rfl⟩)
  · rename_i h
    have h1 : ¬ y.toInt < x.toInt := fun e => h (Int64.lt_iff_toInt_lt.mpr e)
    split
    · rename_i e
      subst e
      exact Or.inr (Or.inl ⟨rfl, rfl⟩)
    · rename_i e
      have h2 : x.toInt ≠ y.toInt := fun e2 => e (Int64.toInt_inj.mp e2)
      exact Or.inl ⟨by omega, rfl⟩
theorem xvl_low {g : Nat → Value} {n : Nat} (hn : 0 < n) (ht : xwd g (n - 1) ≠ 0) : 2 ^ (30 * (n - 1)) ≤ xvl g n := by
  obtain ⟨m, rfl⟩ : ∃ m, n = m + 1 := ⟨n - 1, by omega⟩
  show _ ≤ xvl g m + xwd g m * 2 ^ (30 * m)
  have h1 : 1 * 2 ^ (30 * m) ≤ xwd g m * 2 ^ (30 * m) := Nat.mul_le_mul_right _ (Nat.one_le_iff_ne_zero.mpr ht)
  rw [Nat.one_mul] at h1
  show 2 ^ (30 * m) ≤ _
  omega
theorem xtop_of {g : Nat → Value} {n : Nat} (hn : 0 < n) (hi : ∀ j, j < n → xiw g j) (h : 2 ^ (30 * (n - 1)) ≤ xvl g n) : xwd g (n - 1) ≠ 0 := by
  obtain ⟨m, rfl⟩ : ∃ m, n = m + 1 := ⟨n - 1, by omega⟩
  intro e
  have e2 : xwd g m = 0 := e
  have h1 : xvl g (m + 1) = xvl g m + xwd g m * 2 ^ (30 * m) := rfl
  have h2 := xvl_lt (g := g) (n := m) fun j hj => hi j (by omega)
  rw [e2, Nat.zero_mul] at h1
  have h3 : 2 ^ (30 * m) ≤ xvl g (m + 1) := h
  omega
theorem times_loop {d h a c n v : Nat} {w : xW} {oh oa : xC} {g : Nat → Value} {Q : Option Value ⊕ Nat → xW → Prop} (hc : c < 2147483648) (hne : h ≠ a) (a7 : 7 ≤ a) (hw : w[h]? = some oh) (ha : w[a]? = some oa) (hn : n ≤ c) (hv : v < 1073741824)
    (hQ : ∀ (lv : xLv) (G : Nat → Value) (b : Int64), xld lv 0 = some (.ref h) → xld lv 2 = some (.long b) → xul b < 1073741824 → (∀ j, j < n → xiw G j) → xvl G n + xul b * 2 ^ (30 * n) = xvl g n * v → xEv d 209 54 lv [] (xput w h a c n G) Q) (m : Nat) :
    ∀ (k : Nat) (b : Int64) (lv : xLv) (G : Nat → Value), k + m = n → xld lv 0 = some (.ref h) → xld lv 1 = some (.int (Int32.ofNat v)) → xld lv 2 = some (.long b) → xld lv 4 = some (.int (Int32.ofNat k)) → xul b < 1073741824 → (∀ j, k ≤ j → G j = g j) → (∀ j, j < n → xiw G j) → xvl G k + xul b * 2 ^ (30 * k) = xvl g k * v → xEv d 209 5 lv [] (xput w h a c n G) Q := by
  induction m with
  | zero =>
    intro k b lv G hk l0 l1 l2 l4 hb hG hGi hval
    have ek : k = n := by omega
    subst ek
    have hh := xput_h (c := c) (n := k) (g := G) hw hne
    refine i_209_5 (x := Int32.ofNat k) l4 ?_
    refine i_209_7 (x := h) l0 ?_
    refine i_209_8 (v := Value.int (Int32.ofNat k)) hh rfl ?_
    exact i_209_11 (fun _ => hQ lv G b l0 l2 hb hGi hval) (fun g => absurd g (by omega))
  | succ m ih =>
    intro k b lv G hk l0 l1 l2 l4 hb hG hGi hval
    have ek := xof_i (k := k) (by omega)
    have en := xof_i (k := n) (by omega)
    have hvi := xof_i (k := v) (by omega)
    have hh := xput_h (c := c) (n := n) (g := G) hw hne
    have hha := xput_a (c := c) (n := n) (g := G) ha hne
    have tk : (Int32.ofNat k).toInt.toNat = k := by omega
    obtain ⟨x, hx, x0, x1⟩ := hGi k (by omega)
    have ux := xun_i x0
    have hP : xun x * v ≤ 1073741823 * 1073741823 := Nat.mul_le_mul (by omega) (by omega)
    have e1 : xul (x.toInt64 * (Int32.ofNat v).toInt64) = xun x * v := by
      rw [xul_mul (by rw [xul_ext x0, xul_ext (by omega), xun_of (by omega)]; omega), xul_ext x0, xul_ext (by omega), xun_of (by omega)]
    have e2 : xul (x.toInt64 * (Int32.ofNat v).toInt64 + b) = xun x * v + xul b := by rw [xul_add (by omega), e1]
    obtain ⟨u, hu⟩ : ∃ u, x.toInt64 * (Int32.ofNat v).toInt64 + b = u := ⟨_, rfl⟩
    rw [hu] at e2
    have hs : xul (u >>> ((30 : Int32).toInt64 &&& 63)) = xul u / 2 ^ 30 := xul_shr (by omega) rfl (by decide)
    have hq := xq_w u
    obtain ⟨z, hz⟩ : ∃ z, u.toInt32 &&& (1073741823 : Int32) = z := ⟨_, rfl⟩
    rw [hz] at hq
    obtain ⟨b', hb'⟩ : ∃ b', u >>> ((30 : Int32).toInt64 &&& 63) = b' := ⟨_, rfl⟩
    rw [hb'] at hs
    refine i_209_5 (x := Int32.ofNat k) l4 ?_
    refine i_209_7 (x := h) l0 ?_
    refine i_209_8 (v := Value.int (Int32.ofNat n)) hh rfl ?_
    refine i_209_11 (fun c0 => absurd c0 (by omega)) (fun c0 => ?_)
    refine i_209_14 (x := h) l0 ?_
    refine i_209_15 (v := Value.ref a) hh rfl ?_
    refine i_209_18 (x := Int32.ofNat k) l4 ?_
    refine i_209_20 (v := Value.int x) hha (by omega) (by omega) (by rw [tk]; exact hx) ?_
    refine i_209_21 (c := x.toInt64) rfl ?_
    refine i_209_22 (x := Int32.ofNat v) l1 ?_
    refine i_209_23 (c := (Int32.ofNat v).toInt64) rfl ?_
    refine i_209_24 rfl ?_
    refine i_209_25 (x := b) l2 ?_
    refine i_209_26 (c := u) hu ?_
    refine i_209_27 rfl ?_
    have q0 := xld_n2 (i := 5) (v := .long u) rfl rfl l0
    have q1 := xld_n2 (i := 5) (v := .long u) rfl rfl l1
    have q4 := xld_n2 (i := 5) (v := .long u) rfl rfl l4
    have q5 : xld (xst2 lv 5 (.long u)) 5 = some (.long u) := xld_s2
    refine i_209_29 (x := h) q0 ?_
    refine i_209_30 (v := Value.ref a) hh rfl ?_
    refine i_209_33 (x := Int32.ofNat k) q4 ?_
    refine i_209_35 (x := u) q5 ?_
    refine i_209_37 rfl ?_
    refine i_209_38 ?_
    refine i_209_40 (c := z) hz ?_
    refine i_209_41 (v := Value.int z) hha (by omega) (by omega) a7 rfl ?_
    rw [xput_arr hne, tk]
    refine i_209_42 (x := u) q5 ?_
    refine i_209_44 ?_
    refine i_209_46 (c := b') hb' ?_
    refine i_209_47 rfl ?_
    refine i_209_48 (x := Int32.ofNat k) (c := Int32.ofNat (k + 1)) (xld_n2 rfl rfl q4) xof_succ rfl ?_
    refine i_209_51 ?_
    refine ih (k + 1) b' _ _ (by omega) (xld_n1 rfl rfl (xld_n2 rfl rfl q0)) (xld_n1 rfl rfl (xld_n2 rfl rfl q1)) (xld_n1 rfl rfl xld_s2) xld_s1 (by omega) (fun j hj => (xup_ne (by omega)).trans (hG j (by omega))) (xiw_up hGi hq.1 hq.2.1) ?_
    show xvl (xup G k _) k + xwd (xup G k _) k * 2 ^ (30 * k) + _ = (xvl g k + xwd g k * 2 ^ (30 * k)) * v
    rw [xvl_same (g' := G) fun j hj => xup_ne (by omega), xwd_int (x := z) xup_eq, hq.2.2, xwd_int ((hG k (Nat.le_refl _)).symm.trans hx), hs, Nat.add_mul, ← hval]
    have dm := Nat.div_add_mod (xul u) 1073741824
    have e3 : (1073741824 * (xul u / 1073741824) + xul u % 1073741824) * 2 ^ (30 * k) = (xun x * v + xul b) * 2 ^ (30 * k) := by rw [dm, e2]
    rw [Nat.add_mul, Nat.add_mul] at e3
    have e4 : xul u / 2 ^ 30 * 2 ^ (30 * (k + 1)) = 1073741824 * (xul u / 1073741824) * 2 ^ (30 * k) := by
      rw [show 30 * (k + 1) = 30 * k + 30 by omega, Nat.pow_add, Nat.mul_comm (2 ^ (30 * k)), ← Nat.mul_assoc, Nat.mul_comm _ (2 ^ 30)]
    have e5 : xun x * 2 ^ (30 * k) * v = xun x * v * 2 ^ (30 * k) := Nat.mul_right_comm ..
    rw [e4, e5]
    omega
/-- times -/
theorem times_ev {d h a c n v : Nat} {w : xW} {g : Nat → Value} {Q : Option Value ⊕ Nat → xW → Prop} (hc : c < 2147483648) (hne : h ≠ a) (h7 : 7 ≤ h) (a7 : 7 ≤ a) (hw : w[h]? = some (.inr (13, [.ref a, .int (Int32.ofNat n)]))) (ha : w[a]? = some (.inl (0, c, g))) (hn : n + 1 ≤ c) (hv : v < 1073741824) (hv1 : 1 ≤ v) (hi : ∀ j, j < n → xiw g j) (ht : n = 0 ∨ xwd g (n - 1) ≠ 0)
    (hQ : ∀ (n' : Nat) (g' : Nat → Value), n' ≤ n + 1 → (∀ j, j < n' → xiw g' j) → xvl g' n' = xvl g n * v → (n' = 0 ∨ xwd g' (n' - 1) ≠ 0) → Q (.inl none) (xput w h a c n' g')) :
    xEv d 209 0 (lv_args 0 [.ref h, .int (Int32.ofNat v)]) [] w Q := by
  refine i_209_0 ?_
  refine i_209_1 rfl ?_
  refine i_209_2 ?_
  refine i_209_3 rfl ?_
  refine xEv.world (xput_self hw ha).symm ?_
  refine times_loop (g := g) hc hne a7 hw ha (by omega) hv ?_ n 0 0 _ g (by omega) rfl rfl rfl rfl (by decide) (fun _ _ => rfl) hi (by
    show 0 + 0 * _ = 0 * v
    omega)
  intro lv G b l0 l2 hb hGi hval
  have en := xof_i (k := n) (by omega)
  have hh := xput_h (c := c) (n := n) (g := G) hw hne
  have hha := xput_a (c := c) (n := n) (g := G) ha hne
  have bi := xul_p (x := b) (by omega)
  refine i_209_54 (x := b) l2 ?_
  refine i_209_55 ?_
  refine i_209_56 rfl ?_
  have z0 : (0 : Int64).toInt = 0 := rfl
  refine i_209_57 (fun c0 => ?_) (fun c0 => ?_)
  · have hb0 : xul b = 0 := by
      rcases lg_i b 0 with e | e | e <;> omega
    rw [hb0, Nat.zero_mul, Nat.add_zero] at hval
    refine i_209_92 (hQ n G (by omega) hGi hval ?_)
    rcases ht with h1 | h1
    · exact Or.inl h1
    · rcases Nat.eq_zero_or_pos n with h2 | h2
      · exact Or.inl h2
      · refine Or.inr (xtop_of h2 hGi ?_)
        have h3 := xvl_low h2 h1
        have h4 : xvl g n * 1 ≤ xvl g n * v := Nat.mul_le_mul_left _ hv1
        omega
  · have hb0 : xul b ≠ 0 := by
      rcases lg_i b 0 with e | e | e <;> omega
    have hs : xul (b >>> ((30 : Int32).toInt64 &&& 63)) = xul b / 2 ^ 30 := xul_shr (by omega) rfl (by decide)
    have hq := xq_w b
    obtain ⟨z, hz⟩ : ∃ z, b.toInt32 &&& (1073741823 : Int32) = z := ⟨_, rfl⟩
    rw [hz, Nat.mod_eq_of_lt hb] at hq
    have hs0 : b >>> ((30 : Int32).toInt64 &&& 63) = 0 := xul_z.mp (by rw [hs]; exact Nat.div_eq_of_lt hb)
    refine i_209_60 (x := h) l0 ?_
    refine i_209_61 (v := Value.ref a) hh rfl ?_
    refine i_209_64 (x := h) l0 ?_
    refine i_209_65 (v := Value.int (Int32.ofNat n)) hh rfl ?_
    refine i_209_68 (x := b) l2 ?_
    refine i_209_69 rfl ?_
    refine i_209_70 ?_
    refine i_209_72 (c := z) hz ?_
    refine i_209_73 (v := Value.int z) hha (by omega) (by omega) a7 rfl ?_
    rw [xput_arr hne, show (Int32.ofNat n).toInt.toNat = n by omega]
    have hh2 := xput_h (c := c) (n := n) (g := xup G n (.int z)) hw hne
    refine i_209_74 (x := b) l2 ?_
    refine i_209_75 ?_
    refine i_209_77 (c := 0) hs0 ?_
    refine i_209_78 rfl ?_
    refine i_209_79 (x := h) (xld_n2 rfl rfl l0) ?_
    refine i_209_80 rfl ?_
    refine i_209_81 (v := Value.int (Int32.ofNat n)) hh2 rfl ?_
    refine i_209_84 ?_
    refine i_209_85 (c := Int32.ofNat (n + 1)) xof_succ ?_
    refine i_209_86 (fs2 := [.ref a, .int (Int32.ofNat (n + 1))]) hh2 (Nat.le_of_ble_eq_true rfl) rfl h7 ?_
    rw [xput_obj]
    refine i_209_89 ?_
    refine i_209_54 (x := 0) xld_s2 ?_
    refine i_209_55 ?_
    refine i_209_56 rfl ?_
    refine i_209_57 (fun _ => ?_) (fun c1 => absurd c1 (by decide))
    refine i_209_92 (hQ (n + 1) _ (by omega) (fun j hj => ?_) ?_ (Or.inr ?_))
    · by_cases e : j = n
      · subst e; exact ⟨z, xup_eq, hq.1, hq.2.1⟩
      · obtain ⟨y, y1, y2⟩ := hGi j (by omega)
        exact ⟨y, (xup_ne e).trans y1, y2⟩
    · show xvl (xup G n _) n + xwd (xup G n _) n * 2 ^ (30 * n) = _
      rw [xvl_same (g' := G) fun j hj => xup_ne (by omega), xwd_int (x := z) xup_eq, hq.2.2]
      exact hval
    · show xwd _ n ≠ 0
      rw [xwd_int (x := z) xup_eq, hq.2.2]
      exact hb0
