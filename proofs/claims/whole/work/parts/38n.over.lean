/-! over: a natural divided by an int -/
theorem over_loop {d h a c n v : Nat} {w : xW} {oh oa : xC} {g : Nat → Value} {Q : Option Value ⊕ Nat → xW → Prop} (hc : c < 2147483648) (hne : h ≠ a) (a7 : 7 ≤ a) (hw : w[h]? = some oh) (ha : w[a]? = some oa) (hn : n ≤ c) (hv : v < 1073741824) (hv1 : 1 ≤ v)
    (hQ : ∀ (lv : xLv) (G : Nat → Value) (b : Int64), xld lv 0 = some (.ref h) → xld lv 2 = some (.long b) → xul b < v → (∀ j, j < n → xiw G j) → xvl G n * v + xul b = xvl g n → xEv d 210 55 lv [] (xput w h a c n G) Q) (j : Nat) :
    ∀ (b : Int64) (i : Int32) (lv : xLv) (G : Nat → Value), j ≤ n → i.toInt = (j : Int) - 1 → xld lv 0 = some (.ref h) → xld lv 1 = some (.int (Int32.ofNat v)) → xld lv 2 = some (.long b) → xld lv 4 = some (.int i) → xul b < v → (∀ x, x < j → G x = g x) → (∀ x, x < n → xiw G x) → xsv G j (n - j) * v + xul b = xsv g j (n - j) → xEv d 210 10 lv [] (xput w h a c n G) Q := by
  induction j with
  | zero =>
    intro b i lv G hj hi l0 l1 l2 l4 hb hG hGi hval
    refine i_210_10 (x := i) l4 ?_
    refine i_210_12 (fun _ => hQ lv G b l0 l2 hb hGi ?_) (fun e => absurd e (by omega))
    rw [Nat.sub_zero, xsv_zero, xsv_zero] at hval
    exact hval
  | succ t ih =>
    intro b i lv G hj hi l0 l1 l2 l4 hb hG hGi hval
    have hvi := xof_i (k := v) (by omega)
    have hh := xput_h (c := c) (n := n) (g := G) hw hne
    have hha := xput_a (c := c) (n := n) (g := G) ha hne
    have ti : i.toInt.toNat = t := by omega
    obtain ⟨x, hx, x0, x1⟩ := hGi t (by omega)
    have hgx : g t = .int x := (hG t (by omega)).symm.trans hx
    have ux := xun_i x0
    have e1 : xul (b <<< ((30 : Int32).toInt64 &&& 63)) = xul b * 2 ^ 30 := xul_shl rfl (by decide) (by omega)
    have e2 : xul (b <<< ((30 : Int32).toInt64 &&& 63) ||| x.toInt64) = xul b * 1073741824 + xun x := by
      rw [xul_or, e1, xul_ext x0, xor_add (p := 30) (Nat.mul_mod_left _ _) (by omega)]
    obtain ⟨u, hu⟩ : ∃ u, b <<< ((30 : Int32).toInt64 &&& 63) ||| x.toInt64 = u := ⟨_, rfl⟩
    rw [hu] at e2
    have ev : xul (Int32.ofNat v).toInt64 = v := by rw [xul_ext (by omega), xun_of (by omega)]
    have hz0 : (Int32.ofNat v).toInt64 ≠ 0 := fun e => by rw [e] at ev; have : xul (0 : Int64) = 0 := rfl; omega
    have hd := xul_div (a := u) (b := (Int32.ofNat v).toInt64) (by omega) (by omega) (by omega)
    have hm := xul_rem (a := u) (b := (Int32.ofNat v).toInt64) (by omega) (by omega) (by omega)
    rw [ev] at hd hm
    have hql : xul u / v < 1073741824 := by
      apply Nat.div_lt_of_lt_mul
      have : (xul b + 1) * 1073741824 ≤ v * 1073741824 := Nat.mul_le_mul_right _ hb
      omega
    have hml : xul u % v < v := Nat.mod_lt _ hv1
    obtain ⟨z, hz⟩ : ∃ z, (u / (Int32.ofNat v).toInt64).toInt32 = z := ⟨_, rfl⟩
    have hzn : xun z = xul u / v := by
      have := xlo_n (u / (Int32.ofNat v).toInt64)
      unfold xlo at this
      rw [hz, hd] at this
      omega
    have hzi := xun_p (x := z) (by omega)
    obtain ⟨b', hb'⟩ : ∃ b', u - u / (Int32.ofNat v).toInt64 * (Int32.ofNat v).toInt64 = b' := ⟨_, rfl⟩
    rw [hb'] at hm
    refine i_210_10 (x := i) l4 ?_
    refine i_210_12 (fun e => absurd e (by omega)) (fun c0 => ?_)
    refine i_210_15 (x := b) l2 ?_
    refine i_210_16 ?_
    refine i_210_18 rfl ?_
    refine i_210_19 (x := h) l0 ?_
    refine i_210_20 (v := Value.ref a) hh rfl ?_
    refine i_210_23 (x := i) l4 ?_
    refine i_210_25 (v := Value.int x) hha c0 (by omega) (by rw [ti]; exact hx) ?_
    refine i_210_26 rfl ?_
    refine i_210_27 (c := u) hu ?_
    refine i_210_28 rfl ?_
    have q0 := xld_n2 (i := 5) (v := .long u) rfl rfl l0
    have q1 := xld_n2 (i := 5) (v := .long u) rfl rfl l1
    have q4 := xld_n2 (i := 5) (v := .long u) rfl rfl l4
    have q5 : xld (xst2 lv 5 (.long u)) 5 = some (.long u) := xld_s2
    refine i_210_30 (x := h) q0 ?_
    refine i_210_31 (v := Value.ref a) hh rfl ?_
    refine i_210_34 (x := i) q4 ?_
    refine i_210_36 (x := u) q5 ?_
    refine i_210_38 (x := Int32.ofNat v) q1 ?_
    refine i_210_39 rfl ?_
    refine i_210_40 hz0 rfl ?_
    refine i_210_41 (c := z) hz ?_
    refine i_210_42 (v := Value.int z) hha c0 (by omega) a7 rfl ?_
    rw [xput_arr hne, ti]
    refine i_210_43 (x := u) q5 ?_
    refine i_210_45 (x := Int32.ofNat v) q1 ?_
    refine i_210_46 rfl ?_
    refine i_210_47 (c := b') hz0 hb' ?_
    refine i_210_48 rfl ?_
    refine i_210_49 (x := i) (c := i + (-1)) (xld_n2 rfl rfl q4) rfl rfl ?_
    refine i_210_52 ?_
    refine ih b' (i + (-1)) _ _ (by omega) ?_ (xld_n1 rfl rfl (xld_n2 rfl rfl q0)) (xld_n1 rfl rfl (xld_n2 rfl rfl q1)) (xld_n1 rfl rfl xld_s2) xld_s1 (by omega) (fun y hy => (xup_ne (by omega)).trans (hG y (by omega))) (xiw_up hGi (by omega) (by omega)) ?_
    · rw [xadd_g rfl (show ((-1) : Int32).toInt = -1 from rfl) (by omega) (by omega)]; omega
    · have en : n - t = (n - (t + 1)) + 1 := by omega
      rw [en, xsv_cons, xsv_cons, xwd_int hgx, xwd_int (x := z) xup_eq, xsv_same (g' := G) fun y y1 _ => xup_ne (by omega), ← hval, hzn, hm, Nat.add_mul, Nat.mul_add, Nat.mul_assoc]
      have dm := Nat.div_add_mod (xul u) v
      rw [Nat.mul_comm] at dm
      omega
/-- over -/
theorem over_ev {d h a c n v : Nat} {w : xW} {g : Nat → Value} {Q : Option Value ⊕ Nat → xW → Prop} (hc : c < 2147483648) (hne : h ≠ a) (h7 : 7 ≤ h) (a7 : 7 ≤ a) (hw : w[h]? = some (.inr (13, [.ref a, .int (Int32.ofNat n)]))) (ha : w[a]? = some (.inl (0, c, g))) (hn : n ≤ c) (hv : v < 1073741824) (hv1 : 1 ≤ v) (hi : ∀ j, j < n → xiw g j)
    (hQ : ∀ (n' : Nat) (g' : Nat → Value), n' ≤ n → (∀ j, j < n' → xiw g' j) → xvl g' n' = xvl g n / v → (n' = 0 ∨ xwd g' (n' - 1) ≠ 0) → Q (.inl (some (.int (Int32.ofNat (xvl g n % v))))) (xput w h a c n' g')) :
    xEv (d + 1) 210 0 (lv_args 0 [.ref h, .int (Int32.ofNat v)]) [] w Q := by
  have en := xof_i (k := n) (by omega)
  refine i_210_0 ?_
  refine i_210_1 rfl ?_
  refine i_210_2 (x := h) rfl ?_
  refine i_210_3 (v := Value.int (Int32.ofNat n)) hw rfl ?_
  refine i_210_6 ?_
  refine i_210_7 (c := Int32.ofNat n - (1 : Int32)) rfl ?_
  refine i_210_8 rfl ?_
  refine xEv.world (xput_self hw ha).symm ?_
  refine over_loop (g := g) hc hne a7 hw ha hn hv hv1 ?_ n 0 (Int32.ofNat n - (1 : Int32)) _ g (Nat.le_refl _) ?_ rfl rfl rfl rfl (by show 0 < v; omega) (fun _ _ => rfl) hi ?_
  · intro lv G b l0 l2 hb hGi hval
    have hh := xput_h (c := c) (n := n) (g := G) hw hne
    have hha := xput_a (c := c) (n := n) (g := G) ha hne
    refine i_210_55 (x := h) l0 ?_
    refine i_210_56 (x := h) l0 ?_
    refine i_210_57 (v := Value.int (Int32.ofNat n)) hh rfl ?_
    have htr := trim_ev (d := d) (n0 := Int32.ofNat n) (k := n) (Q := fun o w1 => o = .inl none ∧ ∃ n', n' ≤ n ∧ xvl G n' = xvl G n ∧ (n' = 0 ∨ xwd G (n' - 1) ≠ 0) ∧ w1 = xput w h a c n' G) hne h7 hc hh hha hn hGi (fun n' h1 h2 h3 => ⟨rfl, n', h1, h2, h3, xput_obj⟩)
    obtain ⟨o, w1, hr, ho, n', h1, h2, h3, e⟩ := htr.run
    subst ho
    subst e
    refine i_210_60 hh (Nat.le_of_ble_eq_true rfl) hr ?_
    have ed : xvl g n / v = xvl G n := by
      rw [← hval, Nat.mul_comm, Nat.mul_add_div (by omega), Nat.div_eq_of_lt hb, Nat.add_zero]
    have em : xvl g n % v = xul b := by
      rw [← hval, Nat.mul_comm, Nat.mul_add_mod, Nat.mod_eq_of_lt hb]
    refine i_210_63 (x := b) l2 ?_
    refine i_210_64 (c := Int32.ofNat (xul b)) (xun_inj ?_) ?_
    · have := xlo_n b
      unfold xlo at this
      rw [this, xun_of (by omega)]
      omega
    · refine i_210_65 ?_
      rw [← em]
      exact hQ n' G h1 (fun j hj => hGi j (by omega)) (h2.trans ed.symm) h3
  · rw [xsub_g en (show (1 : Int32).toInt = 1 from rfl) (by omega) (by omega)]
  · rw [Nat.sub_self]
    show 0 * v + 0 = 0
    omega
