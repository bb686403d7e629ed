/-- product: the rows -/
theorem prod_out {d h a c n x ax cx p y ay cy q : Nat} {w : xW} {oa : xC} {gx gy : Nat → Value} {Q : Option Value ⊕ Nat → xW → Prop} (hc : c < 2147483648) (hcx : cx < 2147483648) (hcy : cy < 2147483648) (hne : h ≠ a) (hxa : x ≠ a) (haxa : ax ≠ a) (hya : y ≠ a) (haya : ay ≠ a) (a7 : 7 ≤ a) (hw : w[h]? = some (.inr (13, [.ref a, .int (Int32.ofNat n)]))) (ha : w[a]? = some oa) (hx : w[x]? = some (.inr (13, [.ref ax, .int (Int32.ofNat p)]))) (hax : w[ax]? = some (.inl (0, cx, gx))) (hy : w[y]? = some (.inr (13, [.ref ay, .int (Int32.ofNat q)]))) (hay : w[ay]? = some (.inl (0, cy, gy))) (hp : p ≤ cx) (hq : q ≤ cy) (hix : ∀ j, j < p → xiw gx j) (hiy : ∀ j, j < q → xiw gy j) (hr : p + q ≤ c)
    (hQ : ∀ (lv : xLv) (G : Nat → Value), xld lv 0 = some (.ref h) → xld lv 1 = some (.ref x) → xld lv 2 = some (.ref y) → (∀ j, j < p + q → xiw G j) → xvl G (p + q) = xvl gx p * xvl gy q → xEv d 201 127 lv [] (w.set a (.inl (0, c, G))) Q) (m : Nat) :
    ∀ (i : Nat) (lv : xLv) (G : Nat → Value), i + m = p → xld lv 0 = some (.ref h) → xld lv 1 = some (.ref x) → xld lv 2 = some (.ref y) → xld lv 3 = some (.int (Int32.ofNat i)) → (∀ j, j < i + q → xiw G j) → xvl G (i + q) = xvl gx i * xvl gy q → xEv d 201 20 lv [] (w.set a (.inl (0, c, G))) Q := by
  induction m with
  | zero =>
    intro i lv G hi l0 l1 l2 l3 hGi hval
    have e : i = p := by omega
    subst e
    refine i_201_20 (x := Int32.ofNat i) l3 ?_
    refine i_201_21 (x := x) l1 ?_
    refine i_201_22 (v := Value.int (Int32.ofNat i)) (xgn (fun e => hxa e.symm) hx) rfl ?_
    exact i_201_25 (fun _ => hQ lv G l0 l1 l2 hGi hval) (fun e => absurd e (by omega))
  | succ m ih =>
    intro i lv G hi l0 l1 l2 l3 hGi hval
    have ei := xof_i (k := i) (by omega)
    have ep := xof_i (k := p) (by omega)
    have eiq := xof_i (k := i + q) (by omega)
    have hx' : (w.set a (.inl (0, c, G)))[x]? = some (.inr (13, [.ref ax, .int (Int32.ofNat p)])) := xgn (fun e => hxa e.symm) hx
    have hax' : (w.set a (.inl (0, c, G)))[ax]? = some (.inl (0, cx, gx)) := xgn (fun e => haxa e.symm) hax
    obtain ⟨f, hf, f0, f1⟩ := hix i (by omega)
    have uf := xun_i f0
    refine i_201_20 (x := Int32.ofNat i) l3 ?_
    refine i_201_21 (x := x) l1 ?_
    refine i_201_22 (v := Value.int (Int32.ofNat p)) hx' rfl ?_
    refine i_201_25 (fun e => absurd e (by omega)) (fun c0 => ?_)
    refine i_201_28 ?_
    refine i_201_29 rfl ?_
    have q0 := xld_n2 (i := 4) (v := .long 0) rfl rfl l0
    have q1 := xld_n2 (i := 4) (v := .long 0) rfl rfl l1
    have q2 := xld_n2 (i := 4) (v := .long 0) rfl rfl l2
    have q3 := xld_n2 (i := 4) (v := .long 0) rfl rfl l3
    refine i_201_31 (x := x) q1 ?_
    refine i_201_32 (v := Value.ref ax) hx' rfl ?_
    refine i_201_35 (x := Int32.ofNat i) q3 ?_
    refine i_201_36 (v := Value.int f) hax' (by omega) (by omega) (by rw [show (Int32.ofNat i).toInt.toNat = i by omega]; exact hf) ?_
    refine i_201_37 rfl ?_
    refine i_201_38 rfl ?_
    refine i_201_40 ?_
    refine i_201_41 rfl ?_
    refine prod_in (x1 := x) (fn := xun f) (F := f.toInt64) (G0 := G) hc hcy hne hya haya a7 hw ha hy hay hq hiy (xul_ext f0) (by omega) (show i + q ≤ c by omega) ?_ q 0 0 _ G (by omega) (xld_n1 rfl rfl (xld_n2 rfl rfl q0)) (xld_n1 rfl rfl (xld_n2 rfl rfl q1)) (xld_n1 rfl rfl (xld_n2 rfl rfl q2)) (xld_n1 rfl rfl (xld_n2 rfl rfl q3)) (xld_n1 rfl rfl (xld_n2 rfl rfl xld_s2)) (xld_n1 rfl rfl xld_s2) xld_s1 (by decide) (fun _ _ => rfl) hGi (by
      show 0 + 0 * _ = 0 + _ * 0
      omega)
    intro lv2 G2 b k0 k1 k2 k3 k4 hb hG2 hG2i hv2
    have hw2 : (w.set a (.inl (0, c, G2)))[h]? = some (.inr (13, [.ref a, .int (Int32.ofNat n)])) := xgn (fun e => hne e.symm) hw
    have hy2 : (w.set a (.inl (0, c, G2)))[y]? = some (.inr (13, [.ref ay, .int (Int32.ofNat q)])) := xgn (fun e => hya e.symm) hy
    obtain ⟨z, hz⟩ : ∃ z, b.toInt32 = z := ⟨_, rfl⟩
    have hzn : xun z = xul b := by
      have := xlo_n b
      unfold xlo at this
      rw [hz] at this
      omega
    have hzi := xun_p (x := z) (by omega)
    refine i_201_107 (x := h) k0 ?_
    refine i_201_108 (v := Value.ref a) hw2 rfl ?_
    refine i_201_111 (x := Int32.ofNat i) k3 ?_
    refine i_201_112 (x := y) k2 ?_
    refine i_201_113 (v := Value.int (Int32.ofNat q)) hy2 rfl ?_
    refine i_201_116 (c := Int32.ofNat (i + q)) xof_add ?_
    refine i_201_117 (x := b) k4 ?_
    refine i_201_119 (c := z) hz ?_
    refine i_201_120 (v := Value.int z) (xgs ha) (by omega) (by omega) a7 rfl ?_
    rw [xset_set, show (Int32.ofNat (i + q)).toInt.toNat = i + q by omega]
    refine i_201_121 (x := Int32.ofNat i) (c := Int32.ofNat (i + 1)) k3 xof_succ rfl ?_
    refine i_201_124 ?_
    refine ih (i + 1) _ _ (by omega) (xld_n1 rfl rfl k0) (xld_n1 rfl rfl k1) (xld_n1 rfl rfl k2) xld_s1 (fun j hj => ?_) ?_
    · by_cases e : j = i + q
      · subst e; exact ⟨z, xup_eq, by omega, by omega⟩
      · obtain ⟨u, u1, u2⟩ := hG2i j (by omega)
        exact ⟨u, (xup_ne e).trans u1, u2⟩
    · rw [show i + 1 + q = (i + q) + 1 by omega]
      show xvl (xup G2 (i + q) _) (i + q) + xwd (xup G2 (i + q) _) (i + q) * 2 ^ (30 * (i + q)) = (xvl gx i + xwd gx i * 2 ^ (30 * i)) * xvl gy q
      rw [xvl_same (g' := G2) fun j hj => xup_ne (by omega), xwd_int (x := z) xup_eq, xwd_int hf, hzn, Nat.add_mul, ← hval, xvl_split, xvl_split, xvl_same (g := G2) (g' := G) hG2, show 30 * (i + q) = 30 * q + 30 * i by omega, Nat.pow_add, ← Nat.mul_assoc]
      have e1 : (xsv G2 i q + xul b * 2 ^ (30 * q)) * 2 ^ (30 * i) = (xsv G i q + xun f * xvl gy q) * 2 ^ (30 * i) := by rw [hv2]
      rw [Nat.add_mul, Nat.add_mul] at e1
      have e2 : xun f * 2 ^ (30 * i) * xvl gy q = xun f * xvl gy q * 2 ^ (30 * i) := Nat.mul_right_comm ..
      rw [e2]
      omega
/-- product -/
theorem prod_ev {d h a c n x ax cx p y ay cy q : Nat} {w : xW} {g gx gy : Nat → Value} {Q : Option Value ⊕ Nat → xW → Prop} (hc : c < 2147483648) (hcx : cx < 2147483648) (hcy : cy < 2147483648) (hne : h ≠ a) (h7 : 7 ≤ h) (hxa : x ≠ a) (haxa : ax ≠ a) (hya : y ≠ a) (haya : ay ≠ a) (a7 : 7 ≤ a) (hw : w[h]? = some (.inr (13, [.ref a, .int (Int32.ofNat n)]))) (ha : w[a]? = some (.inl (0, c, g))) (hx : w[x]? = some (.inr (13, [.ref ax, .int (Int32.ofNat p)]))) (hax : w[ax]? = some (.inl (0, cx, gx))) (hy : w[y]? = some (.inr (13, [.ref ay, .int (Int32.ofNat q)]))) (hay : w[ay]? = some (.inl (0, cy, gy))) (hp : p ≤ cx) (hq : q ≤ cy) (hix : ∀ j, j < p → xiw gx j) (hiy : ∀ j, j < q → xiw gy j) (hr : p + q ≤ c)
    (hQ : ∀ (n' : Nat) (g' : Nat → Value), n' ≤ p + q → (∀ j, j < n' → xiw g' j) → xvl g' n' = xvl gx p * xvl gy q → (n' = 0 ∨ xwd g' (n' - 1) ≠ 0) → Q (.inl none) (xput w h a c n' g')) :
    xEv (d + 2) 201 0 (lv_args 0 [.ref h, .ref x, .ref y]) [] w Q := by
  refine i_201_0 (x := h) rfl ?_
  refine i_201_1 (v := Value.ref a) hw rfl ?_
  refine i_201_4 ?_
  refine i_201_5 (x := x) rfl ?_
  refine i_201_6 (v := Value.int (Int32.ofNat p)) hx rfl ?_
  refine i_201_9 (x := y) rfl ?_
  refine i_201_10 (v := Value.int (Int32.ofNat q)) hy rfl ?_
  refine i_201_13 (c := Int32.ofNat (p + q)) xof_add ?_
  refine i_201_14 ?_
  have hfl := fill_ev (d := d) (v := 0) (Q := fun o w1 => o = .inl none ∧ ∃ g', (∀ j, j < p + q → g' j = .int 0) ∧ w1 = w.set a (.inl (0, c, g'))) hc a7 ha hr (fun g' h1 _ => ⟨rfl, g', h1, rfl⟩)
  obtain ⟨o, w1, hrun, ho, g', hg', e⟩ := hfl.run
  subst ho
  subst e
  refine i_201_15 (Nat.le_of_ble_eq_true rfl) hrun ?_
  refine i_201_18 ?_
  refine i_201_19 rfl ?_
  refine prod_out (n := n) hc hcx hcy hne hxa haxa hya haya a7 hw ha hx hax hy hay hp hq hix hiy hr ?_ p 0 _ g' (by omega) rfl rfl rfl rfl (fun j hj => ⟨0, hg' j (by omega), by decide, by decide⟩) ?_
  · intro lv G l0 l1 l2 hGi hval
    have hw' : (w.set a (.inl (0, c, G)))[h]? = some (.inr (13, [.ref a, .int (Int32.ofNat n)])) := xgn (fun e => hne e.symm) hw
    refine i_201_127 (x := h) l0 ?_
    refine i_201_128 (x := x) l1 ?_
    refine i_201_129 (v := Value.int (Int32.ofNat p)) (xgn (fun e => hxa e.symm) hx) rfl ?_
    refine i_201_132 (x := y) l2 ?_
    refine i_201_133 (v := Value.int (Int32.ofNat q)) (xgn (fun e => hya e.symm) hy) rfl ?_
    refine i_201_136 (c := Int32.ofNat (p + q)) xof_add ?_
    have htr := trim_ev (d := d + 1) (n0 := Int32.ofNat n) (k := p + q) (Q := fun o w1 => o = .inl none ∧ ∃ n', n' ≤ p + q ∧ xvl G n' = xvl G (p + q) ∧ (n' = 0 ∨ xwd G (n' - 1) ≠ 0) ∧ w1 = xput w h a c n' G) hne h7 hc hw' (xgs ha) hr hGi (fun n' h1 h2 h3 => ⟨rfl, n', h1, h2, h3, rfl⟩)
    obtain ⟨o, w1, hr2, ho, n', h1, h2, h3, e⟩ := htr.run
    subst ho
    subst e
    refine i_201_137 hw' (Nat.le_of_ble_eq_true rfl) hr2 ?_
    exact i_201_140 (hQ n' G h1 (fun j hj => hGi j (by omega)) (h2.trans hval) h3)
  · rw [Nat.zero_add, xvl_zero (g := g') (j := 0) (Nat.zero_le _) fun i _ h2 => by rw [xwd_int (hg' i (by omega))]; rfl]
    show 0 = 0 * _
    omega
