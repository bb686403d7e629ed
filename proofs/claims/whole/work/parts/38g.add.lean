/-- a sum of words, with what is carried -/
theorem xcarry {v : Int32} {t : Nat} (hv : v.toInt = t) (h1 : t < 2147483648) : 0 ≤ (v &&& (1073741823 : Int32)).toInt ∧ (v &&& (1073741823 : Int32)).toInt < 1073741824 ∧ xun (v &&& (1073741823 : Int32)) = t % 1073741824 ∧ (v.toUInt32 >>> ((30 : Int32).toUInt32 &&& Int32.toUInt32 31)).toInt32 = Int32.ofNat (t / 1073741824) := by
  have hm := xmask v
  have hu := xun_i (x := v) (by omega)
  have et : xun v = t := by omega
  have hp := xun_p (x := v &&& (1073741823 : Int32)) (by omega)
  refine ⟨by omega, by omega, by rw [hm, et], ?_⟩
  apply Int32.toInt_inj.mp
  have h2 := xus_i (x := v) (k := 30) (j := 30) (by omega) rfl (by decide)
  unfold xus at h2
  rw [h2, xof_i (by omega), hv]
  show (t : Int) / 1073741824 = _
  omega
theorem add_loop {d h a c h2 a2 c2 n n2 top : Nat} {w : xW} {g g2 : Nat → Value} {Q : Option Value ⊕ Nat → xW → Prop} (hc : c < 2147483648) (hc2 : c2 < 2147483648) (hne : h ≠ a) (he : a2 ≠ a) (he2 : h2 ≠ a) (a7 : 7 ≤ a) (hw : w[h]? = some (.inr (13, [.ref a, .int (Int32.ofNat n)]))) (ha : w[a]? = some (.inl (0, c, g))) (hw2 : w[h2]? = some (.inr (13, [.ref a2, .int (Int32.ofNat n2)]))) (ha2 : w[a2]? = some (.inl (0, c2, g2))) (hn : n ≤ c) (hn2 : n2 ≤ c2) (htop : top ≤ c) (hi : ∀ j, j < n → xiw g j) (hi2 : ∀ j, j < n2 → xiw g2 j)
    (hQ : ∀ (lv : xLv) (G : Nat → Value) (b : Nat), xld lv 0 = some (.ref h) → xld lv 2 = some (.int (Int32.ofNat b)) → xld lv 3 = some (.int (Int32.ofNat top)) → b ≤ 1 → (∀ j, top ≤ j → G j = g j) → (∀ j, j < top → xiw G j) → xvl G top + b * 2 ^ (30 * top) = xvm g n top + xvm g2 n2 top → xEv d 203 92 lv [] (w.set a (.inl (0, c, G))) Q) (m : Nat) :
    ∀ (k : Nat) (lv : xLv) (G : Nat → Value) (b : Nat), k + m = top → xld lv 0 = some (.ref h) → xld lv 1 = some (.ref h2) → xld lv 2 = some (.int (Int32.ofNat b)) → xld lv 3 = some (.int (Int32.ofNat top)) → xld lv 4 = some (.int (Int32.ofNat k)) → b ≤ 1 → (∀ j, k ≤ j → G j = g j) → (∀ j, j < k → xiw G j) → xvl G k + b * 2 ^ (30 * k) = xvm g n k + xvm g2 n2 k → xEv d 203 17 lv [] (w.set a (.inl (0, c, G))) Q := by
  induction m with
  | zero =>
    intro k lv G b hk l0 l1 l2 l3 l4 hb hG hGi hv
    have ek : k = top := by omega
    subst ek
    refine i_203_17 (x := Int32.ofNat k) l4 ?_
    refine i_203_19 (x := Int32.ofNat k) l3 ?_
    refine i_203_20 (fun _ => hQ lv G b l0 l2 l3 hb hG hGi hv) (fun g => absurd g (by omega))
  | succ m ih =>
    intro k lv G b hk l0 l1 l2 l3 l4 hb hG hGi hv
    have ek := xof_i (k := k) (by omega)
    have et := xof_i (k := top) (by omega)
    have en := xof_i (k := n) (by omega)
    have en2 := xof_i (k := n2) (by omega)
    have eb := xof_i (k := b) (by omega)
    have tk : (Int32.ofNat k).toInt.toNat = k := by omega
    have hw' : (w.set a (.inl (0, c, G)))[h]? = some (.inr (13, [.ref a, .int (Int32.ofNat n)])) := xgn (fun e => hne e.symm) hw
    have hw2' : (w.set a (.inl (0, c, G)))[h2]? = some (.inr (13, [.ref a2, .int (Int32.ofNat n2)])) := xgn (fun e => he2 e.symm) hw2
    have ha' : (w.set a (.inl (0, c, G)))[a]? = some (.inl (0, c, G)) := xgs ha
    have ha2' : (w.set a (.inl (0, c, G)))[a2]? = some (.inl (0, c2, g2)) := xgn (fun e => he e.symm) ha2
    have tail : ∀ x y : Int32, 0 ≤ x.toInt → x.toInt < 1073741824 → 0 ≤ y.toInt → y.toInt < 1073741824 → xvm g n (k + 1) = xvm g n k + xun x * 2 ^ (30 * k) → xvm g2 n2 (k + 1) = xvm g2 n2 k + xun y * 2 ^ (30 * k) → xEv d 203 63 lv [.int y, .int x] (w.set a (.inl (0, c, G))) Q := by
      intro x y x0 x1 y0 y1 hx hy
      have ux := xun_i x0
      have uy := xun_i y0
      have s1 : (x + y).toInt = x.toInt + y.toInt := xadd_i (by omega) (by omega)
      have s2 : (x + y + Int32.ofNat b).toInt = ((xun x + xun y + b : Nat) : Int) := by rw [xadd_i (by omega) (by omega)]; omega
      have hcr := xcarry s2 (by omega)
      generalize hvv : x + y + Int32.ofNat b = v at *
      have m0 := xld_n1 (i := 5) (v := .int v) rfl rfl l0
      have m1 := xld_n1 (i := 5) (v := .int v) rfl rfl l1
      have m3 := xld_n1 (i := 5) (v := .int v) rfl rfl l3
      have m4 := xld_n1 (i := 5) (v := .int v) rfl rfl l4
      have m5 : xld (xst1 lv 5 (.int v)) 5 = some (.int v) := xld_s1
      refine i_203_63 (c := x + y) rfl ?_
      refine i_203_64 (x := Int32.ofNat b) l2 ?_
      refine i_203_65 (c := v) hvv ?_
      refine i_203_66 rfl ?_
      refine i_203_68 (x := h) m0 ?_
      refine i_203_69 (v := Value.ref a) hw' rfl ?_
      refine i_203_72 (x := Int32.ofNat k) m4 ?_
      refine i_203_74 (x := v) m5 ?_
      refine i_203_76 ?_
      refine i_203_78 (c := v &&& (1073741823 : Int32)) rfl ?_
      refine i_203_79 (v := Value.int (v &&& (1073741823 : Int32))) ha' (by omega) (by omega) a7 rfl ?_
      rw [tk, xset_set]
      refine i_203_80 (x := v) m5 ?_
      refine i_203_82 ?_
      refine i_203_84 (c := Int32.ofNat ((xun x + xun y + b) / 1073741824)) hcr.2.2.2 ?_
      refine i_203_85 rfl ?_
      refine i_203_86 (c := Int32.ofNat (k + 1)) (xld_n1 rfl rfl m4) xof_succ rfl ?_
      refine i_203_89 ?_
      refine ih (k + 1) _ _ ((xun x + xun y + b) / 1073741824) (by omega) (xld_n1 rfl rfl (xld_n1 rfl rfl m0)) (xld_n1 rfl rfl (xld_n1 rfl rfl m1)) (xld_n1 rfl rfl xld_s1) (xld_n1 rfl rfl (xld_n1 rfl rfl m3)) xld_s1 (by omega) (fun j hj => (xup_ne (by omega)).trans (hG j (by omega))) (fun j hj => ?_) ?_
      · by_cases e : j = k
        · subst e; exact ⟨_, xup_eq, hcr.1, hcr.2.1⟩
        · obtain ⟨z, z1, z2⟩ := hGi j (by omega)
          exact ⟨z, (xup_ne e).trans z1, z2⟩
      · show xvl (xup G k _) k + xwd (xup G k _) k * 2 ^ (30 * k) + _ = _
        rw [xvl_same (g' := G) fun j hj => xup_ne (by omega), xwd_int (x := v &&& (1073741823 : Int32)) xup_eq, hcr.2.2.1, hx, hy, show 30 * (k + 1) = 30 * k + 30 by omega, Nat.pow_add]
        have dm := Nat.div_add_mod (xun x + xun y + b) 1073741824
        have e3 : (1073741824 * ((xun x + xun y + b) / 1073741824) + (xun x + xun y + b) % 1073741824) * 2 ^ (30 * k) = (xun x + xun y + b) * 2 ^ (30 * k) := by rw [dm]
        rw [Nat.add_mul, Nat.add_mul, Nat.add_mul] at e3
        have e4 : (xun x + xun y + b) / 1073741824 * (2 ^ (30 * k) * 2 ^ 30) = 1073741824 * ((xun x + xun y + b) / 1073741824) * 2 ^ (30 * k) := by
          rw [Nat.mul_comm (2 ^ (30 * k)), ← Nat.mul_assoc, Nat.mul_comm _ (2 ^ 30)]
        rw [e4]
        omega
    have second : ∀ x : Int32, 0 ≤ x.toInt → x.toInt < 1073741824 → xvm g n (k + 1) = xvm g n k + xun x * 2 ^ (30 * k) → xEv d 203 43 lv [.int x] (w.set a (.inl (0, c, G))) Q := by
      intro x x0 x1 hx
      refine i_203_43 (x := Int32.ofNat k) l4 ?_
      refine i_203_45 (x := h2) l1 ?_
      refine i_203_46 (v := Value.int (Int32.ofNat n2)) hw2' rfl ?_
      refine i_203_49 (fun hge => ?_) (fun hlt => ?_)
      · refine i_203_62 ?_
        refine tail x 0 x0 x1 (by decide) (by decide) hx ?_
        unfold xvm
        rw [Nat.min_eq_right (by omega), Nat.min_eq_right (by omega)]
        show _ = _ + 0 * _
        omega
      · obtain ⟨y, hy, y0, y1⟩ := hi2 k (by omega)
        refine i_203_52 (x := h2) l1 ?_
        refine i_203_53 (v := Value.ref a2) hw2' rfl ?_
        refine i_203_56 (x := Int32.ofNat k) l4 ?_
        refine i_203_58 (v := Value.int y) ha2' (by omega) (by omega) (by rw [tk]; exact hy) ?_
        refine i_203_59 ?_
        refine tail x y x0 x1 y0 y1 hx ?_
        unfold xvm
        rw [Nat.min_eq_left (by omega), Nat.min_eq_left (by omega)]
        show xvl g2 k + xwd g2 k * _ = _
        rw [xwd_int hy]
    refine i_203_17 (x := Int32.ofNat k) l4 ?_
    refine i_203_19 (x := Int32.ofNat top) l3 ?_
    refine i_203_20 (fun g => absurd g (by omega)) (fun _ => ?_)
    refine i_203_23 (x := Int32.ofNat k) l4 ?_
    refine i_203_25 (x := h) l0 ?_
    refine i_203_26 (v := Value.int (Int32.ofNat n)) hw' rfl ?_
    refine i_203_29 (fun hge => ?_) (fun hlt => ?_)
    · refine i_203_42 ?_
      refine second 0 (by decide) (by decide) ?_
      unfold xvm
      rw [Nat.min_eq_right (by omega), Nat.min_eq_right (by omega)]
      show _ = _ + 0 * _
      omega
    · obtain ⟨x, hx, x0, x1⟩ := hi k (by omega)
      refine i_203_32 (x := h) l0 ?_
      refine i_203_33 (v := Value.ref a) hw' rfl ?_
      refine i_203_36 (x := Int32.ofNat k) l4 ?_
      refine i_203_38 (v := Value.int x) ha' (by omega) (by omega) (by rw [tk]; exact (hG k (Nat.le_refl _)).trans hx) ?_
      refine i_203_39 ?_
      refine second x x0 x1 ?_
      unfold xvm
      rw [Nat.min_eq_left (by omega), Nat.min_eq_left (by omega)]
      show xvl g k + xwd g k * _ = _
      rw [xwd_int hx]
