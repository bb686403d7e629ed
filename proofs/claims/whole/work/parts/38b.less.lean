theorem xEv.run {d t : Nat} {as : List Value} {w : xW} {Q : Option Value ⊕ Nat → xW → Prop} (h : xEv d t 0 (lv_args 0 as) [] w Q) : ∃ o w1, xRun d t as w o w1 ∧ Q o w1 := by
  obtain ⟨n, o, w1, h1, h2⟩ := h
  exact ⟨o, w1, ⟨n, h1⟩, h2⟩
theorem xmask (v : Int32) : xun (v &&& (1073741823 : Int32)) = xun v % 1073741824 := by
  have : xun (v &&& 1073741823) = xun v &&& 1073741823 := rfl
  rw [this, Nat.and_two_pow_sub_one_eq_mod _ 30]
/-- a difference of words, with what is borrowed -/
theorem xborrow {v : Int32} {t : Int} (hv : v.toInt = t) (h0 : -1073741824 ≤ t) (h1 : t < 1073741824) : 0 ≤ (v &&& (1073741823 : Int32)).toInt ∧ (v &&& (1073741823 : Int32)).toInt < 1073741824 ∧ (xun (v &&& (1073741823 : Int32)) : Int) = if t < 0 then t + 1073741824 else t := by
  have hm := xmask v
  have hi := xun_int v
  have hl := xun_lt v
  have hp := xun_p (x := v &&& (1073741823 : Int32)) (by omega)
  refine ⟨by omega, by omega, ?_⟩
  rw [hm]
  split at hi <;> split <;> omega
/-- the value of the first k words of a number of n words -/
def xvm (g : Nat → Value) (n k : Nat) : Nat := xvl g (min k n)
theorem less_loop {d h a c h2 a2 c2 n n2 : Nat} {w : xW} {g g2 : Nat → Value} {Q : Option Value ⊕ Nat → xW → Prop} (hc : c < 2147483648) (hc2 : c2 < 2147483648) (hne : h ≠ a) (he : a2 ≠ a) (he2 : h2 ≠ a) (a7 : 7 ≤ a) (hw : w[h]? = some (.inr (13, [.ref a, .int (Int32.ofNat n)]))) (ha : w[a]? = some (.inl (0, c, g))) (hw2 : w[h2]? = some (.inr (13, [.ref a2, .int (Int32.ofNat n2)]))) (ha2 : w[a2]? = some (.inl (0, c2, g2))) (hn : n ≤ c) (hn2 : n2 ≤ c2) (hi : ∀ j, j < n → xiw g j) (hi2 : ∀ j, j < n2 → xiw g2 j)
    (hQ : ∀ (lv : xLv) (G : Nat → Value) (b : Nat), xld lv 0 = some (.ref h) → b ≤ 1 → (∀ j, n ≤ j → G j = g j) → (∀ j, j < n → xiw G j) → xvl G n + xvm g2 n2 n = xvl g n + b * 2 ^ (30 * n) → xEv d 191 69 lv [] (w.set a (.inl (0, c, G))) Q) (m : Nat) :
    ∀ (k : Nat) (lv : xLv) (G : Nat → Value) (b : Nat), k + m = n → xld lv 0 = some (.ref h) → xld lv 1 = some (.ref h2) → xld lv 2 = some (.int (Int32.ofNat b)) → xld lv 3 = some (.int (Int32.ofNat k)) → b ≤ 1 → (∀ j, k ≤ j → G j = g j) → (∀ j, j < k → xiw G j) → xvl G k + xvm g2 n2 k = xvl g k + b * 2 ^ (30 * k) → xEv d 191 4 lv [] (w.set a (.inl (0, c, G))) Q := by
  induction m with
  | zero =>
    intro k lv G b hk l0 l1 l2 l3 hb hG hGi hv
    have ek : k = n := by omega
    subst ek
    refine i_191_4 (x := Int32.ofNat k) l3 ?_
    refine i_191_5 (x := h) l0 ?_
    refine i_191_6 (v := Value.int (Int32.ofNat k)) (xgn (fun e => hne e.symm) hw) rfl ?_
    refine i_191_9 (fun _ => hQ lv G b l0 hb hG hGi hv) (fun g => absurd g (by omega))
  | succ m ih =>
    intro k lv G b hk l0 l1 l2 l3 hb hG hGi hv
    have ek := xof_i (k := k) (by omega)
    have en := xof_i (k := n) (by omega)
    have en2 := xof_i (k := n2) (by omega)
    have eb := xof_i (k := b) (by omega)
    have tk : (Int32.ofNat k).toInt.toNat = k := by omega
    have hw' : (w.set a (.inl (0, c, G)))[h]? = some (.inr (13, [.ref a, .int (Int32.ofNat n)])) := xgn (fun e => hne e.symm) hw
    have hw2' : (w.set a (.inl (0, c, G)))[h2]? = some (.inr (13, [.ref a2, .int (Int32.ofNat n2)])) := xgn (fun e => he2 e.symm) hw2
    have ha' : (w.set a (.inl (0, c, G)))[a]? = some (.inl (0, c, G)) := xgs ha
    have ha2' : (w.set a (.inl (0, c, G)))[a2]? = some (.inl (0, c2, g2)) := xgn (fun e => he e.symm) ha2
    obtain ⟨x, hx, x0, x1⟩ := hi k (by omega)
    have ux := xun_i x0
    have hGx : G k = .int x := (hG k (Nat.le_refl _)).trans hx
    -- what follows once the other word y is there
    have tail : ∀ y : Int32, 0 ≤ y.toInt → y.toInt < 1073741824 → xvm g2 n2 (k + 1) = xvm g2 n2 k + xun y * 2 ^ (30 * k) → xEv d 191 36 lv [.int y, .int x] (w.set a (.inl (0, c, G))) Q := by
      intro y y0 y1 hy
      have uy := xun_i y0
      have s1 : (x - y).toInt = x.toInt - y.toInt := xsub_i (by omega) (by omega)
      have s2 : (x - y - Int32.ofNat b).toInt = x.toInt - y.toInt - b := by rw [xsub_i (by omega) (by omega)]; omega
      have hbw := xborrow s2 (by omega) (by omega)
      generalize hvv : x - y - Int32.ofNat b = v at *
      refine i_191_36 (c := x - y) rfl ?_
      refine i_191_37 (x := Int32.ofNat b) l2 ?_
      refine i_191_38 (c := v) hvv ?_
      refine i_191_39 rfl ?_
      have m0 := xld_n1 (i := 4) (v := .int v) rfl rfl l0
      have m1 := xld_n1 (i := 4) (v := .int v) rfl rfl l1
      have m3 := xld_n1 (i := 4) (v := .int v) rfl rfl l3
      have m4 : xld (xst1 lv 4 (.int v)) 4 = some (.int v) := xld_s1
      refine i_191_41 (x := h) m0 ?_
      refine i_191_42 (v := Value.ref a) hw' rfl ?_
      refine i_191_45 (x := Int32.ofNat k) m3 ?_
      refine i_191_46 (x := v) m4 ?_
      refine i_191_48 ?_
      refine i_191_50 (c := v &&& (1073741823 : Int32)) rfl ?_
      refine i_191_51 (v := Value.int (v &&& (1073741823 : Int32))) ha' (by omega) (by omega) a7 rfl ?_
      rw [tk, xset_set]
      refine i_191_52 (x := v) m4 ?_
      have hG' : ∀ j, k + 1 ≤ j → xup G k (.int (v &&& (1073741823 : Int32))) j = g j := fun j hj => (xup_ne (by omega)).trans (hG j (by omega))
      have hGi' : ∀ j, j < k + 1 → xiw (xup G k (.int (v &&& (1073741823 : Int32)))) j := fun j hj => by
        by_cases e : j = k
        · subst e; exact ⟨_, xup_eq, hbw.1, hbw.2.1⟩
        · obtain ⟨z, z1, z2⟩ := hGi j (by omega)
          exact ⟨z, (xup_ne e).trans z1, z2⟩
      have eP : 2 ^ (30 * (k + 1)) = 1073741824 * 2 ^ (30 * k) := by rw [show 30 * (k + 1) = 30 + 30 * k by omega, Nat.pow_add]
      have val : ∀ b' : Nat, (xun (v &&& (1073741823 : Int32)) : Int) = x.toInt - y.toInt - b + b' * 1073741824 → xvl (xup G k (.int (v &&& (1073741823 : Int32)))) (k + 1) + xvm g2 n2 (k + 1) = xvl g (k + 1) + b' * 2 ^ (30 * (k + 1)) := by
        intro b' e
        show xvl (xup G k _) k + xwd (xup G k _) k * 2 ^ (30 * k) + _ = xvl g k + xwd g k * 2 ^ (30 * k) + _
        rw [xvl_same (g' := G) fun j hj => xup_ne (by omega), xwd_int (x := v &&& (1073741823 : Int32)) xup_eq, xwd_int hx, hy, eP]
        have e2 : xun (v &&& (1073741823 : Int32)) + xun y + b = xun x + b' * 1073741824 := by omega
        have e3 : (xun (v &&& (1073741823 : Int32)) + xun y + b) * 2 ^ (30 * k) = (xun x + b' * 1073741824) * 2 ^ (30 * k) := by rw [e2]
        rw [Nat.add_mul, Nat.add_mul, Nat.add_mul, Nat.mul_assoc b'] at e3
        omega
      refine i_191_54 (fun hv0 => ?_) (fun hv0 => ?_)
      · refine i_191_61 ?_
        refine i_191_62 rfl ?_
        refine i_191_63 (c := Int32.ofNat (k + 1)) (xld_n1 rfl rfl m3) xof_succ rfl ?_
        refine i_191_66 ?_
        refine ih (k + 1) _ _ 0 (by omega) (xld_n1 rfl rfl (xld_n1 rfl rfl m0)) (xld_n1 rfl rfl (xld_n1 rfl rfl m1)) (xld_n1 rfl rfl xld_s1) xld_s1 (by omega) hG' hGi' (val 0 ?_)
        rw [hbw.2.2, if_neg (by omega)]; omega
      · refine i_191_57 ?_
        refine i_191_58 ?_
        refine i_191_62 rfl ?_
        refine i_191_63 (c := Int32.ofNat (k + 1)) (xld_n1 rfl rfl m3) xof_succ rfl ?_
        refine i_191_66 ?_
        refine ih (k + 1) _ _ 1 (by omega) (xld_n1 rfl rfl (xld_n1 rfl rfl m0)) (xld_n1 rfl rfl (xld_n1 rfl rfl m1)) (xld_n1 rfl rfl xld_s1) xld_s1 (by omega) hG' hGi' (val 1 ?_)
        rw [hbw.2.2, if_pos (by omega)]; omega
    refine i_191_4 (x := Int32.ofNat k) l3 ?_
    refine i_191_5 (x := h) l0 ?_
    refine i_191_6 (v := Value.int (Int32.ofNat n)) hw' rfl ?_
    refine i_191_9 (fun g => absurd g (by omega)) (fun _ => ?_)
    refine i_191_12 (x := h) l0 ?_
    refine i_191_13 (v := Value.ref a) hw' rfl ?_
    refine i_191_16 (x := Int32.ofNat k) l3 ?_
    refine i_191_17 (v := Value.int x) ha' (by omega) (by omega) (by rw [tk]; exact hGx) ?_
    refine i_191_18 (x := Int32.ofNat k) l3 ?_
    refine i_191_19 (x := h2) l1 ?_
    refine i_191_20 (v := Value.int (Int32.ofNat n2)) hw2' rfl ?_
    refine i_191_23 (fun hge => ?_) (fun hlt => ?_)
    · refine i_191_35 ?_
      refine tail 0 (by decide) (by decide) ?_
      unfold xvm
      rw [Nat.min_eq_right (by omega), Nat.min_eq_right (by omega)]
      show _ = _ + 0 * _
      omega
    · obtain ⟨y, hy, y0, y1⟩ := hi2 k (by omega)
      refine i_191_26 (x := h2) l1 ?_
      refine i_191_27 (v := Value.ref a2) hw2' rfl ?_
      refine i_191_30 (x := Int32.ofNat k) l3 ?_
      refine i_191_31 (v := Value.int y) ha2' (by omega) (by omega) (by rw [tk]; exact hy) ?_
      refine i_191_32 ?_
      refine tail y y0 y1 ?_
      unfold xvm
      rw [Nat.min_eq_left (by omega), Nat.min_eq_left (by omega)]
      show xvl g2 k + xwd g2 k * _ = _
      rw [xwd_int hy]
/-- less: the difference -/
theorem less_ev {d h a c h2 a2 c2 n n2 : Nat} {w : xW} {g g2 : Nat → Value} {Q : Option Value ⊕ Nat → xW → Prop} (hc : c < 2147483648) (hc2 : c2 < 2147483648) (hne : h ≠ a) (h7 : 7 ≤ h) (he : a2 ≠ a) (he2 : h2 ≠ a) (a7 : 7 ≤ a) (hw : w[h]? = some (.inr (13, [.ref a, .int (Int32.ofNat n)]))) (ha : w[a]? = some (.inl (0, c, g))) (hw2 : w[h2]? = some (.inr (13, [.ref a2, .int (Int32.ofNat n2)]))) (ha2 : w[a2]? = some (.inl (0, c2, g2))) (hn : n ≤ c) (hn2 : n2 ≤ c2) (hi : ∀ j, j < n → xiw g j) (hi2 : ∀ j, j < n2 → xiw g2 j) (hle : n2 ≤ n) (hlv : xvl g2 n2 ≤ xvl g n)
    (hQ : ∀ (n' : Nat) (g' : Nat → Value), n' ≤ n → (∀ j, j < n' → xiw g' j) → xvl g' n' = xvl g n - xvl g2 n2 → (n' = 0 ∨ xwd g' (n' - 1) ≠ 0) → (∀ j, n ≤ j → g' j = g j) → Q (.inl none) (xput w h a c n' g')) :
    xEv (d + 1) 191 0 (lv_args 0 [.ref h, .ref h2]) [] w Q := by
  refine i_191_0 ?_
  refine i_191_1 rfl ?_
  refine i_191_2 ?_
  refine i_191_3 rfl ?_
  have e0 : w = w.set a (.inl (0, c, g)) := (xset_self ha).symm
  refine xEv.world e0 ?_
  refine less_loop hc hc2 hne he he2 a7 hw ha hw2 ha2 hn hn2 hi hi2 ?_ n 0 _ g 0 (by omega) rfl rfl rfl rfl (by omega) (fun _ _ => rfl) (fun j hj => absurd hj (by omega)) (by
    show 0 + xvl g2 (min 0 n2) = 0 + 0 * _
    rw [Nat.min_eq_left (Nat.zero_le _)]
    show 0 + 0 = 0 + 0 * _
    omega)
  intro lv G b l0 hb hG hGi hv
  have em : xvm g2 n2 n = xvl g2 n2 := by unfold xvm; rw [Nat.min_eq_right hle]
  rw [em] at hv
  have hb0 : b = 0 := by
    have h1 := xvl_lt hGi
    rcases Nat.eq_zero_or_pos b with e | e
    · exact e
    · have e1 : b = 1 := by omega
      subst e1
      rw [Nat.one_mul] at hv
      omega
  subst hb0
  rw [Nat.zero_mul, Nat.add_zero] at hv
  have hw' : (w.set a (.inl (0, c, G)))[h]? = some (.inr (13, [.ref a, .int (Int32.ofNat n)])) := xgn (fun e => hne e.symm) hw
  refine i_191_69 (x := h) l0 ?_
  refine i_191_70 (x := h) l0 ?_
  refine i_191_71 (v := Value.int (Int32.ofNat n)) hw' rfl ?_
  have ht := trim_ev (d := d) (n0 := Int32.ofNat n) (k := n) (Q := fun o w1 => o = .inl none ∧ ∃ n', n' ≤ n ∧ xvl G n' = xvl G n ∧ (n' = 0 ∨ xwd G (n' - 1) ≠ 0) ∧ w1 = xput w h a c n' G) hne h7 hc hw' (xgs ha) hn hGi (fun n' h1 h2 h3 => ⟨rfl, n', h1, h2, h3, rfl⟩)
  obtain ⟨o, w1, hr, ho, n', h1, h2, h3, e⟩ := ht.run
  subst ho
  subst e
  refine i_191_74 hw' (Nat.le_of_ble_eq_true rfl) hr ?_
  refine i_191_77 ?_
  exact hQ n' G h1 (fun j hj => hGi j (by omega)) (by omega) h3 hG
