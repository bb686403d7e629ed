/-! down: a natural divided by a power of two -/
theorem xof_add {a b : Nat} : Int32.ofNat a + Int32.ofNat b = Int32.ofNat (a + b) := (Int32.ofNat_add ..).symm
theorem xof_sub {i k : Nat} (h : k ≤ i) : Int32.ofNat i - Int32.ofNat k = Int32.ofNat (i - k) := by
  have e : i = (i - k) + k := by omega
  rw [e, Int32.ofNat_add, Int32.add_sub_cancel, Nat.add_sub_cancel]
theorem xof_div {k : Nat} (h : k < 2147483648) : Int32.ofNat k / (30 : Int32) = Int32.ofNat (k / 30) := by
  have e := xof_i h
  apply Int32.toInt_inj.mp
  rw [(xdiv30 (k := Int32.ofNat k) (by omega)).1, e, xof_i (by omega)]
  omega
theorem xof_mod {k : Nat} (h : k < 2147483648) : Int32.ofNat k - Int32.ofNat k / (30 : Int32) * (30 : Int32) = Int32.ofNat (k % 30) := by
  have e := xof_i h
  apply Int32.toInt_inj.mp
  rw [(xdiv30 (k := Int32.ofNat k) (by omega)).2, e, xof_i (by omega)]
  omega
theorem xmid {S r : Nat} (hr : r < 30) : S % 1152921504606846976 / 2 ^ r % 1073741824 = S / 2 ^ r % 1073741824 := by
  have e : (1152921504606846976 : Nat) = 2 ^ r * 2 ^ (60 - r) := by rw [← Nat.pow_add, show r + (60 - r) = 60 by omega]
  rw [e, Nat.mod_mul_right_div_self, Nat.mod_mod_of_dvd]
  exact Nat.pow_dvd_pow 2 (show 30 ≤ 60 - r by omega)
theorem down_loop {d h a c n k : Nat} {w : xW} {g : Nat → Value} {Q : Option Value ⊕ Nat → xW → Prop} (hc : c < 2147483648) (hne : h ≠ a) (a7 : 7 ≤ a) (hw : w[h]? = some (.inr (13, [.ref a, .int (Int32.ofNat n)]))) (ha : w[a]? = some (.inl (0, c, g))) (hn : n ≤ c) (hk : k < 2147483648) (hi : ∀ j, j < n → xiw g j)
    (hQ : ∀ (lv : xLv) (G : Nat → Value), xld lv 0 = some (.ref h) → xld lv 2 = some (.int (Int32.ofNat (k / 30))) → (∀ j, j < n - k / 30 → xiw G j) → xvl G (n - k / 30) = xvl g n / 2 ^ k % 2 ^ (30 * (n - k / 30)) → xEv d 186 98 lv [] (w.set a (.inl (0, c, G))) Q) (t : Nat) :
    ∀ (m : Nat) (lv : xLv) (G : Nat → Value), k / 30 + m + t = n → xld lv 0 = some (.ref h) → xld lv 2 = some (.int (Int32.ofNat (k / 30))) → xld lv 3 = some (.int (Int32.ofNat (k % 30))) → xld lv 4 = some (.int (Int32.ofNat (k / 30 + m))) → (∀ j, m ≤ j → G j = g j) → (∀ j, j < m → xiw G j) → xvl G m = xvl g n / 2 ^ k % 2 ^ (30 * m) → xEv d 186 27 lv [] (w.set a (.inl (0, c, G))) Q := by
  induction t with
  | zero =>
    intro m lv G hm l0 l2 l3 l4 hG hGi hv
    have em : n - k / 30 = m := by omega
    have ei : k / 30 + m = n := by omega
    rw [ei] at l4
    refine i_186_27 (x := Int32.ofNat n) l4 ?_
    refine i_186_29 (x := h) l0 ?_
    refine i_186_30 (v := Value.int (Int32.ofNat n)) (xgn (fun e => hne e.symm) hw) rfl ?_
    refine i_186_33 (fun _ => hQ lv G l0 l2 (by rw [em]; exact hGi) (by rw [em]; exact hv)) (fun g => absurd g (by omega))
  | succ t ih =>
    intro m lv G hm l0 l2 l3 l4 hG hGi hv
    obtain ⟨i, ei⟩ : ∃ i, k / 30 + m = i := ⟨_, rfl⟩
    rw [ei] at l4 hm
    have en := xof_i (k := n) (by omega)
    have eii := xof_i (k := i) (by omega)
    have emi := xof_i (k := m) (by omega)
    have ei1 := xof_i (k := i + 1) (by omega)
    have ti : (Int32.ofNat i).toInt.toNat = i := by omega
    have tm : (Int32.ofNat m).toInt.toNat = m := by omega
    have ti1 : (Int32.ofNat (i + 1)).toInt.toNat = i + 1 := by omega
    have hw' : (w.set a (.inl (0, c, G)))[h]? = some (.inr (13, [.ref a, .int (Int32.ofNat n)])) := xgn (fun e => hne e.symm) hw
    have ha' : (w.set a (.inl (0, c, G)))[a]? = some (.inl (0, c, G)) := xgs ha
    obtain ⟨x, hx, x0, x1⟩ := hi i (by omega)
    have ux := xun_i x0
    have hGx : G i = .int x := (hG i (by omega)).trans hx
    have hS := xvl_from hi (show i ≤ n by omega)
    have hr : k % 30 < 30 := Nat.mod_lt _ (by omega)
    have tail : ∀ y : Int64, xul (x.toInt64 ||| y) = xvl g n / 2 ^ (30 * i) % 1152921504606846976 → xEv d 186 72 lv [.long y, .long x.toInt64] (w.set a (.inl (0, c, G))) Q := by
      intro y hy
      obtain ⟨u, hu⟩ : ∃ u, x.toInt64 ||| y = u := ⟨_, rfl⟩
      rw [hu] at hy
      have hul : xul u < 1152921504606846976 := by rw [hy]; exact Nat.mod_lt _ (by decide)
      have hs : xul (u >>> ((Int32.ofNat (k % 30)).toInt64 &&& 63)) = xul u / 2 ^ (k % 30) := xul_shr (by omega) (xof_i (by omega)) (by omega)
      have hq := xq_w (u >>> ((Int32.ofNat (k % 30)).toInt64 &&& 63))
      rw [hs, hy, xmid hr] at hq
      obtain ⟨z, hz⟩ : ∃ z, (u >>> ((Int32.ofNat (k % 30)).toInt64 &&& 63)).toInt32 &&& (1073741823 : Int32) = z := ⟨_, rfl⟩
      rw [hz] at hq
      refine i_186_72 (c := u) hu ?_
      refine i_186_73 rfl ?_
      have q0 := xld_n2 (i := 5) (v := .long u) rfl rfl l0
      have q2 := xld_n2 (i := 5) (v := .long u) rfl rfl l2
      have q3 := xld_n2 (i := 5) (v := .long u) rfl rfl l3
      have q4 := xld_n2 (i := 5) (v := .long u) rfl rfl l4
      have q5 : xld (xst2 lv 5 (.long u)) 5 = some (.long u) := xld_s2
      refine i_186_75 (x := h) q0 ?_
      refine i_186_76 (v := Value.ref a) hw' rfl ?_
      refine i_186_79 (x := Int32.ofNat i) q4 ?_
      refine i_186_81 (x := Int32.ofNat (k / 30)) q2 ?_
      refine i_186_82 (c := Int32.ofNat m) (by rw [← ei, xof_sub (Nat.le_add_right _ _), Nat.add_sub_cancel_left]) ?_
      refine i_186_83 (x := u) q5 ?_
      refine i_186_85 (x := Int32.ofNat (k % 30)) q3 ?_
      refine i_186_86 rfl ?_
      refine i_186_87 rfl ?_
      refine i_186_88 ?_
      refine i_186_90 (c := z) hz ?_
      refine i_186_91 (v := Value.int z) ha' (by omega) (by omega) a7 rfl ?_
      rw [xset_set, tm]
      refine i_186_92 (x := Int32.ofNat i) (c := Int32.ofNat (i + 1)) q4 xof_succ rfl ?_
      refine i_186_95 ?_
      refine ih (m + 1) _ _ (by omega) (xld_n1 rfl rfl q0) (xld_n1 rfl rfl q2) (xld_n1 rfl rfl q3) (by rw [show k / 30 + (m + 1) = i + 1 by omega]; exact xld_s1) (fun j hj => (xup_ne (by omega)).trans (hG j (by omega))) (fun j hj => ?_) ?_
      · by_cases e : j = m
        · subst e; exact ⟨z, xup_eq, hq.1, hq.2.1⟩
        · obtain ⟨z', z1, z2⟩ := hGi j (by omega)
          exact ⟨z', (xup_ne e).trans z1, z2⟩
      · show xvl (xup G m _) m + xwd (xup G m _) m * 2 ^ (30 * m) = _
        rw [xvl_same (g' := G) fun j hj => xup_ne (by omega), xwd_int (x := z) xup_eq, hv, hq.2.2, show 30 * (m + 1) = 30 * m + 30 by omega, Nat.pow_add, Nat.mod_mul, Nat.mul_comm (2 ^ (30 * m))]
        have e1 : xvl g n / 2 ^ k / 2 ^ (30 * m) = xvl g n / 2 ^ (30 * i) / 2 ^ (k % 30) := by
          rw [Nat.div_div_eq_div_mul, Nat.div_div_eq_div_mul, ← Nat.pow_add, ← Nat.pow_add, show k + 30 * m = 30 * i + k % 30 by omega]
        rw [e1]
    refine i_186_27 (x := Int32.ofNat i) l4 ?_
    refine i_186_29 (x := h) l0 ?_
    refine i_186_30 (v := Value.int (Int32.ofNat n)) hw' rfl ?_
    refine i_186_33 (fun c0 => absurd c0 (by omega)) (fun c0 => ?_)
    refine i_186_36 (x := h) l0 ?_
    refine i_186_37 (v := Value.ref a) hw' rfl ?_
    refine i_186_40 (x := Int32.ofNat i) l4 ?_
    refine i_186_42 (v := Value.int x) ha' (by omega) (by omega) (by rw [ti]; exact hGx) ?_
    refine i_186_43 (c := x.toInt64) rfl ?_
    refine i_186_44 (x := Int32.ofNat i) l4 ?_
    refine i_186_46 ?_
    refine i_186_47 (c := Int32.ofNat (i + 1)) xof_succ ?_
    refine i_186_48 (x := h) l0 ?_
    refine i_186_49 (v := Value.int (Int32.ofNat n)) hw' rfl ?_
    refine i_186_52 (fun c2 => ?_) (fun c2 => ?_)
    · refine i_186_71 ?_
      refine tail 0 ?_
      rw [hS, show n - i = 0 + 1 by omega, xsv_cons, xwd_int hx, xul_or, xul_ext x0]
      have : xul (0 : Int64) = 0 := rfl
      rw [this, Nat.or_zero]
      show _ = (xun x + 1073741824 * 0) % _
      rw [Nat.mul_zero, Nat.add_zero, Nat.mod_eq_of_lt (by omega)]
    · obtain ⟨y, hy, y0, y1⟩ := hi (i + 1) (by omega)
      have uy := xun_i y0
      have hGy : G (i + 1) = .int y := (hG (i + 1) (by omega)).trans hy
      refine i_186_55 (x := h) l0 ?_
      refine i_186_56 (v := Value.ref a) hw' rfl ?_
      refine i_186_59 (x := Int32.ofNat i) l4 ?_
      refine i_186_61 ?_
      refine i_186_62 (c := Int32.ofNat (i + 1)) xof_succ ?_
      refine i_186_63 (v := Value.int y) ha' (by omega) (by omega) (by rw [ti1]; exact hGy) ?_
      refine i_186_64 (c := y.toInt64) rfl ?_
      refine i_186_65 ?_
      refine i_186_67 (c := y.toInt64 <<< ((30 : Int32).toInt64 &&& 63)) rfl ?_
      refine i_186_68 ?_
      refine tail _ ?_
      have h2 : xul (y.toInt64 <<< ((30 : Int32).toInt64 &&& 63)) = xun y * 2 ^ 30 := by
        rw [xul_shl (q := 30) rfl (by decide) (by rw [xul_ext y0]; omega), xul_ext y0]
      rw [hS, show n - i = (n - (i + 2) + 1) + 1 by omega, xsv_cons, xsv_cons, xwd_int hx, xwd_int hy, xul_or, xul_ext x0, h2, Nat.or_comm, xor_add (p := 30) (Nat.mul_mod_left _ _) (by omega)]
      generalize xsv g (i + 1 + 1) (n - (i + 2)) = R
      omega
/-- down -/
theorem down_ev {d h a c n k : Nat} {w : xW} {g : Nat → Value} {Q : Option Value ⊕ Nat → xW → Prop} (hc : c < 2147483648) (hne : h ≠ a) (h7 : 7 ≤ h) (a7 : 7 ≤ a) (hw : w[h]? = some (.inr (13, [.ref a, .int (Int32.ofNat n)]))) (ha : w[a]? = some (.inl (0, c, g))) (hn : n ≤ c) (hk : k < 2147483648) (hi : ∀ j, j < n → xiw g j)
    (hQ : ∀ (n' : Nat) (g' : Nat → Value), n' ≤ n → (∀ j, j < n' → xiw g' j) → xvl g' n' = xvl g n / 2 ^ k → (n' = 0 ∨ xwd g' (n' - 1) ≠ 0) → Q (.inl none) (xput w h a c n' g')) :
    xEv (d + 1) 186 0 (lv_args 0 [.ref h, .int (Int32.ofNat k)]) [] w Q := by
  have en := xof_i (k := n) (by omega)
  have ekk := xof_i (k := k / 30) (by omega)
  have hl := xvl_lt hi
  refine i_186_0 (x := Int32.ofNat k) rfl ?_
  refine i_186_1 ?_
  refine i_186_3 (c := Int32.ofNat (k / 30)) (by decide) (xof_div hk) ?_
  refine i_186_4 rfl ?_
  refine i_186_5 (x := Int32.ofNat k) rfl ?_
  refine i_186_6 ?_
  refine i_186_8 (c := Int32.ofNat (k % 30)) (by decide) (xof_mod hk) ?_
  refine i_186_9 rfl ?_
  refine i_186_10 (x := Int32.ofNat (k / 30)) rfl ?_
  refine i_186_11 (x := h) rfl ?_
  refine i_186_12 (v := Value.int (Int32.ofNat n)) hw rfl ?_
  refine i_186_15 (fun c0 => ?_) (fun c0 => ?_)
  · refine i_186_24 (x := Int32.ofNat (k / 30)) rfl ?_
    refine i_186_25 rfl ?_
    refine xEv.world (xset_self ha).symm ?_
    refine down_loop hc hne a7 hw ha hn hk hi ?_ (n - k / 30) 0 _ g (by omega) rfl rfl rfl rfl (fun _ _ => rfl) (fun j hj => absurd hj (by omega)) (by
      show 0 = _
      rw [Nat.mul_zero, Nat.pow_zero, Nat.mod_one])
    intro lv G l0 l2 hGi hv
    have hw' : (w.set a (.inl (0, c, G)))[h]? = some (.inr (13, [.ref a, .int (Int32.ofNat n)])) := xgn (fun e => hne e.symm) hw
    refine i_186_98 (x := h) l0 ?_
    refine i_186_99 (x := h) l0 ?_
    refine i_186_100 (v := Value.int (Int32.ofNat n)) hw' rfl ?_
    refine i_186_103 (x := Int32.ofNat (k / 30)) l2 ?_
    refine i_186_104 (c := Int32.ofNat (n - k / 30)) (xof_sub (by omega)) ?_
    have ht := trim_ev (d := d) (n0 := Int32.ofNat n) (k := n - k / 30) (Q := fun o w1 => o = .inl none ∧ ∃ n', n' ≤ n - k / 30 ∧ xvl G n' = xvl G (n - k / 30) ∧ (n' = 0 ∨ xwd G (n' - 1) ≠ 0) ∧ w1 = xput w h a c n' G) hne h7 hc hw' (xgs ha) (by omega) hGi (fun n' h1 h2 h3 => ⟨rfl, n', h1, h2, h3, rfl⟩)
    obtain ⟨o, w1, hr, ho, n', h1, h2, h3, e⟩ := ht.run
    subst ho
    subst e
    refine i_186_105 hw' (Nat.le_of_ble_eq_true rfl) hr ?_
    refine i_186_108 ?_
    refine hQ n' G (by omega) (fun j hj => hGi j (by omega)) ?_ h3
    rw [h2, hv, Nat.mod_eq_of_lt]
    apply Nat.div_lt_of_lt_mul
    rw [← Nat.pow_add]
    exact Nat.lt_of_lt_of_le hl (Nat.pow_le_pow_right (by omega) (by omega))
  · refine i_186_18 (x := h) rfl ?_
    refine i_186_19 ?_
    refine i_186_20 (fs2 := [.ref a, .int (Int32.ofNat 0)]) hw (Nat.le_of_ble_eq_true rfl) rfl h7 ?_
    have := hQ 0 g (by omega) (fun j hj => absurd hj (by omega)) (by
      show 0 = _
      rw [Nat.div_eq_of_lt (Nat.lt_of_lt_of_le hl (Nat.pow_le_pow_right (by omega) (by omega)))]) (Or.inl rfl)
    unfold xput at this
    rw [xset_self ha] at this
    exact i_186_23 this
