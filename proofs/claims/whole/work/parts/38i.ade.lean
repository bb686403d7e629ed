/-- add -/
theorem add_ev {d h a c h2 a2 c2 n n2 : Nat} {w : xW} {g g2 : Nat → Value} {Q : Option Value ⊕ Nat → xW → Prop} (hc : c < 2147483648) (hc2 : c2 < 2147483648) (hne : h ≠ a) (h7 : 7 ≤ h) (he : a2 ≠ a) (he2 : h2 ≠ a) (a7 : 7 ≤ a) (hw : w[h]? = some (.inr (13, [.ref a, .int (Int32.ofNat n)]))) (ha : w[a]? = some (.inl (0, c, g))) (hw2 : w[h2]? = some (.inr (13, [.ref a2, .int (Int32.ofNat n2)]))) (ha2 : w[a2]? = some (.inl (0, c2, g2))) (hn : max n n2 + 1 ≤ c) (hn2 : n2 ≤ c2) (hi : ∀ j, j < n → xiw g j) (hi2 : ∀ j, j < n2 → xiw g2 j)
    (hQ : ∀ (n' : Nat) (g' : Nat → Value), n' ≤ max n n2 + 1 → max n n2 ≤ n' → (∀ j, j < n' → xiw g' j) → xvl g' n' = xvl g n + xvl g2 n2 → (n' = max n n2 ∨ xwd g' (n' - 1) ≠ 0) → (∀ j, n' ≤ j → g' j = g j) → Q (.inl none) (xput w h a c n' g')) :
    xEv (d + 1) 203 0 (lv_args 0 [.ref h, .ref h2]) [] w Q := by
  have et := xof_i (k := max n n2) (by omega)
  refine i_203_0 ?_
  refine i_203_1 rfl ?_
  refine i_203_2 (x := h) rfl ?_
  refine i_203_3 (v := Value.int (Int32.ofNat n)) hw rfl ?_
  refine i_203_6 (x := h2) rfl ?_
  refine i_203_7 (v := Value.int (Int32.ofNat n2)) hw2 rfl ?_
  refine i_203_10 (Nat.le_of_ble_eq_true rfl) (max_run (by omega) (by omega)) ?_
  refine i_203_13 rfl ?_
  refine i_203_14 ?_
  refine i_203_15 rfl ?_
  refine xEv.world (xset_self ha).symm ?_
  refine add_loop (top := max n n2) hc hc2 hne he he2 a7 hw ha hw2 ha2 (by omega) hn2 (by omega) hi hi2 ?_ (max n n2) 0 _ g 0 (by omega) rfl rfl rfl rfl rfl (by omega) (fun _ _ => rfl) (fun j hj => absurd hj (by omega)) (by
    unfold xvm
    rw [Nat.min_eq_left (Nat.zero_le _), Nat.min_eq_left (Nat.zero_le _)]
    show 0 + 0 * _ = 0 + 0
    omega)
  intro lv G b l0 l2 l3 hb hG hGi hv
  have eb := xof_i (k := b) (by omega)
  have e1 : xvm g n (max n n2) = xvl g n := by unfold xvm; rw [Nat.min_eq_right (by omega)]
  have e2 : xvm g2 n2 (max n n2) = xvl g2 n2 := by unfold xvm; rw [Nat.min_eq_right (by omega)]
  rw [e1, e2] at hv
  have hw' : (w.set a (.inl (0, c, G)))[h]? = some (.inr (13, [.ref a, .int (Int32.ofNat n)])) := xgn (fun e => hne e.symm) hw
  refine i_203_92 (x := h) l0 ?_
  refine i_203_93 (x := Int32.ofNat (max n n2)) l3 ?_
  refine i_203_94 (fs2 := [Value.ref a, Value.int (Int32.ofNat (max n n2))]) hw' (Nat.le_of_ble_eq_true rfl) rfl h7 ?_
  refine i_203_97 (x := Int32.ofNat b) l2 ?_
  have hp : xput w h a c (max n n2) G = (w.set a (.inl (0, c, G))).set h (.inr (13, [.ref a, .int (Int32.ofNat (max n n2))])) := rfl
  rw [← hp]
  refine i_203_98 (fun h0 => ?_) (fun h0 => ?_)
  · have hb0 : b = 0 := by omega
    subst hb0
    exact i_203_121 (hQ (max n n2) G (by omega) (Nat.le_refl _) hGi (by omega) (Or.inl rfl) hG)
  · have hb1 : b = 1 := by omega
    subst hb1
    have ph := xput_h (c := c) (n := max n n2) (g := G) hw hne
    have pa := xput_a (c := c) (n := max n n2) (g := G) ha hne
    refine i_203_101 (x := h) l0 ?_
    refine i_203_102 (v := Value.ref a) ph rfl ?_
    refine i_203_105 (x := h) l0 ?_
    refine i_203_106 (v := Value.int (Int32.ofNat (max n n2))) ph rfl ?_
    refine i_203_109 (x := Int32.ofNat 1) l2 ?_
    refine i_203_110 (v := Value.int (Int32.ofNat 1)) pa (by omega) (by omega) a7 rfl ?_
    rw [show (Int32.ofNat (max n n2)).toInt.toNat = max n n2 by omega]
    refine i_203_111 (x := h) l0 ?_
    refine i_203_112 rfl ?_
    refine i_203_113 (v := Value.int (Int32.ofNat (max n n2))) (xgn (fun e => hne e.symm) ph) rfl ?_
    refine i_203_116 ?_
    refine i_203_117 (c := Int32.ofNat (max n n2 + 1)) xof_succ ?_
    refine i_203_118 (fs2 := [Value.ref a, Value.int (Int32.ofNat (max n n2 + 1))]) (xgn (fun e => hne e.symm) ph) (Nat.le_of_ble_eq_true rfl) rfl h7 ?_
    rw [xput_put hne]
    refine i_203_121 (hQ (max n n2 + 1) _ (Nat.le_refl _) (by omega) (fun j hj => ?_) ?_ (Or.inr ?_) (fun j hj => (xup_ne (by omega)).trans (hG j (by omega))))
    · by_cases e : j = max n n2
      · subst e; exact ⟨_, xup_eq, by decide, by decide⟩
      · obtain ⟨z, z1, z2⟩ := hGi j (by omega)
        exact ⟨z, (xup_ne e).trans z1, z2⟩
    · show xvl (xup G _ _) (max n n2) + xwd (xup G _ _) (max n n2) * _ = _
      rw [xvl_same (g' := G) fun j hj => xup_ne (by omega), xwd_int (x := Int32.ofNat 1) xup_eq]
      have : xun (Int32.ofNat 1) = 1 := rfl
      rw [this]
      omega
    · show xwd _ (max n n2) ≠ 0
      rw [xwd_int (x := Int32.ofNat 1) xup_eq]
      decide
