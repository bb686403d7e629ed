/-- a natural's cells, set anew -/
def xput (w : xW) (h a c n : Nat) (g : Nat → Value) : xW := (w.set a (.inl (0, c, g))).set h (.inr (13, [.ref a, .int (Int32.ofNat n)]))
theorem xput_put {w : xW} {h a c n n' : Nat} {g g' : Nat → Value} (hne : h ≠ a) : ((xput w h a c n g).set a (.inl (0, c, g'))).set h (.inr (13, [.ref a, .int (Int32.ofNat n')])) = xput w h a c n' g' := by
  unfold xput
  rw [List.set_comm _ _ hne, List.set_set, List.set_set]
theorem xput_h {w : xW} {h a c n : Nat} {g : Nat → Value} {o : xC} (hw : w[h]? = some o) (hne : h ≠ a) : (xput w h a c n g)[h]? = some (.inr (13, [.ref a, .int (Int32.ofNat n)])) := xgs (xgn (fun e => hne e.symm) hw)
theorem xput_a {w : xW} {h a c n : Nat} {g : Nat → Value} {o : xC} (ha : w[a]? = some o) (hne : h ≠ a) : (xput w h a c n g)[a]? = some (.inl (0, c, g)) := xgn hne (xgs ha)
theorem xput_o {w : xW} {h a c n i : Nat} {g : Nat → Value} (h1 : h ≠ i) (h2 : a ≠ i) : (xput w h a c n g)[i]? = w[i]? := xgn h1 (xgn h2 rfl)
theorem xup_eq {g : Nat → Value} {k : Nat} {v : Value} : xup g k v k = v := xup_s
theorem xup_ne {g : Nat → Value} {k j : Nat} {v : Value} (h : j ≠ k) : xup g k v j = g j := by
  refine xup_n ?_ rfl
  cases e : Nat.beq j k with
  | false => rfl
  | true => exact absurd (Nat.eq_of_beq_eq_true e) h
theorem xof_succ {k : Nat} : Int32.ofNat k + (1 : Int32) = Int32.ofNat (k + 1) := by rw [Int32.ofNat_add]; rfl
theorem xq_iw (v : Int64) {g : Nat → Value} {j : Nat} (h : g j = .int (xq v)) : xiw g j ∧ xwd g j = xul v % 1073741824 := by
  have hb := xq_b v
  exact ⟨⟨xq v, h, hb.1, hb.2.1⟩, by rw [xwd_int h, xq_n]⟩
/-- set of a long: the loop -/
theorem setl_loop {d h a c : Nat} {b : Int64} {w : xW} {oh oa : xC} {Q : Option Value ⊕ Nat → xW → Prop} (hne : h ≠ a) (h7 : 7 ≤ h) (a7 : 7 ≤ a) (hc : c < 2147483648) (hwh : w[h]? = some oh) (hwa : w[a]? = some oa) (m : Nat) : ∀ (n : Nat) (v : Int64) (g : Nat → Value), xul v < 2 ^ (30 * m) → n + m ≤ c →
    (∀ (n' : Nat) (g' : Nat → Value), n ≤ n' → n' ≤ n + m → (∀ j, j < n → g' j = g j) → (∀ j, n' ≤ j → g' j = g j) → (∀ j, n ≤ j → j < n' → xiw g' j) → xvl g' n' = xvl g n + xul v * 2 ^ (30 * n) → ((n' = n ∧ xul v = 0) ∨ xwd g' (n' - 1) ≠ 0) → Q (.inl none) (xput w h a c n' g')) →
    xEv d 179 7 [(3, Value.long v), (0, Value.ref h), (1, Value.long b)] [] (xput w h a c n g) Q := by
  induction m with
  | zero =>
    intro n v g hv hn hQ
    have hz : xul v = 0 := by
      have : xul v < 1 := hv
      omega
    refine i_179_7 (x := v) rfl ?_
    refine i_179_8 ?_
    refine i_179_9 (c := (lg_cmp v (0 : Int64))) rfl ?_
    refine i_179_10 (fun _ => ?_) (fun g0 => absurd (xlz hz) g0)
    exact i_179_45 (hQ n g (Nat.le_refl _) (by omega) (fun _ _ => rfl) (fun _ _ => rfl) (fun j h1 h2 => absurd h2 (by omega)) (by rw [hz, Nat.zero_mul, Nat.add_zero]) (Or.inl ⟨rfl, hz⟩))
  | succ m ih =>
    intro n v g hv hn hQ
    have hh := xput_h (c := c) (n := n) (g := g) hwh hne
    have ha := xput_a (c := c) (n := n) (g := g) hwa hne
    have hni := xof_i (k := n) (by omega)
    refine i_179_7 (x := v) rfl ?_
    refine i_179_8 ?_
    refine i_179_9 (c := (lg_cmp v (0 : Int64))) rfl ?_
    refine i_179_10 (fun c0 => ?_) (fun c0 => ?_)
    · have hz : xul v = 0 := xul_z.mpr (lg_cmp_z.mp c0)
      exact i_179_45 (hQ n g (Nat.le_refl _) (by omega) (fun _ _ => rfl) (fun _ _ => rfl) (fun j h1 h2 => absurd h2 (by omega)) (by rw [hz, Nat.zero_mul, Nat.add_zero]) (Or.inl ⟨rfl, hz⟩))
    · refine i_179_13 (x := h) rfl ?_
      refine i_179_14 (v := Value.ref a) hh rfl ?_
      refine i_179_17 (x := h) rfl ?_
      refine i_179_18 (v := Value.int (Int32.ofNat n)) hh rfl ?_
      refine i_179_21 (x := v) rfl ?_
      refine i_179_22 (c := v.toInt32) rfl ?_
      refine i_179_23 ?_
      refine i_179_25 (c := xq v) rfl ?_
      refine i_179_26 (v := Value.int (xq v)) ha (by omega) (by omega) a7 rfl ?_
      refine i_179_27 (x := h) rfl ?_
      refine i_179_28 rfl ?_
      refine i_179_29 (v := Value.int (Int32.ofNat n)) (xgn (fun e => hne e.symm) hh) rfl ?_
      refine i_179_32 ?_
      refine i_179_33 (c := Int32.ofNat (n + 1)) xof_succ ?_
      refine i_179_34 (fs2 := [Value.ref a, Value.int (Int32.ofNat (n + 1))]) (xgn (fun e => hne e.symm) hh) (Nat.le_of_ble_eq_true rfl) rfl h7 ?_
      refine i_179_37 (x := v) rfl ?_
      refine i_179_38 ?_
      refine i_179_40 (c := xqs v) rfl ?_
      refine i_179_41 (lv2 := [(3, Value.long (xqs v)), (0, Value.ref h), (1, Value.long b)]) rfl ?_
      refine i_179_42 ?_
      refine xEv.world (xput_put hne) ?_
      rw [show (Int32.ofNat n).toInt.toNat = n by omega]
      have hq := xqs_n v
      have e30 : 2 ^ (30 * (m + 1)) = 1073741824 * 2 ^ (30 * m) := by rw [show 30 * (m + 1) = 30 + 30 * m by omega, Nat.pow_add]
      have hv2 : xul (xqs v) < 2 ^ (30 * m) := by
        rw [hq]
        rw [e30] at hv
        exact Nat.div_lt_of_lt_mul hv
      refine ih (n + 1) (xqs v) (xup g n (.int (xq v))) hv2 (by omega) fun n' g' h1 h2 hlo hhi hiw hval htop => ?_
      have gn : g' n = .int (xq v) := (hlo n (by omega)).trans xup_eq
      have hw1 := xq_iw v gn
      have eN : 2 ^ (30 * (n + 1)) = 2 ^ (30 * n) * 1073741824 := by rw [show 30 * (n + 1) = 30 * n + 30 by omega, Nat.pow_add]
      have hg0 : ∀ j, j < n → g' j = g j := fun j hj => (hlo j (by omega)).trans (xup_ne (by omega))
      refine hQ n' g' (by omega) (by omega) hg0 (fun j hj => (hhi j hj).trans (xup_ne (by omega))) (fun j j1 j2 => ?_) ?_ (Or.inr ?_)
      · by_cases e : j = n
        · subst e; exact hw1.1
        · exact hiw j (by omega) j2
      · rw [hval]
        show xvl (xup g n (.int (xq v))) n + xwd (xup g n (.int (xq v))) n * 2 ^ (30 * n) + _ = _
        rw [xvl_same (g' := g) fun j hj => xup_ne (by omega), xwd_int (x := xq v) xup_eq, xq_n, hq, eN]
        have := Nat.div_add_mod (xul v) 1073741824
        generalize 2 ^ (30 * n) = p at *
        generalize xul v / 1073741824 = q at *
        generalize xul v % 1073741824 = r at *
        rw [← this, Nat.add_mul, Nat.mul_comm 1073741824 q, Nat.mul_assoc q, Nat.mul_comm 1073741824 p]
        omega
      · rcases htop with ⟨e, ez⟩ | e
        · subst e
          show xwd g' n ≠ 0
          rw [hw1.2]
          have hv0 : xul v ≠ 0 := fun e => c0 (xlz e)
          omega
        · exact e
/-- set of a long -/
theorem setl {d h a c : Nat} {v : Int64} {w : xW} {n0 : Int32} {g : Nat → Value} {Q : Option Value ⊕ Nat → xW → Prop} (hne : h ≠ a) (h7 : 7 ≤ h) (a7 : 7 ≤ a) (hc : c < 2147483648) (h3 : 3 ≤ c) (hw : w[h]? = some (.inr (13, [.ref a, .int n0]))) (ha : w[a]? = some (.inl (0, c, g)))
    (hQ : ∀ (n : Nat) (g' : Nat → Value), n ≤ 3 → (∀ j, j < n → xiw g' j) → xvl g' n = xul v → (n = 0 ∨ xwd g' (n - 1) ≠ 0) → (∀ j, n ≤ j → g' j = g j) → Q (.inl none) (xput w h a c n g')) :
    xEv d 179 0 (lv_args 0 [.ref h, .long v]) [] w Q := by
  refine i_179_0 (x := h) rfl ?_
  refine i_179_1 ?_
  refine i_179_2 (fs2 := [Value.ref a, Value.int (Int32.ofNat 0)]) hw (Nat.le_of_ble_eq_true rfl) rfl h7 ?_
  refine i_179_5 (x := v) rfl ?_
  refine i_179_6 (lv2 := [(3, Value.long v), (0, Value.ref h), (1, Value.long v)]) rfl ?_ 
  have e : w.set h (.inr (13, [Value.ref a, Value.int (Int32.ofNat 0)])) = xput w h a c 0 g := by
    unfold xput
    rw [xset_self ha]
  rw [e]
  have hl := xul_lt v
  exact setl_loop hne h7 a7 hc hw ha 3 0 v g (by omega) (by omega) fun n' g' _ h2 _ hhi hiw hval htop => hQ n' g' (by omega) (fun j hj => hiw j (Nat.zero_le _) hj) (by
    rw [hval]
    show 0 + xul v * 2 ^ (30 * 0) = _
    omega) (htop.imp (fun x => x.1) id) hhi
