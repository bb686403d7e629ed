theorem xcp_lo {f g : Nat → Value} {n j : Nat} (h : j < n) : xcp f g 0 0 n j = f j := by
  refine xcp_i ?_ (by rw [Nat.zero_add, Nat.sub_zero])
  rw [Nat.zero_add, Bool.and_eq_true]
  exact ⟨Nat.ble_eq_true_of_le (Nat.zero_le _), Nat.ble_eq_true_of_le h⟩
theorem xcp_hi {f g : Nat → Value} {n j : Nat} (h : n ≤ j) : xcp f g 0 0 n j = g j := by
  refine xcp_o ?_ rfl
  rw [Nat.zero_add, Bool.and_eq_false_iff]
  refine Or.inr ?_
  cases e : Nat.blt j n with
  | false => rfl
  | true => have : j + 1 ≤ n := Nat.le_of_ble_eq_true e
            omega
/-- set of another natural -/
theorem setn_ev {d h a c n h2 a2 c2 : Nat} {w : xW} {n0 : Int32} {g g2 : Nat → Value} {Q : Option Value ⊕ Nat → xW → Prop} (hne : h ≠ a) (h7 : 7 ≤ h) (a7 : 7 ≤ a) (hc : c < 2147483648) (hw : w[h]? = some (.inr (13, [.ref a, .int n0]))) (ha : w[a]? = some (.inl (0, c, g))) (hw2 : w[h2]? = some (.inr (13, [.ref a2, .int (Int32.ofNat n)]))) (ha2 : w[a2]? = some (.inl (0, c2, g2))) (e1 : a ≠ h2) (hn : n ≤ c) (hn2 : n ≤ c2) (hi : ∀ j, j < n → xiw g2 j)
    (hQ : ∀ g' : Nat → Value, (∀ j, j < n → g' j = g2 j) → (∀ j, n ≤ j → g' j = g j) → Q (.inl none) (xput w h a c n g')) : xEv (d + 1) 182 0 (lv_args 0 [.ref h, .ref h2]) [] w Q := by
  have hni := xof_i (k := n) (by omega)
  refine i_182_0 (x := h2) rfl ?_
  refine i_182_1 (v := Value.ref a2) hw2 rfl ?_
  refine i_182_4 ?_
  refine i_182_5 (x := h) rfl ?_
  refine i_182_6 (v := Value.ref a) hw rfl ?_
  refine i_182_9 ?_
  refine i_182_10 (x := h2) rfl ?_
  refine i_182_11 (v := Value.int (Int32.ofNat n)) hw2 rfl ?_
  refine i_182_14 ha2 ha (by decide) (by decide) (by omega) (by show (0 : Int) + _ ≤ _; omega) (by show (0 : Int) + _ ≤ _; omega) a7 (fun k hk => ?_) (Nat.le_of_ble_eq_true rfl) ?_
  · obtain ⟨x, hx, -⟩ := hi k (by omega)
    exact ⟨x, by rw [show (0 : Int32).toInt.toNat + k = k from Nat.zero_add k]; exact hx⟩
  refine i_182_17 (x := h) rfl ?_
  refine i_182_18 (x := h2) rfl ?_
  refine i_182_19 (v := Value.int (Int32.ofNat n)) (xgn e1 hw2) rfl ?_
  refine i_182_22 (fs2 := [Value.ref a, Value.int (Int32.ofNat n)]) (xgn (fun e => hne e.symm) hw) (Nat.le_of_ble_eq_true rfl) rfl h7 ?_
  refine i_182_25 ?_
  have := hQ (xcp g2 g 0 0 n) (fun j hj => xcp_lo hj) (fun j hj => xcp_hi hj)
  unfold xput at this
  rw [show (Int32.ofNat n).toInt.toNat = n by omega]
  exact this
/-- bits -/
theorem bits_ev {d h a c n : Nat} {w : xW} {g : Nat → Value} {Q : Option Value ⊕ Nat → xW → Prop} (hc : c < 67108864) (hw : w[h]? = some (.inr (13, [.ref a, .int (Int32.ofNat n)]))) (ha : w[a]? = some (.inl (0, c, g))) (hn : n ≤ c) (hi : ∀ j, j < n → xiw g j) (ht : n = 0 ∨ xwd g (n - 1) ≠ 0)
    (hQ : Q (.inl (some (.int (Int32.ofNat (xbl (xvl g n)))))) w) : xEv d 181 0 (lv_args 0 [.ref h]) [] w Q := by
  have hni := xof_i (k := n) (by omega)
  refine i_181_0 (x := h) rfl ?_
  refine i_181_1 (v := Value.int (Int32.ofNat n)) hw rfl ?_
  cases n with
  | zero =>
    refine i_181_4 (fun g => absurd rfl g) (fun _ => ?_)
    refine i_181_7 ?_
    exact i_181_8 hQ
  | succ n =>
    obtain ⟨x, hx, x0, x1⟩ := hi n (by omega)
    have hn0 := xof_i (k := n) (by omega)
    refine i_181_4 (fun _ => ?_) (fun g => absurd g (by omega))
    refine i_181_9 ?_
    refine i_181_11 (x := h) rfl ?_
    refine i_181_12 (v := Value.int (Int32.ofNat (n + 1))) hw rfl ?_
    refine i_181_15 ?_
    refine i_181_16 (c := Int32.ofNat n) xof_pred ?_
    refine i_181_17 (c := Int32.ofNat (30 * n)) (by rw [Int32.ofNat_mul]; rfl) ?_
    refine i_181_18 (lv2 := [(1, Value.int (Int32.ofNat (30 * n))), (0, Value.ref h)]) rfl ?_
    refine i_181_19 (x := h) rfl ?_
    refine i_181_20 (v := Value.ref a) hw rfl ?_
    refine i_181_23 (x := h) rfl ?_
    refine i_181_24 (v := Value.int (Int32.ofNat (n + 1))) hw rfl ?_
    refine i_181_27 ?_
    refine i_181_28 (c := Int32.ofNat n) xof_pred ?_
    refine i_181_29 (v := Value.int x) ha (by omega) (by omega) (by rw [show (Int32.ofNat n).toInt.toNat = n by omega]; exact hx) ?_
    refine i_181_30 (lv2 := [(2, Value.int x), (1, Value.int (Int32.ofNat (30 * n))), (0, Value.ref h)]) rfl ?_
    have htop : xwd g n ≠ 0 := by
      rcases ht with h | h
      · exact absurd h (by omega)
      · exact h
    rw [xvl_bl hi htop, xwd_int hx] at hQ
    exact mb_loop _ x _ _ x0 rfl (by rw [← Int32.ofNat_add, Nat.add_comm]) hQ
