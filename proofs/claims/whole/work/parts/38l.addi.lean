/-! add of an int -/
theorem xput_arr {w : xW} {h a c n : Nat} {g g' : Nat → Value} (hne : h ≠ a) : (xput w h a c n g).set a (.inl (0, c, g')) = xput w h a c n g' := by
  unfold xput
  rw [List.set_comm _ _ hne, List.set_set]
theorem xput_obj {w : xW} {h a c n n' : Nat} {g : Nat → Value} : (xput w h a c n g).set h (.inr (13, [.ref a, .int (Int32.ofNat n')])) = xput w h a c n' g := by
  unfold xput
  rw [List.set_set]
theorem xput_self {w : xW} {h a c n : Nat} {g : Nat → Value} (hw : w[h]? = some (.inr (13, [.ref a, .int (Int32.ofNat n)]))) (ha : w[a]? = some (.inl (0, c, g))) : xput w h a c n g = w := by
  unfold xput
  rw [xset_self ha, xset_self hw]
/-- a word set anew -/
theorem xvl_up {G : Nat → Value} {k n : Nat} {z : Int32} (hk : k < n) : xvl (xup G k (.int z)) n + xwd G k * 2 ^ (30 * k) = xvl G n + xun z * 2 ^ (30 * k) := by
  induction n with
  | zero => omega
  | succ n ih =>
    show xvl _ n + xwd _ n * _ + _ = xvl G n + xwd G n * _ + _
    by_cases e : k = n
    · subst e
      rw [xvl_same (g' := G) fun j hj => xup_ne (by omega), xwd_int (x := z) xup_eq]
      omega
    · have e2 : xwd (xup G k (.int z)) n = xwd G n := by unfold xwd; rw [xup_ne (by omega)]
      rw [e2]
      have := ih (by omega)
      omega
theorem xwd_ne {G : Nat → Value} {k j : Nat} {v : Value} (h : j ≠ k) : xwd (xup G k v) j = xwd G j := by unfold xwd; rw [xup_ne h]
theorem xiw_up {G : Nat → Value} {k n : Nat} {z : Int32} (h : ∀ j, j < n → xiw G j) (z0 : 0 ≤ z.toInt) (z1 : z.toInt < 1073741824) : ∀ j, j < n → xiw (xup G k (.int z)) j := fun j hj => by
  by_cases e : j = k
  · subst e; exact ⟨z, xup_eq, z0, z1⟩
  · obtain ⟨y, y1, y2⟩ := h j hj
    exact ⟨y, (xup_ne e).trans y1, y2⟩
theorem addi_loop {d h a c n T : Nat} {w : xW} {oh oa : xC} {Q : Option Value ⊕ Nat → xW → Prop} (hc : c < 2147483648) (hne : h ≠ a) (h7 : 7 ≤ h) (a7 : 7 ≤ a) (hw : w[h]? = some oh) (ha : w[a]? = some oa) (hn : n + 1 ≤ c)
    (hQ : ∀ (N : Nat) (G : Nat → Value), N ≤ n + 1 → (∀ j, j < N → xiw G j) → xvl G N = T → (N = 0 ∨ xwd G (N - 1) ≠ 0) → Q (.inl none) (xput w h a c N G)) (m : Nat) :
    ∀ (k b : Nat) (lv : xLv) (G : Nat → Value), k + m = n → xld lv 0 = some (.ref h) → xld lv 2 = some (.int (Int32.ofNat b)) → xld lv 3 = some (.int (Int32.ofNat k)) → b < 1073741824 → (∀ j, j < n → xiw G j) → xvl G n + b * 2 ^ (30 * k) = T → (n = 0 ∨ xwd G (n - 1) ≠ 0 ∨ (b ≠ 0 ∧ k = n)) → xEv d 189 4 lv [] (xput w h a c n G) Q := by
  induction m with
  | zero =>
    intro k b lv G hk l0 l2 l3 hb hGi hv ht
    have ek : k = n := by omega
    subst ek
    have eb := xof_i (k := b) (by omega)
    have en := xof_i (k := k) (by omega)
    have en1 := xof_i (k := k + 1) (by omega)
    have hh := xput_h (c := c) (n := k) (g := G) hw hne
    have hha := xput_a (c := c) (n := k) (g := G) ha hne
    refine i_189_4 (x := Int32.ofNat b) l2 ?_
    refine i_189_5 (fun c0 => ?_) (fun c0 => ?_)
    · have e : b = 0 := by omega
      subst e
      refine i_189_66 (hQ k G (by omega) hGi (by omega) ?_)
      rcases ht with h1 | h1 | h1
      · exact Or.inl h1
      · exact Or.inr h1
      · exact absurd rfl h1.1
    · have hcr := xcarry (v := Int32.ofNat b) (t := b) eb (by omega)
      obtain ⟨z, hz⟩ : ∃ z, Int32.ofNat b &&& (1073741823 : Int32) = z := ⟨_, rfl⟩
      rw [hz, Nat.mod_eq_of_lt hb, Nat.div_eq_of_lt hb] at hcr
      refine i_189_8 (x := Int32.ofNat k) l3 ?_
      refine i_189_9 (x := h) l0 ?_
      refine i_189_10 (v := Value.int (Int32.ofNat k)) hh rfl ?_
      refine i_189_13 (fun c1 => ?_) (fun c1 => absurd c1 (by omega))
      refine i_189_25 ?_
      refine i_189_26 (x := Int32.ofNat b) l2 ?_
      refine i_189_27 (c := Int32.ofNat b) (by rw [Int32.zero_add]) ?_
      refine i_189_28 rfl ?_
      have q0 := xld_n1 (i := 4) (v := .int (Int32.ofNat b)) rfl rfl l0
      have q3 := xld_n1 (i := 4) (v := .int (Int32.ofNat b)) rfl rfl l3
      have q4 : xld (xst1 lv 4 (.int (Int32.ofNat b))) 4 = some (.int (Int32.ofNat b)) := xld_s1
      refine i_189_30 (x := h) q0 ?_
      refine i_189_31 (v := Value.ref a) hh rfl ?_
      refine i_189_34 (x := Int32.ofNat k) q3 ?_
      refine i_189_35 (x := Int32.ofNat b) q4 ?_
      refine i_189_37 ?_
      refine i_189_39 (c := z) hz ?_
      refine i_189_40 (v := Value.int z) hha (by omega) (by omega) a7 rfl ?_
      rw [xput_arr hne, show (Int32.ofNat k).toInt.toNat = k by omega]
      have hh2 := xput_h (c := c) (n := k) (g := xup G k (.int z)) hw hne
      refine i_189_41 (x := Int32.ofNat b) q4 ?_
      refine i_189_43 ?_
      refine i_189_45 (c := Int32.ofNat 0) hcr.2.2.2 ?_
      refine i_189_46 rfl ?_
      refine i_189_47 (x := Int32.ofNat k) (c := Int32.ofNat (k + 1)) (xld_n1 rfl rfl q3) xof_succ rfl ?_
      have r0 := xld_n1 (i := 3) (v := .int (Int32.ofNat (k + 1))) rfl rfl (xld_n1 (i := 2) (v := .int (Int32.ofNat 0)) rfl rfl q0)
      refine i_189_50 (x := Int32.ofNat (k + 1)) xld_s1 ?_
      refine i_189_51 (x := h) r0 ?_
      refine i_189_52 (v := Value.int (Int32.ofNat k)) hh2 rfl ?_
      refine i_189_55 (fun c2 => absurd c2 (by omega)) (fun c2 => ?_)
      refine i_189_58 (x := h) r0 ?_
      refine i_189_59 (x := Int32.ofNat (k + 1)) xld_s1 ?_
      refine i_189_60 (fs2 := [.ref a, .int (Int32.ofNat (k + 1))]) hh2 (Nat.le_of_ble_eq_true rfl) rfl h7 ?_
      rw [xput_obj]
      refine i_189_63 ?_
      refine i_189_4 (x := Int32.ofNat 0) (xld_n1 rfl rfl xld_s1) ?_
      refine i_189_5 (fun _ => ?_) (fun c3 => absurd c3 (by decide))
      refine i_189_66 (hQ (k + 1) _ (by omega) (fun j hj => ?_) ?_ (Or.inr ?_))
      · by_cases e : j = k
        · subst e; exact ⟨z, xup_eq, hcr.1, hcr.2.1⟩
        · obtain ⟨y, y1, y2⟩ := hGi j (by omega)
          exact ⟨y, (xup_ne e).trans y1, y2⟩
      · show xvl (xup G k _) k + xwd (xup G k _) k * 2 ^ (30 * k) = T
        rw [xvl_same (g' := G) fun j hj => xup_ne (by omega), xwd_int (x := z) xup_eq, hcr.2.2.1]
        exact hv
      · show xwd _ k ≠ 0
        rw [xwd_int (x := z) xup_eq, hcr.2.2.1]
        omega
  | succ m ih =>
    intro k b lv G hk l0 l2 l3 hb hGi hv ht
    have eb := xof_i (k := b) (by omega)
    have en := xof_i (k := n) (by omega)
    have ek := xof_i (k := k) (by omega)
    have ek1 := xof_i (k := k + 1) (by omega)
    have hh := xput_h (c := c) (n := n) (g := G) hw hne
    have hha := xput_a (c := c) (n := n) (g := G) ha hne
    have htop : xwd G (n - 1) ≠ 0 := by
      rcases ht with h1 | h1 | h1
      · omega
      · exact h1
      · omega
    refine i_189_4 (x := Int32.ofNat b) l2 ?_
    refine i_189_5 (fun c0 => ?_) (fun c0 => ?_)
    · have e : b = 0 := by omega
      subst e
      exact i_189_66 (hQ n G (by omega) hGi (by omega) (Or.inr htop))
    · obtain ⟨x, hx, x0, x1⟩ := hGi k (by omega)
      have ux := xun_i x0
      have s1 : (x + Int32.ofNat b).toInt = ((xun x + b : Nat) : Int) := by rw [xadd_i (by omega) (by omega)]; omega
      obtain ⟨s, hs⟩ : ∃ s, x + Int32.ofNat b = s := ⟨_, rfl⟩
      rw [hs] at s1
      have hcr := xcarry s1 (by omega)
      obtain ⟨z, hz⟩ : ∃ z, s &&& (1073741823 : Int32) = z := ⟨_, rfl⟩
      rw [hz] at hcr
      refine i_189_8 (x := Int32.ofNat k) l3 ?_
      refine i_189_9 (x := h) l0 ?_
      refine i_189_10 (v := Value.int (Int32.ofNat n)) hh rfl ?_
      refine i_189_13 (fun c1 => absurd c1 (by omega)) (fun c1 => ?_)
      refine i_189_16 (x := h) l0 ?_
      refine i_189_17 (v := Value.ref a) hh rfl ?_
      refine i_189_20 (x := Int32.ofNat k) l3 ?_
      refine i_189_21 (v := Value.int x) hha (by omega) (by omega) (by rw [show (Int32.ofNat k).toInt.toNat = k by omega]; exact hx) ?_
      refine i_189_22 ?_
      refine i_189_26 (x := Int32.ofNat b) l2 ?_
      refine i_189_27 (c := s) hs ?_
      refine i_189_28 rfl ?_
      have q0 := xld_n1 (i := 4) (v := .int s) rfl rfl l0
      have q3 := xld_n1 (i := 4) (v := .int s) rfl rfl l3
      have q4 : xld (xst1 lv 4 (.int s)) 4 = some (.int s) := xld_s1
      refine i_189_30 (x := h) q0 ?_
      refine i_189_31 (v := Value.ref a) hh rfl ?_
      refine i_189_34 (x := Int32.ofNat k) q3 ?_
      refine i_189_35 (x := s) q4 ?_
      refine i_189_37 ?_
      refine i_189_39 (c := z) hz ?_
      refine i_189_40 (v := Value.int z) hha (by omega) (by omega) a7 rfl ?_
      rw [xput_arr hne, show (Int32.ofNat k).toInt.toNat = k by omega]
      have hh2 := xput_h (c := c) (n := n) (g := xup G k (.int z)) hw hne
      refine i_189_41 (x := s) q4 ?_
      refine i_189_43 ?_
      refine i_189_45 (c := Int32.ofNat ((xun x + b) / 1073741824)) hcr.2.2.2 ?_
      refine i_189_46 rfl ?_
      refine i_189_47 (x := Int32.ofNat k) (c := Int32.ofNat (k + 1)) (xld_n1 rfl rfl q3) xof_succ rfl ?_
      have r0 := xld_n1 (i := 3) (v := .int (Int32.ofNat (k + 1))) rfl rfl (xld_n1 (i := 2) (v := .int (Int32.ofNat ((xun x + b) / 1073741824))) rfl rfl q0)
      refine i_189_50 (x := Int32.ofNat (k + 1)) xld_s1 ?_
      refine i_189_51 (x := h) r0 ?_
      refine i_189_52 (v := Value.int (Int32.ofNat n)) hh2 rfl ?_
      refine i_189_55 (fun c2 => ?_) (fun c2 => absurd c2 (by omega))
      refine i_189_63 ?_
      refine ih (k + 1) ((xun x + b) / 1073741824) _ _ (by omega) r0 (xld_n1 rfl rfl xld_s1) xld_s1 (by omega) (xiw_up hGi hcr.1 hcr.2.1) ?_ ?_
      · have h1 := xvl_up (G := G) (z := z) (show k < n by omega)
        rw [xwd_int hx, hcr.2.2.1] at h1
        have dm := Nat.div_add_mod (xun x + b) 1073741824
        have e3 : (1073741824 * ((xun x + b) / 1073741824) + (xun x + b) % 1073741824) * 2 ^ (30 * k) = (xun x + b) * 2 ^ (30 * k) := by rw [dm]
        rw [Nat.add_mul, Nat.add_mul] at e3
        have e4 : (xun x + b) / 1073741824 * 2 ^ (30 * (k + 1)) = 1073741824 * ((xun x + b) / 1073741824) * 2 ^ (30 * k) := by
          rw [show 30 * (k + 1) = 30 * k + 30 by omega, Nat.pow_add, Nat.mul_comm (2 ^ (30 * k)), ← Nat.mul_assoc, Nat.mul_comm _ (2 ^ 30)]
        rw [e4]
        omega
      · by_cases e : k = n - 1
        · by_cases e2 : (xun x + b) / 1073741824 = 0
          · refine Or.inr (Or.inl ?_)
            rw [← e, xwd_int (x := z) xup_eq, hcr.2.2.1]
            omega
          · exact Or.inr (Or.inr ⟨e2, by omega⟩)
        · exact Or.inr (Or.inl (by rw [xwd_ne (by omega)]; exact htop))
/-- add of an int -/
theorem addi_ev {d h a c n v : Nat} {w : xW} {g : Nat → Value} {Q : Option Value ⊕ Nat → xW → Prop} (hc : c < 2147483648) (hne : h ≠ a) (h7 : 7 ≤ h) (a7 : 7 ≤ a) (hw : w[h]? = some (.inr (13, [.ref a, .int (Int32.ofNat n)]))) (ha : w[a]? = some (.inl (0, c, g))) (hn : n + 1 ≤ c) (hv : v < 1073741824) (hi : ∀ j, j < n → xiw g j) (ht : n = 0 ∨ xwd g (n - 1) ≠ 0)
    (hQ : ∀ (n' : Nat) (g' : Nat → Value), n' ≤ n + 1 → (∀ j, j < n' → xiw g' j) → xvl g' n' = xvl g n + v → (n' = 0 ∨ xwd g' (n' - 1) ≠ 0) → Q (.inl none) (xput w h a c n' g')) :
    xEv d 189 0 (lv_args 0 [.ref h, .int (Int32.ofNat v)]) [] w Q := by
  refine i_189_0 (x := Int32.ofNat v) rfl ?_
  refine i_189_1 rfl ?_
  refine i_189_2 ?_
  refine i_189_3 rfl ?_
  refine xEv.world (xput_self hw ha).symm ?_
  refine addi_loop (T := xvl g n + v) hc hne h7 a7 hw ha hn hQ n 0 v _ g (by omega) rfl rfl rfl hv hi (by rw [Nat.mul_zero, Nat.pow_zero, Nat.mul_one]) ?_
  rcases ht with h1 | h1
  · exact Or.inl h1
  · exact Or.inr (Or.inl h1)
