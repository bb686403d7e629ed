/-- up -/
theorem up_ev {d h a c n k : Nat} {w : xW} {g : Nat → Value} {Q : Option Value ⊕ Nat → xW → Prop} (hc : c < 67108864) (hne : h ≠ a) (h7 : 7 ≤ h) (a7 : 7 ≤ a) (hw : w[h]? = some (.inr (13, [.ref a, .int (Int32.ofNat n)]))) (ha : w[a]? = some (.inl (0, c, g))) (hk : k < 2147483648) (hn : n + k / 30 + 1 ≤ c) (hi : ∀ j, j < n → xiw g j) (ht : n = 0 ∨ xwd g (n - 1) ≠ 0)
    (hQ : ∀ (n' : Nat) (g' : Nat → Value), n' ≤ n + k / 30 + 1 → (∀ j, j < n' → xiw g' j) → xvl g' n' = xvl g n * 2 ^ k → (n' = 0 ∨ xwd g' (n' - 1) ≠ 0) → (∀ j, n + k / 30 < j → g' j = g j) → Q (.inl none) (xput w h a c n' g')) :
    xEv (d + 1) 188 0 (lv_args 0 [.ref h, .int (Int32.ofNat k)]) [] w Q := by
  have en := xof_i (k := n) (by omega)
  have ek := xof_i (k := k) hk
  have self : xput w h a c n g = w := by
    unfold xput
    rw [xset_self ha, xset_self hw]
  refine i_188_0 (x := h) rfl ?_
  refine i_188_1 (v := Value.int (Int32.ofNat n)) hw rfl ?_
  refine i_188_4 (fun c0 => ?_) (fun c0 => ?_)
  · have e : n = 0 := by omega
    subst e
    have := hQ 0 g (by omega) (fun j hj => absurd hj (by omega)) (by show 0 = 0 * _; omega) (Or.inl rfl) (fun _ _ => rfl)
    rw [self] at this
    exact i_188_11 this
  refine i_188_7 (x := Int32.ofNat k) rfl ?_
  refine i_188_8 (fun c1 => ?_) (fun c1 => ?_)
  · have dv := xdiv30 (k := Int32.ofNat k) (by omega)
    have hWi : (Int32.ofNat k / (30 : Int32)).toInt = ((k / 30 : Nat) : Int) := by rw [dv.1, ek]; omega
    have hsi : (Int32.ofNat k - Int32.ofNat k / (30 : Int32) * (30 : Int32)).toInt = ((k % 30 : Nat) : Int) := by rw [dv.2, ek]; omega
    obtain ⟨Wi, eW⟩ : ∃ Wi, Int32.ofNat k / (30 : Int32) = Wi := ⟨_, rfl⟩
    obtain ⟨s, es⟩ : ∃ s, Int32.ofNat k - Int32.ofNat k / (30 : Int32) * (30 : Int32) = s := ⟨_, rfl⟩
    rw [eW] at hWi
    rw [es] at hsi
    have hp : k % 30 < 30 := Nat.mod_lt _ (by omega)
    have s1 : (Int32.ofNat n + Wi).toInt = ((n + k / 30 : Nat) : Int) := by rw [xadd_i (by omega) (by omega)]; omega
    have s3 : (Int32.ofNat n - (1 : Int32)).toInt = (n : Int) - 1 := by rw [xsub_g en (show (1 : Int32).toInt = 1 from rfl) (by omega) (by omega)]
    refine i_188_12 (x := Int32.ofNat k) rfl ?_
    refine i_188_13 ?_
    refine i_188_15 (c := Wi) (by decide) eW ?_
    refine i_188_16 rfl ?_
    refine i_188_17 (x := Int32.ofNat k) rfl ?_
    refine i_188_18 ?_
    refine i_188_20 (c := s) (by decide) es ?_
    refine i_188_21 rfl ?_
    refine i_188_22 (x := h) rfl ?_
    refine i_188_23 (v := Value.ref a) hw rfl ?_
    refine i_188_26 (x := h) rfl ?_
    refine i_188_27 (v := Value.int (Int32.ofNat n)) hw rfl ?_
    refine i_188_30 (x := Wi) rfl ?_
    refine i_188_31 (c := Int32.ofNat n + Wi) rfl ?_
    refine i_188_32 ?_
    refine i_188_33 (v := Value.int 0) ha (by omega) (by omega) a7 rfl ?_
    rw [show (Int32.ofNat n + Wi).toInt.toNat = n + k / 30 by omega]
    refine i_188_34 (x := h) rfl ?_
    refine i_188_35 (v := Value.int (Int32.ofNat n)) (xgn (fun e => hne e.symm) hw) rfl ?_
    refine i_188_38 ?_
    refine i_188_39 (c := Int32.ofNat n - (1 : Int32)) rfl ?_
    refine i_188_40 rfl ?_
    refine up_loop (g := g) (W := k / 30) (p := k % 30) (s := s) (Wi := Wi) (by omega) hne a7 hw ha hn hi hp hsi hWi ?_ n _ _ (Int32.ofNat n - (1 : Int32)) 0 (Nat.le_refl _) s3 rfl rfl rfl rfl (fun x hx => xup_ne (by omega)) (fun x x1 x2 => ?_) xup_eq (Nat.zero_mod _) (fun _ => rfl) ?_ (fun x hx => xup_ne (by omega))
    · intro lv G l0 l2 hGi hv hk2
      refine i_188_124 ?_
      refine i_188_125 rfl ?_
      refine up_zero (n := n) (W := k / 30) (g := G) (w := w.set a (.inl (0, c, G))) (by omega) hne a7 (xgn (fun e => hne e.symm) hw) (xgs ha) (by omega) hWi ?_ (k / 30) 0 _ G (by omega) (xld_n1 rfl rfl l0) (xld_n1 rfl rfl l2) xld_s1 (fun x hx => absurd hx (by omega)) (fun _ _ => rfl) |> fun z => xEv.world xset_set.symm z
      intro lv2 G2 q0 q2 hz2 hG2
      rw [xset_set]
      have hw2 : (w.set a (.inl (0, c, G2)))[h]? = some (.inr (13, [.ref a, .int (Int32.ofNat n)])) := xgn (fun e => hne e.symm) hw
      have hiw : ∀ j, j < n + k / 30 + 1 → xiw G2 j := fun j hj => by
        by_cases e : j < k / 30
        · exact ⟨0, hz2 j e, by decide, by decide⟩
        · obtain ⟨z, z1, z2⟩ := hGi j (by omega) (by omega)
          exact ⟨z, (hG2 j (by omega)).trans z1, z2⟩
      have hval : xvl G2 (n + k / 30 + 1) = xvl g n * 2 ^ k := by
        rw [show n + k / 30 + 1 = k / 30 + (n + 1) by omega, xvl_split, xsv_same (g' := G) fun j j1 _ => hG2 j j1, hv, xsv_zero, xvl_zero (g := G2) (j := 0) (Nat.zero_le _) fun i _ h2 => by rw [xwd_int (hz2 i h2)]; rfl]
        show 0 + _ = _
        rw [Nat.zero_add, Nat.mul_assoc, ← Nat.pow_add, show k % 30 + 30 * (k / 30) = k by omega]
      have s4 : (Int32.ofNat n + Wi + (1 : Int32)) = Int32.ofNat (n + k / 30 + 1) := by
        apply Int32.toInt_inj.mp
        rw [xadd_g s1 (show (1 : Int32).toInt = 1 from rfl) (by omega) (by omega), xof_i (by omega)]
        omega
      refine i_188_147 (x := h) q0 ?_
      refine i_188_148 (x := h) q0 ?_
      refine i_188_149 (v := Value.int (Int32.ofNat n)) hw2 rfl ?_
      refine i_188_152 (x := Wi) q2 ?_
      refine i_188_153 (c := Int32.ofNat n + Wi) rfl ?_
      refine i_188_154 ?_
      refine i_188_155 (c := Int32.ofNat (n + k / 30 + 1)) s4 ?_
      have htr := trim_ev (d := d) (n0 := Int32.ofNat n) (k := n + k / 30 + 1) (Q := fun o w1 => o = .inl none ∧ ∃ n', n' ≤ n + k / 30 + 1 ∧ xvl G2 n' = xvl G2 (n + k / 30 + 1) ∧ (n' = 0 ∨ xwd G2 (n' - 1) ≠ 0) ∧ w1 = xput w h a c n' G2) hne h7 (by omega) hw2 (xgs ha) hn hiw (fun n' h1 h2 h3 => ⟨rfl, n', h1, h2, h3, rfl⟩)
      obtain ⟨o, w1, hr, ho, n', h1, h2, h3, e⟩ := htr.run
      subst ho
      subst e
      refine i_188_156 hw2 (Nat.le_of_ble_eq_true rfl) hr ?_
      refine i_188_159 ?_
      exact hQ n' G2 h1 (fun j hj => hiw j (by omega)) (h2.trans hval) h3 (fun j hj => (hG2 j (by omega)).trans (hk2 j hj))
    · have e : x = n + k / 30 := by omega
      subst e
      exact ⟨0, xup_eq, by decide, by decide⟩
    · rw [show n + 1 - n = 0 + 1 by omega, xsv_cons, xwd_int (x := 0) xup_eq, Nat.sub_self]
      show 0 + 1073741824 * 0 = 0 * _
      omega
  · have e : k = 0 := by omega
    subst e
    have := hQ n g (by omega) hi (by rw [Nat.pow_zero, Nat.mul_one]) ht (fun _ _ => rfl)
    rw [self] at this
    exact i_188_11 this
