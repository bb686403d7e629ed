/-! setShifted of the class's naturals, by value -/
theorem xun_b {v : Nat} {p : Int} : xun (Int32.ofInt (bfn v p : Nat)) = bfn v p := by
  have h1 := xun_m (bfn v p : Nat)
  have h2 := bfn_lt (v := v) (p := p)
  omega
theorem shf_0 {k : Int} : shf 0 k = 0 := by
  unfold shf
  split
  · rw [Nat.zero_mul]
  · rw [Nat.zero_div]
section
variable {w0 w : xW} {L Z : Nat} {A C B : Nat → Nat} {S S0 : Nat → Nat → Int} {V : Nat → Nat} {h h2 r d : Nat} {v k : Int}
theorem X_shift {u : Nat} (hX : cX w0 L Z S V w) (hc : kd h = 3) (hc2 : kd h2 = 3) (hu : V h2 = u) (k0 : -1000000000 ≤ k) (hb : (xbl u : Int) + k ≤ 639000) : ∃ w', xRun (d + 3) 42 [.ref h, .ref h2, .int (Int32.ofInt k)] w (.inl none) w' ∧ cX w0 L Z S (uv V h (shf u k)) w' := by
  obtain ⟨A, C, B, S0, hR, hv, hs⟩ := hX
  obtain ⟨m, m1, m2, m3, m4⟩ := hv h2 hc2
  rw [hu] at m3
  have hz : h2 ≠ h + 1 := fun g => by have := kd_c hc; rw [← g] at this; omega
  have hcap2 := hR.cap hc2
  obtain ⟨ln, hln⟩ : ∃ ln : Nat, ln = (xbl (shf u k) + 31) / 32 := ⟨_, rfl⟩
  have hs0 : m = (xbl u + 31) / 32 := by rw [← m3]; exact nv_size m4
  have hzl : (m = 0 ∧ ln = 0) ∨ (m ≠ 0 ∧ (ln : Int) = max 0 (((xbl u : Int) + k + 31) / 32)) := by
    by_cases g : m = 0
    · subst g
      have e : u = 0 := m3.symm
      exact Or.inl ⟨rfl, by rw [hln, e, shf_0, xbl_zero]⟩
    · have e : u ≠ 0 := fun e => g (by rw [hs0, e, xbl_zero])
      have := shf_bl (k := k) e
      exact Or.inr ⟨g, by omega⟩
  have hl1 : ln ≤ 20000 := by omega
  obtain ⟨w1, A1, C1, B1, S1, r1, hR1, p1, p2, p3⟩ := c_room (d := d) (t := (ln : Int)) hR hc (by omega) (by omega)
  have hcap1 := hR1.cap hc
  have o1 : S1 h2 1 = m := by rw [p3 h2 1 (by omega)]; exact m1
  have o2 : cv (S1 (h2 + 1)) m = u := by
    rw [← m3]
    refine cv_same (fun j hj => p3 _ _ ?_)
    by_cases e : h2 = h
    · subst e; omega
    · omega
  have fin : ∀ lv w S', cR w0 L Z A1 C1 B1 S' w → (∀ b j, b ≠ h + 1 → S' b j = S1 b j) → (∀ j : Nat, j < ln → S' (h + 1) j = (bfn u (32 * (j : Int) - k) : Nat)) → xld lv 0 = some (.ref h) → xld lv 3 = some (.int (Int32.ofInt (ln : Int))) → xEv (d + 3) 42 106 lv [] w (fun o w' => o = .inl none ∧ cX w0 L Z S (uv V h (shf u k)) w') := by
    intro lv w S' hR q2 q3 l0 l3
    refine i_42_106 (x := h) l0 ?_
    refine i_42_107 (x := Int32.ofInt (ln : Int)) l3 ?_
    refine i_42_108 (fs2 := [Value.ref (A1 h), Value.int (Int32.ofInt (ln : Int))]) (hR.n3 hc) (Nat.le_of_ble_eq_true rfl) rfl (kd_o (show kd h < 12 by omega)).1 ?_
    refine xgen (P := cR w0 L Z A1 C1 B1 (u2 S' h 1 (ln : Int))) (hR.set1 (v := (ln : Int)) hc rfl) (fun w hR => ?_)
    refine i_42_111 ?_
    refine ⟨rfl, cX.close hv hs hc hR p2 (fun b j g1 g2 => by rw [u2_n g1, q2 b j g2, p3 b j (Or.inl g2)]) ⟨ln, by rw [u2_s, u1_s], by omega, ?_⟩⟩
    rw [u2_n (by omega)]
    exact cv_all hln (fun j hj => by rw [← bfn_sh, ← cw_un, q3 j hj, xun_b])
  have tail : ∀ z : Int32, z = Int32.ofInt (ln : Int) → ∀ lv, xld lv 0 = some (.ref h) → xld lv 1 = some (.ref h2) → xld lv 2 = some (.int (Int32.ofInt k)) → xEv (d + 3) 42 26 lv [.int z] w (fun o w' => o = .inl none ∧ cX w0 L Z S (uv V h (shf u k)) w') := by
    intro z ez lv l0 l1 l2
    subst ez
    refine i_42_26 rfl ?_
    refine lgen1 (i := 3) (v := Value.int (Int32.ofInt (ln : Int))) (fun lv lg ls => ?_)
    replace l0 := lg 0 _ rfl rfl l0
    replace l1 := lg 1 _ rfl rfl l1
    replace l2 := lg 2 _ rfl rfl l2
    have l3 := ls
    refine i_42_27 (x := h) l0 ?_
    refine i_42_28 (x := Int32.ofInt (ln : Int)) l3 ?_
    have hobj := hR.n3 hc
    have hrun := r1
    replace hR := hR1
    refine i_42_29 hobj (Nat.le_of_ble_eq_true rfl) hrun ?_
    refine i_42_32 (x := Int32.ofInt k) l2 ?_
    refine i_42_33 (z_lt (a := k) ⟨by omega, by omega⟩ fun c1 => ?_) (z_ge (a := k) ⟨by omega, by omega⟩ fun c1 => ?_)
    · refine i_42_73 ?_
      refine i_42_74 rfl ?_
      refine lgen1 (i := 4) (v := Value.int 0) (fun lv lg ls => ?_)
      replace l3 := lg 3 _ rfl rfl l3
      replace l0 := lg 0 _ rfl rfl l0
      replace l1 := lg 1 _ rfl rfl l1
      replace l2 := lg 2 _ rfl rfl l2
      have l4 := ls
      refine shu_loop (d := d + 2) (u := u) (ln := ln) hc hc2 ⟨k0, by omega⟩ c1 (Nat.le_trans m2 (p2 h2)) (by omega) ln (i := 0) hR o1 (by omega) (fun j _ _ => by rw [o2]) l0 l1 l2 l3 l4 (fun lv w S' q1 q2 q3 l0 l3 => ?_)
      exact fin lv w S' q1 (fun b j hb => q2 b j (Or.inl hb)) (fun j hj => q3 j (Nat.zero_le j) hj) l0 l3
    · refine i_42_36 (x := Int32.ofInt (ln : Int)) l3 ?_
      refine i_42_37 ?_
      refine i_42_38 (c := Int32.ofInt ((ln : Int) - 1)) (o_sub (ln : Int) 1) ?_
      refine i_42_39 rfl ?_
      refine lgen1 (i := 4) (v := Value.int (Int32.ofInt ((ln : Int) - 1))) (fun lv lg ls => ?_)
      replace l3 := lg 3 _ rfl rfl l3
      replace l0 := lg 0 _ rfl rfl l0
      replace l1 := lg 1 _ rfl rfl l1
      replace l2 := lg 2 _ rfl rfl l2
      have l4 := ls
      refine shd_loop (d := d + 2) (u := u) (ln := ln) hc hc2 ⟨k0, by omega⟩ c1 (Nat.le_trans m2 (p2 h2)) ln hR o1 (by omega) (fun j _ => by rw [o2]) l0 l1 l2 l3 l4 (fun lv w S' q1 q2 q3 l0 l3 => ?_)
      exact fin lv w S' q1 (fun b j hb => q2 b j (Or.inl hb)) q3 l0 l3
  have key : ∀ lv, xld lv 0 = some (.ref h) → xld lv 1 = some (.ref h2) → xld lv 2 = some (.int (Int32.ofInt k)) → xEv (d + 3) 42 0 lv [] w (fun o w' => o = .inl none ∧ cX w0 L Z S (uv V h (shf u k)) w') := by
    intro lv l0 l1 l2
    refine i_42_0 (x := h2) l1 ?_
    refine i_42_1 (v := Value.int (Int32.ofInt (m : Int))) (hR.n3n hc2 m1) rfl ?_
    refine i_42_4 (z_ne (a := (m : Int)) ⟨by omega, by omega⟩ fun c0 => ?_) (z_eq (a := (m : Int)) ⟨by omega, by omega⟩ fun c0 => ?_)
    · refine i_42_11 ?_
      refine i_42_12 (x := h2) l1 ?_
      have hobj := hR.n3 hc2
      have hrun := c_bits (d := d + 1) hR hc2 m1 m2 m4
      rw [m3] at hrun
      refine i_42_13 hobj (Nat.le_of_ble_eq_true rfl) hrun ?_
      refine i_42_16 (x := Int32.ofInt k) l2 ?_
      refine i_42_17 (c := Int32.ofInt ((xbl u : Int) + k)) (o_add (xbl u : Int) k) ?_
      refine i_42_18 ?_
      refine i_42_20 (c := Int32.ofInt (((xbl u : Int) + k) + 31)) (o_add ((xbl u : Int) + k) 31) ?_
      refine i_42_21 ?_
      refine i_42_22 (c := Int32.ofInt ((((xbl u : Int) + k) + 31) / 32)) (o_shr5 (t := ((xbl u : Int) + k) + 31) ⟨by omega, by omega⟩) ?_
      have hrun := s_max (d := d + 1) (w := w) (a := 0) (b := (((xbl u : Int) + k) + 31) / 32) ⟨by decide, by decide⟩ ⟨by omega, by omega⟩
      refine i_42_23 (Nat.le_of_ble_eq_true rfl) hrun ?_
      exact tail _ (by congr 1; omega) lv l0 l1 l2
    · refine i_42_7 ?_
      refine i_42_8 ?_
      exact tail _ (by rw [show ln = 0 by omega]; rfl) lv l0 l1 l2
  obtain ⟨o, w', h1, rfl, h2⟩ := (key (lv_args 0 [.ref h, .ref h2, .int (Int32.ofInt k)]) rfl rfl rfl).run
  exact ⟨w', h1, h2⟩
end
