/-! read, write side by side -/
/-- the constants of class and reference -/
def KC (W : xW) : Prop := W[1]? = some (.inr (18, [.ref 2, .int 0])) ∧ W[2]? = some (.inl (1, 3, fun j => .int (xnan.getD j 0))) ∧ W[3]? = some (.inr (18, [.ref 4, .int 0])) ∧ W[4]? = some (.inl (1, 3, fun j => .int (xinf.getD j 0))) ∧ W[5]? = some (.inl (3, 37, fun j => .long (xlogc.getD j 0))) ∧ W[6]? = some (.inl (0, 37, fun j => .int (xlogm.getD j 0)))
theorem KC.of {W w : xW} (h : KC W) (he : ∀ j, j < 7 → w[j]? = W[j]?) : KC w := by
  obtain ⟨h1, h2, h3, h4, h5, h6⟩ := h
  exact ⟨(he 1 (by decide)).trans h1, (he 2 (by decide)).trans h2, (he 3 (by decide)).trans h3, (he 4 (by decide)).trans h4, (he 5 (by decide)).trans h5, (he 6 (by decide)).trans h6⟩
theorem dg_same {A rx nn x : Nat} (hrx : 2 ≤ rx) (hA : A ≤ rx ^ nn) (hx : x < nn) : (if x = 0 ∧ rx ^ nn ≤ A then (49 : Int) else ltr ((A / rx ^ (nn - 1 - x) % rx : Nat) : Int)) = ltr (((if rx ^ nn ≤ A then A / rx else A) / rx ^ (nn - 1 - x) % rx : Nat) : Int) := by
  by_cases c : rx ^ nn ≤ A
  · have e : A = rx ^ nn := Nat.le_antisymm hA c
    rw [if_pos c]
    subst e
    have h0 : 0 < rx := by omega
    have e1 : rx ^ nn / rx = rx ^ (nn - 1) := by
      obtain ⟨k, rfl⟩ : ∃ k, nn = k + 1 := ⟨nn - 1, by omega⟩
      rw [Nat.pow_succ, Nat.mul_div_cancel _ h0, Nat.add_sub_cancel]
    rw [e1, Nat.pow_div (show nn - 1 - x ≤ nn - 1 by omega) h0, Nat.pow_div (show nn - 1 - x ≤ nn by omega) h0]
    by_cases cx : x = 0
    · subst cx
      rw [if_pos ⟨rfl, Nat.le_refl _⟩, show nn - 1 - (nn - 1 - 0) = 0 by omega, Nat.pow_zero, Nat.mod_eq_of_lt (show 1 < rx by omega)]
      rfl
    · rw [if_neg (fun h => cx h.1), show nn - 1 - (nn - 1 - x) = (x - 1) + 1 by omega, show nn - (nn - 1 - x) = x + 1 by omega, Nat.pow_succ, Nat.pow_succ, Nat.mul_mod_left, Nat.mul_mod_left]
  · rw [if_neg c, if_neg (fun h => c h.2)]
section
variable {W w : xW} {L Z : Nat} {S S' Sm Sm' : Nat → Nat → Int} {V V' Vm Vm' : Nat → Nat} {g : Nat → Value}
/-- a good call with an outcome, from any state -/
theorem IV.op2 {r : Nat} {o : OO} {v : Int64} (h : IW W L Z S' V' Sm' Vm' g w) (hI : cI S V) (hM : mI Sm Vm) (hJ : cJ S) (hE : eqA S V Sm Vm) (h31 : Sm 128 31 = 0) (hr : r < 16) (hC : cOut S S' V V' (30 + 3 * r) o) (hP : oP Sm Sm' Vm Vm' r o) (ho : okOO (S (30 + 3 * r) 0) o) (hg : g 0 = .long v) : IV W L Z 0 v w := by
  have ho' : okOO (Sm 153 r) o := by
    rw [(hE.1 r hr).1]
    exact ho
  refine ⟨S', V', Sm', Vm', g, h, cI_cOut hI hr hC ho, mI_oP hM hr hP ho', cJ_out hJ hr hC ho, eqA_out hE hr hC hP, ?_, fun _ => hg⟩
  rw [hP.2.2.2.2.2.2.1 31 (by decide) (by omega)]
  exact h31
theorem cI_w {t rx n : Nat} {F mode : Int} (h : cI S V) (hP : wrP S S' V V' t rx n F mode) : cI S' V' := by
  obtain ⟨i1, i2, i3, i4, i5, i6⟩ := h
  obtain ⟨-, -, p3, p4, p5⟩ := hP
  have m : ∀ b j, b ≠ 79 → b ≠ 113 → b ≠ 114 → S' b j = S b j := p3
  have n : ∀ i, i < 79 → V' i = V i := fun i hi => p5 i (by omega) (by omega) (by omega) (by omega) (by omega) (by omega) (by omega) (by omega) (by omega) (by omega) (by omega)
  refine ⟨fun q hq => ?_, ?_, ?_, p4, ?_, ?_⟩
  · rw [m (30 + 3 * q) 0 (by omega) (by omega) (by omega), m (30 + 3 * q) 1 (by omega) (by omega) (by omega), m (30 + 3 * q) 2 (by omega) (by omega) (by omega), m (30 + 3 * q) 3 (by omega) (by omega) (by omega), n (30 + 3 * q + 1) (by omega)]; exact i1 q hq
  · rw [m 78 0 (by omega) (by omega) (by omega), m 78 1 (by omega) (by omega) (by omega)]; exact i2
  · rw [m 78 2 (by omega) (by omega) (by omega)]; exact i3
  · rw [m 7 11 (by omega) (by omega) (by omega)]; exact i5
  · rw [m 9 0 (by omega) (by omega) (by omega), m 9 1 (by omega) (by omega) (by omega), m 9 2 (by omega) (by omega) (by omega), m 10 0 (by omega) (by omega) (by omega)]; exact i6
theorem cJ_w {t rx n : Nat} {F mode : Int} (h : cJ S) (hP : wrP S S' V V' t rx n F mode) (hn : n ≤ 4112) : cJ S' := by
  obtain ⟨j1, j2, j3⟩ := h
  obtain ⟨-, p2, p3, p4, p5⟩ := hP
  have m : ∀ b j, b ≠ 79 → b ≠ 113 → b ≠ 114 → S' b j = S b j := p3
  refine ⟨by rw [m 78 3 (by omega) (by omega) (by omega)]; exact j1, fun j => ?_, by rw [p2]; omega⟩
  rw [m 29 j (by omega) (by omega) (by omega)]
  exact j2 j
theorem mI_w {nn : Nat} {f : Nat → Int} (h : mI Sm Vm) (hE : wE Sm Sm' Vm Vm' nn f) : mI Sm' Vm' := mI_m (fun a j hb => hE.2.2.1 a j (by omega) (by omega) (by omega) (by omega)) (fun k h1 h2 => hE.2.2.2 k h1 (by omega)) h
theorem eqA_w {t rx n : Nat} {F mode : Int} {f : Nat → Int} (h : eqA S V Sm Vm) (hP : wrP S S' V V' t rx n F mode) (hE : wE Sm Sm' Vm Vm' n f) (hd : ∀ x, x < n → f x = S' 114 x) : eqA S' V' Sm' Vm' := by
  obtain ⟨e1, ⟨e2, e3, e4, e5⟩, ⟨e6, e7⟩, e8, e9⟩ := h
  obtain ⟨-, p2, p3, p4, p5⟩ := hP
  obtain ⟨q1, q2, q3, q4⟩ := hE
  have n : ∀ b j, b ≠ 79 → b ≠ 113 → b ≠ 114 → S' b j = S b j := p3
  have nv : ∀ i, i < 79 → V' i = V i := fun i hi => p5 i (by omega) (by omega) (by omega) (by omega) (by omega) (by omega) (by omega) (by omega) (by omega) (by omega) (by omega)
  refine ⟨fun q hq => ?_, ⟨?_, ?_, ?_, ?_⟩, ⟨?_, fun j => ?_⟩, ?_, fun j hj => ?_⟩
  · obtain ⟨f1, f2, f3, f4⟩ := e1 q hq
    have g0 : vS S' 153 q = vS S 153 q := n (30 + 3 * q) 0 (by omega) (by omega) (by omega)
    have g1 : vS S' 154 q = vS S 154 q := n (30 + 3 * q) 1 (by omega) (by omega) (by omega)
    have g2 : vS S' 156 q = vS S 156 q := n (30 + 3 * q) 2 (by omega) (by omega) (by omega)
    have g3 : vS S' 155 q = vS S 155 q := n (30 + 3 * q) 3 (by omega) (by omega) (by omega)
    have g4 : vV V' (160 + 2 * q) = vV V (160 + 2 * q) := by rw [vV_r, vV_r]; exact nv _ (by omega)
    unfold eqR
    rw [g0, g1, g2, g3, g4, q3 153 q (by omega) (by omega) (by omega) (by omega), q3 154 q (by omega) (by omega) (by omega) (by omega), q3 155 q (by omega) (by omega) (by omega) (by omega), q3 156 q (by omega) (by omega) (by omega) (by omega), q4 (160 + 2 * q) (by omega) (by omega)]
    exact ⟨f1, f2, f3, f4⟩
  · rw [q3 128 17 (by omega) (by omega) (by omega) (by omega)]; exact e2.trans (n 78 0 (by omega) (by omega) (by omega)).symm
  · rw [q3 128 18 (by omega) (by omega) (by omega) (by omega)]; exact e3.trans (n 78 1 (by omega) (by omega) (by omega)).symm
  · rw [q3 128 19 (by omega) (by omega) (by omega) (by omega)]; exact e4.trans (n 78 3 (by omega) (by omega) (by omega)).symm
  · rw [q3 128 20 (by omega) (by omega) (by omega) (by omega)]; exact e5.trans (n 78 2 (by omega) (by omega) (by omega)).symm
  · rw [q3 128 24 (by omega) (by omega) (by omega) (by omega), n 7 11 (by omega) (by omega) (by omega)]; exact e6
  · rw [q3 158 j (by omega) (by omega) (by omega) (by omega), n 29 j (by omega) (by omega) (by omega)]; exact e7 j
  · rw [q1, p2]
  · rw [p2] at hj
    rw [q2, if_pos (by omega)]; exact hd j (by omega)
end
section
variable {W w : xW} {L Z d : Nat}
theorem st_read {r base mode : Int} (hIV : IV0 W L Z w) (hKC : KC W) (b_r : -2147483648 ≤ r ∧ r < 2147483648) (b_base : -2147483648 ≤ base ∧ base < 2147483648) (b_mode : -2147483648 ≤ mode ∧ mode < 2147483648) : SP W L Z (d + 20) 141 257 [Value.ref 7, Value.int (Int32.ofInt r), Value.int (Int32.ofInt base), Value.int (Int32.ofInt mode), Value.ref 194] [Value.ref 128, Value.int (Int32.ofInt r), Value.int (Int32.ofInt base), Value.int (Int32.ofInt mode)] w := by
  obtain ⟨S, V, Sm, Vm, g, hW, hI, hM, hJ, hE⟩ := hIV
  have h7 := hW.1.k0 kq_7
  have hE1 := eqA_31 (k := 0) hE
  have hM1 := mI_31 (k := 0) hM
  have hK := hKC.of hW.2.2.2
  have e24 : (u2 Sm 128 31 0) 128 24 = S 7 11 := hE1.2.2.1.1
  have e158 : (u2 Sm 128 31 0) 158 = S 29 := funext (fun j => hE1.2.2.1.2 j)
  have h11 : 0 ≤ S 7 11 ∧ S 7 11 ≤ 4096 := hI.2.2.2.2.1
  have hS : S 7 11 = ((S 7 11).toNat : Int) := by omega
  by_cases hg : (0 ≤ r ∧ r ≤ 15) ∧ (2 ≤ base ∧ base ≤ 36) ∧ (0 ≤ mode ∧ mode ≤ 4)
  · obtain ⟨rx, rfl⟩ : ∃ rx : Nat, base = (rx : Int) := ⟨base.toNat, by omega⟩
    have h16 : r.toNat < 16 := by omega
    have hB1 : ∀ j, -128 ≤ (u2 Sm 128 31 0) 158 j ∧ (u2 Sm 128 31 0) 158 j ≤ 127 := fun j => by
      rw [e158]
      exact hJ.2.1 j
    rcases hx : unS (S 29) rx (S 7 11).toNat with _ | x
    ·
      obtain ⟨w1, S', V', hrun, hX, hnC, hnW⟩ := x_readN (d := d + 8) (r := r) (mode := mode) (rx := rx) (n := (S 7 11).toNat) hW.1 hI (w_nan hK.1 hK.2.1) (w_inf hK.2.2.1 hK.2.2.2.1) hK.2.2.2.2.1 (by omega) (by omega) (by omega) hJ.2.1 hS hx
      refine ⟨2, _, c_141_2 (d := d + 19) h7 hrun, ⟨by decide, by decide⟩, ?_⟩
      have hW3 := hW.clsT (c := .inr (15, [])) hX
      have hln := hW3.1.len
      obtain ⟨w4, hr4, Sm', Vm', hmR, rfl, hnV⟩ := t_257_2 (d := d + 19) (P := fun S' V' => S' = u2 (u2 Sm 128 31 0) 128 24 0 ∧ nV Vm V') hW3.2.1 (by omega) (fun w5 hw5 => by
          obtain ⟨w6, V6, h1, h2, h3⟩ := n_read (d := d + 11) (r := r) (rx := rx) (mode := mode) (n := (S 7 11).toNat) hw5 hM1 hB1 (by omega) (by omega) (by omega) (by omega) (by rw [e24]; exact hS) (by rw [e158]; exact hx)
          exact ⟨w6, _, _, h1, h2, rfl, h3⟩)
      exact ⟨0, w4, hr4, hW3.k3, L + 1 + 1, Z + xcs (.inr (15, [])) + xcs (.inr (15, [])), by omega, by rw [xcs15]; omega, IV.thr (hW3.refT hmR) (hnC.cI hnW (cI_e hI (by decide))) (nS.mI nS.refl hnV (mI_e hM1)) (cJ_c hnC.k hnC.2.1 (cJ_e hJ)) (eqA_c hnC.k hnC.2.1 hnW (eqA_m (fun _ _ _ => rfl) (fun k hk _ => hnV k hk) (eqA_e hE1))) (by decide)⟩
    · have e : sRdO ((u2 Sm 128 31 0) 153 r.toNat) ((u2 Sm 128 31 0) 128 17) ((u2 Sm 128 31 0) 128 18) ((u2 Sm 128 31 0) 128 20) ((u2 Sm 128 31 0) 128 19) mode rx x = sRdO (S (30 + 3 * r.toNat) 0) (S 78 0) (S 78 1) (S 78 2) (S 78 3) mode rx x := by
        rw [(hE1.1 r.toNat h16).1, hE1.2.1.1, hE1.2.1.2.1, hE1.2.1.2.2.1, hE1.2.1.2.2.2]
        rfl
      obtain ⟨w2, hrun, S', V', hX, hO⟩ := x_read (d := d + 8) (r := r) (mode := mode) (rx := rx) (x := x) (n := (S 7 11).toNat) hW.1 hI (w_nan hK.1 hK.2.1) (w_inf hK.2.2.1 hK.2.2.2.1) hK.2.2.2.2.1 (by omega) (by omega) (by omega) hJ.2.1 hS hx
      have hW2 := hW.cls hX
      refine ⟨0, _, l_141 (d := d + 19) h7 hrun hW2.2.2.1, ⟨by decide, by decide⟩, ?_⟩
      have hW3 := hW2.put (xup g 0 (.long (Int32.ofInt (sRdO (S (30 + 3 * r.toNat) 0) (S 78 0) (S 78 1) (S 78 2) (S 78 3) mode rx x).2.2.2.2.1).toInt64))
      obtain ⟨an, w4, hr4, rfl, Sm', Vm', hmR, hP⟩ := w_257 (d := d + 19) (P := fun an w4 => an = Int32.ofInt (sRdO (S (30 + 3 * r.toNat) 0) (S 78 0) (S 78 1) (S 78 2) (S 78 3) mode rx x).2.2.2.2.1 ∧ ∃ Sm' Vm', mR _ Sm' Vm' w4 ∧ oP (u2 (u2 Sm 128 31 0) 128 24 0) Sm' Vm Vm' r.toNat (sRdO (S (30 + 3 * r.toNat) 0) (S 78 0) (S 78 1) (S 78 2) (S 78 3) mode rx x)) hW3.2.1 (fun w5 hw5 => by
        obtain ⟨w6, h1, S6, V6, h2, h3⟩ := s_read (d := d + 11) (r := r) (rx := rx) (mode := mode) (n := (S 7 11).toNat) (x := x) hw5 hM1 hB1 (by omega) (by omega) (by omega) (by omega) (by rw [e24]; exact hS) (by rw [e158]; exact hx)
        rw [e] at h1 h3
        exact ⟨_, w6, h1, rfl, S6, V6, h2, h3⟩)
      exact ⟨_, w4, hr4, hW3.k3, L, Z, by omega, by omega, IV.op2 (hW3.ref hmR) (cI_e hI (by decide)) (mI_e hM1) (cJ_e hJ) (eqA_e hE1) rfl h16 hO hP (by rw [u2_e, if_neg (by omega)]; exact ok_rdo (hI.1 r.toNat h16).1 hI.2.1 hJ.1 (unS_k hx).1) (xup0 _ _)⟩
  · -- the arguments are bad
    obtain ⟨w1, hrun, hw1⟩ := b_cread (d := d + 11) (r := r) (base := base) (mode := mode) hW.1 b_r b_base b_mode (by omega)
    subst hw1
    refine ⟨1, _, c_141_1 (d := d + 19) h7 hrun, ⟨by decide, by decide⟩, ?_⟩
    have hW3 := hW.clsT (c := .inr (14, [])) hW.1
    have hln := hW3.1.len
    obtain ⟨w4, hr4, Sm', Vm', hmR, rfl, rfl⟩ := t_257_1 (d := d + 19) (P := fun S' V' => S' = u2 Sm 128 31 0 ∧ V' = Vm) hW3.2.1 (by omega) (fun w5 hw5 => ⟨w5, _, _, b_read (d := d + 11) (r := r) (rx := base) (mode := mode) b_r b_base b_mode (by omega), hw5, rfl, rfl⟩)
    exact ⟨0, w4, hr4, hW3.k3, L + 1 + 1, Z + xcs (.inr (14, [])) + xcs (.inr (14, [])), by omega, by rw [xcs14]; omega, IV.thr (hW3.refT hmR) hI (mI_31 hM) hJ (eqA_31 hE) (by decide)⟩
theorem st_write {r base n mode : Int} (hIV : IV0 W L Z w) (hKC : KC W) (b_r : -2147483648 ≤ r ∧ r < 2147483648) (b_base : -2147483648 ≤ base ∧ base < 2147483648) (b_n : -2147483648 ≤ n ∧ n < 2147483648) (b_mode : -2147483648 ≤ mode ∧ mode < 2147483648) : SP W L Z (d + 20) 150 263 [Value.ref 7, Value.int (Int32.ofInt r), Value.int (Int32.ofInt base), Value.int (Int32.ofInt n), Value.int (Int32.ofInt mode), Value.ref 194] [Value.ref 128, Value.int (Int32.ofInt r), Value.int (Int32.ofInt base), Value.int (Int32.ofInt n), Value.int (Int32.ofInt mode)] w := by
  obtain ⟨S, V, Sm, Vm, g, hW, hI, hM, hJ, hE⟩ := hIV
  have h7 := hW.1.k0 kq_7
  have hE1 := eqA_31 (k := 0) hE
  have hM1 := mI_31 (k := 0) hM
  have hK := hKC.of hW.2.2.2
  by_cases hg : (0 ≤ r ∧ r ≤ 15) ∧ (2 ≤ base ∧ base ≤ 36) ∧ (0 ≤ n ∧ n ≤ 2000) ∧ (0 ≤ mode ∧ mode ≤ 4)
  · obtain ⟨rx, rfl⟩ : ∃ rx : Nat, base = (rx : Int) := ⟨base.toNat, by omega⟩
    obtain ⟨m, rfl⟩ : ∃ m : Nat, n = (m : Int) := ⟨n.toNat, by omega⟩
    have h16 : r.toNat < 16 := by omega
    have qa := ko_of hE1 h16
    by_cases hk : S (30 + 3 * r.toNat) 1 = 3
    · obtain ⟨n1, F, mo, w2, hrun, hF, ⟨hA, hB⟩, S', V', hX, hP⟩ := x_write (d := d + 3) (r := r) (rx := rx) (n := m) (mode := mode) hW.1 hI hK.2.2.2.2.1 (by omega) (by omega) (by omega) (by omega) hk
      have hW2 := hW.cls hX
      refine ⟨0, _, l_150 (d := d + 19) h7 hrun hW2.2.2.1, ⟨by decide, by decide⟩, ?_⟩
      have hW3 := hW2.put (xup g 0 (.long (Int32.ofInt ((if rx ^ n1 ≤ spW (V (30 + 3 * r.toNat + 1)) (S (30 + 3 * r.toNat) 3 - S (30 + 3 * r.toNat) 0) rx F (S (30 + 3 * r.toNat) 2) (n1 : Int) mo then F + 1 else F))).toInt64))
      have hK3 := hKC.of hW3.2.2.2
      obtain ⟨q1, q2, q3, q4⟩ := hE1.1 r.toNat h16
      have a1 : (u2 Sm 128 31 0) 153 r.toNat = S (30 + 3 * r.toNat) 0 := q1
      have a3 : (u2 Sm 128 31 0) 156 r.toNat = S (30 + 3 * r.toNat) 2 := q3 (by show S (30 + 3 * r.toNat) 1 ≠ 0; omega)
      have a4 : (u2 Sm 128 31 0) 155 r.toNat = S (30 + 3 * r.toNat) 3 := (q4 hk).1
      have a5 : Vm (160 + 2 * r.toNat) = V (30 + 3 * r.toNat + 1) := (q4 hk).2.trans vV_r
      obtain ⟨an, w4, hr4, rfl, hn1, Sm', Vm', hmR, hE'⟩ := w_263 (d := d + 19) (P := fun an w4 => an = Int32.ofInt (if rx ^ n1 ≤ spW (V (30 + 3 * r.toNat + 1)) (S (30 + 3 * r.toNat) 3 - S (30 + 3 * r.toNat) 0) rx F (S (30 + 3 * r.toNat) 2) (n1 : Int) mo then F + 1 else F) ∧ (1 ≤ n1 ∧ n1 ≤ 4112) ∧ ∃ Sm' Vm', mR _ Sm' Vm' w4 ∧ wE (u2 Sm 128 31 0) Sm' Vm Vm' n1 (fun j => ltr (((if rx ^ n1 ≤ spW (V (30 + 3 * r.toNat + 1)) (S (30 + 3 * r.toNat) 3 - S (30 + 3 * r.toNat) 0) rx F (S (30 + 3 * r.toNat) 2) (n1 : Int) mo then spW (V (30 + 3 * r.toNat + 1)) (S (30 + 3 * r.toNat) 3 - S (30 + 3 * r.toNat) 0) rx F (S (30 + 3 * r.toNat) 2) (n1 : Int) mo / rx else spW (V (30 + 3 * r.toNat + 1)) (S (30 + 3 * r.toNat) 3 - S (30 + 3 * r.toNat) 0) rx F (S (30 + 3 * r.toNat) 2) (n1 : Int) mo) / rx ^ (n1 - 1 - j) % rx : Nat) : Int))) hW3.2.1 (fun w5 hw5 => by
        obtain ⟨w6, nn, F2, mo2, h1, h2, h3, h4, h5, S6, V6, h6, h8⟩ := s_write (d := d + 10) (r := r) (rx := rx) (n := (m : Int)) (mode := mode) hw5 hK3.2.2.2.2.2 hM1 (by omega) (qa.trans hk) (by omega) (by omega) (by omega)
        rw [a1, a3, a4, a5] at h1 h3 h8
        rw [a1, a4, a5] at h2
        have eF : F2 = F := fst_uniq (by omega) h2 hF
        subst eF
        have en : nn = n1 ∧ mo2 = mo := by
          by_cases c : m = 0
          · obtain ⟨x1, x2⟩ := hA c
            obtain ⟨y1, y2⟩ := h3 (by omega)
            exact ⟨by have := few_uniq y2 x2; omega, by rw [y1, x1]⟩
          · obtain ⟨x1, x2⟩ := hB c
            obtain ⟨y1, y2⟩ := h4 (by omega)
            exact ⟨by omega, by rw [y2, x2]⟩
        obtain ⟨en1, en2⟩ := en
        rw [en1, en2] at h1 h8
        rw [en1] at h5
        exact ⟨_, w6, h1, rfl, h5, S6, V6, h6, h8⟩)
      have hrg := (sp_rng (M := V (30 + 3 * r.toNat + 1)) (ng := S (30 + 3 * r.toNat) 2) (mode := mo) (show 2 ≤ rx by omega) hn1.1 hF).2.1
      exact ⟨_, w4, hr4, hW3.k3, L, Z, by omega, by omega, IV.mk' (hW3.ref hmR) (cI_w hI hP) (mI_w hM1 hE') (cJ_w hJ hP hn1.2) (eqA_w hE1 hP hE' (fun x hx => by rw [hP.1 x, if_pos hx]; exact (dg_same (show 2 ≤ rx by omega) hrg hx).symm)) ((hE'.2.2.1 128 31 (by omega) (by omega) (by omega) (by omega)).trans rfl) (xup0 _ _)⟩
    ·
      obtain ⟨w1, hrun, hX⟩ := n_write (d := d + 3) (r := r) (rx := rx) (n := m) (mode := mode) hW.1 hI (by omega) (by omega) (by omega) (by omega) hk
      refine ⟨2, _, c_150_2 (d := d + 19) h7 hrun, ⟨by decide, by decide⟩, ?_⟩
      have hW3 := hW.clsT (c := .inr (16, [])) hX
      have hln := hW3.1.len
      obtain ⟨w4, hr4, Sm', Vm', hmR, rfl, rfl⟩ := t_263_2 (d := d + 19) (P := fun S' V' => S' = (u2 Sm 128 31 0) ∧ V' = Vm) hW3.2.1 (by omega) (fun w5 hw5 => ⟨w5, _, _, nm_write (d := d + 10) (r := r) (rx := rx) (n := (m : Int)) (mode := mode) hw5 hM1 (by omega) (by rw [qa]; exact hk) (by omega) (by omega) (by omega), hw5, rfl, rfl⟩)
      exact ⟨0, w4, hr4, hW3.k3, L + 1 + 1, Z + xcs (.inr (16, [])) + xcs (.inr (16, [])), by omega, by rw [xcs16]; omega, IV.thr (hW3.refT hmR) hI hM1 hJ hE1 (by decide)⟩
  · -- the arguments are bad
    obtain ⟨w1, hrun, hw1⟩ := b_cwrite (d := d + 11) (r := r) (base := base) (n := n) (mode := mode) hW.1 b_r b_base b_n b_mode (by omega)
    subst hw1
    refine ⟨1, _, c_150_1 (d := d + 19) h7 hrun, ⟨by decide, by decide⟩, ?_⟩
    have hW3 := hW.clsT (c := .inr (14, [])) hW.1
    have hln := hW3.1.len
    obtain ⟨w4, hr4, Sm', Vm', hmR, rfl, rfl⟩ := t_263_1 (d := d + 19) (P := fun S' V' => S' = u2 Sm 128 31 0 ∧ V' = Vm) hW3.2.1 (by omega) (fun w5 hw5 => ⟨w5, _, _, b_write (d := d + 10) (r := r) (rx := base) (n := n) (mode := mode) b_r b_base b_n b_mode (by omega), hw5, rfl, rfl⟩)
    exact ⟨0, w4, hr4, hW3.k3, L + 1 + 1, Z + xcs (.inr (14, [])) + xcs (.inr (14, [])), by omega, by rw [xcs14]; omega, IV.thr (hW3.refT hmR) hI (mI_31 hM) hJ (eqA_31 hE) (by decide)⟩
end
