/-! the calls of class and reference, side by side -/
/-- what every call needs -/
def IV0 (W : xW) (L Z : Nat) (w : xW) : Prop := ∃ S V Sm Vm g, IW W L Z S V Sm Vm g w ∧ cI S V ∧ mI Sm Vm ∧ cJ S ∧ eqA S V Sm Vm
theorem IV.w {W w : xW} {L Z : Nat} {k : Int} {v : Int64} (h : IV W L Z k v w) : IV0 W L Z w := by
  obtain ⟨S, V, Sm, Vm, g, hW, hI, hM, hJ, hE, -, -⟩ := h
  exact ⟨S, V, Sm, Vm, g, hW, hI, hM, hJ, hE⟩
theorem xcs14 : xcs (.inr (14, [])) = 6 := rfl
theorem xcs15 : xcs (.inr (15, [])) = 6 := rfl
theorem xcs16 : xcs (.inr (16, [])) = 6 := rfl
theorem xcs17 : xcs (.inr (17, [])) = 6 := rfl
theorem xup0 (g : Nat → Value) (v : Value) : xup g 0 v 0 = v := rfl
theorem gK_of {S : Nat → Nat → Int} {V : Nat → Nat} {r : Nat} (hI : cI S V) (hJ : cJ S) (hr : r < 16) : gK (vS S) r := ⟨(hI.1 r hr).1, hI.2.1, hJ.1⟩
theorem kk_of {S : Nat → Nat → Int} {V : Nat → Nat} {r : Nat} (hI : cI S V) (hr : r < 16) : 0 ≤ vS S 154 r ∧ vS S 154 r ≤ 3 := (hI.1 r hr).2.1
theorem kb_of {S : Nat → Nat → Int} {V : Nat → Nat} {r : Nat} (hI : cI S V) (hr : r < 16) : vS S 154 r = 3 → (xbl (vV V (160 + 2 * r)) : Int) = vS S 153 r := by
  rw [vV_r]
  exact (hI.1 r hr).2.2.2.2.2
section
variable {W w : xW} {L Z d : Nat}
theorem st_num {r v sc mode : Int} (hIV : IV0 W L Z w) (b_r : -2147483648 ≤ r ∧ r < 2147483648) (b_v : -9223372036854775808 ≤ v ∧ v < 9223372036854775808) (b_sc : -2147483648 ≤ sc ∧ sc < 2147483648) (b_mode : -2147483648 ≤ mode ∧ mode < 2147483648) : SP W L Z (d + 20) 20 176 [Value.ref 7, Value.int (Int32.ofInt r), Value.long (Int64.ofInt v), Value.int (Int32.ofInt sc), Value.int (Int32.ofInt mode), Value.ref 194] [Value.ref 128, Value.int (Int32.ofInt r), Value.long (Int64.ofInt v), Value.int (Int32.ofInt sc), Value.int (Int32.ofInt mode)] w := by
  obtain ⟨S, V, Sm, Vm, g, hW, hI, hM, hJ, hE⟩ := hIV
  have h7 := hW.1.k0 kq_7
  by_cases hg : (0 ≤ r ∧ r ≤ 15) ∧ (-40000 ≤ sc ∧ sc ≤ 40000) ∧ (0 ≤ mode ∧ mode ≤ 4)
  · have hE1 := eqA_31 (k := 0) hE
    have e : sNum (u2 Sm 128 31 0) r.toNat v sc mode = sNum (vS S) r.toNat v sc mode := eq_num hE1.2.1 (hE1.1 r.toNat (by omega)).1
    obtain ⟨w2, hrun, S', V', hX, hO⟩ := x_num (d := d + 8) (r := r) (v := v) (sc := sc) (mode := mode) hW.1 hI (by omega) b_v (by omega) (by omega)
    have hW2 := hW.cls hX
    refine ⟨0, _, l_20 (d := d + 19) h7 hrun hW2.2.2.1, ⟨by decide, by decide⟩, ?_⟩
    have hW3 := hW2.put (xup g 0 (.long (Int32.ofInt (sNum (vS S) r.toNat v sc mode).2.2.2.2.1).toInt64))
    obtain ⟨an, w4, hr4, rfl, Sm', Vm', hmR, hP⟩ := w_176 (d := d + 19) (P := fun an w4 => an = Int32.ofInt (sNum (vS S) r.toNat v sc mode).2.2.2.2.1 ∧ ∃ Sm' Vm', mR _ Sm' Vm' w4 ∧ oP (u2 Sm 128 31 0) Sm' Vm Vm' r.toNat (sNum (vS S) r.toNat v sc mode)) hW3.2.1 (fun w5 hw5 => by
      obtain ⟨w6, h1, S6, V6, h2, h3⟩ := s_num (d := d + 11) (r := r) (v := v) (sc := sc) (mode := mode) hw5 (mI_31 hM) (by omega) b_v (by omega) (by omega)
      rw [e] at h1 h3
      exact ⟨_, w6, h1, rfl, S6, V6, h2, h3⟩)
    exact ⟨_, w4, hr4, hW3.k3, L, Z, by omega, by omega, IV.op (hW3.ref hmR) hI hM hJ hE (by omega) hO hP (ok_num (gK_of hI hJ (show r.toNat < 16 by omega))) (xup0 _ _)⟩
  · -- the arguments are bad
    obtain ⟨w1, hrun, hw1⟩ := b_cnum (d := d + 11) (r := r) (v := v) (sc := sc) (mode := mode) hW.1 b_r b_sc b_mode (by omega)
    subst hw1
    refine ⟨1, _, c_20_1 (d := d + 19) h7 hrun, ⟨by decide, by decide⟩, ?_⟩
    have hW3 := hW.clsT (c := .inr (14, [])) hW.1
    have hln := hW3.1.len
    obtain ⟨w4, hr4, Sm', Vm', hmR, rfl, rfl⟩ := t_176_1 (d := d + 19) (P := fun S' V' => S' = u2 Sm 128 31 0 ∧ V' = Vm) hW3.2.1 (by omega) (fun w5 hw5 => ⟨w5, _, _, b_num (d := d + 11) (r := r) (v := v) (sc := sc) (mode := mode) b_r b_sc b_mode (by omega), hw5, rfl, rfl⟩)
    exact ⟨0, w4, hr4, hW3.k3, L + 1 + 1, Z + xcs (.inr (14, [])) + xcs (.inr (14, [])), by omega, by rw [xcs14]; omega, IV.thr (hW3.refT hmR) hI (mI_31 hM) hJ (eqA_31 hE) (by decide)⟩
theorem st_copy {r a how mode : Int} (hIV : IV0 W L Z w) (b_r : -2147483648 ≤ r ∧ r < 2147483648) (b_a : -2147483648 ≤ a ∧ a < 2147483648) (b_how : -2147483648 ≤ how ∧ how < 2147483648) (b_mode : -2147483648 ≤ mode ∧ mode < 2147483648) : SP W L Z (d + 20) 52 193 [Value.ref 7, Value.int (Int32.ofInt r), Value.int (Int32.ofInt a), Value.int (Int32.ofInt how), Value.int (Int32.ofInt mode), Value.ref 194] [Value.ref 128, Value.int (Int32.ofInt r), Value.int (Int32.ofInt a), Value.int (Int32.ofInt how), Value.int (Int32.ofInt mode)] w := by
  obtain ⟨S, V, Sm, Vm, g, hW, hI, hM, hJ, hE⟩ := hIV
  have h7 := hW.1.k0 kq_7
  by_cases hg : (0 ≤ r ∧ r ≤ 15) ∧ (0 ≤ a ∧ a ≤ 15) ∧ (0 ≤ how ∧ how ≤ 2) ∧ (0 ≤ mode ∧ mode ≤ 4)
  · have hE1 := eqA_31 (k := 0) hE
    have e : sCopy (u2 Sm 128 31 0) Vm r.toNat a.toNat how mode = sCopy (vS S) (vV V) r.toNat a.toNat how mode := eq_copy hE1.2.1 (hE1.1 r.toNat (by omega)).1 (hE1.1 a.toNat (by omega)) (kk_of hI (show a.toNat < 16 by omega))
    obtain ⟨w2, hrun, S', V', hX, hO⟩ := x_copy (d := d + 7) (r := r) (a := a) (how := how) (mode := mode) hW.1 hI (by omega) (by omega) (by omega) (by omega)
    have hW2 := hW.cls hX
    refine ⟨0, _, l_52 (d := d + 19) h7 hrun hW2.2.2.1, ⟨by decide, by decide⟩, ?_⟩
    have hW3 := hW2.put (xup g 0 (.long (Int32.ofInt (sCopy (vS S) (vV V) r.toNat a.toNat how mode).2.2.2.2.1).toInt64))
    obtain ⟨an, w4, hr4, rfl, Sm', Vm', hmR, hP⟩ := w_193 (d := d + 19) (P := fun an w4 => an = Int32.ofInt (sCopy (vS S) (vV V) r.toNat a.toNat how mode).2.2.2.2.1 ∧ ∃ Sm' Vm', mR _ Sm' Vm' w4 ∧ oP (u2 Sm 128 31 0) Sm' Vm Vm' r.toNat (sCopy (vS S) (vV V) r.toNat a.toNat how mode)) hW3.2.1 (fun w5 hw5 => by
      obtain ⟨w6, h1, S6, V6, h2, h3⟩ := s_copy (d := d + 11) (r := r) (a := a) (how := how) (mode := mode) hw5 (mI_31 hM) (by omega) (by omega) (by omega) (by omega)
      rw [e] at h1 h3
      exact ⟨_, w6, h1, rfl, S6, V6, h2, h3⟩)
    exact ⟨_, w4, hr4, hW3.k3, L, Z, by omega, by omega, IV.op (hW3.ref hmR) hI hM hJ hE (by omega) hO hP (ok_copy (gK_of hI hJ (show r.toNat < 16 by omega)) (kk_of hI (show a.toNat < 16 by omega))) (xup0 _ _)⟩
  · -- the arguments are bad
    obtain ⟨w1, hrun, hw1⟩ := b_ccopy (d := d + 11) (r := r) (a := a) (how := how) (mode := mode) hW.1 b_r b_a b_how b_mode (by omega)
    subst hw1
    refine ⟨1, _, c_52_1 (d := d + 19) h7 hrun, ⟨by decide, by decide⟩, ?_⟩
    have hW3 := hW.clsT (c := .inr (14, [])) hW.1
    have hln := hW3.1.len
    obtain ⟨w4, hr4, Sm', Vm', hmR, rfl, rfl⟩ := t_193_1 (d := d + 19) (P := fun S' V' => S' = u2 Sm 128 31 0 ∧ V' = Vm) hW3.2.1 (by omega) (fun w5 hw5 => ⟨w5, _, _, b_copy (d := d + 11) (r := r) (a := a) (how := how) (mode := mode) b_r b_a b_how b_mode (by omega), hw5, rfl, rfl⟩)
    exact ⟨0, w4, hr4, hW3.k3, L + 1 + 1, Z + xcs (.inr (14, [])) + xcs (.inr (14, [])), by omega, by rw [xcs14]; omega, IV.thr (hW3.refT hmR) hI (mI_31 hM) hJ (eqA_31 hE) (by decide)⟩
end
