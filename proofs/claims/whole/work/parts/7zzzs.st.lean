/-! the small calls side by side -/
theorem i32_of {x : Int32} {a b : Int} (h : a = b) (hx : x = Int32.ofInt a) : x = Int32.ofInt b := by rw [hx, h]
section
variable {W w : xW} {L Z d : Nat}
/-- one call of both, with a long answer -/
def SPL (W : xW) (L Z d y z : Nat) (ca ra : List Value) (w : xW) : Prop := ∃ k w3, xRun d y ca w (.inl (some (.int (Int32.ofInt k)))) w3 ∧ (-2147483648 ≤ k ∧ k < 2147483648) ∧ ∃ v w4, xRun d z ra w3 (.inl (some (.long v))) w4 ∧ K3 W w3 ∧ ∃ L' Z', L' ≤ L + 2 ∧ Z' ≤ Z + 12 ∧ IV W L' Z' k v w4
theorem st_prec {r p : Int} (hIV : IV0 W L Z w) (b_r : -2147483648 ≤ r ∧ r < 2147483648) (b_p : -2147483648 ≤ p ∧ p < 2147483648) : SP W L Z (d + 20) 13 166 [Value.ref 7, Value.int (Int32.ofInt r), Value.int (Int32.ofInt p), Value.ref 194] [Value.ref 128, Value.int (Int32.ofInt r), Value.int (Int32.ofInt p)] w := by
  obtain ⟨S, V, Sm, Vm, g, hW, hI, hM, hJ, hE⟩ := hIV
  have h7 := hW.1.k0 kq_7
  have hE1 := eqA_31 (k := 0) hE
  have hM1 := mI_31 (k := 0) hM
  by_cases hg : (0 ≤ r ∧ r ≤ 15) ∧ (2 ≤ p ∧ p ≤ 4096)
  · have e : (u2 Sm 128 31 0) 153 r.toNat = S (30 + 3 * r.toNat) 0 := (hE1.1 r.toNat (by omega)).1
    obtain ⟨w2, hrun, hX⟩ := x_prec (d := d + 16) (r := r) (p := p) hW.1 (by omega) (by omega)
    have hW2 := hW.cls hX
    refine ⟨0, _, l_13 (d := d + 19) h7 hrun hW2.2.2.1, ⟨by decide, by decide⟩, ?_⟩
    have hW3 := hW2.put (xup g 0 (.long (Int32.ofInt (S (30 + 3 * r.toNat) 0)).toInt64))
    obtain ⟨an, w4, hr4, rfl, hmR⟩ := w_166 (d := d + 19) (P := fun an w4 => an = Int32.ofInt (S (30 + 3 * r.toNat) 0) ∧ mR _ (u2 (u2 (u2 (u2 Sm 128 31 0) 153 r.toNat p) 154 r.toNat 0) 156 r.toNat 0) Vm w4) hW3.2.1 (fun w5 hw5 => by
      obtain ⟨w6, h1, h2⟩ := s_prec (d := d + 16) (r := r) (p := p) hw5 (by omega) (by omega)
      rw [e] at h1
      exact ⟨_, w6, h1, rfl, h2⟩)
    exact ⟨_, w4, hr4, hW3.k3, L, Z, by omega, by omega, IV.mk' (hW3.ref hmR) (cI_p hI (by omega) (by omega)) (mI_p hM1 (by omega)) (cJ_p hJ (by omega)) (eqA_p hE1 (by omega)) (by rw [u2_e, if_neg (by omega), u2_e, if_neg (by omega), u2_e, if_neg (by omega), u2_e, if_pos ⟨rfl, rfl⟩]) (xup0 _ _)⟩
  · -- the arguments are bad
    obtain ⟨w1, hrun, hw1⟩ := b_cprec (d := d + 11) (r := r) (p := p) hW.1 b_r b_p (by omega)
    subst hw1
    refine ⟨1, _, c_13_1 (d := d + 19) h7 hrun, ⟨by decide, by decide⟩, ?_⟩
    have hW3 := hW.clsT (c := .inr (14, [])) hW.1
    have hln := hW3.1.len
    obtain ⟨w4, hr4, Sm', Vm', hmR, rfl, rfl⟩ := t_166_1 (d := d + 19) (P := fun S' V' => S' = u2 Sm 128 31 0 ∧ V' = Vm) hW3.2.1 (by omega) (fun w5 hw5 => ⟨w5, _, _, b_prec (d := d + 11) (r := r) (p := p) b_r b_p (by omega), hw5, rfl, rfl⟩)
    exact ⟨0, w4, hr4, hW3.k3, L + 1 + 1, Z + xcs (.inr (14, [])) + xcs (.inr (14, [])), by omega, by rw [xcs14]; omega, IV.thr (hW3.refT hmR) hI (mI_31 hM) hJ (eqA_31 hE) (by decide)⟩
theorem st_range {l gr s : Int} (hIV : IV0 W L Z w) (b_l : -2147483648 ≤ l ∧ l < 2147483648) (b_gr : -2147483648 ≤ gr ∧ gr < 2147483648) (b_s : s = 0 ∨ s = 1) : SP W L Z (d + 20) 18 172 [Value.ref 7, Value.int (Int32.ofInt l), Value.int (Int32.ofInt gr), Value.int (Int32.ofInt s), Value.ref 194] [Value.ref 128, Value.int (Int32.ofInt l), Value.int (Int32.ofInt gr), Value.int (Int32.ofInt s)] w := by
  obtain ⟨S, V, Sm, Vm, g, hW, hI, hM, hJ, hE⟩ := hIV
  have h7 := hW.1.k0 kq_7
  have hE1 := eqA_31 (k := 0) hE
  have hM1 := mI_31 (k := 0) hM
  by_cases hg : -16384 ≤ l ∧ gr ≤ 16384 ∧ l ≤ gr
  · have e : (u2 Sm 128 31 0) 128 18 = S 78 1 := hE1.2.1.2.1
    obtain ⟨w2, hrun, hX⟩ := x_range (d := d + 19) (l := l) (g := gr) (s := s) hW.1 (by omega) (by omega) b_s
    have hW2 := hW.cls hX
    refine ⟨0, _, l_18 (d := d + 19) h7 hrun hW2.2.2.1, ⟨by decide, by decide⟩, ?_⟩
    have hW3 := hW2.put (xup g 0 (.long (Int32.ofInt (S 78 1)).toInt64))
    obtain ⟨an, w4, hr4, rfl, hmR⟩ := w_172 (d := d + 19) (P := fun an w4 => an = Int32.ofInt (S 78 1) ∧ mR _ (u2 (u2 (u2 (u2 Sm 128 31 0) 128 17 l) 128 18 gr) 128 20 s) Vm w4) hW3.2.1 (fun w5 hw5 => by
      obtain ⟨w6, h1, h2⟩ := s_range (d := d + 17) (l := l) (g := gr) (s := s) hw5 (by omega) (by omega) b_s
      rw [e] at h1
      exact ⟨_, w6, h1, rfl, h2⟩)
    exact ⟨_, w4, hr4, hW3.k3, L, Z, by omega, by omega, IV.mk' (hW3.ref hmR) (cI_r hI (by omega) b_s) (mI_r hM1 (by omega) b_s) (cJ_r hJ) (eqA_r hE1) rfl (xup0 _ _)⟩
  · -- the arguments are bad
    obtain ⟨w1, hrun, hw1⟩ := b_crange (d := d + 11) (l := l) (g := gr) (s := s) hW.1 b_l b_gr b_s (by omega)
    subst hw1
    refine ⟨1, _, c_18_1 (d := d + 19) h7 hrun, ⟨by decide, by decide⟩, ?_⟩
    have hW3 := hW.clsT (c := .inr (14, [])) hW.1
    have hln := hW3.1.len
    obtain ⟨w4, hr4, Sm', Vm', hmR, rfl, rfl⟩ := t_172_1 (d := d + 19) (P := fun S' V' => S' = u2 Sm 128 31 0 ∧ V' = Vm) hW3.2.1 (by omega) (fun w5 hw5 => ⟨w5, _, _, b_range (d := d + 11) (l := l) (g := gr) (s := s) b_l b_gr (by omega), hw5, rfl, rfl⟩)
    exact ⟨0, w4, hr4, hW3.k3, L + 1 + 1, Z + xcs (.inr (14, [])) + xcs (.inr (14, [])), by omega, by rw [xcs14]; omega, IV.thr (hW3.refT hmR) hI (mI_31 hM) hJ (eqA_31 hE) (by decide)⟩
theorem st_flags {tk : Int} (hIV : IV0 W L Z w) (b_tk : tk = 0 ∨ tk = 1) : ∃ a w3, xRun (d + 20) 12 [Value.ref 7, Value.int (Int32.ofInt tk)] w (.inl (some (.int a))) w3 ∧ ∃ w4, xRun (d + 20) 174 [Value.ref 128, Value.int (Int32.ofInt tk)] w3 (.inl (some (.int a))) w4 ∧ K3 W w3 ∧ IV0 W L Z w4 := by
  obtain ⟨S, V, Sm, Vm, g, hW, hI, hM, hJ, hE⟩ := hIV
  have h7 := hW.1.k0 kq_7
  have hE1 := eqA_31 (k := 0) hE
  have hM1 := mI_31 (k := 0) hM
  have e : (u2 Sm 128 31 0) 128 19 = S 78 3 := hE1.2.1.2.2.1
  obtain ⟨w2, hrun, hX⟩ := x_flags (d := d + 20) (tk := tk) hW.1 b_tk
  have hW2 := hW.cls hX
  refine ⟨_, _, hrun, ?_⟩
  obtain ⟨an, w4, hr4, rfl, hmR⟩ := w_174 (d := d + 19) (P := fun an w4 => an = Int32.ofInt (S 78 3) ∧ mR _ (u2 (u2 Sm 128 31 0) 128 19 (if tk = 0 then S 78 3 else 0)) Vm w4) hW2.2.1 (fun w5 hw5 => by
    obtain ⟨w6, h1, h2⟩ := s_flags (d := d + 18) (t := tk) hw5 b_tk
    rw [e] at h1 h2
    exact ⟨_, w6, h1, rfl, h2⟩)
  refine ⟨w4, hr4, hW2.k3, _, _, _, _, _, hW2.ref hmR, cI_f hI, mI_f hM1, cJ_f hJ ?_, eqA_f hE1⟩
  split
  · exact hJ.1
  · decide
end
