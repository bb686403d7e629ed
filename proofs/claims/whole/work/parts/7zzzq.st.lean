/-! whole, sum, dot side by side -/
theorem eqO.symm {o o' : OO} (h : eqO o o') : eqO o' o := by
  obtain ⟨g1, g2, g3, g4, g5⟩ := h
  exact ⟨g1.symm, fun c => (g2 (by rw [g1]; exact c)).symm, fun c => ⟨(g3 (g1.trans c)).1.symm, (g3 (g1.trans c)).2.symm⟩, g4.symm, g5.symm⟩
theorem ks_of {S : Nat → Nat → Int} {V : Nat → Nat} {r : Nat} (hI : cI S V) (hr : r < 16) : vS S 156 r = 0 ∨ vS S 156 r = 1 := (hI.1 r hr).2.2.1
theorem x_wh {w0 w : xW} {L Z d : Nat} {S : Nat → Nat → Int} {V : Nat → Nat} {r a way mode : Int} (hR : cX w0 L Z S V w) (hI : cI S V) (hr : 0 ≤ r ∧ r ≤ 15) (ha : 0 ≤ a ∧ a ≤ 15) (hw : 0 ≤ way ∧ way ≤ 4) (hmo : 0 ≤ mode ∧ mode ≤ 4) : ∃ w', xRun (d + 13) 106 [Value.ref 7, Value.int (Int32.ofInt r), Value.int (Int32.ofInt a), Value.int (Int32.ofInt way), Value.int (Int32.ofInt mode)] w (.inl (some (.int (Int32.ofInt (sWhC (vS S) (vV V) r.toNat a.toNat way mode).2.2.2.2.1)))) w' ∧ ∃ S' V', cX w0 L Z S' V' w' ∧ cOut S S' V V' (30 + 3 * r.toNat) (sWhC (vS S) (vV V) r.toNat a.toNat way mode) := by
  by_cases c : way = 4
  · exact x_wh4 hR hI hr ha c hmo
  · exact x_wh3 hR hI hr ha (by omega) hmo
theorem sum_e {S Sm : Nat → Nat → Int} {V Vm : Nat → Nat} {r f n mode : Int} (hI : cI S V) (hE : eqA S V Sm Vm) (hr : 0 ≤ r ∧ r ≤ 15) (hf : 0 ≤ f) (hn : 1 ≤ n ∧ n ≤ 16) (hfn : f + n ≤ 16) : sFinT (Sm 153 r.toNat) (Sm 128 17) (Sm 128 18) (Sm 128 20) (Sm 128 19) mode (tkR Sm Vm f n.toNat) = sFinT (S (30 + 3 * r.toNat) 0) (S 78 0) (S 78 1) (S 78 2) (S 78 3) mode (tkS S V f n.toNat) := by
  rw [tkS_R (S := S) (V := V) (fun q hq => (hI.1 q hq).2.2.1) hf n.toNat (by omega), tkR_cg (S := vS S) (V := vV V) hE.1 hf n.toNat (by omega), (hE.1 r.toNat (by omega)).1, hE.2.1.1, hE.2.1.2.1, hE.2.1.2.2.1, hE.2.1.2.2.2]
  rfl
theorem dot_e {S Sm : Nat → Nat → Int} {V Vm : Nat → Nat} {r f g n mode : Int} (hE : eqA S V Sm Vm) (hr : 0 ≤ r ∧ r ≤ 15) (hf : 0 ≤ f) (hg : 0 ≤ g) (hn : 1 ≤ n ∧ n ≤ 16) (hfn : f + n ≤ 16) (hgn : g + n ≤ 16) : sFinT (Sm 153 r.toNat) (Sm 128 17) (Sm 128 18) (Sm 128 20) (Sm 128 19) mode (tkQ Sm Vm f g n.toNat) = sFinT (S (30 + 3 * r.toNat) 0) (S 78 0) (S 78 1) (S 78 2) (S 78 3) mode (tkD S V f g n.toNat) := by
  rw [tkD_Q (S := S) (V := V) hf hg n.toNat, tkQ_cg (S := vS S) (V := vV V) hE.1 hf hg n.toNat (by omega) (by omega), (hE.1 r.toNat (by omega)).1, hE.2.1.1, hE.2.1.2.1, hE.2.1.2.2.1, hE.2.1.2.2.2]
  rfl
section
variable {W w : xW} {L Z d : Nat}
theorem st_whl {r a way mode : Int} (hIV : IV0 W L Z w) (b_r : -2147483648 ≤ r ∧ r < 2147483648) (b_a : -2147483648 ≤ a ∧ a < 2147483648) (b_way : -2147483648 ≤ way ∧ way < 2147483648) (b_mode : -2147483648 ≤ mode ∧ mode < 2147483648) : SP W L Z (d + 20) 105 226 [Value.ref 7, Value.int (Int32.ofInt r), Value.int (Int32.ofInt a), Value.int (Int32.ofInt way), Value.int (Int32.ofInt mode), Value.ref 194] [Value.ref 128, Value.int (Int32.ofInt r), Value.int (Int32.ofInt a), Value.int (Int32.ofInt way), Value.int (Int32.ofInt mode)] w := by
  obtain ⟨S, V, Sm, Vm, g, hW, hI, hM, hJ, hE⟩ := hIV
  have h7 := hW.1.k0 kq_7
  by_cases hg : (0 ≤ r ∧ r ≤ 15) ∧ (0 ≤ a ∧ a ≤ 15) ∧ (0 ≤ way ∧ way ≤ 4) ∧ (0 ≤ mode ∧ mode ≤ 4)
  · have hE1 := eqA_31 (k := 0) hE
    have e : sWhR (u2 Sm 128 31 0) Vm r.toNat a.toNat way mode = sWhR (vS S) (vV V) r.toNat a.toNat way mode := eq_wh hE1.2.1 (hE1.1 r.toNat (by omega)).1 (hE1.1 a.toNat (by omega)) (kk_of hI (show a.toNat < 16 by omega))
    have qq : eqO (sWhC (vS S) (vV V) r.toNat a.toNat way mode) (sWhR (vS S) (vV V) r.toNat a.toNat way mode) := wh_same (kk_of hI (show a.toNat < 16 by omega)) (ks_of hI (show a.toNat < 16 by omega)) (kb_of hI (show a.toNat < 16 by omega)) (gK_of hI hJ (show a.toNat < 16 by omega)).1.1 (gK_of hI hJ (show r.toNat < 16 by omega)).1 (gK_of hI hJ (show r.toNat < 16 by omega)).2.1 (gK_of hI hJ (show r.toNat < 16 by omega)).2.2
    obtain ⟨w2, hrun, S', V', hX, hO⟩ := x_wh (d := d + 6) (r := r) (a := a) (way := way) (mode := mode) hW.1 hI (by omega) (by omega) (by omega) (by omega)
    have hW2 := hW.cls hX
    refine ⟨0, _, l_105 (d := d + 19) h7 hrun hW2.2.2.1, ⟨by decide, by decide⟩, ?_⟩
    have hW3 := hW2.put (xup g 0 (.long (Int32.ofInt (sWhC (vS S) (vV V) r.toNat a.toNat way mode).2.2.2.2.1).toInt64))
    obtain ⟨an, w4, hr4, rfl, Sm', Vm', hmR, hP⟩ := w_226 (d := d + 19) (P := fun an w4 => an = Int32.ofInt (sWhC (vS S) (vV V) r.toNat a.toNat way mode).2.2.2.2.1 ∧ ∃ Sm' Vm', mR _ Sm' Vm' w4 ∧ oP (u2 Sm 128 31 0) Sm' Vm Vm' r.toNat (sWhC (vS S) (vV V) r.toNat a.toNat way mode)) hW3.2.1 (fun w5 hw5 => by
      obtain ⟨w6, h1, S6, V6, h2, h3⟩ := s_whl (d := d + 11) (r := r) (a := a) (way := way) (mode := mode) hw5 (mI_31 hM) (by omega) (by omega) (by omega) (by omega)
      rw [e] at h1 h3
      rw [← qq.2.2.2.1] at h1
      replace h3 := oP_eqO h3 qq.symm
      exact ⟨_, w6, h1, rfl, S6, V6, h2, h3⟩)
    exact ⟨_, w4, hr4, hW3.k3, L, Z, by omega, by omega, IV.op (hW3.ref hmR) hI hM hJ hE (by omega) hO hP (ok_whl (gK_of hI hJ (show r.toNat < 16 by omega)) (kk_of hI (show a.toNat < 16 by omega))) (xup0 _ _)⟩
  · -- the arguments are bad
    obtain ⟨w1, hrun, hw1⟩ := b_cwh (d := d + 11) (r := r) (a := a) (way := way) (mode := mode) hW.1 b_r b_a b_way b_mode (by omega)
    subst hw1
    refine ⟨1, _, c_105_1 (d := d + 19) h7 hrun, ⟨by decide, by decide⟩, ?_⟩
    have hW3 := hW.clsT (c := .inr (14, [])) hW.1
    have hln := hW3.1.len
    obtain ⟨w4, hr4, Sm', Vm', hmR, rfl, rfl⟩ := t_226_1 (d := d + 19) (P := fun S' V' => S' = u2 Sm 128 31 0 ∧ V' = Vm) hW3.2.1 (by omega) (fun w5 hw5 => ⟨w5, _, _, b_whl (d := d + 11) (r := r) (a := a) (way := way) (mode := mode) b_r b_a b_way b_mode (by omega), hw5, rfl, rfl⟩)
    exact ⟨0, w4, hr4, hW3.k3, L + 1 + 1, Z + xcs (.inr (14, [])) + xcs (.inr (14, [])), by omega, by rw [xcs14]; omega, IV.thr (hW3.refT hmR) hI (mI_31 hM) hJ (eqA_31 hE) (by decide)⟩
theorem st_sum {r f n mode : Int} (hIV : IV0 W L Z w) (b_r : -2147483648 ≤ r ∧ r < 2147483648) (b_f : -2147483648 ≤ f ∧ f < 2147483648) (b_n : -2147483648 ≤ n ∧ n < 2147483648) (b_mode : -2147483648 ≤ mode ∧ mode < 2147483648) : SP W L Z (d + 20) 111 228 [Value.ref 7, Value.int (Int32.ofInt r), Value.int (Int32.ofInt f), Value.int (Int32.ofInt n), Value.int (Int32.ofInt mode), Value.ref 194] [Value.ref 128, Value.int (Int32.ofInt r), Value.int (Int32.ofInt f), Value.int (Int32.ofInt n), Value.int (Int32.ofInt mode)] w := by
  obtain ⟨S, V, Sm, Vm, g, hW, hI, hM, hJ, hE⟩ := hIV
  have h7 := hW.1.k0 kq_7
  by_cases hg : (0 ≤ r ∧ r ≤ 15) ∧ (0 ≤ f ∧ f ≤ 15 ∧ 1 ≤ n ∧ n ≤ 16 ∧ f + n ≤ 16) ∧ (0 ≤ mode ∧ mode ≤ 4)
  · have hE1 := eqA_31 (k := 0) hE
    have e : sFinT ((u2 Sm 128 31 0) 153 r.toNat) ((u2 Sm 128 31 0) 128 17) ((u2 Sm 128 31 0) 128 18) ((u2 Sm 128 31 0) 128 20) ((u2 Sm 128 31 0) 128 19) mode (tkR (u2 Sm 128 31 0) Vm f n.toNat) = sFinT (S (30 + 3 * r.toNat) 0) (S 78 0) (S 78 1) (S 78 2) (S 78 3) mode (tkS S V f n.toNat) := sum_e hI hE1 (by omega) (by omega) (by omega) (by omega)
    obtain ⟨w2, hrun, S', V', hX, hO⟩ := x_sum (d := d + 7) (r := r) (f := f) (n := n) (mode := mode) hW.1 hI (by omega) (by omega) (by omega) (by omega) (by omega)
    have hW2 := hW.cls hX
    refine ⟨0, _, l_111 (d := d + 19) h7 hrun hW2.2.2.1, ⟨by decide, by decide⟩, ?_⟩
    have hW3 := hW2.put (xup g 0 (.long (Int32.ofInt (sFinT (S (30 + 3 * r.toNat) 0) (S 78 0) (S 78 1) (S 78 2) (S 78 3) mode (tkS S V f n.toNat)).2.2.2.2.1).toInt64))
    obtain ⟨an, w4, hr4, rfl, Sm', Vm', hmR, hP⟩ := w_228 (d := d + 19) (P := fun an w4 => an = Int32.ofInt (sFinT (S (30 + 3 * r.toNat) 0) (S 78 0) (S 78 1) (S 78 2) (S 78 3) mode (tkS S V f n.toNat)).2.2.2.2.1 ∧ ∃ Sm' Vm', mR _ Sm' Vm' w4 ∧ oP (u2 Sm 128 31 0) Sm' Vm Vm' r.toNat (sFinT (S (30 + 3 * r.toNat) 0) (S 78 0) (S 78 1) (S 78 2) (S 78 3) mode (tkS S V f n.toNat))) hW3.2.1 (fun w5 hw5 => by
      obtain ⟨w6, h1, S6, V6, h2, h3⟩ := s_sum (d := d + 11) (r := r) (f := f) (n := n) (mode := mode) hw5 (mI_31 hM) (by omega) (by omega) (by omega) (by omega) (by omega)
      rw [e] at h1 h3
      exact ⟨_, w6, h1, rfl, S6, V6, h2, h3⟩)
    exact ⟨_, w4, hr4, hW3.k3, L, Z, by omega, by omega, IV.op (hW3.ref hmR) hI hM hJ hE (by omega) hO hP (ok_finT (hI.1 r.toNat (by omega)).1 hI.2.1 hJ.1) (xup0 _ _)⟩
  · -- the arguments are bad
    obtain ⟨w1, hrun, hw1⟩ := b_csum (d := d + 11) (r := r) (f := f) (n := n) (mode := mode) hW.1 b_r b_f b_n b_mode (by omega)
    subst hw1
    refine ⟨1, _, c_111_1 (d := d + 19) h7 hrun, ⟨by decide, by decide⟩, ?_⟩
    have hW3 := hW.clsT (c := .inr (14, [])) hW.1
    have hln := hW3.1.len
    obtain ⟨w4, hr4, Sm', Vm', hmR, rfl, rfl⟩ := t_228_1 (d := d + 19) (P := fun S' V' => S' = u2 Sm 128 31 0 ∧ V' = Vm) hW3.2.1 (by omega) (fun w5 hw5 => ⟨w5, _, _, b_sum (d := d + 11) (r := r) (f := f) (n := n) (mode := mode) b_r b_f b_n b_mode (by omega), hw5, rfl, rfl⟩)
    exact ⟨0, w4, hr4, hW3.k3, L + 1 + 1, Z + xcs (.inr (14, [])) + xcs (.inr (14, [])), by omega, by rw [xcs14]; omega, IV.thr (hW3.refT hmR) hI (mI_31 hM) hJ (eqA_31 hE) (by decide)⟩
theorem st_dot {r f g n mode : Int} (hIV : IV0 W L Z w) (b_r : -2147483648 ≤ r ∧ r < 2147483648) (b_f : -2147483648 ≤ f ∧ f < 2147483648) (b_g : -2147483648 ≤ g ∧ g < 2147483648) (b_n : -2147483648 ≤ n ∧ n < 2147483648) (b_mode : -2147483648 ≤ mode ∧ mode < 2147483648) : SP W L Z (d + 20) 114 230 [Value.ref 7, Value.int (Int32.ofInt r), Value.int (Int32.ofInt f), Value.int (Int32.ofInt g), Value.int (Int32.ofInt n), Value.int (Int32.ofInt mode), Value.ref 194] [Value.ref 128, Value.int (Int32.ofInt r), Value.int (Int32.ofInt f), Value.int (Int32.ofInt g), Value.int (Int32.ofInt n), Value.int (Int32.ofInt mode)] w := by
  obtain ⟨S, V, Sm, Vm, gv, hW, hI, hM, hJ, hE⟩ := hIV
  have h7 := hW.1.k0 kq_7
  by_cases hg : (0 ≤ r ∧ r ≤ 15) ∧ (0 ≤ f ∧ f ≤ 15 ∧ 1 ≤ n ∧ n ≤ 16 ∧ f + n ≤ 16) ∧ (0 ≤ g ∧ g ≤ 15 ∧ 1 ≤ n ∧ n ≤ 16 ∧ g + n ≤ 16) ∧ (0 ≤ mode ∧ mode ≤ 4)
  · have hE1 := eqA_31 (k := 0) hE
    have e : sFinT ((u2 Sm 128 31 0) 153 r.toNat) ((u2 Sm 128 31 0) 128 17) ((u2 Sm 128 31 0) 128 18) ((u2 Sm 128 31 0) 128 20) ((u2 Sm 128 31 0) 128 19) mode (tkQ (u2 Sm 128 31 0) Vm f g n.toNat) = sFinT (S (30 + 3 * r.toNat) 0) (S 78 0) (S 78 1) (S 78 2) (S 78 3) mode (tkD S V f g n.toNat) := dot_e hE1 (by omega) (by omega) (by omega) (by omega) (by omega) (by omega)
    obtain ⟨w2, hrun, S', V', hX, hO⟩ := x_dot (d := d + 7) (r := r) (f := f) (g := g) (n := n) (mode := mode) hW.1 hI (by omega) (by omega) (by omega) (by omega) (by omega) (by omega) (by omega)
    have hW2 := hW.cls hX
    refine ⟨0, _, l_114 (d := d + 19) h7 hrun hW2.2.2.1, ⟨by decide, by decide⟩, ?_⟩
    have hW3 := hW2.put (xup gv 0 (.long (Int32.ofInt (sFinT (S (30 + 3 * r.toNat) 0) (S 78 0) (S 78 1) (S 78 2) (S 78 3) mode (tkD S V f g n.toNat)).2.2.2.2.1).toInt64))
    obtain ⟨an, w4, hr4, rfl, Sm', Vm', hmR, hP⟩ := w_230 (d := d + 19) (P := fun an w4 => an = Int32.ofInt (sFinT (S (30 + 3 * r.toNat) 0) (S 78 0) (S 78 1) (S 78 2) (S 78 3) mode (tkD S V f g n.toNat)).2.2.2.2.1 ∧ ∃ Sm' Vm', mR _ Sm' Vm' w4 ∧ oP (u2 Sm 128 31 0) Sm' Vm Vm' r.toNat (sFinT (S (30 + 3 * r.toNat) 0) (S 78 0) (S 78 1) (S 78 2) (S 78 3) mode (tkD S V f g n.toNat))) hW3.2.1 (fun w5 hw5 => by
      obtain ⟨w6, h1, S6, V6, h2, h3⟩ := s_dot (d := d + 11) (r := r) (f := f) (g := g) (n := n) (mode := mode) hw5 (mI_31 hM) (by omega) (by omega) (by omega) (by omega) (by omega) (by omega) (by omega)
      rw [e] at h1 h3
      exact ⟨_, w6, h1, rfl, S6, V6, h2, h3⟩)
    exact ⟨_, w4, hr4, hW3.k3, L, Z, by omega, by omega, IV.op (hW3.ref hmR) hI hM hJ hE (by omega) hO hP (ok_finT (hI.1 r.toNat (by omega)).1 hI.2.1 hJ.1) (xup0 _ _)⟩
  · -- the arguments are bad
    obtain ⟨w1, hrun, hw1⟩ := b_cdot (d := d + 11) (r := r) (f := f) (g := g) (n := n) (mode := mode) hW.1 b_r b_f b_g b_n b_mode (by omega)
    subst hw1
    refine ⟨1, _, c_114_1 (d := d + 19) h7 hrun, ⟨by decide, by decide⟩, ?_⟩
    have hW3 := hW.clsT (c := .inr (14, [])) hW.1
    have hln := hW3.1.len
    obtain ⟨w4, hr4, Sm', Vm', hmR, rfl, rfl⟩ := t_230_1 (d := d + 19) (P := fun S' V' => S' = u2 Sm 128 31 0 ∧ V' = Vm) hW3.2.1 (by omega) (fun w5 hw5 => ⟨w5, _, _, b_dot (d := d + 11) (r := r) (f := f) (g := g) (n := n) (mode := mode) b_r b_f b_g b_n b_mode (by omega), hw5, rfl, rfl⟩)
    exact ⟨0, w4, hr4, hW3.k3, L + 1 + 1, Z + xcs (.inr (14, [])) + xcs (.inr (14, [])), by omega, by rw [xcs14]; omega, IV.thr (hW3.refT hmR) hI (mI_31 hM) hJ (eqA_31 hE) (by decide)⟩
end
