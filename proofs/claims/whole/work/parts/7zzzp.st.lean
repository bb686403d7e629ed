/-! further calls, side by side -/
section
variable {W w : xW} {L Z d : Nat}
theorem st_rec {op r a b mode : Int} (hIV : IV0 W L Z w) (b_op : -2147483648 ≤ op ∧ op < 2147483648) (b_r : -2147483648 ≤ r ∧ r < 2147483648) (b_a : -2147483648 ≤ a ∧ a < 2147483648) (b_b : -2147483648 ≤ b ∧ b < 2147483648) (b_mode : -2147483648 ≤ mode ∧ mode < 2147483648) : SP W L Z (d + 20) 57 197 [Value.ref 7, Value.int (Int32.ofInt op), Value.int (Int32.ofInt r), Value.int (Int32.ofInt a), Value.int (Int32.ofInt b), Value.int (Int32.ofInt mode), Value.ref 194] [Value.ref 128, Value.int (Int32.ofInt op), Value.int (Int32.ofInt r), Value.int (Int32.ofInt a), Value.int (Int32.ofInt b), Value.int (Int32.ofInt mode)] w := by
  obtain ⟨S, V, Sm, Vm, g, hW, hI, hM, hJ, hE⟩ := hIV
  have h7 := hW.1.k0 kq_7
  by_cases hg : (0 ≤ op ∧ op ≤ 6) ∧ (0 ≤ r ∧ r ≤ 15) ∧ (0 ≤ a ∧ a ≤ 15) ∧ (0 ≤ b ∧ b ≤ 15) ∧ (0 ≤ mode ∧ mode ≤ 4)
  · have hE1 := eqA_31 (k := 0) hE
    have e : sRec (u2 Sm 128 31 0) Vm op r.toNat a.toNat b.toNat mode = sRec (vS S) (vV V) op r.toNat a.toNat b.toNat mode := eq_rec hE1.2.1 (hE1.1 r.toNat (by omega)).1 (hE1.1 a.toNat (by omega)) (hE1.1 b.toNat (by omega)) (kk_of hI (show a.toNat < 16 by omega)) (kk_of hI (show b.toNat < 16 by omega))
    obtain ⟨w2, hrun, S', V', hX, hO⟩ := x_reckon (d := d + 6) (op := op) (r := r) (a := a) (b := b) (mode := mode) hW.1 hI (by omega) (by omega) (by omega) (by omega) (by omega)
    have hW2 := hW.cls hX
    refine ⟨0, _, l_57 (d := d + 19) h7 hrun hW2.2.2.1, ⟨by decide, by decide⟩, ?_⟩
    have hW3 := hW2.put (xup g 0 (.long (Int32.ofInt (sRec (vS S) (vV V) op r.toNat a.toNat b.toNat mode).2.2.2.2.1).toInt64))
    obtain ⟨an, w4, hr4, rfl, Sm', Vm', hmR, hP⟩ := w_197 (d := d + 19) (P := fun an w4 => an = Int32.ofInt (sRec (vS S) (vV V) op r.toNat a.toNat b.toNat mode).2.2.2.2.1 ∧ ∃ Sm' Vm', mR _ Sm' Vm' w4 ∧ oP (u2 Sm 128 31 0) Sm' Vm Vm' r.toNat (sRec (vS S) (vV V) op r.toNat a.toNat b.toNat mode)) hW3.2.1 (fun w5 hw5 => by
      obtain ⟨w6, h1, S6, V6, h2, h3⟩ := s_rec (d := d + 10) (op := op) (r := r) (a := a) (b := b) (mode := mode) hw5 (mI_31 hM) (by omega) (by omega) (by omega) (by omega) (by omega)
      rw [e] at h1 h3
      exact ⟨_, w6, h1, rfl, S6, V6, h2, h3⟩)
    exact ⟨_, w4, hr4, hW3.k3, L, Z, by omega, by omega, IV.op (hW3.ref hmR) hI hM hJ hE (by omega) hO hP (ok_rec (gK_of hI hJ (show r.toNat < 16 by omega)) (kk_of hI (show a.toNat < 16 by omega)) (kk_of hI (show b.toNat < 16 by omega))) (xup0 _ _)⟩
  · -- the arguments are bad
    obtain ⟨w1, hrun, hw1⟩ := b_crec (d := d + 11) (op := op) (r := r) (a := a) (b := b) (mode := mode) hW.1 b_op b_r b_a b_b b_mode (by omega)
    subst hw1
    refine ⟨1, _, c_57_1 (d := d + 19) h7 hrun, ⟨by decide, by decide⟩, ?_⟩
    have hW3 := hW.clsT (c := .inr (14, [])) hW.1
    have hln := hW3.1.len
    obtain ⟨w4, hr4, Sm', Vm', hmR, rfl, rfl⟩ := t_197_1 (d := d + 19) (P := fun S' V' => S' = u2 Sm 128 31 0 ∧ V' = Vm) hW3.2.1 (by omega) (fun w5 hw5 => ⟨w5, _, _, b_rec (d := d + 11) (op := op) (r := r) (a := a) (b := b) (mode := mode) b_op b_r b_a b_b b_mode (by omega), hw5, rfl, rfl⟩)
    exact ⟨0, w4, hr4, hW3.k3, L + 1 + 1, Z + xcs (.inr (14, [])) + xcs (.inr (14, [])), by omega, by rw [xcs14]; omega, IV.thr (hW3.refT hmR) hI (mI_31 hM) hJ (eqA_31 hE) (by decide)⟩
theorem st_fus {r a b c mode : Int} (hIV : IV0 W L Z w) (b_r : -2147483648 ≤ r ∧ r < 2147483648) (b_a : -2147483648 ≤ a ∧ a < 2147483648) (b_b : -2147483648 ≤ b ∧ b < 2147483648) (b_c : -2147483648 ≤ c ∧ c < 2147483648) (b_mode : -2147483648 ≤ mode ∧ mode < 2147483648) : SP W L Z (d + 20) 94 220 [Value.ref 7, Value.int (Int32.ofInt r), Value.int (Int32.ofInt a), Value.int (Int32.ofInt b), Value.int (Int32.ofInt c), Value.int (Int32.ofInt mode), Value.ref 194] [Value.ref 128, Value.int (Int32.ofInt r), Value.int (Int32.ofInt a), Value.int (Int32.ofInt b), Value.int (Int32.ofInt c), Value.int (Int32.ofInt mode)] w := by
  obtain ⟨S, V, Sm, Vm, g, hW, hI, hM, hJ, hE⟩ := hIV
  have h7 := hW.1.k0 kq_7
  by_cases hg : (0 ≤ r ∧ r ≤ 15) ∧ (0 ≤ a ∧ a ≤ 15) ∧ (0 ≤ b ∧ b ≤ 15) ∧ (0 ≤ c ∧ c ≤ 15) ∧ (0 ≤ mode ∧ mode ≤ 4)
  · have hE1 := eqA_31 (k := 0) hE
    have e : sFus (u2 Sm 128 31 0) Vm r.toNat a.toNat b.toNat c.toNat mode = sFus (vS S) (vV V) r.toNat a.toNat b.toNat c.toNat mode := eq_fus hE1.2.1 (hE1.1 r.toNat (by omega)).1 (hE1.1 a.toNat (by omega)) (hE1.1 b.toNat (by omega)) (hE1.1 c.toNat (by omega)) (kk_of hI (show a.toNat < 16 by omega)) (kk_of hI (show b.toNat < 16 by omega)) (kk_of hI (show c.toNat < 16 by omega))
    obtain ⟨w2, hrun, S', V', hX, hO⟩ := x_fused (d := d + 7) (r := r) (a := a) (b := b) (c := c) (mode := mode) hW.1 hI (by omega) (by omega) (by omega) (by omega) (by omega)
    have hW2 := hW.cls hX
    refine ⟨0, _, l_94 (d := d + 19) h7 hrun hW2.2.2.1, ⟨by decide, by decide⟩, ?_⟩
    have hW3 := hW2.put (xup g 0 (.long (Int32.ofInt (sFus (vS S) (vV V) r.toNat a.toNat b.toNat c.toNat mode).2.2.2.2.1).toInt64))
    obtain ⟨an, w4, hr4, rfl, Sm', Vm', hmR, hP⟩ := w_220 (d := d + 19) (P := fun an w4 => an = Int32.ofInt (sFus (vS S) (vV V) r.toNat a.toNat b.toNat c.toNat mode).2.2.2.2.1 ∧ ∃ Sm' Vm', mR _ Sm' Vm' w4 ∧ oP (u2 Sm 128 31 0) Sm' Vm Vm' r.toNat (sFus (vS S) (vV V) r.toNat a.toNat b.toNat c.toNat mode)) hW3.2.1 (fun w5 hw5 => by
      obtain ⟨w6, h1, S6, V6, h2, h3⟩ := s_fus (d := d + 11) (r := r) (a := a) (b := b) (c := c) (mode := mode) hw5 (mI_31 hM) (by omega) (by omega) (by omega) (by omega) (by omega)
      rw [e] at h1 h3
      exact ⟨_, w6, h1, rfl, S6, V6, h2, h3⟩)
    exact ⟨_, w4, hr4, hW3.k3, L, Z, by omega, by omega, IV.op (hW3.ref hmR) hI hM hJ hE (by omega) hO hP (ok_fus (gK_of hI hJ (show r.toNat < 16 by omega))) (xup0 _ _)⟩
  · -- the arguments are bad
    obtain ⟨w1, hrun, hw1⟩ := b_cfus (d := d + 11) (r := r) (a := a) (b := b) (c := c) (mode := mode) hW.1 b_r b_a b_b b_c b_mode (by omega)
    subst hw1
    refine ⟨1, _, c_94_1 (d := d + 19) h7 hrun, ⟨by decide, by decide⟩, ?_⟩
    have hW3 := hW.clsT (c := .inr (14, [])) hW.1
    have hln := hW3.1.len
    obtain ⟨w4, hr4, Sm', Vm', hmR, rfl, rfl⟩ := t_220_1 (d := d + 19) (P := fun S' V' => S' = u2 Sm 128 31 0 ∧ V' = Vm) hW3.2.1 (by omega) (fun w5 hw5 => ⟨w5, _, _, b_fus (d := d + 11) (r := r) (a := a) (b := b) (c := c) (mode := mode) b_r b_a b_b b_c b_mode (by omega), hw5, rfl, rfl⟩)
    exact ⟨0, w4, hr4, hW3.k3, L + 1 + 1, Z + xcs (.inr (14, [])) + xcs (.inr (14, [])), by omega, by rw [xcs14]; omega, IV.thr (hW3.refT hmR) hI (mI_31 hM) hJ (eqA_31 hE) (by decide)⟩
theorem st_root {r a n mode : Int} (hIV : IV0 W L Z w) (b_r : -2147483648 ≤ r ∧ r < 2147483648) (b_a : -2147483648 ≤ a ∧ a < 2147483648) (b_n : -2147483648 ≤ n ∧ n < 2147483648) (b_mode : -2147483648 ≤ mode ∧ mode < 2147483648) : SP W L Z (d + 20) 97 222 [Value.ref 7, Value.int (Int32.ofInt r), Value.int (Int32.ofInt a), Value.int (Int32.ofInt n), Value.int (Int32.ofInt mode), Value.ref 194] [Value.ref 128, Value.int (Int32.ofInt r), Value.int (Int32.ofInt a), Value.int (Int32.ofInt n), Value.int (Int32.ofInt mode)] w := by
  obtain ⟨S, V, Sm, Vm, g, hW, hI, hM, hJ, hE⟩ := hIV
  have h7 := hW.1.k0 kq_7
  by_cases hg : (0 ≤ r ∧ r ≤ 15) ∧ (0 ≤ a ∧ a ≤ 15) ∧ (1 ≤ n ∧ n ≤ 32) ∧ (0 ≤ mode ∧ mode ≤ 4)
  · have hE1 := eqA_31 (k := 0) hE
    have e : sRoot (u2 Sm 128 31 0) Vm r.toNat a.toNat n mode = sRoot (vS S) (vV V) r.toNat a.toNat n mode := eq_root hE1.2.1 (hE1.1 r.toNat (by omega)).1 (hE1.1 a.toNat (by omega)) (kk_of hI (show a.toNat < 16 by omega))
    obtain ⟨w2, hrun, S', V', hX, hO⟩ := x_root (d := d + 8) (r := r) (a := a) (n := n) (mode := mode) hW.1 hI (by omega) (by omega) (by omega) (by omega)
    have hW2 := hW.cls hX
    refine ⟨0, _, l_97 (d := d + 19) h7 hrun hW2.2.2.1, ⟨by decide, by decide⟩, ?_⟩
    have hW3 := hW2.put (xup g 0 (.long (Int32.ofInt (sRoot (vS S) (vV V) r.toNat a.toNat n mode).2.2.2.2.1).toInt64))
    obtain ⟨an, w4, hr4, rfl, Sm', Vm', hmR, hP⟩ := w_222 (d := d + 19) (P := fun an w4 => an = Int32.ofInt (sRoot (vS S) (vV V) r.toNat a.toNat n mode).2.2.2.2.1 ∧ ∃ Sm' Vm', mR _ Sm' Vm' w4 ∧ oP (u2 Sm 128 31 0) Sm' Vm Vm' r.toNat (sRoot (vS S) (vV V) r.toNat a.toNat n mode)) hW3.2.1 (fun w5 hw5 => by
      obtain ⟨w6, h1, S6, V6, h2, h3⟩ := s_root (d := d + 11) (r := r) (a := a) (n := n) (mode := mode) hw5 (mI_31 hM) (by omega) (by omega) (by omega) (by omega)
      rw [e] at h1 h3
      exact ⟨_, w6, h1, rfl, S6, V6, h2, h3⟩)
    exact ⟨_, w4, hr4, hW3.k3, L, Z, by omega, by omega, IV.op (hW3.ref hmR) hI hM hJ hE (by omega) hO hP (ok_root (gK_of hI hJ (show r.toNat < 16 by omega)) (kk_of hI (show a.toNat < 16 by omega))) (xup0 _ _)⟩
  · -- the arguments are bad
    obtain ⟨w1, hrun, hw1⟩ := b_croot (d := d + 11) (r := r) (a := a) (n := n) (mode := mode) hW.1 b_r b_a b_n b_mode (by omega)
    subst hw1
    refine ⟨1, _, c_97_1 (d := d + 19) h7 hrun, ⟨by decide, by decide⟩, ?_⟩
    have hW3 := hW.clsT (c := .inr (14, [])) hW.1
    have hln := hW3.1.len
    obtain ⟨w4, hr4, Sm', Vm', hmR, rfl, rfl⟩ := t_222_1 (d := d + 19) (P := fun S' V' => S' = u2 Sm 128 31 0 ∧ V' = Vm) hW3.2.1 (by omega) (fun w5 hw5 => ⟨w5, _, _, b_root (d := d + 11) (r := r) (a := a) (n := n) (mode := mode) b_r b_a b_n b_mode (by omega), hw5, rfl, rfl⟩)
    exact ⟨0, w4, hr4, hW3.k3, L + 1 + 1, Z + xcs (.inr (14, [])) + xcs (.inr (14, [])), by omega, by rw [xcs14]; omega, IV.thr (hW3.refT hmR) hI (mI_31 hM) hJ (eqA_31 hE) (by decide)⟩
theorem st_pow {r a n mode : Int} (hIV : IV0 W L Z w) (b_r : -2147483648 ≤ r ∧ r < 2147483648) (b_a : -2147483648 ≤ a ∧ a < 2147483648) (b_n : -2147483648 ≤ n ∧ n < 2147483648) (b_mode : -2147483648 ≤ mode ∧ mode < 2147483648) : SP W L Z (d + 20) 100 224 [Value.ref 7, Value.int (Int32.ofInt r), Value.int (Int32.ofInt a), Value.int (Int32.ofInt n), Value.int (Int32.ofInt mode), Value.ref 194] [Value.ref 128, Value.int (Int32.ofInt r), Value.int (Int32.ofInt a), Value.int (Int32.ofInt n), Value.int (Int32.ofInt mode)] w := by
  obtain ⟨S, V, Sm, Vm, g, hW, hI, hM, hJ, hE⟩ := hIV
  have h7 := hW.1.k0 kq_7
  by_cases hg : (0 ≤ r ∧ r ≤ 15) ∧ (0 ≤ a ∧ a ≤ 15) ∧ (-32 ≤ n ∧ n ≤ 32) ∧ (0 ≤ mode ∧ mode ≤ 4)
  · have hE1 := eqA_31 (k := 0) hE
    have e : sPow (u2 Sm 128 31 0) Vm r.toNat a.toNat n mode = sPow (vS S) (vV V) r.toNat a.toNat n mode := eq_pow hE1.2.1 (hE1.1 r.toNat (by omega)).1 (hE1.1 a.toNat (by omega)) (kk_of hI (show a.toNat < 16 by omega))
    obtain ⟨w2, hrun, S', V', hX, hO⟩ := x_power (d := d + 7) (r := r) (a := a) (n := n) (mode := mode) hW.1 hI (by omega) (by omega) (by omega) (by omega) hJ.1
    have hW2 := hW.cls hX
    refine ⟨0, _, l_100 (d := d + 19) h7 hrun hW2.2.2.1, ⟨by decide, by decide⟩, ?_⟩
    have hW3 := hW2.put (xup g 0 (.long (Int32.ofInt (sPow (vS S) (vV V) r.toNat a.toNat n mode).2.2.2.2.1).toInt64))
    obtain ⟨an, w4, hr4, rfl, Sm', Vm', hmR, hP⟩ := w_224 (d := d + 19) (P := fun an w4 => an = Int32.ofInt (sPow (vS S) (vV V) r.toNat a.toNat n mode).2.2.2.2.1 ∧ ∃ Sm' Vm', mR _ Sm' Vm' w4 ∧ oP (u2 Sm 128 31 0) Sm' Vm Vm' r.toNat (sPow (vS S) (vV V) r.toNat a.toNat n mode)) hW3.2.1 (fun w5 hw5 => by
      obtain ⟨w6, h1, S6, V6, h2, h3⟩ := s_pow (d := d + 11) (r := r) (a := a) (n := n) (mode := mode) hw5 (mI_31 hM) (by omega) (by omega) (by omega) (by omega)
      rw [e] at h1 h3
      exact ⟨_, w6, h1, rfl, S6, V6, h2, h3⟩)
    exact ⟨_, w4, hr4, hW3.k3, L, Z, by omega, by omega, IV.op (hW3.ref hmR) hI hM hJ hE (by omega) hO hP (ok_pow (gK_of hI hJ (show r.toNat < 16 by omega)) (kk_of hI (show a.toNat < 16 by omega))) (xup0 _ _)⟩
  · -- the arguments are bad
    obtain ⟨w1, hrun, hw1⟩ := b_cpow (d := d + 11) (r := r) (a := a) (n := n) (mode := mode) hW.1 b_r b_a b_n b_mode (by omega)
    subst hw1
    refine ⟨1, _, c_100_1 (d := d + 19) h7 hrun, ⟨by decide, by decide⟩, ?_⟩
    have hW3 := hW.clsT (c := .inr (14, [])) hW.1
    have hln := hW3.1.len
    obtain ⟨w4, hr4, Sm', Vm', hmR, rfl, rfl⟩ := t_224_1 (d := d + 19) (P := fun S' V' => S' = u2 Sm 128 31 0 ∧ V' = Vm) hW3.2.1 (by omega) (fun w5 hw5 => ⟨w5, _, _, b_pow (d := d + 11) (r := r) (a := a) (n := n) (mode := mode) b_r b_a b_n b_mode (by omega), hw5, rfl, rfl⟩)
    exact ⟨0, w4, hr4, hW3.k3, L + 1 + 1, Z + xcs (.inr (14, [])) + xcs (.inr (14, [])), by omega, by rw [xcs14]; omega, IV.thr (hW3.refT hmR) hI (mI_31 hM) hJ (eqA_31 hE) (by decide)⟩
theorem st_nei {r up : Int} (hIV : IV0 W L Z w) (b_r : -2147483648 ≤ r ∧ r < 2147483648) (b_up : up = 0 ∨ up = 1) : SP W L Z (d + 20) 116 232 [Value.ref 7, Value.int (Int32.ofInt r), Value.int (Int32.ofInt up), Value.ref 194] [Value.ref 128, Value.int (Int32.ofInt r), Value.int (Int32.ofInt up)] w := by
  obtain ⟨S, V, Sm, Vm, g, hW, hI, hM, hJ, hE⟩ := hIV
  have h7 := hW.1.k0 kq_7
  by_cases hg : 0 ≤ r ∧ r ≤ 15
  · have hE1 := eqA_31 (k := 0) hE
    have e : sNei (u2 Sm 128 31 0) Vm r.toNat up = sNei (vS S) (vV V) r.toNat up := eq_nei hE1.2.1 (hE1.1 r.toNat (by omega)) (kk_of hI (show r.toNat < 16 by omega))
    obtain ⟨w2, hrun, S', V', hX, hO⟩ := x_nei (d := d + 10) (r := r) (up := up) hW.1 hI (by omega) b_up
    have hW2 := hW.cls hX
    refine ⟨0, _, l_116 (d := d + 19) h7 hrun hW2.2.2.1, ⟨by decide, by decide⟩, ?_⟩
    have hW3 := hW2.put (xup g 0 (.long (Int32.ofInt (sNei (vS S) (vV V) r.toNat up).2.2.2.2.1).toInt64))
    obtain ⟨an, w4, hr4, rfl, Sm', Vm', hmR, hP⟩ := w_232 (d := d + 19) (P := fun an w4 => an = Int32.ofInt (sNei (vS S) (vV V) r.toNat up).2.2.2.2.1 ∧ ∃ Sm' Vm', mR _ Sm' Vm' w4 ∧ oP (u2 Sm 128 31 0) Sm' Vm Vm' r.toNat (sNei (vS S) (vV V) r.toNat up)) hW3.2.1 (fun w5 hw5 => by
      obtain ⟨w6, h1, S6, V6, h2, h3⟩ := s_nei (d := d + 11) (r := r) (up := up) hw5 (mI_31 hM) (by omega) b_up
      rw [e] at h1 h3
      exact ⟨_, w6, h1, rfl, S6, V6, h2, h3⟩)
    exact ⟨_, w4, hr4, hW3.k3, L, Z, by omega, by omega, IV.op (hW3.ref hmR) hI hM hJ hE (by omega) hO hP (ok_nei (gK_of hI hJ (show r.toNat < 16 by omega)) (kk_of hI (show r.toNat < 16 by omega)) (kb_of hI (show r.toNat < 16 by omega))) (xup0 _ _)⟩
  · -- the arguments are bad
    obtain ⟨w1, hrun, hw1⟩ := b_cnei (d := d + 11) (r := r) (up := up) hW.1 b_r b_up (by omega)
    subst hw1
    refine ⟨1, _, c_116_1 (d := d + 19) h7 hrun, ⟨by decide, by decide⟩, ?_⟩
    have hW3 := hW.clsT (c := .inr (14, [])) hW.1
    have hln := hW3.1.len
    obtain ⟨w4, hr4, Sm', Vm', hmR, rfl, rfl⟩ := t_232_1 (d := d + 19) (P := fun S' V' => S' = u2 Sm 128 31 0 ∧ V' = Vm) hW3.2.1 (by omega) (fun w5 hw5 => ⟨w5, _, _, b_nei (d := d + 11) (r := r) (up := up) b_r (by omega), hw5, rfl, rfl⟩)
    exact ⟨0, w4, hr4, hW3.k3, L + 1 + 1, Z + xcs (.inr (14, [])) + xcs (.inr (14, [])), by omega, by rw [xcs14]; omega, IV.thr (hW3.refT hmR) hI (mI_31 hM) hJ (eqA_31 hE) (by decide)⟩
theorem st_frd {r B mode : Int} (hIV : IV0 W L Z w) (b_r : -2147483648 ≤ r ∧ r < 2147483648) (b_B : -9223372036854775808 ≤ B ∧ B < 9223372036854775808) (b_mode : -2147483648 ≤ mode ∧ mode < 2147483648) : SP W L Z (d + 20) 127 247 [Value.ref 7, Value.int (Int32.ofInt r), Value.long (Int64.ofInt B), Value.int (Int32.ofInt mode), Value.ref 194] [Value.ref 128, Value.int (Int32.ofInt r), Value.long (Int64.ofInt B), Value.int (Int32.ofInt mode)] w := by
  obtain ⟨S, V, Sm, Vm, g, hW, hI, hM, hJ, hE⟩ := hIV
  have h7 := hW.1.k0 kq_7
  by_cases hg : (0 ≤ r ∧ r ≤ 15) ∧ (0 ≤ mode ∧ mode ≤ 4)
  · have hE1 := eqA_31 (k := 0) hE
    have e : sFrD (u2 Sm 128 31 0) r.toNat B mode = sFrD (vS S) r.toNat B mode := eq_frd hE1.2.1 (hE1.1 r.toNat (by omega)).1
    obtain ⟨w2, hrun, S', V', hX, hO⟩ := x_frd (d := d + 8) (r := r) (B := B) (mode := mode) hW.1 hI (by omega) b_B (by omega)
    have hW2 := hW.cls hX
    refine ⟨0, _, l_127 (d := d + 19) h7 hrun hW2.2.2.1, ⟨by decide, by decide⟩, ?_⟩
    have hW3 := hW2.put (xup g 0 (.long (Int32.ofInt (sFrD (vS S) r.toNat B mode).2.2.2.2.1).toInt64))
    obtain ⟨an, w4, hr4, rfl, Sm', Vm', hmR, hP⟩ := w_247 (d := d + 19) (P := fun an w4 => an = Int32.ofInt (sFrD (vS S) r.toNat B mode).2.2.2.2.1 ∧ ∃ Sm' Vm', mR _ Sm' Vm' w4 ∧ oP (u2 Sm 128 31 0) Sm' Vm Vm' r.toNat (sFrD (vS S) r.toNat B mode)) hW3.2.1 (fun w5 hw5 => by
      obtain ⟨w6, h1, S6, V6, h2, h3⟩ := s_frd (d := d + 11) (r := r) (B := B) (mode := mode) hw5 (mI_31 hM) (by omega) b_B (by omega)
      rw [e] at h1 h3
      exact ⟨_, w6, h1, rfl, S6, V6, h2, h3⟩)
    exact ⟨_, w4, hr4, hW3.k3, L, Z, by omega, by omega, IV.op (hW3.ref hmR) hI hM hJ hE (by omega) hO hP (ok_frd (gK_of hI hJ (show r.toNat < 16 by omega))) (xup0 _ _)⟩
  · -- the arguments are bad
    obtain ⟨w1, hrun, hw1⟩ := b_cfrd (d := d + 11) (r := r) (B := B) (mode := mode) hW.1 b_r b_mode (by omega)
    subst hw1
    refine ⟨1, _, c_127_1 (d := d + 19) h7 hrun, ⟨by decide, by decide⟩, ?_⟩
    have hW3 := hW.clsT (c := .inr (14, [])) hW.1
    have hln := hW3.1.len
    obtain ⟨w4, hr4, Sm', Vm', hmR, rfl, rfl⟩ := t_247_1 (d := d + 19) (P := fun S' V' => S' = u2 Sm 128 31 0 ∧ V' = Vm) hW3.2.1 (by omega) (fun w5 hw5 => ⟨w5, _, _, b_frd (d := d + 11) (r := r) (B := B) (mode := mode) b_r b_mode (by omega), hw5, rfl, rfl⟩)
    exact ⟨0, w4, hr4, hW3.k3, L + 1 + 1, Z + xcs (.inr (14, [])) + xcs (.inr (14, [])), by omega, by rw [xcs14]; omega, IV.thr (hW3.refT hmR) hI (mI_31 hM) hJ (eqA_31 hE) (by decide)⟩
end
