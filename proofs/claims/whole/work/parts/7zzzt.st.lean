/-! compare, look, word, end, octet, toDouble, toLong side by side -/
theorem ko_of {S Sm : Nat → Nat → Int} {V Vm : Nat → Nat} {r : Nat} (hE : eqA S V Sm Vm) (hr : r < 16) : Sm 154 r = S (30 + 3 * r) 1 := (hE.1 r hr).2.1
theorem cmp_e {S Sm : Nat → Nat → Int} {V Vm : Nat → Nat} {a b : Nat} (hI : cI S V) (hE : eqA S V Sm Vm) (ha : a < 16) (hb : b < 16) (ka : S (30 + 3 * a) 1 ≠ 0) (kb : S (30 + 3 * b) 1 ≠ 0) : sCm Sm Vm a b = ordR (S (30 + 3 * a) 1) (S (30 + 3 * a) 2) (S (30 + 3 * a) 3) (V (30 + 3 * a + 1)) (S (30 + 3 * b) 1) (S (30 + 3 * b) 2) (S (30 + 3 * b) 3) (V (30 + 3 * b + 1)) := by
  have k1 := kk_of hI ha
  have k2 := kk_of hI hb
  have ka' : vS S 154 a ≠ 0 := ka
  have kb' : vS S 154 b ≠ 0 := kb
  rw [eq_cm (hE.1 a ha) (hE.1 b hb) (by omega) (by omega), ← eq_cmp (by omega) (by omega) (ks_of hI ha) (ks_of hI hb) (kb_of hI ha) (kb_of hI hb), vV_r, vV_r]
  rfl
theorem look_e {S Sm : Nat → Nat → Int} {V Vm : Nat → Nat} {r : Nat} {wh : Int} (hE : eqA S V Sm Vm) (hr : r < 16) (hw : 0 ≤ wh ∧ wh ≤ 3) (hok : wh ≤ 1 ∨ (wh = 2 ∧ S (30 + 3 * r) 1 ≠ 0) ∨ (wh = 3 ∧ S (30 + 3 * r) 1 = 3)) : sLook Sm r wh = if wh = 0 then S (30 + 3 * r) 0 else if wh = 1 then S (30 + 3 * r) 1 else if wh = 2 then S (30 + 3 * r) 2 else S (30 + 3 * r) 3 := by
  obtain ⟨f1, f2, f3, f4⟩ := hE.1 r hr
  unfold sLook
  split
  · exact f1
  · split
    · exact f2
    · split
      · exact f3 (show S (30 + 3 * r) 1 ≠ 0 by omega)
      · exact (f4 (show S (30 + 3 * r) 1 = 3 by omega)).1
theorem word_e {S Sm : Nat → Nat → Int} {V Vm : Nat → Nat} {r : Nat} {k : Int} (hE : eqA S V Sm Vm) (hr : r < 16) (hk : 0 ≤ k ∧ k ≤ 127) (h3 : S (30 + 3 * r) 1 = 3) : (Vm (160 + 2 * r) / 2 ^ (32 * k.toNat + 0) % 2 ^ (32 - 0) : Nat) = bfn (V (30 + 3 * r + 1)) (32 * k) := by
  obtain ⟨f1, f2, f3, f4⟩ := hE.1 r hr
  rw [(f4 h3).2, vV_r]
  unfold bfn
  rw [if_pos (by omega), show (32 * k).toNat = 32 * k.toNat + 0 by omega]
section
variable {W w : xW} {L Z d : Nat}
theorem st_cmp {a b : Int} (hIV : IV0 W L Z w) (b_a : -2147483648 ≤ a ∧ a < 2147483648) (b_b : -2147483648 ≤ b ∧ b < 2147483648) : SP W L Z (d + 20) 121 237 [Value.ref 7, Value.int (Int32.ofInt a), Value.int (Int32.ofInt b), Value.ref 194] [Value.ref 128, Value.int (Int32.ofInt a), Value.int (Int32.ofInt b)] w := by
  obtain ⟨S, V, Sm, Vm, g, hW, hI, hM, hJ, hE⟩ := hIV
  have h7 := hW.1.k0 kq_7
  have hE1 := eqA_31 (k := 0) hE
  have hM1 := mI_31 (k := 0) hM
  by_cases hg : (0 ≤ a ∧ a ≤ 15) ∧ (0 ≤ b ∧ b ≤ 15)
  · have qa := ko_of hE1 (show a.toNat < 16 by omega)
    have qb := ko_of hE1 (show b.toNat < 16 by omega)
    by_cases hk : S (30 + 3 * a.toNat) 1 = 0 ∨ S (30 + 3 * b.toNat) 1 = 0
    ·
      obtain ⟨w1, hrun, hX⟩ := n_ccmp (d := d + 11) (a := a) (b := b) hW.1 hI (by omega) (by omega) hk
      refine ⟨2, _, c_121_2 (d := d + 19) h7 hrun, ⟨by decide, by decide⟩, ?_⟩
      have hW3 := hW.clsT (c := .inr (15, [])) hX
      have hln := hW3.1.len
      obtain ⟨w4, hr4, Sm', Vm', hmR, rfl, rfl⟩ := t_237_2 (d := d + 19) (P := fun S' V' => S' = u2 (u2 Sm 128 31 0) 128 19 (zor (S 78 3) 32) ∧ V' = Vm) hW3.2.1 (by omega) (fun w5 hw5 => by
      obtain ⟨w6, h1, h2⟩ := n_cmp (d := d + 11) (a := a) (b := b) hw5 hM1 (by omega) (by omega) (by omega)
      rw [show (u2 Sm 128 31 0) 128 19 = S 78 3 from hE1.2.1.2.2.1] at h2
      exact ⟨w6, _, _, h1, h2, rfl, rfl⟩)
      exact ⟨0, w4, hr4, hW3.k3, L + 1 + 1, Z + xcs (.inr (15, [])) + xcs (.inr (15, [])), by omega, by rw [xcs15]; omega, IV.thr (hW3.refT hmR) (cI_f hI) (mI_f hM1) (cJ_f hJ zor_rg) (eqA_f hE1) (by decide)⟩
    · have e : sCm (u2 Sm 128 31 0) Vm a.toNat b.toNat = ordR (S (30 + 3 * a.toNat) 1) (S (30 + 3 * a.toNat) 2) (S (30 + 3 * a.toNat) 3) (V (30 + 3 * a.toNat + 1)) (S (30 + 3 * b.toNat) 1) (S (30 + 3 * b.toNat) 2) (S (30 + 3 * b.toNat) 3) (V (30 + 3 * b.toNat + 1)) := cmp_e hI hE1 (by omega) (by omega) (by omega) (by omega)
      have hrun := x_cmp (d := d + 14) (a := a) (b := b) hW.1 hI (by omega) (by omega) (by omega) (by omega)
      refine ⟨0, _, l_121 (d := d + 19) h7 hrun hW.2.2.1, ⟨by decide, by decide⟩, ?_⟩
      have hW3 := hW.put (xup g 0 (.long (Int32.ofInt (ordR (S (30 + 3 * a.toNat) 1) (S (30 + 3 * a.toNat) 2) (S (30 + 3 * a.toNat) 3) (V (30 + 3 * a.toNat + 1)) (S (30 + 3 * b.toNat) 1) (S (30 + 3 * b.toNat) 2) (S (30 + 3 * b.toNat) 3) (V (30 + 3 * b.toNat + 1)))).toInt64))
      obtain ⟨an, w4, hr4, rfl, Vm', hmR, hnV⟩ := w_237 (d := d + 19) (P := fun an w4 => an = Int32.ofInt (ordR (S (30 + 3 * a.toNat) 1) (S (30 + 3 * a.toNat) 2) (S (30 + 3 * a.toNat) 3) (V (30 + 3 * a.toNat + 1)) (S (30 + 3 * b.toNat) 1) (S (30 + 3 * b.toNat) 2) (S (30 + 3 * b.toNat) 3) (V (30 + 3 * b.toNat + 1))) ∧ ∃ Vm', mR _ (u2 Sm 128 31 0) Vm' w4 ∧ nV Vm Vm') hW3.2.1 (fun w5 hw5 => by
        obtain ⟨w6, h1, V6, h2, h3⟩ := s_cmp (d := d + 11) (a := a) (b := b) hw5 hM1 (by omega) (by omega) (by omega) (by omega)
        rw [e] at h1
        exact ⟨_, w6, h1, rfl, V6, h2, h3⟩)
      exact ⟨_, w4, hr4, hW3.k3, L, Z, by omega, by omega, IV.mk' (hW3.ref hmR) hI (nS.mI nS.refl hnV hM1) hJ (eqA_m (fun _ _ _ => rfl) (fun k hk _ => hnV k hk) hE1) rfl (xup0 _ _)⟩
  · -- the arguments are bad
    obtain ⟨w1, hrun, hw1⟩ := b_ccmp (d := d + 11) (a := a) (b := b) hW.1 b_a b_b (by omega)
    subst hw1
    refine ⟨1, _, c_121_1 (d := d + 19) h7 hrun, ⟨by decide, by decide⟩, ?_⟩
    have hW3 := hW.clsT (c := .inr (14, [])) hW.1
    have hln := hW3.1.len
    obtain ⟨w4, hr4, Sm', Vm', hmR, rfl, rfl⟩ := t_237_1 (d := d + 19) (P := fun S' V' => S' = u2 Sm 128 31 0 ∧ V' = Vm) hW3.2.1 (by omega) (fun w5 hw5 => ⟨w5, _, _, b_cmp (d := d + 11) (a := a) (b := b) b_a b_b (by omega), hw5, rfl, rfl⟩)
    exact ⟨0, w4, hr4, hW3.k3, L + 1 + 1, Z + xcs (.inr (14, [])) + xcs (.inr (14, [])), by omega, by rw [xcs14]; omega, IV.thr (hW3.refT hmR) hI (mI_31 hM) hJ (eqA_31 hE) (by decide)⟩
theorem st_look {r wh : Int} (hIV : IV0 W L Z w) (b_r : -2147483648 ≤ r ∧ r < 2147483648) (b_wh : -2147483648 ≤ wh ∧ wh < 2147483648) : SP W L Z (d + 20) 123 242 [Value.ref 7, Value.int (Int32.ofInt r), Value.int (Int32.ofInt wh), Value.ref 194] [Value.ref 128, Value.int (Int32.ofInt r), Value.int (Int32.ofInt wh)] w := by
  obtain ⟨S, V, Sm, Vm, g, hW, hI, hM, hJ, hE⟩ := hIV
  have h7 := hW.1.k0 kq_7
  have hE1 := eqA_31 (k := 0) hE
  have hM1 := mI_31 (k := 0) hM
  by_cases hg : (0 ≤ r ∧ r ≤ 15) ∧ (0 ≤ wh ∧ wh ≤ 3)
  · have qa := ko_of hE1 (show r.toNat < 16 by omega)
    by_cases hk : (wh = 2 ∧ S (30 + 3 * r.toNat) 1 = 0) ∨ (wh = 3 ∧ S (30 + 3 * r.toNat) 1 ≠ 3)
    ·
      obtain ⟨w1, hrun, hX⟩ := n_clook (d := d + 11) (r := r) (wh := wh) hW.1 hI (by omega) (by omega) hk
      refine ⟨2, _, c_123_2 (d := d + 19) h7 hrun, ⟨by decide, by decide⟩, ?_⟩
      have hW3 := hW.clsT (c := .inr (16, [])) hX
      have hln := hW3.1.len
      obtain ⟨w4, hr4, Sm', Vm', hmR, rfl, rfl⟩ := t_242_2 (d := d + 19) (P := fun S' V' => S' = (u2 Sm 128 31 0) ∧ V' = Vm) hW3.2.1 (by omega) (fun w5 hw5 => ⟨w5, _, _, n_look (d := d + 11) (r := r) (wh := wh) hw5 hM1 (by omega) (by omega) (by omega), hw5, rfl, rfl⟩)
      exact ⟨0, w4, hr4, hW3.k3, L + 1 + 1, Z + xcs (.inr (16, [])) + xcs (.inr (16, [])), by omega, by rw [xcs16]; omega, IV.thr (hW3.refT hmR) hI hM1 hJ hE1 (by decide)⟩
    · have e : sLook (u2 Sm 128 31 0) r.toNat wh = if wh = 0 then S (30 + 3 * r.toNat) 0 else if wh = 1 then S (30 + 3 * r.toNat) 1 else if wh = 2 then S (30 + 3 * r.toNat) 2 else S (30 + 3 * r.toNat) 3 := look_e hE1 (by omega) (by omega) (by omega)
      have hrun := x_look (d := d + 17) (r := r) (wh := wh) hW.1 hI (by omega) (by omega) (by omega)
      refine ⟨0, _, l_123 (d := d + 19) h7 hrun hW.2.2.1, ⟨by decide, by decide⟩, ?_⟩
      have hW3 := hW.put (xup g 0 (.long (Int32.ofInt (if wh = 0 then S (30 + 3 * r.toNat) 0 else if wh = 1 then S (30 + 3 * r.toNat) 1 else if wh = 2 then S (30 + 3 * r.toNat) 2 else S (30 + 3 * r.toNat) 3)).toInt64))
      obtain ⟨an, w4, hr4, rfl, hmR⟩ := w_242 (d := d + 19) (P := fun an w4 => an = Int32.ofInt (if wh = 0 then S (30 + 3 * r.toNat) 0 else if wh = 1 then S (30 + 3 * r.toNat) 1 else if wh = 2 then S (30 + 3 * r.toNat) 2 else S (30 + 3 * r.toNat) 3) ∧ mR _ (u2 Sm 128 31 0) Vm w4) hW3.2.1 (fun w5 hw5 => by
        obtain ⟨w6, h1, h2⟩ := s_look (d := d + 11) (r := r) (wh := wh) hw5 hM1 (by omega) (by omega) (by omega) (by omega)
        rw [e] at h1
        exact ⟨_, w6, h1, rfl, h2⟩)
      exact ⟨_, w4, hr4, hW3.k3, L, Z, by omega, by omega, IV.mk' (hW3.ref hmR) hI hM1 hJ hE1 rfl (xup0 _ _)⟩
  · -- the arguments are bad
    obtain ⟨w1, hrun, hw1⟩ := b_clook (d := d + 11) (r := r) (wh := wh) hW.1 b_r b_wh (by omega)
    subst hw1
    refine ⟨1, _, c_123_1 (d := d + 19) h7 hrun, ⟨by decide, by decide⟩, ?_⟩
    have hW3 := hW.clsT (c := .inr (14, [])) hW.1
    have hln := hW3.1.len
    obtain ⟨w4, hr4, Sm', Vm', hmR, rfl, rfl⟩ := t_242_1 (d := d + 19) (P := fun S' V' => S' = u2 Sm 128 31 0 ∧ V' = Vm) hW3.2.1 (by omega) (fun w5 hw5 => ⟨w5, _, _, b_look (d := d + 11) (r := r) (wh := wh) b_r b_wh (by omega), hw5, rfl, rfl⟩)
    exact ⟨0, w4, hr4, hW3.k3, L + 1 + 1, Z + xcs (.inr (14, [])) + xcs (.inr (14, [])), by omega, by rw [xcs14]; omega, IV.thr (hW3.refT hmR) hI (mI_31 hM) hJ (eqA_31 hE) (by decide)⟩
theorem st_word {r k : Int} (hIV : IV0 W L Z w) (b_r : -2147483648 ≤ r ∧ r < 2147483648) (b_k : -2147483648 ≤ k ∧ k < 2147483648) : SPL W L Z (d + 20) 125 245 [Value.ref 7, Value.int (Int32.ofInt r), Value.int (Int32.ofInt k), Value.ref 194] [Value.ref 128, Value.int (Int32.ofInt r), Value.int (Int32.ofInt k)] w := by
  obtain ⟨S, V, Sm, Vm, g, hW, hI, hM, hJ, hE⟩ := hIV
  have h7 := hW.1.k0 kq_7
  have hE1 := eqA_31 (k := 0) hE
  have hM1 := mI_31 (k := 0) hM
  by_cases hg : (0 ≤ r ∧ r ≤ 15) ∧ (0 ≤ k ∧ k ≤ 127)
  · have qa := ko_of hE1 (show r.toNat < 16 by omega)
    by_cases hk : S (30 + 3 * r.toNat) 1 ≠ 3
    ·
      obtain ⟨w1, hrun, hX⟩ := n_cword (d := d + 11) (r := r) (k := k) hW.1 hI (by omega) (by omega) hk
      refine ⟨2, _, c_125_2 (d := d + 19) h7 hrun, ⟨by decide, by decide⟩, ?_⟩
      have hW3 := hW.clsT (c := .inr (16, [])) hX
      have hln := hW3.1.len
      obtain ⟨w4, hr4, Sm', Vm', hmR, rfl, rfl⟩ := t_245_2 (d := d + 19) (P := fun S' V' => S' = (u2 Sm 128 31 0) ∧ V' = Vm) hW3.2.1 (by omega) (fun w5 hw5 => ⟨w5, _, _, n_word (d := d + 11) (r := r) (k := k) hw5 hM1 (by omega) (by omega) (by omega), hw5, rfl, rfl⟩)
      exact ⟨0, w4, hr4, hW3.k3, L + 1 + 1, Z + xcs (.inr (16, [])) + xcs (.inr (16, [])), by omega, by rw [xcs16]; omega, IV.thr (hW3.refT hmR) hI hM1 hJ hE1 (by decide)⟩
    · have e : (Vm (160 + 2 * r.toNat) / 2 ^ (32 * k.toNat + 0) % 2 ^ (32 - 0) : Nat) = bfn (V (30 + 3 * r.toNat + 1)) (32 * k) := word_e hE1 (by omega) (by omega) (by omega)
      have hrun := x_word (d := d + 16) (r := r) (k := k) hW.1 (by omega) (by omega) (by omega)
      refine ⟨0, _, l_125 (d := d + 19) h7 hrun hW.2.2.1, ⟨by decide, by decide⟩, ?_⟩
      have hW3 := hW.put (xup g 0 (.long (Int64.ofInt ((bfn (V (30 + 3 * r.toNat + 1)) (32 * k) : Nat) : Int))))
      obtain ⟨an, w4, hr4, rfl, hmR⟩ := w_245 (d := d + 19) (P := fun an w4 => an = Int64.ofInt ((bfn (V (30 + 3 * r.toNat + 1)) (32 * k) : Nat) : Int) ∧ mR _ (u2 Sm 128 31 0) Vm w4) hW3.2.1 (fun w5 hw5 => by
        obtain ⟨w6, h1, h2⟩ := s_word (d := d + 11) (r := r) (k := k) hw5 hM1 (by omega) (by omega) (by omega)
        rw [e] at h1
        exact ⟨_, w6, h1, rfl, h2⟩)
      exact ⟨_, w4, hr4, hW3.k3, L, Z, by omega, by omega, IV.mk' (hW3.ref hmR) hI hM1 hJ hE1 rfl (xup0 _ _)⟩
  · -- the arguments are bad
    obtain ⟨w1, hrun, hw1⟩ := b_cword (d := d + 11) (r := r) (k := k) hW.1 b_r b_k (by omega)
    subst hw1
    refine ⟨1, _, c_125_1 (d := d + 19) h7 hrun, ⟨by decide, by decide⟩, ?_⟩
    have hW3 := hW.clsT (c := .inr (14, [])) hW.1
    have hln := hW3.1.len
    obtain ⟨w4, hr4, Sm', Vm', hmR, rfl, rfl⟩ := t_245_1 (d := d + 19) (P := fun S' V' => S' = u2 Sm 128 31 0 ∧ V' = Vm) hW3.2.1 (by omega) (fun w5 hw5 => ⟨w5, _, _, b_word (d := d + 11) (r := r) (k := k) b_r b_k (by omega), hw5, rfl, rfl⟩)
    exact ⟨0, w4, hr4, hW3.k3, L + 1 + 1, Z + xcs (.inr (14, [])) + xcs (.inr (14, [])), by omega, by rw [xcs14]; omega, IV.thr (hW3.refT hmR) hI (mI_31 hM) hJ (eqA_31 hE) (by decide)⟩
theorem st_end {n : Int} (hIV : IV0 W L Z w) (b_n : -2147483648 ≤ n ∧ n < 2147483648) : SP W L Z (d + 20) 139 255 [Value.ref 7, Value.int (Int32.ofInt n), Value.ref 194] [Value.ref 128, Value.int (Int32.ofInt n)] w := by
  obtain ⟨S, V, Sm, Vm, g, hW, hI, hM, hJ, hE⟩ := hIV
  have h7 := hW.1.k0 kq_7
  have hE1 := eqA_31 (k := 0) hE
  have hM1 := mI_31 (k := 0) hM
  have e24 : (u2 Sm 128 31 0) 128 24 = S 7 11 := hE1.2.2.1.1
  have h11 : 0 ≤ S 7 11 ∧ S 7 11 ≤ 4096 := hI.2.2.2.2.1
  by_cases hg : 0 ≤ n ∧ n ≤ S 7 11
  · have e : (u2 Sm 128 31 0) 128 24 - n = S 7 11 - n := by rw [e24]
    obtain ⟨w2, hrun, hX⟩ := x_end (d := d + 19) (n := n) hW.1 (by omega) (by omega)
    have hW2 := hW.cls hX
    refine ⟨0, _, l_139 (d := d + 19) h7 hrun hW2.2.2.1, ⟨by decide, by decide⟩, ?_⟩
    have hW3 := hW2.put (xup g 0 (.long (Int32.ofInt (S 7 11 - n)).toInt64))
    obtain ⟨an, w4, hr4, rfl, hmR⟩ := w_255 (d := d + 19) (P := fun an w4 => an = Int32.ofInt (S 7 11 - n) ∧ mR _ (u2 (u2 Sm 128 31 0) 128 24 n) Vm w4) hW3.2.1 (fun w5 hw5 => by
      obtain ⟨w6, h1, h2⟩ := s_end (d := d + 11) (n := n) hw5 (by omega) (by omega)
      rw [e] at h1
      exact ⟨_, w6, h1, rfl, h2⟩)
    exact ⟨_, w4, hr4, hW3.k3, L, Z, by omega, by omega, IV.mk' (hW3.ref hmR) (cI_e hI (by omega)) (mI_e hM1) (cJ_e hJ) (eqA_e hE1) rfl (xup0 _ _)⟩
  · -- the arguments are bad
    obtain ⟨w1, hrun, hw1⟩ := b_cend (d := d + 11) (n := n) hW.1 h11 b_n (by omega)
    subst hw1
    refine ⟨1, _, c_139_1 (d := d + 19) h7 hrun, ⟨by decide, by decide⟩, ?_⟩
    have hW3 := hW.clsT (c := .inr (14, [])) hW.1
    have hln := hW3.1.len
    obtain ⟨w4, hr4, Sm', Vm', hmR, rfl, rfl⟩ := t_255_1 (d := d + 19) (P := fun S' V' => S' = u2 Sm 128 31 0 ∧ V' = Vm) hW3.2.1 (by omega) (fun w5 hw5 => ⟨w5, _, _, b_end (d := d + 11) (n := n) hw5 b_n (by omega) (by omega), hw5, rfl, rfl⟩)
    exact ⟨0, w4, hr4, hW3.k3, L + 1 + 1, Z + xcs (.inr (14, [])) + xcs (.inr (14, [])), by omega, by rw [xcs14]; omega, IV.thr (hW3.refT hmR) hI (mI_31 hM) hJ (eqA_31 hE) (by decide)⟩
theorem st_oct {k : Int} (hIV : IV0 W L Z w) (b_k : -2147483648 ≤ k ∧ k < 2147483648) : SP W L Z (d + 20) 161 270 [Value.ref 7, Value.int (Int32.ofInt k), Value.ref 194] [Value.ref 128, Value.int (Int32.ofInt k)] w := by
  obtain ⟨S, V, Sm, Vm, g, hW, hI, hM, hJ, hE⟩ := hIV
  have h7 := hW.1.k0 kq_7
  have hE1 := eqA_31 (k := 0) hE
  have hM1 := mI_31 (k := 0) hM
  have e25 : (u2 Sm 128 31 0) 128 25 = S 113 3 := hE1.2.2.2.1
  have h113 : 0 ≤ S 113 3 ∧ S 113 3 ≤ 4112 := hJ.2.2
  by_cases hg : -1 ≤ k ∧ k < S 113 3
  · have e : (if k < 0 then (u2 Sm 128 31 0) 128 25 else (u2 Sm 128 31 0) 159 k.toNat) = if k = -1 then S 113 3 else S 114 k.toNat := by
      by_cases c : k < 0
      · rw [if_pos c, if_pos (by omega), e25]
      · rw [if_neg c, if_neg (by omega)]
        exact hE1.2.2.2.2 k.toNat (by omega)
    have hrun := x_octet (d := d + 19) (k := k) hW.1 (by omega) (by omega)
    refine ⟨0, _, l_161 (d := d + 19) h7 hrun hW.2.2.1, ⟨by decide, by decide⟩, ?_⟩
    have hW3 := hW.put (xup g 0 (.long (Int32.ofInt (if k = -1 then S 113 3 else S 114 k.toNat)).toInt64))
    obtain ⟨an, w4, hr4, rfl, hmR⟩ := w_270 (d := d + 19) (P := fun an w4 => an = Int32.ofInt (if k = -1 then S 113 3 else S 114 k.toNat) ∧ mR _ (u2 Sm 128 31 0) Vm w4) hW3.2.1 (fun w5 hw5 => by
      obtain ⟨w6, h1, h2⟩ := s_oct (d := d + 11) (k := k) hw5 (by omega) (by omega)
      rw [e] at h1
      exact ⟨_, w6, h1, rfl, h2⟩)
    exact ⟨_, w4, hr4, hW3.k3, L, Z, by omega, by omega, IV.mk' (hW3.ref hmR) hI hM1 hJ hE1 rfl (xup0 _ _)⟩
  · -- the arguments are bad
    obtain ⟨w1, hrun, hw1⟩ := b_coct (d := d + 11) (k := k) hW.1 h113 b_k (by omega)
    subst hw1
    refine ⟨1, _, c_161_1 (d := d + 19) h7 hrun, ⟨by decide, by decide⟩, ?_⟩
    have hW3 := hW.clsT (c := .inr (16, [])) hW.1
    have hln := hW3.1.len
    obtain ⟨w4, hr4, Sm', Vm', hmR, rfl, rfl⟩ := t_270_1 (d := d + 19) (P := fun S' V' => S' = u2 Sm 128 31 0 ∧ V' = Vm) hW3.2.1 (by omega) (fun w5 hw5 => ⟨w5, _, _, n_oct (d := d + 11) (k := k) hw5 b_k (by omega) (by omega), hw5, rfl, rfl⟩)
    exact ⟨0, w4, hr4, hW3.k3, L + 1 + 1, Z + xcs (.inr (16, [])) + xcs (.inr (16, [])), by omega, by rw [xcs16]; omega, IV.thr (hW3.refT hmR) hI (mI_31 hM) hJ (eqA_31 hE) (by decide)⟩
theorem st_tod {r mode : Int} (hIV : IV0 W L Z w) (b_r : -2147483648 ≤ r ∧ r < 2147483648) (b_mode : -2147483648 ≤ mode ∧ mode < 2147483648) : SPL W L Z (d + 20) 129 249 [Value.ref 7, Value.int (Int32.ofInt r), Value.int (Int32.ofInt mode), Value.ref 194] [Value.ref 128, Value.int (Int32.ofInt r), Value.int (Int32.ofInt mode)] w := by
  obtain ⟨S, V, Sm, Vm, g, hW, hI, hM, hJ, hE⟩ := hIV
  have h7 := hW.1.k0 kq_7
  have hE1 := eqA_31 (k := 0) hE
  have hM1 := mI_31 (k := 0) hM
  by_cases hg : (0 ≤ r ∧ r ≤ 15) ∧ (0 ≤ mode ∧ mode ≤ 4)
  · have e : sTd (u2 Sm 128 31 0) Vm r.toNat mode = sTd (vS S) (vV V) r.toNat mode := eq_td (hE1.1 r.toNat (by omega)) (kk_of hI (show r.toNat < 16 by omega))
    obtain ⟨w2, hrun, S', V', hX, hnD, hnW⟩ := x_tod (d := d + 8) (r := r) (mode := mode) hW.1 hI (by omega) (by omega)
    have hW2 := hW.cls hX
    refine ⟨0, _, l_129 (d := d + 19) h7 hrun hW2.2.2.1, ⟨by decide, by decide⟩, ?_⟩
    have hW3 := hW2.put (xup g 0 (.long (Int64.ofInt (sTd (vS S) (vV V) r.toNat mode))))
    obtain ⟨an, w4, hr4, rfl, Sm', Vm', hmR, hmD⟩ := w_249 (d := d + 19) (P := fun an w4 => an = Int64.ofInt (sTd (vS S) (vV V) r.toNat mode) ∧ ∃ Sm' Vm', mR _ Sm' Vm' w4 ∧ mD (u2 Sm 128 31 0) Sm' Vm Vm') hW3.2.1 (fun w5 hw5 => by
      obtain ⟨w6, h1, S6, V6, h2, h3⟩ := s_tod (d := d + 11) (r := r) (mode := mode) hw5 hM1 (by omega) (by omega)
      rw [e] at h1
      exact ⟨_, w6, h1, rfl, S6, V6, h2, h3⟩)
    exact ⟨_, w4, hr4, hW3.k3, L, Z, by omega, by omega, IV.mk' (hW3.ref hmR) (hnD.cI hnW hI) (mI_m (fun a j hb => hmD.1 a j (by omega)) (fun k h1 h2 => hmD.2 k h1 (by omega)) hM1) (cJ_c hnD.k hnD.2.1 hJ) (eqA_c hnD.k hnD.2.1 hnW (eqA_m (fun a j hb => hmD.1 a j (by omega)) (fun k h1 h2 => hmD.2 k h1 (by omega)) hE1)) (by rw [hmD.1 128 31 (by omega)]; rfl) (xup0 _ _)⟩
  · -- the arguments are bad
    obtain ⟨w1, hrun, hw1⟩ := b_ctod (d := d + 11) (r := r) (mode := mode) hW.1 b_r b_mode (by omega)
    subst hw1
    refine ⟨1, _, c_129_1 (d := d + 19) h7 hrun, ⟨by decide, by decide⟩, ?_⟩
    have hW3 := hW.clsT (c := .inr (14, [])) hW.1
    have hln := hW3.1.len
    obtain ⟨w4, hr4, Sm', Vm', hmR, rfl, rfl⟩ := t_249_1 (d := d + 19) (P := fun S' V' => S' = u2 Sm 128 31 0 ∧ V' = Vm) hW3.2.1 (by omega) (fun w5 hw5 => ⟨w5, _, _, b_tod (d := d + 11) (r := r) (mode := mode) b_r b_mode (by omega), hw5, rfl, rfl⟩)
    exact ⟨0, w4, hr4, hW3.k3, L + 1 + 1, Z + xcs (.inr (14, [])) + xcs (.inr (14, [])), by omega, by rw [xcs14]; omega, IV.thr (hW3.refT hmR) hI (mI_31 hM) hJ (eqA_31 hE) (by decide)⟩
end
