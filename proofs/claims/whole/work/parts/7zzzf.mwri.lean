/-! write of the reference -/
theorem fst_ex {M B : Nat} {E g K : Int} (hB : 0 < B) (h1 : vGe M E B g) (h2 : ¬ vGe M E B K) : ∃ F, fst_is M E B F := by
  have hgK : g < K := Int.lt_of_not_ge fun c => h2 (vGe_mono hB c h1)
  obtain ⟨f, hf⟩ : ∃ f : Nat, g + f = K := ⟨(K - g).toNat, by omega⟩
  clear hgK
  induction f generalizing g with
  | zero => exact absurd (by rw [← hf]; simpa using h1) h2
  | succ f ih =>
    by_cases c : vGe M E B (g + 1)
    · exact ih c (by omega)
    · exact ⟨g + 1, by rw [show g + 1 - 1 = g by omega]; exact h1, c⟩
theorem vGe_no {M B p : Nat} {E : Int} (hB : 2 ≤ B) (hM : M < 2 ^ p) : ¬ vGe M E B ((p : Int) + max 0 E) := by
  unfold vGe bNu bDe
  rw [if_pos (by omega), if_pos (by omega), Nat.mul_one, show ((p : Int) + max 0 E).natAbs = p + (max 0 E).toNat by omega]
  intro h
  have h1 : 2 ^ (p + (max 0 E).toNat) ≤ B ^ (p + (max 0 E).toNat) := Nat.pow_le_pow_left hB _
  have h2 : B ^ (p + (max 0 E).toNat) * 1 ≤ B ^ (p + (max 0 E).toNat) * 2 ^ (max 0 (-E)).toNat := Nat.mul_le_mul_left _ (Nat.two_pow_pos _)
  have h3 : M * 2 ^ (max 0 E).toNat < 2 ^ p * 2 ^ (max 0 E).toNat := Nat.mul_lt_mul_of_pos_right hM (Nat.two_pow_pos _)
  rw [← Nat.pow_add] at h3
  omega
/-- the row of digits, filled down to k -/
def oB (S : Nat → Nat → Int) (val rx nn k : Nat) : Nat → Nat → Int := fun a j => if a = 159 ∧ k ≤ j ∧ j < nn then ltr ((val / rx ^ (nn - 1 - j) % rx : Nat) : Int) else S a j
theorem oB_n {S : Nat → Nat → Int} {val rx nn : Nat} : oB S val rx nn nn = S := by
  funext a j
  unfold oB
  rw [if_neg (by omega)]
theorem oB_s {S : Nat → Nat → Int} {val rx nn k : Nat} (hk : k < nn) : u2 (oB S val rx nn (k + 1)) 159 k (ltr ((val / rx ^ (nn - (k + 1)) % rx : Nat) : Int)) = oB S val rx nn k := by
  funext a j
  rw [u2_e]
  unfold oB
  by_cases h : a = 159 ∧ j = k
  · rw [if_pos h, if_pos (by omega), h.2, show nn - 1 - k = nn - (k + 1) by omega]
  · rw [if_neg h]
    by_cases g : a = 159 ∧ k + 1 ≤ j ∧ j < nn
    · rw [if_pos g, if_pos (by omega)]
    · rw [if_neg g, if_neg (by omega)]
theorem oB_f {S : Nat → Nat → Int} {val rx nn k a j : Nat} (h : a ≠ 159) : oB S val rx nn k a j = S a j := if_neg (fun c => h c.1)
/-- what write leaves -/
def wE (S S' : Nat → Nat → Int) (V V' : Nat → Nat) (nn : Nat) (g : Nat → Int) : Prop := S' 128 25 = (nn : Int) ∧ (∀ j, S' 159 j = if j < nn then g j else S 159 j) ∧ (∀ a j, a ≠ 159 → ¬ (a = 128 ∧ j = 25) → ¬ ((a = 153 ∨ a = 154 ∨ a = 155 ∨ a = 156) ∧ j = 16) → ¬ (a = 128 ∧ 26 ≤ j ∧ j ≤ 30) → S' a j = S a j) ∧ ∀ k, 160 ≤ k → k ≠ 192 → V' k = V k
theorem bty_i {t : Int} (h : -128 ≤ t ∧ t ≤ 127) : bty t = t := by unfold bty; omega
section
variable {d rx nn : Nat} {w0 w : xW} {S S1 S2 : Nat → Nat → Int} {V V1 V2 : Nat → Nat} {r mode way n F xx : Int} {lv : xLv} {Q : Option Value ⊕ Nat → xW → Prop}
set_option maxHeartbeats 4000000 in
theorem wr_O {val : Nat} (hrx : 2 ≤ rx ∧ rx ≤ 36) (hnn : 1 ≤ nn ∧ nn ≤ 4200) (hQ : ∀ {lv : xLv} {w : xW} {V3 : Nat → Nat}, mR w0 (oB S2 val rx nn 0) V3 w → nV V2 V3 → xld lv 0 = some (Value.ref 128) → xld lv 2 = some (Value.int (Int32.ofInt (rx : Int))) → xld lv 7 = some (Value.int (Int32.ofInt xx)) → xEv (d + 9) 264 166 lv [] w Q) : ∀ (k : Nat) {lv : xLv} {w : xW} {V3 : Nat → Nat} {u : Nat}, k ≤ nn → mR w0 (oB S2 val rx nn k) V3 w → u = val / rx ^ (nn - k) → V3 129 = u → nV V2 V3 → xld lv 0 = some (Value.ref 128) → xld lv 2 = some (Value.int (Int32.ofInt (rx : Int))) → xld lv 7 = some (Value.int (Int32.ofInt xx)) → xld lv 8 = some (Value.int (Int32.ofInt ((k : Int) - 1))) → xEv (d + 9) 264 114 lv [] w Q := by
  intro k
  induction k with
  | zero =>
    intro lv w V3 u hk hR eu hu hnV l0 l2 l7 l8
    refine i_264_114 l8 ?_
    exact i_264_116 (z_lt (a := ((0 : Nat) : Int) - 1) ⟨by omega, by omega⟩ fun _ => hQ hR hnV l0 l2 l7) (z_ge (a := ((0 : Nat) : Int) - 1) ⟨by omega, by omega⟩ fun c => absurd c (by omega))
  | succ k ih =>
    intro lv w V3 u hk hR eu hu hnV l0 l2 l7 l8
    rw [show ((k + 1 : Nat) : Int) - 1 = (k : Int) by omega] at l8
    refine i_264_114 (x := Int32.ofInt (k : Int)) l8 ?_
    refine i_264_116 (z_lt (a := (k : Int)) ⟨by omega, by omega⟩ fun c0 => absurd c0 (by omega)) (z_ge (a := (k : Int)) ⟨by omega, by omega⟩ fun c0 => ?_)
    refine i_264_119 (x := 128) l0 ?_
    refine i_264_120 (v := Value.ref 129) hR.c128 rfl ?_
    refine i_264_123 (x := Int32.ofInt (rx : Int)) l2 ?_
    obtain ⟨fs, hobj⟩ := hR.obj (h := 129) (iNw (h := 129) (by decide) (by decide) (by decide))
    obtain ⟨w, hrun, hR⟩ := r_over (d := d + 6) (v := u) (k := (rx : Int)) hR (iNw (h := 129) (by decide) (by decide) (by decide)) hu (by omega) (by omega)
    rw [Int.toNat_natCast] at hrun hR
    obtain ⟨dg, hdg⟩ : ∃ dg, u % rx = dg := ⟨_, rfl⟩
    have hdl : dg < rx := by rw [← hdg]; exact Nat.mod_lt _ (by omega)
    rw [hdg] at hrun
    refine i_264_124 hobj (Nat.le_of_ble_eq_true rfl) hrun ?_
    refine i_264_127 rfl ?_
    refine lgen1 (i := 9) (v := Value.int (Int32.ofInt (dg : Int))) (fun lv lg ls => ?_)
    replace l0 := lg 0 _ rfl rfl l0
    replace l2 := lg 2 _ rfl rfl l2
    replace l7 := lg 7 _ rfl rfl l7
    replace l8 := lg 8 _ rfl rfl l8
    have l9 := ls
    refine i_264_129 (x := 128) l0 ?_
    refine i_264_130 (v := Value.ref 159) hR.c128 rfl ?_
    refine i_264_133 (x := Int32.ofInt (k : Int)) l8 ?_
    refine i_264_135 (x := Int32.ofInt (dg : Int)) l9 ?_
    refine i_264_137 ?_
    refine i_264_139 (b_le (a := 10) (b := (dg : Int)) ⟨by decide, by decide⟩ ⟨by omega, by omega⟩ fun c1 => ?_) (b_lt (a := (dg : Int)) (b := 10) ⟨by omega, by omega⟩ ⟨by decide, by decide⟩ fun c1 => ?_)
    · refine i_264_150 ?_
      refine i_264_152 (x := Int32.ofInt (dg : Int)) l9 ?_
      refine i_264_154 (c := Int32.ofInt (97 + (dg : Int))) (o_add 97 (dg : Int)) ?_
      refine i_264_155 ?_
      refine i_264_157 (c := Int32.ofInt ((97 + (dg : Int)) - 10)) (o_sub (97 + (dg : Int)) 10) ?_
      have hlt : ltr (dg : Int) = (97 + (dg : Int)) - 10 := if_neg (by omega)
      refine i_264_158 (c := Int32.ofInt (ltr (dg : Int))) ((o_i2b _).trans (by rw [bty_i (by omega), hlt])) ?_
      refine i_264_159 (v := Value.int (Int32.ofInt (ltr (dg : Int)))) (hR.row a159) (ix0 (T := (k : Int)) (by omega) (by omega)) (ix1 (T := (k : Int)) (by omega) (by omega) (by omega)) (by decide) (n_byt (ltr_b ⟨by omega, by omega⟩)) ?_
      rw [ixn (T := (k : Int)) (by omega) (by omega), show ((k : Int)).toNat = k by omega]
      refine xgen (P := mR w0 (oB S2 val rx nn k) (uv V3 129 (u / rx))) (by rw [← oB_s (by omega), ← eu, hdg]; exact hR.arr a159 rfl) (fun w hR => ?_)
      refine i_264_160 (x := (Int32.ofInt (k : Int))) (c := (Int32.ofInt ((k : Int) + (-1)))) l8 (o_dec (k : Int)) rfl ?_
      refine lgen1 (i := 8) (v := Value.int (Int32.ofInt ((k : Int) + (-1)))) (fun lv lg ls => ?_)
      replace l9 := lg 9 _ rfl rfl l9
      replace l0 := lg 0 _ rfl rfl l0
      replace l2 := lg 2 _ rfl rfl l2
      replace l7 := lg 7 _ rfl rfl l7
      have l8 := ls
      refine i_264_163 ?_
      rw [show (k : Int) + (-1) = (k : Int) - 1 by omega] at l8
      exact ih (by omega) hR (by rw [eu, Nat.div_div_eq_div_mul, show rx ^ (nn - (k + 1)) * rx = rx ^ (nn - k) by rw [← Nat.pow_succ]; congr 1; omega]) uv_s (nV.up hnV (by omega)) l0 l2 l7 l8
    · refine i_264_142 ?_
      refine i_264_144 (x := Int32.ofInt (dg : Int)) l9 ?_
      refine i_264_146 (c := Int32.ofInt (48 + (dg : Int))) (o_add 48 (dg : Int)) ?_
      refine i_264_147 ?_
      have hlt : ltr (dg : Int) = 48 + (dg : Int) := if_pos (by omega)
      refine i_264_158 (c := Int32.ofInt (ltr (dg : Int))) ((o_i2b _).trans (by rw [bty_i (by omega), hlt])) ?_
      refine i_264_159 (v := Value.int (Int32.ofInt (ltr (dg : Int)))) (hR.row a159) (ix0 (T := (k : Int)) (by omega) (by omega)) (ix1 (T := (k : Int)) (by omega) (by omega) (by omega)) (by decide) (n_byt (ltr_b ⟨by omega, by omega⟩)) ?_
      rw [ixn (T := (k : Int)) (by omega) (by omega), show ((k : Int)).toNat = k by omega]
      refine xgen (P := mR w0 (oB S2 val rx nn k) (uv V3 129 (u / rx))) (by rw [← oB_s (by omega), ← eu, hdg]; exact hR.arr a159 rfl) (fun w hR => ?_)
      refine i_264_160 (x := (Int32.ofInt (k : Int))) (c := (Int32.ofInt ((k : Int) + (-1)))) l8 (o_dec (k : Int)) rfl ?_
      refine lgen1 (i := 8) (v := Value.int (Int32.ofInt ((k : Int) + (-1)))) (fun lv lg ls => ?_)
      replace l9 := lg 9 _ rfl rfl l9
      replace l0 := lg 0 _ rfl rfl l0
      replace l2 := lg 2 _ rfl rfl l2
      replace l7 := lg 7 _ rfl rfl l7
      have l8 := ls
      refine i_264_163 ?_
      rw [show (k : Int) + (-1) = (k : Int) - 1 by omega] at l8
      exact ih (by omega) hR (by rw [eu, Nat.div_div_eq_div_mul, show rx ^ (nn - (k + 1)) * rx = rx ^ (nn - k) by rw [← Nat.pow_succ]; congr 1; omega]) uv_s (nV.up hnV (by omega)) l0 l2 l7 l8
set_option maxHeartbeats 4000000 in
theorem wr_T (hR : mR w0 S1 V1 w) (hE : mE S S1 V V1) (hK6 : w0[6]? = some (.inl (0, 37, fun j => .int (xlogm.getD j 0)))) (hI : mI S V) (hr : 0 ≤ r ∧ r ≤ 15) (hk : S 154 r.toNat = 3) (hrx : 2 ≤ rx ∧ rx ≤ 36) (hF : fst_is (V (160 + 2 * r.toNat)) (S 155 r.toNat - S 153 r.toNat) rx F) (hnn : 1 ≤ nn ∧ nn ≤ 4200) (hwy : 0 ≤ way ∧ way ≤ 4) (l0 : xld lv 0 = some (Value.ref 128)) (l1 : xld lv 1 = some (Value.int (Int32.ofInt r))) (l2 : xld lv 2 = some (Value.int (Int32.ofInt (rx : Int)))) (l5 : xld lv 5 = some (Value.int (Int32.ofInt (nn : Int)))) (l6 : xld lv 6 = some (Value.int (Int32.ofInt way))) : xEv (d + 9) 264 90 lv [] w (fun o w' => o = .inl (some (.int (Int32.ofInt (if rx ^ nn ≤ spW (V (160 + 2 * r.toNat)) (S 155 r.toNat - S 153 r.toNat) rx F (S 156 r.toNat) (nn : Int) way then F + 1 else F)))) ∧ ∃ S' V', mR w0 S' V' w' ∧ wE S S' V V' nn (fun j => ltr (((if rx ^ nn ≤ spW (V (160 + 2 * r.toNat)) (S 155 r.toNat - S 153 r.toNat) rx F (S 156 r.toNat) (nn : Int) way then spW (V (160 + 2 * r.toNat)) (S 155 r.toNat - S 153 r.toNat) rx F (S 156 r.toNat) (nn : Int) way / rx else spW (V (160 + 2 * r.toNat)) (S 155 r.toNat - S 153 r.toNat) rx F (S 156 r.toNat) (nn : Int) way) / rx ^ (nn - 1 - j) % rx : Nat) : Int))) := by
  have e53 : S1 153 r.toNat = S 153 r.toNat := hE.1 _ _ (by omega) (by omega)
  have e54 : S1 154 r.toNat = S 154 r.toNat := hE.1 _ _ (by omega) (by omega)
  have e55 : S1 155 r.toNat = S 155 r.toNat := hE.1 _ _ (by omega) (by omega)
  have e56 : S1 156 r.toNat = S 156 r.toNat := hE.1 _ _ (by omega) (by omega)
  have eV : V1 (160 + 2 * r.toNat) = V (160 + 2 * r.toNat) := hE.2 _ (by omega) (by omega)
  have hxrx := xbl_rx hrx
  have hpb : xbl (rx ^ nn) ≤ 100000 := by
    have g := xbl_npow rx nn
    have := Nat.mul_le_mul (show nn ≤ 4200 by omega) hxrx.2
    omega
  refine i_264_90 (x := 128) l0 ?_
  refine i_264_91 (x := Int32.ofInt r) l1 ?_
  refine i_264_92 (x := Int32.ofInt (rx : Int)) l2 ?_
  refine i_264_93 (x := Int32.ofInt (nn : Int)) l5 ?_
  refine i_264_95 (x := Int32.ofInt way) l6 ?_
  have hobj := hR.c128
  obtain ⟨w, hrun, S2, V2, hR, hnS, hnV, h129⟩ := s_digits (d := d + 1) (n := nn) (F := F) (mode := way) hR hK6 (hE.mI hI) hr (by rw [e54]; exact hk) hrx hwy (by omega) (by rw [e53, e55, eV]; exact hF) hpb
  rw [e53, e55, e56, eV] at hrun h129
  refine i_264_97 hobj (Nat.le_of_ble_eq_true rfl) hrun ?_
  refine i_264_100 rfl ?_
  refine lgen1 (i := 7) (v := Value.int (Int32.ofInt (if rx ^ nn ≤ spW (V (160 + 2 * r.toNat)) (S 155 r.toNat - S 153 r.toNat) rx F (S 156 r.toNat) (nn : Int) way then F + 1 else F))) (fun lv lg ls => ?_)
  replace l0 := lg 0 _ rfl rfl l0
  replace l1 := lg 1 _ rfl rfl l1
  replace l2 := lg 2 _ rfl rfl l2
  replace l5 := lg 5 _ rfl rfl l5
  replace l6 := lg 6 _ rfl rfl l6
  have l7 := ls
  refine i_264_102 (x := 128) l0 ?_
  refine i_264_103 (x := Int32.ofInt (nn : Int)) l5 ?_
  refine i_264_105 (fs2 := mf (u1 (S2 128) 25 (nn : Int))) hR.c128 (Nat.le_of_ble_eq_true rfl) (mfs_25 (v := (nn : Int))) (by decide) ?_
  refine xgen (P := mR w0 (u2 S2 128 25 (nn : Int)) V2) hR.fld2 (fun w hR => ?_)
  refine i_264_108 (x := Int32.ofInt (nn : Int)) l5 ?_
  refine i_264_110 ?_
  refine i_264_111 (c := Int32.ofInt ((nn : Int) - 1)) (o_sub (nn : Int) 1) ?_
  refine i_264_112 rfl ?_
  refine lgen1 (i := 8) (v := Value.int (Int32.ofInt ((nn : Int) - 1))) (fun lv lg ls => ?_)
  replace l7 := lg 7 _ rfl rfl l7
  replace l0 := lg 0 _ rfl rfl l0
  replace l1 := lg 1 _ rfl rfl l1
  replace l2 := lg 2 _ rfl rfl l2
  replace l5 := lg 5 _ rfl rfl l5
  replace l6 := lg 6 _ rfl rfl l6
  have l8 := ls
  refine wr_O (d := d) (V2 := V2) (val := if rx ^ nn ≤ spW (V (160 + 2 * r.toNat)) (S 155 r.toNat - S 153 r.toNat) rx F (S 156 r.toNat) (nn : Int) way then spW (V (160 + 2 * r.toNat)) (S 155 r.toNat - S 153 r.toNat) rx F (S 156 r.toNat) (nn : Int) way / rx else spW (V (160 + 2 * r.toNat)) (S 155 r.toNat - S 153 r.toNat) rx F (S 156 r.toNat) (nn : Int) way) (nn := nn) (xx := if rx ^ nn ≤ spW (V (160 + 2 * r.toNat)) (S 155 r.toNat - S 153 r.toNat) rx F (S 156 r.toNat) (nn : Int) way then F + 1 else F) hrx (by omega) ?_ nn (Nat.le_refl _) (by rw [oB_n]; exact hR) (by rw [Nat.sub_self, Nat.pow_zero, Nat.div_one]) h129 nV.refl l0 l2 l7 l8
  clear hR
  intro lv w V3 hR hnV3 l0 l2 l7
  refine i_264_166 (x := Int32.ofInt (if rx ^ nn ≤ spW (V (160 + 2 * r.toNat)) (S 155 r.toNat - S 153 r.toNat) rx F (S 156 r.toNat) (nn : Int) way then F + 1 else F)) l7 ?_
  refine i_264_168 ?_
  refine ⟨rfl, _, _, hR, ?_, ?_, ?_, fun k k1 k2 => (hnV3 k k1).trans ((hnV k k1).trans (hE.2 k k1 k2))⟩
  · rw [oB_f (by decide), u2_e, if_pos ⟨rfl, rfl⟩]
  · intro j
    unfold oB
    by_cases c : j < nn
    · rw [if_pos ⟨rfl, Nat.zero_le _, c⟩, if_pos c]
    · rw [if_neg (by omega), if_neg c, u2_e, if_neg (by omega), hnS.1 159 j (by decide)]
      exact hE.1 159 j (by omega) (by omega)
  · intro a j c1 c2 c3 c4
    rw [oB_f c1, u2_e, if_neg c2]
    by_cases ha : a = 128
    · subst ha
      rw [hnS.2 j (by omega)]
      exact hE.1 128 j c3 c4
    · rw [hnS.1 a j ha]
      exact hE.1 a j c3 c4
set_option maxHeartbeats 4000000 in
theorem wr_L {lim : Nat} (hK6 : w0[6]? = some (.inl (0, 37, fun j => .int (xlogm.getD j 0)))) (hI : mI S V) (hr : 0 ≤ r ∧ r ≤ 15) (hk : S 154 r.toNat = 3) (hrx : 2 ≤ rx ∧ rx ≤ 36) (hF : fst_is (V (160 + 2 * r.toNat)) (S 155 r.toNat - S 153 r.toNat) rx F) (hmo : 0 ≤ mode ∧ mode ≤ 4) (hl2 : lim ≤ 4112) (hlim : cbF (V (160 + 2 * r.toNat)) (S 155 r.toNat - S 153 r.toNat) rx F (S 156 r.toNat) (S 153 r.toNat) (lim : Int) false = true) (hQ : ∀ {nn : Nat} {lv : xLv} {w : xW} {S1 : Nat → Nat → Int} {V1 : Nat → Nat}, mR w0 S1 V1 w → mE S S1 V V1 → fewest (V (160 + 2 * r.toNat)) (S 155 r.toNat - S 153 r.toNat) rx F (S 156 r.toNat) (S 153 r.toNat) (nn : Int) → nn ≤ 4112 → xld lv 0 = some (Value.ref 128) → xld lv 1 = some (Value.int (Int32.ofInt r)) → xld lv 2 = some (Value.int (Int32.ofInt (rx : Int))) → xld lv 4 = some (Value.int (Int32.ofInt mode)) → xld lv 5 = some (Value.int (Int32.ofInt (nn : Int))) → xEv (d + 9) 264 87 lv [] w Q) : ∀ (f : Nat) {nn : Nat} {lv : xLv} {w : xW} {S1 : Nat → Nat → Int} {V1 : Nat → Nat}, nn + f = lim → 1 ≤ nn → mR w0 S1 V1 w → mE S S1 V V1 → (∀ m : Int, 1 ≤ m → m < (nn : Int) → cbF (V (160 + 2 * r.toNat)) (S 155 r.toNat - S 153 r.toNat) rx F (S 156 r.toNat) (S 153 r.toNat) m false = false) → xld lv 0 = some (Value.ref 128) → xld lv 1 = some (Value.int (Int32.ofInt r)) → xld lv 2 = some (Value.int (Int32.ofInt (rx : Int))) → xld lv 4 = some (Value.int (Int32.ofInt mode)) → xld lv 5 = some (Value.int (Int32.ofInt (nn : Int))) → xEv (d + 9) 264 70 lv [] w Q := by
  intro f
  induction f with
  | zero =>
    intro nn lv w S1 V1 hf hn1 hR hE hlo l0 l1 l2 l4 l5
    have e53 : S1 153 r.toNat = S 153 r.toNat := hE.1 _ _ (by omega) (by omega)
    have e54 : S1 154 r.toNat = S 154 r.toNat := hE.1 _ _ (by omega) (by omega)
    have e55 : S1 155 r.toNat = S 155 r.toNat := hE.1 _ _ (by omega) (by omega)
    have e56 : S1 156 r.toNat = S 156 r.toNat := hE.1 _ _ (by omega) (by omega)
    have eV : V1 (160 + 2 * r.toNat) = V (160 + 2 * r.toNat) := hE.2 _ (by omega) (by omega)
    refine i_264_70 (x := 128) l0 ?_
    refine i_264_71 (x := Int32.ofInt r) l1 ?_
    refine i_264_72 (x := Int32.ofInt (rx : Int)) l2 ?_
    refine i_264_73 (x := Int32.ofInt (nn : Int)) l5 ?_
    have hobj := hR.c128
    obtain ⟨w, hrun, S2, V2, hR, hE2⟩ := s_ret (d := d) (n := nn) (F := F) hR hK6 (hE.mI hI) hr (by rw [e54]; exact hk) hrx (by omega) (by rw [e53, e55, eV]; exact hF)
    rw [e53, e55, e56, eV] at hrun
    have hE := hE.trans hE2
    refine i_264_75 hobj (Nat.le_of_ble_eq_true rfl) hrun ?_
    refine i_264_78 (zb_t fun c0 => ?_) (zb_f fun c0 => ?_)
    · exact hQ hR hE ⟨by omega, by assumption, hlo⟩ (by omega) l0 l1 l2 l4 l5
    · refine i_264_81 (x := (Int32.ofInt (nn : Int))) (c := (Int32.ofInt ((nn : Int) + 1))) l5 (o_add (nn : Int) 1) rfl ?_
      refine lgen1 (i := 5) (v := Value.int (Int32.ofInt ((nn : Int) + 1))) (fun lv lg ls => ?_)
      replace l0 := lg 0 _ rfl rfl l0
      replace l1 := lg 1 _ rfl rfl l1
      replace l2 := lg 2 _ rfl rfl l2
      replace l4 := lg 4 _ rfl rfl l4
      have l5 := ls
      refine i_264_84 ?_
      rw [show (nn : Int) + 1 = ((nn + 1 : Nat) : Int) by omega] at l5
      have hno := ‹cbF (V (160 + 2 * r.toNat)) (S 155 r.toNat - S 153 r.toNat) rx F (S 156 r.toNat) (S 153 r.toNat) (nn : Int) false = false›
      have hne : nn ≠ lim := fun c => by rw [c, hlim] at hno; cases hno
      exact absurd hne (by omega)
  | succ f ih =>
    intro nn lv w S1 V1 hf hn1 hR hE hlo l0 l1 l2 l4 l5
    have e53 : S1 153 r.toNat = S 153 r.toNat := hE.1 _ _ (by omega) (by omega)
    have e54 : S1 154 r.toNat = S 154 r.toNat := hE.1 _ _ (by omega) (by omega)
    have e55 : S1 155 r.toNat = S 155 r.toNat := hE.1 _ _ (by omega) (by omega)
    have e56 : S1 156 r.toNat = S 156 r.toNat := hE.1 _ _ (by omega) (by omega)
    have eV : V1 (160 + 2 * r.toNat) = V (160 + 2 * r.toNat) := hE.2 _ (by omega) (by omega)
    refine i_264_70 (x := 128) l0 ?_
    refine i_264_71 (x := Int32.ofInt r) l1 ?_
    refine i_264_72 (x := Int32.ofInt (rx : Int)) l2 ?_
    refine i_264_73 (x := Int32.ofInt (nn : Int)) l5 ?_
    have hobj := hR.c128
    obtain ⟨w, hrun, S2, V2, hR, hE2⟩ := s_ret (d := d) (n := nn) (F := F) hR hK6 (hE.mI hI) hr (by rw [e54]; exact hk) hrx (by omega) (by rw [e53, e55, eV]; exact hF)
    rw [e53, e55, e56, eV] at hrun
    have hE := hE.trans hE2
    refine i_264_75 hobj (Nat.le_of_ble_eq_true rfl) hrun ?_
    refine i_264_78 (zb_t fun c0 => ?_) (zb_f fun c0 => ?_)
    · exact hQ hR hE ⟨by omega, by assumption, hlo⟩ (by omega) l0 l1 l2 l4 l5
    · refine i_264_81 (x := (Int32.ofInt (nn : Int))) (c := (Int32.ofInt ((nn : Int) + 1))) l5 (o_add (nn : Int) 1) rfl ?_
      refine lgen1 (i := 5) (v := Value.int (Int32.ofInt ((nn : Int) + 1))) (fun lv lg ls => ?_)
      replace l0 := lg 0 _ rfl rfl l0
      replace l1 := lg 1 _ rfl rfl l1
      replace l2 := lg 2 _ rfl rfl l2
      replace l4 := lg 4 _ rfl rfl l4
      have l5 := ls
      refine i_264_84 ?_
      rw [show (nn : Int) + 1 = ((nn + 1 : Nat) : Int) by omega] at l5
      have hno := ‹cbF (V (160 + 2 * r.toNat)) (S 155 r.toNat - S 153 r.toNat) rx F (S 156 r.toNat) (S 153 r.toNat) (nn : Int) false = false›
      have hne : nn ≠ lim := fun c => by rw [c, hlim] at hno; cases hno
      refine ih (nn := nn + 1) (by omega) (by omega) hR hE ?_ l0 l1 l2 l4 l5
      intro m m1 m2
      by_cases c : m = (nn : Int)
      · rw [c]; exact hno
      · exact hlo m m1 (by omega)
set_option maxHeartbeats 4000000 in
theorem s_write (hR : mR w0 S V w) (hK6 : w0[6]? = some (.inl (0, 37, fun j => .int (xlogm.getD j 0)))) (hI : mI S V) (hr : 0 ≤ r ∧ r ≤ 15) (hk : S 154 r.toNat = 3) (hrx : 2 ≤ rx ∧ rx ≤ 36) (hn : 0 ≤ n ∧ n ≤ 2000) (hmo : 0 ≤ mode ∧ mode ≤ 4) : ∃ w', ∃ (nn : Nat) (F mo : Int), xRun (d + 9) 264 [Value.ref 128, Value.int (Int32.ofInt r), Value.int (Int32.ofInt (rx : Int)), Value.int (Int32.ofInt n), Value.int (Int32.ofInt mode)] w (.inl (some (.int (Int32.ofInt (if rx ^ nn ≤ spW (V (160 + 2 * r.toNat)) (S 155 r.toNat - S 153 r.toNat) rx F (S 156 r.toNat) (nn : Int) mo then F + 1 else F))))) w' ∧ fst_is (V (160 + 2 * r.toNat)) (S 155 r.toNat - S 153 r.toNat) rx F ∧ hid (n = 0 → mo = 0 ∧ fewest (V (160 + 2 * r.toNat)) (S 155 r.toNat - S 153 r.toNat) rx F (S 156 r.toNat) (S 153 r.toNat) (nn : Int)) ∧ hid (n ≠ 0 → (nn : Int) = n ∧ mo = mode) ∧ (1 ≤ nn ∧ nn ≤ 4112) ∧ ∃ S' V', mR w0 S' V' w' ∧ wE S S' V V' nn (fun j => ltr (((if rx ^ nn ≤ spW (V (160 + 2 * r.toNat)) (S 155 r.toNat - S 153 r.toNat) rx F (S 156 r.toNat) (nn : Int) mo then spW (V (160 + 2 * r.toNat)) (S 155 r.toNat - S 153 r.toNat) rx F (S 156 r.toNat) (nn : Int) mo / rx else spW (V (160 + 2 * r.toNat)) (S 155 r.toNat - S 153 r.toNat) rx F (S 156 r.toNat) (nn : Int) mo) / rx ^ (nn - 1 - j) % rx : Nat) : Int)) := by
  obtain ⟨hp_r, hk_r, hn_r, ht_r, hx_r, hz_r⟩ := hI.1 r.toNat (by omega)
  obtain ⟨hxM, ht3⟩ := hz_r hk
  clear hz_r
  have hMp : xbl (V (160 + 2 * r.toNat)) = (S 153 r.toNat).toNat := by omega
  have hMl : V (160 + 2 * r.toNat) < 2 ^ (S 153 r.toNat).toNat := by rw [← hMp]; exact xbl_lt _
  obtain ⟨F, hF⟩ : ∃ F, fst_is (V (160 + 2 * r.toNat)) (S 155 r.toNat - S 153 r.toNat) rx F := fst_ex (by omega) (vGe_up (e := S 155 r.toNat - 1) (by omega) hMp (by omega) (by omega) (gss_le hrx)) (vGe_no hrx.1 hMl)
  obtain ⟨g1, g2, g3⟩ := lim_ok (m := (S 153 r.toNat).toNat + 1) hrx (by omega)
  obtain ⟨z, hz⟩ : ∃ z : Int, (((S 153 r.toNat).toNat + 1 : Nat) : Int) * lgt rx / 1099511627776 = z := ⟨_, rfl⟩
  rw [hz] at g1 g2 g3
  obtain ⟨lim, hlm⟩ : ∃ lim : Nat, (lim : Int) = 3 + z := ⟨(3 + z).toNat, by omega⟩
  have hl2 : lim ≤ 4112 := by omega
  have hlim : cbF (V (160 + 2 * r.toNat)) (S 155 r.toNat - S 153 r.toNat) rx F (S 156 r.toNat) (S 153 r.toNat) (lim : Int) false = true := cbF_lim (by omega) hF.1 hMl (by omega) (by rw [show (lim : Int) - 1 = 2 + z by omega]; exact g3)
  clear g3
  have key : ∀ lv, xld lv 0 = some (Value.ref 128) → xld lv 1 = some (Value.int (Int32.ofInt r)) → xld lv 2 = some (Value.int (Int32.ofInt (rx : Int))) → xld lv 3 = some (Value.int (Int32.ofInt n)) → xld lv 4 = some (Value.int (Int32.ofInt mode)) → xEv (d + 9) 264 0 lv [] w (fun o w' => ∃ (nn : Nat) (F mo : Int), o = .inl (some (.int (Int32.ofInt (if rx ^ nn ≤ spW (V (160 + 2 * r.toNat)) (S 155 r.toNat - S 153 r.toNat) rx F (S 156 r.toNat) (nn : Int) mo then F + 1 else F)))) ∧ fst_is (V (160 + 2 * r.toNat)) (S 155 r.toNat - S 153 r.toNat) rx F ∧ hid (n = 0 → mo = 0 ∧ fewest (V (160 + 2 * r.toNat)) (S 155 r.toNat - S 153 r.toNat) rx F (S 156 r.toNat) (S 153 r.toNat) (nn : Int)) ∧ hid (n ≠ 0 → (nn : Int) = n ∧ mo = mode) ∧ (1 ≤ nn ∧ nn ≤ 4112) ∧ ∃ S' V', mR w0 S' V' w' ∧ wE S S' V V' nn (fun j => ltr (((if rx ^ nn ≤ spW (V (160 + 2 * r.toNat)) (S 155 r.toNat - S 153 r.toNat) rx F (S 156 r.toNat) (nn : Int) mo then spW (V (160 + 2 * r.toNat)) (S 155 r.toNat - S 153 r.toNat) rx F (S 156 r.toNat) (nn : Int) mo / rx else spW (V (160 + 2 * r.toNat)) (S 155 r.toNat - S 153 r.toNat) rx F (S 156 r.toNat) (nn : Int) mo) / rx ^ (nn - 1 - j) % rx : Nat) : Int))) := by
    intro lv l0 l1 l2 l3 l4
    refine i_264_0 (x := Int32.ofInt r) l1 ?_
    have hrun := s_reg1 (d := d + 6) (w := w) (r := r) (by omega) (by omega)
    refine i_264_1 (Nat.le_of_ble_eq_true rfl) hrun ?_
    refine i_264_4 (x := Int32.ofInt (rx : Int)) l2 ?_
    refine i_264_5 ?_
    refine i_264_6 ?_
    have hrun := s_in (d := d + 7) (w := w) (v := (rx : Int)) (lo := 2) (hi := 36) ⟨by omega, by omega⟩ ⟨by decide, by decide⟩ ⟨by decide, by decide⟩
    refine i_264_8 (Nat.le_of_ble_eq_true rfl) hrun ?_
    refine i_264_11 (zb_f fun c0 => absurd c0 (by rw [decide_eq_true (show 2 ≤ (rx : Int) ∧ (rx : Int) ≤ 36 by omega)]; decide)) (zb_t fun c0 => ?_)
    refine i_264_14 (x := Int32.ofInt n) l3 ?_
    refine i_264_15 ?_
    refine i_264_16 ?_
    have hrun := s_in (d := d + 7) (w := w) (v := n) (lo := 0) (hi := 2000) ⟨by omega, by omega⟩ ⟨by decide, by decide⟩ ⟨by decide, by decide⟩
    refine i_264_19 (Nat.le_of_ble_eq_true rfl) hrun ?_
    refine i_264_22 (zb_f fun c1 => absurd c1 (by rw [decide_eq_true (show 0 ≤ n ∧ n ≤ 2000 by omega)]; decide)) (zb_t fun c1 => ?_)
    refine i_264_25 ?_
    refine i_264_26 ?_
    have hrun := s_ck1 (d := d + 7) (w := w) (b := true) rfl
    refine i_264_30 (Nat.le_of_ble_eq_true rfl) hrun ?_
    refine i_264_33 (x := Int32.ofInt mode) l4 ?_
    have hrun := s_mode1 (d := d + 6) (w := w) (r := mode) (by omega) (by omega)
    refine i_264_35 (Nat.le_of_ble_eq_true rfl) hrun ?_
    refine i_264_38 (x := 128) l0 ?_
    refine i_264_39 (v := Value.ref 154) hR.c128 rfl ?_
    refine i_264_42 (x := Int32.ofInt r) l1 ?_
    refine i_264_43 (v := Value.int (Int32.ofInt (S 154 ((r).toNat)))) (hR.row a154) (ix0 (T := r) (by omega) (by omega)) (ix1 (T := r) (by omega) (by omega) (by omega)) (ra (T := r) (by omega) (by omega) rfl) ?_
    refine i_264_44 ?_
    refine i_264_45 (b_ne (a := S 154 ((r).toNat)) (b := 3) ⟨by omega, by omega⟩ ⟨by decide, by decide⟩ fun c2 => absurd c2 (by omega)) (b_eq (a := S 154 ((r).toNat)) (b := 3) ⟨by omega, by omega⟩ ⟨by decide, by decide⟩ fun c2 => ?_)
    refine i_264_48 ?_
    refine i_264_49 ?_
    have hrun := s_there1 (d := d + 7) (w := w)
    refine i_264_53 (Nat.le_of_ble_eq_true rfl) hrun ?_
    refine i_264_56 (x := Int32.ofInt n) l3 ?_
    refine i_264_57 rfl ?_
    refine lgen1 (i := 5) (v := Value.int (Int32.ofInt n)) (fun lv lg ls => ?_)
    replace l0 := lg 0 _ rfl rfl l0
    replace l1 := lg 1 _ rfl rfl l1
    replace l2 := lg 2 _ rfl rfl l2
    replace l3 := lg 3 _ rfl rfl l3
    replace l4 := lg 4 _ rfl rfl l4
    have l5 := ls
    refine i_264_59 (x := Int32.ofInt mode) l4 ?_
    refine i_264_61 rfl ?_
    refine lgen1 (i := 6) (v := Value.int (Int32.ofInt mode)) (fun lv lg ls => ?_)
    replace l5 := lg 5 _ rfl rfl l5
    replace l0 := lg 0 _ rfl rfl l0
    replace l1 := lg 1 _ rfl rfl l1
    replace l2 := lg 2 _ rfl rfl l2
    replace l3 := lg 3 _ rfl rfl l3
    replace l4 := lg 4 _ rfl rfl l4
    have l6 := ls
    refine i_264_63 (x := Int32.ofInt n) l3 ?_
    refine i_264_64 (z_ne (a := n) ⟨by omega, by omega⟩ fun c3 => ?_) (z_eq (a := n) ⟨by omega, by omega⟩ fun c3 => ?_)
    · obtain ⟨nn, hnn⟩ : ∃ nn : Nat, n = (nn : Int) := ⟨n.toNat, by omega⟩
      subst hnn
      refine (wr_T (d := d) (S := S) (V := V) (nn := nn) (way := mode) hR mE.refl hK6 hI hr hk hrx hF (by omega) hmo l0 l1 l2 l5 l6).mono ?_
      intro o w' ⟨h1, h2⟩
      exact ⟨nn, F, mode, h1, hF, fun c => absurd c (by omega), fun _ => ⟨rfl, rfl⟩, by omega, h2⟩
    · refine i_264_67 ?_
      refine i_264_68 rfl ?_
      refine lgen1 (i := 5) (v := Value.int 1) (fun lv lg ls => ?_)
      replace l6 := lg 6 _ rfl rfl l6
      replace l0 := lg 0 _ rfl rfl l0
      replace l1 := lg 1 _ rfl rfl l1
      replace l2 := lg 2 _ rfl rfl l2
      replace l3 := lg 3 _ rfl rfl l3
      replace l4 := lg 4 _ rfl rfl l4
      have l5 := ls
      refine wr_L (d := d) (lim := lim) hK6 hI hr hk hrx hF hmo hl2 hlim (fun {nn lv w S1 V1} hR hE hfew hnl l0 l1 l2 l4 l5 => ?_) (lim - 1) (nn := 1) (by omega) (by omega) hR mE.refl (fun m m1 m2 => absurd m2 (by omega)) l0 l1 l2 l4 l5
      have hnn1 : 1 ≤ (nn : Int) := hfew.1
      refine i_264_87 ?_
      refine i_264_88 rfl ?_
      refine lgen1 (i := 6) (v := Value.int 0) (fun lv lg ls => ?_)
      replace l0 := lg 0 _ rfl rfl l0
      replace l1 := lg 1 _ rfl rfl l1
      replace l2 := lg 2 _ rfl rfl l2
      replace l4 := lg 4 _ rfl rfl l4
      replace l5 := lg 5 _ rfl rfl l5
      have l6 := ls
      refine (wr_T (d := d) (S := S) (V := V) (nn := nn) (way := 0) hR hE hK6 hI hr hk hrx hF (by omega) (by decide) l0 l1 l2 l5 l6).mono ?_
      intro o w' ⟨h1, h2⟩
      exact ⟨nn, F, 0, h1, hF, fun _ => ⟨rfl, hfew⟩, fun c => absurd (show n = 0 by omega) c, by omega, h2⟩
  obtain ⟨o, w', h1, nn, F, mo, rfl, h2⟩ := (key (lv_args 0 [Value.ref 128, Value.int (Int32.ofInt r), Value.int (Int32.ofInt (rx : Int)), Value.int (Int32.ofInt n), Value.int (Int32.ofInt mode)]) rfl rfl rfl rfl rfl).run
  exact ⟨w', nn, F, mo, h1, h2⟩
theorem nm_write (hR : mR w0 S V w) (hI : mI S V) (hr : 0 ≤ r ∧ r ≤ 15) (hk : S 154 r.toNat ≠ 3) (hrx : 2 ≤ rx ∧ rx ≤ 36) (hn : 0 ≤ n ∧ n ≤ 2000) (hmo : 0 ≤ mode ∧ mode ≤ 4) : xRun (d + 9) 264 [Value.ref 128, Value.int (Int32.ofInt r), Value.int (Int32.ofInt (rx : Int)), Value.int (Int32.ofInt n), Value.int (Int32.ofInt mode)] w (.inr w.length) (w ++ [.inr (16, [])]) := by
  obtain ⟨hp_r, hk_r, hn_r, -⟩ := hI.1 r.toNat (by omega)
  refine xRun.of ?_
  refine i_264_0 (x := Int32.ofInt r) rfl ?_
  have hrun := s_reg1 (d := d + 6) (w := w) (r := r) (by omega) (by omega)
  refine i_264_1 (Nat.le_of_ble_eq_true rfl) hrun ?_
  refine i_264_4 (x := Int32.ofInt (rx : Int)) rfl ?_
  refine i_264_5 ?_
  refine i_264_6 ?_
  have hrun := s_in (d := d + 7) (w := w) (v := (rx : Int)) (lo := 2) (hi := 36) ⟨by omega, by omega⟩ ⟨by decide, by decide⟩ ⟨by decide, by decide⟩
  refine i_264_8 (Nat.le_of_ble_eq_true rfl) hrun ?_
  refine i_264_11 (zb_f fun c0 => absurd c0 (by rw [decide_eq_true (show 2 ≤ (rx : Int) ∧ (rx : Int) ≤ 36 by omega)]; decide)) (zb_t fun c0 => ?_)
  refine i_264_14 (x := Int32.ofInt n) rfl ?_
  refine i_264_15 ?_
  refine i_264_16 ?_
  have hrun := s_in (d := d + 7) (w := w) (v := n) (lo := 0) (hi := 2000) ⟨by omega, by omega⟩ ⟨by decide, by decide⟩ ⟨by decide, by decide⟩
  refine i_264_19 (Nat.le_of_ble_eq_true rfl) hrun ?_
  refine i_264_22 (zb_f fun c1 => absurd c1 (by rw [decide_eq_true (show 0 ≤ n ∧ n ≤ 2000 by omega)]; decide)) (zb_t fun c1 => ?_)
  refine i_264_25 ?_
  refine i_264_26 ?_
  have hrun := s_ck1 (d := d + 7) (w := w) (b := true) rfl
  refine i_264_30 (Nat.le_of_ble_eq_true rfl) hrun ?_
  refine i_264_33 (x := Int32.ofInt mode) rfl ?_
  have hrun := s_mode1 (d := d + 6) (w := w) (r := mode) (by omega) (by omega)
  refine i_264_35 (Nat.le_of_ble_eq_true rfl) hrun ?_
  refine i_264_38 (x := 128) rfl ?_
  refine i_264_39 (v := Value.ref 154) hR.c128 rfl ?_
  refine i_264_42 (x := Int32.ofInt r) rfl ?_
  refine i_264_43 (v := Value.int (Int32.ofInt (S 154 ((r).toNat)))) (hR.row a154) (ix0 (T := r) (by omega) (by omega)) (ix1 (T := r) (by omega) (by omega) (by omega)) (ra (T := r) (by omega) (by omega) rfl) ?_
  refine i_264_44 ?_
  refine i_264_45 (b_ne (a := S 154 ((r).toNat)) (b := 3) ⟨by omega, by omega⟩ ⟨by decide, by decide⟩ fun c2 => ?_) (b_eq (a := S 154 ((r).toNat)) (b := 3) ⟨by omega, by omega⟩ ⟨by decide, by decide⟩ fun c2 => absurd c2 (by omega))
  refine i_264_52 ?_
  have hrun := s_there0 (d := d + 2) (w := w)
  refine j_264_53 (Nat.le_of_ble_eq_true rfl) hrun (xDone.t (ci := 16) xgl rfl rfl ?_)
  exact ⟨rfl, rfl⟩
theorem b_write {d : Nat} {w : xW} {r rx n mode : Int} (b_r : -2147483648 ≤ r ∧ r < 2147483648) (b_rx : -2147483648 ≤ rx ∧ rx < 2147483648) (b_n : -2147483648 ≤ n ∧ n < 2147483648) (b_mode : -2147483648 ≤ mode ∧ mode < 2147483648) (h : ¬ ((0 ≤ r ∧ r ≤ 15) ∧ (2 ≤ rx ∧ rx ≤ 36) ∧ (0 ≤ n ∧ n ≤ 2000) ∧ (0 ≤ mode ∧ mode ≤ 4))) : xRun (d + 9) 264 [Value.ref 128, Value.int (Int32.ofInt r), Value.int (Int32.ofInt rx), Value.int (Int32.ofInt n), Value.int (Int32.ofInt mode)] w (.inr w.length) (w ++ [.inr (14, [])]) := by
  refine xRun.of ?_
  refine i_264_0 (x := Int32.ofInt r) rfl ?_
  rcases Classical.em (0 ≤ r ∧ r ≤ 15) with hc1 | hc1
  · have hrun := s_reg1 (d := d + 6) (w := w) (r := r) (by omega) hc1
    refine i_264_1 (Nat.le_of_ble_eq_true rfl) hrun ?_
    refine i_264_4 (x := Int32.ofInt rx) rfl ?_
    refine i_264_5 ?_
    refine i_264_6 ?_
    have hrun := s_in (d := d + 7) (w := w) (v := rx) (lo := 2) (hi := 36) ⟨by omega, by omega⟩ ⟨by decide, by decide⟩ ⟨by decide, by decide⟩
    refine i_264_8 (Nat.le_of_ble_eq_true rfl) hrun ?_
    refine i_264_11 (zb_f fun c1 => ?_) (zb_t fun c1 => ?_)
    · try simp only [decide_eq_true_eq] at *
      refine i_264_29 ?_
      have hrun := s_ck0 (d := d + 2) (w := w) (b := false) rfl
      refine j_264_30 (Nat.le_of_ble_eq_true rfl) hrun (xDone.t (ci := 14) xgl rfl rfl ?_)
      exact ⟨rfl, rfl⟩
    · try simp only [decide_eq_true_eq] at *
      refine i_264_14 (x := Int32.ofInt n) rfl ?_
      refine i_264_15 ?_
      refine i_264_16 ?_
      have hrun := s_in (d := d + 7) (w := w) (v := n) (lo := 0) (hi := 2000) ⟨by omega, by omega⟩ ⟨by decide, by decide⟩ ⟨by decide, by decide⟩
      refine i_264_19 (Nat.le_of_ble_eq_true rfl) hrun ?_
      refine i_264_22 (zb_f fun c2 => ?_) (zb_t fun c2 => ?_)
      · try simp only [decide_eq_true_eq] at *
        refine i_264_29 ?_
        have hrun := s_ck0 (d := d + 2) (w := w) (b := false) rfl
        refine j_264_30 (Nat.le_of_ble_eq_true rfl) hrun (xDone.t (ci := 14) xgl rfl rfl ?_)
        exact ⟨rfl, rfl⟩
      · try simp only [decide_eq_true_eq] at *
        refine i_264_25 ?_
        refine i_264_26 ?_
        have hrun := s_ck1 (d := d + 7) (w := w) (b := true) rfl
        refine i_264_30 (Nat.le_of_ble_eq_true rfl) hrun ?_
        refine i_264_33 (x := Int32.ofInt mode) rfl ?_
        rcases Classical.em (0 ≤ mode ∧ mode ≤ 4) with hc4 | hc4
        · have hrun := s_mode1 (d := d + 6) (w := w) (r := mode) (by omega) hc4
          refine i_264_35 (Nat.le_of_ble_eq_true rfl) hrun ?_
          exfalso; omega
        · have hrun := s_mode0 (d := d + 1) (w := w) (r := mode) (by omega) hc4
          refine j_264_35 (Nat.le_of_ble_eq_true rfl) hrun (xDone.t (ci := 14) xgl rfl rfl ?_)
          exact ⟨rfl, rfl⟩
  · have hrun := s_reg0 (d := d + 1) (w := w) (r := r) (by omega) hc1
    refine j_264_1 (Nat.le_of_ble_eq_true rfl) hrun (xDone.t (ci := 14) xgl rfl rfl ?_)
    exact ⟨rfl, rfl⟩
end
