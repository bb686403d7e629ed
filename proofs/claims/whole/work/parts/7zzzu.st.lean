/-! toLong, feed, read side by side -/
theorem b_tol {d : Nat} {w : xW} {r mode : Int} (b_r : -2147483648 ≤ r ∧ r < 2147483648) (b_mode : -2147483648 ≤ mode ∧ mode < 2147483648) (h : ¬ ((0 ≤ r ∧ r ≤ 15) ∧ (0 ≤ mode ∧ mode ≤ 4))) : xRun (d + 8) 252 [Value.ref 128, Value.int (Int32.ofInt r), Value.int (Int32.ofInt mode)] w (.inr w.length) (w ++ [.inr (14, [])]) := by
  refine xRun.of ?_
  refine i_252_0 (x := Int32.ofInt r) rfl ?_
  rcases Classical.em (0 ≤ r ∧ r ≤ 15) with hc1 | hc1
  · have hrun := s_reg1 (d := d + 5) (w := w) (r := r) (by omega) hc1
    refine i_252_1 (Nat.le_of_ble_eq_true rfl) hrun ?_
    refine i_252_4 (x := Int32.ofInt mode) rfl ?_
    rcases Classical.em (0 ≤ mode ∧ mode ≤ 4) with hc2 | hc2
    · have hrun := s_mode1 (d := d + 5) (w := w) (r := mode) (by omega) hc2
      refine i_252_5 (Nat.le_of_ble_eq_true rfl) hrun ?_
      exfalso; omega
    · have hrun := s_mode0 (d := d) (w := w) (r := mode) (by omega) hc2
      refine j_252_5 (Nat.le_of_ble_eq_true rfl) hrun (xDone.t (ci := 14) xgl rfl rfl ?_)
      exact ⟨rfl, rfl⟩
  · have hrun := s_reg0 (d := d) (w := w) (r := r) (by omega) hc1
    refine j_252_1 (Nat.le_of_ble_eq_true rfl) hrun (xDone.t (ci := 14) xgl rfl rfl ?_)
    exact ⟨rfl, rfl⟩
theorem tl_ok {S Sm : Nat → Nat → Int} {V Vm : Nat → Nat} {r : Nat} {mode : Int} (hE : eqA S V Sm Vm) (hr : r < 16) (h3 : S (30 + 3 * r) 1 = 3) : tlOk Sm Vm r mode ↔ tlOk (vS S) (vV V) r mode := by
  have h3' : vS S 154 r = 3 := h3
  unfold tlOk
  rw [eq_tl (hE.1 r hr) h3, (hE.1 r hr).2.2.1 (by omega)]
theorem tl_e {S Sm : Nat → Nat → Int} {V Vm : Nat → Nat} {r : Nat} {mode : Int} (hE : eqA S V Sm Vm) (hr : r < 16) (h : S (30 + 3 * r) 1 = 2 ∨ S (30 + 3 * r) 1 = 3) : (if Sm 154 r = 2 then (0 : Int) else if Sm 156 r = 0 then ((tlX Sm Vm r mode % 2 ^ 64 : Nat) : Int) else -((tlX Sm Vm r mode % 2 ^ 64 : Nat) : Int)) = (if S (30 + 3 * r) 1 = 2 then (0 : Int) else if S (30 + 3 * r) 2 = 0 then ((tlX (vS S) (vV V) r mode % 2 ^ 64 : Nat) : Int) else -((tlX (vS S) (vV V) r mode % 2 ^ 64 : Nat) : Int)) := by
  rw [ko_of hE hr]
  by_cases c : S (30 + 3 * r) 1 = 2
  · rw [if_pos c, if_pos c]
  · have h3 : vS S 154 r = 3 := h.resolve_left c
    rw [if_neg c, if_neg c, eq_tl (hE.1 r hr) h3, (hE.1 r hr).2.2.1 (by omega)]
    rfl
theorem put4_t {S : Nat → Nat → Int} {v : Int} {j : Nat} : put4 S v 29 j = if (S 7 11).toNat ≤ j ∧ j < (S 7 11).toNat + 4 then bty (v / 2 ^ (24 - 8 * (j - (S 7 11).toNat))) else S 29 j := by
  unfold put4
  by_cases c : (S 7 11).toNat ≤ j ∧ j < (S 7 11).toNat + 4
  · rw [if_pos ⟨rfl, c⟩, if_pos c]
  · rw [if_neg (fun h => c h.2), if_neg (by omega), if_neg c]
theorem put4_o {S : Nat → Nat → Int} {v : Int} {a j : Nat} (h1 : a ≠ 29) (h2 : ¬ (a = 7 ∧ j = 11)) : put4 S v a j = S a j := by
  unfold put4
  rw [if_neg (fun h => h1 h.1), if_neg h2]
section
variable {S Sm : Nat → Nat → Int} {V Vm : Nat → Nat} {v1 v2 v3 v4 v5 : Int}
theorem f5_o {a j : Nat} (h1 : a ≠ 29) (h2 : ¬ (a = 7 ∧ j = 11)) : (put4 (put4 (put4 (put4 (put4 S v1) v2) v3) v4) v5) a j = S a j := by rw [put4_o h1 h2, put4_o h1 h2, put4_o h1 h2, put4_o h1 h2, put4_o h1 h2]
theorem f5_n : (put4 (put4 (put4 (put4 (put4 S v1) v2) v3) v4) v5) 7 11 = S 7 11 + 20 := by rw [put4_n, put4_n, put4_n, put4_n, put4_n]; omega
theorem f5_t {j : Nat} (h : 0 ≤ S 7 11) : (put4 (put4 (put4 (put4 (put4 S v1) v2) v3) v4) v5) 29 j = if (S 7 11).toNat ≤ j ∧ j < (S 7 11).toNat + 20 then fdB (fv5 v1 v2 v3 v4 v5) (j - (S 7 11).toNat) else S 29 j := by
  rw [put4_t, put4_t, put4_t, put4_t, put4_t]
  rw [put4_n, put4_n, put4_n, put4_n]
  obtain ⟨T, hT⟩ : ∃ T : Nat, T = (S 7 11).toNat := ⟨_, rfl⟩
  rw [show (S 7 11 + 4 + 4 + 4 + 4).toNat = T + 16 by omega, show (S 7 11 + 4 + 4 + 4).toNat = T + 12 by omega, show (S 7 11 + 4 + 4).toNat = T + 8 by omega, show (S 7 11 + 4).toNat = T + 4 by omega, ← hT]
  by_cases c : T ≤ j ∧ j < T + 20
  · rw [if_pos c]
    unfold fdB fv5
    by_cases c5 : T + 16 ≤ j
    · rw [if_pos (by omega), if_neg (by omega), if_neg (by omega), if_neg (by omega), if_neg (by omega), show j - (T + 16) = (j - T) % 4 by omega]
    · rw [if_neg (by omega)]
      by_cases c4 : T + 12 ≤ j
      · rw [if_pos (by omega), if_neg (by omega), if_neg (by omega), if_neg (by omega), if_pos (by omega), show j - (T + 12) = (j - T) % 4 by omega]
      · rw [if_neg (by omega)]
        by_cases c3 : T + 8 ≤ j
        · rw [if_pos (by omega), if_neg (by omega), if_neg (by omega), if_pos (by omega), show j - (T + 8) = (j - T) % 4 by omega]
        · rw [if_neg (by omega)]
          by_cases c2 : T + 4 ≤ j
          · rw [if_pos (by omega), if_neg (by omega), if_pos (by omega), show j - (T + 4) = (j - T) % 4 by omega]
          · rw [if_neg (by omega), if_pos (by omega), if_pos (by omega), show j - T = (j - T) % 4 by omega, Nat.mod_mod]
  · rw [if_neg c, if_neg (by omega), if_neg (by omega), if_neg (by omega), if_neg (by omega), if_neg (by omega)]
theorem cI_feed (h : cI S V) (hn : S 7 11 + 20 ≤ 4096) : cI (put4 (put4 (put4 (put4 (put4 S v1) v2) v3) v4) v5) V := by
  obtain ⟨i1, i2, i3, i4, i5, i6⟩ := h
  have n : ∀ b j, b ≠ 29 → ¬ (b = 7 ∧ j = 11) → (put4 (put4 (put4 (put4 (put4 S v1) v2) v3) v4) v5) b j = S b j := fun b j => f5_o
  refine ⟨fun q hq => ?_, ?_, ?_, ?_, ?_, ?_⟩
  · rw [n _ 0 (by omega) (by omega), n _ 1 (by omega) (by omega), n _ 2 (by omega) (by omega), n _ 3 (by omega) (by omega)]; exact i1 q hq
  · rw [n 78 0 (by omega) (by omega), n 78 1 (by omega) (by omega)]; exact i2
  · rw [n 78 2 (by omega) (by omega)]; exact i3
  · rw [n 79 0 (by omega) (by omega), n 79 1 (by omega) (by omega)]; exact i4
  · rw [f5_n]; omega
  · rw [n 9 0 (by omega) (by omega), n 9 1 (by omega) (by omega), n 9 2 (by omega) (by omega), n 10 0 (by omega) (by omega)]; exact i6
theorem cJ_feed (h : cJ S) (hn : 0 ≤ S 7 11) : cJ (put4 (put4 (put4 (put4 (put4 S v1) v2) v3) v4) v5) := by
  obtain ⟨j1, j2, j3⟩ := h
  have n : ∀ b j, b ≠ 29 → ¬ (b = 7 ∧ j = 11) → (put4 (put4 (put4 (put4 (put4 S v1) v2) v3) v4) v5) b j = S b j := fun b j => f5_o
  refine ⟨by rw [n 78 3 (by omega) (by omega)]; exact j1, fun j => ?_, by rw [n 113 3 (by omega) (by omega)]; exact j3⟩
  rw [f5_t hn]
  split
  · exact bty_b _
  · exact j2 j
theorem fm_n {a j : Nat} (h1 : a ≠ 158) (h2 : ¬ (a = 128 ∧ j = 24)) : (u2 (fd20 Sm (Sm 128 24).toNat (fv5 v1 v2 v3 v4 v5) 20) 128 24 (((Sm 128 24).toNat : Int) + 20)) a j = Sm a j := by
  rw [u2_e, if_neg h2]
  unfold fd20
  rw [if_neg (fun h => h1 h.1)]
theorem mI_feed (h : mI Sm Vm) : mI (u2 (fd20 Sm (Sm 128 24).toNat (fv5 v1 v2 v3 v4 v5) 20) 128 24 (((Sm 128 24).toNat : Int) + 20)) Vm := mI_m (fun a j hb => fm_n (by omega) (by omega)) (fun _ _ _ => rfl) h
theorem eqA_feed (hE : eqA S V Sm Vm) (hn : 0 ≤ S 7 11) : eqA (put4 (put4 (put4 (put4 (put4 S v1) v2) v3) v4) v5) V (u2 (fd20 Sm (Sm 128 24).toNat (fv5 v1 v2 v3 v4 v5) 20) 128 24 (((Sm 128 24).toNat : Int) + 20)) Vm := by
  have n : ∀ b j, b ≠ 29 → ¬ (b = 7 ∧ j = 11) → (put4 (put4 (put4 (put4 (put4 S v1) v2) v3) v4) v5) b j = S b j := fun b j => f5_o
  have m : ∀ b j, b ≠ 158 → ¬ (b = 128 ∧ j = 24) → (u2 (fd20 Sm (Sm 128 24).toNat (fv5 v1 v2 v3 v4 v5) 20) 128 24 (((Sm 128 24).toNat : Int) + 20)) b j = Sm b j := fun b j => fm_n
  have n1 : (put4 (put4 (put4 (put4 (put4 S v1) v2) v3) v4) v5) 7 11 = S 7 11 + 20 := f5_n
  have n2 := fun j => f5_t (S := S) (v1 := v1) (v2 := v2) (v3 := v3) (v4 := v4) (v5 := v5) (j := j) hn
  obtain ⟨e1, ⟨e2, e3, e4, e5⟩, ⟨e6, e7⟩, e8, e9⟩ := hE
  have m1 : (u2 (fd20 Sm (Sm 128 24).toNat (fv5 v1 v2 v3 v4 v5) 20) 128 24 (((Sm 128 24).toNat : Int) + 20)) 128 24 = S 7 11 + 20 := by rw [u2_e, if_pos ⟨rfl, rfl⟩, e6]; omega
  have m2 : ∀ j, (u2 (fd20 Sm (Sm 128 24).toNat (fv5 v1 v2 v3 v4 v5) 20) 128 24 (((Sm 128 24).toNat : Int) + 20)) 158 j = if (S 7 11).toNat ≤ j ∧ j < (S 7 11).toNat + 20 then fdB (fv5 v1 v2 v3 v4 v5) (j - (S 7 11).toNat) else S 29 j := by
    intro j
    rw [u2_e, if_neg (by omega), e6]
    unfold fd20
    by_cases c : (S 7 11).toNat ≤ j ∧ j < (S 7 11).toNat + 20
    · rw [if_pos ⟨rfl, c⟩, if_pos c]
    · rw [if_neg (fun h => c h.2), if_neg c]; exact e7 j
  generalize (put4 (put4 (put4 (put4 (put4 S v1) v2) v3) v4) v5) = S1 at n n1 n2 ⊢
  generalize (u2 (fd20 Sm (Sm 128 24).toNat (fv5 v1 v2 v3 v4 v5) 20) 128 24 (((Sm 128 24).toNat : Int) + 20)) = Sm1 at m m1 m2 ⊢
  refine ⟨fun q hq => ?_, ⟨?_, ?_, ?_, ?_⟩, ⟨m1.trans n1.symm, fun j => (m2 j).trans (n2 j).symm⟩, ?_, fun j hj => ?_⟩
  · obtain ⟨f1, f2, f3, f4⟩ := e1 q hq
    have g0 : vS S1 153 q = vS S 153 q := n (30 + 3 * q) 0 (by omega) (by omega)
    have g1 : vS S1 154 q = vS S 154 q := n (30 + 3 * q) 1 (by omega) (by omega)
    have g2 : vS S1 156 q = vS S 156 q := n (30 + 3 * q) 2 (by omega) (by omega)
    have g3 : vS S1 155 q = vS S 155 q := n (30 + 3 * q) 3 (by omega) (by omega)
    unfold eqR
    rw [g0, g1, g2, g3, m 153 q (by omega) (by omega), m 154 q (by omega) (by omega), m 155 q (by omega) (by omega), m 156 q (by omega) (by omega)]
    exact ⟨f1, f2, f3, f4⟩
  · rw [m 128 17 (by omega) (by omega)]; exact e2.trans (n 78 0 (by omega) (by omega)).symm
  · rw [m 128 18 (by omega) (by omega)]; exact e3.trans (n 78 1 (by omega) (by omega)).symm
  · rw [m 128 19 (by omega) (by omega)]; exact e4.trans (n 78 3 (by omega) (by omega)).symm
  · rw [m 128 20 (by omega) (by omega)]; exact e5.trans (n 78 2 (by omega) (by omega)).symm
  · rw [m 128 25 (by omega) (by omega), n 113 3 (by omega) (by omega)]; exact e8
  · rw [n 113 3 (by omega) (by omega)] at hj
    rw [m 159 j (by omega) (by omega), n 114 j (by omega) (by omega)]; exact e9 j hj
end
section
variable {W w : xW} {L Z d : Nat}
/-- with what the reference has thrown -/
def IV1 (W : xW) (L Z : Nat) (k : Int) (w : xW) : Prop := ∃ S V Sm Vm g, IW W L Z S V Sm Vm g w ∧ cI S V ∧ mI Sm Vm ∧ cJ S ∧ eqA S V Sm Vm ∧ Sm 128 31 = k
/-- one call of both, without an answer -/
def SPF (W : xW) (L Z d y z : Nat) (ca ra : List Value) (w : xW) : Prop := ∃ k w3, xRun d y ca w (.inl (some (.int (Int32.ofInt k)))) w3 ∧ (-2147483648 ≤ k ∧ k < 2147483648) ∧ ∃ w4, xRun d z ra w3 (.inl none) w4 ∧ K3 W w3 ∧ ∃ L' Z', L' ≤ L + 2 ∧ Z' ≤ Z + 12 ∧ IV1 W L' Z' k w4
theorem st_tol {r mode : Int} (hIV : IV0 W L Z w) (b_r : -2147483648 ≤ r ∧ r < 2147483648) (b_mode : -2147483648 ≤ mode ∧ mode < 2147483648) : SPL W L Z (d + 20) 132 251 [Value.ref 7, Value.int (Int32.ofInt r), Value.int (Int32.ofInt mode), Value.ref 194] [Value.ref 128, Value.int (Int32.ofInt r), Value.int (Int32.ofInt mode)] w := by
  obtain ⟨S, V, Sm, Vm, g, hW, hI, hM, hJ, hE⟩ := hIV
  have h7 := hW.1.k0 kq_7
  have hE1 := eqA_31 (k := 0) hE
  have hM1 := mI_31 (k := 0) hM
  by_cases hg : (0 ≤ r ∧ r ≤ 15) ∧ (0 ≤ mode ∧ mode ≤ 4)
  · have h16 : r.toNat < 16 := by omega
    have qa := ko_of hE1 h16
    have hT : S (30 + 3 * r.toNat) 1 = 3 → (u2 Sm 128 31 0) 155 r.toNat = S (30 + 3 * r.toNat) 3 := fun c => ((hE1.1 r.toNat h16).2.2.2 c).1
    have hc : (S (30 + 3 * r.toNat) 1 = 2 ∨ (S (30 + 3 * r.toNat) 1 = 3 ∧ S (30 + 3 * r.toNat) 3 ≤ 64 ∧ hid (tlOk (vS S) (vV V) r.toNat mode))) ∨ ((S (30 + 3 * r.toNat) 1 ≠ 2 ∧ S (30 + 3 * r.toNat) 1 ≠ 3) ∨ (S (30 + 3 * r.toNat) 1 = 3 ∧ S (30 + 3 * r.toNat) 3 ≤ 64 ∧ hid (¬ tlOk (vS S) (vV V) r.toNat mode)) ∨ (S (30 + 3 * r.toNat) 1 = 3 ∧ 64 < S (30 + 3 * r.toNat) 3)) := by
      by_cases k2 : S (30 + 3 * r.toNat) 1 = 2
      · exact Or.inl (Or.inl k2)
      · by_cases k3 : S (30 + 3 * r.toNat) 1 = 3
        · by_cases t : S (30 + 3 * r.toNat) 3 ≤ 64
          · by_cases c : tlOk (vS S) (vV V) r.toNat mode
            · exact Or.inl (Or.inr ⟨k3, t, c⟩)
            · exact Or.inr (Or.inr (Or.inl ⟨k3, t, c⟩))
          · exact Or.inr (Or.inr (Or.inr ⟨k3, by omega⟩))
        · exact Or.inr (Or.inl ⟨k2, k3⟩)
    rcases hc with hok | hbad
    · have e := tl_e (mode := mode) hE1 h16 (hok.imp id (fun c => c.1))
      have hok' : (u2 Sm 128 31 0) 154 r.toNat = 2 ∨ ((u2 Sm 128 31 0) 154 r.toNat = 3 ∧ (u2 Sm 128 31 0) 155 r.toNat ≤ 64 ∧ hid (tlOk (u2 Sm 128 31 0) Vm r.toNat mode)) := hok.imp (fun c => qa.trans c) (fun c => ⟨qa.trans c.1, by rw [hT c.1]; exact c.2.1, (tl_ok hE1 h16 c.1).mpr c.2.2⟩)
      obtain ⟨w2, hrun, S', V', hX, hnC, hnW⟩ := x_tol (d := d + 13) (r := r) (mode := mode) hW.1 hI (by omega) (by omega) hok
      have hW2 := hW.cls hX
      refine ⟨0, _, l_132 (d := d + 19) h7 hrun hW2.2.2.1, ⟨by decide, by decide⟩, ?_⟩
      have hW3 := hW2.put (xup g 0 (.long (Int64.ofInt (if S (30 + 3 * r.toNat) 1 = 2 then (0 : Int) else if S (30 + 3 * r.toNat) 2 = 0 then ((tlX (vS S) (vV V) r.toNat mode % 2 ^ 64 : Nat) : Int) else -((tlX (vS S) (vV V) r.toNat mode % 2 ^ 64 : Nat) : Int)))))
      obtain ⟨an, w4, hr4, rfl, Vm', hmR, hnV⟩ := w_251 (d := d + 19) (P := fun an w4 => an = Int64.ofInt (if S (30 + 3 * r.toNat) 1 = 2 then (0 : Int) else if S (30 + 3 * r.toNat) 2 = 0 then ((tlX (vS S) (vV V) r.toNat mode % 2 ^ 64 : Nat) : Int) else -((tlX (vS S) (vV V) r.toNat mode % 2 ^ 64 : Nat) : Int)) ∧ ∃ Vm', mR _ (u2 Sm 128 31 0) Vm' w4 ∧ nV Vm Vm') hW3.2.1 (fun w5 hw5 => by
        obtain ⟨w6, h1, V6, h2, h3⟩ := s_tol (d := d + 11) (r := r) (mode := mode) hw5 hM1 (by omega) (by omega) hok'
        rw [e] at h1
        exact ⟨_, w6, h1, rfl, V6, h2, h3⟩)
      exact ⟨_, w4, hr4, hW3.k3, L, Z, by omega, by omega, IV.mk' (hW3.ref hmR) (hnC.cI hnW hI) (nS.mI nS.refl hnV hM1) (cJ_c hnC.k hnC.2.1 hJ) (eqA_c hnC.k hnC.2.1 hnW (eqA_m (fun _ _ _ => rfl) (fun k hk _ => hnV k hk) hE1)) rfl (xup0 _ _)⟩
    · have hbad' : ((u2 Sm 128 31 0) 154 r.toNat ≠ 2 ∧ (u2 Sm 128 31 0) 154 r.toNat ≠ 3) ∨ ((u2 Sm 128 31 0) 154 r.toNat = 3 ∧ (u2 Sm 128 31 0) 155 r.toNat ≤ 64 ∧ hid (¬ tlOk (u2 Sm 128 31 0) Vm r.toNat mode)) ∨ ((u2 Sm 128 31 0) 154 r.toNat = 3 ∧ 64 < (u2 Sm 128 31 0) 155 r.toNat) := by
        rw [qa]
        exact hbad.imp id (fun c => c.imp (fun c => ⟨c.1, by rw [hT c.1]; exact c.2.1, fun z => c.2.2 ((tl_ok hE1 h16 c.1).mp z)⟩) (fun c => ⟨c.1, by rw [hT c.1]; exact c.2⟩))
      obtain ⟨w1, S', V', hrun, hX, hnC, hnW⟩ := x_tolN (d := d + 11) (r := r) (mode := mode) hW.1 hI (by omega) (by omega) hbad
      refine ⟨2, _, c_132_2 (d := d + 19) h7 hrun, ⟨by decide, by decide⟩, ?_⟩
      have hW3 := hW.clsT (c := .inr (15, [])) hX
      have hln := hW3.1.len
      obtain ⟨w4, hr4, Sm', Vm', hmR, rfl, hnV⟩ := t_251_2 (d := d + 19) (P := fun S' V' => S' = u2 (u2 Sm 128 31 0) 128 19 (zor (S 78 3) 32) ∧ nV Vm V') hW3.2.1 (by omega) (fun w5 hw5 => by
          obtain ⟨w6, V6, h1, h2, h3⟩ := n_tol (d := d + 11) (r := r) (mode := mode) hw5 hM1 (by omega) (by omega) hbad'
          rw [show (u2 Sm 128 31 0) 128 19 = S 78 3 from hE1.2.1.2.2.1] at h2
          exact ⟨w6, _, _, h1, h2, rfl, h3⟩)
      exact ⟨0, w4, hr4, hW3.k3, L + 1 + 1, Z + xcs (.inr (15, [])) + xcs (.inr (15, [])), by omega, by rw [xcs15]; omega, IV.thr (hW3.refT hmR) (hnC.cI hnW (cI_f hI)) (nS.mI nS.refl hnV (mI_f hM1)) (cJ_c hnC.k hnC.2.1 (cJ_f hJ zor_rg)) (eqA_c hnC.k hnC.2.1 hnW (eqA_m (fun _ _ _ => rfl) (fun k hk _ => hnV k hk) (eqA_f hE1))) (by decide)⟩
  · -- the arguments are bad
    obtain ⟨w1, hrun, hw1⟩ := b_ctol (d := d + 11) (r := r) (mode := mode) hW.1 b_r b_mode (by omega)
    subst hw1
    refine ⟨1, _, c_132_1 (d := d + 19) h7 hrun, ⟨by decide, by decide⟩, ?_⟩
    have hW3 := hW.clsT (c := .inr (14, [])) hW.1
    have hln := hW3.1.len
    obtain ⟨w4, hr4, Sm', Vm', hmR, rfl, rfl⟩ := t_251_1 (d := d + 19) (P := fun S' V' => S' = u2 Sm 128 31 0 ∧ V' = Vm) hW3.2.1 (by omega) (fun w5 hw5 => ⟨w5, _, _, b_tol (d := d + 11) (r := r) (mode := mode) b_r b_mode (by omega), hw5, rfl, rfl⟩)
    exact ⟨0, w4, hr4, hW3.k3, L + 1 + 1, Z + xcs (.inr (14, [])) + xcs (.inr (14, [])), by omega, by rw [xcs14]; omega, IV.thr (hW3.refT hmR) hI (mI_31 hM) hJ (eqA_31 hE) (by decide)⟩
theorem st_feed {v1 v2 v3 v4 v5 : Int} (hIV : IV0 W L Z w) (b_v1 : -2147483648 ≤ v1 ∧ v1 < 2147483648) (b_v2 : -2147483648 ≤ v2 ∧ v2 < 2147483648) (b_v3 : -2147483648 ≤ v3 ∧ v3 < 2147483648) (b_v4 : -2147483648 ≤ v4 ∧ v4 < 2147483648) (b_v5 : -2147483648 ≤ v5 ∧ v5 < 2147483648) : SPF W L Z (d + 20) 136 253 [Value.ref 7, Value.int (Int32.ofInt v1), Value.int (Int32.ofInt v2), Value.int (Int32.ofInt v3), Value.int (Int32.ofInt v4), Value.int (Int32.ofInt v5)] [Value.ref 128, Value.int (Int32.ofInt v1), Value.int (Int32.ofInt v2), Value.int (Int32.ofInt v3), Value.int (Int32.ofInt v4), Value.int (Int32.ofInt v5)] w := by
  obtain ⟨S, V, Sm, Vm, g, hW, hI, hM, hJ, hE⟩ := hIV
  have h7 := hW.1.k0 kq_7
  have hE1 := eqA_31 (k := 0) hE
  have hM1 := mI_31 (k := 0) hM
  have e24 : (u2 Sm 128 31 0) 128 24 = S 7 11 := hE1.2.2.1.1
  have h11 : 0 ≤ S 7 11 ∧ S 7 11 ≤ 4096 := hI.2.2.2.2.1
  by_cases hg : S 7 11 + 20 ≤ 4096
  · obtain ⟨w2, hrun, hX⟩ := x_feed (d := d + 18) (v1 := v1) (v2 := v2) (v3 := v3) (v4 := v4) (v5 := v5) hW.1 (by omega)
    have hW2 := hW.cls hX
    have hl2 := hW2.1.len
    refine ⟨0, _, l_136 (d := d + 19) h7 hrun, ⟨by decide, by decide⟩, ?_⟩
    obtain ⟨w4, hr4, g5, hmR⟩ := w_253 (d := d + 19) (P := fun w4 => ∃ g5, mR (w2 ++ [.inl (0, 5, g5)]) (u2 (fd20 (u2 Sm 128 31 0) ((u2 Sm 128 31 0) 128 24).toNat (fv5 v1 v2 v3 v4 v5) 20) 128 24 ((((u2 Sm 128 31 0) 128 24).toNat : Int) + 20)) Vm w4) hW2.2.1 (fun w5 hw5 => s_feed (d := d + 18) hw5 (by rw [hw5.1.1]; omega) (by omega) b_v1 b_v2 b_v3 b_v4 b_v5)
    exact ⟨w4, hr4, hW2.k3, L + 1, Z + xcs (.inl (0, 5, g5)), by omega, by show Z + 5 ≤ Z + 12; omega, _, _, _, _, _, hW2.refT hmR, cI_feed hI (by omega), mI_feed hM1, cJ_feed hJ (by omega), eqA_feed hE1 (by omega), by rw [fm_n (by omega) (by omega)]; rfl⟩
  · obtain ⟨w1, hrun, hw1⟩ := b_cfeed (d := d + 11) (v1 := v1) (v2 := v2) (v3 := v3) (v4 := v4) (v5 := v5) hW.1 h11 b_v1 b_v2 b_v3 b_v4 b_v5 (by omega)
    subst hw1
    refine ⟨1, _, c_136_1 (d := d + 19) h7 hrun, ⟨by decide, by decide⟩, ?_⟩
    have hW3 := hW.clsT (c := .inr (17, [])) hW.1
    have hln := hW3.1.len
    obtain ⟨w4, hr4, Sm', Vm', hmR, rfl, rfl⟩ := t_253_1 (d := d + 19) (P := fun S' V' => S' = u2 Sm 128 31 0 ∧ V' = Vm) hW3.2.1 (by omega) (fun w5 hw5 => ⟨w5, _, _, b_feed (d := d + 13) (v1 := v1) (v2 := v2) (v3 := v3) (v4 := v4) (v5 := v5) hw5 (by omega) (by omega), hw5, rfl, rfl⟩)
    exact ⟨w4, hr4, hW3.k3, L + 1 + 1, Z + xcs (.inr (17, [])) + xcs (.inr (17, [])), by omega, by rw [xcs17]; omega, _, _, _, _, _, hW3.refT hmR, hI, mI_31 hM1, hJ, eqA_31 hE1, by rw [u2_e, if_pos ⟨rfl, rfl⟩]⟩
end
