/-! writing: spell -/
theorem n_byt {v : Int} (h : -128 ≤ v ∧ v ≤ 127) : narrow .byte (.int (Int32.ofInt v)) = .int (Int32.ofInt v) := by
  have := xokb h
  unfold xok at this
  have := of_decide_eq_true this
  show Value.int _ = _
  rw [this]
theorem ltr_b {k : Int} (h : 0 ≤ k ∧ k ≤ 35) : -128 ≤ ltr k ∧ ltr k ≤ 127 := by unfold ltr; split <;> omega
/-- the digits of a number with so many taken off -/
theorem sp_dig {W rx J u c rest : Nat} (hr : 0 < rx) (h : W / rx ^ J = u * rx ^ (c + 1) + rest) (hb : rest < rx ^ (c + 1)) : (W / rx ^ J) % rx = rest % rx ∧ W / rx ^ (J + 1) = u * rx ^ c + rest / rx ∧ rest / rx < rx ^ c := by
  rw [Nat.pow_succ] at hb
  have e : u * rx ^ (c + 1) = rx * (u * rx ^ c) := by rw [Nat.pow_succ]; ac_rfl
  refine ⟨by rw [h, e, Nat.mul_add_mod], ?_, (Nat.div_lt_iff_lt_mul hr).mpr hb⟩
  rw [Nat.pow_succ, ← Nat.div_div_eq_div_mul, h, e, Nat.mul_add_div hr]
theorem sp_mod {a dg pl : Nat} (h : pl < dg) : (a * dg + pl) % dg = pl := by rw [Nat.mul_comm, Nat.mul_add_mod, Nat.mod_eq_of_lt h]
theorem tmod_n {a b : Nat} : Int.tmod (a : Int) (b : Int) = ((a % b : Nat) : Int) := rfl
theorem tdiv_n {a b : Nat} : Int.tdiv (a : Int) (b : Int) = ((a / b : Nat) : Int) := rfl
theorem wof {b c d : Bool} (h : b = true) (g : c = d) : (if b = true then c else d) = c := by rw [h]; rfl
section
variable {w0 w : xW} {L Z : Nat} {S S1 : Nat → Nat → Int} {V V1 : Nat → Nat} {d t rx O tw n W : Nat} {F s mode : Int} {lv : xLv} {Q : Option Value ⊕ Nat → xW → Prop}
/-- the digits' number: n digits of M * 2 ^ E, F of them before the point -/
def spQ (M : Nat) (E : Int) (B : Nat) (F n : Int) : Nat := M * fGn B (n - F) E / fDn B (n - F) E
def spW (M : Nat) (E : Int) (B : Nat) (F ng n mode : Int) : Nat := spQ M E B F n + (if qUp mode ng (spQ M E B F n) (M * fGn B (n - F) E % fDn B (n - F) E) (fDn B (n - F) E) = true then 1 else 0)
theorem spW_w {M O tw rx : Nat} {E F ng n s mode : Int} (e : rx = 2 ^ tw * O) (hs : E + (tw : Int) * (n - F) = s) : spW M E rx F ng n mode = M * wG O (n - F) s / wD O (n - F) s + (if qUp mode ng (M * wG O (n - F) s / wD O (n - F) s) (M * wG O (n - F) s % wD O (n - F) s) (wD O (n - F) s) = true then 1 else 0) := by
  obtain ⟨z, h1, h2⟩ := rw_sc (O := O) hs
  unfold spW spQ
  rw [e, h1, h2, ← Nat.mul_assoc, Nat.mul_div_mul_right _ _ (Nat.two_pow_pos z), Nat.mul_mod_mul_right, qUp_sc (Nat.two_pow_pos z)]
set_option maxHeartbeats 4000000 in
theorem sp_1 (hR : cX w0 L Z S V w) (hr : 2 ≤ rx ∧ rx ≤ 36) (q10 : S 113 10 = (rx : Int)) (hQ : ∀ {lv : xLv} {dg ch : Nat}, 1 ≤ dg → dg ≤ 31 → ch = rx ^ dg → ch < 2147483648 → xld lv 0 = some (Value.ref 113) → xld lv 3 = some (Value.int (Int32.ofInt (dg : Int))) → xld lv 4 = some (Value.int (Int32.ofInt (ch : Int))) → xEv (d + 9) 159 76 lv [] w Q) : ∀ (f : Nat) {lv : xLv} {dg ch : Nat}, dg + f = 31 → 1 ≤ dg → ch = rx ^ dg → ch < 2147483648 → xld lv 0 = some (Value.ref 113) → xld lv 3 = some (Value.int (Int32.ofInt (dg : Int))) → xld lv 4 = some (Value.int (Int32.ofInt (ch : Int))) → xEv (d + 9) 159 48 lv [] w Q := by
  intro f
  induction f with
  | zero =>
    intro lv dg ch hf hd1 hch hcb l0 l3 l4
    have hdg : dg = 31 := by omega
    refine i_159_48 l4 ?_
    refine i_159_50 ?_
    refine i_159_52 (b_lt (a := 59652323) (b := (ch : Int)) ⟨by decide, by decide⟩ ⟨by omega, by omega⟩ fun c0 => ?_) (b_le (a := (ch : Int)) (b := 59652323) ⟨by omega, by omega⟩ ⟨by decide, by decide⟩ fun c0 => ?_)
    · exact hQ hd1 (by omega) hch hcb l0 l3 l4
    · refine i_159_55 l3 ?_
      refine i_159_56 ?_
      refine i_159_58 (b_le (a := 31) (b := (dg : Int)) ⟨by decide, by decide⟩ ⟨by omega, by omega⟩ fun c1 => ?_) (b_lt (a := (dg : Int)) (b := 31) ⟨by omega, by omega⟩ ⟨by decide, by decide⟩ fun c1 => absurd c1 (by omega))
      exact hQ hd1 (by omega) hch hcb l0 l3 l4
  | succ f ih =>
    intro lv dg ch hf hd1 hch hcb l0 l3 l4
    refine i_159_48 (x := Int32.ofInt (ch : Int)) l4 ?_
    refine i_159_50 ?_
    refine i_159_52 (b_lt (a := 59652323) (b := (ch : Int)) ⟨by decide, by decide⟩ ⟨by omega, by omega⟩ fun c0 => ?_) (b_le (a := (ch : Int)) (b := 59652323) ⟨by omega, by omega⟩ ⟨by decide, by decide⟩ fun c0 => ?_)
    · exact hQ hd1 (by omega) hch hcb l0 l3 l4
    · refine i_159_55 (x := Int32.ofInt (dg : Int)) l3 ?_
      refine i_159_56 ?_
      refine i_159_58 (b_le (a := 31) (b := (dg : Int)) ⟨by decide, by decide⟩ ⟨by omega, by omega⟩ fun c1 => ?_) (b_lt (a := (dg : Int)) (b := 31) ⟨by omega, by omega⟩ ⟨by decide, by decide⟩ fun c1 => ?_)
      · exact hQ hd1 (by omega) hch hcb l0 l3 l4
      · have hcr : ch * rx < 2147483648 := by
          have := Nat.mul_le_mul (show ch ≤ 59652323 by omega) hr.2
          omega
        refine i_159_61 (x := Int32.ofInt (ch : Int)) l4 ?_
        refine i_159_63 (x := 113) l0 ?_
        refine i_159_64 (v := Value.int (Int32.ofInt (S 113 10))) (hR.k11 kq_113) rfl ?_
        rw [q10]
        refine i_159_67 (c := Int32.ofInt ((ch * rx : Nat) : Int)) ((o_mul (ch : Int) (rx : Int)).trans (by rw [← Int.natCast_mul])) ?_
        refine i_159_68 rfl ?_
        refine lgen1 (i := 4) (v := Value.int (Int32.ofInt ((ch * rx : Nat) : Int))) (fun lv lg ls => ?_)
        replace l0 := lg 0 _ rfl rfl l0
        replace l3 := lg 3 _ rfl rfl l3
        have l4 := ls
        refine i_159_70 (x := (Int32.ofInt (dg : Int))) (c := (Int32.ofInt ((dg : Int) + 1))) l3 (o_add (dg : Int) 1) rfl ?_
        refine lgen1 (i := 3) (v := Value.int (Int32.ofInt ((dg : Int) + 1))) (fun lv lg ls => ?_)
        replace l4 := lg 4 _ rfl rfl l4
        replace l0 := lg 0 _ rfl rfl l0
        have l3 := ls
        refine i_159_73 ?_
        exact ih (dg := dg + 1) (ch := ch * rx) (by omega) (by omega) (by rw [hch, Nat.pow_succ]) hcr l0 l3 l4
set_option maxHeartbeats 4000000 in
theorem sp_2 {dg ch : Nat} (hr : 2 ≤ rx ∧ rx ≤ 36) (hn : 1 ≤ n ∧ n ≤ 4112) (q3 : S 113 3 = (n : Int)) (q10 : S 113 10 = (rx : Int)) (hd1 : 1 ≤ dg) (hd2 : dg ≤ 31) (hch : ch = rx ^ dg) (hcb : ch < 2147483648) (hQ : ∀ {lv : xLv} {w : xW} {S1 : Nat → Nat → Int} {V1 : Nat → Nat} {u c rest : Nat}, cX w0 L Z S1 V1 w → hid (∀ x : Nat, S1 114 x = if 0 ≤ x ∧ x < n then ltr ((W / rx ^ (n - 1 - x) % rx : Nat) : Int) else S 114 x) → hid (∀ b j, b ≠ 114 → S1 b j = S b j) → hid (∀ x, x ≠ 87 → V1 x = V x) → V1 87 = u → W / rx ^ n = u * rx ^ c + rest → rest < 2147483648 → xld lv 0 = some (Value.ref 113) → xld lv 5 = some (Value.int (Int32.ofInt (rest : Int))) → xEv (d + 9) 159 161 lv [] w Q) : ∀ (m : Nat) {lv : xLv} {w : xW} {S1 : Nat → Nat → Int} {V1 : Nat → Nat} {u c rest a pl : Nat}, m ≤ n → cX w0 L Z S1 V1 w → hid (∀ x : Nat, S1 114 x = if m ≤ x ∧ x < n then ltr ((W / rx ^ (n - 1 - x) % rx : Nat) : Int) else S 114 x) → hid (∀ b j, b ≠ 114 → S1 b j = S b j) → hid (∀ x, x ≠ 87 → V1 x = V x) → V1 87 = u → W / rx ^ (n - m) = u * rx ^ c + rest → rest < rx ^ c → a * dg + pl = n - m → pl < dg → ((c = 0 ∧ pl = 0) ∨ (c + pl = dg ∧ 0 < pl)) → xld lv 0 = some (Value.ref 113) → xld lv 3 = some (Value.int (Int32.ofInt (dg : Int))) → xld lv 4 = some (Value.int (Int32.ofInt (ch : Int))) → xld lv 5 = some (Value.int (Int32.ofInt (rest : Int))) → xld lv 6 = some (Value.int (Int32.ofInt ((m : Int) - 1))) → xEv (d + 9) 159 87 lv [] w Q := by
  intro m
  have hch0 : 0 < ch := by rw [hch]; exact Nat.pow_pos (by omega)
  have hcc : ∀ c, c ≤ dg → rx ^ c ≤ ch := fun c hc => by rw [hch]; exact Nat.pow_le_pow_right (by omega) hc
  induction m with
  | zero =>
    intro lv w S1 V1 u c rest a pl hm hR hB hS hV hu hW hrb hpa hpl hcp l0 l3 l4 l5 l6
    have hrs : rest < ch := Nat.lt_of_lt_of_le hrb (hcc c (by omega))
    refine i_159_87 l6 ?_
    refine i_159_89 (z_lt (a := ((0 : Nat) : Int) - 1) ⟨by omega, by omega⟩ fun _ => ?_) (z_ge (a := ((0 : Nat) : Int) - 1) ⟨by omega, by omega⟩ fun c => absurd c (by omega))
    exact hQ hR hB hS hV hu hW (by omega) l0 l5
  | succ m ih =>
    intro lv w S1 V1 u c rest a pl hm hR hB hS hV hu hW hrb hpa hpl hcp l0 l3 l4 l5 l6
    have hrs : rest < ch := Nat.lt_of_lt_of_le hrb (hcc c (by omega))
    rw [show ((m + 1 : Nat) : Int) - 1 = (m : Int) by omega] at l6
    have k3 : S1 113 3 = (n : Int) := (hS 113 3 (by decide)).trans q3
    have k10 : S1 113 10 = (rx : Int) := (hS 113 10 (by decide)).trans q10
    refine i_159_87 (x := Int32.ofInt (m : Int)) l6 ?_
    refine i_159_89 (z_lt (a := (m : Int)) ⟨by omega, by omega⟩ fun c0 => absurd c0 (by omega)) (z_ge (a := (m : Int)) ⟨by omega, by omega⟩ fun c0 => ?_)
    refine i_159_92 (x := 113) l0 ?_
    refine i_159_93 (v := Value.int (Int32.ofInt (S1 113 3))) (hR.k11 kq_113) rfl ?_
    rw [k3]
    refine i_159_96 ?_
    refine i_159_97 (c := Int32.ofInt ((n : Int) - 1)) (o_sub (n : Int) 1) ?_
    refine i_159_98 (x := Int32.ofInt (m : Int)) l6 ?_
    refine i_159_100 (c := Int32.ofInt (((n : Int) - 1) - (m : Int))) (o_sub ((n : Int) - 1) (m : Int)) ?_
    refine i_159_101 (x := Int32.ofInt (dg : Int)) l3 ?_
    refine i_159_102 (c := Int32.ofInt (pl : Int)) (o_nz (b := (dg : Int)) (by omega)) ((o_tmod (a := ((n : Int) - 1) - (m : Int)) (b := (dg : Int)) (by omega) (by omega)).trans (by rw [show ((n : Int) - 1) - (m : Int) = ((a * dg + pl : Nat) : Int) by omega, tmod_n, sp_mod hpl])) ?_
    refine i_159_103 rfl ?_
    refine lgen1 (i := 7) (v := Value.int (Int32.ofInt (pl : Int))) (fun lv lg ls => ?_)
    replace l0 := lg 0 _ rfl rfl l0
    replace l3 := lg 3 _ rfl rfl l3
    replace l4 := lg 4 _ rfl rfl l4
    replace l5 := lg 5 _ rfl rfl l5
    replace l6 := lg 6 _ rfl rfl l6
    have l7 := ls
    refine i_159_105 (x := Int32.ofInt (pl : Int)) l7 ?_
    refine i_159_107 (z_ne (a := (pl : Int)) ⟨by omega, by omega⟩ fun c1 => ?_) (z_eq (a := (pl : Int)) ⟨by omega, by omega⟩ fun c1 => ?_)
    · refine i_159_125 (x := Int32.ofInt (rest : Int)) l5 ?_
      refine i_159_127 rfl ?_
      refine lgen1 (i := 5) (v := Value.int (Int32.ofInt (rest : Int))) (fun lv lg ls => ?_)
      replace l7 := lg 7 _ rfl rfl l7
      replace l0 := lg 0 _ rfl rfl l0
      replace l3 := lg 3 _ rfl rfl l3
      replace l4 := lg 4 _ rfl rfl l4
      replace l6 := lg 6 _ rfl rfl l6
      have l5 := ls
      refine i_159_129 (x := 113) l0 ?_
      refine i_159_130 (v := Value.ref 114) (hR.k11 kq_113) rfl ?_
      refine i_159_133 (x := Int32.ofInt (m : Int)) l6 ?_
      refine i_159_135 (x := Int32.ofInt (rest : Int)) l5 ?_
      refine i_159_137 (x := 113) l0 ?_
      refine i_159_138 (v := Value.int (Int32.ofInt (S1 113 10))) (hR.k11 kq_113) rfl ?_
      rw [k10]
      refine i_159_141 (c := Int32.ofInt ((rest % rx : Nat) : Int)) (o_nz (b := (rx : Int)) (by omega)) ((o_tmod (a := (rest : Int)) (b := (rx : Int)) (by omega) (by omega)).trans rfl) ?_
      have hmo : ((rest % rx : Nat) : Int) < 36 := by have := Nat.mod_lt (rest) (show 0 < rx by omega); omega
      have hrun := x_ltr (d := d + 8) (w := w) (k := ((rest % rx : Nat) : Int)) ⟨by omega, by omega⟩
      refine i_159_142 (Nat.le_of_ble_eq_true rfl) hrun ?_
      refine i_159_145 (v := Value.int (Int32.ofInt (ltr ((rest % rx : Nat) : Int)))) (hR.bytes (a := 114) (n := 4112) (by omega)) (ix0 (T := (m : Int)) (by omega) (by omega)) (ix1 (T := (m : Int)) (by omega) (by omega) (by omega)) (by decide) (n_byt (ltr_b ⟨by omega, by omega⟩)) ?_
      rw [ixn (T := (m : Int)) (by omega) (by omega)]
      rw [show ((m : Int) : Int).toNat = m from rfl]
      refine xgen (P := cX w0 L Z (u2 S1 114 m (ltr ((rest % rx : Nat) : Int))) V1) (hR.byte (a := 114) (n := 4112) (by omega) rfl) (fun w hR => ?_)
      refine i_159_146 (x := Int32.ofInt (rest : Int)) l5 ?_
      refine i_159_148 (x := 113) l0 ?_
      refine i_159_149 (v := Value.int (Int32.ofInt ((u2 S1 114 m (ltr ((rest % rx : Nat) : Int))) 113 10))) (hR.k11 kq_113) rfl ?_
      rw [show Int32.ofInt ((u2 S1 114 m (ltr ((rest % rx : Nat) : Int))) 113 10) = Int32.ofInt (S1 113 10) by rw [u2_eq, if_neg (fun e => absurd e.1 (by decide))]]
      rw [k10]
      refine i_159_152 (c := Int32.ofInt ((rest / rx : Nat) : Int)) (o_nz (b := (rx : Int)) (by omega)) ((o_tdiv (a := (rest : Int)) (b := (rx : Int)) (by omega) (by omega)).trans rfl) ?_
      refine i_159_153 rfl ?_
      refine lgen1 (i := 5) (v := Value.int (Int32.ofInt ((rest / rx : Nat) : Int))) (fun lv lg ls => ?_)
      replace l7 := lg 7 _ rfl rfl l7
      replace l0 := lg 0 _ rfl rfl l0
      replace l3 := lg 3 _ rfl rfl l3
      replace l4 := lg 4 _ rfl rfl l4
      replace l6 := lg 6 _ rfl rfl l6
      have l5 := ls
      refine i_159_155 (x := (Int32.ofInt (m : Int))) (c := (Int32.ofInt ((m : Int) + (-1)))) l6 (o_dec (m : Int)) rfl ?_
      refine lgen1 (i := 6) (v := Value.int (Int32.ofInt ((m : Int) + (-1)))) (fun lv lg ls => ?_)
      replace l5 := lg 5 _ rfl rfl l5
      replace l7 := lg 7 _ rfl rfl l7
      replace l0 := lg 0 _ rfl rfl l0
      replace l3 := lg 3 _ rfl rfl l3
      replace l4 := lg 4 _ rfl rfl l4
      have l6 := ls
      refine i_159_158 ?_
      obtain ⟨c1, rfl⟩ : ∃ c1, c = c1 + 1 := ⟨c - 1, by omega⟩
      obtain ⟨g1, g2, g3⟩ := sp_dig (show 0 < rx by omega) hW hrb
      rw [show n - (m + 1) + 1 = n - m by omega] at g2
      have hB2 : hid (∀ x : Nat, (u2 S1 114 m (ltr ((rest % rx : Nat) : Int))) 114 x = if m ≤ x ∧ x < n then ltr ((W / rx ^ (n - 1 - x) % rx : Nat) : Int) else S 114 x) := by
        intro x
        rw [u2_eq]
        by_cases hx : x = m
        · rw [if_pos ⟨rfl, hx⟩, if_pos (by omega), hx, show n - 1 - m = n - (m + 1) by omega, g1]
        · rw [if_neg (by omega), hB x]
          by_cases hy : m + 1 ≤ x ∧ x < n
          · rw [if_pos hy, if_pos (by omega)]
          · rw [if_neg hy, if_neg (by omega)]
      have hS2 : hid (∀ b j, b ≠ 114 → (u2 S1 114 m (ltr ((rest % rx : Nat) : Int))) b j = S b j) := fun b j hb => (by rw [u2_eq, if_neg (by omega)]; exact hS b j hb)
      have hV2 : hid (∀ x, x ≠ 87 → V1 x = V x) := fun x hx => hV x hx
      rw [show (m : Int) + -1 = (m : Int) - 1 from rfl] at l6
      by_cases hpe : pl + 1 = dg
      · exact ih (a := a + 1) (pl := 0) (c := c1) (by omega) hR hB2 hS2 hV2 hu g2 g3 (by rw [Nat.add_mul]; omega) (by omega) (Or.inl ⟨by omega, rfl⟩) l0 l3 l4 l5 l6
      · exact ih (a := a) (pl := pl + 1) (c := c1) (by omega) hR hB2 hS2 hV2 hu g2 g3 (by omega) (by omega) (Or.inr ⟨by omega, by omega⟩) l0 l3 l4 l5 l6
    · refine i_159_110 (x := 113) l0 ?_
      refine i_159_111 (v := Value.ref 86) (hR.k11 kq_113) rfl ?_
      refine i_159_114 (v := Value.ref 87) (hR.k7 kq_86) rfl ?_
      refine i_159_117 (x := Int32.ofInt (ch : Int)) l4 ?_
      obtain ⟨fs, hobj⟩ := hR.nat kq_87
      obtain ⟨w, hrun, hR⟩ := X_divBy (d := d + 7) (h := 87) (u := u) (dv := ch) hR kq_87 hu ⟨by omega, by omega⟩
      obtain ⟨r2, er2⟩ : ∃ r2, u % ch = r2 := ⟨_, rfl⟩
      have hr2 : r2 < ch := by rw [← er2]; exact Nat.mod_lt _ (by omega)
      rw [er2] at hrun
      refine i_159_119 hobj (Nat.le_of_ble_eq_true rfl) hrun ?_
      refine i_159_122 ?_
      refine i_159_127 rfl ?_
      refine lgen1 (i := 5) (v := Value.int (Int32.ofInt (r2 : Int))) (fun lv lg ls => ?_)
      replace l7 := lg 7 _ rfl rfl l7
      replace l0 := lg 0 _ rfl rfl l0
      replace l3 := lg 3 _ rfl rfl l3
      replace l4 := lg 4 _ rfl rfl l4
      replace l6 := lg 6 _ rfl rfl l6
      have l5 := ls
      refine i_159_129 (x := 113) l0 ?_
      refine i_159_130 (v := Value.ref 114) (hR.k11 kq_113) rfl ?_
      refine i_159_133 (x := Int32.ofInt (m : Int)) l6 ?_
      refine i_159_135 (x := Int32.ofInt (r2 : Int)) l5 ?_
      refine i_159_137 (x := 113) l0 ?_
      refine i_159_138 (v := Value.int (Int32.ofInt (S1 113 10))) (hR.k11 kq_113) rfl ?_
      rw [k10]
      refine i_159_141 (c := Int32.ofInt ((r2 % rx : Nat) : Int)) (o_nz (b := (rx : Int)) (by omega)) ((o_tmod (a := (r2 : Int)) (b := (rx : Int)) (by omega) (by omega)).trans rfl) ?_
      have hmo : ((r2 % rx : Nat) : Int) < 36 := by have := Nat.mod_lt (r2) (show 0 < rx by omega); omega
      have hrun := x_ltr (d := d + 8) (w := w) (k := ((r2 % rx : Nat) : Int)) ⟨by omega, by omega⟩
      refine i_159_142 (Nat.le_of_ble_eq_true rfl) hrun ?_
      refine i_159_145 (v := Value.int (Int32.ofInt (ltr ((r2 % rx : Nat) : Int)))) (hR.bytes (a := 114) (n := 4112) (by omega)) (ix0 (T := (m : Int)) (by omega) (by omega)) (ix1 (T := (m : Int)) (by omega) (by omega) (by omega)) (by decide) (n_byt (ltr_b ⟨by omega, by omega⟩)) ?_
      rw [ixn (T := (m : Int)) (by omega) (by omega)]
      rw [show ((m : Int) : Int).toNat = m from rfl]
      refine xgen (P := cX w0 L Z (u2 S1 114 m (ltr ((r2 % rx : Nat) : Int))) (uv V1 87 (u / ch))) (hR.byte (a := 114) (n := 4112) (by omega) rfl) (fun w hR => ?_)
      refine i_159_146 (x := Int32.ofInt (r2 : Int)) l5 ?_
      refine i_159_148 (x := 113) l0 ?_
      refine i_159_149 (v := Value.int (Int32.ofInt ((u2 S1 114 m (ltr ((r2 % rx : Nat) : Int))) 113 10))) (hR.k11 kq_113) rfl ?_
      rw [show Int32.ofInt ((u2 S1 114 m (ltr ((r2 % rx : Nat) : Int))) 113 10) = Int32.ofInt (S1 113 10) by rw [u2_eq, if_neg (fun e => absurd e.1 (by decide))]]
      rw [k10]
      refine i_159_152 (c := Int32.ofInt ((r2 / rx : Nat) : Int)) (o_nz (b := (rx : Int)) (by omega)) ((o_tdiv (a := (r2 : Int)) (b := (rx : Int)) (by omega) (by omega)).trans rfl) ?_
      refine i_159_153 rfl ?_
      refine lgen1 (i := 5) (v := Value.int (Int32.ofInt ((r2 / rx : Nat) : Int))) (fun lv lg ls => ?_)
      replace l7 := lg 7 _ rfl rfl l7
      replace l0 := lg 0 _ rfl rfl l0
      replace l3 := lg 3 _ rfl rfl l3
      replace l4 := lg 4 _ rfl rfl l4
      replace l6 := lg 6 _ rfl rfl l6
      have l5 := ls
      refine i_159_155 (x := (Int32.ofInt (m : Int))) (c := (Int32.ofInt ((m : Int) + (-1)))) l6 (o_dec (m : Int)) rfl ?_
      refine lgen1 (i := 6) (v := Value.int (Int32.ofInt ((m : Int) + (-1)))) (fun lv lg ls => ?_)
      replace l5 := lg 5 _ rfl rfl l5
      replace l7 := lg 7 _ rfl rfl l7
      replace l0 := lg 0 _ rfl rfl l0
      replace l3 := lg 3 _ rfl rfl l3
      replace l4 := lg 4 _ rfl rfl l4
      have l6 := ls
      refine i_159_158 ?_
      have hc0 : c = 0 := by omega
      subst hc0
      obtain ⟨d1, rfl⟩ : ∃ d1, dg = d1 + 1 := ⟨dg - 1, by omega⟩
      have h0 : rest = 0 := by rw [Nat.pow_zero] at hrb; omega
      have hdm := Nat.div_add_mod u ch
      rw [er2, Nat.mul_comm] at hdm
      obtain ⟨g1, g2, g3⟩ := sp_dig (c := d1) (u := u / ch) (rest := r2) (show 0 < rx by omega) (by rw [hW, Nat.pow_zero, Nat.mul_one, ← hch, h0, Nat.add_zero]; exact hdm.symm) (by rw [← hch]; exact hr2)
      rw [show n - (m + 1) + 1 = n - m by omega] at g2
      have hB2 : hid (∀ x : Nat, (u2 S1 114 m (ltr ((r2 % rx : Nat) : Int))) 114 x = if m ≤ x ∧ x < n then ltr ((W / rx ^ (n - 1 - x) % rx : Nat) : Int) else S 114 x) := by
        intro x
        rw [u2_eq]
        by_cases hx : x = m
        · rw [if_pos ⟨rfl, hx⟩, if_pos (by omega), hx, show n - 1 - m = n - (m + 1) by omega, g1]
        · rw [if_neg (by omega), hB x]
          by_cases hy : m + 1 ≤ x ∧ x < n
          · rw [if_pos hy, if_pos (by omega)]
          · rw [if_neg hy, if_neg (by omega)]
      have hS2 : hid (∀ b j, b ≠ 114 → (u2 S1 114 m (ltr ((r2 % rx : Nat) : Int))) b j = S b j) := fun b j hb => (by rw [u2_eq, if_neg (by omega)]; exact hS b j hb)
      have hV2 : hid (∀ x, x ≠ 87 → (uv V1 87 (u / ch)) x = V x) := fun x hx => (uv_n hx).trans (hV x hx)
      rw [show (m : Int) + -1 = (m : Int) - 1 from rfl] at l6
      by_cases hpe : 0 + 1 = d1 + 1
      · exact ih (a := a + 1) (pl := 0) (c := d1) (by omega) hR hB2 hS2 hV2 uv_s g2 g3 (by rw [Nat.add_mul]; omega) (by omega) (Or.inl ⟨by omega, rfl⟩) l0 l3 l4 l5 l6
      · exact ih (a := a) (pl := 0 + 1) (c := d1) (by omega) hR hB2 hS2 hV2 uv_s g2 g3 (by omega) (by omega) (Or.inr ⟨by omega, by omega⟩) l0 l3 l4 l5 l6
set_option maxHeartbeats 4000000 in
theorem sp_3 {u c rest : Nat} (hr : 2 ≤ rx ∧ rx ≤ 36) (hn : 1 ≤ n ∧ n ≤ 4112) (q12 : S 113 12 = F) (hR : cX w0 L Z S1 V1 w) (hB : hid (∀ x : Nat, S1 114 x = if 0 ≤ x ∧ x < n then ltr ((W / rx ^ (n - 1 - x) % rx : Nat) : Int) else S 114 x)) (hS : hid (∀ b j, b ≠ 114 → S1 b j = S b j)) (hV : hid (∀ x, x ≠ 87 → V1 x = V x)) (hu : V1 87 = u) (hW : W / rx ^ n = u * rx ^ c + rest) (hrs : rest < 2147483648) (l0 : xld lv 0 = some (Value.ref 113)) (l5 : xld lv 5 = some (Value.int (Int32.ofInt (rest : Int)))) (hQ : ∀ {w' : xW} {S' : Nat → Nat → Int} {V' : Nat → Nat}, cX w0 L Z S' V' w' → hid (∀ x : Nat, S' 114 x = if x < n then (if x = 0 ∧ rx ^ n ≤ W then 49 else ltr ((W / rx ^ (n - 1 - x) % rx : Nat) : Int)) else S 114 x) → hid (∀ b j, b ≠ 114 → S' b j = S b j) → hid (∀ x, x ≠ 87 → V' x = V x) → Q (.inl (some (.int (Int32.ofInt (if rx ^ n ≤ W then F + 1 else F))))) w') : xEv (d + 9) 159 161 lv [] w Q := by
  have k12 : S1 113 12 = F := (hS 113 12 (by decide)).trans q12
  refine i_159_161 (x := Int32.ofInt (rest : Int)) l5 ?_
  refine i_159_163 (z_ne (a := (rest : Int)) ⟨by omega, by omega⟩ fun c0 => ?_) (z_eq (a := (rest : Int)) ⟨by omega, by omega⟩ fun c0 => ?_)
  · refine i_159_179 ?_
    refine i_159_180 ?_
    refine i_159_184 rfl ?_
    refine lgen1 (i := 6) (v := Value.int 1) (fun lv lg ls => ?_)
    replace l0 := lg 0 _ rfl rfl l0
    replace l5 := lg 5 _ rfl rfl l5
    have l6 := ls
    refine i_159_186 (x := 1) l6 ?_
    refine i_159_188 (fun c => absurd c (by decide)) (fun _ => ?_)
    refine i_159_191 (x := 113) l0 ?_
    refine i_159_192 (v := Value.ref 114) (hR.k11 kq_113) rfl ?_
    refine i_159_195 ?_
    refine i_159_196 ?_
    refine i_159_198 (v := Value.int (Int32.ofInt (49))) (hR.bytes (a := 114) (n := 4112) (by omega)) (by decide) (by decide) (by decide) rfl ?_
    refine xgen (P := cX w0 L Z (u2 S1 114 0 49) V1) (hR.byte (a := 114) (n := 4112) (r := 0) (by omega) rfl) (fun w hR => ?_)
    refine i_159_199 (x := 1) l6 ?_
    refine i_159_201 (fun c => absurd c (by decide)) (fun _ => ?_)
    refine i_159_204 (x := 113) l0 ?_
    refine i_159_205 (v := Value.int (Int32.ofInt ((u2 S1 114 0 49) 113 12))) (hR.k11 kq_113) rfl ?_
    rw [show Int32.ofInt ((u2 S1 114 0 49) 113 12) = Int32.ofInt (S1 113 12) by rw [u2_eq, if_neg (fun e => absurd e.1 (by decide))]]
    rw [k12]
    refine i_159_208 ?_
    refine i_159_209 (c := Int32.ofInt (F + 1)) (o_add F 1) ?_
    refine i_159_210 ?_
    refine i_159_217 ?_
    have hge : rx ^ n ≤ W := by
      have h1 : W / rx ^ n ≠ 0 := by
        rw [hW]
        intro e
        obtain ⟨e1, e2⟩ := Nat.add_eq_zero_iff.mp e
        first
        | omega
        | (rcases Nat.mul_eq_zero.mp e1 with g | g
           · have hx0 : xbl u = 0 := by rw [g]; exact xbl_zero
             omega
           · exact absurd g (Nat.ne_of_gt (Nat.pow_pos (by omega))))
      exact Nat.le_of_not_lt fun g => h1 (Nat.div_eq_of_lt g)
    rw [show F + 1 = (if rx ^ n ≤ W then F + 1 else F) by rw [if_pos hge]]
    refine hQ hR ?_ ?_ hV
    · intro x
      rw [u2_eq]
      by_cases hx : x = 0
      · rw [if_pos ⟨rfl, hx⟩, if_pos (by omega), if_pos ⟨hx, hge⟩]
      · rw [if_neg (by omega), hB x]
        by_cases hy : x < n
        · rw [if_pos (by omega), if_pos hy, if_neg (by omega)]
        · rw [if_neg (by omega), if_neg hy]
    · intro b j hb
      rw [u2_eq, if_neg (by omega)]
      exact hS b j hb
  · refine i_159_166 (x := 113) l0 ?_
    refine i_159_167 (v := Value.ref 86) (hR.k11 kq_113) rfl ?_
    refine i_159_170 (v := Value.ref 87) (hR.k7 kq_86) rfl ?_
    obtain ⟨a2, hsz, hz2⟩ := hR.size (h := 87) (u := u) kq_87 (hu)
    refine i_159_173 (v := Value.int (Int32.ofInt (((xbl u + 31) / 32 : Nat) : Int))) hsz rfl ?_
    refine i_159_176 (z_eq (a := (((xbl u + 31) / 32 : Nat) : Int)) ⟨by omega, by omega⟩ fun c2 => ?_) (z_ne (a := (((xbl u + 31) / 32 : Nat) : Int)) ⟨by omega, by omega⟩ fun c2 => ?_)
    · refine i_159_183 ?_
      refine i_159_184 rfl ?_
      refine lgen1 (i := 6) (v := Value.int 0) (fun lv lg ls => ?_)
      replace l0 := lg 0 _ rfl rfl l0
      replace l5 := lg 5 _ rfl rfl l5
      have l6 := ls
      refine i_159_186 (x := 0) l6 ?_
      refine i_159_188 (fun _ => ?_) (fun c => absurd c (by decide))
      refine i_159_199 (x := 0) l6 ?_
      refine i_159_201 (fun _ => ?_) (fun c => absurd c (by decide))
      refine i_159_213 (x := 113) l0 ?_
      refine i_159_214 (v := Value.int (Int32.ofInt (S1 113 12))) (hR.k11 kq_113) rfl ?_
      rw [k12]
      refine i_159_217 ?_
      have hu0 : u = 0 := xbl_nz.mp (by omega)
      have hge : ¬ rx ^ n ≤ W := by
        intro g
        rw [hu0, Nat.zero_mul, Nat.zero_add, show rest = 0 by omega] at hW
        exact absurd (Nat.div_pos g (Nat.pow_pos (by omega))) (by omega)
      rw [show F = (if rx ^ n ≤ W then F + 1 else F) by rw [if_neg hge]]
      refine hQ hR ?_ ?_ hV
      · intro x
        rw [hB x]
        by_cases hy : x < n
        · rw [if_pos (by omega), if_pos hy, if_neg (fun e => hge e.2)]
        · rw [if_neg (by omega), if_neg hy]
      · exact hS
    · refine i_159_179 ?_
      refine i_159_180 ?_
      refine i_159_184 rfl ?_
      refine lgen1 (i := 6) (v := Value.int 1) (fun lv lg ls => ?_)
      replace l0 := lg 0 _ rfl rfl l0
      replace l5 := lg 5 _ rfl rfl l5
      have l6 := ls
      refine i_159_186 (x := 1) l6 ?_
      refine i_159_188 (fun c => absurd c (by decide)) (fun _ => ?_)
      refine i_159_191 (x := 113) l0 ?_
      refine i_159_192 (v := Value.ref 114) (hR.k11 kq_113) rfl ?_
      refine i_159_195 ?_
      refine i_159_196 ?_
      refine i_159_198 (v := Value.int (Int32.ofInt (49))) (hR.bytes (a := 114) (n := 4112) (by omega)) (by decide) (by decide) (by decide) rfl ?_
      refine xgen (P := cX w0 L Z (u2 S1 114 0 49) V1) (hR.byte (a := 114) (n := 4112) (r := 0) (by omega) rfl) (fun w hR => ?_)
      refine i_159_199 (x := 1) l6 ?_
      refine i_159_201 (fun c => absurd c (by decide)) (fun _ => ?_)
      refine i_159_204 (x := 113) l0 ?_
      refine i_159_205 (v := Value.int (Int32.ofInt ((u2 S1 114 0 49) 113 12))) (hR.k11 kq_113) rfl ?_
      rw [show Int32.ofInt ((u2 S1 114 0 49) 113 12) = Int32.ofInt (S1 113 12) by rw [u2_eq, if_neg (fun e => absurd e.1 (by decide))]]
      rw [k12]
      refine i_159_208 ?_
      refine i_159_209 (c := Int32.ofInt (F + 1)) (o_add F 1) ?_
      refine i_159_210 ?_
      refine i_159_217 ?_
      have hge : rx ^ n ≤ W := by
        have h1 : W / rx ^ n ≠ 0 := by
          rw [hW]
          intro e
          obtain ⟨e1, e2⟩ := Nat.add_eq_zero_iff.mp e
          first
          | omega
          | (rcases Nat.mul_eq_zero.mp e1 with g | g
             · have hx0 : xbl u = 0 := by rw [g]; exact xbl_zero
               omega
             · exact absurd g (Nat.ne_of_gt (Nat.pow_pos (by omega))))
        exact Nat.le_of_not_lt fun g => h1 (Nat.div_eq_of_lt g)
      rw [show F + 1 = (if rx ^ n ≤ W then F + 1 else F) by rw [if_pos hge]]
      refine hQ hR ?_ ?_ hV
      · intro x
        rw [u2_eq]
        by_cases hx : x = 0
        · rw [if_pos ⟨rfl, hx⟩, if_pos (by omega), if_pos ⟨hx, hge⟩]
        · rw [if_neg (by omega), hB x]
          by_cases hy : x < n
          · rw [if_pos (by omega), if_pos hy, if_neg (by omega)]
          · rw [if_neg (by omega), if_neg hy]
      · intro b j hb
        rw [u2_eq, if_neg (by omega)]
        exact hS b j hb
set_option maxHeartbeats 4000000 in
theorem sp_T (hR : cX w0 L Z S V w) (hr : 2 ≤ rx ∧ rx ≤ 36) (hn : 1 ≤ n ∧ n ≤ 4112) (q10 : S 113 10 = (rx : Int)) (q12 : S 113 12 = F) (hW0 : V 87 = W) (l0 : xld lv 0 = some (Value.ref 113)) (l1 : xld lv 1 = some (Value.int (Int32.ofInt (n : Int)))) : xEv (d + 9) 159 29 lv [] w (fun o w' => o = .inl (some (.int (Int32.ofInt (if rx ^ n ≤ W then F + 1 else F)))) ∧ ∃ S' V', cX w0 L Z S' V' w' ∧ hid (∀ x : Nat, S' 114 x = if x < n then (if x = 0 ∧ rx ^ n ≤ W then 49 else ltr ((W / rx ^ (n - 1 - x) % rx : Nat) : Int)) else S 114 x) ∧ S' 113 3 = (n : Int) ∧ hid (∀ b j, b ≠ 114 → ¬ (b = 113 ∧ j = 3) → S' b j = S b j) ∧ hid (∀ x, x ≠ 87 → V' x = V x)) := by
  refine i_159_29 (x := 113) l0 ?_
  refine i_159_30 (x := Int32.ofInt (n : Int)) l1 ?_
  refine i_159_31 ?_
  have hrun := s_min (d := d + 7) (w := w) (a := (n : Int)) (b := 4112) (by omega) (by omega)
  rw [show min (n : Int) 4112 = (n : Int) by omega, show Int32.ofInt (4112 : Int) = 4112 from rfl] at hrun
  refine i_159_34 (Nat.le_of_ble_eq_true rfl) hrun ?_
  refine i_159_37 (fs2 := f11 (u1 (S 113) 3 (n : Int))) (hR.k11 kq_113) (Nat.le_of_ble_eq_true rfl) rfl (h7k kq_113 (by decide)) ?_
  refine xgen (P := cX w0 L Z (u2 S 113 3 (n : Int)) V) (hR.p11 kq_113) (fun w hR => ?_)
  refine i_159_40 ?_
  refine i_159_41 rfl ?_
  refine lgen1 (i := 3) (v := Value.int 1) (fun lv lg ls => ?_)
  replace l0 := lg 0 _ rfl rfl l0
  replace l1 := lg 1 _ rfl rfl l1
  have l3 := ls
  refine i_159_42 (x := 113) l0 ?_
  refine i_159_43 (v := Value.int (Int32.ofInt ((u2 S 113 3 (n : Int)) 113 10))) (hR.k11 kq_113) rfl ?_
  rw [show Int32.ofInt ((u2 S 113 3 (n : Int)) 113 10) = Int32.ofInt (S 113 10) by rw [u2_eq, if_neg (fun e => absurd e.2 (by decide))]]
  rw [q10]
  refine i_159_46 rfl ?_
  refine lgen1 (i := 4) (v := Value.int (Int32.ofInt (rx : Int))) (fun lv lg ls => ?_)
  replace l3 := lg 3 _ rfl rfl l3
  replace l0 := lg 0 _ rfl rfl l0
  replace l1 := lg 1 _ rfl rfl l1
  have l4 := ls
  have q3' : (u2 S 113 3 (n : Int)) 113 3 = (n : Int) := by rw [u2_eq, if_pos ⟨rfl, rfl⟩]
  have q10' : (u2 S 113 3 (n : Int)) 113 10 = (rx : Int) := by rw [u2_eq, if_neg (by omega)]; exact q10
  have q12' : (u2 S 113 3 (n : Int)) 113 12 = F := by rw [u2_eq, if_neg (by omega)]; exact q12
  refine sp_1 hR hr q10' (fun {lv dg ch} hd1 hd2 hch hcb l0 l3 l4 => ?_) 30 (dg := 1) (ch := rx) (by omega) (by omega) (Nat.pow_one rx).symm (by omega) l0 l3 l4
  refine i_159_76 ?_
  refine i_159_77 rfl ?_
  refine lgen1 (i := 5) (v := Value.int 0) (fun lv lg ls => ?_)
  replace l0 := lg 0 _ rfl rfl l0
  replace l3 := lg 3 _ rfl rfl l3
  replace l4 := lg 4 _ rfl rfl l4
  have l5 := ls
  refine i_159_79 (x := 113) l0 ?_
  refine i_159_80 (v := Value.int (Int32.ofInt ((u2 S 113 3 (n : Int)) 113 3))) (hR.k11 kq_113) rfl ?_
  rw [show Int32.ofInt ((u2 S 113 3 (n : Int)) 113 3) = Int32.ofInt (n : Int) by rw [u2_eq, if_pos ⟨rfl, rfl⟩]]
  refine i_159_83 ?_
  refine i_159_84 (c := Int32.ofInt ((n : Int) - 1)) (o_sub (n : Int) 1) ?_
  refine i_159_85 rfl ?_
  refine lgen1 (i := 6) (v := Value.int (Int32.ofInt ((n : Int) - 1))) (fun lv lg ls => ?_)
  replace l5 := lg 5 _ rfl rfl l5
  replace l0 := lg 0 _ rfl rfl l0
  replace l3 := lg 3 _ rfl rfl l3
  replace l4 := lg 4 _ rfl rfl l4
  have l6 := ls
  rw [show (n : Int) - 1 = ((n : Nat) : Int) - 1 from rfl] at l6
  exact sp_2 (W := W) (d := d) hr hn q3' q10' hd1 hd2 hch hcb (fun {lv w S1 V1 u c rest} hR hB hS hV hu hW hrs l0 l5 => sp_3 hr hn q12' hR hB hS hV hu hW hrs l0 l5 (fun {w' S' V'} hR hB hS hV => ⟨rfl, S', V', hR, fun x => (hB x).trans (by rw [show (u2 S 113 3 (n : Int)) 114 x = S 114 x by rw [u2_eq, if_neg (by omega)]]), (hS 113 3 (by decide)).trans q3', fun b j b1 b2 => (hS b j b1).trans (by rw [u2_eq, if_neg (by omega)]), hV⟩)) n (u := W) (c := 0) (rest := 0) (a := 0) (pl := 0) (Nat.le_refl _) hR (fun x => by rw [if_neg (by omega)]) (fun _ _ _ => rfl) (fun _ _ => rfl) hW0 (by rw [Nat.sub_self, Nat.pow_zero, Nat.div_one, Nat.mul_one, Nat.add_zero]) (by rw [Nat.pow_zero]; omega) (by omega) (by omega) (Or.inl ⟨rfl, rfl⟩) l0 l3 l4 l5 l6
set_option maxHeartbeats 4000000 in
theorem x_spell (hR : cX w0 L Z S V w) (ht : kd t = 2) (ht2 : 30 ≤ t ∧ t ≤ 75) (hW : wSt S V t rx O tw F) (hr : 2 ≤ rx ∧ rx ≤ 36) (bM : xbl (V (t + 1)) ≤ 4096) (hM : V (t + 1) ≠ 0) (hp : 2 ≤ S t 0 ∧ S t 0 ≤ 4096) (hx : (xbl (V (t + 1)) : Int) = S t 0) (hng : S t 2 = 0 ∨ S t 2 = 1) (bE : -20479 ≤ S t 3 ∧ S t 3 ≤ 16384) (hn : 1 ≤ n ∧ n ≤ 4112) (hn2 : (tw : Int) * (n : Int) ≤ 10100) (hs : S t 3 - S t 0 + (tw : Int) * ((n : Int) - F) = s) (hmo : 0 ≤ mode ∧ mode ≤ 5) : ∃ w', xRun (d + 9) 159 [Value.ref 113, Value.int (Int32.ofInt (n : Int)), Value.int (Int32.ofInt mode)] w (.inl (some (.int (Int32.ofInt (if rx ^ n ≤ spW (V (t + 1)) (S t 3 - S t 0) rx F (S t 2) n mode then F + 1 else F))))) w' ∧ ∃ S' V', cX w0 L Z S' V' w' ∧ hid (∀ x : Nat, S' 114 x = if x < n then (if x = 0 ∧ rx ^ n ≤ spW (V (t + 1)) (S t 3 - S t 0) rx F (S t 2) n mode then 49 else ltr ((spW (V (t + 1)) (S t 3 - S t 0) rx F (S t 2) n mode / rx ^ (n - 1 - x) % rx : Nat) : Int)) else S 114 x) ∧ S' 113 3 = (n : Int) ∧ hid (∀ b j, b ≠ 114 → ¬ (b = 113 ∧ j = 3) → b ≠ 79 → S' b j = S b j) ∧ pwP S' ∧ hid (∀ i, i ≠ 80 → i ≠ 82 → i ≠ 84 → i ≠ 87 → i ≠ 89 → i ≠ 91 → i ≠ 117 → i ≠ 119 → i ≠ 121 → i ≠ 123 → V' i = V i) := by
  have key : ∀ lv, xld lv 0 = some (Value.ref 113) → xld lv 1 = some (Value.int (Int32.ofInt (n : Int))) → xld lv 2 = some (Value.int (Int32.ofInt mode)) → xEv (d + 9) 159 0 lv [] w (fun o w' => o = .inl (some (.int (Int32.ofInt (if rx ^ n ≤ spW (V (t + 1)) (S t 3 - S t 0) rx F (S t 2) n mode then F + 1 else F)))) ∧ ∃ S' V', cX w0 L Z S' V' w' ∧ hid (∀ x : Nat, S' 114 x = if x < n then (if x = 0 ∧ rx ^ n ≤ spW (V (t + 1)) (S t 3 - S t 0) rx F (S t 2) n mode then 49 else ltr ((spW (V (t + 1)) (S t 3 - S t 0) rx F (S t 2) n mode / rx ^ (n - 1 - x) % rx : Nat) : Int)) else S 114 x) ∧ S' 113 3 = (n : Int) ∧ hid (∀ b j, b ≠ 114 → ¬ (b = 113 ∧ j = 3) → b ≠ 79 → S' b j = S b j) ∧ pwP S' ∧ hid (∀ i, i ≠ 80 → i ≠ 82 → i ≠ 84 → i ≠ 87 → i ≠ 89 → i ≠ 91 → i ≠ 117 → i ≠ 119 → i ≠ 121 → i ≠ 123 → V' i = V i)) := by
    intro lv l0 l1 l2
    obtain ⟨q1, q9, q10, q11, q12, q15, etw, hO2, bF, btF⟩ := hW
    have hO0 : 0 < O := by omega
    have hOr : O ≤ rx := by rw [etw]; exact Nat.le_mul_of_pos_left _ (Nat.two_pow_pos _)
    have bs : -100000 ≤ s ∧ s ≤ 100000 := by
      rw [Int.mul_sub] at hs
      have : 0 ≤ (tw : Int) * (n : Int) := Int.mul_nonneg (by omega) (by omega)
      omega
    refine i_159_0 (x := 113) l0 ?_
    refine i_159_1 (x := Int32.ofInt (n : Int)) l1 ?_
    refine i_159_2 (x := 113) l0 ?_
    refine i_159_3 (v := Value.int (Int32.ofInt (S 113 12))) (hR.k11 kq_113) rfl ?_
    rw [q12]
    refine i_159_6 (c := Int32.ofInt ((n : Int) - F)) (o_sub (n : Int) F) ?_
    have hobj := hR.k11 kq_113
    have hOb : xbl (O ^ ((n : Int) - F).natAbs) ≤ 150000 := by
      have g1 := xbl_npow O ((n : Int) - F).natAbs
      have g2 : xbl O ≤ 6 := xbl_le (by omega)
      have g3 : ((n : Int) - F).natAbs * xbl O ≤ 24700 * 6 := Nat.mul_le_mul (by omega) g2
      omega
    obtain ⟨w, hrun, S3, V3, hR, r1, r2, rG, rD, r117, rQ, rR, r6⟩ := x_scale (d := d + 2) (t := t) (O := O) (tw := tw) (k := (n : Int) - F) (s := s) hR ht ht2 q1 q9 q11 q15 hO0 (xbl_le (by omega)) (by omega) hOb bM hs bs
    have hD0 := wD_pos (O := O) (k := (n : Int) - F) (s := s) hO0
    have gD := wG_bl (O := O) (k := (n : Int) - F) (s := s) hO0 hOb (by omega)
    obtain ⟨G, eG⟩ : ∃ G, wG O ((n : Int) - F) s = G := ⟨_, rfl⟩
    obtain ⟨D, eD⟩ : ∃ D, wD O ((n : Int) - F) s = D := ⟨_, rfl⟩
    rw [eG] at rG r117 rQ rR gD
    rw [eD] at rD rQ rR hD0 gD
    try rw [eG, eD]
    obtain ⟨Q, eQ⟩ : ∃ Q, V (t + 1) * G / D = Q := ⟨_, rfl⟩
    obtain ⟨R, eR⟩ : ∃ R, V (t + 1) * G % D = R := ⟨_, rfl⟩
    rw [eQ] at rQ
    rw [eR] at rR
    have hRD : R < D := by rw [← eR]; exact Nat.mod_lt _ hD0
    have bR : xbl R ≤ 250000 := Nat.le_trans (xbl_mono (Nat.le_of_lt hRD)) gD.2
    have bDR : xbl (D - R) ≤ 250000 := Nat.le_trans (xbl_mono (Nat.sub_le _ _)) gD.2
    have hQb : xbl Q ≤ 255000 := by rw [← eQ]; exact Nat.le_trans (xbl_mono (Nat.div_le_self _ _)) (Nat.le_trans (xbl_prod _ _) (by omega))
    have k9 : S3 113 9 = (t : Int) := (r1 113 9 (by decide)).trans q9
    have k12 : S3 113 12 = F := (r1 113 12 (by decide)).trans q12
    have k10 : S3 113 10 = (rx : Int) := (r1 113 10 (by decide)).trans q10
    have kt : ∀ j, S3 t j = S t j := fun j => r1 t j (by omega)
    have eM : V3 (t + 1) = V (t + 1) := r6 (t + 1) (by omega) (by omega) (by omega) (by omega) (by omega) (by omega) (by omega) (by omega) (by omega)
    refine i_159_7 hobj (Nat.le_of_ble_eq_true rfl) hrun ?_
    refine i_159_10 (x := 113) l0 ?_
    refine i_159_11 (x := Int32.ofInt mode) l2 ?_
    have hobj := hR.k11 kq_113
    obtain ⟨w, hrun, V4, hR, r7⟩ := x_qup (d := d + 3) (t := t) (mode := mode) hR ht k9 (by rw [kt]; exact hng) hmo (by rw [rR]; omega)
    rw [rQ, rR, rD, kt] at hrun
    obtain ⟨up, eup⟩ : ∃ b, qUp mode (S t 2) Q R D = b := ⟨_, rfl⟩
    rw [eup] at hrun
    have v89 : V4 89 = R := (r7 89 (by decide)).trans rR
    have v87 : V4 87 = Q := (r7 87 (by decide)).trans rQ
    have v119 : V4 119 = D := (r7 119 (by decide)).trans rD
    have v121 : V4 121 = G := (r7 121 (by decide)).trans rG
    have vM : V4 (t + 1) = V (t + 1) := (r7 (t + 1) (by omega)).trans eM
    refine i_159_12 hobj (Nat.le_of_ble_eq_true rfl) hrun ?_
    refine i_159_15 (zb_f fun c0 => ?_) (zb_t fun c0 => ?_)
    · have eW : spW (V (t + 1)) (S t 3 - S t 0) rx F (S t 2) n mode = Q := by
        rw [spW_w etw hs, eG, eD, eQ, eR, eup, ‹up = false›]
        rfl
      rw [eW]
      refine (sp_T (d := d) (n := n) (W := Q) hR hr (by omega) k10 k12 v87 l0 l1).mono ?_
      intro o w' ⟨h1, S', V', hR', f1, f2, f3, f4⟩
      exact ⟨h1, S', V', hR', fun x => (f1 x).trans (by rw [r1 114 x (by decide)]), f2, fun b j b1 b2 b3 => (f3 b j b1 b2).trans (r1 b j b3), by unfold pwP at r2 ⊢; rw [f3 79 0 (by decide) (by decide), f3 79 1 (by decide) (by decide)]; exact r2, fun i i1 i2 i3 i4 i5 i6 i7 i8 i9 i10 => (f4 i i4).trans ((r7 i i10).trans (r6 i i1 i2 i3 i4 i5 i6 i7 i8 i9))⟩
    · refine i_159_18 (x := 113) l0 ?_
      refine i_159_19 (v := Value.ref 86) (hR.k11 kq_113) rfl ?_
      refine i_159_22 (v := Value.ref 87) (hR.k7 kq_86) rfl ?_
      refine i_159_25 ?_
      obtain ⟨fs, hobj⟩ := hR.nat kq_87
      obtain ⟨w, hrun, hR⟩ := X_addBit (d := d + 4) (h := 87) (u := Q) (p := 0) hR kq_87 v87 ⟨by decide, by decide⟩ (by omega)
      rw [show Int32.ofInt (0 : Int) = 0 from rfl] at hrun
      refine i_159_26 hobj (Nat.le_of_ble_eq_true rfl) hrun ?_
      have eW : spW (V (t + 1)) (S t 3 - S t 0) rx F (S t 2) n mode = Q + 1 := by
        rw [spW_w etw hs, eG, eD, eQ, eR, eup, ‹up = true›]
        rfl
      rw [eW]
      refine (sp_T (d := d) (n := n) (W := Q + 1) hR hr (by omega) k10 k12 uv_s l0 l1).mono ?_
      intro o w' ⟨h1, S', V', hR', f1, f2, f3, f4⟩
      exact ⟨h1, S', V', hR', fun x => (f1 x).trans (by rw [r1 114 x (by decide)]), f2, fun b j b1 b2 b3 => (f3 b j b1 b2).trans (r1 b j b3), by unfold pwP at r2 ⊢; rw [f3 79 0 (by decide) (by decide), f3 79 1 (by decide) (by decide)]; exact r2, fun i i1 i2 i3 i4 i5 i6 i7 i8 i9 i10 => (f4 i i4).trans ((uv_n i4).trans ((r7 i i10).trans (r6 i i1 i2 i3 i4 i5 i6 i7 i8 i9)))⟩
  obtain ⟨o, w', h1, rfl, h2⟩ := (key (lv_args 0 [Value.ref 113, Value.int (Int32.ofInt (n : Int)), Value.int (Int32.ofInt mode)]) rfl rfl rfl).run
  exact ⟨w', h1, h2⟩
end
