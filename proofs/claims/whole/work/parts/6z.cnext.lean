/-! the ends of nextWord of the class's division -/
theorem nw_lt {T Lf G gn th : Nat} (h : T = Lf + G) (c : Lf + th < gn) : T + th < G + gn := by omega
section
variable {w0 w : xW} {L Z : Nat} {A C B : Nat → Nat} {S S0 : Nat → Nat → Int} {V : Nat → Nat} {d : Nat}
theorem nw_end {j n g : Nat} {lv : xLv} {Q : Option Value ⊕ Nat → xW → Prop} (hR : cR w0 L Z A C B S w) (hg : g < 4294967296) (hn : n ≤ C 91) (hj : j + n < C 89) (hp : 0 < cv (S (91 + 1)) n) (q1 : cv (fun k => S (89 + 1) (j + k)) (n + 1) / cv (S (91 + 1)) n ≤ g) (q2 : g ≤ cv (fun k => S (89 + 1) (j + k)) (n + 1) / cv (S (91 + 1)) n + 1) (l0 : xld lv 0 = some (.ref 86)) (l1 : xld lv 1 = some (.int (Int32.ofInt (j : Int)))) (l2 : xld lv 2 = some (.int (Int32.ofInt (n : Int)))) (l12 : xld lv 12 = some (.long (Int64.ofInt (g : Int))))
    (hQ : ∀ w' S', cR w0 L Z A C B S' w' → (∀ b k, b ≠ 89 + 1 ∨ k < j ∨ j + n < k → S' b k = S b k) → cv (fun k => S' (89 + 1) (j + k)) (n + 1) = cv (fun k => S (89 + 1) (j + k)) (n + 1) % cv (S (91 + 1)) n → Q (.inl (some (.int (Int32.ofInt ((cv (fun k => S (89 + 1) (j + k)) (n + 1) / cv (S (91 + 1)) n : Nat) : Int))))) w') : xEv (d + 1) 73 192 lv [] w Q := by
  have hcap := hR.cap k89
  have hcap2 := hR.cap k91
  have hdm := Nat.div_add_mod (cv (fun k => S (89 + 1) (j + k)) (n + 1)) (cv (S (91 + 1)) n)
  refine i_73_192 (x := 86) l0 ?_
  refine i_73_193 (x := Int32.ofInt (j : Int)) l1 ?_
  refine i_73_194 (x := Int32.ofInt (n : Int)) l2 ?_
  refine i_73_195 (x := Int64.ofInt (g : Int)) l12 ?_
  obtain ⟨w1, S1, z, hrun, hR1, t1, t2⟩ := c_take (d := d) (j := j) (n := n) (g := g) hR hg hn hj
  have hobj := hR.dvn
  replace hR := hR1
  refine i_73_197 hobj (Nat.le_of_ble_eq_true rfl) hrun ?_
  rcases t2 with ⟨rfl, t2⟩ | ⟨rfl, t3, t2⟩
  · have hgq : g = cv (fun k => S (89 + 1) (j + k)) (n + 1) / cv (S (91 + 1)) n := by
      have h1 := (Nat.le_div_iff_mul_le hp).mpr (show g * cv (S (91 + 1)) n ≤ cv (fun k => S (89 + 1) (j + k)) (n + 1) by rw [Nat.mul_comm]; omega)
      exact Nat.le_antisymm h1 q1
    have hDg : cv (S (91 + 1)) n * g = cv (S (91 + 1)) n * (cv (fun k => S (89 + 1) (j + k)) (n + 1) / cv (S (91 + 1)) n) := by rw [← hgq]
    refine i_73_200 (z_eq (a := 0) ⟨by omega, by omega⟩ fun c0 => ?_) (z_ne (a := 0) ⟨by omega, by omega⟩ fun c0 => absurd c0 (by omega))
    refine i_73_215 (x := Int64.ofInt (g : Int)) l12 ?_
    refine i_73_217 (c := Int32.ofInt (g : Int)) (q_l2i (g : Int)) ?_
    refine i_73_218 ?_
    rw [show (g : Int) = ((cv (fun k => S (89 + 1) (j + k)) (n + 1) / cv (S (91 + 1)) n : Nat) : Int) by rw [← hgq]]
    exact hQ _ _ hR t1 (by omega)
  · have hgq : g = cv (fun k => S (89 + 1) (j + k)) (n + 1) / cv (S (91 + 1)) n + 1 := by
      have h1 := (Nat.div_lt_iff_lt_mul hp).mpr (show cv (fun k => S (89 + 1) (j + k)) (n + 1) < g * cv (S (91 + 1)) n by rw [Nat.mul_comm g]; exact t3)
      exact Nat.le_antisymm q2 h1
    have hDg : cv (S (91 + 1)) n * g = cv (S (91 + 1)) n * (cv (fun k => S (89 + 1) (j + k)) (n + 1) / cv (S (91 + 1)) n) + cv (S (91 + 1)) n := by rw [hgq, Nat.mul_add, Nat.mul_one]
    have eD1 : cv (S1 (91 + 1)) n = cv (S (91 + 1)) n := cv_same (fun k _ => t1 _ _ (Or.inl (by decide)))
    refine i_73_200 (z_eq (a := 1) ⟨by omega, by omega⟩ fun c0 => absurd c0 (by omega)) (z_ne (a := 1) ⟨by omega, by omega⟩ fun c0 => ?_)
    refine i_73_203 (x := Int64.ofInt (g : Int)) l12 ?_
    refine i_73_205 ?_
    refine i_73_206 (c := Int64.ofInt ((g : Int) - 1)) (q_sub (g : Int) 1) ?_
    refine i_73_207 rfl ?_
    refine lgen2 (i := 12) (v := Value.long (Int64.ofInt ((g : Int) - 1))) (fun lv lg ls => ?_)
    replace l0 := lg 0 _ rfl rfl l0
    replace l1 := lg 1 _ rfl rfl l1
    replace l2 := lg 2 _ rfl rfl l2
    have l12 := ls
    refine i_73_209 (x := 86) l0 ?_
    refine i_73_210 (x := Int32.ofInt (j : Int)) l1 ?_
    refine i_73_211 (x := Int32.ofInt (n : Int)) l2 ?_
    obtain ⟨w2, S2, hrun, hR2, u1, u2⟩ := c_put (d := d) (j := j) (n := n) hR hn hj (by rw [eD1]; omega)
    have hobj := hR.dvn
    replace hR := hR2
    refine i_73_212 hobj (Nat.le_of_ble_eq_true rfl) hrun ?_
    refine i_73_215 (x := Int64.ofInt ((g : Int) - 1)) l12 ?_
    refine i_73_217 (c := Int32.ofInt ((g : Int) - 1)) (q_l2i ((g : Int) - 1)) ?_
    refine i_73_218 ?_
    rw [show (g : Int) - 1 = ((cv (fun k => S (89 + 1) (j + k)) (n + 1) / cv (S (91 + 1)) n : Nat) : Int) by rw [hgq]; omega]
    exact hQ _ _ hR (fun b k hb => by rw [u1 b k hb, t1 b k hb]) (by rw [eD1] at u2; omega)
theorem nw_loop {j n high nx top th q : Nat} {Q : Option Value ⊕ Nat → xW → Prop} (hR : cR w0 L Z A C B S w) (f1 : ∀ g, g < 4294967296 → g * (high * 4294967296 + nx) ≤ top * 4294967296 + th → g ≤ q + 1) (f2 : ∀ g, top * 4294967296 + th < g * (high * 4294967296 + nx) → q < g) (hh : high < 4294967296) (hnx : nx < 4294967296) (hth : th < 4294967296) : ∀ (t : Nat) {k g lf : Nat} {lv : xLv}, k + t = 2 → q ≤ g → g + k ≤ q + 2 → g < 4294967296 → lf + g * high = top → lf ≤ (2 + k) * 4294967296 → xld lv 0 = some (.ref 86) → xld lv 1 = some (.int (Int32.ofInt (j : Int))) → xld lv 2 = some (.int (Int32.ofInt (n : Int))) → xld lv 4 = some (.long (Int64.ofInt (high : Int))) → xld lv 6 = some (.long (Int64.ofInt (nx : Int))) → xld lv 8 = some (.long (Int64.ofInt (th : Int))) → xld lv 12 = some (.long (Int64.ofInt (g : Int))) → xld lv 14 = some (.long (Int64.ofInt (lf : Int))) → xld lv 16 = some (.int (Int32.ofInt (k : Int))) →
    (∀ lv' (g' : Nat), q ≤ g' → g' ≤ q + 1 → g' < 4294967296 → xld lv' 0 = some (.ref 86) → xld lv' 1 = some (.int (Int32.ofInt (j : Int))) → xld lv' 2 = some (.int (Int32.ofInt (n : Int))) → xld lv' 12 = some (.long (Int64.ofInt (g' : Int))) → xEv (d + 1) 73 192 lv' [] w Q) → xEv (d + 1) 73 139 lv [] w Q := by
  intro t
  induction t with
  | zero =>
    intro k g lf lv hk hq1 hq2 hg htop hlf l0 l1 l2 l4 l6 l8 l12 l14 l16 hQ
    refine i_73_139 l16 ?_
    refine i_73_141 ?_
    refine i_73_142 (b_le (a := 2) (b := (k : Int)) ⟨by decide, by decide⟩ ⟨by omega, by omega⟩ fun _ => ?_) (b_lt (a := (k : Int)) (b := 2) ⟨by omega, by omega⟩ ⟨by decide, by decide⟩ fun g => absurd g (by omega))
    exact hQ lv g hq1 (by omega) hg l0 l1 l2 l12
  | succ t ih =>
    intro k g lf lv hk hq1 hq2 hg htop hlf l0 l1 l2 l4 l6 l8 l12 l14 l16 hQ
    obtain ⟨gn, hgn⟩ : ∃ gn, gn = g * nx := ⟨_, rfl⟩
    have hgb : gn ≤ 4294967295 * 4294967295 := by rw [hgn]; exact Nat.mul_le_mul (by omega) (by omega)
    have hexp : g * (high * 4294967296 + nx) = g * high * 4294967296 + gn := by rw [Nat.mul_add, ← Nat.mul_assoc, hgn]
    have htm : top * 4294967296 = lf * 4294967296 + g * high * 4294967296 := by rw [← htop, Nat.add_mul]
    refine i_73_139 (x := Int32.ofInt (k : Int)) l16 ?_
    refine i_73_141 ?_
    refine i_73_142 (b_le (a := 2) (b := (k : Int)) ⟨by decide, by decide⟩ ⟨by omega, by omega⟩ fun c0 => absurd c0 (by omega)) (b_lt (a := (k : Int)) (b := 2) ⟨by omega, by omega⟩ ⟨by decide, by decide⟩ fun c0 => ?_)
    refine i_73_145 (x := Int64.ofInt (lf : Int)) l14 ?_
    refine i_73_147 ?_
    refine i_73_150 (c := Int32.ofInt (lc (lf : Int) 4294967295)) (q_cmp (a := (lf : Int)) (b := 4294967295) ⟨by omega, by omega⟩ ⟨by decide, by decide⟩) ?_
    refine i_73_151 (lc_gt (a := (lf : Int)) (b := 4294967295) fun c1 => ?_) (lc_le (a := (lf : Int)) (b := 4294967295) fun c1 => ?_)
    · refine hQ lv g hq1 (f1 g hg ?_) hg l0 l1 l2 l12
      omega
    · refine i_73_154 (x := Int64.ofInt (g : Int)) l12 ?_
      refine i_73_156 (x := Int64.ofInt (nx : Int)) l6 ?_
      refine i_73_158 (c := Int64.ofInt ((g : Int) * (nx : Int))) (q_mul (g : Int) (nx : Int)) ?_
      rw [show (g : Int) * (nx : Int) = ((gn : Nat) : Int) by rw [hgn, Int.natCast_mul]]
      refine i_73_159 (x := Int64.ofInt (lf : Int)) l14 ?_
      refine i_73_161 ?_
      refine i_73_163 (c := Int64.ofInt ((lf * 2 ^ 32 : Nat) : Int)) (q_shlN (a := lf) (q := 32) rfl (by decide) (by omega)) ?_
      refine i_73_164 (x := Int64.ofInt (th : Int)) l8 ?_
      refine i_73_166 (c := Int64.ofInt ((lf * 4294967296 + th : Nat) : Int)) (q_or32 (by omega) hth) ?_
      have hrun := c_above (d := d) (w := w) (a := gn) (b := lf * 4294967296 + th) (by omega) (by omega)
      refine i_73_167 (Nat.le_of_ble_eq_true rfl) hrun ?_
      refine i_73_170 (zb_f fun c30 => ?_) (zb_t fun c30 => ?_)
      · have c2n : gn ≤ lf * 4294967296 + th := by
          have := of_decide_eq_false c30
          omega
        refine hQ lv g hq1 (f1 g hg ?_) hg l0 l1 l2 l12
        omega
      · refine i_73_173 (x := Int64.ofInt (g : Int)) l12 ?_
        refine i_73_175 ?_
        refine i_73_176 (c := Int64.ofInt ((g : Int) - 1)) (q_sub (g : Int) 1) ?_
        refine i_73_177 rfl ?_
        refine lgen2 (i := 12) (v := Value.long (Int64.ofInt ((g : Int) - 1))) (fun lv lg ls => ?_)
        replace l0 := lg 0 _ rfl rfl l0
        replace l1 := lg 1 _ rfl rfl l1
        replace l2 := lg 2 _ rfl rfl l2
        replace l4 := lg 4 _ rfl rfl l4
        replace l6 := lg 6 _ rfl rfl l6
        replace l8 := lg 8 _ rfl rfl l8
        replace l14 := lg 14 _ rfl rfl l14
        replace l16 := lg 16 _ rfl rfl l16
        have l12 := ls
        refine i_73_179 (x := Int64.ofInt (lf : Int)) l14 ?_
        refine i_73_181 (x := Int64.ofInt (high : Int)) l4 ?_
        refine i_73_183 (c := Int64.ofInt ((lf : Int) + (high : Int))) (q_add (lf : Int) (high : Int)) ?_
        refine i_73_184 rfl ?_
        refine lgen2 (i := 14) (v := Value.long (Int64.ofInt ((lf : Int) + (high : Int)))) (fun lv lg ls => ?_)
        replace l12 := lg 12 _ rfl rfl l12
        replace l0 := lg 0 _ rfl rfl l0
        replace l1 := lg 1 _ rfl rfl l1
        replace l2 := lg 2 _ rfl rfl l2
        replace l4 := lg 4 _ rfl rfl l4
        replace l6 := lg 6 _ rfl rfl l6
        replace l8 := lg 8 _ rfl rfl l8
        replace l16 := lg 16 _ rfl rfl l16
        have l14 := ls
        refine i_73_186 (x := (Int32.ofInt (k : Int))) (c := (Int32.ofInt ((k : Int) + 1))) l16 (o_add (k : Int) 1) rfl ?_
        refine lgen1 (i := 16) (v := Value.int (Int32.ofInt ((k : Int) + 1))) (fun lv lg ls => ?_)
        replace l14 := lg 14 _ rfl rfl l14
        replace l12 := lg 12 _ rfl rfl l12
        replace l0 := lg 0 _ rfl rfl l0
        replace l1 := lg 1 _ rfl rfl l1
        replace l2 := lg 2 _ rfl rfl l2
        replace l4 := lg 4 _ rfl rfl l4
        replace l6 := lg 6 _ rfl rfl l6
        replace l8 := lg 8 _ rfl rfl l8
        have l16 := ls
        refine i_73_189 ?_
        have c2n : lf * 4294967296 + th < gn := of_decide_eq_true c30
        have h5 := nw_lt htm c2n
        rw [← hexp] at h5
        have hlt := f2 g h5
        rw [show (g : Int) - 1 = ((g - 1 : Nat) : Int) by omega] at l12
        rw [show (lf : Int) + (high : Int) = ((lf + high : Nat) : Int) by omega] at l14
        refine ih (k := k + 1) (g := g - 1) (lf := lf + high) (by omega) (by omega) (by omega) (by omega) ?_ (by omega) l0 l1 l2 l4 l6 l8 l12 l14 l16 hQ
        obtain ⟨g2, rfl⟩ : ∃ g2, g = g2 + 1 := ⟨g - 1, by omega⟩
        rw [Nat.add_sub_cancel]
        rw [Nat.add_mul, Nat.one_mul] at htop
        omega
end
