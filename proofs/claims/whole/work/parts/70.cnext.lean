/-! nextWord of the class's division -/
theorem q_low : (4294967295 : Int64) = Int64.ofInt ((4294967295 : Nat) : Int) := by decide +kernel
theorem exp3 {a b c P W : Nat} : W + c * P + b * (4294967296 * P) + a * (4294967296 * (4294967296 * P)) = ((a * 4294967296 + b) * 4294967296 + c) * P + W := by
  simp only [Nat.add_mul, Nat.mul_assoc]
  omega
theorem exp2 {a b P W : Nat} : W + b * P + a * (4294967296 * P) = (a * 4294967296 + b) * P + W := by
  simp only [Nat.add_mul, Nat.mul_assoc]
  omega
section
variable {w0 w : xW} {L Z : Nat} {A C B : Nat → Nat} {S S0 : Nat → Nat → Int} {V : Nat → Nat} {d : Nat}
theorem c_next {j n : Nat} (hR : cR w0 L Z A C B S w) (hn1 : 1 ≤ n) (hn : n ≤ C 91) (hj : j + n < C 89) (hh : 2147483648 ≤ cw (S (91 + 1)) (n - 1)) (hRD : cv (fun k => S (89 + 1) (j + k)) (n + 1) < cv (S (91 + 1)) n * 4294967296) : ∃ w' S', xRun (d + 1) 73 [.ref 86, .int (Int32.ofInt (j : Int)), .int (Int32.ofInt (n : Int))] w (.inl (some (.int (Int32.ofInt ((cv (fun k => S (89 + 1) (j + k)) (n + 1) / cv (S (91 + 1)) n : Nat) : Int))))) w' ∧ cR w0 L Z A C B S' w' ∧ (∀ b k, b ≠ 89 + 1 ∨ k < j ∨ j + n < k → S' b k = S b k) ∧ cv (fun k => S' (89 + 1) (j + k)) (n + 1) = cv (fun k => S (89 + 1) (j + k)) (n + 1) % cv (S (91 + 1)) n := by
  have hcap := hR.cap k89
  have hcap2 := hR.cap k91
  obtain ⟨high, hhe⟩ : ∃ high, high = cw (S (91 + 1)) (n - 1) := ⟨_, rfl⟩
  rw [← hhe] at hh
  have hhl : high < 4294967296 := by rw [hhe]; exact cw_lt
  obtain ⟨top, htop⟩ : ∃ top, top = cw (S (89 + 1)) (j + n) * 4294967296 + cw (S (89 + 1)) (j + n - 1) := ⟨_, rfl⟩
  have b1 : cw (S (89 + 1)) (j + n) < 4294967296 := cw_lt
  have b2 : cw (S (89 + 1)) (j + n - 1) < 4294967296 := cw_lt
  obtain ⟨R, hRe⟩ : ∃ R, R = cv (fun k => S (89 + 1) (j + k)) (n + 1) := ⟨_, rfl⟩
  obtain ⟨D, hDe⟩ : ∃ D, D = cv (S (91 + 1)) n := ⟨_, rfl⟩
  have eR : R = top * 2 ^ (32 * (n - 1)) + cv (fun k => S (89 + 1) (j + k)) (n - 1) := by
    obtain ⟨m, rfl⟩ : ∃ m, n = m + 1 := ⟨n - 1, by omega⟩
    rw [hRe, htop, cvw_s, cvw_s, pow_s, Nat.add_sub_cancel, show j + (m + 1) - 1 = j + m by omega]
    exact exp2
  have eD : D = high * 2 ^ (32 * (n - 1)) + cv (S (91 + 1)) (n - 1) := by
    obtain ⟨m, rfl⟩ : ∃ m, n = m + 1 := ⟨n - 1, by omega⟩
    rw [hDe, hhe, Nat.add_sub_cancel]
    exact Nat.add_comm _ _
  have hP : 0 < 2 ^ (32 * (n - 1)) := Nat.two_pow_pos _
  have hlr : cv (fun k => S (89 + 1) (j + k)) (n - 1) < 2 ^ (32 * (n - 1)) := cv_lt
  have hld : cv (S (91 + 1)) (n - 1) < 2 ^ (32 * (n - 1)) := cv_lt
  have hrn : cw (S (89 + 1)) (j + n) ≤ high := by
    rw [← hRe, ← hDe] at hRD
    have h1 : cw (S (89 + 1)) (j + n) * 4294967296 * 2 ^ (32 * (n - 1)) ≤ top * 2 ^ (32 * (n - 1)) := Nat.mul_le_mul_right _ (by omega)
    have h2 : (high + 1) * 4294967296 * 2 ^ (32 * (n - 1)) = high * 2 ^ (32 * (n - 1)) * 4294967296 + 2 ^ (32 * (n - 1)) * 4294967296 := by rw [Nat.mul_right_comm, Nat.add_mul, Nat.add_mul, Nat.one_mul]
    have h3 : cw (S (89 + 1)) (j + n) * 4294967296 * 2 ^ (32 * (n - 1)) < (high + 1) * 4294967296 * 2 ^ (32 * (n - 1)) := by rw [h2]; omega
    have h4 := Nat.lt_of_mul_lt_mul_right h3
    omega
  have hqM : R / D ≤ 4294967295 := by
    rw [← hRe, ← hDe] at hRD
    have h0 : 1 * 2 ^ (32 * (n - 1)) ≤ high * 2 ^ (32 * (n - 1)) := Nat.mul_le_mul_right _ (by omega)
    have := (Nat.div_lt_iff_lt_mul (show 0 < D by omega)).mpr (show R < 4294967296 * D by rw [Nat.mul_comm]; exact hRD)
    omega
  have hk1 : Unit → n = 1 → kn R D high 0 top 0 := fun _ e => by
    subst e
    have e1 : R = top := by rw [eR]; show top * 1 + 0 = top; omega
    have e2 : D = high := by rw [eD]; show high * 1 + 0 = high; omega
    rw [e1, e2]
    exact kn_one hh
  have hk2 : Unit → 2 ≤ n → kn R D high (cw (S (91 + 1)) (n - 2)) top (cw (S (89 + 1)) (j + n - 2)) := fun _ e => by
    obtain ⟨m, rfl⟩ : ∃ m, n = m + 2 := ⟨n - 2, by omega⟩
    refine kn_two (P2 := 2 ^ (32 * m)) (rl2 := cv (fun k => S (89 + 1) (j + k)) m) (dl2 := cv (S (91 + 1)) m) hh ?_ cv_lt ?_ cv_lt cw_lt cw_lt
    · rw [hRe, htop, show m + 2 + 1 = m + 1 + 1 + 1 by omega, show j + (m + 2) = j + (m + 1 + 1) by omega, show j + (m + 1 + 1) - 1 = j + (m + 1) by omega, show j + (m + 1 + 1) - 2 = j + m by omega, cvw_s, cvw_s, cvw_s]
      simp only [pow_s]
      exact exp3
    · rw [hDe, hhe, show m + 2 - 1 = m + 1 by omega, show m + 2 - 2 = m by omega]
      show cv (S (91 + 1)) m + cw (S (91 + 1)) m * 2 ^ (32 * m) + cw (S (91 + 1)) (m + 1) * 2 ^ (32 * (m + 1)) = _
      rw [pow_s]
      exact exp2
  have key : ∀ lv, xld lv 0 = some (.ref 86) → xld lv 1 = some (.int (Int32.ofInt (j : Int))) → xld lv 2 = some (.int (Int32.ofInt (n : Int))) → xEv (d + 1) 73 0 lv [] w (fun o w' => ∃ S', o = (.inl (some (.int (Int32.ofInt ((cv (fun k => S (89 + 1) (j + k)) (n + 1) / cv (S (91 + 1)) n : Nat) : Int))))) ∧ cR w0 L Z A C B S' w' ∧ (∀ b k, b ≠ 89 + 1 ∨ k < j ∨ j + n < k → S' b k = S b k) ∧ cv (fun k => S' (89 + 1) (j + k)) (n + 1) = cv (fun k => S (89 + 1) (j + k)) (n + 1) % cv (S (91 + 1)) n) := by
    rw [← hRe, ← hDe]
    have tail2 : ∀ nx th g lv, kn R D high nx top th → nx < 4294967296 → th < 4294967296 → g < 4294967296 → R / D ≤ g → g * high ≤ top → top ≤ g * high + 2 * 4294967296 → xld lv 0 = some (.ref 86) → xld lv 1 = some (.int (Int32.ofInt (j : Int))) → xld lv 2 = some (.int (Int32.ofInt (n : Int))) → xld lv 4 = some (.long (Int64.ofInt (high : Int))) → xld lv 6 = some (.long (Int64.ofInt (nx : Int))) → xld lv 8 = some (.long (Int64.ofInt (th : Int))) → xld lv 10 = some (.long (Int64.ofInt (top : Int))) → xEv (d + 1) 73 124 lv [.long (Int64.ofInt (g : Int))] w (fun o w' => ∃ S', o = (.inl (some (.int (Int32.ofInt ((R / D : Nat) : Int))))) ∧ cR w0 L Z A C B S' w' ∧ (∀ b k, b ≠ 89 + 1 ∨ k < j ∨ j + n < k → S' b k = S b k) ∧ cv (fun k => S' (89 + 1) (j + k)) (n + 1) = R % D) := by
      intro nx th g lv hK hnx hth g1 g2 g3 g4 l0 l1 l2 l4 l6 l8 l10
      have hp : 0 < D := hK.2.2.2.2
      rw [hRe, hDe] at g2 hK ⊢
      rw [hDe] at hp
      refine i_73_124 rfl ?_
      refine lgen2 (i := 12) (v := Value.long (Int64.ofInt (g : Int))) (fun lv lg ls => ?_)
      replace l0 := lg 0 _ rfl rfl l0
      replace l1 := lg 1 _ rfl rfl l1
      replace l2 := lg 2 _ rfl rfl l2
      replace l4 := lg 4 _ rfl rfl l4
      replace l6 := lg 6 _ rfl rfl l6
      replace l8 := lg 8 _ rfl rfl l8
      replace l10 := lg 10 _ rfl rfl l10
      have l12 := ls
      refine i_73_126 (x := Int64.ofInt (top : Int)) l10 ?_
      refine i_73_128 (x := Int64.ofInt (g : Int)) l12 ?_
      refine i_73_130 (x := Int64.ofInt (high : Int)) l4 ?_
      refine i_73_132 (c := Int64.ofInt ((g : Int) * (high : Int))) (q_mul (g : Int) (high : Int)) ?_
      refine i_73_133 (c := Int64.ofInt ((top : Int) - ((g : Int) * (high : Int)))) (q_sub (top : Int) ((g : Int) * (high : Int))) ?_
      obtain ⟨lf, hlf⟩ : ∃ lf : Nat, lf + g * high = top := ⟨top - g * high, by omega⟩
      rw [show (top : Int) - ((g : Int) * (high : Int)) = ((lf : Nat) : Int) by rw [← hlf, Int.natCast_add, Int.natCast_mul]; omega]
      refine i_73_134 rfl ?_
      refine lgen2 (i := 14) (v := Value.long (Int64.ofInt (lf : Int))) (fun lv lg ls => ?_)
      replace l12 := lg 12 _ rfl rfl l12
      replace l0 := lg 0 _ rfl rfl l0
      replace l1 := lg 1 _ rfl rfl l1
      replace l2 := lg 2 _ rfl rfl l2
      replace l4 := lg 4 _ rfl rfl l4
      replace l6 := lg 6 _ rfl rfl l6
      replace l8 := lg 8 _ rfl rfl l8
      replace l10 := lg 10 _ rfl rfl l10
      have l14 := ls
      refine i_73_136 ?_
      refine i_73_137 rfl ?_
      refine lgen1 (i := 16) (v := Value.int 0) (fun lv lg ls => ?_)
      replace l14 := lg 14 _ rfl rfl l14
      replace l12 := lg 12 _ rfl rfl l12
      replace l0 := lg 0 _ rfl rfl l0
      replace l1 := lg 1 _ rfl rfl l1
      replace l2 := lg 2 _ rfl rfl l2
      replace l4 := lg 4 _ rfl rfl l4
      replace l6 := lg 6 _ rfl rfl l6
      replace l8 := lg 8 _ rfl rfl l8
      replace l10 := lg 10 _ rfl rfl l10
      have l16 := ls
      exact nw_loop (q := cv (fun k => S (89 + 1) (j + k)) (n + 1) / cv (S (91 + 1)) n) hR hK.1 hK.2.1 hhl hnx hth 2 (k := 0) (g := g) (lf := lf) rfl g2 (hK.2.2.1 g g1 g3) g1 hlf (by omega) l0 l1 l2 l4 l6 l8 l12 l14 l16 (fun lv g' k1 k2 k3 l0 l1 l2 l12 => nw_end hR k3 hn hj hp k1 k2 l0 l1 l2 l12 (fun w' S' m1 m2 m3 => ⟨S', rfl, m1, m2, m3⟩))
    have tail : ∀ nx th lv, kn R D high nx top th → nx < 4294967296 → th < 4294967296 → xld lv 0 = some (.ref 86) → xld lv 1 = some (.int (Int32.ofInt (j : Int))) → xld lv 2 = some (.int (Int32.ofInt (n : Int))) → xld lv 3 = some (.ref (A 89)) → xld lv 4 = some (.long (Int64.ofInt (high : Int))) → xld lv 6 = some (.long (Int64.ofInt (nx : Int))) → xld lv 8 = some (.long (Int64.ofInt (th : Int))) → xEv (d + 1) 73 76 lv [] w (fun o w' => ∃ S', o = (.inl (some (.int (Int32.ofInt ((R / D : Nat) : Int))))) ∧ cR w0 L Z A C B S' w' ∧ (∀ b k, b ≠ 89 + 1 ∨ k < j ∨ j + n < k → S' b k = S b k) ∧ cv (fun k => S' (89 + 1) (j + k)) (n + 1) = R % D) := by
      intro nx th lv hK hnx hth l0 l1 l2 l3 l4 l6 l8
      refine i_73_76 (x := A 89) l3 ?_
      refine i_73_77 (x := Int32.ofInt (j : Int)) l1 ?_
      refine i_73_78 (x := Int32.ofInt (n : Int)) l2 ?_
      refine i_73_79 (c := Int32.ofInt ((j : Int) + (n : Int))) (o_add (j : Int) (n : Int)) ?_
      refine i_73_80 (v := Value.int (Int32.ofInt (S (89 + 1) (j + n)))) (hR.w3 k89) (ix0 (T := (j : Int) + (n : Int)) (by omega) (by omega)) (ix1 (T := (j : Int) + (n : Int)) (by omega) (by omega) (by omega)) (ra (T := (j : Int) + (n : Int)) (by omega) (by omega) (congrArg _ (by omega))) ?_
      refine i_73_81 rfl ?_
      refine i_73_82 ?_
      refine i_73_84 (c := Int64.ofInt ((cw (S (89 + 1)) (j + n) * 2 ^ 32 : Nat) : Int)) hiw ?_
      refine i_73_85 (x := A 89) l3 ?_
      refine i_73_86 (x := Int32.ofInt (j : Int)) l1 ?_
      refine i_73_87 (x := Int32.ofInt (n : Int)) l2 ?_
      refine i_73_88 (c := Int32.ofInt ((j : Int) + (n : Int))) (o_add (j : Int) (n : Int)) ?_
      refine i_73_89 ?_
      refine i_73_90 (c := Int32.ofInt (((j : Int) + (n : Int)) - 1)) (o_sub ((j : Int) + (n : Int)) 1) ?_
      refine i_73_91 (v := Value.int (Int32.ofInt (S (89 + 1) (j + n - 1)))) (hR.w3 k89) (ix0 (T := ((j : Int) + (n : Int)) - 1) (by omega) (by omega)) (ix1 (T := ((j : Int) + (n : Int)) - 1) (by omega) (by omega) (by omega)) (ra (T := ((j : Int) + (n : Int)) - 1) (by omega) (by omega) (congrArg _ (by omega))) ?_
      refine i_73_92 rfl ?_
      refine i_73_93 ?_
      refine i_73_96 (c := Int64.ofInt (cw (S (89 + 1)) (j + n - 1) : Int)) (lowcw) ?_
      refine i_73_97 (c := Int64.ofInt (top : Int)) ((q_or32 cw_lt cw_lt).trans (by rw [htop])) ?_
      refine i_73_98 rfl ?_
      refine lgen2 (i := 10) (v := Value.long (Int64.ofInt (top : Int))) (fun lv lg ls => ?_)
      replace l0 := lg 0 _ rfl rfl l0
      replace l1 := lg 1 _ rfl rfl l1
      replace l2 := lg 2 _ rfl rfl l2
      replace l3 := lg 3 _ rfl rfl l3
      replace l4 := lg 4 _ rfl rfl l4
      replace l6 := lg 6 _ rfl rfl l6
      replace l8 := lg 8 _ rfl rfl l8
      have l10 := ls
      refine i_73_100 (x := Int64.ofInt (top : Int)) l10 ?_
      refine i_73_102 ?_
      refine i_73_104 (c := Int64.ofInt ((top : Int) / 4294967296)) (q_ushr32 (t := (top : Int)) (by omega) (by omega)) ?_
      refine i_73_105 (x := Int64.ofInt (high : Int)) l4 ?_
      refine i_73_107 (c := Int32.ofInt (lc ((top : Int) / 4294967296) (high : Int))) (q_cmp (a := (top : Int) / 4294967296) (b := (high : Int)) ⟨by omega, by omega⟩ ⟨by omega, by omega⟩) ?_
      refine i_73_108 (lc_lt (a := (top : Int) / 4294967296) (b := (high : Int)) fun c40 => ?_) (lc_ge (a := (top : Int) / 4294967296) (b := (high : Int)) fun c40 => ?_)
      · refine i_73_117 (x := Int64.ofInt (top : Int)) l10 ?_
        refine i_73_119 (x := Int64.ofInt (high : Int)) l4 ?_
        have hrun := c_dw (d := d) (w := w) (x := top) (dv := high) (by omega) ⟨by omega, hhl⟩
        refine i_73_121 (Nat.le_of_ble_eq_true rfl) hrun ?_
        have hm := Nat.div_add_mod top high
        have hm2 := Nat.mod_lt top (show 0 < high by omega)
        rw [Nat.mul_comm] at hm
        exact tail2 nx th (top / high) lv hK hnx hth ((Nat.div_lt_iff_lt_mul (show 0 < high by omega)).mpr (by omega)) ((Nat.le_div_iff_mul_le (show 0 < high by omega)).mpr hK.2.2.2.1) (by omega) (by omega) l0 l1 l2 l4 l6 l8 l10
      · refine i_73_111 ?_
        refine i_73_114 ?_
        rw [q_low]
        exact tail2 nx th 4294967295 lv hK hnx hth (by decide) hqM (by omega) (by omega) l0 l1 l2 l4 l6 l8 l10
    intro lv l0 l1 l2
    refine i_73_0 (x := 86) l0 ?_
    refine i_73_1 (v := Value.ref 89) hR.dvn rfl ?_
    refine i_73_4 (v := Value.ref (A 89)) (hR.n3 k89) rfl ?_
    refine i_73_7 rfl ?_
    refine lgen1 (i := 3) (v := Value.ref (A 89)) (fun lv lg ls => ?_)
    replace l0 := lg 0 _ rfl rfl l0
    replace l1 := lg 1 _ rfl rfl l1
    replace l2 := lg 2 _ rfl rfl l2
    have l3 := ls
    refine i_73_8 (x := 86) l0 ?_
    refine i_73_9 (v := Value.ref 91) hR.dvn rfl ?_
    refine i_73_12 (v := Value.ref (A 91)) (hR.n3 k91) rfl ?_
    refine i_73_15 (x := Int32.ofInt (n : Int)) l2 ?_
    refine i_73_16 ?_
    refine i_73_17 (c := Int32.ofInt ((n : Int) - 1)) (o_sub (n : Int) 1) ?_
    refine i_73_18 (v := Value.int (Int32.ofInt (S (91 + 1) (n - 1)))) (hR.w3 k91) (ix0 (T := (n : Int) - 1) (by omega) (by omega)) (ix1 (T := (n : Int) - 1) (by omega) (by omega) (by omega)) (ra (T := (n : Int) - 1) (by omega) (by omega) (congrArg _ (by omega))) ?_
    refine i_73_19 rfl ?_
    refine i_73_20 ?_
    refine i_73_23 (c := Int64.ofInt (cw (S (91 + 1)) (n - 1) : Int)) (lowcw) ?_
    refine i_73_24 rfl ?_
    refine lgen2 (i := 4) (v := Value.long (Int64.ofInt (cw (S (91 + 1)) (n - 1) : Int))) (fun lv lg ls => ?_)
    replace l3 := lg 3 _ rfl rfl l3
    replace l0 := lg 0 _ rfl rfl l0
    replace l1 := lg 1 _ rfl rfl l1
    replace l2 := lg 2 _ rfl rfl l2
    have l4 := ls
    refine i_73_26 (x := Int32.ofInt (n : Int)) l2 ?_
    refine i_73_27 ?_
    refine i_73_28 (b_le (a := (n : Int)) (b := 1) ⟨by omega, by omega⟩ ⟨by decide, by decide⟩ fun c60 => ?_) (b_lt (a := 1) (b := (n : Int)) ⟨by decide, by decide⟩ ⟨by omega, by omega⟩ fun c60 => ?_)
    · refine i_73_50 ?_
      refine i_73_51 rfl ?_
      refine lgen2 (i := 6) (v := Value.long 0) (fun lv lg ls => ?_)
      replace l4 := lg 4 _ rfl rfl l4
      replace l3 := lg 3 _ rfl rfl l3
      replace l0 := lg 0 _ rfl rfl l0
      replace l1 := lg 1 _ rfl rfl l1
      replace l2 := lg 2 _ rfl rfl l2
      have l6 := ls
      refine i_73_53 (x := Int32.ofInt (n : Int)) l2 ?_
      refine i_73_54 ?_
      refine i_73_55 (b_le (a := (n : Int)) (b := 1) ⟨by omega, by omega⟩ ⟨by decide, by decide⟩ fun c61 => ?_) (b_lt (a := 1) (b := (n : Int)) ⟨by decide, by decide⟩ ⟨by omega, by omega⟩ fun c61 => absurd c61 (by omega))
      refine i_73_73 ?_
      refine i_73_74 rfl ?_
      refine lgen2 (i := 8) (v := Value.long 0) (fun lv lg ls => ?_)
      replace l6 := lg 6 _ rfl rfl l6
      replace l4 := lg 4 _ rfl rfl l4
      replace l3 := lg 3 _ rfl rfl l3
      replace l0 := lg 0 _ rfl rfl l0
      replace l1 := lg 1 _ rfl rfl l1
      replace l2 := lg 2 _ rfl rfl l2
      have l8 := ls
      rw [← hhe] at l4
      exact tail 0 0 lv (hk1 () (by omega)) (by decide) (by decide) l0 l1 l2 l3 l4 l6 l8
    · refine i_73_31 (x := 86) l0 ?_
      refine i_73_32 (v := Value.ref 91) hR.dvn rfl ?_
      refine i_73_35 (v := Value.ref (A 91)) (hR.n3 k91) rfl ?_
      refine i_73_38 (x := Int32.ofInt (n : Int)) l2 ?_
      refine i_73_39 ?_
      refine i_73_40 (c := Int32.ofInt ((n : Int) - 2)) (o_sub (n : Int) 2) ?_
      refine i_73_41 (v := Value.int (Int32.ofInt (S (91 + 1) (n - 2)))) (hR.w3 k91) (ix0 (T := (n : Int) - 2) (by omega) (by omega)) (ix1 (T := (n : Int) - 2) (by omega) (by omega) (by omega)) (ra (T := (n : Int) - 2) (by omega) (by omega) (congrArg _ (by omega))) ?_
      refine i_73_42 rfl ?_
      refine i_73_43 ?_
      refine i_73_46 (c := Int64.ofInt (cw (S (91 + 1)) (n - 2) : Int)) (lowcw) ?_
      refine i_73_47 ?_
      refine i_73_51 rfl ?_
      refine lgen2 (i := 6) (v := Value.long (Int64.ofInt (cw (S (91 + 1)) (n - 2) : Int))) (fun lv lg ls => ?_)
      replace l4 := lg 4 _ rfl rfl l4
      replace l3 := lg 3 _ rfl rfl l3
      replace l0 := lg 0 _ rfl rfl l0
      replace l1 := lg 1 _ rfl rfl l1
      replace l2 := lg 2 _ rfl rfl l2
      have l6 := ls
      refine i_73_53 (x := Int32.ofInt (n : Int)) l2 ?_
      refine i_73_54 ?_
      refine i_73_55 (b_le (a := (n : Int)) (b := 1) ⟨by omega, by omega⟩ ⟨by decide, by decide⟩ fun c62 => absurd c62 (by omega)) (b_lt (a := 1) (b := (n : Int)) ⟨by decide, by decide⟩ ⟨by omega, by omega⟩ fun c62 => ?_)
      refine i_73_58 (x := A 89) l3 ?_
      refine i_73_59 (x := Int32.ofInt (j : Int)) l1 ?_
      refine i_73_60 (x := Int32.ofInt (n : Int)) l2 ?_
      refine i_73_61 (c := Int32.ofInt ((j : Int) + (n : Int))) (o_add (j : Int) (n : Int)) ?_
      refine i_73_62 ?_
      refine i_73_63 (c := Int32.ofInt (((j : Int) + (n : Int)) - 2)) (o_sub ((j : Int) + (n : Int)) 2) ?_
      refine i_73_64 (v := Value.int (Int32.ofInt (S (89 + 1) (j + n - 2)))) (hR.w3 k89) (ix0 (T := ((j : Int) + (n : Int)) - 2) (by omega) (by omega)) (ix1 (T := ((j : Int) + (n : Int)) - 2) (by omega) (by omega) (by omega)) (ra (T := ((j : Int) + (n : Int)) - 2) (by omega) (by omega) (congrArg _ (by omega))) ?_
      refine i_73_65 rfl ?_
      refine i_73_66 ?_
      refine i_73_69 (c := Int64.ofInt (cw (S (89 + 1)) (j + n - 2) : Int)) (lowcw) ?_
      refine i_73_70 ?_
      refine i_73_74 rfl ?_
      refine lgen2 (i := 8) (v := Value.long (Int64.ofInt (cw (S (89 + 1)) (j + n - 2) : Int))) (fun lv lg ls => ?_)
      replace l6 := lg 6 _ rfl rfl l6
      replace l4 := lg 4 _ rfl rfl l4
      replace l3 := lg 3 _ rfl rfl l3
      replace l0 := lg 0 _ rfl rfl l0
      replace l1 := lg 1 _ rfl rfl l1
      replace l2 := lg 2 _ rfl rfl l2
      have l8 := ls
      rw [← hhe] at l4
      exact tail _ _ lv (hk2 () (by omega)) cw_lt cw_lt l0 l1 l2 l3 l4 l6 l8
  obtain ⟨o, w', h1, S', rfl, h2⟩ := (key (lv_args 0 [.ref 86, .int (Int32.ofInt (j : Int)), .int (Int32.ofInt (n : Int))]) rfl rfl rfl).run
  exact ⟨w', S', h1, h2⟩
end
