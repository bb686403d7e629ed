/-! divide of the class's division, by value -/
theorem shf_back {a s : Nat} : shf (a * 2 ^ s) (-(s : Int)) = a := by
  unfold shf
  split
  · rw [show s = 0 by omega]
    show a * 1 * 1 = a
    omega
  · rw [show (-(-(s : Int))).toNat = s by omega, Nat.mul_div_cancel _ (Nat.two_pow_pos _)]
theorem xbl_lt' {x y : Nat} (h : xbl x < xbl y) (hy : y ≠ 0) : x < y := by
  have h1 := xbl_of hy
  by_cases g : x = 0
  · omega
  · have h2 := xbl_of g
    exact Nat.lt_of_lt_of_le h2.2.1 (Nat.le_trans (Nat.pow_le_pow_right (by decide) (by omega)) h1.1)
section
variable {w0 w : xW} {L Z : Nat} {A C B : Nat → Nat} {S S0 : Nat → Nat → Int} {V : Nat → Nat} {d : Nat}
theorem dv_rest {x y s n : Nat} {V3 : Nat → Nat} {lv : xLv} {Q : Option Value ⊕ Nat → xW → Prop} (hR : cX w0 L Z S V3 w) (h87 : V3 87 = 0) (h89 : V3 89 = x * 2 ^ s) (h91 : V3 91 = y * 2 ^ s) (hy : y ≠ 0) (hb : xbl (y * 2 ^ s) = 32 * n) (hn1 : 1 ≤ n) (hs32 : s < 32) (hxb : xbl (x * 2 ^ s) ≤ 610000) (hge : n ≤ (xbl (x * 2 ^ s) + 31) / 32) (l0 : xld lv 0 = some (.ref 86)) (l3 : xld lv 3 = some (.int (Int32.ofInt (n : Int)))) (l4 : xld lv 4 = some (.int (Int32.ofInt (s : Int)))) (hQ : ∀ w', cX w0 L Z S (uv (uv V3 87 (x / y)) 89 (x % y)) w' → Q (.inl none) w') : xEv (d + 4) 72 68 lv [] w Q := by
  obtain ⟨A, C, B, S0, hR, hv, hs⟩ := hR
  obtain ⟨N, N1, N2, N3, N4⟩ := hv 89 k89
  obtain ⟨n', D1, D2, D3, D4⟩ := hv 91 k91
  obtain ⟨z, Q1, Q2, Q3, Q4⟩ := hv 87 k87
  rw [h89] at N3
  rw [h91] at D3
  rw [h87] at Q3
  have hNs : N = (xbl (x * 2 ^ s) + 31) / 32 := by rw [← N3]; exact nv_size N4
  have hns : n' = n := by
    have := nv_size D4
    rw [D3, hb] at this
    omega
  subst hns
  have hz : z = 0 := by
    have := nv_size Q4
    rw [Q3, xbl_zero] at this
    omega
  rw [hz] at Q1
  have hDp : 0 < y * 2 ^ s := Nat.mul_pos (by omega) (Nat.two_pow_pos _)
  have hcap := hR.cap k89
  have htw : 2147483648 ≤ cw (S0 (91 + 1)) (n' - 1) := by
    obtain ⟨m, rfl⟩ : ∃ m, n' = m + 1 := ⟨n' - 1, by omega⟩
    have h0 : cw (S0 (91 + 1)) m ≠ 0 := by
      rcases D4 with g | g
      · omega
      · exact g
    have h1 := cv_bl h0
    rw [D3, hb] at h1
    have h2 := (xbl_of h0).1
    rw [show xbl (cw (S0 (91 + 1)) m) - 1 = 31 by omega] at h2
    exact h2
  have hbig : ∀ st, st + n' = N + 1 → x * 2 ^ s < y * 2 ^ s * 2 ^ (32 * st) := by
    intro st hst
    have h1 : x * 2 ^ s < 2 ^ (32 * N) := by rw [← N3]; exact cv_lt
    have h2 := (xbl_of (Nat.ne_of_gt hDp)).1
    rw [hb] at h2
    have h3 : 2 ^ (32 * n' - 1) * 2 ^ (32 * st) ≤ y * 2 ^ s * 2 ^ (32 * st) := Nat.mul_le_mul_right _ h2
    rw [← Nat.pow_add] at h3
    exact Nat.lt_of_lt_of_le (Nat.lt_of_lt_of_le h1 (Nat.pow_le_pow_right (by decide) (by omega))) h3
  refine i_72_68 (x := 86) l0 ?_
  refine i_72_69 (v := Value.ref 89) hR.dvn rfl ?_
  refine i_72_72 (x := 86) l0 ?_
  refine i_72_73 (v := Value.ref 89) hR.dvn rfl ?_
  refine i_72_76 (v := Value.int (Int32.ofInt (N : Int))) (hR.n3n k89 N1) rfl ?_
  refine i_72_79 ?_
  refine i_72_80 (c := Int32.ofInt ((N : Int) + 1)) (o_add (N : Int) 1) ?_
  have hobj := hR.n3 k89
  obtain ⟨w1, A1, C1, B1, S1, hrun, hR1, c1, c2, c3, c4, c5⟩ := c_widen (d := d) (t := (N : Int) + 1) hR k89 N1 N2 (by omega) (by omega)
  have o1 : S1 89 1 = ((N + 1 : Nat) : Int) := by rw [c2]; omega
  replace hR := hR1
  refine i_72_81 hobj (Nat.le_of_ble_eq_true rfl) hrun ?_
  refine i_72_84 (x := 86) l0 ?_
  refine i_72_85 (v := Value.ref 89) hR.dvn rfl ?_
  refine i_72_88 (v := Value.int (Int32.ofInt ((N + 1 : Nat) : Int))) (hR.n3n k89 o1) rfl ?_
  refine i_72_91 (x := Int32.ofInt (n' : Int)) l3 ?_
  refine i_72_92 (c := Int32.ofInt (((N + 1 : Nat) : Int) - (n' : Int))) (o_sub ((N + 1 : Nat) : Int) (n' : Int)) ?_
  obtain ⟨st, hst⟩ : ∃ st : Nat, st + n' = N + 1 := ⟨N + 1 - n', by omega⟩
  rw [show ((N + 1 : Nat) : Int) - (n' : Int) = (st : Int) by omega]
  refine i_72_93 rfl ?_
  refine lgen1 (i := 5) (v := Value.int (Int32.ofInt (st : Int))) (fun lv lg ls => ?_)
  replace l0 := lg 0 _ rfl rfl l0
  replace l3 := lg 3 _ rfl rfl l3
  replace l4 := lg 4 _ rfl rfl l4
  have l5 := ls
  refine i_72_95 (x := 86) l0 ?_
  refine i_72_96 (v := Value.ref 87) hR.dvn rfl ?_
  refine i_72_99 (x := Int32.ofInt (st : Int)) l5 ?_
  have hobj := hR.n3 k87
  obtain ⟨w2, A2, C2, B2, S2, hrun, hR2, e1, e2, e3, e4, e5⟩ := c_widen (d := d) (t := (st : Int)) (n := 0) hR k87 (by rw [c4 _ _ (by omega) (by omega)]; exact Q1) (Nat.zero_le _) (by omega) (by omega)
  replace hR := hR2
  refine i_72_101 hobj (Nat.le_of_ble_eq_true rfl) hrun ?_
  refine i_72_104 (x := Int32.ofInt (st : Int)) l5 ?_
  refine i_72_106 ?_
  refine i_72_107 (c := Int32.ofInt ((st : Int) - 1)) (o_sub (st : Int) 1) ?_
  refine i_72_108 rfl ?_
  refine lgen1 (i := 6) (v := Value.int (Int32.ofInt ((st : Int) - 1))) (fun lv lg ls => ?_)
  replace l5 := lg 5 _ rfl rfl l5
  replace l0 := lg 0 _ rfl rfl l0
  replace l3 := lg 3 _ rfl rfl l3
  replace l4 := lg 4 _ rfl rfl l4
  have l6 := ls
  have f90 : cv (S2 (89 + 1)) (N + 1) = x * 2 ^ s := by
    rw [cv_same (g' := S1 (89 + 1)) (fun j _ => e4 _ _ (by omega) (by omega)), cv_zero (j := N) (by omega) (fun i g1 g2 => by unfold cw; rw [c5 i g1 (by omega)]; rfl), ← N3]
    exact cv_same (fun j hj => c4 _ _ (by omega) (by omega))
  have f92 : ∀ j, S2 (91 + 1) j = S0 (91 + 1) j := fun j => by rw [e4 _ _ (by omega) (by omega), c4 _ _ (by omega) (by omega)]
  have f91 : cv (S2 (91 + 1)) n' = y * 2 ^ s := by rw [← D3]; exact cv_same (fun j _ => f92 j)
  have f88 : ∀ j, j < st → cw (S2 (87 + 1)) j = 0 := fun j hj => by unfold cw; rw [e5 j (Nat.zero_le _) (by omega)]; rfl
  refine dx_loop (d := d + 2) (D := y * 2 ^ s) (X0 := x * 2 ^ s) (N := N) hn1 (Nat.le_trans D2 (Nat.le_trans (c1 91) (e1 91))) (Nat.le_trans (by omega) (e1 89)) hst (by omega) st hR (Nat.le_refl _) f88 f91 (by unfold cw at htw ⊢; rw [f92]; exact htw) (by rw [f90, cv_none f88, Nat.zero_mul, Nat.add_zero]) ?_ l0 l3 l4 l6 (fun lv w S' hR t1 t2 t3 l0 l4 => ?_)
  · rw [f90]
    exact hbig st hst
  · have e3n : st ≤ C2 87 := by omega
    refine i_72_138 (x := 86) l0 ?_
    refine i_72_139 (v := Value.ref 87) hR.dvn rfl ?_
    have hobj := hR.n3 k87
    obtain ⟨w3, n3', hrun, hR3, g1, g2, g3⟩ := c_trim (d := d + 3) (n := st) hR k87 (by rw [t1 _ _ (by decide) (by decide), e2]; omega) e3n
    replace hR := hR3
    refine i_72_142 hobj (Nat.le_of_ble_eq_true rfl) hrun ?_
    refine i_72_145 (x := 86) l0 ?_
    refine i_72_146 (v := Value.ref 89) hR.dvn rfl ?_
    have hobj := hR.n3 k89
    obtain ⟨w4, n4', hrun, hR4, p1, p2, p3⟩ := c_trim (d := d + 3) (n := N + 1) hR k89 (by rw [u2_n (by decide), t1 _ _ (by decide) (by decide), e4 _ _ (by omega) (by omega)]; exact o1) (Nat.le_trans (by omega) (e1 89))
    replace hR := hR4
    refine i_72_149 hobj (Nat.le_of_ble_eq_true rfl) hrun ?_
    refine i_72_152 (x := 86) l0 ?_
    refine i_72_153 (v := Value.ref 89) hR.dvn rfl ?_
    refine i_72_156 (x := 86) l0 ?_
    refine i_72_157 (v := Value.ref 89) hR.dvn rfl ?_
    refine i_72_160 (x := Int32.ofInt (s : Int)) l4 ?_
    refine i_72_162 (c := Int32.ofInt (-(s : Int))) (o_neg (s : Int)) ?_
    have hobj := hR.n3 k89
    have eq1 : x * 2 ^ s / (y * 2 ^ s) = cv (S' (87 + 1)) st := by rw [← t2, Nat.add_mul_div_right _ _ hDp, Nat.div_eq_of_lt t3, Nat.zero_add]
    have eq2 : x * 2 ^ s % (y * 2 ^ s) = cv (S' (89 + 1)) (N + 1) := by rw [← t2, Nat.add_mul_mod_self_right, Nat.mod_eq_of_lt t3]
    rw [Nat.mul_div_mul_right _ _ (Nat.two_pow_pos s)] at eq1
    rw [Nat.mul_mod_mul_right] at eq2
    have hX := cX.close2 (u := x / y) (v := x % y * 2 ^ s) hv hs k87 k89 hR (fun k => Nat.le_trans (c1 k) (e1 k)) (fun b j g1 g2 g3 g4 => by rw [u2_n g3, u2_n g1, t1 b j g2 g4, e4 b j (Or.inl g1) (Or.inl g2), c4 b j (Or.inl g3) (Or.inl g4)]) ⟨n3', by rw [u2_n (by decide), u2_s, u1_s], by omega, by rw [u2_n (by decide), u2_n (by decide), g2, eq1], by rw [u2_n (by decide), u2_n (by decide)]; exact g3⟩ ⟨n4', by rw [u2_s, u1_s], by have := e1 89; omega, by rw [u2_n (by decide)] at p2 ⊢; rw [u2_n (by decide), p2, eq2], by rw [u2_n (by decide)] at p3 ⊢; rw [u2_n (by decide)]; exact p3⟩ (by decide)
    have hxm : xbl (x % y * 2 ^ s) ≤ 639000 := by rw [eq2]; have := xbl_le (cv_lt (g := S' (89 + 1)) (n := N + 1)); omega
    obtain ⟨w5, hrun, hX5⟩ := X_shift (d := d) (h := 89) (h2 := 89) (u := x % y * 2 ^ s) (k := -(s : Int)) hX k89 k89 uv_s (by omega) (by omega)
    refine i_72_163 hobj (Nat.le_of_ble_eq_true rfl) hrun ?_
    refine i_72_166 ?_
    rw [uvv, shf_back] at hX5
    exact hQ _ hX5
end
