/-! orderFromTop of the class's naturals -/
theorem lowlt {t : Nat} (h : t < 4294967296) : (Int32.ofInt (t : Int)).toInt64 &&& (4294967295 : Int64) = Int64.ofInt (t : Int) := by
  rw [lowz]
  congr 1
  omega
theorem cut_s {X j : Nat} : X / 2 ^ (32 * j) = X / 2 ^ (32 * (j + 1)) * 4294967296 + X / 2 ^ (32 * j) % 4294967296 := by
  rw [show 32 * (j + 1) = 32 * j + 32 by omega, Nat.pow_add, ← Nat.div_div_eq_div_mul, show (2 : Nat) ^ 32 = 4294967296 from rfl]
  omega
theorem div_less {X Y P : Nat} (h : X / P < Y / P) : X < Y := by
  rcases Nat.lt_or_ge X Y with g | g
  · exact g
  · have := Nat.div_le_div_right (c := P) g
    omega
theorem ncmp_scale {a b c : Nat} (hc : 0 < c) : ncmp (a * c) (b * c) = ncmp a b := by
  unfold ncmp
  by_cases h1 : a < b
  · rw [if_pos h1, if_pos (Nat.mul_lt_mul_of_pos_right h1 hc)]
  · have h2 : ¬ a * c < b * c := fun h => h1 (Nat.lt_of_mul_lt_mul_right h)
    rw [if_neg h1, if_neg h2]
    by_cases h3 : a = b
    · rw [if_pos h3, if_pos (by rw [h3])]
    · rw [if_neg h3, if_neg (fun h => h3 (Nat.eq_of_mul_eq_mul_right hc h))]
section
variable {w0 w : xW} {L Z : Nat} {A C B : Nat → Nat} {S S0 : Nat → Nat → Int} {V : Nat → Nat} {h h2 k r d : Nat} {v : Int}
theorem oft_loop {n m u v2 ln XA XB : Nat} (hc : kd h = 3) (hc2 : kd h2 = 3) (n1 : S h 1 = n) (n2 : n ≤ C h) (n3 : cv (S (h + 1)) n = u) (m1 : S h2 1 = m) (m2 : m ≤ C h2) (m3 : cv (S (h2 + 1)) m = v2) (hXA : XA = shf u (32 * (ln : Int) - (xbl u : Int))) (hXB : XB = shf v2 (32 * (ln : Int) - (xbl v2 : Int))) (hln : xbl u ≤ 1300000 ∧ xbl v2 ≤ 1300000 ∧ ln ≤ 50000) {Q : Option Value ⊕ Nat → xW → Prop} : ∀ (t : Nat) {i : Nat} {lv : xLv}, i + t = ln + 1 → 1 ≤ i → cR w0 L Z A C B S w → Q (.inl (some (.int (Int32.ofInt (ncmp XA XB))))) w → xld lv 0 = some (.ref h) → xld lv 1 = some (.ref h2) → xld lv 2 = some (.int (Int32.ofInt (xbl u : Int))) → xld lv 3 = some (.int (Int32.ofInt (xbl v2 : Int))) → xld lv 4 = some (.int (Int32.ofInt (ln : Int))) → xld lv 5 = some (.int (Int32.ofInt (i : Int))) → XA / 2 ^ (32 * (ln + 1 - i)) = XB / 2 ^ (32 * (ln + 1 - i)) → xEv (d + 1) 92 25 lv [] w Q := by
  intro t
  induction t with
  | zero =>
    intro i lv hi hi1 hR hQ l0 l1 l2 l3 l4 l5 hg
    refine i_92_25 l5 ?_
    refine i_92_27 l4 ?_
    refine i_92_29 (b_lt (a := (ln : Int)) (b := (i : Int)) ⟨by omega, by omega⟩ ⟨by omega, by omega⟩ fun _ => ?_) (b_le (a := (i : Int)) (b := (ln : Int)) ⟨by omega, by omega⟩ ⟨by omega, by omega⟩ fun g => absurd g (by omega))
    refine i_92_96 ?_
    refine i_92_97 ?_
    rw [show ln + 1 - i = 0 by omega, Nat.mul_zero, Nat.pow_zero, Nat.div_one, Nat.div_one] at hg
    rw [show ncmp XA XB = 0 by unfold ncmp; rw [if_neg (by omega), if_pos hg]] at hQ
    exact hQ
  | succ t ih =>
    intro i lv hi hi1 hR hQ l0 l1 l2 l3 l4 l5 hg
    obtain ⟨j, hj⟩ : ∃ j : Nat, j + i = ln := ⟨t, by omega⟩
    have hj1 : ln + 1 - i = j + 1 := by omega
    rw [hj1] at hg
    obtain ⟨wa, hwa⟩ : ∃ wa : Nat, wa = XA / 2 ^ (32 * j) % 4294967296 := ⟨_, rfl⟩
    obtain ⟨wb, hwb⟩ : ∃ wb : Nat, wb = XB / 2 ^ (32 * j) % 4294967296 := ⟨_, rfl⟩
    have bwa : wa < 4294967296 := by rw [hwa]; exact Nat.mod_lt _ (by decide)
    have bwb : wb < 4294967296 := by rw [hwb]; exact Nat.mod_lt _ (by decide)
    have ewa : bfn u ((xbl u : Int) - 32 * (i : Int)) = wa := by rw [hwa, hXA, ← bfn_sh]; congr 1; omega
    have ewb : bfn v2 ((xbl v2 : Int) - 32 * (i : Int)) = wb := by rw [hwb, hXB, ← bfn_sh]; congr 1; omega
    have dvA : XA / 2 ^ (32 * j) = XA / 2 ^ (32 * (j + 1)) * 4294967296 + wa := by rw [hwa]; exact cut_s
    have dvB : XB / 2 ^ (32 * j) = XB / 2 ^ (32 * (j + 1)) * 4294967296 + wb := by rw [hwb]; exact cut_s
    have hq_m : Unit → wa < wb → Q (.inl (some (.int (-1)))) w := fun _ g => by
      rw [ncmp_l (div_less (P := 2 ^ (32 * j)) (by rw [dvA, dvB, hg]; omega))] at hQ
      exact hQ
    have hq_p : Unit → wb < wa → Q (.inl (some (.int 1))) w := fun _ g => by
      rw [ncmp_g (div_less (P := 2 ^ (32 * j)) (by rw [dvA, dvB, hg]; omega))] at hQ
      exact hQ
    have ih' := @ih (i + 1)
    refine i_92_25 (x := Int32.ofInt (i : Int)) l5 ?_
    refine i_92_27 (x := Int32.ofInt (ln : Int)) l4 ?_
    refine i_92_29 (b_lt (a := (ln : Int)) (b := (i : Int)) ⟨by omega, by omega⟩ ⟨by omega, by omega⟩ fun c0 => absurd c0 (by omega)) (b_le (a := (i : Int)) (b := (ln : Int)) ⟨by omega, by omega⟩ ⟨by omega, by omega⟩ fun c0 => ?_)
    refine i_92_32 (x := h) l0 ?_
    refine i_92_33 (x := Int32.ofInt (xbl u : Int)) l2 ?_
    refine i_92_34 ?_
    refine i_92_36 (x := Int32.ofInt (i : Int)) l5 ?_
    refine i_92_38 (c := Int32.ofInt (32 * (i : Int))) (o_mul 32 (i : Int)) ?_
    refine i_92_39 (c := Int32.ofInt ((xbl u : Int) - (32 * (i : Int)))) (o_sub (xbl u : Int) (32 * (i : Int))) ?_
    have hobj := hR.n3 hc
    have hrun := c_bf (d := d) (p := (xbl u : Int) - (32 * (i : Int))) hR hc n1 n2 ⟨by omega, by omega⟩
    rw [n3, ewa] at hrun
    refine i_92_40 hobj (Nat.le_of_ble_eq_true rfl) hrun ?_
    refine i_92_43 rfl ?_
    refine i_92_44 ?_
    refine i_92_47 (c := Int64.ofInt (wa : Int)) (lowlt bwa) ?_
    refine i_92_48 rfl ?_
    refine lgen2 (i := 6) (v := Value.long (Int64.ofInt (wa : Int))) (fun lv lg ls => ?_)
    replace l0 := lg 0 _ rfl rfl l0
    replace l1 := lg 1 _ rfl rfl l1
    replace l2 := lg 2 _ rfl rfl l2
    replace l3 := lg 3 _ rfl rfl l3
    replace l4 := lg 4 _ rfl rfl l4
    replace l5 := lg 5 _ rfl rfl l5
    have l6 := ls
    refine i_92_50 (x := h2) l1 ?_
    refine i_92_51 (x := Int32.ofInt (xbl v2 : Int)) l3 ?_
    refine i_92_52 ?_
    refine i_92_54 (x := Int32.ofInt (i : Int)) l5 ?_
    refine i_92_56 (c := Int32.ofInt (32 * (i : Int))) (o_mul 32 (i : Int)) ?_
    refine i_92_57 (c := Int32.ofInt ((xbl v2 : Int) - (32 * (i : Int)))) (o_sub (xbl v2 : Int) (32 * (i : Int))) ?_
    have hobj := hR.n3 hc2
    have hrun := c_bf (d := d) (p := (xbl v2 : Int) - (32 * (i : Int))) hR hc2 m1 m2 ⟨by omega, by omega⟩
    rw [m3, ewb] at hrun
    refine i_92_58 hobj (Nat.le_of_ble_eq_true rfl) hrun ?_
    refine i_92_61 rfl ?_
    refine i_92_62 ?_
    refine i_92_65 (c := Int64.ofInt (wb : Int)) (lowlt bwb) ?_
    refine i_92_66 rfl ?_
    refine lgen2 (i := 8) (v := Value.long (Int64.ofInt (wb : Int))) (fun lv lg ls => ?_)
    replace l6 := lg 6 _ rfl rfl l6
    replace l0 := lg 0 _ rfl rfl l0
    replace l1 := lg 1 _ rfl rfl l1
    replace l2 := lg 2 _ rfl rfl l2
    replace l3 := lg 3 _ rfl rfl l3
    replace l4 := lg 4 _ rfl rfl l4
    replace l5 := lg 5 _ rfl rfl l5
    have l8 := ls
    refine i_92_68 (x := Int64.ofInt (wa : Int)) l6 ?_
    refine i_92_70 (x := Int64.ofInt (wb : Int)) l8 ?_
    refine i_92_72 (c := Int32.ofInt (lc (wa : Int) (wb : Int))) (q_cmp (a := (wa : Int)) (b := (wb : Int)) ⟨by omega, by omega⟩ ⟨by omega, by omega⟩) ?_
    refine i_92_73 (lc_eq (a := (wa : Int)) (b := (wb : Int)) fun c1 => ?_) (lc_ne (a := (wa : Int)) (b := (wb : Int)) fun c1 => ?_)
    · refine i_92_90 (x := (Int32.ofInt (i : Int))) (c := (Int32.ofInt ((i : Int) + 1))) l5 (o_add (i : Int) 1) rfl ?_
      refine lgen1 (i := 5) (v := Value.int (Int32.ofInt ((i : Int) + 1))) (fun lv lg ls => ?_)
      replace l8 := lg 8 _ rfl rfl l8
      replace l6 := lg 6 _ rfl rfl l6
      replace l0 := lg 0 _ rfl rfl l0
      replace l1 := lg 1 _ rfl rfl l1
      replace l2 := lg 2 _ rfl rfl l2
      replace l3 := lg 3 _ rfl rfl l3
      replace l4 := lg 4 _ rfl rfl l4
      have l5 := ls
      refine i_92_93 ?_
      refine ih' (by omega) (by omega) hR hQ l0 l1 l2 l3 l4 l5 ?_
      rw [show ln + 1 - (i + 1) = j by omega]
      rw [dvA, dvB, hg, show wa = wb by omega]
    · refine i_92_76 (x := Int64.ofInt (wa : Int)) l6 ?_
      refine i_92_78 (x := Int64.ofInt (wb : Int)) l8 ?_
      refine i_92_80 (c := Int32.ofInt (lc (wa : Int) (wb : Int))) (q_cmp (a := (wa : Int)) (b := (wb : Int)) ⟨by omega, by omega⟩ ⟨by omega, by omega⟩) ?_
      refine i_92_81 (lc_ge (a := (wa : Int)) (b := (wb : Int)) fun c2 => ?_) (lc_lt (a := (wa : Int)) (b := (wb : Int)) fun c2 => ?_)
      · refine i_92_88 ?_
        refine i_92_89 ?_
        exact hq_p () (by omega)
      · refine i_92_84 ?_
        refine i_92_85 ?_
        refine i_92_89 ?_
        exact hq_m () (by omega)
theorem X_oft {u v2 : Nat} (hX : cX w0 L Z S V w) (hc : kd h = 3) (hc2 : kd h2 = 3) (hu : V h = u) (hu2 : V h2 = v2) : xRun (d + 2) 92 [.ref h, .ref h2] w (.inl (some (.int (Int32.ofInt (ncmp (u * 2 ^ xbl v2) (v2 * 2 ^ xbl u)))))) w := by
  obtain ⟨A, C, B, S0, hR, hv, hs⟩ := hX
  obtain ⟨n, n1, n2, n3, n4⟩ := hv h hc
  obtain ⟨m, m1, m2, m3, m4⟩ := hv h2 hc2
  rw [hu] at n3
  rw [hu2] at m3
  have hcap := hR.cap hc
  have hcap2 := hR.cap hc2
  have hb1 : xbl u ≤ 32 * n := xbl_le (by rw [← n3]; exact cv_lt)
  have hb2 : xbl v2 ≤ 32 * m := xbl_le (by rw [← m3]; exact cv_lt)
  obtain ⟨ln, hl⟩ : ∃ ln : Nat, (ln : Int) = (max (xbl u : Int) (xbl v2 : Int) + 31) / 32 := ⟨((max (xbl u : Int) (xbl v2 : Int) + 31) / 32).toNat, by omega⟩
  have hln : xbl u ≤ 1300000 ∧ xbl v2 ≤ 1300000 ∧ ln ≤ 50000 := by omega
  obtain ⟨XA, hXA⟩ : ∃ XA, XA = shf u (32 * (ln : Int) - (xbl u : Int)) := ⟨_, rfl⟩
  obtain ⟨XB, hXB⟩ : ∃ XB, XB = shf v2 (32 * (ln : Int) - (xbl v2 : Int)) := ⟨_, rfl⟩
  have fit : ∀ x : Nat, (xbl x : Int) ≤ 32 * (ln : Int) → shf x (32 * (ln : Int) - (xbl x : Int)) * 2 ^ xbl x = x * 2 ^ (32 * ln) ∧ shf x (32 * (ln : Int) - (xbl x : Int)) < 2 ^ (32 * ln) := by
    intro x hx
    have e : shf x (32 * (ln : Int) - (xbl x : Int)) = x * 2 ^ (32 * ln - xbl x) := by unfold shf; rw [if_pos (by omega), show (32 * (ln : Int) - (xbl x : Int)).toNat = 32 * ln - xbl x by omega]
    have e2 : 2 ^ (32 * ln) = 2 ^ (xbl x) * 2 ^ (32 * ln - xbl x) := by rw [← Nat.pow_add, show xbl x + (32 * ln - xbl x) = 32 * ln by omega]
    rw [e]
    refine ⟨by rw [e2, Nat.mul_assoc, Nat.mul_comm (2 ^ (32 * ln - xbl x))], ?_⟩
    rw [e2]
    refine Nat.mul_lt_mul_of_pos_right ?_ (Nat.two_pow_pos _)
    by_cases g : x = 0
    · subst g; exact Nat.two_pow_pos _
    · exact (xbl_of g).2.1
  obtain ⟨hA, hAl⟩ := fit u (by omega)
  obtain ⟨hB, hBl⟩ := fit v2 (by omega)
  rw [← hXA] at hA hAl
  rw [← hXB] at hB hBl
  have hfin : ncmp (u * 2 ^ xbl v2) (v2 * 2 ^ xbl u) = ncmp XA XB := by
    rw [← ncmp_scale (Nat.two_pow_pos (32 * ln)), Nat.mul_right_comm u, Nat.mul_right_comm v2, ← hA, ← hB, Nat.mul_right_comm XB, ncmp_scale (Nat.two_pow_pos _), ncmp_scale (Nat.two_pow_pos _)]
  rw [hfin]
  have key : ∀ lv, xld lv 0 = some (.ref h) → xld lv 1 = some (.ref h2) → xEv (d + 2) 92 0 lv [] w (fun o w' => o = .inl (some (.int (Int32.ofInt (ncmp XA XB)))) ∧ w' = w) := by
    intro lv l0 l1
    refine i_92_0 (x := h) l0 ?_
    have hobj := hR.n3 hc
    have hrun := c_bits (d := d) hR hc n1 n2 n4
    rw [n3] at hrun
    refine i_92_1 hobj (Nat.le_of_ble_eq_true rfl) hrun ?_
    refine i_92_4 rfl ?_
    refine lgen1 (i := 2) (v := Value.int (Int32.ofInt (xbl u : Int))) (fun lv lg ls => ?_)
    replace l0 := lg 0 _ rfl rfl l0
    replace l1 := lg 1 _ rfl rfl l1
    have l2 := ls
    refine i_92_5 (x := h2) l1 ?_
    have hobj := hR.n3 hc2
    have hrun := c_bits (d := d) hR hc2 m1 m2 m4
    rw [m3] at hrun
    refine i_92_6 hobj (Nat.le_of_ble_eq_true rfl) hrun ?_
    refine i_92_9 rfl ?_
    refine lgen1 (i := 3) (v := Value.int (Int32.ofInt (xbl v2 : Int))) (fun lv lg ls => ?_)
    replace l2 := lg 2 _ rfl rfl l2
    replace l0 := lg 0 _ rfl rfl l0
    replace l1 := lg 1 _ rfl rfl l1
    have l3 := ls
    refine i_92_10 (x := Int32.ofInt (xbl u : Int)) l2 ?_
    refine i_92_11 (x := Int32.ofInt (xbl v2 : Int)) l3 ?_
    have hrun := s_max (d := d) (w := w) (a := (xbl u : Int)) (b := (xbl v2 : Int)) ⟨by omega, by omega⟩ ⟨by omega, by omega⟩
    refine i_92_12 (Nat.le_of_ble_eq_true rfl) hrun ?_
    refine i_92_15 ?_
    refine i_92_17 (c := Int32.ofInt ((max (xbl u : Int) (xbl v2 : Int)) + 31)) (o_add (max (xbl u : Int) (xbl v2 : Int)) 31) ?_
    refine i_92_18 ?_
    refine i_92_19 (c := Int32.ofInt (((max (xbl u : Int) (xbl v2 : Int)) + 31) / 32)) (o_shr5 (t := (max (xbl u : Int) (xbl v2 : Int)) + 31) ⟨by omega, by omega⟩) ?_
    refine i_92_20 rfl ?_
    refine lgen1 (i := 4) (v := Value.int (Int32.ofInt (((max (xbl u : Int) (xbl v2 : Int)) + 31) / 32))) (fun lv lg ls => ?_)
    replace l3 := lg 3 _ rfl rfl l3
    replace l2 := lg 2 _ rfl rfl l2
    replace l0 := lg 0 _ rfl rfl l0
    replace l1 := lg 1 _ rfl rfl l1
    have l4 := ls
    refine i_92_22 ?_
    refine i_92_23 rfl ?_
    refine lgen1 (i := 5) (v := Value.int 1) (fun lv lg ls => ?_)
    replace l4 := lg 4 _ rfl rfl l4
    replace l3 := lg 3 _ rfl rfl l3
    replace l2 := lg 2 _ rfl rfl l2
    replace l0 := lg 0 _ rfl rfl l0
    replace l1 := lg 1 _ rfl rfl l1
    have l5 := ls
    rw [show (max (xbl u : Int) (xbl v2 : Int) + 31) / 32 = (ln : Int) by omega] at l4
    exact oft_loop (d := d + 1) (i := 1) hc hc2 n1 n2 n3 m1 m2 m3 hXA hXB hln ln (by omega) (by omega) hR ⟨rfl, rfl⟩ l0 l1 l2 l3 l4 l5 (by rw [show ln + 1 - 1 = ln by omega, Nat.div_eq_of_lt hAl, Nat.div_eq_of_lt hBl])
  obtain ⟨o, w', h1, rfl, rfl⟩ := (key (lv_args 0 [.ref h, .ref h2]) rfl rfl).run
  exact h1
end
