/-! addShifted of the class's naturals -/
section
variable {w0 w : xW} {L Z : Nat} {A C B : Nat → Nat} {S S0 : Nat → Nat → Int} {V : Nat → Nat} {h h2 r d : Nat} {v k p : Int}
theorem ads_loop (hc : kd h = 3) (hc2 : kd h2 = 3) (hne : h ≠ h2) {N m v2 : Nat} {s0 : Nat → Int} (hk : 0 ≤ k ∧ k ≤ 1000000) (hN : N ≤ C h) (hm : m ≤ C h2) {Q : Option Value ⊕ Nat → xW → Prop} : ∀ (t : Nat) {i y : Nat} {lv : xLv} {w : xW} {S : Nat → Nat → Int}, cR w0 L Z A C B S w → S h 1 = N → S h2 1 = m → cv (S (h2 + 1)) m = v2 → (∀ j, i ≤ j → S (h + 1) j = s0 j) → y ≤ 1 → i + t = N → cv (S (h + 1)) i + y * 2 ^ (32 * i) = cv s0 i + shf v2 k % 2 ^ (32 * i) → xld lv 0 = some (.ref h) → xld lv 1 = some (.ref h2) → xld lv 2 = some (.int (Int32.ofInt k)) → xld lv 3 = some (.long (Int64.ofInt (y : Int))) → xld lv 5 = some (.int (Int32.ofInt (i : Int))) →
    (∀ lv' y' w' S', cR w0 L Z A C B S' w' → S' h 1 = N → (∀ b j, b ≠ h + 1 → S' b j = S b j) → cv (S' (h + 1)) N + y' * 2 ^ (32 * N) = cv s0 N + shf v2 k % 2 ^ (32 * N) → xld lv' 0 = some (.ref h) → xEv (d + 1) 62 92 lv' [] w' Q) → xEv (d + 1) 62 31 lv [] w Q := by
  have hz : h2 ≠ h + 1 := fun g => by have := kd_c hc; rw [← g] at this; omega
  intro t
  induction t with
  | zero =>
    intro i y lv w S hR n1 m1 m3 hs0 hy hi hv l0 l1 l2 l3 l5 hQ
    have hcap := hR.cap hc
    have e : i = N := by omega
    subst e
    refine i_62_31 l5 ?_
    refine i_62_33 l0 ?_
    refine i_62_34 (v := Value.int (Int32.ofInt (i : Int))) (hR.n3n hc n1) rfl ?_
    refine i_62_37 (fun _ => ?_) (fun g => absurd g (by omega))
    exact hQ lv y w S hR n1 (fun _ _ _ => rfl) hv l0
  | succ t ih =>
    intro i y lv w S hR n1 m1 m3 hs0 hy hi hv l0 l1 l2 l3 l5 hQ
    have hcap := hR.cap hc
    have hcap2 := hR.cap hc2
    have hcl : cw (S (h + 1)) i < 4294967296 := cw_lt
    have hbl : bfn v2 (32 * (i : Int) - k) < 4294967296 := bfn_lt
    refine i_62_31 (x := Int32.ofInt (i : Int)) l5 ?_
    refine i_62_33 (x := h) l0 ?_
    refine i_62_34 (v := Value.int (Int32.ofInt (N : Int))) (hR.n3n hc n1) rfl ?_
    refine i_62_37 (b_le (a := (N : Int)) (b := (i : Int)) ⟨by omega, by omega⟩ ⟨by omega, by omega⟩ fun c0 => absurd c0 (by omega)) (b_lt (a := (i : Int)) (b := (N : Int)) ⟨by omega, by omega⟩ ⟨by omega, by omega⟩ fun c0 => ?_)
    refine i_62_40 (x := Int64.ofInt (y : Int)) l3 ?_
    refine i_62_41 (x := h) l0 ?_
    refine i_62_42 (v := Value.ref (A h)) (hR.n3 hc) rfl ?_
    refine i_62_45 (x := Int32.ofInt (i : Int)) l5 ?_
    refine i_62_47 (v := Value.int (Int32.ofInt (S (h + 1) i))) (hR.w3 hc) (ix0 (T := (i : Int)) (by omega) (by omega)) (ix1 (T := (i : Int)) (by omega) (by omega) (by omega)) (ra (T := (i : Int)) (by omega) (by omega) (congrArg _ rfl)) ?_
    refine i_62_48 rfl ?_
    refine i_62_49 ?_
    refine i_62_52 (c := Int64.ofInt (cw (S (h + 1)) i : Int)) (lowcw) ?_
    refine i_62_53 (x := h2) l1 ?_
    refine i_62_54 ?_
    refine i_62_56 (x := Int32.ofInt (i : Int)) l5 ?_
    refine i_62_58 (c := Int32.ofInt (32 * (i : Int))) (o_mul 32 (i : Int)) ?_
    refine i_62_59 (x := Int32.ofInt k) l2 ?_
    refine i_62_60 (c := Int32.ofInt ((32 * (i : Int)) - k)) (o_sub (32 * (i : Int)) k) ?_
    have hobj := hR.n3 hc2
    have hrun := c_bf (d := d) (p := (32 * (i : Int)) - k) hR hc2 m1 hm ⟨by omega, by omega⟩
    rw [m3] at hrun
    refine i_62_61 hobj (Nat.le_of_ble_eq_true rfl) hrun ?_
    refine i_62_64 rfl ?_
    refine i_62_65 ?_
    refine i_62_68 (c := Int64.ofInt (bfn v2 ((32 * (i : Int)) - k) : Int)) (lowbf) ?_
    refine i_62_69 (c := Int64.ofInt ((cw (S (h + 1)) i : Int) + (bfn v2 ((32 * (i : Int)) - k) : Int))) (q_add (cw (S (h + 1)) i : Int) (bfn v2 ((32 * (i : Int)) - k) : Int)) ?_
    refine i_62_70 (c := Int64.ofInt ((y : Int) + ((cw (S (h + 1)) i : Int) + (bfn v2 ((32 * (i : Int)) - k) : Int)))) (q_add (y : Int) ((cw (S (h + 1)) i : Int) + (bfn v2 ((32 * (i : Int)) - k) : Int))) ?_
    refine i_62_71 rfl ?_
    refine lgen2 (i := 3) (v := Value.long (Int64.ofInt ((y : Int) + ((cw (S (h + 1)) i : Int) + (bfn v2 ((32 * (i : Int)) - k) : Int))))) (fun lv lg ls => ?_)
    replace l0 := lg 0 _ rfl rfl l0
    replace l1 := lg 1 _ rfl rfl l1
    replace l2 := lg 2 _ rfl rfl l2
    replace l5 := lg 5 _ rfl rfl l5
    have l3 := ls
    refine i_62_72 (x := h) l0 ?_
    refine i_62_73 (v := Value.ref (A h)) (hR.n3 hc) rfl ?_
    refine i_62_76 (x := Int32.ofInt (i : Int)) l5 ?_
    refine i_62_78 (x := Int64.ofInt ((y : Int) + ((cw (S (h + 1)) i : Int) + (bfn v2 ((32 * (i : Int)) - k) : Int)))) l3 ?_
    refine i_62_79 (c := Int32.ofInt ((y : Int) + ((cw (S (h + 1)) i : Int) + (bfn v2 ((32 * (i : Int)) - k) : Int)))) (q_l2i ((y : Int) + ((cw (S (h + 1)) i : Int) + (bfn v2 ((32 * (i : Int)) - k) : Int)))) ?_
    refine i_62_80 (hR.w3 hc) (ix0 (T := (i : Int)) (by omega) (by omega)) (ix1 (T := (i : Int)) (by omega) (by omega) (by omega)) (hR.apart hc).2.2.2.2.1 rfl ?_
    rw [ixn (T := (i : Int)) (by omega) (by omega), show ((i : Int)).toNat = i from rfl]
    refine xgen (P := cR w0 L Z A C B (u2 S (h + 1) i ((y : Int) + ((cw (S (h + 1)) i : Int) + (bfn v2 ((32 * (i : Int)) - k) : Int))))) (hR.arr hc rfl) (fun w hR => ?_)
    replace n1 : (u2 S (h + 1) i ((y : Int) + ((cw (S (h + 1)) i : Int) + (bfn v2 ((32 * (i : Int)) - k) : Int)))) h 1 = ((N : Nat) : Int) := by rw [u2_n (by omega)]; exact n1
    replace m1 : (u2 S (h + 1) i ((y : Int) + ((cw (S (h + 1)) i : Int) + (bfn v2 ((32 * (i : Int)) - k) : Int)))) h2 1 = ((m : Nat) : Int) := by rw [u2_n (by omega)]; exact m1
    refine i_62_81 (x := Int64.ofInt ((y : Int) + ((cw (S (h + 1)) i : Int) + (bfn v2 ((32 * (i : Int)) - k) : Int)))) l3 ?_
    refine i_62_82 ?_
    refine i_62_84 (c := Int64.ofInt (((y : Int) + ((cw (S (h + 1)) i : Int) + (bfn v2 ((32 * (i : Int)) - k) : Int))) / 4294967296)) (q_ushr32 (t := (y : Int) + ((cw (S (h + 1)) i : Int) + (bfn v2 ((32 * (i : Int)) - k) : Int))) (by omega) (by omega)) ?_
    refine i_62_85 rfl ?_
    refine lgen2 (i := 3) (v := Value.long (Int64.ofInt (((y : Int) + ((cw (S (h + 1)) i : Int) + (bfn v2 ((32 * (i : Int)) - k) : Int))) / 4294967296))) (fun lv lg ls => ?_)
    replace l0 := lg 0 _ rfl rfl l0
    replace l1 := lg 1 _ rfl rfl l1
    replace l2 := lg 2 _ rfl rfl l2
    replace l5 := lg 5 _ rfl rfl l5
    have l3 := ls
    refine i_62_86 (x := (Int32.ofInt (i : Int))) (c := (Int32.ofInt ((i : Int) + 1))) l5 (o_add (i : Int) 1) rfl ?_
    refine lgen1 (i := 5) (v := Value.int (Int32.ofInt ((i : Int) + 1))) (fun lv lg ls => ?_)
    replace l3 := lg 3 _ rfl rfl l3
    replace l0 := lg 0 _ rfl rfl l0
    replace l1 := lg 1 _ rfl rfl l1
    replace l2 := lg 2 _ rfl rfl l2
    have l5 := ls
    refine i_62_89 ?_
    obtain ⟨x, hxn⟩ : ∃ x : Nat, x = y + (cw (S (h + 1)) i + bfn v2 (32 * (i : Int) - k)) := ⟨_, rfl⟩
    have hx : (y : Int) + ((cw (S (h + 1)) i : Int) + (bfn v2 ((32 * (i : Int)) - k) : Int)) = ((x : Nat) : Int) := by omega
    rw [show ((y : Int) + ((cw (S (h + 1)) i : Int) + (bfn v2 ((32 * (i : Int)) - k) : Int))) / 4294967296 = ((x / 4294967296 : Nat) : Int) by omega] at l3
    have ec : cw s0 i = cw (S (h + 1)) i := by unfold cw; rw [hs0 i (Nat.le_refl _)]
    refine ih (i := i + 1) (y := x / 4294967296) hR n1 m1 (by rw [u2_n (by omega)]; exact m3) (fun j hj => by rw [u2_s, u1_n (by omega)]; exact hs0 j (by omega)) (by omega) (by omega) ?_ l0 l1 l2 l3 l5 (fun lv' y' w' S' q1 q2 q3 q4 q5 => hQ lv' y' w' S' q1 q2 (fun b j hb => by rw [q3 b j hb, u2_n hb]) q4 q5)
    rw [u2_s, cv_set hx, pow_s, carry_step hv hxn, Nat.mul_comm 4294967296 (2 ^ (32 * i)), Nat.mod_mul, ← bfn_sh]
    show _ = cv s0 i + cw s0 i * 2 ^ (32 * i) + _
    rw [ec, Nat.add_mul, Nat.mul_comm (bfn v2 (32 * (i : Int) - k))]
    omega
theorem X_addsh {u v2 : Nat} (hX : cX w0 L Z S V w) (hc : kd h = 3) (hc2 : kd h2 = 3) (hne : h ≠ h2) (hu : V h = u) (hu2 : V h2 = v2) (hk0 : 0 ≤ k) (hb : xbl u ≤ 638000) (hb2 : (xbl v2 : Int) + k ≤ 638000) : ∃ w', xRun (d + 4) 62 [.ref h, .ref h2, .int (Int32.ofInt k)] w (.inl none) w' ∧ cX w0 L Z S (uv V h (u + shf v2 k)) w' := by
  obtain ⟨A, C, B, S0, hR, hv, hs⟩ := hX
  obtain ⟨n, n1, n2, n3, n4⟩ := hv h hc
  obtain ⟨m, m1, m2, m3, m4⟩ := hv h2 hc2
  rw [hu] at n3
  rw [hu2] at m3
  have hk : 0 ≤ k ∧ k ≤ 1000000 := ⟨hk0, by omega⟩
  have hz : h2 ≠ h + 1 := fun g => by have := kd_c hc; rw [← g] at this; omega
  have hz2 : h2 + 1 ≠ h := fun g => by have := kd_c hc2; rw [g] at this; omega
  have hcap := hR.cap hc
  have hcap2 := hR.cap hc2
  have hsz : n = (xbl u + 31) / 32 := by rw [← n3]; exact nv_size n4
  obtain ⟨w1, A1, C1, B1, S1, r1, hR1, p2, p4, p1, p3, p5⟩ := c_widen (d := d) (t := max (n : Int) (((xbl v2 : Int) + k + 31) / 32) + 1) hR hc n1 n2 (by omega) (by omega)
  obtain ⟨N, hN⟩ : ∃ N : Nat, (N : Int) = max (n : Int) (((xbl v2 : Int) + k + 31) / 32) + 1 := ⟨(max (n : Int) (((xbl v2 : Int) + k + 31) / 32) + 1).toNat, by omega⟩
  have hcap1 := hR1.cap hc
  have o1 : S1 h 1 = N := by rw [p4]; omega
  have o3 : cv (S1 (h + 1)) N = u := by
    rw [cv_zero (j := n) (by omega) (fun i g1 g2 => by unfold cw; rw [p5 i g1 (by omega)]; rfl), ← n3]
    exact cv_same (fun j hj => p3 _ _ (Or.inl (by omega)) (Or.inr hj))
  have hul : u < 2 ^ (32 * (N - 1)) := by
    rw [← n3]
    exact Nat.lt_of_lt_of_le cv_lt (Nat.pow_le_pow_right (by decide) (by omega))
  have hpw : 2 ^ (32 * N) = 4294967296 * 2 ^ (32 * (N - 1)) := by rw [← pow_s, show N - 1 + 1 = N by omega]
  have hm : m ≤ C1 h2 := Nat.le_trans m2 (p2 h2)
  have om1 : S1 h2 1 = m := by rw [p3 h2 1 (Or.inl (by omega)) (Or.inl hz)]; exact m1
  have om3 : cv (S1 (h2 + 1)) m = v2 := by rw [← m3]; exact cv_same (fun j hj => p3 _ _ (Or.inl hz2) (Or.inl (by omega)))
  have hvl0 : shf v2 k < 2 ^ (32 * (N - 1)) := by
    by_cases g : v2 = 0
    · subst g; rw [shf_0]; exact Nat.two_pow_pos _
    · have h1 := shf_bl (k := k) g
      by_cases g2 : shf v2 k = 0
      · rw [g2]; exact Nat.two_pow_pos _
      · exact Nat.lt_of_lt_of_le (xbl_of g2).2.1 (Nat.pow_le_pow_right (by decide) (by omega))
  have hvl : shf v2 k < 2 ^ (32 * N) := by omega
  have hsum : u + shf v2 k < 2 ^ (32 * N) := by omega
  have key : ∀ lv, xld lv 0 = some (.ref h) → xld lv 1 = some (.ref h2) → xld lv 2 = some (.int (Int32.ofInt k)) → xEv (d + 4) 62 0 lv [] w (fun o w' => o = .inl none ∧ cX w0 L Z S (uv V h (u + shf v2 k)) w') := by
    intro lv l0 l1 l2
    refine i_62_0 (x := h) l0 ?_
    refine i_62_1 (x := h) l0 ?_
    refine i_62_2 (v := Value.int (Int32.ofInt (n : Int))) (hR.n3n hc n1) rfl ?_
    refine i_62_5 (x := h2) l1 ?_
    have hobj := hR.n3 hc2
    have hrun := c_bits (d := d + 2) hR hc2 m1 m2 m4
    rw [m3] at hrun
    refine i_62_6 hobj (Nat.le_of_ble_eq_true rfl) hrun ?_
    refine i_62_9 (x := Int32.ofInt k) l2 ?_
    refine i_62_10 (c := Int32.ofInt ((xbl v2 : Int) + k)) (o_add (xbl v2 : Int) k) ?_
    refine i_62_11 ?_
    refine i_62_13 (c := Int32.ofInt (((xbl v2 : Int) + k) + 31)) (o_add ((xbl v2 : Int) + k) 31) ?_
    refine i_62_14 ?_
    refine i_62_15 (c := Int32.ofInt ((((xbl v2 : Int) + k) + 31) / 32)) (o_shr5 (t := ((xbl v2 : Int) + k) + 31) ⟨by omega, by omega⟩) ?_
    have hrun := s_max (d := d + 2) (w := w) (a := (n : Int)) (b := (((xbl v2 : Int) + k) + 31) / 32) ⟨by omega, by omega⟩ ⟨by omega, by omega⟩
    refine i_62_16 (Nat.le_of_ble_eq_true rfl) hrun ?_
    refine i_62_19 ?_
    refine i_62_20 (c := Int32.ofInt ((max (n : Int) ((((xbl v2 : Int) + k) + 31) / 32)) + 1)) (o_add (max (n : Int) ((((xbl v2 : Int) + k) + 31) / 32)) 1) ?_
    have hobj := hR.n3 hc
    have hrun := r1
    replace hR := hR1
    refine i_62_21 hobj (Nat.le_of_ble_eq_true rfl) hrun ?_
    refine i_62_24 ?_
    refine i_62_25 rfl ?_
    refine lgen2 (i := 3) (v := Value.long 0) (fun lv lg ls => ?_)
    replace l0 := lg 0 _ rfl rfl l0
    replace l1 := lg 1 _ rfl rfl l1
    replace l2 := lg 2 _ rfl rfl l2
    have l3 := ls
    refine i_62_26 (x := Int32.ofInt k) l2 ?_
    refine i_62_27 ?_
    refine i_62_28 (c := Int32.ofInt (k / 32)) (o_shr5 (t := k) ⟨by omega, by omega⟩) ?_
    refine i_62_29 rfl ?_
    refine lgen1 (i := 5) (v := Value.int (Int32.ofInt (k / 32))) (fun lv lg ls => ?_)
    replace l3 := lg 3 _ rfl rfl l3
    replace l0 := lg 0 _ rfl rfl l0
    replace l1 := lg 1 _ rfl rfl l1
    replace l2 := lg 2 _ rfl rfl l2
    have l5 := ls
    obtain ⟨at_, hat⟩ : ∃ at_ : Nat, (at_ : Int) = k / 32 := ⟨(k / 32).toNat, by omega⟩
    rw [← hat] at l5
    refine ads_loop (d := d + 3) (v2 := v2) (m := m) hc hc2 hne hk (by omega) hm (N - at_) (i := at_) (y := 0) hR o1 om1 om3 (fun _ _ => rfl) (by omega) (by omega) ?_ l0 l1 l2 l3 l5 (fun lv y' w S' q1 q2 q3 q4 l0 => ?_)
    · have e : shf v2 k % 2 ^ (32 * at_) = 0 := by
        unfold shf
        rw [if_pos hk.1, show k.toNat = (k.toNat - 32 * at_) + 32 * at_ by omega, Nat.pow_add, ← Nat.mul_assoc]
        exact Nat.mul_mod_left _ _
      rw [e, Nat.zero_mul]
    · rw [o3, Nat.mod_eq_of_lt hvl] at q4
      have e := no_carry q4 hsum
      obtain ⟨w2, r2, hX2⟩ := X_trim (d := d + 3) hv hs hc q1 p2 (fun b j g1 g2 => by rw [q3 b j g2, p3 b j (Or.inl g1) (Or.inl g2)]) q2 (by omega) e
      refine i_62_92 l0 ?_
      refine i_62_93 (q1.n3 hc) (Nat.le_of_ble_eq_true rfl) r2 ?_
      exact i_62_96 ⟨rfl, hX2⟩
  obtain ⟨o, w', h1, rfl, h2⟩ := (key (lv_args 0 [.ref h, .ref h2, .int (Int32.ofInt k)]) rfl rfl rfl).run
  exact ⟨w', h1, h2⟩
end
