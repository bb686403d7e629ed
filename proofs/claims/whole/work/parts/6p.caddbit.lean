/-! addBit, addShifted of the class's naturals -/
theorem carry_step {a y P R x c : Nat} (h : a + y * P = R) (hx : x = y + c) : a + x % 4294967296 * P + x / 4294967296 * (4294967296 * P) = R + c * P := by
  have e1 : (x % 4294967296 + x / 4294967296 * 4294967296) * P = x * P := by rw [show x % 4294967296 + x / 4294967296 * 4294967296 = x by omega]
  rw [Nat.add_mul, Nat.mul_assoc] at e1
  have e2 : x * P = y * P + c * P := by rw [hx, Nat.add_mul]
  omega
theorem pow_s (i : Nat) : 2 ^ (32 * (i + 1)) = 4294967296 * 2 ^ (32 * i) := by rw [show 32 * (i + 1) = 32 * i + 32 by omega, Nat.pow_add, Nat.mul_comm]
theorem q_shlN {a q : Nat} {p : Int32} (hp : p.toInt = q) (hq : q < 64) (h : a * 2 ^ q < 18446744073709551616) : Int64.ofInt (a : Int) <<< (p.toInt64 &&& 63) = Int64.ofInt ((a * 2 ^ q : Nat) : Int) := by
  have h1 := Nat.le_mul_of_pos_right a (Nat.two_pow_pos q)
  have e1 : xul (Int64.ofInt (a : Int)) = a := by rw [xul_o (by omega) (by omega)]; rfl
  apply xul_inj
  rw [xul_shl hp hq (by rw [e1]; exact h), e1, xul_o (Int.natCast_nonneg _) (by omega)]
  rfl
/-- a word set anew with a sum -/
theorem cw_set {s : Nat → Int} {i x : Nat} {z : Int} (hz : z = (x : Int)) : cw (u1 s i z) i = x % 4294967296 := by
  unfold cw
  rw [u1_s, hz]
  omega
theorem cv_set {s : Nat → Int} {i x : Nat} {z : Int} (hz : z = (x : Int)) : cv (u1 s i z) (i + 1) = cv s i + x % 4294967296 * 2 ^ (32 * i) := by
  show cv (u1 s i z) i + cw (u1 s i z) i * 2 ^ (32 * i) = _
  rw [cw_set hz, cv_same (fun j hj => u1_n (by omega))]
/-- no carry beyond the top -/
theorem no_carry {a y P R : Nat} (h : a + y * P = R) (hR : R < P) : a = R := by
  rcases Nat.eq_zero_or_pos y with g | g
  · subst g; omega
  · have h1 : 1 * P ≤ y * P := Nat.mul_le_mul_right _ g
    omega
section
variable {w0 w : xW} {L Z : Nat} {A C B : Nat → Nat} {S S0 : Nat → Nat → Int} {V : Nat → Nat} {h h2 r d : Nat} {v k p : Int}
theorem adb_loop (hc : kd h = 3) {N X : Nat} {s0 : Nat → Int} (hN : N ≤ C h) {Q : Option Value ⊕ Nat → xW → Prop} : ∀ (t : Nat) {i y : Nat} {lv : xLv} {w : xW} {S : Nat → Nat → Int}, cR w0 L Z A C B S w → S h 1 = N → (∀ j, i ≤ j → S (h + 1) j = s0 j) → y < 4294967296 → i + t = N → cv (S (h + 1)) i + y * 2 ^ (32 * i) = cv s0 i + X → xld lv 0 = some (.ref h) → xld lv 3 = some (.long (Int64.ofInt (y : Int))) → xld lv 5 = some (.int (Int32.ofInt (i : Int))) →
    (∀ lv' y' w' S', cR w0 L Z A C B S' w' → S' h 1 = N → (∀ b j, b ≠ h + 1 → S' b j = S b j) → cv (S' (h + 1)) N + y' * 2 ^ (32 * N) = cv s0 N + X → xld lv' 0 = some (.ref h) → xEv d 44 80 lv' [] w' Q) → xEv d 44 30 lv [] w Q := by
  intro t
  induction t with
  | zero =>
    intro i y lv w S hR n1 hs0 hy hi hv l0 l3 l5 hQ
    have hcap := hR.cap hc
    have e : i = N := by omega
    subst e
    refine i_44_30 l3 ?_
    refine i_44_31 ?_
    refine i_44_32 (q_cmp (a := (y : Int)) (b := 0) ⟨by omega, by omega⟩ ⟨by decide, by decide⟩) ?_
    refine i_44_33 (fun _ => ?_) (fun _ => ?_)
    · exact hQ lv y w S hR n1 (fun _ _ _ => rfl) hv l0
    · refine i_44_36 l5 ?_
      refine i_44_38 l0 ?_
      refine i_44_39 (v := Value.int (Int32.ofInt (i : Int))) (hR.n3n hc n1) rfl ?_
      refine i_44_42 (fun _ => ?_) (fun g => absurd g (by omega))
      exact hQ lv y w S hR n1 (fun _ _ _ => rfl) hv l0
  | succ t ih =>
    intro i y lv w S hR n1 hs0 hy hi hv l0 l3 l5 hQ
    have hcap := hR.cap hc
    have hcl : cw (S (h + 1)) i < 4294967296 := cw_lt
    refine i_44_30 (x := Int64.ofInt (y : Int)) l3 ?_
    refine i_44_31 ?_
    refine i_44_32 (c := Int32.ofInt (lc (y : Int) 0)) (q_cmp (a := (y : Int)) (b := 0) ⟨by omega, by omega⟩ ⟨by decide, by decide⟩) ?_
    refine i_44_33 (lc_eq (a := (y : Int)) (b := 0) fun c0 => ?_) (lc_ne (a := (y : Int)) (b := 0) fun c0 => ?_)
    · refine hQ lv 0 w S hR n1 (fun _ _ _ => rfl) ?_ l0
      have h1 := cv_tail hs0 (show i ≤ N by omega)
      have hy0 : y = 0 := by omega
      subst hy0
      rw [Nat.zero_mul] at hv ⊢
      omega
    · refine i_44_36 (x := Int32.ofInt (i : Int)) l5 ?_
      refine i_44_38 (x := h) l0 ?_
      refine i_44_39 (v := Value.int (Int32.ofInt (N : Int))) (hR.n3n hc n1) rfl ?_
      refine i_44_42 (b_le (a := (N : Int)) (b := (i : Int)) ⟨by omega, by omega⟩ ⟨by omega, by omega⟩ fun c1 => absurd c1 (by omega)) (b_lt (a := (i : Int)) (b := (N : Int)) ⟨by omega, by omega⟩ ⟨by omega, by omega⟩ fun c1 => ?_)
      refine i_44_45 (x := Int64.ofInt (y : Int)) l3 ?_
      refine i_44_46 (x := h) l0 ?_
      refine i_44_47 (v := Value.ref (A h)) (hR.n3 hc) rfl ?_
      refine i_44_50 (x := Int32.ofInt (i : Int)) l5 ?_
      refine i_44_52 (v := Value.int (Int32.ofInt (S (h + 1) i))) (hR.w3 hc) (ix0 (T := (i : Int)) (by omega) (by omega)) (ix1 (T := (i : Int)) (by omega) (by omega) (by omega)) (ra (T := (i : Int)) (by omega) (by omega) (congrArg _ rfl)) ?_
      refine i_44_53 rfl ?_
      refine i_44_54 ?_
      refine i_44_57 (c := Int64.ofInt (cw (S (h + 1)) i : Int)) (lowcw) ?_
      refine i_44_58 (c := Int64.ofInt ((y : Int) + (cw (S (h + 1)) i : Int))) (q_add (y : Int) (cw (S (h + 1)) i : Int)) ?_
      refine i_44_59 rfl ?_
      refine lgen2 (i := 3) (v := Value.long (Int64.ofInt ((y : Int) + (cw (S (h + 1)) i : Int)))) (fun lv lg ls => ?_)
      replace l0 := lg 0 _ rfl rfl l0
      replace l5 := lg 5 _ rfl rfl l5
      have l3 := ls
      refine i_44_60 (x := h) l0 ?_
      refine i_44_61 (v := Value.ref (A h)) (hR.n3 hc) rfl ?_
      refine i_44_64 (x := Int32.ofInt (i : Int)) l5 ?_
      refine i_44_66 (x := Int64.ofInt ((y : Int) + (cw (S (h + 1)) i : Int))) l3 ?_
      refine i_44_67 (c := Int32.ofInt ((y : Int) + (cw (S (h + 1)) i : Int))) (q_l2i ((y : Int) + (cw (S (h + 1)) i : Int))) ?_
      refine i_44_68 (hR.w3 hc) (ix0 (T := (i : Int)) (by omega) (by omega)) (ix1 (T := (i : Int)) (by omega) (by omega) (by omega)) (hR.apart hc).2.2.2.2.1 rfl ?_
      rw [ixn (T := (i : Int)) (by omega) (by omega), show ((i : Int)).toNat = i from rfl]
      refine xgen (P := cR w0 L Z A C B (u2 S (h + 1) i ((y : Int) + (cw (S (h + 1)) i : Int)))) (hR.arr hc rfl) (fun w hR => ?_)
      replace n1 : (u2 S (h + 1) i ((y : Int) + (cw (S (h + 1)) i : Int))) h 1 = ((N : Nat) : Int) := by rw [u2_n (by omega)]; exact n1
      refine i_44_69 (x := Int64.ofInt ((y : Int) + (cw (S (h + 1)) i : Int))) l3 ?_
      refine i_44_70 ?_
      refine i_44_72 (c := Int64.ofInt (((y : Int) + (cw (S (h + 1)) i : Int)) / 4294967296)) (q_ushr32 (t := (y : Int) + (cw (S (h + 1)) i : Int)) (by omega) (by omega)) ?_
      refine i_44_73 rfl ?_
      refine lgen2 (i := 3) (v := Value.long (Int64.ofInt (((y : Int) + (cw (S (h + 1)) i : Int)) / 4294967296))) (fun lv lg ls => ?_)
      replace l0 := lg 0 _ rfl rfl l0
      replace l5 := lg 5 _ rfl rfl l5
      have l3 := ls
      refine i_44_74 (x := (Int32.ofInt (i : Int))) (c := (Int32.ofInt ((i : Int) + 1))) l5 (o_add (i : Int) 1) rfl ?_
      refine lgen1 (i := 5) (v := Value.int (Int32.ofInt ((i : Int) + 1))) (fun lv lg ls => ?_)
      replace l3 := lg 3 _ rfl rfl l3
      replace l0 := lg 0 _ rfl rfl l0
      have l5 := ls
      refine i_44_77 ?_
      obtain ⟨x, hxn⟩ : ∃ x : Nat, x = y + cw (S (h + 1)) i := ⟨_, rfl⟩
      have hx : (y : Int) + (cw (S (h + 1)) i : Int) = ((x : Nat) : Int) := by omega
      rw [show ((y : Int) + (cw (S (h + 1)) i : Int)) / 4294967296 = ((x / 4294967296 : Nat) : Int) by omega] at l3
      have ec : cw s0 i = cw (S (h + 1)) i := by unfold cw; rw [hs0 i (Nat.le_refl _)]
      refine ih (i := i + 1) (y := x / 4294967296) hR n1 (fun j hj => by rw [u2_s, u1_n (by omega)]; exact hs0 j (by omega)) (by omega) (by omega) ?_ l0 l3 l5 (fun lv' y' w' S' q1 q2 q3 q4 q5 => hQ lv' y' w' S' q1 q2 (fun b j hb => by rw [q3 b j hb, u2_n hb]) q4 q5)
      rw [u2_s, cv_set hx, pow_s, carry_step hv hxn]
      show _ = cv s0 i + cw s0 i * 2 ^ (32 * i) + X
      rw [ec]
      omega
theorem X_addBit {u : Nat} (hX : cX w0 L Z S V w) (hc : kd h = 3) (hu : V h = u) (hp : 0 ≤ p ∧ p ≤ 638000) (hb : xbl u ≤ 638000) : ∃ w', xRun (d + 4) 44 [.ref h, .int (Int32.ofInt p)] w (.inl none) w' ∧ cX w0 L Z S (uv V h (u + 2 ^ p.toNat)) w' := by
  obtain ⟨A, C, B, S0, hR, hv, hs⟩ := hX
  obtain ⟨n, n1, n2, n3, n4⟩ := hv h hc
  rw [hu] at n3
  have hcap := hR.cap hc
  have hsz : n = (xbl u + 31) / 32 := by rw [← n3]; exact nv_size n4
  obtain ⟨w1, A1, C1, B1, S1, r1, hR1, p2, p4, p1, p3, p5⟩ := c_widen (d := d) (t := max (n : Int) (p / 32 + 1) + 1) hR hc n1 n2 (by omega) (by omega)
  obtain ⟨N, hN⟩ : ∃ N : Nat, (N : Int) = max (n : Int) (p / 32 + 1) + 1 := ⟨(max (n : Int) (p / 32 + 1) + 1).toNat, by omega⟩
  have hcap1 := hR1.cap hc
  have o1 : S1 h 1 = N := by rw [p4]; omega
  have o3 : cv (S1 (h + 1)) N = u := by
    rw [cv_zero (j := n) (by omega) (fun i g1 g2 => by unfold cw; rw [p5 i g1 (by omega)]; rfl), ← n3]
    exact cv_same (fun j hj => p3 _ _ (Or.inl (by omega)) (Or.inr hj))
  have hul : u < 2 ^ (32 * (N - 1)) := by
    rw [← n3]
    exact Nat.lt_of_lt_of_le cv_lt (Nat.pow_le_pow_right (by decide) (by omega))
  have hpw : 2 ^ (32 * N) = 4294967296 * 2 ^ (32 * (N - 1)) := by rw [← pow_s, show N - 1 + 1 = N by omega]
  have hpl : 2 ^ p.toNat ≤ 2 ^ (32 * (N - 1)) := Nat.pow_le_pow_right (by decide) (by omega)
  have hsum : u + 2 ^ p.toNat < 2 ^ (32 * N) := by omega
  have hpb0 : 2 ^ (p % 32).toNat ≤ 2 ^ 31 := Nat.pow_le_pow_right (by decide) (by omega)
  have hpb : 1 * 2 ^ (p % 32).toNat < 18446744073709551616 := by omega
  have key : ∀ lv, xld lv 0 = some (.ref h) → xld lv 1 = some (.int (Int32.ofInt p)) → xEv (d + 4) 44 0 lv [] w (fun o w' => o = .inl none ∧ cX w0 L Z S (uv V h (u + 2 ^ p.toNat)) w') := by
    intro lv l0 l1
    refine i_44_0 (x := Int32.ofInt p) l1 ?_
    refine i_44_1 ?_
    refine i_44_2 (c := Int32.ofInt (p / 32)) (o_shr5 (t := p) ⟨by omega, by omega⟩) ?_
    refine i_44_3 rfl ?_
    refine lgen1 (i := 2) (v := Value.int (Int32.ofInt (p / 32))) (fun lv lg ls => ?_)
    replace l0 := lg 0 _ rfl rfl l0
    replace l1 := lg 1 _ rfl rfl l1
    have l2 := ls
    refine i_44_4 (x := h) l0 ?_
    refine i_44_5 (x := h) l0 ?_
    refine i_44_6 (v := Value.int (Int32.ofInt (n : Int))) (hR.n3n hc n1) rfl ?_
    refine i_44_9 (x := Int32.ofInt (p / 32)) l2 ?_
    refine i_44_10 ?_
    refine i_44_11 (c := Int32.ofInt ((p / 32) + 1)) (o_add (p / 32) 1) ?_
    have hrun := s_max (d := d + 2) (w := w) (a := (n : Int)) (b := (p / 32) + 1) ⟨by omega, by omega⟩ ⟨by omega, by omega⟩
    refine i_44_12 (Nat.le_of_ble_eq_true rfl) hrun ?_
    refine i_44_15 ?_
    refine i_44_16 (c := Int32.ofInt ((max (n : Int) ((p / 32) + 1)) + 1)) (o_add (max (n : Int) ((p / 32) + 1)) 1) ?_
    have hobj := hR.n3 hc
    have hrun := r1
    replace hR := hR1
    refine i_44_17 hobj (Nat.le_of_ble_eq_true rfl) hrun ?_
    refine i_44_20 ?_
    refine i_44_21 (x := Int32.ofInt p) l1 ?_
    refine i_44_22 ?_
    refine i_44_24 (c := Int32.ofInt (p % 32)) (o_mask5 p) ?_
    refine i_44_25 (c := Int64.ofInt ((1 * 2 ^ (p % 32).toNat : Nat) : Int)) (q_shlN (a := 1) (q := (p % 32).toNat) (by rw [oI (by omega) (by omega)]; omega) (by omega) hpb) ?_
    refine i_44_26 rfl ?_
    refine lgen2 (i := 3) (v := Value.long (Int64.ofInt ((1 * 2 ^ (p % 32).toNat : Nat) : Int))) (fun lv lg ls => ?_)
    replace l2 := lg 2 _ rfl rfl l2
    replace l0 := lg 0 _ rfl rfl l0
    replace l1 := lg 1 _ rfl rfl l1
    have l3 := ls
    refine i_44_27 (x := Int32.ofInt (p / 32)) l2 ?_
    refine i_44_28 rfl ?_
    refine lgen1 (i := 5) (v := Value.int (Int32.ofInt (p / 32))) (fun lv lg ls => ?_)
    replace l3 := lg 3 _ rfl rfl l3
    replace l2 := lg 2 _ rfl rfl l2
    replace l0 := lg 0 _ rfl rfl l0
    replace l1 := lg 1 _ rfl rfl l1
    have l5 := ls
    obtain ⟨at_, hat⟩ : ∃ at_ : Nat, (at_ : Int) = p / 32 := ⟨(p / 32).toNat, by omega⟩
    rw [← hat] at l5
    refine adb_loop (X := 2 ^ p.toNat) hc (by omega) (N - at_) (i := at_) (y := 1 * 2 ^ (p % 32).toNat) hR o1 (fun _ _ => rfl) (by omega) (by omega) ?_ l0 l3 l5 (fun lv y' w S' q1 q2 q3 q4 l0 => ?_)
    · rw [Nat.one_mul, ← Nat.pow_add, show (p % 32).toNat + 32 * at_ = p.toNat by omega]
    · rw [o3] at q4
      have e := no_carry q4 hsum
      obtain ⟨w2, r2, hX2⟩ := X_trim (d := d + 3) hv hs hc q1 p2 (fun b j g1 g2 => by rw [q3 b j g2, p3 b j (Or.inl g1) (Or.inl g2)]) q2 (by omega) e
      refine i_44_80 l0 ?_
      refine i_44_81 (q1.n3 hc) (Nat.le_of_ble_eq_true rfl) r2 ?_
      exact i_44_84 ⟨rfl, hX2⟩
  obtain ⟨o, w', h1, rfl, h2⟩ := (key (lv_args 0 [.ref h, .int (Int32.ofInt p)]) rfl rfl).run
  exact ⟨w', h1, h2⟩
end
