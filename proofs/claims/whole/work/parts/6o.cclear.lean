/-! clearBelow of the class's naturals -/
theorem and_hi {c r : Nat} (hc : c < 2 ^ 32) (hr : r ≤ 32) : c &&& (2 ^ r * (2 ^ (32 - r) - 1)) = 2 ^ r * (c / 2 ^ r) := by
  apply Nat.eq_of_testBit_eq
  intro i
  simp only [Nat.testBit_and, Nat.testBit_two_pow_mul, Nat.testBit_two_pow_sub_one, Nat.testBit_div_two_pow]
  by_cases g : r ≤ i
  · have e1 : r + (i - r) = i := by omega
    have e2 : i - r + r = i := by omega
    simp only [e1, e2, ge_iff_le, g, decide_true, Bool.true_and]
    by_cases g2 : i < 32
    · rw [decide_eq_true (show i - r < 32 - r by omega), Bool.and_true]
    · rw [Nat.testBit_lt_two_pow (Nat.lt_of_lt_of_le hc (Nat.pow_le_pow_right (by decide) (by omega))), Bool.false_and]
  · simp [g]
theorem and_mask {x : Int32} {r : Int} (hr : 0 ≤ r ∧ r < 32) : xun (x &&& ((-1 : Int32) <<< (Int32.ofInt r &&& 31))) = xun x - xun x % 2 ^ r.toNat := by
  have e : (Int32.ofInt r).toInt = r := oI (by omega) (by omega)
  have hx : xun x < 2 ^ 32 := xun_lt x
  have hK : 2 ^ r.toNat * 2 ^ (32 - r.toNat) = 4294967296 := by rw [← Nat.pow_add, show r.toNat + (32 - r.toNat) = 32 by omega]
  have h1 : xun ((-1 : Int32) <<< (Int32.ofInt r &&& 31)) = 2 ^ r.toNat * (2 ^ (32 - r.toNat) - 1) := by
    rw [xshl_n (by omega) (by omega), e, show xun (-1 : Int32) = 4294967295 from rfl, Nat.mul_sub, hK, Nat.mul_one]
    have h2 : 2 ^ r.toNat ≤ 2 ^ 32 := Nat.pow_le_pow_right (by decide) (by omega)
    have h3 := Nat.two_pow_pos r.toNat
    generalize 2 ^ r.toNat = K at h2 h3
    omega
  show xun x &&& xun ((-1 : Int32) <<< (Int32.ofInt r &&& 31)) = _
  rw [h1, and_hi hx (by omega)]
  have h4 := Nat.div_add_mod (xun x) (2 ^ r.toNat)
  omega
theorem clr_val {s s' : Nat → Int} {n f r : Nat} (hf : f < n) (hr : r ≤ 32) (h0 : ∀ j, j < f → s' j = 0) (h1 : ∀ j, f < j → s' j = s j) (h2 : cw s' f = cw s f - cw s f % 2 ^ r) : cv s' n = cv s n - cv s n % 2 ^ (32 * f + r) := by
  have e1 := cv_tail (s := s') (s0 := s) (i := f + 1) (n := n) (fun j hj => h1 j (by omega)) (by omega)
  have e2 : cv s' f = 0 := cv_none (fun i hi => by unfold cw; rw [h0 i hi]; rfl)
  have e4 : cv s' (f + 1) = cv s' f + cw s' f * 2 ^ (32 * f) := rfl
  have e5 : cv s (f + 1) = cv s f + cw s f * 2 ^ (32 * f) := rfl
  have e6 : (cw s f - cw s f % 2 ^ r) * 2 ^ (32 * f) + (cw s f % 2 ^ r) * 2 ^ (32 * f) = cw s f * 2 ^ (32 * f) := by rw [← Nat.add_mul, Nat.sub_add_cancel (Nat.mod_le _ _)]
  rw [e4, e2, h2, e5] at e1
  rw [mod_at hf hr]
  omega
section
variable {w0 w : xW} {L Z : Nat} {A C B : Nat → Nat} {S S0 : Nat → Nat → Int} {V : Nat → Nat} {h h2 r d : Nat} {v p : Int}
theorem clr_loop (hc : kd h = 3) {n f : Nat} (hf : f ≤ C h) {Q : Option Value ⊕ Nat → xW → Prop} : ∀ (t : Nat) {i : Nat} {lv : xLv} {w : xW} {S : Nat → Nat → Int}, cR w0 L Z A C B S w → S h 1 = n → i + t = f → xld lv 0 = some (.ref h) → xld lv 1 = some (.int (Int32.ofInt p)) → xld lv 2 = some (.int (Int32.ofInt (f : Int))) → xld lv 3 = some (.int (Int32.ofInt (i : Int))) →
    (∀ lv' w' S', cR w0 L Z A C B S' w' → S' h 1 = n → (∀ b j, b ≠ h + 1 ∨ f ≤ j ∨ j < i → S' b j = S b j) → (∀ j, i ≤ j → j < f → S' (h + 1) j = 0) → xld lv' 0 = some (.ref h) → xld lv' 1 = some (.int (Int32.ofInt p)) → xld lv' 2 = some (.int (Int32.ofInt (f : Int))) → xEv d 43 31 lv' [] w' Q) → xEv d 43 13 lv [] w Q := by
  intro t
  induction t with
  | zero =>
    intro i lv w S hR n1 hi l0 l1 l2 l3 hQ
    have hcap := hR.cap hc
    have e : i = f := by omega
    subst e
    refine i_43_13 l3 ?_
    refine i_43_14 l2 ?_
    refine i_43_15 (fun _ => ?_) (fun g => absurd g (by omega))
    exact hQ lv w S hR n1 (fun _ _ _ => rfl) (fun j h1 h2 => absurd h1 (by omega)) l0 l1 l2
  | succ t ih =>
    intro i lv w S hR n1 hi l0 l1 l2 l3 hQ
    have hcap := hR.cap hc
    refine i_43_13 (x := Int32.ofInt (i : Int)) l3 ?_
    refine i_43_14 (x := Int32.ofInt (f : Int)) l2 ?_
    refine i_43_15 (b_le (a := (f : Int)) (b := (i : Int)) ⟨by omega, by omega⟩ ⟨by omega, by omega⟩ fun c0 => absurd c0 (by omega)) (b_lt (a := (i : Int)) (b := (f : Int)) ⟨by omega, by omega⟩ ⟨by omega, by omega⟩ fun c0 => ?_)
    refine i_43_18 (x := h) l0 ?_
    refine i_43_19 (v := Value.ref (A h)) (hR.n3 hc) rfl ?_
    refine i_43_22 (x := Int32.ofInt (i : Int)) l3 ?_
    refine i_43_23 ?_
    refine i_43_24 (hR.w3 hc) (ix0 (T := (i : Int)) (by omega) (by omega)) (ix1 (T := (i : Int)) (by omega) (by omega) (by omega)) (hR.apart hc).2.2.2.2.1 rfl ?_
    rw [ixn (T := (i : Int)) (by omega) (by omega), show ((i : Int)).toNat = i from rfl]
    refine xgen (P := cR w0 L Z A C B (u2 S (h + 1) i 0)) (hR.arr hc rfl) (fun w hR => ?_)
    replace n1 : (u2 S (h + 1) i 0) h 1 = ((n : Nat) : Int) := by rw [u2_n (by omega)]; exact n1
    refine i_43_25 (x := (Int32.ofInt (i : Int))) (c := (Int32.ofInt ((i : Int) + 1))) l3 (o_add (i : Int) 1) rfl ?_
    refine lgen1 (i := 3) (v := Value.int (Int32.ofInt ((i : Int) + 1))) (fun lv lg ls => ?_)
    replace l0 := lg 0 _ rfl rfl l0
    replace l1 := lg 1 _ rfl rfl l1
    replace l2 := lg 2 _ rfl rfl l2
    have l3 := ls
    refine i_43_28 ?_
    refine ih (i := i + 1) hR n1 (by omega) l0 l1 l2 l3 (fun lv' w' S' q0 q1 q2 q3 q4 q5 q6 => hQ lv' w' S' q0 q1 (fun b j hb => by rw [q2 b j (by omega), u2_eq, if_neg (by omega)]) (fun j hj hj2 => ?_) q4 q5 q6)
    by_cases e : j = i
    · subst e; rw [q2 _ _ (by omega), u2_eq, if_pos ⟨rfl, rfl⟩]
    · exact q3 j (by omega) hj2
theorem X_clear {u : Nat} (hX : cX w0 L Z S V w) (hc : kd h = 3) (hu : V h = u) (hp : 0 ≤ p ∧ p < 2147483648) : ∃ w', xRun (d + 2) 43 [.ref h, .int (Int32.ofInt p)] w (.inl none) w' ∧ cX w0 L Z S (uv V h (u - u % 2 ^ p.toNat)) w' := by
  obtain ⟨A, C, B, S0, hR, hv, hs⟩ := hX
  obtain ⟨n, n1, n2, n3, n4⟩ := hv h hc
  rw [hu] at n3
  have hcap := hR.cap hc
  have hul : u < 2 ^ (32 * n) := by rw [← n3]; exact cv_lt
  have fin : ∀ lv w S', cR w0 L Z A C B S' w → S' h 1 = n → (∀ b j, b ≠ h + 1 → S' b j = S0 b j) → cv (S' (h + 1)) n = u - u % 2 ^ p.toNat → xld lv 0 = some (.ref h) → xEv (d + 2) 43 61 lv [] w (fun o w' => o = .inl none ∧ cX w0 L Z S (uv V h (u - u % 2 ^ p.toNat)) w') := by
    intro lv w S' hR q1 q2 q3 l0
    obtain ⟨w2, r1, hX2⟩ := X_trim (d := d + 1) hv hs hc hR (fun _ => Nat.le_refl _) (fun b j _ g2 => q2 b j g2) q1 n2 q3
    refine i_43_61 l0 ?_
    refine i_43_62 (hR.n3 hc) (Nat.le_of_ble_eq_true rfl) r1 ?_
    exact i_43_65 ⟨rfl, hX2⟩
  have key : ∀ lv, xld lv 0 = some (.ref h) → xld lv 1 = some (.int (Int32.ofInt p)) → xEv (d + 2) 43 0 lv [] w (fun o w' => o = .inl none ∧ cX w0 L Z S (uv V h (u - u % 2 ^ p.toNat)) w') := by
    intro lv l0 l1
    refine i_43_0 (x := Int32.ofInt p) l1 ?_
    refine i_43_1 ?_
    refine i_43_2 (c := Int32.ofInt (p / 32)) (o_shr5 (t := p) ⟨by omega, by omega⟩) ?_
    refine i_43_3 (x := h) l0 ?_
    refine i_43_4 (v := Value.int (Int32.ofInt (n : Int))) (hR.n3n hc n1) rfl ?_
    have hrun := s_min (d := d) (w := w) (a := p / 32) (b := (n : Int)) ⟨by omega, by omega⟩ ⟨by omega, by omega⟩
    refine i_43_7 (Nat.le_of_ble_eq_true rfl) hrun ?_
    refine i_43_10 rfl ?_
    refine lgen1 (i := 2) (v := Value.int (Int32.ofInt (min (p / 32) (n : Int)))) (fun lv lg ls => ?_)
    replace l0 := lg 0 _ rfl rfl l0
    replace l1 := lg 1 _ rfl rfl l1
    have l2 := ls
    refine i_43_11 ?_
    refine i_43_12 rfl ?_
    refine lgen1 (i := 3) (v := Value.int 0) (fun lv lg ls => ?_)
    replace l2 := lg 2 _ rfl rfl l2
    replace l0 := lg 0 _ rfl rfl l0
    replace l1 := lg 1 _ rfl rfl l1
    have l3 := ls
    obtain ⟨f, hf⟩ : ∃ f : Nat, (f : Int) = min (p / 32) (n : Int) := ⟨(min (p / 32) (n : Int)).toNat, by omega⟩
    rw [← hf] at l2
    refine clr_loop hc (by omega) f (i := 0) hR n1 (by omega) l0 l1 l2 l3 (fun lv w S' hR q1 q2 q3 l0 l1 l2 => ?_)
    refine i_43_31 (x := Int32.ofInt (f : Int)) l2 ?_
    refine i_43_32 (x := h) l0 ?_
    refine i_43_33 (v := Value.int (Int32.ofInt (n : Int))) (hR.n3n hc q1) rfl ?_
    refine i_43_36 (b_le (a := (n : Int)) (b := (f : Int)) ⟨by omega, by omega⟩ ⟨by omega, by omega⟩ fun c10 => ?_) (b_lt (a := (f : Int)) (b := (n : Int)) ⟨by omega, by omega⟩ ⟨by omega, by omega⟩ fun c10 => ?_)
    · exact fin lv w _ hR q1 (fun b j hb => q2 b j (Or.inl hb)) (by rw [cv_none (fun j hj => by unfold cw; rw [q3 j (Nat.zero_le j) (by omega)]; rfl), Nat.mod_eq_of_lt (Nat.lt_of_lt_of_le hul (Nat.pow_le_pow_right (by decide) (show 32 * n ≤ p.toNat by omega))), Nat.sub_self]) l0
    · refine i_43_39 (x := Int32.ofInt p) l1 ?_
      refine i_43_40 ?_
      refine i_43_42 (c := Int32.ofInt (p % 32)) (o_mask5 p) ?_
      refine i_43_43 (z_eq (a := p % 32) ⟨by omega, by omega⟩ fun c11 => ?_) (z_ne (a := p % 32) ⟨by omega, by omega⟩ fun c11 => ?_)
      · have ep : p.toNat = 32 * f + (p % 32).toNat := by omega
        refine fin lv w _ hR q1 (fun b j hb => q2 b j (Or.inl hb)) ?_ l0
        rw [← n3, ep]
        exact clr_val (by omega) (by omega) (fun j hj => q3 j (Nat.zero_le j) hj) (fun j hj => q2 _ j (by omega)) (by rw [show (p % 32).toNat = 0 by omega, Nat.pow_zero, Nat.mod_one, Nat.sub_zero]; unfold cw; rw [q2 _ f (by omega)])
      · refine i_43_46 (x := h) l0 ?_
        refine i_43_47 (v := Value.ref (A h)) (hR.n3 hc) rfl ?_
        refine i_43_50 (x := Int32.ofInt (f : Int)) l2 ?_
        refine i_43_51 rfl rfl ?_
        refine i_43_52 (v := Value.int (Int32.ofInt (S' (h + 1) f))) (hR.w3 hc) (ix0 (T := (f : Int)) (by omega) (by omega)) (ix1 (T := (f : Int)) (by omega) (by omega) (by omega)) (ra (T := (f : Int)) (by omega) (by omega) (congrArg _ rfl)) ?_
        refine i_43_53 ?_
        refine i_43_54 (x := Int32.ofInt p) l1 ?_
        refine i_43_55 ?_
        refine i_43_57 (c := Int32.ofInt (p % 32)) (o_mask5 p) ?_
        refine i_43_58 rfl ?_
        refine i_43_59 rfl ?_
        refine i_43_60 (hR.w3 hc) (ix0 (T := (f : Int)) (by omega) (by omega)) (ix1 (T := (f : Int)) (by omega) (by omega) (by omega)) (hR.apart hc).2.2.2.2.1 rfl ?_
        rw [ixn (T := (f : Int)) (by omega) (by omega), show ((f : Int)).toNat = f from rfl]
        refine xgen (P := cR w0 L Z A C B (u2 S' (h + 1) f (((Int32.ofInt (S' (h + 1) f)) &&& ((-1 : Int32) <<< ((Int32.ofInt (p % 32)) &&& 31))).toInt))) (hR.arr hc (Int32.ofInt_toInt _)) (fun w hR => ?_)
        replace q1 : (u2 S' (h + 1) f (((Int32.ofInt (S' (h + 1) f)) &&& ((-1 : Int32) <<< ((Int32.ofInt (p % 32)) &&& 31))).toInt)) h 1 = ((n : Nat) : Int) := by rw [u2_n (by omega)]; exact q1
        have ep : p.toNat = 32 * f + (p % 32).toNat := by omega
        refine fin lv w _ hR q1 (fun b j hb => by rw [u2_n hb]; exact q2 b j (Or.inl hb)) ?_ l0
        rw [← n3, ep]
        exact clr_val (by omega) (by omega) (fun j hj => by rw [u2_s, u1_n (by omega)]; exact q3 j (Nat.zero_le j) hj) (fun j hj => by rw [u2_s, u1_n (by omega)]; exact q2 _ j (by omega)) (cw_un.symm.trans (by rw [u2_s, u1_s, Int32.ofInt_toInt, and_mask ⟨by omega, by omega⟩, cw_un]; unfold cw; rw [q2 _ f (by omega)]))
  obtain ⟨o, w', h1, rfl, h2⟩ := (key (lv_args 0 [.ref h, .int (Int32.ofInt p)]) rfl rfl).run
  exact ⟨w', h1, h2⟩
end
