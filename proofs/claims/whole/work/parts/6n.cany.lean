/-! anyBelow, zerosBelow of the class's naturals -/
theorem cz_eq {s : Nat → Int} {j : Nat} {P : Prop} (k : cw s j = 0 → P) : (Int32.ofInt (s j)).toInt = 0 → P := fun e => k (cw_0.mp e)
theorem cz_ne {s : Nat → Int} {j : Nat} {P : Prop} (k : cw s j ≠ 0 → P) : (Int32.ofInt (s j)).toInt ≠ 0 → P := fun e => k (fun g => e (cw_0.mpr g))
theorem cv_mod {s : Nat → Int} {n f : Nat} (hf : f ≤ n) : cv s n % 2 ^ (32 * f) = cv s f := (cv_of (fun j hj => cw_at (by omega))).symm
theorem any_w {s : Nat → Int} {n j p : Nat} (hj : j < n) (hp : 32 * j + 32 ≤ p) (hz : cw s j ≠ 0) : cv s n % 2 ^ p ≠ 0 := by
  intro e
  apply hz
  rw [cw_at hj]
  have e2 : cv s n % 2 ^ (32 * j + 32) = 0 := by
    have h1 := Nat.mod_mod_of_dvd (cv s n) (Nat.pow_dvd_pow 2 hp)
    rw [e] at h1
    rw [← h1]
    exact Nat.zero_mod _
  rw [Nat.pow_add, Nat.mod_mul] at e2
  have h3 := Nat.two_pow_pos (32 * j)
  have h4 : 2 ^ (32 * j) * (cv s n / 2 ^ (32 * j) % 2 ^ 32) = 0 := by omega
  rcases Nat.mul_eq_zero.mp h4 with g | g
  · omega
  · exact g
theorem mod_at {s : Nat → Int} {n f r : Nat} (hf : f < n) (hr : r ≤ 32) : cv s n % 2 ^ (32 * f + r) = cv s f + (cw s f % 2 ^ r) * 2 ^ (32 * f) := by
  rw [Nat.pow_add, Nat.mod_mul, cv_mod (by omega), Nat.mul_comm, cw_at hf, Nat.mod_mod_of_dvd _ (show 2 ^ r ∣ 4294967296 from Nat.pow_dvd_pow 2 hr)]
theorem cv_none {s : Nat → Int} {n : Nat} (h0 : ∀ j, j < n → cw s j = 0) : cv s n = 0 := (cv_zero (Nat.zero_le n) (fun i _ hi => h0 i hi)).trans rfl
theorem any_end {s : Nat → Int} {n f r : Nat} (h0 : ∀ j, j < f → cw s j = 0) (hf : f < n) (hr : r ≤ 32) : cv s n % 2 ^ (32 * f + r) = (cw s f % 2 ^ r) * 2 ^ (32 * f) := by rw [mod_at hf hr, cv_none h0, Nat.zero_add]
theorem any_0 {s : Nat → Int} {n f p : Nat} (h0 : ∀ j, j < f → cw s j = 0) (hf : f = n ∨ (f < n ∧ p = 32 * f)) : cv s n % 2 ^ p = 0 := by
  rcases hf with g | ⟨g1, g2⟩
  · subst g; rw [cv_none h0]; exact Nat.zero_mod _
  · subst g2
    rw [cv_mod (by omega), cv_none h0]
theorem nany_f {u : Nat} {p : Int} (h : u % 2 ^ p.toNat = 0) : nany u p = false := by
  unfold nany
  rw [h]
  rfl
theorem nany_t {u : Nat} {p : Int} (h : u % 2 ^ p.toNat ≠ 0) : nany u p = true := by
  unfold nany
  exact decide_eq_true h
theorem shl_top {x : Int32} {r : Int} (hr : 0 < r ∧ r < 32) : xun (x <<< (Int32.ofInt (32 - r) &&& 31)) = (xun x % 2 ^ r.toNat) * 2 ^ (32 - r.toNat) := by
  have e : (Int32.ofInt (32 - r)).toInt = 32 - r := oI (by omega) (by omega)
  rw [xshl_n (by omega) (by omega), e, show (32 - r).toNat = 32 - r.toNat by omega]
  have hK : 2 ^ r.toNat * 2 ^ (32 - r.toNat) = 4294967296 := by rw [← Nat.pow_add, show r.toNat + (32 - r.toNat) = 32 by omega]
  rw [← hK, Nat.mul_mod_mul_right]
section
variable {w0 w : xW} {L Z : Nat} {A C B : Nat → Nat} {S S0 : Nat → Nat → Int} {V : Nat → Nat} {h h2 r d : Nat} {v p : Int}
theorem cany_loop {n f : Nat} (hR : cR w0 L Z A C B S w) (hc : kd h = 3) (n1 : S h 1 = n) (hf : f ≤ C h) {Q : Option Value ⊕ Nat → xW → Prop} : ∀ (t : Nat) {i : Nat} {lv : xLv}, i + t = f → (∀ j, j < i → cw (S (h + 1)) j = 0) → xld lv 0 = some (.ref h) → xld lv 1 = some (.int (Int32.ofInt p)) → xld lv 2 = some (.int (Int32.ofInt (f : Int))) → xld lv 3 = some (.int (Int32.ofInt (i : Int))) →
    (∀ j, j < f → cw (S (h + 1)) j ≠ 0 → Q (.inl (some (.int 1))) w) → (∀ lv', (∀ j, j < f → cw (S (h + 1)) j = 0) → xld lv' 0 = some (.ref h) → xld lv' 1 = some (.int (Int32.ofInt p)) → xld lv' 2 = some (.int (Int32.ofInt (f : Int))) → xEv d 33 41 lv' [] w Q) → xEv d 33 19 lv [] w Q := by
  have hcap := hR.cap hc
  intro t
  induction t with
  | zero =>
    intro i lv hi h0 l0 l1 l2 l3 h1 h2
    have e : i = f := by omega
    subst e
    refine i_33_19 l3 ?_
    refine i_33_20 l2 ?_
    refine i_33_21 (fun _ => ?_) (fun g => absurd g (by omega))
    exact h2 lv h0 l0 l1 l2
  | succ t ih =>
    intro i lv hi h0 l0 l1 l2 l3 h1 h2
    refine i_33_19 (x := Int32.ofInt (i : Int)) l3 ?_
    refine i_33_20 (x := Int32.ofInt (f : Int)) l2 ?_
    refine i_33_21 (b_le (a := (f : Int)) (b := (i : Int)) ⟨by omega, by omega⟩ ⟨by omega, by omega⟩ fun c0 => absurd c0 (by omega)) (b_lt (a := (i : Int)) (b := (f : Int)) ⟨by omega, by omega⟩ ⟨by omega, by omega⟩ fun c0 => ?_)
    refine i_33_24 (x := h) l0 ?_
    refine i_33_25 (v := Value.ref (A h)) (hR.n3 hc) rfl ?_
    refine i_33_28 (x := Int32.ofInt (i : Int)) l3 ?_
    refine i_33_29 (v := Value.int (Int32.ofInt (S (h + 1) i))) (hR.w3 hc) (ix0 (T := (i : Int)) (by omega) (by omega)) (ix1 (T := (i : Int)) (by omega) (by omega) (by omega)) (ra (T := (i : Int)) (by omega) (by omega) (congrArg _ rfl)) ?_
    refine i_33_30 (cz_eq fun c1 => ?_) (cz_ne fun c1 => ?_)
    · refine i_33_35 (x := (Int32.ofInt (i : Int))) (c := (Int32.ofInt ((i : Int) + 1))) l3 (o_add (i : Int) 1) rfl ?_
      refine lgen1 (i := 3) (v := Value.int (Int32.ofInt ((i : Int) + 1))) (fun lv lg ls => ?_)
      replace l0 := lg 0 _ rfl rfl l0
      replace l1 := lg 1 _ rfl rfl l1
      replace l2 := lg 2 _ rfl rfl l2
      have l3 := ls
      refine i_33_38 ?_
      refine ih (i := i + 1) (by omega) (fun j hj => ?_) l0 l1 l2 l3 h1 h2
      by_cases e : j = i
      · subst e; assumption
      · exact h0 j (by omega)
    · refine i_33_33 ?_
      refine i_33_34 rfl ?_
      exact h1 i (by omega) c1
theorem X_any {u : Nat} (hX : cX w0 L Z S V w) (hc : kd h = 3) (hu : V h = u) (hp : -2147483648 ≤ p ∧ p < 2147483648) : xRun (d + 2) 33 [.ref h, .int (Int32.ofInt p)] w (.inl (some (.int (Int32.ofInt (bb (nany u p)))))) w := by
  obtain ⟨A, C, B, S0, hR, hv, hs⟩ := hX
  obtain ⟨n, n1, n2, n3, n4⟩ := hv h hc
  rw [hu] at n3
  have hcap := hR.cap hc
  have key : ∀ lv, xld lv 0 = some (.ref h) → xld lv 1 = some (.int (Int32.ofInt p)) → xEv (d + 2) 33 0 lv [] w (fun o w' => o = .inl (some (.int (Int32.ofInt (bb (nany u p))))) ∧ w' = w) := by
    intro lv l0 l1
    refine i_33_0 (x := Int32.ofInt p) l1 ?_
    refine i_33_1 (z_gt (a := p) ⟨by omega, by omega⟩ fun c0 => ?_) (z_le (a := p) ⟨by omega, by omega⟩ fun c0 => ?_)
    · refine i_33_6 (x := Int32.ofInt p) l1 ?_
      refine i_33_7 ?_
      refine i_33_8 (c := Int32.ofInt (p / 32)) (o_shr5 (t := p) ⟨by omega, by omega⟩) ?_
      refine i_33_9 (x := h) l0 ?_
      refine i_33_10 (v := Value.int (Int32.ofInt (n : Int))) (hR.n3n hc n1) rfl ?_
      have hrun := s_min (d := d) (w := w) (a := p / 32) (b := (n : Int)) ⟨by omega, by omega⟩ ⟨by omega, by omega⟩
      refine i_33_13 (Nat.le_of_ble_eq_true rfl) hrun ?_
      refine i_33_16 rfl ?_
      refine lgen1 (i := 2) (v := Value.int (Int32.ofInt (min (p / 32) (n : Int)))) (fun lv lg ls => ?_)
      replace l0 := lg 0 _ rfl rfl l0
      replace l1 := lg 1 _ rfl rfl l1
      have l2 := ls
      refine i_33_17 ?_
      refine i_33_18 rfl ?_
      refine lgen1 (i := 3) (v := Value.int 0) (fun lv lg ls => ?_)
      replace l2 := lg 2 _ rfl rfl l2
      replace l0 := lg 0 _ rfl rfl l0
      replace l1 := lg 1 _ rfl rfl l1
      have l3 := ls
      obtain ⟨f, hf⟩ : ∃ f : Nat, (f : Int) = min (p / 32) (n : Int) := ⟨(min (p / 32) (n : Int)).toNat, by omega⟩
      rw [← hf] at l2
      refine cany_loop hR hc n1 (by omega) f (i := 0) (by omega) (fun j hj => absurd hj (Nat.not_lt_zero j)) l0 l1 l2 l3 (fun j hj hz => ?_) (fun lv h0 l0 l1 l2 => ?_)
      · refine ⟨?_, rfl⟩
        rw [nany_t (by rw [← n3]; exact any_w (show j < n by omega) (by omega) hz)]
        rfl
      · refine i_33_41 (x := Int32.ofInt p) l1 ?_
        refine i_33_42 ?_
        refine i_33_44 (c := Int32.ofInt (p % 32)) (o_mask5 p) ?_
        refine i_33_45 rfl ?_
        refine lgen1 (i := 3) (v := Value.int (Int32.ofInt (p % 32))) (fun lv lg ls => ?_)
        replace l0 := lg 0 _ rfl rfl l0
        replace l1 := lg 1 _ rfl rfl l1
        replace l2 := lg 2 _ rfl rfl l2
        have l3 := ls
        refine i_33_46 (x := Int32.ofInt (p % 32)) l3 ?_
        refine i_33_47 (z_eq (a := p % 32) ⟨by omega, by omega⟩ fun c10 => ?_) (z_ne (a := p % 32) ⟨by omega, by omega⟩ fun c10 => ?_)
        · refine i_33_76 ?_
          refine i_33_77 rfl ?_
          refine ⟨?_, rfl⟩
          rw [nany_f (by rw [← n3]; exact any_0 h0 (by omega))]
          rfl
        · refine i_33_50 (x := Int32.ofInt (f : Int)) l2 ?_
          refine i_33_51 (x := h) l0 ?_
          refine i_33_52 (v := Value.int (Int32.ofInt (n : Int))) (hR.n3n hc n1) rfl ?_
          refine i_33_55 (b_le (a := (n : Int)) (b := (f : Int)) ⟨by omega, by omega⟩ ⟨by omega, by omega⟩ fun c11 => ?_) (b_lt (a := (f : Int)) (b := (n : Int)) ⟨by omega, by omega⟩ ⟨by omega, by omega⟩ fun c11 => ?_)
          · refine i_33_76 ?_
            refine i_33_77 rfl ?_
            refine ⟨?_, rfl⟩
            rw [nany_f (by rw [← n3]; exact any_0 h0 (by omega))]
            rfl
          · refine i_33_58 (x := h) l0 ?_
            refine i_33_59 (v := Value.ref (A h)) (hR.n3 hc) rfl ?_
            refine i_33_62 (x := Int32.ofInt (f : Int)) l2 ?_
            refine i_33_63 (v := Value.int (Int32.ofInt (S0 (h + 1) f))) (hR.w3 hc) (ix0 (T := (f : Int)) (by omega) (by omega)) (ix1 (T := (f : Int)) (by omega) (by omega) (by omega)) (ra (T := (f : Int)) (by omega) (by omega) (congrArg _ rfl)) ?_
            refine i_33_64 ?_
            refine i_33_66 (x := Int32.ofInt (p % 32)) l3 ?_
            refine i_33_67 (c := Int32.ofInt (32 - (p % 32))) (o_sub 32 (p % 32)) ?_
            refine i_33_68 rfl ?_
            have ex : xun ((Int32.ofInt (S0 (h + 1) f)) <<< ((Int32.ofInt (32 - (p % 32))) &&& 31)) = (cw (S0 (h + 1)) f % 2 ^ (p % 32).toNat) * 2 ^ (32 - (p % 32).toNat) := by rw [shl_top ⟨by omega, by omega⟩, cw_un]
            have ep : p.toNat = 32 * f + (p % 32).toNat := by omega
            have em := any_end (n := n) (r := (p % 32).toNat) h0 (by omega) (by omega)
            refine i_33_69 (fun g => ?_) (fun g => ?_)
            · refine i_33_76 ?_
              refine i_33_77 rfl ?_
              have g2 := xun_z.mpr g
              rw [ex] at g2
              have g3 : cw (S0 (h + 1)) f % 2 ^ (p % 32).toNat = 0 := by
                rcases Nat.mul_eq_zero.mp g2 with g3 | g3
                · exact g3
                · exact absurd g3 (Nat.ne_of_gt (Nat.two_pow_pos _))
              refine ⟨?_, rfl⟩
              rw [nany_f (by rw [← n3, ep, em, g3, Nat.zero_mul])]
              rfl
            · refine i_33_72 ?_
              refine i_33_73 ?_
              refine i_33_77 rfl ?_
              have g4 : u % 2 ^ p.toNat ≠ 0 := by
                rw [← n3, ep, em]
                intro g2
                refine g (xun_z.mp ?_)
                rcases Nat.mul_eq_zero.mp g2 with g3 | g3
                · rw [ex, g3, Nat.zero_mul]
                · exact absurd g3 (Nat.ne_of_gt (Nat.two_pow_pos _))
              refine ⟨?_, rfl⟩
              rw [nany_t (g4)]
              rfl
    · refine i_33_4 ?_
      refine i_33_5 rfl ?_
      refine ⟨?_, rfl⟩
      rw [nany_f (by rw [show p.toNat = 0 by omega]; exact Nat.mod_one _)]
      rfl
  obtain ⟨o, w', h1, rfl, rfl⟩ := (key (lv_args 0 [.ref h, .int (Int32.ofInt p)]) rfl rfl).run
  exact h1
theorem zer_loop {n : Nat} (hR : cR w0 L Z A C B S w) (hc : kd h = 3) (n1 : S h 1 = n) (hn : n ≤ C h) {Q : Option Value ⊕ Nat → xW → Prop} : ∀ (t : Nat) {i : Nat} {lv : xLv}, i + t = n → (∀ j, j < i → cw (S (h + 1)) j = 0) → xld lv 0 = some (.ref h) → xld lv 1 = some (.int (Int32.ofInt (i : Int))) →
    (∀ j : Nat, j < n → (∀ i, i < j → cw (S (h + 1)) i = 0) → cw (S (h + 1)) j ≠ 0 → Q (.inl (some (.int (Int32.ofInt (32 * (j : Int) + (xntz (Int32.ofInt (S (h + 1) j))).toInt))))) w) → ((∀ j, j < n → cw (S (h + 1)) j = 0) → Q (.inl (some (.int 0))) w) → xEv (d + 1) 51 2 lv [] w Q := by
  have hcap := hR.cap hc
  intro t
  induction t with
  | zero =>
    intro i lv hi h0 l0 l1 h1 h2
    have e : i = n := by omega
    subst e
    refine i_51_2 l1 ?_
    refine i_51_3 l0 ?_
    refine i_51_4 (v := Value.int (Int32.ofInt (i : Int))) (hR.n3n hc n1) rfl ?_
    refine i_51_7 (fun _ => ?_) (fun g => absurd g (by omega))
    refine i_51_40 ?_
    refine i_51_41 ?_
    exact h2 h0
  | succ t ih =>
    intro i lv hi h0 l0 l1 h1 h2
    refine i_51_2 (x := Int32.ofInt (i : Int)) l1 ?_
    refine i_51_3 (x := h) l0 ?_
    refine i_51_4 (v := Value.int (Int32.ofInt (n : Int))) (hR.n3n hc n1) rfl ?_
    refine i_51_7 (b_le (a := (n : Int)) (b := (i : Int)) ⟨by omega, by omega⟩ ⟨by omega, by omega⟩ fun c0 => absurd c0 (by omega)) (b_lt (a := (i : Int)) (b := (n : Int)) ⟨by omega, by omega⟩ ⟨by omega, by omega⟩ fun c0 => ?_)
    refine i_51_10 (x := h) l0 ?_
    refine i_51_11 (v := Value.ref (A h)) (hR.n3 hc) rfl ?_
    refine i_51_14 (x := Int32.ofInt (i : Int)) l1 ?_
    refine i_51_15 (v := Value.int (Int32.ofInt (S (h + 1) i))) (hR.w3 hc) (ix0 (T := (i : Int)) (by omega) (by omega)) (ix1 (T := (i : Int)) (by omega) (by omega) (by omega)) (ra (T := (i : Int)) (by omega) (by omega) (congrArg _ rfl)) ?_
    refine i_51_16 (cz_eq fun c1 => ?_) (cz_ne fun c1 => ?_)
    · refine i_51_34 (x := (Int32.ofInt (i : Int))) (c := (Int32.ofInt ((i : Int) + 1))) l1 (o_add (i : Int) 1) rfl ?_
      refine lgen1 (i := 1) (v := Value.int (Int32.ofInt ((i : Int) + 1))) (fun lv lg ls => ?_)
      replace l0 := lg 0 _ rfl rfl l0
      have l1 := ls
      refine i_51_37 ?_
      refine ih (i := i + 1) (by omega) (fun j hj => ?_) l0 l1 h1 h2
      by_cases e : j = i
      · subst e; assumption
      · exact h0 j (by omega)
    · refine i_51_19 ?_
      refine i_51_21 (x := Int32.ofInt (i : Int)) l1 ?_
      refine i_51_22 (c := Int32.ofInt (32 * (i : Int))) (o_mul 32 (i : Int)) ?_
      refine i_51_23 (x := h) l0 ?_
      refine i_51_24 (v := Value.ref (A h)) (hR.n3 hc) rfl ?_
      refine i_51_27 (x := Int32.ofInt (i : Int)) l1 ?_
      refine i_51_28 (v := Value.int (Int32.ofInt (S (h + 1) i))) (hR.w3 hc) (ix0 (T := (i : Int)) (by omega) (by omega)) (ix1 (T := (i : Int)) (by omega) (by omega) (by omega)) (ra (T := (i : Int)) (by omega) (by omega) (congrArg _ rfl)) ?_
      have hrun := ntz_run (d := d) (w := w) (x := Int32.ofInt (S (h + 1) i)) (fun e => c1 (cw_0.mp e))
      rw [show xntz (Int32.ofInt (S (h + 1) i)) = Int32.ofInt (xntz (Int32.ofInt (S (h + 1) i))).toInt from (Int32.ofInt_toInt _).symm] at hrun
      refine i_51_29 (Nat.le_of_ble_eq_true rfl) hrun ?_
      refine i_51_32 (c := Int32.ofInt ((32 * (i : Int)) + ((xntz (Int32.ofInt (S (h + 1) i))).toInt))) (o_add (32 * (i : Int)) ((xntz (Int32.ofInt (S (h + 1) i))).toInt)) ?_
      refine i_51_33 ?_
      exact h1 i (by omega) h0 c1
theorem X_zeros {u : Nat} (hX : cX w0 L Z S V w) (hc : kd h = 3) (hu : V h = u) : ∃ z K : Nat, xRun (d + 1) 51 [.ref h] w (.inl (some (.int (Int32.ofInt (z : Int))))) w ∧ ((u = 0 ∧ z = 0) ∨ u = 2 ^ z * (2 * K + 1)) := by
  obtain ⟨A, C, B, S0, hR, hv, hs⟩ := hX
  obtain ⟨n, n1, n2, n3, n4⟩ := hv h hc
  rw [hu] at n3
  have key : xEv (d + 1) 51 0 (lv_args 0 [.ref h]) [] w (fun o w' => w' = w ∧ ∃ z K : Nat, o = .inl (some (.int (Int32.ofInt (z : Int)))) ∧ ((u = 0 ∧ z = 0) ∨ u = 2 ^ z * (2 * K + 1))) := by
    refine i_51_0 ?_
    refine i_51_1 rfl ?_
    refine lgen1 (i := 1) (v := Value.int 0) (fun lv lg ls => ?_)
    refine zer_loop hR hc n1 n2 n (i := 0) (by omega) (fun j hj => absurd hj (Nat.not_lt_zero j)) (lg 0 _ rfl rfl rfl) ls (fun j hj h0 hz => ?_) (fun h0 => ?_)
    · obtain ⟨t, q, e, ht, -⟩ := xntz_n (x := Int32.ofInt (S0 (h + 1) j)) (fun e => hz (cw_0.mp e))
      rw [cw_un] at e
      rw [ht]
      have ht2 : t < 32 := by
        rcases Nat.lt_or_ge t 32 with g | g
        · exact g
        · have h1 : 2 ^ 32 ≤ 2 ^ t := Nat.pow_le_pow_right (by decide) g
          have h2 : 2 ^ t * 1 ≤ 2 ^ t * (2 * q + 1) := Nat.mul_le_mul_left _ (by omega)
          have h3 : cw (S0 (h + 1)) j < 4294967296 := cw_lt
          omega
      have e1 : u % 2 ^ (32 * j) = 0 := by rw [← n3, cv_mod (by omega), cv_none h0]
      have e2 : u / 2 ^ (32 * j) % 4294967296 = 2 ^ t * (2 * q + 1) := by rw [← e, ← n3]; exact (cw_at hj).symm
      have e3 := Nat.div_add_mod u (2 ^ (32 * j))
      have e4 := Nat.div_add_mod (u / 2 ^ (32 * j)) 4294967296
      rw [e1, Nat.add_zero] at e3
      rw [e2] at e4
      have e5 : (4294967296 : Nat) = 2 ^ t * (2 * 2 ^ (31 - t)) := by
        rw [show (2 : Nat) * 2 ^ (31 - t) = 2 ^ (32 - t) by rw [show 32 - t = (31 - t) + 1 by omega, Nat.pow_succ, Nat.mul_comm], ← Nat.pow_add, show t + (32 - t) = 32 by omega]
      refine ⟨rfl, 32 * j + t, 2 ^ (31 - t) * (u / 2 ^ (32 * j) / 4294967296) + q, by rw [Int.natCast_add, Int.natCast_mul]; rfl, Or.inr ?_⟩
      generalize u / 2 ^ (32 * j) / 4294967296 = H at e4
      rw [Nat.pow_add, Nat.mul_assoc, ← e3, ← e4]
      congr 1
      rw [e5, Nat.mul_assoc, ← Nat.mul_add]
      congr 1
      rw [Nat.mul_assoc, Nat.mul_add]
      omega
    · exact ⟨rfl, 0, 0, rfl, Or.inl ⟨by rw [← n3, cv_none h0], rfl⟩⟩
  obtain ⟨o, w', h1, rfl, z, K, rfl, h2⟩ := key.run
  exact ⟨z, K, h1, h2⟩
end
