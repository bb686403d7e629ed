/-! order of the class's naturals -/
theorem lowq (x : Int32) : x.toInt64 &&& (4294967295 : Int64) = Int64.ofInt (xun x : Nat) := by
  have h1 := x.toInt_lt
  have h2 := x.le_toInt
  have e : x.toInt64 = Int64.ofInt x.toInt := by
    have := q_i2l (a := x.toInt) ⟨by omega, by omega⟩
    rw [Int32.ofInt_toInt] at this
    exact this
  rw [e, q_mask32]
  congr 1
  have h3 := xun_int x
  have h4 := xun_lt x
  split at h3 <;> omega
theorem ncmp_e {s s' : Nat → Int} {m : Nat} (h : cw s m = cw s' m) : ncmp (cv s (m + 1)) (cv s' (m + 1)) = ncmp (cv s m) (cv s' m) := by
  show ncmp (cv s m + cw s m * 2 ^ (32 * m)) (cv s' m + cw s' m * 2 ^ (32 * m)) = _
  rw [h]
  generalize cw s' m * 2 ^ (32 * m) = P
  unfold ncmp
  by_cases h1 : cv s m < cv s' m
  · rw [if_pos h1, if_pos (by omega)]
  · rw [if_neg h1, if_neg (by omega)]
    by_cases h2 : cv s m = cv s' m
    · rw [if_pos h2, if_pos (by omega)]
    · rw [if_neg h2, if_neg (by omega)]
theorem cv_less {s s' : Nat → Int} {m : Nat} (h : cw s m < cw s' m) : cv s (m + 1) < cv s' (m + 1) := by
  show cv s m + cw s m * 2 ^ (32 * m) < cv s' m + cw s' m * 2 ^ (32 * m)
  have h1 : cv s m < 2 ^ (32 * m) := cv_lt
  have h2 : (cw s m + 1) * 2 ^ (32 * m) ≤ cw s' m * 2 ^ (32 * m) := Nat.mul_le_mul_right _ h
  rw [Nat.add_mul, Nat.one_mul] at h2
  omega
theorem ncmp_l {a b : Nat} (h : a < b) : ncmp a b = -1 := if_pos h
theorem ncmp_g {a b : Nat} (h : b < a) : ncmp a b = 1 := by
  unfold ncmp
  rw [if_neg (by omega), if_neg (by omega)]
theorem cv_short {s s' : Nat → Int} {n n' : Nat} (h : n < n') (ht : n' = 0 ∨ cw s' (n' - 1) ≠ 0) : cv s n < cv s' n' := by
  have h1 : cw s' (n' - 1) ≠ 0 := by
    rcases ht with g | g
    · omega
    · exact g
  exact Nat.lt_of_lt_of_le (Nat.lt_of_lt_of_le cv_lt (Nat.pow_le_pow_right (by decide) (by omega))) (cv_low (by omega) h1)
section
variable {w0 w : xW} {L Z : Nat} {A C B : Nat → Nat} {S S0 : Nat → Nat → Int} {V : Nat → Nat} {h h2 k r d : Nat} {v : Int}
theorem ord_loop (hR : cR w0 L Z A C B S w) (hc : kd h = 3) (hc2 : kd h2 = 3) {Q : Option Value ⊕ Nat → xW → Prop} : ∀ m : Nat, m ≤ C h → m ≤ C h2 → Q (.inl (some (.int (Int32.ofInt (ncmp (cv (S (h + 1)) m) (cv (S (h2 + 1)) m)))))) w →
    xEv d 66 35 [(2, .int (Int32.ofInt ((m : Int) - 1))), (0, .ref h), (1, .ref h2)] [] w Q := by
  have hcap := hR.cap hc
  have hcap2 := hR.cap hc2
  intro m
  induction m with
  | zero =>
    intro _ _ hQ
    refine i_66_35 (x := Int32.ofInt (((0 : Nat) : Int) - 1)) rfl ?_
    refine i_66_36 (fun _ => ?_) (fun g => absurd g (by decide))
    refine i_66_92 ?_
    exact i_66_93 hQ
  | succ m ih =>
    intro m1 m2 hQ
    have e0 : ((m + 1 : Nat) : Int) - 1 = m := by omega
    rw [e0]
    have e1 : (Int32.ofInt (m : Int)).toInt = (m : Int) := oI (by omega) (by omega)
    have ld : ∀ hh : Nat, mrow (S (hh + 1)) (Int32.ofInt (m : Int)).toInt.toNat = Value.int (Int32.ofInt (S (hh + 1) m)) := fun hh => by rw [e1]; rfl
    refine i_66_35 (x := Int32.ofInt (m : Int)) rfl ?_
    refine i_66_36 (fun g => absurd g (by omega)) (fun _ => ?_)
    refine i_66_39 (x := h) rfl ?_
    refine i_66_40 (v := Value.ref (A h)) (hR.n3 hc) rfl ?_
    refine i_66_43 (x := Int32.ofInt (m : Int)) rfl ?_
    refine i_66_44 (v := Value.int (Int32.ofInt (S (h + 1) m))) (hR.w3 hc) (by omega) (by omega) (ld h) ?_
    refine i_66_45 (x := h2) rfl ?_
    refine i_66_46 (v := Value.ref (A h2)) (hR.n3 hc2) rfl ?_
    refine i_66_49 (x := Int32.ofInt (m : Int)) rfl ?_
    refine i_66_50 (v := Value.int (Int32.ofInt (S (h2 + 1) m))) (hR.w3 hc2) (by omega) (by omega) (ld h2) ?_
    refine i_66_51 (fun g => ?_) (fun g => ?_)
    · refine i_66_86 (x := Int32.ofInt (m : Int)) (c := Int32.ofInt ((m : Int) - 1)) (lv2 := [(2, Value.int (Int32.ofInt ((m : Int) - 1))), (0, Value.ref h), (1, Value.ref h2)]) rfl (o_dec (m : Int)) rfl ?_
      refine i_66_89 ?_
      refine ih (by omega) (by omega) ?_
      have e : cw (S (h + 1)) m = cw (S (h2 + 1)) m := by rw [← cw_un, ← cw_un, Int32.toInt_inj.mp g]
      rw [← ncmp_e e]
      exact hQ
    · have e : cw (S (h + 1)) m ≠ cw (S (h2 + 1)) m := fun e => g (by rw [← cw_un, ← cw_un] at e; rw [xun_inj e])
      have b1 : cw (S (h + 1)) m < 4294967296 := cw_lt
      have b2 : cw (S (h2 + 1)) m < 4294967296 := cw_lt
      refine i_66_54 (x := h) rfl ?_
      refine i_66_55 (v := Value.ref (A h)) (hR.n3 hc) rfl ?_
      refine i_66_58 (x := Int32.ofInt (m : Int)) rfl ?_
      refine i_66_59 (v := Value.int (Int32.ofInt (S (h + 1) m))) (hR.w3 hc) (by omega) (by omega) (ld h) ?_
      refine i_66_60 rfl ?_
      refine i_66_61 ?_
      refine i_66_64 (lowq _) ?_
      refine i_66_65 (x := h2) rfl ?_
      refine i_66_66 (v := Value.ref (A h2)) (hR.n3 hc2) rfl ?_
      refine i_66_69 (x := Int32.ofInt (m : Int)) rfl ?_
      refine i_66_70 (v := Value.int (Int32.ofInt (S (h2 + 1) m))) (hR.w3 hc2) (by omega) (by omega) (ld h2) ?_
      refine i_66_71 rfl ?_
      refine i_66_72 ?_
      refine i_66_75 (lowq _) ?_
      rw [cw_un, cw_un]
      refine i_66_76 (q_cmp ⟨by omega, by omega⟩ ⟨by omega, by omega⟩) ?_
      rcases Nat.lt_or_gt_of_ne e with g2 | g2
      · have el : lc (cw (S (h + 1)) m : Nat) (cw (S (h2 + 1)) m : Nat) = -1 := by unfold lc; rw [if_neg (by omega), if_neg (by omega)]
        rw [el]
        refine i_66_77 (fun g => absurd g (by decide)) (fun _ => ?_)
        refine i_66_80 ?_
        refine i_66_81 ?_
        refine i_66_85 ?_
        rw [ncmp_l (cv_less g2)] at hQ
        exact hQ
      · have el : lc (cw (S (h + 1)) m : Nat) (cw (S (h2 + 1)) m : Nat) = 1 := by unfold lc; rw [if_pos (by omega)]
        rw [el]
        refine i_66_77 (fun _ => ?_) (fun g => absurd g (by decide))
        refine i_66_84 ?_
        refine i_66_85 ?_
        rw [ncmp_g (cv_less g2)] at hQ
        exact hQ
theorem X_ord {u u2 : Nat} (hX : cX w0 L Z S V w) (hc : kd h = 3) (hc2 : kd h2 = 3) (hu : V h = u) (hu2 : V h2 = u2) : xRun d 66 [.ref h, .ref h2] w (.inl (some (.int (Int32.ofInt (ncmp u u2))))) w := by
  obtain ⟨A, C, B, S0, hR, hv, hs⟩ := hX
  obtain ⟨n, n1, n2, n3, n4⟩ := hv h hc
  obtain ⟨m, m1, m2, m3, m4⟩ := hv h2 hc2
  have hcap := hR.cap hc
  have hcap2 := hR.cap hc2
  have e1 : (Int32.ofInt (n : Int)).toInt = (n : Int) := oI (by omega) (by omega)
  have e2 : (Int32.ofInt (m : Int)).toInt = (m : Int) := oI (by omega) (by omega)
  subst hu hu2
  have key : xEv d 66 0 (lv_args 0 [.ref h, .ref h2]) [] w (fun o w' => o = .inl (some (.int (Int32.ofInt (ncmp (V h) (V h2))))) ∧ w' = w) := by
    refine i_66_0 (x := h) rfl ?_
    refine i_66_1 (v := Value.int (Int32.ofInt (n : Int))) (hR.n3n hc n1) rfl ?_
    refine i_66_4 (x := h2) rfl ?_
    refine i_66_5 (v := Value.int (Int32.ofInt (m : Int))) (hR.n3n hc2 m1) rfl ?_
    refine i_66_8 (fun g => ?_) (fun g => ?_)
    · have e : m = n := by omega
      subst e
      refine i_66_28 (x := h) rfl ?_
      refine i_66_29 (v := Value.int (Int32.ofInt (m : Int))) (hR.n3n hc n1) rfl ?_
      refine i_66_32 ?_
      refine i_66_33 (c := Int32.ofInt ((m : Int) - 1)) (o_sub (m : Int) 1) ?_
      refine i_66_34 (lv2 := [(2, Value.int (Int32.ofInt ((m : Int) - 1))), (0, Value.ref h), (1, Value.ref h2)]) rfl ?_
      refine ord_loop hR hc hc2 m n2 m2 ⟨?_, rfl⟩
      rw [n3, m3]
    · refine i_66_11 (x := h) rfl ?_
      refine i_66_12 (v := Value.int (Int32.ofInt (n : Int))) (hR.n3n hc n1) rfl ?_
      refine i_66_15 (x := h2) rfl ?_
      refine i_66_16 (v := Value.int (Int32.ofInt (m : Int))) (hR.n3n hc2 m1) rfl ?_
      rw [← n3, ← m3]
      refine i_66_19 (fun g2 => ?_) (fun g2 => ?_)
      · refine i_66_26 ?_
        refine i_66_27 ⟨?_, rfl⟩
        rw [ncmp_g (cv_short (by omega) n4)]
        rfl
      · refine i_66_22 ?_
        refine i_66_23 ?_
        refine i_66_27 ⟨?_, rfl⟩
        rw [ncmp_l (cv_short (by omega) m4)]
        rfl
  obtain ⟨o, w', h1, rfl, rfl⟩ := key.run
  exact h1
end
