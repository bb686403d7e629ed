/-! decrease of the class's naturals -/
theorem cv_tail {s s0 : Nat → Int} {i n : Nat} (h : ∀ j, i ≤ j → s j = s0 j) (hi : i ≤ n) : cv s n + cv s0 i = cv s0 n + cv s i := by
  induction n with
  | zero => have : i = 0 := by omega
            subst this; rfl
  | succ n ih =>
    by_cases e : i = n + 1
    · subst e; rw [Nat.add_comm]
    · have := ih (by omega)
      show cv s n + cw s n * _ + cv s0 i = cv s0 n + cw s0 n * _ + cv s i
      rw [show cw s n = cw s0 n by unfold cw; rw [h n (by omega)]]
      omega
section
variable {w0 w : xW} {L Z : Nat} {A C B : Nat → Nat} {S S0 : Nat → Nat → Int} {V : Nat → Nat} {h h2 k r d : Nat} {v : Int}
theorem dec_loop (hc : kd h = 3) {n : Nat} {s0 : Nat → Int} (hn : n ≤ C h) (hpos : 1 ≤ cv s0 n) {Q : Option Value ⊕ Nat → xW → Prop} : ∀ (t : Nat) {i : Nat} {y : Int} {lv : xLv} {w : xW} {S : Nat → Nat → Int}, cR w0 L Z A C B S w → S h 1 = n → (∀ j, i ≤ j → S (h + 1) j = s0 j) → (y = 0 ∨ y = 1) → i + t = n →
    ((cv s0 i : Int) - 1 = cv (S (h + 1)) i - y * (2 ^ (32 * i) : Nat)) → xld lv 0 = some (.ref h) → xld lv 1 = some (.int (Int32.ofInt y)) → xld lv 2 = some (.int (Int32.ofInt (i : Int))) →
    (∀ lv' w' S', cR w0 L Z A C B S' w' → S' h 1 = n → (∀ b j, b ≠ h + 1 → S' b j = S b j) → (cv s0 n : Int) - 1 = cv (S' (h + 1)) n → xld lv' 0 = some (.ref h) → xEv d 93 47 lv' [] w' Q) → xEv d 93 4 lv [] w Q := by
  intro t
  induction t with
  | zero =>
    intro i y lv w S hR hn1 hs0 hy hi hv l0 l1 l2 hQ
    have hcap := hR.cap hc
    have e : i = n := by omega
    subst e
    have hlt : cv (S (h + 1)) i < 2 ^ (32 * i) := cv_lt
    have fin : (cv s0 i : Int) - 1 = cv (S (h + 1)) i := by
      generalize 2 ^ (32 * i) = P at hlt hv
      rcases hy with g | g
      · subst g; omega
      · subst g; omega
    refine i_93_4 l1 ?_
    refine i_93_5 (fun _ => ?_) (fun _ => ?_)
    · exact hQ lv w S hR hn1 (fun _ _ _ => rfl) fin l0
    · refine i_93_8 l2 ?_
      refine i_93_9 l0 ?_
      refine i_93_10 (v := Value.int (Int32.ofInt (i : Int))) (hR.n3n hc hn1) rfl ?_
      refine i_93_13 (fun _ => ?_) (fun g => absurd g (by omega))
      exact hQ lv w S hR hn1 (fun _ _ _ => rfl) fin l0
  | succ t ih =>
    intro i y lv w S hR hn1 hs0 hy hi hv l0 l1 l2 hQ
    have hcap := hR.cap hc
    have ha7 := (hR.apart hc).2.2.2.2.1
    have ei : (Int32.ofInt (i : Int)).toInt = (i : Int) := oI (by omega) (by omega)
    have en : (Int32.ofInt (n : Int)).toInt = (n : Int) := oI (by omega) (by omega)
    have ey : (Int32.ofInt y).toInt = y := oI (by omega) (by omega)
    have ld : mrow (S (h + 1)) (Int32.ofInt (i : Int)).toInt.toNat = Value.int (Int32.ofInt (S (h + 1) i)) := by rw [ei]; rfl
    refine i_93_4 l1 ?_
    refine i_93_5 (fun g => ?_) (fun g => ?_)
    · refine hQ lv w S hR hn1 (fun _ _ _ => rfl) ?_ l0
      have hy0 : y = 0 := by omega
      subst hy0
      have := cv_tail hs0 (show i ≤ n by omega)
      omega
    · have hy1 : y = 1 := by omega
      subst hy1
      have tail : ∀ y' : Int, (y' = 0 ∧ cw (S (h + 1)) i ≠ 0) ∨ (y' = 1 ∧ cw (S (h + 1)) i = 0) → xEv d 93 30 lv [Value.int (Int32.ofInt y')] w Q := by
        intro y' hy'
        refine i_93_30 rfl ?_
        refine lgen1 (i := 1) (v := Value.int (Int32.ofInt y')) (fun lv lg ls => ?_)
        replace l0 := lg 0 _ rfl rfl l0
        replace l2 := lg 2 _ rfl rfl l2
        replace l1 := ls
        refine i_93_31 l0 ?_
        refine i_93_32 (v := Value.ref (A h)) (hR.n3 hc) rfl ?_
        refine i_93_35 l2 ?_
        refine i_93_36 rfl rfl ?_
        refine i_93_37 (v := Value.int (Int32.ofInt (S (h + 1) i))) (hR.w3 hc) (by omega) (by omega) ld ?_
        refine i_93_38 ?_
        refine i_93_39 (c := Int32.ofInt (S (h + 1) i - 1)) (o_sub _ 1) ?_
        refine i_93_40 (hR.w3 hc) (by omega) (by omega) ha7 rfl ?_
        rw [show (Int32.ofInt (i : Int)).toInt.toNat = i by omega]
        refine xgen (P := cR w0 L Z A C B (u2 S (h + 1) i (S (h + 1) i - 1))) (hR.arr hc rfl) (fun w hR => ?_)
        refine i_93_41 l2 (o_add (i : Int) 1) rfl ?_
        refine lgen1 (i := 2) (v := Value.int (Int32.ofInt ((i : Int) + 1))) (fun lv lg ls => ?_)
        replace l0 := lg 0 _ rfl rfl l0
        replace l1 := lg 1 _ rfl rfl l1
        replace l2 := ls
        refine i_93_44 ?_
        have a1 : h ≠ h + 1 := by omega
        have ecw : cw (u2 S (h + 1) i (S (h + 1) i - 1) (h + 1)) i = ((S (h + 1) i - 1) % 4294967296).toNat := by unfold cw; rw [u2_s, u1_s]
        have ecv : cv (u2 S (h + 1) i (S (h + 1) i - 1) (h + 1)) i = cv (S (h + 1)) i := cv_same (fun j hj => by rw [u2_s, u1_n (by omega)])
        have ec : cw s0 i = cw (S (h + 1)) i := by unfold cw; rw [hs0 i (Nat.le_refl _)]
        refine ih (i := i + 1) (y := y') hR (by rw [u2_n a1]; exact hn1) (fun j hj => by rw [u2_s, u1_n (by omega)]; exact hs0 j (by omega)) (by omega) (by omega) ?_ l0 l1 l2 (fun lv' w' S' q1 q2 q3 q4 q5 => hQ lv' w' S' q1 q2 (fun b j hb => by rw [q3 b j hb, u2_n hb]) q4 q5)
        show ((cv s0 i + cw s0 i * 2 ^ (32 * i) : Nat) : Int) - 1 = ((cv (u2 S (h + 1) i (S (h + 1) i - 1) (h + 1)) i + cw (u2 S (h + 1) i (S (h + 1) i - 1) (h + 1)) i * 2 ^ (32 * i) : Nat) : Int) - _
        rw [ecw, ecv, ec, show 2 ^ (32 * (i + 1)) = 4294967296 * 2 ^ (32 * i) by rw [show 32 * (i + 1) = 32 * i + 32 by omega, Nat.pow_add, Nat.mul_comm]]
        have ed : cw (S (h + 1)) i = (S (h + 1) i % 4294967296).toNat := rfl
        generalize S (h + 1) i = x at ed
        generalize cw (S (h + 1)) i = c at ed hy'
        generalize 2 ^ (32 * i) = P at hv
        rcases hy' with ⟨g1, g2⟩ | ⟨g1, g2⟩
        · subst g1
          rw [show ((x - 1) % 4294967296).toNat = c - 1 by omega]
          obtain ⟨c', rfl⟩ : ∃ c', c = c' + 1 := ⟨c - 1, by omega⟩
          rw [Nat.add_sub_cancel, Nat.add_mul, Nat.one_mul]
          omega
        · subst g1 g2
          rw [show ((x - 1) % 4294967296).toNat = 4294967295 by omega]
          omega
      refine i_93_8 l2 ?_
      refine i_93_9 l0 ?_
      refine i_93_10 (v := Value.int (Int32.ofInt (n : Int))) (hR.n3n hc hn1) rfl ?_
      refine i_93_13 (fun g => absurd g (by omega)) (fun _ => ?_)
      refine i_93_16 l0 ?_
      refine i_93_17 (v := Value.ref (A h)) (hR.n3 hc) rfl ?_
      refine i_93_20 l2 ?_
      refine i_93_21 (v := Value.int (Int32.ofInt (S (h + 1) i))) (hR.w3 hc) (by omega) (by omega) ld ?_
      refine i_93_22 (fun g => ?_) (fun g => ?_)
      · refine i_93_29 ?_
        exact tail 0 (Or.inl ⟨rfl, fun e => g (cw_0.mpr e)⟩)
      · refine i_93_25 ?_
        refine i_93_26 ?_
        exact tail 1 (Or.inr ⟨rfl, cw_0.mp g⟩)
theorem X_dec {u : Nat} (hX : cX w0 L Z S V w) (hc : kd h = 3) (hu : V h = u) (hpos : 1 ≤ u) : ∃ w', xRun (d + 1) 93 [.ref h] w (.inl none) w' ∧ cX w0 L Z S (uv V h (u - 1)) w' := by
  obtain ⟨A, C, B, S0, hR, hv, hs⟩ := hX
  obtain ⟨n, n1, n2, n3, n4⟩ := hv h hc
  rw [hu] at n3
  have key : xEv (d + 1) 93 0 (lv_args 0 [.ref h]) [] w (fun o w' => o = .inl none ∧ cX w0 L Z S (uv V h (u - 1)) w') := by
    refine i_93_0 ?_
    refine i_93_1 rfl ?_
    refine i_93_2 ?_
    refine i_93_3 rfl ?_
    refine dec_loop hc (s0 := S0 (h + 1)) n2 (by omega) n (i := 0) (y := 1) hR n1 (fun _ _ => rfl) (Or.inr rfl) (by omega) (by rfl) rfl rfl rfl (fun lv' w' S' q1 q2 q3 q4 l0 => ?_)
    rw [n3] at q4
    obtain ⟨w2, r1, hX2⟩ := X_trim (d := d) (u := u - 1) hv hs hc q1 (fun _ => Nat.le_refl _) (fun b j g1 g2 => q3 b j g2) q2 n2 (by omega)
    refine i_93_47 l0 ?_
    refine i_93_48 (q1.n3 hc) (Nat.le_of_ble_eq_true rfl) r1 ?_
    exact i_93_51 ⟨rfl, hX2⟩
  obtain ⟨o, w', h1, rfl, h2⟩ := key.run
  exact ⟨w', h1, h2⟩
end
