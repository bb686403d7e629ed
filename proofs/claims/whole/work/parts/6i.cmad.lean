/-! multiplyAndAdd by value -/
theorem top_ne {s : Nat → Int} {n : Nat} (hn : 0 < n) (h : 2 ^ (32 * (n - 1)) ≤ cv s n) : cw s (n - 1) ≠ 0 := by
  intro e
  obtain ⟨m, rfl⟩ : ∃ m, n = m + 1 := ⟨n - 1, by omega⟩
  have h1 : cv s m < 2 ^ (32 * m) := cv_lt
  have h2 : cv s (m + 1) = cv s m + cw s m * 2 ^ (32 * m) := rfl
  rw [Nat.add_sub_cancel] at e h
  rw [e, Nat.zero_mul, Nat.add_zero] at h2
  omega
section
variable {w0 w : xW} {L Z : Nat} {A C B : Nat → Nat} {S S0 : Nat → Nat → Int} {V : Nat → Nat} {h h2 k r d : Nat} {v : Int}
theorem X_mad {u f g : Nat} (hX : cX w0 L Z S V w) (hc : kd h = 3) (hu : V h = u) (hf0 : 1 ≤ f) (hf : f ≤ 2147483647) (hg : g ≤ 2147483647) (hb : xbl u ≤ 639000) : ∃ w', xRun (d + 3) 87 [.ref h, .int (Int32.ofInt (f : Int)), .int (Int32.ofInt (g : Int))] w (.inl none) w' ∧ cX w0 L Z S (uv V h (u * f + g)) w' := by
  obtain ⟨A, C, B, S0, hR, hv, hs⟩ := hX
  obtain ⟨n, n1, n2, n3, n4⟩ := hv h hc
  have hsz := nv_size n4
  rw [hu] at n3
  rw [n3] at hsz
  have h7 := (kd_o (show kd h < 12 by omega)).1
  have key : xEv (d + 3) 87 0 (lv_args 0 [.ref h, .int (Int32.ofInt (f : Int)), .int (Int32.ofInt (g : Int))]) [] w (fun o w' => o = .inl none ∧ cX w0 L Z S (uv V h (u * f + g)) w') := by
    refine i_87_0 (x := Int32.ofInt (g : Int)) rfl ?_
    refine i_87_1 (q_i2l (a := (g : Int)) ⟨by omega, by omega⟩) ?_
    refine i_87_2 rfl ?_
    refine i_87_3 ?_
    refine i_87_4 rfl ?_
    refine mad_loop hc (s0 := S0 (h + 1)) (g0 := g) hf n2 n (i := 0) (y := g) hR n1 (fun _ _ => rfl) hg (by omega) (by show 0 + g * 2 ^ 0 = 0 * f + g; omega) rfl rfl rfl rfl (fun lv' y' w' S' q1 q2 q3 q4 q5 l0 l3 => ?_)
    rw [n3] at q5
    refine i_87_53 l3 ?_
    refine i_87_54 ?_
    refine i_87_55 (q_cmp (a := (y' : Int)) (b := 0) ⟨by omega, by omega⟩ ⟨by decide, by decide⟩) ?_
    rcases Nat.eq_zero_or_pos y' with e | e
    · subst e
      refine i_87_56 (fun _ => ?_) (fun g => absurd rfl g)
      rw [Nat.zero_mul, Nat.add_zero] at q5
      refine i_87_90 ⟨rfl, cX.close hv hs hc q1 (fun _ => Nat.le_refl _) (fun b j g1 g2 => q3 b j (Or.inl g2)) ⟨n, q2, n2, q5, ?_⟩⟩
      rcases Nat.eq_zero_or_pos n with g3 | g3
      · exact Or.inl g3
      · refine Or.inr (top_ne g3 ?_)
        rcases n4 with g4 | g4
        · omega
        · have h1 := cv_low g3 g4
          have h2 : u * 1 ≤ u * f := Nat.mul_le_mul_left u hf0
          omega
    · have el : lc (y' : Int) 0 = 1 := by unfold lc; rw [if_pos (by omega)]
      rw [el]
      refine i_87_56 (fun g => absurd g (by decide)) (fun _ => ?_)
      refine i_87_59 l0 ?_
      refine i_87_60 l0 ?_
      refine i_87_61 (v := Value.int (Int32.ofInt (n : Int))) (q1.n3n hc q2) rfl ?_
      refine i_87_64 ?_
      refine i_87_65 (c := Int32.ofInt ((n : Int) + 1)) (o_add _ 1) ?_
      obtain ⟨w1, A1, C1, B1, S1, r1, hR1, p1, p2, p3⟩ := c_room (d := d) (t := (n : Int) + 1) q1 hc (by omega) (by omega)
      have m1 : S1 h 1 = n := by rw [p3 h 1 (by omega)]; exact q2
      have hcap1 := hR1.cap hc
      have en : (Int32.ofInt (n : Int)).toInt = (n : Int) := oI (by omega) (by omega)
      refine i_87_66 (q1.n3 hc) (Nat.le_of_ble_eq_true rfl) r1 ?_
      refine i_87_69 l0 ?_
      refine i_87_70 (v := Value.ref (A1 h)) (hR1.n3 hc) rfl ?_
      refine i_87_73 l0 ?_
      refine i_87_74 (v := Value.int (Int32.ofInt (n : Int))) (hR1.n3n hc m1) rfl ?_
      refine i_87_77 l3 ?_
      refine i_87_78 (q_l2i _) ?_
      refine i_87_79 (hR1.w3 hc) (by omega) (by omega) (hR1.apart hc).2.2.2.2.1 rfl ?_
      rw [show (Int32.ofInt (n : Int)).toInt.toNat = n by omega]
      refine xgen (P := cR w0 L Z A1 C1 B1 (u2 S1 (h + 1) n (y' : Int))) (hR1.arr hc rfl) (fun w hR2 => ?_)
      have m2 : u2 S1 (h + 1) n (y' : Int) h 1 = n := by rw [u2_n (by omega)]; exact m1
      refine i_87_80 l0 ?_
      refine i_87_81 rfl ?_
      refine i_87_82 (v := Value.int (Int32.ofInt (n : Int))) (hR2.n3n hc m2) rfl ?_
      refine i_87_85 ?_
      refine i_87_86 (c := Int32.ofInt ((n : Int) + 1)) (o_add _ 1) ?_
      refine i_87_87 (fs2 := [Value.ref (A1 h), Value.int (Int32.ofInt ((n : Int) + 1))]) (hR2.n3 hc) (Nat.le_of_ble_eq_true rfl) rfl h7 ?_
      have ecw : cw (u2 S1 (h + 1) n (y' : Int) (h + 1)) n = y' := by unfold cw; rw [u2_s, u1_s]; omega
      have ecv : cv (u2 S1 (h + 1) n (y' : Int) (h + 1)) n = cv (S' (h + 1)) n := cv_same (fun j hj => by rw [u2_s, u1_n (by omega), p3 (h + 1) j (by omega)])
      refine i_87_90 ⟨rfl, cX.close hv hs hc (hR2.set1 (v := (n : Int) + 1) hc rfl) p2 (fun b j g1 g2 => by rw [u2_n g1, u2_n g2, p3 b j (Or.inl g2), q3 b j (Or.inl g2)]) ⟨n + 1, by rw [u2_s, u1_s]; rfl, by omega, ?_, Or.inr ?_⟩⟩
      · rw [u2_n (by omega)]
        show cv (u2 S1 (h + 1) n (y' : Int) (h + 1)) n + cw (u2 S1 (h + 1) n (y' : Int) (h + 1)) n * 2 ^ (32 * n) = _
        rw [ecv, ecw, q5]
      · rw [u2_n (by omega), Nat.add_sub_cancel, ecw]; omega
  obtain ⟨o, w', h1, rfl, h2⟩ := key.run
  exact ⟨w', h1, h2⟩
end
