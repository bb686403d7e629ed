/-! the loop of multiplyAndAdd of the class's naturals -/
section
variable {w0 w : xW} {L Z : Nat} {A C B : Nat → Nat} {S S0 : Nat → Nat → Int} {V : Nat → Nat} {h h2 k r d : Nat} {v : Int}
theorem mad_loop (hc : kd h = 3) {n f g0 : Nat} {s0 : Nat → Int} (hf : f ≤ 2147483647) (hn : n ≤ C h) {Q : Option Value ⊕ Nat → xW → Prop} : ∀ (t : Nat) {i y : Nat} {lv : xLv} {w : xW} {S : Nat → Nat → Int}, cR w0 L Z A C B S w → S h 1 = n → (∀ j, i ≤ j → S (h + 1) j = s0 j) → y ≤ 2147483647 → i + t = n →
    (cv (S (h + 1)) i + y * 2 ^ (32 * i) = cv s0 i * f + g0) → xld lv 0 = some (.ref h) → xld lv 1 = some (.int (Int32.ofInt (f : Int))) → xld lv 3 = some (.long (Int64.ofInt (y : Int))) → xld lv 5 = some (.int (Int32.ofInt (i : Int))) →
    (∀ lv' y' w' S', cR w0 L Z A C B S' w' → S' h 1 = n → (∀ b j, b ≠ h + 1 ∨ n ≤ j → S' b j = S b j) → y' ≤ 2147483647 → (cv (S' (h + 1)) n + y' * 2 ^ (32 * n) = cv s0 n * f + g0) → xld lv' 0 = some (.ref h) → xld lv' 3 = some (.long (Int64.ofInt ((y' : Nat) : Int))) → xEv d 87 53 lv' [] w' Q) → xEv d 87 6 lv [] w Q := by
  intro t
  induction t with
  | zero =>
    intro i y lv w S hR hn1 hs0 hy hi hv l0 l1 l3 l5 hQ
    have hcap := hR.cap hc
    have e : i = n := by omega
    subst e
    refine i_87_6 l5 ?_
    refine i_87_8 l0 ?_
    refine i_87_9 (v := Value.int (Int32.ofInt (i : Int))) (hR.n3n hc hn1) rfl ?_
    refine i_87_12 (fun _ => ?_) (fun g => absurd g (by omega))
    exact hQ lv y w S hR hn1 (fun _ _ _ => rfl) hy hv l0 l3
  | succ t ih =>
    intro i y lv w S hR hn1 hs0 hy hi hv l0 l1 l3 l5 hQ
    have hcap := hR.cap hc
    have ha7 := (hR.apart hc).2.2.2.2.1
    have ei : (Int32.ofInt (i : Int)).toInt = (i : Int) := oI (by omega) (by omega)
    have en : (Int32.ofInt (n : Int)).toInt = (n : Int) := oI (by omega) (by omega)
    have b1 : cw (S (h + 1)) i < 4294967296 := cw_lt
    have b2 : cw (S (h + 1)) i * f ≤ 4294967295 * 2147483647 := Nat.mul_le_mul (by omega) hf
    refine i_87_6 l5 ?_
    refine i_87_8 l0 ?_
    refine i_87_9 (v := Value.int (Int32.ofInt (n : Int))) (hR.n3n hc hn1) rfl ?_
    refine i_87_12 (fun g => absurd g (by omega)) (fun _ => ?_)
    refine i_87_15 l3 ?_
    refine i_87_16 l0 ?_
    refine i_87_17 (v := Value.ref (A h)) (hR.n3 hc) rfl ?_
    refine i_87_20 l5 ?_
    refine i_87_22 (v := Value.int (Int32.ofInt (S (h + 1) i))) (hR.w3 hc) (by omega) (by omega) (by rw [ei]; rfl) ?_
    refine i_87_23 rfl ?_
    refine i_87_24 ?_
    refine i_87_27 (lowq _) ?_
    rw [cw_un]
    refine i_87_28 l1 ?_
    refine i_87_29 (q_i2l (a := (f : Int)) ⟨by omega, by omega⟩) ?_
    refine i_87_30 (q_mul _ _) ?_
    refine i_87_31 (q_add _ _) ?_
    obtain ⟨x, hx⟩ : ∃ x : Nat, x = y + cw (S (h + 1)) i * f := ⟨_, rfl⟩
    have hxi : (y : Int) + (cw (S (h + 1)) i : Int) * (f : Int) = (x : Int) := by rw [hx, Int.natCast_add, Int.natCast_mul]
    rw [hxi]
    refine i_87_32 rfl ?_
    refine lgen2 (i := 3) (v := Value.long (Int64.ofInt (x : Int))) (fun lv lg ls => ?_)
    replace l0 := lg 0 _ rfl rfl l0
    replace l1 := lg 1 _ rfl rfl l1
    replace l5 := lg 5 _ rfl rfl l5
    replace l3 := ls
    refine i_87_33 l0 ?_
    refine i_87_34 (v := Value.ref (A h)) (hR.n3 hc) rfl ?_
    refine i_87_37 l5 ?_
    refine i_87_39 l3 ?_
    refine i_87_40 (q_l2i _) ?_
    refine i_87_41 (hR.w3 hc) (by omega) (by omega) ha7 rfl ?_
    rw [show (Int32.ofInt (i : Int)).toInt.toNat = i by omega]
    refine xgen (P := cR w0 L Z A C B (u2 S (h + 1) i (x : Int))) (hR.arr hc rfl) (fun w hR => ?_)
    refine i_87_42 l3 ?_
    refine i_87_43 ?_
    refine i_87_45 (q_ushr32 (t := (x : Int)) (by omega) (by omega)) ?_
    refine i_87_46 rfl ?_
    rw [show (x : Int) / 4294967296 = ((x / 4294967296 : Nat) : Int) by omega]
    refine lgen2 (i := 3) (v := Value.long (Int64.ofInt ((x / 4294967296 : Nat) : Int))) (fun lv lg ls => ?_)
    replace l0 := lg 0 _ rfl rfl l0
    replace l1 := lg 1 _ rfl rfl l1
    replace l5 := lg 5 _ rfl rfl l5
    replace l3 := ls
    refine i_87_47 l5 (o_add (i : Int) 1) rfl ?_
    refine lgen1 (i := 5) (v := Value.int (Int32.ofInt ((i : Int) + 1))) (fun lv lg ls => ?_)
    replace l0 := lg 0 _ rfl rfl l0
    replace l1 := lg 1 _ rfl rfl l1
    replace l3 := lg 3 _ rfl rfl l3
    replace l5 := ls
    refine i_87_50 ?_
    have ecw : cw (u2 S (h + 1) i (x : Int) (h + 1)) i = x % 4294967296 := by unfold cw; rw [u2_s, u1_s]; omega
    have ecv : cv (u2 S (h + 1) i (x : Int) (h + 1)) i = cv (S (h + 1)) i := cv_same (fun j hj => by rw [u2_s, u1_n (by omega)])
    have ec : cw s0 i = cw (S (h + 1)) i := by unfold cw; rw [hs0 i (Nat.le_refl _)]
    refine ih (i := i + 1) (y := x / 4294967296) hR (by rw [u2_n (by omega)]; exact hn1) (fun j hj => by rw [u2_s, u1_n (by omega)]; exact hs0 j (by omega)) (by omega) (by omega) ?_ l0 l1 l3 l5 (fun lv' y' w' S' q1 q2 q3 q4 q5 q6 q7 => hQ lv' y' w' S' q1 q2 (fun b j hb => by rw [q3 b j hb, u2_eq, if_neg (by omega)]) q4 q5 q6 q7)
    show cv (u2 S (h + 1) i (x : Int) (h + 1)) i + cw (u2 S (h + 1) i (x : Int) (h + 1)) i * 2 ^ (32 * i) + x / 4294967296 * 2 ^ (32 * (i + 1)) = (cv s0 i + cw s0 i * 2 ^ (32 * i)) * f + g0
    rw [ecw, ecv, ec, show 2 ^ (32 * (i + 1)) = 4294967296 * 2 ^ (32 * i) by rw [show 32 * (i + 1) = 32 * i + 32 by omega, Nat.pow_add, Nat.mul_comm]]
    generalize 2 ^ (32 * i) = P at hv
    have e1 : (x % 4294967296 + x / 4294967296 * 4294967296) * P = x * P := by rw [show x % 4294967296 + x / 4294967296 * 4294967296 = x by omega]
    rw [Nat.add_mul, Nat.mul_assoc] at e1
    have e2 : x * P = y * P + cw (S (h + 1)) i * f * P := by rw [hx, Nat.add_mul]
    have e3 : (cv s0 i + cw (S (h + 1)) i * P) * f = cv s0 i * f + cw (S (h + 1)) i * f * P := by rw [Nat.add_mul, Nat.mul_right_comm]
    rw [e3]
    omega
end
