/-! subtract of the class's naturals -/
section
variable {w0 w : xW} {L Z : Nat} {A C B : Nat → Nat} {S S0 : Nat → Nat → Int} {V : Nat → Nat} {h h2 k r d : Nat} {v : Int}
theorem sub_step {a b s P c k x q y : Int} (h1 : a - b = s + y * P) (hx : x = y + (c - k)) (hq : x % 4294967296 + q * 4294967296 = x) : (a + c * P) - (b + k * P) = (s + (x % 4294967296) * P) + q * (4294967296 * P) := by
  have e : (x % 4294967296 + q * 4294967296) * P = x * P := by rw [hq]
  rw [Int.add_mul, Int.mul_assoc] at e
  have e2 : x * P = y * P + (c * P - k * P) := by rw [hx, Int.add_mul, Int.sub_mul]
  omega
theorem sub_loop (hc : kd h = 3) (hc2 : kd h2 = 3) (hne : h ≠ h2) {n m : Nat} {s0 o : Nat → Int} (hn : n ≤ C h) (hm : m ≤ C h2) (ho : ∀ j, m ≤ j → o j = 0) {Q : Option Value ⊕ Nat → xW → Prop} : ∀ (t : Nat) {i : Nat} {y : Int} {lv : xLv} {w : xW} {S : Nat → Nat → Int}, cR w0 L Z A C B S w → S h 1 = n → S h2 1 = m → (∀ j, j < m → S (h2 + 1) j = o j) → (∀ j, i ≤ j → S (h + 1) j = s0 j) → (y = 0 ∨ y = -1) → i + t = n →
    ((cv s0 i : Int) - cv o i = cv (S (h + 1)) i + y * (2 ^ (32 * i) : Nat)) → xld lv 0 = some (.ref h) → xld lv 1 = some (.ref h2) → xld lv 2 = some (.long (Int64.ofInt y)) → xld lv 4 = some (.int (Int32.ofInt (i : Int))) →
    (∀ lv' y' w' S', cR w0 L Z A C B S' w' → S' h 1 = n → (∀ b j, b ≠ h + 1 → S' b j = S b j) → (y' = 0 ∨ y' = -1) → ((cv s0 n : Int) - cv o n = cv (S' (h + 1)) n + y' * (2 ^ (32 * n) : Nat)) → xld lv' 0 = some (.ref h) → xEv d 67 79 lv' [] w' Q) → xEv d 67 5 lv [] w Q := by
  intro t
  induction t with
  | zero =>
    intro i y lv w S hR hn1 hm1 hso hs0 hy hi hv l0 l1 l2 l4 hQ
    have hcap := hR.cap hc
    have e : i = n := by omega
    subst e
    refine i_67_5 l4 ?_
    refine i_67_7 l0 ?_
    refine i_67_8 (v := Value.int (Int32.ofInt (i : Int))) (hR.n3n hc hn1) rfl ?_
    refine i_67_11 (fun _ => ?_) (fun g => absurd g (by omega))
    exact hQ lv y w S hR hn1 (fun _ _ _ => rfl) hy hv l0
  | succ t ih =>
    intro i y lv w S hR hn1 hm1 hso hs0 hy hi hv l0 l1 l2 l4 hQ
    have hcap := hR.cap hc
    have hcap2 := hR.cap hc2
    have ha7 := (hR.apart hc).2.2.2.2.1
    have ei : (Int32.ofInt (i : Int)).toInt = (i : Int) := oI (by omega) (by omega)
    have en : (Int32.ofInt (n : Int)).toInt = (n : Int) := oI (by omega) (by omega)
    have em : (Int32.ofInt (m : Int)).toInt = (m : Int) := oI (by omega) (by omega)
    have b1 : cw (S (h + 1)) i < 4294967296 := cw_lt
    have b2 : cw o i < 4294967296 := cw_lt
    have tail : xEv d 67 39 lv [Value.long (Int64.ofInt (cw o i : Nat))] w Q := by
      refine i_67_39 rfl ?_
      refine lgen2 (i := 5) (v := Value.long (Int64.ofInt (cw o i : Nat))) (fun lv lg ls => ?_)
      replace l0 := lg 0 _ rfl rfl l0
      replace l1 := lg 1 _ rfl rfl l1
      replace l2 := lg 2 _ rfl rfl l2
      replace l4 := lg 4 _ rfl rfl l4
      have l5 := ls
      refine i_67_41 l2 ?_
      refine i_67_42 l0 ?_
      refine i_67_43 (v := Value.ref (A h)) (hR.n3 hc) rfl ?_
      refine i_67_46 l4 ?_
      refine i_67_48 (v := Value.int (Int32.ofInt (S (h + 1) i))) (hR.w3 hc) (by omega) (by omega) (by rw [ei]; rfl) ?_
      refine i_67_49 rfl ?_
      refine i_67_50 ?_
      refine i_67_53 (lowq _) ?_
      rw [cw_un]
      refine i_67_54 l5 ?_
      refine i_67_56 (q_sub _ _) ?_
      refine i_67_57 (q_add _ _) ?_
      obtain ⟨x, hx⟩ : ∃ x : Int, x = y + ((cw (S (h + 1)) i : Nat) - (cw o i : Nat)) := ⟨_, rfl⟩
      rw [← hx]
      refine i_67_58 rfl ?_
      refine lgen2 (i := 2) (v := Value.long (Int64.ofInt x)) (fun lv lg ls => ?_)
      replace l0 := lg 0 _ rfl rfl l0
      replace l1 := lg 1 _ rfl rfl l1
      replace l4 := lg 4 _ rfl rfl l4
      replace l2 := ls
      refine i_67_59 l0 ?_
      refine i_67_60 (v := Value.ref (A h)) (hR.n3 hc) rfl ?_
      refine i_67_63 l4 ?_
      refine i_67_65 l2 ?_
      refine i_67_66 (q_l2i _) ?_
      refine i_67_67 (hR.w3 hc) (by omega) (by omega) ha7 rfl ?_
      rw [show (Int32.ofInt (i : Int)).toInt.toNat = i by omega]
      refine xgen (P := cR w0 L Z A C B (u2 S (h + 1) i x)) (hR.arr hc rfl) (fun w hR => ?_)
      refine i_67_68 l2 ?_
      refine i_67_69 ?_
      refine i_67_71 (q_shr32 ⟨by omega, by omega⟩) ?_
      refine i_67_72 rfl ?_
      refine lgen2 (i := 2) (v := Value.long (Int64.ofInt (x / 4294967296))) (fun lv lg ls => ?_)
      replace l0 := lg 0 _ rfl rfl l0
      replace l1 := lg 1 _ rfl rfl l1
      replace l4 := lg 4 _ rfl rfl l4
      replace l2 := ls
      refine i_67_73 l4 (o_add (i : Int) 1) rfl ?_
      refine lgen1 (i := 4) (v := Value.int (Int32.ofInt ((i : Int) + 1))) (fun lv lg ls => ?_)
      replace l0 := lg 0 _ rfl rfl l0
      replace l1 := lg 1 _ rfl rfl l1
      replace l2 := lg 2 _ rfl rfl l2
      replace l4 := ls
      refine i_67_76 ?_
      have k1 := kd_c hc
      have k2 := kd_c hc2
      have a1 : h ≠ h + 1 := by omega
      have a2 : h2 ≠ h + 1 := fun g => by rw [← g] at k1; omega
      have ecw : cw (u2 S (h + 1) i x (h + 1)) i = (x % 4294967296).toNat := by unfold cw; rw [u2_s, u1_s]
      have ecv : cv (u2 S (h + 1) i x (h + 1)) i = cv (S (h + 1)) i := cv_same (fun j hj => by rw [u2_s, u1_n (by omega)])
      refine ih (i := i + 1) (y := x / 4294967296) hR (by rw [u2_n a1]; exact hn1) (by rw [u2_n a2]; exact hm1) (fun j hj => by rw [u2_n (by omega)]; exact hso j hj) (fun j hj => by rw [u2_s, u1_n (by omega)]; exact hs0 j (by omega)) (by omega) (by omega) ?_ l0 l1 l2 l4 (fun lv' y' w' S' q1 q2 q3 q4 q5 q6 => hQ lv' y' w' S' q1 q2 (fun b j hb => by rw [q3 b j hb, u2_n hb]) q4 q5 q6)
      show ((cv s0 i + cw s0 i * 2 ^ (32 * i) : Nat) : Int) - (cv o i + cw o i * 2 ^ (32 * i) : Nat) = ((cv (u2 S (h + 1) i x (h + 1)) i + cw (u2 S (h + 1) i x (h + 1)) i * 2 ^ (32 * i) : Nat) : Int) + _
      rw [ecw, ecv, show 2 ^ (32 * (i + 1)) = 4294967296 * 2 ^ (32 * i) by rw [show 32 * (i + 1) = 32 * i + 32 by omega, Nat.pow_add, Nat.mul_comm]]
      have ec : cw (S (h + 1)) i = cw s0 i := by unfold cw; rw [hs0 i (Nat.le_refl _)]
      rw [ec] at hx
      have em0 : ((x % 4294967296).toNat : Int) = x % 4294967296 := by omega
      simp only [Int.natCast_add, Int.natCast_mul, em0]
      exact sub_step hv hx (by omega)
    refine i_67_5 l4 ?_
    refine i_67_7 l0 ?_
    refine i_67_8 (v := Value.int (Int32.ofInt (n : Int))) (hR.n3n hc hn1) rfl ?_
    refine i_67_11 (fun g => absurd g (by omega)) (fun _ => ?_)
    refine i_67_14 l4 ?_
    refine i_67_16 l1 ?_
    refine i_67_17 (v := Value.int (Int32.ofInt (m : Int))) (hR.n3n hc2 hm1) rfl ?_
    refine i_67_20 (fun g => ?_) (fun g => ?_)
    · have e0 : cw o i = 0 := by unfold cw; rw [ho i (by omega)]; rfl
      rw [e0] at tail
      refine i_67_38 ?_
      exact tail
    · refine i_67_23 l1 ?_
      refine i_67_24 (v := Value.ref (A h2)) (hR.n3 hc2) rfl ?_
      refine i_67_27 l4 ?_
      refine i_67_29 (v := Value.int (Int32.ofInt (S (h2 + 1) i))) (hR.w3 hc2) (by omega) (by omega) (by rw [ei]; rfl) ?_
      refine i_67_30 rfl ?_
      refine i_67_31 ?_
      refine i_67_34 (lowq _) ?_
      refine i_67_35 ?_
      rw [hso i (by omega), cw_un]
      exact tail
end
