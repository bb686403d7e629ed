/-! addRow of the class's naturals -/
section
variable {w0 w : xW} {L Z : Nat} {A C B : Nat → Nat} {S S0 : Nat → Nat → Int} {V : Nat → Nat} {h h2 r d : Nat} {v k p : Int}
theorem adr_loop (hc : kd h = 3) (hc2 : kd h2 = 3) (hne : h ≠ h2) {m f q0 g : Nat} {s0 a : Nat → Int} (hg : g < 4294967296) (hm : m ≤ C h2) (hq : q0 + m ≤ C h) {Q : Option Value ⊕ Nat → xW → Prop} : ∀ (t : Nat) {e y : Nat} {lv : xLv} {w : xW} {S : Nat → Nat → Int}, cR w0 L Z A C B S w → S (h2 + 1) = a → (∀ j, q0 + (f + e) ≤ j → S (h + 1) j = s0 j) → y < 4294967296 → f + e + t = m → cv (S (h + 1)) (q0 + (f + e)) + y * 2 ^ (32 * (q0 + (f + e))) = cv s0 (q0 + (f + e)) + cv (fun i => a (f + i)) e * g * 2 ^ (32 * (q0 + f)) → xld lv 5 = some (.ref (A h2)) → xld lv 6 = some (.ref (A h)) → xld lv 7 = some (.int (Int32.ofInt (m : Int))) → xld lv 8 = some (.int (Int32.ofInt (q0 : Int))) → xld lv 9 = some (.long (Int64.ofInt (g : Int))) → xld lv 11 = some (.long (Int64.ofInt (y : Int))) → xld lv 13 = some (.int (Int32.ofInt ((f + e : Nat) : Int))) →
    (∀ w' S' y', cR w0 L Z A C B S' w' → y' < 4294967296 → (∀ b j, b ≠ h + 1 ∨ j < q0 + (f + e) ∨ q0 + m ≤ j → S' b j = S b j) → cv (S' (h + 1)) (q0 + m) + y' * 2 ^ (32 * (q0 + m)) = cv s0 (q0 + m) + cv (fun i => a (f + i)) (m - f) * g * 2 ^ (32 * (q0 + f)) → Q (.inl (some (.int (Int32.ofInt ((y' : Nat) : Int))))) w') → xEv d 70 38 lv [] w Q := by
  have hz : h2 ≠ h + 1 := fun g => by have := kd_c hc; rw [← g] at this; omega
  intro t
  induction t with
  | zero =>
    intro e y lv w S hR ha hs0 hy hi hv l5 l6 l7 l8 l9 l11 l13 hQ
    have hcap := hR.cap hc
    have e1 : f + e = m := by omega
    rw [e1] at l13 hv
    rw [show e = m - f by omega] at hv
    refine i_70_38 l13 ?_
    refine i_70_40 l7 ?_
    refine i_70_42 (fun _ => ?_) (fun g => absurd g (by omega))
    refine i_70_101 l11 ?_
    refine i_70_103 (q_l2i _) ?_
    exact i_70_104 (hQ w S y hR hy (fun _ _ _ => rfl) hv)
  | succ t ih =>
    intro e y lv w S hR ha hs0 hy hi hv l5 l6 l7 l8 l9 l11 l13 hQ
    have hcap := hR.cap hc
    have hcap2 := hR.cap hc2
    have b1 : cw (S (h2 + 1)) (f + e) < 4294967296 := cw_lt
    have b2 : cw (S (h + 1)) (q0 + (f + e)) < 4294967296 := cw_lt
    have b3 : cw (S (h2 + 1)) (f + e) * g ≤ 4294967295 * 4294967295 := Nat.mul_le_mul (by omega) (by omega)
    refine i_70_38 (x := Int32.ofInt ((f + e : Nat) : Int)) l13 ?_
    refine i_70_40 (x := Int32.ofInt (m : Int)) l7 ?_
    refine i_70_42 (b_le (a := (m : Int)) (b := ((f + e : Nat) : Int)) ⟨by omega, by omega⟩ ⟨by omega, by omega⟩ fun c0 => absurd c0 (by omega)) (b_lt (a := ((f + e : Nat) : Int)) (b := (m : Int)) ⟨by omega, by omega⟩ ⟨by omega, by omega⟩ fun c0 => ?_)
    refine i_70_45 (x := Int64.ofInt (y : Int)) l11 ?_
    refine i_70_47 (x := A h2) l5 ?_
    refine i_70_49 (x := Int32.ofInt ((f + e : Nat) : Int)) l13 ?_
    refine i_70_51 (v := Value.int (Int32.ofInt (S (h2 + 1) (f + e)))) (hR.w3 hc2) (ix0 (T := ((f + e : Nat) : Int)) (by omega) (by omega)) (ix1 (T := ((f + e : Nat) : Int)) (by omega) (by omega) (by omega)) (ra (T := ((f + e : Nat) : Int)) (by omega) (by omega) (congrArg _ rfl)) ?_
    refine i_70_52 rfl ?_
    refine i_70_53 ?_
    refine i_70_56 (c := Int64.ofInt (cw (S (h2 + 1)) (f + e) : Int)) (lowcw) ?_
    refine i_70_57 (x := Int64.ofInt (g : Int)) l9 ?_
    refine i_70_59 (c := Int64.ofInt ((cw (S (h2 + 1)) (f + e) : Int) * (g : Int))) (q_mul (cw (S (h2 + 1)) (f + e) : Int) (g : Int)) ?_
    refine i_70_60 (x := A h) l6 ?_
    refine i_70_62 (x := Int32.ofInt (q0 : Int)) l8 ?_
    refine i_70_64 (x := Int32.ofInt ((f + e : Nat) : Int)) l13 ?_
    refine i_70_66 (c := Int32.ofInt ((q0 : Int) + ((f + e : Nat) : Int))) (o_add (q0 : Int) ((f + e : Nat) : Int)) ?_
    refine i_70_67 (v := Value.int (Int32.ofInt (S (h + 1) (q0 + (f + e))))) (hR.w3 hc) (ix0 (T := (q0 : Int) + ((f + e : Nat) : Int)) (by omega) (by omega)) (ix1 (T := (q0 : Int) + ((f + e : Nat) : Int)) (by omega) (by omega) (by omega)) (ra (T := (q0 : Int) + ((f + e : Nat) : Int)) (by omega) (by omega) (congrArg _ (by omega))) ?_
    refine i_70_68 rfl ?_
    refine i_70_69 ?_
    refine i_70_72 (c := Int64.ofInt (cw (S (h + 1)) (q0 + (f + e)) : Int)) (lowcw) ?_
    refine i_70_73 (c := Int64.ofInt (((cw (S (h2 + 1)) (f + e) : Int) * (g : Int)) + (cw (S (h + 1)) (q0 + (f + e)) : Int))) (q_add ((cw (S (h2 + 1)) (f + e) : Int) * (g : Int)) (cw (S (h + 1)) (q0 + (f + e)) : Int)) ?_
    refine i_70_74 (c := Int64.ofInt ((y : Int) + (((cw (S (h2 + 1)) (f + e) : Int) * (g : Int)) + (cw (S (h + 1)) (q0 + (f + e)) : Int)))) (q_add (y : Int) (((cw (S (h2 + 1)) (f + e) : Int) * (g : Int)) + (cw (S (h + 1)) (q0 + (f + e)) : Int))) ?_
    obtain ⟨x, hxn⟩ : ∃ x : Nat, x = y + ((cw (S (h2 + 1)) (f + e)) * g + (cw (S (h + 1)) (q0 + (f + e)))) := ⟨_, rfl⟩
    have hx : (y : Int) + (((cw (S (h2 + 1)) (f + e) : Int) * (g : Int)) + (cw (S (h + 1)) (q0 + (f + e)) : Int)) = ((x : Nat) : Int) := by rw [hxn, Int.natCast_add, Int.natCast_add, Int.natCast_mul]
    rw [hx]
    refine i_70_75 rfl ?_
    refine lgen2 (i := 11) (v := Value.long (Int64.ofInt (x : Int))) (fun lv lg ls => ?_)
    replace l5 := lg 5 _ rfl rfl l5
    replace l6 := lg 6 _ rfl rfl l6
    replace l7 := lg 7 _ rfl rfl l7
    replace l8 := lg 8 _ rfl rfl l8
    replace l9 := lg 9 _ rfl rfl l9
    replace l13 := lg 13 _ rfl rfl l13
    have l11 := ls
    refine i_70_77 (x := A h) l6 ?_
    refine i_70_79 (x := Int32.ofInt (q0 : Int)) l8 ?_
    refine i_70_81 (x := Int32.ofInt ((f + e : Nat) : Int)) l13 ?_
    refine i_70_83 (c := Int32.ofInt ((q0 : Int) + ((f + e : Nat) : Int))) (o_add (q0 : Int) ((f + e : Nat) : Int)) ?_
    refine i_70_84 (x := Int64.ofInt (x : Int)) l11 ?_
    refine i_70_86 (c := Int32.ofInt (x : Int)) (q_l2i (x : Int)) ?_
    refine i_70_87 (hR.w3 hc) (ix0 (T := (q0 : Int) + ((f + e : Nat) : Int)) (by omega) (by omega)) (ix1 (T := (q0 : Int) + ((f + e : Nat) : Int)) (by omega) (by omega) (by omega)) (hR.apart hc).2.2.2.2.1 rfl ?_
    rw [ixn (T := (q0 : Int) + ((f + e : Nat) : Int)) (by omega) (by omega), show ((q0 : Int) + ((f + e : Nat) : Int)).toNat = q0 + (f + e) from (by omega)]
    refine xgen (P := cR w0 L Z A C B (u2 S (h + 1) (q0 + (f + e)) (x : Int))) (hR.arr hc rfl) (fun w hR => ?_)
    refine i_70_88 (x := Int64.ofInt (x : Int)) l11 ?_
    refine i_70_90 ?_
    refine i_70_92 (c := Int64.ofInt ((x : Int) / 4294967296)) (q_ushr32 (t := (x : Int)) (by omega) (by omega)) ?_
    refine i_70_93 rfl ?_
    refine lgen2 (i := 11) (v := Value.long (Int64.ofInt ((x : Int) / 4294967296))) (fun lv lg ls => ?_)
    replace l5 := lg 5 _ rfl rfl l5
    replace l6 := lg 6 _ rfl rfl l6
    replace l7 := lg 7 _ rfl rfl l7
    replace l8 := lg 8 _ rfl rfl l8
    replace l9 := lg 9 _ rfl rfl l9
    replace l13 := lg 13 _ rfl rfl l13
    have l11 := ls
    refine i_70_95 (x := (Int32.ofInt ((f + e : Nat) : Int))) (c := (Int32.ofInt (((f + e : Nat) : Int) + 1))) l13 (o_add ((f + e : Nat) : Int) 1) rfl ?_
    refine lgen1 (i := 13) (v := Value.int (Int32.ofInt (((f + e : Nat) : Int) + 1))) (fun lv lg ls => ?_)
    replace l11 := lg 11 _ rfl rfl l11
    replace l5 := lg 5 _ rfl rfl l5
    replace l6 := lg 6 _ rfl rfl l6
    replace l7 := lg 7 _ rfl rfl l7
    replace l8 := lg 8 _ rfl rfl l8
    replace l9 := lg 9 _ rfl rfl l9
    have l13 := ls
    refine i_70_98 ?_
    rw [show (x : Int) / 4294967296 = ((x / 4294967296 : Nat) : Int) by omega] at l11
    rw [show ((f + e : Nat) : Int) + 1 = ((f + (e + 1) : Nat) : Int) by omega] at l13
    have ec : cw s0 (q0 + (f + e)) = (cw (S (h + 1)) (q0 + (f + e))) := by unfold cw; rw [hs0 _ (Nat.le_refl _)]
    refine ih (e := e + 1) (y := x / 4294967296) hR (by rw [u2_n (by omega)]; exact ha) (fun j hj => by rw [u2_s, u1_n (by omega)]; exact hs0 j (by omega)) (by omega) (by omega) ?_ l5 l6 l7 l8 l9 l11 l13 (fun w' S' y' q1 q2 q3 q4 => hQ w' S' y' q1 q2 (fun b j hb => by rw [q3 b j (by omega), u2_eq, if_neg (by omega)]) q4)
    have en : q0 + (f + (e + 1)) = q0 + (f + e) + 1 := by omega
    rw [en, u2_s, cv_set rfl, pow_s, carry_step hv hxn]
    show _ = cv s0 (q0 + (f + e)) + cw s0 (q0 + (f + e)) * 2 ^ (32 * (q0 + (f + e))) + (cv (fun i => a (f + i)) e + cw (fun i => a (f + i)) e * 2 ^ (32 * e)) * g * 2 ^ (32 * (q0 + f))
    rw [ec, show cw (fun i => a (f + i)) e = (cw (S (h2 + 1)) (f + e)) by rw [ha]; rfl, show 32 * (q0 + (f + e)) = 32 * e + 32 * (q0 + f) by omega, Nat.pow_add]
    generalize (cw (S (h2 + 1)) (f + e)) = c1
    generalize (cw (S (h + 1)) (q0 + (f + e))) = c2
    generalize 2 ^ (32 * e) = P1
    generalize 2 ^ (32 * (q0 + f)) = P2
    generalize cv (fun i => a (f + i)) e = Y
    rw [Nat.add_mul (c1 * g), Nat.add_mul Y, Nat.add_mul (Y * g), show c1 * g * (P1 * P2) = c1 * P1 * g * P2 by rw [← Nat.mul_assoc, Nat.mul_right_comm c1]]
    omega
theorem c_addRow {m f q0 : Nat} {pl fz : Int} (hR : cR w0 L Z A C B S w) (hc : kd h = 3) (hc2 : kd h2 = 3) (hne : h ≠ h2) (m1 : S h2 1 = m) (hm : m ≤ C h2) (hq : q0 + m ≤ C h) (hf : f ≤ m) (hpl : pl = ((q0 + f : Nat) : Int)) : ∃ w' S' y', xRun d 70 [.ref h, .int (Int32.ofInt pl), .ref h2, .int (Int32.ofInt (f : Int)), .int (Int32.ofInt fz)] w (.inl (some (.int (Int32.ofInt ((y' : Nat) : Int))))) w' ∧ cR w0 L Z A C B S' w' ∧ y' < 4294967296 ∧ (∀ b j, b ≠ h + 1 ∨ j < q0 + f ∨ q0 + m ≤ j → S' b j = S b j) ∧ cv (S' (h + 1)) (q0 + m) + y' * 2 ^ (32 * (q0 + m)) = cv (S (h + 1)) (q0 + m) + cv (fun i => S (h2 + 1) (f + i)) (m - f) * (fz % 4294967296).toNat * 2 ^ (32 * (q0 + f)) := by
  have hcap := hR.cap hc
  have hcap2 := hR.cap hc2
  have hg : (fz % 4294967296).toNat < 4294967296 := by omega
  have key : ∀ lv, xld lv 0 = some (.ref h) → xld lv 1 = some (.int (Int32.ofInt pl)) → xld lv 2 = some (.ref h2) → xld lv 3 = some (.int (Int32.ofInt (f : Int))) → xld lv 4 = some (.int (Int32.ofInt fz)) → xEv d 70 0 lv [] w (fun o w' => ∃ S' y', o = .inl (some (.int (Int32.ofInt ((y' : Nat) : Int)))) ∧ cR w0 L Z A C B S' w' ∧ y' < 4294967296 ∧ (∀ b j, b ≠ h + 1 ∨ j < q0 + f ∨ q0 + m ≤ j → S' b j = S b j) ∧ cv (S' (h + 1)) (q0 + m) + y' * 2 ^ (32 * (q0 + m)) = cv (S (h + 1)) (q0 + m) + cv (fun i => S (h2 + 1) (f + i)) (m - f) * (fz % 4294967296).toNat * 2 ^ (32 * (q0 + f))) := by
    intro lv l0 l1 l2 l3 l4
    refine i_70_0 (x := h2) l2 ?_
    refine i_70_1 (v := Value.ref (A h2)) (hR.n3 hc2) rfl ?_
    refine i_70_4 rfl ?_
    refine lgen1 (i := 5) (v := Value.ref (A h2)) (fun lv lg ls => ?_)
    replace l0 := lg 0 _ rfl rfl l0
    replace l1 := lg 1 _ rfl rfl l1
    replace l2 := lg 2 _ rfl rfl l2
    replace l3 := lg 3 _ rfl rfl l3
    replace l4 := lg 4 _ rfl rfl l4
    have l5 := ls
    refine i_70_6 (x := h) l0 ?_
    refine i_70_7 (v := Value.ref (A h)) (hR.n3 hc) rfl ?_
    refine i_70_10 rfl ?_
    refine lgen1 (i := 6) (v := Value.ref (A h)) (fun lv lg ls => ?_)
    replace l5 := lg 5 _ rfl rfl l5
    replace l0 := lg 0 _ rfl rfl l0
    replace l1 := lg 1 _ rfl rfl l1
    replace l2 := lg 2 _ rfl rfl l2
    replace l3 := lg 3 _ rfl rfl l3
    replace l4 := lg 4 _ rfl rfl l4
    have l6 := ls
    refine i_70_12 (x := h2) l2 ?_
    refine i_70_13 (v := Value.int (Int32.ofInt (m : Int))) (hR.n3n hc2 m1) rfl ?_
    refine i_70_16 rfl ?_
    refine lgen1 (i := 7) (v := Value.int (Int32.ofInt (m : Int))) (fun lv lg ls => ?_)
    replace l6 := lg 6 _ rfl rfl l6
    replace l5 := lg 5 _ rfl rfl l5
    replace l0 := lg 0 _ rfl rfl l0
    replace l1 := lg 1 _ rfl rfl l1
    replace l2 := lg 2 _ rfl rfl l2
    replace l3 := lg 3 _ rfl rfl l3
    replace l4 := lg 4 _ rfl rfl l4
    have l7 := ls
    refine i_70_18 (x := Int32.ofInt pl) l1 ?_
    refine i_70_19 (x := Int32.ofInt (f : Int)) l3 ?_
    refine i_70_20 (c := Int32.ofInt (pl - (f : Int))) (o_sub pl (f : Int)) ?_
    refine i_70_21 rfl ?_
    refine lgen1 (i := 8) (v := Value.int (Int32.ofInt (pl - (f : Int)))) (fun lv lg ls => ?_)
    replace l7 := lg 7 _ rfl rfl l7
    replace l6 := lg 6 _ rfl rfl l6
    replace l5 := lg 5 _ rfl rfl l5
    replace l0 := lg 0 _ rfl rfl l0
    replace l1 := lg 1 _ rfl rfl l1
    replace l2 := lg 2 _ rfl rfl l2
    replace l3 := lg 3 _ rfl rfl l3
    replace l4 := lg 4 _ rfl rfl l4
    have l8 := ls
    refine i_70_23 (x := Int32.ofInt fz) l4 ?_
    refine i_70_25 rfl ?_
    refine i_70_26 ?_
    refine i_70_29 (c := Int64.ofInt (fz % 4294967296)) (lowz _) ?_
    refine i_70_30 rfl ?_
    refine lgen2 (i := 9) (v := Value.long (Int64.ofInt (fz % 4294967296))) (fun lv lg ls => ?_)
    replace l8 := lg 8 _ rfl rfl l8
    replace l7 := lg 7 _ rfl rfl l7
    replace l6 := lg 6 _ rfl rfl l6
    replace l5 := lg 5 _ rfl rfl l5
    replace l0 := lg 0 _ rfl rfl l0
    replace l1 := lg 1 _ rfl rfl l1
    replace l2 := lg 2 _ rfl rfl l2
    replace l3 := lg 3 _ rfl rfl l3
    replace l4 := lg 4 _ rfl rfl l4
    have l9 := ls
    refine i_70_32 ?_
    refine i_70_33 rfl ?_
    refine lgen2 (i := 11) (v := Value.long 0) (fun lv lg ls => ?_)
    replace l9 := lg 9 _ rfl rfl l9
    replace l8 := lg 8 _ rfl rfl l8
    replace l7 := lg 7 _ rfl rfl l7
    replace l6 := lg 6 _ rfl rfl l6
    replace l5 := lg 5 _ rfl rfl l5
    replace l0 := lg 0 _ rfl rfl l0
    replace l1 := lg 1 _ rfl rfl l1
    replace l2 := lg 2 _ rfl rfl l2
    replace l3 := lg 3 _ rfl rfl l3
    replace l4 := lg 4 _ rfl rfl l4
    have l11 := ls
    refine i_70_35 (x := Int32.ofInt (f : Int)) l3 ?_
    refine i_70_36 rfl ?_
    refine lgen1 (i := 13) (v := Value.int (Int32.ofInt (f : Int))) (fun lv lg ls => ?_)
    replace l11 := lg 11 _ rfl rfl l11
    replace l9 := lg 9 _ rfl rfl l9
    replace l8 := lg 8 _ rfl rfl l8
    replace l7 := lg 7 _ rfl rfl l7
    replace l6 := lg 6 _ rfl rfl l6
    replace l5 := lg 5 _ rfl rfl l5
    replace l0 := lg 0 _ rfl rfl l0
    replace l1 := lg 1 _ rfl rfl l1
    replace l2 := lg 2 _ rfl rfl l2
    replace l3 := lg 3 _ rfl rfl l3
    replace l4 := lg 4 _ rfl rfl l4
    have l13 := ls
    rw [show pl - (f : Int) = (q0 : Int) by omega] at l8
    rw [show fz % 4294967296 = (((fz % 4294967296).toNat : Nat) : Int) by omega] at l9
    refine adr_loop (a := S (h2 + 1)) (s0 := S (h + 1)) (f := f) (q0 := q0) hc hc2 hne hg hm hq (m - f) (e := 0) (y := 0) hR rfl (fun _ _ => rfl) (by decide) (by omega) ?_ l5 l6 l7 l8 l9 l11 l13 (fun w' S' y' q1 q2 q3 q4 => ⟨S', y', rfl, q1, q2, q3, q4⟩)
    show _ + 0 * _ = _ + 0 * _ * _
    rw [Nat.zero_mul, Nat.zero_mul, Nat.zero_mul]
  obtain ⟨o, w', h1, S', y', rfl, h2⟩ := (key (lv_args 0 [.ref h, .int (Int32.ofInt pl), .ref h2, .int (Int32.ofInt (f : Int)), .int (Int32.ofInt fz)]) rfl rfl rfl rfl rfl).run
  exact ⟨w', S', y', h1, h2⟩
end
