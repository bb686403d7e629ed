/-! Division of the class: takeAway, putBack -/
theorem k87 : kd 87 = 3 := by decide +kernel
theorem k89 : kd 89 = 3 := by decide +kernel
theorem k91 : kd 91 = 3 := by decide +kernel
section
variable {w0 w : xW} {L Z : Nat} {A C B : Nat → Nat} {S S0 : Nat → Nat → Int} {d : Nat}
theorem cR.dvn (hR : cR w0 L Z A C B S w) : w[86]? = some (.inr (7, [.ref 87, .ref 89, .ref 91])) := hR.2.1 86 (by decide +kernel)
end
/-- words of a row from a place on -/
theorem cvw_s {s : Nat → Int} {j n : Nat} : cv (fun k => s (j + k)) (n + 1) = cv (fun k => s (j + k)) n + cw s (j + n) * 2 ^ (32 * n) := rfl
theorem cvw_set {s : Nat → Int} {j i : Nat} {z : Int} : cv (fun k => u1 s (j + i) z (j + k)) (i + 1) = cv (fun k => s (j + k)) i + (z % 4294967296).toNat * 2 ^ (32 * i) := by
  rw [cvw_s, show cw (u1 s (j + i) z) (j + i) = (z % 4294967296).toNat by unfold cw; rw [u1_s]]
  rw [cv_same (g' := fun k => s (j + k)) (fun k hk => u1_n (by omega))]
theorem take_step {W W0 D g c b r dd P c1 b1 : Int} (h : W + b * P = W0 - D * g + c * P) (hc : c1 = c + g * dd) (hb : b1 = b + (r - c1 % 4294967296)) : W + b1 % 4294967296 * P + b1 / 4294967296 * (4294967296 * P) = W0 + r * P - (D + dd * P) * g + c1 / 4294967296 * (4294967296 * P) := by
  have e1 : (b1 % 4294967296 + b1 / 4294967296 * 4294967296) * P = b1 * P := by rw [show b1 % 4294967296 + b1 / 4294967296 * 4294967296 = b1 by omega]
  have e2 : (c1 % 4294967296 + c1 / 4294967296 * 4294967296) * P = c1 * P := by rw [show c1 % 4294967296 + c1 / 4294967296 * 4294967296 = c1 by omega]
  rw [Int.add_mul, Int.mul_assoc] at e1 e2
  have e3 : b1 * P = b * P + (r * P - c1 % 4294967296 * P) := by rw [hb, Int.add_mul, Int.sub_mul]
  have e4 : c1 * P = c * P + dd * P * g := by rw [hc, Int.add_mul, Int.mul_comm g, Int.mul_right_comm dd]
  rw [Int.add_mul D]
  omega
section
variable {w0 w : xW} {L Z : Nat} {A C B : Nat → Nat} {S S0 : Nat → Nat → Int} {V : Nat → Nat} {d : Nat}
theorem tk_loop {j n g : Nat} {s0 dd : Nat → Int} (hg : g < 4294967296) (hn : n ≤ C 91) (hj : j + n < C 89) {Q : Option Value ⊕ Nat → xW → Prop} : ∀ (t : Nat) {i c : Nat} {b : Int} {lv : xLv} {w : xW} {S : Nat → Nat → Int}, cR w0 L Z A C B S w → S (91 + 1) = dd → (∀ k, j + i ≤ k → S (89 + 1) k = s0 k) → c < 4294967296 → (b = 0 ∨ b = -1) → i + t = n → ((cv (fun k => S (89 + 1) (j + k)) i : Nat) : Int) + b * ((2 ^ (32 * i) : Nat) : Int) = ((cv (fun k => s0 (j + k)) i : Nat) : Int) - ((cv dd i : Nat) : Int) * (g : Int) + (c : Int) * ((2 ^ (32 * i) : Nat) : Int) → xld lv 1 = some (.int (Int32.ofInt (j : Int))) → xld lv 2 = some (.int (Int32.ofInt (n : Int))) → xld lv 3 = some (.long (Int64.ofInt (g : Int))) → xld lv 5 = some (.ref (A 89)) → xld lv 6 = some (.ref (A 91)) → xld lv 7 = some (.long (Int64.ofInt (c : Int))) → xld lv 9 = some (.long (Int64.ofInt b)) → xld lv 11 = some (.int (Int32.ofInt (i : Int))) →
    (∀ lv' (c' : Nat) (b' : Int) w' S', cR w0 L Z A C B S' w' → (∀ b k, b ≠ 89 + 1 ∨ k < j + i ∨ j + n ≤ k → S' b k = S b k) → c' < 4294967296 → (b' = 0 ∨ b' = -1) → ((cv (fun k => S' (89 + 1) (j + k)) n : Nat) : Int) + b' * ((2 ^ (32 * n) : Nat) : Int) = ((cv (fun k => s0 (j + k)) n : Nat) : Int) - ((cv dd n : Nat) : Int) * (g : Int) + (c' : Int) * ((2 ^ (32 * n) : Nat) : Int) → xld lv' 1 = some (.int (Int32.ofInt (j : Int))) → xld lv' 2 = some (.int (Int32.ofInt (n : Int))) → xld lv' 5 = some (.ref (A 89)) → xld lv' 7 = some (.long (Int64.ofInt (c' : Int))) → xld lv' 9 = some (.long (Int64.ofInt b')) → xEv d 76 104 lv' [] w' Q) → xEv d 76 27 lv [] w Q := by
  intro t
  induction t with
  | zero =>
    intro i c b lv w S hR hdd hs0 hc hb hi hv l1 l2 l3 l5 l6 l7 l9 l11 hQ
    have hcap := hR.cap k89
    have e1 : i = n := by omega
    subst e1
    refine i_76_27 l11 ?_
    refine i_76_29 l2 ?_
    refine i_76_30 (fun _ => ?_) (fun g => absurd g (by omega))
    exact hQ lv c b w S hR (fun _ _ _ => rfl) hc hb hv l1 l2 l5 l7 l9
  | succ t ih =>
    intro i c b lv w S hR hdd hs0 hc hb hi hv l1 l2 l3 l5 l6 l7 l9 l11 hQ
    have hcap := hR.cap k89
    have hcap2 := hR.cap k91
    have d1 : cw (S (91 + 1)) i < 4294967296 := cw_lt
    have d2 : cw (S (89 + 1)) (j + i) < 4294967296 := cw_lt
    have d3 : g * cw (S (91 + 1)) i ≤ 4294967295 * 4294967295 := Nat.mul_le_mul (by omega) (by omega)
    refine i_76_27 (x := Int32.ofInt (i : Int)) l11 ?_
    refine i_76_29 (x := Int32.ofInt (n : Int)) l2 ?_
    refine i_76_30 (b_le (a := (n : Int)) (b := (i : Int)) ⟨by omega, by omega⟩ ⟨by omega, by omega⟩ fun c0 => absurd c0 (by omega)) (b_lt (a := (i : Int)) (b := (n : Int)) ⟨by omega, by omega⟩ ⟨by omega, by omega⟩ fun c0 => ?_)
    refine i_76_33 (x := Int64.ofInt (c : Int)) l7 ?_
    refine i_76_35 (x := Int64.ofInt (g : Int)) l3 ?_
    refine i_76_36 (x := A 91) l6 ?_
    refine i_76_38 (x := Int32.ofInt (i : Int)) l11 ?_
    refine i_76_40 (v := Value.int (Int32.ofInt (S (91 + 1) i))) (hR.w3 k91) (ix0 (T := (i : Int)) (by omega) (by omega)) (ix1 (T := (i : Int)) (by omega) (by omega) (by omega)) (ra (T := (i : Int)) (by omega) (by omega) (congrArg _ rfl)) ?_
    refine i_76_41 rfl ?_
    refine i_76_42 ?_
    refine i_76_45 (c := Int64.ofInt (cw (S (91 + 1)) i : Int)) (lowcw) ?_
    refine i_76_46 (c := Int64.ofInt ((g : Int) * (cw (S (91 + 1)) i : Int))) (q_mul (g : Int) (cw (S (91 + 1)) i : Int)) ?_
    refine i_76_47 (c := Int64.ofInt ((c : Int) + ((g : Int) * (cw (S (91 + 1)) i : Int)))) (q_add (c : Int) ((g : Int) * (cw (S (91 + 1)) i : Int))) ?_
    obtain ⟨c1, hc1⟩ : ∃ c1 : Nat, c1 = c + g * (cw (S (91 + 1)) i) := ⟨_, rfl⟩
    rw [show (c : Int) + ((g : Int) * (cw (S (91 + 1)) i : Int)) = ((c1 : Nat) : Int) by rw [hc1, Int.natCast_add, Int.natCast_mul]]
    refine i_76_48 rfl ?_
    refine lgen2 (i := 7) (v := Value.long (Int64.ofInt (c1 : Int))) (fun lv lg ls => ?_)
    replace l1 := lg 1 _ rfl rfl l1
    replace l2 := lg 2 _ rfl rfl l2
    replace l3 := lg 3 _ rfl rfl l3
    replace l5 := lg 5 _ rfl rfl l5
    replace l6 := lg 6 _ rfl rfl l6
    replace l9 := lg 9 _ rfl rfl l9
    replace l11 := lg 11 _ rfl rfl l11
    have l7 := ls
    refine i_76_50 (x := Int64.ofInt b) l9 ?_
    refine i_76_52 (x := A 89) l5 ?_
    refine i_76_54 (x := Int32.ofInt (i : Int)) l11 ?_
    refine i_76_56 (x := Int32.ofInt (j : Int)) l1 ?_
    refine i_76_57 (c := Int32.ofInt ((i : Int) + (j : Int))) (o_add (i : Int) (j : Int)) ?_
    refine i_76_58 (v := Value.int (Int32.ofInt (S (89 + 1) (j + i)))) (hR.w3 k89) (ix0 (T := (i : Int) + (j : Int)) (by omega) (by omega)) (ix1 (T := (i : Int) + (j : Int)) (by omega) (by omega) (by omega)) (ra (T := (i : Int) + (j : Int)) (by omega) (by omega) (congrArg _ (by omega))) ?_
    refine i_76_59 rfl ?_
    refine i_76_60 ?_
    refine i_76_63 (c := Int64.ofInt (cw (S (89 + 1)) (j + i) : Int)) (lowcw) ?_
    refine i_76_64 (x := Int64.ofInt (c1 : Int)) l7 ?_
    refine i_76_66 ?_
    refine i_76_69 (c := Int64.ofInt ((c1 : Int) % 4294967296)) (q_mask32 (c1 : Int)) ?_
    refine i_76_70 (c := Int64.ofInt ((cw (S (89 + 1)) (j + i) : Int) - ((c1 : Int) % 4294967296))) (q_sub (cw (S (89 + 1)) (j + i) : Int) ((c1 : Int) % 4294967296)) ?_
    refine i_76_71 (c := Int64.ofInt (b + ((cw (S (89 + 1)) (j + i) : Int) - ((c1 : Int) % 4294967296)))) (q_add b ((cw (S (89 + 1)) (j + i) : Int) - ((c1 : Int) % 4294967296))) ?_
    obtain ⟨b1, hb1⟩ : ∃ b1 : Int, b1 = b + (((cw (S (89 + 1)) (j + i)) : Int) - (c1 : Int) % 4294967296) := ⟨_, rfl⟩
    rw [show b + ((cw (S (89 + 1)) (j + i) : Int) - ((c1 : Int) % 4294967296)) = b1 by rw [hb1]]
    refine i_76_72 rfl ?_
    refine lgen2 (i := 9) (v := Value.long (Int64.ofInt b1)) (fun lv lg ls => ?_)
    replace l7 := lg 7 _ rfl rfl l7
    replace l1 := lg 1 _ rfl rfl l1
    replace l2 := lg 2 _ rfl rfl l2
    replace l3 := lg 3 _ rfl rfl l3
    replace l5 := lg 5 _ rfl rfl l5
    replace l6 := lg 6 _ rfl rfl l6
    replace l11 := lg 11 _ rfl rfl l11
    have l9 := ls
    refine i_76_74 (x := A 89) l5 ?_
    refine i_76_76 (x := Int32.ofInt (i : Int)) l11 ?_
    refine i_76_78 (x := Int32.ofInt (j : Int)) l1 ?_
    refine i_76_79 (c := Int32.ofInt ((i : Int) + (j : Int))) (o_add (i : Int) (j : Int)) ?_
    refine i_76_80 (x := Int64.ofInt b1) l9 ?_
    refine i_76_82 (c := Int32.ofInt b1) (q_l2i b1) ?_
    refine i_76_83 (hR.w3 k89) (ix0 (T := (i : Int) + (j : Int)) (by omega) (by omega)) (ix1 (T := (i : Int) + (j : Int)) (by omega) (by omega) (by omega)) (hR.apart k89).2.2.2.2.1 rfl ?_
    rw [ixn (T := (i : Int) + (j : Int)) (by omega) (by omega), show ((i : Int) + (j : Int)).toNat = j + i from (by omega)]
    refine xgen (P := cR w0 L Z A C B (u2 S (89 + 1) (j + i) b1)) (hR.arr k89 rfl) (fun w hR => ?_)
    refine i_76_84 (x := Int64.ofInt b1) l9 ?_
    refine i_76_86 ?_
    refine i_76_88 (c := Int64.ofInt (b1 / 4294967296)) (q_shr32 (t := b1) ⟨by omega, by omega⟩) ?_
    refine i_76_89 rfl ?_
    refine lgen2 (i := 9) (v := Value.long (Int64.ofInt (b1 / 4294967296))) (fun lv lg ls => ?_)
    replace l7 := lg 7 _ rfl rfl l7
    replace l1 := lg 1 _ rfl rfl l1
    replace l2 := lg 2 _ rfl rfl l2
    replace l3 := lg 3 _ rfl rfl l3
    replace l5 := lg 5 _ rfl rfl l5
    replace l6 := lg 6 _ rfl rfl l6
    replace l11 := lg 11 _ rfl rfl l11
    have l9 := ls
    refine i_76_91 (x := Int64.ofInt (c1 : Int)) l7 ?_
    refine i_76_93 ?_
    refine i_76_95 (c := Int64.ofInt ((c1 : Int) / 4294967296)) (q_ushr32 (t := (c1 : Int)) (by omega) (by omega)) ?_
    refine i_76_96 rfl ?_
    refine lgen2 (i := 7) (v := Value.long (Int64.ofInt ((c1 : Int) / 4294967296))) (fun lv lg ls => ?_)
    replace l9 := lg 9 _ rfl rfl l9
    replace l1 := lg 1 _ rfl rfl l1
    replace l2 := lg 2 _ rfl rfl l2
    replace l3 := lg 3 _ rfl rfl l3
    replace l5 := lg 5 _ rfl rfl l5
    replace l6 := lg 6 _ rfl rfl l6
    replace l11 := lg 11 _ rfl rfl l11
    have l7 := ls
    refine i_76_98 (x := (Int32.ofInt (i : Int))) (c := (Int32.ofInt ((i : Int) + 1))) l11 (o_add (i : Int) 1) rfl ?_
    refine lgen1 (i := 11) (v := Value.int (Int32.ofInt ((i : Int) + 1))) (fun lv lg ls => ?_)
    replace l7 := lg 7 _ rfl rfl l7
    replace l9 := lg 9 _ rfl rfl l9
    replace l1 := lg 1 _ rfl rfl l1
    replace l2 := lg 2 _ rfl rfl l2
    replace l3 := lg 3 _ rfl rfl l3
    replace l5 := lg 5 _ rfl rfl l5
    replace l6 := lg 6 _ rfl rfl l6
    have l11 := ls
    refine i_76_101 ?_
    rw [show (c1 : Int) / 4294967296 = ((c1 / 4294967296 : Nat) : Int) by omega] at l7
    have ec : cw s0 (j + i) = (cw (S (89 + 1)) (j + i)) := by unfold cw; rw [hs0 _ (Nat.le_refl _)]
    refine ih (i := i + 1) (c := c1 / 4294967296) (b := b1 / 4294967296) hR (by rw [u2_n (by decide)]; exact hdd) (fun k hk => by rw [u2_s, u1_n (by omega)]; exact hs0 k (by omega)) (by omega) (by omega) (by omega) ?_ l1 l2 l3 l5 l6 l7 l9 l11 (fun lv' c' b' w' S' q1 q2 q3 q4 q5 q6 q7 q8 q9 q10 => hQ lv' c' b' w' S' q1 (fun b k hb => by rw [q2 b k (by omega), u2_eq, if_neg (by omega)]) q3 q4 q5 q6 q7 q8 q9 q10)
    have hst := take_step (P := ((2 ^ (32 * i) : Nat) : Int)) (dd := ((cw (S (91 + 1)) i) : Int)) (r := ((cw (S (89 + 1)) (j + i)) : Int)) (c1 := (c1 : Int)) (b1 := b1) hv (by rw [hc1, Int.natCast_add, Int.natCast_mul]) hb1
    rw [u2_s, cvw_set, cvw_s, ec, pow_s]
    show _ = _ - ((cv dd i + cw dd i * 2 ^ (32 * i) : Nat) : Int) * _ + _
    rw [show cw dd i = (cw (S (91 + 1)) i) by rw [hdd]]
    have eb : ((b1 % 4294967296).toNat : Int) = b1 % 4294967296 := Int.toNat_of_nonneg (by omega)
    simp only [Int.natCast_add, Int.natCast_mul, eb]
    rw [show ((c1 / 4294967296 : Nat) : Int) = (c1 : Int) / 4294967296 by omega]
    exact hst
/-- takeAway -/
theorem c_take {j n g : Nat} (hR : cR w0 L Z A C B S w) (hg : g < 4294967296) (hn : n ≤ C 91) (hj : j + n < C 89) : ∃ w' S' z, xRun d 76 [.ref 86, .int (Int32.ofInt (j : Int)), .int (Int32.ofInt (n : Int)), .long (Int64.ofInt (g : Int))] w (.inl (some (.int (Int32.ofInt z)))) w' ∧ cR w0 L Z A C B S' w' ∧ (∀ b k, b ≠ 89 + 1 ∨ k < j ∨ j + n < k → S' b k = S b k) ∧ ((z = 0 ∧ cv (fun k => S' (89 + 1) (j + k)) (n + 1) + cv (S (91 + 1)) n * g = cv (fun k => S (89 + 1) (j + k)) (n + 1)) ∨ (z = 1 ∧ cv (fun k => S (89 + 1) (j + k)) (n + 1) < cv (S (91 + 1)) n * g ∧ cv (fun k => S' (89 + 1) (j + k)) (n + 1) + cv (S (91 + 1)) n * g = cv (fun k => S (89 + 1) (j + k)) (n + 1) + 4294967296 * 2 ^ (32 * n))) := by
  have hcap := hR.cap k89
  have hcap2 := hR.cap k91
  have key : ∀ lv, xld lv 0 = some (.ref 86) → xld lv 1 = some (.int (Int32.ofInt (j : Int))) → xld lv 2 = some (.int (Int32.ofInt (n : Int))) → xld lv 3 = some (.long (Int64.ofInt (g : Int))) → xEv d 76 0 lv [] w (fun o w' => ∃ S' z, o = .inl (some (.int (Int32.ofInt z))) ∧ cR w0 L Z A C B S' w' ∧ (∀ b k, b ≠ 89 + 1 ∨ k < j ∨ j + n < k → S' b k = S b k) ∧ ((z = 0 ∧ cv (fun k => S' (89 + 1) (j + k)) (n + 1) + cv (S (91 + 1)) n * g = cv (fun k => S (89 + 1) (j + k)) (n + 1)) ∨ (z = 1 ∧ cv (fun k => S (89 + 1) (j + k)) (n + 1) < cv (S (91 + 1)) n * g ∧ cv (fun k => S' (89 + 1) (j + k)) (n + 1) + cv (S (91 + 1)) n * g = cv (fun k => S (89 + 1) (j + k)) (n + 1) + 4294967296 * 2 ^ (32 * n)))) := by
    intro lv l0 l1 l2 l3
    refine i_76_0 (x := 86) l0 ?_
    refine i_76_1 (v := Value.ref 89) hR.dvn rfl ?_
    refine i_76_4 (v := Value.ref (A 89)) (hR.n3 k89) rfl ?_
    refine i_76_7 rfl ?_
    refine lgen1 (i := 5) (v := Value.ref (A 89)) (fun lv lg ls => ?_)
    replace l0 := lg 0 _ rfl rfl l0
    replace l1 := lg 1 _ rfl rfl l1
    replace l2 := lg 2 _ rfl rfl l2
    replace l3 := lg 3 _ rfl rfl l3
    have l5 := ls
    refine i_76_9 (x := 86) l0 ?_
    refine i_76_10 (v := Value.ref 91) hR.dvn rfl ?_
    refine i_76_13 (v := Value.ref (A 91)) (hR.n3 k91) rfl ?_
    refine i_76_16 rfl ?_
    refine lgen1 (i := 6) (v := Value.ref (A 91)) (fun lv lg ls => ?_)
    replace l5 := lg 5 _ rfl rfl l5
    replace l0 := lg 0 _ rfl rfl l0
    replace l1 := lg 1 _ rfl rfl l1
    replace l2 := lg 2 _ rfl rfl l2
    replace l3 := lg 3 _ rfl rfl l3
    have l6 := ls
    refine i_76_18 ?_
    refine i_76_19 rfl ?_
    refine lgen2 (i := 7) (v := Value.long 0) (fun lv lg ls => ?_)
    replace l6 := lg 6 _ rfl rfl l6
    replace l5 := lg 5 _ rfl rfl l5
    replace l0 := lg 0 _ rfl rfl l0
    replace l1 := lg 1 _ rfl rfl l1
    replace l2 := lg 2 _ rfl rfl l2
    replace l3 := lg 3 _ rfl rfl l3
    have l7 := ls
    refine i_76_21 ?_
    refine i_76_22 rfl ?_
    refine lgen2 (i := 9) (v := Value.long 0) (fun lv lg ls => ?_)
    replace l7 := lg 7 _ rfl rfl l7
    replace l6 := lg 6 _ rfl rfl l6
    replace l5 := lg 5 _ rfl rfl l5
    replace l0 := lg 0 _ rfl rfl l0
    replace l1 := lg 1 _ rfl rfl l1
    replace l2 := lg 2 _ rfl rfl l2
    replace l3 := lg 3 _ rfl rfl l3
    have l9 := ls
    refine i_76_24 ?_
    refine i_76_25 rfl ?_
    refine lgen1 (i := 11) (v := Value.int 0) (fun lv lg ls => ?_)
    replace l9 := lg 9 _ rfl rfl l9
    replace l7 := lg 7 _ rfl rfl l7
    replace l6 := lg 6 _ rfl rfl l6
    replace l5 := lg 5 _ rfl rfl l5
    replace l0 := lg 0 _ rfl rfl l0
    replace l1 := lg 1 _ rfl rfl l1
    replace l2 := lg 2 _ rfl rfl l2
    replace l3 := lg 3 _ rfl rfl l3
    have l11 := ls
    refine tk_loop (s0 := S (89 + 1)) (dd := S (91 + 1)) hg hn hj n (i := 0) (c := 0) (b := 0) hR rfl (fun _ _ => rfl) (by decide) (Or.inl rfl) (by omega) ?_ l1 l2 l3 l5 l6 l7 l9 l11 (fun lv c' b' w S' hR q2 q3 q4 hv l1 l2 l5 l7 l9 => ?_)
    · show ((0 : Nat) : Int) + 0 * _ = ((0 : Nat) : Int) - ((0 : Nat) : Int) * _ + ((0 : Nat) : Int) * _
      rw [Int.zero_mul]
      omega
    · refine i_76_104 (x := Int64.ofInt b') l9 ?_
      refine i_76_106 (x := A 89) l5 ?_
      refine i_76_108 (x := Int32.ofInt (j : Int)) l1 ?_
      refine i_76_109 (x := Int32.ofInt (n : Int)) l2 ?_
      refine i_76_110 (c := Int32.ofInt ((j : Int) + (n : Int))) (o_add (j : Int) (n : Int)) ?_
      refine i_76_111 (v := Value.int (Int32.ofInt (S' (89 + 1) (j + n)))) (hR.w3 k89) (ix0 (T := (j : Int) + (n : Int)) (by omega) (by omega)) (ix1 (T := (j : Int) + (n : Int)) (by omega) (by omega) (by omega)) (ra (T := (j : Int) + (n : Int)) (by omega) (by omega) (congrArg _ (by omega))) ?_
      refine i_76_112 rfl ?_
      refine i_76_113 ?_
      refine i_76_116 (c := Int64.ofInt (cw (S' (89 + 1)) (j + n) : Int)) (lowcw) ?_
      refine i_76_117 (x := Int64.ofInt ((c' : Nat) : Int)) l7 ?_
      refine i_76_119 (c := Int64.ofInt ((cw (S' (89 + 1)) (j + n) : Int) - ((c' : Nat) : Int))) (q_sub (cw (S' (89 + 1)) (j + n) : Int) ((c' : Nat) : Int)) ?_
      refine i_76_120 (c := Int64.ofInt (b' + ((cw (S' (89 + 1)) (j + n) : Int) - ((c' : Nat) : Int)))) (q_add b' ((cw (S' (89 + 1)) (j + n) : Int) - ((c' : Nat) : Int))) ?_
      obtain ⟨b1, hb1⟩ : ∃ b1 : Int, b1 = b' + ((cw (S' (89 + 1)) (j + n) : Int) - (c' : Int)) := ⟨_, rfl⟩
      rw [show b' + ((cw (S' (89 + 1)) (j + n) : Int) - ((c' : Nat) : Int)) = b1 by rw [hb1]]
      have hlt : cv (fun k => S' (89 + 1) (j + k)) n < 2 ^ (32 * n) := cv_lt
      have ew : cw (S' (89 + 1)) (j + n) = cw (S (89 + 1)) (j + n) := by unfold cw; rw [q2 _ _ (by omega)]
      have es : cv (fun k => S (89 + 1) (j + k)) (n + 1) = cv (fun k => S (89 + 1) (j + k)) n + cw (S (89 + 1)) (j + n) * 2 ^ (32 * n) := rfl
      have hall : ((cv (fun k => S' (89 + 1) (j + k)) n : Nat) : Int) + b1 * ((2 ^ (32 * n) : Nat) : Int) = ((cv (fun k => S (89 + 1) (j + k)) (n + 1) : Nat) : Int) - ((cv (S (91 + 1)) n * g : Nat) : Int) := by
        rw [es, hb1, ew]
        simp only [Int.natCast_add, Int.natCast_mul, Int.add_mul, Int.sub_mul]
        omega
      have hnew : cv (fun k => u1 (S' (89 + 1)) (j + n) b1 (j + k)) (n + 1) = cv (fun k => S' (89 + 1) (j + k)) n + (b1 % 4294967296).toNat * 2 ^ (32 * n) := cvw_set
      have dl : cw (S (89 + 1)) (j + n) < 4294967296 := cw_lt
      have hbl : -4294967296 ≤ b1 ∧ b1 < 4294967296 := by omega
      refine i_76_121 rfl ?_
      refine lgen2 (i := 9) (v := Value.long (Int64.ofInt b1)) (fun lv lg ls => ?_)
      replace l1 := lg 1 _ rfl rfl l1
      replace l2 := lg 2 _ rfl rfl l2
      replace l5 := lg 5 _ rfl rfl l5
      replace l7 := lg 7 _ rfl rfl l7
      have l9 := ls
      refine i_76_123 (x := A 89) l5 ?_
      refine i_76_125 (x := Int32.ofInt (j : Int)) l1 ?_
      refine i_76_126 (x := Int32.ofInt (n : Int)) l2 ?_
      refine i_76_127 (c := Int32.ofInt ((j : Int) + (n : Int))) (o_add (j : Int) (n : Int)) ?_
      refine i_76_128 (x := Int64.ofInt b1) l9 ?_
      refine i_76_130 (c := Int32.ofInt b1) (q_l2i b1) ?_
      refine i_76_131 (hR.w3 k89) (ix0 (T := (j : Int) + (n : Int)) (by omega) (by omega)) (ix1 (T := (j : Int) + (n : Int)) (by omega) (by omega) (by omega)) (hR.apart k89).2.2.2.2.1 rfl ?_
      rw [ixn (T := (j : Int) + (n : Int)) (by omega) (by omega), show ((j : Int) + (n : Int)).toNat = j + n from (by omega)]
      refine xgen (P := cR w0 L Z A C B (u2 S' (89 + 1) (j + n) b1)) (hR.arr k89 rfl) (fun w hR => ?_)
      refine i_76_132 (x := Int64.ofInt b1) l9 ?_
      refine i_76_134 ?_
      refine i_76_135 (c := Int32.ofInt (lc b1 0)) (q_cmp (a := b1) (b := 0) ⟨by omega, by omega⟩ ⟨by decide, by decide⟩) ?_
      refine i_76_136 (lc_ge (a := b1) (b := 0) fun c50 => ?_) (lc_lt (a := b1) (b := 0) fun c50 => ?_)
      · refine i_76_143 ?_
        refine i_76_144 rfl ?_
        refine ⟨_, 0, rfl, hR, fun b k hb => by rw [u2_eq, if_neg (by omega), q2 b k (by omega)], Or.inl ⟨rfl, ?_⟩⟩
        rw [u2_s, hnew]
        obtain ⟨b2, hb2⟩ : ∃ b2 : Nat, b1 = (b2 : Int) := ⟨b1.toNat, by omega⟩
        rw [show (b1 % 4294967296).toNat = b2 by omega]
        rw [hb2, ← Int.natCast_mul] at hall
        omega
      · refine i_76_139 ?_
        refine i_76_140 ?_
        refine i_76_144 rfl ?_
        obtain ⟨b2, hb2⟩ : ∃ b2 : Nat, b1 = (b2 : Int) - 4294967296 := ⟨(b1 + 4294967296).toNat, by omega⟩
        rw [hb2, Int.sub_mul, ← Int.natCast_mul] at hall
        have hb3 : (b2 + 1) * 2 ^ (32 * n) ≤ 4294967296 * 2 ^ (32 * n) := Nat.mul_le_mul_right _ (by omega)
        rw [Nat.add_mul, Nat.one_mul] at hb3
        refine ⟨_, 1, rfl, hR, fun b k hb => by rw [u2_eq, if_neg (by omega), q2 b k (by omega)], Or.inr ⟨rfl, ?_, ?_⟩⟩
        · omega
        · rw [u2_s, hnew, show (b1 % 4294967296).toNat = b2 by omega]
          omega
  obtain ⟨o, w', h1, S', z, rfl, h2⟩ := (key (lv_args 0 [.ref 86, .int (Int32.ofInt (j : Int)), .int (Int32.ofInt (n : Int)), .long (Int64.ofInt (g : Int))]) rfl rfl rfl rfl).run
  exact ⟨w', S', z, h1, h2⟩
end
