/-! putBack of the class's division -/
section
variable {w0 w : xW} {L Z : Nat} {A C B : Nat → Nat} {S S0 : Nat → Nat → Int} {V : Nat → Nat} {d : Nat}
theorem pb_loop {j n : Nat} {s0 dd : Nat → Int} (hn : n ≤ C 91) (hj : j + n < C 89) {Q : Option Value ⊕ Nat → xW → Prop} : ∀ (t : Nat) {i c : Nat} {lv : xLv} {w : xW} {S : Nat → Nat → Int}, cR w0 L Z A C B S w → S (91 + 1) = dd → (∀ k, j + i ≤ k → S (89 + 1) k = s0 k) → c ≤ 1 → i + t = n → cv (fun k => S (89 + 1) (j + k)) i + c * 2 ^ (32 * i) = cv (fun k => s0 (j + k)) i + cv dd i → xld lv 0 = some (.ref 86) → xld lv 1 = some (.int (Int32.ofInt (j : Int))) → xld lv 2 = some (.int (Int32.ofInt (n : Int))) → xld lv 3 = some (.ref (A 89)) → xld lv 4 = some (.long (Int64.ofInt (c : Int))) → xld lv 6 = some (.int (Int32.ofInt (i : Int))) →
    (∀ lv' (c' : Nat) w' S', cR w0 L Z A C B S' w' → (∀ b k, b ≠ 89 + 1 ∨ k < j + i ∨ j + n ≤ k → S' b k = S b k) → c' ≤ 1 → cv (fun k => S' (89 + 1) (j + k)) n + c' * 2 ^ (32 * n) = cv (fun k => s0 (j + k)) n + cv dd n → xld lv' 1 = some (.int (Int32.ofInt (j : Int))) → xld lv' 2 = some (.int (Int32.ofInt (n : Int))) → xld lv' 3 = some (.ref (A 89)) → xld lv' 4 = some (.long (Int64.ofInt ((c' : Nat) : Int))) → xEv d 77 74 lv' [] w' Q) → xEv d 77 14 lv [] w Q := by
  intro t
  induction t with
  | zero =>
    intro i c lv w S hR hdd hs0 hc hi hv l0 l1 l2 l3 l4 l6 hQ
    have hcap := hR.cap k89
    have e1 : i = n := by omega
    subst e1
    refine i_77_14 l6 ?_
    refine i_77_16 l2 ?_
    refine i_77_17 (fun _ => ?_) (fun g => absurd g (by omega))
    exact hQ lv c w S hR (fun _ _ _ => rfl) hc hv l1 l2 l3 l4
  | succ t ih =>
    intro i c lv w S hR hdd hs0 hc hi hv l0 l1 l2 l3 l4 l6 hQ
    have hcap := hR.cap k89
    have hcap2 := hR.cap k91
    have d1 : cw (S (91 + 1)) i < 4294967296 := cw_lt
    have d2 : cw (S (89 + 1)) (j + i) < 4294967296 := cw_lt
    refine i_77_14 (x := Int32.ofInt (i : Int)) l6 ?_
    refine i_77_16 (x := Int32.ofInt (n : Int)) l2 ?_
    refine i_77_17 (b_le (a := (n : Int)) (b := (i : Int)) ⟨by omega, by omega⟩ ⟨by omega, by omega⟩ fun c0 => absurd c0 (by omega)) (b_lt (a := (i : Int)) (b := (n : Int)) ⟨by omega, by omega⟩ ⟨by omega, by omega⟩ fun c0 => ?_)
    refine i_77_20 (x := Int64.ofInt (c : Int)) l4 ?_
    refine i_77_22 (x := A 89) l3 ?_
    refine i_77_23 (x := Int32.ofInt (i : Int)) l6 ?_
    refine i_77_25 (x := Int32.ofInt (j : Int)) l1 ?_
    refine i_77_26 (c := Int32.ofInt ((i : Int) + (j : Int))) (o_add (i : Int) (j : Int)) ?_
    refine i_77_27 (v := Value.int (Int32.ofInt (S (89 + 1) (j + i)))) (hR.w3 k89) (ix0 (T := (i : Int) + (j : Int)) (by omega) (by omega)) (ix1 (T := (i : Int) + (j : Int)) (by omega) (by omega) (by omega)) (ra (T := (i : Int) + (j : Int)) (by omega) (by omega) (congrArg _ (by omega))) ?_
    refine i_77_28 rfl ?_
    refine i_77_29 ?_
    refine i_77_32 (c := Int64.ofInt (cw (S (89 + 1)) (j + i) : Int)) (lowcw) ?_
    refine i_77_33 (x := 86) l0 ?_
    refine i_77_34 (v := Value.ref 91) hR.dvn rfl ?_
    refine i_77_37 (v := Value.ref (A 91)) (hR.n3 k91) rfl ?_
    refine i_77_40 (x := Int32.ofInt (i : Int)) l6 ?_
    refine i_77_42 (v := Value.int (Int32.ofInt (S (91 + 1) i))) (hR.w3 k91) (ix0 (T := (i : Int)) (by omega) (by omega)) (ix1 (T := (i : Int)) (by omega) (by omega) (by omega)) (ra (T := (i : Int)) (by omega) (by omega) (congrArg _ rfl)) ?_
    refine i_77_43 rfl ?_
    refine i_77_44 ?_
    refine i_77_47 (c := Int64.ofInt (cw (S (91 + 1)) i : Int)) (lowcw) ?_
    refine i_77_48 (c := Int64.ofInt ((cw (S (89 + 1)) (j + i) : Int) + (cw (S (91 + 1)) i : Int))) (q_add (cw (S (89 + 1)) (j + i) : Int) (cw (S (91 + 1)) i : Int)) ?_
    refine i_77_49 (c := Int64.ofInt ((c : Int) + ((cw (S (89 + 1)) (j + i) : Int) + (cw (S (91 + 1)) i : Int)))) (q_add (c : Int) ((cw (S (89 + 1)) (j + i) : Int) + (cw (S (91 + 1)) i : Int))) ?_
    refine i_77_50 rfl ?_
    refine lgen2 (i := 4) (v := Value.long (Int64.ofInt ((c : Int) + ((cw (S (89 + 1)) (j + i) : Int) + (cw (S (91 + 1)) i : Int))))) (fun lv lg ls => ?_)
    replace l0 := lg 0 _ rfl rfl l0
    replace l1 := lg 1 _ rfl rfl l1
    replace l2 := lg 2 _ rfl rfl l2
    replace l3 := lg 3 _ rfl rfl l3
    replace l6 := lg 6 _ rfl rfl l6
    have l4 := ls
    refine i_77_52 (x := A 89) l3 ?_
    refine i_77_53 (x := Int32.ofInt (i : Int)) l6 ?_
    refine i_77_55 (x := Int32.ofInt (j : Int)) l1 ?_
    refine i_77_56 (c := Int32.ofInt ((i : Int) + (j : Int))) (o_add (i : Int) (j : Int)) ?_
    refine i_77_57 (x := Int64.ofInt ((c : Int) + ((cw (S (89 + 1)) (j + i) : Int) + (cw (S (91 + 1)) i : Int)))) l4 ?_
    refine i_77_59 (c := Int32.ofInt ((c : Int) + ((cw (S (89 + 1)) (j + i) : Int) + (cw (S (91 + 1)) i : Int)))) (q_l2i ((c : Int) + ((cw (S (89 + 1)) (j + i) : Int) + (cw (S (91 + 1)) i : Int)))) ?_
    refine i_77_60 (hR.w3 k89) (ix0 (T := (i : Int) + (j : Int)) (by omega) (by omega)) (ix1 (T := (i : Int) + (j : Int)) (by omega) (by omega) (by omega)) (hR.apart k89).2.2.2.2.1 rfl ?_
    rw [ixn (T := (i : Int) + (j : Int)) (by omega) (by omega), show ((i : Int) + (j : Int)).toNat = j + i from (by omega)]
    refine xgen (P := cR w0 L Z A C B (u2 S (89 + 1) (j + i) ((c : Int) + ((cw (S (89 + 1)) (j + i) : Int) + (cw (S (91 + 1)) i : Int))))) (hR.arr k89 rfl) (fun w hR => ?_)
    refine i_77_61 (x := Int64.ofInt ((c : Int) + ((cw (S (89 + 1)) (j + i) : Int) + (cw (S (91 + 1)) i : Int)))) l4 ?_
    refine i_77_63 ?_
    refine i_77_65 (c := Int64.ofInt (((c : Int) + ((cw (S (89 + 1)) (j + i) : Int) + (cw (S (91 + 1)) i : Int))) / 4294967296)) (q_ushr32 (t := (c : Int) + ((cw (S (89 + 1)) (j + i) : Int) + (cw (S (91 + 1)) i : Int))) (by omega) (by omega)) ?_
    refine i_77_66 rfl ?_
    refine lgen2 (i := 4) (v := Value.long (Int64.ofInt (((c : Int) + ((cw (S (89 + 1)) (j + i) : Int) + (cw (S (91 + 1)) i : Int))) / 4294967296))) (fun lv lg ls => ?_)
    replace l0 := lg 0 _ rfl rfl l0
    replace l1 := lg 1 _ rfl rfl l1
    replace l2 := lg 2 _ rfl rfl l2
    replace l3 := lg 3 _ rfl rfl l3
    replace l6 := lg 6 _ rfl rfl l6
    have l4 := ls
    refine i_77_68 (x := (Int32.ofInt (i : Int))) (c := (Int32.ofInt ((i : Int) + 1))) l6 (o_add (i : Int) 1) rfl ?_
    refine lgen1 (i := 6) (v := Value.int (Int32.ofInt ((i : Int) + 1))) (fun lv lg ls => ?_)
    replace l4 := lg 4 _ rfl rfl l4
    replace l0 := lg 0 _ rfl rfl l0
    replace l1 := lg 1 _ rfl rfl l1
    replace l2 := lg 2 _ rfl rfl l2
    replace l3 := lg 3 _ rfl rfl l3
    have l6 := ls
    refine i_77_71 ?_
    obtain ⟨x, hxn⟩ : ∃ x : Nat, x = c + (cw (S (89 + 1)) (j + i) + cw (S (91 + 1)) i) := ⟨_, rfl⟩
    have hx : (c : Int) + ((cw (S (89 + 1)) (j + i) : Int) + (cw (S (91 + 1)) i : Int)) = ((x : Nat) : Int) := by omega
    rw [show ((c : Int) + ((cw (S (89 + 1)) (j + i) : Int) + (cw (S (91 + 1)) i : Int))) / 4294967296 = ((x / 4294967296 : Nat) : Int) by omega] at l4
    have ec : cw s0 (j + i) = cw (S (89 + 1)) (j + i) := by unfold cw; rw [hs0 _ (Nat.le_refl _)]
    refine ih (i := i + 1) (c := x / 4294967296) hR (by rw [u2_n (by decide)]; exact hdd) (fun k hk => by rw [u2_s, u1_n (by omega)]; exact hs0 k (by omega)) (by omega) (by omega) ?_ l0 l1 l2 l3 l4 l6 (fun lv' c' w' S' q1 q2 q3 q4 q5 q6 q7 q8 => hQ lv' c' w' S' q1 (fun b k hb => by rw [q2 b k (by omega), u2_eq, if_neg (by omega)]) q3 q4 q5 q6 q7 q8)
    rw [hx, u2_s, cvw_set, cvw_s, ec, pow_s, show (((x : Nat) : Int) % 4294967296).toNat = x % 4294967296 by omega, carry_step hv hxn]
    show _ = _ + (cv dd i + cw dd i * 2 ^ (32 * i))
    rw [show cw dd i = cw (S (91 + 1)) i by rw [hdd], Nat.add_mul]
    omega
theorem c_put {j n : Nat} (hR : cR w0 L Z A C B S w) (hn : n ≤ C 91) (hj : j + n < C 89) (hbig : 4294967296 * 2 ^ (32 * n) ≤ cv (fun k => S (89 + 1) (j + k)) (n + 1) + cv (S (91 + 1)) n) : ∃ w' S', xRun d 77 [.ref 86, .int (Int32.ofInt (j : Int)), .int (Int32.ofInt (n : Int))] w (.inl none) w' ∧ cR w0 L Z A C B S' w' ∧ (∀ b k, b ≠ 89 + 1 ∨ k < j ∨ j + n < k → S' b k = S b k) ∧ cv (fun k => S' (89 + 1) (j + k)) (n + 1) + 4294967296 * 2 ^ (32 * n) = cv (fun k => S (89 + 1) (j + k)) (n + 1) + cv (S (91 + 1)) n := by
  have hcap := hR.cap k89
  have hcap2 := hR.cap k91
  have key : ∀ lv, xld lv 0 = some (.ref 86) → xld lv 1 = some (.int (Int32.ofInt (j : Int))) → xld lv 2 = some (.int (Int32.ofInt (n : Int))) → xEv d 77 0 lv [] w (fun o w' => ∃ S', o = .inl none ∧ cR w0 L Z A C B S' w' ∧ (∀ b k, b ≠ 89 + 1 ∨ k < j ∨ j + n < k → S' b k = S b k) ∧ cv (fun k => S' (89 + 1) (j + k)) (n + 1) + 4294967296 * 2 ^ (32 * n) = cv (fun k => S (89 + 1) (j + k)) (n + 1) + cv (S (91 + 1)) n) := by
    intro lv l0 l1 l2
    refine i_77_0 (x := 86) l0 ?_
    refine i_77_1 (v := Value.ref 89) hR.dvn rfl ?_
    refine i_77_4 (v := Value.ref (A 89)) (hR.n3 k89) rfl ?_
    refine i_77_7 rfl ?_
    refine lgen1 (i := 3) (v := Value.ref (A 89)) (fun lv lg ls => ?_)
    replace l0 := lg 0 _ rfl rfl l0
    replace l1 := lg 1 _ rfl rfl l1
    replace l2 := lg 2 _ rfl rfl l2
    have l3 := ls
    refine i_77_8 ?_
    refine i_77_9 rfl ?_
    refine lgen2 (i := 4) (v := Value.long 0) (fun lv lg ls => ?_)
    replace l3 := lg 3 _ rfl rfl l3
    replace l0 := lg 0 _ rfl rfl l0
    replace l1 := lg 1 _ rfl rfl l1
    replace l2 := lg 2 _ rfl rfl l2
    have l4 := ls
    refine i_77_11 ?_
    refine i_77_12 rfl ?_
    refine lgen1 (i := 6) (v := Value.int 0) (fun lv lg ls => ?_)
    replace l4 := lg 4 _ rfl rfl l4
    replace l3 := lg 3 _ rfl rfl l3
    replace l0 := lg 0 _ rfl rfl l0
    replace l1 := lg 1 _ rfl rfl l1
    replace l2 := lg 2 _ rfl rfl l2
    have l6 := ls
    refine pb_loop (s0 := S (89 + 1)) (dd := S (91 + 1)) hn hj n (i := 0) (c := 0) hR rfl (fun _ _ => rfl) (by decide) (by omega) ?_ l0 l1 l2 l3 l4 l6 (fun lv c' w S' hR q2 q3 hv l1 l2 l3 l4 => ?_)
    · show 0 + 0 * _ = 0 + 0
      rw [Nat.zero_mul]
    · refine i_77_74 (x := A 89) l3 ?_
      refine i_77_75 (x := Int32.ofInt (j : Int)) l1 ?_
      refine i_77_76 (x := Int32.ofInt (n : Int)) l2 ?_
      refine i_77_77 (c := Int32.ofInt ((j : Int) + (n : Int))) (o_add (j : Int) (n : Int)) ?_
      refine i_77_78 rfl rfl ?_
      refine i_77_79 (v := Value.int (Int32.ofInt (S' (89 + 1) (j + n)))) (hR.w3 k89) (ix0 (T := (j : Int) + (n : Int)) (by omega) (by omega)) (ix1 (T := (j : Int) + (n : Int)) (by omega) (by omega) (by omega)) (ra (T := (j : Int) + (n : Int)) (by omega) (by omega) (congrArg _ (by omega))) ?_
      refine i_77_80 (x := Int64.ofInt ((c' : Nat) : Int)) l4 ?_
      refine i_77_82 (c := Int32.ofInt ((c' : Nat) : Int)) (q_l2i ((c' : Nat) : Int)) ?_
      refine i_77_83 (c := Int32.ofInt ((S' (89 + 1) (j + n)) + ((c' : Nat) : Int))) (o_add (S' (89 + 1) (j + n)) ((c' : Nat) : Int)) ?_
      refine i_77_84 (hR.w3 k89) (ix0 (T := (j : Int) + (n : Int)) (by omega) (by omega)) (ix1 (T := (j : Int) + (n : Int)) (by omega) (by omega) (by omega)) (hR.apart k89).2.2.2.2.1 rfl ?_
      rw [ixn (T := (j : Int) + (n : Int)) (by omega) (by omega), show ((j : Int) + (n : Int)).toNat = j + n from (by omega)]
      refine xgen (P := cR w0 L Z A C B (u2 S' (89 + 1) (j + n) ((S' (89 + 1) (j + n)) + ((c' : Nat) : Int)))) (hR.arr k89 rfl) (fun w hR => ?_)
      refine i_77_85 ?_
      refine ⟨_, rfl, hR, fun b k hb => by rw [u2_eq, if_neg (by omega), q2 b k (by omega)], ?_⟩
      rw [u2_s, cvw_set]
      have hlt : cv (fun k => S' (89 + 1) (j + k)) n < 2 ^ (32 * n) := cv_lt
      have ew : cw (S' (89 + 1)) (j + n) = cw (S (89 + 1)) (j + n) := by unfold cw; rw [q2 _ _ (by omega)]
      have es : cv (fun k => S (89 + 1) (j + k)) (n + 1) = cv (fun k => S (89 + 1) (j + k)) n + cw (S (89 + 1)) (j + n) * 2 ^ (32 * n) := rfl
      have dl : cw (S (89 + 1)) (j + n) < 4294967296 := cw_lt
      have e5 : (S' (89 + 1) (j + n) + ((c' : Nat) : Int)) % 4294967296 = (((cw (S (89 + 1)) (j + n) + c') % 4294967296 : Nat) : Int) := by
        rw [← ew]
        have e6 : cw (S' (89 + 1)) (j + n) = (S' (89 + 1) (j + n) % 4294967296).toNat := rfl
        omega
      rw [e5, Int.toNat_natCast]
      rw [es] at hbig ⊢
      generalize cw (S (89 + 1)) (j + n) = r at dl hbig ⊢
      generalize 2 ^ (32 * n) = P at hlt hv hbig ⊢
      have hbr : 4294967296 ≤ r + c' := by
        rcases Nat.lt_or_ge (r + c') 4294967296 with g | g
        · have h1 : (r + c' + 1) * P ≤ 4294967296 * P := Nat.mul_le_mul_right _ g
          rw [Nat.add_mul, Nat.add_mul, Nat.one_mul] at h1
          omega
        · exact g
      obtain ⟨x, hx⟩ : ∃ x, r + c' = x + 4294967296 := ⟨r + c' - 4294967296, by omega⟩
      rw [hx, show (x + 4294967296) % 4294967296 = x by omega]
      have h2 : (r + c') * P = x * P + 4294967296 * P := by rw [hx, Nat.add_mul]
      rw [Nat.add_mul] at h2
      omega
  obtain ⟨o, w', h1, S', rfl, h2⟩ := (key (lv_args 0 [.ref 86, .int (Int32.ofInt (j : Int)), .int (Int32.ofInt (n : Int))]) rfl rfl rfl).run
  exact ⟨w', S', h1, h2⟩
end
