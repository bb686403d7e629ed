/-! reading: takeExponent, understands -/
def wrd (t : Nat → Int) (a n : Nat) (x y z : Int) : Bool := decide (n = a + 3 ∧ t a = x ∧ t (a + 1) = y ∧ t (a + 2) = z)
/-- what isWord does with the string at h -/
def wrdC (w0 : xW) (h : Nat) (x y z : Int) : Prop := ∀ (d L Z : Nat) (S : Nat → Nat → Int) (V : Nat → Nat) (w : xW) (a n : Nat), cX w0 L Z S V w → (∀ j, -128 ≤ S 29 j ∧ S 29 j ≤ 127) → n ≤ 4096 → a ≤ n → xRun (d + 5) 144 [Value.ref 29, Value.int (Int32.ofInt (a : Int)), Value.int (Int32.ofInt (n : Int)), Value.ref h] w (.inl (some (.int (Int32.ofInt (bb (wrd (S 29) a n x y z)))))) w
def unS2 (t : Nat → Int) (n : Nat) (sg : Int) (r : Nat × Nat × Nat × Nat) : Option (Int × Int × Nat × Int) :=
  if r.2.1 = 0 then none else if r.1 < n then (match exS t n r.1 with | none => none | some x => some (if r.2.2.2 = 0 then 2 else 3, sg, r.2.2.2, -((r.2.2.1 : Nat) : Int) + x)) else some (if r.2.2.2 = 0 then 2 else 3, sg, r.2.2.2, -((r.2.2.1 : Nat) : Int))
def unS1 (t : Nat → Int) (rx n a : Nat) (sg : Int) : Option (Int × Int × Nat × Int) := if wrd t a n 105 110 102 = true then some (1, sg, 0, 0) else unS2 t n sg (rdS t rx n (n - a) a 0 0 0 0)
/-- a text: its kind, sign, digits and shift -/
def unS (t : Nat → Int) (rx n : Nat) : Option (Int × Int × Nat × Int) :=
  if wrd t 0 n 110 97 110 = true then some (0, 0, 0, 0)
  else if 0 < n ∧ t 0 = 45 then unS1 t rx n 1 1 else if 0 < n ∧ t 0 = 43 then unS1 t rx n 1 0 else unS1 t rx n 0 0
theorem rdE_b {t : Nat → Int} {n : Nat} : ∀ (f a e : Nat) {x : Nat}, e ≤ 1000000 → rdE t n f a e = some x → x ≤ 1000000
  | 0, _, e, x, he, h => by
    rw [rdE] at h
    injection h with h
    omega
  | f + 1, a, e, x, he, h => by
    rw [rdE] at h
    split at h
    · injection h with h
      omega
    · split at h
      · exact absurd h (by simp)
      · exact rdE_b f _ _ (by omega) h
theorem exS_b {t : Nat → Int} {n a : Nat} {x : Int} (h : exS t n a = some x) : -1000000 ≤ x ∧ x ≤ 1000000 := by
  unfold exS at h
  split at h
  · exact absurd h (by simp)
  · split at h
    · split at h
      · exact absurd h (by simp)
      · rw [Option.map_eq_some_iff] at h
        obtain ⟨e, h1, h2⟩ := h
        have := rdE_b _ _ _ (by omega) h1
        split at h2 <;> omega
    · split at h
      · exact absurd h (by simp)
      · rw [Option.map_eq_some_iff] at h
        obtain ⟨e, h1, h2⟩ := h
        have := rdE_b _ _ _ (by omega) h1
        omega
section
variable {w0 w : xW} {L Z : Nat} {S : Nat → Nat → Int} {V : Nat → Nat} {d rx n a0 : Nat}
set_option maxHeartbeats 4000000 in
theorem x_te (hR : cX w0 L Z S V w) (hB : ∀ j, -128 ≤ S 29 j ∧ S 29 j ≤ 127) (hn : n ≤ 4096) (ha0 : a0 < n) : ∃ w', xRun (d + 3) 148 [Value.ref 108, Value.ref 29, Value.int (Int32.ofInt (a0 : Int)), Value.int (Int32.ofInt (n : Int))] w (.inl (some (.int (Int32.ofInt (bb (exS (S 29) n a0).isSome))))) w' ∧ ∃ S', cX w0 L Z S' V w' ∧ exQ S S' (exS (S 29) n a0) := by
  have key : ∀ lv, xld lv 0 = some (Value.ref 108) → xld lv 1 = some (Value.ref 29) → xld lv 2 = some (Value.int (Int32.ofInt (a0 : Int))) → xld lv 3 = some (Value.int (Int32.ofInt (n : Int))) → xEv (d + 3) 148 0 lv [] w (fun o w' => o = .inl (some (.int (Int32.ofInt (bb (exS (S 29) n a0).isSome)))) ∧ ∃ S', cX w0 L Z S' V w' ∧ exQ S S' (exS (S 29) n a0)) := by
    intro lv l0 l1 l2 l3
    obtain ⟨t0, ht0d⟩ : ∃ t0, t0 = S 29 a0 := ⟨_, rfl⟩
    obtain ⟨t1, ht1d⟩ : ∃ t1, t1 = S 29 (a0 + 1) := ⟨_, rfl⟩
    have ht0 : -128 ≤ t0 ∧ t0 ≤ 127 := by rw [ht0d]; exact hB a0
    have ht1 : -128 ≤ t1 ∧ t1 ≤ 127 := by rw [ht1d]; exact hB _
    have et0 : S 29 ((a0 : Int)).toNat = t0 := ht0d.symm
    have et1 : S 29 ((a0 : Int) + 1).toNat = t1 := by rw [ht1d]; congr 1
    refine i_148_0 (x := Int32.ofInt (a0 : Int)) l2 ?_
    refine i_148_1 ?_
    refine i_148_2 (c := Int32.ofInt ((a0 : Int) + 1)) (o_add (a0 : Int) 1) ?_
    refine i_148_3 rfl ?_
    refine lgen1 (i := 4) (v := Value.int (Int32.ofInt ((a0 : Int) + 1))) (fun lv lg ls => ?_)
    replace l0 := lg 0 _ rfl rfl l0
    replace l1 := lg 1 _ rfl rfl l1
    replace l2 := lg 2 _ rfl rfl l2
    replace l3 := lg 3 _ rfl rfl l3
    have l4 := ls
    refine i_148_5 ?_
    refine i_148_6 rfl ?_
    refine lgen1 (i := 5) (v := Value.int 0) (fun lv lg ls => ?_)
    replace l4 := lg 4 _ rfl rfl l4
    replace l0 := lg 0 _ rfl rfl l0
    replace l1 := lg 1 _ rfl rfl l1
    replace l2 := lg 2 _ rfl rfl l2
    replace l3 := lg 3 _ rfl rfl l3
    have l5 := ls
    refine i_148_8 (x := 29) l1 ?_
    refine i_148_9 (x := Int32.ofInt (a0 : Int)) l2 ?_
    refine i_148_10 (v := Value.int (Int32.ofInt (S 29 ((a0 : Int)).toNat))) (hR.bytes (a := 29) (n := 4096) (by omega)) (ix0 (T := (a0 : Int)) (by omega) (by omega)) (ix1 (T := (a0 : Int)) (by omega) (by omega) (by omega)) (ra (T := (a0 : Int)) (by omega) (by omega) rfl) ?_
    rw [et0]
    refine i_148_11 ?_
    refine i_148_13 (b_eq (a := t0) (b := 64) ⟨by omega, by omega⟩ ⟨by decide, by decide⟩ fun c0 => ?_) (b_ne (a := t0) (b := 64) ⟨by omega, by omega⟩ ⟨by decide, by decide⟩ fun c0 => ?_)
    · refine i_148_18 (x := Int32.ofInt ((a0 : Int) + 1)) l4 ?_
      refine i_148_20 (x := Int32.ofInt (n : Int)) l3 ?_
      refine i_148_21 (b_le (a := (n : Int)) (b := (a0 : Int) + 1) ⟨by omega, by omega⟩ ⟨by omega, by omega⟩ fun c1 => ?_) (b_lt (a := (a0 : Int) + 1) (b := (n : Int)) ⟨by omega, by omega⟩ ⟨by omega, by omega⟩ fun c1 => ?_)
      · refine i_148_53 (x := Int32.ofInt ((a0 : Int) + 1)) l4 ?_
        refine i_148_55 (x := Int32.ofInt (n : Int)) l3 ?_
        refine i_148_56 (b_lt (a := (a0 : Int) + 1) (b := (n : Int)) ⟨by omega, by omega⟩ ⟨by omega, by omega⟩ fun c2 => absurd c2 (by omega)) (b_le (a := (n : Int)) (b := (a0 : Int) + 1) ⟨by omega, by omega⟩ ⟨by omega, by omega⟩ fun c2 => ?_)
        refine i_148_59 ?_
        refine i_148_60 rfl ?_
        have e0 : exS (S 29) n a0 = none := by
          unfold exS
          first | rw [if_pos (show S 29 a0 ≠ 64 by rw [← ht0d]; omega)] | (rw [if_neg (show ¬ S 29 a0 ≠ 64 by rw [← ht0d]; omega)]; first | rw [if_pos (show a0 + 1 < n ∧ (S 29 (a0 + 1) = 43 ∨ S 29 (a0 + 1) = 45) by rw [← ht1d]; simp at *; omega), if_pos (by omega)] | rw [if_neg (show ¬ (a0 + 1 < n ∧ (S 29 (a0 + 1) = 43 ∨ S 29 (a0 + 1) = 45)) by rw [← ht1d]; simp at *; omega), if_pos (by omega)])
        rw [e0]
        exact ⟨rfl, S, hR, rfl⟩
      · refine i_148_24 (x := 29) l1 ?_
        refine i_148_25 (x := Int32.ofInt ((a0 : Int) + 1)) l4 ?_
        refine i_148_27 (v := Value.int (Int32.ofInt (S 29 ((a0 : Int) + 1).toNat))) (hR.bytes (a := 29) (n := 4096) (by omega)) (ix0 (T := (a0 : Int) + 1) (by omega) (by omega)) (ix1 (T := (a0 : Int) + 1) (by omega) (by omega) (by omega)) (ra (T := (a0 : Int) + 1) (by omega) (by omega) rfl) ?_
        rw [et1]
        have hrun := x_sig (d := d + 2) (w := w) (c := t1) ht1
        refine i_148_28 (Nat.le_of_ble_eq_true rfl) hrun ?_
        refine i_148_31 (zb_f fun c3 => ?_) (zb_t fun c3 => ?_)
        · refine i_148_53 (x := Int32.ofInt ((a0 : Int) + 1)) l4 ?_
          refine i_148_55 (x := Int32.ofInt (n : Int)) l3 ?_
          refine i_148_56 (b_lt (a := (a0 : Int) + 1) (b := (n : Int)) ⟨by omega, by omega⟩ ⟨by omega, by omega⟩ fun c4 => ?_) (b_le (a := (n : Int)) (b := (a0 : Int) + 1) ⟨by omega, by omega⟩ ⟨by omega, by omega⟩ fun c4 => absurd c4 (by omega))
          refine i_148_61 ?_
          refine i_148_62 rfl ?_
          refine lgen1 (i := 6) (v := Value.int 0) (fun lv lg ls => ?_)
          replace l5 := lg 5 _ rfl rfl l5
          replace l4 := lg 4 _ rfl rfl l4
          replace l0 := lg 0 _ rfl rfl l0
          replace l1 := lg 1 _ rfl rfl l1
          replace l2 := lg 2 _ rfl rfl l2
          replace l3 := lg 3 _ rfl rfl l3
          have l6 := ls
          have e0 : exS (S 29) n a0 = (rdE (S 29) n (n - (a0 + 1)) (a0 + 1) 0).map (fun (e : Nat) => (e : Int)) := by
            unfold exS
            rw [if_neg (show ¬ S 29 a0 ≠ 64 by rw [← ht0d]; omega), if_neg (show ¬ (a0 + 1 < n ∧ (S 29 (a0 + 1) = 43 ∨ S 29 (a0 + 1) = 45)) by rw [← ht1d]; simp at *; omega), if_neg (by omega)]
          rw [show (a0 : Int) + 1 = ((a0 + 1 : Nat) : Int) by omega] at l4
          rw [e0]
          refine te_loop (d := d) (dn := 0) hB hn (by decide) (n - (a0 + 1)) (a0 + 1) 0 (by omega) (by decide) hR l0 l1 l3 l4 l5 l6 (fun hx w hR => ?_) (fun x hx w hR => ?_)
          · rw [hx]
            exact ⟨rfl, S, hR, rfl⟩
          · rw [hx]
            refine ⟨rfl, _, hR, ?_⟩
            show _ = u2 S 108 8 (S 108 8 + _)
            dsimp only
            rw [if_pos (by decide)]
        · refine i_148_34 (x := 29) l1 ?_
          refine i_148_35 (x := Int32.ofInt ((a0 : Int) + 1)) l4 ?_
          refine i_148_37 (v := Value.int (Int32.ofInt (S 29 ((a0 : Int) + 1).toNat))) (hR.bytes (a := 29) (n := 4096) (by omega)) (ix0 (T := (a0 : Int) + 1) (by omega) (by omega)) (ix1 (T := (a0 : Int) + 1) (by omega) (by omega) (by omega)) (ra (T := (a0 : Int) + 1) (by omega) (by omega) rfl) ?_
          rw [et1]
          refine i_148_38 ?_
          refine i_148_40 (b_ne (a := t1) (b := 45) ⟨by omega, by omega⟩ ⟨by decide, by decide⟩ fun c5 => ?_) (b_eq (a := t1) (b := 45) ⟨by omega, by omega⟩ ⟨by decide, by decide⟩ fun c5 => ?_)
          · refine i_148_47 ?_
            refine i_148_48 rfl ?_
            refine lgen1 (i := 5) (v := Value.int 0) (fun lv lg ls => ?_)
            replace l4 := lg 4 _ rfl rfl l4
            replace l0 := lg 0 _ rfl rfl l0
            replace l1 := lg 1 _ rfl rfl l1
            replace l2 := lg 2 _ rfl rfl l2
            replace l3 := lg 3 _ rfl rfl l3
            have l5 := ls
            refine i_148_50 (x := (Int32.ofInt ((a0 : Int) + 1))) (c := (Int32.ofInt ((a0 : Int) + 1 + 1))) l4 (o_add ((a0 : Int) + 1) 1) rfl ?_
            refine lgen1 (i := 4) (v := Value.int (Int32.ofInt ((a0 : Int) + 1 + 1))) (fun lv lg ls => ?_)
            replace l5 := lg 5 _ rfl rfl l5
            replace l0 := lg 0 _ rfl rfl l0
            replace l1 := lg 1 _ rfl rfl l1
            replace l2 := lg 2 _ rfl rfl l2
            replace l3 := lg 3 _ rfl rfl l3
            have l4 := ls
            refine i_148_53 (x := Int32.ofInt ((a0 : Int) + 1 + 1)) l4 ?_
            refine i_148_55 (x := Int32.ofInt (n : Int)) l3 ?_
            refine i_148_56 (b_lt (a := (a0 : Int) + 1 + 1) (b := (n : Int)) ⟨by omega, by omega⟩ ⟨by omega, by omega⟩ fun c6 => ?_) (b_le (a := (n : Int)) (b := (a0 : Int) + 1 + 1) ⟨by omega, by omega⟩ ⟨by omega, by omega⟩ fun c6 => ?_)
            · refine i_148_61 ?_
              refine i_148_62 rfl ?_
              refine lgen1 (i := 6) (v := Value.int 0) (fun lv lg ls => ?_)
              replace l4 := lg 4 _ rfl rfl l4
              replace l5 := lg 5 _ rfl rfl l5
              replace l0 := lg 0 _ rfl rfl l0
              replace l1 := lg 1 _ rfl rfl l1
              replace l2 := lg 2 _ rfl rfl l2
              replace l3 := lg 3 _ rfl rfl l3
              have l6 := ls
              have e0 : exS (S 29) n a0 = (rdE (S 29) n (n - (a0 + 2)) (a0 + 2) 0).map (fun (e : Nat) => if S 29 (a0 + 1) = 45 then -(e : Int) else (e : Int)) := by
                unfold exS
                rw [if_neg (show ¬ S 29 a0 ≠ 64 by rw [← ht0d]; omega), if_pos (show a0 + 1 < n ∧ (S 29 (a0 + 1) = 43 ∨ S 29 (a0 + 1) = 45) by rw [← ht1d]; simp at *; omega), if_neg (by omega)]
              rw [show (a0 : Int) + 1 + 1 = ((a0 + 2 : Nat) : Int) by omega] at l4
              rw [e0]
              refine te_loop (d := d) (dn := 0) hB hn (by decide) (n - (a0 + 2)) (a0 + 2) 0 (by omega) (by decide) hR l0 l1 l3 l4 l5 l6 (fun hx w hR => ?_) (fun x hx w hR => ?_)
              · rw [hx]
                exact ⟨rfl, S, hR, rfl⟩
              · rw [hx]
                refine ⟨rfl, _, hR, ?_⟩
                show _ = u2 S 108 8 (S 108 8 + _)
                dsimp only
                rw [if_pos (by decide), if_neg (by rw [← ht1d]; omega)]
            · refine i_148_59 ?_
              refine i_148_60 rfl ?_
              have e0 : exS (S 29) n a0 = none := by
                unfold exS
                first | rw [if_pos (show S 29 a0 ≠ 64 by rw [← ht0d]; omega)] | (rw [if_neg (show ¬ S 29 a0 ≠ 64 by rw [← ht0d]; omega)]; first | rw [if_pos (show a0 + 1 < n ∧ (S 29 (a0 + 1) = 43 ∨ S 29 (a0 + 1) = 45) by rw [← ht1d]; simp at *; omega), if_pos (by omega)] | rw [if_neg (show ¬ (a0 + 1 < n ∧ (S 29 (a0 + 1) = 43 ∨ S 29 (a0 + 1) = 45)) by rw [← ht1d]; simp at *; omega), if_pos (by omega)])
              rw [e0]
              exact ⟨rfl, S, hR, rfl⟩
          · refine i_148_43 ?_
            refine i_148_44 ?_
            refine i_148_48 rfl ?_
            refine lgen1 (i := 5) (v := Value.int 1) (fun lv lg ls => ?_)
            replace l4 := lg 4 _ rfl rfl l4
            replace l0 := lg 0 _ rfl rfl l0
            replace l1 := lg 1 _ rfl rfl l1
            replace l2 := lg 2 _ rfl rfl l2
            replace l3 := lg 3 _ rfl rfl l3
            have l5 := ls
            refine i_148_50 (x := (Int32.ofInt ((a0 : Int) + 1))) (c := (Int32.ofInt ((a0 : Int) + 1 + 1))) l4 (o_add ((a0 : Int) + 1) 1) rfl ?_
            refine lgen1 (i := 4) (v := Value.int (Int32.ofInt ((a0 : Int) + 1 + 1))) (fun lv lg ls => ?_)
            replace l5 := lg 5 _ rfl rfl l5
            replace l0 := lg 0 _ rfl rfl l0
            replace l1 := lg 1 _ rfl rfl l1
            replace l2 := lg 2 _ rfl rfl l2
            replace l3 := lg 3 _ rfl rfl l3
            have l4 := ls
            refine i_148_53 (x := Int32.ofInt ((a0 : Int) + 1 + 1)) l4 ?_
            refine i_148_55 (x := Int32.ofInt (n : Int)) l3 ?_
            refine i_148_56 (b_lt (a := (a0 : Int) + 1 + 1) (b := (n : Int)) ⟨by omega, by omega⟩ ⟨by omega, by omega⟩ fun c7 => ?_) (b_le (a := (n : Int)) (b := (a0 : Int) + 1 + 1) ⟨by omega, by omega⟩ ⟨by omega, by omega⟩ fun c7 => ?_)
            · refine i_148_61 ?_
              refine i_148_62 rfl ?_
              refine lgen1 (i := 6) (v := Value.int 0) (fun lv lg ls => ?_)
              replace l4 := lg 4 _ rfl rfl l4
              replace l5 := lg 5 _ rfl rfl l5
              replace l0 := lg 0 _ rfl rfl l0
              replace l1 := lg 1 _ rfl rfl l1
              replace l2 := lg 2 _ rfl rfl l2
              replace l3 := lg 3 _ rfl rfl l3
              have l6 := ls
              have e0 : exS (S 29) n a0 = (rdE (S 29) n (n - (a0 + 2)) (a0 + 2) 0).map (fun (e : Nat) => if S 29 (a0 + 1) = 45 then -(e : Int) else (e : Int)) := by
                unfold exS
                rw [if_neg (show ¬ S 29 a0 ≠ 64 by rw [← ht0d]; omega), if_pos (show a0 + 1 < n ∧ (S 29 (a0 + 1) = 43 ∨ S 29 (a0 + 1) = 45) by rw [← ht1d]; simp at *; omega), if_neg (by omega)]
              rw [show (a0 : Int) + 1 + 1 = ((a0 + 2 : Nat) : Int) by omega] at l4
              rw [e0]
              refine te_loop (d := d) (dn := 1) hB hn (by decide) (n - (a0 + 2)) (a0 + 2) 0 (by omega) (by decide) hR l0 l1 l3 l4 l5 l6 (fun hx w hR => ?_) (fun x hx w hR => ?_)
              · rw [hx]
                exact ⟨rfl, S, hR, rfl⟩
              · rw [hx]
                refine ⟨rfl, _, hR, ?_⟩
                show _ = u2 S 108 8 (S 108 8 + _)
                dsimp only
                rw [if_neg (by decide), if_pos (by rw [← ht1d]; omega)]
            · refine i_148_59 ?_
              refine i_148_60 rfl ?_
              have e0 : exS (S 29) n a0 = none := by
                unfold exS
                first | rw [if_pos (show S 29 a0 ≠ 64 by rw [← ht0d]; omega)] | (rw [if_neg (show ¬ S 29 a0 ≠ 64 by rw [← ht0d]; omega)]; first | rw [if_pos (show a0 + 1 < n ∧ (S 29 (a0 + 1) = 43 ∨ S 29 (a0 + 1) = 45) by rw [← ht1d]; simp at *; omega), if_pos (by omega)] | rw [if_neg (show ¬ (a0 + 1 < n ∧ (S 29 (a0 + 1) = 43 ∨ S 29 (a0 + 1) = 45)) by rw [← ht1d]; simp at *; omega), if_pos (by omega)])
              rw [e0]
              exact ⟨rfl, S, hR, rfl⟩
    · refine i_148_16 ?_
      refine i_148_17 rfl ?_
      have e0 : exS (S 29) n a0 = none := by
        unfold exS
        first | rw [if_pos (show S 29 a0 ≠ 64 by rw [← ht0d]; omega)] | (rw [if_neg (show ¬ S 29 a0 ≠ 64 by rw [← ht0d]; omega)]; first | rw [if_pos (show a0 + 1 < n ∧ (S 29 (a0 + 1) = 43 ∨ S 29 (a0 + 1) = 45) by rw [← ht1d]; simp at *; omega), if_pos (by omega)] | rw [if_neg (show ¬ (a0 + 1 < n ∧ (S 29 (a0 + 1) = 43 ∨ S 29 (a0 + 1) = 45)) by rw [← ht1d]; simp at *; omega), if_pos (by omega)])
      rw [e0]
      exact ⟨rfl, S, hR, rfl⟩
  obtain ⟨o, w', h1, rfl, h2⟩ := (key (lv_args 0 [Value.ref 108, Value.ref 29, Value.int (Int32.ofInt (a0 : Int)), Value.int (Int32.ofInt (n : Int))]) rfl rfl rfl rfl).run
  exact ⟨w', h1, h2⟩
end
