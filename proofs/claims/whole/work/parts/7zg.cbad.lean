/-! the class refuses bad arguments -/
section
variable {w0 w : xW} {L Z : Nat} {S : Nat → Nat → Int} {V : Nat → Nat} {d h t r : Nat}
theorem x_noRow0 {f n : Int} (b_f : -2147483648 ≤ f ∧ f < 2147483648) (b_n : -2147483648 ≤ n ∧ n < 2147483648) : xRun (d + 1) 113 [Value.int (Int32.ofInt f), Value.int (Int32.ofInt n)] w (.inl (some (.int (Int32.ofInt (bb (!decide (0 ≤ f ∧ f ≤ 15 ∧ 1 ≤ n ∧ n ≤ 16 ∧ f + n ≤ 16))))))) w := by
  have key : ∀ lv, xld lv 0 = some (Value.int (Int32.ofInt f)) → xld lv 1 = some (Value.int (Int32.ofInt n)) → xEv (d + 1) 113 0 lv [] w (fun o w' => o = .inl (some (.int (Int32.ofInt (bb (!decide (0 ≤ f ∧ f ≤ 15 ∧ 1 ≤ n ∧ n ≤ 16 ∧ f + n ≤ 16)))))) ∧ w' = w) := by
    intro lv l0 l1
    refine i_113_0 (x := Int32.ofInt f) l0 ?_
    have hrun := x_noReg (d := d) (w := w) (r := f) b_f
    refine i_113_1 (Nat.le_of_ble_eq_true rfl) hrun ?_
    refine i_113_4 (zb_t fun c0 => ?_) (zb_f fun c0 => ?_)
    · refine i_113_26 ?_
      refine i_113_27 ?_
      refine i_113_31 rfl ?_
      refine ⟨?_, rfl⟩
      rw [show (!decide (0 ≤ f ∧ f ≤ 15 ∧ 1 ≤ n ∧ n ≤ 16 ∧ f + n ≤ 16)) = true from by simp at *; omega]
      rfl
    · refine i_113_7 (x := Int32.ofInt n) l1 ?_
      refine i_113_8 ?_
      refine i_113_9 (b_lt (a := n) (b := 1) ⟨by (first | omega | (simp at *; omega)), by (first | omega | (simp at *; omega))⟩ ⟨by decide, by decide⟩ fun c1 => ?_) (b_le (a := 1) (b := n) ⟨by decide, by decide⟩ ⟨by (first | omega | (simp at *; omega)), by (first | omega | (simp at *; omega))⟩ fun c1 => ?_)
      · refine i_113_26 ?_
        refine i_113_27 ?_
        refine i_113_31 rfl ?_
        refine ⟨?_, rfl⟩
        rw [show (!decide (0 ≤ f ∧ f ≤ 15 ∧ 1 ≤ n ∧ n ≤ 16 ∧ f + n ≤ 16)) = true from by simp at *; omega]
        rfl
      · refine i_113_12 (x := Int32.ofInt n) l1 ?_
        refine i_113_13 ?_
        refine i_113_15 (b_lt (a := 16) (b := n) ⟨by decide, by decide⟩ ⟨by (first | omega | (simp at *; omega)), by (first | omega | (simp at *; omega))⟩ fun c2 => ?_) (b_le (a := n) (b := 16) ⟨by (first | omega | (simp at *; omega)), by (first | omega | (simp at *; omega))⟩ ⟨by decide, by decide⟩ fun c2 => ?_)
        · refine i_113_26 ?_
          refine i_113_27 ?_
          refine i_113_31 rfl ?_
          refine ⟨?_, rfl⟩
          rw [show (!decide (0 ≤ f ∧ f ≤ 15 ∧ 1 ≤ n ∧ n ≤ 16 ∧ f + n ≤ 16)) = true from by simp at *; omega]
          rfl
        · refine i_113_18 (x := Int32.ofInt f) l0 ?_
          refine i_113_19 (x := Int32.ofInt n) l1 ?_
          refine i_113_20 (c := Int32.ofInt (f + n)) (o_add f n) ?_
          refine i_113_21 ?_
          refine i_113_23 (b_le (a := f + n) (b := 16) ⟨by (first | omega | (simp at *; omega)), by (first | omega | (simp at *; omega))⟩ ⟨by decide, by decide⟩ fun c3 => ?_) (b_lt (a := 16) (b := f + n) ⟨by decide, by decide⟩ ⟨by (first | omega | (simp at *; omega)), by (first | omega | (simp at *; omega))⟩ fun c3 => ?_)
          · refine i_113_30 ?_
            refine i_113_31 rfl ?_
            refine ⟨?_, rfl⟩
            rw [show (!decide (0 ≤ f ∧ f ≤ 15 ∧ 1 ≤ n ∧ n ≤ 16 ∧ f + n ≤ 16)) = false from by simp at *; omega]
            rfl
          · refine i_113_26 ?_
            refine i_113_27 ?_
            refine i_113_31 rfl ?_
            refine ⟨?_, rfl⟩
            rw [show (!decide (0 ≤ f ∧ f ≤ 15 ∧ 1 ≤ n ∧ n ≤ 16 ∧ f + n ≤ 16)) = true from by simp at *; omega]
            rfl
  obtain ⟨o, w', h1, rfl, rfl⟩ := (key (lv_args 0 [Value.int (Int32.ofInt f), Value.int (Int32.ofInt n)]) rfl rfl).run
  exact h1
theorem b_cprec {r p : Int} (hR : cX w0 L Z S V w) (b_r : -2147483648 ≤ r ∧ r < 2147483648) (b_p : -2147483648 ≤ p ∧ p < 2147483648) (h : ¬ ((0 ≤ r ∧ r ≤ 15) ∧ (2 ≤ p ∧ p ≤ 4096))) : ∃ w1, xRun (d + 8) 14 [Value.ref 7, Value.int (Int32.ofInt r), Value.int (Int32.ofInt p)] w (.inr w1.length) (w1 ++ [.inr (14, [])]) ∧ w1 = w := by
  have key : ∀ lv, xld lv 0 = some (Value.ref 7) → xld lv 1 = some (Value.int (Int32.ofInt r)) → xld lv 2 = some (Value.int (Int32.ofInt p)) → xEv (d + 8) 14 0 lv [] w (fun o w' => ∃ w1, o = .inr w1.length ∧ w' = w1 ++ [.inr (14, [])] ∧ w1 = w) := by
    intro lv l0 l1 l2
    refine i_14_0 (x := Int32.ofInt r) l1 ?_
    have hrun := x_noReg (d := d + 7) (w := w) (r := r) b_r
    refine i_14_1 (Nat.le_of_ble_eq_true rfl) hrun ?_
    refine i_14_4 (zb_t fun c0 => ?_) (zb_f fun c0 => ?_)
    · refine i_14_19 (by omega) (Nat.le_of_ble_eq_true rfl) ?_
      exact ⟨w, rfl, rfl, rfl⟩
    · refine i_14_7 (x := Int32.ofInt p) l2 ?_
      refine i_14_8 ?_
      refine i_14_9 (b_lt (a := p) (b := 2) ⟨by omega, by omega⟩ ⟨by decide, by decide⟩ fun c1 => ?_) (b_le (a := 2) (b := p) ⟨by decide, by decide⟩ ⟨by omega, by omega⟩ fun c1 => ?_)
      · refine i_14_19 (by omega) (Nat.le_of_ble_eq_true rfl) ?_
        exact ⟨w, rfl, rfl, rfl⟩
      · refine i_14_12 (x := Int32.ofInt p) l2 ?_
        refine i_14_13 ?_
        refine i_14_16 (b_le (a := p) (b := 4096) ⟨by omega, by omega⟩ ⟨by decide, by decide⟩ fun c2 => ?_) (b_lt (a := 4096) (b := p) ⟨by decide, by decide⟩ ⟨by omega, by omega⟩ fun c2 => ?_)
        · exfalso
          clear hR
          (try simp only [Bool.or_eq_false_iff, decide_eq_false_iff_not, Bool.or_eq_true, decide_eq_true_eq, Bool.not_eq_true', Bool.not_eq_false'] at *)
          omega
        · refine i_14_19 (by omega) (Nat.le_of_ble_eq_true rfl) ?_
          exact ⟨w, rfl, rfl, rfl⟩
  obtain ⟨o, w', h1, w1, rfl, rfl, h2⟩ := (key (lv_args 0 [Value.ref 7, Value.int (Int32.ofInt r), Value.int (Int32.ofInt p)]) rfl rfl rfl).run
  exact ⟨w1, h1, h2⟩
theorem b_crange {l g s : Int} (hR : cX w0 L Z S V w) (b_l : -2147483648 ≤ l ∧ l < 2147483648) (b_g : -2147483648 ≤ g ∧ g < 2147483648) (b_s : s = 0 ∨ s = 1) (h : ¬ ((-16384 ≤ l ∧ g ≤ 16384 ∧ l ≤ g))) : ∃ w1, xRun (d + 8) 19 [Value.ref 7, Value.int (Int32.ofInt l), Value.int (Int32.ofInt g), Value.int (Int32.ofInt s)] w (.inr w1.length) (w1 ++ [.inr (14, [])]) ∧ w1 = w := by
  have key : ∀ lv, xld lv 0 = some (Value.ref 7) → xld lv 1 = some (Value.int (Int32.ofInt l)) → xld lv 2 = some (Value.int (Int32.ofInt g)) → xld lv 3 = some (Value.int (Int32.ofInt s)) → xEv (d + 8) 19 0 lv [] w (fun o w' => ∃ w1, o = .inr w1.length ∧ w' = w1 ++ [.inr (14, [])] ∧ w1 = w) := by
    intro lv l0 l1 l2 l3
    refine i_19_0 (x := Int32.ofInt l) l1 ?_
    refine i_19_1 ?_
    refine i_19_4 (b_lt (a := l) (b := (-16384)) ⟨by omega, by omega⟩ ⟨by decide, by decide⟩ fun c0 => ?_) (b_le (a := (-16384)) (b := l) ⟨by decide, by decide⟩ ⟨by omega, by omega⟩ fun c0 => ?_)
    · refine i_19_19 (by omega) (Nat.le_of_ble_eq_true rfl) ?_
      exact ⟨w, rfl, rfl, rfl⟩
    · refine i_19_7 (x := Int32.ofInt g) l2 ?_
      refine i_19_8 ?_
      refine i_19_11 (b_lt (a := 16384) (b := g) ⟨by decide, by decide⟩ ⟨by omega, by omega⟩ fun c1 => ?_) (b_le (a := g) (b := 16384) ⟨by omega, by omega⟩ ⟨by decide, by decide⟩ fun c1 => ?_)
      · refine i_19_19 (by omega) (Nat.le_of_ble_eq_true rfl) ?_
        exact ⟨w, rfl, rfl, rfl⟩
      · refine i_19_14 (x := Int32.ofInt l) l1 ?_
        refine i_19_15 (x := Int32.ofInt g) l2 ?_
        refine i_19_16 (b_le (a := l) (b := g) ⟨by omega, by omega⟩ ⟨by omega, by omega⟩ fun c2 => ?_) (b_lt (a := g) (b := l) ⟨by omega, by omega⟩ ⟨by omega, by omega⟩ fun c2 => ?_)
        · exfalso
          clear hR
          (try simp only [Bool.or_eq_false_iff, decide_eq_false_iff_not, Bool.or_eq_true, decide_eq_true_eq, Bool.not_eq_true', Bool.not_eq_false'] at *)
          omega
        · refine i_19_19 (by omega) (Nat.le_of_ble_eq_true rfl) ?_
          exact ⟨w, rfl, rfl, rfl⟩
  obtain ⟨o, w', h1, w1, rfl, rfl, h2⟩ := (key (lv_args 0 [Value.ref 7, Value.int (Int32.ofInt l), Value.int (Int32.ofInt g), Value.int (Int32.ofInt s)]) rfl rfl rfl rfl).run
  exact ⟨w1, h1, h2⟩
theorem b_cnum {r v sc mode : Int} (hR : cX w0 L Z S V w) (b_r : -2147483648 ≤ r ∧ r < 2147483648) (b_sc : -2147483648 ≤ sc ∧ sc < 2147483648) (b_mode : -2147483648 ≤ mode ∧ mode < 2147483648) (h : ¬ ((0 ≤ r ∧ r ≤ 15) ∧ (-40000 ≤ sc ∧ sc ≤ 40000) ∧ (0 ≤ mode ∧ mode ≤ 4))) : ∃ w1, xRun (d + 8) 21 [Value.ref 7, Value.int (Int32.ofInt r), Value.long (Int64.ofInt v), Value.int (Int32.ofInt sc), Value.int (Int32.ofInt mode)] w (.inr w1.length) (w1 ++ [.inr (14, [])]) ∧ w1 = w := by
  have key : ∀ lv, xld lv 0 = some (Value.ref 7) → xld lv 1 = some (Value.int (Int32.ofInt r)) → xld lv 2 = some (Value.long (Int64.ofInt v)) → xld lv 4 = some (Value.int (Int32.ofInt sc)) → xld lv 5 = some (Value.int (Int32.ofInt mode)) → xEv (d + 8) 21 0 lv [] w (fun o w' => ∃ w1, o = .inr w1.length ∧ w' = w1 ++ [.inr (14, [])] ∧ w1 = w) := by
    intro lv l0 l1 l2 l4 l5
    refine i_21_0 (x := Int32.ofInt r) l1 ?_
    have hrun := x_noReg (d := d + 7) (w := w) (r := r) b_r
    refine i_21_1 (Nat.le_of_ble_eq_true rfl) hrun ?_
    refine i_21_4 (zb_t fun c0 => ?_) (zb_f fun c0 => ?_)
    · refine i_21_29 (by omega) (Nat.le_of_ble_eq_true rfl) ?_
      exact ⟨w, rfl, rfl, rfl⟩
    · refine i_21_7 (x := Int32.ofInt sc) l4 ?_
      refine i_21_9 ?_
      refine i_21_11 (b_lt (a := sc) (b := (-40000)) ⟨by omega, by omega⟩ ⟨by decide, by decide⟩ fun c1 => ?_) (b_le (a := (-40000)) (b := sc) ⟨by decide, by decide⟩ ⟨by omega, by omega⟩ fun c1 => ?_)
      · refine i_21_29 (by omega) (Nat.le_of_ble_eq_true rfl) ?_
        exact ⟨w, rfl, rfl, rfl⟩
      · refine i_21_14 (x := Int32.ofInt sc) l4 ?_
        refine i_21_16 ?_
        refine i_21_18 (b_lt (a := 40000) (b := sc) ⟨by decide, by decide⟩ ⟨by omega, by omega⟩ fun c2 => ?_) (b_le (a := sc) (b := 40000) ⟨by omega, by omega⟩ ⟨by decide, by decide⟩ fun c2 => ?_)
        · refine i_21_29 (by omega) (Nat.le_of_ble_eq_true rfl) ?_
          exact ⟨w, rfl, rfl, rfl⟩
        · refine i_21_21 (x := Int32.ofInt mode) l5 ?_
          have hrun := x_noMode (d := d + 7) (w := w) (m := mode) b_mode
          refine i_21_23 (Nat.le_of_ble_eq_true rfl) hrun ?_
          refine i_21_26 (zb_f fun c3 => ?_) (zb_t fun c3 => ?_)
          · exfalso
            clear hR
            (try simp only [Bool.or_eq_false_iff, decide_eq_false_iff_not, Bool.or_eq_true, decide_eq_true_eq, Bool.not_eq_true', Bool.not_eq_false'] at *)
            omega
          · refine i_21_29 (by omega) (Nat.le_of_ble_eq_true rfl) ?_
            exact ⟨w, rfl, rfl, rfl⟩
  obtain ⟨o, w', h1, w1, rfl, rfl, h2⟩ := (key (lv_args 0 [Value.ref 7, Value.int (Int32.ofInt r), Value.long (Int64.ofInt v), Value.int (Int32.ofInt sc), Value.int (Int32.ofInt mode)]) rfl rfl rfl rfl rfl).run
  exact ⟨w1, h1, h2⟩
theorem b_ccopy {r a how mode : Int} (hR : cX w0 L Z S V w) (b_r : -2147483648 ≤ r ∧ r < 2147483648) (b_a : -2147483648 ≤ a ∧ a < 2147483648) (b_how : -2147483648 ≤ how ∧ how < 2147483648) (b_mode : -2147483648 ≤ mode ∧ mode < 2147483648) (h : ¬ ((0 ≤ r ∧ r ≤ 15) ∧ (0 ≤ a ∧ a ≤ 15) ∧ (0 ≤ how ∧ how ≤ 2) ∧ (0 ≤ mode ∧ mode ≤ 4))) : ∃ w1, xRun (d + 8) 53 [Value.ref 7, Value.int (Int32.ofInt r), Value.int (Int32.ofInt a), Value.int (Int32.ofInt how), Value.int (Int32.ofInt mode)] w (.inr w1.length) (w1 ++ [.inr (14, [])]) ∧ w1 = w := by
  have key : ∀ lv, xld lv 0 = some (Value.ref 7) → xld lv 1 = some (Value.int (Int32.ofInt r)) → xld lv 2 = some (Value.int (Int32.ofInt a)) → xld lv 3 = some (Value.int (Int32.ofInt how)) → xld lv 4 = some (Value.int (Int32.ofInt mode)) → xEv (d + 8) 53 0 lv [] w (fun o w' => ∃ w1, o = .inr w1.length ∧ w' = w1 ++ [.inr (14, [])] ∧ w1 = w) := by
    intro lv l0 l1 l2 l3 l4
    refine i_53_0 (x := Int32.ofInt r) l1 ?_
    have hrun := x_noReg (d := d + 7) (w := w) (r := r) b_r
    refine i_53_1 (Nat.le_of_ble_eq_true rfl) hrun ?_
    refine i_53_4 (zb_t fun c0 => ?_) (zb_f fun c0 => ?_)
    · refine i_53_31 (by omega) (Nat.le_of_ble_eq_true rfl) ?_
      exact ⟨w, rfl, rfl, rfl⟩
    · refine i_53_7 (x := Int32.ofInt a) l2 ?_
      have hrun := x_noReg (d := d + 7) (w := w) (r := a) b_a
      refine i_53_8 (Nat.le_of_ble_eq_true rfl) hrun ?_
      refine i_53_11 (zb_t fun c1 => ?_) (zb_f fun c1 => ?_)
      · refine i_53_31 (by omega) (Nat.le_of_ble_eq_true rfl) ?_
        exact ⟨w, rfl, rfl, rfl⟩
      · refine i_53_14 (x := Int32.ofInt how) l3 ?_
        refine i_53_15 (z_lt (a := how) ⟨by omega, by omega⟩ fun c2 => ?_) (z_ge (a := how) ⟨by omega, by omega⟩ fun c2 => ?_)
        · refine i_53_31 (by omega) (Nat.le_of_ble_eq_true rfl) ?_
          exact ⟨w, rfl, rfl, rfl⟩
        · refine i_53_18 (x := Int32.ofInt how) l3 ?_
          refine i_53_19 ?_
          refine i_53_20 (b_lt (a := 2) (b := how) ⟨by decide, by decide⟩ ⟨by omega, by omega⟩ fun c3 => ?_) (b_le (a := how) (b := 2) ⟨by omega, by omega⟩ ⟨by decide, by decide⟩ fun c3 => ?_)
          · refine i_53_31 (by omega) (Nat.le_of_ble_eq_true rfl) ?_
            exact ⟨w, rfl, rfl, rfl⟩
          · refine i_53_23 (x := Int32.ofInt mode) l4 ?_
            have hrun := x_noMode (d := d + 7) (w := w) (m := mode) b_mode
            refine i_53_25 (Nat.le_of_ble_eq_true rfl) hrun ?_
            refine i_53_28 (zb_f fun c4 => ?_) (zb_t fun c4 => ?_)
            · exfalso
              clear hR
              (try simp only [Bool.or_eq_false_iff, decide_eq_false_iff_not, Bool.or_eq_true, decide_eq_true_eq, Bool.not_eq_true', Bool.not_eq_false'] at *)
              omega
            · refine i_53_31 (by omega) (Nat.le_of_ble_eq_true rfl) ?_
              exact ⟨w, rfl, rfl, rfl⟩
  obtain ⟨o, w', h1, w1, rfl, rfl, h2⟩ := (key (lv_args 0 [Value.ref 7, Value.int (Int32.ofInt r), Value.int (Int32.ofInt a), Value.int (Int32.ofInt how), Value.int (Int32.ofInt mode)]) rfl rfl rfl rfl rfl).run
  exact ⟨w1, h1, h2⟩
theorem b_crec {op r a b mode : Int} (hR : cX w0 L Z S V w) (b_op : -2147483648 ≤ op ∧ op < 2147483648) (b_r : -2147483648 ≤ r ∧ r < 2147483648) (b_a : -2147483648 ≤ a ∧ a < 2147483648) (b_b : -2147483648 ≤ b ∧ b < 2147483648) (b_mode : -2147483648 ≤ mode ∧ mode < 2147483648) (h : ¬ ((0 ≤ op ∧ op ≤ 6) ∧ (0 ≤ r ∧ r ≤ 15) ∧ (0 ≤ a ∧ a ≤ 15) ∧ (0 ≤ b ∧ b ≤ 15) ∧ (0 ≤ mode ∧ mode ≤ 4))) : ∃ w1, xRun (d + 8) 58 [Value.ref 7, Value.int (Int32.ofInt op), Value.int (Int32.ofInt r), Value.int (Int32.ofInt a), Value.int (Int32.ofInt b), Value.int (Int32.ofInt mode)] w (.inr w1.length) (w1 ++ [.inr (14, [])]) ∧ w1 = w := by
  have key : ∀ lv, xld lv 0 = some (Value.ref 7) → xld lv 1 = some (Value.int (Int32.ofInt op)) → xld lv 2 = some (Value.int (Int32.ofInt r)) → xld lv 3 = some (Value.int (Int32.ofInt a)) → xld lv 4 = some (Value.int (Int32.ofInt b)) → xld lv 5 = some (Value.int (Int32.ofInt mode)) → xEv (d + 8) 58 0 lv [] w (fun o w' => ∃ w1, o = .inr w1.length ∧ w' = w1 ++ [.inr (14, [])] ∧ w1 = w) := by
    intro lv l0 l1 l2 l3 l4 l5
    refine i_58_0 (x := Int32.ofInt op) l1 ?_
    refine i_58_1 (z_lt (a := op) ⟨by omega, by omega⟩ fun c0 => ?_) (z_ge (a := op) ⟨by omega, by omega⟩ fun c0 => ?_)
    · refine i_58_40 (by omega) (Nat.le_of_ble_eq_true rfl) ?_
      exact ⟨w, rfl, rfl, rfl⟩
    · refine i_58_4 (x := Int32.ofInt op) l1 ?_
      refine i_58_5 ?_
      refine i_58_7 (b_lt (a := 6) (b := op) ⟨by decide, by decide⟩ ⟨by omega, by omega⟩ fun c1 => ?_) (b_le (a := op) (b := 6) ⟨by omega, by omega⟩ ⟨by decide, by decide⟩ fun c1 => ?_)
      · refine i_58_40 (by omega) (Nat.le_of_ble_eq_true rfl) ?_
        exact ⟨w, rfl, rfl, rfl⟩
      · refine i_58_10 (x := Int32.ofInt r) l2 ?_
        have hrun := x_noReg (d := d + 7) (w := w) (r := r) b_r
        refine i_58_11 (Nat.le_of_ble_eq_true rfl) hrun ?_
        refine i_58_14 (zb_t fun c2 => ?_) (zb_f fun c2 => ?_)
        · refine i_58_40 (by omega) (Nat.le_of_ble_eq_true rfl) ?_
          exact ⟨w, rfl, rfl, rfl⟩
        · refine i_58_17 (x := Int32.ofInt a) l3 ?_
          have hrun := x_noReg (d := d + 7) (w := w) (r := a) b_a
          refine i_58_18 (Nat.le_of_ble_eq_true rfl) hrun ?_
          refine i_58_21 (zb_t fun c3 => ?_) (zb_f fun c3 => ?_)
          · refine i_58_40 (by omega) (Nat.le_of_ble_eq_true rfl) ?_
            exact ⟨w, rfl, rfl, rfl⟩
          · refine i_58_24 (x := Int32.ofInt b) l4 ?_
            have hrun := x_noReg (d := d + 7) (w := w) (r := b) b_b
            refine i_58_26 (Nat.le_of_ble_eq_true rfl) hrun ?_
            refine i_58_29 (zb_t fun c4 => ?_) (zb_f fun c4 => ?_)
            · refine i_58_40 (by omega) (Nat.le_of_ble_eq_true rfl) ?_
              exact ⟨w, rfl, rfl, rfl⟩
            · refine i_58_32 (x := Int32.ofInt mode) l5 ?_
              have hrun := x_noMode (d := d + 7) (w := w) (m := mode) b_mode
              refine i_58_34 (Nat.le_of_ble_eq_true rfl) hrun ?_
              refine i_58_37 (zb_f fun c5 => ?_) (zb_t fun c5 => ?_)
              · exfalso
                clear hR
                (try simp only [Bool.or_eq_false_iff, decide_eq_false_iff_not, Bool.or_eq_true, decide_eq_true_eq, Bool.not_eq_true', Bool.not_eq_false'] at *)
                omega
              · refine i_58_40 (by omega) (Nat.le_of_ble_eq_true rfl) ?_
                exact ⟨w, rfl, rfl, rfl⟩
  obtain ⟨o, w', h1, w1, rfl, rfl, h2⟩ := (key (lv_args 0 [Value.ref 7, Value.int (Int32.ofInt op), Value.int (Int32.ofInt r), Value.int (Int32.ofInt a), Value.int (Int32.ofInt b), Value.int (Int32.ofInt mode)]) rfl rfl rfl rfl rfl rfl).run
  exact ⟨w1, h1, h2⟩
theorem b_cfus {r a b c mode : Int} (hR : cX w0 L Z S V w) (b_r : -2147483648 ≤ r ∧ r < 2147483648) (b_a : -2147483648 ≤ a ∧ a < 2147483648) (b_b : -2147483648 ≤ b ∧ b < 2147483648) (b_c : -2147483648 ≤ c ∧ c < 2147483648) (b_mode : -2147483648 ≤ mode ∧ mode < 2147483648) (h : ¬ ((0 ≤ r ∧ r ≤ 15) ∧ (0 ≤ a ∧ a ≤ 15) ∧ (0 ≤ b ∧ b ≤ 15) ∧ (0 ≤ c ∧ c ≤ 15) ∧ (0 ≤ mode ∧ mode ≤ 4))) : ∃ w1, xRun (d + 8) 95 [Value.ref 7, Value.int (Int32.ofInt r), Value.int (Int32.ofInt a), Value.int (Int32.ofInt b), Value.int (Int32.ofInt c), Value.int (Int32.ofInt mode)] w (.inr w1.length) (w1 ++ [.inr (14, [])]) ∧ w1 = w := by
  have key : ∀ lv, xld lv 0 = some (Value.ref 7) → xld lv 1 = some (Value.int (Int32.ofInt r)) → xld lv 2 = some (Value.int (Int32.ofInt a)) → xld lv 3 = some (Value.int (Int32.ofInt b)) → xld lv 4 = some (Value.int (Int32.ofInt c)) → xld lv 5 = some (Value.int (Int32.ofInt mode)) → xEv (d + 8) 95 0 lv [] w (fun o w' => ∃ w1, o = .inr w1.length ∧ w' = w1 ++ [.inr (14, [])] ∧ w1 = w) := by
    intro lv l0 l1 l2 l3 l4 l5
    refine i_95_0 (x := Int32.ofInt r) l1 ?_
    have hrun := x_noReg (d := d + 7) (w := w) (r := r) b_r
    refine i_95_1 (Nat.le_of_ble_eq_true rfl) hrun ?_
    refine i_95_4 (zb_t fun c0 => ?_) (zb_f fun c0 => ?_)
    · refine i_95_37 (by omega) (Nat.le_of_ble_eq_true rfl) ?_
      exact ⟨w, rfl, rfl, rfl⟩
    · refine i_95_7 (x := Int32.ofInt a) l2 ?_
      have hrun := x_noReg (d := d + 7) (w := w) (r := a) b_a
      refine i_95_8 (Nat.le_of_ble_eq_true rfl) hrun ?_
      refine i_95_11 (zb_t fun c1 => ?_) (zb_f fun c1 => ?_)
      · refine i_95_37 (by omega) (Nat.le_of_ble_eq_true rfl) ?_
        exact ⟨w, rfl, rfl, rfl⟩
      · refine i_95_14 (x := Int32.ofInt b) l3 ?_
        have hrun := x_noReg (d := d + 7) (w := w) (r := b) b_b
        refine i_95_15 (Nat.le_of_ble_eq_true rfl) hrun ?_
        refine i_95_18 (zb_t fun c2 => ?_) (zb_f fun c2 => ?_)
        · refine i_95_37 (by omega) (Nat.le_of_ble_eq_true rfl) ?_
          exact ⟨w, rfl, rfl, rfl⟩
        · refine i_95_21 (x := Int32.ofInt c) l4 ?_
          have hrun := x_noReg (d := d + 7) (w := w) (r := c) b_c
          refine i_95_23 (Nat.le_of_ble_eq_true rfl) hrun ?_
          refine i_95_26 (zb_t fun c3 => ?_) (zb_f fun c3 => ?_)
          · refine i_95_37 (by omega) (Nat.le_of_ble_eq_true rfl) ?_
            exact ⟨w, rfl, rfl, rfl⟩
          · refine i_95_29 (x := Int32.ofInt mode) l5 ?_
            have hrun := x_noMode (d := d + 7) (w := w) (m := mode) b_mode
            refine i_95_31 (Nat.le_of_ble_eq_true rfl) hrun ?_
            refine i_95_34 (zb_f fun c4 => ?_) (zb_t fun c4 => ?_)
            · exfalso
              clear hR
              (try simp only [Bool.or_eq_false_iff, decide_eq_false_iff_not, Bool.or_eq_true, decide_eq_true_eq, Bool.not_eq_true', Bool.not_eq_false'] at *)
              omega
            · refine i_95_37 (by omega) (Nat.le_of_ble_eq_true rfl) ?_
              exact ⟨w, rfl, rfl, rfl⟩
  obtain ⟨o, w', h1, w1, rfl, rfl, h2⟩ := (key (lv_args 0 [Value.ref 7, Value.int (Int32.ofInt r), Value.int (Int32.ofInt a), Value.int (Int32.ofInt b), Value.int (Int32.ofInt c), Value.int (Int32.ofInt mode)]) rfl rfl rfl rfl rfl rfl).run
  exact ⟨w1, h1, h2⟩
theorem b_croot {r a n mode : Int} (hR : cX w0 L Z S V w) (b_r : -2147483648 ≤ r ∧ r < 2147483648) (b_a : -2147483648 ≤ a ∧ a < 2147483648) (b_n : -2147483648 ≤ n ∧ n < 2147483648) (b_mode : -2147483648 ≤ mode ∧ mode < 2147483648) (h : ¬ ((0 ≤ r ∧ r ≤ 15) ∧ (0 ≤ a ∧ a ≤ 15) ∧ (1 ≤ n ∧ n ≤ 32) ∧ (0 ≤ mode ∧ mode ≤ 4))) : ∃ w1, xRun (d + 8) 98 [Value.ref 7, Value.int (Int32.ofInt r), Value.int (Int32.ofInt a), Value.int (Int32.ofInt n), Value.int (Int32.ofInt mode)] w (.inr w1.length) (w1 ++ [.inr (14, [])]) ∧ w1 = w := by
  have key : ∀ lv, xld lv 0 = some (Value.ref 7) → xld lv 1 = some (Value.int (Int32.ofInt r)) → xld lv 2 = some (Value.int (Int32.ofInt a)) → xld lv 3 = some (Value.int (Int32.ofInt n)) → xld lv 4 = some (Value.int (Int32.ofInt mode)) → xEv (d + 8) 98 0 lv [] w (fun o w' => ∃ w1, o = .inr w1.length ∧ w' = w1 ++ [.inr (14, [])] ∧ w1 = w) := by
    intro lv l0 l1 l2 l3 l4
    refine i_98_0 (x := Int32.ofInt r) l1 ?_
    have hrun := x_noReg (d := d + 7) (w := w) (r := r) b_r
    refine i_98_1 (Nat.le_of_ble_eq_true rfl) hrun ?_
    refine i_98_4 (zb_t fun c0 => ?_) (zb_f fun c0 => ?_)
    · refine i_98_33 (by omega) (Nat.le_of_ble_eq_true rfl) ?_
      exact ⟨w, rfl, rfl, rfl⟩
    · refine i_98_7 (x := Int32.ofInt a) l2 ?_
      have hrun := x_noReg (d := d + 7) (w := w) (r := a) b_a
      refine i_98_8 (Nat.le_of_ble_eq_true rfl) hrun ?_
      refine i_98_11 (zb_t fun c1 => ?_) (zb_f fun c1 => ?_)
      · refine i_98_33 (by omega) (Nat.le_of_ble_eq_true rfl) ?_
        exact ⟨w, rfl, rfl, rfl⟩
      · refine i_98_14 (x := Int32.ofInt n) l3 ?_
        refine i_98_15 ?_
        refine i_98_16 (b_lt (a := n) (b := 1) ⟨by omega, by omega⟩ ⟨by decide, by decide⟩ fun c2 => ?_) (b_le (a := 1) (b := n) ⟨by decide, by decide⟩ ⟨by omega, by omega⟩ fun c2 => ?_)
        · refine i_98_33 (by omega) (Nat.le_of_ble_eq_true rfl) ?_
          exact ⟨w, rfl, rfl, rfl⟩
        · refine i_98_19 (x := Int32.ofInt n) l3 ?_
          refine i_98_20 ?_
          refine i_98_22 (b_lt (a := 32) (b := n) ⟨by decide, by decide⟩ ⟨by omega, by omega⟩ fun c3 => ?_) (b_le (a := n) (b := 32) ⟨by omega, by omega⟩ ⟨by decide, by decide⟩ fun c3 => ?_)
          · refine i_98_33 (by omega) (Nat.le_of_ble_eq_true rfl) ?_
            exact ⟨w, rfl, rfl, rfl⟩
          · refine i_98_25 (x := Int32.ofInt mode) l4 ?_
            have hrun := x_noMode (d := d + 7) (w := w) (m := mode) b_mode
            refine i_98_27 (Nat.le_of_ble_eq_true rfl) hrun ?_
            refine i_98_30 (zb_f fun c4 => ?_) (zb_t fun c4 => ?_)
            · exfalso
              clear hR
              (try simp only [Bool.or_eq_false_iff, decide_eq_false_iff_not, Bool.or_eq_true, decide_eq_true_eq, Bool.not_eq_true', Bool.not_eq_false'] at *)
              omega
            · refine i_98_33 (by omega) (Nat.le_of_ble_eq_true rfl) ?_
              exact ⟨w, rfl, rfl, rfl⟩
  obtain ⟨o, w', h1, w1, rfl, rfl, h2⟩ := (key (lv_args 0 [Value.ref 7, Value.int (Int32.ofInt r), Value.int (Int32.ofInt a), Value.int (Int32.ofInt n), Value.int (Int32.ofInt mode)]) rfl rfl rfl rfl rfl).run
  exact ⟨w1, h1, h2⟩
theorem b_cpow {r a n mode : Int} (hR : cX w0 L Z S V w) (b_r : -2147483648 ≤ r ∧ r < 2147483648) (b_a : -2147483648 ≤ a ∧ a < 2147483648) (b_n : -2147483648 ≤ n ∧ n < 2147483648) (b_mode : -2147483648 ≤ mode ∧ mode < 2147483648) (h : ¬ ((0 ≤ r ∧ r ≤ 15) ∧ (0 ≤ a ∧ a ≤ 15) ∧ (-32 ≤ n ∧ n ≤ 32) ∧ (0 ≤ mode ∧ mode ≤ 4))) : ∃ w1, xRun (d + 8) 101 [Value.ref 7, Value.int (Int32.ofInt r), Value.int (Int32.ofInt a), Value.int (Int32.ofInt n), Value.int (Int32.ofInt mode)] w (.inr w1.length) (w1 ++ [.inr (14, [])]) ∧ w1 = w := by
  have key : ∀ lv, xld lv 0 = some (Value.ref 7) → xld lv 1 = some (Value.int (Int32.ofInt r)) → xld lv 2 = some (Value.int (Int32.ofInt a)) → xld lv 3 = some (Value.int (Int32.ofInt n)) → xld lv 4 = some (Value.int (Int32.ofInt mode)) → xEv (d + 8) 101 0 lv [] w (fun o w' => ∃ w1, o = .inr w1.length ∧ w' = w1 ++ [.inr (14, [])] ∧ w1 = w) := by
    intro lv l0 l1 l2 l3 l4
    refine i_101_0 (x := Int32.ofInt r) l1 ?_
    have hrun := x_noReg (d := d + 7) (w := w) (r := r) b_r
    refine i_101_1 (Nat.le_of_ble_eq_true rfl) hrun ?_
    refine i_101_4 (zb_t fun c0 => ?_) (zb_f fun c0 => ?_)
    · refine i_101_34 (by omega) (Nat.le_of_ble_eq_true rfl) ?_
      exact ⟨w, rfl, rfl, rfl⟩
    · refine i_101_7 (x := Int32.ofInt a) l2 ?_
      have hrun := x_noReg (d := d + 7) (w := w) (r := a) b_a
      refine i_101_8 (Nat.le_of_ble_eq_true rfl) hrun ?_
      refine i_101_11 (zb_t fun c1 => ?_) (zb_f fun c1 => ?_)
      · refine i_101_34 (by omega) (Nat.le_of_ble_eq_true rfl) ?_
        exact ⟨w, rfl, rfl, rfl⟩
      · refine i_101_14 (x := Int32.ofInt n) l3 ?_
        refine i_101_15 ?_
        refine i_101_17 (b_lt (a := n) (b := (-32)) ⟨by omega, by omega⟩ ⟨by decide, by decide⟩ fun c2 => ?_) (b_le (a := (-32)) (b := n) ⟨by decide, by decide⟩ ⟨by omega, by omega⟩ fun c2 => ?_)
        · refine i_101_34 (by omega) (Nat.le_of_ble_eq_true rfl) ?_
          exact ⟨w, rfl, rfl, rfl⟩
        · refine i_101_20 (x := Int32.ofInt n) l3 ?_
          refine i_101_21 ?_
          refine i_101_23 (b_lt (a := 32) (b := n) ⟨by decide, by decide⟩ ⟨by omega, by omega⟩ fun c3 => ?_) (b_le (a := n) (b := 32) ⟨by omega, by omega⟩ ⟨by decide, by decide⟩ fun c3 => ?_)
          · refine i_101_34 (by omega) (Nat.le_of_ble_eq_true rfl) ?_
            exact ⟨w, rfl, rfl, rfl⟩
          · refine i_101_26 (x := Int32.ofInt mode) l4 ?_
            have hrun := x_noMode (d := d + 7) (w := w) (m := mode) b_mode
            refine i_101_28 (Nat.le_of_ble_eq_true rfl) hrun ?_
            refine i_101_31 (zb_f fun c4 => ?_) (zb_t fun c4 => ?_)
            · exfalso
              clear hR
              (try simp only [Bool.or_eq_false_iff, decide_eq_false_iff_not, Bool.or_eq_true, decide_eq_true_eq, Bool.not_eq_true', Bool.not_eq_false'] at *)
              omega
            · refine i_101_34 (by omega) (Nat.le_of_ble_eq_true rfl) ?_
              exact ⟨w, rfl, rfl, rfl⟩
  obtain ⟨o, w', h1, w1, rfl, rfl, h2⟩ := (key (lv_args 0 [Value.ref 7, Value.int (Int32.ofInt r), Value.int (Int32.ofInt a), Value.int (Int32.ofInt n), Value.int (Int32.ofInt mode)]) rfl rfl rfl rfl rfl).run
  exact ⟨w1, h1, h2⟩
theorem b_cwh {r a way mode : Int} (hR : cX w0 L Z S V w) (b_r : -2147483648 ≤ r ∧ r < 2147483648) (b_a : -2147483648 ≤ a ∧ a < 2147483648) (b_way : -2147483648 ≤ way ∧ way < 2147483648) (b_mode : -2147483648 ≤ mode ∧ mode < 2147483648) (h : ¬ ((0 ≤ r ∧ r ≤ 15) ∧ (0 ≤ a ∧ a ≤ 15) ∧ (0 ≤ way ∧ way ≤ 4) ∧ (0 ≤ mode ∧ mode ≤ 4))) : ∃ w1, xRun (d + 8) 106 [Value.ref 7, Value.int (Int32.ofInt r), Value.int (Int32.ofInt a), Value.int (Int32.ofInt way), Value.int (Int32.ofInt mode)] w (.inr w1.length) (w1 ++ [.inr (14, [])]) ∧ w1 = w := by
  have key : ∀ lv, xld lv 0 = some (Value.ref 7) → xld lv 1 = some (Value.int (Int32.ofInt r)) → xld lv 2 = some (Value.int (Int32.ofInt a)) → xld lv 3 = some (Value.int (Int32.ofInt way)) → xld lv 4 = some (Value.int (Int32.ofInt mode)) → xEv (d + 8) 106 0 lv [] w (fun o w' => ∃ w1, o = .inr w1.length ∧ w' = w1 ++ [.inr (14, [])] ∧ w1 = w) := by
    intro lv l0 l1 l2 l3 l4
    refine i_106_0 (x := Int32.ofInt r) l1 ?_
    have hrun := x_noReg (d := d + 7) (w := w) (r := r) b_r
    refine i_106_1 (Nat.le_of_ble_eq_true rfl) hrun ?_
    refine i_106_4 (zb_t fun c0 => ?_) (zb_f fun c0 => ?_)
    · refine i_106_31 (by omega) (Nat.le_of_ble_eq_true rfl) ?_
      exact ⟨w, rfl, rfl, rfl⟩
    · refine i_106_7 (x := Int32.ofInt a) l2 ?_
      have hrun := x_noReg (d := d + 7) (w := w) (r := a) b_a
      refine i_106_8 (Nat.le_of_ble_eq_true rfl) hrun ?_
      refine i_106_11 (zb_t fun c1 => ?_) (zb_f fun c1 => ?_)
      · refine i_106_31 (by omega) (Nat.le_of_ble_eq_true rfl) ?_
        exact ⟨w, rfl, rfl, rfl⟩
      · refine i_106_14 (x := Int32.ofInt way) l3 ?_
        refine i_106_15 (z_lt (a := way) ⟨by omega, by omega⟩ fun c2 => ?_) (z_ge (a := way) ⟨by omega, by omega⟩ fun c2 => ?_)
        · refine i_106_31 (by omega) (Nat.le_of_ble_eq_true rfl) ?_
          exact ⟨w, rfl, rfl, rfl⟩
        · refine i_106_18 (x := Int32.ofInt way) l3 ?_
          refine i_106_19 ?_
          refine i_106_20 (b_lt (a := 4) (b := way) ⟨by decide, by decide⟩ ⟨by omega, by omega⟩ fun c3 => ?_) (b_le (a := way) (b := 4) ⟨by omega, by omega⟩ ⟨by decide, by decide⟩ fun c3 => ?_)
          · refine i_106_31 (by omega) (Nat.le_of_ble_eq_true rfl) ?_
            exact ⟨w, rfl, rfl, rfl⟩
          · refine i_106_23 (x := Int32.ofInt mode) l4 ?_
            have hrun := x_noMode (d := d + 7) (w := w) (m := mode) b_mode
            refine i_106_25 (Nat.le_of_ble_eq_true rfl) hrun ?_
            refine i_106_28 (zb_f fun c4 => ?_) (zb_t fun c4 => ?_)
            · exfalso
              clear hR
              (try simp only [Bool.or_eq_false_iff, decide_eq_false_iff_not, Bool.or_eq_true, decide_eq_true_eq, Bool.not_eq_true', Bool.not_eq_false'] at *)
              omega
            · refine i_106_31 (by omega) (Nat.le_of_ble_eq_true rfl) ?_
              exact ⟨w, rfl, rfl, rfl⟩
  obtain ⟨o, w', h1, w1, rfl, rfl, h2⟩ := (key (lv_args 0 [Value.ref 7, Value.int (Int32.ofInt r), Value.int (Int32.ofInt a), Value.int (Int32.ofInt way), Value.int (Int32.ofInt mode)]) rfl rfl rfl rfl rfl).run
  exact ⟨w1, h1, h2⟩
theorem b_csum {r f n mode : Int} (hR : cX w0 L Z S V w) (b_r : -2147483648 ≤ r ∧ r < 2147483648) (b_f : -2147483648 ≤ f ∧ f < 2147483648) (b_n : -2147483648 ≤ n ∧ n < 2147483648) (b_mode : -2147483648 ≤ mode ∧ mode < 2147483648) (h : ¬ ((0 ≤ r ∧ r ≤ 15) ∧ (0 ≤ f ∧ f ≤ 15 ∧ 1 ≤ n ∧ n ≤ 16 ∧ f + n ≤ 16) ∧ (0 ≤ mode ∧ mode ≤ 4))) : ∃ w1, xRun (d + 8) 112 [Value.ref 7, Value.int (Int32.ofInt r), Value.int (Int32.ofInt f), Value.int (Int32.ofInt n), Value.int (Int32.ofInt mode)] w (.inr w1.length) (w1 ++ [.inr (14, [])]) ∧ w1 = w := by
  have key : ∀ lv, xld lv 0 = some (Value.ref 7) → xld lv 1 = some (Value.int (Int32.ofInt r)) → xld lv 2 = some (Value.int (Int32.ofInt f)) → xld lv 3 = some (Value.int (Int32.ofInt n)) → xld lv 4 = some (Value.int (Int32.ofInt mode)) → xEv (d + 8) 112 0 lv [] w (fun o w' => ∃ w1, o = .inr w1.length ∧ w' = w1 ++ [.inr (14, [])] ∧ w1 = w) := by
    intro lv l0 l1 l2 l3 l4
    refine i_112_0 (x := Int32.ofInt r) l1 ?_
    have hrun := x_noReg (d := d + 7) (w := w) (r := r) b_r
    refine i_112_1 (Nat.le_of_ble_eq_true rfl) hrun ?_
    refine i_112_4 (zb_t fun c0 => ?_) (zb_f fun c0 => ?_)
    · refine i_112_23 (by omega) (Nat.le_of_ble_eq_true rfl) ?_
      exact ⟨w, rfl, rfl, rfl⟩
    · refine i_112_7 (x := Int32.ofInt f) l2 ?_
      refine i_112_8 (x := Int32.ofInt n) l3 ?_
      have hrun := x_noRow0 (d := d + 6) (w := w) (f := f) (n := n) b_f b_n
      refine i_112_9 (Nat.le_of_ble_eq_true rfl) hrun ?_
      refine i_112_12 (zb_t fun c1 => ?_) (zb_f fun c1 => ?_)
      · refine i_112_23 (by omega) (Nat.le_of_ble_eq_true rfl) ?_
        exact ⟨w, rfl, rfl, rfl⟩
      · refine i_112_15 (x := Int32.ofInt mode) l4 ?_
        have hrun := x_noMode (d := d + 7) (w := w) (m := mode) b_mode
        refine i_112_17 (Nat.le_of_ble_eq_true rfl) hrun ?_
        refine i_112_20 (zb_f fun c2 => ?_) (zb_t fun c2 => ?_)
        · exfalso
          clear hR
          (try simp only [Bool.or_eq_false_iff, decide_eq_false_iff_not, Bool.or_eq_true, decide_eq_true_eq, Bool.not_eq_true', Bool.not_eq_false'] at *)
          omega
        · refine i_112_23 (by omega) (Nat.le_of_ble_eq_true rfl) ?_
          exact ⟨w, rfl, rfl, rfl⟩
  obtain ⟨o, w', h1, w1, rfl, rfl, h2⟩ := (key (lv_args 0 [Value.ref 7, Value.int (Int32.ofInt r), Value.int (Int32.ofInt f), Value.int (Int32.ofInt n), Value.int (Int32.ofInt mode)]) rfl rfl rfl rfl rfl).run
  exact ⟨w1, h1, h2⟩
theorem b_cdot {r f g n mode : Int} (hR : cX w0 L Z S V w) (b_r : -2147483648 ≤ r ∧ r < 2147483648) (b_f : -2147483648 ≤ f ∧ f < 2147483648) (b_g : -2147483648 ≤ g ∧ g < 2147483648) (b_n : -2147483648 ≤ n ∧ n < 2147483648) (b_mode : -2147483648 ≤ mode ∧ mode < 2147483648) (h : ¬ ((0 ≤ r ∧ r ≤ 15) ∧ (0 ≤ f ∧ f ≤ 15 ∧ 1 ≤ n ∧ n ≤ 16 ∧ f + n ≤ 16) ∧ (0 ≤ g ∧ g ≤ 15 ∧ 1 ≤ n ∧ n ≤ 16 ∧ g + n ≤ 16) ∧ (0 ≤ mode ∧ mode ≤ 4))) : ∃ w1, xRun (d + 8) 115 [Value.ref 7, Value.int (Int32.ofInt r), Value.int (Int32.ofInt f), Value.int (Int32.ofInt g), Value.int (Int32.ofInt n), Value.int (Int32.ofInt mode)] w (.inr w1.length) (w1 ++ [.inr (14, [])]) ∧ w1 = w := by
  have key : ∀ lv, xld lv 0 = some (Value.ref 7) → xld lv 1 = some (Value.int (Int32.ofInt r)) → xld lv 2 = some (Value.int (Int32.ofInt f)) → xld lv 3 = some (Value.int (Int32.ofInt g)) → xld lv 4 = some (Value.int (Int32.ofInt n)) → xld lv 5 = some (Value.int (Int32.ofInt mode)) → xEv (d + 8) 115 0 lv [] w (fun o w' => ∃ w1, o = .inr w1.length ∧ w' = w1 ++ [.inr (14, [])] ∧ w1 = w) := by
    intro lv l0 l1 l2 l3 l4 l5
    refine i_115_0 (x := Int32.ofInt r) l1 ?_
    have hrun := x_noReg (d := d + 7) (w := w) (r := r) b_r
    refine i_115_1 (Nat.le_of_ble_eq_true rfl) hrun ?_
    refine i_115_4 (zb_t fun c0 => ?_) (zb_f fun c0 => ?_)
    · refine i_115_33 (by omega) (Nat.le_of_ble_eq_true rfl) ?_
      exact ⟨w, rfl, rfl, rfl⟩
    · refine i_115_7 (x := Int32.ofInt f) l2 ?_
      refine i_115_8 (x := Int32.ofInt n) l4 ?_
      have hrun := x_noRow0 (d := d + 6) (w := w) (f := f) (n := n) b_f b_n
      refine i_115_10 (Nat.le_of_ble_eq_true rfl) hrun ?_
      refine i_115_13 (zb_t fun c1 => ?_) (zb_f fun c1 => ?_)
      · refine i_115_33 (by omega) (Nat.le_of_ble_eq_true rfl) ?_
        exact ⟨w, rfl, rfl, rfl⟩
      · refine i_115_16 (x := Int32.ofInt g) l3 ?_
        refine i_115_17 (x := Int32.ofInt n) l4 ?_
        have hrun := x_noRow0 (d := d + 6) (w := w) (f := g) (n := n) b_g b_n
        refine i_115_19 (Nat.le_of_ble_eq_true rfl) hrun ?_
        refine i_115_22 (zb_t fun c2 => ?_) (zb_f fun c2 => ?_)
        · refine i_115_33 (by omega) (Nat.le_of_ble_eq_true rfl) ?_
          exact ⟨w, rfl, rfl, rfl⟩
        · refine i_115_25 (x := Int32.ofInt mode) l5 ?_
          have hrun := x_noMode (d := d + 7) (w := w) (m := mode) b_mode
          refine i_115_27 (Nat.le_of_ble_eq_true rfl) hrun ?_
          refine i_115_30 (zb_f fun c3 => ?_) (zb_t fun c3 => ?_)
          · exfalso
            clear hR
            (try simp only [Bool.or_eq_false_iff, decide_eq_false_iff_not, Bool.or_eq_true, decide_eq_true_eq, Bool.not_eq_true', Bool.not_eq_false'] at *)
            omega
          · refine i_115_33 (by omega) (Nat.le_of_ble_eq_true rfl) ?_
            exact ⟨w, rfl, rfl, rfl⟩
  obtain ⟨o, w', h1, w1, rfl, rfl, h2⟩ := (key (lv_args 0 [Value.ref 7, Value.int (Int32.ofInt r), Value.int (Int32.ofInt f), Value.int (Int32.ofInt g), Value.int (Int32.ofInt n), Value.int (Int32.ofInt mode)]) rfl rfl rfl rfl rfl rfl).run
  exact ⟨w1, h1, h2⟩
theorem b_cnei {r up : Int} (hR : cX w0 L Z S V w) (b_r : -2147483648 ≤ r ∧ r < 2147483648) (b_up : up = 0 ∨ up = 1) (h : ¬ ((0 ≤ r ∧ r ≤ 15))) : ∃ w1, xRun (d + 8) 117 [Value.ref 7, Value.int (Int32.ofInt r), Value.int (Int32.ofInt up)] w (.inr w1.length) (w1 ++ [.inr (14, [])]) ∧ w1 = w := by
  have key : ∀ lv, xld lv 0 = some (Value.ref 7) → xld lv 1 = some (Value.int (Int32.ofInt r)) → xld lv 2 = some (Value.int (Int32.ofInt up)) → xEv (d + 8) 117 0 lv [] w (fun o w' => ∃ w1, o = .inr w1.length ∧ w' = w1 ++ [.inr (14, [])] ∧ w1 = w) := by
    intro lv l0 l1 l2
    refine i_117_0 (x := Int32.ofInt r) l1 ?_
    have hrun := x_noReg (d := d + 7) (w := w) (r := r) b_r
    refine i_117_1 (Nat.le_of_ble_eq_true rfl) hrun ?_
    refine i_117_4 (zb_f fun c0 => ?_) (zb_t fun c0 => ?_)
    · exfalso
      clear hR
      (try simp only [Bool.or_eq_false_iff, decide_eq_false_iff_not, Bool.or_eq_true, decide_eq_true_eq, Bool.not_eq_true', Bool.not_eq_false'] at *)
      omega
    · refine i_117_7 (by omega) (Nat.le_of_ble_eq_true rfl) ?_
      exact ⟨w, rfl, rfl, rfl⟩
  obtain ⟨o, w', h1, w1, rfl, rfl, h2⟩ := (key (lv_args 0 [Value.ref 7, Value.int (Int32.ofInt r), Value.int (Int32.ofInt up)]) rfl rfl rfl).run
  exact ⟨w1, h1, h2⟩
theorem b_ccmp {a b : Int} (hR : cX w0 L Z S V w) (b_a : -2147483648 ≤ a ∧ a < 2147483648) (b_b : -2147483648 ≤ b ∧ b < 2147483648) (h : ¬ ((0 ≤ a ∧ a ≤ 15) ∧ (0 ≤ b ∧ b ≤ 15))) : ∃ w1, xRun (d + 8) 122 [Value.ref 7, Value.int (Int32.ofInt a), Value.int (Int32.ofInt b)] w (.inr w1.length) (w1 ++ [.inr (14, [])]) ∧ w1 = w := by
  have key : ∀ lv, xld lv 0 = some (Value.ref 7) → xld lv 1 = some (Value.int (Int32.ofInt a)) → xld lv 2 = some (Value.int (Int32.ofInt b)) → xEv (d + 8) 122 0 lv [] w (fun o w' => ∃ w1, o = .inr w1.length ∧ w' = w1 ++ [.inr (14, [])] ∧ w1 = w) := by
    intro lv l0 l1 l2
    refine i_122_0 (x := Int32.ofInt a) l1 ?_
    have hrun := x_noReg (d := d + 7) (w := w) (r := a) b_a
    refine i_122_1 (Nat.le_of_ble_eq_true rfl) hrun ?_
    refine i_122_4 (zb_t fun c0 => ?_) (zb_f fun c0 => ?_)
    · refine i_122_14 (by omega) (Nat.le_of_ble_eq_true rfl) ?_
      exact ⟨w, rfl, rfl, rfl⟩
    · refine i_122_7 (x := Int32.ofInt b) l2 ?_
      have hrun := x_noReg (d := d + 7) (w := w) (r := b) b_b
      refine i_122_8 (Nat.le_of_ble_eq_true rfl) hrun ?_
      refine i_122_11 (zb_f fun c1 => ?_) (zb_t fun c1 => ?_)
      · exfalso
        clear hR
        (try simp only [Bool.or_eq_false_iff, decide_eq_false_iff_not, Bool.or_eq_true, decide_eq_true_eq, Bool.not_eq_true', Bool.not_eq_false'] at *)
        omega
      · refine i_122_14 (by omega) (Nat.le_of_ble_eq_true rfl) ?_
        exact ⟨w, rfl, rfl, rfl⟩
  obtain ⟨o, w', h1, w1, rfl, rfl, h2⟩ := (key (lv_args 0 [Value.ref 7, Value.int (Int32.ofInt a), Value.int (Int32.ofInt b)]) rfl rfl rfl).run
  exact ⟨w1, h1, h2⟩
theorem b_clook {r wh : Int} (hR : cX w0 L Z S V w) (b_r : -2147483648 ≤ r ∧ r < 2147483648) (b_wh : -2147483648 ≤ wh ∧ wh < 2147483648) (h : ¬ ((0 ≤ r ∧ r ≤ 15) ∧ (0 ≤ wh ∧ wh ≤ 3))) : ∃ w1, xRun (d + 8) 124 [Value.ref 7, Value.int (Int32.ofInt r), Value.int (Int32.ofInt wh)] w (.inr w1.length) (w1 ++ [.inr (14, [])]) ∧ w1 = w := by
  have key : ∀ lv, xld lv 0 = some (Value.ref 7) → xld lv 1 = some (Value.int (Int32.ofInt r)) → xld lv 2 = some (Value.int (Int32.ofInt wh)) → xEv (d + 8) 124 0 lv [] w (fun o w' => ∃ w1, o = .inr w1.length ∧ w' = w1 ++ [.inr (14, [])] ∧ w1 = w) := by
    intro lv l0 l1 l2
    refine i_124_0 (x := Int32.ofInt r) l1 ?_
    have hrun := x_noReg (d := d + 7) (w := w) (r := r) b_r
    refine i_124_1 (Nat.le_of_ble_eq_true rfl) hrun ?_
    refine i_124_4 (zb_t fun c0 => ?_) (zb_f fun c0 => ?_)
    · refine i_124_16 (by omega) (Nat.le_of_ble_eq_true rfl) ?_
      exact ⟨w, rfl, rfl, rfl⟩
    · refine i_124_7 (x := Int32.ofInt wh) l2 ?_
      refine i_124_8 (z_lt (a := wh) ⟨by omega, by omega⟩ fun c1 => ?_) (z_ge (a := wh) ⟨by omega, by omega⟩ fun c1 => ?_)
      · refine i_124_16 (by omega) (Nat.le_of_ble_eq_true rfl) ?_
        exact ⟨w, rfl, rfl, rfl⟩
      · refine i_124_11 (x := Int32.ofInt wh) l2 ?_
        refine i_124_12 ?_
        refine i_124_13 (b_le (a := wh) (b := 3) ⟨by omega, by omega⟩ ⟨by decide, by decide⟩ fun c2 => ?_) (b_lt (a := 3) (b := wh) ⟨by decide, by decide⟩ ⟨by omega, by omega⟩ fun c2 => ?_)
        · exfalso
          clear hR
          (try simp only [Bool.or_eq_false_iff, decide_eq_false_iff_not, Bool.or_eq_true, decide_eq_true_eq, Bool.not_eq_true', Bool.not_eq_false'] at *)
          omega
        · refine i_124_16 (by omega) (Nat.le_of_ble_eq_true rfl) ?_
          exact ⟨w, rfl, rfl, rfl⟩
  obtain ⟨o, w', h1, w1, rfl, rfl, h2⟩ := (key (lv_args 0 [Value.ref 7, Value.int (Int32.ofInt r), Value.int (Int32.ofInt wh)]) rfl rfl rfl).run
  exact ⟨w1, h1, h2⟩
theorem b_cword {r k : Int} (hR : cX w0 L Z S V w) (b_r : -2147483648 ≤ r ∧ r < 2147483648) (b_k : -2147483648 ≤ k ∧ k < 2147483648) (h : ¬ ((0 ≤ r ∧ r ≤ 15) ∧ (0 ≤ k ∧ k ≤ 127))) : ∃ w1, xRun (d + 8) 126 [Value.ref 7, Value.int (Int32.ofInt r), Value.int (Int32.ofInt k)] w (.inr w1.length) (w1 ++ [.inr (14, [])]) ∧ w1 = w := by
  have key : ∀ lv, xld lv 0 = some (Value.ref 7) → xld lv 1 = some (Value.int (Int32.ofInt r)) → xld lv 2 = some (Value.int (Int32.ofInt k)) → xEv (d + 8) 126 0 lv [] w (fun o w' => ∃ w1, o = .inr w1.length ∧ w' = w1 ++ [.inr (14, [])] ∧ w1 = w) := by
    intro lv l0 l1 l2
    refine i_126_0 (x := Int32.ofInt r) l1 ?_
    have hrun := x_noReg (d := d + 7) (w := w) (r := r) b_r
    refine i_126_1 (Nat.le_of_ble_eq_true rfl) hrun ?_
    refine i_126_4 (zb_t fun c0 => ?_) (zb_f fun c0 => ?_)
    · refine i_126_17 (by omega) (Nat.le_of_ble_eq_true rfl) ?_
      exact ⟨w, rfl, rfl, rfl⟩
    · refine i_126_7 (x := Int32.ofInt k) l2 ?_
      refine i_126_8 (z_lt (a := k) ⟨by omega, by omega⟩ fun c1 => ?_) (z_ge (a := k) ⟨by omega, by omega⟩ fun c1 => ?_)
      · refine i_126_17 (by omega) (Nat.le_of_ble_eq_true rfl) ?_
        exact ⟨w, rfl, rfl, rfl⟩
      · refine i_126_11 (x := Int32.ofInt k) l2 ?_
        refine i_126_12 ?_
        refine i_126_14 (b_le (a := k) (b := 127) ⟨by omega, by omega⟩ ⟨by decide, by decide⟩ fun c2 => ?_) (b_lt (a := 127) (b := k) ⟨by decide, by decide⟩ ⟨by omega, by omega⟩ fun c2 => ?_)
        · exfalso
          clear hR
          (try simp only [Bool.or_eq_false_iff, decide_eq_false_iff_not, Bool.or_eq_true, decide_eq_true_eq, Bool.not_eq_true', Bool.not_eq_false'] at *)
          omega
        · refine i_126_17 (by omega) (Nat.le_of_ble_eq_true rfl) ?_
          exact ⟨w, rfl, rfl, rfl⟩
  obtain ⟨o, w', h1, w1, rfl, rfl, h2⟩ := (key (lv_args 0 [Value.ref 7, Value.int (Int32.ofInt r), Value.int (Int32.ofInt k)]) rfl rfl rfl).run
  exact ⟨w1, h1, h2⟩
theorem b_cfrd {r B mode : Int} (hR : cX w0 L Z S V w) (b_r : -2147483648 ≤ r ∧ r < 2147483648) (b_mode : -2147483648 ≤ mode ∧ mode < 2147483648) (h : ¬ ((0 ≤ r ∧ r ≤ 15) ∧ (0 ≤ mode ∧ mode ≤ 4))) : ∃ w1, xRun (d + 8) 128 [Value.ref 7, Value.int (Int32.ofInt r), Value.long (Int64.ofInt B), Value.int (Int32.ofInt mode)] w (.inr w1.length) (w1 ++ [.inr (14, [])]) ∧ w1 = w := by
  have key : ∀ lv, xld lv 0 = some (Value.ref 7) → xld lv 1 = some (Value.int (Int32.ofInt r)) → xld lv 2 = some (Value.long (Int64.ofInt B)) → xld lv 4 = some (Value.int (Int32.ofInt mode)) → xEv (d + 8) 128 0 lv [] w (fun o w' => ∃ w1, o = .inr w1.length ∧ w' = w1 ++ [.inr (14, [])] ∧ w1 = w) := by
    intro lv l0 l1 l2 l4
    refine i_128_0 (x := Int32.ofInt r) l1 ?_
    have hrun := x_noReg (d := d + 7) (w := w) (r := r) b_r
    refine i_128_1 (Nat.le_of_ble_eq_true rfl) hrun ?_
    refine i_128_4 (zb_t fun c0 => ?_) (zb_f fun c0 => ?_)
    · refine i_128_15 (by omega) (Nat.le_of_ble_eq_true rfl) ?_
      exact ⟨w, rfl, rfl, rfl⟩
    · refine i_128_7 (x := Int32.ofInt mode) l4 ?_
      have hrun := x_noMode (d := d + 7) (w := w) (m := mode) b_mode
      refine i_128_9 (Nat.le_of_ble_eq_true rfl) hrun ?_
      refine i_128_12 (zb_f fun c1 => ?_) (zb_t fun c1 => ?_)
      · exfalso
        clear hR
        (try simp only [Bool.or_eq_false_iff, decide_eq_false_iff_not, Bool.or_eq_true, decide_eq_true_eq, Bool.not_eq_true', Bool.not_eq_false'] at *)
        omega
      · refine i_128_15 (by omega) (Nat.le_of_ble_eq_true rfl) ?_
        exact ⟨w, rfl, rfl, rfl⟩
  obtain ⟨o, w', h1, w1, rfl, rfl, h2⟩ := (key (lv_args 0 [Value.ref 7, Value.int (Int32.ofInt r), Value.long (Int64.ofInt B), Value.int (Int32.ofInt mode)]) rfl rfl rfl rfl).run
  exact ⟨w1, h1, h2⟩
theorem b_ctod {r mode : Int} (hR : cX w0 L Z S V w) (b_r : -2147483648 ≤ r ∧ r < 2147483648) (b_mode : -2147483648 ≤ mode ∧ mode < 2147483648) (h : ¬ ((0 ≤ r ∧ r ≤ 15) ∧ (0 ≤ mode ∧ mode ≤ 4))) : ∃ w1, xRun (d + 8) 130 [Value.ref 7, Value.int (Int32.ofInt r), Value.int (Int32.ofInt mode)] w (.inr w1.length) (w1 ++ [.inr (14, [])]) ∧ w1 = w := by
  have key : ∀ lv, xld lv 0 = some (Value.ref 7) → xld lv 1 = some (Value.int (Int32.ofInt r)) → xld lv 2 = some (Value.int (Int32.ofInt mode)) → xEv (d + 8) 130 0 lv [] w (fun o w' => ∃ w1, o = .inr w1.length ∧ w' = w1 ++ [.inr (14, [])] ∧ w1 = w) := by
    intro lv l0 l1 l2
    refine i_130_0 (x := Int32.ofInt r) l1 ?_
    have hrun := x_noReg (d := d + 7) (w := w) (r := r) b_r
    refine i_130_1 (Nat.le_of_ble_eq_true rfl) hrun ?_
    refine i_130_4 (zb_t fun c0 => ?_) (zb_f fun c0 => ?_)
    · refine i_130_14 (by omega) (Nat.le_of_ble_eq_true rfl) ?_
      exact ⟨w, rfl, rfl, rfl⟩
    · refine i_130_7 (x := Int32.ofInt mode) l2 ?_
      have hrun := x_noMode (d := d + 7) (w := w) (m := mode) b_mode
      refine i_130_8 (Nat.le_of_ble_eq_true rfl) hrun ?_
      refine i_130_11 (zb_f fun c1 => ?_) (zb_t fun c1 => ?_)
      · exfalso
        clear hR
        (try simp only [Bool.or_eq_false_iff, decide_eq_false_iff_not, Bool.or_eq_true, decide_eq_true_eq, Bool.not_eq_true', Bool.not_eq_false'] at *)
        omega
      · refine i_130_14 (by omega) (Nat.le_of_ble_eq_true rfl) ?_
        exact ⟨w, rfl, rfl, rfl⟩
  obtain ⟨o, w', h1, w1, rfl, rfl, h2⟩ := (key (lv_args 0 [Value.ref 7, Value.int (Int32.ofInt r), Value.int (Int32.ofInt mode)]) rfl rfl rfl).run
  exact ⟨w1, h1, h2⟩
theorem b_ctol {r mode : Int} (hR : cX w0 L Z S V w) (b_r : -2147483648 ≤ r ∧ r < 2147483648) (b_mode : -2147483648 ≤ mode ∧ mode < 2147483648) (h : ¬ ((0 ≤ r ∧ r ≤ 15) ∧ (0 ≤ mode ∧ mode ≤ 4))) : ∃ w1, xRun (d + 8) 133 [Value.ref 7, Value.int (Int32.ofInt r), Value.int (Int32.ofInt mode)] w (.inr w1.length) (w1 ++ [.inr (14, [])]) ∧ w1 = w := by
  have key : ∀ lv, xld lv 0 = some (Value.ref 7) → xld lv 1 = some (Value.int (Int32.ofInt r)) → xld lv 2 = some (Value.int (Int32.ofInt mode)) → xEv (d + 8) 133 0 lv [] w (fun o w' => ∃ w1, o = .inr w1.length ∧ w' = w1 ++ [.inr (14, [])] ∧ w1 = w) := by
    intro lv l0 l1 l2
    refine i_133_0 (x := Int32.ofInt r) l1 ?_
    have hrun := x_noReg (d := d + 7) (w := w) (r := r) b_r
    refine i_133_1 (Nat.le_of_ble_eq_true rfl) hrun ?_
    refine i_133_4 (zb_t fun c0 => ?_) (zb_f fun c0 => ?_)
    · refine i_133_14 (by omega) (Nat.le_of_ble_eq_true rfl) ?_
      exact ⟨w, rfl, rfl, rfl⟩
    · refine i_133_7 (x := Int32.ofInt mode) l2 ?_
      have hrun := x_noMode (d := d + 7) (w := w) (m := mode) b_mode
      refine i_133_8 (Nat.le_of_ble_eq_true rfl) hrun ?_
      refine i_133_11 (zb_f fun c1 => ?_) (zb_t fun c1 => ?_)
      · exfalso
        clear hR
        (try simp only [Bool.or_eq_false_iff, decide_eq_false_iff_not, Bool.or_eq_true, decide_eq_true_eq, Bool.not_eq_true', Bool.not_eq_false'] at *)
        omega
      · refine i_133_14 (by omega) (Nat.le_of_ble_eq_true rfl) ?_
        exact ⟨w, rfl, rfl, rfl⟩
  obtain ⟨o, w', h1, w1, rfl, rfl, h2⟩ := (key (lv_args 0 [Value.ref 7, Value.int (Int32.ofInt r), Value.int (Int32.ofInt mode)]) rfl rfl rfl).run
  exact ⟨w1, h1, h2⟩
theorem b_cfeed {v1 v2 v3 v4 v5 : Int} (hR : cX w0 L Z S V w) (h7 : 0 ≤ S 7 11 ∧ S 7 11 ≤ 4096) (b_v1 : -2147483648 ≤ v1 ∧ v1 < 2147483648) (b_v2 : -2147483648 ≤ v2 ∧ v2 < 2147483648) (b_v3 : -2147483648 ≤ v3 ∧ v3 < 2147483648) (b_v4 : -2147483648 ≤ v4 ∧ v4 < 2147483648) (b_v5 : -2147483648 ≤ v5 ∧ v5 < 2147483648) (h : ¬ ((S 7 11 + 20 ≤ 4096))) : ∃ w1, xRun (d + 8) 137 [Value.ref 7, Value.int (Int32.ofInt v1), Value.int (Int32.ofInt v2), Value.int (Int32.ofInt v3), Value.int (Int32.ofInt v4), Value.int (Int32.ofInt v5)] w (.inr w1.length) (w1 ++ [.inr (17, [])]) ∧ w1 = w := by
  have key : ∀ lv, xld lv 0 = some (Value.ref 7) → xld lv 1 = some (Value.int (Int32.ofInt v1)) → xld lv 2 = some (Value.int (Int32.ofInt v2)) → xld lv 3 = some (Value.int (Int32.ofInt v3)) → xld lv 4 = some (Value.int (Int32.ofInt v4)) → xld lv 5 = some (Value.int (Int32.ofInt v5)) → xEv (d + 8) 137 0 lv [] w (fun o w' => ∃ w1, o = .inr w1.length ∧ w' = w1 ++ [.inr (17, [])] ∧ w1 = w) := by
    intro lv l0 l1 l2 l3 l4 l5
    refine i_137_0 (x := 7) l0 ?_
    refine i_137_1 (v := Value.int (Int32.ofInt (S 7 11))) (hR.k0 kq_7) rfl ?_
    refine i_137_4 ?_
    refine i_137_6 (c := Int32.ofInt ((S 7 11) + 20)) (o_add (S 7 11) 20) ?_
    refine i_137_7 ?_
    refine i_137_10 (b_le (a := (S 7 11) + 20) (b := 4096) ⟨by omega, by omega⟩ ⟨by decide, by decide⟩ fun c0 => ?_) (b_lt (a := 4096) (b := (S 7 11) + 20) ⟨by decide, by decide⟩ ⟨by omega, by omega⟩ fun c0 => ?_)
    · exfalso
      clear hR
      (try simp only [Bool.or_eq_false_iff, decide_eq_false_iff_not, Bool.or_eq_true, decide_eq_true_eq, Bool.not_eq_true', Bool.not_eq_false'] at *)
      omega
    · refine i_137_13 (by omega) (Nat.le_of_ble_eq_true rfl) ?_
      exact ⟨w, rfl, rfl, rfl⟩
  obtain ⟨o, w', h1, w1, rfl, rfl, h2⟩ := (key (lv_args 0 [Value.ref 7, Value.int (Int32.ofInt v1), Value.int (Int32.ofInt v2), Value.int (Int32.ofInt v3), Value.int (Int32.ofInt v4), Value.int (Int32.ofInt v5)]) rfl rfl rfl rfl rfl rfl).run
  exact ⟨w1, h1, h2⟩
theorem b_cend {n : Int} (hR : cX w0 L Z S V w) (h7 : 0 ≤ S 7 11 ∧ S 7 11 ≤ 4096) (b_n : -2147483648 ≤ n ∧ n < 2147483648) (h : ¬ ((0 ≤ n ∧ n ≤ S 7 11))) : ∃ w1, xRun (d + 8) 140 [Value.ref 7, Value.int (Int32.ofInt n)] w (.inr w1.length) (w1 ++ [.inr (14, [])]) ∧ w1 = w := by
  have key : ∀ lv, xld lv 0 = some (Value.ref 7) → xld lv 1 = some (Value.int (Int32.ofInt n)) → xEv (d + 8) 140 0 lv [] w (fun o w' => ∃ w1, o = .inr w1.length ∧ w' = w1 ++ [.inr (14, [])] ∧ w1 = w) := by
    intro lv l0 l1
    refine i_140_0 (x := Int32.ofInt n) l1 ?_
    refine i_140_1 (z_lt (a := n) ⟨by omega, by omega⟩ fun c0 => ?_) (z_ge (a := n) ⟨by omega, by omega⟩ fun c0 => ?_)
    · refine i_140_12 (by omega) (Nat.le_of_ble_eq_true rfl) ?_
      exact ⟨w, rfl, rfl, rfl⟩
    · refine i_140_4 (x := Int32.ofInt n) l1 ?_
      refine i_140_5 (x := 7) l0 ?_
      refine i_140_6 (v := Value.int (Int32.ofInt (S 7 11))) (hR.k0 kq_7) rfl ?_
      refine i_140_9 (b_le (a := n) (b := S 7 11) ⟨by omega, by omega⟩ ⟨by omega, by omega⟩ fun c1 => ?_) (b_lt (a := S 7 11) (b := n) ⟨by omega, by omega⟩ ⟨by omega, by omega⟩ fun c1 => ?_)
      · exfalso
        clear hR
        (try simp only [Bool.or_eq_false_iff, decide_eq_false_iff_not, Bool.or_eq_true, decide_eq_true_eq, Bool.not_eq_true', Bool.not_eq_false'] at *)
        omega
      · refine i_140_12 (by omega) (Nat.le_of_ble_eq_true rfl) ?_
        exact ⟨w, rfl, rfl, rfl⟩
  obtain ⟨o, w', h1, w1, rfl, rfl, h2⟩ := (key (lv_args 0 [Value.ref 7, Value.int (Int32.ofInt n)]) rfl rfl).run
  exact ⟨w1, h1, h2⟩
theorem b_cread {r base mode : Int} (hR : cX w0 L Z S V w) (b_r : -2147483648 ≤ r ∧ r < 2147483648) (b_base : -2147483648 ≤ base ∧ base < 2147483648) (b_mode : -2147483648 ≤ mode ∧ mode < 2147483648) (h : ¬ ((0 ≤ r ∧ r ≤ 15) ∧ (2 ≤ base ∧ base ≤ 36) ∧ (0 ≤ mode ∧ mode ≤ 4))) : ∃ w1, xRun (d + 8) 142 [Value.ref 7, Value.int (Int32.ofInt r), Value.int (Int32.ofInt base), Value.int (Int32.ofInt mode)] w (.inr w1.length) (w1 ++ [.inr (14, [])]) ∧ w1 = w := by
  have key : ∀ lv, xld lv 0 = some (Value.ref 7) → xld lv 1 = some (Value.int (Int32.ofInt r)) → xld lv 2 = some (Value.int (Int32.ofInt base)) → xld lv 3 = some (Value.int (Int32.ofInt mode)) → xEv (d + 8) 142 0 lv [] w (fun o w' => ∃ w1, o = .inr w1.length ∧ w' = w1 ++ [.inr (14, [])] ∧ w1 = w) := by
    intro lv l0 l1 l2 l3
    refine i_142_0 (x := Int32.ofInt r) l1 ?_
    have hrun := x_noReg (d := d + 7) (w := w) (r := r) b_r
    refine i_142_1 (Nat.le_of_ble_eq_true rfl) hrun ?_
    refine i_142_4 (zb_t fun c0 => ?_) (zb_f fun c0 => ?_)
    · refine i_142_25 (by omega) (Nat.le_of_ble_eq_true rfl) ?_
      exact ⟨w, rfl, rfl, rfl⟩
    · refine i_142_7 (x := Int32.ofInt base) l2 ?_
      refine i_142_8 ?_
      refine i_142_9 (b_lt (a := base) (b := 2) ⟨by omega, by omega⟩ ⟨by decide, by decide⟩ fun c1 => ?_) (b_le (a := 2) (b := base) ⟨by decide, by decide⟩ ⟨by omega, by omega⟩ fun c1 => ?_)
      · refine i_142_25 (by omega) (Nat.le_of_ble_eq_true rfl) ?_
        exact ⟨w, rfl, rfl, rfl⟩
      · refine i_142_12 (x := Int32.ofInt base) l2 ?_
        refine i_142_13 ?_
        refine i_142_15 (b_lt (a := 36) (b := base) ⟨by decide, by decide⟩ ⟨by omega, by omega⟩ fun c2 => ?_) (b_le (a := base) (b := 36) ⟨by omega, by omega⟩ ⟨by decide, by decide⟩ fun c2 => ?_)
        · refine i_142_25 (by omega) (Nat.le_of_ble_eq_true rfl) ?_
          exact ⟨w, rfl, rfl, rfl⟩
        · refine i_142_18 (x := Int32.ofInt mode) l3 ?_
          have hrun := x_noMode (d := d + 7) (w := w) (m := mode) b_mode
          refine i_142_19 (Nat.le_of_ble_eq_true rfl) hrun ?_
          refine i_142_22 (zb_f fun c3 => ?_) (zb_t fun c3 => ?_)
          · exfalso
            clear hR
            (try simp only [Bool.or_eq_false_iff, decide_eq_false_iff_not, Bool.or_eq_true, decide_eq_true_eq, Bool.not_eq_true', Bool.not_eq_false'] at *)
            omega
          · refine i_142_25 (by omega) (Nat.le_of_ble_eq_true rfl) ?_
            exact ⟨w, rfl, rfl, rfl⟩
  obtain ⟨o, w', h1, w1, rfl, rfl, h2⟩ := (key (lv_args 0 [Value.ref 7, Value.int (Int32.ofInt r), Value.int (Int32.ofInt base), Value.int (Int32.ofInt mode)]) rfl rfl rfl rfl).run
  exact ⟨w1, h1, h2⟩
theorem b_cwrite {r base n mode : Int} (hR : cX w0 L Z S V w) (b_r : -2147483648 ≤ r ∧ r < 2147483648) (b_base : -2147483648 ≤ base ∧ base < 2147483648) (b_n : -2147483648 ≤ n ∧ n < 2147483648) (b_mode : -2147483648 ≤ mode ∧ mode < 2147483648) (h : ¬ ((0 ≤ r ∧ r ≤ 15) ∧ (2 ≤ base ∧ base ≤ 36) ∧ (0 ≤ n ∧ n ≤ 2000) ∧ (0 ≤ mode ∧ mode ≤ 4))) : ∃ w1, xRun (d + 8) 151 [Value.ref 7, Value.int (Int32.ofInt r), Value.int (Int32.ofInt base), Value.int (Int32.ofInt n), Value.int (Int32.ofInt mode)] w (.inr w1.length) (w1 ++ [.inr (14, [])]) ∧ w1 = w := by
  have key : ∀ lv, xld lv 0 = some (Value.ref 7) → xld lv 1 = some (Value.int (Int32.ofInt r)) → xld lv 2 = some (Value.int (Int32.ofInt base)) → xld lv 3 = some (Value.int (Int32.ofInt n)) → xld lv 4 = some (Value.int (Int32.ofInt mode)) → xEv (d + 8) 151 0 lv [] w (fun o w' => ∃ w1, o = .inr w1.length ∧ w' = w1 ++ [.inr (14, [])] ∧ w1 = w) := by
    intro lv l0 l1 l2 l3 l4
    refine i_151_0 (x := Int32.ofInt r) l1 ?_
    have hrun := x_noReg (d := d + 7) (w := w) (r := r) b_r
    refine i_151_1 (Nat.le_of_ble_eq_true rfl) hrun ?_
    refine i_151_4 (zb_t fun c0 => ?_) (zb_f fun c0 => ?_)
    · refine i_151_37 (by omega) (Nat.le_of_ble_eq_true rfl) ?_
      exact ⟨w, rfl, rfl, rfl⟩
    · refine i_151_7 (x := Int32.ofInt base) l2 ?_
      refine i_151_8 ?_
      refine i_151_9 (b_lt (a := base) (b := 2) ⟨by omega, by omega⟩ ⟨by decide, by decide⟩ fun c1 => ?_) (b_le (a := 2) (b := base) ⟨by decide, by decide⟩ ⟨by omega, by omega⟩ fun c1 => ?_)
      · refine i_151_37 (by omega) (Nat.le_of_ble_eq_true rfl) ?_
        exact ⟨w, rfl, rfl, rfl⟩
      · refine i_151_12 (x := Int32.ofInt base) l2 ?_
        refine i_151_13 ?_
        refine i_151_15 (b_lt (a := 36) (b := base) ⟨by decide, by decide⟩ ⟨by omega, by omega⟩ fun c2 => ?_) (b_le (a := base) (b := 36) ⟨by omega, by omega⟩ ⟨by decide, by decide⟩ fun c2 => ?_)
        · refine i_151_37 (by omega) (Nat.le_of_ble_eq_true rfl) ?_
          exact ⟨w, rfl, rfl, rfl⟩
        · refine i_151_18 (x := Int32.ofInt n) l3 ?_
          refine i_151_19 (z_lt (a := n) ⟨by omega, by omega⟩ fun c3 => ?_) (z_ge (a := n) ⟨by omega, by omega⟩ fun c3 => ?_)
          · refine i_151_37 (by omega) (Nat.le_of_ble_eq_true rfl) ?_
            exact ⟨w, rfl, rfl, rfl⟩
          · refine i_151_22 (x := Int32.ofInt n) l3 ?_
            refine i_151_23 ?_
            refine i_151_26 (b_lt (a := 2000) (b := n) ⟨by decide, by decide⟩ ⟨by omega, by omega⟩ fun c4 => ?_) (b_le (a := n) (b := 2000) ⟨by omega, by omega⟩ ⟨by decide, by decide⟩ fun c4 => ?_)
            · refine i_151_37 (by omega) (Nat.le_of_ble_eq_true rfl) ?_
              exact ⟨w, rfl, rfl, rfl⟩
            · refine i_151_29 (x := Int32.ofInt mode) l4 ?_
              have hrun := x_noMode (d := d + 7) (w := w) (m := mode) b_mode
              refine i_151_31 (Nat.le_of_ble_eq_true rfl) hrun ?_
              refine i_151_34 (zb_f fun c5 => ?_) (zb_t fun c5 => ?_)
              · exfalso
                clear hR
                (try simp only [Bool.or_eq_false_iff, decide_eq_false_iff_not, Bool.or_eq_true, decide_eq_true_eq, Bool.not_eq_true', Bool.not_eq_false'] at *)
                omega
              · refine i_151_37 (by omega) (Nat.le_of_ble_eq_true rfl) ?_
                exact ⟨w, rfl, rfl, rfl⟩
  obtain ⟨o, w', h1, w1, rfl, rfl, h2⟩ := (key (lv_args 0 [Value.ref 7, Value.int (Int32.ofInt r), Value.int (Int32.ofInt base), Value.int (Int32.ofInt n), Value.int (Int32.ofInt mode)]) rfl rfl rfl rfl rfl).run
  exact ⟨w1, h1, h2⟩
theorem b_coct {k : Int} (hR : cX w0 L Z S V w) (h7 : 0 ≤ S 113 3 ∧ S 113 3 ≤ 4112) (b_k : -2147483648 ≤ k ∧ k < 2147483648) (h : ¬ ((-1 ≤ k ∧ k < S 113 3))) : ∃ w1, xRun (d + 8) 162 [Value.ref 7, Value.int (Int32.ofInt k)] w (.inr w1.length) (w1 ++ [.inr (16, [])]) ∧ w1 = w := by
  have key : ∀ lv, xld lv 0 = some (Value.ref 7) → xld lv 1 = some (Value.int (Int32.ofInt k)) → xEv (d + 8) 162 0 lv [] w (fun o w' => ∃ w1, o = .inr w1.length ∧ w' = w1 ++ [.inr (16, [])] ∧ w1 = w) := by
    intro lv l0 l1
    refine i_162_0 (x := Int32.ofInt k) l1 ?_
    refine i_162_1 ?_
    refine i_162_2 (b_lt (a := k) (b := (-1)) ⟨by omega, by omega⟩ ⟨by decide, by decide⟩ fun c0 => ?_) (b_le (a := (-1)) (b := k) ⟨by decide, by decide⟩ ⟨by omega, by omega⟩ fun c0 => ?_)
    · refine i_162_16 (by omega) (Nat.le_of_ble_eq_true rfl) ?_
      exact ⟨w, rfl, rfl, rfl⟩
    · refine i_162_5 (x := Int32.ofInt k) l1 ?_
      refine i_162_6 (x := 7) l0 ?_
      refine i_162_7 (v := Value.ref 113) (hR.k0 kq_7) rfl ?_
      refine i_162_10 (v := Value.int (Int32.ofInt (S 113 3))) (hR.k11 kq_113) rfl ?_
      refine i_162_13 (b_lt (a := k) (b := S 113 3) ⟨by omega, by omega⟩ ⟨by omega, by omega⟩ fun c1 => ?_) (b_le (a := S 113 3) (b := k) ⟨by omega, by omega⟩ ⟨by omega, by omega⟩ fun c1 => ?_)
      · exfalso
        clear hR
        (try simp only [Bool.or_eq_false_iff, decide_eq_false_iff_not, Bool.or_eq_true, decide_eq_true_eq, Bool.not_eq_true', Bool.not_eq_false'] at *)
        omega
      · refine i_162_16 (by omega) (Nat.le_of_ble_eq_true rfl) ?_
        exact ⟨w, rfl, rfl, rfl⟩
  obtain ⟨o, w', h1, w1, rfl, rfl, h2⟩ := (key (lv_args 0 [Value.ref 7, Value.int (Int32.ofInt k)]) rfl rfl).run
  exact ⟨w1, h1, h2⟩
end
