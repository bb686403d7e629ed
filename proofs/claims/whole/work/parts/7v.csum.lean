/-! sum, dot of the class -/
def tkS (S : Nat → Nat → Int) (V : Nat → Nat) (f : Int) : Nat → AT
  | 0 => tk0
  | k + 1 => tk (tkS S V f k) (S (30 + 3 * (f + (k : Int)).toNat) 1) (xorI (S (30 + 3 * (f + (k : Int)).toNat) 2) 0) (V (30 + 3 * (f + (k : Int)).toNat + 1)) (S (30 + 3 * (f + (k : Int)).toNat) 3 - S (30 + 3 * (f + (k : Int)).toNat) 0)
def tkD (S : Nat → Nat → Int) (V : Nat → Nat) (f g : Int) : Nat → AT
  | 0 => tk0
  | k + 1 => tkp (tkD S V f g k) (S (30 + 3 * (f + (k : Int)).toNat) 1) (S (30 + 3 * (f + (k : Int)).toNat) 2) (V (30 + 3 * (f + (k : Int)).toNat + 1)) (S (30 + 3 * (f + (k : Int)).toNat) 3 - S (30 + 3 * (f + (k : Int)).toNat) 0) (S (30 + 3 * (g + (k : Int)).toNat) 1) (S (30 + 3 * (g + (k : Int)).toNat) 2) (V (30 + 3 * (g + (k : Int)).toNat + 1)) (S (30 + 3 * (g + (k : Int)).toNat) 3 - S (30 + 3 * (g + (k : Int)).toNat) 0)
theorem okT_S {S : Nat → Nat → Int} {V : Nat → Nat} {f : Int} (hI : cI S V) (hf : 0 ≤ f) : ∀ k : Nat, f + (k : Int) ≤ 16 → okT (k : Int) (tkS S V f k) := by
  intro k
  induction k with
  | zero => intro _; exact okT_0
  | succ k ih =>
    intro h
    obtain ⟨h1, h2, h3, h4, h5, h6⟩ := hI.1 (f + (k : Int)).toNat (by omega)
    have := okT_tk (n := (k : Int)) (k := S (30 + 3 * (f + (k : Int)).toNat) 1) (sg := xorI (S (30 + 3 * (f + (k : Int)).toNat) 2) 0) (m := V (30 + 3 * (f + (k : Int)).toNat + 1)) (sc := S (30 + 3 * (f + (k : Int)).toNat) 3 - S (30 + 3 * (f + (k : Int)).toNat) 0) (by omega) (ih (by omega)) (fun _ => by omega)
    rw [show ((k + 1 : Nat) : Int) = (k : Int) + 1 by omega]
    exact this
theorem okT_D {S : Nat → Nat → Int} {V : Nat → Nat} {f g : Int} (hI : cI S V) (hf : 0 ≤ f) (hg : 0 ≤ g) : ∀ k : Nat, f + (k : Int) ≤ 16 → g + (k : Int) ≤ 16 → okT (k : Int) (tkD S V f g k) := by
  intro k
  induction k with
  | zero => intro _ _; exact okT_0
  | succ k ih =>
    intro h h'
    obtain ⟨h1, h2, h3, h4, h5, h6⟩ := hI.1 (f + (k : Int)).toNat (by omega)
    obtain ⟨g1, g2, g3, g4, g5, g6⟩ := hI.1 (g + (k : Int)).toNat (by omega)
    have := okT_tkp (n := (k : Int)) (ka := S (30 + 3 * (f + (k : Int)).toNat) 1) (sa := S (30 + 3 * (f + (k : Int)).toNat) 2) (ma := V (30 + 3 * (f + (k : Int)).toNat + 1)) (ea := S (30 + 3 * (f + (k : Int)).toNat) 3 - S (30 + 3 * (f + (k : Int)).toNat) 0) (kb := S (30 + 3 * (g + (k : Int)).toNat) 1) (sb := S (30 + 3 * (g + (k : Int)).toNat) 2) (mb := V (30 + 3 * (g + (k : Int)).toNat + 1)) (eb := S (30 + 3 * (g + (k : Int)).toNat) 3 - S (30 + 3 * (g + (k : Int)).toNat) 0) (by omega) (ih (by omega) (by omega)) (by omega) (by omega)
    rw [show ((k + 1 : Nat) : Int) = (k : Int) + 1 by omega]
    exact this
section
variable {w0 w : xW} {L Z : Nat} {S : Nat → Nat → Int} {V : Nat → Nat} {d h t r : Nat}
theorem x_noRow {f n : Int} (hf : 0 ≤ f) (hn : 1 ≤ n ∧ n ≤ 16) (hfn : f + n ≤ 16) : xRun (d + 1) 113 [Value.int (Int32.ofInt f), Value.int (Int32.ofInt n)] w (.inl (some (.int 0))) w := by
  have key : ∀ lv, xld lv 0 = some (Value.int (Int32.ofInt f)) → xld lv 1 = some (Value.int (Int32.ofInt n)) → xEv (d + 1) 113 0 lv [] w (fun o w' => o = .inl (some (.int 0)) ∧ w' = w) := by
    intro lv l0 l1
    refine i_113_0 (x := Int32.ofInt f) l0 ?_
    have hrun := x_noReg (d := d) (w := w) (r := f) ⟨by omega, by omega⟩
    rw [show (decide (f < 0) || decide (16 ≤ f)) = false from by simp; omega] at hrun
    refine i_113_1 (Nat.le_of_ble_eq_true rfl) hrun ?_
    refine i_113_4 (fun c => absurd c (by decide)) (fun _ => ?_)
    refine i_113_7 (x := Int32.ofInt n) l1 ?_
    refine i_113_8 ?_
    refine i_113_9 (b_lt (a := n) (b := 1) ⟨by omega, by omega⟩ ⟨by decide, by decide⟩ fun c0 => ?_) (b_le (a := 1) (b := n) ⟨by decide, by decide⟩ ⟨by omega, by omega⟩ fun c0 => ?_)
    · refine i_113_26 ?_
      refine i_113_27 ?_
      refine i_113_31 rfl ?_
      exfalso; omega
    · refine i_113_12 (x := Int32.ofInt n) l1 ?_
      refine i_113_13 ?_
      refine i_113_15 (b_lt (a := 16) (b := n) ⟨by decide, by decide⟩ ⟨by omega, by omega⟩ fun c1 => ?_) (b_le (a := n) (b := 16) ⟨by omega, by omega⟩ ⟨by decide, by decide⟩ fun c1 => ?_)
      · refine i_113_26 ?_
        refine i_113_27 ?_
        refine i_113_31 rfl ?_
        exfalso; omega
      · refine i_113_18 (x := Int32.ofInt f) l0 ?_
        refine i_113_19 (x := Int32.ofInt n) l1 ?_
        refine i_113_20 (c := Int32.ofInt (f + n)) (o_add f n) ?_
        refine i_113_21 ?_
        refine i_113_23 (b_le (a := f + n) (b := 16) ⟨by omega, by omega⟩ ⟨by decide, by decide⟩ fun c2 => ?_) (b_lt (a := 16) (b := f + n) ⟨by decide, by decide⟩ ⟨by omega, by omega⟩ fun c2 => ?_)
        · refine i_113_30 ?_
          refine i_113_31 rfl ?_
          exact ⟨rfl, rfl⟩
        · refine i_113_26 ?_
          refine i_113_27 ?_
          refine i_113_31 rfl ?_
          exfalso; omega
  obtain ⟨o, w', h1, rfl, rfl⟩ := (key (lv_args 0 [Value.int (Int32.ofInt f), Value.int (Int32.ofInt n)]) rfl rfl).run
  exact h1
set_option maxHeartbeats 4000000 in
theorem x_sum {r f n mode : Int} (hR : cX w0 L Z S V w) (hI : cI S V) (hr : 0 ≤ r ∧ r ≤ 15) (hf : 0 ≤ f) (hn : 1 ≤ n ∧ n ≤ 16) (hfn : f + n ≤ 16) (hmo : 0 ≤ mode ∧ mode ≤ 4) : ∃ w', xRun (d + 12) 112 [Value.ref 7, Value.int (Int32.ofInt r), Value.int (Int32.ofInt f), Value.int (Int32.ofInt n), Value.int (Int32.ofInt mode)] w (.inl (some (.int (Int32.ofInt (sFinT (S (30 + 3 * r.toNat) 0) (S 78 0) (S 78 1) (S 78 2) (S 78 3) mode (tkS S V f (n.toNat))).2.2.2.2.1)))) w' ∧ ∃ S' V', cX w0 L Z S' V' w' ∧ cOut S S' V V' (30 + 3 * r.toNat) (sFinT (S (30 + 3 * r.toNat) 0) (S 78 0) (S 78 1) (S 78 2) (S 78 3) mode (tkS S V f (n.toNat))) := by
  have key : ∀ lv, xld lv 0 = some (Value.ref 7) → xld lv 1 = some (Value.int (Int32.ofInt r)) → xld lv 2 = some (Value.int (Int32.ofInt f)) → xld lv 3 = some (Value.int (Int32.ofInt n)) → xld lv 4 = some (Value.int (Int32.ofInt mode)) → xEv (d + 12) 112 0 lv [] w (fun o w' => o = .inl (some (.int (Int32.ofInt (sFinT (S (30 + 3 * r.toNat) 0) (S 78 0) (S 78 1) (S 78 2) (S 78 3) mode (tkS S V f (n.toNat))).2.2.2.2.1))) ∧ ∃ S' V', cX w0 L Z S' V' w' ∧ cOut S S' V V' (30 + 3 * r.toNat) (sFinT (S (30 + 3 * r.toNat) 0) (S 78 0) (S 78 1) (S 78 2) (S 78 3) mode (tkS S V f (n.toNat)))) := by
    intro lv l0 l1 l2 l3 l4
    obtain ⟨hp_r, hk_r, hn_r, ht_r, hx_r, hz_r⟩ := hI.1 r.toNat (by omega)
    have hi_l := hI.2.1
    have hi_g := hI.2.2.1
    have loop : ∀ (j k : Nat), k + j = n.toNat → ∀ lv w S1 V1, cX w0 L Z S1 V1 w → aT S V S1 V1 (tkS S V f k) → xld lv 0 = some (Value.ref 7) → xld lv 1 = some (Value.int (Int32.ofInt r)) → xld lv 2 = some (Value.int (Int32.ofInt f)) → xld lv 3 = some (Value.int (Int32.ofInt n)) → xld lv 4 = some (Value.int (Int32.ofInt mode)) → xld lv 5 = some (Value.int (Int32.ofInt (f + (k : Int)))) → xEv (d + 12) 112 41 lv [] w (fun o w' => o = .inl (some (.int (Int32.ofInt (sFinT (S (30 + 3 * r.toNat) 0) (S 78 0) (S 78 1) (S 78 2) (S 78 3) mode (tkS S V f (n.toNat))).2.2.2.2.1))) ∧ ∃ S' V', cX w0 L Z S' V' w' ∧ cOut S S' V V' (30 + 3 * r.toNat) (sFinT (S (30 + 3 * r.toNat) 0) (S 78 0) (S 78 1) (S 78 2) (S 78 3) mode (tkS S V f (n.toNat)))) := by
      intro j
      induction j with
      | zero =>
        intro k hk lv w S1 V1 hR hA l0 l1 l2 l3 l4 l5
        have e : k = n.toNat := by omega
        subst e
        rw [show ((n.toNat : Nat) : Int) = n by omega] at l5
        refine i_112_41 (x := Int32.ofInt (f + n)) l5 ?_
        refine i_112_43 (x := Int32.ofInt f) l2 ?_
        refine i_112_44 (x := Int32.ofInt n) l3 ?_
        refine i_112_45 (c := Int32.ofInt (f + n)) (o_add f n) ?_
        refine i_112_46 (b_le (a := f + n) (b := f + n) ⟨by omega, by omega⟩ ⟨by omega, by omega⟩ fun c60 => ?_) (b_lt (a := f + n) (b := f + n) ⟨by omega, by omega⟩ ⟨by omega, by omega⟩ fun c60 => absurd c60 (by omega))
        refine i_112_70 (x := 7) l0 ?_
        refine i_112_71 (v := Value.ref 19) (hR.k0 kq_7) rfl ?_
        refine i_112_74 (x := 7) l0 ?_
        refine i_112_75 (v := Value.ref 78) (hR.k0 kq_7) rfl ?_
        refine i_112_78 (x := 7) l0 ?_
        refine i_112_79 (v := Value.ref 8) (hR.k0 kq_7) rfl ?_
        refine i_112_82 (x := Int32.ofInt r) l1 ?_
        obtain ⟨gr, hgr, hge⟩ := hR.regs
        refine i_112_83 (v := Value.ref (30 + 3 * r.toNat)) hgr (ix0 (T := r) (by omega) (by omega)) (ix1 (T := r) (by omega) (by omega) (by omega)) (by rw [ixn (T := r) (by omega) (by omega)]; exact hge _ (by omega)) ?_
        refine i_112_84 (x := Int32.ofInt mode) l4 ?_
        have hobj := hR.k5 kq_19
        obtain ⟨w, hrun, S3, V3, hR, hP⟩ := aT_fin (d := d + 1) (r := r) (mode := mode) hR hA hI (okT_S hI hf n.toNat (by omega)) (by omega) ⟨by omega, by omega⟩ ⟨by omega, by omega⟩
        refine i_112_86 hobj (Nat.le_of_ble_eq_true rfl) hrun ?_
        refine i_112_89 ?_
        exact ⟨rfl, _, _, hR, hP⟩
      | succ j ih =>
        intro k hk lv w S1 V1 hR hA l0 l1 l2 l3 l4 l5
        refine i_112_41 (x := Int32.ofInt (f + (k : Int))) l5 ?_
        refine i_112_43 (x := Int32.ofInt f) l2 ?_
        refine i_112_44 (x := Int32.ofInt n) l3 ?_
        refine i_112_45 (c := Int32.ofInt (f + n)) (o_add f n) ?_
        refine i_112_46 (b_le (a := f + n) (b := f + (k : Int)) ⟨by omega, by omega⟩ ⟨by omega, by omega⟩ fun c30 => absurd c30 (by omega)) (b_lt (a := f + (k : Int)) (b := f + n) ⟨by omega, by omega⟩ ⟨by omega, by omega⟩ fun c30 => ?_)
        refine i_112_49 (x := 7) l0 ?_
        refine i_112_50 (v := Value.ref 19) (hR.k0 kq_7) rfl ?_
        refine i_112_53 (x := 7) l0 ?_
        refine i_112_54 (v := Value.ref 8) (hR.k0 kq_7) rfl ?_
        refine i_112_57 (x := Int32.ofInt (f + (k : Int))) l5 ?_
        obtain ⟨gr, hgr, hge⟩ := hR.regs
        refine i_112_59 (v := Value.ref (30 + 3 * (f + (k : Int)).toNat)) hgr (ix0 (T := f + (k : Int)) (by omega) (by omega)) (ix1 (T := f + (k : Int)) (by omega) (by omega) (by omega)) (by rw [ixn (T := f + (k : Int)) (by omega) (by omega)]; exact hge _ (by omega)) ?_
        refine i_112_60 ?_
        have hobj := hR.k5 kq_19
        obtain ⟨w, hrun, S2, V2, hR, hA⟩ := aT_take (d := d + 4) (a := (f + (k : Int))) (ng := 0) hR hA hI (okT_S hI hf k (by omega)) (by omega) ⟨by omega, by omega⟩ (Or.inl rfl)
        refine i_112_61 hobj (Nat.le_of_ble_eq_true rfl) hrun ?_
        refine i_112_64 (x := (Int32.ofInt (f + (k : Int)))) (c := (Int32.ofInt (f + (k : Int) + 1))) l5 (o_add (f + (k : Int)) 1) rfl ?_
        refine lgen1 (i := 5) (v := Value.int (Int32.ofInt (f + (k : Int) + 1))) (fun lv lg ls => ?_)
        replace l0 := lg 0 _ rfl rfl l0
        replace l1 := lg 1 _ rfl rfl l1
        replace l2 := lg 2 _ rfl rfl l2
        replace l3 := lg 3 _ rfl rfl l3
        replace l4 := lg 4 _ rfl rfl l4
        have l5 := ls
        refine i_112_67 ?_
        rw [show f + (k : Int) + 1 = f + ((k + 1 : Nat) : Int) by omega] at l5
        exact ih (k + 1) (by omega) lv w S2 V2 hR hA l0 l1 l2 l3 l4 l5
    refine i_112_0 (x := Int32.ofInt r) l1 ?_
    have hrun := x_noReg (d := d + 11) (w := w) (r := r) ⟨by omega, by omega⟩
    rw [show (decide (r < 0) || decide (16 ≤ r)) = false from by simp; omega] at hrun
    refine i_112_1 (Nat.le_of_ble_eq_true rfl) hrun ?_
    refine i_112_4 (fun c => absurd c (by decide)) (fun _ => ?_)
    refine i_112_7 (x := Int32.ofInt f) l2 ?_
    refine i_112_8 (x := Int32.ofInt n) l3 ?_
    have hrun := x_noRow (d := d + 10) (w := w) (f := f) (n := n) (by omega) ⟨by omega, by omega⟩ (by omega)
    refine i_112_9 (Nat.le_of_ble_eq_true rfl) hrun ?_
    refine i_112_12 (fun c => absurd c (by decide)) (fun _ => ?_)
    refine i_112_15 (x := Int32.ofInt mode) l4 ?_
    have hrun := x_noMode (d := d + 11) (w := w) (m := mode) ⟨by omega, by omega⟩
    rw [show (decide (mode < 0) || decide (4 < mode)) = false from by simp; omega] at hrun
    refine i_112_17 (Nat.le_of_ble_eq_true rfl) hrun ?_
    refine i_112_20 (fun _ => ?_) (fun c => absurd c (by decide))
    refine i_112_31 (x := 7) l0 ?_
    refine i_112_32 (v := Value.ref 19) (hR.k0 kq_7) rfl ?_
    have hobj := hR.k5 kq_19
    obtain ⟨w, hrun, S1, V1, hR, hA⟩ := aT_begin (d := d + 11) hR
    refine i_112_35 hobj (Nat.le_of_ble_eq_true rfl) hrun ?_
    refine i_112_38 (x := Int32.ofInt f) l2 ?_
    refine i_112_39 rfl ?_
    refine lgen1 (i := 5) (v := Value.int (Int32.ofInt f)) (fun lv lg ls => ?_)
    replace l0 := lg 0 _ rfl rfl l0
    replace l1 := lg 1 _ rfl rfl l1
    replace l2 := lg 2 _ rfl rfl l2
    replace l3 := lg 3 _ rfl rfl l3
    replace l4 := lg 4 _ rfl rfl l4
    have l5 := ls
    exact loop n.toNat 0 (by omega) lv w S1 V1 hR hA l0 l1 l2 l3 l4 (by rw [show f + ((0 : Nat) : Int) = f by omega]; exact l5)
  obtain ⟨o, w', h1, rfl, h2⟩ := (key (lv_args 0 [Value.ref 7, Value.int (Int32.ofInt r), Value.int (Int32.ofInt f), Value.int (Int32.ofInt n), Value.int (Int32.ofInt mode)]) rfl rfl rfl rfl rfl).run
  exact ⟨w', h1, h2⟩
set_option maxHeartbeats 4000000 in
theorem x_dot {r f g n mode : Int} (hR : cX w0 L Z S V w) (hI : cI S V) (hr : 0 ≤ r ∧ r ≤ 15) (hf : 0 ≤ f) (hg : 0 ≤ g) (hn : 1 ≤ n ∧ n ≤ 16) (hfn : f + n ≤ 16) (hgn : g + n ≤ 16) (hmo : 0 ≤ mode ∧ mode ≤ 4) : ∃ w', xRun (d + 12) 115 [Value.ref 7, Value.int (Int32.ofInt r), Value.int (Int32.ofInt f), Value.int (Int32.ofInt g), Value.int (Int32.ofInt n), Value.int (Int32.ofInt mode)] w (.inl (some (.int (Int32.ofInt (sFinT (S (30 + 3 * r.toNat) 0) (S 78 0) (S 78 1) (S 78 2) (S 78 3) mode (tkD S V f g (n.toNat))).2.2.2.2.1)))) w' ∧ ∃ S' V', cX w0 L Z S' V' w' ∧ cOut S S' V V' (30 + 3 * r.toNat) (sFinT (S (30 + 3 * r.toNat) 0) (S 78 0) (S 78 1) (S 78 2) (S 78 3) mode (tkD S V f g (n.toNat))) := by
  have key : ∀ lv, xld lv 0 = some (Value.ref 7) → xld lv 1 = some (Value.int (Int32.ofInt r)) → xld lv 2 = some (Value.int (Int32.ofInt f)) → xld lv 3 = some (Value.int (Int32.ofInt g)) → xld lv 4 = some (Value.int (Int32.ofInt n)) → xld lv 5 = some (Value.int (Int32.ofInt mode)) → xEv (d + 12) 115 0 lv [] w (fun o w' => o = .inl (some (.int (Int32.ofInt (sFinT (S (30 + 3 * r.toNat) 0) (S 78 0) (S 78 1) (S 78 2) (S 78 3) mode (tkD S V f g (n.toNat))).2.2.2.2.1))) ∧ ∃ S' V', cX w0 L Z S' V' w' ∧ cOut S S' V V' (30 + 3 * r.toNat) (sFinT (S (30 + 3 * r.toNat) 0) (S 78 0) (S 78 1) (S 78 2) (S 78 3) mode (tkD S V f g (n.toNat)))) := by
    intro lv l0 l1 l2 l3 l4 l5
    obtain ⟨hp_r, hk_r, hn_r, ht_r, hx_r, hz_r⟩ := hI.1 r.toNat (by omega)
    have hi_l := hI.2.1
    have hi_g := hI.2.2.1
    have loop : ∀ (j k : Nat), k + j = n.toNat → ∀ lv w S1 V1, cX w0 L Z S1 V1 w → aT S V S1 V1 (tkD S V f g k) → xld lv 0 = some (Value.ref 7) → xld lv 1 = some (Value.int (Int32.ofInt r)) → xld lv 2 = some (Value.int (Int32.ofInt f)) → xld lv 3 = some (Value.int (Int32.ofInt g)) → xld lv 4 = some (Value.int (Int32.ofInt n)) → xld lv 5 = some (Value.int (Int32.ofInt mode)) → xld lv 6 = some (Value.int (Int32.ofInt (k : Int))) → xEv (d + 12) 115 51 lv [] w (fun o w' => o = .inl (some (.int (Int32.ofInt (sFinT (S (30 + 3 * r.toNat) 0) (S 78 0) (S 78 1) (S 78 2) (S 78 3) mode (tkD S V f g (n.toNat))).2.2.2.2.1))) ∧ ∃ S' V', cX w0 L Z S' V' w' ∧ cOut S S' V V' (30 + 3 * r.toNat) (sFinT (S (30 + 3 * r.toNat) 0) (S 78 0) (S 78 1) (S 78 2) (S 78 3) mode (tkD S V f g (n.toNat)))) := by
      intro j
      induction j with
      | zero =>
        intro k hk lv w S1 V1 hR hA l0 l1 l2 l3 l4 l5 l6
        have e : k = n.toNat := by omega
        subst e
        rw [show ((n.toNat : Nat) : Int) = n by omega] at l6
        refine i_115_51 (x := Int32.ofInt n) l6 ?_
        refine i_115_53 (x := Int32.ofInt n) l4 ?_
        refine i_115_55 (b_le (a := n) (b := n) ⟨by omega, by omega⟩ ⟨by omega, by omega⟩ fun c60 => ?_) (b_lt (a := n) (b := n) ⟨by omega, by omega⟩ ⟨by omega, by omega⟩ fun c60 => absurd c60 (by omega))
        refine i_115_89 (x := 7) l0 ?_
        refine i_115_90 (v := Value.ref 19) (hR.k0 kq_7) rfl ?_
        refine i_115_93 (x := 7) l0 ?_
        refine i_115_94 (v := Value.ref 78) (hR.k0 kq_7) rfl ?_
        refine i_115_97 (x := 7) l0 ?_
        refine i_115_98 (v := Value.ref 8) (hR.k0 kq_7) rfl ?_
        refine i_115_101 (x := Int32.ofInt r) l1 ?_
        obtain ⟨gr, hgr, hge⟩ := hR.regs
        refine i_115_102 (v := Value.ref (30 + 3 * r.toNat)) hgr (ix0 (T := r) (by omega) (by omega)) (ix1 (T := r) (by omega) (by omega) (by omega)) (by rw [ixn (T := r) (by omega) (by omega)]; exact hge _ (by omega)) ?_
        refine i_115_103 (x := Int32.ofInt mode) l5 ?_
        have hobj := hR.k5 kq_19
        obtain ⟨w, hrun, S3, V3, hR, hP⟩ := aT_fin (d := d + 1) (r := r) (mode := mode) hR hA hI (okT_D hI hf hg n.toNat (by omega) (by omega)) (by omega) ⟨by omega, by omega⟩ ⟨by omega, by omega⟩
        refine i_115_105 hobj (Nat.le_of_ble_eq_true rfl) hrun ?_
        refine i_115_108 ?_
        exact ⟨rfl, _, _, hR, hP⟩
      | succ j ih =>
        intro k hk lv w S1 V1 hR hA l0 l1 l2 l3 l4 l5 l6
        refine i_115_51 (x := Int32.ofInt (k : Int)) l6 ?_
        refine i_115_53 (x := Int32.ofInt n) l4 ?_
        refine i_115_55 (b_le (a := n) (b := (k : Int)) ⟨by omega, by omega⟩ ⟨by omega, by omega⟩ fun c30 => absurd c30 (by omega)) (b_lt (a := (k : Int)) (b := n) ⟨by omega, by omega⟩ ⟨by omega, by omega⟩ fun c30 => ?_)
        refine i_115_58 (x := 7) l0 ?_
        refine i_115_59 (v := Value.ref 19) (hR.k0 kq_7) rfl ?_
        refine i_115_62 (x := 7) l0 ?_
        refine i_115_63 (v := Value.ref 8) (hR.k0 kq_7) rfl ?_
        refine i_115_66 (x := Int32.ofInt f) l2 ?_
        refine i_115_67 (x := Int32.ofInt (k : Int)) l6 ?_
        refine i_115_69 (c := Int32.ofInt (f + (k : Int))) (o_add f (k : Int)) ?_
        obtain ⟨gr, hgr, hge⟩ := hR.regs
        refine i_115_70 (v := Value.ref (30 + 3 * (f + (k : Int)).toNat)) hgr (ix0 (T := f + (k : Int)) (by omega) (by omega)) (ix1 (T := f + (k : Int)) (by omega) (by omega) (by omega)) (by rw [ixn (T := f + (k : Int)) (by omega) (by omega)]; exact hge _ (by omega)) ?_
        refine i_115_71 (x := 7) l0 ?_
        refine i_115_72 (v := Value.ref 8) (hR.k0 kq_7) rfl ?_
        refine i_115_75 (x := Int32.ofInt g) l3 ?_
        refine i_115_76 (x := Int32.ofInt (k : Int)) l6 ?_
        refine i_115_78 (c := Int32.ofInt (g + (k : Int))) (o_add g (k : Int)) ?_
        obtain ⟨gr, hgr, hge⟩ := hR.regs
        refine i_115_79 (v := Value.ref (30 + 3 * (g + (k : Int)).toNat)) hgr (ix0 (T := g + (k : Int)) (by omega) (by omega)) (ix1 (T := g + (k : Int)) (by omega) (by omega) (by omega)) (by rw [ixn (T := g + (k : Int)) (by omega) (by omega)]; exact hge _ (by omega)) ?_
        have hobj := hR.k5 kq_19
        obtain ⟨w, hrun, S2, V2, hR, hA⟩ := aT_prod (d := d + 4) (a := (f + (k : Int))) (e := (g + (k : Int))) hR hA hI (okT_D hI hf hg k (by omega) (by omega)) (by omega) ⟨by omega, by omega⟩ ⟨by omega, by omega⟩
        refine i_115_80 hobj (Nat.le_of_ble_eq_true rfl) hrun ?_
        refine i_115_83 (x := (Int32.ofInt (k : Int))) (c := (Int32.ofInt ((k : Int) + 1))) l6 (o_add (k : Int) 1) rfl ?_
        refine lgen1 (i := 6) (v := Value.int (Int32.ofInt ((k : Int) + 1))) (fun lv lg ls => ?_)
        replace l0 := lg 0 _ rfl rfl l0
        replace l1 := lg 1 _ rfl rfl l1
        replace l2 := lg 2 _ rfl rfl l2
        replace l3 := lg 3 _ rfl rfl l3
        replace l4 := lg 4 _ rfl rfl l4
        replace l5 := lg 5 _ rfl rfl l5
        have l6 := ls
        refine i_115_86 ?_
        rw [show (k : Int) + 1 = ((k + 1 : Nat) : Int) by omega] at l6
        exact ih (k + 1) (by omega) lv w S2 V2 hR hA l0 l1 l2 l3 l4 l5 l6
    refine i_115_0 (x := Int32.ofInt r) l1 ?_
    have hrun := x_noReg (d := d + 11) (w := w) (r := r) ⟨by omega, by omega⟩
    rw [show (decide (r < 0) || decide (16 ≤ r)) = false from by simp; omega] at hrun
    refine i_115_1 (Nat.le_of_ble_eq_true rfl) hrun ?_
    refine i_115_4 (fun c => absurd c (by decide)) (fun _ => ?_)
    refine i_115_7 (x := Int32.ofInt f) l2 ?_
    refine i_115_8 (x := Int32.ofInt n) l4 ?_
    have hrun := x_noRow (d := d + 10) (w := w) (f := f) (n := n) (by omega) ⟨by omega, by omega⟩ (by omega)
    refine i_115_10 (Nat.le_of_ble_eq_true rfl) hrun ?_
    refine i_115_13 (fun c => absurd c (by decide)) (fun _ => ?_)
    refine i_115_16 (x := Int32.ofInt g) l3 ?_
    refine i_115_17 (x := Int32.ofInt n) l4 ?_
    have hrun := x_noRow (d := d + 10) (w := w) (f := g) (n := n) (by omega) ⟨by omega, by omega⟩ (by omega)
    refine i_115_19 (Nat.le_of_ble_eq_true rfl) hrun ?_
    refine i_115_22 (fun c => absurd c (by decide)) (fun _ => ?_)
    refine i_115_25 (x := Int32.ofInt mode) l5 ?_
    have hrun := x_noMode (d := d + 11) (w := w) (m := mode) ⟨by omega, by omega⟩
    rw [show (decide (mode < 0) || decide (4 < mode)) = false from by simp; omega] at hrun
    refine i_115_27 (Nat.le_of_ble_eq_true rfl) hrun ?_
    refine i_115_30 (fun _ => ?_) (fun c => absurd c (by decide))
    refine i_115_41 (x := 7) l0 ?_
    refine i_115_42 (v := Value.ref 19) (hR.k0 kq_7) rfl ?_
    have hobj := hR.k5 kq_19
    obtain ⟨w, hrun, S1, V1, hR, hA⟩ := aT_begin (d := d + 11) hR
    refine i_115_45 hobj (Nat.le_of_ble_eq_true rfl) hrun ?_
    refine i_115_48 ?_
    refine i_115_49 rfl ?_
    refine lgen1 (i := 6) (v := Value.int 0) (fun lv lg ls => ?_)
    replace l0 := lg 0 _ rfl rfl l0
    replace l1 := lg 1 _ rfl rfl l1
    replace l2 := lg 2 _ rfl rfl l2
    replace l3 := lg 3 _ rfl rfl l3
    replace l4 := lg 4 _ rfl rfl l4
    replace l5 := lg 5 _ rfl rfl l5
    have l6 := ls
    exact loop n.toNat 0 (by omega) lv w S1 V1 hR hA l0 l1 l2 l3 l4 l5 (l6)
  obtain ⟨o, w', h1, rfl, h2⟩ := (key (lv_args 0 [Value.ref 7, Value.int (Int32.ofInt r), Value.int (Int32.ofInt f), Value.int (Int32.ofInt g), Value.int (Int32.ofInt n), Value.int (Int32.ofInt mode)]) rfl rfl rfl rfl rfl rfl).run
  exact ⟨w', h1, h2⟩
end
