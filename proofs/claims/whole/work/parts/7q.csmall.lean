/-! small calls of the class: flags, precision, range, look, word, order, compare -/
def sgn (k s : Int) : Int := if k = 2 then 0 else if s = 0 then 1 else -1
def ordR (ka sa ea : Int) (ma : Nat) (kb sb eb : Int) (mb : Nat) : Int :=
  if sgn ka sa ≠ sgn kb sb then (if sgn ka sa < sgn kb sb then -1 else 1)
  else if sgn ka sa = 0 ∨ (ka = 1 ∧ kb = 1) then 0
  else if ka ≠ kb then (if ka = 1 then sgn ka sa else -sgn ka sa)
  else if ea ≠ eb then (if eb < ea then sgn ka sa else -sgn ka sa)
  else sgn ka sa * ncmp (ma * 2 ^ xbl mb) (mb * 2 ^ xbl ma)
theorem sgn_b (k s : Int) : -1 ≤ sgn k s ∧ sgn k s ≤ 1 := by
  unfold sgn
  split
  · decide
  · split <;> decide
theorem sgn_z (k s : Int) : (k = 2 ∧ sgn k s = 0) ∨ (k ≠ 2 ∧ sgn k s ≠ 0) := by
  unfold sgn
  by_cases h : k = 2
  · rw [if_pos h]; exact Or.inl ⟨h, rfl⟩
  · rw [if_neg h]
    refine Or.inr ⟨h, ?_⟩
    split <;> decide
section
variable {w0 w : xW} {L Z : Nat} {S : Nat → Nat → Int} {V : Nat → Nat} {d h t r q : Nat}
theorem x_flags {tk : Int} (hR : cX w0 L Z S V w) (htk : tk = 0 ∨ tk = 1) : ∃ w', xRun (d + 0) 12 [Value.ref 7, Value.int (Int32.ofInt tk)] w (.inl (some (.int (Int32.ofInt (S 78 3))))) w' ∧ cX w0 L Z (u2 S 78 3 (if tk = 0 then S 78 3 else 0)) V w' := by
  have key : ∀ lv, xld lv 0 = some (Value.ref 7) → xld lv 1 = some (Value.int (Int32.ofInt tk)) → xEv (d + 0) 12 0 lv [] w (fun o w' => o = .inl (some (.int (Int32.ofInt (S 78 3)))) ∧ cX w0 L Z (u2 S 78 3 (if tk = 0 then S 78 3 else 0)) V w') := by
    intro lv l0 l1
    refine i_12_0 (x := 7) l0 ?_
    refine i_12_1 (v := Value.ref 78) (hR.k0 kq_7) rfl ?_
    refine i_12_4 (v := Value.int (Int32.ofInt (S 78 3))) (hR.k1 kq_78) rfl ?_
    refine i_12_7 rfl ?_
    refine lgen1 (i := 2) (v := Value.int (Int32.ofInt (S 78 3))) (fun lv lg ls => ?_)
    replace l0 := lg 0 _ rfl rfl l0
    replace l1 := lg 1 _ rfl rfl l1
    have l2 := ls
    refine i_12_8 (x := Int32.ofInt tk) l1 ?_
    refine i_12_9 (z_eq (a := tk) ⟨by omega, by omega⟩ fun c0 => ?_) (z_ne (a := tk) ⟨by omega, by omega⟩ fun c0 => ?_)
    · refine i_12_20 (x := Int32.ofInt (S 78 3)) l2 ?_
      refine i_12_21 ?_
      rw [if_pos (by omega), u2self]
      exact ⟨rfl, hR⟩
    · refine i_12_12 (x := 7) l0 ?_
      refine i_12_13 (v := Value.ref 78) (hR.k0 kq_7) rfl ?_
      refine i_12_16 ?_
      refine i_12_17 (fs2 := f1 (u1 (S 78) 3 0)) (hR.k1 kq_78) (Nat.le_of_ble_eq_true rfl) rfl (h7k kq_78 (by decide)) ?_
      refine xgen (P := cX w0 L Z (u2 S 78 3 0) V) (hR.p1 kq_78) (fun w hR => ?_)
      refine i_12_20 (x := Int32.ofInt (S 78 3)) l2 ?_
      refine i_12_21 ?_
      rw [if_neg (by omega)]
      exact ⟨rfl, hR⟩
  obtain ⟨o, w', h1, rfl, h2⟩ := (key (lv_args 0 [Value.ref 7, Value.int (Int32.ofInt tk)]) rfl rfl).run
  exact ⟨w', h1, h2⟩
theorem x_prec {r p : Int} (hR : cX w0 L Z S V w) (hr : 0 ≤ r ∧ r ≤ 15) (hp : 2 ≤ p ∧ p ≤ 4096) : ∃ w', xRun (d + 3) 14 [Value.ref 7, Value.int (Int32.ofInt r), Value.int (Int32.ofInt p)] w (.inl (some (.int (Int32.ofInt (S (30 + 3 * r.toNat) 0))))) w' ∧ cX w0 L Z (u2 (u2 (u2 S (30 + 3 * r.toNat) 0 p) (30 + 3 * r.toNat) 1 0) (30 + 3 * r.toNat) 2 0) V w' := by
  have key : ∀ lv, xld lv 0 = some (Value.ref 7) → xld lv 1 = some (Value.int (Int32.ofInt r)) → xld lv 2 = some (Value.int (Int32.ofInt p)) → xEv (d + 3) 14 0 lv [] w (fun o w' => o = .inl (some (.int (Int32.ofInt (S (30 + 3 * r.toNat) 0)))) ∧ cX w0 L Z (u2 (u2 (u2 S (30 + 3 * r.toNat) 0 p) (30 + 3 * r.toNat) 1 0) (30 + 3 * r.toNat) 2 0) V w') := by
    intro lv l0 l1 l2
    refine i_14_0 (x := Int32.ofInt r) l1 ?_
    have hrun := x_noReg (d := d + 2) (w := w) (r := r) ⟨by omega, by omega⟩
    rw [show (decide (r < 0) || decide (16 ≤ r)) = false from by simp; omega] at hrun
    refine i_14_1 (Nat.le_of_ble_eq_true rfl) hrun ?_
    refine i_14_4 (fun c => absurd c (by decide)) (fun _ => ?_)
    refine i_14_7 (x := Int32.ofInt p) l2 ?_
    refine i_14_8 ?_
    refine i_14_9 (b_lt (a := p) (b := 2) ⟨by omega, by omega⟩ ⟨by decide, by decide⟩ fun c0 => ?_) (b_le (a := 2) (b := p) ⟨by decide, by decide⟩ ⟨by omega, by omega⟩ fun c0 => ?_)
    · refine i_14_19 (by omega) (Nat.le_of_ble_eq_true rfl) ?_
      exfalso; omega
    · refine i_14_12 (x := Int32.ofInt p) l2 ?_
      refine i_14_13 ?_
      refine i_14_16 (b_le (a := p) (b := 4096) ⟨by omega, by omega⟩ ⟨by decide, by decide⟩ fun c1 => ?_) (b_lt (a := 4096) (b := p) ⟨by decide, by decide⟩ ⟨by omega, by omega⟩ fun c1 => ?_)
      · refine i_14_27 (x := 7) l0 ?_
        refine i_14_28 (v := Value.ref 8) (hR.k0 kq_7) rfl ?_
        refine i_14_31 (x := Int32.ofInt r) l1 ?_
        obtain ⟨gr, hgr, hge⟩ := hR.regs
        refine i_14_32 (v := Value.ref (30 + 3 * r.toNat)) hgr (ix0 (T := r) (by omega) (by omega)) (ix1 (T := r) (by omega) (by omega) (by omega)) (by rw [ixn (T := r) (by omega) (by omega)]; exact hge _ (by omega)) ?_
        refine i_14_33 rfl ?_
        refine lgen1 (i := 3) (v := Value.ref (30 + 3 * r.toNat)) (fun lv lg ls => ?_)
        replace l0 := lg 0 _ rfl rfl l0
        replace l1 := lg 1 _ rfl rfl l1
        replace l2 := lg 2 _ rfl rfl l2
        have l3 := ls
        refine i_14_34 (x := 30 + 3 * r.toNat) l3 ?_
        refine i_14_35 (v := Value.int (Int32.ofInt (S (30 + 3 * r.toNat) 0))) (hR.k2 (kd_reg (r := r.toNat) (by omega))) rfl ?_
        refine i_14_38 rfl ?_
        refine lgen1 (i := 4) (v := Value.int (Int32.ofInt (S (30 + 3 * r.toNat) 0))) (fun lv lg ls => ?_)
        replace l3 := lg 3 _ rfl rfl l3
        replace l0 := lg 0 _ rfl rfl l0
        replace l1 := lg 1 _ rfl rfl l1
        replace l2 := lg 2 _ rfl rfl l2
        have l4 := ls
        refine i_14_40 (x := 30 + 3 * r.toNat) l3 ?_
        refine i_14_41 (x := Int32.ofInt p) l2 ?_
        refine i_14_42 (fs2 := f2 (30 + 3 * r.toNat) (u1 (S (30 + 3 * r.toNat)) 0 p)) (hR.k2 (kd_reg (r := r.toNat) (by omega))) (Nat.le_of_ble_eq_true rfl) rfl (h7k (kd_reg (r := r.toNat) (by omega)) (by decide)) ?_
        refine xgen (P := cX w0 L Z (u2 S (30 + 3 * r.toNat) 0 p) V) (hR.p2 (kd_reg (r := r.toNat) (by omega))) (fun w hR => ?_)
        refine i_14_45 (x := 30 + 3 * r.toNat) l3 ?_
        have hobj := hR.k2 (kd_reg (r := r.toNat) (by omega))
        obtain ⟨w, hrun, hR⟩ := x_nan (d := d + 1) (t := 30 + 3 * r.toNat) hR (kd_reg (r := r.toNat) (by omega))
        refine i_14_46 hobj (Nat.le_of_ble_eq_true rfl) hrun ?_
        refine i_14_49 rfl ?_
        refine i_14_50 (x := Int32.ofInt (S (30 + 3 * r.toNat) 0)) l4 ?_
        refine i_14_52 ?_
        exact ⟨rfl, hR⟩
      · refine i_14_19 (by omega) (Nat.le_of_ble_eq_true rfl) ?_
        exfalso; omega
  obtain ⟨o, w', h1, rfl, h2⟩ := (key (lv_args 0 [Value.ref 7, Value.int (Int32.ofInt r), Value.int (Int32.ofInt p)]) rfl rfl rfl).run
  exact ⟨w', h1, h2⟩
theorem x_range {l g s : Int} (hR : cX w0 L Z S V w) (hl : -16384 ≤ l ∧ l ≤ 16384) (hg : l ≤ g ∧ g ≤ 16384) (hs : s = 0 ∨ s = 1) : ∃ w', xRun (d + 0) 19 [Value.ref 7, Value.int (Int32.ofInt l), Value.int (Int32.ofInt g), Value.int (Int32.ofInt s)] w (.inl (some (.int (Int32.ofInt (S 78 1))))) w' ∧ cX w0 L Z (u2 (u2 (u2 S 78 0 l) 78 1 g) 78 2 s) V w' := by
  have key : ∀ lv, xld lv 0 = some (Value.ref 7) → xld lv 1 = some (Value.int (Int32.ofInt l)) → xld lv 2 = some (Value.int (Int32.ofInt g)) → xld lv 3 = some (Value.int (Int32.ofInt s)) → xEv (d + 0) 19 0 lv [] w (fun o w' => o = .inl (some (.int (Int32.ofInt (S 78 1)))) ∧ cX w0 L Z (u2 (u2 (u2 S 78 0 l) 78 1 g) 78 2 s) V w') := by
    intro lv l0 l1 l2 l3
    refine i_19_0 (x := Int32.ofInt l) l1 ?_
    refine i_19_1 ?_
    refine i_19_4 (b_lt (a := l) (b := (-16384)) ⟨by omega, by omega⟩ ⟨by decide, by decide⟩ fun c0 => ?_) (b_le (a := (-16384)) (b := l) ⟨by decide, by decide⟩ ⟨by omega, by omega⟩ fun c0 => ?_)
    · refine i_19_19 (by omega) (Nat.le_of_ble_eq_true rfl) ?_
      exfalso; omega
    · refine i_19_7 (x := Int32.ofInt g) l2 ?_
      refine i_19_8 ?_
      refine i_19_11 (b_lt (a := 16384) (b := g) ⟨by decide, by decide⟩ ⟨by omega, by omega⟩ fun c1 => ?_) (b_le (a := g) (b := 16384) ⟨by omega, by omega⟩ ⟨by decide, by decide⟩ fun c1 => ?_)
      · refine i_19_19 (by omega) (Nat.le_of_ble_eq_true rfl) ?_
        exfalso; omega
      · refine i_19_14 (x := Int32.ofInt l) l1 ?_
        refine i_19_15 (x := Int32.ofInt g) l2 ?_
        refine i_19_16 (b_le (a := l) (b := g) ⟨by omega, by omega⟩ ⟨by omega, by omega⟩ fun c2 => ?_) (b_lt (a := g) (b := l) ⟨by omega, by omega⟩ ⟨by omega, by omega⟩ fun c2 => ?_)
        · refine i_19_27 (x := 7) l0 ?_
          refine i_19_28 (v := Value.ref 78) (hR.k0 kq_7) rfl ?_
          refine i_19_31 (v := Value.int (Int32.ofInt (S 78 1))) (hR.k1 kq_78) rfl ?_
          refine i_19_34 rfl ?_
          refine lgen1 (i := 4) (v := Value.int (Int32.ofInt (S 78 1))) (fun lv lg ls => ?_)
          replace l0 := lg 0 _ rfl rfl l0
          replace l1 := lg 1 _ rfl rfl l1
          replace l2 := lg 2 _ rfl rfl l2
          replace l3 := lg 3 _ rfl rfl l3
          have l4 := ls
          refine i_19_36 (x := 7) l0 ?_
          refine i_19_37 (v := Value.ref 78) (hR.k0 kq_7) rfl ?_
          refine i_19_40 (x := Int32.ofInt l) l1 ?_
          refine i_19_41 (fs2 := f1 (u1 (S 78) 0 l)) (hR.k1 kq_78) (Nat.le_of_ble_eq_true rfl) rfl (h7k kq_78 (by decide)) ?_
          refine xgen (P := cX w0 L Z (u2 S 78 0 l) V) (hR.p1 kq_78) (fun w hR => ?_)
          refine i_19_44 (x := 7) l0 ?_
          refine i_19_45 (v := Value.ref 78) (hR.k0 kq_7) rfl ?_
          refine i_19_48 (x := Int32.ofInt g) l2 ?_
          refine i_19_49 (fs2 := f1 (u1 ((u2 S 78 0 l) 78) 1 g)) (hR.k1 kq_78) (Nat.le_of_ble_eq_true rfl) rfl (h7k kq_78 (by decide)) ?_
          refine xgen (P := cX w0 L Z (u2 (u2 S 78 0 l) 78 1 g) V) (hR.p1 kq_78) (fun w hR => ?_)
          refine i_19_52 (x := 7) l0 ?_
          refine i_19_53 (v := Value.ref 78) (hR.k0 kq_7) rfl ?_
          refine i_19_56 (x := Int32.ofInt s) l3 ?_
          refine i_19_57 (fs2 := f1 (u1 ((u2 (u2 S 78 0 l) 78 1 g) 78) 2 s)) (hR.k1 kq_78) (o_bool (by omega)) (Nat.le_of_ble_eq_true rfl) rfl (h7k kq_78 (by decide)) ?_
          refine xgen (P := cX w0 L Z (u2 (u2 (u2 S 78 0 l) 78 1 g) 78 2 s) V) (hR.p1 kq_78) (fun w hR => ?_)
          refine i_19_60 (x := Int32.ofInt (S 78 1)) l4 ?_
          refine i_19_62 ?_
          exact ⟨rfl, hR⟩
        · refine i_19_19 (by omega) (Nat.le_of_ble_eq_true rfl) ?_
          exfalso; omega
  obtain ⟨o, w', h1, rfl, h2⟩ := (key (lv_args 0 [Value.ref 7, Value.int (Int32.ofInt l), Value.int (Int32.ofInt g), Value.int (Int32.ofInt s)]) rfl rfl rfl rfl).run
  exact ⟨w', h1, h2⟩
theorem x_look {r wh : Int} (hR : cX w0 L Z S V w) (hI : cI S V) (hr : 0 ≤ r ∧ r ≤ 15) (hw : 0 ≤ wh ∧ wh ≤ 3) (hok : wh ≤ 1 ∨ (wh = 2 ∧ S (30 + 3 * r.toNat) 1 ≠ 0) ∨ (wh = 3 ∧ S (30 + 3 * r.toNat) 1 = 3)) : xRun (d + 2) 124 [Value.ref 7, Value.int (Int32.ofInt r), Value.int (Int32.ofInt wh)] w (.inl (some (.int (Int32.ofInt (if wh = 0 then S (30 + 3 * r.toNat) 0 else if wh = 1 then S (30 + 3 * r.toNat) 1 else if wh = 2 then S (30 + 3 * r.toNat) 2 else S (30 + 3 * r.toNat) 3))))) w := by
  have key : ∀ lv, xld lv 0 = some (Value.ref 7) → xld lv 1 = some (Value.int (Int32.ofInt r)) → xld lv 2 = some (Value.int (Int32.ofInt wh)) → xEv (d + 2) 124 0 lv [] w (fun o w' => o = .inl (some (.int (Int32.ofInt (if wh = 0 then S (30 + 3 * r.toNat) 0 else if wh = 1 then S (30 + 3 * r.toNat) 1 else if wh = 2 then S (30 + 3 * r.toNat) 2 else S (30 + 3 * r.toNat) 3)))) ∧ w' = w) := by
    intro lv l0 l1 l2
    obtain ⟨hp_r, hk_r, hn_r, ht_r, hx_r, hz_r⟩ := hI.1 r.toNat (by omega)
    have hi_l := hI.2.1
    refine i_124_0 (x := Int32.ofInt r) l1 ?_
    have hrun := x_noReg (d := d + 1) (w := w) (r := r) ⟨by omega, by omega⟩
    rw [show (decide (r < 0) || decide (16 ≤ r)) = false from by simp; omega] at hrun
    refine i_124_1 (Nat.le_of_ble_eq_true rfl) hrun ?_
    refine i_124_4 (fun c => absurd c (by decide)) (fun _ => ?_)
    refine i_124_7 (x := Int32.ofInt wh) l2 ?_
    refine i_124_8 (z_lt (a := wh) ⟨by omega, by omega⟩ fun c0 => ?_) (z_ge (a := wh) ⟨by omega, by omega⟩ fun c0 => ?_)
    · refine i_124_16 (by omega) (Nat.le_of_ble_eq_true rfl) ?_
      exfalso; omega
    · refine i_124_11 (x := Int32.ofInt wh) l2 ?_
      refine i_124_12 ?_
      refine i_124_13 (b_le (a := wh) (b := 3) ⟨by omega, by omega⟩ ⟨by decide, by decide⟩ fun c1 => ?_) (b_lt (a := 3) (b := wh) ⟨by decide, by decide⟩ ⟨by omega, by omega⟩ fun c1 => ?_)
      · refine i_124_24 (x := 7) l0 ?_
        refine i_124_25 (v := Value.ref 8) (hR.k0 kq_7) rfl ?_
        refine i_124_28 (x := Int32.ofInt r) l1 ?_
        obtain ⟨gr, hgr, hge⟩ := hR.regs
        refine i_124_29 (v := Value.ref (30 + 3 * r.toNat)) hgr (ix0 (T := r) (by omega) (by omega)) (ix1 (T := r) (by omega) (by omega) (by omega)) (by rw [ixn (T := r) (by omega) (by omega)]; exact hge _ (by omega)) ?_
        refine i_124_30 rfl ?_
        refine lgen1 (i := 3) (v := Value.ref (30 + 3 * r.toNat)) (fun lv lg ls => ?_)
        replace l0 := lg 0 _ rfl rfl l0
        replace l1 := lg 1 _ rfl rfl l1
        replace l2 := lg 2 _ rfl rfl l2
        have l3 := ls
        refine i_124_31 (x := Int32.ofInt wh) l2 ?_
        refine i_124_32 (z_ne (a := wh) ⟨by omega, by omega⟩ fun c2 => ?_) (z_eq (a := wh) ⟨by omega, by omega⟩ fun c2 => ?_)
        · refine i_124_40 (x := Int32.ofInt wh) l2 ?_
          refine i_124_41 ?_
          refine i_124_42 (b_ne (a := wh) (b := 1) ⟨by omega, by omega⟩ ⟨by decide, by decide⟩ fun c3 => ?_) (b_eq (a := wh) (b := 1) ⟨by omega, by omega⟩ ⟨by decide, by decide⟩ fun c3 => ?_)
          · refine i_124_50 (x := Int32.ofInt wh) l2 ?_
            refine i_124_51 ?_
            refine i_124_52 (b_ne (a := wh) (b := 2) ⟨by omega, by omega⟩ ⟨by decide, by decide⟩ fun c4 => ?_) (b_eq (a := wh) (b := 2) ⟨by omega, by omega⟩ ⟨by decide, by decide⟩ fun c4 => ?_)
            · refine i_124_65 (x := 30 + 3 * r.toNat) l3 ?_
              refine i_124_66 (v := Value.int (Int32.ofInt (S (30 + 3 * r.toNat) 1))) (hR.k2 (kd_reg (r := r.toNat) (by omega))) rfl ?_
              refine i_124_69 ?_
              refine i_124_70 (b_eq (a := S (30 + 3 * r.toNat) 1) (b := 3) ⟨by omega, by omega⟩ ⟨by decide, by decide⟩ fun c5 => ?_) (b_ne (a := S (30 + 3 * r.toNat) 1) (b := 3) ⟨by omega, by omega⟩ ⟨by decide, by decide⟩ fun c5 => ?_)
              · try replace ht_r := ht_r.resolve_left (by omega)
                try replace hx_r := hx_r.resolve_left (by omega)
                refine i_124_81 (x := Int32.ofInt wh) l2 ?_
                refine i_124_82 ?_
                refine i_124_83 (b_ne (a := wh) (b := 2) ⟨by omega, by omega⟩ ⟨by decide, by decide⟩ fun c6 => ?_) (b_eq (a := wh) (b := 2) ⟨by omega, by omega⟩ ⟨by decide, by decide⟩ fun c6 => absurd c6 (by omega))
                refine i_124_99 (x := 30 + 3 * r.toNat) l3 ?_
                refine i_124_100 (v := Value.int (Int32.ofInt (S (30 + 3 * r.toNat) 3))) (hR.k2 (kd_reg (r := r.toNat) (by omega))) rfl ?_
                refine i_124_103 ?_
                refine ⟨?_, rfl⟩
                rw [show (if wh = 0 then S (30 + 3 * r.toNat) 0 else if wh = 1 then S (30 + 3 * r.toNat) 1 else if wh = 2 then S (30 + 3 * r.toNat) 2 else S (30 + 3 * r.toNat) 3) = S (30 + 3 * r.toNat) 3 from by clear hR; grind]
              · refine i_124_73 (by omega) (Nat.le_of_ble_eq_true rfl) ?_
                exfalso; omega
            · refine i_124_55 (x := 30 + 3 * r.toNat) l3 ?_
              refine i_124_56 (v := Value.int (Int32.ofInt (S (30 + 3 * r.toNat) 1))) (hR.k2 (kd_reg (r := r.toNat) (by omega))) rfl ?_
              refine i_124_59 (z_ne (a := S (30 + 3 * r.toNat) 1) ⟨by omega, by omega⟩ fun c7 => ?_) (z_eq (a := S (30 + 3 * r.toNat) 1) ⟨by omega, by omega⟩ fun c7 => ?_)
              · refine i_124_81 (x := Int32.ofInt wh) l2 ?_
                refine i_124_82 ?_
                refine i_124_83 (b_ne (a := wh) (b := 2) ⟨by omega, by omega⟩ ⟨by decide, by decide⟩ fun c8 => absurd c8 (by omega)) (b_eq (a := wh) (b := 2) ⟨by omega, by omega⟩ ⟨by decide, by decide⟩ fun c8 => ?_)
                refine i_124_86 (x := 30 + 3 * r.toNat) l3 ?_
                refine i_124_87 (v := Value.int (Int32.ofInt (S (30 + 3 * r.toNat) 2))) (hR.k2 (kd_reg (r := r.toNat) (by omega))) rfl ?_
                refine i_124_90 (z_eq (a := S (30 + 3 * r.toNat) 2) ⟨by omega, by omega⟩ fun c9 => ?_) (z_ne (a := S (30 + 3 * r.toNat) 2) ⟨by omega, by omega⟩ fun c9 => ?_)
                · refine i_124_97 ?_
                  refine i_124_98 ?_
                  refine ⟨?_, rfl⟩
                  rw [show (if wh = 0 then S (30 + 3 * r.toNat) 0 else if wh = 1 then S (30 + 3 * r.toNat) 1 else if wh = 2 then S (30 + 3 * r.toNat) 2 else S (30 + 3 * r.toNat) 3) = (0 : Int) from by clear hR; grind]
                  rfl
                · refine i_124_93 ?_
                  refine i_124_94 ?_
                  refine i_124_98 ?_
                  refine ⟨?_, rfl⟩
                  rw [show (if wh = 0 then S (30 + 3 * r.toNat) 0 else if wh = 1 then S (30 + 3 * r.toNat) 1 else if wh = 2 then S (30 + 3 * r.toNat) 2 else S (30 + 3 * r.toNat) 3) = (1 : Int) from by clear hR; grind]
                  rfl
              · refine i_124_62 ?_
                refine i_124_73 (by omega) (Nat.le_of_ble_eq_true rfl) ?_
                exfalso; omega
          · refine i_124_45 (x := 30 + 3 * r.toNat) l3 ?_
            refine i_124_46 (v := Value.int (Int32.ofInt (S (30 + 3 * r.toNat) 1))) (hR.k2 (kd_reg (r := r.toNat) (by omega))) rfl ?_
            refine i_124_49 ?_
            refine ⟨?_, rfl⟩
            rw [show (if wh = 0 then S (30 + 3 * r.toNat) 0 else if wh = 1 then S (30 + 3 * r.toNat) 1 else if wh = 2 then S (30 + 3 * r.toNat) 2 else S (30 + 3 * r.toNat) 3) = S (30 + 3 * r.toNat) 1 from by clear hR; grind]
        · refine i_124_35 (x := 30 + 3 * r.toNat) l3 ?_
          refine i_124_36 (v := Value.int (Int32.ofInt (S (30 + 3 * r.toNat) 0))) (hR.k2 (kd_reg (r := r.toNat) (by omega))) rfl ?_
          refine i_124_39 ?_
          refine ⟨?_, rfl⟩
          rw [show (if wh = 0 then S (30 + 3 * r.toNat) 0 else if wh = 1 then S (30 + 3 * r.toNat) 1 else if wh = 2 then S (30 + 3 * r.toNat) 2 else S (30 + 3 * r.toNat) 3) = S (30 + 3 * r.toNat) 0 from by clear hR; grind]
      · refine i_124_16 (by omega) (Nat.le_of_ble_eq_true rfl) ?_
        exfalso; omega
  obtain ⟨o, w', h1, rfl, rfl⟩ := (key (lv_args 0 [Value.ref 7, Value.int (Int32.ofInt r), Value.int (Int32.ofInt wh)]) rfl rfl rfl).run
  exact h1
theorem x_sgn (hR : cX w0 L Z S V w) (ht : kd t = 2) (hk_t : 1 ≤ S t 1 ∧ S t 1 ≤ 3) (hn_t : S t 2 = 0 ∨ S t 2 = 1) (he_t : S t 1 ≠ 3 ∨ (-100000 ≤ S t 3 ∧ S t 3 ≤ 100000)) : xRun (d + 0) 110 [Value.ref t] w (.inl (some (.int (Int32.ofInt (sgn (S t 1) (S t 2)))))) w := by
  have key : ∀ lv, xld lv 0 = some (Value.ref t) → xEv (d + 0) 110 0 lv [] w (fun o w' => o = .inl (some (.int (Int32.ofInt (sgn (S t 1) (S t 2))))) ∧ w' = w) := by
    intro lv l0
    refine i_110_0 (x := t) l0 ?_
    refine i_110_1 (v := Value.int (Int32.ofInt (S t 1))) (hR.k2 ht) rfl ?_
    refine i_110_4 ?_
    refine i_110_5 (b_ne (a := S t 1) (b := 2) ⟨by omega, by omega⟩ ⟨by decide, by decide⟩ fun c0 => ?_) (b_eq (a := S t 1) (b := 2) ⟨by omega, by omega⟩ ⟨by decide, by decide⟩ fun c0 => ?_)
    · refine i_110_10 (x := t) l0 ?_
      refine i_110_11 (v := Value.int (Int32.ofInt (S t 2))) (hR.k2 ht) rfl ?_
      refine i_110_14 (z_eq (a := S t 2) ⟨by omega, by omega⟩ fun c1 => ?_) (z_ne (a := S t 2) ⟨by omega, by omega⟩ fun c1 => ?_)
      · refine i_110_21 ?_
        refine i_110_22 ?_
        exact ⟨by rw [show sgn (S t 1) (S t 2) = 1 from by unfold sgn; grind]; rfl, rfl⟩
      · refine i_110_17 ?_
        refine i_110_18 ?_
        refine i_110_22 ?_
        exact ⟨by rw [show sgn (S t 1) (S t 2) = (-1) from by unfold sgn; grind]; rfl, rfl⟩
    · refine i_110_8 ?_
      refine i_110_9 ?_
      exact ⟨by rw [show sgn (S t 1) (S t 2) = 0 from by unfold sgn; grind]; rfl, rfl⟩
  obtain ⟨o, w', h1, rfl, rfl⟩ := (key (lv_args 0 [Value.ref t]) rfl).run
  exact h1
set_option maxHeartbeats 4000000 in
theorem x_order (hR : cX w0 L Z S V w) (ht : kd t = 2) (hq : kd q = 2) (hk_t : 1 ≤ S t 1 ∧ S t 1 ≤ 3) (hn_t : S t 2 = 0 ∨ S t 2 = 1) (he_t : S t 1 ≠ 3 ∨ (-100000 ≤ S t 3 ∧ S t 3 ≤ 100000)) (hk_q : 1 ≤ S q 1 ∧ S q 1 ≤ 3) (hn_q : S q 2 = 0 ∨ S q 2 = 1) (he_q : S q 1 ≠ 3 ∨ (-100000 ≤ S q 3 ∧ S q 3 ≤ 100000)) : xRun (d + 3) 109 [Value.ref t, Value.ref q] w (.inl (some (.int (Int32.ofInt (ordR (S t 1) (S t 2) (S t 3) (V (t + 1)) (S q 1) (S q 2) (S q 3) (V (q + 1))))))) w := by
  have key : ∀ lv, xld lv 0 = some (Value.ref t) → xld lv 1 = some (Value.ref q) → xEv (d + 3) 109 0 lv [] w (fun o w' => o = .inl (some (.int (Int32.ofInt (ordR (S t 1) (S t 2) (S t 3) (V (t + 1)) (S q 1) (S q 2) (S q 3) (V (q + 1)))))) ∧ w' = w) := by
    intro lv l0 l1
    refine i_109_0 (x := t) l0 ?_
    have hobj := hR.k2 ht
    have hrun := x_sgn (d := d + 2) (t := t) hR ht hk_t hn_t he_t
    have hsb_t := sgn_b (S t 1) (S t 2)
    have hsz_t := sgn_z (S t 1) (S t 2)
    refine i_109_1 hobj (Nat.le_of_ble_eq_true rfl) hrun ?_
    refine i_109_4 rfl ?_
    refine lgen1 (i := 2) (v := Value.int (Int32.ofInt (sgn (S t 1) (S t 2)))) (fun lv lg ls => ?_)
    replace l0 := lg 0 _ rfl rfl l0
    replace l1 := lg 1 _ rfl rfl l1
    have l2 := ls
    refine i_109_5 (x := q) l1 ?_
    have hobj := hR.k2 hq
    have hrun := x_sgn (d := d + 2) (t := q) hR hq hk_q hn_q he_q
    have hsb_q := sgn_b (S q 1) (S q 2)
    have hsz_q := sgn_z (S q 1) (S q 2)
    refine i_109_6 hobj (Nat.le_of_ble_eq_true rfl) hrun ?_
    refine i_109_9 rfl ?_
    refine lgen1 (i := 3) (v := Value.int (Int32.ofInt (sgn (S q 1) (S q 2)))) (fun lv lg ls => ?_)
    replace l2 := lg 2 _ rfl rfl l2
    replace l0 := lg 0 _ rfl rfl l0
    replace l1 := lg 1 _ rfl rfl l1
    have l3 := ls
    refine i_109_10 (x := Int32.ofInt (sgn (S t 1) (S t 2))) l2 ?_
    refine i_109_11 (x := Int32.ofInt (sgn (S q 1) (S q 2))) l3 ?_
    refine i_109_12 (b_eq (a := sgn (S t 1) (S t 2)) (b := sgn (S q 1) (S q 2)) ⟨by omega, by omega⟩ ⟨by omega, by omega⟩ fun c0 => ?_) (b_ne (a := sgn (S t 1) (S t 2)) (b := sgn (S q 1) (S q 2)) ⟨by omega, by omega⟩ ⟨by omega, by omega⟩ fun c0 => ?_)
    · refine i_109_26 (x := Int32.ofInt (sgn (S t 1) (S t 2))) l2 ?_
      refine i_109_27 (z_eq (a := sgn (S t 1) (S t 2)) ⟨by omega, by omega⟩ fun c1 => ?_) (z_ne (a := sgn (S t 1) (S t 2)) ⟨by omega, by omega⟩ fun c1 => ?_)
      · refine i_109_46 ?_
        refine i_109_47 ?_
        refine ⟨?_, rfl⟩
        rw [show ordR (S t 1) (S t 2) (S t 3) (V (t + 1)) (S q 1) (S q 2) (S q 3) (V (q + 1)) = (0 : Int) from by clear hR; unfold ordR; grind]
        rfl
      · refine i_109_30 (x := t) l0 ?_
        refine i_109_31 (v := Value.int (Int32.ofInt (S t 1))) (hR.k2 ht) rfl ?_
        refine i_109_34 ?_
        refine i_109_35 (b_ne (a := S t 1) (b := 1) ⟨by omega, by omega⟩ ⟨by decide, by decide⟩ fun c2 => ?_) (b_eq (a := S t 1) (b := 1) ⟨by omega, by omega⟩ ⟨by decide, by decide⟩ fun c2 => ?_)
        · refine i_109_48 (x := t) l0 ?_
          refine i_109_49 (v := Value.int (Int32.ofInt (S t 1))) (hR.k2 ht) rfl ?_
          refine i_109_52 (x := q) l1 ?_
          refine i_109_53 (v := Value.int (Int32.ofInt (S q 1))) (hR.k2 hq) rfl ?_
          refine i_109_56 (b_eq (a := S t 1) (b := S q 1) ⟨by omega, by omega⟩ ⟨by omega, by omega⟩ fun c3 => ?_) (b_ne (a := S t 1) (b := S q 1) ⟨by omega, by omega⟩ ⟨by omega, by omega⟩ fun c3 => ?_)
          · refine i_109_74 (x := t) l0 ?_
            refine i_109_75 (v := Value.int (Int32.ofInt (S t 3))) (hR.k2 ht) rfl ?_
            refine i_109_78 (x := q) l1 ?_
            refine i_109_79 (v := Value.int (Int32.ofInt (S q 3))) (hR.k2 hq) rfl ?_
            refine i_109_82 (b_eq (a := S t 3) (b := S q 3) ⟨by omega, by omega⟩ ⟨by omega, by omega⟩ fun c4 => ?_) (b_ne (a := S t 3) (b := S q 3) ⟨by omega, by omega⟩ ⟨by omega, by omega⟩ fun c4 => ?_)
            · refine i_109_103 (x := Int32.ofInt (sgn (S t 1) (S t 2))) l2 ?_
              refine i_109_104 (x := t) l0 ?_
              refine i_109_105 (v := Value.ref (t + 1)) (hR.k2 ht) rfl ?_
              refine i_109_108 (x := q) l1 ?_
              refine i_109_109 (v := Value.ref (q + 1)) (hR.k2 hq) rfl ?_
              obtain ⟨fs, hobj⟩ := hR.nat (kd_rg ht)
              have hrun := X_oft (d := d) (h := t + 1) (h2 := q + 1) (u := V (t + 1)) (v2 := V (q + 1)) hR (kd_rg ht) (kd_rg hq) (rfl) (rfl)
              refine i_109_112 hobj (Nat.le_of_ble_eq_true rfl) hrun ?_
              refine i_109_115 (c := Int32.ofInt ((sgn (S t 1) (S t 2)) * (ncmp ((V (t + 1)) * 2 ^ xbl (V (q + 1))) ((V (q + 1)) * 2 ^ xbl (V (t + 1)))))) (o_mul (sgn (S t 1) (S t 2)) (ncmp ((V (t + 1)) * 2 ^ xbl (V (q + 1))) ((V (q + 1)) * 2 ^ xbl (V (t + 1))))) ?_
              refine i_109_116 ?_
              refine ⟨?_, rfl⟩
              rw [show ordR (S t 1) (S t 2) (S t 3) (V (t + 1)) (S q 1) (S q 2) (S q 3) (V (q + 1)) = (sgn (S t 1) (S t 2)) * (ncmp ((V (t + 1)) * 2 ^ xbl (V (q + 1))) ((V (q + 1)) * 2 ^ xbl (V (t + 1)))) from by clear hR; unfold ordR; grind]
            · refine i_109_85 (x := t) l0 ?_
              refine i_109_86 (v := Value.int (Int32.ofInt (S t 3))) (hR.k2 ht) rfl ?_
              refine i_109_89 (x := q) l1 ?_
              refine i_109_90 (v := Value.int (Int32.ofInt (S q 3))) (hR.k2 hq) rfl ?_
              refine i_109_93 (b_le (a := S t 3) (b := S q 3) ⟨by omega, by omega⟩ ⟨by omega, by omega⟩ fun c5 => ?_) (b_lt (a := S q 3) (b := S t 3) ⟨by omega, by omega⟩ ⟨by omega, by omega⟩ fun c5 => ?_)
              · refine i_109_100 (x := Int32.ofInt (sgn (S t 1) (S t 2))) l2 ?_
                refine i_109_101 (c := Int32.ofInt (-(sgn (S t 1) (S t 2)))) (o_neg (sgn (S t 1) (S t 2))) ?_
                refine i_109_102 ?_
                refine ⟨?_, rfl⟩
                rw [show ordR (S t 1) (S t 2) (S t 3) (V (t + 1)) (S q 1) (S q 2) (S q 3) (V (q + 1)) = -(sgn (S t 1) (S t 2)) from by clear hR; unfold ordR; grind]
              · refine i_109_96 (x := Int32.ofInt (sgn (S t 1) (S t 2))) l2 ?_
                refine i_109_97 ?_
                refine i_109_102 ?_
                refine ⟨?_, rfl⟩
                rw [show ordR (S t 1) (S t 2) (S t 3) (V (t + 1)) (S q 1) (S q 2) (S q 3) (V (q + 1)) = sgn (S t 1) (S t 2) from by clear hR; unfold ordR; grind]
          · refine i_109_59 (x := t) l0 ?_
            refine i_109_60 (v := Value.int (Int32.ofInt (S t 1))) (hR.k2 ht) rfl ?_
            refine i_109_63 ?_
            refine i_109_64 (b_ne (a := S t 1) (b := 1) ⟨by omega, by omega⟩ ⟨by decide, by decide⟩ fun c6 => ?_) (b_eq (a := S t 1) (b := 1) ⟨by omega, by omega⟩ ⟨by decide, by decide⟩ fun c6 => absurd c6 (by omega))
            refine i_109_71 (x := Int32.ofInt (sgn (S t 1) (S t 2))) l2 ?_
            refine i_109_72 (c := Int32.ofInt (-(sgn (S t 1) (S t 2)))) (o_neg (sgn (S t 1) (S t 2))) ?_
            refine i_109_73 ?_
            refine ⟨?_, rfl⟩
            rw [show ordR (S t 1) (S t 2) (S t 3) (V (t + 1)) (S q 1) (S q 2) (S q 3) (V (q + 1)) = -(sgn (S t 1) (S t 2)) from by clear hR; unfold ordR; grind]
        · refine i_109_38 (x := q) l1 ?_
          refine i_109_39 (v := Value.int (Int32.ofInt (S q 1))) (hR.k2 hq) rfl ?_
          refine i_109_42 ?_
          refine i_109_43 (b_ne (a := S q 1) (b := 1) ⟨by omega, by omega⟩ ⟨by decide, by decide⟩ fun c7 => ?_) (b_eq (a := S q 1) (b := 1) ⟨by omega, by omega⟩ ⟨by decide, by decide⟩ fun c7 => ?_)
          · refine i_109_48 (x := t) l0 ?_
            refine i_109_49 (v := Value.int (Int32.ofInt (S t 1))) (hR.k2 ht) rfl ?_
            refine i_109_52 (x := q) l1 ?_
            refine i_109_53 (v := Value.int (Int32.ofInt (S q 1))) (hR.k2 hq) rfl ?_
            refine i_109_56 (b_eq (a := S t 1) (b := S q 1) ⟨by omega, by omega⟩ ⟨by omega, by omega⟩ fun c8 => ?_) (b_ne (a := S t 1) (b := S q 1) ⟨by omega, by omega⟩ ⟨by omega, by omega⟩ fun c8 => ?_)
            · refine i_109_74 (x := t) l0 ?_
              refine i_109_75 (v := Value.int (Int32.ofInt (S t 3))) (hR.k2 ht) rfl ?_
              refine i_109_78 (x := q) l1 ?_
              refine i_109_79 (v := Value.int (Int32.ofInt (S q 3))) (hR.k2 hq) rfl ?_
              refine i_109_82 (b_eq (a := S t 3) (b := S q 3) ⟨by omega, by omega⟩ ⟨by omega, by omega⟩ fun c9 => ?_) (b_ne (a := S t 3) (b := S q 3) ⟨by omega, by omega⟩ ⟨by omega, by omega⟩ fun c9 => ?_)
              · refine i_109_103 (x := Int32.ofInt (sgn (S t 1) (S t 2))) l2 ?_
                refine i_109_104 (x := t) l0 ?_
                refine i_109_105 (v := Value.ref (t + 1)) (hR.k2 ht) rfl ?_
                refine i_109_108 (x := q) l1 ?_
                refine i_109_109 (v := Value.ref (q + 1)) (hR.k2 hq) rfl ?_
                obtain ⟨fs, hobj⟩ := hR.nat (kd_rg ht)
                have hrun := X_oft (d := d) (h := t + 1) (h2 := q + 1) (u := V (t + 1)) (v2 := V (q + 1)) hR (kd_rg ht) (kd_rg hq) (rfl) (rfl)
                refine i_109_112 hobj (Nat.le_of_ble_eq_true rfl) hrun ?_
                refine i_109_115 (c := Int32.ofInt ((sgn (S t 1) (S t 2)) * (ncmp ((V (t + 1)) * 2 ^ xbl (V (q + 1))) ((V (q + 1)) * 2 ^ xbl (V (t + 1)))))) (o_mul (sgn (S t 1) (S t 2)) (ncmp ((V (t + 1)) * 2 ^ xbl (V (q + 1))) ((V (q + 1)) * 2 ^ xbl (V (t + 1))))) ?_
                refine i_109_116 ?_
                refine ⟨?_, rfl⟩
                rw [show ordR (S t 1) (S t 2) (S t 3) (V (t + 1)) (S q 1) (S q 2) (S q 3) (V (q + 1)) = (sgn (S t 1) (S t 2)) * (ncmp ((V (t + 1)) * 2 ^ xbl (V (q + 1))) ((V (q + 1)) * 2 ^ xbl (V (t + 1)))) from by clear hR; unfold ordR; grind]
              · refine i_109_85 (x := t) l0 ?_
                refine i_109_86 (v := Value.int (Int32.ofInt (S t 3))) (hR.k2 ht) rfl ?_
                refine i_109_89 (x := q) l1 ?_
                refine i_109_90 (v := Value.int (Int32.ofInt (S q 3))) (hR.k2 hq) rfl ?_
                refine i_109_93 (b_le (a := S t 3) (b := S q 3) ⟨by omega, by omega⟩ ⟨by omega, by omega⟩ fun c10 => ?_) (b_lt (a := S q 3) (b := S t 3) ⟨by omega, by omega⟩ ⟨by omega, by omega⟩ fun c10 => ?_)
                · refine i_109_100 (x := Int32.ofInt (sgn (S t 1) (S t 2))) l2 ?_
                  refine i_109_101 (c := Int32.ofInt (-(sgn (S t 1) (S t 2)))) (o_neg (sgn (S t 1) (S t 2))) ?_
                  refine i_109_102 ?_
                  refine ⟨?_, rfl⟩
                  rw [show ordR (S t 1) (S t 2) (S t 3) (V (t + 1)) (S q 1) (S q 2) (S q 3) (V (q + 1)) = -(sgn (S t 1) (S t 2)) from by clear hR; unfold ordR; grind]
                · refine i_109_96 (x := Int32.ofInt (sgn (S t 1) (S t 2))) l2 ?_
                  refine i_109_97 ?_
                  refine i_109_102 ?_
                  refine ⟨?_, rfl⟩
                  rw [show ordR (S t 1) (S t 2) (S t 3) (V (t + 1)) (S q 1) (S q 2) (S q 3) (V (q + 1)) = sgn (S t 1) (S t 2) from by clear hR; unfold ordR; grind]
            · refine i_109_59 (x := t) l0 ?_
              refine i_109_60 (v := Value.int (Int32.ofInt (S t 1))) (hR.k2 ht) rfl ?_
              refine i_109_63 ?_
              refine i_109_64 (b_ne (a := S t 1) (b := 1) ⟨by omega, by omega⟩ ⟨by decide, by decide⟩ fun c11 => absurd c11 (by omega)) (b_eq (a := S t 1) (b := 1) ⟨by omega, by omega⟩ ⟨by decide, by decide⟩ fun c11 => ?_)
              refine i_109_67 (x := Int32.ofInt (sgn (S t 1) (S t 2))) l2 ?_
              refine i_109_68 ?_
              refine i_109_73 ?_
              refine ⟨?_, rfl⟩
              rw [show ordR (S t 1) (S t 2) (S t 3) (V (t + 1)) (S q 1) (S q 2) (S q 3) (V (q + 1)) = sgn (S t 1) (S t 2) from by clear hR; unfold ordR; grind]
          · refine i_109_46 ?_
            refine i_109_47 ?_
            refine ⟨?_, rfl⟩
            rw [show ordR (S t 1) (S t 2) (S t 3) (V (t + 1)) (S q 1) (S q 2) (S q 3) (V (q + 1)) = (0 : Int) from by clear hR; unfold ordR; grind]
            rfl
    · refine i_109_15 (x := Int32.ofInt (sgn (S t 1) (S t 2))) l2 ?_
      refine i_109_16 (x := Int32.ofInt (sgn (S q 1) (S q 2))) l3 ?_
      refine i_109_17 (b_le (a := sgn (S q 1) (S q 2)) (b := sgn (S t 1) (S t 2)) ⟨by omega, by omega⟩ ⟨by omega, by omega⟩ fun c12 => ?_) (b_lt (a := sgn (S t 1) (S t 2)) (b := sgn (S q 1) (S q 2)) ⟨by omega, by omega⟩ ⟨by omega, by omega⟩ fun c12 => ?_)
      · refine i_109_24 ?_
        refine i_109_25 ?_
        refine ⟨?_, rfl⟩
        rw [show ordR (S t 1) (S t 2) (S t 3) (V (t + 1)) (S q 1) (S q 2) (S q 3) (V (q + 1)) = (1 : Int) from by clear hR; unfold ordR; grind]
        rfl
      · refine i_109_20 ?_
        refine i_109_21 ?_
        refine i_109_25 ?_
        refine ⟨?_, rfl⟩
        rw [show ordR (S t 1) (S t 2) (S t 3) (V (t + 1)) (S q 1) (S q 2) (S q 3) (V (q + 1)) = ((-1) : Int) from by clear hR; unfold ordR; grind]
        rfl
  obtain ⟨o, w', h1, rfl, rfl⟩ := (key (lv_args 0 [Value.ref t, Value.ref q]) rfl rfl).run
  exact h1
theorem x_cmp {a b : Int} (hR : cX w0 L Z S V w) (hI : cI S V) (ha : 0 ≤ a ∧ a ≤ 15) (hb : 0 ≤ b ∧ b ≤ 15) (ka : S (30 + 3 * a.toNat) 1 ≠ 0) (kb : S (30 + 3 * b.toNat) 1 ≠ 0) : xRun (d + 5) 122 [Value.ref 7, Value.int (Int32.ofInt a), Value.int (Int32.ofInt b)] w (.inl (some (.int (Int32.ofInt (ordR (S (30 + 3 * a.toNat) 1) (S (30 + 3 * a.toNat) 2) (S (30 + 3 * a.toNat) 3) (V (30 + 3 * a.toNat + 1)) (S (30 + 3 * b.toNat) 1) (S (30 + 3 * b.toNat) 2) (S (30 + 3 * b.toNat) 3) (V (30 + 3 * b.toNat + 1))))))) w := by
  have key : ∀ lv, xld lv 0 = some (Value.ref 7) → xld lv 1 = some (Value.int (Int32.ofInt a)) → xld lv 2 = some (Value.int (Int32.ofInt b)) → xEv (d + 5) 122 0 lv [] w (fun o w' => o = .inl (some (.int (Int32.ofInt (ordR (S (30 + 3 * a.toNat) 1) (S (30 + 3 * a.toNat) 2) (S (30 + 3 * a.toNat) 3) (V (30 + 3 * a.toNat + 1)) (S (30 + 3 * b.toNat) 1) (S (30 + 3 * b.toNat) 2) (S (30 + 3 * b.toNat) 3) (V (30 + 3 * b.toNat + 1)))))) ∧ w' = w) := by
    intro lv l0 l1 l2
    obtain ⟨hp_a, hk_a, hn_a, ht_a, hx_a, hz_a⟩ := hI.1 a.toNat (by omega)
    obtain ⟨hp_b, hk_b, hn_b, ht_b, hx_b, hz_b⟩ := hI.1 b.toNat (by omega)
    refine i_122_0 (x := Int32.ofInt a) l1 ?_
    have hrun := x_noReg (d := d + 4) (w := w) (r := a) ⟨by omega, by omega⟩
    rw [show (decide (a < 0) || decide (16 ≤ a)) = false from by simp; omega] at hrun
    refine i_122_1 (Nat.le_of_ble_eq_true rfl) hrun ?_
    refine i_122_4 (fun c => absurd c (by decide)) (fun _ => ?_)
    refine i_122_7 (x := Int32.ofInt b) l2 ?_
    have hrun := x_noReg (d := d + 4) (w := w) (r := b) ⟨by omega, by omega⟩
    rw [show (decide (b < 0) || decide (16 ≤ b)) = false from by simp; omega] at hrun
    refine i_122_8 (Nat.le_of_ble_eq_true rfl) hrun ?_
    refine i_122_11 (fun _ => ?_) (fun c => absurd c (by decide))
    refine i_122_22 (x := 7) l0 ?_
    refine i_122_23 (v := Value.ref 8) (hR.k0 kq_7) rfl ?_
    refine i_122_26 (x := Int32.ofInt a) l1 ?_
    obtain ⟨gr, hgr, hge⟩ := hR.regs
    refine i_122_27 (v := Value.ref (30 + 3 * a.toNat)) hgr (ix0 (T := a) (by omega) (by omega)) (ix1 (T := a) (by omega) (by omega) (by omega)) (by rw [ixn (T := a) (by omega) (by omega)]; exact hge _ (by omega)) ?_
    refine i_122_28 (v := Value.int (Int32.ofInt (S (30 + 3 * a.toNat) 1))) (hR.k2 (kd_reg (r := a.toNat) (by omega))) rfl ?_
    refine i_122_31 (z_eq (a := S (30 + 3 * a.toNat) 1) ⟨by omega, by omega⟩ fun c0 => ?_) (z_ne (a := S (30 + 3 * a.toNat) 1) ⟨by omega, by omega⟩ fun c0 => ?_)
    · refine i_122_46 (x := 7) l0 ?_
      refine i_122_47 (v := Value.ref 78) (hR.k0 kq_7) rfl ?_
      refine i_122_50 rfl ?_
      refine i_122_51 (v := Value.int (Int32.ofInt (S 78 3))) (hR.k1 kq_78) rfl ?_
      refine i_122_54 ?_
      refine i_122_56 (c := Int32.ofInt (zor (S 78 3) 32)) (o_or (S 78 3) 32) ?_
      refine i_122_57 (fs2 := f1 (u1 (S 78) 3 (zor (S 78 3) 32))) (hR.k1 kq_78) (Nat.le_of_ble_eq_true rfl) rfl (h7k kq_78 (by decide)) ?_
      refine xgen (P := cX w0 L Z (u2 S 78 3 (zor (S 78 3) 32)) V) (hR.p1 kq_78) (fun w hR => ?_)
      refine i_122_60 (by omega) (Nat.le_of_ble_eq_true rfl) ?_
      exfalso; omega
    · refine i_122_34 (x := 7) l0 ?_
      refine i_122_35 (v := Value.ref 8) (hR.k0 kq_7) rfl ?_
      refine i_122_38 (x := Int32.ofInt b) l2 ?_
      obtain ⟨gr, hgr, hge⟩ := hR.regs
      refine i_122_39 (v := Value.ref (30 + 3 * b.toNat)) hgr (ix0 (T := b) (by omega) (by omega)) (ix1 (T := b) (by omega) (by omega) (by omega)) (by rw [ixn (T := b) (by omega) (by omega)]; exact hge _ (by omega)) ?_
      refine i_122_40 (v := Value.int (Int32.ofInt (S (30 + 3 * b.toNat) 1))) (hR.k2 (kd_reg (r := b.toNat) (by omega))) rfl ?_
      refine i_122_43 (z_ne (a := S (30 + 3 * b.toNat) 1) ⟨by omega, by omega⟩ fun c1 => ?_) (z_eq (a := S (30 + 3 * b.toNat) 1) ⟨by omega, by omega⟩ fun c1 => ?_)
      · refine i_122_68 (x := 7) l0 ?_
        refine i_122_69 (v := Value.ref 8) (hR.k0 kq_7) rfl ?_
        refine i_122_72 (x := Int32.ofInt a) l1 ?_
        obtain ⟨gr, hgr, hge⟩ := hR.regs
        refine i_122_73 (v := Value.ref (30 + 3 * a.toNat)) hgr (ix0 (T := a) (by omega) (by omega)) (ix1 (T := a) (by omega) (by omega) (by omega)) (by rw [ixn (T := a) (by omega) (by omega)]; exact hge _ (by omega)) ?_
        refine i_122_74 (x := 7) l0 ?_
        refine i_122_75 (v := Value.ref 8) (hR.k0 kq_7) rfl ?_
        refine i_122_78 (x := Int32.ofInt b) l2 ?_
        obtain ⟨gr, hgr, hge⟩ := hR.regs
        refine i_122_79 (v := Value.ref (30 + 3 * b.toNat)) hgr (ix0 (T := b) (by omega) (by omega)) (ix1 (T := b) (by omega) (by omega) (by omega)) (by rw [ixn (T := b) (by omega) (by omega)]; exact hge _ (by omega)) ?_
        have hrun := x_order (d := d + 1) (t := 30 + 3 * a.toNat) (q := 30 + 3 * b.toNat) hR (kd_reg (r := a.toNat) (by omega)) (kd_reg (r := b.toNat) (by omega)) (by omega) hn_a (by omega) (by omega) hn_b (by omega)
        refine i_122_80 (Nat.le_of_ble_eq_true rfl) hrun ?_
        refine i_122_83 ?_
        exact ⟨rfl, rfl⟩
      · refine i_122_46 (x := 7) l0 ?_
        refine i_122_47 (v := Value.ref 78) (hR.k0 kq_7) rfl ?_
        refine i_122_50 rfl ?_
        refine i_122_51 (v := Value.int (Int32.ofInt (S 78 3))) (hR.k1 kq_78) rfl ?_
        refine i_122_54 ?_
        refine i_122_56 (c := Int32.ofInt (zor (S 78 3) 32)) (o_or (S 78 3) 32) ?_
        refine i_122_57 (fs2 := f1 (u1 (S 78) 3 (zor (S 78 3) 32))) (hR.k1 kq_78) (Nat.le_of_ble_eq_true rfl) rfl (h7k kq_78 (by decide)) ?_
        refine xgen (P := cX w0 L Z (u2 S 78 3 (zor (S 78 3) 32)) V) (hR.p1 kq_78) (fun w hR => ?_)
        refine i_122_60 (by omega) (Nat.le_of_ble_eq_true rfl) ?_
        exfalso; omega
  obtain ⟨o, w', h1, rfl, rfl⟩ := (key (lv_args 0 [Value.ref 7, Value.int (Int32.ofInt a), Value.int (Int32.ofInt b)]) rfl rfl rfl).run
  exact h1
end
