/-! second throws of the class -/
section
variable {w0 w : xW} {L Z : Nat} {S : Nat → Nat → Int} {V : Nat → Nat} {d h t r : Nat}
set_option maxHeartbeats 4000000 in
theorem n_ccmp {a b : Int} (hR : cX w0 L Z S V w) (hI : cI S V) (ha : 0 ≤ a ∧ a ≤ 15) (hb : 0 ≤ b ∧ b ≤ 15) (hk : S (30 + 3 * a.toNat) 1 = 0 ∨ S (30 + 3 * b.toNat) 1 = 0) : ∃ w1, xRun (d + 8) 122 [Value.ref 7, Value.int (Int32.ofInt a), Value.int (Int32.ofInt b)] w (.inr w1.length) (w1 ++ [.inr (15, [])]) ∧ cX w0 L Z (u2 S 78 3 (zor (S 78 3) 32)) V w1 := by
  have key : ∀ lv, xld lv 0 = some (Value.ref 7) → xld lv 1 = some (Value.int (Int32.ofInt a)) → xld lv 2 = some (Value.int (Int32.ofInt b)) → xEv (d + 8) 122 0 lv [] w (fun o w' => ∃ w1, o = .inr w1.length ∧ w' = w1 ++ [.inr (15, [])] ∧ cX w0 L Z (u2 S 78 3 (zor (S 78 3) 32)) V w1) := by
    intro lv l0 l1 l2
    obtain ⟨hp_a, hk_a, hn_a, ht_a, hx_a, hz_a⟩ := hI.1 a.toNat (by omega)
    obtain ⟨hp_b, hk_b, hn_b, ht_b, hx_b, hz_b⟩ := hI.1 b.toNat (by omega)
    refine i_122_0 (x := Int32.ofInt a) l1 ?_
    have hrun := x_noReg (d := d + 7) (w := w) (r := a) ⟨by omega, by omega⟩
    rw [show (decide (a < 0) || decide (16 ≤ a)) = false from by simp; omega] at hrun
    refine i_122_1 (Nat.le_of_ble_eq_true rfl) hrun ?_
    refine i_122_4 (fun c => absurd c (by decide)) (fun _ => ?_)
    refine i_122_7 (x := Int32.ofInt b) l2 ?_
    have hrun := x_noReg (d := d + 7) (w := w) (r := b) ⟨by omega, by omega⟩
    rw [show (decide (b < 0) || decide (16 ≤ b)) = false from by simp; omega] at hrun
    refine i_122_8 (Nat.le_of_ble_eq_true rfl) hrun ?_
    refine i_122_11 (fun _ => ?_) (fun c => absurd c (by decide))
    refine i_122_22 (x := 7) l0 ?_
    refine i_122_23 (v := Value.ref 8) (hR.k0 kq_7) rfl ?_
    refine i_122_26 (x := Int32.ofInt a) l1 ?_
    obtain ⟨gr, hgr, hge⟩ := hR.regs
    refine i_122_27 (v := Value.ref (30 + 3 * a.toNat)) hgr (ix0 (T := a) (by omega) (by omega)) (ix1 (T := a) (by omega) (by omega) (by omega)) (by rw [ixn (T := a) (by omega) (by omega)]; exact hge _ (by omega)) ?_
    refine i_122_28 (v := Value.int (Int32.ofInt (S (30 + 3 * a.toNat) 1))) (hR.k2 (kd_reg (r := a.toNat) (by omega))) rfl ?_
    refine i_122_31 (z_eq (a := S (30 + 3 * a.toNat) 1) ⟨by omega, by omega⟩ fun c0 => ?_) (z_ne (a := S (30 + 3 * a.toNat) 1) ⟨by omega, by omega⟩ fun c0 => ?_)
    · refine i_122_46 (x := 7) l0 ?_
      refine i_122_47 (v := Value.ref 78) (hR.k0 kq_7) rfl ?_
      refine i_122_50 rfl ?_
      refine i_122_51 (v := Value.int (Int32.ofInt (S 78 3))) (hR.k1 kq_78) rfl ?_
      refine i_122_54 ?_
      refine i_122_56 (c := Int32.ofInt (zor (S 78 3) 32)) (o_or (S 78 3) 32) ?_
      refine i_122_57 (fs2 := f1 (u1 (S 78) 3 (zor (S 78 3) 32))) (hR.k1 kq_78) (Nat.le_of_ble_eq_true rfl) rfl (h7k kq_78 (by decide)) ?_
      refine xgen (P := cX w0 L Z (u2 S 78 3 (zor (S 78 3) 32)) V) (hR.p1 kq_78) (fun w hR => ?_)
      refine i_122_60 (by omega) (Nat.le_of_ble_eq_true rfl) ?_
      exact ⟨w, rfl, rfl, hR⟩
    · refine i_122_34 (x := 7) l0 ?_
      refine i_122_35 (v := Value.ref 8) (hR.k0 kq_7) rfl ?_
      refine i_122_38 (x := Int32.ofInt b) l2 ?_
      obtain ⟨gr, hgr, hge⟩ := hR.regs
      refine i_122_39 (v := Value.ref (30 + 3 * b.toNat)) hgr (ix0 (T := b) (by omega) (by omega)) (ix1 (T := b) (by omega) (by omega) (by omega)) (by rw [ixn (T := b) (by omega) (by omega)]; exact hge _ (by omega)) ?_
      refine i_122_40 (v := Value.int (Int32.ofInt (S (30 + 3 * b.toNat) 1))) (hR.k2 (kd_reg (r := b.toNat) (by omega))) rfl ?_
      refine i_122_43 (z_ne (a := S (30 + 3 * b.toNat) 1) ⟨by omega, by omega⟩ fun c1 => ?_) (z_eq (a := S (30 + 3 * b.toNat) 1) ⟨by omega, by omega⟩ fun c1 => ?_)
      · exfalso; omega
      · refine i_122_46 (x := 7) l0 ?_
        refine i_122_47 (v := Value.ref 78) (hR.k0 kq_7) rfl ?_
        refine i_122_50 rfl ?_
        refine i_122_51 (v := Value.int (Int32.ofInt (S 78 3))) (hR.k1 kq_78) rfl ?_
        refine i_122_54 ?_
        refine i_122_56 (c := Int32.ofInt (zor (S 78 3) 32)) (o_or (S 78 3) 32) ?_
        refine i_122_57 (fs2 := f1 (u1 (S 78) 3 (zor (S 78 3) 32))) (hR.k1 kq_78) (Nat.le_of_ble_eq_true rfl) rfl (h7k kq_78 (by decide)) ?_
        refine xgen (P := cX w0 L Z (u2 S 78 3 (zor (S 78 3) 32)) V) (hR.p1 kq_78) (fun w hR => ?_)
        refine i_122_60 (by omega) (Nat.le_of_ble_eq_true rfl) ?_
        exact ⟨w, rfl, rfl, hR⟩
  obtain ⟨o, w', h1, w1, rfl, rfl, h2⟩ := (key (lv_args 0 [Value.ref 7, Value.int (Int32.ofInt a), Value.int (Int32.ofInt b)]) rfl rfl rfl).run
  exact ⟨w1, h1, h2⟩
theorem n_clook {r wh : Int} (hR : cX w0 L Z S V w) (hI : cI S V) (hr : 0 ≤ r ∧ r ≤ 15) (hw : 0 ≤ wh ∧ wh ≤ 3) (hk : (wh = 2 ∧ S (30 + 3 * r.toNat) 1 = 0) ∨ (wh = 3 ∧ S (30 + 3 * r.toNat) 1 ≠ 3)) : ∃ w1, xRun (d + 8) 124 [Value.ref 7, Value.int (Int32.ofInt r), Value.int (Int32.ofInt wh)] w (.inr w1.length) (w1 ++ [.inr (16, [])]) ∧ cX w0 L Z S V w1 := by
  have key : ∀ lv, xld lv 0 = some (Value.ref 7) → xld lv 1 = some (Value.int (Int32.ofInt r)) → xld lv 2 = some (Value.int (Int32.ofInt wh)) → xEv (d + 8) 124 0 lv [] w (fun o w' => ∃ w1, o = .inr w1.length ∧ w' = w1 ++ [.inr (16, [])] ∧ cX w0 L Z S V w1) := by
    intro lv l0 l1 l2
    obtain ⟨hp_r, hk_r, hn_r, ht_r, hx_r, hz_r⟩ := hI.1 r.toNat (by omega)
    refine i_124_0 (x := Int32.ofInt r) l1 ?_
    have hrun := x_noReg (d := d + 7) (w := w) (r := r) ⟨by omega, by omega⟩
    rw [show (decide (r < 0) || decide (16 ≤ r)) = false from by simp; omega] at hrun
    refine i_124_1 (Nat.le_of_ble_eq_true rfl) hrun ?_
    refine i_124_4 (fun c => absurd c (by decide)) (fun _ => ?_)
    refine i_124_7 (x := Int32.ofInt wh) l2 ?_
    refine i_124_8 (z_lt (a := wh) ⟨by omega, by omega⟩ fun c0 => ?_) (z_ge (a := wh) ⟨by omega, by omega⟩ fun c0 => ?_)
    · refine i_124_16 (by omega) (Nat.le_of_ble_eq_true rfl) ?_
      exfalso; omega
    · refine i_124_11 (x := Int32.ofInt wh) l2 ?_
      refine i_124_12 ?_
      refine i_124_13 (b_le (a := wh) (b := 3) ⟨by omega, by omega⟩ ⟨by decide, by decide⟩ fun c1 => ?_) (b_lt (a := 3) (b := wh) ⟨by decide, by decide⟩ ⟨by omega, by omega⟩ fun c1 => ?_)
      · refine i_124_24 (x := 7) l0 ?_
        refine i_124_25 (v := Value.ref 8) (hR.k0 kq_7) rfl ?_
        refine i_124_28 (x := Int32.ofInt r) l1 ?_
        obtain ⟨gr, hgr, hge⟩ := hR.regs
        refine i_124_29 (v := Value.ref (30 + 3 * r.toNat)) hgr (ix0 (T := r) (by omega) (by omega)) (ix1 (T := r) (by omega) (by omega) (by omega)) (by rw [ixn (T := r) (by omega) (by omega)]; exact hge _ (by omega)) ?_
        refine i_124_30 rfl ?_
        refine lgen1 (i := 3) (v := Value.ref (30 + 3 * r.toNat)) (fun lv lg ls => ?_)
        replace l0 := lg 0 _ rfl rfl l0
        replace l1 := lg 1 _ rfl rfl l1
        replace l2 := lg 2 _ rfl rfl l2
        have l3 := ls
        refine i_124_31 (x := Int32.ofInt wh) l2 ?_
        refine i_124_32 (z_ne (a := wh) ⟨by omega, by omega⟩ fun c2 => ?_) (z_eq (a := wh) ⟨by omega, by omega⟩ fun c2 => ?_)
        · refine i_124_40 (x := Int32.ofInt wh) l2 ?_
          refine i_124_41 ?_
          refine i_124_42 (b_ne (a := wh) (b := 1) ⟨by omega, by omega⟩ ⟨by decide, by decide⟩ fun c3 => ?_) (b_eq (a := wh) (b := 1) ⟨by omega, by omega⟩ ⟨by decide, by decide⟩ fun c3 => ?_)
          · refine i_124_50 (x := Int32.ofInt wh) l2 ?_
            refine i_124_51 ?_
            refine i_124_52 (b_ne (a := wh) (b := 2) ⟨by omega, by omega⟩ ⟨by decide, by decide⟩ fun c4 => ?_) (b_eq (a := wh) (b := 2) ⟨by omega, by omega⟩ ⟨by decide, by decide⟩ fun c4 => ?_)
            · refine i_124_65 (x := 30 + 3 * r.toNat) l3 ?_
              refine i_124_66 (v := Value.int (Int32.ofInt (S (30 + 3 * r.toNat) 1))) (hR.k2 (kd_reg (r := r.toNat) (by omega))) rfl ?_
              refine i_124_69 ?_
              refine i_124_70 (b_eq (a := S (30 + 3 * r.toNat) 1) (b := 3) ⟨by omega, by omega⟩ ⟨by decide, by decide⟩ fun c5 => ?_) (b_ne (a := S (30 + 3 * r.toNat) 1) (b := 3) ⟨by omega, by omega⟩ ⟨by decide, by decide⟩ fun c5 => ?_)
              · try replace ht_r := ht_r.resolve_left (by omega)
                try replace hx_r := hx_r.resolve_left (by omega)
                exfalso; omega
              · refine i_124_73 (by omega) (Nat.le_of_ble_eq_true rfl) ?_
                exact ⟨w, rfl, rfl, hR⟩
            · refine i_124_55 (x := 30 + 3 * r.toNat) l3 ?_
              refine i_124_56 (v := Value.int (Int32.ofInt (S (30 + 3 * r.toNat) 1))) (hR.k2 (kd_reg (r := r.toNat) (by omega))) rfl ?_
              refine i_124_59 (z_ne (a := S (30 + 3 * r.toNat) 1) ⟨by omega, by omega⟩ fun c6 => ?_) (z_eq (a := S (30 + 3 * r.toNat) 1) ⟨by omega, by omega⟩ fun c6 => ?_)
              · exfalso; omega
              · refine i_124_62 ?_
                refine i_124_73 (by omega) (Nat.le_of_ble_eq_true rfl) ?_
                exact ⟨w, rfl, rfl, hR⟩
          · refine i_124_45 (x := 30 + 3 * r.toNat) l3 ?_
            refine i_124_46 (v := Value.int (Int32.ofInt (S (30 + 3 * r.toNat) 1))) (hR.k2 (kd_reg (r := r.toNat) (by omega))) rfl ?_
            refine i_124_49 ?_
            exfalso; omega
        · refine i_124_35 (x := 30 + 3 * r.toNat) l3 ?_
          refine i_124_36 (v := Value.int (Int32.ofInt (S (30 + 3 * r.toNat) 0))) (hR.k2 (kd_reg (r := r.toNat) (by omega))) rfl ?_
          refine i_124_39 ?_
          exfalso; omega
      · refine i_124_16 (by omega) (Nat.le_of_ble_eq_true rfl) ?_
        exfalso; omega
  obtain ⟨o, w', h1, w1, rfl, rfl, h2⟩ := (key (lv_args 0 [Value.ref 7, Value.int (Int32.ofInt r), Value.int (Int32.ofInt wh)]) rfl rfl rfl).run
  exact ⟨w1, h1, h2⟩
theorem n_cword {r k : Int} (hR : cX w0 L Z S V w) (hI : cI S V) (hr : 0 ≤ r ∧ r ≤ 15) (hk : 0 ≤ k ∧ k ≤ 127) (h3 : S (30 + 3 * r.toNat) 1 ≠ 3) : ∃ w1, xRun (d + 8) 126 [Value.ref 7, Value.int (Int32.ofInt r), Value.int (Int32.ofInt k)] w (.inr w1.length) (w1 ++ [.inr (16, [])]) ∧ cX w0 L Z S V w1 := by
  have key : ∀ lv, xld lv 0 = some (Value.ref 7) → xld lv 1 = some (Value.int (Int32.ofInt r)) → xld lv 2 = some (Value.int (Int32.ofInt k)) → xEv (d + 8) 126 0 lv [] w (fun o w' => ∃ w1, o = .inr w1.length ∧ w' = w1 ++ [.inr (16, [])] ∧ cX w0 L Z S V w1) := by
    intro lv l0 l1 l2
    obtain ⟨hp_r, hk_r, hn_r, ht_r, hx_r, hz_r⟩ := hI.1 r.toNat (by omega)
    refine i_126_0 (x := Int32.ofInt r) l1 ?_
    have hrun := x_noReg (d := d + 7) (w := w) (r := r) ⟨by omega, by omega⟩
    rw [show (decide (r < 0) || decide (16 ≤ r)) = false from by simp; omega] at hrun
    refine i_126_1 (Nat.le_of_ble_eq_true rfl) hrun ?_
    refine i_126_4 (fun c => absurd c (by decide)) (fun _ => ?_)
    refine i_126_7 (x := Int32.ofInt k) l2 ?_
    refine i_126_8 (z_lt (a := k) ⟨by omega, by omega⟩ fun c0 => ?_) (z_ge (a := k) ⟨by omega, by omega⟩ fun c0 => ?_)
    · refine i_126_17 (by omega) (Nat.le_of_ble_eq_true rfl) ?_
      exfalso; omega
    · refine i_126_11 (x := Int32.ofInt k) l2 ?_
      refine i_126_12 ?_
      refine i_126_14 (b_le (a := k) (b := 127) ⟨by omega, by omega⟩ ⟨by decide, by decide⟩ fun c1 => ?_) (b_lt (a := 127) (b := k) ⟨by decide, by decide⟩ ⟨by omega, by omega⟩ fun c1 => ?_)
      · refine i_126_25 (x := 7) l0 ?_
        refine i_126_26 (v := Value.ref 8) (hR.k0 kq_7) rfl ?_
        refine i_126_29 (x := Int32.ofInt r) l1 ?_
        obtain ⟨gr, hgr, hge⟩ := hR.regs
        refine i_126_30 (v := Value.ref (30 + 3 * r.toNat)) hgr (ix0 (T := r) (by omega) (by omega)) (ix1 (T := r) (by omega) (by omega) (by omega)) (by rw [ixn (T := r) (by omega) (by omega)]; exact hge _ (by omega)) ?_
        refine i_126_31 (v := Value.int (Int32.ofInt (S (30 + 3 * r.toNat) 1))) (hR.k2 (kd_reg (r := r.toNat) (by omega))) rfl ?_
        refine i_126_34 ?_
        refine i_126_35 (b_eq (a := S (30 + 3 * r.toNat) 1) (b := 3) ⟨by omega, by omega⟩ ⟨by decide, by decide⟩ fun c2 => ?_) (b_ne (a := S (30 + 3 * r.toNat) 1) (b := 3) ⟨by omega, by omega⟩ ⟨by decide, by decide⟩ fun c2 => ?_)
        · try replace ht_r := ht_r.resolve_left (by omega)
          try replace hx_r := hx_r.resolve_left (by omega)
          exfalso; omega
        · refine i_126_38 (by omega) (Nat.le_of_ble_eq_true rfl) ?_
          exact ⟨w, rfl, rfl, hR⟩
      · refine i_126_17 (by omega) (Nat.le_of_ble_eq_true rfl) ?_
        exfalso; omega
  obtain ⟨o, w', h1, w1, rfl, rfl, h2⟩ := (key (lv_args 0 [Value.ref 7, Value.int (Int32.ofInt r), Value.int (Int32.ofInt k)]) rfl rfl rfl).run
  exact ⟨w1, h1, h2⟩
end
