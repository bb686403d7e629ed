/-! write of the class -/
/-- what a written text leaves: n digits of the register t, F before the point -/
def wrP (S S' : Nat → Nat → Int) (V V' : Nat → Nat) (t rx n : Nat) (F mode : Int) : Prop :=
  hid (∀ x : Nat, S' 114 x = if x < n then (if x = 0 ∧ rx ^ n ≤ spW (V (t + 1)) (S t 3 - S t 0) rx F (S t 2) n mode then 49 else ltr ((spW (V (t + 1)) (S t 3 - S t 0) rx F (S t 2) n mode / rx ^ (n - 1 - x) % rx : Nat) : Int)) else S 114 x) ∧ S' 113 3 = (n : Int) ∧ hid (∀ b j, b ≠ 79 → b ≠ 113 → b ≠ 114 → S' b j = S b j) ∧ pwP S' ∧ hid (∀ i, i ≠ 80 → i ≠ 82 → i ≠ 84 → i ≠ 87 → i ≠ 89 → i ≠ 91 → i ≠ 115 → i ≠ 117 → i ≠ 119 → i ≠ 121 → i ≠ 123 → V' i = V i)
section
variable {w0 w : xW} {L Z : Nat} {S : Nat → Nat → Int} {V : Nat → Nat} {d rx n : Nat} {r mode : Int}
set_option maxHeartbeats 8000000 in
theorem x_write (hR : cX w0 L Z S V w) (hI : cI S V) (hK5 : w0[5]? = some (.inl (3, 37, fun j => .long (xlogc.getD j 0)))) (hr : 0 ≤ r ∧ r ≤ 15) (hrx : 2 ≤ rx ∧ rx ≤ 36) (hn : 0 ≤ n ∧ n ≤ 2000) (hmo : 0 ≤ mode ∧ mode ≤ 4) (hkd : S (30 + 3 * r.toNat) 1 = 3) : ∃ n1 : Nat, ∃ F mo w', xRun (d + 16) 151 [Value.ref 7, Value.int (Int32.ofInt r), Value.int (Int32.ofInt (rx : Int)), Value.int (Int32.ofInt (n : Int)), Value.int (Int32.ofInt mode)] w (.inl (some (.int (Int32.ofInt (if rx ^ n1 ≤ spW (V (30 + 3 * r.toNat + 1)) (S (30 + 3 * r.toNat) 3 - S (30 + 3 * r.toNat) 0) rx F (S (30 + 3 * r.toNat) 2) (n1 : Int) mo then F + 1 else F))))) w' ∧ fst_is (V (30 + 3 * r.toNat + 1)) (S (30 + 3 * r.toNat) 3 - S (30 + 3 * r.toNat) 0) rx F ∧ (hid (n = 0 → mo = 0 ∧ fewest (V (30 + 3 * r.toNat + 1)) (S (30 + 3 * r.toNat) 3 - S (30 + 3 * r.toNat) 0) rx F (S (30 + 3 * r.toNat) 2) (S (30 + 3 * r.toNat) 0) (n1 : Int)) ∧ hid (n ≠ 0 → n1 = n ∧ mo = mode)) ∧ ∃ S' V', cX w0 L Z S' V' w' ∧ wrP S S' V V' (30 + 3 * r.toNat) rx n1 F mo := by
  have key : ∀ lv, xld lv 0 = some (Value.ref 7) → xld lv 1 = some (Value.int (Int32.ofInt r)) → xld lv 2 = some (Value.int (Int32.ofInt (rx : Int))) → xld lv 3 = some (Value.int (Int32.ofInt (n : Int))) → xld lv 4 = some (Value.int (Int32.ofInt mode)) → xEv (d + 16) 151 0 lv [] w (fun o w' => ∃ n1 : Nat, ∃ F mo, o = .inl (some (.int (Int32.ofInt (if rx ^ n1 ≤ spW (V (30 + 3 * r.toNat + 1)) (S (30 + 3 * r.toNat) 3 - S (30 + 3 * r.toNat) 0) rx F (S (30 + 3 * r.toNat) 2) (n1 : Int) mo then F + 1 else F)))) ∧ fst_is (V (30 + 3 * r.toNat + 1)) (S (30 + 3 * r.toNat) 3 - S (30 + 3 * r.toNat) 0) rx F ∧ (hid (n = 0 → mo = 0 ∧ fewest (V (30 + 3 * r.toNat + 1)) (S (30 + 3 * r.toNat) 3 - S (30 + 3 * r.toNat) 0) rx F (S (30 + 3 * r.toNat) 2) (S (30 + 3 * r.toNat) 0) (n1 : Int)) ∧ hid (n ≠ 0 → n1 = n ∧ mo = mode)) ∧ ∃ S' V', cX w0 L Z S' V' w' ∧ wrP S S' V V' (30 + 3 * r.toNat) rx n1 F mo) := by
    intro lv l0 l1 l2 l3 l4
    obtain ⟨hp_r, hk_r, hn_r, ht_r, hx_r, hz_r⟩ := hI.1 r.toNat (by omega)
    have hi_l := hI.2.1
    have hi_g := hI.2.2.1
    replace ht_r := ht_r.resolve_left (by omega)
    replace hx_r := hx_r.resolve_left (by omega)
    refine i_151_0 (x := Int32.ofInt r) l1 ?_
    have hrun := x_noReg (d := d + 15) (w := w) (r := r) ⟨by omega, by omega⟩
    rw [show (decide (r < 0) || decide (16 ≤ r)) = false from by simp; omega] at hrun
    refine i_151_1 (Nat.le_of_ble_eq_true rfl) hrun ?_
    refine i_151_4 (fun c => absurd c (by decide)) (fun _ => ?_)
    refine i_151_7 (x := Int32.ofInt (rx : Int)) l2 ?_
    refine i_151_8 ?_
    refine i_151_9 (b_lt (a := (rx : Int)) (b := 2) ⟨by omega, by omega⟩ ⟨by decide, by decide⟩ fun c0 => ?_) (b_le (a := 2) (b := (rx : Int)) ⟨by decide, by decide⟩ ⟨by omega, by omega⟩ fun c0 => ?_)
    · refine i_151_37 (by omega) (Nat.le_of_ble_eq_true rfl) ?_
      exfalso; omega
    · refine i_151_12 (x := Int32.ofInt (rx : Int)) l2 ?_
      refine i_151_13 ?_
      refine i_151_15 (b_lt (a := 36) (b := (rx : Int)) ⟨by decide, by decide⟩ ⟨by omega, by omega⟩ fun c1 => ?_) (b_le (a := (rx : Int)) (b := 36) ⟨by omega, by omega⟩ ⟨by decide, by decide⟩ fun c1 => ?_)
      · refine i_151_37 (by omega) (Nat.le_of_ble_eq_true rfl) ?_
        exfalso; omega
      · refine i_151_18 (x := Int32.ofInt (n : Int)) l3 ?_
        refine i_151_19 (z_lt (a := (n : Int)) ⟨by omega, by omega⟩ fun c2 => ?_) (z_ge (a := (n : Int)) ⟨by omega, by omega⟩ fun c2 => ?_)
        · refine i_151_37 (by omega) (Nat.le_of_ble_eq_true rfl) ?_
          exfalso; omega
        · refine i_151_22 (x := Int32.ofInt (n : Int)) l3 ?_
          refine i_151_23 ?_
          refine i_151_26 (b_lt (a := 2000) (b := (n : Int)) ⟨by decide, by decide⟩ ⟨by omega, by omega⟩ fun c3 => ?_) (b_le (a := (n : Int)) (b := 2000) ⟨by omega, by omega⟩ ⟨by decide, by decide⟩ fun c3 => ?_)
          · refine i_151_37 (by omega) (Nat.le_of_ble_eq_true rfl) ?_
            exfalso; omega
          · refine i_151_29 (x := Int32.ofInt mode) l4 ?_
            have hrun := x_noMode (d := d + 15) (w := w) (m := mode) ⟨by omega, by omega⟩
            rw [show (decide (mode < 0) || decide (4 < mode)) = false from by simp; omega] at hrun
            refine i_151_31 (Nat.le_of_ble_eq_true rfl) hrun ?_
            refine i_151_34 (fun _ => ?_) (fun c => absurd c (by decide))
            refine i_151_45 (x := 7) l0 ?_
            refine i_151_46 (v := Value.ref 8) (hR.k0 kq_7) rfl ?_
            refine i_151_49 (x := Int32.ofInt r) l1 ?_
            obtain ⟨gr, hgr, hge⟩ := hR.regs
            refine i_151_50 (v := Value.ref (30 + 3 * r.toNat)) hgr (ix0 (T := r) (by omega) (by omega)) (ix1 (T := r) (by omega) (by omega) (by omega)) (by rw [ixn (T := r) (by omega) (by omega)]; exact hge _ (by omega)) ?_
            refine i_151_51 (v := Value.int (Int32.ofInt (S (30 + 3 * r.toNat) 1))) (hR.k2 (kd_reg (r := r.toNat) (by omega))) rfl ?_
            refine i_151_54 ?_
            refine i_151_55 (b_eq (a := S (30 + 3 * r.toNat) 1) (b := 3) ⟨by omega, by omega⟩ ⟨by decide, by decide⟩ fun c4 => ?_) (b_ne (a := S (30 + 3 * r.toNat) 1) (b := 3) ⟨by omega, by omega⟩ ⟨by decide, by decide⟩ fun c4 => ?_)
            · try replace ht_r := ht_r.resolve_left (by omega)
              try replace hx_r := hx_r.resolve_left (by omega)
              refine i_151_66 (x := 7) l0 ?_
              refine i_151_67 (v := Value.ref 113) (hR.k0 kq_7) rfl ?_
              refine i_151_70 (x := 7) l0 ?_
              refine i_151_71 (v := Value.ref 8) (hR.k0 kq_7) rfl ?_
              refine i_151_74 (x := Int32.ofInt r) l1 ?_
              obtain ⟨gr, hgr, hge⟩ := hR.regs
              refine i_151_75 (v := Value.ref (30 + 3 * r.toNat)) hgr (ix0 (T := r) (by omega) (by omega)) (ix1 (T := r) (by omega) (by omega) (by omega)) (by rw [ixn (T := r) (by omega) (by omega)]; exact hge _ (by omega)) ?_
              refine i_151_76 (x := Int32.ofInt (rx : Int)) l2 ?_
              obtain ⟨t, et⟩ : ∃ t : Nat, 30 + 3 * r.toNat = t := ⟨_, rfl⟩
              have hkt : kd t = 2 := by rw [← et]; exact kd_reg (r := r.toNat) (by omega)
              have ht2 : 30 ≤ t ∧ t ≤ 75 := by omega
              have hzr := hz_r (by omega)
              rw [et] at hp_r hk_r hn_r ht_r hx_r hzr ⊢
              have hM : V (t + 1) ≠ 0 := fun e => by rw [e, xbl_zero] at hzr; omega
              have hobj := hR.k11 kq_113
              obtain ⟨w, hrun, S1, V1, tw, O, F, hR, hW, hF, f1, f3, f2⟩ := x_wbegin (d := d + 8) (t := t) (rx := rx) hR hkt ht2 hI.2.2.2.1 hK5 hrx hx_r hM hp_r hzr ht_r
              have e : ∀ j, S1 t j = S t j := fun j => f1 t j (by omega) (by omega)
              have eM : V1 (t + 1) = V (t + 1) := f2 (t + 1) (by omega) (by omega) (by omega) (by omega) (by omega)
              have e1 : S1 t 3 - S1 t 0 = S t 3 - S t 0 := by rw [e, e]
              have b1 : xbl (V1 (t + 1)) ≤ 4096 := by rw [eM]; exact hx_r
              have b2 : V1 (t + 1) ≠ 0 := by rw [eM]; exact hM
              have b3 : 2 ≤ S1 t 0 ∧ S1 t 0 ≤ 4096 := by rw [e]; exact hp_r
              have b4 : (xbl (V1 (t + 1)) : Int) = S1 t 0 := by rw [eM, e]; exact hzr
              have b5 : S1 t 2 = 0 ∨ S1 t 2 = 1 := by rw [e]; exact hn_r
              have b6 : -20479 ≤ S1 t 3 ∧ S1 t 3 ≤ 16384 := by rw [e]; exact ht_r
              refine i_151_77 hobj (Nat.le_of_ble_eq_true rfl) hrun ?_
              refine i_151_80 (x := Int32.ofInt (n : Int)) l3 ?_
              refine i_151_81 (z_ne (a := (n : Int)) ⟨by omega, by omega⟩ fun c5 => ?_) (z_eq (a := (n : Int)) ⟨by omega, by omega⟩ fun c5 => ?_)
              · refine i_151_100 (x := 7) l0 ?_
                refine i_151_101 (v := Value.ref 113) (hR.k0 kq_7) rfl ?_
                refine i_151_104 (x := Int32.ofInt (n : Int)) l3 ?_
                refine i_151_105 (x := Int32.ofInt mode) l4 ?_
                have hobj := hR.k11 kq_113
                obtain ⟨sx, hsx⟩ : ∃ sx : Int, S1 t 3 - S1 t 0 + (tw : Int) * ((n : Int) - F) = sx := ⟨_, rfl⟩
                have htn : (tw : Int) * (n : Int) ≤ 10100 := by
                  have hO0 : 0 < O := by have := hW.2.2.2.2.2.2.2.1; omega
                  obtain ⟨htw5, -⟩ := tw_bd hrx hW.2.2.2.2.2.2.1 hO0
                  have := Nat.mul_le_mul htw5 hn.2
                  have h2 : ((tw * n : Nat) : Int) = (tw : Int) * (n : Int) := Int.natCast_mul _ _
                  omega
                obtain ⟨w, hrun, S3, V3, hR, p1, p2, p3, p4, p5⟩ := x_spell (d := d + 6) (t := t) (n := n) (mode := mode) (s := sx) hR hkt ht2 hW hrx b1 b2 b3 b4 b5 b6 (by omega) htn hsx (by omega)
                rw [eM, e, e, e] at hrun p1
                refine i_151_107 hobj (Nat.le_of_ble_eq_true rfl) hrun ?_
                refine i_151_110 ?_
                exact ⟨n, F, mode, rfl, hF, ⟨fun c => absurd c (by omega), fun c => ⟨rfl, rfl⟩⟩, _, _, hR, fun x => (p1 x).trans (by rw [f1 114 x (by decide) (by decide)]), p2, fun b j c1 c2 c3 => (p3 b j c3 (fun z => c2 z.1) c1).trans (f1 b j c1 c2), p4, fun i i1 i2 i3 i4 i5 i6 i7 i8 i9 i10 i11 => (p5 i i1 i2 i3 i4 i5 i6 i8 i9 i10 i11).trans (f2 i i1 i2 i3 i7 i8)⟩
              · refine i_151_84 (x := 7) l0 ?_
                refine i_151_85 (v := Value.ref 113) (hR.k0 kq_7) rfl ?_
                refine i_151_88 (x := 7) l0 ?_
                refine i_151_89 (v := Value.ref 113) (hR.k0 kq_7) rfl ?_
                have hobj := hR.k11 kq_113
                obtain ⟨n0, w, hrun, hb0, hfew, S2, V2, hR, hfr⟩ := x_few (d := d + 7) (t := t) hR hkt ht2 hW hrx b1 b2 b3 b4 b5 b6 hK5 (by rw [eM, e1]; exact hF.1)
                obtain ⟨n1, rfl⟩ : ∃ n1 : Nat, n0 = n1 := ⟨n0.toNat, by omega⟩
                rw [eM, e1, e, e] at hfew
                obtain ⟨g1, g2, g3⟩ := hfr
                have e2 : ∀ j, S2 t j = S t j := fun j => (g1 t j (by omega)).trans (e j)
                have eM2 : V2 (t + 1) = V (t + 1) := (g3 (t + 1) (by omega) (by omega) (by omega) (by omega) (by omega) (by omega) (by omega) (by omega) (by omega) (by omega)).trans eM
                refine i_151_92 hobj (Nat.le_of_ble_eq_true rfl) hrun ?_
                refine i_151_95 ?_
                have hobj := hR.k11 kq_113
                have hW2 := hW.up g1 g2 (g3 115 (by decide) (by decide) (by decide) (by decide) (by decide) (by decide) (by decide) (by decide) (by decide) (by decide))
                obtain ⟨sx, hsx⟩ : ∃ sx : Int, S2 t 3 - S2 t 0 + (tw : Int) * ((n1 : Int) - F) = sx := ⟨_, rfl⟩
                obtain ⟨w, hrun, S3, V3, hR, p1, p2, p3, p4, p5⟩ := x_spell (d := d + 6) (t := t) (n := n1) (mode := 0) (s := sx) hR hkt ht2 hW2 hrx (by rw [eM2]; exact hx_r) (by rw [eM2]; exact hM) (by rw [e2]; exact hp_r) (by rw [eM2, e2]; exact hzr) (by rw [e2]; exact hn_r) (by rw [e2]; exact ht_r) (by omega) hb0.2.2 hsx (by decide)
                rw [show Int32.ofInt (0 : Int) = 0 from rfl] at hrun
                rw [eM2, e2, e2, e2] at hrun p1
                refine i_151_96 hobj (Nat.le_of_ble_eq_true rfl) hrun ?_
                refine i_151_99 ?_
                exact ⟨n1, F, 0, rfl, hF, ⟨fun c => ⟨rfl, hfew⟩, fun c => absurd (show n = 0 by omega) c⟩, _, _, hR, fun x => (p1 x).trans (by rw [g1 114 x (by decide), f1 114 x (by decide) (by decide)]), p2, fun b j c1 c2 c3 => (p3 b j c3 (fun z => c2 z.1) c1).trans ((g1 b j c1).trans (f1 b j c1 c2)), p4, fun i i1 i2 i3 i4 i5 i6 i7 i8 i9 i10 i11 => (p5 i i1 i2 i3 i4 i5 i6 i8 i9 i10 i11).trans ((g3 i i1 i2 i3 i4 i5 i6 i8 i9 i10 i11).trans (f2 i i1 i2 i3 i7 i8))⟩
            · refine i_151_58 (by omega) (Nat.le_of_ble_eq_true rfl) ?_
              exfalso; omega
  obtain ⟨o, w', h1, n1, F, mo, rfl, h2⟩ := (key (lv_args 0 [Value.ref 7, Value.int (Int32.ofInt r), Value.int (Int32.ofInt (rx : Int)), Value.int (Int32.ofInt (n : Int)), Value.int (Int32.ofInt mode)]) rfl rfl rfl rfl rfl).run
  exact ⟨n1, F, mo, w', h1, h2⟩
set_option maxHeartbeats 4000000 in
theorem n_write (hR : cX w0 L Z S V w) (hI : cI S V) (hr : 0 ≤ r ∧ r ≤ 15) (hrx : 2 ≤ rx ∧ rx ≤ 36) (hn : 0 ≤ n ∧ n ≤ 2000) (hmo : 0 ≤ mode ∧ mode ≤ 4) (hkd : S (30 + 3 * r.toNat) 1 ≠ 3) : ∃ w1, xRun (d + 16) 151 [Value.ref 7, Value.int (Int32.ofInt r), Value.int (Int32.ofInt (rx : Int)), Value.int (Int32.ofInt (n : Int)), Value.int (Int32.ofInt mode)] w (.inr w1.length) (w1 ++ [.inr (16, [])]) ∧ cX w0 L Z S V w1 := by
  have key : ∀ lv, xld lv 0 = some (Value.ref 7) → xld lv 1 = some (Value.int (Int32.ofInt r)) → xld lv 2 = some (Value.int (Int32.ofInt (rx : Int))) → xld lv 3 = some (Value.int (Int32.ofInt (n : Int))) → xld lv 4 = some (Value.int (Int32.ofInt mode)) → xEv (d + 16) 151 0 lv [] w (fun o w' => ∃ w1, o = .inr w1.length ∧ w' = w1 ++ [.inr (16, [])] ∧ cX w0 L Z S V w1) := by
    intro lv l0 l1 l2 l3 l4
    obtain ⟨hp_r, hk_r, hn_r, ht_r, hx_r, hz_r⟩ := hI.1 r.toNat (by omega)
    have hi_l := hI.2.1
    have hi_g := hI.2.2.1
    refine i_151_0 (x := Int32.ofInt r) l1 ?_
    have hrun := x_noReg (d := d + 15) (w := w) (r := r) ⟨by omega, by omega⟩
    rw [show (decide (r < 0) || decide (16 ≤ r)) = false from by simp; omega] at hrun
    refine i_151_1 (Nat.le_of_ble_eq_true rfl) hrun ?_
    refine i_151_4 (fun c => absurd c (by decide)) (fun _ => ?_)
    refine i_151_7 (x := Int32.ofInt (rx : Int)) l2 ?_
    refine i_151_8 ?_
    refine i_151_9 (b_lt (a := (rx : Int)) (b := 2) ⟨by omega, by omega⟩ ⟨by decide, by decide⟩ fun c0 => ?_) (b_le (a := 2) (b := (rx : Int)) ⟨by decide, by decide⟩ ⟨by omega, by omega⟩ fun c0 => ?_)
    · refine i_151_37 (by omega) (Nat.le_of_ble_eq_true rfl) ?_
      exfalso; omega
    · refine i_151_12 (x := Int32.ofInt (rx : Int)) l2 ?_
      refine i_151_13 ?_
      refine i_151_15 (b_lt (a := 36) (b := (rx : Int)) ⟨by decide, by decide⟩ ⟨by omega, by omega⟩ fun c1 => ?_) (b_le (a := (rx : Int)) (b := 36) ⟨by omega, by omega⟩ ⟨by decide, by decide⟩ fun c1 => ?_)
      · refine i_151_37 (by omega) (Nat.le_of_ble_eq_true rfl) ?_
        exfalso; omega
      · refine i_151_18 (x := Int32.ofInt (n : Int)) l3 ?_
        refine i_151_19 (z_lt (a := (n : Int)) ⟨by omega, by omega⟩ fun c2 => ?_) (z_ge (a := (n : Int)) ⟨by omega, by omega⟩ fun c2 => ?_)
        · refine i_151_37 (by omega) (Nat.le_of_ble_eq_true rfl) ?_
          exfalso; omega
        · refine i_151_22 (x := Int32.ofInt (n : Int)) l3 ?_
          refine i_151_23 ?_
          refine i_151_26 (b_lt (a := 2000) (b := (n : Int)) ⟨by decide, by decide⟩ ⟨by omega, by omega⟩ fun c3 => ?_) (b_le (a := (n : Int)) (b := 2000) ⟨by omega, by omega⟩ ⟨by decide, by decide⟩ fun c3 => ?_)
          · refine i_151_37 (by omega) (Nat.le_of_ble_eq_true rfl) ?_
            exfalso; omega
          · refine i_151_29 (x := Int32.ofInt mode) l4 ?_
            have hrun := x_noMode (d := d + 15) (w := w) (m := mode) ⟨by omega, by omega⟩
            rw [show (decide (mode < 0) || decide (4 < mode)) = false from by simp; omega] at hrun
            refine i_151_31 (Nat.le_of_ble_eq_true rfl) hrun ?_
            refine i_151_34 (fun _ => ?_) (fun c => absurd c (by decide))
            refine i_151_45 (x := 7) l0 ?_
            refine i_151_46 (v := Value.ref 8) (hR.k0 kq_7) rfl ?_
            refine i_151_49 (x := Int32.ofInt r) l1 ?_
            obtain ⟨gr, hgr, hge⟩ := hR.regs
            refine i_151_50 (v := Value.ref (30 + 3 * r.toNat)) hgr (ix0 (T := r) (by omega) (by omega)) (ix1 (T := r) (by omega) (by omega) (by omega)) (by rw [ixn (T := r) (by omega) (by omega)]; exact hge _ (by omega)) ?_
            refine i_151_51 (v := Value.int (Int32.ofInt (S (30 + 3 * r.toNat) 1))) (hR.k2 (kd_reg (r := r.toNat) (by omega))) rfl ?_
            refine i_151_54 ?_
            refine i_151_55 (b_eq (a := S (30 + 3 * r.toNat) 1) (b := 3) ⟨by omega, by omega⟩ ⟨by decide, by decide⟩ fun c4 => absurd c4 (by omega)) (b_ne (a := S (30 + 3 * r.toNat) 1) (b := 3) ⟨by omega, by omega⟩ ⟨by decide, by decide⟩ fun c4 => ?_)
            refine i_151_58 (by omega) (Nat.le_of_ble_eq_true rfl) ?_
            exact ⟨w, rfl, rfl, hR⟩
  obtain ⟨o, w', h1, w1, rfl, rfl, h2⟩ := (key (lv_args 0 [Value.ref 7, Value.int (Int32.ofInt r), Value.int (Int32.ofInt (rx : Int)), Value.int (Int32.ofInt (n : Int)), Value.int (Int32.ofInt mode)]) rfl rfl rfl rfl rfl).run
  exact ⟨w1, h1, h2⟩
end
