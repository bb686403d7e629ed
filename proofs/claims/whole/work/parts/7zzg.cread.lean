/-! read of the class -/
theorem unS2_k {t : Nat → Int} {n : Nat} {sg : Int} {r : Nat × Nat × Nat × Nat} {x : Int × Int × Nat × Int} (hs : sg = 0 ∨ sg = 1) (h : unS2 t n sg r = some x) : (0 ≤ x.1 ∧ x.1 ≤ 3) ∧ (x.2.1 = 0 ∨ x.2.1 = 1) ∧ (x.1 = 3 → x.2.2.1 ≠ 0) := by
  have key : ∀ y : Int, x = (if r.2.2.2 = 0 then 2 else 3, sg, r.2.2.2, y) → (0 ≤ x.1 ∧ x.1 ≤ 3) ∧ (x.2.1 = 0 ∨ x.2.1 = 1) ∧ (x.1 = 3 → x.2.2.1 ≠ 0) := by
    rintro y rfl
    refine ⟨?_, hs, fun e => ?_⟩
    · show 0 ≤ (if r.2.2.2 = 0 then (2 : Int) else 3) ∧ (if r.2.2.2 = 0 then (2 : Int) else 3) ≤ 3
      split <;> decide
    · intro z
      rw [show ((if r.2.2.2 = 0 then 2 else 3, sg, r.2.2.2, y) : Int × Int × Nat × Int).1 = 2 from if_pos z] at e
      exact absurd e (by decide)
  unfold unS2 at h
  split at h
  · exact absurd h (by simp)
  · split at h
    · split at h
      · exact absurd h (by simp)
      · injection h with h
        exact key _ h.symm
    · injection h with h
      exact key _ h.symm
theorem unS1_k {t : Nat → Int} {rx n a : Nat} {sg : Int} {x : Int × Int × Nat × Int} (hs : sg = 0 ∨ sg = 1) (h : unS1 t rx n a sg = some x) : (0 ≤ x.1 ∧ x.1 ≤ 3) ∧ (x.2.1 = 0 ∨ x.2.1 = 1) ∧ (x.1 = 3 → x.2.2.1 ≠ 0) := by
  unfold unS1 at h
  split at h
  · injection h with h
    rw [← h]
    exact ⟨⟨(by decide : (0 : Int) ≤ 1), (by decide : (1 : Int) ≤ 3)⟩, hs, fun e => absurd e (by decide : ¬ (1 : Int) = 3)⟩
  · exact unS2_k hs h
theorem unS_k {t : Nat → Int} {rx n : Nat} {x : Int × Int × Nat × Int} (h : unS t rx n = some x) : (0 ≤ x.1 ∧ x.1 ≤ 3) ∧ (x.2.1 = 0 ∨ x.2.1 = 1) ∧ (x.1 = 3 → x.2.2.1 ≠ 0) := by
  unfold unS at h
  split at h
  · injection h with h
    rw [← h]
    exact ⟨⟨(by decide : (0 : Int) ≤ 0), (by decide : (0 : Int) ≤ 3)⟩, Or.inl rfl, fun e => absurd e (by decide : ¬ (0 : Int) = 3)⟩
  · split at h
    · exact unS1_k (Or.inr rfl) h
    · split at h
      · exact unS1_k (Or.inl rfl) h
      · exact unS1_k (Or.inl rfl) h
theorem ev_b {p sh : Int} {rx v sig O tw : Nat} (hr : 2 ≤ rx ∧ rx ≤ 36) (etw : rx = 2 ^ tw * O) (hO : 0 < O) (hv : v ≠ 0) (bv : xbl v ≤ 24576) (bs : sig ≤ 4096) (hp : 2 ≤ p ∧ p ≤ 4096) : (evS p rx v sh sig O tw).1 ≠ 0 ∧ xbl (evS p rx v sh sig O tw).1 ≤ 400000 ∧ (-300000 ≤ (evS p rx v sh sig O tw).2.1 ∧ (evS p rx v sh sig O tw).2.1 ≤ 300000) ∧ ((evS p rx v sh sig O tw).2.2 = 0 ∨ (evS p rx v sh sig O tw).2.2 = 1) ∧ ((evS p rx v sh sig O tw).2.2 = 0 ∨ p + 1 ≤ (xbl (evS p rx v sh sig O tw).1 : Int)) := by
  obtain ⟨⟨l1, l2⟩, -, -⟩ := lgt_ok hr
  unfold evS
  by_cases c1 : 2 + 16400 * lgt rx / 1099511627776 < (sig : Int) - 1 + sh
  · rw [if_pos c1]
    exact ⟨by decide, by decide, by decide, Or.inl rfl, Or.inl rfl⟩
  · rw [if_neg c1]
    by_cases c2 : (sig : Int) + sh < (-20600 * lgt rx) / 1099511627776 - 2
    · rw [if_pos c2]
      exact ⟨by decide, by decide, by decide, Or.inl rfl, Or.inl rfl⟩
    · rw [if_neg c2]
      have hsb : sh.natAbs ≤ 24700 := by omega
      have g2 : xbl O ≤ 6 := xbl_le (by have : O ≤ rx := by rw [etw]; exact Nat.le_mul_of_pos_left _ (Nat.two_pow_pos _)
                                        omega)
      have g1 := xbl_npow O sh.natAbs
      have g3 : sh.natAbs * xbl O ≤ 24700 * 6 := Nat.mul_le_mul hsb g2
      have T0 : 0 < O ^ sh.natAbs := Nat.pow_pos hO
      have htw : tw ≤ 5 := by
        have : 2 ^ tw ≤ rx := by rw [etw]; exact Nat.le_mul_of_pos_right _ hO
        have h3 : 2 ^ tw < 2 ^ 6 := by omega
        have := (Nat.pow_lt_pow_iff_right (show 1 < 2 by decide)).mp h3
        omega
      have g4 : tw * sh.natAbs ≤ 5 * 24700 := Nat.mul_le_mul htw hsb
      by_cases hn : 0 ≤ sh
      · have hsx : (tw : Int) * sh = ((tw * sh.natAbs : Nat) : Int) := by rw [Int.natCast_mul, show (sh.natAbs : Int) = sh by omega]
        have g5 := xbl_prod v (O ^ sh.natAbs)
        rw [if_pos hn, hsx]
        exact ⟨Nat.mul_ne_zero hv (by omega), by dsimp only; omega, ⟨by dsimp only; omega, by dsimp only; omega⟩, Or.inl rfl, Or.inl rfl⟩
      · have hsx : (tw : Int) * sh = -((tw * sh.natAbs : Nat) : Int) := by rw [Int.natCast_mul, show (sh.natAbs : Int) = -sh by omega, Int.mul_neg, Int.neg_neg]
        have hcl := ratq_b (p := p) hv (show O ^ sh.natAbs ≠ 0 by omega)
        unfold ratX moreOf at hcl
        have g6 := xbl_powle v (max 0 (p + 3 + (xbl (O ^ sh.natAbs) : Int) - (xbl v : Int))).toNat
        have g7 := xbl_mono (Nat.div_le_self (v * 2 ^ (max 0 (p + 3 + (xbl (O ^ sh.natAbs) : Int) - (xbl v : Int))).toNat) (O ^ sh.natAbs))
        rw [if_neg hn, hsx]
        refine ⟨fun z => ?_, by dsimp only; omega, ⟨by dsimp only; omega, by dsimp only; omega⟩, ?_, Or.inr (by dsimp only; omega)⟩
        · dsimp only at z
          rw [z, xbl_zero] at hcl
          omega
        · dsimp only
          split
          · exact Or.inl rfl
          · exact Or.inr rfl
/-- what a read text leaves -/
def sRdO (p least greatest gradual f mode : Int) (rx : Nat) (x : Int × Int × Nat × Int) : OO := if x.1 ≠ 3 then oS x.1 x.2.1 f else sScl p least greatest gradual x.2.1 mode rx x.2.2.1 x.2.2.2 f
section
variable {w0 w : xW} {L Z : Nat} {S : Nat → Nat → Int} {V : Nat → Nat} {d rx n : Nat}
set_option maxHeartbeats 8000000 in
theorem x_read {r mode : Int} {x : Int × Int × Nat × Int} (hR : cX w0 L Z S V w) (hI : cI S V) (hW1 : wrdC w0 1 110 97 110) (hW3 : wrdC w0 3 105 110 102) (hK5 : w0[5]? = some (.inl (3, 37, fun j => .long (xlogc.getD j 0)))) (hr : 0 ≤ r ∧ r ≤ 15) (hrx : 2 ≤ rx ∧ rx ≤ 36) (hmo : 0 ≤ mode ∧ mode ≤ 4) (hB : ∀ j, -128 ≤ S 29 j ∧ S 29 j ≤ 127) (h7 : S 7 11 = (n : Int)) (hx : unS (S 29) rx n = some x) : ∃ w', xRun (d + 11) 142 [Value.ref 7, Value.int (Int32.ofInt r), Value.int (Int32.ofInt (rx : Int)), Value.int (Int32.ofInt mode)] w (.inl (some (.int (Int32.ofInt (sRdO (S (30 + 3 * r.toNat) 0) (S 78 0) (S 78 1) (S 78 2) (S 78 3) mode rx x).2.2.2.2.1)))) w' ∧ ∃ S' V', cX w0 L Z S' V' w' ∧ cOut (u2 S 7 11 0) S' V V' (30 + 3 * r.toNat) (sRdO (S (30 + 3 * r.toNat) 0) (S 78 0) (S 78 1) (S 78 2) (S 78 3) mode rx x) := by
  have key : ∀ lv, xld lv 0 = some (Value.ref 7) → xld lv 1 = some (Value.int (Int32.ofInt r)) → xld lv 2 = some (Value.int (Int32.ofInt (rx : Int))) → xld lv 3 = some (Value.int (Int32.ofInt mode)) → xEv (d + 11) 142 0 lv [] w (fun o w' => o = .inl (some (.int (Int32.ofInt (sRdO (S (30 + 3 * r.toNat) 0) (S 78 0) (S 78 1) (S 78 2) (S 78 3) mode rx x).2.2.2.2.1))) ∧ ∃ S' V', cX w0 L Z S' V' w' ∧ cOut (u2 S 7 11 0) S' V V' (30 + 3 * r.toNat) (sRdO (S (30 + 3 * r.toNat) 0) (S 78 0) (S 78 1) (S 78 2) (S 78 3) mode rx x)) := by
    intro lv l0 l1 l2 l3
    obtain ⟨hp_r, hk_r, hn_r, ht_r, hx_r, hz_r⟩ := hI.1 r.toNat (by omega)
    have hi_l := hI.2.1
    have hi_g := hI.2.2.1
    have hn : n ≤ 4096 := by have := hI.2.2.2.2.1; omega
    refine i_142_0 (x := Int32.ofInt r) l1 ?_
    have hrun := x_noReg (d := d + 10) (w := w) (r := r) ⟨by omega, by omega⟩
    rw [show (decide (r < 0) || decide (16 ≤ r)) = false from by simp; omega] at hrun
    refine i_142_1 (Nat.le_of_ble_eq_true rfl) hrun ?_
    refine i_142_4 (fun c => absurd c (by decide)) (fun _ => ?_)
    refine i_142_7 (x := Int32.ofInt (rx : Int)) l2 ?_
    refine i_142_8 ?_
    refine i_142_9 (b_lt (a := (rx : Int)) (b := 2) ⟨by omega, by omega⟩ ⟨by decide, by decide⟩ fun c0 => ?_) (b_le (a := 2) (b := (rx : Int)) ⟨by decide, by decide⟩ ⟨by omega, by omega⟩ fun c0 => ?_)
    · refine i_142_25 (by omega) (Nat.le_of_ble_eq_true rfl) ?_
      exfalso; omega
    · refine i_142_12 (x := Int32.ofInt (rx : Int)) l2 ?_
      refine i_142_13 ?_
      refine i_142_15 (b_lt (a := 36) (b := (rx : Int)) ⟨by decide, by decide⟩ ⟨by omega, by omega⟩ fun c1 => ?_) (b_le (a := (rx : Int)) (b := 36) ⟨by omega, by omega⟩ ⟨by decide, by decide⟩ fun c1 => ?_)
      · refine i_142_25 (by omega) (Nat.le_of_ble_eq_true rfl) ?_
        exfalso; omega
      · refine i_142_18 (x := Int32.ofInt mode) l3 ?_
        have hrun := x_noMode (d := d + 10) (w := w) (m := mode) ⟨by omega, by omega⟩
        rw [show (decide (mode < 0) || decide (4 < mode)) = false from by simp; omega] at hrun
        refine i_142_19 (Nat.le_of_ble_eq_true rfl) hrun ?_
        refine i_142_22 (fun _ => ?_) (fun c => absurd c (by decide))
        refine i_142_33 (x := 7) l0 ?_
        refine i_142_34 (v := Value.int (Int32.ofInt (S 7 11))) (hR.k0 kq_7) rfl ?_
        rw [h7]
        refine i_142_37 rfl ?_
        refine lgen1 (i := 4) (v := Value.int (Int32.ofInt (n : Int))) (fun lv lg ls => ?_)
        replace l0 := lg 0 _ rfl rfl l0
        replace l1 := lg 1 _ rfl rfl l1
        replace l2 := lg 2 _ rfl rfl l2
        replace l3 := lg 3 _ rfl rfl l3
        have l4 := ls
        refine i_142_39 (x := 7) l0 ?_
        refine i_142_40 ?_
        refine i_142_41 (fs2 := f0 (u1 (S 7) 11 0)) (hR.k0 kq_7) (Nat.le_of_ble_eq_true rfl) rfl (h7k kq_7 (by decide)) ?_
        refine xgen (P := cX w0 L Z (u2 S 7 11 0) V) (hR.p0 kq_7) (fun w hR => ?_)
        refine i_142_44 (x := 7) l0 ?_
        refine i_142_45 (v := Value.ref 108) (hR.k0 kq_7) rfl ?_
        refine i_142_48 (x := 7) l0 ?_
        refine i_142_49 (v := Value.ref 29) (hR.k0 kq_7) rfl ?_
        refine i_142_52 (x := Int32.ofInt (n : Int)) l4 ?_
        refine i_142_54 (x := Int32.ofInt (rx : Int)) l2 ?_
        have hobj := hR.k10 kq_108
        obtain ⟨w, hrun, S1, V1, hR, u1, u2_, u3, u4⟩ := x_und (d := d + 4) (rx := rx) (n := n) hR hW1 hW3 hrx hB hn
        rw [show (u2 S 7 11 0) 29 = S 29 from rfl] at hrun u4
        rw [hx] at hrun u4
        rw [show (some x).isSome = true from rfl] at hrun
        obtain ⟨k5, k6, k7⟩ := u4 x.1 x.2.1 x.2.2.1 x.2.2.2 rfl
        obtain ⟨m1, m2, m3⟩ := unS_k hx
        have z0 : S1 (30 + 3 * r.toNat) 0 = S (30 + 3 * r.toNat) 0 := (u1 (30 + 3 * r.toNat) 0 (by omega)).trans (by rw [u2_eq, if_neg (by omega)])
        have z1 : S1 (78) 0 = S (78) 0 := (u1 (78) 0 (by omega)).trans (by rw [u2_eq, if_neg (by omega)])
        have z2 : S1 (78) 1 = S (78) 1 := (u1 (78) 1 (by omega)).trans (by rw [u2_eq, if_neg (by omega)])
        have z3 : S1 (78) 2 = S (78) 2 := (u1 (78) 2 (by omega)).trans (by rw [u2_eq, if_neg (by omega)])
        have z4 : S1 (78) 3 = S (78) 3 := (u1 (78) 3 (by omega)).trans (by rw [u2_eq, if_neg (by omega)])
        have n1 : nC (u2 S 7 11 0) S1 := ⟨fun b j hb => u1 b j (by unfold cKeep at hb; omega), kp.of3 (u1 113 3 (by decide)) (u1 79 0 (by decide)) (u1 79 1 (by decide))⟩
        have v1 : nW V V1 := fun i i1 i2 => u2_ i (by omega)
        refine i_142_55 hobj (Nat.le_of_ble_eq_true rfl) hrun ?_
        refine i_142_58 (zb_t fun c2 => ?_) (zb_f fun c2 => absurd c2 (by simp_all))
        refine i_142_69 (x := 7) l0 ?_
        refine i_142_70 (v := Value.ref 8) (hR.k0 kq_7) rfl ?_
        refine i_142_73 (x := Int32.ofInt r) l1 ?_
        obtain ⟨gr, hgr, hge⟩ := hR.regs
        refine i_142_74 (v := Value.ref (30 + 3 * r.toNat)) hgr (ix0 (T := r) (by omega) (by omega)) (ix1 (T := r) (by omega) (by omega) (by omega)) (by rw [ixn (T := r) (by omega) (by omega)]; exact hge _ (by omega)) ?_
        refine i_142_75 rfl ?_
        refine lgen1 (i := 5) (v := Value.ref (30 + 3 * r.toNat)) (fun lv lg ls => ?_)
        replace l4 := lg 4 _ rfl rfl l4
        replace l0 := lg 0 _ rfl rfl l0
        replace l1 := lg 1 _ rfl rfl l1
        replace l2 := lg 2 _ rfl rfl l2
        replace l3 := lg 3 _ rfl rfl l3
        have l5 := ls
        refine i_142_77 (x := 7) l0 ?_
        refine i_142_78 (v := Value.ref 108) (hR.k0 kq_7) rfl ?_
        refine i_142_81 (v := Value.int (Int32.ofInt (S1 108 5))) (hR.k10 kq_108) rfl ?_
        rw [k5]
        refine i_142_84 ?_
        refine i_142_85 (b_eq (a := x.1) (b := 3) ⟨by omega, by omega⟩ ⟨by decide, by decide⟩ fun c3 => ?_) (b_ne (a := x.1) (b := 3) ⟨by omega, by omega⟩ ⟨by decide, by decide⟩ fun c3 => ?_)
        · refine i_142_108 (x := 7) l0 ?_
          refine i_142_109 (v := Value.ref 108) (hR.k0 kq_7) rfl ?_
          refine i_142_112 (x := 7) l0 ?_
          refine i_142_113 (v := Value.ref 16) (hR.k0 kq_7) rfl ?_
          refine i_142_116 (x := 30 + 3 * r.toNat) l5 ?_
          refine i_142_118 (v := Value.int (Int32.ofInt (S1 (30 + 3 * r.toNat) 0))) (hR.k2 (kd_reg (r := r.toNat) (by omega))) rfl ?_
          rw [z0]
          obtain ⟨h9, h8, sig, h7s, e1, e2, e3, e4, e5⟩ := k7 (by omega)
          have hpw1 : pwP S1 := n1.2.2 (by unfold pwP; rw [u2_eq, if_neg (by omega), u2_eq, if_neg (by omega)]; exact hI.2.2.2.1)
          have hobj := hR.k10 kq_108
          have hvz := m3 (by omega)
          obtain ⟨w, hrun, S2, V2, hR, n2, v2, g0, tw, O, etw, hO2, f1, f2, f3⟩ := x_eval (d := d + 4) (rx := rx) (v := x.2.2.1) (sig := sig) (ng := x.2.1) (sh := x.2.2.2) (p := S (30 + 3 * r.toNat) 0) hR hK5 hrx hpw1 u3 k6 m2 h7s h8 h9 (by omega) (by omega) e5 (by omega)
          have hO0 : 0 < O := by omega
          obtain ⟨b1, b2, b3, b4, b5⟩ := ev_b (p := S (30 + 3 * r.toNat) 0) (sh := x.2.2.2) (sig := sig) hrx etw hO0 hvz (by omega) (by omega) (by omega)
          have hsame := ev_same (p := S (30 + 3 * r.toNat) 0) (least := S 78 0) (greatest := S 78 1) (gradual := S 78 2) (sg := x.2.1) (mode := mode) (f := S 78 3) (sh := x.2.2.2) (sig := sig) hrx etw hO0 hvz (by omega) (by omega) e1 e2 (by omega) hi_l
          obtain ⟨EV, eEV⟩ : ∃ EV, EV = evS (S (30 + 3 * r.toNat) 0) rx x.2.2.1 x.2.2.2 sig O tw := ⟨_, rfl⟩
          rw [← eEV] at f1 f2 f3 b1 b2 b3 b4 b5 hsame
          have y0 : S2 (30 + 3 * r.toNat) 0 = S (30 + 3 * r.toNat) 0 := (n2.1 (30 + 3 * r.toNat) 0 (by unfold cKeep; omega)).trans z0
          have y1 : S2 (78) 0 = S (78) 0 := (n2.1 (78) 0 (by unfold cKeep; omega)).trans z1
          have y2 : S2 (78) 1 = S (78) 1 := (n2.1 (78) 1 (by unfold cKeep; omega)).trans z2
          have y3 : S2 (78) 2 = S (78) 2 := (n2.1 (78) 2 (by unfold cKeep; omega)).trans z3
          have y4 : S2 (78) 3 = S (78) 3 := (n2.1 (78) 3 (by unfold cKeep; omega)).trans z4
          refine i_142_121 hobj (Nat.le_of_ble_eq_true rfl) hrun ?_
          refine i_142_124 (x := 7) l0 ?_
          refine i_142_125 (v := Value.ref 78) (hR.k0 kq_7) rfl ?_
          refine i_142_128 (x := 30 + 3 * r.toNat) l5 ?_
          refine i_142_130 (x := 7) l0 ?_
          refine i_142_131 (v := Value.ref 16) (hR.k0 kq_7) rfl ?_
          refine i_142_134 (x := Int32.ofInt mode) l3 ?_
          have hobj := hR.k1 kq_78
          obtain ⟨w, hrun, S6, V6, hR, hP⟩ := x_settle (d := d + 1) (g := 78) (t := 30 + 3 * r.toNat) (h := 16) (mode := mode) hR kq_78 (kd_reg (r := r.toNat) (by omega)) kq_16 (by rw [y0]; omega) (by rw [g0]; exact m2) (by rw [f3]; exact b4) (by omega) (by show V2 17 ≠ 0; rw [f1]; exact b1) (by show xbl (V2 17) ≤ 600000; rw [f1]; omega) (by rw [f2]; exact b3) (by rw [y1, y2]; omega) (by rw [y3]; omega) (by rw [f2, f3]; intro u hu; rcases b5 with h | h; exact Or.inl h; right; have h2 := rU_ge (p := S2 (30 + 3 * r.toNat) 0) (least := S2 78 0) (gradual := S2 78 2) (free := 0) (x := (xbl (V2 (16 + 1)) : Int) + EV.2.1); rw [← hu, show V2 (16 + 1) = EV.1 from f1, y0] at h2; omega)
          rw [y0, y1, y2, y3, y4, g0, f2, f3, show V2 (16 + 1) = EV.1 from f1] at hrun hP
          refine i_142_135 hobj (Nat.le_of_ble_eq_true rfl) hrun ?_
          refine i_142_138 ?_
          have eo : sRdO (S (30 + 3 * r.toNat) 0) (S 78 0) (S 78 1) (S 78 2) (S 78 3) mode rx x = oR (S (30 + 3 * r.toNat) 0) (S 78 0) (S 78 1) (S 78 2) x.2.1 mode EV.2.2 EV.1 EV.2.1 (S 78 3) := by
            unfold sRdO
            rw [if_neg (by omega)]
            exact hsame.symm
          rw [eo]
          exact ⟨rfl, _, _, hR, cP_round hP m2 (n1.trans n2) (v1.trans v2) (by omega)⟩
        · refine i_142_88 (x := 30 + 3 * r.toNat) l5 ?_
          refine i_142_90 (x := 7) l0 ?_
          refine i_142_91 (v := Value.ref 108) (hR.k0 kq_7) rfl ?_
          refine i_142_94 (v := Value.int (Int32.ofInt (S1 108 5))) (hR.k10 kq_108) rfl ?_
          rw [k5]
          refine i_142_97 (x := 7) l0 ?_
          refine i_142_98 (v := Value.ref 108) (hR.k0 kq_7) rfl ?_
          refine i_142_101 (v := Value.int (Int32.ofInt (S1 108 6))) (hR.k10 kq_108) rfl ?_
          rw [k6]
          have hobj := hR.k2 (kd_reg (r := r.toNat) (by omega))
          obtain ⟨w, hrun, hR⟩ := x_spec (d := d + 10) (t := 30 + 3 * r.toNat) (which := x.1) (sg := x.2.1) hR (kd_reg (r := r.toNat) (by omega)) (by first | omega | exact bb_01 _)
          refine i_142_104 hobj (Nat.le_of_ble_eq_true rfl) hrun ?_
          refine i_142_107 ?_
          have eo : sRdO (S (30 + 3 * r.toNat) 0) (S 78 0) (S 78 1) (S 78 2) (S 78 3) mode rx x = oS x.1 x.2.1 (S 78 3) := by unfold sRdO; rw [if_pos (by omega)]
          rw [eo]
          exact ⟨rfl, _, _, hR, cP_special m2 (by omega) n1 v1 (by rw [u2_eq, if_neg (by omega)]) (by omega)⟩
  obtain ⟨o, w', h1, rfl, h2⟩ := (key (lv_args 0 [Value.ref 7, Value.int (Int32.ofInt r), Value.int (Int32.ofInt (rx : Int)), Value.int (Int32.ofInt mode)]) rfl rfl rfl rfl).run
  exact ⟨w', h1, h2⟩
set_option maxHeartbeats 4000000 in
theorem x_readN {r mode : Int} (hR : cX w0 L Z S V w) (hI : cI S V) (hW1 : wrdC w0 1 110 97 110) (hW3 : wrdC w0 3 105 110 102) (hK5 : w0[5]? = some (.inl (3, 37, fun j => .long (xlogc.getD j 0)))) (hr : 0 ≤ r ∧ r ≤ 15) (hrx : 2 ≤ rx ∧ rx ≤ 36) (hmo : 0 ≤ mode ∧ mode ≤ 4) (hB : ∀ j, -128 ≤ S 29 j ∧ S 29 j ≤ 127) (h7 : S 7 11 = (n : Int)) (hx : unS (S 29) rx n = none) : ∃ w1 S1 V1, xRun (d + 11) 142 [Value.ref 7, Value.int (Int32.ofInt r), Value.int (Int32.ofInt (rx : Int)), Value.int (Int32.ofInt mode)] w (.inr w1.length) (w1 ++ [.inr (15, [])]) ∧ cX w0 L Z S1 V1 w1 ∧ nC (u2 S 7 11 0) S1 ∧ nW V V1 := by
  have key : ∀ lv, xld lv 0 = some (Value.ref 7) → xld lv 1 = some (Value.int (Int32.ofInt r)) → xld lv 2 = some (Value.int (Int32.ofInt (rx : Int))) → xld lv 3 = some (Value.int (Int32.ofInt mode)) → xEv (d + 11) 142 0 lv [] w (fun o w' => ∃ w1 S1 V1, o = .inr w1.length ∧ w' = w1 ++ [.inr (15, [])] ∧ cX w0 L Z S1 V1 w1 ∧ nC (u2 S 7 11 0) S1 ∧ nW V V1) := by
    intro lv l0 l1 l2 l3
    obtain ⟨hp_r, hk_r, hn_r, ht_r, hx_r, hz_r⟩ := hI.1 r.toNat (by omega)
    have hi_l := hI.2.1
    have hi_g := hI.2.2.1
    have hn : n ≤ 4096 := by have := hI.2.2.2.2.1; omega
    refine i_142_0 (x := Int32.ofInt r) l1 ?_
    have hrun := x_noReg (d := d + 10) (w := w) (r := r) ⟨by omega, by omega⟩
    rw [show (decide (r < 0) || decide (16 ≤ r)) = false from by simp; omega] at hrun
    refine i_142_1 (Nat.le_of_ble_eq_true rfl) hrun ?_
    refine i_142_4 (fun c => absurd c (by decide)) (fun _ => ?_)
    refine i_142_7 (x := Int32.ofInt (rx : Int)) l2 ?_
    refine i_142_8 ?_
    refine i_142_9 (b_lt (a := (rx : Int)) (b := 2) ⟨by omega, by omega⟩ ⟨by decide, by decide⟩ fun c0 => ?_) (b_le (a := 2) (b := (rx : Int)) ⟨by decide, by decide⟩ ⟨by omega, by omega⟩ fun c0 => ?_)
    · refine i_142_25 (by omega) (Nat.le_of_ble_eq_true rfl) ?_
      exfalso; omega
    · refine i_142_12 (x := Int32.ofInt (rx : Int)) l2 ?_
      refine i_142_13 ?_
      refine i_142_15 (b_lt (a := 36) (b := (rx : Int)) ⟨by decide, by decide⟩ ⟨by omega, by omega⟩ fun c1 => ?_) (b_le (a := (rx : Int)) (b := 36) ⟨by omega, by omega⟩ ⟨by decide, by decide⟩ fun c1 => ?_)
      · refine i_142_25 (by omega) (Nat.le_of_ble_eq_true rfl) ?_
        exfalso; omega
      · refine i_142_18 (x := Int32.ofInt mode) l3 ?_
        have hrun := x_noMode (d := d + 10) (w := w) (m := mode) ⟨by omega, by omega⟩
        rw [show (decide (mode < 0) || decide (4 < mode)) = false from by simp; omega] at hrun
        refine i_142_19 (Nat.le_of_ble_eq_true rfl) hrun ?_
        refine i_142_22 (fun _ => ?_) (fun c => absurd c (by decide))
        refine i_142_33 (x := 7) l0 ?_
        refine i_142_34 (v := Value.int (Int32.ofInt (S 7 11))) (hR.k0 kq_7) rfl ?_
        rw [h7]
        refine i_142_37 rfl ?_
        refine lgen1 (i := 4) (v := Value.int (Int32.ofInt (n : Int))) (fun lv lg ls => ?_)
        replace l0 := lg 0 _ rfl rfl l0
        replace l1 := lg 1 _ rfl rfl l1
        replace l2 := lg 2 _ rfl rfl l2
        replace l3 := lg 3 _ rfl rfl l3
        have l4 := ls
        refine i_142_39 (x := 7) l0 ?_
        refine i_142_40 ?_
        refine i_142_41 (fs2 := f0 (u1 (S 7) 11 0)) (hR.k0 kq_7) (Nat.le_of_ble_eq_true rfl) rfl (h7k kq_7 (by decide)) ?_
        refine xgen (P := cX w0 L Z (u2 S 7 11 0) V) (hR.p0 kq_7) (fun w hR => ?_)
        refine i_142_44 (x := 7) l0 ?_
        refine i_142_45 (v := Value.ref 108) (hR.k0 kq_7) rfl ?_
        refine i_142_48 (x := 7) l0 ?_
        refine i_142_49 (v := Value.ref 29) (hR.k0 kq_7) rfl ?_
        refine i_142_52 (x := Int32.ofInt (n : Int)) l4 ?_
        refine i_142_54 (x := Int32.ofInt (rx : Int)) l2 ?_
        have hobj := hR.k10 kq_108
        obtain ⟨w, hrun, S1, V1, hR, u1, u2_, u3, u4⟩ := x_und (d := d + 4) (rx := rx) (n := n) hR hW1 hW3 hrx hB hn
        rw [show (u2 S 7 11 0) 29 = S 29 from rfl] at hrun u4
        rw [hx] at hrun
        rw [show (none : Option (Int × Int × Nat × Int)).isSome = false from rfl] at hrun
        refine i_142_55 hobj (Nat.le_of_ble_eq_true rfl) hrun ?_
        refine i_142_58 (zb_t fun c2 => absurd c2 (by simp_all)) (zb_f fun c2 => ?_)
        refine i_142_61 (by omega) (Nat.le_of_ble_eq_true rfl) ?_
        exact ⟨w, S1, V1, rfl, rfl, hR, ⟨fun b j hb => u1 b j (by unfold cKeep at hb; omega), kp.of3 (u1 113 3 (by decide)) (u1 79 0 (by decide)) (u1 79 1 (by decide))⟩, fun i i1 i2 => u2_ i (by omega)⟩
  obtain ⟨o, w', h1, w1, S1, V1, rfl, rfl, h2⟩ := (key (lv_args 0 [Value.ref 7, Value.int (Int32.ofInt r), Value.int (Int32.ofInt (rx : Int)), Value.int (Int32.ofInt mode)]) rfl rfl rfl rfl).run
  exact ⟨w1, S1, V1, h1, h2⟩
end
