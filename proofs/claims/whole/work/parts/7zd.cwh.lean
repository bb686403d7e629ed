/-! whole of the class: the call -/
theorem sWhC_v {S : Nat → Nat → Int} {V : Nat → Nat} {r a : Nat} {way mode : Int} : sWhC (vS S) (vV V) r a way mode =
  (if S (30 + 3 * a) 1 ≠ 3 then oS (S (30 + 3 * a) 1) (S (30 + 3 * a) 2) (S 78 3)
  else if whM (V (30 + 3 * a + 1)) (S (30 + 3 * a) 3 - S (30 + 3 * a) 0) (S (30 + 3 * a) 2) way = 0 then whO (oS 2 (S (30 + 3 * a) 2) (S 78 3)) (S (30 + 3 * a) 2) (S 78 3) (S (30 + 3 * a) 3) (V (30 + 3 * a + 1))
  else whO (oR (S (30 + 3 * r) 0) (S 78 0) (S 78 1) (S 78 2) (S (30 + 3 * a) 2) mode 0 (whM (V (30 + 3 * a + 1)) (S (30 + 3 * a) 3 - S (30 + 3 * a) 0) (S (30 + 3 * a) 2) way) (rtiS (S (30 + 3 * a) 3 - S (30 + 3 * a) 0)) (S 78 3)) (S (30 + 3 * a) 2) (S 78 3) (S (30 + 3 * a) 3) (V (30 + 3 * a + 1))) := by
  unfold sWhC
  rw [vV_r]
  rfl
/-- a call of whole is what its rounding leaves, with another way and other flags -/
theorem cOut_wh {S S1 : Nat → Nat → Int} {V V1 : Nat → Nat} {t : Nat} {o : OO} {sg f T : Int} {m : Nat} (h : cOut S S1 V V1 t o) (hsg : S1 t 2 = sg) (ho : o.1 ≠ 0) (ht : 30 ≤ t ∧ t ≤ 75) : cOut S (u2 S1 78 3 (whF f o.2.2.2.2.2 (whT o sg T m))) V V1 t (whO o sg f T m) := by
  obtain ⟨h1, h2, h3, h4, h5, h6, h7, h8⟩ := h
  have e : ∀ j, u2 S1 78 3 (whF f o.2.2.2.2.2 (whT o sg T m)) t j = S1 t j := fun j => congrFun (u2_n (by omega)) j
  refine ⟨(e 1).trans h1, fun _ => (e 2).trans hsg, by rw [e]; exact h3, fun g => ⟨(e 3).trans (h4 g).1, (h4 g).2⟩, by rw [u2_eq, if_pos ⟨rfl, rfl⟩]; rfl, fun b j hb g1 g2 => ?_, ?_, h8⟩
  · rw [u2_eq, if_neg g2]; exact h6 b j hb g1 g2
  · exact h7.up (by omega)
theorem ncmp_1 (a b : Nat) : -1 ≤ ncmp a b ∧ ncmp a b ≤ 1 := by
  unfold ncmp
  split
  · decide
  · split <;> decide
theorem ordR_b {ka sa ea kb sb eb : Int} {ma mb : Nat} : -1 ≤ ordR ka sa ea ma kb sb eb mb ∧ ordR ka sa ea ma kb sb eb mb ≤ 1 := by
  have h1 := sgn_b ka sa
  have h2 := ncmp_1 (ma * 2 ^ xbl mb) (mb * 2 ^ xbl ma)
  unfold ordR
  split
  · split <;> decide
  · split
    · decide
    · split
      · split <;> omega
      · split
        · split <;> omega
        · rcases (show sgn ka sa = -1 ∨ sgn ka sa = 0 ∨ sgn ka sa = 1 by omega) with g | g | g <;> rw [g] <;> omega
section
variable {w0 w : xW} {L Z : Nat} {S : Nat → Nat → Int} {V : Nat → Nat} {d h t r q : Nat}
set_option maxHeartbeats 8000000 in
theorem x_wh4 {r a way mode : Int} (hR : cX w0 L Z S V w) (hI : cI S V) (hr : 0 ≤ r ∧ r ≤ 15) (ha : 0 ≤ a ∧ a ≤ 15) (hw : way = 4) (hmo : 0 ≤ mode ∧ mode ≤ 4) : ∃ w', xRun (d + 13) 106 [Value.ref 7, Value.int (Int32.ofInt r), Value.int (Int32.ofInt a), Value.int (Int32.ofInt way), Value.int (Int32.ofInt mode)] w (.inl (some (.int (Int32.ofInt (sWhC (vS S) (vV V) r.toNat a.toNat way mode).2.2.2.2.1)))) w' ∧ ∃ S' V', cX w0 L Z S' V' w' ∧ cOut S S' V V' (30 + 3 * r.toNat) (sWhC (vS S) (vV V) r.toNat a.toNat way mode) := by
  have key : ∀ lv, xld lv 0 = some (Value.ref 7) → xld lv 1 = some (Value.int (Int32.ofInt r)) → xld lv 2 = some (Value.int (Int32.ofInt a)) → xld lv 3 = some (Value.int (Int32.ofInt way)) → xld lv 4 = some (Value.int (Int32.ofInt mode)) → xEv (d + 13) 106 0 lv [] w (fun o w' => o = .inl (some (.int (Int32.ofInt (sWhC (vS S) (vV V) r.toNat a.toNat way mode).2.2.2.2.1))) ∧ ∃ S' V', cX w0 L Z S' V' w' ∧ cOut S S' V V' (30 + 3 * r.toNat) (sWhC (vS S) (vV V) r.toNat a.toNat way mode)) := by
    intro lv l0 l1 l2 l3 l4
    obtain ⟨hp_r, hk_r, hn_r, ht_r, hx_r, hz_r⟩ := hI.1 r.toNat (by omega)
    obtain ⟨hp_a, hk_a, hn_a, ht_a, hx_a, hz_a⟩ := hI.1 a.toNat (by omega)
    have hi_l := hI.2.1
    have hi_g := hI.2.2.1
    refine i_106_0 (x := Int32.ofInt r) l1 ?_
    have hrun := x_noReg (d := d + 12) (w := w) (r := r) ⟨by omega, by omega⟩
    rw [show (decide (r < 0) || decide (16 ≤ r)) = false from by simp; omega] at hrun
    refine i_106_1 (Nat.le_of_ble_eq_true rfl) hrun ?_
    refine i_106_4 (fun c => absurd c (by decide)) (fun _ => ?_)
    refine i_106_7 (x := Int32.ofInt a) l2 ?_
    have hrun := x_noReg (d := d + 12) (w := w) (r := a) ⟨by omega, by omega⟩
    rw [show (decide (a < 0) || decide (16 ≤ a)) = false from by simp; omega] at hrun
    refine i_106_8 (Nat.le_of_ble_eq_true rfl) hrun ?_
    refine i_106_11 (fun c => absurd c (by decide)) (fun _ => ?_)
    refine i_106_14 (x := Int32.ofInt way) l3 ?_
    refine i_106_15 (z_lt (a := way) ⟨by omega, by omega⟩ fun c0 => ?_) (z_ge (a := way) ⟨by omega, by omega⟩ fun c0 => ?_)
    · refine i_106_31 (by omega) (Nat.le_of_ble_eq_true rfl) ?_
      exfalso; omega
    · refine i_106_18 (x := Int32.ofInt way) l3 ?_
      refine i_106_19 ?_
      refine i_106_20 (b_lt (a := 4) (b := way) ⟨by decide, by decide⟩ ⟨by omega, by omega⟩ fun c1 => ?_) (b_le (a := way) (b := 4) ⟨by omega, by omega⟩ ⟨by decide, by decide⟩ fun c1 => ?_)
      · refine i_106_31 (by omega) (Nat.le_of_ble_eq_true rfl) ?_
        exfalso; omega
      · refine i_106_23 (x := Int32.ofInt mode) l4 ?_
        have hrun := x_noMode (d := d + 12) (w := w) (m := mode) ⟨by omega, by omega⟩
        rw [show (decide (mode < 0) || decide (4 < mode)) = false from by simp; omega] at hrun
        refine i_106_25 (Nat.le_of_ble_eq_true rfl) hrun ?_
        refine i_106_28 (fun _ => ?_) (fun c => absurd c (by decide))
        refine i_106_39 (x := 7) l0 ?_
        refine i_106_40 (v := Value.ref 8) (hR.k0 kq_7) rfl ?_
        refine i_106_43 (x := Int32.ofInt r) l1 ?_
        obtain ⟨gr, hgr, hge⟩ := hR.regs
        refine i_106_44 (v := Value.ref (30 + 3 * r.toNat)) hgr (ix0 (T := r) (by omega) (by omega)) (ix1 (T := r) (by omega) (by omega) (by omega)) (by rw [ixn (T := r) (by omega) (by omega)]; exact hge _ (by omega)) ?_
        refine i_106_45 rfl ?_
        refine lgen1 (i := 5) (v := Value.ref (30 + 3 * r.toNat)) (fun lv lg ls => ?_)
        replace l0 := lg 0 _ rfl rfl l0
        replace l1 := lg 1 _ rfl rfl l1
        replace l2 := lg 2 _ rfl rfl l2
        replace l3 := lg 3 _ rfl rfl l3
        replace l4 := lg 4 _ rfl rfl l4
        have l5 := ls
        refine i_106_47 (x := 7) l0 ?_
        refine i_106_48 (v := Value.ref 8) (hR.k0 kq_7) rfl ?_
        refine i_106_51 (x := Int32.ofInt a) l2 ?_
        obtain ⟨gr, hgr, hge⟩ := hR.regs
        refine i_106_52 (v := Value.ref (30 + 3 * a.toNat)) hgr (ix0 (T := a) (by omega) (by omega)) (ix1 (T := a) (by omega) (by omega) (by omega)) (by rw [ixn (T := a) (by omega) (by omega)]; exact hge _ (by omega)) ?_
        refine i_106_53 rfl ?_
        refine lgen1 (i := 6) (v := Value.ref (30 + 3 * a.toNat)) (fun lv lg ls => ?_)
        replace l5 := lg 5 _ rfl rfl l5
        replace l0 := lg 0 _ rfl rfl l0
        replace l1 := lg 1 _ rfl rfl l1
        replace l2 := lg 2 _ rfl rfl l2
        replace l3 := lg 3 _ rfl rfl l3
        replace l4 := lg 4 _ rfl rfl l4
        have l6 := ls
        refine i_106_55 (x := 30 + 3 * a.toNat) l6 ?_
        refine i_106_57 (v := Value.int (Int32.ofInt (S (30 + 3 * a.toNat) 1))) (hR.k2 (kd_reg (r := a.toNat) (by omega))) rfl ?_
        refine i_106_60 ?_
        refine i_106_61 (b_eq (a := S (30 + 3 * a.toNat) 1) (b := 3) ⟨by omega, by omega⟩ ⟨by decide, by decide⟩ fun c2 => ?_) (b_ne (a := S (30 + 3 * a.toNat) 1) (b := 3) ⟨by omega, by omega⟩ ⟨by decide, by decide⟩ fun c2 => ?_)
        · try replace ht_a := ht_a.resolve_left (by omega)
          try replace hx_a := hx_a.resolve_left (by omega)
          refine i_106_80 (x := 7) l0 ?_
          refine i_106_81 (v := Value.ref 13) (hR.k0 kq_7) rfl ?_
          refine i_106_84 (x := 30 + 3 * a.toNat) l6 ?_
          have hobj := hR.k2 kq_13
          have eq0 : S (30 + 3 * a.toNat) 0 = S (30 + 3 * a.toNat) 0 := rfl
          have eq1 : S (30 + 3 * a.toNat) 1 = S (30 + 3 * a.toNat) 1 := rfl
          have eq2 : S (30 + 3 * a.toNat) 2 = S (30 + 3 * a.toNat) 2 := rfl
          have eq3 : S (30 + 3 * a.toNat) 3 = S (30 + 3 * a.toNat) 3 := rfl
          have ev : V ((30 + 3 * a.toNat) + 1) = V ((30 + 3 * a.toNat) + 1) := rfl
          obtain ⟨w, hrun, hR⟩ := x_to (d := d + 8) (t := 13) (q := 30 + 3 * a.toNat) hR kq_13 (kd_reg (r := a.toNat) (by omega)) (by omega) (by rw [eq2]; omega) (by rw [ev]; omega)
          rw [eq0, eq1, eq2, eq3, ev] at hR
          refine i_106_86 hobj (Nat.le_of_ble_eq_true rfl) hrun ?_
          refine i_106_89 (x := 7) l0 ?_
          refine i_106_90 (v := Value.ref 16) (hR.k0 kq_7) rfl ?_
          refine i_106_93 (x := 30 + 3 * a.toNat) l6 ?_
          have hobj := hR.k4 kq_16
          have ep : (u2 (u2 (u2 (u2 S 13 0 (S (30 + 3 * a.toNat) 0)) 13 1 (S (30 + 3 * a.toNat) 1)) 13 2 (S (30 + 3 * a.toNat) 2)) 13 3 (S (30 + 3 * a.toNat) 3)) (30 + 3 * a.toNat) 0 = S (30 + 3 * a.toNat) 0 := by rw [u2_eq, if_neg (fun e => absurd e.2 (by decide)), u2_eq, if_neg (fun e => absurd e.2 (by decide)), u2_eq, if_neg (fun e => absurd e.2 (by decide)), u2_eq, if_neg (fun e => absurd e.1 (by omega))]
          have en : (u2 (u2 (u2 (u2 S 13 0 (S (30 + 3 * a.toNat) 0)) 13 1 (S (30 + 3 * a.toNat) 1)) 13 2 (S (30 + 3 * a.toNat) 2)) 13 3 (S (30 + 3 * a.toNat) 3)) (30 + 3 * a.toNat) 2 = S (30 + 3 * a.toNat) 2 := by rw [u2_eq, if_neg (fun e => absurd e.2 (by decide)), u2_eq, if_neg (fun e => absurd e.1 (by omega)), u2_eq, if_neg (fun e => absurd e.2 (by decide)), u2_eq, if_neg (fun e => absurd e.2 (by decide))]
          have ex : (u2 (u2 (u2 (u2 S 13 0 (S (30 + 3 * a.toNat) 0)) 13 1 (S (30 + 3 * a.toNat) 1)) 13 2 (S (30 + 3 * a.toNat) 2)) 13 3 (S (30 + 3 * a.toNat) 3)) (30 + 3 * a.toNat) 3 = S (30 + 3 * a.toNat) 3 := by rw [u2_eq, if_neg (fun e => absurd e.1 (by omega)), u2_eq, if_neg (fun e => absurd e.2 (by decide)), u2_eq, if_neg (fun e => absurd e.2 (by decide)), u2_eq, if_neg (fun e => absurd e.2 (by decide))]
          have ev : (uv V 14 (V ((30 + 3 * a.toNat) + 1))) ((30 + 3 * a.toNat) + 1) = V ((30 + 3 * a.toNat) + 1) := (uv_n (by omega)).trans (rfl)
          obtain ⟨w, hrun, hR⟩ := x_tn (d := d + 8) (h := 16) (t := 30 + 3 * a.toNat) hR kq_16 (kd_reg (r := a.toNat) (by omega)) (by rw [en]; omega) (by rw [ev]; omega)
          rw [ep, en, ex, ev] at hR
          refine i_106_95 hobj (Nat.le_of_ble_eq_true rfl) hrun ?_
          refine i_106_98 (x := 7) l0 ?_
          refine i_106_99 (v := Value.ref 16) (hR.k0 kq_7) rfl ?_
          refine i_106_102 (x := Int32.ofInt way) l3 ?_
          refine i_106_103 ?_
          refine i_106_104 (b_ne (a := way) (b := 4) ⟨by omega, by omega⟩ ⟨by decide, by decide⟩ fun c3 => absurd c3 (by omega)) (b_eq (a := way) (b := 4) ⟨by omega, by omega⟩ ⟨by decide, by decide⟩ fun c3 => ?_)
          refine i_106_107 ?_
          refine i_106_108 ?_
          have hobj := hR.k4 kq_16
          have es : (u2 (u2 (u2 (u2 (u2 (u2 (u2 S 13 0 (S (30 + 3 * a.toNat) 0)) 13 1 (S (30 + 3 * a.toNat) 1)) 13 2 (S (30 + 3 * a.toNat) 2)) 13 3 (S (30 + 3 * a.toNat) 3)) 16 0 (S (30 + 3 * a.toNat) 2)) 16 2 ((S (30 + 3 * a.toNat) 3) - (S (30 + 3 * a.toNat) 0))) 16 3 0) 16 0 = S (30 + 3 * a.toNat) 2 := by rw [u2_eq, if_neg (fun e => absurd e.2 (by decide)), u2_eq, if_neg (fun e => absurd e.2 (by decide)), u2_eq, if_pos ⟨rfl, rfl⟩]
          have ec : (u2 (u2 (u2 (u2 (u2 (u2 (u2 S 13 0 (S (30 + 3 * a.toNat) 0)) 13 1 (S (30 + 3 * a.toNat) 1)) 13 2 (S (30 + 3 * a.toNat) 2)) 13 3 (S (30 + 3 * a.toNat) 3)) 16 0 (S (30 + 3 * a.toNat) 2)) 16 2 ((S (30 + 3 * a.toNat) 3) - (S (30 + 3 * a.toNat) 0))) 16 3 0) 16 2 = (S (30 + 3 * a.toNat) 3) - (S (30 + 3 * a.toNat) 0) := by rw [u2_eq, if_neg (fun e => absurd e.2 (by decide)), u2_eq, if_pos ⟨rfl, rfl⟩]
          have em : (u2 (u2 (u2 (u2 (u2 (u2 (u2 S 13 0 (S (30 + 3 * a.toNat) 0)) 13 1 (S (30 + 3 * a.toNat) 1)) 13 2 (S (30 + 3 * a.toNat) 2)) 13 3 (S (30 + 3 * a.toNat) 3)) 16 0 (S (30 + 3 * a.toNat) 2)) 16 2 ((S (30 + 3 * a.toNat) 3) - (S (30 + 3 * a.toNat) 0))) 16 3 0) 16 3 = 0 := by rw [u2_eq, if_pos ⟨rfl, rfl⟩]
          have ev : (uv (uv V 14 (V ((30 + 3 * a.toNat) + 1))) 17 (V ((30 + 3 * a.toNat) + 1))) 17 = V ((30 + 3 * a.toNat) + 1) := uv_s
          obtain ⟨w, hrun, hR⟩ := x_rtw (d := d + 7) (way := way) hR (by rw [es]; omega) (by rw [em]) (by omega) (by rw [ec]; omega) (by rw [ev]; omega)
          rw [es, ec, ev] at hR
          rw [if_pos (by omega)] at hrun
          have hrb := whM_bl (m := V (30 + 3 * a.toNat + 1)) (sc := S (30 + 3 * a.toNat) 3 - S (30 + 3 * a.toNat) 0) (sg := S (30 + 3 * a.toNat) 2) (way := way)
          have hrs : 0 ≤ rtiS (S (30 + 3 * a.toNat) 3 - S (30 + 3 * a.toNat) 0) ∧ rtiS (S (30 + 3 * a.toNat) 3 - S (30 + 3 * a.toNat) 0) ≤ 17000 := by unfold rtiS; split <;> omega
          obtain ⟨M, hM⟩ : ∃ M, M = whM (V (30 + 3 * a.toNat + 1)) (S (30 + 3 * a.toNat) 3 - S (30 + 3 * a.toNat) 0) (S (30 + 3 * a.toNat) 2) way := ⟨_, rfl⟩
          rw [← hM] at hR hrb
          rw [uvv] at hR
          refine i_106_112 hobj (Nat.le_of_ble_eq_true rfl) hrun ?_
          refine i_106_115 (x := 7) l0 ?_
          refine i_106_116 (v := Value.ref 78) (hR.k0 kq_7) rfl ?_
          refine i_106_119 (v := Value.int (Int32.ofInt ((u2 (u2 (u2 (u2 (u2 (u2 (u2 (u2 S 13 0 (S (30 + 3 * a.toNat) 0)) 13 1 (S (30 + 3 * a.toNat) 1)) 13 2 (S (30 + 3 * a.toNat) 2)) 13 3 (S (30 + 3 * a.toNat) 3)) 16 0 (S (30 + 3 * a.toNat) 2)) 16 2 ((S (30 + 3 * a.toNat) 3) - (S (30 + 3 * a.toNat) 0))) 16 3 0) 16 2 (rtiS ((S (30 + 3 * a.toNat) 3) - (S (30 + 3 * a.toNat) 0)))) 78 3))) (hR.k1 kq_78) rfl ?_
          rw [show Int32.ofInt ((u2 (u2 (u2 (u2 (u2 (u2 (u2 (u2 S 13 0 (S (30 + 3 * a.toNat) 0)) 13 1 (S (30 + 3 * a.toNat) 1)) 13 2 (S (30 + 3 * a.toNat) 2)) 13 3 (S (30 + 3 * a.toNat) 3)) 16 0 (S (30 + 3 * a.toNat) 2)) 16 2 ((S (30 + 3 * a.toNat) 3) - (S (30 + 3 * a.toNat) 0))) 16 3 0) 16 2 (rtiS ((S (30 + 3 * a.toNat) 3) - (S (30 + 3 * a.toNat) 0)))) 78 3) = Int32.ofInt (S 78 3) by rw [u2_eq, if_neg (fun e => absurd e.2 (by decide)), u2_eq, if_neg (fun e => absurd e.1 (by decide)), u2_eq, if_neg (fun e => absurd e.2 (by decide)), u2_eq, if_neg (fun e => absurd e.2 (by decide)), u2_eq, if_neg (fun e => absurd e.1 (by decide)), u2_eq, if_neg (fun e => absurd e.2 (by decide)), u2_eq, if_neg (fun e => absurd e.2 (by decide)), u2_eq, if_neg (fun e => absurd e.2 (by decide))]]
          refine i_106_122 ?_
          refine i_106_123 (c := Int32.ofInt (zand (S 78 3) (1))) (o_and (S 78 3) (1)) ?_
          refine i_106_124 rfl ?_
          refine lgen1 (i := 7) (v := Value.int (Int32.ofInt (zand (S 78 3) (1)))) (fun lv lg ls => ?_)
          replace l6 := lg 6 _ rfl rfl l6
          replace l5 := lg 5 _ rfl rfl l5
          replace l0 := lg 0 _ rfl rfl l0
          replace l1 := lg 1 _ rfl rfl l1
          replace l2 := lg 2 _ rfl rfl l2
          replace l3 := lg 3 _ rfl rfl l3
          replace l4 := lg 4 _ rfl rfl l4
          have l7 := ls
          refine i_106_126 (x := 7) l0 ?_
          refine i_106_127 (v := Value.ref 16) (hR.k0 kq_7) rfl ?_
          refine i_106_130 (v := Value.ref 17) (hR.k4 kq_16) rfl ?_
          obtain ⟨a5, hsz, hz5⟩ := hR.size (h := 17) (u := M) kq_17 (uv_s)
          refine i_106_133 (v := Value.int (Int32.ofInt (((xbl M + 31) / 32 : Nat) : Int))) hsz rfl ?_
          refine i_106_136 (z_ne (a := (((xbl M + 31) / 32 : Nat) : Int)) ⟨by omega, by omega⟩ fun c5 => ?_) (z_eq (a := (((xbl M + 31) / 32 : Nat) : Int)) ⟨by omega, by omega⟩ fun c5 => ?_)
          · refine i_106_155 (x := 7) l0 ?_
            refine i_106_156 (v := Value.ref 78) (hR.k0 kq_7) rfl ?_
            refine i_106_159 (x := 30 + 3 * r.toNat) l5 ?_
            refine i_106_161 (x := 7) l0 ?_
            refine i_106_162 (v := Value.ref 16) (hR.k0 kq_7) rfl ?_
            refine i_106_165 (x := Int32.ofInt mode) l4 ?_
            have hobj := hR.k1 kq_78
            have ep : (u2 (u2 (u2 (u2 (u2 (u2 (u2 (u2 S 13 0 (S (30 + 3 * a.toNat) 0)) 13 1 (S (30 + 3 * a.toNat) 1)) 13 2 (S (30 + 3 * a.toNat) 2)) 13 3 (S (30 + 3 * a.toNat) 3)) 16 0 (S (30 + 3 * a.toNat) 2)) 16 2 ((S (30 + 3 * a.toNat) 3) - (S (30 + 3 * a.toNat) 0))) 16 3 0) 16 2 (rtiS ((S (30 + 3 * a.toNat) 3) - (S (30 + 3 * a.toNat) 0)))) (30 + 3 * r.toNat) 0 = S (30 + 3 * r.toNat) 0 := by rw [u2_eq, if_neg (fun e => absurd e.2 (by decide)), u2_eq, if_neg (fun e => absurd e.2 (by decide)), u2_eq, if_neg (fun e => absurd e.2 (by decide)), u2_eq, if_neg (fun e => absurd e.1 (by omega)), u2_eq, if_neg (fun e => absurd e.2 (by decide)), u2_eq, if_neg (fun e => absurd e.2 (by decide)), u2_eq, if_neg (fun e => absurd e.2 (by decide)), u2_eq, if_neg (fun e => absurd e.1 (by omega))]
            have el : (u2 (u2 (u2 (u2 (u2 (u2 (u2 (u2 S 13 0 (S (30 + 3 * a.toNat) 0)) 13 1 (S (30 + 3 * a.toNat) 1)) 13 2 (S (30 + 3 * a.toNat) 2)) 13 3 (S (30 + 3 * a.toNat) 3)) 16 0 (S (30 + 3 * a.toNat) 2)) 16 2 ((S (30 + 3 * a.toNat) 3) - (S (30 + 3 * a.toNat) 0))) 16 3 0) 16 2 (rtiS ((S (30 + 3 * a.toNat) 3) - (S (30 + 3 * a.toNat) 0)))) 78 0 = S 78 0 := by rw [u2_eq, if_neg (fun e => absurd e.2 (by decide)), u2_eq, if_neg (fun e => absurd e.2 (by decide)), u2_eq, if_neg (fun e => absurd e.2 (by decide)), u2_eq, if_neg (fun e => absurd e.1 (by decide)), u2_eq, if_neg (fun e => absurd e.2 (by decide)), u2_eq, if_neg (fun e => absurd e.2 (by decide)), u2_eq, if_neg (fun e => absurd e.2 (by decide)), u2_eq, if_neg (fun e => absurd e.1 (by decide))]
            have eg : (u2 (u2 (u2 (u2 (u2 (u2 (u2 (u2 S 13 0 (S (30 + 3 * a.toNat) 0)) 13 1 (S (30 + 3 * a.toNat) 1)) 13 2 (S (30 + 3 * a.toNat) 2)) 13 3 (S (30 + 3 * a.toNat) 3)) 16 0 (S (30 + 3 * a.toNat) 2)) 16 2 ((S (30 + 3 * a.toNat) 3) - (S (30 + 3 * a.toNat) 0))) 16 3 0) 16 2 (rtiS ((S (30 + 3 * a.toNat) 3) - (S (30 + 3 * a.toNat) 0)))) 78 1 = S 78 1 := by rw [u2_eq, if_neg (fun e => absurd e.2 (by decide)), u2_eq, if_neg (fun e => absurd e.2 (by decide)), u2_eq, if_neg (fun e => absurd e.2 (by decide)), u2_eq, if_neg (fun e => absurd e.2 (by decide)), u2_eq, if_neg (fun e => absurd e.2 (by decide)), u2_eq, if_neg (fun e => absurd e.2 (by decide)), u2_eq, if_neg (fun e => absurd e.1 (by decide)), u2_eq, if_neg (fun e => absurd e.2 (by decide))]
            have ed : (u2 (u2 (u2 (u2 (u2 (u2 (u2 (u2 S 13 0 (S (30 + 3 * a.toNat) 0)) 13 1 (S (30 + 3 * a.toNat) 1)) 13 2 (S (30 + 3 * a.toNat) 2)) 13 3 (S (30 + 3 * a.toNat) 3)) 16 0 (S (30 + 3 * a.toNat) 2)) 16 2 ((S (30 + 3 * a.toNat) 3) - (S (30 + 3 * a.toNat) 0))) 16 3 0) 16 2 (rtiS ((S (30 + 3 * a.toNat) 3) - (S (30 + 3 * a.toNat) 0)))) 78 2 = S 78 2 := by rw [u2_eq, if_neg (fun e => absurd e.1 (by decide)), u2_eq, if_neg (fun e => absurd e.2 (by decide)), u2_eq, if_neg (fun e => absurd e.1 (by decide)), u2_eq, if_neg (fun e => absurd e.2 (by decide)), u2_eq, if_neg (fun e => absurd e.2 (by decide)), u2_eq, if_neg (fun e => absurd e.1 (by decide)), u2_eq, if_neg (fun e => absurd e.2 (by decide)), u2_eq, if_neg (fun e => absurd e.2 (by decide))]
            have ef : (u2 (u2 (u2 (u2 (u2 (u2 (u2 (u2 S 13 0 (S (30 + 3 * a.toNat) 0)) 13 1 (S (30 + 3 * a.toNat) 1)) 13 2 (S (30 + 3 * a.toNat) 2)) 13 3 (S (30 + 3 * a.toNat) 3)) 16 0 (S (30 + 3 * a.toNat) 2)) 16 2 ((S (30 + 3 * a.toNat) 3) - (S (30 + 3 * a.toNat) 0))) 16 3 0) 16 2 (rtiS ((S (30 + 3 * a.toNat) 3) - (S (30 + 3 * a.toNat) 0)))) 78 3 = S 78 3 := by rw [u2_eq, if_neg (fun e => absurd e.2 (by decide)), u2_eq, if_neg (fun e => absurd e.1 (by decide)), u2_eq, if_neg (fun e => absurd e.2 (by decide)), u2_eq, if_neg (fun e => absurd e.2 (by decide)), u2_eq, if_neg (fun e => absurd e.1 (by decide)), u2_eq, if_neg (fun e => absurd e.2 (by decide)), u2_eq, if_neg (fun e => absurd e.2 (by decide)), u2_eq, if_neg (fun e => absurd e.2 (by decide))]
            have es : (u2 (u2 (u2 (u2 (u2 (u2 (u2 (u2 S 13 0 (S (30 + 3 * a.toNat) 0)) 13 1 (S (30 + 3 * a.toNat) 1)) 13 2 (S (30 + 3 * a.toNat) 2)) 13 3 (S (30 + 3 * a.toNat) 3)) 16 0 (S (30 + 3 * a.toNat) 2)) 16 2 ((S (30 + 3 * a.toNat) 3) - (S (30 + 3 * a.toNat) 0))) 16 3 0) 16 2 (rtiS ((S (30 + 3 * a.toNat) 3) - (S (30 + 3 * a.toNat) 0)))) 16 0 = S (30 + 3 * a.toNat) 2 := by rw [u2_eq, if_neg (fun e => absurd e.2 (by decide)), u2_eq, if_neg (fun e => absurd e.2 (by decide)), u2_eq, if_neg (fun e => absurd e.2 (by decide)), u2_eq, if_pos ⟨rfl, rfl⟩]
            have ec : (u2 (u2 (u2 (u2 (u2 (u2 (u2 (u2 S 13 0 (S (30 + 3 * a.toNat) 0)) 13 1 (S (30 + 3 * a.toNat) 1)) 13 2 (S (30 + 3 * a.toNat) 2)) 13 3 (S (30 + 3 * a.toNat) 3)) 16 0 (S (30 + 3 * a.toNat) 2)) 16 2 ((S (30 + 3 * a.toNat) 3) - (S (30 + 3 * a.toNat) 0))) 16 3 0) 16 2 (rtiS ((S (30 + 3 * a.toNat) 3) - (S (30 + 3 * a.toNat) 0)))) 16 2 = rtiS ((S (30 + 3 * a.toNat) 3) - (S (30 + 3 * a.toNat) 0)) := by rw [u2_eq, if_pos ⟨rfl, rfl⟩]
            have em : (u2 (u2 (u2 (u2 (u2 (u2 (u2 (u2 S 13 0 (S (30 + 3 * a.toNat) 0)) 13 1 (S (30 + 3 * a.toNat) 1)) 13 2 (S (30 + 3 * a.toNat) 2)) 13 3 (S (30 + 3 * a.toNat) 3)) 16 0 (S (30 + 3 * a.toNat) 2)) 16 2 ((S (30 + 3 * a.toNat) 3) - (S (30 + 3 * a.toNat) 0))) 16 3 0) 16 2 (rtiS ((S (30 + 3 * a.toNat) 3) - (S (30 + 3 * a.toNat) 0)))) 16 3 = 0 := by rw [u2_eq, if_neg (fun e => absurd e.2 (by decide)), u2_eq, if_pos ⟨rfl, rfl⟩]
            have ev : (uv (uv V 14 (V ((30 + 3 * a.toNat) + 1))) 17 M) 17 = M := uv_s
            obtain ⟨w, hrun, S7, V7, hR, hP⟩ := x_settle (d := d + 3) (g := 78) (t := 30 + 3 * r.toNat) (h := 16) (mode := mode) hR kq_78 (kd_reg (r := r.toNat) (by omega)) kq_16 (by rw [ep]; omega) (by rw [es]; first | omega | exact bb_01 _) (by rw [em]; omega) (by omega) (by rw [ev]; exact fun e => ‹(((xbl M + 31) / 32 : Nat) : Int) ≠ 0› (by rw [e, xbl_zero]; rfl)) (by rw [ev]; omega) (by rw [ec]; omega) (by rw [el, eg]; omega) (by rw [ed]; omega) (by rw [ep, el, ed, ev, ec, em]; exact fun _ _ => Or.inl rfl)
            rw [ep, el, eg, ed, ef, es, ec, em, ev] at hrun hP
            refine i_106_167 hobj (Nat.le_of_ble_eq_true rfl) hrun ?_
            refine i_106_170 rfl ?_
            refine i_106_171 (x := 30 + 3 * r.toNat) l5 ?_
            refine i_106_173 (x := 7) l0 ?_
            refine i_106_174 (v := Value.ref 13) (hR.k0 kq_7) rfl ?_
            have eq1 : S7 13 1 = 3 := by rw [hP.2.2.2.2.1 13 1 (by omega) (by omega)]; rw [u2_eq, if_neg (fun e => absurd e.2 (by decide)), u2_eq, if_neg (fun e => absurd e.2 (by decide)), u2_eq, if_neg (fun e => absurd e.2 (by decide)), u2_eq, if_neg (fun e => absurd e.2 (by decide)), u2_eq, if_neg (fun e => absurd e.2 (by decide)), u2_eq, if_neg (fun e => absurd e.2 (by decide)), u2_eq, if_pos ⟨rfl, rfl⟩]; omega
            have eq2 : S7 13 2 = S (30 + 3 * a.toNat) 2 := by rw [hP.2.2.2.2.1 13 2 (by omega) (by omega)]; rw [u2_eq, if_neg (fun e => absurd e.1 (by decide)), u2_eq, if_neg (fun e => absurd e.2 (by decide)), u2_eq, if_neg (fun e => absurd e.1 (by decide)), u2_eq, if_neg (fun e => absurd e.2 (by decide)), u2_eq, if_neg (fun e => absurd e.2 (by decide)), u2_eq, if_pos ⟨rfl, rfl⟩]
            have eq3 : S7 13 3 = S (30 + 3 * a.toNat) 3 := by rw [hP.2.2.2.2.1 13 3 (by omega) (by omega)]; rw [u2_eq, if_neg (fun e => absurd e.2 (by decide)), u2_eq, if_neg (fun e => absurd e.1 (by decide)), u2_eq, if_neg (fun e => absurd e.2 (by decide)), u2_eq, if_neg (fun e => absurd e.2 (by decide)), u2_eq, if_pos ⟨rfl, rfl⟩]
            have ev : V7 14 = V (30 + 3 * a.toNat + 1) := by rw [hP.2.2.2.2.2 14 (by omega)]; exact (uv_n (by omega)).trans (uv_s)
            have hok := rnd_ok (p := S (30 + 3 * r.toNat) 0) (least := S 78 0) (greatest := S 78 1) (gradual := S 78 2) (sg := S (30 + 3 * a.toNat) 2) (mode := mode) (more := 0) (e := rtiS (S (30 + 3 * a.toNat) 3 - S (30 + 3 * a.toNat) 0)) (f := S 78 3) (m := M) hp_r hi_l
            have hrun := x_ord3 (d := d + 9) (t := 30 + 3 * r.toNat) (q := 13) hR (kd_reg (r := r.toNat) (by omega)) kq_13 (by rw [hP.1]; exact hok.1) (by rw [hP.2.1]; omega) (by rw [hP.1]; exact if g3 : (rnd (S (30 + 3 * r.toNat) 0) (S 78 0) (S 78 1) (S 78 2) 0 (S (30 + 3 * a.toNat) 2) mode 0 M (rtiS (S (30 + 3 * a.toNat) 3 - S (30 + 3 * a.toNat) 0)) (S 78 3)).1 = 3 then Or.inr (by rw [(hP.2.2.1 g3).1]; have := hok.2.1.resolve_left (fun e => e g3); omega) else Or.inl g3) eq1 (by rw [eq2]; omega) (by rw [eq3]; omega)
            rw [hP.1, hP.2.1, eq1, eq2, eq3, ev, ordR_n (e' := (rnd (S (30 + 3 * r.toNat) 0) (S 78 0) (S 78 1) (S 78 2) 0 (S (30 + 3 * a.toNat) 2) mode 0 M (rtiS (S (30 + 3 * a.toNat) 3 - S (30 + 3 * a.toNat) 0)) (S 78 3)).2.1) (m' := (rnd (S (30 + 3 * r.toNat) 0) (S 78 0) (S 78 1) (S 78 2) 0 (S (30 + 3 * a.toNat) 2) mode 0 M (rtiS (S (30 + 3 * a.toNat) 3 - S (30 + 3 * a.toNat) 0)) (S 78 3)).2.2.1) hok.1 hP.2.2.1] at hrun
            obtain ⟨tw, htw⟩ : ∃ t : Int, t = ordR (rnd (S (30 + 3 * r.toNat) 0) (S 78 0) (S 78 1) (S 78 2) 0 (S (30 + 3 * a.toNat) 2) mode 0 M (rtiS (S (30 + 3 * a.toNat) 3 - S (30 + 3 * a.toNat) 0)) (S 78 3)).1 (S (30 + 3 * a.toNat) 2) (rnd (S (30 + 3 * r.toNat) 0) (S 78 0) (S 78 1) (S 78 2) 0 (S (30 + 3 * a.toNat) 2) mode 0 M (rtiS (S (30 + 3 * a.toNat) 3 - S (30 + 3 * a.toNat) 0)) (S 78 3)).2.1 (rnd (S (30 + 3 * r.toNat) 0) (S 78 0) (S 78 1) (S 78 2) 0 (S (30 + 3 * a.toNat) 2) mode 0 M (rtiS (S (30 + 3 * a.toNat) 3 - S (30 + 3 * a.toNat) 0)) (S 78 3)).2.2.1 3 (S (30 + 3 * a.toNat) 2) (S (30 + 3 * a.toNat) 3) (V (30 + 3 * a.toNat + 1)) := ⟨_, rfl⟩
            rw [← htw] at hrun
            have htb : -1 ≤ tw ∧ tw ≤ 1 := by rw [htw]; exact ordR_b
            refine i_106_177 (Nat.le_of_ble_eq_true rfl) hrun ?_
            refine i_106_180 rfl ?_
            refine lgen1 (i := 8) (v := Value.int (Int32.ofInt tw)) (fun lv lg ls => ?_)
            replace l7 := lg 7 _ rfl rfl l7
            replace l6 := lg 6 _ rfl rfl l6
            replace l5 := lg 5 _ rfl rfl l5
            replace l0 := lg 0 _ rfl rfl l0
            replace l1 := lg 1 _ rfl rfl l1
            replace l2 := lg 2 _ rfl rfl l2
            replace l3 := lg 3 _ rfl rfl l3
            replace l4 := lg 4 _ rfl rfl l4
            have l8 := ls
            refine i_106_182 (x := 7) l0 ?_
            refine i_106_183 (v := Value.ref 78) (hR.k0 kq_7) rfl ?_
            refine i_106_186 (x := 7) l0 ?_
            refine i_106_187 (v := Value.ref 78) (hR.k0 kq_7) rfl ?_
            refine i_106_190 (v := Value.int (Int32.ofInt (S7 78 3))) (hR.k1 kq_78) rfl ?_
            refine i_106_193 ?_
            refine i_106_195 (c := Int32.ofInt (zand (S7 78 3) ((-2)))) ((congrArg (Int32.ofInt (S7 78 3) &&& ·) (show (-2 : Int32) = Int32.ofInt (-2) by decide)).trans (o_and (S7 78 3) ((-2)))) ?_
            refine i_106_196 (x := Int32.ofInt (zand (S 78 3) (1))) l7 ?_
            refine i_106_198 (c := Int32.ofInt (zor (zand (S7 78 3) ((-2))) (zand (S 78 3) (1)))) (o_or (zand (S7 78 3) ((-2))) (zand (S 78 3) (1))) ?_
            refine i_106_199 (x := Int32.ofInt tw) l8 ?_
            refine i_106_201 (z_ne (a := tw) ⟨by omega, by omega⟩ fun c7 => ?_) (z_eq (a := tw) ⟨by omega, by omega⟩ fun c7 => ?_)
            · refine i_106_208 ?_
              refine i_106_209 (c := Int32.ofInt (zor (zor (zand (S7 78 3) ((-2))) (zand (S 78 3) (1))) 1)) (o_or (zor (zand (S7 78 3) ((-2))) (zand (S 78 3) (1))) 1) ?_
              refine i_106_210 (fs2 := f1 (u1 (S7 78) 3 (zor (zor (zand (S7 78 3) ((-2))) (zand (S 78 3) (1))) 1))) (hR.k1 kq_78) (Nat.le_of_ble_eq_true rfl) rfl (h7k kq_78 (by decide)) ?_
              refine xgen (P := cX w0 L Z (u2 S7 78 3 (zor (zor (zand (S7 78 3) ((-2))) (zand (S 78 3) (1))) 1)) V7) (hR.p1 kq_78) (fun w hR => ?_)
              refine i_106_213 (x := Int32.ofInt tw) l8 ?_
              refine i_106_215 ?_
              have hcM := ‹(((xbl M + 31) / 32 : Nat) : Int) ≠ 0›
              have hM0 : M ≠ 0 := fun e => hcM (by rw [e, xbl_zero]; rfl)
              have eo : sWhC (vS S) (vV V) r.toNat a.toNat way mode = whO (oR (S (30 + 3 * r.toNat) 0) (S 78 0) (S 78 1) (S 78 2) (S (30 + 3 * a.toNat) 2) mode 0 M (rtiS ((S (30 + 3 * a.toNat) 3) - (S (30 + 3 * a.toNat) 0))) (S 78 3)) (S (30 + 3 * a.toNat) 2) (S 78 3) (S (30 + 3 * a.toNat) 3) (V (30 + 3 * a.toNat + 1)) := by rw [sWhC_v, if_neg (by omega), if_neg (by rw [← hM]; exact hM0), ← hM]
              have hf : zor (zor (zand (S7 78 3) ((-2))) (zand (S 78 3) (1))) 1 = whF (S 78 3) (oR (S (30 + 3 * r.toNat) 0) (S 78 0) (S 78 1) (S 78 2) (S (30 + 3 * a.toNat) 2) mode 0 M (rtiS ((S (30 + 3 * a.toNat) 3) - (S (30 + 3 * a.toNat) 0))) (S 78 3)).2.2.2.2.2 (whT (oR (S (30 + 3 * r.toNat) 0) (S 78 0) (S 78 1) (S 78 2) (S (30 + 3 * a.toNat) 2) mode 0 M (rtiS ((S (30 + 3 * a.toNat) 3) - (S (30 + 3 * a.toNat) 0))) (S 78 3)) (S (30 + 3 * a.toNat) 2) (S (30 + 3 * a.toNat) 3) (V (30 + 3 * a.toNat + 1))) := by unfold whF; rw [show whT (oR (S (30 + 3 * r.toNat) 0) (S 78 0) (S 78 1) (S 78 2) (S (30 + 3 * a.toNat) 2) mode 0 M (rtiS ((S (30 + 3 * a.toNat) 3) - (S (30 + 3 * a.toNat) 0))) (S 78 3)) (S (30 + 3 * a.toNat) 2) (S (30 + 3 * a.toNat) 3) (V (30 + 3 * a.toNat + 1)) = tw from htw.symm, if_neg (by omega), hP.2.2.2.1]; rfl
              rw [eo]
              refine ⟨congrArg (fun z => Sum.inl (some (Value.int (Int32.ofInt z)))) (show tw = (whO (oR (S (30 + 3 * r.toNat) 0) (S 78 0) (S 78 1) (S 78 2) (S (30 + 3 * a.toNat) 2) mode 0 M (rtiS ((S (30 + 3 * a.toNat) 3) - (S (30 + 3 * a.toNat) 0))) (S 78 3)) (S (30 + 3 * a.toNat) 2) (S 78 3) (S (30 + 3 * a.toNat) 3) (V (30 + 3 * a.toNat + 1))).2.2.2.2.1 from htw), _, _, hR, ?_⟩
              rw [hf]
              exact cOut_wh (cP_round hP (by omega) (nC.up (nC.up (nC.up (nC.up (nC.up (nC.up (nC.up (nC.up nC.refl (by unfold cKeep; omega) (by omega)) (by unfold cKeep; omega) (by omega)) (by unfold cKeep; omega) (by omega)) (by unfold cKeep; omega) (by omega)) (by unfold cKeep; omega) (by omega)) (by unfold cKeep; omega) (by omega)) (by unfold cKeep; omega) (by omega)) (by unfold cKeep; omega) (by omega)) (nW.up (nW.up nW.refl (by omega)) (by omega)) (by omega)) hP.2.1 (fun e => by have h9 := hok.1.1; rw [show (rnd (S (30 + 3 * r.toNat) 0) (S 78 0) (S 78 1) (S 78 2) 0 (S (30 + 3 * a.toNat) 2) mode 0 M (rtiS (S (30 + 3 * a.toNat) 3 - S (30 + 3 * a.toNat) 0)) (S 78 3)).1 = 0 from e] at h9; omega) (by omega)
            · refine i_106_204 ?_
              refine i_106_205 ?_
              refine i_106_209 (c := Int32.ofInt (zor (zor (zand (S7 78 3) ((-2))) (zand (S 78 3) (1))) 0)) (o_or (zor (zand (S7 78 3) ((-2))) (zand (S 78 3) (1))) 0) ?_
              refine i_106_210 (fs2 := f1 (u1 (S7 78) 3 (zor (zor (zand (S7 78 3) ((-2))) (zand (S 78 3) (1))) 0))) (hR.k1 kq_78) (Nat.le_of_ble_eq_true rfl) rfl (h7k kq_78 (by decide)) ?_
              refine xgen (P := cX w0 L Z (u2 S7 78 3 (zor (zor (zand (S7 78 3) ((-2))) (zand (S 78 3) (1))) 0)) V7) (hR.p1 kq_78) (fun w hR => ?_)
              refine i_106_213 (x := Int32.ofInt tw) l8 ?_
              refine i_106_215 ?_
              have hcM := ‹(((xbl M + 31) / 32 : Nat) : Int) ≠ 0›
              have hM0 : M ≠ 0 := fun e => hcM (by rw [e, xbl_zero]; rfl)
              have eo : sWhC (vS S) (vV V) r.toNat a.toNat way mode = whO (oR (S (30 + 3 * r.toNat) 0) (S 78 0) (S 78 1) (S 78 2) (S (30 + 3 * a.toNat) 2) mode 0 M (rtiS ((S (30 + 3 * a.toNat) 3) - (S (30 + 3 * a.toNat) 0))) (S 78 3)) (S (30 + 3 * a.toNat) 2) (S 78 3) (S (30 + 3 * a.toNat) 3) (V (30 + 3 * a.toNat + 1)) := by rw [sWhC_v, if_neg (by omega), if_neg (by rw [← hM]; exact hM0), ← hM]
              have hf : zor (zor (zand (S7 78 3) ((-2))) (zand (S 78 3) (1))) 0 = whF (S 78 3) (oR (S (30 + 3 * r.toNat) 0) (S 78 0) (S 78 1) (S 78 2) (S (30 + 3 * a.toNat) 2) mode 0 M (rtiS ((S (30 + 3 * a.toNat) 3) - (S (30 + 3 * a.toNat) 0))) (S 78 3)).2.2.2.2.2 (whT (oR (S (30 + 3 * r.toNat) 0) (S 78 0) (S 78 1) (S 78 2) (S (30 + 3 * a.toNat) 2) mode 0 M (rtiS ((S (30 + 3 * a.toNat) 3) - (S (30 + 3 * a.toNat) 0))) (S 78 3)) (S (30 + 3 * a.toNat) 2) (S (30 + 3 * a.toNat) 3) (V (30 + 3 * a.toNat + 1))) := by unfold whF; rw [show whT (oR (S (30 + 3 * r.toNat) 0) (S 78 0) (S 78 1) (S 78 2) (S (30 + 3 * a.toNat) 2) mode 0 M (rtiS ((S (30 + 3 * a.toNat) 3) - (S (30 + 3 * a.toNat) 0))) (S 78 3)) (S (30 + 3 * a.toNat) 2) (S (30 + 3 * a.toNat) 3) (V (30 + 3 * a.toNat + 1)) = tw from htw.symm, if_pos (by omega), hP.2.2.2.1]; rfl
              rw [eo]
              refine ⟨congrArg (fun z => Sum.inl (some (Value.int (Int32.ofInt z)))) (show tw = (whO (oR (S (30 + 3 * r.toNat) 0) (S 78 0) (S 78 1) (S 78 2) (S (30 + 3 * a.toNat) 2) mode 0 M (rtiS ((S (30 + 3 * a.toNat) 3) - (S (30 + 3 * a.toNat) 0))) (S 78 3)) (S (30 + 3 * a.toNat) 2) (S 78 3) (S (30 + 3 * a.toNat) 3) (V (30 + 3 * a.toNat + 1))).2.2.2.2.1 from htw), _, _, hR, ?_⟩
              rw [hf]
              exact cOut_wh (cP_round hP (by omega) (nC.up (nC.up (nC.up (nC.up (nC.up (nC.up (nC.up (nC.up nC.refl (by unfold cKeep; omega) (by omega)) (by unfold cKeep; omega) (by omega)) (by unfold cKeep; omega) (by omega)) (by unfold cKeep; omega) (by omega)) (by unfold cKeep; omega) (by omega)) (by unfold cKeep; omega) (by omega)) (by unfold cKeep; omega) (by omega)) (by unfold cKeep; omega) (by omega)) (nW.up (nW.up nW.refl (by omega)) (by omega)) (by omega)) hP.2.1 (fun e => by have h9 := hok.1.1; rw [show (rnd (S (30 + 3 * r.toNat) 0) (S 78 0) (S 78 1) (S 78 2) 0 (S (30 + 3 * a.toNat) 2) mode 0 M (rtiS (S (30 + 3 * a.toNat) 3 - S (30 + 3 * a.toNat) 0)) (S 78 3)).1 = 0 from e] at h9; omega) (by omega)
          · refine i_106_139 (x := 30 + 3 * r.toNat) l5 ?_
            refine i_106_141 (x := 7) l0 ?_
            refine i_106_142 (v := Value.ref 16) (hR.k0 kq_7) rfl ?_
            refine i_106_145 (v := Value.int (Int32.ofInt ((u2 (u2 (u2 (u2 (u2 (u2 (u2 (u2 S 13 0 (S (30 + 3 * a.toNat) 0)) 13 1 (S (30 + 3 * a.toNat) 1)) 13 2 (S (30 + 3 * a.toNat) 2)) 13 3 (S (30 + 3 * a.toNat) 3)) 16 0 (S (30 + 3 * a.toNat) 2)) 16 2 ((S (30 + 3 * a.toNat) 3) - (S (30 + 3 * a.toNat) 0))) 16 3 0) 16 2 (rtiS ((S (30 + 3 * a.toNat) 3) - (S (30 + 3 * a.toNat) 0)))) 16 0))) (hR.k4 kq_16) rfl ?_
            rw [show Int32.ofInt ((u2 (u2 (u2 (u2 (u2 (u2 (u2 (u2 S 13 0 (S (30 + 3 * a.toNat) 0)) 13 1 (S (30 + 3 * a.toNat) 1)) 13 2 (S (30 + 3 * a.toNat) 2)) 13 3 (S (30 + 3 * a.toNat) 3)) 16 0 (S (30 + 3 * a.toNat) 2)) 16 2 ((S (30 + 3 * a.toNat) 3) - (S (30 + 3 * a.toNat) 0))) 16 3 0) 16 2 (rtiS ((S (30 + 3 * a.toNat) 3) - (S (30 + 3 * a.toNat) 0)))) 16 0) = Int32.ofInt (S (30 + 3 * a.toNat) 2) by rw [u2_eq, if_neg (fun e => absurd e.2 (by decide)), u2_eq, if_neg (fun e => absurd e.2 (by decide)), u2_eq, if_neg (fun e => absurd e.2 (by decide)), u2_eq, if_pos ⟨rfl, rfl⟩]]
            have hobj := hR.k2 (kd_reg (r := r.toNat) (by omega))
            obtain ⟨w, hrun, hR⟩ := x_zero (d := d + 11) (t := 30 + 3 * r.toNat) (sg := S (30 + 3 * a.toNat) 2) hR (kd_reg (r := r.toNat) (by omega)) (by first | omega | exact bb_01 _)
            refine i_106_148 hobj (Nat.le_of_ble_eq_true rfl) hrun ?_
            refine i_106_151 rfl ?_
            refine i_106_152 ?_
            refine i_106_171 (x := 30 + 3 * r.toNat) l5 ?_
            refine i_106_173 (x := 7) l0 ?_
            refine i_106_174 (v := Value.ref 13) (hR.k0 kq_7) rfl ?_
            have eq0 : (u2 (u2 (u2 (u2 (u2 (u2 (u2 (u2 (u2 (u2 S 13 0 (S (30 + 3 * a.toNat) 0)) 13 1 (S (30 + 3 * a.toNat) 1)) 13 2 (S (30 + 3 * a.toNat) 2)) 13 3 (S (30 + 3 * a.toNat) 3)) 16 0 (S (30 + 3 * a.toNat) 2)) 16 2 ((S (30 + 3 * a.toNat) 3) - (S (30 + 3 * a.toNat) 0))) 16 3 0) 16 2 (rtiS ((S (30 + 3 * a.toNat) 3) - (S (30 + 3 * a.toNat) 0)))) (30 + 3 * r.toNat) 1 2) (30 + 3 * r.toNat) 2 (S (30 + 3 * a.toNat) 2)) 13 0 = S (30 + 3 * a.toNat) 0 := by rw [u2_eq, if_neg (fun e => absurd e.2 (by decide)), u2_eq, if_neg (fun e => absurd e.2 (by decide)), u2_eq, if_neg (fun e => absurd e.2 (by decide)), u2_eq, if_neg (fun e => absurd e.2 (by decide)), u2_eq, if_neg (fun e => absurd e.2 (by decide)), u2_eq, if_neg (fun e => absurd e.1 (by decide)), u2_eq, if_neg (fun e => absurd e.2 (by decide)), u2_eq, if_neg (fun e => absurd e.2 (by decide)), u2_eq, if_neg (fun e => absurd e.2 (by decide)), u2_eq, if_pos ⟨rfl, rfl⟩]
            have eq1 : (u2 (u2 (u2 (u2 (u2 (u2 (u2 (u2 (u2 (u2 S 13 0 (S (30 + 3 * a.toNat) 0)) 13 1 (S (30 + 3 * a.toNat) 1)) 13 2 (S (30 + 3 * a.toNat) 2)) 13 3 (S (30 + 3 * a.toNat) 3)) 16 0 (S (30 + 3 * a.toNat) 2)) 16 2 ((S (30 + 3 * a.toNat) 3) - (S (30 + 3 * a.toNat) 0))) 16 3 0) 16 2 (rtiS ((S (30 + 3 * a.toNat) 3) - (S (30 + 3 * a.toNat) 0)))) (30 + 3 * r.toNat) 1 2) (30 + 3 * r.toNat) 2 (S (30 + 3 * a.toNat) 2)) 13 1 = S (30 + 3 * a.toNat) 1 := by rw [u2_eq, if_neg (fun e => absurd e.2 (by decide)), u2_eq, if_neg (fun e => absurd e.1 (by omega)), u2_eq, if_neg (fun e => absurd e.2 (by decide)), u2_eq, if_neg (fun e => absurd e.2 (by decide)), u2_eq, if_neg (fun e => absurd e.2 (by decide)), u2_eq, if_neg (fun e => absurd e.2 (by decide)), u2_eq, if_neg (fun e => absurd e.2 (by decide)), u2_eq, if_neg (fun e => absurd e.2 (by decide)), u2_eq, if_pos ⟨rfl, rfl⟩]
            have eq2 : (u2 (u2 (u2 (u2 (u2 (u2 (u2 (u2 (u2 (u2 S 13 0 (S (30 + 3 * a.toNat) 0)) 13 1 (S (30 + 3 * a.toNat) 1)) 13 2 (S (30 + 3 * a.toNat) 2)) 13 3 (S (30 + 3 * a.toNat) 3)) 16 0 (S (30 + 3 * a.toNat) 2)) 16 2 ((S (30 + 3 * a.toNat) 3) - (S (30 + 3 * a.toNat) 0))) 16 3 0) 16 2 (rtiS ((S (30 + 3 * a.toNat) 3) - (S (30 + 3 * a.toNat) 0)))) (30 + 3 * r.toNat) 1 2) (30 + 3 * r.toNat) 2 (S (30 + 3 * a.toNat) 2)) 13 2 = S (30 + 3 * a.toNat) 2 := by rw [u2_eq, if_neg (fun e => absurd e.1 (by omega)), u2_eq, if_neg (fun e => absurd e.2 (by decide)), u2_eq, if_neg (fun e => absurd e.1 (by decide)), u2_eq, if_neg (fun e => absurd e.2 (by decide)), u2_eq, if_neg (fun e => absurd e.1 (by decide)), u2_eq, if_neg (fun e => absurd e.2 (by decide)), u2_eq, if_neg (fun e => absurd e.2 (by decide)), u2_eq, if_pos ⟨rfl, rfl⟩]
            have eq3 : (u2 (u2 (u2 (u2 (u2 (u2 (u2 (u2 (u2 (u2 S 13 0 (S (30 + 3 * a.toNat) 0)) 13 1 (S (30 + 3 * a.toNat) 1)) 13 2 (S (30 + 3 * a.toNat) 2)) 13 3 (S (30 + 3 * a.toNat) 3)) 16 0 (S (30 + 3 * a.toNat) 2)) 16 2 ((S (30 + 3 * a.toNat) 3) - (S (30 + 3 * a.toNat) 0))) 16 3 0) 16 2 (rtiS ((S (30 + 3 * a.toNat) 3) - (S (30 + 3 * a.toNat) 0)))) (30 + 3 * r.toNat) 1 2) (30 + 3 * r.toNat) 2 (S (30 + 3 * a.toNat) 2)) 13 3 = S (30 + 3 * a.toNat) 3 := by rw [u2_eq, if_neg (fun e => absurd e.2 (by decide)), u2_eq, if_neg (fun e => absurd e.2 (by decide)), u2_eq, if_neg (fun e => absurd e.2 (by decide)), u2_eq, if_neg (fun e => absurd e.1 (by decide)), u2_eq, if_neg (fun e => absurd e.2 (by decide)), u2_eq, if_neg (fun e => absurd e.2 (by decide)), u2_eq, if_pos ⟨rfl, rfl⟩]
            have et1 : (u2 (u2 (u2 (u2 (u2 (u2 (u2 (u2 (u2 (u2 S 13 0 (S (30 + 3 * a.toNat) 0)) 13 1 (S (30 + 3 * a.toNat) 1)) 13 2 (S (30 + 3 * a.toNat) 2)) 13 3 (S (30 + 3 * a.toNat) 3)) 16 0 (S (30 + 3 * a.toNat) 2)) 16 2 ((S (30 + 3 * a.toNat) 3) - (S (30 + 3 * a.toNat) 0))) 16 3 0) 16 2 (rtiS ((S (30 + 3 * a.toNat) 3) - (S (30 + 3 * a.toNat) 0)))) (30 + 3 * r.toNat) 1 2) (30 + 3 * r.toNat) 2 (S (30 + 3 * a.toNat) 2)) (30 + 3 * r.toNat) 1 = 2 := by rw [u2_eq, if_neg (fun e => absurd e.2 (by decide)), u2_eq, if_pos ⟨rfl, rfl⟩]
            have et2 : (u2 (u2 (u2 (u2 (u2 (u2 (u2 (u2 (u2 (u2 S 13 0 (S (30 + 3 * a.toNat) 0)) 13 1 (S (30 + 3 * a.toNat) 1)) 13 2 (S (30 + 3 * a.toNat) 2)) 13 3 (S (30 + 3 * a.toNat) 3)) 16 0 (S (30 + 3 * a.toNat) 2)) 16 2 ((S (30 + 3 * a.toNat) 3) - (S (30 + 3 * a.toNat) 0))) 16 3 0) 16 2 (rtiS ((S (30 + 3 * a.toNat) 3) - (S (30 + 3 * a.toNat) 0)))) (30 + 3 * r.toNat) 1 2) (30 + 3 * r.toNat) 2 (S (30 + 3 * a.toNat) 2)) (30 + 3 * r.toNat) 2 = S (30 + 3 * a.toNat) 2 := by rw [u2_eq, if_pos ⟨rfl, rfl⟩]
            have ev : (uv (uv V 14 (V ((30 + 3 * a.toNat) + 1))) 17 M) 14 = V ((30 + 3 * a.toNat) + 1) := (uv_n (by omega)).trans (uv_s)
            have hk2 : (2 : Int) ≠ 3 := by decide
            have hrun := x_ord3 (d := d + 9) (t := 30 + 3 * r.toNat) (q := 13) hR (kd_reg (r := r.toNat) (by omega)) kq_13 (by rw [et1]; decide) (by rw [et2]; omega) (Or.inl (by rw [et1]; decide)) (by rw [eq1]; omega) (by rw [eq2]; omega) (by rw [eq3]; omega)
            rw [et1, et2, eq1, eq2, eq3, ev, show S (30 + 3 * a.toNat) 1 = 3 by omega, ordR_n (e' := 0) (m' := 0) ⟨by decide, by decide⟩ (fun e => absurd e hk2)] at hrun
            obtain ⟨tw, htw⟩ : ∃ t : Int, t = ordR 2 (S (30 + 3 * a.toNat) 2) 0 0 3 (S (30 + 3 * a.toNat) 2) (S (30 + 3 * a.toNat) 3) (V (30 + 3 * a.toNat + 1)) := ⟨_, rfl⟩
            rw [← htw] at hrun
            have htb : -1 ≤ tw ∧ tw ≤ 1 := by rw [htw]; exact ordR_b
            refine i_106_177 (Nat.le_of_ble_eq_true rfl) hrun ?_
            refine i_106_180 rfl ?_
            refine lgen1 (i := 8) (v := Value.int (Int32.ofInt tw)) (fun lv lg ls => ?_)
            replace l7 := lg 7 _ rfl rfl l7
            replace l6 := lg 6 _ rfl rfl l6
            replace l5 := lg 5 _ rfl rfl l5
            replace l0 := lg 0 _ rfl rfl l0
            replace l1 := lg 1 _ rfl rfl l1
            replace l2 := lg 2 _ rfl rfl l2
            replace l3 := lg 3 _ rfl rfl l3
            replace l4 := lg 4 _ rfl rfl l4
            have l8 := ls
            refine i_106_182 (x := 7) l0 ?_
            refine i_106_183 (v := Value.ref 78) (hR.k0 kq_7) rfl ?_
            refine i_106_186 (x := 7) l0 ?_
            refine i_106_187 (v := Value.ref 78) (hR.k0 kq_7) rfl ?_
            refine i_106_190 (v := Value.int (Int32.ofInt ((u2 (u2 (u2 (u2 (u2 (u2 (u2 (u2 (u2 (u2 S 13 0 (S (30 + 3 * a.toNat) 0)) 13 1 (S (30 + 3 * a.toNat) 1)) 13 2 (S (30 + 3 * a.toNat) 2)) 13 3 (S (30 + 3 * a.toNat) 3)) 16 0 (S (30 + 3 * a.toNat) 2)) 16 2 ((S (30 + 3 * a.toNat) 3) - (S (30 + 3 * a.toNat) 0))) 16 3 0) 16 2 (rtiS ((S (30 + 3 * a.toNat) 3) - (S (30 + 3 * a.toNat) 0)))) (30 + 3 * r.toNat) 1 2) (30 + 3 * r.toNat) 2 (S (30 + 3 * a.toNat) 2)) 78 3))) (hR.k1 kq_78) rfl ?_
            rw [show Int32.ofInt ((u2 (u2 (u2 (u2 (u2 (u2 (u2 (u2 (u2 (u2 S 13 0 (S (30 + 3 * a.toNat) 0)) 13 1 (S (30 + 3 * a.toNat) 1)) 13 2 (S (30 + 3 * a.toNat) 2)) 13 3 (S (30 + 3 * a.toNat) 3)) 16 0 (S (30 + 3 * a.toNat) 2)) 16 2 ((S (30 + 3 * a.toNat) 3) - (S (30 + 3 * a.toNat) 0))) 16 3 0) 16 2 (rtiS ((S (30 + 3 * a.toNat) 3) - (S (30 + 3 * a.toNat) 0)))) (30 + 3 * r.toNat) 1 2) (30 + 3 * r.toNat) 2 (S (30 + 3 * a.toNat) 2)) 78 3) = Int32.ofInt (S 78 3) by rw [u2_eq, if_neg (fun e => absurd e.2 (by decide)), u2_eq, if_neg (fun e => absurd e.2 (by decide)), u2_eq, if_neg (fun e => absurd e.2 (by decide)), u2_eq, if_neg (fun e => absurd e.1 (by decide)), u2_eq, if_neg (fun e => absurd e.2 (by decide)), u2_eq, if_neg (fun e => absurd e.2 (by decide)), u2_eq, if_neg (fun e => absurd e.1 (by decide)), u2_eq, if_neg (fun e => absurd e.2 (by decide)), u2_eq, if_neg (fun e => absurd e.2 (by decide)), u2_eq, if_neg (fun e => absurd e.2 (by decide))]]
            refine i_106_193 ?_
            refine i_106_195 (c := Int32.ofInt (zand (S 78 3) ((-2)))) ((congrArg (Int32.ofInt (S 78 3) &&& ·) (show (-2 : Int32) = Int32.ofInt (-2) by decide)).trans (o_and (S 78 3) ((-2)))) ?_
            refine i_106_196 (x := Int32.ofInt (zand (S 78 3) (1))) l7 ?_
            refine i_106_198 (c := Int32.ofInt (zor (zand (S 78 3) ((-2))) (zand (S 78 3) (1)))) (o_or (zand (S 78 3) ((-2))) (zand (S 78 3) (1))) ?_
            refine i_106_199 (x := Int32.ofInt tw) l8 ?_
            refine i_106_201 (z_ne (a := tw) ⟨by omega, by omega⟩ fun c8 => ?_) (z_eq (a := tw) ⟨by omega, by omega⟩ fun c8 => ?_)
            · refine i_106_208 ?_
              refine i_106_209 (c := Int32.ofInt (zor (zor (zand (S 78 3) ((-2))) (zand (S 78 3) (1))) 1)) (o_or (zor (zand (S 78 3) ((-2))) (zand (S 78 3) (1))) 1) ?_
              refine i_106_210 (fs2 := f1 (u1 ((u2 (u2 (u2 (u2 (u2 (u2 (u2 (u2 (u2 (u2 S 13 0 (S (30 + 3 * a.toNat) 0)) 13 1 (S (30 + 3 * a.toNat) 1)) 13 2 (S (30 + 3 * a.toNat) 2)) 13 3 (S (30 + 3 * a.toNat) 3)) 16 0 (S (30 + 3 * a.toNat) 2)) 16 2 ((S (30 + 3 * a.toNat) 3) - (S (30 + 3 * a.toNat) 0))) 16 3 0) 16 2 (rtiS ((S (30 + 3 * a.toNat) 3) - (S (30 + 3 * a.toNat) 0)))) (30 + 3 * r.toNat) 1 2) (30 + 3 * r.toNat) 2 (S (30 + 3 * a.toNat) 2)) 78) 3 (zor (zor (zand (S 78 3) ((-2))) (zand (S 78 3) (1))) 1))) (hR.k1 kq_78) (Nat.le_of_ble_eq_true rfl) rfl (h7k kq_78 (by decide)) ?_
              refine xgen (P := cX w0 L Z (u2 (u2 (u2 (u2 (u2 (u2 (u2 (u2 (u2 (u2 (u2 S 13 0 (S (30 + 3 * a.toNat) 0)) 13 1 (S (30 + 3 * a.toNat) 1)) 13 2 (S (30 + 3 * a.toNat) 2)) 13 3 (S (30 + 3 * a.toNat) 3)) 16 0 (S (30 + 3 * a.toNat) 2)) 16 2 ((S (30 + 3 * a.toNat) 3) - (S (30 + 3 * a.toNat) 0))) 16 3 0) 16 2 (rtiS ((S (30 + 3 * a.toNat) 3) - (S (30 + 3 * a.toNat) 0)))) (30 + 3 * r.toNat) 1 2) (30 + 3 * r.toNat) 2 (S (30 + 3 * a.toNat) 2)) 78 3 (zor (zor (zand (S 78 3) ((-2))) (zand (S 78 3) (1))) 1)) (uv (uv V 14 (V ((30 + 3 * a.toNat) + 1))) 17 M)) (hR.p1 kq_78) (fun w hR => ?_)
              refine i_106_213 (x := Int32.ofInt tw) l8 ?_
              refine i_106_215 ?_
              have hcM := ‹(((xbl M + 31) / 32 : Nat) : Int) = 0›
              have hM0 : M = 0 := xbl_nz.mp (by omega)
              have eo : sWhC (vS S) (vV V) r.toNat a.toNat way mode = whO (oS 2 (S (30 + 3 * a.toNat) 2) (S 78 3)) (S (30 + 3 * a.toNat) 2) (S 78 3) (S (30 + 3 * a.toNat) 3) (V (30 + 3 * a.toNat + 1)) := by rw [sWhC_v, if_neg (by omega), if_pos (by rw [← hM]; exact hM0)]
              have hf : zor (zor (zand (S 78 3) ((-2))) (zand (S 78 3) (1))) 1 = whF (S 78 3) (oS 2 (S (30 + 3 * a.toNat) 2) (S 78 3)).2.2.2.2.2 (whT (oS 2 (S (30 + 3 * a.toNat) 2) (S 78 3)) (S (30 + 3 * a.toNat) 2) (S (30 + 3 * a.toNat) 3) (V (30 + 3 * a.toNat + 1))) := by unfold whF; rw [show whT (oS 2 (S (30 + 3 * a.toNat) 2) (S 78 3)) (S (30 + 3 * a.toNat) 2) (S (30 + 3 * a.toNat) 3) (V (30 + 3 * a.toNat + 1)) = tw from htw.symm, if_neg (by omega)]; rfl
              rw [eo]
              refine ⟨congrArg (fun z => Sum.inl (some (Value.int (Int32.ofInt z)))) (show tw = (whO (oS 2 (S (30 + 3 * a.toNat) 2) (S 78 3)) (S (30 + 3 * a.toNat) 2) (S 78 3) (S (30 + 3 * a.toNat) 3) (V (30 + 3 * a.toNat + 1))).2.2.2.2.1 from htw), _, _, hR, ?_⟩
              rw [hf]
              exact cOut_wh (cP_special (by omega) (by decide) (nC.up (nC.up (nC.up (nC.up (nC.up (nC.up (nC.up (nC.up nC.refl (by unfold cKeep; omega) (by omega)) (by unfold cKeep; omega) (by omega)) (by unfold cKeep; omega) (by omega)) (by unfold cKeep; omega) (by omega)) (by unfold cKeep; omega) (by omega)) (by unfold cKeep; omega) (by omega)) (by unfold cKeep; omega) (by omega)) (by unfold cKeep; omega) (by omega)) (nW.up (nW.up nW.refl (by omega)) (by omega)) rfl (by omega)) (by rw [u2_eq, if_pos ⟨rfl, rfl⟩]) (show (2 : Int) ≠ 0 by decide) (by omega)
            · refine i_106_204 ?_
              refine i_106_205 ?_
              refine i_106_209 (c := Int32.ofInt (zor (zor (zand (S 78 3) ((-2))) (zand (S 78 3) (1))) 0)) (o_or (zor (zand (S 78 3) ((-2))) (zand (S 78 3) (1))) 0) ?_
              refine i_106_210 (fs2 := f1 (u1 ((u2 (u2 (u2 (u2 (u2 (u2 (u2 (u2 (u2 (u2 S 13 0 (S (30 + 3 * a.toNat) 0)) 13 1 (S (30 + 3 * a.toNat) 1)) 13 2 (S (30 + 3 * a.toNat) 2)) 13 3 (S (30 + 3 * a.toNat) 3)) 16 0 (S (30 + 3 * a.toNat) 2)) 16 2 ((S (30 + 3 * a.toNat) 3) - (S (30 + 3 * a.toNat) 0))) 16 3 0) 16 2 (rtiS ((S (30 + 3 * a.toNat) 3) - (S (30 + 3 * a.toNat) 0)))) (30 + 3 * r.toNat) 1 2) (30 + 3 * r.toNat) 2 (S (30 + 3 * a.toNat) 2)) 78) 3 (zor (zor (zand (S 78 3) ((-2))) (zand (S 78 3) (1))) 0))) (hR.k1 kq_78) (Nat.le_of_ble_eq_true rfl) rfl (h7k kq_78 (by decide)) ?_
              refine xgen (P := cX w0 L Z (u2 (u2 (u2 (u2 (u2 (u2 (u2 (u2 (u2 (u2 (u2 S 13 0 (S (30 + 3 * a.toNat) 0)) 13 1 (S (30 + 3 * a.toNat) 1)) 13 2 (S (30 + 3 * a.toNat) 2)) 13 3 (S (30 + 3 * a.toNat) 3)) 16 0 (S (30 + 3 * a.toNat) 2)) 16 2 ((S (30 + 3 * a.toNat) 3) - (S (30 + 3 * a.toNat) 0))) 16 3 0) 16 2 (rtiS ((S (30 + 3 * a.toNat) 3) - (S (30 + 3 * a.toNat) 0)))) (30 + 3 * r.toNat) 1 2) (30 + 3 * r.toNat) 2 (S (30 + 3 * a.toNat) 2)) 78 3 (zor (zor (zand (S 78 3) ((-2))) (zand (S 78 3) (1))) 0)) (uv (uv V 14 (V ((30 + 3 * a.toNat) + 1))) 17 M)) (hR.p1 kq_78) (fun w hR => ?_)
              refine i_106_213 (x := Int32.ofInt tw) l8 ?_
              refine i_106_215 ?_
              have hcM := ‹(((xbl M + 31) / 32 : Nat) : Int) = 0›
              have hM0 : M = 0 := xbl_nz.mp (by omega)
              have eo : sWhC (vS S) (vV V) r.toNat a.toNat way mode = whO (oS 2 (S (30 + 3 * a.toNat) 2) (S 78 3)) (S (30 + 3 * a.toNat) 2) (S 78 3) (S (30 + 3 * a.toNat) 3) (V (30 + 3 * a.toNat + 1)) := by rw [sWhC_v, if_neg (by omega), if_pos (by rw [← hM]; exact hM0)]
              have hf : zor (zor (zand (S 78 3) ((-2))) (zand (S 78 3) (1))) 0 = whF (S 78 3) (oS 2 (S (30 + 3 * a.toNat) 2) (S 78 3)).2.2.2.2.2 (whT (oS 2 (S (30 + 3 * a.toNat) 2) (S 78 3)) (S (30 + 3 * a.toNat) 2) (S (30 + 3 * a.toNat) 3) (V (30 + 3 * a.toNat + 1))) := by unfold whF; rw [show whT (oS 2 (S (30 + 3 * a.toNat) 2) (S 78 3)) (S (30 + 3 * a.toNat) 2) (S (30 + 3 * a.toNat) 3) (V (30 + 3 * a.toNat + 1)) = tw from htw.symm, if_pos (by omega)]; rfl
              rw [eo]
              refine ⟨congrArg (fun z => Sum.inl (some (Value.int (Int32.ofInt z)))) (show tw = (whO (oS 2 (S (30 + 3 * a.toNat) 2) (S 78 3)) (S (30 + 3 * a.toNat) 2) (S 78 3) (S (30 + 3 * a.toNat) 3) (V (30 + 3 * a.toNat + 1))).2.2.2.2.1 from htw), _, _, hR, ?_⟩
              rw [hf]
              exact cOut_wh (cP_special (by omega) (by decide) (nC.up (nC.up (nC.up (nC.up (nC.up (nC.up (nC.up (nC.up nC.refl (by unfold cKeep; omega) (by omega)) (by unfold cKeep; omega) (by omega)) (by unfold cKeep; omega) (by omega)) (by unfold cKeep; omega) (by omega)) (by unfold cKeep; omega) (by omega)) (by unfold cKeep; omega) (by omega)) (by unfold cKeep; omega) (by omega)) (by unfold cKeep; omega) (by omega)) (nW.up (nW.up nW.refl (by omega)) (by omega)) rfl (by omega)) (by rw [u2_eq, if_pos ⟨rfl, rfl⟩]) (show (2 : Int) ≠ 0 by decide) (by omega)
        · refine i_106_64 (x := 30 + 3 * r.toNat) l5 ?_
          refine i_106_66 (x := 30 + 3 * a.toNat) l6 ?_
          refine i_106_68 (v := Value.int (Int32.ofInt (S (30 + 3 * a.toNat) 1))) (hR.k2 (kd_reg (r := a.toNat) (by omega))) rfl ?_
          refine i_106_71 (x := 30 + 3 * a.toNat) l6 ?_
          refine i_106_73 (v := Value.int (Int32.ofInt (S (30 + 3 * a.toNat) 2))) (hR.k2 (kd_reg (r := a.toNat) (by omega))) rfl ?_
          have hobj := hR.k2 (kd_reg (r := r.toNat) (by omega))
          obtain ⟨w, hrun, hR⟩ := x_spec (d := d + 12) (t := 30 + 3 * r.toNat) (which := S (30 + 3 * a.toNat) 1) (sg := S (30 + 3 * a.toNat) 2) hR (kd_reg (r := r.toNat) (by omega)) (by first | omega | exact bb_01 _)
          refine i_106_76 hobj (Nat.le_of_ble_eq_true rfl) hrun ?_
          refine i_106_79 ?_
          have eo : sWhC (vS S) (vV V) r.toNat a.toNat way mode = oS (S (30 + 3 * a.toNat) 1) (S (30 + 3 * a.toNat) 2) (S 78 3) := by rw [sWhC_v, if_pos (by omega)]
          rw [eo]
          exact ⟨rfl, _, _, hR, cP_special (by omega) (by omega) nC.refl nW.refl rfl (by omega)⟩
  obtain ⟨o, w', h1, rfl, h2⟩ := (key (lv_args 0 [Value.ref 7, Value.int (Int32.ofInt r), Value.int (Int32.ofInt a), Value.int (Int32.ofInt way), Value.int (Int32.ofInt mode)]) rfl rfl rfl rfl rfl).run
  exact ⟨w', h1, h2⟩
set_option maxHeartbeats 8000000 in
theorem x_wh3 {r a way mode : Int} (hR : cX w0 L Z S V w) (hI : cI S V) (hr : 0 ≤ r ∧ r ≤ 15) (ha : 0 ≤ a ∧ a ≤ 15) (hw : 0 ≤ way ∧ way ≤ 3) (hmo : 0 ≤ mode ∧ mode ≤ 4) : ∃ w', xRun (d + 13) 106 [Value.ref 7, Value.int (Int32.ofInt r), Value.int (Int32.ofInt a), Value.int (Int32.ofInt way), Value.int (Int32.ofInt mode)] w (.inl (some (.int (Int32.ofInt (sWhC (vS S) (vV V) r.toNat a.toNat way mode).2.2.2.2.1)))) w' ∧ ∃ S' V', cX w0 L Z S' V' w' ∧ cOut S S' V V' (30 + 3 * r.toNat) (sWhC (vS S) (vV V) r.toNat a.toNat way mode) := by
  have key : ∀ lv, xld lv 0 = some (Value.ref 7) → xld lv 1 = some (Value.int (Int32.ofInt r)) → xld lv 2 = some (Value.int (Int32.ofInt a)) → xld lv 3 = some (Value.int (Int32.ofInt way)) → xld lv 4 = some (Value.int (Int32.ofInt mode)) → xEv (d + 13) 106 0 lv [] w (fun o w' => o = .inl (some (.int (Int32.ofInt (sWhC (vS S) (vV V) r.toNat a.toNat way mode).2.2.2.2.1))) ∧ ∃ S' V', cX w0 L Z S' V' w' ∧ cOut S S' V V' (30 + 3 * r.toNat) (sWhC (vS S) (vV V) r.toNat a.toNat way mode)) := by
    intro lv l0 l1 l2 l3 l4
    obtain ⟨hp_r, hk_r, hn_r, ht_r, hx_r, hz_r⟩ := hI.1 r.toNat (by omega)
    obtain ⟨hp_a, hk_a, hn_a, ht_a, hx_a, hz_a⟩ := hI.1 a.toNat (by omega)
    have hi_l := hI.2.1
    have hi_g := hI.2.2.1
    refine i_106_0 (x := Int32.ofInt r) l1 ?_
    have hrun := x_noReg (d := d + 12) (w := w) (r := r) ⟨by omega, by omega⟩
    rw [show (decide (r < 0) || decide (16 ≤ r)) = false from by simp; omega] at hrun
    refine i_106_1 (Nat.le_of_ble_eq_true rfl) hrun ?_
    refine i_106_4 (fun c => absurd c (by decide)) (fun _ => ?_)
    refine i_106_7 (x := Int32.ofInt a) l2 ?_
    have hrun := x_noReg (d := d + 12) (w := w) (r := a) ⟨by omega, by omega⟩
    rw [show (decide (a < 0) || decide (16 ≤ a)) = false from by simp; omega] at hrun
    refine i_106_8 (Nat.le_of_ble_eq_true rfl) hrun ?_
    refine i_106_11 (fun c => absurd c (by decide)) (fun _ => ?_)
    refine i_106_14 (x := Int32.ofInt way) l3 ?_
    refine i_106_15 (z_lt (a := way) ⟨by omega, by omega⟩ fun c0 => ?_) (z_ge (a := way) ⟨by omega, by omega⟩ fun c0 => ?_)
    · refine i_106_31 (by omega) (Nat.le_of_ble_eq_true rfl) ?_
      exfalso; omega
    · refine i_106_18 (x := Int32.ofInt way) l3 ?_
      refine i_106_19 ?_
      refine i_106_20 (b_lt (a := 4) (b := way) ⟨by decide, by decide⟩ ⟨by omega, by omega⟩ fun c1 => ?_) (b_le (a := way) (b := 4) ⟨by omega, by omega⟩ ⟨by decide, by decide⟩ fun c1 => ?_)
      · refine i_106_31 (by omega) (Nat.le_of_ble_eq_true rfl) ?_
        exfalso; omega
      · refine i_106_23 (x := Int32.ofInt mode) l4 ?_
        have hrun := x_noMode (d := d + 12) (w := w) (m := mode) ⟨by omega, by omega⟩
        rw [show (decide (mode < 0) || decide (4 < mode)) = false from by simp; omega] at hrun
        refine i_106_25 (Nat.le_of_ble_eq_true rfl) hrun ?_
        refine i_106_28 (fun _ => ?_) (fun c => absurd c (by decide))
        refine i_106_39 (x := 7) l0 ?_
        refine i_106_40 (v := Value.ref 8) (hR.k0 kq_7) rfl ?_
        refine i_106_43 (x := Int32.ofInt r) l1 ?_
        obtain ⟨gr, hgr, hge⟩ := hR.regs
        refine i_106_44 (v := Value.ref (30 + 3 * r.toNat)) hgr (ix0 (T := r) (by omega) (by omega)) (ix1 (T := r) (by omega) (by omega) (by omega)) (by rw [ixn (T := r) (by omega) (by omega)]; exact hge _ (by omega)) ?_
        refine i_106_45 rfl ?_
        refine lgen1 (i := 5) (v := Value.ref (30 + 3 * r.toNat)) (fun lv lg ls => ?_)
        replace l0 := lg 0 _ rfl rfl l0
        replace l1 := lg 1 _ rfl rfl l1
        replace l2 := lg 2 _ rfl rfl l2
        replace l3 := lg 3 _ rfl rfl l3
        replace l4 := lg 4 _ rfl rfl l4
        have l5 := ls
        refine i_106_47 (x := 7) l0 ?_
        refine i_106_48 (v := Value.ref 8) (hR.k0 kq_7) rfl ?_
        refine i_106_51 (x := Int32.ofInt a) l2 ?_
        obtain ⟨gr, hgr, hge⟩ := hR.regs
        refine i_106_52 (v := Value.ref (30 + 3 * a.toNat)) hgr (ix0 (T := a) (by omega) (by omega)) (ix1 (T := a) (by omega) (by omega) (by omega)) (by rw [ixn (T := a) (by omega) (by omega)]; exact hge _ (by omega)) ?_
        refine i_106_53 rfl ?_
        refine lgen1 (i := 6) (v := Value.ref (30 + 3 * a.toNat)) (fun lv lg ls => ?_)
        replace l5 := lg 5 _ rfl rfl l5
        replace l0 := lg 0 _ rfl rfl l0
        replace l1 := lg 1 _ rfl rfl l1
        replace l2 := lg 2 _ rfl rfl l2
        replace l3 := lg 3 _ rfl rfl l3
        replace l4 := lg 4 _ rfl rfl l4
        have l6 := ls
        refine i_106_55 (x := 30 + 3 * a.toNat) l6 ?_
        refine i_106_57 (v := Value.int (Int32.ofInt (S (30 + 3 * a.toNat) 1))) (hR.k2 (kd_reg (r := a.toNat) (by omega))) rfl ?_
        refine i_106_60 ?_
        refine i_106_61 (b_eq (a := S (30 + 3 * a.toNat) 1) (b := 3) ⟨by omega, by omega⟩ ⟨by decide, by decide⟩ fun c2 => ?_) (b_ne (a := S (30 + 3 * a.toNat) 1) (b := 3) ⟨by omega, by omega⟩ ⟨by decide, by decide⟩ fun c2 => ?_)
        · try replace ht_a := ht_a.resolve_left (by omega)
          try replace hx_a := hx_a.resolve_left (by omega)
          refine i_106_80 (x := 7) l0 ?_
          refine i_106_81 (v := Value.ref 13) (hR.k0 kq_7) rfl ?_
          refine i_106_84 (x := 30 + 3 * a.toNat) l6 ?_
          have hobj := hR.k2 kq_13
          have eq0 : S (30 + 3 * a.toNat) 0 = S (30 + 3 * a.toNat) 0 := rfl
          have eq1 : S (30 + 3 * a.toNat) 1 = S (30 + 3 * a.toNat) 1 := rfl
          have eq2 : S (30 + 3 * a.toNat) 2 = S (30 + 3 * a.toNat) 2 := rfl
          have eq3 : S (30 + 3 * a.toNat) 3 = S (30 + 3 * a.toNat) 3 := rfl
          have ev : V ((30 + 3 * a.toNat) + 1) = V ((30 + 3 * a.toNat) + 1) := rfl
          obtain ⟨w, hrun, hR⟩ := x_to (d := d + 8) (t := 13) (q := 30 + 3 * a.toNat) hR kq_13 (kd_reg (r := a.toNat) (by omega)) (by omega) (by rw [eq2]; omega) (by rw [ev]; omega)
          rw [eq0, eq1, eq2, eq3, ev] at hR
          refine i_106_86 hobj (Nat.le_of_ble_eq_true rfl) hrun ?_
          refine i_106_89 (x := 7) l0 ?_
          refine i_106_90 (v := Value.ref 16) (hR.k0 kq_7) rfl ?_
          refine i_106_93 (x := 30 + 3 * a.toNat) l6 ?_
          have hobj := hR.k4 kq_16
          have ep : (u2 (u2 (u2 (u2 S 13 0 (S (30 + 3 * a.toNat) 0)) 13 1 (S (30 + 3 * a.toNat) 1)) 13 2 (S (30 + 3 * a.toNat) 2)) 13 3 (S (30 + 3 * a.toNat) 3)) (30 + 3 * a.toNat) 0 = S (30 + 3 * a.toNat) 0 := by rw [u2_eq, if_neg (fun e => absurd e.2 (by decide)), u2_eq, if_neg (fun e => absurd e.2 (by decide)), u2_eq, if_neg (fun e => absurd e.2 (by decide)), u2_eq, if_neg (fun e => absurd e.1 (by omega))]
          have en : (u2 (u2 (u2 (u2 S 13 0 (S (30 + 3 * a.toNat) 0)) 13 1 (S (30 + 3 * a.toNat) 1)) 13 2 (S (30 + 3 * a.toNat) 2)) 13 3 (S (30 + 3 * a.toNat) 3)) (30 + 3 * a.toNat) 2 = S (30 + 3 * a.toNat) 2 := by rw [u2_eq, if_neg (fun e => absurd e.2 (by decide)), u2_eq, if_neg (fun e => absurd e.1 (by omega)), u2_eq, if_neg (fun e => absurd e.2 (by decide)), u2_eq, if_neg (fun e => absurd e.2 (by decide))]
          have ex : (u2 (u2 (u2 (u2 S 13 0 (S (30 + 3 * a.toNat) 0)) 13 1 (S (30 + 3 * a.toNat) 1)) 13 2 (S (30 + 3 * a.toNat) 2)) 13 3 (S (30 + 3 * a.toNat) 3)) (30 + 3 * a.toNat) 3 = S (30 + 3 * a.toNat) 3 := by rw [u2_eq, if_neg (fun e => absurd e.1 (by omega)), u2_eq, if_neg (fun e => absurd e.2 (by decide)), u2_eq, if_neg (fun e => absurd e.2 (by decide)), u2_eq, if_neg (fun e => absurd e.2 (by decide))]
          have ev : (uv V 14 (V ((30 + 3 * a.toNat) + 1))) ((30 + 3 * a.toNat) + 1) = V ((30 + 3 * a.toNat) + 1) := (uv_n (by omega)).trans (rfl)
          obtain ⟨w, hrun, hR⟩ := x_tn (d := d + 8) (h := 16) (t := 30 + 3 * a.toNat) hR kq_16 (kd_reg (r := a.toNat) (by omega)) (by rw [en]; omega) (by rw [ev]; omega)
          rw [ep, en, ex, ev] at hR
          refine i_106_95 hobj (Nat.le_of_ble_eq_true rfl) hrun ?_
          refine i_106_98 (x := 7) l0 ?_
          refine i_106_99 (v := Value.ref 16) (hR.k0 kq_7) rfl ?_
          refine i_106_102 (x := Int32.ofInt way) l3 ?_
          refine i_106_103 ?_
          refine i_106_104 (b_ne (a := way) (b := 4) ⟨by omega, by omega⟩ ⟨by decide, by decide⟩ fun c3 => ?_) (b_eq (a := way) (b := 4) ⟨by omega, by omega⟩ ⟨by decide, by decide⟩ fun c3 => absurd c3 (by omega))
          refine i_106_111 (x := Int32.ofInt way) l3 ?_
          have hobj := hR.k4 kq_16
          have es : (u2 (u2 (u2 (u2 (u2 (u2 (u2 S 13 0 (S (30 + 3 * a.toNat) 0)) 13 1 (S (30 + 3 * a.toNat) 1)) 13 2 (S (30 + 3 * a.toNat) 2)) 13 3 (S (30 + 3 * a.toNat) 3)) 16 0 (S (30 + 3 * a.toNat) 2)) 16 2 ((S (30 + 3 * a.toNat) 3) - (S (30 + 3 * a.toNat) 0))) 16 3 0) 16 0 = S (30 + 3 * a.toNat) 2 := by rw [u2_eq, if_neg (fun e => absurd e.2 (by decide)), u2_eq, if_neg (fun e => absurd e.2 (by decide)), u2_eq, if_pos ⟨rfl, rfl⟩]
          have ec : (u2 (u2 (u2 (u2 (u2 (u2 (u2 S 13 0 (S (30 + 3 * a.toNat) 0)) 13 1 (S (30 + 3 * a.toNat) 1)) 13 2 (S (30 + 3 * a.toNat) 2)) 13 3 (S (30 + 3 * a.toNat) 3)) 16 0 (S (30 + 3 * a.toNat) 2)) 16 2 ((S (30 + 3 * a.toNat) 3) - (S (30 + 3 * a.toNat) 0))) 16 3 0) 16 2 = (S (30 + 3 * a.toNat) 3) - (S (30 + 3 * a.toNat) 0) := by rw [u2_eq, if_neg (fun e => absurd e.2 (by decide)), u2_eq, if_pos ⟨rfl, rfl⟩]
          have em : (u2 (u2 (u2 (u2 (u2 (u2 (u2 S 13 0 (S (30 + 3 * a.toNat) 0)) 13 1 (S (30 + 3 * a.toNat) 1)) 13 2 (S (30 + 3 * a.toNat) 2)) 13 3 (S (30 + 3 * a.toNat) 3)) 16 0 (S (30 + 3 * a.toNat) 2)) 16 2 ((S (30 + 3 * a.toNat) 3) - (S (30 + 3 * a.toNat) 0))) 16 3 0) 16 3 = 0 := by rw [u2_eq, if_pos ⟨rfl, rfl⟩]
          have ev : (uv (uv V 14 (V ((30 + 3 * a.toNat) + 1))) 17 (V ((30 + 3 * a.toNat) + 1))) 17 = V ((30 + 3 * a.toNat) + 1) := uv_s
          obtain ⟨w, hrun, hR⟩ := x_rtw (d := d + 7) (way := way) hR (by rw [es]; omega) (by rw [em]) (by omega) (by rw [ec]; omega) (by rw [ev]; omega)
          rw [es, ec, ev] at hR
          rw [if_neg (by omega)] at hrun
          have hrb := whM_bl (m := V (30 + 3 * a.toNat + 1)) (sc := S (30 + 3 * a.toNat) 3 - S (30 + 3 * a.toNat) 0) (sg := S (30 + 3 * a.toNat) 2) (way := way)
          have hrs : 0 ≤ rtiS (S (30 + 3 * a.toNat) 3 - S (30 + 3 * a.toNat) 0) ∧ rtiS (S (30 + 3 * a.toNat) 3 - S (30 + 3 * a.toNat) 0) ≤ 17000 := by unfold rtiS; split <;> omega
          obtain ⟨M, hM⟩ : ∃ M, M = whM (V (30 + 3 * a.toNat + 1)) (S (30 + 3 * a.toNat) 3 - S (30 + 3 * a.toNat) 0) (S (30 + 3 * a.toNat) 2) way := ⟨_, rfl⟩
          rw [← hM] at hR hrb
          rw [uvv] at hR
          refine i_106_112 hobj (Nat.le_of_ble_eq_true rfl) hrun ?_
          refine i_106_115 (x := 7) l0 ?_
          refine i_106_116 (v := Value.ref 78) (hR.k0 kq_7) rfl ?_
          refine i_106_119 (v := Value.int (Int32.ofInt ((u2 (u2 (u2 (u2 (u2 (u2 (u2 (u2 S 13 0 (S (30 + 3 * a.toNat) 0)) 13 1 (S (30 + 3 * a.toNat) 1)) 13 2 (S (30 + 3 * a.toNat) 2)) 13 3 (S (30 + 3 * a.toNat) 3)) 16 0 (S (30 + 3 * a.toNat) 2)) 16 2 ((S (30 + 3 * a.toNat) 3) - (S (30 + 3 * a.toNat) 0))) 16 3 0) 16 2 (rtiS ((S (30 + 3 * a.toNat) 3) - (S (30 + 3 * a.toNat) 0)))) 78 3))) (hR.k1 kq_78) rfl ?_
          rw [show Int32.ofInt ((u2 (u2 (u2 (u2 (u2 (u2 (u2 (u2 S 13 0 (S (30 + 3 * a.toNat) 0)) 13 1 (S (30 + 3 * a.toNat) 1)) 13 2 (S (30 + 3 * a.toNat) 2)) 13 3 (S (30 + 3 * a.toNat) 3)) 16 0 (S (30 + 3 * a.toNat) 2)) 16 2 ((S (30 + 3 * a.toNat) 3) - (S (30 + 3 * a.toNat) 0))) 16 3 0) 16 2 (rtiS ((S (30 + 3 * a.toNat) 3) - (S (30 + 3 * a.toNat) 0)))) 78 3) = Int32.ofInt (S 78 3) by rw [u2_eq, if_neg (fun e => absurd e.2 (by decide)), u2_eq, if_neg (fun e => absurd e.1 (by decide)), u2_eq, if_neg (fun e => absurd e.2 (by decide)), u2_eq, if_neg (fun e => absurd e.2 (by decide)), u2_eq, if_neg (fun e => absurd e.1 (by decide)), u2_eq, if_neg (fun e => absurd e.2 (by decide)), u2_eq, if_neg (fun e => absurd e.2 (by decide)), u2_eq, if_neg (fun e => absurd e.2 (by decide))]]
          refine i_106_122 ?_
          refine i_106_123 (c := Int32.ofInt (zand (S 78 3) (1))) (o_and (S 78 3) (1)) ?_
          refine i_106_124 rfl ?_
          refine lgen1 (i := 7) (v := Value.int (Int32.ofInt (zand (S 78 3) (1)))) (fun lv lg ls => ?_)
          replace l6 := lg 6 _ rfl rfl l6
          replace l5 := lg 5 _ rfl rfl l5
          replace l0 := lg 0 _ rfl rfl l0
          replace l1 := lg 1 _ rfl rfl l1
          replace l2 := lg 2 _ rfl rfl l2
          replace l3 := lg 3 _ rfl rfl l3
          replace l4 := lg 4 _ rfl rfl l4
          have l7 := ls
          refine i_106_126 (x := 7) l0 ?_
          refine i_106_127 (v := Value.ref 16) (hR.k0 kq_7) rfl ?_
          refine i_106_130 (v := Value.ref 17) (hR.k4 kq_16) rfl ?_
          obtain ⟨a5, hsz, hz5⟩ := hR.size (h := 17) (u := M) kq_17 (uv_s)
          refine i_106_133 (v := Value.int (Int32.ofInt (((xbl M + 31) / 32 : Nat) : Int))) hsz rfl ?_
          refine i_106_136 (z_ne (a := (((xbl M + 31) / 32 : Nat) : Int)) ⟨by omega, by omega⟩ fun c5 => ?_) (z_eq (a := (((xbl M + 31) / 32 : Nat) : Int)) ⟨by omega, by omega⟩ fun c5 => ?_)
          · refine i_106_155 (x := 7) l0 ?_
            refine i_106_156 (v := Value.ref 78) (hR.k0 kq_7) rfl ?_
            refine i_106_159 (x := 30 + 3 * r.toNat) l5 ?_
            refine i_106_161 (x := 7) l0 ?_
            refine i_106_162 (v := Value.ref 16) (hR.k0 kq_7) rfl ?_
            refine i_106_165 (x := Int32.ofInt mode) l4 ?_
            have hobj := hR.k1 kq_78
            have ep : (u2 (u2 (u2 (u2 (u2 (u2 (u2 (u2 S 13 0 (S (30 + 3 * a.toNat) 0)) 13 1 (S (30 + 3 * a.toNat) 1)) 13 2 (S (30 + 3 * a.toNat) 2)) 13 3 (S (30 + 3 * a.toNat) 3)) 16 0 (S (30 + 3 * a.toNat) 2)) 16 2 ((S (30 + 3 * a.toNat) 3) - (S (30 + 3 * a.toNat) 0))) 16 3 0) 16 2 (rtiS ((S (30 + 3 * a.toNat) 3) - (S (30 + 3 * a.toNat) 0)))) (30 + 3 * r.toNat) 0 = S (30 + 3 * r.toNat) 0 := by rw [u2_eq, if_neg (fun e => absurd e.2 (by decide)), u2_eq, if_neg (fun e => absurd e.2 (by decide)), u2_eq, if_neg (fun e => absurd e.2 (by decide)), u2_eq, if_neg (fun e => absurd e.1 (by omega)), u2_eq, if_neg (fun e => absurd e.2 (by decide)), u2_eq, if_neg (fun e => absurd e.2 (by decide)), u2_eq, if_neg (fun e => absurd e.2 (by decide)), u2_eq, if_neg (fun e => absurd e.1 (by omega))]
            have el : (u2 (u2 (u2 (u2 (u2 (u2 (u2 (u2 S 13 0 (S (30 + 3 * a.toNat) 0)) 13 1 (S (30 + 3 * a.toNat) 1)) 13 2 (S (30 + 3 * a.toNat) 2)) 13 3 (S (30 + 3 * a.toNat) 3)) 16 0 (S (30 + 3 * a.toNat) 2)) 16 2 ((S (30 + 3 * a.toNat) 3) - (S (30 + 3 * a.toNat) 0))) 16 3 0) 16 2 (rtiS ((S (30 + 3 * a.toNat) 3) - (S (30 + 3 * a.toNat) 0)))) 78 0 = S 78 0 := by rw [u2_eq, if_neg (fun e => absurd e.2 (by decide)), u2_eq, if_neg (fun e => absurd e.2 (by decide)), u2_eq, if_neg (fun e => absurd e.2 (by decide)), u2_eq, if_neg (fun e => absurd e.1 (by decide)), u2_eq, if_neg (fun e => absurd e.2 (by decide)), u2_eq, if_neg (fun e => absurd e.2 (by decide)), u2_eq, if_neg (fun e => absurd e.2 (by decide)), u2_eq, if_neg (fun e => absurd e.1 (by decide))]
            have eg : (u2 (u2 (u2 (u2 (u2 (u2 (u2 (u2 S 13 0 (S (30 + 3 * a.toNat) 0)) 13 1 (S (30 + 3 * a.toNat) 1)) 13 2 (S (30 + 3 * a.toNat) 2)) 13 3 (S (30 + 3 * a.toNat) 3)) 16 0 (S (30 + 3 * a.toNat) 2)) 16 2 ((S (30 + 3 * a.toNat) 3) - (S (30 + 3 * a.toNat) 0))) 16 3 0) 16 2 (rtiS ((S (30 + 3 * a.toNat) 3) - (S (30 + 3 * a.toNat) 0)))) 78 1 = S 78 1 := by rw [u2_eq, if_neg (fun e => absurd e.2 (by decide)), u2_eq, if_neg (fun e => absurd e.2 (by decide)), u2_eq, if_neg (fun e => absurd e.2 (by decide)), u2_eq, if_neg (fun e => absurd e.2 (by decide)), u2_eq, if_neg (fun e => absurd e.2 (by decide)), u2_eq, if_neg (fun e => absurd e.2 (by decide)), u2_eq, if_neg (fun e => absurd e.1 (by decide)), u2_eq, if_neg (fun e => absurd e.2 (by decide))]
            have ed : (u2 (u2 (u2 (u2 (u2 (u2 (u2 (u2 S 13 0 (S (30 + 3 * a.toNat) 0)) 13 1 (S (30 + 3 * a.toNat) 1)) 13 2 (S (30 + 3 * a.toNat) 2)) 13 3 (S (30 + 3 * a.toNat) 3)) 16 0 (S (30 + 3 * a.toNat) 2)) 16 2 ((S (30 + 3 * a.toNat) 3) - (S (30 + 3 * a.toNat) 0))) 16 3 0) 16 2 (rtiS ((S (30 + 3 * a.toNat) 3) - (S (30 + 3 * a.toNat) 0)))) 78 2 = S 78 2 := by rw [u2_eq, if_neg (fun e => absurd e.1 (by decide)), u2_eq, if_neg (fun e => absurd e.2 (by decide)), u2_eq, if_neg (fun e => absurd e.1 (by decide)), u2_eq, if_neg (fun e => absurd e.2 (by decide)), u2_eq, if_neg (fun e => absurd e.2 (by decide)), u2_eq, if_neg (fun e => absurd e.1 (by decide)), u2_eq, if_neg (fun e => absurd e.2 (by decide)), u2_eq, if_neg (fun e => absurd e.2 (by decide))]
            have ef : (u2 (u2 (u2 (u2 (u2 (u2 (u2 (u2 S 13 0 (S (30 + 3 * a.toNat) 0)) 13 1 (S (30 + 3 * a.toNat) 1)) 13 2 (S (30 + 3 * a.toNat) 2)) 13 3 (S (30 + 3 * a.toNat) 3)) 16 0 (S (30 + 3 * a.toNat) 2)) 16 2 ((S (30 + 3 * a.toNat) 3) - (S (30 + 3 * a.toNat) 0))) 16 3 0) 16 2 (rtiS ((S (30 + 3 * a.toNat) 3) - (S (30 + 3 * a.toNat) 0)))) 78 3 = S 78 3 := by rw [u2_eq, if_neg (fun e => absurd e.2 (by decide)), u2_eq, if_neg (fun e => absurd e.1 (by decide)), u2_eq, if_neg (fun e => absurd e.2 (by decide)), u2_eq, if_neg (fun e => absurd e.2 (by decide)), u2_eq, if_neg (fun e => absurd e.1 (by decide)), u2_eq, if_neg (fun e => absurd e.2 (by decide)), u2_eq, if_neg (fun e => absurd e.2 (by decide)), u2_eq, if_neg (fun e => absurd e.2 (by decide))]
            have es : (u2 (u2 (u2 (u2 (u2 (u2 (u2 (u2 S 13 0 (S (30 + 3 * a.toNat) 0)) 13 1 (S (30 + 3 * a.toNat) 1)) 13 2 (S (30 + 3 * a.toNat) 2)) 13 3 (S (30 + 3 * a.toNat) 3)) 16 0 (S (30 + 3 * a.toNat) 2)) 16 2 ((S (30 + 3 * a.toNat) 3) - (S (30 + 3 * a.toNat) 0))) 16 3 0) 16 2 (rtiS ((S (30 + 3 * a.toNat) 3) - (S (30 + 3 * a.toNat) 0)))) 16 0 = S (30 + 3 * a.toNat) 2 := by rw [u2_eq, if_neg (fun e => absurd e.2 (by decide)), u2_eq, if_neg (fun e => absurd e.2 (by decide)), u2_eq, if_neg (fun e => absurd e.2 (by decide)), u2_eq, if_pos ⟨rfl, rfl⟩]
            have ec : (u2 (u2 (u2 (u2 (u2 (u2 (u2 (u2 S 13 0 (S (30 + 3 * a.toNat) 0)) 13 1 (S (30 + 3 * a.toNat) 1)) 13 2 (S (30 + 3 * a.toNat) 2)) 13 3 (S (30 + 3 * a.toNat) 3)) 16 0 (S (30 + 3 * a.toNat) 2)) 16 2 ((S (30 + 3 * a.toNat) 3) - (S (30 + 3 * a.toNat) 0))) 16 3 0) 16 2 (rtiS ((S (30 + 3 * a.toNat) 3) - (S (30 + 3 * a.toNat) 0)))) 16 2 = rtiS ((S (30 + 3 * a.toNat) 3) - (S (30 + 3 * a.toNat) 0)) := by rw [u2_eq, if_pos ⟨rfl, rfl⟩]
            have em : (u2 (u2 (u2 (u2 (u2 (u2 (u2 (u2 S 13 0 (S (30 + 3 * a.toNat) 0)) 13 1 (S (30 + 3 * a.toNat) 1)) 13 2 (S (30 + 3 * a.toNat) 2)) 13 3 (S (30 + 3 * a.toNat) 3)) 16 0 (S (30 + 3 * a.toNat) 2)) 16 2 ((S (30 + 3 * a.toNat) 3) - (S (30 + 3 * a.toNat) 0))) 16 3 0) 16 2 (rtiS ((S (30 + 3 * a.toNat) 3) - (S (30 + 3 * a.toNat) 0)))) 16 3 = 0 := by rw [u2_eq, if_neg (fun e => absurd e.2 (by decide)), u2_eq, if_pos ⟨rfl, rfl⟩]
            have ev : (uv (uv V 14 (V ((30 + 3 * a.toNat) + 1))) 17 M) 17 = M := uv_s
            obtain ⟨w, hrun, S7, V7, hR, hP⟩ := x_settle (d := d + 3) (g := 78) (t := 30 + 3 * r.toNat) (h := 16) (mode := mode) hR kq_78 (kd_reg (r := r.toNat) (by omega)) kq_16 (by rw [ep]; omega) (by rw [es]; first | omega | exact bb_01 _) (by rw [em]; omega) (by omega) (by rw [ev]; exact fun e => ‹(((xbl M + 31) / 32 : Nat) : Int) ≠ 0› (by rw [e, xbl_zero]; rfl)) (by rw [ev]; omega) (by rw [ec]; omega) (by rw [el, eg]; omega) (by rw [ed]; omega) (by rw [ep, el, ed, ev, ec, em]; exact fun _ _ => Or.inl rfl)
            rw [ep, el, eg, ed, ef, es, ec, em, ev] at hrun hP
            refine i_106_167 hobj (Nat.le_of_ble_eq_true rfl) hrun ?_
            refine i_106_170 rfl ?_
            refine i_106_171 (x := 30 + 3 * r.toNat) l5 ?_
            refine i_106_173 (x := 7) l0 ?_
            refine i_106_174 (v := Value.ref 13) (hR.k0 kq_7) rfl ?_
            have eq1 : S7 13 1 = 3 := by rw [hP.2.2.2.2.1 13 1 (by omega) (by omega)]; rw [u2_eq, if_neg (fun e => absurd e.2 (by decide)), u2_eq, if_neg (fun e => absurd e.2 (by decide)), u2_eq, if_neg (fun e => absurd e.2 (by decide)), u2_eq, if_neg (fun e => absurd e.2 (by decide)), u2_eq, if_neg (fun e => absurd e.2 (by decide)), u2_eq, if_neg (fun e => absurd e.2 (by decide)), u2_eq, if_pos ⟨rfl, rfl⟩]; omega
            have eq2 : S7 13 2 = S (30 + 3 * a.toNat) 2 := by rw [hP.2.2.2.2.1 13 2 (by omega) (by omega)]; rw [u2_eq, if_neg (fun e => absurd e.1 (by decide)), u2_eq, if_neg (fun e => absurd e.2 (by decide)), u2_eq, if_neg (fun e => absurd e.1 (by decide)), u2_eq, if_neg (fun e => absurd e.2 (by decide)), u2_eq, if_neg (fun e => absurd e.2 (by decide)), u2_eq, if_pos ⟨rfl, rfl⟩]
            have eq3 : S7 13 3 = S (30 + 3 * a.toNat) 3 := by rw [hP.2.2.2.2.1 13 3 (by omega) (by omega)]; rw [u2_eq, if_neg (fun e => absurd e.2 (by decide)), u2_eq, if_neg (fun e => absurd e.1 (by decide)), u2_eq, if_neg (fun e => absurd e.2 (by decide)), u2_eq, if_neg (fun e => absurd e.2 (by decide)), u2_eq, if_pos ⟨rfl, rfl⟩]
            have ev : V7 14 = V (30 + 3 * a.toNat + 1) := by rw [hP.2.2.2.2.2 14 (by omega)]; exact (uv_n (by omega)).trans (uv_s)
            have hok := rnd_ok (p := S (30 + 3 * r.toNat) 0) (least := S 78 0) (greatest := S 78 1) (gradual := S 78 2) (sg := S (30 + 3 * a.toNat) 2) (mode := mode) (more := 0) (e := rtiS (S (30 + 3 * a.toNat) 3 - S (30 + 3 * a.toNat) 0)) (f := S 78 3) (m := M) hp_r hi_l
            have hrun := x_ord3 (d := d + 9) (t := 30 + 3 * r.toNat) (q := 13) hR (kd_reg (r := r.toNat) (by omega)) kq_13 (by rw [hP.1]; exact hok.1) (by rw [hP.2.1]; omega) (by rw [hP.1]; exact if g3 : (rnd (S (30 + 3 * r.toNat) 0) (S 78 0) (S 78 1) (S 78 2) 0 (S (30 + 3 * a.toNat) 2) mode 0 M (rtiS (S (30 + 3 * a.toNat) 3 - S (30 + 3 * a.toNat) 0)) (S 78 3)).1 = 3 then Or.inr (by rw [(hP.2.2.1 g3).1]; have := hok.2.1.resolve_left (fun e => e g3); omega) else Or.inl g3) eq1 (by rw [eq2]; omega) (by rw [eq3]; omega)
            rw [hP.1, hP.2.1, eq1, eq2, eq3, ev, ordR_n (e' := (rnd (S (30 + 3 * r.toNat) 0) (S 78 0) (S 78 1) (S 78 2) 0 (S (30 + 3 * a.toNat) 2) mode 0 M (rtiS (S (30 + 3 * a.toNat) 3 - S (30 + 3 * a.toNat) 0)) (S 78 3)).2.1) (m' := (rnd (S (30 + 3 * r.toNat) 0) (S 78 0) (S 78 1) (S 78 2) 0 (S (30 + 3 * a.toNat) 2) mode 0 M (rtiS (S (30 + 3 * a.toNat) 3 - S (30 + 3 * a.toNat) 0)) (S 78 3)).2.2.1) hok.1 hP.2.2.1] at hrun
            obtain ⟨tw, htw⟩ : ∃ t : Int, t = ordR (rnd (S (30 + 3 * r.toNat) 0) (S 78 0) (S 78 1) (S 78 2) 0 (S (30 + 3 * a.toNat) 2) mode 0 M (rtiS (S (30 + 3 * a.toNat) 3 - S (30 + 3 * a.toNat) 0)) (S 78 3)).1 (S (30 + 3 * a.toNat) 2) (rnd (S (30 + 3 * r.toNat) 0) (S 78 0) (S 78 1) (S 78 2) 0 (S (30 + 3 * a.toNat) 2) mode 0 M (rtiS (S (30 + 3 * a.toNat) 3 - S (30 + 3 * a.toNat) 0)) (S 78 3)).2.1 (rnd (S (30 + 3 * r.toNat) 0) (S 78 0) (S 78 1) (S 78 2) 0 (S (30 + 3 * a.toNat) 2) mode 0 M (rtiS (S (30 + 3 * a.toNat) 3 - S (30 + 3 * a.toNat) 0)) (S 78 3)).2.2.1 3 (S (30 + 3 * a.toNat) 2) (S (30 + 3 * a.toNat) 3) (V (30 + 3 * a.toNat + 1)) := ⟨_, rfl⟩
            rw [← htw] at hrun
            have htb : -1 ≤ tw ∧ tw ≤ 1 := by rw [htw]; exact ordR_b
            refine i_106_177 (Nat.le_of_ble_eq_true rfl) hrun ?_
            refine i_106_180 rfl ?_
            refine lgen1 (i := 8) (v := Value.int (Int32.ofInt tw)) (fun lv lg ls => ?_)
            replace l7 := lg 7 _ rfl rfl l7
            replace l6 := lg 6 _ rfl rfl l6
            replace l5 := lg 5 _ rfl rfl l5
            replace l0 := lg 0 _ rfl rfl l0
            replace l1 := lg 1 _ rfl rfl l1
            replace l2 := lg 2 _ rfl rfl l2
            replace l3 := lg 3 _ rfl rfl l3
            replace l4 := lg 4 _ rfl rfl l4
            have l8 := ls
            refine i_106_182 (x := 7) l0 ?_
            refine i_106_183 (v := Value.ref 78) (hR.k0 kq_7) rfl ?_
            refine i_106_186 (x := 7) l0 ?_
            refine i_106_187 (v := Value.ref 78) (hR.k0 kq_7) rfl ?_
            refine i_106_190 (v := Value.int (Int32.ofInt (S7 78 3))) (hR.k1 kq_78) rfl ?_
            refine i_106_193 ?_
            refine i_106_195 (c := Int32.ofInt (zand (S7 78 3) ((-2)))) ((congrArg (Int32.ofInt (S7 78 3) &&& ·) (show (-2 : Int32) = Int32.ofInt (-2) by decide)).trans (o_and (S7 78 3) ((-2)))) ?_
            refine i_106_196 (x := Int32.ofInt (zand (S 78 3) (1))) l7 ?_
            refine i_106_198 (c := Int32.ofInt (zor (zand (S7 78 3) ((-2))) (zand (S 78 3) (1)))) (o_or (zand (S7 78 3) ((-2))) (zand (S 78 3) (1))) ?_
            refine i_106_199 (x := Int32.ofInt tw) l8 ?_
            refine i_106_201 (z_ne (a := tw) ⟨by omega, by omega⟩ fun c7 => ?_) (z_eq (a := tw) ⟨by omega, by omega⟩ fun c7 => ?_)
            · refine i_106_208 ?_
              refine i_106_209 (c := Int32.ofInt (zor (zor (zand (S7 78 3) ((-2))) (zand (S 78 3) (1))) 1)) (o_or (zor (zand (S7 78 3) ((-2))) (zand (S 78 3) (1))) 1) ?_
              refine i_106_210 (fs2 := f1 (u1 (S7 78) 3 (zor (zor (zand (S7 78 3) ((-2))) (zand (S 78 3) (1))) 1))) (hR.k1 kq_78) (Nat.le_of_ble_eq_true rfl) rfl (h7k kq_78 (by decide)) ?_
              refine xgen (P := cX w0 L Z (u2 S7 78 3 (zor (zor (zand (S7 78 3) ((-2))) (zand (S 78 3) (1))) 1)) V7) (hR.p1 kq_78) (fun w hR => ?_)
              refine i_106_213 (x := Int32.ofInt tw) l8 ?_
              refine i_106_215 ?_
              have hcM := ‹(((xbl M + 31) / 32 : Nat) : Int) ≠ 0›
              have hM0 : M ≠ 0 := fun e => hcM (by rw [e, xbl_zero]; rfl)
              have eo : sWhC (vS S) (vV V) r.toNat a.toNat way mode = whO (oR (S (30 + 3 * r.toNat) 0) (S 78 0) (S 78 1) (S 78 2) (S (30 + 3 * a.toNat) 2) mode 0 M (rtiS ((S (30 + 3 * a.toNat) 3) - (S (30 + 3 * a.toNat) 0))) (S 78 3)) (S (30 + 3 * a.toNat) 2) (S 78 3) (S (30 + 3 * a.toNat) 3) (V (30 + 3 * a.toNat + 1)) := by rw [sWhC_v, if_neg (by omega), if_neg (by rw [← hM]; exact hM0), ← hM]
              have hf : zor (zor (zand (S7 78 3) ((-2))) (zand (S 78 3) (1))) 1 = whF (S 78 3) (oR (S (30 + 3 * r.toNat) 0) (S 78 0) (S 78 1) (S 78 2) (S (30 + 3 * a.toNat) 2) mode 0 M (rtiS ((S (30 + 3 * a.toNat) 3) - (S (30 + 3 * a.toNat) 0))) (S 78 3)).2.2.2.2.2 (whT (oR (S (30 + 3 * r.toNat) 0) (S 78 0) (S 78 1) (S 78 2) (S (30 + 3 * a.toNat) 2) mode 0 M (rtiS ((S (30 + 3 * a.toNat) 3) - (S (30 + 3 * a.toNat) 0))) (S 78 3)) (S (30 + 3 * a.toNat) 2) (S (30 + 3 * a.toNat) 3) (V (30 + 3 * a.toNat + 1))) := by unfold whF; rw [show whT (oR (S (30 + 3 * r.toNat) 0) (S 78 0) (S 78 1) (S 78 2) (S (30 + 3 * a.toNat) 2) mode 0 M (rtiS ((S (30 + 3 * a.toNat) 3) - (S (30 + 3 * a.toNat) 0))) (S 78 3)) (S (30 + 3 * a.toNat) 2) (S (30 + 3 * a.toNat) 3) (V (30 + 3 * a.toNat + 1)) = tw from htw.symm, if_neg (by omega), hP.2.2.2.1]; rfl
              rw [eo]
              refine ⟨congrArg (fun z => Sum.inl (some (Value.int (Int32.ofInt z)))) (show tw = (whO (oR (S (30 + 3 * r.toNat) 0) (S 78 0) (S 78 1) (S 78 2) (S (30 + 3 * a.toNat) 2) mode 0 M (rtiS ((S (30 + 3 * a.toNat) 3) - (S (30 + 3 * a.toNat) 0))) (S 78 3)) (S (30 + 3 * a.toNat) 2) (S 78 3) (S (30 + 3 * a.toNat) 3) (V (30 + 3 * a.toNat + 1))).2.2.2.2.1 from htw), _, _, hR, ?_⟩
              rw [hf]
              exact cOut_wh (cP_round hP (by omega) (nC.up (nC.up (nC.up (nC.up (nC.up (nC.up (nC.up (nC.up nC.refl (by unfold cKeep; omega) (by omega)) (by unfold cKeep; omega) (by omega)) (by unfold cKeep; omega) (by omega)) (by unfold cKeep; omega) (by omega)) (by unfold cKeep; omega) (by omega)) (by unfold cKeep; omega) (by omega)) (by unfold cKeep; omega) (by omega)) (by unfold cKeep; omega) (by omega)) (nW.up (nW.up nW.refl (by omega)) (by omega)) (by omega)) hP.2.1 (fun e => by have h9 := hok.1.1; rw [show (rnd (S (30 + 3 * r.toNat) 0) (S 78 0) (S 78 1) (S 78 2) 0 (S (30 + 3 * a.toNat) 2) mode 0 M (rtiS (S (30 + 3 * a.toNat) 3 - S (30 + 3 * a.toNat) 0)) (S 78 3)).1 = 0 from e] at h9; omega) (by omega)
            · refine i_106_204 ?_
              refine i_106_205 ?_
              refine i_106_209 (c := Int32.ofInt (zor (zor (zand (S7 78 3) ((-2))) (zand (S 78 3) (1))) 0)) (o_or (zor (zand (S7 78 3) ((-2))) (zand (S 78 3) (1))) 0) ?_
              refine i_106_210 (fs2 := f1 (u1 (S7 78) 3 (zor (zor (zand (S7 78 3) ((-2))) (zand (S 78 3) (1))) 0))) (hR.k1 kq_78) (Nat.le_of_ble_eq_true rfl) rfl (h7k kq_78 (by decide)) ?_
              refine xgen (P := cX w0 L Z (u2 S7 78 3 (zor (zor (zand (S7 78 3) ((-2))) (zand (S 78 3) (1))) 0)) V7) (hR.p1 kq_78) (fun w hR => ?_)
              refine i_106_213 (x := Int32.ofInt tw) l8 ?_
              refine i_106_215 ?_
              have hcM := ‹(((xbl M + 31) / 32 : Nat) : Int) ≠ 0›
              have hM0 : M ≠ 0 := fun e => hcM (by rw [e, xbl_zero]; rfl)
              have eo : sWhC (vS S) (vV V) r.toNat a.toNat way mode = whO (oR (S (30 + 3 * r.toNat) 0) (S 78 0) (S 78 1) (S 78 2) (S (30 + 3 * a.toNat) 2) mode 0 M (rtiS ((S (30 + 3 * a.toNat) 3) - (S (30 + 3 * a.toNat) 0))) (S 78 3)) (S (30 + 3 * a.toNat) 2) (S 78 3) (S (30 + 3 * a.toNat) 3) (V (30 + 3 * a.toNat + 1)) := by rw [sWhC_v, if_neg (by omega), if_neg (by rw [← hM]; exact hM0), ← hM]
              have hf : zor (zor (zand (S7 78 3) ((-2))) (zand (S 78 3) (1))) 0 = whF (S 78 3) (oR (S (30 + 3 * r.toNat) 0) (S 78 0) (S 78 1) (S 78 2) (S (30 + 3 * a.toNat) 2) mode 0 M (rtiS ((S (30 + 3 * a.toNat) 3) - (S (30 + 3 * a.toNat) 0))) (S 78 3)).2.2.2.2.2 (whT (oR (S (30 + 3 * r.toNat) 0) (S 78 0) (S 78 1) (S 78 2) (S (30 + 3 * a.toNat) 2) mode 0 M (rtiS ((S (30 + 3 * a.toNat) 3) - (S (30 + 3 * a.toNat) 0))) (S 78 3)) (S (30 + 3 * a.toNat) 2) (S (30 + 3 * a.toNat) 3) (V (30 + 3 * a.toNat + 1))) := by unfold whF; rw [show whT (oR (S (30 + 3 * r.toNat) 0) (S 78 0) (S 78 1) (S 78 2) (S (30 + 3 * a.toNat) 2) mode 0 M (rtiS ((S (30 + 3 * a.toNat) 3) - (S (30 + 3 * a.toNat) 0))) (S 78 3)) (S (30 + 3 * a.toNat) 2) (S (30 + 3 * a.toNat) 3) (V (30 + 3 * a.toNat + 1)) = tw from htw.symm, if_pos (by omega), hP.2.2.2.1]; rfl
              rw [eo]
              refine ⟨congrArg (fun z => Sum.inl (some (Value.int (Int32.ofInt z)))) (show tw = (whO (oR (S (30 + 3 * r.toNat) 0) (S 78 0) (S 78 1) (S 78 2) (S (30 + 3 * a.toNat) 2) mode 0 M (rtiS ((S (30 + 3 * a.toNat) 3) - (S (30 + 3 * a.toNat) 0))) (S 78 3)) (S (30 + 3 * a.toNat) 2) (S 78 3) (S (30 + 3 * a.toNat) 3) (V (30 + 3 * a.toNat + 1))).2.2.2.2.1 from htw), _, _, hR, ?_⟩
              rw [hf]
              exact cOut_wh (cP_round hP (by omega) (nC.up (nC.up (nC.up (nC.up (nC.up (nC.up (nC.up (nC.up nC.refl (by unfold cKeep; omega) (by omega)) (by unfold cKeep; omega) (by omega)) (by unfold cKeep; omega) (by omega)) (by unfold cKeep; omega) (by omega)) (by unfold cKeep; omega) (by omega)) (by unfold cKeep; omega) (by omega)) (by unfold cKeep; omega) (by omega)) (by unfold cKeep; omega) (by omega)) (nW.up (nW.up nW.refl (by omega)) (by omega)) (by omega)) hP.2.1 (fun e => by have h9 := hok.1.1; rw [show (rnd (S (30 + 3 * r.toNat) 0) (S 78 0) (S 78 1) (S 78 2) 0 (S (30 + 3 * a.toNat) 2) mode 0 M (rtiS (S (30 + 3 * a.toNat) 3 - S (30 + 3 * a.toNat) 0)) (S 78 3)).1 = 0 from e] at h9; omega) (by omega)
          · refine i_106_139 (x := 30 + 3 * r.toNat) l5 ?_
            refine i_106_141 (x := 7) l0 ?_
            refine i_106_142 (v := Value.ref 16) (hR.k0 kq_7) rfl ?_
            refine i_106_145 (v := Value.int (Int32.ofInt ((u2 (u2 (u2 (u2 (u2 (u2 (u2 (u2 S 13 0 (S (30 + 3 * a.toNat) 0)) 13 1 (S (30 + 3 * a.toNat) 1)) 13 2 (S (30 + 3 * a.toNat) 2)) 13 3 (S (30 + 3 * a.toNat) 3)) 16 0 (S (30 + 3 * a.toNat) 2)) 16 2 ((S (30 + 3 * a.toNat) 3) - (S (30 + 3 * a.toNat) 0))) 16 3 0) 16 2 (rtiS ((S (30 + 3 * a.toNat) 3) - (S (30 + 3 * a.toNat) 0)))) 16 0))) (hR.k4 kq_16) rfl ?_
            rw [show Int32.ofInt ((u2 (u2 (u2 (u2 (u2 (u2 (u2 (u2 S 13 0 (S (30 + 3 * a.toNat) 0)) 13 1 (S (30 + 3 * a.toNat) 1)) 13 2 (S (30 + 3 * a.toNat) 2)) 13 3 (S (30 + 3 * a.toNat) 3)) 16 0 (S (30 + 3 * a.toNat) 2)) 16 2 ((S (30 + 3 * a.toNat) 3) - (S (30 + 3 * a.toNat) 0))) 16 3 0) 16 2 (rtiS ((S (30 + 3 * a.toNat) 3) - (S (30 + 3 * a.toNat) 0)))) 16 0) = Int32.ofInt (S (30 + 3 * a.toNat) 2) by rw [u2_eq, if_neg (fun e => absurd e.2 (by decide)), u2_eq, if_neg (fun e => absurd e.2 (by decide)), u2_eq, if_neg (fun e => absurd e.2 (by decide)), u2_eq, if_pos ⟨rfl, rfl⟩]]
            have hobj := hR.k2 (kd_reg (r := r.toNat) (by omega))
            obtain ⟨w, hrun, hR⟩ := x_zero (d := d + 11) (t := 30 + 3 * r.toNat) (sg := S (30 + 3 * a.toNat) 2) hR (kd_reg (r := r.toNat) (by omega)) (by first | omega | exact bb_01 _)
            refine i_106_148 hobj (Nat.le_of_ble_eq_true rfl) hrun ?_
            refine i_106_151 rfl ?_
            refine i_106_152 ?_
            refine i_106_171 (x := 30 + 3 * r.toNat) l5 ?_
            refine i_106_173 (x := 7) l0 ?_
            refine i_106_174 (v := Value.ref 13) (hR.k0 kq_7) rfl ?_
            have eq0 : (u2 (u2 (u2 (u2 (u2 (u2 (u2 (u2 (u2 (u2 S 13 0 (S (30 + 3 * a.toNat) 0)) 13 1 (S (30 + 3 * a.toNat) 1)) 13 2 (S (30 + 3 * a.toNat) 2)) 13 3 (S (30 + 3 * a.toNat) 3)) 16 0 (S (30 + 3 * a.toNat) 2)) 16 2 ((S (30 + 3 * a.toNat) 3) - (S (30 + 3 * a.toNat) 0))) 16 3 0) 16 2 (rtiS ((S (30 + 3 * a.toNat) 3) - (S (30 + 3 * a.toNat) 0)))) (30 + 3 * r.toNat) 1 2) (30 + 3 * r.toNat) 2 (S (30 + 3 * a.toNat) 2)) 13 0 = S (30 + 3 * a.toNat) 0 := by rw [u2_eq, if_neg (fun e => absurd e.2 (by decide)), u2_eq, if_neg (fun e => absurd e.2 (by decide)), u2_eq, if_neg (fun e => absurd e.2 (by decide)), u2_eq, if_neg (fun e => absurd e.2 (by decide)), u2_eq, if_neg (fun e => absurd e.2 (by decide)), u2_eq, if_neg (fun e => absurd e.1 (by decide)), u2_eq, if_neg (fun e => absurd e.2 (by decide)), u2_eq, if_neg (fun e => absurd e.2 (by decide)), u2_eq, if_neg (fun e => absurd e.2 (by decide)), u2_eq, if_pos ⟨rfl, rfl⟩]
            have eq1 : (u2 (u2 (u2 (u2 (u2 (u2 (u2 (u2 (u2 (u2 S 13 0 (S (30 + 3 * a.toNat) 0)) 13 1 (S (30 + 3 * a.toNat) 1)) 13 2 (S (30 + 3 * a.toNat) 2)) 13 3 (S (30 + 3 * a.toNat) 3)) 16 0 (S (30 + 3 * a.toNat) 2)) 16 2 ((S (30 + 3 * a.toNat) 3) - (S (30 + 3 * a.toNat) 0))) 16 3 0) 16 2 (rtiS ((S (30 + 3 * a.toNat) 3) - (S (30 + 3 * a.toNat) 0)))) (30 + 3 * r.toNat) 1 2) (30 + 3 * r.toNat) 2 (S (30 + 3 * a.toNat) 2)) 13 1 = S (30 + 3 * a.toNat) 1 := by rw [u2_eq, if_neg (fun e => absurd e.2 (by decide)), u2_eq, if_neg (fun e => absurd e.1 (by omega)), u2_eq, if_neg (fun e => absurd e.2 (by decide)), u2_eq, if_neg (fun e => absurd e.2 (by decide)), u2_eq, if_neg (fun e => absurd e.2 (by decide)), u2_eq, if_neg (fun e => absurd e.2 (by decide)), u2_eq, if_neg (fun e => absurd e.2 (by decide)), u2_eq, if_neg (fun e => absurd e.2 (by decide)), u2_eq, if_pos ⟨rfl, rfl⟩]
            have eq2 : (u2 (u2 (u2 (u2 (u2 (u2 (u2 (u2 (u2 (u2 S 13 0 (S (30 + 3 * a.toNat) 0)) 13 1 (S (30 + 3 * a.toNat) 1)) 13 2 (S (30 + 3 * a.toNat) 2)) 13 3 (S (30 + 3 * a.toNat) 3)) 16 0 (S (30 + 3 * a.toNat) 2)) 16 2 ((S (30 + 3 * a.toNat) 3) - (S (30 + 3 * a.toNat) 0))) 16 3 0) 16 2 (rtiS ((S (30 + 3 * a.toNat) 3) - (S (30 + 3 * a.toNat) 0)))) (30 + 3 * r.toNat) 1 2) (30 + 3 * r.toNat) 2 (S (30 + 3 * a.toNat) 2)) 13 2 = S (30 + 3 * a.toNat) 2 := by rw [u2_eq, if_neg (fun e => absurd e.1 (by omega)), u2_eq, if_neg (fun e => absurd e.2 (by decide)), u2_eq, if_neg (fun e => absurd e.1 (by decide)), u2_eq, if_neg (fun e => absurd e.2 (by decide)), u2_eq, if_neg (fun e => absurd e.1 (by decide)), u2_eq, if_neg (fun e => absurd e.2 (by decide)), u2_eq, if_neg (fun e => absurd e.2 (by decide)), u2_eq, if_pos ⟨rfl, rfl⟩]
            have eq3 : (u2 (u2 (u2 (u2 (u2 (u2 (u2 (u2 (u2 (u2 S 13 0 (S (30 + 3 * a.toNat) 0)) 13 1 (S (30 + 3 * a.toNat) 1)) 13 2 (S (30 + 3 * a.toNat) 2)) 13 3 (S (30 + 3 * a.toNat) 3)) 16 0 (S (30 + 3 * a.toNat) 2)) 16 2 ((S (30 + 3 * a.toNat) 3) - (S (30 + 3 * a.toNat) 0))) 16 3 0) 16 2 (rtiS ((S (30 + 3 * a.toNat) 3) - (S (30 + 3 * a.toNat) 0)))) (30 + 3 * r.toNat) 1 2) (30 + 3 * r.toNat) 2 (S (30 + 3 * a.toNat) 2)) 13 3 = S (30 + 3 * a.toNat) 3 := by rw [u2_eq, if_neg (fun e => absurd e.2 (by decide)), u2_eq, if_neg (fun e => absurd e.2 (by decide)), u2_eq, if_neg (fun e => absurd e.2 (by decide)), u2_eq, if_neg (fun e => absurd e.1 (by decide)), u2_eq, if_neg (fun e => absurd e.2 (by decide)), u2_eq, if_neg (fun e => absurd e.2 (by decide)), u2_eq, if_pos ⟨rfl, rfl⟩]
            have et1 : (u2 (u2 (u2 (u2 (u2 (u2 (u2 (u2 (u2 (u2 S 13 0 (S (30 + 3 * a.toNat) 0)) 13 1 (S (30 + 3 * a.toNat) 1)) 13 2 (S (30 + 3 * a.toNat) 2)) 13 3 (S (30 + 3 * a.toNat) 3)) 16 0 (S (30 + 3 * a.toNat) 2)) 16 2 ((S (30 + 3 * a.toNat) 3) - (S (30 + 3 * a.toNat) 0))) 16 3 0) 16 2 (rtiS ((S (30 + 3 * a.toNat) 3) - (S (30 + 3 * a.toNat) 0)))) (30 + 3 * r.toNat) 1 2) (30 + 3 * r.toNat) 2 (S (30 + 3 * a.toNat) 2)) (30 + 3 * r.toNat) 1 = 2 := by rw [u2_eq, if_neg (fun e => absurd e.2 (by decide)), u2_eq, if_pos ⟨rfl, rfl⟩]
            have et2 : (u2 (u2 (u2 (u2 (u2 (u2 (u2 (u2 (u2 (u2 S 13 0 (S (30 + 3 * a.toNat) 0)) 13 1 (S (30 + 3 * a.toNat) 1)) 13 2 (S (30 + 3 * a.toNat) 2)) 13 3 (S (30 + 3 * a.toNat) 3)) 16 0 (S (30 + 3 * a.toNat) 2)) 16 2 ((S (30 + 3 * a.toNat) 3) - (S (30 + 3 * a.toNat) 0))) 16 3 0) 16 2 (rtiS ((S (30 + 3 * a.toNat) 3) - (S (30 + 3 * a.toNat) 0)))) (30 + 3 * r.toNat) 1 2) (30 + 3 * r.toNat) 2 (S (30 + 3 * a.toNat) 2)) (30 + 3 * r.toNat) 2 = S (30 + 3 * a.toNat) 2 := by rw [u2_eq, if_pos ⟨rfl, rfl⟩]
            have ev : (uv (uv V 14 (V ((30 + 3 * a.toNat) + 1))) 17 M) 14 = V ((30 + 3 * a.toNat) + 1) := (uv_n (by omega)).trans (uv_s)
            have hk2 : (2 : Int) ≠ 3 := by decide
            have hrun := x_ord3 (d := d + 9) (t := 30 + 3 * r.toNat) (q := 13) hR (kd_reg (r := r.toNat) (by omega)) kq_13 (by rw [et1]; decide) (by rw [et2]; omega) (Or.inl (by rw [et1]; decide)) (by rw [eq1]; omega) (by rw [eq2]; omega) (by rw [eq3]; omega)
            rw [et1, et2, eq1, eq2, eq3, ev, show S (30 + 3 * a.toNat) 1 = 3 by omega, ordR_n (e' := 0) (m' := 0) ⟨by decide, by decide⟩ (fun e => absurd e hk2)] at hrun
            obtain ⟨tw, htw⟩ : ∃ t : Int, t = ordR 2 (S (30 + 3 * a.toNat) 2) 0 0 3 (S (30 + 3 * a.toNat) 2) (S (30 + 3 * a.toNat) 3) (V (30 + 3 * a.toNat + 1)) := ⟨_, rfl⟩
            rw [← htw] at hrun
            have htb : -1 ≤ tw ∧ tw ≤ 1 := by rw [htw]; exact ordR_b
            refine i_106_177 (Nat.le_of_ble_eq_true rfl) hrun ?_
            refine i_106_180 rfl ?_
            refine lgen1 (i := 8) (v := Value.int (Int32.ofInt tw)) (fun lv lg ls => ?_)
            replace l7 := lg 7 _ rfl rfl l7
            replace l6 := lg 6 _ rfl rfl l6
            replace l5 := lg 5 _ rfl rfl l5
            replace l0 := lg 0 _ rfl rfl l0
            replace l1 := lg 1 _ rfl rfl l1
            replace l2 := lg 2 _ rfl rfl l2
            replace l3 := lg 3 _ rfl rfl l3
            replace l4 := lg 4 _ rfl rfl l4
            have l8 := ls
            refine i_106_182 (x := 7) l0 ?_
            refine i_106_183 (v := Value.ref 78) (hR.k0 kq_7) rfl ?_
            refine i_106_186 (x := 7) l0 ?_
            refine i_106_187 (v := Value.ref 78) (hR.k0 kq_7) rfl ?_
            refine i_106_190 (v := Value.int (Int32.ofInt ((u2 (u2 (u2 (u2 (u2 (u2 (u2 (u2 (u2 (u2 S 13 0 (S (30 + 3 * a.toNat) 0)) 13 1 (S (30 + 3 * a.toNat) 1)) 13 2 (S (30 + 3 * a.toNat) 2)) 13 3 (S (30 + 3 * a.toNat) 3)) 16 0 (S (30 + 3 * a.toNat) 2)) 16 2 ((S (30 + 3 * a.toNat) 3) - (S (30 + 3 * a.toNat) 0))) 16 3 0) 16 2 (rtiS ((S (30 + 3 * a.toNat) 3) - (S (30 + 3 * a.toNat) 0)))) (30 + 3 * r.toNat) 1 2) (30 + 3 * r.toNat) 2 (S (30 + 3 * a.toNat) 2)) 78 3))) (hR.k1 kq_78) rfl ?_
            rw [show Int32.ofInt ((u2 (u2 (u2 (u2 (u2 (u2 (u2 (u2 (u2 (u2 S 13 0 (S (30 + 3 * a.toNat) 0)) 13 1 (S (30 + 3 * a.toNat) 1)) 13 2 (S (30 + 3 * a.toNat) 2)) 13 3 (S (30 + 3 * a.toNat) 3)) 16 0 (S (30 + 3 * a.toNat) 2)) 16 2 ((S (30 + 3 * a.toNat) 3) - (S (30 + 3 * a.toNat) 0))) 16 3 0) 16 2 (rtiS ((S (30 + 3 * a.toNat) 3) - (S (30 + 3 * a.toNat) 0)))) (30 + 3 * r.toNat) 1 2) (30 + 3 * r.toNat) 2 (S (30 + 3 * a.toNat) 2)) 78 3) = Int32.ofInt (S 78 3) by rw [u2_eq, if_neg (fun e => absurd e.2 (by decide)), u2_eq, if_neg (fun e => absurd e.2 (by decide)), u2_eq, if_neg (fun e => absurd e.2 (by decide)), u2_eq, if_neg (fun e => absurd e.1 (by decide)), u2_eq, if_neg (fun e => absurd e.2 (by decide)), u2_eq, if_neg (fun e => absurd e.2 (by decide)), u2_eq, if_neg (fun e => absurd e.1 (by decide)), u2_eq, if_neg (fun e => absurd e.2 (by decide)), u2_eq, if_neg (fun e => absurd e.2 (by decide)), u2_eq, if_neg (fun e => absurd e.2 (by decide))]]
            refine i_106_193 ?_
            refine i_106_195 (c := Int32.ofInt (zand (S 78 3) ((-2)))) ((congrArg (Int32.ofInt (S 78 3) &&& ·) (show (-2 : Int32) = Int32.ofInt (-2) by decide)).trans (o_and (S 78 3) ((-2)))) ?_
            refine i_106_196 (x := Int32.ofInt (zand (S 78 3) (1))) l7 ?_
            refine i_106_198 (c := Int32.ofInt (zor (zand (S 78 3) ((-2))) (zand (S 78 3) (1)))) (o_or (zand (S 78 3) ((-2))) (zand (S 78 3) (1))) ?_
            refine i_106_199 (x := Int32.ofInt tw) l8 ?_
            refine i_106_201 (z_ne (a := tw) ⟨by omega, by omega⟩ fun c8 => ?_) (z_eq (a := tw) ⟨by omega, by omega⟩ fun c8 => ?_)
            · refine i_106_208 ?_
              refine i_106_209 (c := Int32.ofInt (zor (zor (zand (S 78 3) ((-2))) (zand (S 78 3) (1))) 1)) (o_or (zor (zand (S 78 3) ((-2))) (zand (S 78 3) (1))) 1) ?_
              refine i_106_210 (fs2 := f1 (u1 ((u2 (u2 (u2 (u2 (u2 (u2 (u2 (u2 (u2 (u2 S 13 0 (S (30 + 3 * a.toNat) 0)) 13 1 (S (30 + 3 * a.toNat) 1)) 13 2 (S (30 + 3 * a.toNat) 2)) 13 3 (S (30 + 3 * a.toNat) 3)) 16 0 (S (30 + 3 * a.toNat) 2)) 16 2 ((S (30 + 3 * a.toNat) 3) - (S (30 + 3 * a.toNat) 0))) 16 3 0) 16 2 (rtiS ((S (30 + 3 * a.toNat) 3) - (S (30 + 3 * a.toNat) 0)))) (30 + 3 * r.toNat) 1 2) (30 + 3 * r.toNat) 2 (S (30 + 3 * a.toNat) 2)) 78) 3 (zor (zor (zand (S 78 3) ((-2))) (zand (S 78 3) (1))) 1))) (hR.k1 kq_78) (Nat.le_of_ble_eq_true rfl) rfl (h7k kq_78 (by decide)) ?_
              refine xgen (P := cX w0 L Z (u2 (u2 (u2 (u2 (u2 (u2 (u2 (u2 (u2 (u2 (u2 S 13 0 (S (30 + 3 * a.toNat) 0)) 13 1 (S (30 + 3 * a.toNat) 1)) 13 2 (S (30 + 3 * a.toNat) 2)) 13 3 (S (30 + 3 * a.toNat) 3)) 16 0 (S (30 + 3 * a.toNat) 2)) 16 2 ((S (30 + 3 * a.toNat) 3) - (S (30 + 3 * a.toNat) 0))) 16 3 0) 16 2 (rtiS ((S (30 + 3 * a.toNat) 3) - (S (30 + 3 * a.toNat) 0)))) (30 + 3 * r.toNat) 1 2) (30 + 3 * r.toNat) 2 (S (30 + 3 * a.toNat) 2)) 78 3 (zor (zor (zand (S 78 3) ((-2))) (zand (S 78 3) (1))) 1)) (uv (uv V 14 (V ((30 + 3 * a.toNat) + 1))) 17 M)) (hR.p1 kq_78) (fun w hR => ?_)
              refine i_106_213 (x := Int32.ofInt tw) l8 ?_
              refine i_106_215 ?_
              have hcM := ‹(((xbl M + 31) / 32 : Nat) : Int) = 0›
              have hM0 : M = 0 := xbl_nz.mp (by omega)
              have eo : sWhC (vS S) (vV V) r.toNat a.toNat way mode = whO (oS 2 (S (30 + 3 * a.toNat) 2) (S 78 3)) (S (30 + 3 * a.toNat) 2) (S 78 3) (S (30 + 3 * a.toNat) 3) (V (30 + 3 * a.toNat + 1)) := by rw [sWhC_v, if_neg (by omega), if_pos (by rw [← hM]; exact hM0)]
              have hf : zor (zor (zand (S 78 3) ((-2))) (zand (S 78 3) (1))) 1 = whF (S 78 3) (oS 2 (S (30 + 3 * a.toNat) 2) (S 78 3)).2.2.2.2.2 (whT (oS 2 (S (30 + 3 * a.toNat) 2) (S 78 3)) (S (30 + 3 * a.toNat) 2) (S (30 + 3 * a.toNat) 3) (V (30 + 3 * a.toNat + 1))) := by unfold whF; rw [show whT (oS 2 (S (30 + 3 * a.toNat) 2) (S 78 3)) (S (30 + 3 * a.toNat) 2) (S (30 + 3 * a.toNat) 3) (V (30 + 3 * a.toNat + 1)) = tw from htw.symm, if_neg (by omega)]; rfl
              rw [eo]
              refine ⟨congrArg (fun z => Sum.inl (some (Value.int (Int32.ofInt z)))) (show tw = (whO (oS 2 (S (30 + 3 * a.toNat) 2) (S 78 3)) (S (30 + 3 * a.toNat) 2) (S 78 3) (S (30 + 3 * a.toNat) 3) (V (30 + 3 * a.toNat + 1))).2.2.2.2.1 from htw), _, _, hR, ?_⟩
              rw [hf]
              exact cOut_wh (cP_special (by omega) (by decide) (nC.up (nC.up (nC.up (nC.up (nC.up (nC.up (nC.up (nC.up nC.refl (by unfold cKeep; omega) (by omega)) (by unfold cKeep; omega) (by omega)) (by unfold cKeep; omega) (by omega)) (by unfold cKeep; omega) (by omega)) (by unfold cKeep; omega) (by omega)) (by unfold cKeep; omega) (by omega)) (by unfold cKeep; omega) (by omega)) (by unfold cKeep; omega) (by omega)) (nW.up (nW.up nW.refl (by omega)) (by omega)) rfl (by omega)) (by rw [u2_eq, if_pos ⟨rfl, rfl⟩]) (show (2 : Int) ≠ 0 by decide) (by omega)
            · refine i_106_204 ?_
              refine i_106_205 ?_
              refine i_106_209 (c := Int32.ofInt (zor (zor (zand (S 78 3) ((-2))) (zand (S 78 3) (1))) 0)) (o_or (zor (zand (S 78 3) ((-2))) (zand (S 78 3) (1))) 0) ?_
              refine i_106_210 (fs2 := f1 (u1 ((u2 (u2 (u2 (u2 (u2 (u2 (u2 (u2 (u2 (u2 S 13 0 (S (30 + 3 * a.toNat) 0)) 13 1 (S (30 + 3 * a.toNat) 1)) 13 2 (S (30 + 3 * a.toNat) 2)) 13 3 (S (30 + 3 * a.toNat) 3)) 16 0 (S (30 + 3 * a.toNat) 2)) 16 2 ((S (30 + 3 * a.toNat) 3) - (S (30 + 3 * a.toNat) 0))) 16 3 0) 16 2 (rtiS ((S (30 + 3 * a.toNat) 3) - (S (30 + 3 * a.toNat) 0)))) (30 + 3 * r.toNat) 1 2) (30 + 3 * r.toNat) 2 (S (30 + 3 * a.toNat) 2)) 78) 3 (zor (zor (zand (S 78 3) ((-2))) (zand (S 78 3) (1))) 0))) (hR.k1 kq_78) (Nat.le_of_ble_eq_true rfl) rfl (h7k kq_78 (by decide)) ?_
              refine xgen (P := cX w0 L Z (u2 (u2 (u2 (u2 (u2 (u2 (u2 (u2 (u2 (u2 (u2 S 13 0 (S (30 + 3 * a.toNat) 0)) 13 1 (S (30 + 3 * a.toNat) 1)) 13 2 (S (30 + 3 * a.toNat) 2)) 13 3 (S (30 + 3 * a.toNat) 3)) 16 0 (S (30 + 3 * a.toNat) 2)) 16 2 ((S (30 + 3 * a.toNat) 3) - (S (30 + 3 * a.toNat) 0))) 16 3 0) 16 2 (rtiS ((S (30 + 3 * a.toNat) 3) - (S (30 + 3 * a.toNat) 0)))) (30 + 3 * r.toNat) 1 2) (30 + 3 * r.toNat) 2 (S (30 + 3 * a.toNat) 2)) 78 3 (zor (zor (zand (S 78 3) ((-2))) (zand (S 78 3) (1))) 0)) (uv (uv V 14 (V ((30 + 3 * a.toNat) + 1))) 17 M)) (hR.p1 kq_78) (fun w hR => ?_)
              refine i_106_213 (x := Int32.ofInt tw) l8 ?_
              refine i_106_215 ?_
              have hcM := ‹(((xbl M + 31) / 32 : Nat) : Int) = 0›
              have hM0 : M = 0 := xbl_nz.mp (by omega)
              have eo : sWhC (vS S) (vV V) r.toNat a.toNat way mode = whO (oS 2 (S (30 + 3 * a.toNat) 2) (S 78 3)) (S (30 + 3 * a.toNat) 2) (S 78 3) (S (30 + 3 * a.toNat) 3) (V (30 + 3 * a.toNat + 1)) := by rw [sWhC_v, if_neg (by omega), if_pos (by rw [← hM]; exact hM0)]
              have hf : zor (zor (zand (S 78 3) ((-2))) (zand (S 78 3) (1))) 0 = whF (S 78 3) (oS 2 (S (30 + 3 * a.toNat) 2) (S 78 3)).2.2.2.2.2 (whT (oS 2 (S (30 + 3 * a.toNat) 2) (S 78 3)) (S (30 + 3 * a.toNat) 2) (S (30 + 3 * a.toNat) 3) (V (30 + 3 * a.toNat + 1))) := by unfold whF; rw [show whT (oS 2 (S (30 + 3 * a.toNat) 2) (S 78 3)) (S (30 + 3 * a.toNat) 2) (S (30 + 3 * a.toNat) 3) (V (30 + 3 * a.toNat + 1)) = tw from htw.symm, if_pos (by omega)]; rfl
              rw [eo]
              refine ⟨congrArg (fun z => Sum.inl (some (Value.int (Int32.ofInt z)))) (show tw = (whO (oS 2 (S (30 + 3 * a.toNat) 2) (S 78 3)) (S (30 + 3 * a.toNat) 2) (S 78 3) (S (30 + 3 * a.toNat) 3) (V (30 + 3 * a.toNat + 1))).2.2.2.2.1 from htw), _, _, hR, ?_⟩
              rw [hf]
              exact cOut_wh (cP_special (by omega) (by decide) (nC.up (nC.up (nC.up (nC.up (nC.up (nC.up (nC.up (nC.up nC.refl (by unfold cKeep; omega) (by omega)) (by unfold cKeep; omega) (by omega)) (by unfold cKeep; omega) (by omega)) (by unfold cKeep; omega) (by omega)) (by unfold cKeep; omega) (by omega)) (by unfold cKeep; omega) (by omega)) (by unfold cKeep; omega) (by omega)) (by unfold cKeep; omega) (by omega)) (nW.up (nW.up nW.refl (by omega)) (by omega)) rfl (by omega)) (by rw [u2_eq, if_pos ⟨rfl, rfl⟩]) (show (2 : Int) ≠ 0 by decide) (by omega)
        · refine i_106_64 (x := 30 + 3 * r.toNat) l5 ?_
          refine i_106_66 (x := 30 + 3 * a.toNat) l6 ?_
          refine i_106_68 (v := Value.int (Int32.ofInt (S (30 + 3 * a.toNat) 1))) (hR.k2 (kd_reg (r := a.toNat) (by omega))) rfl ?_
          refine i_106_71 (x := 30 + 3 * a.toNat) l6 ?_
          refine i_106_73 (v := Value.int (Int32.ofInt (S (30 + 3 * a.toNat) 2))) (hR.k2 (kd_reg (r := a.toNat) (by omega))) rfl ?_
          have hobj := hR.k2 (kd_reg (r := r.toNat) (by omega))
          obtain ⟨w, hrun, hR⟩ := x_spec (d := d + 12) (t := 30 + 3 * r.toNat) (which := S (30 + 3 * a.toNat) 1) (sg := S (30 + 3 * a.toNat) 2) hR (kd_reg (r := r.toNat) (by omega)) (by first | omega | exact bb_01 _)
          refine i_106_76 hobj (Nat.le_of_ble_eq_true rfl) hrun ?_
          refine i_106_79 ?_
          have eo : sWhC (vS S) (vV V) r.toNat a.toNat way mode = oS (S (30 + 3 * a.toNat) 1) (S (30 + 3 * a.toNat) 2) (S 78 3) := by rw [sWhC_v, if_pos (by omega)]
          rw [eo]
          exact ⟨rfl, _, _, hR, cP_special (by omega) (by omega) nC.refl nW.refl rfl (by omega)⟩
  obtain ⟨o, w', h1, rfl, h2⟩ := (key (lv_args 0 [Value.ref 7, Value.int (Int32.ofInt r), Value.int (Int32.ofInt a), Value.int (Int32.ofInt way), Value.int (Int32.ofInt mode)]) rfl rfl rfl rfl rfl).run
  exact ⟨w', h1, h2⟩
end
