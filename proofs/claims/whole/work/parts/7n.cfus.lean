/-! fused of the class; the sums of reckon -/
theorem sum2_z {p least greatest gradual f mode sa : Int} {ma ma' : Nat} {ea ea' kb sb : Int} {mb : Nat} {eb : Int} : sum2 p least greatest gradual f mode 2 sa ma ea kb sb mb eb = sum2 p least greatest gradual f mode 2 sa ma' ea' kb sb mb eb := by
  simp [sum2, cP, cN, zP, zN, base2]
theorem fin_nan {p least greatest gradual f mode : Int} {inv pi mi b : Int} {P N : Nat} {num pz nz k sg : Int} {m : Nat} {sc : Int} : sFinT p least greatest gradual f mode (tk (1, inv, pi, mi, b, P, N, num, pz, nz) k sg m sc) = oS 0 0 f := by
  by_cases hk : k = 3
  · rw [tk_num hk]
    simp [sFinT, sFin]
  · rw [tk_spc hk, show orI 1 (k = 0) = 1 from if_pos (Or.inl (by decide))]
    simp [sFinT, sFin]
theorem fin_inv {p least greatest gradual f mode : Int} {pi mi b : Int} {P N : Nat} {num pz nz k sg : Int} {m : Nat} {sc : Int} : sFinT p least greatest gradual f mode (tk (0, 1, pi, mi, b, P, N, num, pz, nz) k sg m sc) = if k = 0 then oS 0 0 f else oS 0 0 (zor f 8) := by
  by_cases hk : k = 3
  · rw [tk_num hk, if_neg (show ¬ k = 0 by omega)]
    simp [sFinT, sFin]
  · rw [tk_spc hk]
    by_cases h0 : k = 0
    · rw [show orI 0 (k = 0) = 1 from if_pos (Or.inr h0), if_pos h0]
      simp [sFinT, sFin]
    · rw [show orI 0 (k = 0) = 0 from if_neg (by omega), if_neg h0]
      simp [sFinT, sFin]
def sFus2 (p least greatest gradual f mode ka sa : Int) (ma : Nat) (ea kb sb : Int) (mb : Nat) (eb kc sc : Int) (mc : Nat) (ec : Int) : OO :=
  if ka = 0 ∨ kb = 0 ∨ kc = 0 then oS 0 0 f
  else if (ka = 1 ∨ kb = 1) ∧ ((ka = 2 ∨ kb = 2) ∨ (kc = 1 ∧ sc ≠ xorI sa sb)) then oS 0 0 (zor f 8)
  else if ka = 1 ∨ kb = 1 then oS 1 (xorI sa sb) f
  else if kc = 1 then oS 1 sc f
  else sum2 p least greatest gradual f mode (if ka = 2 ∨ kb = 2 then 2 else 3) (xorI sa sb) (ma * mb) (ea + eb) kc sc mc ec
set_option maxHeartbeats 4000000 in
theorem finF {p least greatest gradual f mode ka sa : Int} {ma : Nat} {ea kb sb : Int} {mb : Nat} {eb kc sc : Int} {mc : Nat} {ec : Int} (hka : 0 ≤ ka ∧ ka ≤ 3) (hkb : 0 ≤ kb ∧ kb ≤ 3) (hkc : 0 ≤ kc ∧ kc ≤ 3) (hsc : sc = 0 ∨ sc = 1) : sFinT p least greatest gradual f mode (tk (tkp tk0 ka sa ma ea kb sb mb eb) kc sc mc ec) = sFus2 p least greatest gradual f mode ka sa ma ea kb sb mb eb kc sc mc ec := by
  have hx : xorI sa sb = 0 ∨ xorI sa sb = 1 := by
    unfold xorI
    split
    · exact Or.inl rfl
    · exact Or.inr rfl
  unfold tkp
  by_cases k1 : ka = 3 ∧ kb = 3
  · rw [if_pos k1, fin2 (by omega) hkc hx hsc]
    unfold sA2 sFus2
    generalize xorI sa sb = sx at hx ⊢
    grind
  · rw [if_neg k1]
    by_cases k2 : ka = 0 ∨ kb = 0
    · rw [if_pos k2]
      refine fin_nan.trans ?_
      unfold sFus2
      rw [if_pos (by omega)]
    · rw [if_neg k2]
      by_cases k3 : ka ≠ 1 ∧ kb ≠ 1
      · rw [if_pos k3, fin2 (by omega) hkc hx hsc]
        unfold sA2 sFus2
        rw [sum2_z (ma' := ma * mb) (ea' := ea + eb)]
        generalize xorI sa sb = sx at hx ⊢
        grind
      · rw [if_neg k3]
        by_cases k4 : ka = 2 ∨ kb = 2
        · rw [if_pos k4]
          refine fin_inv.trans ?_
          unfold sFus2
          grind
        · rw [if_neg k4, fin2 (by omega) hkc hx hsc]
          unfold sA2 sFus2
          generalize xorI sa sb = sx at hx ⊢
          grind
section
variable {w0 w : xW} {L Z : Nat} {S : Nat → Nat → Int} {V : Nat → Nat} {d h t r : Nat}
set_option maxHeartbeats 4000000 in
theorem x_fused {r a b c mode : Int} (hR : cX w0 L Z S V w) (hI : cI S V) (hr : 0 ≤ r ∧ r ≤ 15) (ha : 0 ≤ a ∧ a ≤ 15) (hb : 0 ≤ b ∧ b ≤ 15) (hc : 0 ≤ c ∧ c ≤ 15) (hmo : 0 ≤ mode ∧ mode ≤ 4) : ∃ w', xRun (d + 12) 95 [Value.ref 7, Value.int (Int32.ofInt r), Value.int (Int32.ofInt a), Value.int (Int32.ofInt b), Value.int (Int32.ofInt c), Value.int (Int32.ofInt mode)] w (.inl (some (.int (Int32.ofInt (sFus (vS S) (vV V) r.toNat a.toNat b.toNat c.toNat mode).2.2.2.2.1)))) w' ∧ ∃ S' V', cX w0 L Z S' V' w' ∧ cOut S S' V V' (30 + 3 * r.toNat) (sFus (vS S) (vV V) r.toNat a.toNat b.toNat c.toNat mode) := by
  have key : ∀ lv, xld lv 0 = some (Value.ref 7) → xld lv 1 = some (Value.int (Int32.ofInt r)) → xld lv 2 = some (Value.int (Int32.ofInt a)) → xld lv 3 = some (Value.int (Int32.ofInt b)) → xld lv 4 = some (Value.int (Int32.ofInt c)) → xld lv 5 = some (Value.int (Int32.ofInt mode)) → xEv (d + 12) 95 0 lv [] w (fun o w' => o = .inl (some (.int (Int32.ofInt (sFus (vS S) (vV V) r.toNat a.toNat b.toNat c.toNat mode).2.2.2.2.1))) ∧ ∃ S' V', cX w0 L Z S' V' w' ∧ cOut S S' V V' (30 + 3 * r.toNat) (sFus (vS S) (vV V) r.toNat a.toNat b.toNat c.toNat mode)) := by
    intro lv l0 l1 l2 l3 l4 l5
    obtain ⟨hp_r, hk_r, hn_r, ht_r, hx_r, hz_r⟩ := hI.1 r.toNat (by omega)
    obtain ⟨hp_a, hk_a, hn_a, ht_a, hx_a, hz_a⟩ := hI.1 a.toNat (by omega)
    obtain ⟨hp_b, hk_b, hn_b, ht_b, hx_b, hz_b⟩ := hI.1 b.toNat (by omega)
    obtain ⟨hp_c, hk_c, hn_c, ht_c, hx_c, hz_c⟩ := hI.1 c.toNat (by omega)
    have hi_l := hI.2.1
    have hi_g := hI.2.2.1
    refine i_95_0 (x := Int32.ofInt r) l1 ?_
    have hrun := x_noReg (d := d + 11) (w := w) (r := r) ⟨by omega, by omega⟩
    rw [show (decide (r < 0) || decide (16 ≤ r)) = false from by simp; omega] at hrun
    refine i_95_1 (Nat.le_of_ble_eq_true rfl) hrun ?_
    refine i_95_4 (fun c => absurd c (by decide)) (fun _ => ?_)
    refine i_95_7 (x := Int32.ofInt a) l2 ?_
    have hrun := x_noReg (d := d + 11) (w := w) (r := a) ⟨by omega, by omega⟩
    rw [show (decide (a < 0) || decide (16 ≤ a)) = false from by simp; omega] at hrun
    refine i_95_8 (Nat.le_of_ble_eq_true rfl) hrun ?_
    refine i_95_11 (fun c => absurd c (by decide)) (fun _ => ?_)
    refine i_95_14 (x := Int32.ofInt b) l3 ?_
    have hrun := x_noReg (d := d + 11) (w := w) (r := b) ⟨by omega, by omega⟩
    rw [show (decide (b < 0) || decide (16 ≤ b)) = false from by simp; omega] at hrun
    refine i_95_15 (Nat.le_of_ble_eq_true rfl) hrun ?_
    refine i_95_18 (fun c => absurd c (by decide)) (fun _ => ?_)
    refine i_95_21 (x := Int32.ofInt c) l4 ?_
    have hrun := x_noReg (d := d + 11) (w := w) (r := c) ⟨by omega, by omega⟩
    rw [show (decide (c < 0) || decide (16 ≤ c)) = false from by simp; omega] at hrun
    refine i_95_23 (Nat.le_of_ble_eq_true rfl) hrun ?_
    refine i_95_26 (fun c => absurd c (by decide)) (fun _ => ?_)
    refine i_95_29 (x := Int32.ofInt mode) l5 ?_
    have hrun := x_noMode (d := d + 11) (w := w) (m := mode) ⟨by omega, by omega⟩
    rw [show (decide (mode < 0) || decide (4 < mode)) = false from by simp; omega] at hrun
    refine i_95_31 (Nat.le_of_ble_eq_true rfl) hrun ?_
    refine i_95_34 (fun _ => ?_) (fun c => absurd c (by decide))
    refine i_95_45 (x := 7) l0 ?_
    refine i_95_46 (v := Value.ref 19) (hR.k0 kq_7) rfl ?_
    have hobj := hR.k5 kq_19
    obtain ⟨w, hrun, S1, V1, hR, hA⟩ := aT_begin (d := d + 11) hR
    refine i_95_49 hobj (Nat.le_of_ble_eq_true rfl) hrun ?_
    refine i_95_52 (x := 7) l0 ?_
    refine i_95_53 (v := Value.ref 19) (hR.k0 kq_7) rfl ?_
    refine i_95_56 (x := 7) l0 ?_
    refine i_95_57 (v := Value.ref 8) (hR.k0 kq_7) rfl ?_
    refine i_95_60 (x := Int32.ofInt a) l2 ?_
    obtain ⟨gr, hgr, hge⟩ := hR.regs
    refine i_95_61 (v := Value.ref (30 + 3 * a.toNat)) hgr (ix0 (T := a) (by omega) (by omega)) (ix1 (T := a) (by omega) (by omega) (by omega)) (by rw [ixn (T := a) (by omega) (by omega)]; exact hge _ (by omega)) ?_
    refine i_95_62 (x := 7) l0 ?_
    refine i_95_63 (v := Value.ref 8) (hR.k0 kq_7) rfl ?_
    refine i_95_66 (x := Int32.ofInt b) l3 ?_
    obtain ⟨gr, hgr, hge⟩ := hR.regs
    refine i_95_67 (v := Value.ref (30 + 3 * b.toNat)) hgr (ix0 (T := b) (by omega) (by omega)) (ix1 (T := b) (by omega) (by omega) (by omega)) (by rw [ixn (T := b) (by omega) (by omega)]; exact hge _ (by omega)) ?_
    have hobj := hR.k5 kq_19
    have hok2 := (okT_0 (n := 0))
    obtain ⟨w, hrun, S2, V2, hR, hA⟩ := aT_prod (d := d + 4) (a := a) (e := b) hR hA hI hok2 (by omega) ⟨by omega, by omega⟩ ⟨by omega, by omega⟩
    refine i_95_68 hobj (Nat.le_of_ble_eq_true rfl) hrun ?_
    refine i_95_71 (x := 7) l0 ?_
    refine i_95_72 (v := Value.ref 19) (hR.k0 kq_7) rfl ?_
    refine i_95_75 (x := 7) l0 ?_
    refine i_95_76 (v := Value.ref 8) (hR.k0 kq_7) rfl ?_
    refine i_95_79 (x := Int32.ofInt c) l4 ?_
    obtain ⟨gr, hgr, hge⟩ := hR.regs
    refine i_95_81 (v := Value.ref (30 + 3 * c.toNat)) hgr (ix0 (T := c) (by omega) (by omega)) (ix1 (T := c) (by omega) (by omega) (by omega)) (by rw [ixn (T := c) (by omega) (by omega)]; exact hge _ (by omega)) ?_
    refine i_95_82 ?_
    have hobj := hR.k5 kq_19
    have hok3 := (okT_tkp (ka := S (30 + 3 * a.toNat) 1) (sa := S (30 + 3 * a.toNat) 2) (ma := V (30 + 3 * a.toNat + 1)) (ea := S (30 + 3 * a.toNat) 3 - S (30 + 3 * a.toNat) 0) (kb := S (30 + 3 * b.toNat) 1) (sb := S (30 + 3 * b.toNat) 2) (mb := V (30 + 3 * b.toNat + 1)) (eb := S (30 + 3 * b.toNat) 3 - S (30 + 3 * b.toNat) 0) (by omega) hok2 (by omega) (by omega))
    obtain ⟨w, hrun, S3, V3, hR, hA⟩ := aT_take (d := d + 4) (a := c) (ng := 0) hR hA hI hok3 (by omega) ⟨by omega, by omega⟩ (by omega)
    refine i_95_83 hobj (Nat.le_of_ble_eq_true rfl) hrun ?_
    refine i_95_86 (x := 7) l0 ?_
    refine i_95_87 (v := Value.ref 19) (hR.k0 kq_7) rfl ?_
    refine i_95_90 (x := 7) l0 ?_
    refine i_95_91 (v := Value.ref 78) (hR.k0 kq_7) rfl ?_
    refine i_95_94 (x := 7) l0 ?_
    refine i_95_95 (v := Value.ref 8) (hR.k0 kq_7) rfl ?_
    refine i_95_98 (x := Int32.ofInt r) l1 ?_
    obtain ⟨gr, hgr, hge⟩ := hR.regs
    refine i_95_99 (v := Value.ref (30 + 3 * r.toNat)) hgr (ix0 (T := r) (by omega) (by omega)) (ix1 (T := r) (by omega) (by omega) (by omega)) (by rw [ixn (T := r) (by omega) (by omega)]; exact hge _ (by omega)) ?_
    refine i_95_100 (x := Int32.ofInt mode) l5 ?_
    have hobj := hR.k5 kq_19
    have hok4 := (okT_tk (k := S (30 + 3 * c.toNat) 1) (sg := xorI (S (30 + 3 * c.toNat) 2) 0) (m := V (30 + 3 * c.toNat + 1)) (sc := S (30 + 3 * c.toNat) 3 - S (30 + 3 * c.toNat) 0) (by omega) hok3 (fun _ => by omega))
    obtain ⟨w, hrun, S4, V4, hR, hP⟩ := aT_fin (d := d + 1) (r := r) (mode := mode) hR hA hI hok4 (by omega) ⟨by omega, by omega⟩ ⟨by omega, by omega⟩
    refine i_95_102 hobj (Nat.le_of_ble_eq_true rfl) hrun ?_
    refine i_95_105 ?_
    have eo : sFinT (S (30 + 3 * r.toNat) 0) (S 78 0) (S 78 1) (S 78 2) (S 78 3) mode (tk (tkp (tk0) (S (30 + 3 * a.toNat) 1) (S (30 + 3 * a.toNat) 2) (V (30 + 3 * a.toNat + 1)) (S (30 + 3 * a.toNat) 3 - S (30 + 3 * a.toNat) 0) (S (30 + 3 * b.toNat) 1) (S (30 + 3 * b.toNat) 2) (V (30 + 3 * b.toNat + 1)) (S (30 + 3 * b.toNat) 3 - S (30 + 3 * b.toNat) 0)) (S (30 + 3 * c.toNat) 1) (xorI (S (30 + 3 * c.toNat) 2) 0) (V (30 + 3 * c.toNat + 1)) (S (30 + 3 * c.toNat) 3 - S (30 + 3 * c.toNat) 0)) = sFus (vS S) (vV V) r.toNat a.toNat b.toNat c.toNat mode := by
      rw [show xorI (S (30 + 3 * c.toNat) 2) 0 = S (30 + 3 * c.toNat) 2 from by unfold xorI; rcases hn_c with g | g <;> rw [g] <;> rfl, finF hk_a hk_b hk_c hn_c]
      simp only [sFus, sFus2, ex, vS_153, vS_154, vS_155, vS_156, vS_17, vS_18, vS_19, vS_20, vV_r]
      rfl
    rw [eo] at hrun hP ⊢
    exact ⟨rfl, _, _, hR, hP⟩
  obtain ⟨o, w', h1, rfl, h2⟩ := (key (lv_args 0 [Value.ref 7, Value.int (Int32.ofInt r), Value.int (Int32.ofInt a), Value.int (Int32.ofInt b), Value.int (Int32.ofInt c), Value.int (Int32.ofInt mode)]) rfl rfl rfl rfl rfl rfl).run
  exact ⟨w', h1, h2⟩
end
