/-! writing of the reference: returns -/
/-- near, and register 16 changed -/
def mE (S S' : Nat → Nat → Int) (V V' : Nat → Nat) : Prop := (∀ a j, ¬ ((a = 153 ∨ a = 154 ∨ a = 155 ∨ a = 156) ∧ j = 16) → ¬ (a = 128 ∧ 26 ≤ j ∧ j ≤ 30) → S' a j = S a j) ∧ ∀ k, 160 ≤ k → k ≠ 192 → V' k = V k
theorem mE.mI {S S' : Nat → Nat → Int} {V V' : Nat → Nat} (h : mE S S' V V') (hI : mI S V) : mI S' V' := by
  obtain ⟨i1, i2, i3, i4⟩ := hI
  have n : ∀ a j, a ≠ 128 → j ≠ 16 → S' a j = S a j := fun a j ha hj => h.1 a j (fun c => hj c.2) (fun c => ha c.1)
  have m : ∀ j, j < 26 → S' 128 j = S 128 j := fun j hj => h.1 128 j (by omega) (by omega)
  refine ⟨fun r hr => ?_, ?_, ?_, ?_⟩
  · rw [n 153 r (by decide) (by omega), n 154 r (by decide) (by omega), n 155 r (by decide) (by omega), n 156 r (by decide) (by omega), h.2 _ (by omega) (by omega)]; exact i1 r hr
  · rw [m 17 (by decide), m 18 (by decide)]; exact i2
  · rw [m 20 (by decide)]; exact i3
  · rw [m 21 (by decide)]; exact i4
theorem mE.refl {S : Nat → Nat → Int} {V : Nat → Nat} : mE S S V V := ⟨fun _ _ _ _ => rfl, fun _ _ _ => rfl⟩
theorem mE.trans {S S1 S2 : Nat → Nat → Int} {V V1 V2 : Nat → Nat} (h : mE S S1 V V1) (h1 : mE S1 S2 V1 V2) : mE S S2 V V2 := ⟨fun a j c1 c2 => (h1.1 a j c1 c2).trans (h.1 a j c1 c2), fun k k1 k2 => (h1.2 k k1 k2).trans (h.2 k k1 k2)⟩
theorem mE.near {S S1 : Nat → Nat → Int} {V V1 : Nat → Nat} (h : nS S S1) (h1 : nV V V1) : mE S S1 V V1 := by
  refine ⟨fun a j c1 c2 => ?_, fun k k1 _ => h1 k k1⟩
  by_cases ha : a = 128
  · subst ha
    exact h.2 j (by omega)
  · exact h.1 a j ha
theorem fr_3 {p m : Nat} {least greatest gradual sg more e f : Int} (hp : 1 ≤ p) (hm : m ≠ 0) : (rnd (p : Int) least greatest gradual 1 sg 0 more m e f).1 = 3 := by
  refine (rnd_fr ?_).1
  unfold rq1 rq
  have x := (xbl_of hm).1
  by_cases c : 0 < (xbl m : Int) - p
  · rw [if_pos c]
    have : 0 < m / 2 ^ ((xbl m : Int) - p).toNat := Nat.div_pos (Nat.le_trans (Nat.pow_le_pow_right (by decide) (by omega)) x) (Nat.two_pow_pos _)
    omega
  · rw [if_neg c]
    have : 0 < m * 2 ^ (-((xbl m : Int) - p)).toNat := Nat.mul_pos (by omega) (Nat.two_pow_pos _)
    omega
theorem fr_T {p m : Nat} {least greatest gradual sg more e f : Int} (hp : 1 ≤ p) (hm : m ≠ 0) : (xbl m : Int) + e - p ≤ (rnd (p : Int) least greatest gradual 1 sg 0 more m e f).2.1 ∧ (rnd (p : Int) least greatest gradual 1 sg 0 more m e f).2.1 ≤ (xbl m : Int) + e + 1 := by
  have hq : rq1 m ((xbl m : Int) - p) more sg 0 ≠ 0 ∧ xbl (rq1 m ((xbl m : Int) - p) more sg 0) ≤ p + 1 := by
    have x := xbl_of hm
    unfold rq1 rq
    by_cases c : 0 < (xbl m : Int) - p
    · rw [if_pos c]
      have h1 : 0 < m / 2 ^ ((xbl m : Int) - p).toNat := Nat.div_pos (Nat.le_trans (Nat.pow_le_pow_right (by decide) (by omega)) x.1) (Nat.two_pow_pos _)
      have h2 : m / 2 ^ ((xbl m : Int) - p).toNat < 2 ^ p := by
        refine (Nat.div_lt_iff_lt_mul (Nat.two_pow_pos _)).mpr ?_
        rw [← Nat.pow_add, show p + ((xbl m : Int) - p).toNat = xbl m by omega]
        exact x.2.1
      have h3 : (bb (rG m ((xbl m : Int) - p) more sg 0)).toNat ≤ 1 := by cases rG m ((xbl m : Int) - p) more sg 0 <;> decide
      refine ⟨by omega, xbl_le ?_⟩
      rw [Nat.pow_succ]
      omega
    · rw [if_neg c]
      have h1 : 0 < m * 2 ^ (-((xbl m : Int) - p)).toNat := Nat.mul_pos (by omega) (Nat.two_pow_pos _)
      have h2 := xbl_pow m (-((xbl m : Int) - p)).toNat hm
      have h3 : rG m ((xbl m : Int) - p) more sg 0 = false := by unfold rG; rw [decide_eq_false c, Bool.false_and]
      rw [h3]
      show m * 2 ^ (-((xbl m : Int) - p)).toNat + 0 ≠ 0 ∧ xbl (m * 2 ^ (-((xbl m : Int) - p)).toNat + 0) ≤ p + 1
      rw [Nat.add_zero, h2]
      omega
  rw [(rnd_fr hq.1).2.1]
  omega
/-- what digits leaves, as one number -/
theorem sp_val {rx n W : Nat} {F : Int} (hB : 2 ≤ rx) (hn : 1 ≤ n) (hW : W ≤ rx ^ n) (hW0 : W ≠ 0) : ((if rx ^ n ≤ W then W / rx else W) * bNu rx ((if rx ^ n ≤ W then F + 1 else F) - n) * bDe rx (F - n) = W * bNu rx (F - n) * bDe rx ((if rx ^ n ≤ W then F + 1 else F) - n)) ∧ (if rx ^ n ≤ W then W / rx else W) ≠ 0 ∧ (if rx ^ n ≤ W then W / rx else W) ≤ rx ^ n := by
  by_cases c : rx ^ n ≤ W
  · rw [if_pos c, if_pos c]
    have e : W = rx ^ n := Nat.le_antisymm hW c
    have e2 : W = W / rx * rx := by
      rw [e, show n = n - 1 + 1 by omega, Nat.pow_succ, Nat.mul_div_cancel _ (by omega)]
    refine ⟨?_, ?_, Nat.le_trans (Nat.div_le_self _ _) hW⟩
    · have s := bN_step (B := rx) (k := F - n) (by omega)
      rw [show F + 1 - (n : Int) = F - n + 1 by omega]
      calc W / rx * bNu rx (F - n + 1) * bDe rx (F - n) = W / rx * (bNu rx (F - n + 1) * bDe rx (F - n)) := Nat.mul_assoc _ _ _
        _ = W / rx * (bNu rx (F - n) * bDe rx (F - n + 1) * rx) := by rw [s]
        _ = W / rx * rx * bNu rx (F - n) * bDe rx (F - n + 1) := by ac_rfl
        _ = _ := by rw [← e2]
    · intro z
      rw [z, Nat.zero_mul] at e2
      exact hW0 e2
  · rw [if_neg c, if_neg c]
    exact ⟨Nat.mul_right_comm _ _ _ ▸ rfl, hW0, hW⟩
theorem sp_rng {M B n : Nat} {E F ng mode : Int} (hB : 2 ≤ B) (hn : 1 ≤ n) (hF : fst_is M E B F) : spQ M E B F (n : Int) < B ^ n ∧ spW M E B F ng (n : Int) mode ≤ B ^ n ∧ spW M E B F ng (n : Int) mode ≠ 0 := by
  have hD := fDn_pos (B := B) (k := (n : Int) - F) (E := E) (by omega)
  have h1 : spQ M E B F (n : Int) < B ^ n := by
    refine Nat.lt_of_not_le fun c => hF.2 ?_
    refine (vB_iff (n := (n : Int)) (by omega) (by omega)).mp ?_
    rw [Int.toNat_natCast]
    exact (Nat.le_div_iff_mul_le hD).mp c
  have h2 : 1 ≤ spQ M E B F (n : Int) := by
    have := vB_n (n := (n : Int)) (by omega) hF.1 (by omega)
    refine (Nat.le_div_iff_mul_le hD).mpr (Nat.le_trans (Nat.mul_le_mul_right _ (Nat.pow_pos (by omega))) this)
  refine ⟨h1, ?_, ?_⟩
  · unfold spW
    split <;> omega
  · unfold spW
    omega
section
variable {d rx n : Nat} {w0 w : xW} {S S1 : Nat → Nat → Int} {V V1 : Nat → Nat} {r mode F : Int} {lv : xLv} {Q : Option Value ⊕ Nat → xW → Prop}
theorem dg_F (hI : mI S V) (hr : 0 ≤ r ∧ r ≤ 15) (hk : S 154 r.toNat = 3) (hrx : 2 ≤ rx ∧ rx ≤ 36) (hn : n ≤ 4200) (hF : fst_is (V (160 + 2 * r.toNat)) (S 155 r.toNat - S 153 r.toNat) rx F) : (-21003 ≤ F ∧ F ≤ 16386) ∧ xbl (rx ^ ((n : Int) - F).natAbs) ≤ 100000 := by
  obtain ⟨hp_r, hk_r, hn_r, ht_r, hx_r, hz_r⟩ := hI.1 r.toNat (by omega)
  obtain ⟨hxM, ht3⟩ := hz_r hk
  have hMp : xbl (V (160 + 2 * r.toNat)) = (S 153 r.toNat).toNat := by omega
  obtain ⟨⟨hl1, hl2⟩, -, -⟩ := lgm_ok hrx
  have hxr := xbl_rx hrx
  have hgb := gss_b (e := S 155 r.toNat - 1) hrx (by omega)
  have hge : vGe (V (160 + 2 * r.toNat)) (S 155 r.toNat - S 153 r.toNat) rx (gss rx (S 155 r.toNat - 1)) := vGe_up (e := S 155 r.toNat - 1) (by omega) hMp (by omega) (by omega) (gss_le hrx)
  have hgF : gss rx (S 155 r.toNat - 1) < F := Int.lt_of_not_ge fun c => hF.2 (vGe_mono (by omega) c hge)
  have hF16 : hid (1 ≤ F → (F - 1) * ((xbl rx : Int) - 1) < 16385) := fun c => by
    have := F_b (by omega) hMp hF.1 c
    omega
  have hF17 : F ≤ 16386 := by
    by_cases c : 1 ≤ F
    · have b1 := hid.o hF16 c
      have b2 : (F - 1) * 1 ≤ (F - 1) * ((xbl rx : Int) - 1) := Int.mul_le_mul_of_nonneg_left (by omega) (by omega)
      rw [Int.mul_one] at b2
      generalize (F - 1) * ((xbl rx : Int) - 1) = z at b1 b2
      omega
    · omega
  clear hz_r
  exact ⟨⟨by omega, hF17⟩, dg_bits (g := gss rx (S 155 r.toNat - 1)) hrx hn hgb.2.2.1 (by omega) (Int.le_refl _) hF16⟩
set_option maxHeartbeats 8000000 in
theorem s_ret (hR : mR w0 S V w) (hK6 : w0[6]? = some (.inl (0, 37, fun j => .int (xlogm.getD j 0)))) (hI : mI S V) (hr : 0 ≤ r ∧ r ≤ 15) (hk : S 154 r.toNat = 3) (hrx : 2 ≤ rx ∧ rx ≤ 36) (hn : 1 ≤ n ∧ n ≤ 4200) (hF : fst_is (V (160 + 2 * r.toNat)) (S 155 r.toNat - S 153 r.toNat) rx F) : ∃ w', xRun (d + 8) 265 [Value.ref 128, Value.int (Int32.ofInt r), Value.int (Int32.ofInt (rx : Int)), Value.int (Int32.ofInt (n : Int))] w (.inl (some (.int (Int32.ofInt (bb (cbF (V (160 + 2 * r.toNat)) (S 155 r.toNat - S 153 r.toNat) rx F (S 156 r.toNat) (S 153 r.toNat) (n : Int) false)))))) w' ∧ ∃ S' V', mR w0 S' V' w' ∧ mE S S' V V' := by
  obtain ⟨hp_r, hk_r, hn_r, ht_r, hx_r, hz_r⟩ := hI.1 r.toNat (by omega)
  obtain ⟨hxM, ht3⟩ := hz_r hk
  clear hz_r
  have hi_l := hI.2.1
  have hi_g := hI.2.2.1
  have hi_f := hI.2.2.2
  obtain ⟨p, hp⟩ : ∃ p : Nat, S 153 r.toNat = (p : Int) := ⟨(S 153 r.toNat).toNat, by omega⟩
  obtain ⟨hFr, hFb⟩ := dg_F hI hr hk hrx (show n ≤ 4200 by omega) hF
  have hxrx := xbl_rx hrx
  have hpb : xbl (rx ^ n) ≤ 26000 := by
    have g := xbl_npow rx n
    have := Nat.mul_le_mul hn.2 hxrx.2
    omega
  have hscb0 : ∀ xx : Int, xx = F ∨ xx = F + 1 → xbl (rx ^ (xx - (n : Int)).natAbs) ≤ 100100 := by
    intro xx hx
    have g1 : xbl (rx ^ (xx - (n : Int)).natAbs) ≤ xbl (rx ^ ((n : Int) - F).natAbs * rx) := by
      refine xbl_mono ?_
      rw [← Nat.pow_succ]
      exact Nat.pow_le_pow_right (by omega) (by omega)
    have g2 := xbl_prod (rx ^ ((n : Int) - F).natAbs) rx
    omega
  have hscb := hid.i hscb0
  clear hscb0
  have key : xEv (d + 8) 265 0 (lv_args 0 [Value.ref 128, Value.int (Int32.ofInt r), Value.int (Int32.ofInt (rx : Int)), Value.int (Int32.ofInt (n : Int))]) [] w (fun o w' => o = .inl (some (.int (Int32.ofInt (bb (cbF (V (160 + 2 * r.toNat)) (S 155 r.toNat - S 153 r.toNat) rx F (S 156 r.toNat) (S 153 r.toNat) (n : Int) false))))) ∧ ∃ S' V', mR w0 S' V' w' ∧ mE S S' V V') := by
    refine i_265_0 (x := 128) rfl ?_
    refine i_265_1 (x := Int32.ofInt r) rfl ?_
    refine i_265_2 (x := Int32.ofInt (rx : Int)) rfl ?_
    refine i_265_3 (x := Int32.ofInt (n : Int)) rfl ?_
    refine i_265_4 ?_
    have hobj := hR.c128
    obtain ⟨w, hrun, S1, V1, hR, hnS, hnV, h129⟩ := s_digits (d := d) (mode := 0) hR hK6 hI hr hk hrx (by decide) hn hF (Nat.le_trans hpb (by decide))
    obtain ⟨hq1, hq2, hq3⟩ := sp_rng (ng := S 156 r.toNat) (mode := 0) hrx.1 hn.1 hF
    obtain ⟨hvv, hv0, hvl⟩ := sp_val (F := F) hrx.1 hn.1 hq2 hq3
    have hxr : (if rx ^ n ≤ spW (V (160 + 2 * r.toNat)) (S 155 r.toNat - S 153 r.toNat) rx F (S 156 r.toNat) (n : Int) 0 then F + 1 else F) = F ∨ (if rx ^ n ≤ spW (V (160 + 2 * r.toNat)) (S 155 r.toNat - S 153 r.toNat) rx F (S 156 r.toNat) (n : Int) 0 then F + 1 else F) = F + 1 := by split <;> simp
    have hvb := xbl_mono hvl
    generalize (if rx ^ n ≤ spW (V (160 + 2 * r.toNat)) (S 155 r.toNat - S 153 r.toNat) rx F (S 156 r.toNat) (n : Int) 0 then F + 1 else F) = xx at hrun hvv hxr
    generalize (if rx ^ n ≤ spW (V (160 + 2 * r.toNat)) (S 155 r.toNat - S 153 r.toNat) rx F (S 156 r.toNat) (n : Int) 0 then spW (V (160 + 2 * r.toNat)) (S 155 r.toNat - S 153 r.toNat) rx F (S 156 r.toNat) (n : Int) 0 / rx else spW (V (160 + 2 * r.toNat)) (S 155 r.toNat - S 153 r.toNat) rx F (S 156 r.toNat) (n : Int) 0) = val at h129 hvv hv0 hvl hvb
    refine i_265_5 hobj (Nat.le_of_ble_eq_true rfl) hrun ?_
    refine i_265_8 (lv2 := [(4, Value.int (Int32.ofInt xx)), (0, Value.ref 128), (1, Value.int (Int32.ofInt r)), (2, Value.int (Int32.ofInt (rx : Int))), (3, Value.int (Int32.ofInt (n : Int)))]) rfl ?_
    refine i_265_10 (x := 128) rfl ?_
    refine i_265_11 ?_
    refine i_265_12 (fs2 := mf (u1 (S1 128) 21 1)) hR.c128 rfl (Nat.le_of_ble_eq_true rfl) (mfs_21 (v := 1)) (by decide) ?_
    refine xgen (P := mR w0 (u2 S1 128 21 1) V1) hR.fld2 (fun w hR => ?_)
    refine i_265_15 (x := 128) rfl ?_
    refine i_265_16 (v := Value.ref 153) hR.c128 rfl ?_
    refine i_265_19 ?_
    refine i_265_21 (x := 128) rfl ?_
    refine i_265_22 (v := Value.ref 153) hR.c128 rfl ?_
    refine i_265_25 (x := Int32.ofInt r) rfl ?_
    refine i_265_26 (v := Value.int (Int32.ofInt (S 153 r.toNat))) (hR.row a153) (ix0 (T := r) (by omega) (by omega)) (ix1 (T := r) (by omega) (by omega) (by omega)) (ra (T := r) (by omega) (by omega) (hnS.1 _ _ (by decide))) ?_
    refine i_265_27 (v := Value.int (Int32.ofInt (S 153 r.toNat))) (hR.row a153) (by decide) (by decide) (by decide) rfl ?_
    refine xgen (P := mR w0 (u2 (u2 S1 128 21 1) 153 16 (S 153 r.toNat)) V1) (hR.arr (r := 16) a153 rfl) (fun w hR => ?_)
    refine i_265_28 (x := 128) rfl ?_
    refine i_265_29 (v := Value.int (Int32.ofInt (S1 128 19))) hR.c128 rfl ?_
    refine i_265_32 (lv2 := [(5, Value.int (Int32.ofInt (S1 128 19))), (4, Value.int (Int32.ofInt xx)), (0, Value.ref 128), (1, Value.int (Int32.ofInt r)), (2, Value.int (Int32.ofInt (rx : Int))), (3, Value.int (Int32.ofInt (n : Int)))]) rfl ?_
    refine i_265_34 (x := 128) rfl ?_
    refine i_265_35 (x := Int32.ofInt (rx : Int)) rfl ?_
    refine i_265_36 (x := Int32.ofInt xx) rfl ?_
    refine i_265_38 (x := Int32.ofInt (n : Int)) rfl ?_
    refine i_265_39 (c := Int32.ofInt (xx - (n : Int))) (o_sub xx (n : Int)) ?_
    refine i_265_40 (x := 128) rfl ?_
    refine i_265_41 (v := Value.ref 156) hR.c128 rfl ?_
    refine i_265_44 (x := Int32.ofInt r) rfl ?_
    refine i_265_45z (v := Value.int (Int32.ofInt (S 156 r.toNat))) (hR.row a156) (ix0 (T := r) (by omega) (by omega)) (ix1 (T := r) (by omega) (by omega) (by omega)) (ra (T := r) (by omega) (by omega) (hnS.1 _ _ (by decide))) ?_
    have hobj := hR.c128
    have f53 : (u2 (u2 S1 128 21 1) 153 16 (S 153 r.toNat)) 153 16 = S 153 r.toNat := by simp [u2_e]
    have f21 : (u2 (u2 S1 128 21 1) 153 16 (S 153 r.toNat)) 128 21 = 1 := by simp [u2_e]
    have f17 : (u2 (u2 S1 128 21 1) 153 16 (S 153 r.toNat)) 128 17 = S 128 17 := by simp [u2_e]; exact hnS.2 17 (by omega)
    have f18 : (u2 (u2 S1 128 21 1) 153 16 (S 153 r.toNat)) 128 18 = S 128 18 := by simp [u2_e]; exact hnS.2 18 (by omega)
    have f20 : (u2 (u2 S1 128 21 1) 153 16 (S 153 r.toNat)) 128 20 = S 128 20 := by simp [u2_e]; exact hnS.2 20 (by omega)
    obtain ⟨w, hrun, S9, V9, V8, more, m, e, hR, hv8, hP, hC, hmbb⟩ := s_sfree (d := d + 1) (rx := rx) (sc := xx - (n : Int)) (sg := S 156 r.toNat) (val := val) hR (by rw [f53]; exact hp_r) (by rw [f17, f18]; exact hi_l) (by rw [f20]; exact hi_g) f21 hn_r h129 hv0 (by omega) hrx (by omega) (hid.o hscb _ hxr)
    rw [f53, f17, f18, f20] at hP
    rw [f53] at hC
    obtain ⟨hm0, A, C, k, hC0, he, hm, hmo, hmb, hA⟩ := hC
    have hw := fr_w (E := (S 155 r.toNat - S 153 r.toNat)) (n := n) (by omega) hA hvv
    rw [← he] at hw
    have hfr := fr_iff (p := p) (least := S 128 17) (greatest := S 128 18) (gradual := S 128 20) (sg := S 156 r.toNat) (f := (u2 (u2 S1 128 21 1) 153 16 (S 153 r.toNat)) 128 19) (E := (S 155 r.toNat - S 153 r.toNat)) hC0 (fGn_pos (by omega)) (by omega) hm hm0 hmo (by rw [← hp]; exact hmb) (show xbl (V (160 + 2 * r.toNat)) = p by omega) hw
    have h3 := fr_3 (p := p) (m := m) (least := S 128 17) (greatest := S 128 18) (gradual := S 128 20) (sg := S 156 r.toNat) (more := more) (e := e) (f := (u2 (u2 S1 128 21 1) 153 16 (S 153 r.toNat)) 128 19) (by omega) hm0
    have hT := fr_T (p := p) (m := m) (least := S 128 17) (greatest := S 128 18) (gradual := S 128 20) (sg := S 156 r.toNat) (more := more) (e := e) (f := (u2 (u2 S1 128 21 1) 153 16 (S 153 r.toNat)) 128 19) (by omega) hm0
    have hcb := cb_X (M := V (160 + 2 * r.toNat)) (B := rx) (p := p) (E := (S 155 r.toNat - S 153 r.toNat)) (F := F) (ng := S 156 r.toNat) (n := (n : Int)) (by omega) (by omega)
    rw [← hp] at hfr h3 hcb hT
    rw [← hfr] at hcb
    clear hfr hw hA hmo hm
    generalize rnd (S 153 r.toNat) (S 128 17) (S 128 18) (S 128 20) 1 (S 156 r.toNat) 0 more m e ((u2 (u2 S1 128 21 1) 153 16 (S 153 r.toNat)) 128 19) = R9 at hP hcb h3 hT
    obtain ⟨K, T, m9, t9, Fx⟩ := R9
    obtain ⟨g1, g2, ⟨g3, -⟩, g4, g5, g6⟩ := hP
    have h3 : K = 3 := h3
    have hT : (xbl m : Int) + e - S 153 r.toNat ≤ T ∧ T ≤ (xbl m : Int) + e + 1 := hT
    have g1 : S9 154 16 = K := g1
    obtain ⟨g155, gV⟩ := g3 h3
    have g155 : S9 155 16 = T := g155
    have gV : V9 192 = m9 := gV
    have hcb : cbF (V (160 + 2 * r.toNat)) (S 155 r.toNat - S 153 r.toNat) rx F (S 156 r.toNat) (S 153 r.toNat) (n : Int) false = true ↔ (T = (S 155 r.toNat - S 153 r.toNat) + S 153 r.toNat ∧ m9 = V (160 + 2 * r.toNat)) := hcb
    have g155r : S9 155 r.toNat = S 155 r.toNat := (g5 _ _ (by omega) (by omega) (by omega) (by omega)).trans ((show (u2 (u2 S1 128 21 1) 153 16 (S 153 r.toNat)) 155 r.toNat = S1 155 r.toNat by simp [u2_e]).trans (hnS.1 _ _ (by decide)))
    have gVr : V9 (160 + 2 * r.toNat) = V (160 + 2 * r.toNat) := (g6 _ (by omega) (by omega) (by omega) (by omega) (by omega)).trans ((hv8 _ (by omega)).trans (hnV _ (by omega)))
    have hg5 := hid.i g5
    have hg6 := hid.i g6
    clear g3 g5 g6
    refine i_265_46 hobj (Nat.le_of_ble_eq_true rfl) hrun ?_
    refine i_265_49 (x := 128) rfl ?_
    refine i_265_50 (x := Int32.ofInt (S1 128 19)) rfl ?_
    refine i_265_52 (fs2 := mf (u1 (S9 128) 19 (S1 128 19))) hR.c128 (Nat.le_of_ble_eq_true rfl) (mfs_19 (v := S1 128 19)) (by decide) ?_
    refine xgen (P := mR w0 (u2 S9 128 19 (S1 128 19)) V9) hR.fld2 (fun w hR => ?_)
    refine i_265_55 (x := 128) rfl ?_
    refine i_265_56 ?_
    refine i_265_57 (fs2 := mf (u1 ((u2 S9 128 19 (S1 128 19)) 128) 21 0)) hR.c128 rfl (Nat.le_of_ble_eq_true rfl) (mfs_21 (v := 0)) (by decide) ?_
    refine xgen (P := mR w0 (u2 (u2 S9 128 19 (S1 128 19)) 128 21 0) V9) hR.fld2 (fun w hR => ?_)
    refine i_265_60 (x := 128) rfl ?_
    refine i_265_61 (v := Value.ref 154) hR.c128 rfl ?_
    refine i_265_64 ?_
    refine i_265_66 (v := Value.int (Int32.ofInt (S9 154 16))) (hR.row a154) (ix0 (T := 16) (by omega) (by omega)) (ix1 (T := 16) (by omega) (by omega) (by omega)) (ra (T := 16) (by omega) (by omega) rfl) ?_
    refine i_265_67 ?_
    refine i_265_68 (b_ne (a := S9 154 16) (b := 3) ⟨by omega, by omega⟩ ⟨by decide, by decide⟩ fun c0 => absurd c0 (by omega)) (b_eq (a := S9 154 16) (b := 3) ⟨by omega, by omega⟩ ⟨by decide, by decide⟩ fun c0 => ?_)
    refine i_265_71 (x := 128) rfl ?_
    refine i_265_72 (v := Value.ref 155) hR.c128 rfl ?_
    refine i_265_75 ?_
    refine i_265_77 (v := Value.int (Int32.ofInt T)) (hR.row a155) (ix0 (T := 16) (by omega) (by omega)) (ix1 (T := 16) (by omega) (by omega) (by omega)) (ra (T := 16) (by omega) (by omega) g155) ?_
    refine i_265_78 (x := 128) rfl ?_
    refine i_265_79 (v := Value.ref 155) hR.c128 rfl ?_
    refine i_265_82 (x := Int32.ofInt r) rfl ?_
    refine i_265_83 (v := Value.int (Int32.ofInt (S 155 r.toNat))) (hR.row a155) (ix0 (T := r) (by omega) (by omega)) (ix1 (T := r) (by omega) (by omega) (by omega)) (ra (T := r) (by omega) (by omega) g155r) ?_
    refine i_265_84 (b_ne (a := T) (b := S 155 r.toNat) ⟨by omega, by omega⟩ ⟨by omega, by omega⟩ fun c1 => ?_) (b_eq (a := T) (b := S 155 r.toNat) ⟨by omega, by omega⟩ ⟨by omega, by omega⟩ fun c1 => ?_)
    · refine i_265_110 ?_
      refine i_265_111 rfl ?_
      have er : cbF (V (160 + 2 * r.toNat)) (S 155 r.toNat - S 153 r.toNat) rx F (S 156 r.toNat) (S 153 r.toNat) (n : Int) false = false := Bool.eq_false_iff.mpr (fun c => by obtain ⟨z1, z2⟩ := hcb.mp c; omega)
      rw [er]
      refine ⟨rfl, _, _, hR, ?_, fun k k1 k2 => (hid.o hg6 k (by omega) (by omega) (by omega) (by omega) k2).trans ((hv8 k k1).trans (hnV k k1))⟩
      intro a j c1 c2
      rw [u2_e]
      by_cases e21 : a = 128 ∧ j = 21
      · rw [if_pos e21, e21.1, e21.2]
        exact hi_f.symm
      · rw [if_neg e21, u2_e]
        by_cases e19 : a = 128 ∧ j = 19
        · rw [if_pos e19, e19.1, e19.2]
          exact hnS.2 19 (by omega)
        · rw [if_neg e19, hid.o hg5 a j (by omega) (by omega) (by omega) e19, u2_e, if_neg (by omega), u2_e, if_neg e21]
          by_cases ha : a = 128
          · subst ha
            exact hnS.2 j (by omega)
          · exact hnS.1 a j ha
    · refine i_265_87 (x := 128) rfl ?_
      refine i_265_88 (v := Value.ref 157) hR.c128 rfl ?_
      refine i_265_91 ?_
      obtain ⟨gp, hgp, hgr⟩ := hR.part (j := 16) (by decide)
      refine i_265_93 (v := Value.ref 192) hgp (by decide) (by decide) hgr ?_
      refine i_265_94 (x := 128) rfl ?_
      refine i_265_95 (v := Value.ref 157) hR.c128 rfl ?_
      refine i_265_98 (x := Int32.ofInt r) rfl ?_
      obtain ⟨gp, hgp, hgr⟩ := hR.part (j := (r).toNat) (by omega)
      refine i_265_99 (v := Value.ref (160 + 2 * r.toNat)) hgp (ix0 (by omega) (by omega)) (ix1 (by omega) (by omega) (by omega)) (by rw [ixn (by omega) (by omega)]; exact hgr) ?_
      obtain ⟨fs, hobj⟩ := hR.obj (h := 192) (show isN 192 from iNp (r := 16) (by decide) (by decide))
      have hrun := r_cmp (d := d + 5) (v := m9) (v2 := V (160 + 2 * r.toNat)) hR (show isN 192 from iNp (r := 16) (by decide) (by decide)) (iNp (r := r) (by omega) (by omega)) (gV) (gVr)
      have hcm := ncmp_3 (m9) (V (160 + 2 * r.toNat))
      refine i_265_100 hobj (Nat.le_of_ble_eq_true rfl) hrun ?_
      refine i_265_103 (z_ne (a := ncmp m9 (V (160 + 2 * r.toNat))) ⟨by omega, by omega⟩ fun c2 => ?_) (z_eq (a := ncmp m9 (V (160 + 2 * r.toNat))) ⟨by omega, by omega⟩ fun c2 => ?_)
      · refine i_265_110 ?_
        refine i_265_111 rfl ?_
        have er : cbF (V (160 + 2 * r.toNat)) (S 155 r.toNat - S 153 r.toNat) rx F (S 156 r.toNat) (S 153 r.toNat) (n : Int) false = false := Bool.eq_false_iff.mpr (fun c => by obtain ⟨z1, z2⟩ := hcb.mp c; omega)
        rw [er]
        refine ⟨rfl, _, _, hR, ?_, fun k k1 k2 => (hid.o hg6 k (by omega) (by omega) (by omega) (by omega) k2).trans ((hv8 k k1).trans (hnV k k1))⟩
        intro a j c1 c2
        rw [u2_e]
        by_cases e21 : a = 128 ∧ j = 21
        · rw [if_pos e21, e21.1, e21.2]
          exact hi_f.symm
        · rw [if_neg e21, u2_e]
          by_cases e19 : a = 128 ∧ j = 19
          · rw [if_pos e19, e19.1, e19.2]
            exact hnS.2 19 (by omega)
          · rw [if_neg e19, hid.o hg5 a j (by omega) (by omega) (by omega) e19, u2_e, if_neg (by omega), u2_e, if_neg e21]
            by_cases ha : a = 128
            · subst ha
              exact hnS.2 j (by omega)
            · exact hnS.1 a j ha
      · refine i_265_106 ?_
        refine i_265_107 ?_
        refine i_265_111 rfl ?_
        have er : cbF (V (160 + 2 * r.toNat)) (S 155 r.toNat - S 153 r.toNat) rx F (S 156 r.toNat) (S 153 r.toNat) (n : Int) false = true := hcb.mpr ⟨by omega, by omega⟩
        rw [er]
        refine ⟨rfl, _, _, hR, ?_, fun k k1 k2 => (hid.o hg6 k (by omega) (by omega) (by omega) (by omega) k2).trans ((hv8 k k1).trans (hnV k k1))⟩
        intro a j c1 c2
        rw [u2_e]
        by_cases e21 : a = 128 ∧ j = 21
        · rw [if_pos e21, e21.1, e21.2]
          exact hi_f.symm
        · rw [if_neg e21, u2_e]
          by_cases e19 : a = 128 ∧ j = 19
          · rw [if_pos e19, e19.1, e19.2]
            exact hnS.2 19 (by omega)
          · rw [if_neg e19, hid.o hg5 a j (by omega) (by omega) (by omega) e19, u2_e, if_neg (by omega), u2_e, if_neg e21]
            by_cases ha : a = 128
            · subst ha
              exact hnS.2 j (by omega)
            · exact hnS.1 a j ha
  obtain ⟨o, w', h1, rfl, h2⟩ := key.run
  exact ⟨w', h1, h2⟩
end
