/-! asLong, toLong of the class -/
theorem q_shlZ {t : Int} {p : Int32} {q : Nat} (hp : p.toInt = q) (p1 : q < 64) : Int64.ofInt t <<< (p.toInt64 &&& 63) = Int64.ofInt (t * 2 ^ q) := by
  have e := xof_nat (p := p) (by omega)
  have ha := xamt p.toInt.toNat (by omega)
  rw [← e, show p.toInt.toNat = q by omega] at ha
  apply xul_inj
  have h1 : xul (Int64.ofInt t <<< (p.toInt64 &&& 63)) = xul (Int64.ofInt t) * 2 ^ q % 2 ^ 64 := by
    show ((Int64.ofInt t).toBitVec <<< ((p.toInt64 &&& 63).toBitVec.smod 64)).toNat = _
    rw [ha, BitVec.shiftLeft_eq', BitVec.toNat_ofNat, BitVec.toNat_shiftLeft, Nat.mod_eq_of_lt (show q < 2 ^ 64 by omega), Nat.shiftLeft_eq]
    rfl
  have h2 := xul_m t
  have h3 := xul_m (t * 2 ^ q)
  have h4 : (t * 2 ^ q) % 18446744073709551616 = ((t % 18446744073709551616) * 2 ^ q) % 18446744073709551616 := by rw [Int.mul_emod t, Int.mul_emod (t % 18446744073709551616) (2 ^ q), Int.emod_emod]
  rw [h4, ← h2] at h3
  apply Int.ofNat.inj
  show (xul _ : Int) = (xul _ : Int)
  rw [h3, h1]
  simp [Int.natCast_mul, Int.natCast_pow]
theorem q_join64 {v : Nat} : Int64.ofInt (bfn v 0 : Nat) ||| ((Int32.ofInt (bfn v 32 : Nat)).toInt64 <<< ((32 : Int32).toInt64 &&& 63)) = Int64.ofInt ((v % 2 ^ 64 : Nat) : Int) := by
  have h0 := bfn_lt (v := v) (p := 0)
  have h2 := bfn_lt (v := v) (p := 32)
  have e0 : bfn v 0 = v % 4294967296 := by unfold bfn; rw [if_pos (by decide), show (0 : Int).toNat = 0 from rfl, Nat.pow_zero, Nat.div_one]
  have e2 : bfn v 32 = v / 4294967296 % 4294967296 := by unfold bfn; rw [if_pos (by decide)]; rfl
  have hs : (Int32.ofInt (bfn v 32 : Nat)).toInt64 <<< ((32 : Int32).toInt64 &&& 63) = Int64.ofInt ((bfn v 32 * 2 ^ 32 : Nat) : Int) := by
    have e : (Int32.ofInt (bfn v 32 : Nat)).toInt64 = Int64.ofInt ((Int32.ofInt (bfn v 32 : Nat)).toInt) := by
      apply Int64.toInt.inj
      rw [Int32.toInt_toInt64, Int64.toInt_ofInt]
      have h5 := (Int32.ofInt (bfn v 32 : Nat)).toInt_lt
      have h6 := (Int32.ofInt (bfn v 32 : Nat)).le_toInt
      exact (Int.bmod_eq_of_le (by show -9223372036854775808 ≤ _; omega) (by show _ < 9223372036854775808; omega)).symm
    rw [e, q_shlZ (q := 32) rfl (by decide)]
    apply xul_inj
    have h3 := xul_m ((Int32.ofInt (bfn v 32 : Nat)).toInt * 2 ^ 32)
    have h4 := xul_m ((bfn v 32 * 2 ^ 32 : Nat) : Int)
    have h5 := xun_m (bfn v 32 : Nat)
    have h6 := xun_int (Int32.ofInt (bfn v 32 : Nat))
    split at h6 <;> omega
  have hx := q_or32 (y := bfn v 32) (c := bfn v 0) h2 h0
  rw [hs]
  apply xul_inj
  rw [xul_or, Nat.or_comm, ← xul_or, hx, e0, e2]
  congr 2
  omega
section
variable {w0 w : xW} {L Z : Nat} {S : Nat → Nat → Int} {V : Nat → Nat} {d h t r : Nat}
theorem x_asL (hR : cX w0 L Z S V w) (hn : S 16 0 = 0 ∨ S 16 0 = 1) (hsc : 0 ≤ S 16 2 ∧ S 16 2 ≤ 300000) (hmb : (xbl (V 17) : Int) + S 16 2 ≤ 300000) : ∃ w', xRun (d + 4) 135 [Value.ref 16] w (.inl (some (.long (Int64.ofInt (if S 16 0 = 0 then ((V 17 * 2 ^ (S 16 2).toNat % 2 ^ 64 : Nat) : Int) else -((V 17 * 2 ^ (S 16 2).toNat % 2 ^ 64 : Nat) : Int)))))) w' ∧ cX w0 L Z (u2 S 16 2 0) (uv V 17 (V 17 * 2 ^ (S 16 2).toNat)) w' := by
  have key : ∀ lv, xld lv 0 = some (Value.ref 16) → xEv (d + 4) 135 0 lv [] w (fun o w' => o = .inl (some (.long (Int64.ofInt (if S 16 0 = 0 then ((V 17 * 2 ^ (S 16 2).toNat % 2 ^ 64 : Nat) : Int) else -((V 17 * 2 ^ (S 16 2).toNat % 2 ^ 64 : Nat) : Int))))) ∧ cX w0 L Z (u2 S 16 2 0) (uv V 17 (V 17 * 2 ^ (S 16 2).toNat)) w') := by
    intro lv l0
    refine i_135_0 (x := 16) l0 ?_
    refine i_135_1 (v := Value.ref 17) (hR.k4 kq_16) rfl ?_
    refine i_135_4 (x := 16) l0 ?_
    refine i_135_5 (v := Value.ref 17) (hR.k4 kq_16) rfl ?_
    refine i_135_8 (x := 16) l0 ?_
    refine i_135_9 (v := Value.int (Int32.ofInt (S 16 2))) (hR.k4 kq_16) rfl ?_
    obtain ⟨fs, hobj⟩ := hR.nat kq_17
    obtain ⟨w, hrun, hR⟩ := X_shift (d := d) (h := 17) (h2 := 17) (u := V 17) (k := S 16 2) hR kq_17 kq_17 (rfl) (by omega) (by omega)
    rw [shf_nn (by omega)] at hR
    refine i_135_12 hobj (Nat.le_of_ble_eq_true rfl) hrun ?_
    refine i_135_15 (x := 16) l0 ?_
    refine i_135_16 ?_
    refine i_135_17 (fs2 := f4 16 (u1 (S 16) 2 0)) (hR.k4 kq_16) (Nat.le_of_ble_eq_true rfl) rfl (h7k kq_16 (by decide)) ?_
    refine xgen (P := cX w0 L Z (u2 S 16 2 0) (uv V 17 (V 17 * 2 ^ (S 16 2).toNat))) (hR.p4 kq_16) (fun w hR => ?_)
    refine i_135_20 (x := 16) l0 ?_
    refine i_135_21 (v := Value.ref 17) (hR.k4 kq_16) rfl ?_
    refine i_135_24 ?_
    obtain ⟨fs, hobj⟩ := hR.nat kq_17
    have hrun := X_bf (d := d + 3) (h := 17) (u := V 17 * 2 ^ (S 16 2).toNat) (p := 0) hR kq_17 (uv_s) ⟨by omega, by omega⟩
    refine i_135_25 hobj (Nat.le_of_ble_eq_true rfl) hrun ?_
    refine i_135_28 rfl ?_
    refine i_135_29 ?_
    refine i_135_32 (c := Int64.ofInt (bfn (V 17 * 2 ^ (S 16 2).toNat) 0 : Int)) lowbf ?_
    refine i_135_33 (x := 16) l0 ?_
    refine i_135_34 (v := Value.ref 17) (hR.k4 kq_16) rfl ?_
    refine i_135_37 ?_
    obtain ⟨fs, hobj⟩ := hR.nat kq_17
    have hrun := X_bf (d := d + 3) (h := 17) (u := V 17 * 2 ^ (S 16 2).toNat) (p := 32) hR kq_17 (uv_s) ⟨by omega, by omega⟩
    refine i_135_39 hobj (Nat.le_of_ble_eq_true rfl) hrun ?_
    refine i_135_42 rfl ?_
    refine i_135_43 ?_
    refine i_135_45 rfl ?_
    refine i_135_46 (c := Int64.ofInt ((V 17 * 2 ^ (S 16 2).toNat % 2 ^ 64 : Nat) : Int)) q_join64 ?_
    refine i_135_47 rfl ?_
    refine lgen2 (i := 1) (v := Value.long (Int64.ofInt ((V 17 * 2 ^ (S 16 2).toNat % 2 ^ 64 : Nat) : Int))) (fun lv lg ls => ?_)
    replace l0 := lg 0 _ rfl rfl l0
    have l1 := ls
    refine i_135_48 (x := 16) l0 ?_
    refine i_135_49 (v := Value.int (Int32.ofInt ((u2 S 16 2 0) 16 0))) (hR.k4 kq_16) rfl ?_
    rw [show Int32.ofInt ((u2 S 16 2 0) 16 0) = Int32.ofInt (S 16 0) by rw [u2_eq, if_neg (fun e => absurd e.2 (by decide))]]
    refine i_135_52 (z_eq (a := S 16 0) ⟨by omega, by omega⟩ fun c0 => ?_) (z_ne (a := S 16 0) ⟨by omega, by omega⟩ fun c0 => ?_)
    · refine i_135_60 (x := Int64.ofInt ((V 17 * 2 ^ (S 16 2).toNat % 2 ^ 64 : Nat) : Int)) l1 ?_
      refine i_135_61 ?_
      exact ⟨by rw [if_pos (by omega)], hR⟩
    · refine i_135_55 (x := Int64.ofInt ((V 17 * 2 ^ (S 16 2).toNat % 2 ^ 64 : Nat) : Int)) l1 ?_
      refine i_135_56 (c := Int64.ofInt (-((V 17 * 2 ^ (S 16 2).toNat % 2 ^ 64 : Nat) : Int))) (q_neg ((V 17 * 2 ^ (S 16 2).toNat % 2 ^ 64 : Nat) : Int)) ?_
      refine i_135_57 ?_
      refine i_135_61 ?_
      exact ⟨by rw [if_neg (by omega)], hR⟩
  obtain ⟨o, w', h1, rfl, h2⟩ := (key (lv_args 0 [Value.ref 16]) rfl).run
  exact ⟨w', h1, h2⟩
def rtiS (sc : Int) : Int := if sc < 0 then 0 else sc
def rtiM (m : Nat) (sc more ng mode : Int) : Nat := if sc < 0 then m / 2 ^ (-sc).toNat + (bb (gU m (0 - sc) more ng mode (bb (nbit m (0 - sc))))).toNat else m
theorem x_rti {mode : Int} (hR : cX w0 L Z S V w) (hn : S 16 0 = 0 ∨ S 16 0 = 1) (hm3 : S 16 3 = 0 ∨ S 16 3 = 1) (hmo : 0 ≤ mode ∧ mode ≤ 4) (hsc : -300000 ≤ S 16 2 ∧ S 16 2 ≤ 300000) (hmb : xbl (V 17) ≤ 600000) : ∃ w', xRun (d + 5) 108 [Value.ref 16, Value.int (Int32.ofInt mode)] w (.inl none) w' ∧ cX w0 L Z (u2 S 16 2 (rtiS (S 16 2))) (uv V 17 (rtiM (V 17) (S 16 2) (S 16 3) (S 16 0) mode)) w' := by
  by_cases g : S 16 2 < 0
  · unfold rtiS rtiM
    rw [if_pos g, if_pos g]
    exact x_rti1 hR g hn hm3 hmo hsc hmb
  · unfold rtiS rtiM
    rw [if_neg g, if_neg g, u2_id, uv_id]
    exact x_rti0 (d := d + 5) hR (by omega) hsc.2
theorem rti_bl {m : Nat} {sc more ng mode : Int} : xbl (rtiM m sc more ng mode) ≤ xbl m + 1 := by
  unfold rtiM
  split
  · have h1 : (bb (gU m (0 - sc) more ng mode (bb (nbit m (0 - sc))))).toNat ≤ 1 := by cases gU m (0 - sc) more ng mode (bb (nbit m (0 - sc))) <;> decide
    refine xbl_le ?_
    have h2 : m / 2 ^ (-sc).toNat ≤ m := Nat.div_le_self _ _
    have h3 := xbl_lt m
    rw [Nat.pow_succ]
    omega
  · omega
theorem isL_ok {m : Nat} {k ng : Int} (hk : 0 ≤ k) : isL m k ng = true ↔ (xbl (m * 2 ^ k.toNat) ≤ 63 ∨ (ng ≠ 0 ∧ xbl (m * 2 ^ k.toNat) = 64 ∧ nany (m * 2 ^ k.toNat) 63 = false)) := by
  unfold isL
  by_cases g : m = 0
  · subst g
    simp [xbl_zero]
  · have e : xbl (m * 2 ^ k.toNat) = xbl m + k.toNat := by have := xbl_mul (n := m) (r := 0) (k := k.toNat) g (Nat.two_pow_pos _); rw [Nat.add_zero] at this; exact this
    rw [e]
    by_cases g2 : (xbl m : Int) + k = 64
    · have e2 : nany (m * 2 ^ k.toNat) 63 = nany m ((xbl m : Int) - 1) := by rw [show (63 : Int) = ((xbl m : Int) - 1) + (k.toNat : Nat) by omega]; exact nany_sc
      have e3 : xbl m + k.toNat = 64 := by omega
      rw [e2, e3]
      by_cases g3 : ng = 0 <;> simp [g, g2, g3]
    · have e3 : xbl m + k.toNat ≠ 64 := by omega
      have e4 : (xbl m : Int) + k ≤ 63 ↔ xbl m + k.toNat ≤ 63 := by omega
      simp [g, g2, e3, e4]
theorem tl_view {r : Nat} {mode : Int} : tlX (vS S) (vV V) r mode = rtiM (V (30 + 3 * r + 1)) (S (30 + 3 * r) 3 - S (30 + 3 * r) 0) 0 (S (30 + 3 * r) 2) mode * 2 ^ (rtiS (S (30 + 3 * r) 3 - S (30 + 3 * r) 0)).toNat := by
  unfold tlX rtiM rtiS
  rw [vV_r]
  show (if S (30 + 3 * r) 3 - S (30 + 3 * r) 0 < 0 then _ else _) = _
  by_cases g : S (30 + 3 * r) 3 - S (30 + 3 * r) 0 < 0
  · rw [if_pos g, if_pos g, if_pos g, show (0 : Int).toNat = 0 from rfl, Nat.pow_zero, Nat.mul_one, Int.zero_sub]
    rfl
  · rw [if_neg g, if_neg g, if_neg g]
    rfl
theorem tl_isL {r : Nat} {mode : Int} : isL (rtiM (V (30 + 3 * r + 1)) (S (30 + 3 * r) 3 - S (30 + 3 * r) 0) 0 (S (30 + 3 * r) 2) mode) (rtiS (S (30 + 3 * r) 3 - S (30 + 3 * r) 0)) (S (30 + 3 * r) 2) = true ↔ tlOk (vS S) (vV V) r mode := by
  rw [isL_ok (by unfold rtiS; split <;> omega)]
  unfold tlOk
  rw [tl_view]
  rfl
set_option maxHeartbeats 4000000 in
theorem x_tol {r mode : Int} (hR : cX w0 L Z S V w) (hI : cI S V) (hr : 0 ≤ r ∧ r ≤ 15) (hmo : 0 ≤ mode ∧ mode ≤ 4) (hok : S (30 + 3 * r.toNat) 1 = 2 ∨ (S (30 + 3 * r.toNat) 1 = 3 ∧ S (30 + 3 * r.toNat) 3 ≤ 64 ∧ hid (tlOk (vS S) (vV V) r.toNat mode))) : ∃ w', xRun (d + 6) 133 [Value.ref 7, Value.int (Int32.ofInt r), Value.int (Int32.ofInt mode)] w (.inl (some (.long (Int64.ofInt (if S (30 + 3 * r.toNat) 1 = 2 then (0 : Int) else if S (30 + 3 * r.toNat) 2 = 0 then ((tlX (vS S) (vV V) r.toNat mode % 2 ^ 64 : Nat) : Int) else -((tlX (vS S) (vV V) r.toNat mode % 2 ^ 64 : Nat) : Int)))))) w' ∧ ∃ S' V', cX w0 L Z S' V' w' ∧ nC S S' ∧ nW V V' := by
  have key : ∀ lv, xld lv 0 = some (Value.ref 7) → xld lv 1 = some (Value.int (Int32.ofInt r)) → xld lv 2 = some (Value.int (Int32.ofInt mode)) → xEv (d + 6) 133 0 lv [] w (fun o w' => o = .inl (some (.long (Int64.ofInt (if S (30 + 3 * r.toNat) 1 = 2 then (0 : Int) else if S (30 + 3 * r.toNat) 2 = 0 then ((tlX (vS S) (vV V) r.toNat mode % 2 ^ 64 : Nat) : Int) else -((tlX (vS S) (vV V) r.toNat mode % 2 ^ 64 : Nat) : Int))))) ∧ ∃ S' V', cX w0 L Z S' V' w' ∧ nC S S' ∧ nW V V') := by
    intro lv l0 l1 l2
    obtain ⟨hp_r, hk_r, hn_r, ht_r, hx_r, hz_r⟩ := hI.1 r.toNat (by omega)
    have hi_l := hI.2.1
    have hi_g := hI.2.2.1
    refine i_133_0 (x := Int32.ofInt r) l1 ?_
    have hrun := x_noReg (d := d + 5) (w := w) (r := r) ⟨by omega, by omega⟩
    rw [show (decide (r < 0) || decide (16 ≤ r)) = false from by simp; omega] at hrun
    refine i_133_1 (Nat.le_of_ble_eq_true rfl) hrun ?_
    refine i_133_4 (fun c => absurd c (by decide)) (fun _ => ?_)
    refine i_133_7 (x := Int32.ofInt mode) l2 ?_
    have hrun := x_noMode (d := d + 5) (w := w) (m := mode) ⟨by omega, by omega⟩
    rw [show (decide (mode < 0) || decide (4 < mode)) = false from by simp; omega] at hrun
    refine i_133_8 (Nat.le_of_ble_eq_true rfl) hrun ?_
    refine i_133_11 (fun _ => ?_) (fun c => absurd c (by decide))
    refine i_133_22 (x := 7) l0 ?_
    refine i_133_23 (v := Value.ref 8) (hR.k0 kq_7) rfl ?_
    refine i_133_26 (x := Int32.ofInt r) l1 ?_
    obtain ⟨gr, hgr, hge⟩ := hR.regs
    refine i_133_27 (v := Value.ref (30 + 3 * r.toNat)) hgr (ix0 (T := r) (by omega) (by omega)) (ix1 (T := r) (by omega) (by omega) (by omega)) (by rw [ixn (T := r) (by omega) (by omega)]; exact hge _ (by omega)) ?_
    refine i_133_28 rfl ?_
    refine lgen1 (i := 3) (v := Value.ref (30 + 3 * r.toNat)) (fun lv lg ls => ?_)
    replace l0 := lg 0 _ rfl rfl l0
    replace l1 := lg 1 _ rfl rfl l1
    replace l2 := lg 2 _ rfl rfl l2
    have l3 := ls
    refine i_133_29 (x := 30 + 3 * r.toNat) l3 ?_
    refine i_133_30 (v := Value.int (Int32.ofInt (S (30 + 3 * r.toNat) 1))) (hR.k2 (kd_reg (r := r.toNat) (by omega))) rfl ?_
    refine i_133_33 ?_
    refine i_133_34 (b_ne (a := S (30 + 3 * r.toNat) 1) (b := 2) ⟨by omega, by omega⟩ ⟨by decide, by decide⟩ fun c0 => ?_) (b_eq (a := S (30 + 3 * r.toNat) 1) (b := 2) ⟨by omega, by omega⟩ ⟨by decide, by decide⟩ fun c0 => ?_)
    · refine i_133_39 ?_
      refine i_133_40 rfl ?_
      refine lgen1 (i := 4) (v := Value.int 0) (fun lv lg ls => ?_)
      replace l3 := lg 3 _ rfl rfl l3
      replace l0 := lg 0 _ rfl rfl l0
      replace l1 := lg 1 _ rfl rfl l1
      replace l2 := lg 2 _ rfl rfl l2
      have l4 := ls
      refine i_133_42 (x := 30 + 3 * r.toNat) l3 ?_
      refine i_133_43 (v := Value.int (Int32.ofInt (S (30 + 3 * r.toNat) 1))) (hR.k2 (kd_reg (r := r.toNat) (by omega))) rfl ?_
      refine i_133_46 ?_
      refine i_133_47 (b_ne (a := S (30 + 3 * r.toNat) 1) (b := 3) ⟨by omega, by omega⟩ ⟨by decide, by decide⟩ fun c1 => ?_) (b_eq (a := S (30 + 3 * r.toNat) 1) (b := 3) ⟨by omega, by omega⟩ ⟨by decide, by decide⟩ fun c1 => ?_)
      · refine i_133_84 (x := 0) l4 ?_
        refine i_133_86 (fun c => absurd c (by decide)) (fun _ => ?_)
        refine i_133_89 (x := 7) l0 ?_
        refine i_133_90 (v := Value.ref 78) (hR.k0 kq_7) rfl ?_
        refine i_133_93 rfl ?_
        refine i_133_94 (v := Value.int (Int32.ofInt (S 78 3))) (hR.k1 kq_78) rfl ?_
        refine i_133_97 ?_
        refine i_133_99 (c := Int32.ofInt (zor (S 78 3) 32)) (o_or (S 78 3) 32) ?_
        refine i_133_100 (fs2 := f1 (u1 (S 78) 3 (zor (S 78 3) 32))) (hR.k1 kq_78) (Nat.le_of_ble_eq_true rfl) rfl (h7k kq_78 (by decide)) ?_
        refine xgen (P := cX w0 L Z (u2 S 78 3 (zor (S 78 3) 32)) V) (hR.p1 kq_78) (fun w hR => ?_)
        refine i_133_103 (by omega) (Nat.le_of_ble_eq_true rfl) ?_
        exfalso; omega
      · try replace ht_r := ht_r.resolve_left (by omega)
        try replace hx_r := hx_r.resolve_left (by omega)
        refine i_133_50 (x := 30 + 3 * r.toNat) l3 ?_
        refine i_133_51 (v := Value.int (Int32.ofInt (S (30 + 3 * r.toNat) 3))) (hR.k2 (kd_reg (r := r.toNat) (by omega))) rfl ?_
        refine i_133_54 ?_
        refine i_133_56 (b_lt (a := 64) (b := S (30 + 3 * r.toNat) 3) ⟨by decide, by decide⟩ ⟨by omega, by omega⟩ fun c2 => ?_) (b_le (a := S (30 + 3 * r.toNat) 3) (b := 64) ⟨by omega, by omega⟩ ⟨by decide, by decide⟩ fun c2 => ?_)
        · refine i_133_84 (x := 0) l4 ?_
          refine i_133_86 (fun c => absurd c (by decide)) (fun _ => ?_)
          refine i_133_89 (x := 7) l0 ?_
          refine i_133_90 (v := Value.ref 78) (hR.k0 kq_7) rfl ?_
          refine i_133_93 rfl ?_
          refine i_133_94 (v := Value.int (Int32.ofInt (S 78 3))) (hR.k1 kq_78) rfl ?_
          refine i_133_97 ?_
          refine i_133_99 (c := Int32.ofInt (zor (S 78 3) 32)) (o_or (S 78 3) 32) ?_
          refine i_133_100 (fs2 := f1 (u1 (S 78) 3 (zor (S 78 3) 32))) (hR.k1 kq_78) (Nat.le_of_ble_eq_true rfl) rfl (h7k kq_78 (by decide)) ?_
          refine xgen (P := cX w0 L Z (u2 S 78 3 (zor (S 78 3) 32)) V) (hR.p1 kq_78) (fun w hR => ?_)
          refine i_133_103 (by omega) (Nat.le_of_ble_eq_true rfl) ?_
          exfalso; omega
        · refine i_133_59 (x := 7) l0 ?_
          refine i_133_60 (v := Value.ref 16) (hR.k0 kq_7) rfl ?_
          refine i_133_63 (x := 30 + 3 * r.toNat) l3 ?_
          have hobj := hR.k4 kq_16
          have ep : S (30 + 3 * r.toNat) 0 = S (30 + 3 * r.toNat) 0 := rfl
          have en : S (30 + 3 * r.toNat) 2 = S (30 + 3 * r.toNat) 2 := rfl
          have ex : S (30 + 3 * r.toNat) 3 = S (30 + 3 * r.toNat) 3 := rfl
          have ev : V ((30 + 3 * r.toNat) + 1) = V ((30 + 3 * r.toNat) + 1) := rfl
          obtain ⟨w, hrun, hR⟩ := x_tn (d := d + 1) (h := 16) (t := 30 + 3 * r.toNat) hR kq_16 (kd_reg (r := r.toNat) (by omega)) (by rw [en]; omega) (by rw [ev]; omega)
          rw [ep, en, ex, ev] at hR
          refine i_133_64 hobj (Nat.le_of_ble_eq_true rfl) hrun ?_
          refine i_133_67 (x := 7) l0 ?_
          refine i_133_68 (v := Value.ref 16) (hR.k0 kq_7) rfl ?_
          refine i_133_71 (x := Int32.ofInt mode) l2 ?_
          have hobj := hR.k4 kq_16
          have es : (u2 (u2 (u2 S 16 0 (S (30 + 3 * r.toNat) 2)) 16 2 ((S (30 + 3 * r.toNat) 3) - (S (30 + 3 * r.toNat) 0))) 16 3 0) 16 0 = S (30 + 3 * r.toNat) 2 := by rw [u2_eq, if_neg (fun e => absurd e.2 (by decide)), u2_eq, if_neg (fun e => absurd e.2 (by decide)), u2_eq, if_pos ⟨rfl, rfl⟩]
          have ec : (u2 (u2 (u2 S 16 0 (S (30 + 3 * r.toNat) 2)) 16 2 ((S (30 + 3 * r.toNat) 3) - (S (30 + 3 * r.toNat) 0))) 16 3 0) 16 2 = (S (30 + 3 * r.toNat) 3) - (S (30 + 3 * r.toNat) 0) := by rw [u2_eq, if_neg (fun e => absurd e.2 (by decide)), u2_eq, if_pos ⟨rfl, rfl⟩]
          have em : (u2 (u2 (u2 S 16 0 (S (30 + 3 * r.toNat) 2)) 16 2 ((S (30 + 3 * r.toNat) 3) - (S (30 + 3 * r.toNat) 0))) 16 3 0) 16 3 = 0 := by rw [u2_eq, if_pos ⟨rfl, rfl⟩]
          have ev : (uv V 17 (V ((30 + 3 * r.toNat) + 1))) 17 = V ((30 + 3 * r.toNat) + 1) := uv_s
          obtain ⟨w, hrun, hR⟩ := x_rti (d := d) (mode := mode) hR (by rw [es]; omega) (by rw [em]; omega) (by omega) (by rw [ec]; omega) (by rw [ev]; omega)
          rw [es, ec, em, ev] at hR
          have hrb := rti_bl (m := V ((30 + 3 * r.toNat) + 1)) (sc := (S (30 + 3 * r.toNat) 3) - (S (30 + 3 * r.toNat) 0)) (more := 0) (ng := S (30 + 3 * r.toNat) 2) (mode := mode)
          have hrs : 0 ≤ rtiS ((S (30 + 3 * r.toNat) 3) - (S (30 + 3 * r.toNat) 0)) ∧ rtiS ((S (30 + 3 * r.toNat) 3) - (S (30 + 3 * r.toNat) 0)) ≤ 70 := by unfold rtiS; split <;> omega
          rw [uvv] at hR
          refine i_133_72 hobj (Nat.le_of_ble_eq_true rfl) hrun ?_
          refine i_133_75 (x := 7) l0 ?_
          refine i_133_76 (v := Value.ref 16) (hR.k0 kq_7) rfl ?_
          have hobj := hR.k4 kq_16
          have es : (u2 (u2 (u2 (u2 S 16 0 (S (30 + 3 * r.toNat) 2)) 16 2 ((S (30 + 3 * r.toNat) 3) - (S (30 + 3 * r.toNat) 0))) 16 3 0) 16 2 (rtiS ((S (30 + 3 * r.toNat) 3) - (S (30 + 3 * r.toNat) 0)))) 16 0 = S (30 + 3 * r.toNat) 2 := by rw [u2_eq, if_neg (fun e => absurd e.2 (by decide)), u2_eq, if_neg (fun e => absurd e.2 (by decide)), u2_eq, if_neg (fun e => absurd e.2 (by decide)), u2_eq, if_pos ⟨rfl, rfl⟩]
          have ec : (u2 (u2 (u2 (u2 S 16 0 (S (30 + 3 * r.toNat) 2)) 16 2 ((S (30 + 3 * r.toNat) 3) - (S (30 + 3 * r.toNat) 0))) 16 3 0) 16 2 (rtiS ((S (30 + 3 * r.toNat) 3) - (S (30 + 3 * r.toNat) 0)))) 16 2 = rtiS ((S (30 + 3 * r.toNat) 3) - (S (30 + 3 * r.toNat) 0)) := by rw [u2_eq, if_pos ⟨rfl, rfl⟩]
          have ev : (uv V 17 (rtiM (V ((30 + 3 * r.toNat) + 1)) ((S (30 + 3 * r.toNat) 3) - (S (30 + 3 * r.toNat) 0)) 0 (S (30 + 3 * r.toNat) 2) mode)) 17 = rtiM (V ((30 + 3 * r.toNat) + 1)) ((S (30 + 3 * r.toNat) 3) - (S (30 + 3 * r.toNat) 0)) 0 (S (30 + 3 * r.toNat) 2) mode := uv_s
          have hrun := x_isL (d := d + 2) hR (by rw [es]; omega) (by rw [ec]; omega) (by rw [ev]; omega)
          rw [es, ec, ev] at hrun
          rw [show isL (rtiM (V ((30 + 3 * r.toNat) + 1)) ((S (30 + 3 * r.toNat) 3) - (S (30 + 3 * r.toNat) 0)) 0 (S (30 + 3 * r.toNat) 2) mode) (rtiS ((S (30 + 3 * r.toNat) 3) - (S (30 + 3 * r.toNat) 0))) (S (30 + 3 * r.toNat) 2) = true from tl_isL.mpr ((hok.resolve_left (by omega)).2.2)] at hrun
          refine i_133_79 hobj (Nat.le_of_ble_eq_true rfl) hrun ?_
          refine i_133_82 rfl ?_
          refine lgen1 (i := 4) (v := Value.int 1) (fun lv lg ls => ?_)
          replace l3 := lg 3 _ rfl rfl l3
          replace l0 := lg 0 _ rfl rfl l0
          replace l1 := lg 1 _ rfl rfl l1
          replace l2 := lg 2 _ rfl rfl l2
          have l4 := ls
          refine i_133_84 (x := 1) l4 ?_
          refine i_133_86 (fun _ => ?_) (fun c => absurd c (by decide))
          refine i_133_111 (x := 7) l0 ?_
          refine i_133_112 (v := Value.ref 16) (hR.k0 kq_7) rfl ?_
          have hobj := hR.k4 kq_16
          have es : (u2 (u2 (u2 (u2 S 16 0 (S (30 + 3 * r.toNat) 2)) 16 2 ((S (30 + 3 * r.toNat) 3) - (S (30 + 3 * r.toNat) 0))) 16 3 0) 16 2 (rtiS ((S (30 + 3 * r.toNat) 3) - (S (30 + 3 * r.toNat) 0)))) 16 0 = S (30 + 3 * r.toNat) 2 := by rw [u2_eq, if_neg (fun e => absurd e.2 (by decide)), u2_eq, if_neg (fun e => absurd e.2 (by decide)), u2_eq, if_neg (fun e => absurd e.2 (by decide)), u2_eq, if_pos ⟨rfl, rfl⟩]
          have ec : (u2 (u2 (u2 (u2 S 16 0 (S (30 + 3 * r.toNat) 2)) 16 2 ((S (30 + 3 * r.toNat) 3) - (S (30 + 3 * r.toNat) 0))) 16 3 0) 16 2 (rtiS ((S (30 + 3 * r.toNat) 3) - (S (30 + 3 * r.toNat) 0)))) 16 2 = rtiS ((S (30 + 3 * r.toNat) 3) - (S (30 + 3 * r.toNat) 0)) := by rw [u2_eq, if_pos ⟨rfl, rfl⟩]
          have ev : (uv V 17 (rtiM (V ((30 + 3 * r.toNat) + 1)) ((S (30 + 3 * r.toNat) 3) - (S (30 + 3 * r.toNat) 0)) 0 (S (30 + 3 * r.toNat) 2) mode)) 17 = rtiM (V ((30 + 3 * r.toNat) + 1)) ((S (30 + 3 * r.toNat) 3) - (S (30 + 3 * r.toNat) 0)) 0 (S (30 + 3 * r.toNat) 2) mode := uv_s
          obtain ⟨w, hrun, hR⟩ := x_asL (d := d + 1) hR (by rw [es]; omega) (by rw [ec]; omega) (by rw [ev, ec]; omega)
          rw [es, ec, ev, ← tl_view (S := S) (V := V)] at hrun
          rw [ec, ev, ← tl_view (S := S) (V := V)] at hR
          rw [uvv] at hR
          refine i_133_115 hobj (Nat.le_of_ble_eq_true rfl) hrun ?_
          refine i_133_118 ?_
          exact ⟨congrArg (fun z => Sum.inl (some (Value.long (Int64.ofInt z)))) (if_neg (by omega)).symm, _, _, hR, (nC.up (nC.up (nC.up (nC.up (nC.up nC.refl (by unfold cKeep; omega) (by omega)) (by unfold cKeep; omega) (by omega)) (by unfold cKeep; omega) (by omega)) (by unfold cKeep; omega) (by omega)) (by unfold cKeep; omega) (by omega)), (nW.up nW.refl (by omega))⟩
    · refine i_133_37 ?_
      refine i_133_38 ?_
      exact ⟨by rw [if_pos (by omega)]; rfl, _, _, hR, nC.refl, nW.refl⟩
  obtain ⟨o, w', h1, rfl, h2⟩ := (key (lv_args 0 [Value.ref 7, Value.int (Int32.ofInt r), Value.int (Int32.ofInt mode)]) rfl rfl rfl).run
  exact ⟨w', h1, h2⟩
theorem nC.mv {S S1 : Nat → Nat → Int} {f : Int} (h : nC S S1) : nC (u2 S 78 3 f) (u2 S1 78 3 f) := by
  refine ⟨fun b j hb => ?_, ?_⟩
  · rw [u2_eq, u2_eq, h.1 b j hb]
  · exact ⟨by rw [u2_eq, if_neg (by omega), u2_eq, if_neg (by omega)]; exact h.2.1, fun g => ((kp.refl (S := S1)).up (by omega)).2 (h.2.2 (by unfold pwP at g ⊢; simpa [u2_eq] using g))⟩
theorem cX.fl {f f' : Int} (hR : cX w0 L Z (u2 S 78 3 f) V w) (h : f = f') : cX w0 L Z (u2 S 78 3 f') V w := h ▸ hR
set_option maxHeartbeats 4000000 in
theorem x_tolN {r mode : Int} (hR : cX w0 L Z S V w) (hI : cI S V) (hr : 0 ≤ r ∧ r ≤ 15) (hmo : 0 ≤ mode ∧ mode ≤ 4) (hbad : (S (30 + 3 * r.toNat) 1 ≠ 2 ∧ S (30 + 3 * r.toNat) 1 ≠ 3) ∨ (S (30 + 3 * r.toNat) 1 = 3 ∧ S (30 + 3 * r.toNat) 3 ≤ 64 ∧ hid (¬ tlOk (vS S) (vV V) r.toNat mode)) ∨ (S (30 + 3 * r.toNat) 1 = 3 ∧ 64 < S (30 + 3 * r.toNat) 3)) : ∃ w1 S1 V1, xRun (d + 8) 133 [Value.ref 7, Value.int (Int32.ofInt r), Value.int (Int32.ofInt mode)] w (.inr w1.length) (w1 ++ [.inr (15, [])]) ∧ cX w0 L Z S1 V1 w1 ∧ nC (u2 S 78 3 (zor (S 78 3) 32)) S1 ∧ nW V V1 := by
  have key : ∀ lv, xld lv 0 = some (Value.ref 7) → xld lv 1 = some (Value.int (Int32.ofInt r)) → xld lv 2 = some (Value.int (Int32.ofInt mode)) → xEv (d + 8) 133 0 lv [] w (fun o w' => ∃ w1 S1 V1, o = .inr w1.length ∧ w' = w1 ++ [.inr (15, [])] ∧ cX w0 L Z S1 V1 w1 ∧ nC (u2 S 78 3 (zor (S 78 3) 32)) S1 ∧ nW V V1) := by
    intro lv l0 l1 l2
    obtain ⟨hp_r, hk_r, hn_r, ht_r, hx_r, hz_r⟩ := hI.1 r.toNat (by omega)
    have hi_l := hI.2.1
    have hi_g := hI.2.2.1
    refine i_133_0 (x := Int32.ofInt r) l1 ?_
    have hrun := x_noReg (d := d + 7) (w := w) (r := r) ⟨by omega, by omega⟩
    rw [show (decide (r < 0) || decide (16 ≤ r)) = false from by simp; omega] at hrun
    refine i_133_1 (Nat.le_of_ble_eq_true rfl) hrun ?_
    refine i_133_4 (fun c => absurd c (by decide)) (fun _ => ?_)
    refine i_133_7 (x := Int32.ofInt mode) l2 ?_
    have hrun := x_noMode (d := d + 7) (w := w) (m := mode) ⟨by omega, by omega⟩
    rw [show (decide (mode < 0) || decide (4 < mode)) = false from by simp; omega] at hrun
    refine i_133_8 (Nat.le_of_ble_eq_true rfl) hrun ?_
    refine i_133_11 (fun _ => ?_) (fun c => absurd c (by decide))
    refine i_133_22 (x := 7) l0 ?_
    refine i_133_23 (v := Value.ref 8) (hR.k0 kq_7) rfl ?_
    refine i_133_26 (x := Int32.ofInt r) l1 ?_
    obtain ⟨gr, hgr, hge⟩ := hR.regs
    refine i_133_27 (v := Value.ref (30 + 3 * r.toNat)) hgr (ix0 (T := r) (by omega) (by omega)) (ix1 (T := r) (by omega) (by omega) (by omega)) (by rw [ixn (T := r) (by omega) (by omega)]; exact hge _ (by omega)) ?_
    refine i_133_28 rfl ?_
    refine lgen1 (i := 3) (v := Value.ref (30 + 3 * r.toNat)) (fun lv lg ls => ?_)
    replace l0 := lg 0 _ rfl rfl l0
    replace l1 := lg 1 _ rfl rfl l1
    replace l2 := lg 2 _ rfl rfl l2
    have l3 := ls
    refine i_133_29 (x := 30 + 3 * r.toNat) l3 ?_
    refine i_133_30 (v := Value.int (Int32.ofInt (S (30 + 3 * r.toNat) 1))) (hR.k2 (kd_reg (r := r.toNat) (by omega))) rfl ?_
    refine i_133_33 ?_
    refine i_133_34 (b_ne (a := S (30 + 3 * r.toNat) 1) (b := 2) ⟨by omega, by omega⟩ ⟨by decide, by decide⟩ fun c0 => ?_) (b_eq (a := S (30 + 3 * r.toNat) 1) (b := 2) ⟨by omega, by omega⟩ ⟨by decide, by decide⟩ fun c0 => ?_)
    · refine i_133_39 ?_
      refine i_133_40 rfl ?_
      refine lgen1 (i := 4) (v := Value.int 0) (fun lv lg ls => ?_)
      replace l3 := lg 3 _ rfl rfl l3
      replace l0 := lg 0 _ rfl rfl l0
      replace l1 := lg 1 _ rfl rfl l1
      replace l2 := lg 2 _ rfl rfl l2
      have l4 := ls
      refine i_133_42 (x := 30 + 3 * r.toNat) l3 ?_
      refine i_133_43 (v := Value.int (Int32.ofInt (S (30 + 3 * r.toNat) 1))) (hR.k2 (kd_reg (r := r.toNat) (by omega))) rfl ?_
      refine i_133_46 ?_
      refine i_133_47 (b_ne (a := S (30 + 3 * r.toNat) 1) (b := 3) ⟨by omega, by omega⟩ ⟨by decide, by decide⟩ fun c1 => ?_) (b_eq (a := S (30 + 3 * r.toNat) 1) (b := 3) ⟨by omega, by omega⟩ ⟨by decide, by decide⟩ fun c1 => ?_)
      · refine i_133_84 (x := 0) l4 ?_
        refine i_133_86 (fun c => absurd c (by decide)) (fun _ => ?_)
        refine i_133_89 (x := 7) l0 ?_
        refine i_133_90 (v := Value.ref 78) (hR.k0 kq_7) rfl ?_
        refine i_133_93 rfl ?_
        refine i_133_94 (v := Value.int (Int32.ofInt (S 78 3))) (hR.k1 kq_78) rfl ?_
        refine i_133_97 ?_
        refine i_133_99 (c := Int32.ofInt (zor (S 78 3) 32)) (o_or (S 78 3) 32) ?_
        refine i_133_100 (fs2 := f1 (u1 (S 78) 3 (zor (S 78 3) 32))) (hR.k1 kq_78) (Nat.le_of_ble_eq_true rfl) rfl (h7k kq_78 (by decide)) ?_
        refine xgen (P := cX w0 L Z (u2 S 78 3 (zor (S 78 3) 32)) V) (hR.p1 kq_78) (fun w hR => ?_)
        refine i_133_103 (by omega) (Nat.le_of_ble_eq_true rfl) ?_
        exact ⟨w, _, _, rfl, rfl, hR, nC.mv nC.refl, nW.refl⟩
      · try replace ht_r := ht_r.resolve_left (by omega)
        try replace hx_r := hx_r.resolve_left (by omega)
        refine i_133_50 (x := 30 + 3 * r.toNat) l3 ?_
        refine i_133_51 (v := Value.int (Int32.ofInt (S (30 + 3 * r.toNat) 3))) (hR.k2 (kd_reg (r := r.toNat) (by omega))) rfl ?_
        refine i_133_54 ?_
        refine i_133_56 (b_lt (a := 64) (b := S (30 + 3 * r.toNat) 3) ⟨by decide, by decide⟩ ⟨by omega, by omega⟩ fun c2 => ?_) (b_le (a := S (30 + 3 * r.toNat) 3) (b := 64) ⟨by omega, by omega⟩ ⟨by decide, by decide⟩ fun c2 => ?_)
        · refine i_133_84 (x := 0) l4 ?_
          refine i_133_86 (fun c => absurd c (by decide)) (fun _ => ?_)
          refine i_133_89 (x := 7) l0 ?_
          refine i_133_90 (v := Value.ref 78) (hR.k0 kq_7) rfl ?_
          refine i_133_93 rfl ?_
          refine i_133_94 (v := Value.int (Int32.ofInt (S 78 3))) (hR.k1 kq_78) rfl ?_
          refine i_133_97 ?_
          refine i_133_99 (c := Int32.ofInt (zor (S 78 3) 32)) (o_or (S 78 3) 32) ?_
          refine i_133_100 (fs2 := f1 (u1 (S 78) 3 (zor (S 78 3) 32))) (hR.k1 kq_78) (Nat.le_of_ble_eq_true rfl) rfl (h7k kq_78 (by decide)) ?_
          refine xgen (P := cX w0 L Z (u2 S 78 3 (zor (S 78 3) 32)) V) (hR.p1 kq_78) (fun w hR => ?_)
          refine i_133_103 (by omega) (Nat.le_of_ble_eq_true rfl) ?_
          exact ⟨w, _, _, rfl, rfl, hR, nC.mv nC.refl, nW.refl⟩
        · refine i_133_59 (x := 7) l0 ?_
          refine i_133_60 (v := Value.ref 16) (hR.k0 kq_7) rfl ?_
          refine i_133_63 (x := 30 + 3 * r.toNat) l3 ?_
          have hobj := hR.k4 kq_16
          have ep : S (30 + 3 * r.toNat) 0 = S (30 + 3 * r.toNat) 0 := rfl
          have en : S (30 + 3 * r.toNat) 2 = S (30 + 3 * r.toNat) 2 := rfl
          have ex : S (30 + 3 * r.toNat) 3 = S (30 + 3 * r.toNat) 3 := rfl
          have ev : V ((30 + 3 * r.toNat) + 1) = V ((30 + 3 * r.toNat) + 1) := rfl
          obtain ⟨w, hrun, hR⟩ := x_tn (d := d + 3) (h := 16) (t := 30 + 3 * r.toNat) hR kq_16 (kd_reg (r := r.toNat) (by omega)) (by rw [en]; omega) (by rw [ev]; omega)
          rw [ep, en, ex, ev] at hR
          refine i_133_64 hobj (Nat.le_of_ble_eq_true rfl) hrun ?_
          refine i_133_67 (x := 7) l0 ?_
          refine i_133_68 (v := Value.ref 16) (hR.k0 kq_7) rfl ?_
          refine i_133_71 (x := Int32.ofInt mode) l2 ?_
          have hobj := hR.k4 kq_16
          have es : (u2 (u2 (u2 S 16 0 (S (30 + 3 * r.toNat) 2)) 16 2 ((S (30 + 3 * r.toNat) 3) - (S (30 + 3 * r.toNat) 0))) 16 3 0) 16 0 = S (30 + 3 * r.toNat) 2 := by rw [u2_eq, if_neg (fun e => absurd e.2 (by decide)), u2_eq, if_neg (fun e => absurd e.2 (by decide)), u2_eq, if_pos ⟨rfl, rfl⟩]
          have ec : (u2 (u2 (u2 S 16 0 (S (30 + 3 * r.toNat) 2)) 16 2 ((S (30 + 3 * r.toNat) 3) - (S (30 + 3 * r.toNat) 0))) 16 3 0) 16 2 = (S (30 + 3 * r.toNat) 3) - (S (30 + 3 * r.toNat) 0) := by rw [u2_eq, if_neg (fun e => absurd e.2 (by decide)), u2_eq, if_pos ⟨rfl, rfl⟩]
          have em : (u2 (u2 (u2 S 16 0 (S (30 + 3 * r.toNat) 2)) 16 2 ((S (30 + 3 * r.toNat) 3) - (S (30 + 3 * r.toNat) 0))) 16 3 0) 16 3 = 0 := by rw [u2_eq, if_pos ⟨rfl, rfl⟩]
          have ev : (uv V 17 (V ((30 + 3 * r.toNat) + 1))) 17 = V ((30 + 3 * r.toNat) + 1) := uv_s
          obtain ⟨w, hrun, hR⟩ := x_rti (d := d + 2) (mode := mode) hR (by rw [es]; omega) (by rw [em]; omega) (by omega) (by rw [ec]; omega) (by rw [ev]; omega)
          rw [es, ec, em, ev] at hR
          have hrb := rti_bl (m := V ((30 + 3 * r.toNat) + 1)) (sc := (S (30 + 3 * r.toNat) 3) - (S (30 + 3 * r.toNat) 0)) (more := 0) (ng := S (30 + 3 * r.toNat) 2) (mode := mode)
          have hrs : 0 ≤ rtiS ((S (30 + 3 * r.toNat) 3) - (S (30 + 3 * r.toNat) 0)) ∧ rtiS ((S (30 + 3 * r.toNat) 3) - (S (30 + 3 * r.toNat) 0)) ≤ 70 := by unfold rtiS; split <;> omega
          rw [uvv] at hR
          refine i_133_72 hobj (Nat.le_of_ble_eq_true rfl) hrun ?_
          refine i_133_75 (x := 7) l0 ?_
          refine i_133_76 (v := Value.ref 16) (hR.k0 kq_7) rfl ?_
          have hobj := hR.k4 kq_16
          have es : (u2 (u2 (u2 (u2 S 16 0 (S (30 + 3 * r.toNat) 2)) 16 2 ((S (30 + 3 * r.toNat) 3) - (S (30 + 3 * r.toNat) 0))) 16 3 0) 16 2 (rtiS ((S (30 + 3 * r.toNat) 3) - (S (30 + 3 * r.toNat) 0)))) 16 0 = S (30 + 3 * r.toNat) 2 := by rw [u2_eq, if_neg (fun e => absurd e.2 (by decide)), u2_eq, if_neg (fun e => absurd e.2 (by decide)), u2_eq, if_neg (fun e => absurd e.2 (by decide)), u2_eq, if_pos ⟨rfl, rfl⟩]
          have ec : (u2 (u2 (u2 (u2 S 16 0 (S (30 + 3 * r.toNat) 2)) 16 2 ((S (30 + 3 * r.toNat) 3) - (S (30 + 3 * r.toNat) 0))) 16 3 0) 16 2 (rtiS ((S (30 + 3 * r.toNat) 3) - (S (30 + 3 * r.toNat) 0)))) 16 2 = rtiS ((S (30 + 3 * r.toNat) 3) - (S (30 + 3 * r.toNat) 0)) := by rw [u2_eq, if_pos ⟨rfl, rfl⟩]
          have ev : (uv V 17 (rtiM (V ((30 + 3 * r.toNat) + 1)) ((S (30 + 3 * r.toNat) 3) - (S (30 + 3 * r.toNat) 0)) 0 (S (30 + 3 * r.toNat) 2) mode)) 17 = rtiM (V ((30 + 3 * r.toNat) + 1)) ((S (30 + 3 * r.toNat) 3) - (S (30 + 3 * r.toNat) 0)) 0 (S (30 + 3 * r.toNat) 2) mode := uv_s
          have hrun := x_isL (d := d + 4) hR (by rw [es]; omega) (by rw [ec]; omega) (by rw [ev]; omega)
          rw [es, ec, ev] at hrun
          rw [show isL (rtiM (V ((30 + 3 * r.toNat) + 1)) ((S (30 + 3 * r.toNat) 3) - (S (30 + 3 * r.toNat) 0)) 0 (S (30 + 3 * r.toNat) 2) mode) (rtiS ((S (30 + 3 * r.toNat) 3) - (S (30 + 3 * r.toNat) 0))) (S (30 + 3 * r.toNat) 2) = false from by
            rcases hbad with h | h | h
            · omega
            · exact Bool.eq_false_iff.mpr (fun e => h.2.2 (tl_isL.mp e))
            · omega] at hrun
          refine i_133_79 hobj (Nat.le_of_ble_eq_true rfl) hrun ?_
          refine i_133_82 rfl ?_
          refine lgen1 (i := 4) (v := Value.int 0) (fun lv lg ls => ?_)
          replace l3 := lg 3 _ rfl rfl l3
          replace l0 := lg 0 _ rfl rfl l0
          replace l1 := lg 1 _ rfl rfl l1
          replace l2 := lg 2 _ rfl rfl l2
          have l4 := ls
          refine i_133_84 (x := 0) l4 ?_
          refine i_133_86 (fun c => absurd c (by decide)) (fun _ => ?_)
          refine i_133_89 (x := 7) l0 ?_
          refine i_133_90 (v := Value.ref 78) (hR.k0 kq_7) rfl ?_
          refine i_133_93 rfl ?_
          refine i_133_94 (v := Value.int (Int32.ofInt ((u2 (u2 (u2 (u2 S 16 0 (S (30 + 3 * r.toNat) 2)) 16 2 ((S (30 + 3 * r.toNat) 3) - (S (30 + 3 * r.toNat) 0))) 16 3 0) 16 2 (rtiS ((S (30 + 3 * r.toNat) 3) - (S (30 + 3 * r.toNat) 0)))) 78 3))) (hR.k1 kq_78) rfl ?_
          rw [show Int32.ofInt ((u2 (u2 (u2 (u2 S 16 0 (S (30 + 3 * r.toNat) 2)) 16 2 ((S (30 + 3 * r.toNat) 3) - (S (30 + 3 * r.toNat) 0))) 16 3 0) 16 2 (rtiS ((S (30 + 3 * r.toNat) 3) - (S (30 + 3 * r.toNat) 0)))) 78 3) = Int32.ofInt (S 78 3) by rw [u2_eq, if_neg (fun e => absurd e.2 (by decide)), u2_eq, if_neg (fun e => absurd e.1 (by decide)), u2_eq, if_neg (fun e => absurd e.2 (by decide)), u2_eq, if_neg (fun e => absurd e.2 (by decide))]]
          refine i_133_97 ?_
          refine i_133_99 (c := Int32.ofInt (zor (S 78 3) 32)) (o_or (S 78 3) 32) ?_
          refine i_133_100 (fs2 := f1 (u1 ((u2 (u2 (u2 (u2 S 16 0 (S (30 + 3 * r.toNat) 2)) 16 2 ((S (30 + 3 * r.toNat) 3) - (S (30 + 3 * r.toNat) 0))) 16 3 0) 16 2 (rtiS ((S (30 + 3 * r.toNat) 3) - (S (30 + 3 * r.toNat) 0)))) 78) 3 (zor (S 78 3) 32))) (hR.k1 kq_78) (Nat.le_of_ble_eq_true rfl) rfl (h7k kq_78 (by decide)) ?_
          refine xgen (P := cX w0 L Z (u2 (u2 (u2 (u2 (u2 S 16 0 (S (30 + 3 * r.toNat) 2)) 16 2 ((S (30 + 3 * r.toNat) 3) - (S (30 + 3 * r.toNat) 0))) 16 3 0) 16 2 (rtiS ((S (30 + 3 * r.toNat) 3) - (S (30 + 3 * r.toNat) 0)))) 78 3 (zor (S 78 3) 32)) (uv V 17 (rtiM (V ((30 + 3 * r.toNat) + 1)) ((S (30 + 3 * r.toNat) 3) - (S (30 + 3 * r.toNat) 0)) 0 (S (30 + 3 * r.toNat) 2) mode))) (hR.p1 kq_78) (fun w hR => ?_)
          refine i_133_103 (by omega) (Nat.le_of_ble_eq_true rfl) ?_
          exact ⟨w, _, _, rfl, rfl, hR, nC.mv (nC.up (nC.up (nC.up (nC.up nC.refl (by unfold cKeep; omega) (by omega)) (by unfold cKeep; omega) (by omega)) (by unfold cKeep; omega) (by omega)) (by unfold cKeep; omega) (by omega)), (nW.up nW.refl (by omega))⟩
    · refine i_133_37 ?_
      refine i_133_38 ?_
      exfalso; omega
  obtain ⟨o, w', h1, w1, S1, V1, rfl, rfl, h2⟩ := (key (lv_args 0 [Value.ref 7, Value.int (Int32.ofInt r), Value.int (Int32.ofInt mode)]) rfl rfl rfl).run
  exact ⟨w1, S1, V1, h1, h2⟩
end
