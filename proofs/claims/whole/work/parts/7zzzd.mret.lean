/-! writing of the reference: scaledFree, returns -/
/-- a number over a power of the base, as it is rounded -/
def sfC (p : Int) (rx val : Nat) (sc : Int) (more : Int) (m : Nat) (e : Int) : Prop := m ≠ 0 ∧ ∃ A C k : Nat, 0 < C ∧ e = -(k : Int) ∧ m = A / C ∧ more = (if A % C = 0 then 0 else 1) ∧ (more = 0 ∨ p < xbl m) ∧ A * bDe rx sc = val * bNu rx sc * C * 2 ^ k
theorem bN_neg {B : Nat} {k : Int} : bNu B (-k) = bDe B k ∧ bDe B (-k) = bNu B k := by
  unfold bNu bDe
  rw [Int.natAbs_neg]
  by_cases h0 : k = 0
  · subst h0
    exact ⟨rfl, rfl⟩
  · by_cases h : 0 ≤ k
    · rw [if_neg (by omega), if_pos h, if_neg (by omega), if_pos h]; exact ⟨rfl, rfl⟩
    · rw [if_pos (by omega), if_neg h, if_pos (by omega), if_neg h]; exact ⟨rfl, rfl⟩
/-- the number of digits, in units of the last place -/
theorem fr_w {rx val W A C k n : Nat} {E F sc : Int} (hB : 0 < rx) (hA : A * bDe rx sc = val * bNu rx sc * C * 2 ^ k) (hv : val * bNu rx sc * bDe rx (F - n) = W * bNu rx (F - n) * bDe rx sc) : W * fDn rx ((n : Int) - F) E * C * 2 ^ (max 0 (E - -(k : Int))).toNat = A * fGn rx ((n : Int) - F) E * 2 ^ (max 0 (-(k : Int) - E)).toNat := by
  have hn := bN_neg (B := rx) (k := F - n)
  rw [show -(F - (n : Int)) = (n : Int) - F by omega] at hn
  unfold fDn fGn
  rw [hn.1, hn.2]
  refine Nat.eq_of_mul_eq_mul_right (bDe_pos (k := sc) hB) ?_
  have hx : 2 ^ (max 0 (-E)).toNat * 2 ^ (max 0 (E - -(k : Int))).toNat = 2 ^ k * (2 ^ (max 0 E).toNat * 2 ^ (max 0 (-(k : Int) - E)).toNat) := by
    rw [← Nat.pow_add, ← Nat.pow_add, ← Nat.pow_add]
    congr 1
    omega
  calc W * (bNu rx (F - n) * 2 ^ (max 0 (-E)).toNat) * C * 2 ^ (max 0 (E - -(k : Int))).toNat * bDe rx sc = W * bNu rx (F - n) * bDe rx sc * C * (2 ^ (max 0 (-E)).toNat * 2 ^ (max 0 (E - -(k : Int))).toNat) := by ac_rfl
    _ = val * bNu rx sc * bDe rx (F - n) * C * (2 ^ k * (2 ^ (max 0 E).toNat * 2 ^ (max 0 (-(k : Int) - E)).toNat)) := by rw [← hv, hx]
    _ = val * bNu rx sc * C * 2 ^ k * bDe rx (F - n) * (2 ^ (max 0 E).toNat * 2 ^ (max 0 (-(k : Int) - E)).toNat) := by ac_rfl
    _ = A * bDe rx sc * bDe rx (F - n) * (2 ^ (max 0 E).toNat * 2 ^ (max 0 (-(k : Int) - E)).toNat) := by rw [hA]
    _ = _ := by ac_rfl
/-- the class's condition is the rounding's -/
theorem cb_X {M B p : Nat} {E F ng n : Int} (hB : 0 < B) (hp : 2 ≤ p) : cbF M E B F ng (p : Int) n false = true ↔ cbX M (spW M E B F ng n 0 * fDn B (n - F) E) (fGn B (n - F) E) p := by
  unfold cbF
  rw [cbk_iff]
  have hD := fDn_pos (k := n - F) (E := E) hB
  unfold spW spQ cbX cDi cCl cUp
  generalize fDn B (n - F) E = D at hD ⊢
  generalize fGn B (n - F) E = G
  have ed := Nat.div_add_mod (M * G) D
  have hs := Nat.mod_lt (M * G) hD
  rw [Nat.mul_comm] at ed
  generalize M * G / D = Q at ed ⊢
  generalize M * G % D = R at ed hs ⊢
  generalize qUp 0 ng Q R D = up
  have hpe : M = 2 ^ (p - 1) → M % 2 = 0 := by
    intro e
    rw [e, show p - 1 = p - 2 + 1 by omega, Nat.pow_succ]
    exact Nat.mul_mod_left _ _
  rw [show ((p : Int) - 1).toNat = p - 1 by omega]
  cases up
  · simp only [Bool.false_eq_true, if_false, Nat.add_zero, Bool.not_false, Bool.true_and, decide_eq_true_eq]
    by_cases hM : M = 2 ^ (p - 1)
    · have := hpe hM
      rw [if_pos hM, if_pos ⟨by omega, hM⟩]
      generalize Q * D = x at ed ⊢
      omega
    · rw [if_neg hM, if_neg (fun c => hM c.2)]
      generalize Q * D = x at ed ⊢
      omega
  · simp only [if_true, Bool.not_true, Bool.and_false, Bool.false_and, Bool.false_eq_true, if_false]
    rw [Nat.succ_mul, if_neg (by omega)]
    generalize Q * D = x at ed ⊢
    omega
section
variable {d rx n : Nat} {w0 w : xW} {S S1 : Nat → Nat → Int} {V V1 : Nat → Nat} {r sg sc F : Int} {lv : xLv} {Q : Option Value ⊕ Nat → xW → Prop}
set_option maxHeartbeats 4000000 in
theorem s_rat16 {v dd : Nat} (hR : mR w0 S V w) (hp16 : 2 ≤ S 153 16 ∧ S 153 16 ≤ 4096) (hil : -16384 ≤ S 128 17 ∧ S 128 17 ≤ S 128 18 ∧ S 128 18 ≤ 16384) (hig : S 128 20 = 0 ∨ S 128 20 = 1) (hf1 : S 128 21 = 1) (hsg : sg = 0 ∨ sg = 1) (hvm : V 133 = v) (hvd : V 141 = dd) (hd0 : dd ≠ 0) (hbm : xbl v ≤ 60000) (hbd : xbl dd ≤ 130000) : ∃ t w', xRun (d + 5) 218 [Value.ref 128, Value.int 16, Value.ref 133, Value.int 0, Value.ref 141, Value.int 0, Value.int (Int32.ofInt sg), Value.int 0] w (.inl (some (.int t))) w' ∧ ∃ S' V' V1, mR w0 S' V' w' ∧ nV V V1 ∧ rPost S S' V1 V' 16 sg (rnd (S 153 16) (S 128 17) (S 128 18) (S 128 20) 1 sg 0 (if ratX (S 153 16) v dd % dd = 0 then 0 else 1) (ratX (S 153 16) v dd / dd) (0 - moreOf (S 153 16) v dd - 0) (S 128 19)) := by
  have key : xEv (d + 5) 218 0 (lv_args 0 [Value.ref 128, Value.int 16, Value.ref 133, Value.int 0, Value.ref 141, Value.int 0, Value.int (Int32.ofInt sg), Value.int 0]) [] w (fun o w' => ∃ t, o = .inl (some (.int t)) ∧ ∃ S' V' V1, mR w0 S' V' w' ∧ nV V V1 ∧ rPost S S' V1 V' 16 sg (rnd (S 153 16) (S 128 17) (S 128 18) (S 128 20) 1 sg 0 (if ratX (S 153 16) v dd % dd = 0 then 0 else 1) (ratX (S 153 16) v dd / dd) (0 - moreOf (S 153 16) v dd - 0) (S 128 19))) := by
    refine i_218_0 ?_
    refine i_218_1 (x := 128) rfl ?_
    refine i_218_2 (v := Value.ref 153) hR.c128 rfl ?_
    refine i_218_5 (x := 16) rfl ?_
    refine i_218_6 (v := Value.int (Int32.ofInt (S 153 16))) (hR.row a153) (ix0 (T := 16) (by omega) (by omega)) (ix1 (T := 16) (by omega) (by omega) (by omega)) (ra (T := 16) (by omega) (by omega) rfl) ?_
    refine i_218_7 ?_
    refine i_218_8 (c := Int32.ofInt ((S 153 16) + 3)) (o_add (S 153 16) 3) ?_
    refine i_218_9 (x := 141) rfl ?_
    obtain ⟨fs, hobj⟩ := hR.obj (h := 141) (iNw (h := 141) (by decide) (by decide) (by decide))
    have hrun := r_bits (d := d + 2) (v := dd) hR (iNw (h := 141) (by decide) (by decide) (by decide)) (hvd)
    refine i_218_11 hobj (Nat.le_of_ble_eq_true rfl) hrun ?_
    refine i_218_14 (c := Int32.ofInt (((S 153 16) + 3) + (xbl dd : Int))) (o_add ((S 153 16) + 3) (xbl dd : Int)) ?_
    refine i_218_15 (x := 133) rfl ?_
    obtain ⟨fs, hobj⟩ := hR.obj (h := 133) (iNw (h := 133) (by decide) (by decide) (by decide))
    have hrun := r_bits (d := d + 2) (v := v) hR (iNw (h := 133) (by decide) (by decide) (by decide)) (hvm)
    refine i_218_16 hobj (Nat.le_of_ble_eq_true rfl) hrun ?_
    refine i_218_19 (c := Int32.ofInt ((((S 153 16) + 3) + (xbl dd : Int)) - (xbl v : Int))) (o_sub (((S 153 16) + 3) + (xbl dd : Int)) (xbl v : Int)) ?_
    have hrun := s_max (d := d + 3) (w := w) (a := 0) (b := (((S 153 16) + 3) + (xbl dd : Int)) - (xbl v : Int)) ⟨by decide, by decide⟩ ⟨by omega, by omega⟩
    refine i_218_20 (Nat.le_of_ble_eq_true rfl) hrun ?_
    refine i_218_23 (lv2 := [(8, Value.int (Int32.ofInt (max 0 ((((S 153 16) + 3) + (xbl dd : Int)) - (xbl v : Int))))), (0, Value.ref 128), (1, Value.int 16), (2, Value.ref 133), (3, Value.int 0), (4, Value.ref 141), (5, Value.int 0), (6, Value.int (Int32.ofInt sg)), (7, Value.int 0)]) rfl ?_
    refine i_218_25 (x := 128) rfl ?_
    refine i_218_26 (v := Value.ref 131) hR.c128 rfl ?_
    refine i_218_29 (x := 133) rfl ?_
    obtain ⟨fs, hobj⟩ := hR.obj (h := 131) (iNw (h := 131) (by decide) (by decide) (by decide))
    obtain ⟨w, hrun, hR⟩ := r_setn (d := d + 2) (v := v) (c := 4700) hR (iNw (h := 131) (by decide) (by decide) (by decide)) (iNw (h := 133) (by decide) (by decide) (by decide)) (hvm) rfl (by omega)
    refine i_218_30 hobj (Nat.le_of_ble_eq_true rfl) hrun ?_
    refine i_218_33 (x := 128) rfl ?_
    refine i_218_34 (v := Value.ref 131) hR.c128 rfl ?_
    refine i_218_37 (x := Int32.ofInt (max 0 ((((S 153 16) + 3) + (xbl dd : Int)) - (xbl v : Int)))) rfl ?_
    obtain ⟨fs, hobj⟩ := hR.obj (h := 131) (iNw (h := 131) (by decide) (by decide) (by decide))
    obtain ⟨w, hrun, hR⟩ := r_up (d := d + 2) (v := v) (c := 4700) (k := max 0 ((((S 153 16) + 3) + (xbl dd : Int)) - (xbl v : Int))) hR (iNw (h := 131) (by decide) (by decide) (by decide)) (uv_s) rfl (by omega) (by omega)
    rw [uvv] at hR
    refine i_218_39 hobj (Nat.le_of_ble_eq_true rfl) hrun ?_
    refine i_218_42 (x := 128) rfl ?_
    refine i_218_43 (x := 128) rfl ?_
    refine i_218_44 (v := Value.ref 131) hR.c128 rfl ?_
    refine i_218_47 (x := 141) rfl ?_
    refine i_218_49 (x := 128) rfl ?_
    refine i_218_50 (v := Value.ref 129) hR.c128 rfl ?_
    have hobj := hR.c128
    obtain ⟨w, z1, hrun, hR⟩ := s_divide (d := d + 1) (hx := 131) (hy := 141) (t := 129) (x := v * 2 ^ (max 0 ((((S 153 16) + 3) + (xbl dd : Int)) - (xbl v : Int)) : Int).toNat) (y := dd) hR (iNw (h := 131) (by decide) (by decide) (by decide)) (iNw (h := 141) (by decide) (by decide) (by decide)) (by omega) (by omega) (by omega) (by omega) (by omega) (by omega) (by omega) (uv_s) ((uv_n (by omega)).trans (hvd)) (by exact hd0) (by exact Nat.le_trans (xbl_powle _ _) (by omega)) (by omega)
    refine i_218_53 hobj (Nat.le_of_ble_eq_true rfl) hrun ?_
    refine i_218_56 (x := 128) rfl ?_
    refine i_218_57 (v := Value.ref 137) hR.c128 rfl ?_
    obtain ⟨n2, hsz, hn2, hz2⟩ := hR.size (h := 137) (v := (v * 2 ^ (max 0 ((((S 153 16) + 3) + (xbl dd : Int)) - (xbl v : Int)) : Int).toNat) % dd) (iNw (h := 137) (by decide) (by decide) (by decide)) (uv_s)
    refine i_218_60 (v := Value.int (Int32.ofInt (n2 : Int))) hsz rfl ?_
    refine i_218_63 (z_le (a := (n2 : Int)) ⟨by omega, by omega⟩ fun c2 => ?_) (z_gt (a := (n2 : Int)) ⟨by omega, by omega⟩ fun c2 => ?_)
    · refine i_218_70 ?_
      refine i_218_71 (lv2 := [(9, Value.int 0), (8, Value.int (Int32.ofInt (max 0 ((((S 153 16) + 3) + (xbl dd : Int)) - (xbl v : Int))))), (0, Value.ref 128), (1, Value.int 16), (2, Value.ref 133), (3, Value.int 0), (4, Value.ref 141), (5, Value.int 0), (6, Value.int (Int32.ofInt sg)), (7, Value.int 0)]) rfl ?_
      refine i_218_73 (x := 128) rfl ?_
      refine i_218_74 (x := 16) rfl ?_
      refine i_218_75 (x := 128) rfl ?_
      refine i_218_76 (v := Value.ref 129) hR.c128 rfl ?_
      refine i_218_79 (x := 0) rfl ?_
      refine i_218_80 (x := Int32.ofInt (max 0 ((((S 153 16) + 3) + (xbl dd : Int)) - (xbl v : Int)))) rfl ?_
      refine i_218_82 (c := Int32.ofInt (0 - (max 0 ((((S 153 16) + 3) + (xbl dd : Int)) - (xbl v : Int))))) (o_sub 0 (max 0 ((((S 153 16) + 3) + (xbl dd : Int)) - (xbl v : Int)))) ?_
      refine i_218_83 (x := 0) rfl ?_
      refine i_218_85 (c := Int32.ofInt ((0 - (max 0 ((((S 153 16) + 3) + (xbl dd : Int)) - (xbl v : Int)))) - 0)) (o_sub (0 - (max 0 ((((S 153 16) + 3) + (xbl dd : Int)) - (xbl v : Int)))) 0) ?_
      refine i_218_86 (x := 0) rfl ?_
      refine i_218_88 (x := Int32.ofInt sg) rfl ?_
      refine i_218_90 (x := 0) rfl ?_
      have hobj := hR.c128
      have hx : (uv (uv (uv (uv V 131 (v * 2 ^ (max 0 ((((S 153 16) + 3) + (xbl dd : Int)) - (xbl v : Int)) : Int).toNat)) 139 z1) 129 ((v * 2 ^ (max 0 ((((S 153 16) + 3) + (xbl dd : Int)) - (xbl v : Int)) : Int).toNat) / dd)) 137 ((v * 2 ^ (max 0 ((((S 153 16) + 3) + (xbl dd : Int)) - (xbl v : Int)) : Int).toNat) % dd)) 129 = (v * 2 ^ (max 0 ((((S 153 16) + 3) + (xbl dd : Int)) - (xbl v : Int)) : Int).toNat) / dd := (uv_n (by omega)).trans (uv_s)
      obtain ⟨w, S9, V9, hrun, hR, hP⟩ := s_round (d := d) (h := 129) (r := 16) (e := (0 - (max 0 ((((S 153 16) + 3) + (xbl dd : Int)) - (xbl v : Int)))) - 0) (more := 0) (sg := sg) (mode := 0) hR (iNw (h := 129) (by decide) (by decide) (by decide)) (by decide) (by decide) (by decide) (by omega) hsg (by omega) (by decide) hp16.1 hp16.2 ⟨hil.1, Int.le_trans hil.2.1 hil.2.2⟩ ⟨Int.le_trans hil.1 hil.2.1, hil.2.2⟩ hig (Or.inr hf1) (by rw [hx]; exact Nat.le_trans (xbl_mono (Nat.div_le_self _ _)) (Nat.le_trans (xbl_powle _ _) (by omega)))
      rw [show (16 : Int).toNat = 16 from rfl, hx, hf1] at hrun hP
      refine i_218_92 hobj (Nat.le_of_ble_eq_true rfl) hrun ?_
      refine i_218_95 ?_
      have em : (0 : Int) = if ratX (S 153 16) v dd % dd = 0 then 0 else 1 := by unfold ratX moreOf; first | (rw [if_pos (by omega)]; done) | (rw [if_neg (by omega)]; done)
      refine ⟨_, rfl, S9, V9, (uv (uv (uv (uv V 131 (v * 2 ^ (max 0 ((((S 153 16) + 3) + (xbl dd : Int)) - (xbl v : Int)) : Int).toNat)) 139 z1) 129 ((v * 2 ^ (max 0 ((((S 153 16) + 3) + (xbl dd : Int)) - (xbl v : Int)) : Int).toNat) / dd)) 137 ((v * 2 ^ (max 0 ((((S 153 16) + 3) + (xbl dd : Int)) - (xbl v : Int)) : Int).toNat) % dd)), hR, (nV.up (nV.up (nV.up (nV.up nV.refl (by omega)) (by omega)) (by omega)) (by omega)), ?_⟩
      rw [← em]
      exact hP
    · refine i_218_66 ?_
      refine i_218_67 ?_
      refine i_218_71 (lv2 := [(9, Value.int 1), (8, Value.int (Int32.ofInt (max 0 ((((S 153 16) + 3) + (xbl dd : Int)) - (xbl v : Int))))), (0, Value.ref 128), (1, Value.int 16), (2, Value.ref 133), (3, Value.int 0), (4, Value.ref 141), (5, Value.int 0), (6, Value.int (Int32.ofInt sg)), (7, Value.int 0)]) rfl ?_
      refine i_218_73 (x := 128) rfl ?_
      refine i_218_74 (x := 16) rfl ?_
      refine i_218_75 (x := 128) rfl ?_
      refine i_218_76 (v := Value.ref 129) hR.c128 rfl ?_
      refine i_218_79 (x := 0) rfl ?_
      refine i_218_80 (x := Int32.ofInt (max 0 ((((S 153 16) + 3) + (xbl dd : Int)) - (xbl v : Int)))) rfl ?_
      refine i_218_82 (c := Int32.ofInt (0 - (max 0 ((((S 153 16) + 3) + (xbl dd : Int)) - (xbl v : Int))))) (o_sub 0 (max 0 ((((S 153 16) + 3) + (xbl dd : Int)) - (xbl v : Int)))) ?_
      refine i_218_83 (x := 0) rfl ?_
      refine i_218_85 (c := Int32.ofInt ((0 - (max 0 ((((S 153 16) + 3) + (xbl dd : Int)) - (xbl v : Int)))) - 0)) (o_sub (0 - (max 0 ((((S 153 16) + 3) + (xbl dd : Int)) - (xbl v : Int)))) 0) ?_
      refine i_218_86 (x := 1) rfl ?_
      refine i_218_88 (x := Int32.ofInt sg) rfl ?_
      refine i_218_90 (x := 0) rfl ?_
      have hobj := hR.c128
      have hx : (uv (uv (uv (uv V 131 (v * 2 ^ (max 0 ((((S 153 16) + 3) + (xbl dd : Int)) - (xbl v : Int)) : Int).toNat)) 139 z1) 129 ((v * 2 ^ (max 0 ((((S 153 16) + 3) + (xbl dd : Int)) - (xbl v : Int)) : Int).toNat) / dd)) 137 ((v * 2 ^ (max 0 ((((S 153 16) + 3) + (xbl dd : Int)) - (xbl v : Int)) : Int).toNat) % dd)) 129 = (v * 2 ^ (max 0 ((((S 153 16) + 3) + (xbl dd : Int)) - (xbl v : Int)) : Int).toNat) / dd := (uv_n (by omega)).trans (uv_s)
      obtain ⟨w, S9, V9, hrun, hR, hP⟩ := s_round (d := d) (h := 129) (r := 16) (e := (0 - (max 0 ((((S 153 16) + 3) + (xbl dd : Int)) - (xbl v : Int)))) - 0) (more := 1) (sg := sg) (mode := 0) hR (iNw (h := 129) (by decide) (by decide) (by decide)) (by decide) (by decide) (by decide) (by omega) hsg (by omega) (by decide) hp16.1 hp16.2 ⟨hil.1, Int.le_trans hil.2.1 hil.2.2⟩ ⟨Int.le_trans hil.1 hil.2.1, hil.2.2⟩ hig (Or.inr hf1) (by rw [hx]; exact Nat.le_trans (xbl_mono (Nat.div_le_self _ _)) (Nat.le_trans (xbl_powle _ _) (by omega)))
      rw [show (16 : Int).toNat = 16 from rfl, hx, hf1] at hrun hP
      refine i_218_92 hobj (Nat.le_of_ble_eq_true rfl) hrun ?_
      refine i_218_95 ?_
      have em : (1 : Int) = if ratX (S 153 16) v dd % dd = 0 then 0 else 1 := by unfold ratX moreOf; first | (rw [if_pos (by omega)]; done) | (rw [if_neg (by omega)]; done)
      refine ⟨_, rfl, S9, V9, (uv (uv (uv (uv V 131 (v * 2 ^ (max 0 ((((S 153 16) + 3) + (xbl dd : Int)) - (xbl v : Int)) : Int).toNat)) 139 z1) 129 ((v * 2 ^ (max 0 ((((S 153 16) + 3) + (xbl dd : Int)) - (xbl v : Int)) : Int).toNat) / dd)) 137 ((v * 2 ^ (max 0 ((((S 153 16) + 3) + (xbl dd : Int)) - (xbl v : Int)) : Int).toNat) % dd)), hR, (nV.up (nV.up (nV.up (nV.up nV.refl (by omega)) (by omega)) (by omega)) (by omega)), ?_⟩
      rw [← em]
      exact hP
  obtain ⟨o, w', h1, t, rfl, h2⟩ := key.run
  exact ⟨t, w', h1, h2⟩
set_option maxHeartbeats 4000000 in
theorem s_sfree {val : Nat} (hR : mR w0 S V w) (hp16 : 2 ≤ S 153 16 ∧ S 153 16 ≤ 4096) (hil : -16384 ≤ S 128 17 ∧ S 128 17 ≤ S 128 18 ∧ S 128 18 ≤ 16384) (hig : S 128 20 = 0 ∨ S 128 20 = 1) (hf1 : S 128 21 = 1) (hsg : sg = 0 ∨ sg = 1) (h129 : V 129 = val) (hval : val ≠ 0) (hvb : xbl val ≤ 35000) (hrx : 2 ≤ rx ∧ rx ≤ 36) (hsc : -40000 ≤ sc ∧ sc ≤ 40000) (hpb : xbl (rx ^ sc.natAbs) ≤ 100100) : ∃ w', xRun (d + 6) 269 [Value.ref 128, Value.int (Int32.ofInt (rx : Int)), Value.int (Int32.ofInt sc), Value.int (Int32.ofInt sg)] w (.inl none) w' ∧ ∃ S' V' V1 more m e, mR w0 S' V' w' ∧ nV V V1 ∧ rPost S S' V1 V' 16 sg (rnd (S 153 16) (S 128 17) (S 128 18) (S 128 20) 1 sg 0 more m e (S 128 19)) ∧ sfC (S 153 16) rx val sc more m e ∧ (xbl m ≤ 240000 ∧ -200000 ≤ e ∧ e ≤ 0) := by
  have key : ∀ lv, xld lv 0 = some (Value.ref 128) → xld lv 1 = some (Value.int (Int32.ofInt (rx : Int))) → xld lv 2 = some (Value.int (Int32.ofInt sc)) → xld lv 3 = some (Value.int (Int32.ofInt sg)) → xEv (d + 6) 269 0 lv [] w (fun o w' => o = .inl none ∧ ∃ S' V' V1 more m e, mR w0 S' V' w' ∧ nV V V1 ∧ rPost S S' V1 V' 16 sg (rnd (S 153 16) (S 128 17) (S 128 18) (S 128 20) 1 sg 0 more m e (S 128 19)) ∧ sfC (S 153 16) rx val sc more m e ∧ (xbl m ≤ 240000 ∧ -200000 ≤ e ∧ e ≤ 0)) := by
    intro lv l0 l1 l2 l3
    refine i_269_0 (x := Int32.ofInt sc) l2 ?_
    refine i_269_1 (z_ne (a := sc) ⟨by omega, by omega⟩ fun c0 => ?_) (z_eq (a := sc) ⟨by omega, by omega⟩ fun c0 => ?_)
    · refine i_269_20 (x := 128) l0 ?_
      refine i_269_21 (v := Value.ref 133) hR.c128 rfl ?_
      refine i_269_24 (x := Int32.ofInt (rx : Int)) l1 ?_
      refine i_269_25 (c := Int64.ofInt (rx : Int)) (q_i2l (a := (rx : Int)) ⟨by omega, by omega⟩) ?_
      obtain ⟨fs, hobj⟩ := hR.obj (h := 133) (iNw (h := 133) (by decide) (by decide) (by decide))
      obtain ⟨w, hrun, hR⟩ := r_setl (d := d + 3) (x := Int64.ofInt (rx : Int)) (v := rx) hR (iNw (h := 133) (by decide) (by decide) (by decide)) ((xul_o (by omega) (by omega)).trans rfl)
      refine i_269_26 hobj (Nat.le_of_ble_eq_true rfl) hrun ?_
      refine i_269_29 (x := 128) l0 ?_
      refine i_269_30 (x := 128) l0 ?_
      refine i_269_31 (v := Value.ref 133) hR.c128 rfl ?_
      refine i_269_34 (x := Int32.ofInt sc) l2 ?_
      have hrun := s_abs (d := d + 4) (w := w) (a := sc) (by omega)
      refine i_269_35 (Nat.le_of_ble_eq_true rfl) hrun ?_
      have hobj := hR.c128
      have hpr := xbl_prod val (rx ^ sc.natAbs)
      obtain ⟨w, u, hrun, hR⟩ := s_raise (d := d + 2) (h := 133) (x := rx) (n := (sc.natAbs : Int)) hR (iNw (h := 133) (by decide) (by decide) (by decide)) (by decide) (by decide) (uv_s) (by omega) (by omega) (by omega) (by rw [Int.toNat_natCast]; omega)
      rw [Int.toNat_natCast] at hR
      refine i_269_38 hobj (Nat.le_of_ble_eq_true rfl) hrun ?_
      refine i_269_41 (x := Int32.ofInt sc) l2 ?_
      refine i_269_42 (z_le (a := sc) ⟨by omega, by omega⟩ fun c1 => ?_) (z_gt (a := sc) ⟨by omega, by omega⟩ fun c1 => ?_)
      · refine i_269_87 (x := 128) l0 ?_
        refine i_269_88 (v := Value.ref 133) hR.c128 rfl ?_
        refine i_269_91 (x := 128) l0 ?_
        refine i_269_92 (v := Value.ref 129) hR.c128 rfl ?_
        obtain ⟨fs, hobj⟩ := hR.obj (h := 133) (iNw (h := 133) (by decide) (by decide) (by decide))
        obtain ⟨w, hrun, hR⟩ := r_setn (d := d + 3) (v := val) (c := 4700) hR (iNw (h := 133) (by decide) (by decide) (by decide)) (iNw (h := 129) (by decide) (by decide) (by decide)) ((uv_n (by omega)).trans ((uv_n (by omega)).trans ((uv_n (by omega)).trans (h129)))) rfl (by omega)
        refine i_269_95 hobj (Nat.le_of_ble_eq_true rfl) hrun ?_
        refine i_269_98 (x := 128) l0 ?_
        refine i_269_99 ?_
        refine i_269_101 (x := 128) l0 ?_
        refine i_269_102 (v := Value.ref 133) hR.c128 rfl ?_
        refine i_269_105 ?_
        refine i_269_106 (x := 128) l0 ?_
        refine i_269_107 (v := Value.ref 141) hR.c128 rfl ?_
        refine i_269_110 ?_
        refine i_269_111 (x := Int32.ofInt sg) l3 ?_
        refine i_269_112 ?_
        have hobj := hR.c128
        obtain ⟨t9, w, hrun, S9, V9, V8, hR, hv8, hP⟩ := s_rat16 (d := d) (v := val) (dd := rx ^ sc.natAbs) hR hp16 hil hig hf1 hsg (uv_s) ((uv_n (by omega)).trans (uv_s)) (Nat.ne_of_gt (Nat.pow_pos (by omega))) (by omega) (by omega)
        refine i_269_113 hobj (Nat.le_of_ble_eq_true rfl) hrun ?_
        refine i_269_116 rfl ?_
        refine i_269_117 ?_
        refine ⟨rfl, S9, V9, V8, _, _, _, hR, ((nV.up (nV.up (nV.up (nV.up nV.refl (by omega)) (by omega)) (by omega)) (by omega))).trans hv8, hP, ?_, ?_⟩
        rotate_left
        · have b1 := Nat.le_trans (xbl_mono (Nat.div_le_self (ratX (S 153 16) val (rx ^ sc.natAbs)) (rx ^ sc.natAbs))) (xbl_powle val (moreOf (S 153 16) val (rx ^ sc.natAbs)).toNat)
          unfold moreOf at b1 ⊢
          omega
        have hq := ratq_b (p := S 153 16) (v := val) (D := rx ^ sc.natAbs) hval (Nat.ne_of_gt (Nat.pow_pos (by omega)))
        refine ⟨fun c => ?_, ratX (S 153 16) val (rx ^ sc.natAbs), rx ^ sc.natAbs, (moreOf (S 153 16) val (rx ^ sc.natAbs)).toNat, Nat.pow_pos (by omega), ?_, rfl, rfl, Or.inr (by omega), ?_⟩
        · rw [c, xbl_zero] at hq
          omega
        · have : 0 ≤ moreOf (S 153 16) val (rx ^ sc.natAbs) := by unfold moreOf; omega
          omega
        · unfold bNu bDe ratX
          rw [if_neg (by omega), if_neg (by omega), Nat.mul_one]
          ac_rfl
      · refine i_269_45 (x := 128) l0 ?_
        refine i_269_46 (v := Value.ref 133) hR.c128 rfl ?_
        refine i_269_49 (x := 128) l0 ?_
        refine i_269_50 (v := Value.ref 129) hR.c128 rfl ?_
        refine i_269_53 (x := 128) l0 ?_
        refine i_269_54 (v := Value.ref 141) hR.c128 rfl ?_
        obtain ⟨fs, hobj⟩ := hR.obj (h := 133) (iNw (h := 133) (by decide) (by decide) (by decide))
        obtain ⟨w, hrun, hR⟩ := r_prod (d := d + 3) (v2 := val) (v3 := rx ^ sc.natAbs) (c := 4700) hR (iNw (h := 133) (by decide) (by decide) (by decide)) (iNw (h := 129) (by decide) (by decide) (by decide)) (iNw (h := 141) (by decide) (by decide) (by decide)) (by omega) (by omega) ((uv_n (by omega)).trans ((uv_n (by omega)).trans ((uv_n (by omega)).trans (h129)))) (uv_s) rfl (by omega)
        refine i_269_57 hobj (Nat.le_of_ble_eq_true rfl) hrun ?_
        refine i_269_60 (x := 128) l0 ?_
        refine i_269_61 (v := Value.ref 129) hR.c128 rfl ?_
        refine i_269_64 (x := 128) l0 ?_
        refine i_269_65 (v := Value.ref 133) hR.c128 rfl ?_
        obtain ⟨fs, hobj⟩ := hR.obj (h := 129) (iNw (h := 129) (by decide) (by decide) (by decide))
        obtain ⟨w, hrun, hR⟩ := r_setn (d := d + 3) (v := val * (rx ^ sc.natAbs)) (c := 4700) hR (iNw (h := 129) (by decide) (by decide) (by decide)) (iNw (h := 133) (by decide) (by decide) (by decide)) (uv_s) rfl (by omega)
        refine i_269_68 hobj (Nat.le_of_ble_eq_true rfl) hrun ?_
        refine i_269_71 (x := 128) l0 ?_
        refine i_269_72 ?_
        refine i_269_74 (x := 128) l0 ?_
        refine i_269_75 (v := Value.ref 129) hR.c128 rfl ?_
        refine i_269_78 ?_
        refine i_269_79 ?_
        refine i_269_80 (x := Int32.ofInt sg) l3 ?_
        refine i_269_81 ?_
        have hobj := hR.c128
        have hx : (uv (uv (uv (uv (uv V 133 rx) 151 u) 141 (rx ^ sc.natAbs)) 133 (val * (rx ^ sc.natAbs))) 129 (val * (rx ^ sc.natAbs))) 129 = val * (rx ^ sc.natAbs) := uv_s
        obtain ⟨w, S9, V9, hrun, hR, hP⟩ := s_round (d := d + 1) (h := 129) (r := 16) (e := 0) (more := 0) (sg := sg) (mode := 0) hR (iNw (h := 129) (by decide) (by decide) (by decide)) (by decide) (by decide) (by decide) (by omega) hsg (by omega) (by decide) hp16.1 hp16.2 ⟨hil.1, Int.le_trans hil.2.1 hil.2.2⟩ ⟨Int.le_trans hil.1 hil.2.1, hil.2.2⟩ hig (Or.inr hf1) (by rw [hx]; omega)
        rw [show (16 : Int).toNat = 16 from rfl, hx, hf1] at hrun hP
        refine i_269_82 hobj (Nat.le_of_ble_eq_true rfl) hrun ?_
        refine i_269_85 rfl ?_
        refine i_269_86 ?_
        refine ⟨rfl, S9, V9, (uv (uv (uv (uv (uv V 133 rx) 151 u) 141 (rx ^ sc.natAbs)) 133 (val * (rx ^ sc.natAbs))) 129 (val * (rx ^ sc.natAbs))), 0, val * (rx ^ sc.natAbs), 0, hR, (nV.up (nV.up (nV.up (nV.up (nV.up nV.refl (by omega)) (by omega)) (by omega)) (by omega)) (by omega)), hP, ?_, by omega, by decide, by decide⟩
        refine ⟨Nat.mul_ne_zero hval (Nat.ne_of_gt (Nat.pow_pos (by omega))), val * (rx ^ sc.natAbs), 1, 0, Nat.one_pos, rfl, (Nat.div_one _).symm, by rw [Nat.mod_one]; rfl, Or.inl rfl, ?_⟩
        unfold bNu bDe
        rw [if_pos (by omega), if_pos (by omega), Nat.pow_zero]
        simp only [Nat.mul_one]
    · refine i_269_4 (x := 128) l0 ?_
      refine i_269_5 ?_
      refine i_269_7 (x := 128) l0 ?_
      refine i_269_8 (v := Value.ref 129) hR.c128 rfl ?_
      refine i_269_11 ?_
      refine i_269_12 ?_
      refine i_269_13 (x := Int32.ofInt sg) l3 ?_
      refine i_269_14 ?_
      have hobj := hR.c128
      have hx : V 129 = val := h129
      obtain ⟨w, S9, V9, hrun, hR, hP⟩ := s_round (d := d + 1) (h := 129) (r := 16) (e := 0) (more := 0) (sg := sg) (mode := 0) hR (iNw (h := 129) (by decide) (by decide) (by decide)) (by decide) (by decide) (by decide) (by omega) hsg (by omega) (by decide) hp16.1 hp16.2 ⟨hil.1, Int.le_trans hil.2.1 hil.2.2⟩ ⟨Int.le_trans hil.1 hil.2.1, hil.2.2⟩ hig (Or.inr hf1) (by rw [hx]; omega)
      rw [show (16 : Int).toNat = 16 from rfl, hx, hf1] at hrun hP
      refine i_269_15 hobj (Nat.le_of_ble_eq_true rfl) hrun ?_
      refine i_269_18 rfl ?_
      refine i_269_19 ?_
      refine ⟨rfl, S9, V9, V, 0, val, 0, hR, nV.refl, hP, ?_, by omega, by decide, by decide⟩
      refine ⟨hval, val, 1, 0, Nat.one_pos, rfl, (Nat.div_one _).symm, by rw [Nat.mod_one]; rfl, Or.inl rfl, ?_⟩
      unfold bNu bDe
      rw [if_pos (by omega), if_pos (by omega), show sc.natAbs = 0 by omega, Nat.pow_zero, Nat.pow_zero]
      simp only [Nat.mul_one]
  obtain ⟨o, w', h1, rfl, h2⟩ := (key (lv_args 0 [Value.ref 128, Value.int (Int32.ofInt (rx : Int)), Value.int (Int32.ofInt sc), Value.int (Int32.ofInt sg)]) rfl rfl rfl rfl).run
  exact ⟨w', h1, h2⟩
end
